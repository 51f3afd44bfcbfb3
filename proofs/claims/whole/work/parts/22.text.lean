/-! ===== what lay, the setters and the tape leave ===== -/
theorem xlay56 (n : Nat) : ∀ (u : xU) (x1 x2 : Int32), (s_X0_lay_L56 n u x1 x2).2 = u.2 ∧ ∀ r, r ≠ 12 → r ≠ 13 → (s_X0_lay_L56 n u x1 x2).1 r = u.1 r := by
  induction n with
  | zero => intros; exact ⟨rfl, fun _ _ _ => rfl⟩
  | succ n ih =>
    intro u x1 x2
    rw [s_X0_lay_L56]
    split
    · exact ⟨rfl, fun _ _ _ => rfl⟩
    · refine ⟨(ih _ _ _).1.trans rfl, fun r h1 h2 => ((ih _ _ _).2 r h1 h2).trans ?_⟩
      simp only [uR]
      rw [if_neg h2, if_neg h1]
theorem xlay4 (n : Nat) : ∀ (u : xU) (x1 x2 : Int32), (∀ k, k ≠ 3 → (s_X0_lay_L4 n u x1 x2).2 k = u.2 k) ∧ ∀ r, (r < 8 ∨ 13 < r) → (s_X0_lay_L4 n u x1 x2).1 r = u.1 r := by
  induction n with
  | zero => intros; exact ⟨fun _ _ => rfl, fun _ _ => rfl⟩
  | succ n ih =>
    intro u x1 x2
    rw [s_X0_lay_L4]
    split
    · refine ⟨fun k hk => ?_, fun r hr => ?_⟩
      · rw [(xlay56 _ _ _ _).1]
        simp only [uZ]
        rw [if_neg hk]
      · rw [(xlay56 _ _ _ _).2 r (by omega) (by omega)]
        rfl
    · refine ⟨fun k hk => ((ih _ _ _).1 k hk).trans ?_, fun r hr => ((ih _ _ _).2 r hr).trans ?_⟩
      · rw [(xfill _ _).1]
        rfl
      · rw [(xfill _ _).2 r (by omega) (by omega) (by omega)]
        simp only [uR]
        rw [if_neg (by omega)]
theorem xlay (u : xU) : (∀ k, k ≠ 3 → (s_X0_lay u).2 k = u.2 k) ∧ ∀ r, (r < 8 ∨ 13 < r) → (s_X0_lay u).1 r = u.1 r := xlay4 _ _ _ _
theorem xv_lay {u : xU} (h : XV (u.1 2) (u.2 1)) : XV ((s_X0_lay u).1 2) ((s_X0_lay u).2 1) := by
  rw [(xlay u).2 2 (Or.inl (by decide)), (xlay u).1 1 (by decide)]
  exact h
/-- pieces in their ranges, and how many clauses there are -/
def xK (u w : xU) : Prop := (XV (u.1 2) (u.2 1) → XV (w.1 2) (w.2 1)) ∧ ∀ k, 3 < k → w.2 k = u.2 k
theorem xK.rf (u : xU) : xK u u := ⟨fun h => h, fun _ _ => rfl⟩
theorem xK_piece (u : xU) (k l b c : Int32) : xK u (s_X5_piece u k l b c).2 := by
  unfold s_X5_piece
  split
  · exact xK.rf u
  split
  · exact xK.rf u
  split
  · exact xK.rf u
  split
  · exact xK.rf u
  split
  · rename_i f0 f1 f2 f3 h10
    refine ⟨fun h => xv_lay (xv_piece2 h (Int32.not_le.mpr h10) f0 f1 f2 f3), fun k hk => ?_⟩
    show (s_X0_lay _).2 k = _
    rw [(xlay _).1 k (by omega), s_X2_write_2, s_X2_write_2, s_X2_write_2, s_X2_write_2]
    simp only [uZ]
    rw [if_neg (by omega)]
  · exact xK.rf u
theorem xK_set (u : xU) (p w v : Int32) : xK u (s_X5_set u p w v).2 := by
  unfold s_X5_set
  split
  · exact xK.rf u
  split
  · exact xK.rf u
  rename_i hw
  split
  · split
    · exact xK.rf u
    · rename_i h3 hv
      refine ⟨fun h => xv_lay (xv_set h ⟨0, by decide, rfl⟩ hv), fun k hk => ?_⟩
      show (s_X0_lay _).2 k = _
      rw [(xlay _).1 k (by omega), s_X2_write_2]
  · split
    · exact xK.rf u
    · rename_i h3 hv
      refine ⟨fun h => xv_lay (xv_set h (xv_what hw h3) hv), fun k hk => ?_⟩
      show (s_X0_lay _).2 k = _
      rw [(xlay _).1 k (by omega), s_X2_write_2]
theorem xK_drop (u : xU) : xK u (s_X5_drop u).2 := by
  unfold s_X5_drop
  split
  · rename_i h1
    refine ⟨fun h => xv_lay (u := uZ u 1 (u.2 1 - 1)) (xv_drop h (Int32.not_lt.mpr h1)), fun k hk => ?_⟩
    show (s_X0_lay _).2 k = _
    rw [(xlay _).1 k (by omega)]
    simp only [uZ]
    rw [if_neg (by omega)]
  · exact xK.rf u
theorem xK_rule (u : xU) (r v : Int32) : xK u (s_X5_rule u r v).2 := by
  unfold s_X5_rule
  split
  · exact xK.rf u
  split
  · exact xK.rf u
  · exact ⟨fun h => h, fun _ _ => rfl⟩
/-- the tape alone -/
def tK (u w : xU) : Prop := (∀ r, (r < 27 ∨ 28 < r) → w.1 r = u.1 r) ∧ ∀ k, k < 13 → w.2 k = u.2 k
theorem tK.rf (u : xU) : tK u u := ⟨fun _ _ => rfl, fun _ _ => rfl⟩
theorem tK.tr {u v w : xU} (h : tK u v) (h2 : tK v w) : tK u w := ⟨fun r hr => (h2.1 r hr).trans (h.1 r hr), fun k hk => (h2.2 k hk).trans (h.2 k hk)⟩
theorem tK.z (u : xU) {j : Nat} (hj : 13 ≤ j) (v : Int32) : tK u (uZ u j v) := ⟨fun _ _ => rfl, fun k hk => by simp only [uZ]; rw [if_neg (by omega)]⟩
theorem tK.r (u : xU) {j : Nat} (hj : 27 ≤ j ∧ j ≤ 28) (f : Nat → Int32) : tK u (uR u j f) := ⟨fun r hr => by simp only [uR]; rw [if_neg (by omega)], fun _ _ => rfl⟩
theorem tK_rw48 (n : Nat) : ∀ (u : xU) (x1 : Int32), tK u (s_X4_readWord_L48 n u x1) := by
  induction n with
  | zero => intros; exact tK.rf _
  | succ n ih =>
    intro u x1
    rw [s_X4_readWord_L48]
    split
    · exact tK.rf u
    · split
      · exact ih _ _
      · exact ((tK.z u (by decide) _).tr (tK.z _ (by decide) _)).tr (ih _ _)
theorem tK_rw0 (n : Nat) : ∀ (u : xU), tK u (s_X4_readWord_L0 n u) := by
  induction n with
  | zero => intros; exact tK.rf _
  | succ n ih =>
    intro u
    rw [s_X4_readWord_L0]
    split
    · exact (tK.z u (by decide) _).tr (tK_rw48 _ _ _)
    · split
      · exact (tK.z u (by decide) _).tr (tK_rw48 _ _ _)
      · exact (tK.z u (by decide) _).tr (ih _)
theorem tK_rn43 (n : Nat) : ∀ (u : xU) (x1 x2 x3 : Int32), tK u (s_X4_readNumber_L43 n u x1 x2 x3) := by
  induction n with
  | zero => intros; exact tK.rf _
  | succ n ih =>
    intro u x1 x2 x3
    rw [s_X4_readNumber_L43]
    split
    · split <;> split <;> exact (tK.z u (by decide) _).tr (tK.z _ (by decide) _)
    · split
      · split <;> split <;> exact (tK.z u (by decide) _).tr (tK.z _ (by decide) _)
      · exact (tK.z u (by decide) _).tr (ih _ _ _ _)
theorem tK_rn (u : xU) : tK u (s_X4_readNumber u) := by
  unfold s_X4_readNumber
  split
  · exact (tK.z u (by decide) _).tr (tK_rn43 _ _ _ _ _)
  · exact tK_rn43 _ _ _ _ _
theorem tK_nt0 (n : Nat) : ∀ (u : xU), tK u (s_X4_nextToken_L0 n u) := by
  induction n with
  | zero => intros; exact tK.rf _
  | succ n ih =>
    intro u
    have key : ∀ w : xU, tK u w → tK u (s_X4_readNumber w) := fun w h => h.tr (tK_rn w)
    have z1 : tK u (uZ u 15 (u.2 14)) := tK.z u (by decide) _
    rw [s_X4_nextToken_L0]
    split
    · split
      · split
        · split
          · exact z1.tr (tK_rn _)
          · split
            · split
              · exact (z1.tr (tK.z _ (by decide) _)).tr (tK.z _ (by decide) _)
              · exact (z1.tr (tK.z _ (by decide) _)).tr (tK.z _ (by decide) _)
            · exact z1.tr (tK_rn _)
        · exact z1.tr (tK_rw0 _ _)
      · exact z1.tr (tK.z _ (by decide) _)
    · split
      · split
        · split
          · split
            · exact z1.tr (tK_rn _)
            · split
              · split
                · exact (z1.tr (tK.z _ (by decide) _)).tr (tK.z _ (by decide) _)
                · exact (z1.tr (tK.z _ (by decide) _)).tr (tK.z _ (by decide) _)
              · exact z1.tr (tK_rn _)
          · exact z1.tr (tK_rw0 _ _)
        · exact z1.tr (tK.z _ (by decide) _)
      · exact (tK.z u (by decide) _).tr (ih _)
theorem tK_nt (u : xU) : tK u (s_X4_nextToken u) := tK_nt0 _ _
theorem tK_rc40 (n : Nat) : ∀ (u : xU) (x1 x2 x3 : Int32), tK u (s_X4_readClause_L40 n u x1 x2 x3).2 := by
  induction n with
  | zero => intros; exact tK.rf _
  | succ n ih =>
    intro u x1 x2 x3
    rw [s_X4_readClause_L40]
    split
    · exact tK.z u (by decide) _
    · split
      · exact ((tK_nt u).tr (tK.r _ (by decide) _)).tr (ih _ _ _ _)
      · exact tK_nt u
theorem tK_rc (u : xU) : tK u (s_X4_readClause u).2 := by
  unfold s_X4_readClause
  split
  · exact ((tK_nt u).tr (tK.r _ (by decide) _)).tr (tK_rc40 _ _ _ _ _)
  · exact tK_nt u
theorem tK_fo12 (n : Nat) : ∀ (u : xU) (x1 : Int32), tK u (s_X4_faultOf_L12 n u x1).2 := by
  induction n with
  | zero => intros; exact tK.rf _
  | succ n ih =>
    intro u x1
    rw [s_X4_faultOf_L12]
    split
    · exact tK.rf u
    · split
      · exact tK_rc u
      · split
        · exact (tK_rc u).tr (tK_nt _)
        · split
          · exact ((tK_rc u).tr (tK_nt _)).tr (ih _ _)
          · exact (tK_rc u).tr (tK_nt _)
theorem tK_fo (u : xU) : tK u (s_X4_faultOf u).2 := by
  unfold s_X4_faultOf
  exact ((tK.z u (by decide) _).tr (tK.z _ (by decide) _)).tr (tK_fo12 _ _ _)
theorem xv_text {u : xU} (h : XV (u.1 2) (u.2 1)) : XV ((s_X4_faultOf u).2.1 2) ((s_X4_faultOf u).2.2 1) := by
  rw [(tK_fo u).1 2 (by decide), (tK_fo u).2 1 (by decide)]
  exact h
def s_X5_carryOut (u : xU) (p1 : Int32) : Int32 × xU :=
  if (s_X4_wordOf u p1) = 0 then
    if ((s_X5_piece u (s_X4_numberOf u p1 0) (s_X4_numberOf u p1 1) (s_X4_numberOf u p1 2) (s_X4_numberOf u p1 3)).1) < 0 then
      (0, (s_X5_piece u (s_X4_numberOf u p1 0) (s_X4_numberOf u p1 1) (s_X4_numberOf u p1 2) (s_X4_numberOf u p1 3)).2)
    else
      (1, (s_X5_piece u (s_X4_numberOf u p1 0) (s_X4_numberOf u p1 1) (s_X4_numberOf u p1 2) (s_X4_numberOf u p1 3)).2)
  else
    if (s_X4_wordOf u p1) = 1 then
      if ((s_X5_set u (s_X4_numberOf u p1 0) 1 (s_X4_numberOf u p1 1)).1) = (-1000) then
        (0, (s_X5_set u (s_X4_numberOf u p1 0) 1 (s_X4_numberOf u p1 1)).2)
      else
        (1, (s_X5_set u (s_X4_numberOf u p1 0) 1 (s_X4_numberOf u p1 1)).2)
    else
      if (s_X4_wordOf u p1) = 2 then
        if ((s_X5_set u (s_X4_numberOf u p1 0) 2 (s_X4_numberOf u p1 1)).1) = (-1000) then
          (0, (s_X5_set u (s_X4_numberOf u p1 0) 2 (s_X4_numberOf u p1 1)).2)
        else
          (1, (s_X5_set u (s_X4_numberOf u p1 0) 2 (s_X4_numberOf u p1 1)).2)
      else
        if (s_X4_wordOf u p1) = 3 then
          if (lg_cmp ((s_X5_rule u 5 (s_X4_numberOf u p1 0)).1) xNO) = 0 then
            (0, (s_X5_rule u 5 (s_X4_numberOf u p1 0)).2)
          else
            (1, (s_X5_rule u 5 (s_X4_numberOf u p1 0)).2)
        else
          if ((s_X5_drop u).1) = (-3) then
            (0, (s_X5_drop u).2)
          else
            (1, (s_X5_drop u).2)
abbrev rm_X5_carryOut : Room := { frames := 6, cells := 0, slots := 0, locals := 142 }
set_option maxHeartbeats 8000000 in
set_option maxRecDepth 100000 in
theorem c_X5_carryOut (l : Launch) (E : xG) (a : Nat → Nat) (u : xU) (p1 : Int32) (hp0 : XV (u.1 2) (u.2 1)) (hL : xOK E (LX a)) : xMd l E yX5_carryOut wsX5_carryOut rm_X5_carryOut (LX a) [.ref (a 0), .int p1] (wX E a u) (some (.int ((s_X5_carryOut u p1).1))) (wX E a ((s_X5_carryOut u p1).2)) := by
  refine xMd.of (cc := cX5_carryOut) (maxL := 4) (ret := (some .boolean)) (by decide) rfl (Nat.le_of_ble_eq_true rfl) ?_
  intro p e s m below meth c ls hAt hF hP hS hl
  obtain ⟨hx, hb, hr, hml, hown, hts, hlocks, -⟩ := hAt
  have hown : s.vm.findClass RX5 = some m.cls := hown
  have hl : lv_has ls 4 [(0, .ref (a 0)), (1, .int p1)] := hl
  have hK := hF.1
  have hA := hL.2
  change W p l e rm_X5_carryOut s m ([.ref (a 0), .int p1] : List Value).toArray below meth c s.heap [] 0 0 (xQmd E below (LX a) (some (.int ((s_X5_carryOut u p1).1))) (wX E a ((s_X5_carryOut u p1).2)) ([.ref (a 0), .int p1] : List Value).toArray s) _
  have hS : va_S (· ∈ LX a) s.heap s.heap [] := hS
  have hR : s_X5_carryOut u p1 = s_X5_carryOut u p1 := rfl
  refine lv_aload_n hx hb dX5_carryOut_0 rfl (lv_at hl 0 rfl) ?_
  refine va_get (D := xD E) (ci := 5) (v := .ref (a 25)) (C := RX5) (T := TX5) (N := 9) hx hb hts (by decide +kernel) hown hK hP 0 rfl rfl 7 (by decide) (hts (.fieldLink RX5 64 "RailOffsets" "tape" "LRailOffsets$Tape;") (by decide +kernel)) (fun _ h => h) rfl dX5_carryOut_1 ?_
  refine lv_iload_n hx hb dX5_carryOut_4 rfl (lv_at hl 1 rfl) ?_
  refine lv_iconst (v := 0) hx hb dX5_carryOut_5 rfl ?_
  refine xRoV (nL := 4) ⟨hx, hb, hml, hown, hts⟩ (c_X4_numberOf l E a u p1 0) (cwV 2 hts gX5_carryOut_X4_numberOf rfl rfl rfl ⟨rfl, hd_X4_numberOf⟩ ⟨(Nat.le_of_ble_eq_true rfl), (Nat.le_of_ble_eq_true rfl)⟩) hF hS hA hP (va_recv (q := (RX4, TX4, 9)) hK hP (ci := 4) rfl (q0 := 25) rfl) rfl hl.1 rfl (Nat.le_of_ble_eq_true rfl) ⟨(Nat.le_of_ble_eq_true rfl), (Nat.le_of_ble_eq_true rfl)⟩ dX5_carryOut_6 ?_
  refine W.eq (g2 := F0 m 9 ls [.int (s_X4_numberOf u p1 0)]) rfl ?_
  refine lv_istore_n (lv' := [(2, .int (s_X4_numberOf u p1 0)), (0, .ref (a 0)), (1, .int p1)]) hx hb dX5_carryOut_9 rfl hl (by decide) rfl (fun ls hl => ?_)
  refine lv_aload_n hx hb dX5_carryOut_10 rfl (lv_at hl 1 rfl) ?_
  refine va_get (D := xD E) (ci := 5) (v := .ref (a 25)) (C := RX5) (T := TX5) (N := 9) hx hb hts (by decide +kernel) hown hK hP 0 rfl rfl 7 (by decide) (hts (.fieldLink RX5 64 "RailOffsets" "tape" "LRailOffsets$Tape;") (by decide +kernel)) (fun _ h => h) rfl dX5_carryOut_11 ?_
  refine lv_iload_n hx hb dX5_carryOut_14 rfl (lv_at hl 2 rfl) ?_
  refine lv_iconst (v := 1) hx hb dX5_carryOut_15 rfl ?_
  refine xRoV (nL := 4) ⟨hx, hb, hml, hown, hts⟩ (c_X4_numberOf l E a u p1 1) (cwV 2 hts gX5_carryOut_X4_numberOf rfl rfl rfl ⟨rfl, hd_X4_numberOf⟩ ⟨(Nat.le_of_ble_eq_true rfl), (Nat.le_of_ble_eq_true rfl)⟩) hF hS hA hP (va_recv (q := (RX4, TX4, 9)) hK hP (ci := 4) rfl (q0 := 25) rfl) rfl hl.1 rfl (Nat.le_of_ble_eq_true rfl) ⟨(Nat.le_of_ble_eq_true rfl), (Nat.le_of_ble_eq_true rfl)⟩ dX5_carryOut_16 ?_
  refine W.eq (g2 := F0 m 19 ls [.int (s_X4_numberOf u p1 1)]) rfl ?_
  refine lv_istore_n (lv' := [(3, .int (s_X4_numberOf u p1 1)), (2, .int (s_X4_numberOf u p1 0)), (0, .ref (a 0)), (1, .int p1)]) hx hb dX5_carryOut_19 rfl hl (by decide) rfl (fun ls hl => ?_)
  refine lv_aload_n hx hb dX5_carryOut_20 rfl (lv_at hl 2 rfl) ?_
  refine va_get (D := xD E) (ci := 5) (v := .ref (a 25)) (C := RX5) (T := TX5) (N := 9) hx hb hts (by decide +kernel) hown hK hP 0 rfl rfl 7 (by decide) (hts (.fieldLink RX5 64 "RailOffsets" "tape" "LRailOffsets$Tape;") (by decide +kernel)) (fun _ h => h) rfl dX5_carryOut_21 ?_
  refine lv_iload_n hx hb dX5_carryOut_24 rfl (lv_at hl 3 rfl) ?_
  refine xRoV (nL := 4) ⟨hx, hb, hml, hown, hts⟩ (c_X4_wordOf l E a u p1) (cwV 1 hts gX5_carryOut_X4_wordOf rfl rfl rfl ⟨rfl, hd_X4_wordOf⟩ ⟨(Nat.le_of_ble_eq_true rfl), (Nat.le_of_ble_eq_true rfl)⟩) hF hS hA hP (va_recv (q := (RX4, TX4, 9)) hK hP (ci := 4) rfl (q0 := 25) rfl) rfl hl.1 rfl (Nat.le_of_ble_eq_true rfl) ⟨(Nat.le_of_ble_eq_true rfl), (Nat.le_of_ble_eq_true rfl)⟩ dX5_carryOut_25 ?_
  refine W.eq (g2 := F0 m 28 ls [.int (s_X4_wordOf u p1)]) rfl ?_
  by_cases q1 : (s_X4_wordOf u p1) = 0
  · have hR := hR.trans (if_pos q1)
    refine lv_tableIn (tgt := 60) (off := 32) hx hb dX5_carryOut_28 (by rw [q1]; decide) (by rw [q1]; decide) (by rw [q1]; rfl) rfl ?_
    refine lv_aload_n hx hb dX5_carryOut_60 rfl (lv_at hl 2 rfl) ?_
    refine lv_iload_n hx hb dX5_carryOut_61 rfl (lv_at hl 1 rfl) ?_
    refine lv_iload_n hx hb dX5_carryOut_62 rfl (lv_at hl 0 rfl) ?_
    refine lv_aload_n hx hb dX5_carryOut_63 rfl (lv_at hl 2 rfl) ?_
    refine va_get (D := xD E) (ci := 5) (v := .ref (a 25)) (C := RX5) (T := TX5) (N := 9) hx hb hts (by decide +kernel) hown hK hP 0 rfl rfl 7 (by decide) (hts (.fieldLink RX5 64 "RailOffsets" "tape" "LRailOffsets$Tape;") (by decide +kernel)) (fun _ h => h) rfl dX5_carryOut_64 ?_
    refine lv_iload_n hx hb dX5_carryOut_67 rfl (lv_at hl 3 rfl) ?_
    refine lv_iconst (v := 2) hx hb dX5_carryOut_68 rfl ?_
    refine xRoV (nL := 4) ⟨hx, hb, hml, hown, hts⟩ (c_X4_numberOf l E a u p1 2) (cwV 2 hts gX5_carryOut_X4_numberOf rfl rfl rfl ⟨rfl, hd_X4_numberOf⟩ ⟨(Nat.le_of_ble_eq_true rfl), (Nat.le_of_ble_eq_true rfl)⟩) hF hS hA hP (va_recv (q := (RX4, TX4, 9)) hK hP (ci := 4) rfl (q0 := 25) rfl) rfl hl.1 rfl (Nat.le_of_ble_eq_true rfl) ⟨(Nat.le_of_ble_eq_true rfl), (Nat.le_of_ble_eq_true rfl)⟩ dX5_carryOut_69 ?_
    refine W.eq (g2 := F0 m 72 ls [.int (s_X4_numberOf u p1 2), .int (s_X4_numberOf u p1 1), .int (s_X4_numberOf u p1 0), .ref (a 0)]) rfl ?_
    refine lv_aload_n hx hb dX5_carryOut_72 rfl (lv_at hl 2 rfl) ?_
    refine va_get (D := xD E) (ci := 5) (v := .ref (a 25)) (C := RX5) (T := TX5) (N := 9) hx hb hts (by decide +kernel) hown hK hP 0 rfl rfl 7 (by decide) (hts (.fieldLink RX5 64 "RailOffsets" "tape" "LRailOffsets$Tape;") (by decide +kernel)) (fun _ h => h) rfl dX5_carryOut_73 ?_
    refine lv_iload_n hx hb dX5_carryOut_76 rfl (lv_at hl 3 rfl) ?_
    refine lv_iconst (v := 3) hx hb dX5_carryOut_77 rfl ?_
    refine xRoV (nL := 4) ⟨hx, hb, hml, hown, hts⟩ (c_X4_numberOf l E a u p1 3) (cwV 2 hts gX5_carryOut_X4_numberOf rfl rfl rfl ⟨rfl, hd_X4_numberOf⟩ ⟨(Nat.le_of_ble_eq_true rfl), (Nat.le_of_ble_eq_true rfl)⟩) hF hS hA hP (va_recv (q := (RX4, TX4, 9)) hK hP (ci := 4) rfl (q0 := 25) rfl) rfl hl.1 rfl (Nat.le_of_ble_eq_true rfl) ⟨(Nat.le_of_ble_eq_true rfl), (Nat.le_of_ble_eq_true rfl)⟩ dX5_carryOut_78 ?_
    refine W.eq (g2 := F0 m 81 ls [.int (s_X4_numberOf u p1 3), .int (s_X4_numberOf u p1 2), .int (s_X4_numberOf u p1 1), .int (s_X4_numberOf u p1 0), .ref (a 0)]) rfl ?_
    refine xMdV (nL := 4) ⟨hx, hb, hml, hown, hts⟩ (c_X5_piece l E a u (s_X4_numberOf u p1 0) (s_X4_numberOf u p1 1) (s_X4_numberOf u p1 2) (s_X4_numberOf u p1 3) (by first | assumption | omega | decide) hL) (cwV 4 hts gX5_carryOut_X5_piece rfl rfl rfl ⟨rfl, hd_X5_piece⟩ ⟨(Nat.le_of_ble_eq_true rfl), (Nat.le_of_ble_eq_true rfl)⟩) hF hS hL.2 (fun _ h => h) hP (va_recv (q := (RX5, TX5, 9)) hK hP (ci := 5) rfl (q0 := 0) rfl) rfl hl.1 rfl (Nat.le_of_ble_eq_true rfl) ⟨(Nat.le_of_ble_eq_true rfl), (Nat.le_of_ble_eq_true rfl)⟩ dX5_carryOut_81 (fun H locs hP _ hS => ?_)
    refine W.eq (g2 := F0 m 84 ls [.int ((s_X5_piece u (s_X4_numberOf u p1 0) (s_X4_numberOf u p1 1) (s_X4_numberOf u p1 2) (s_X4_numberOf u p1 3)).1)]) rfl ?_
    refine lv_if_lt (tgt := 91) hx hb dX5_carryOut_84 rfl (fun q2 => ?_) (fun q2 => ?_)
    · have hR := hR.trans (if_pos q2)
      refine lv_iconst (v := 0) hx hb dX5_carryOut_91 rfl ?_
      have hR : s_X5_carryOut u p1 = (0, (s_X5_piece u (s_X4_numberOf u p1 0) (s_X4_numberOf u p1 1) (s_X4_numberOf u p1 2) (s_X4_numberOf u p1 3)).2) := hR
      exact W.zret (v := 0) (ty := .boolean) hx hb hr (xnb (Or.inl rfl)) (fun t ht _ => by rw [hR]; dsimp only; exact ⟨⟨rfl, by rw [ht]; exact hP⟩, hS.F ht⟩) hS.2.2 dX5_carryOut_92
    · have hR := hR.trans (if_neg q2)
      refine lv_iconst (v := 1) hx hb dX5_carryOut_87 rfl ?_
      refine lv_goto (tgt := 92) hx hb dX5_carryOut_88 rfl ?_
      have hR : s_X5_carryOut u p1 = (1, (s_X5_piece u (s_X4_numberOf u p1 0) (s_X4_numberOf u p1 1) (s_X4_numberOf u p1 2) (s_X4_numberOf u p1 3)).2) := hR
      exact W.zret (v := 1) (ty := .boolean) hx hb hr (xnb (Or.inr rfl)) (fun t ht _ => by rw [hR]; dsimp only; exact ⟨⟨rfl, by rw [ht]; exact hP⟩, hS.F ht⟩) hS.2.2 dX5_carryOut_92
  have hR := hR.trans (if_neg q1)
  by_cases q3 : (s_X4_wordOf u p1) = 1
  · have hR := hR.trans (if_pos q3)
    refine lv_tableIn (tgt := 93) (off := 65) hx hb dX5_carryOut_28 (by rw [q3]; decide) (by rw [q3]; decide) (by rw [q3]; rfl) rfl ?_
    refine lv_aload_n hx hb dX5_carryOut_93 rfl (lv_at hl 2 rfl) ?_
    refine lv_iload_n hx hb dX5_carryOut_94 rfl (lv_at hl 1 rfl) ?_
    refine lv_iconst (v := 1) hx hb dX5_carryOut_95 rfl ?_
    refine lv_iload_n hx hb dX5_carryOut_96 rfl (lv_at hl 0 rfl) ?_
    refine xMdV (nL := 4) ⟨hx, hb, hml, hown, hts⟩ (c_X5_set l E a u (s_X4_numberOf u p1 0) 1 (s_X4_numberOf u p1 1) (by first | assumption | omega | decide) hL) (cwV 3 hts gX5_carryOut_X5_set rfl rfl rfl ⟨rfl, hd_X5_set⟩ ⟨(Nat.le_of_ble_eq_true rfl), (Nat.le_of_ble_eq_true rfl)⟩) hF hS hL.2 (fun _ h => h) hP (va_recv (q := (RX5, TX5, 9)) hK hP (ci := 5) rfl (q0 := 0) rfl) rfl hl.1 rfl (Nat.le_of_ble_eq_true rfl) ⟨(Nat.le_of_ble_eq_true rfl), (Nat.le_of_ble_eq_true rfl)⟩ dX5_carryOut_97 (fun H locs hP _ hS => ?_)
    refine W.eq (g2 := F0 m 100 ls [.int ((s_X5_set u (s_X4_numberOf u p1 0) 1 (s_X4_numberOf u p1 1)).1)]) rfl ?_
    refine lv_sipush (v := (-1000)) hx hb dX5_carryOut_100 rfl ?_
    refine lv_icmp_eq (tgt := 110) hx hb dX5_carryOut_103 rfl (fun q4 => ?_) (fun q4 => ?_)
    · have hR := hR.trans (if_pos q4)
      refine lv_iconst (v := 0) hx hb dX5_carryOut_110 rfl ?_
      have hR : s_X5_carryOut u p1 = (0, (s_X5_set u (s_X4_numberOf u p1 0) 1 (s_X4_numberOf u p1 1)).2) := hR
      exact W.zret (v := 0) (ty := .boolean) hx hb hr (xnb (Or.inl rfl)) (fun t ht _ => by rw [hR]; dsimp only; exact ⟨⟨rfl, by rw [ht]; exact hP⟩, hS.F ht⟩) hS.2.2 dX5_carryOut_111
    · have hR := hR.trans (if_neg q4)
      refine lv_iconst (v := 1) hx hb dX5_carryOut_106 rfl ?_
      refine lv_goto (tgt := 111) hx hb dX5_carryOut_107 rfl ?_
      have hR : s_X5_carryOut u p1 = (1, (s_X5_set u (s_X4_numberOf u p1 0) 1 (s_X4_numberOf u p1 1)).2) := hR
      exact W.zret (v := 1) (ty := .boolean) hx hb hr (xnb (Or.inr rfl)) (fun t ht _ => by rw [hR]; dsimp only; exact ⟨⟨rfl, by rw [ht]; exact hP⟩, hS.F ht⟩) hS.2.2 dX5_carryOut_111
  have hR := hR.trans (if_neg q3)
  by_cases q5 : (s_X4_wordOf u p1) = 2
  · have hR := hR.trans (if_pos q5)
    refine lv_tableIn (tgt := 112) (off := 84) hx hb dX5_carryOut_28 (by rw [q5]; decide) (by rw [q5]; decide) (by rw [q5]; rfl) rfl ?_
    refine lv_aload_n hx hb dX5_carryOut_112 rfl (lv_at hl 2 rfl) ?_
    refine lv_iload_n hx hb dX5_carryOut_113 rfl (lv_at hl 1 rfl) ?_
    refine lv_iconst (v := 2) hx hb dX5_carryOut_114 rfl ?_
    refine lv_iload_n hx hb dX5_carryOut_115 rfl (lv_at hl 0 rfl) ?_
    refine xMdV (nL := 4) ⟨hx, hb, hml, hown, hts⟩ (c_X5_set l E a u (s_X4_numberOf u p1 0) 2 (s_X4_numberOf u p1 1) (by first | assumption | omega | decide) hL) (cwV 3 hts gX5_carryOut_X5_set rfl rfl rfl ⟨rfl, hd_X5_set⟩ ⟨(Nat.le_of_ble_eq_true rfl), (Nat.le_of_ble_eq_true rfl)⟩) hF hS hL.2 (fun _ h => h) hP (va_recv (q := (RX5, TX5, 9)) hK hP (ci := 5) rfl (q0 := 0) rfl) rfl hl.1 rfl (Nat.le_of_ble_eq_true rfl) ⟨(Nat.le_of_ble_eq_true rfl), (Nat.le_of_ble_eq_true rfl)⟩ dX5_carryOut_116 (fun H locs hP _ hS => ?_)
    refine W.eq (g2 := F0 m 119 ls [.int ((s_X5_set u (s_X4_numberOf u p1 0) 2 (s_X4_numberOf u p1 1)).1)]) rfl ?_
    refine lv_sipush (v := (-1000)) hx hb dX5_carryOut_119 rfl ?_
    refine lv_icmp_eq (tgt := 129) hx hb dX5_carryOut_122 rfl (fun q6 => ?_) (fun q6 => ?_)
    · have hR := hR.trans (if_pos q6)
      refine lv_iconst (v := 0) hx hb dX5_carryOut_129 rfl ?_
      have hR : s_X5_carryOut u p1 = (0, (s_X5_set u (s_X4_numberOf u p1 0) 2 (s_X4_numberOf u p1 1)).2) := hR
      exact W.zret (v := 0) (ty := .boolean) hx hb hr (xnb (Or.inl rfl)) (fun t ht _ => by rw [hR]; dsimp only; exact ⟨⟨rfl, by rw [ht]; exact hP⟩, hS.F ht⟩) hS.2.2 dX5_carryOut_130
    · have hR := hR.trans (if_neg q6)
      refine lv_iconst (v := 1) hx hb dX5_carryOut_125 rfl ?_
      refine lv_goto (tgt := 130) hx hb dX5_carryOut_126 rfl ?_
      have hR : s_X5_carryOut u p1 = (1, (s_X5_set u (s_X4_numberOf u p1 0) 2 (s_X4_numberOf u p1 1)).2) := hR
      exact W.zret (v := 1) (ty := .boolean) hx hb hr (xnb (Or.inr rfl)) (fun t ht _ => by rw [hR]; dsimp only; exact ⟨⟨rfl, by rw [ht]; exact hP⟩, hS.F ht⟩) hS.2.2 dX5_carryOut_130
  have hR := hR.trans (if_neg q5)
  by_cases q7 : (s_X4_wordOf u p1) = 3
  · have hR := hR.trans (if_pos q7)
    refine lv_tableIn (tgt := 131) (off := 103) hx hb dX5_carryOut_28 (by rw [q7]; decide) (by rw [q7]; decide) (by rw [q7]; rfl) rfl ?_
    refine lv_aload_n hx hb dX5_carryOut_131 rfl (lv_at hl 2 rfl) ?_
    refine lv_iconst (v := 5) hx hb dX5_carryOut_132 rfl ?_
    refine lv_iload_n hx hb dX5_carryOut_133 rfl (lv_at hl 1 rfl) ?_
    refine xMdV (nL := 4) ⟨hx, hb, hml, hown, hts⟩ (c_X5_rule l E a u 5 (s_X4_numberOf u p1 0) hL) (cwV 2 hts gX5_carryOut_X5_rule rfl rfl rfl ⟨rfl, hd_X5_rule⟩ ⟨(Nat.le_of_ble_eq_true rfl), (Nat.le_of_ble_eq_true rfl)⟩) hF hS hL.2 (fun _ h => h) hP (va_recv (q := (RX5, TX5, 9)) hK hP (ci := 5) rfl (q0 := 0) rfl) rfl hl.1 rfl (Nat.le_of_ble_eq_true rfl) ⟨(Nat.le_of_ble_eq_true rfl), (Nat.le_of_ble_eq_true rfl)⟩ dX5_carryOut_134 (fun H locs hP _ hS => ?_)
    refine W.eq (g2 := F0 m 137 ls [.long ((s_X5_rule u 5 (s_X4_numberOf u p1 0)).1)]) rfl ?_
    refine lv_ldc2 (v := xNO) hx hb hown (hts (.constantLong RX5 112 (-9223372036854775808)) (by decide +kernel)) dX5_carryOut_137 ?_
    refine W.lcmp hx hb dX5_carryOut_140 ?_
    refine lv_if_eq (tgt := 148) hx hb dX5_carryOut_141 rfl (fun q8 => ?_) (fun q8 => ?_)
    · have hR := hR.trans (if_pos q8)
      refine lv_iconst (v := 0) hx hb dX5_carryOut_148 rfl ?_
      have hR : s_X5_carryOut u p1 = (0, (s_X5_rule u 5 (s_X4_numberOf u p1 0)).2) := hR
      exact W.zret (v := 0) (ty := .boolean) hx hb hr (xnb (Or.inl rfl)) (fun t ht _ => by rw [hR]; dsimp only; exact ⟨⟨rfl, by rw [ht]; exact hP⟩, hS.F ht⟩) hS.2.2 dX5_carryOut_149
    · have hR := hR.trans (if_neg q8)
      refine lv_iconst (v := 1) hx hb dX5_carryOut_144 rfl ?_
      refine lv_goto (tgt := 149) hx hb dX5_carryOut_145 rfl ?_
      have hR : s_X5_carryOut u p1 = (1, (s_X5_rule u 5 (s_X4_numberOf u p1 0)).2) := hR
      exact W.zret (v := 1) (ty := .boolean) hx hb hr (xnb (Or.inr rfl)) (fun t ht _ => by rw [hR]; dsimp only; exact ⟨⟨rfl, by rw [ht]; exact hP⟩, hS.F ht⟩) hS.2.2 dX5_carryOut_149
  have hR := hR.trans (if_neg q7)
  refine lv_tableOut (tgt := 150) hx hb dX5_carryOut_28 (xsw (s_X4_wordOf u p1) (fun j h1 h2 h3 => by
    have h9 : j = 0 ∨ j = 1 ∨ j = 2 ∨ j = 3 ∨ False := by omega
    rcases h9 with rfl | rfl | rfl | rfl | h9
    · exact q1 (Int32.toInt_inj.mp h3)
    · exact q3 (Int32.toInt_inj.mp h3)
    · exact q5 (Int32.toInt_inj.mp h3)
    · exact q7 (Int32.toInt_inj.mp h3)
    · exact h9)) rfl ?_
  refine lv_aload_n hx hb dX5_carryOut_150 rfl (lv_at hl 2 rfl) ?_
  refine xMdV (nL := 4) ⟨hx, hb, hml, hown, hts⟩ (c_X5_drop l E a u  (by first | assumption | omega | decide) hL) (cwV 0 hts gX5_carryOut_X5_drop rfl rfl rfl ⟨rfl, hd_X5_drop⟩ ⟨(Nat.le_of_ble_eq_true rfl), (Nat.le_of_ble_eq_true rfl)⟩) hF hS hL.2 (fun _ h => h) hP (va_recv (q := (RX5, TX5, 9)) hK hP (ci := 5) rfl (q0 := 0) rfl) rfl hl.1 rfl (Nat.le_of_ble_eq_true rfl) ⟨(Nat.le_of_ble_eq_true rfl), (Nat.le_of_ble_eq_true rfl)⟩ dX5_carryOut_151 (fun H locs hP _ hS => ?_)
  refine W.eq (g2 := F0 m 154 ls [.int ((s_X5_drop u).1)]) rfl ?_
  refine lv_bipush (v := (-3)) hx hb dX5_carryOut_154 rfl ?_
  refine lv_icmp_eq (tgt := 163) hx hb dX5_carryOut_156 rfl (fun q9 => ?_) (fun q9 => ?_)
  · have hR := hR.trans (if_pos q9)
    refine lv_iconst (v := 0) hx hb dX5_carryOut_163 rfl ?_
    have hR : s_X5_carryOut u p1 = (0, (s_X5_drop u).2) := hR
    exact W.zret (v := 0) (ty := .boolean) hx hb hr (xnb (Or.inl rfl)) (fun t ht _ => by rw [hR]; dsimp only; exact ⟨⟨rfl, by rw [ht]; exact hP⟩, hS.F ht⟩) hS.2.2 dX5_carryOut_164
  · have hR := hR.trans (if_neg q9)
    refine lv_iconst (v := 1) hx hb dX5_carryOut_159 rfl ?_
    refine lv_goto (tgt := 164) hx hb dX5_carryOut_160 rfl ?_
    have hR : s_X5_carryOut u p1 = (1, (s_X5_drop u).2) := hR
    exact W.zret (v := 1) (ty := .boolean) hx hb hr (xnb (Or.inr rfl)) (fun t ht _ => by rw [hR]; dsimp only; exact ⟨⟨rfl, by rw [ht]; exact hP⟩, hS.F ht⟩) hS.2.2 dX5_carryOut_164
theorem xK_carry (u : xU) (c : Int32) : xK u (s_X5_carryOut u c).2 := by
  unfold s_X5_carryOut
  split
  · split <;> exact xK_piece _ _ _ _ _
  split
  · split <;> exact xK_set _ _ _ _
  split
  · split <;> exact xK_set _ _ _ _
  split
  · split <;> exact xK_rule _ _ _
  · split <;> exact xK_drop _
def s_X5_text_L30 : Nat → xU → Int32 → Int32 → Int32 → Int32 × xU
  | 0, u, _, _, _ => (0, u)
  | n + 1, u, x1, x2, x3 =>
    if (u.2 13) ≤ x3 then
      (x2, u)
    else
      if ((s_X5_carryOut u x3).1) = 0 then
        s_X5_text_L30 n ((s_X5_carryOut u x3).2) x1 x2 (x3 + 1)
      else
        s_X5_text_L30 n ((s_X5_carryOut u x3).2) x1 (x2 + 1) (x3 + 1)
def s_X5_text (u : xU) : Int32 × xU :=
  if ((s_X4_faultOf u).1) = (-1) then
    s_X5_text_L30 ((((uZ ((s_X4_faultOf u).2) 12 0).2 13).toInt - (0 : Int32).toInt).toNat + 1) (uZ ((s_X4_faultOf u).2) 12 0) ((s_X4_faultOf u).1) 0 0
  else
    ((-100) - ((s_X4_faultOf u).1), uZ ((s_X4_faultOf u).2) 12 0)
abbrev rm_X5_text : Room := { frames := 10, cells := 0, slots := 0, locals := 258 }
set_option maxHeartbeats 8000000 in
set_option maxRecDepth 100000 in
theorem c_X5_text (l : Launch) (E : xG) (a : Nat → Nat) (u : xU)  (hp0 : XV (u.1 2) (u.2 1)) (hL : xOK E (LX a)) : xMd l E yX5_text wsX5_text rm_X5_text (LX a) [.ref (a 0)] (wX E a u) (some (.int ((s_X5_text u).1))) (wX E a ((s_X5_text u).2)) := by
  refine xMd.of (cc := cX5_text) (maxL := 4) (ret := (some .int)) (by decide) rfl (Nat.le_of_ble_eq_true rfl) ?_
  intro p e s m below meth c ls hAt hF hP hS hl
  obtain ⟨hx, hb, hr, hml, hown, hts, hlocks, -⟩ := hAt
  have hown : s.vm.findClass RX5 = some m.cls := hown
  have hl : lv_has ls 4 [(0, .ref (a 0))] := hl
  have hK := hF.1
  have hA := hL.2
  change W p l e rm_X5_text s m ([.ref (a 0)] : List Value).toArray below meth c s.heap [] 0 0 (xQmd E below (LX a) (some (.int ((s_X5_text u).1))) (wX E a ((s_X5_text u).2)) ([.ref (a 0)] : List Value).toArray s) _
  have hS : va_S (· ∈ LX a) s.heap s.heap [] := hS
  have hR : s_X5_text u = s_X5_text u := rfl
  refine lv_aload_n hx hb dX5_text_0 rfl (lv_at hl 0 rfl) ?_
  refine va_get (D := xD E) (ci := 5) (v := .ref (a 25)) (C := RX5) (T := TX5) (N := 9) hx hb hts (by decide +kernel) hown hK hP 0 rfl rfl 7 (by decide) (hts (.fieldLink RX5 64 "RailOffsets" "tape" "LRailOffsets$Tape;") (by decide +kernel)) (fun _ h => h) rfl dX5_text_1 ?_
  refine xMdV (nL := 4) ⟨hx, hb, hml, hown, hts⟩ (c_X4_faultOf l E a u  hL) (cwV 0 hts gX5_text_X4_faultOf rfl rfl rfl ⟨rfl, hd_X4_faultOf⟩ ⟨(Nat.le_of_ble_eq_true rfl), (Nat.le_of_ble_eq_true rfl)⟩) hF hS hL.2 (fun _ h => h) hP (va_recv (q := (RX4, TX4, 9)) hK hP (ci := 4) rfl (q0 := 25) rfl) rfl hl.1 rfl (Nat.le_of_ble_eq_true rfl) ⟨(Nat.le_of_ble_eq_true rfl), (Nat.le_of_ble_eq_true rfl)⟩ dX5_text_4 (fun H locs hP _ hS => ?_)
  refine W.eq (g2 := F0 m 7 ls [.int ((s_X4_faultOf u).1)]) rfl ?_
  refine lv_istore_n (lv' := [(1, .int ((s_X4_faultOf u).1)), (0, .ref (a 0))]) hx hb dX5_text_7 rfl hl (by decide) rfl (fun ls hl => ?_)
  refine lv_aload_n hx hb dX5_text_8 rfl (lv_at hl 1 rfl) ?_
  refine va_get (D := xD E) (ci := 5) (v := .ref (a 25)) (C := RX5) (T := TX5) (N := 9) hx hb hts (by decide +kernel) hown hK hP 0 rfl rfl 7 (by decide) (hts (.fieldLink RX5 64 "RailOffsets" "tape" "LRailOffsets$Tape;") (by decide +kernel)) (fun _ h => h) rfl dX5_text_9 ?_
  refine lv_iconst (v := 0) hx hb dX5_text_12 rfl ?_
  refine va_put (D := xD E) (ci := 4) (v := .int 0) (ty := .int) (C := RX4) (T := TX4) (N := 9) hx hb hts (by decide +kernel) tyX4 tyX4_ok nmX4 hown hK hP (xD_of (ws := wX E a ((s_X4_faultOf u).2)) (A := (· ∈ LX a)) hL.1 (fun _ h => h)) hS 25 rfl rfl 3 (by decide) (hts (.fieldLink RX5 281 "RailOffsets$Tape" "size" "I") (by decide +kernel)) (fun _ h => h) rfl (by decide +kernel) rfl rfl (Nat.le_of_ble_eq_true rfl) dX5_text_13 (fun H locs hP _ hS => ?_)
  have hP : va_P (xD E) vwCl (wX E a (uZ ((s_X4_faultOf u).2) 12 0)) H := hP
  refine lv_iload_n hx hb dX5_text_16 rfl (lv_at hl 0 rfl) ?_
  refine lv_iconst (v := (-1)) hx hb dX5_text_17 rfl ?_
  refine lv_icmp_eq (tgt := 26) hx hb dX5_text_18 rfl (fun q1 => ?_) (fun q1 => ?_)
  · have hR := hR.trans (if_pos q1)
    refine lv_iconst (v := 0) hx hb dX5_text_26 rfl ?_
    refine lv_istore_n (lv' := [(2, .int 0), (1, .int ((s_X4_faultOf u).1)), (0, .ref (a 0))]) hx hb dX5_text_27 rfl hl (by decide) rfl (fun ls hl => ?_)
    refine lv_iconst (v := 0) hx hb dX5_text_28 rfl ?_
    refine lv_istore_n (lv' := [(3, .int 0), (2, .int 0), (1, .int ((s_X4_faultOf u).1)), (0, .ref (a 0))]) hx hb dX5_text_29 rfl hl (by decide) rfl (fun ls hl => ?_)
    have L30 : ∀ (n30 : Nat) (u30 : xU) (x2 : Int32) (x3 : Int32) (H : Heap) (locs : List Loc) (ls : Array Slot), (XV (u30.1 2) (u30.2 1)) → ((u30.2 13).toInt - x3.toInt).toNat < n30 → s_X5_text u = s_X5_text_L30 n30 u30 ((s_X4_faultOf u).1) x2 x3 → lv_has ls 4 [(3, .int x3), (2, .int x2), (1, .int ((s_X4_faultOf u).1)), (0, .ref (a 0))] → va_P (xD E) vwCl (wX E a u30) H → va_S (· ∈ LX a) s.heap H locs → W p l e rm_X5_text s m ([.ref (a 0)] : List Value).toArray below meth c H locs 0 0 (xQmd E below (LX a) (some (.int ((s_X5_text u).1))) (wX E a ((s_X5_text u).2)) ([.ref (a 0)] : List Value).toArray s) (F0 m 30 ls []) := by
      intro n30
      induction n30 with
      | zero => intro u30 x2 x3 H locs ls hI0 hM30 hR hl hP hS; exact absurd hM30 (Nat.not_lt_zero _)
      | succ n30 ih30 =>
        intro u30 x2 x3 H locs ls hI0 hM30 hR hl hP hS
        refine lv_iload_n hx hb dX5_text_30 rfl (lv_at hl 0 rfl) ?_
        refine lv_aload_n hx hb dX5_text_31 rfl (lv_at hl 3 rfl) ?_
        refine va_get (D := xD E) (ci := 5) (v := .ref (a 25)) (C := RX5) (T := TX5) (N := 9) hx hb hts (by decide +kernel) hown hK hP 0 rfl rfl 7 (by decide) (hts (.fieldLink RX5 64 "RailOffsets" "tape" "LRailOffsets$Tape;") (by decide +kernel)) (fun _ h => h) rfl dX5_text_32 ?_
        refine va_get (D := xD E) (ci := 4) (v := .int (u30.2 13)) (C := RX4) (T := TX4) (N := 9) hx hb hts (by decide +kernel) hown hK hP 25 rfl rfl 4 (by decide) (hts (.fieldLink RX5 288 "RailOffsets$Tape" "clauses" "I") (by decide +kernel)) (fun _ h => h) rfl dX5_text_35 ?_
        refine lv_icmp_ge (tgt := 58) hx hb dX5_text_38 rfl (fun q2 => ?_) (fun q2 => ?_)
        · have hR := hR.trans (if_pos q2)
          refine lv_iload_n hx hb dX5_text_58 rfl (lv_at hl 1 rfl) ?_
          have hR : s_X5_text u = (x2, u30) := hR
          exact W.iret (v := x2) hx hb hr (fun t ht _ => by rw [hR]; dsimp only; exact ⟨⟨rfl, by rw [ht]; exact hP⟩, hS.F ht⟩) hS.2.2 dX5_text_59
        · have hR := hR.trans (if_neg q2)
          refine lv_aload_n hx hb dX5_text_41 rfl (lv_at hl 3 rfl) ?_
          refine lv_iload_n hx hb dX5_text_42 rfl (lv_at hl 0 rfl) ?_
          refine xMdV (nL := 4) ⟨hx, hb, hml, hown, hts⟩ (c_X5_carryOut l E a u30 x3 (hI0) hL) (cwV 1 hts gX5_text_X5_carryOut rfl rfl rfl ⟨rfl, hd_X5_carryOut⟩ ⟨(Nat.le_of_ble_eq_true rfl), (Nat.le_of_ble_eq_true rfl)⟩) hF hS hL.2 (fun _ h => h) hP (va_recv (q := (RX5, TX5, 9)) hK hP (ci := 5) rfl (q0 := 0) rfl) rfl hl.1 rfl (Nat.le_of_ble_eq_true rfl) ⟨(Nat.le_of_ble_eq_true rfl), (Nat.le_of_ble_eq_true rfl)⟩ dX5_text_43 (fun H locs hP _ hS => ?_)
          refine W.eq (g2 := F0 m 46 ls [.int ((s_X5_carryOut u30 x3).1)]) rfl ?_
          refine lv_if_eq (tgt := 52) hx hb dX5_text_46 rfl (fun q3 => ?_) (fun q3 => ?_)
          · have hR := hR.trans (if_pos q3)
            refine lv_iinc (k := 0) (v := x3 + 1) (lv' := [(3, .int (x3 + 1)), (2, .int x2), (1, .int ((s_X4_faultOf u).1)), (0, .ref (a 0))]) hx hb dX5_text_52 hl rfl rfl (by decide) rfl (fun ls hl => ?_)
            refine lv_goto (tgt := 30) hx hb dX5_text_55 rfl ?_
            exact ih30 ((s_X5_carryOut u30 x3).2) x2 (x3 + 1) _ _ _ ((xK_carry _ _).1 hI0) (Nat.lt_of_lt_of_le (by rw [(xK_carry _ _).2 13 (by decide)]; exact xupc q2) (Nat.le_of_lt_succ hM30)) hR (lv_sub hl [0, 1, 2, 3] rfl) hP hS
          · have hR := hR.trans (if_neg q3)
            refine lv_iinc (k := 1) (v := x2 + 1) (lv' := [(2, .int (x2 + 1)), (3, .int x3), (1, .int ((s_X4_faultOf u).1)), (0, .ref (a 0))]) hx hb dX5_text_49 hl rfl rfl (by decide) rfl (fun ls hl => ?_)
            refine lv_iinc (k := 1) (v := x3 + 1) (lv' := [(3, .int (x3 + 1)), (2, .int (x2 + 1)), (1, .int ((s_X4_faultOf u).1)), (0, .ref (a 0))]) hx hb dX5_text_52 hl rfl rfl (by decide) rfl (fun ls hl => ?_)
            refine lv_goto (tgt := 30) hx hb dX5_text_55 rfl ?_
            exact ih30 ((s_X5_carryOut u30 x3).2) (x2 + 1) (x3 + 1) _ _ _ ((xK_carry _ _).1 hI0) (Nat.lt_of_lt_of_le (by rw [(xK_carry _ _).2 13 (by decide)]; exact xupc q2) (Nat.le_of_lt_succ hM30)) hR (lv_sub hl [0, 1, 2, 3] rfl) hP hS
    exact L30 ((((uZ ((s_X4_faultOf u).2) 12 0).2 13).toInt - (0 : Int32).toInt).toNat + 1) (uZ ((s_X4_faultOf u).2) 12 0) 0 0 _ _ ls (by exact xv_text hp0) (Nat.lt_succ_self _) hR hl hP hS
  · have hR := hR.trans (if_neg q1)
    refine lv_bipush (v := (-100)) hx hb dX5_text_21 rfl ?_
    refine lv_iload_n hx hb dX5_text_23 rfl (lv_at hl 0 rfl) ?_
    refine lv_isub hx hb dX5_text_24 ?_
    have hR : s_X5_text u = ((-100) - ((s_X4_faultOf u).1), uZ ((s_X4_faultOf u).2) 12 0) := hR
    exact W.iret (v := (-100) - ((s_X4_faultOf u).1)) hx hb hr (fun t ht _ => by rw [hR]; dsimp only; exact ⟨⟨rfl, by rw [ht]; exact hP⟩, hS.F ht⟩) hS.2.2 dX5_text_25
def s_X5_load_L64_0 : Nat → xU → Int32 → Int32 → Int32 → Int32 → Int32 → Int32 → Int32 × xU
  | 0, u, _, _, _, _, _, _ => (0, u)
  | n + 1, u, x1, x2, x3, x4, x6, x7 =>
    if x4 ≤ x7 then
      (x6, u)
    else
      if (lg_cmp (x3.toInt64 + (4 * x7.toInt64)) 0) < 0 then
        ((-12), u)
      else
        if (lg_cmp ((x3.toInt64 + (4 * x7.toInt64)) + 4) ((u.2 8).toInt64)) ≤ 0 then
          if ((s_X5_piece u (s_X3_read (uS u 0) ((x3.toInt64 + (4 * x7.toInt64)).toInt32)) (s_X3_read (uS u 0) (((x3.toInt64 + (4 * x7.toInt64)).toInt32) + 1)) (s_X3_read (uS u 0) (((x3.toInt64 + (4 * x7.toInt64)).toInt32) + 2)) (s_X3_read (uS u 0) (((x3.toInt64 + (4 * x7.toInt64)).toInt32) + 3))).1) < 0 then
            s_X5_load_L64_0 n ((s_X5_piece u (s_X3_read (uS u 0) ((x3.toInt64 + (4 * x7.toInt64)).toInt32)) (s_X3_read (uS u 0) (((x3.toInt64 + (4 * x7.toInt64)).toInt32) + 1)) (s_X3_read (uS u 0) (((x3.toInt64 + (4 * x7.toInt64)).toInt32) + 2)) (s_X3_read (uS u 0) (((x3.toInt64 + (4 * x7.toInt64)).toInt32) + 3))).2) x1 x2 x3 x4 x6 (x7 + 1)
          else
            s_X5_load_L64_0 n ((s_X5_piece u (s_X3_read (uS u 0) ((x3.toInt64 + (4 * x7.toInt64)).toInt32)) (s_X3_read (uS u 0) (((x3.toInt64 + (4 * x7.toInt64)).toInt32) + 1)) (s_X3_read (uS u 0) (((x3.toInt64 + (4 * x7.toInt64)).toInt32) + 2)) (s_X3_read (uS u 0) (((x3.toInt64 + (4 * x7.toInt64)).toInt32) + 3))).2) x1 x2 x3 x4 (x6 + 1) (x7 + 1)
        else
          ((-12), u)
def s_X5_load_L64_1 : Nat → xU → Int32 → Int32 → Int32 → Int32 → Int32 → Int32 → Int32 × xU
  | 0, u, _, _, _, _, _, _ => (0, u)
  | n + 1, u, x1, x2, x3, x4, x6, x7 =>
    if x4 ≤ x7 then
      (x6, u)
    else
      if (lg_cmp (x3.toInt64 + (4 * x7.toInt64)) 0) < 0 then
        ((-12), u)
      else
        if (lg_cmp ((x3.toInt64 + (4 * x7.toInt64)) + 4) ((u.2 9).toInt64)) ≤ 0 then
          if ((s_X5_piece u (s_X3_read (uS u 1) ((x3.toInt64 + (4 * x7.toInt64)).toInt32)) (s_X3_read (uS u 1) (((x3.toInt64 + (4 * x7.toInt64)).toInt32) + 1)) (s_X3_read (uS u 1) (((x3.toInt64 + (4 * x7.toInt64)).toInt32) + 2)) (s_X3_read (uS u 1) (((x3.toInt64 + (4 * x7.toInt64)).toInt32) + 3))).1) < 0 then
            s_X5_load_L64_1 n ((s_X5_piece u (s_X3_read (uS u 1) ((x3.toInt64 + (4 * x7.toInt64)).toInt32)) (s_X3_read (uS u 1) (((x3.toInt64 + (4 * x7.toInt64)).toInt32) + 1)) (s_X3_read (uS u 1) (((x3.toInt64 + (4 * x7.toInt64)).toInt32) + 2)) (s_X3_read (uS u 1) (((x3.toInt64 + (4 * x7.toInt64)).toInt32) + 3))).2) x1 x2 x3 x4 x6 (x7 + 1)
          else
            s_X5_load_L64_1 n ((s_X5_piece u (s_X3_read (uS u 1) ((x3.toInt64 + (4 * x7.toInt64)).toInt32)) (s_X3_read (uS u 1) (((x3.toInt64 + (4 * x7.toInt64)).toInt32) + 1)) (s_X3_read (uS u 1) (((x3.toInt64 + (4 * x7.toInt64)).toInt32) + 2)) (s_X3_read (uS u 1) (((x3.toInt64 + (4 * x7.toInt64)).toInt32) + 3))).2) x1 x2 x3 x4 (x6 + 1) (x7 + 1)
        else
          ((-12), u)
def s_X5_load_L64_2 : Nat → xU → Int32 → Int32 → Int32 → Int32 → Int32 → Int32 → Int32 × xU
  | 0, u, _, _, _, _, _, _ => (0, u)
  | n + 1, u, x1, x2, x3, x4, x6, x7 =>
    if x4 ≤ x7 then
      (x6, u)
    else
      if (lg_cmp (x3.toInt64 + (4 * x7.toInt64)) 0) < 0 then
        ((-12), u)
      else
        if (lg_cmp ((x3.toInt64 + (4 * x7.toInt64)) + 4) ((u.2 10).toInt64)) ≤ 0 then
          if ((s_X5_piece u (s_X3_read (uS u 2) ((x3.toInt64 + (4 * x7.toInt64)).toInt32)) (s_X3_read (uS u 2) (((x3.toInt64 + (4 * x7.toInt64)).toInt32) + 1)) (s_X3_read (uS u 2) (((x3.toInt64 + (4 * x7.toInt64)).toInt32) + 2)) (s_X3_read (uS u 2) (((x3.toInt64 + (4 * x7.toInt64)).toInt32) + 3))).1) < 0 then
            s_X5_load_L64_2 n ((s_X5_piece u (s_X3_read (uS u 2) ((x3.toInt64 + (4 * x7.toInt64)).toInt32)) (s_X3_read (uS u 2) (((x3.toInt64 + (4 * x7.toInt64)).toInt32) + 1)) (s_X3_read (uS u 2) (((x3.toInt64 + (4 * x7.toInt64)).toInt32) + 2)) (s_X3_read (uS u 2) (((x3.toInt64 + (4 * x7.toInt64)).toInt32) + 3))).2) x1 x2 x3 x4 x6 (x7 + 1)
          else
            s_X5_load_L64_2 n ((s_X5_piece u (s_X3_read (uS u 2) ((x3.toInt64 + (4 * x7.toInt64)).toInt32)) (s_X3_read (uS u 2) (((x3.toInt64 + (4 * x7.toInt64)).toInt32) + 1)) (s_X3_read (uS u 2) (((x3.toInt64 + (4 * x7.toInt64)).toInt32) + 2)) (s_X3_read (uS u 2) (((x3.toInt64 + (4 * x7.toInt64)).toInt32) + 3))).2) x1 x2 x3 x4 (x6 + 1) (x7 + 1)
        else
          ((-12), u)
def s_X5_load_L64_3 : Nat → xU → Int32 → Int32 → Int32 → Int32 → Int32 → Int32 → Int32 × xU
  | 0, u, _, _, _, _, _, _ => (0, u)
  | n + 1, u, x1, x2, x3, x4, x6, x7 =>
    if x4 ≤ x7 then
      (x6, u)
    else
      if (lg_cmp (x3.toInt64 + (4 * x7.toInt64)) 0) < 0 then
        ((-12), u)
      else
        if (lg_cmp ((x3.toInt64 + (4 * x7.toInt64)) + 4) ((u.2 11).toInt64)) ≤ 0 then
          if ((s_X5_piece u (s_X3_read (uS u 3) ((x3.toInt64 + (4 * x7.toInt64)).toInt32)) (s_X3_read (uS u 3) (((x3.toInt64 + (4 * x7.toInt64)).toInt32) + 1)) (s_X3_read (uS u 3) (((x3.toInt64 + (4 * x7.toInt64)).toInt32) + 2)) (s_X3_read (uS u 3) (((x3.toInt64 + (4 * x7.toInt64)).toInt32) + 3))).1) < 0 then
            s_X5_load_L64_3 n ((s_X5_piece u (s_X3_read (uS u 3) ((x3.toInt64 + (4 * x7.toInt64)).toInt32)) (s_X3_read (uS u 3) (((x3.toInt64 + (4 * x7.toInt64)).toInt32) + 1)) (s_X3_read (uS u 3) (((x3.toInt64 + (4 * x7.toInt64)).toInt32) + 2)) (s_X3_read (uS u 3) (((x3.toInt64 + (4 * x7.toInt64)).toInt32) + 3))).2) x1 x2 x3 x4 x6 (x7 + 1)
          else
            s_X5_load_L64_3 n ((s_X5_piece u (s_X3_read (uS u 3) ((x3.toInt64 + (4 * x7.toInt64)).toInt32)) (s_X3_read (uS u 3) (((x3.toInt64 + (4 * x7.toInt64)).toInt32) + 1)) (s_X3_read (uS u 3) (((x3.toInt64 + (4 * x7.toInt64)).toInt32) + 2)) (s_X3_read (uS u 3) (((x3.toInt64 + (4 * x7.toInt64)).toInt32) + 3))).2) x1 x2 x3 x4 (x6 + 1) (x7 + 1)
        else
          ((-12), u)
def s_X5_load (u : xU) (p1 : Int32) (p2 : Int32) (p3 : Int32) (p4 : Int32) : Int32 × xU :=
  if p1 = 0 then
    if (s_X5_within p2 0 1) = 0 then
      ((-2), u)
    else
      if (s_X5_within p4 0 10) = 0 then
        ((-2), u)
      else
        if (s_X3_isMissing (uS u 0)) = 0 then
          if (u.2 4) = p2 then
            s_X5_load_L64_0 ((p4.toInt - (0 : Int32).toInt).toNat + 1) u p1 p2 p3 p4 0 0
          else
            ((-13), u)
        else
          ((-11), u)
  else
    if p1 = 1 then
      if (s_X5_within p2 0 1) = 0 then
        ((-2), u)
      else
        if (s_X5_within p4 0 10) = 0 then
          ((-2), u)
        else
          if (s_X3_isMissing (uS u 1)) = 0 then
            if (u.2 5) = p2 then
              s_X5_load_L64_1 ((p4.toInt - (0 : Int32).toInt).toNat + 1) u p1 p2 p3 p4 0 0
            else
              ((-13), u)
          else
            ((-11), u)
    else
      if p1 = 2 then
        if (s_X5_within p2 0 1) = 0 then
          ((-2), u)
        else
          if (s_X5_within p4 0 10) = 0 then
            ((-2), u)
          else
            if (s_X3_isMissing (uS u 2)) = 0 then
              if (u.2 6) = p2 then
                s_X5_load_L64_2 ((p4.toInt - (0 : Int32).toInt).toNat + 1) u p1 p2 p3 p4 0 0
              else
                ((-13), u)
            else
              ((-11), u)
      else
        if p1 = 3 then
          if (s_X5_within p2 0 1) = 0 then
            ((-2), u)
          else
            if (s_X5_within p4 0 10) = 0 then
              ((-2), u)
            else
              if (s_X3_isMissing (uS u 3)) = 0 then
                if (u.2 7) = p2 then
                  s_X5_load_L64_3 ((p4.toInt - (0 : Int32).toInt).toNat + 1) u p1 p2 p3 p4 0 0
                else
                  ((-13), u)
              else
                ((-11), u)
        else
          ((-2), u)
abbrev rm_X5_load : Room := { frames := 6, cells := 0, slots := 0, locals := 142 }
set_option maxHeartbeats 8000000 in
set_option maxRecDepth 100000 in
theorem c_X5_load (l : Launch) (E : xG) (a : Nat → Nat) (u : xU) (p1 : Int32) (p2 : Int32) (p3 : Int32) (p4 : Int32) (hp0 : XV (u.1 2) (u.2 1)) (hL : xOK E (LX a)) : xMd l E yX5_load wsX5_load rm_X5_load (LX a) [.ref (a 0), .int p1, .int p2, .int p3, .int p4] (wX E a u) (some (.int ((s_X5_load u p1 p2 p3 p4).1))) (wX E a ((s_X5_load u p1 p2 p3 p4).2)) := by
  refine xMd.of (cc := cX5_load) (maxL := 11) (ret := (some .int)) (by decide) rfl (Nat.le_of_ble_eq_true rfl) ?_
  intro p e s m below meth c ls hAt hF hP hS hl
  obtain ⟨hx, hb, hr, hml, hown, hts, hlocks, -⟩ := hAt
  have hown : s.vm.findClass RX5 = some m.cls := hown
  have hl : lv_has ls 11 [(0, .ref (a 0)), (1, .int p1), (2, .int p2), (3, .int p3), (4, .int p4)] := hl
  have hK := hF.1
  have hA := hL.2
  change W p l e rm_X5_load s m ([.ref (a 0), .int p1, .int p2, .int p3, .int p4] : List Value).toArray below meth c s.heap [] 0 0 (xQmd E below (LX a) (some (.int ((s_X5_load u p1 p2 p3 p4).1))) (wX E a ((s_X5_load u p1 p2 p3 p4).2)) ([.ref (a 0), .int p1, .int p2, .int p3, .int p4] : List Value).toArray s) _
  have hS : va_S (· ∈ LX a) s.heap s.heap [] := hS
  have hR : s_X5_load u p1 p2 p3 p4 = s_X5_load u p1 p2 p3 p4 := rfl
  refine lv_aload_n hx hb dX5_load_0 rfl (lv_at hl 0 rfl) ?_
  refine lv_iload_n hx hb dX5_load_1 rfl (lv_at hl 1 rfl) ?_
  by_cases t1_0 : p1 = 0
  · have hR := hR.trans (if_pos t1_0)
    refine xRoV (nL := 11) ⟨hx, hb, hml, hown, hts⟩ (c_X5_sheetOf l E a u p1 0 (by decide) t1_0) (cwV 1 hts gX5_load_X5_sheetOf rfl rfl rfl ⟨rfl, hd_X5_sheetOf⟩ ⟨(Nat.le_of_ble_eq_true rfl), (Nat.le_of_ble_eq_true rfl)⟩) hF hS hA hP (va_recv (q := (RX5, TX5, 9)) hK hP (ci := 5) rfl (q0 := 0) rfl) rfl hl.1 rfl (Nat.le_of_ble_eq_true rfl) ⟨(Nat.le_of_ble_eq_true rfl), (Nat.le_of_ble_eq_true rfl)⟩ dX5_load_2 ?_
    refine W.eq (g2 := F0 m 5 ls [.ref (a 17)]) rfl ?_
    refine lv_astore (lv' := [(5, .ref (a 17)), (0, .ref (a 0)), (1, .int p1), (2, .int p2), (3, .int p3), (4, .int p4)]) hx hb dX5_load_5 hl (by decide) rfl (fun ls hl => ?_)
    refine lv_aload hx hb dX5_load_7 (lv_at hl 0 rfl) ?_
    refine lv_ifnull hx hb dX5_load_9 ?_
    refine lv_iload_n hx hb dX5_load_12 rfl (lv_at hl 3 rfl) ?_
    refine lv_iconst (v := 0) hx hb dX5_load_13 rfl ?_
    refine lv_iconst (v := 1) hx hb dX5_load_14 rfl ?_
    refine xRoS (nL := 11) ⟨hx, hb, hml, hown, hts⟩ (c_X5_within l E p2 0 1) (va_cwS 3 hts gX5_load_X5_within rfl rfl rfl hd_X5_within ⟨(Nat.le_of_ble_eq_true rfl), (Nat.le_of_ble_eq_true rfl)⟩) hF hS hA (hP.sub [] rfl) rfl hl.1 rfl (Nat.le_of_ble_eq_true rfl) ⟨(Nat.le_of_ble_eq_true rfl), (Nat.le_of_ble_eq_true rfl)⟩ dX5_load_15 ?_
    refine W.eq (g2 := F0 m 18 ls [.int (s_X5_within p2 0 1)]) rfl ?_
    refine lv_if_eq (tgt := 32) hx hb dX5_load_18 rfl (fun q2 => ?_) (fun q2 => ?_)
    · have hR := hR.trans (if_pos q2)
      refine lv_bipush (v := (-2)) hx hb dX5_load_32 rfl ?_
      have hR : s_X5_load u p1 p2 p3 p4 = ((-2), u) := hR
      exact W.iret (v := (-2)) hx hb hr (fun t ht _ => by rw [hR]; dsimp only; exact ⟨⟨rfl, by rw [ht]; exact hP⟩, hS.F ht⟩) hS.2.2 dX5_load_34
    · have hR := hR.trans (if_neg q2)
      refine lv_iload hx hb dX5_load_21 (lv_at hl 5 rfl) ?_
      refine lv_iconst (v := 0) hx hb dX5_load_23 rfl ?_
      refine lv_bipush (v := 10) hx hb dX5_load_24 rfl ?_
      refine xRoS (nL := 11) ⟨hx, hb, hml, hown, hts⟩ (c_X5_within l E p4 0 10) (va_cwS 3 hts gX5_load_X5_within rfl rfl rfl hd_X5_within ⟨(Nat.le_of_ble_eq_true rfl), (Nat.le_of_ble_eq_true rfl)⟩) hF hS hA (hP.sub [] rfl) rfl hl.1 rfl (Nat.le_of_ble_eq_true rfl) ⟨(Nat.le_of_ble_eq_true rfl), (Nat.le_of_ble_eq_true rfl)⟩ dX5_load_26 ?_
      refine W.eq (g2 := F0 m 29 ls [.int (s_X5_within p4 0 10)]) rfl ?_
      refine lv_if_ne (tgt := 35) hx hb dX5_load_29 rfl (fun q3 => ?_) (fun q3 => ?_)
      · have hR := hR.trans (if_neg q3)
        refine lv_aload hx hb dX5_load_35 (lv_at hl 0 rfl) ?_
        refine xRoV (nL := 11) ⟨hx, hb, hml, hown, hts⟩ (c_X3_isMissing l E (a 17) (a 21) (uS u 0) ) (cwV 0 hts gX5_load_X3_isMissing rfl rfl rfl ⟨rfl, hd_X3_isMissing⟩ ⟨(Nat.le_of_ble_eq_true rfl), (Nat.le_of_ble_eq_true rfl)⟩) hF hS hA (hP.sub [17, 21] rfl) (va_recv (q := (RX3, TX3, 3)) hK hP (ci := 3) rfl (q0 := 17) rfl) rfl hl.1 rfl (Nat.le_of_ble_eq_true rfl) ⟨(Nat.le_of_ble_eq_true rfl), (Nat.le_of_ble_eq_true rfl)⟩ dX5_load_37 ?_
        refine W.eq (g2 := F0 m 40 ls [.int (s_X3_isMissing (uS u 0))]) rfl ?_
        refine lv_if_eq (tgt := 46) hx hb dX5_load_40 rfl (fun q4 => ?_) (fun q4 => ?_)
        · have hR := hR.trans (if_pos q4)
          refine lv_aload hx hb dX5_load_46 (lv_at hl 0 rfl) ?_
          refine va_get (D := xD E) (ci := 3) (v := .int (u.2 4)) (C := RX3) (T := TX3) (N := 3) hx hb hts (by decide +kernel) hown hK hP 17 rfl rfl 1 (by decide) (hts (.fieldLink RX5 329 "RailOffsets$Sheet" "sort" "I") (by decide +kernel)) (fun _ h => h) rfl dX5_load_48 ?_
          refine lv_iload_n hx hb dX5_load_51 rfl (lv_at hl 3 rfl) ?_
          refine lv_icmp_eq (tgt := 58) hx hb dX5_load_52 rfl (fun q5 => ?_) (fun q5 => ?_)
          · have hR := hR.trans (if_pos q5)
            refine lv_iconst (v := 0) hx hb dX5_load_58 rfl ?_
            refine lv_istore (lv' := [(6, .int 0), (5, .ref (a 17)), (0, .ref (a 0)), (1, .int p1), (2, .int p2), (3, .int p3), (4, .int p4)]) hx hb dX5_load_59 hl (by decide) rfl (fun ls hl => ?_)
            refine lv_iconst (v := 0) hx hb dX5_load_61 rfl ?_
            refine lv_istore (lv' := [(7, .int 0), (6, .int 0), (5, .ref (a 17)), (0, .ref (a 0)), (1, .int p1), (2, .int p2), (3, .int p3), (4, .int p4)]) hx hb dX5_load_62 hl (by decide) rfl (fun ls hl => ?_)
            have L64 : ∀ (n64 : Nat) (u64 : xU) (x6 : Int32) (x7 : Int32) (H : Heap) (locs : List Loc) (ls : Array Slot), (XV (u64.1 2) (u64.2 1)) → (p4.toInt - x7.toInt).toNat < n64 → s_X5_load u p1 p2 p3 p4 = s_X5_load_L64_0 n64 u64 p1 p2 p3 p4 x6 x7 → lv_has ls 11 [(7, .int x7), (6, .int x6), (5, .ref (a 17)), (0, .ref (a 0)), (1, .int p1), (2, .int p2), (3, .int p3), (4, .int p4)] → va_P (xD E) vwCl (wX E a u64) H → va_S (· ∈ LX a) s.heap H locs → W p l e rm_X5_load s m ([.ref (a 0), .int p1, .int p2, .int p3, .int p4] : List Value).toArray below meth c H locs 0 0 (xQmd E below (LX a) (some (.int ((s_X5_load u p1 p2 p3 p4).1))) (wX E a ((s_X5_load u p1 p2 p3 p4).2)) ([.ref (a 0), .int p1, .int p2, .int p3, .int p4] : List Value).toArray s) (F0 m 64 ls []) := by
              intro n64
              induction n64 with
              | zero => intro u64 x6 x7 H locs ls hI0 hM64 hR hl hP hS; exact absurd hM64 (Nat.not_lt_zero _)
              | succ n64 ih64 =>
                intro u64 x6 x7 H locs ls hI0 hM64 hR hl hP hS
                refine lv_iload hx hb dX5_load_64 (lv_at hl 0 rfl) ?_
                refine lv_iload hx hb dX5_load_66 (lv_at hl 7 rfl) ?_
                refine lv_icmp_ge (tgt := 164) hx hb dX5_load_68 rfl (fun q6 => ?_) (fun q6 => ?_)
                · have hR := hR.trans (if_pos q6)
                  refine lv_iload hx hb dX5_load_164 (lv_at hl 1 rfl) ?_
                  have hR : s_X5_load u p1 p2 p3 p4 = (x6, u64) := hR
                  exact W.iret (v := x6) hx hb hr (fun t ht _ => by rw [hR]; dsimp only; exact ⟨⟨rfl, by rw [ht]; exact hP⟩, hS.F ht⟩) hS.2.2 dX5_load_166
                · have hR := hR.trans (if_neg q6)
                  refine lv_iload_n hx hb dX5_load_71 rfl (lv_at hl 6 rfl) ?_
                  refine lv_i2l hx hb dX5_load_72 rfl ?_
                  refine lv_ldc2 (v := 4) hx hb hown (hts (.constantLong RX5 332 (4)) (by decide +kernel)) dX5_load_73 ?_
                  refine lv_iload hx hb dX5_load_76 (lv_at hl 0 rfl) ?_
                  refine lv_i2l hx hb dX5_load_78 rfl ?_
                  refine lv_lmul hx hb dX5_load_79 ?_
                  refine lv_ladd hx hb dX5_load_80 ?_
                  refine lv_lstore (lv' := [(8, .long (p3.toInt64 + (4 * x7.toInt64))), (7, .int x7), (6, .int x6), (5, .ref (a 17)), (0, .ref (a 0)), (1, .int p1), (2, .int p2), (3, .int p3), (4, .int p4)]) hx hb dX5_load_81 hl (by decide) rfl (fun ls hl => ?_)
                  refine lv_lload hx hb dX5_load_83 (lv_at hl 0 rfl) ?_
                  refine lv_lconst (v := 0) hx hb dX5_load_85 rfl ?_
                  refine W.lcmp hx hb dX5_load_86 ?_
                  refine lv_if_lt (tgt := 106) hx hb dX5_load_87 rfl (fun q7 => ?_) (fun q7 => ?_)
                  · have hR := hR.trans (if_pos q7)
                    refine lv_bipush (v := (-12)) hx hb dX5_load_106 rfl ?_
                    have hR : s_X5_load u p1 p2 p3 p4 = ((-12), u64) := hR
                    exact W.iret (v := (-12)) hx hb hr (fun t ht _ => by rw [hR]; dsimp only; exact ⟨⟨rfl, by rw [ht]; exact hP⟩, hS.F ht⟩) hS.2.2 dX5_load_108
                  · have hR := hR.trans (if_neg q7)
                    refine lv_lload hx hb dX5_load_90 (lv_at hl 0 rfl) ?_
                    refine lv_ldc2 (v := 4) hx hb hown (hts (.constantLong RX5 332 (4)) (by decide +kernel)) dX5_load_92 ?_
                    refine lv_ladd hx hb dX5_load_95 ?_
                    refine lv_aload hx hb dX5_load_96 (lv_at hl 3 rfl) ?_
                    refine va_get (D := xD E) (ci := 3) (v := .int (u64.2 8)) (C := RX3) (T := TX3) (N := 3) hx hb hts (by decide +kernel) hown hK hP 17 rfl rfl 2 (by decide) (hts (.fieldLink RX5 264 "RailOffsets$Sheet" "size" "I") (by decide +kernel)) (fun _ h => h) rfl dX5_load_98 ?_
                    refine lv_i2l hx hb dX5_load_101 rfl ?_
                    refine W.lcmp hx hb dX5_load_102 ?_
                    refine lv_if_le (tgt := 109) hx hb dX5_load_103 rfl (fun q8 => ?_) (fun q8 => ?_)
                    · have hR := hR.trans (if_pos q8)
                      refine lv_lload hx hb dX5_load_109 (lv_at hl 0 rfl) ?_
                      refine lv_l2i hx hb dX5_load_111 rfl ?_
                      refine lv_istore (lv' := [(10, .int ((p3.toInt64 + (4 * x7.toInt64)).toInt32)), (8, .long (p3.toInt64 + (4 * x7.toInt64))), (7, .int x7), (6, .int x6), (5, .ref (a 17)), (0, .ref (a 0)), (1, .int p1), (2, .int p2), (3, .int p3), (4, .int p4)]) hx hb dX5_load_112 hl (by decide) rfl (fun ls hl => ?_)
                      refine lv_aload_n hx hb dX5_load_114 rfl (lv_at hl 5 rfl) ?_
                      refine lv_aload hx hb dX5_load_115 (lv_at hl 4 rfl) ?_
                      refine lv_iload hx hb dX5_load_117 (lv_at hl 0 rfl) ?_
                      refine xRoV (nL := 11) ⟨hx, hb, hml, hown, hts⟩ (c_X3_read l E (a 17) (a 21) (uS u64 0) ((p3.toInt64 + (4 * x7.toInt64)).toInt32)) (cwV 1 hts gX5_load_X3_read rfl rfl rfl ⟨rfl, hd_X3_read⟩ ⟨(Nat.le_of_ble_eq_true rfl), (Nat.le_of_ble_eq_true rfl)⟩) hF hS hA (hP.sub [17, 21] rfl) (va_recv (q := (RX3, TX3, 3)) hK hP (ci := 3) rfl (q0 := 17) rfl) rfl hl.1 rfl (Nat.le_of_ble_eq_true rfl) ⟨(Nat.le_of_ble_eq_true rfl), (Nat.le_of_ble_eq_true rfl)⟩ dX5_load_119 ?_
                      refine W.eq (g2 := F0 m 122 ls [.int (s_X3_read (uS u64 0) ((p3.toInt64 + (4 * x7.toInt64)).toInt32)), .ref (a 0)]) rfl ?_
                      refine lv_aload hx hb dX5_load_122 (lv_at hl 4 rfl) ?_
                      refine lv_iload hx hb dX5_load_124 (lv_at hl 0 rfl) ?_
                      refine lv_iconst (v := 1) hx hb dX5_load_126 rfl ?_
                      refine lv_iadd hx hb dX5_load_127 ?_
                      refine xRoV (nL := 11) ⟨hx, hb, hml, hown, hts⟩ (c_X3_read l E (a 17) (a 21) (uS u64 0) (((p3.toInt64 + (4 * x7.toInt64)).toInt32) + 1)) (cwV 1 hts gX5_load_X3_read rfl rfl rfl ⟨rfl, hd_X3_read⟩ ⟨(Nat.le_of_ble_eq_true rfl), (Nat.le_of_ble_eq_true rfl)⟩) hF hS hA (hP.sub [17, 21] rfl) (va_recv (q := (RX3, TX3, 3)) hK hP (ci := 3) rfl (q0 := 17) rfl) rfl hl.1 rfl (Nat.le_of_ble_eq_true rfl) ⟨(Nat.le_of_ble_eq_true rfl), (Nat.le_of_ble_eq_true rfl)⟩ dX5_load_128 ?_
                      refine W.eq (g2 := F0 m 131 ls [.int (s_X3_read (uS u64 0) (((p3.toInt64 + (4 * x7.toInt64)).toInt32) + 1)), .int (s_X3_read (uS u64 0) ((p3.toInt64 + (4 * x7.toInt64)).toInt32)), .ref (a 0)]) rfl ?_
                      refine lv_aload hx hb dX5_load_131 (lv_at hl 4 rfl) ?_
                      refine lv_iload hx hb dX5_load_133 (lv_at hl 0 rfl) ?_
                      refine lv_iconst (v := 2) hx hb dX5_load_135 rfl ?_
                      refine lv_iadd hx hb dX5_load_136 ?_
                      refine xRoV (nL := 11) ⟨hx, hb, hml, hown, hts⟩ (c_X3_read l E (a 17) (a 21) (uS u64 0) (((p3.toInt64 + (4 * x7.toInt64)).toInt32) + 2)) (cwV 1 hts gX5_load_X3_read rfl rfl rfl ⟨rfl, hd_X3_read⟩ ⟨(Nat.le_of_ble_eq_true rfl), (Nat.le_of_ble_eq_true rfl)⟩) hF hS hA (hP.sub [17, 21] rfl) (va_recv (q := (RX3, TX3, 3)) hK hP (ci := 3) rfl (q0 := 17) rfl) rfl hl.1 rfl (Nat.le_of_ble_eq_true rfl) ⟨(Nat.le_of_ble_eq_true rfl), (Nat.le_of_ble_eq_true rfl)⟩ dX5_load_137 ?_
                      refine W.eq (g2 := F0 m 140 ls [.int (s_X3_read (uS u64 0) (((p3.toInt64 + (4 * x7.toInt64)).toInt32) + 2)), .int (s_X3_read (uS u64 0) (((p3.toInt64 + (4 * x7.toInt64)).toInt32) + 1)), .int (s_X3_read (uS u64 0) ((p3.toInt64 + (4 * x7.toInt64)).toInt32)), .ref (a 0)]) rfl ?_
                      refine lv_aload hx hb dX5_load_140 (lv_at hl 4 rfl) ?_
                      refine lv_iload hx hb dX5_load_142 (lv_at hl 0 rfl) ?_
                      refine lv_iconst (v := 3) hx hb dX5_load_144 rfl ?_
                      refine lv_iadd hx hb dX5_load_145 ?_
                      refine xRoV (nL := 11) ⟨hx, hb, hml, hown, hts⟩ (c_X3_read l E (a 17) (a 21) (uS u64 0) (((p3.toInt64 + (4 * x7.toInt64)).toInt32) + 3)) (cwV 1 hts gX5_load_X3_read rfl rfl rfl ⟨rfl, hd_X3_read⟩ ⟨(Nat.le_of_ble_eq_true rfl), (Nat.le_of_ble_eq_true rfl)⟩) hF hS hA (hP.sub [17, 21] rfl) (va_recv (q := (RX3, TX3, 3)) hK hP (ci := 3) rfl (q0 := 17) rfl) rfl hl.1 rfl (Nat.le_of_ble_eq_true rfl) ⟨(Nat.le_of_ble_eq_true rfl), (Nat.le_of_ble_eq_true rfl)⟩ dX5_load_146 ?_
                      refine W.eq (g2 := F0 m 149 ls [.int (s_X3_read (uS u64 0) (((p3.toInt64 + (4 * x7.toInt64)).toInt32) + 3)), .int (s_X3_read (uS u64 0) (((p3.toInt64 + (4 * x7.toInt64)).toInt32) + 2)), .int (s_X3_read (uS u64 0) (((p3.toInt64 + (4 * x7.toInt64)).toInt32) + 1)), .int (s_X3_read (uS u64 0) ((p3.toInt64 + (4 * x7.toInt64)).toInt32)), .ref (a 0)]) rfl ?_
                      refine xMdV (nL := 11) ⟨hx, hb, hml, hown, hts⟩ (c_X5_piece l E a u64 (s_X3_read (uS u64 0) ((p3.toInt64 + (4 * x7.toInt64)).toInt32)) (s_X3_read (uS u64 0) (((p3.toInt64 + (4 * x7.toInt64)).toInt32) + 1)) (s_X3_read (uS u64 0) (((p3.toInt64 + (4 * x7.toInt64)).toInt32) + 2)) (s_X3_read (uS u64 0) (((p3.toInt64 + (4 * x7.toInt64)).toInt32) + 3)) (hI0) hL) (cwV 4 hts gX5_load_X5_piece rfl rfl rfl ⟨rfl, hd_X5_piece⟩ ⟨(Nat.le_of_ble_eq_true rfl), (Nat.le_of_ble_eq_true rfl)⟩) hF hS hL.2 (fun _ h => h) hP (va_recv (q := (RX5, TX5, 9)) hK hP (ci := 5) rfl (q0 := 0) rfl) rfl hl.1 rfl (Nat.le_of_ble_eq_true rfl) ⟨(Nat.le_of_ble_eq_true rfl), (Nat.le_of_ble_eq_true rfl)⟩ dX5_load_149 (fun H locs hP _ hS => ?_)
                      refine W.eq (g2 := F0 m 152 ls [.int ((s_X5_piece u64 (s_X3_read (uS u64 0) ((p3.toInt64 + (4 * x7.toInt64)).toInt32)) (s_X3_read (uS u64 0) (((p3.toInt64 + (4 * x7.toInt64)).toInt32) + 1)) (s_X3_read (uS u64 0) (((p3.toInt64 + (4 * x7.toInt64)).toInt32) + 2)) (s_X3_read (uS u64 0) (((p3.toInt64 + (4 * x7.toInt64)).toInt32) + 3))).1)]) rfl ?_
                      refine lv_if_lt (tgt := 158) hx hb dX5_load_152 rfl (fun q9 => ?_) (fun q9 => ?_)
                      · have hR := hR.trans (if_pos q9)
                        refine lv_iinc (k := 2) (v := x7 + 1) (lv' := [(7, .int (x7 + 1)), (10, .int ((p3.toInt64 + (4 * x7.toInt64)).toInt32)), (8, .long (p3.toInt64 + (4 * x7.toInt64))), (6, .int x6), (5, .ref (a 17)), (0, .ref (a 0)), (1, .int p1), (2, .int p2), (3, .int p3), (4, .int p4)]) hx hb dX5_load_158 hl rfl rfl (by decide) rfl (fun ls hl => ?_)
                        refine lv_goto (tgt := 64) hx hb dX5_load_161 rfl ?_
                        exact ih64 ((s_X5_piece u64 (s_X3_read (uS u64 0) ((p3.toInt64 + (4 * x7.toInt64)).toInt32)) (s_X3_read (uS u64 0) (((p3.toInt64 + (4 * x7.toInt64)).toInt32) + 1)) (s_X3_read (uS u64 0) (((p3.toInt64 + (4 * x7.toInt64)).toInt32) + 2)) (s_X3_read (uS u64 0) (((p3.toInt64 + (4 * x7.toInt64)).toInt32) + 3))).2) x6 (x7 + 1) _ _ _ (by first | exact (xK_piece _ _ _ _ _).1 hI0 | exact hI0) (Nat.lt_of_lt_of_le (xupc q6) (Nat.le_of_lt_succ hM64)) hR (lv_sub hl [0, 3, 4, 5, 6, 7, 8, 9] rfl) hP hS
                      · have hR := hR.trans (if_neg q9)
                        refine lv_iinc (k := 3) (v := x6 + 1) (lv' := [(6, .int (x6 + 1)), (10, .int ((p3.toInt64 + (4 * x7.toInt64)).toInt32)), (8, .long (p3.toInt64 + (4 * x7.toInt64))), (7, .int x7), (5, .ref (a 17)), (0, .ref (a 0)), (1, .int p1), (2, .int p2), (3, .int p3), (4, .int p4)]) hx hb dX5_load_155 hl rfl rfl (by decide) rfl (fun ls hl => ?_)
                        refine lv_iinc (k := 3) (v := x7 + 1) (lv' := [(7, .int (x7 + 1)), (6, .int (x6 + 1)), (10, .int ((p3.toInt64 + (4 * x7.toInt64)).toInt32)), (8, .long (p3.toInt64 + (4 * x7.toInt64))), (5, .ref (a 17)), (0, .ref (a 0)), (1, .int p1), (2, .int p2), (3, .int p3), (4, .int p4)]) hx hb dX5_load_158 hl rfl rfl (by decide) rfl (fun ls hl => ?_)
                        refine lv_goto (tgt := 64) hx hb dX5_load_161 rfl ?_
                        exact ih64 ((s_X5_piece u64 (s_X3_read (uS u64 0) ((p3.toInt64 + (4 * x7.toInt64)).toInt32)) (s_X3_read (uS u64 0) (((p3.toInt64 + (4 * x7.toInt64)).toInt32) + 1)) (s_X3_read (uS u64 0) (((p3.toInt64 + (4 * x7.toInt64)).toInt32) + 2)) (s_X3_read (uS u64 0) (((p3.toInt64 + (4 * x7.toInt64)).toInt32) + 3))).2) (x6 + 1) (x7 + 1) _ _ _ (by first | exact (xK_piece _ _ _ _ _).1 hI0 | exact hI0) (Nat.lt_of_lt_of_le (xupc q6) (Nat.le_of_lt_succ hM64)) hR (lv_sub hl [0, 1, 4, 5, 6, 7, 8, 9] rfl) hP hS
                    · have hR := hR.trans (if_neg q8)
                      refine lv_bipush (v := (-12)) hx hb dX5_load_106 rfl ?_
                      have hR : s_X5_load u p1 p2 p3 p4 = ((-12), u64) := hR
                      exact W.iret (v := (-12)) hx hb hr (fun t ht _ => by rw [hR]; dsimp only; exact ⟨⟨rfl, by rw [ht]; exact hP⟩, hS.F ht⟩) hS.2.2 dX5_load_108
            exact L64 ((p4.toInt - (0 : Int32).toInt).toNat + 1) u 0 0 _ _ ls (hp0) (Nat.lt_succ_self _) hR hl hP hS
          · have hR := hR.trans (if_neg q5)
            refine lv_bipush (v := (-13)) hx hb dX5_load_55 rfl ?_
            have hR : s_X5_load u p1 p2 p3 p4 = ((-13), u) := hR
            exact W.iret (v := (-13)) hx hb hr (fun t ht _ => by rw [hR]; dsimp only; exact ⟨⟨rfl, by rw [ht]; exact hP⟩, hS.F ht⟩) hS.2.2 dX5_load_57
        · have hR := hR.trans (if_neg q4)
          refine lv_bipush (v := (-11)) hx hb dX5_load_43 rfl ?_
          have hR : s_X5_load u p1 p2 p3 p4 = ((-11), u) := hR
          exact W.iret (v := (-11)) hx hb hr (fun t ht _ => by rw [hR]; dsimp only; exact ⟨⟨rfl, by rw [ht]; exact hP⟩, hS.F ht⟩) hS.2.2 dX5_load_45
      · have hR := hR.trans (if_pos q3)
        refine lv_bipush (v := (-2)) hx hb dX5_load_32 rfl ?_
        have hR : s_X5_load u p1 p2 p3 p4 = ((-2), u) := hR
        exact W.iret (v := (-2)) hx hb hr (fun t ht _ => by rw [hR]; dsimp only; exact ⟨⟨rfl, by rw [ht]; exact hP⟩, hS.F ht⟩) hS.2.2 dX5_load_34
  have hR := hR.trans (if_neg t1_0)
  by_cases t1_1 : p1 = 1
  · have hR := hR.trans (if_pos t1_1)
    refine xRoV (nL := 11) ⟨hx, hb, hml, hown, hts⟩ (c_X5_sheetOf l E a u p1 1 (by decide) t1_1) (cwV 1 hts gX5_load_X5_sheetOf rfl rfl rfl ⟨rfl, hd_X5_sheetOf⟩ ⟨(Nat.le_of_ble_eq_true rfl), (Nat.le_of_ble_eq_true rfl)⟩) hF hS hA hP (va_recv (q := (RX5, TX5, 9)) hK hP (ci := 5) rfl (q0 := 0) rfl) rfl hl.1 rfl (Nat.le_of_ble_eq_true rfl) ⟨(Nat.le_of_ble_eq_true rfl), (Nat.le_of_ble_eq_true rfl)⟩ dX5_load_2 ?_
    refine W.eq (g2 := F0 m 5 ls [.ref (a 18)]) rfl ?_
    refine lv_astore (lv' := [(5, .ref (a 18)), (0, .ref (a 0)), (1, .int p1), (2, .int p2), (3, .int p3), (4, .int p4)]) hx hb dX5_load_5 hl (by decide) rfl (fun ls hl => ?_)
    refine lv_aload hx hb dX5_load_7 (lv_at hl 0 rfl) ?_
    refine lv_ifnull hx hb dX5_load_9 ?_
    refine lv_iload_n hx hb dX5_load_12 rfl (lv_at hl 3 rfl) ?_
    refine lv_iconst (v := 0) hx hb dX5_load_13 rfl ?_
    refine lv_iconst (v := 1) hx hb dX5_load_14 rfl ?_
    refine xRoS (nL := 11) ⟨hx, hb, hml, hown, hts⟩ (c_X5_within l E p2 0 1) (va_cwS 3 hts gX5_load_X5_within rfl rfl rfl hd_X5_within ⟨(Nat.le_of_ble_eq_true rfl), (Nat.le_of_ble_eq_true rfl)⟩) hF hS hA (hP.sub [] rfl) rfl hl.1 rfl (Nat.le_of_ble_eq_true rfl) ⟨(Nat.le_of_ble_eq_true rfl), (Nat.le_of_ble_eq_true rfl)⟩ dX5_load_15 ?_
    refine W.eq (g2 := F0 m 18 ls [.int (s_X5_within p2 0 1)]) rfl ?_
    refine lv_if_eq (tgt := 32) hx hb dX5_load_18 rfl (fun q10 => ?_) (fun q10 => ?_)
    · have hR := hR.trans (if_pos q10)
      refine lv_bipush (v := (-2)) hx hb dX5_load_32 rfl ?_
      have hR : s_X5_load u p1 p2 p3 p4 = ((-2), u) := hR
      exact W.iret (v := (-2)) hx hb hr (fun t ht _ => by rw [hR]; dsimp only; exact ⟨⟨rfl, by rw [ht]; exact hP⟩, hS.F ht⟩) hS.2.2 dX5_load_34
    · have hR := hR.trans (if_neg q10)
      refine lv_iload hx hb dX5_load_21 (lv_at hl 5 rfl) ?_
      refine lv_iconst (v := 0) hx hb dX5_load_23 rfl ?_
      refine lv_bipush (v := 10) hx hb dX5_load_24 rfl ?_
      refine xRoS (nL := 11) ⟨hx, hb, hml, hown, hts⟩ (c_X5_within l E p4 0 10) (va_cwS 3 hts gX5_load_X5_within rfl rfl rfl hd_X5_within ⟨(Nat.le_of_ble_eq_true rfl), (Nat.le_of_ble_eq_true rfl)⟩) hF hS hA (hP.sub [] rfl) rfl hl.1 rfl (Nat.le_of_ble_eq_true rfl) ⟨(Nat.le_of_ble_eq_true rfl), (Nat.le_of_ble_eq_true rfl)⟩ dX5_load_26 ?_
      refine W.eq (g2 := F0 m 29 ls [.int (s_X5_within p4 0 10)]) rfl ?_
      refine lv_if_ne (tgt := 35) hx hb dX5_load_29 rfl (fun q11 => ?_) (fun q11 => ?_)
      · have hR := hR.trans (if_neg q11)
        refine lv_aload hx hb dX5_load_35 (lv_at hl 0 rfl) ?_
        refine xRoV (nL := 11) ⟨hx, hb, hml, hown, hts⟩ (c_X3_isMissing l E (a 18) (a 22) (uS u 1) ) (cwV 0 hts gX5_load_X3_isMissing rfl rfl rfl ⟨rfl, hd_X3_isMissing⟩ ⟨(Nat.le_of_ble_eq_true rfl), (Nat.le_of_ble_eq_true rfl)⟩) hF hS hA (hP.sub [18, 22] rfl) (va_recv (q := (RX3, TX3, 3)) hK hP (ci := 3) rfl (q0 := 18) rfl) rfl hl.1 rfl (Nat.le_of_ble_eq_true rfl) ⟨(Nat.le_of_ble_eq_true rfl), (Nat.le_of_ble_eq_true rfl)⟩ dX5_load_37 ?_
        refine W.eq (g2 := F0 m 40 ls [.int (s_X3_isMissing (uS u 1))]) rfl ?_
        refine lv_if_eq (tgt := 46) hx hb dX5_load_40 rfl (fun q12 => ?_) (fun q12 => ?_)
        · have hR := hR.trans (if_pos q12)
          refine lv_aload hx hb dX5_load_46 (lv_at hl 0 rfl) ?_
          refine va_get (D := xD E) (ci := 3) (v := .int (u.2 5)) (C := RX3) (T := TX3) (N := 3) hx hb hts (by decide +kernel) hown hK hP 18 rfl rfl 1 (by decide) (hts (.fieldLink RX5 329 "RailOffsets$Sheet" "sort" "I") (by decide +kernel)) (fun _ h => h) rfl dX5_load_48 ?_
          refine lv_iload_n hx hb dX5_load_51 rfl (lv_at hl 3 rfl) ?_
          refine lv_icmp_eq (tgt := 58) hx hb dX5_load_52 rfl (fun q13 => ?_) (fun q13 => ?_)
          · have hR := hR.trans (if_pos q13)
            refine lv_iconst (v := 0) hx hb dX5_load_58 rfl ?_
            refine lv_istore (lv' := [(6, .int 0), (5, .ref (a 18)), (0, .ref (a 0)), (1, .int p1), (2, .int p2), (3, .int p3), (4, .int p4)]) hx hb dX5_load_59 hl (by decide) rfl (fun ls hl => ?_)
            refine lv_iconst (v := 0) hx hb dX5_load_61 rfl ?_
            refine lv_istore (lv' := [(7, .int 0), (6, .int 0), (5, .ref (a 18)), (0, .ref (a 0)), (1, .int p1), (2, .int p2), (3, .int p3), (4, .int p4)]) hx hb dX5_load_62 hl (by decide) rfl (fun ls hl => ?_)
            have L64 : ∀ (n64 : Nat) (u64 : xU) (x6 : Int32) (x7 : Int32) (H : Heap) (locs : List Loc) (ls : Array Slot), (XV (u64.1 2) (u64.2 1)) → (p4.toInt - x7.toInt).toNat < n64 → s_X5_load u p1 p2 p3 p4 = s_X5_load_L64_1 n64 u64 p1 p2 p3 p4 x6 x7 → lv_has ls 11 [(7, .int x7), (6, .int x6), (5, .ref (a 18)), (0, .ref (a 0)), (1, .int p1), (2, .int p2), (3, .int p3), (4, .int p4)] → va_P (xD E) vwCl (wX E a u64) H → va_S (· ∈ LX a) s.heap H locs → W p l e rm_X5_load s m ([.ref (a 0), .int p1, .int p2, .int p3, .int p4] : List Value).toArray below meth c H locs 0 0 (xQmd E below (LX a) (some (.int ((s_X5_load u p1 p2 p3 p4).1))) (wX E a ((s_X5_load u p1 p2 p3 p4).2)) ([.ref (a 0), .int p1, .int p2, .int p3, .int p4] : List Value).toArray s) (F0 m 64 ls []) := by
              intro n64
              induction n64 with
              | zero => intro u64 x6 x7 H locs ls hI0 hM64 hR hl hP hS; exact absurd hM64 (Nat.not_lt_zero _)
              | succ n64 ih64 =>
                intro u64 x6 x7 H locs ls hI0 hM64 hR hl hP hS
                refine lv_iload hx hb dX5_load_64 (lv_at hl 0 rfl) ?_
                refine lv_iload hx hb dX5_load_66 (lv_at hl 7 rfl) ?_
                refine lv_icmp_ge (tgt := 164) hx hb dX5_load_68 rfl (fun q14 => ?_) (fun q14 => ?_)
                · have hR := hR.trans (if_pos q14)
                  refine lv_iload hx hb dX5_load_164 (lv_at hl 1 rfl) ?_
                  have hR : s_X5_load u p1 p2 p3 p4 = (x6, u64) := hR
                  exact W.iret (v := x6) hx hb hr (fun t ht _ => by rw [hR]; dsimp only; exact ⟨⟨rfl, by rw [ht]; exact hP⟩, hS.F ht⟩) hS.2.2 dX5_load_166
                · have hR := hR.trans (if_neg q14)
                  refine lv_iload_n hx hb dX5_load_71 rfl (lv_at hl 6 rfl) ?_
                  refine lv_i2l hx hb dX5_load_72 rfl ?_
                  refine lv_ldc2 (v := 4) hx hb hown (hts (.constantLong RX5 332 (4)) (by decide +kernel)) dX5_load_73 ?_
                  refine lv_iload hx hb dX5_load_76 (lv_at hl 0 rfl) ?_
                  refine lv_i2l hx hb dX5_load_78 rfl ?_
                  refine lv_lmul hx hb dX5_load_79 ?_
                  refine lv_ladd hx hb dX5_load_80 ?_
                  refine lv_lstore (lv' := [(8, .long (p3.toInt64 + (4 * x7.toInt64))), (7, .int x7), (6, .int x6), (5, .ref (a 18)), (0, .ref (a 0)), (1, .int p1), (2, .int p2), (3, .int p3), (4, .int p4)]) hx hb dX5_load_81 hl (by decide) rfl (fun ls hl => ?_)
                  refine lv_lload hx hb dX5_load_83 (lv_at hl 0 rfl) ?_
                  refine lv_lconst (v := 0) hx hb dX5_load_85 rfl ?_
                  refine W.lcmp hx hb dX5_load_86 ?_
                  refine lv_if_lt (tgt := 106) hx hb dX5_load_87 rfl (fun q15 => ?_) (fun q15 => ?_)
                  · have hR := hR.trans (if_pos q15)
                    refine lv_bipush (v := (-12)) hx hb dX5_load_106 rfl ?_
                    have hR : s_X5_load u p1 p2 p3 p4 = ((-12), u64) := hR
                    exact W.iret (v := (-12)) hx hb hr (fun t ht _ => by rw [hR]; dsimp only; exact ⟨⟨rfl, by rw [ht]; exact hP⟩, hS.F ht⟩) hS.2.2 dX5_load_108
                  · have hR := hR.trans (if_neg q15)
                    refine lv_lload hx hb dX5_load_90 (lv_at hl 0 rfl) ?_
                    refine lv_ldc2 (v := 4) hx hb hown (hts (.constantLong RX5 332 (4)) (by decide +kernel)) dX5_load_92 ?_
                    refine lv_ladd hx hb dX5_load_95 ?_
                    refine lv_aload hx hb dX5_load_96 (lv_at hl 3 rfl) ?_
                    refine va_get (D := xD E) (ci := 3) (v := .int (u64.2 9)) (C := RX3) (T := TX3) (N := 3) hx hb hts (by decide +kernel) hown hK hP 18 rfl rfl 2 (by decide) (hts (.fieldLink RX5 264 "RailOffsets$Sheet" "size" "I") (by decide +kernel)) (fun _ h => h) rfl dX5_load_98 ?_
                    refine lv_i2l hx hb dX5_load_101 rfl ?_
                    refine W.lcmp hx hb dX5_load_102 ?_
                    refine lv_if_le (tgt := 109) hx hb dX5_load_103 rfl (fun q16 => ?_) (fun q16 => ?_)
                    · have hR := hR.trans (if_pos q16)
                      refine lv_lload hx hb dX5_load_109 (lv_at hl 0 rfl) ?_
                      refine lv_l2i hx hb dX5_load_111 rfl ?_
                      refine lv_istore (lv' := [(10, .int ((p3.toInt64 + (4 * x7.toInt64)).toInt32)), (8, .long (p3.toInt64 + (4 * x7.toInt64))), (7, .int x7), (6, .int x6), (5, .ref (a 18)), (0, .ref (a 0)), (1, .int p1), (2, .int p2), (3, .int p3), (4, .int p4)]) hx hb dX5_load_112 hl (by decide) rfl (fun ls hl => ?_)
                      refine lv_aload_n hx hb dX5_load_114 rfl (lv_at hl 5 rfl) ?_
                      refine lv_aload hx hb dX5_load_115 (lv_at hl 4 rfl) ?_
                      refine lv_iload hx hb dX5_load_117 (lv_at hl 0 rfl) ?_
                      refine xRoV (nL := 11) ⟨hx, hb, hml, hown, hts⟩ (c_X3_read l E (a 18) (a 22) (uS u64 1) ((p3.toInt64 + (4 * x7.toInt64)).toInt32)) (cwV 1 hts gX5_load_X3_read rfl rfl rfl ⟨rfl, hd_X3_read⟩ ⟨(Nat.le_of_ble_eq_true rfl), (Nat.le_of_ble_eq_true rfl)⟩) hF hS hA (hP.sub [18, 22] rfl) (va_recv (q := (RX3, TX3, 3)) hK hP (ci := 3) rfl (q0 := 18) rfl) rfl hl.1 rfl (Nat.le_of_ble_eq_true rfl) ⟨(Nat.le_of_ble_eq_true rfl), (Nat.le_of_ble_eq_true rfl)⟩ dX5_load_119 ?_
                      refine W.eq (g2 := F0 m 122 ls [.int (s_X3_read (uS u64 1) ((p3.toInt64 + (4 * x7.toInt64)).toInt32)), .ref (a 0)]) rfl ?_
                      refine lv_aload hx hb dX5_load_122 (lv_at hl 4 rfl) ?_
                      refine lv_iload hx hb dX5_load_124 (lv_at hl 0 rfl) ?_
                      refine lv_iconst (v := 1) hx hb dX5_load_126 rfl ?_
                      refine lv_iadd hx hb dX5_load_127 ?_
                      refine xRoV (nL := 11) ⟨hx, hb, hml, hown, hts⟩ (c_X3_read l E (a 18) (a 22) (uS u64 1) (((p3.toInt64 + (4 * x7.toInt64)).toInt32) + 1)) (cwV 1 hts gX5_load_X3_read rfl rfl rfl ⟨rfl, hd_X3_read⟩ ⟨(Nat.le_of_ble_eq_true rfl), (Nat.le_of_ble_eq_true rfl)⟩) hF hS hA (hP.sub [18, 22] rfl) (va_recv (q := (RX3, TX3, 3)) hK hP (ci := 3) rfl (q0 := 18) rfl) rfl hl.1 rfl (Nat.le_of_ble_eq_true rfl) ⟨(Nat.le_of_ble_eq_true rfl), (Nat.le_of_ble_eq_true rfl)⟩ dX5_load_128 ?_
                      refine W.eq (g2 := F0 m 131 ls [.int (s_X3_read (uS u64 1) (((p3.toInt64 + (4 * x7.toInt64)).toInt32) + 1)), .int (s_X3_read (uS u64 1) ((p3.toInt64 + (4 * x7.toInt64)).toInt32)), .ref (a 0)]) rfl ?_
                      refine lv_aload hx hb dX5_load_131 (lv_at hl 4 rfl) ?_
                      refine lv_iload hx hb dX5_load_133 (lv_at hl 0 rfl) ?_
                      refine lv_iconst (v := 2) hx hb dX5_load_135 rfl ?_
                      refine lv_iadd hx hb dX5_load_136 ?_
                      refine xRoV (nL := 11) ⟨hx, hb, hml, hown, hts⟩ (c_X3_read l E (a 18) (a 22) (uS u64 1) (((p3.toInt64 + (4 * x7.toInt64)).toInt32) + 2)) (cwV 1 hts gX5_load_X3_read rfl rfl rfl ⟨rfl, hd_X3_read⟩ ⟨(Nat.le_of_ble_eq_true rfl), (Nat.le_of_ble_eq_true rfl)⟩) hF hS hA (hP.sub [18, 22] rfl) (va_recv (q := (RX3, TX3, 3)) hK hP (ci := 3) rfl (q0 := 18) rfl) rfl hl.1 rfl (Nat.le_of_ble_eq_true rfl) ⟨(Nat.le_of_ble_eq_true rfl), (Nat.le_of_ble_eq_true rfl)⟩ dX5_load_137 ?_
                      refine W.eq (g2 := F0 m 140 ls [.int (s_X3_read (uS u64 1) (((p3.toInt64 + (4 * x7.toInt64)).toInt32) + 2)), .int (s_X3_read (uS u64 1) (((p3.toInt64 + (4 * x7.toInt64)).toInt32) + 1)), .int (s_X3_read (uS u64 1) ((p3.toInt64 + (4 * x7.toInt64)).toInt32)), .ref (a 0)]) rfl ?_
                      refine lv_aload hx hb dX5_load_140 (lv_at hl 4 rfl) ?_
                      refine lv_iload hx hb dX5_load_142 (lv_at hl 0 rfl) ?_
                      refine lv_iconst (v := 3) hx hb dX5_load_144 rfl ?_
                      refine lv_iadd hx hb dX5_load_145 ?_
                      refine xRoV (nL := 11) ⟨hx, hb, hml, hown, hts⟩ (c_X3_read l E (a 18) (a 22) (uS u64 1) (((p3.toInt64 + (4 * x7.toInt64)).toInt32) + 3)) (cwV 1 hts gX5_load_X3_read rfl rfl rfl ⟨rfl, hd_X3_read⟩ ⟨(Nat.le_of_ble_eq_true rfl), (Nat.le_of_ble_eq_true rfl)⟩) hF hS hA (hP.sub [18, 22] rfl) (va_recv (q := (RX3, TX3, 3)) hK hP (ci := 3) rfl (q0 := 18) rfl) rfl hl.1 rfl (Nat.le_of_ble_eq_true rfl) ⟨(Nat.le_of_ble_eq_true rfl), (Nat.le_of_ble_eq_true rfl)⟩ dX5_load_146 ?_
                      refine W.eq (g2 := F0 m 149 ls [.int (s_X3_read (uS u64 1) (((p3.toInt64 + (4 * x7.toInt64)).toInt32) + 3)), .int (s_X3_read (uS u64 1) (((p3.toInt64 + (4 * x7.toInt64)).toInt32) + 2)), .int (s_X3_read (uS u64 1) (((p3.toInt64 + (4 * x7.toInt64)).toInt32) + 1)), .int (s_X3_read (uS u64 1) ((p3.toInt64 + (4 * x7.toInt64)).toInt32)), .ref (a 0)]) rfl ?_
                      refine xMdV (nL := 11) ⟨hx, hb, hml, hown, hts⟩ (c_X5_piece l E a u64 (s_X3_read (uS u64 1) ((p3.toInt64 + (4 * x7.toInt64)).toInt32)) (s_X3_read (uS u64 1) (((p3.toInt64 + (4 * x7.toInt64)).toInt32) + 1)) (s_X3_read (uS u64 1) (((p3.toInt64 + (4 * x7.toInt64)).toInt32) + 2)) (s_X3_read (uS u64 1) (((p3.toInt64 + (4 * x7.toInt64)).toInt32) + 3)) (hI0) hL) (cwV 4 hts gX5_load_X5_piece rfl rfl rfl ⟨rfl, hd_X5_piece⟩ ⟨(Nat.le_of_ble_eq_true rfl), (Nat.le_of_ble_eq_true rfl)⟩) hF hS hL.2 (fun _ h => h) hP (va_recv (q := (RX5, TX5, 9)) hK hP (ci := 5) rfl (q0 := 0) rfl) rfl hl.1 rfl (Nat.le_of_ble_eq_true rfl) ⟨(Nat.le_of_ble_eq_true rfl), (Nat.le_of_ble_eq_true rfl)⟩ dX5_load_149 (fun H locs hP _ hS => ?_)
                      refine W.eq (g2 := F0 m 152 ls [.int ((s_X5_piece u64 (s_X3_read (uS u64 1) ((p3.toInt64 + (4 * x7.toInt64)).toInt32)) (s_X3_read (uS u64 1) (((p3.toInt64 + (4 * x7.toInt64)).toInt32) + 1)) (s_X3_read (uS u64 1) (((p3.toInt64 + (4 * x7.toInt64)).toInt32) + 2)) (s_X3_read (uS u64 1) (((p3.toInt64 + (4 * x7.toInt64)).toInt32) + 3))).1)]) rfl ?_
                      refine lv_if_lt (tgt := 158) hx hb dX5_load_152 rfl (fun q17 => ?_) (fun q17 => ?_)
                      · have hR := hR.trans (if_pos q17)
                        refine lv_iinc (k := 2) (v := x7 + 1) (lv' := [(7, .int (x7 + 1)), (10, .int ((p3.toInt64 + (4 * x7.toInt64)).toInt32)), (8, .long (p3.toInt64 + (4 * x7.toInt64))), (6, .int x6), (5, .ref (a 18)), (0, .ref (a 0)), (1, .int p1), (2, .int p2), (3, .int p3), (4, .int p4)]) hx hb dX5_load_158 hl rfl rfl (by decide) rfl (fun ls hl => ?_)
                        refine lv_goto (tgt := 64) hx hb dX5_load_161 rfl ?_
                        exact ih64 ((s_X5_piece u64 (s_X3_read (uS u64 1) ((p3.toInt64 + (4 * x7.toInt64)).toInt32)) (s_X3_read (uS u64 1) (((p3.toInt64 + (4 * x7.toInt64)).toInt32) + 1)) (s_X3_read (uS u64 1) (((p3.toInt64 + (4 * x7.toInt64)).toInt32) + 2)) (s_X3_read (uS u64 1) (((p3.toInt64 + (4 * x7.toInt64)).toInt32) + 3))).2) x6 (x7 + 1) _ _ _ (by first | exact (xK_piece _ _ _ _ _).1 hI0 | exact hI0) (Nat.lt_of_lt_of_le (xupc q14) (Nat.le_of_lt_succ hM64)) hR (lv_sub hl [0, 3, 4, 5, 6, 7, 8, 9] rfl) hP hS
                      · have hR := hR.trans (if_neg q17)
                        refine lv_iinc (k := 3) (v := x6 + 1) (lv' := [(6, .int (x6 + 1)), (10, .int ((p3.toInt64 + (4 * x7.toInt64)).toInt32)), (8, .long (p3.toInt64 + (4 * x7.toInt64))), (7, .int x7), (5, .ref (a 18)), (0, .ref (a 0)), (1, .int p1), (2, .int p2), (3, .int p3), (4, .int p4)]) hx hb dX5_load_155 hl rfl rfl (by decide) rfl (fun ls hl => ?_)
                        refine lv_iinc (k := 3) (v := x7 + 1) (lv' := [(7, .int (x7 + 1)), (6, .int (x6 + 1)), (10, .int ((p3.toInt64 + (4 * x7.toInt64)).toInt32)), (8, .long (p3.toInt64 + (4 * x7.toInt64))), (5, .ref (a 18)), (0, .ref (a 0)), (1, .int p1), (2, .int p2), (3, .int p3), (4, .int p4)]) hx hb dX5_load_158 hl rfl rfl (by decide) rfl (fun ls hl => ?_)
                        refine lv_goto (tgt := 64) hx hb dX5_load_161 rfl ?_
                        exact ih64 ((s_X5_piece u64 (s_X3_read (uS u64 1) ((p3.toInt64 + (4 * x7.toInt64)).toInt32)) (s_X3_read (uS u64 1) (((p3.toInt64 + (4 * x7.toInt64)).toInt32) + 1)) (s_X3_read (uS u64 1) (((p3.toInt64 + (4 * x7.toInt64)).toInt32) + 2)) (s_X3_read (uS u64 1) (((p3.toInt64 + (4 * x7.toInt64)).toInt32) + 3))).2) (x6 + 1) (x7 + 1) _ _ _ (by first | exact (xK_piece _ _ _ _ _).1 hI0 | exact hI0) (Nat.lt_of_lt_of_le (xupc q14) (Nat.le_of_lt_succ hM64)) hR (lv_sub hl [0, 1, 4, 5, 6, 7, 8, 9] rfl) hP hS
                    · have hR := hR.trans (if_neg q16)
                      refine lv_bipush (v := (-12)) hx hb dX5_load_106 rfl ?_
                      have hR : s_X5_load u p1 p2 p3 p4 = ((-12), u64) := hR
                      exact W.iret (v := (-12)) hx hb hr (fun t ht _ => by rw [hR]; dsimp only; exact ⟨⟨rfl, by rw [ht]; exact hP⟩, hS.F ht⟩) hS.2.2 dX5_load_108
            exact L64 ((p4.toInt - (0 : Int32).toInt).toNat + 1) u 0 0 _ _ ls (hp0) (Nat.lt_succ_self _) hR hl hP hS
          · have hR := hR.trans (if_neg q13)
            refine lv_bipush (v := (-13)) hx hb dX5_load_55 rfl ?_
            have hR : s_X5_load u p1 p2 p3 p4 = ((-13), u) := hR
            exact W.iret (v := (-13)) hx hb hr (fun t ht _ => by rw [hR]; dsimp only; exact ⟨⟨rfl, by rw [ht]; exact hP⟩, hS.F ht⟩) hS.2.2 dX5_load_57
        · have hR := hR.trans (if_neg q12)
          refine lv_bipush (v := (-11)) hx hb dX5_load_43 rfl ?_
          have hR : s_X5_load u p1 p2 p3 p4 = ((-11), u) := hR
          exact W.iret (v := (-11)) hx hb hr (fun t ht _ => by rw [hR]; dsimp only; exact ⟨⟨rfl, by rw [ht]; exact hP⟩, hS.F ht⟩) hS.2.2 dX5_load_45
      · have hR := hR.trans (if_pos q11)
        refine lv_bipush (v := (-2)) hx hb dX5_load_32 rfl ?_
        have hR : s_X5_load u p1 p2 p3 p4 = ((-2), u) := hR
        exact W.iret (v := (-2)) hx hb hr (fun t ht _ => by rw [hR]; dsimp only; exact ⟨⟨rfl, by rw [ht]; exact hP⟩, hS.F ht⟩) hS.2.2 dX5_load_34
  have hR := hR.trans (if_neg t1_1)
  by_cases t1_2 : p1 = 2
  · have hR := hR.trans (if_pos t1_2)
    refine xRoV (nL := 11) ⟨hx, hb, hml, hown, hts⟩ (c_X5_sheetOf l E a u p1 2 (by decide) t1_2) (cwV 1 hts gX5_load_X5_sheetOf rfl rfl rfl ⟨rfl, hd_X5_sheetOf⟩ ⟨(Nat.le_of_ble_eq_true rfl), (Nat.le_of_ble_eq_true rfl)⟩) hF hS hA hP (va_recv (q := (RX5, TX5, 9)) hK hP (ci := 5) rfl (q0 := 0) rfl) rfl hl.1 rfl (Nat.le_of_ble_eq_true rfl) ⟨(Nat.le_of_ble_eq_true rfl), (Nat.le_of_ble_eq_true rfl)⟩ dX5_load_2 ?_
    refine W.eq (g2 := F0 m 5 ls [.ref (a 19)]) rfl ?_
    refine lv_astore (lv' := [(5, .ref (a 19)), (0, .ref (a 0)), (1, .int p1), (2, .int p2), (3, .int p3), (4, .int p4)]) hx hb dX5_load_5 hl (by decide) rfl (fun ls hl => ?_)
    refine lv_aload hx hb dX5_load_7 (lv_at hl 0 rfl) ?_
    refine lv_ifnull hx hb dX5_load_9 ?_
    refine lv_iload_n hx hb dX5_load_12 rfl (lv_at hl 3 rfl) ?_
    refine lv_iconst (v := 0) hx hb dX5_load_13 rfl ?_
    refine lv_iconst (v := 1) hx hb dX5_load_14 rfl ?_
    refine xRoS (nL := 11) ⟨hx, hb, hml, hown, hts⟩ (c_X5_within l E p2 0 1) (va_cwS 3 hts gX5_load_X5_within rfl rfl rfl hd_X5_within ⟨(Nat.le_of_ble_eq_true rfl), (Nat.le_of_ble_eq_true rfl)⟩) hF hS hA (hP.sub [] rfl) rfl hl.1 rfl (Nat.le_of_ble_eq_true rfl) ⟨(Nat.le_of_ble_eq_true rfl), (Nat.le_of_ble_eq_true rfl)⟩ dX5_load_15 ?_
    refine W.eq (g2 := F0 m 18 ls [.int (s_X5_within p2 0 1)]) rfl ?_
    refine lv_if_eq (tgt := 32) hx hb dX5_load_18 rfl (fun q18 => ?_) (fun q18 => ?_)
    · have hR := hR.trans (if_pos q18)
      refine lv_bipush (v := (-2)) hx hb dX5_load_32 rfl ?_
      have hR : s_X5_load u p1 p2 p3 p4 = ((-2), u) := hR
      exact W.iret (v := (-2)) hx hb hr (fun t ht _ => by rw [hR]; dsimp only; exact ⟨⟨rfl, by rw [ht]; exact hP⟩, hS.F ht⟩) hS.2.2 dX5_load_34
    · have hR := hR.trans (if_neg q18)
      refine lv_iload hx hb dX5_load_21 (lv_at hl 5 rfl) ?_
      refine lv_iconst (v := 0) hx hb dX5_load_23 rfl ?_
      refine lv_bipush (v := 10) hx hb dX5_load_24 rfl ?_
      refine xRoS (nL := 11) ⟨hx, hb, hml, hown, hts⟩ (c_X5_within l E p4 0 10) (va_cwS 3 hts gX5_load_X5_within rfl rfl rfl hd_X5_within ⟨(Nat.le_of_ble_eq_true rfl), (Nat.le_of_ble_eq_true rfl)⟩) hF hS hA (hP.sub [] rfl) rfl hl.1 rfl (Nat.le_of_ble_eq_true rfl) ⟨(Nat.le_of_ble_eq_true rfl), (Nat.le_of_ble_eq_true rfl)⟩ dX5_load_26 ?_
      refine W.eq (g2 := F0 m 29 ls [.int (s_X5_within p4 0 10)]) rfl ?_
      refine lv_if_ne (tgt := 35) hx hb dX5_load_29 rfl (fun q19 => ?_) (fun q19 => ?_)
      · have hR := hR.trans (if_neg q19)
        refine lv_aload hx hb dX5_load_35 (lv_at hl 0 rfl) ?_
        refine xRoV (nL := 11) ⟨hx, hb, hml, hown, hts⟩ (c_X3_isMissing l E (a 19) (a 23) (uS u 2) ) (cwV 0 hts gX5_load_X3_isMissing rfl rfl rfl ⟨rfl, hd_X3_isMissing⟩ ⟨(Nat.le_of_ble_eq_true rfl), (Nat.le_of_ble_eq_true rfl)⟩) hF hS hA (hP.sub [19, 23] rfl) (va_recv (q := (RX3, TX3, 3)) hK hP (ci := 3) rfl (q0 := 19) rfl) rfl hl.1 rfl (Nat.le_of_ble_eq_true rfl) ⟨(Nat.le_of_ble_eq_true rfl), (Nat.le_of_ble_eq_true rfl)⟩ dX5_load_37 ?_
        refine W.eq (g2 := F0 m 40 ls [.int (s_X3_isMissing (uS u 2))]) rfl ?_
        refine lv_if_eq (tgt := 46) hx hb dX5_load_40 rfl (fun q20 => ?_) (fun q20 => ?_)
        · have hR := hR.trans (if_pos q20)
          refine lv_aload hx hb dX5_load_46 (lv_at hl 0 rfl) ?_
          refine va_get (D := xD E) (ci := 3) (v := .int (u.2 6)) (C := RX3) (T := TX3) (N := 3) hx hb hts (by decide +kernel) hown hK hP 19 rfl rfl 1 (by decide) (hts (.fieldLink RX5 329 "RailOffsets$Sheet" "sort" "I") (by decide +kernel)) (fun _ h => h) rfl dX5_load_48 ?_
          refine lv_iload_n hx hb dX5_load_51 rfl (lv_at hl 3 rfl) ?_
          refine lv_icmp_eq (tgt := 58) hx hb dX5_load_52 rfl (fun q21 => ?_) (fun q21 => ?_)
          · have hR := hR.trans (if_pos q21)
            refine lv_iconst (v := 0) hx hb dX5_load_58 rfl ?_
            refine lv_istore (lv' := [(6, .int 0), (5, .ref (a 19)), (0, .ref (a 0)), (1, .int p1), (2, .int p2), (3, .int p3), (4, .int p4)]) hx hb dX5_load_59 hl (by decide) rfl (fun ls hl => ?_)
            refine lv_iconst (v := 0) hx hb dX5_load_61 rfl ?_
            refine lv_istore (lv' := [(7, .int 0), (6, .int 0), (5, .ref (a 19)), (0, .ref (a 0)), (1, .int p1), (2, .int p2), (3, .int p3), (4, .int p4)]) hx hb dX5_load_62 hl (by decide) rfl (fun ls hl => ?_)
            have L64 : ∀ (n64 : Nat) (u64 : xU) (x6 : Int32) (x7 : Int32) (H : Heap) (locs : List Loc) (ls : Array Slot), (XV (u64.1 2) (u64.2 1)) → (p4.toInt - x7.toInt).toNat < n64 → s_X5_load u p1 p2 p3 p4 = s_X5_load_L64_2 n64 u64 p1 p2 p3 p4 x6 x7 → lv_has ls 11 [(7, .int x7), (6, .int x6), (5, .ref (a 19)), (0, .ref (a 0)), (1, .int p1), (2, .int p2), (3, .int p3), (4, .int p4)] → va_P (xD E) vwCl (wX E a u64) H → va_S (· ∈ LX a) s.heap H locs → W p l e rm_X5_load s m ([.ref (a 0), .int p1, .int p2, .int p3, .int p4] : List Value).toArray below meth c H locs 0 0 (xQmd E below (LX a) (some (.int ((s_X5_load u p1 p2 p3 p4).1))) (wX E a ((s_X5_load u p1 p2 p3 p4).2)) ([.ref (a 0), .int p1, .int p2, .int p3, .int p4] : List Value).toArray s) (F0 m 64 ls []) := by
              intro n64
              induction n64 with
              | zero => intro u64 x6 x7 H locs ls hI0 hM64 hR hl hP hS; exact absurd hM64 (Nat.not_lt_zero _)
              | succ n64 ih64 =>
                intro u64 x6 x7 H locs ls hI0 hM64 hR hl hP hS
                refine lv_iload hx hb dX5_load_64 (lv_at hl 0 rfl) ?_
                refine lv_iload hx hb dX5_load_66 (lv_at hl 7 rfl) ?_
                refine lv_icmp_ge (tgt := 164) hx hb dX5_load_68 rfl (fun q22 => ?_) (fun q22 => ?_)
                · have hR := hR.trans (if_pos q22)
                  refine lv_iload hx hb dX5_load_164 (lv_at hl 1 rfl) ?_
                  have hR : s_X5_load u p1 p2 p3 p4 = (x6, u64) := hR
                  exact W.iret (v := x6) hx hb hr (fun t ht _ => by rw [hR]; dsimp only; exact ⟨⟨rfl, by rw [ht]; exact hP⟩, hS.F ht⟩) hS.2.2 dX5_load_166
                · have hR := hR.trans (if_neg q22)
                  refine lv_iload_n hx hb dX5_load_71 rfl (lv_at hl 6 rfl) ?_
                  refine lv_i2l hx hb dX5_load_72 rfl ?_
                  refine lv_ldc2 (v := 4) hx hb hown (hts (.constantLong RX5 332 (4)) (by decide +kernel)) dX5_load_73 ?_
                  refine lv_iload hx hb dX5_load_76 (lv_at hl 0 rfl) ?_
                  refine lv_i2l hx hb dX5_load_78 rfl ?_
                  refine lv_lmul hx hb dX5_load_79 ?_
                  refine lv_ladd hx hb dX5_load_80 ?_
                  refine lv_lstore (lv' := [(8, .long (p3.toInt64 + (4 * x7.toInt64))), (7, .int x7), (6, .int x6), (5, .ref (a 19)), (0, .ref (a 0)), (1, .int p1), (2, .int p2), (3, .int p3), (4, .int p4)]) hx hb dX5_load_81 hl (by decide) rfl (fun ls hl => ?_)
                  refine lv_lload hx hb dX5_load_83 (lv_at hl 0 rfl) ?_
                  refine lv_lconst (v := 0) hx hb dX5_load_85 rfl ?_
                  refine W.lcmp hx hb dX5_load_86 ?_
                  refine lv_if_lt (tgt := 106) hx hb dX5_load_87 rfl (fun q23 => ?_) (fun q23 => ?_)
                  · have hR := hR.trans (if_pos q23)
                    refine lv_bipush (v := (-12)) hx hb dX5_load_106 rfl ?_
                    have hR : s_X5_load u p1 p2 p3 p4 = ((-12), u64) := hR
                    exact W.iret (v := (-12)) hx hb hr (fun t ht _ => by rw [hR]; dsimp only; exact ⟨⟨rfl, by rw [ht]; exact hP⟩, hS.F ht⟩) hS.2.2 dX5_load_108
                  · have hR := hR.trans (if_neg q23)
                    refine lv_lload hx hb dX5_load_90 (lv_at hl 0 rfl) ?_
                    refine lv_ldc2 (v := 4) hx hb hown (hts (.constantLong RX5 332 (4)) (by decide +kernel)) dX5_load_92 ?_
                    refine lv_ladd hx hb dX5_load_95 ?_
                    refine lv_aload hx hb dX5_load_96 (lv_at hl 3 rfl) ?_
                    refine va_get (D := xD E) (ci := 3) (v := .int (u64.2 10)) (C := RX3) (T := TX3) (N := 3) hx hb hts (by decide +kernel) hown hK hP 19 rfl rfl 2 (by decide) (hts (.fieldLink RX5 264 "RailOffsets$Sheet" "size" "I") (by decide +kernel)) (fun _ h => h) rfl dX5_load_98 ?_
                    refine lv_i2l hx hb dX5_load_101 rfl ?_
                    refine W.lcmp hx hb dX5_load_102 ?_
                    refine lv_if_le (tgt := 109) hx hb dX5_load_103 rfl (fun q24 => ?_) (fun q24 => ?_)
                    · have hR := hR.trans (if_pos q24)
                      refine lv_lload hx hb dX5_load_109 (lv_at hl 0 rfl) ?_
                      refine lv_l2i hx hb dX5_load_111 rfl ?_
                      refine lv_istore (lv' := [(10, .int ((p3.toInt64 + (4 * x7.toInt64)).toInt32)), (8, .long (p3.toInt64 + (4 * x7.toInt64))), (7, .int x7), (6, .int x6), (5, .ref (a 19)), (0, .ref (a 0)), (1, .int p1), (2, .int p2), (3, .int p3), (4, .int p4)]) hx hb dX5_load_112 hl (by decide) rfl (fun ls hl => ?_)
                      refine lv_aload_n hx hb dX5_load_114 rfl (lv_at hl 5 rfl) ?_
                      refine lv_aload hx hb dX5_load_115 (lv_at hl 4 rfl) ?_
                      refine lv_iload hx hb dX5_load_117 (lv_at hl 0 rfl) ?_
                      refine xRoV (nL := 11) ⟨hx, hb, hml, hown, hts⟩ (c_X3_read l E (a 19) (a 23) (uS u64 2) ((p3.toInt64 + (4 * x7.toInt64)).toInt32)) (cwV 1 hts gX5_load_X3_read rfl rfl rfl ⟨rfl, hd_X3_read⟩ ⟨(Nat.le_of_ble_eq_true rfl), (Nat.le_of_ble_eq_true rfl)⟩) hF hS hA (hP.sub [19, 23] rfl) (va_recv (q := (RX3, TX3, 3)) hK hP (ci := 3) rfl (q0 := 19) rfl) rfl hl.1 rfl (Nat.le_of_ble_eq_true rfl) ⟨(Nat.le_of_ble_eq_true rfl), (Nat.le_of_ble_eq_true rfl)⟩ dX5_load_119 ?_
                      refine W.eq (g2 := F0 m 122 ls [.int (s_X3_read (uS u64 2) ((p3.toInt64 + (4 * x7.toInt64)).toInt32)), .ref (a 0)]) rfl ?_
                      refine lv_aload hx hb dX5_load_122 (lv_at hl 4 rfl) ?_
                      refine lv_iload hx hb dX5_load_124 (lv_at hl 0 rfl) ?_
                      refine lv_iconst (v := 1) hx hb dX5_load_126 rfl ?_
                      refine lv_iadd hx hb dX5_load_127 ?_
                      refine xRoV (nL := 11) ⟨hx, hb, hml, hown, hts⟩ (c_X3_read l E (a 19) (a 23) (uS u64 2) (((p3.toInt64 + (4 * x7.toInt64)).toInt32) + 1)) (cwV 1 hts gX5_load_X3_read rfl rfl rfl ⟨rfl, hd_X3_read⟩ ⟨(Nat.le_of_ble_eq_true rfl), (Nat.le_of_ble_eq_true rfl)⟩) hF hS hA (hP.sub [19, 23] rfl) (va_recv (q := (RX3, TX3, 3)) hK hP (ci := 3) rfl (q0 := 19) rfl) rfl hl.1 rfl (Nat.le_of_ble_eq_true rfl) ⟨(Nat.le_of_ble_eq_true rfl), (Nat.le_of_ble_eq_true rfl)⟩ dX5_load_128 ?_
                      refine W.eq (g2 := F0 m 131 ls [.int (s_X3_read (uS u64 2) (((p3.toInt64 + (4 * x7.toInt64)).toInt32) + 1)), .int (s_X3_read (uS u64 2) ((p3.toInt64 + (4 * x7.toInt64)).toInt32)), .ref (a 0)]) rfl ?_
                      refine lv_aload hx hb dX5_load_131 (lv_at hl 4 rfl) ?_
                      refine lv_iload hx hb dX5_load_133 (lv_at hl 0 rfl) ?_
                      refine lv_iconst (v := 2) hx hb dX5_load_135 rfl ?_
                      refine lv_iadd hx hb dX5_load_136 ?_
                      refine xRoV (nL := 11) ⟨hx, hb, hml, hown, hts⟩ (c_X3_read l E (a 19) (a 23) (uS u64 2) (((p3.toInt64 + (4 * x7.toInt64)).toInt32) + 2)) (cwV 1 hts gX5_load_X3_read rfl rfl rfl ⟨rfl, hd_X3_read⟩ ⟨(Nat.le_of_ble_eq_true rfl), (Nat.le_of_ble_eq_true rfl)⟩) hF hS hA (hP.sub [19, 23] rfl) (va_recv (q := (RX3, TX3, 3)) hK hP (ci := 3) rfl (q0 := 19) rfl) rfl hl.1 rfl (Nat.le_of_ble_eq_true rfl) ⟨(Nat.le_of_ble_eq_true rfl), (Nat.le_of_ble_eq_true rfl)⟩ dX5_load_137 ?_
                      refine W.eq (g2 := F0 m 140 ls [.int (s_X3_read (uS u64 2) (((p3.toInt64 + (4 * x7.toInt64)).toInt32) + 2)), .int (s_X3_read (uS u64 2) (((p3.toInt64 + (4 * x7.toInt64)).toInt32) + 1)), .int (s_X3_read (uS u64 2) ((p3.toInt64 + (4 * x7.toInt64)).toInt32)), .ref (a 0)]) rfl ?_
                      refine lv_aload hx hb dX5_load_140 (lv_at hl 4 rfl) ?_
                      refine lv_iload hx hb dX5_load_142 (lv_at hl 0 rfl) ?_
                      refine lv_iconst (v := 3) hx hb dX5_load_144 rfl ?_
                      refine lv_iadd hx hb dX5_load_145 ?_
                      refine xRoV (nL := 11) ⟨hx, hb, hml, hown, hts⟩ (c_X3_read l E (a 19) (a 23) (uS u64 2) (((p3.toInt64 + (4 * x7.toInt64)).toInt32) + 3)) (cwV 1 hts gX5_load_X3_read rfl rfl rfl ⟨rfl, hd_X3_read⟩ ⟨(Nat.le_of_ble_eq_true rfl), (Nat.le_of_ble_eq_true rfl)⟩) hF hS hA (hP.sub [19, 23] rfl) (va_recv (q := (RX3, TX3, 3)) hK hP (ci := 3) rfl (q0 := 19) rfl) rfl hl.1 rfl (Nat.le_of_ble_eq_true rfl) ⟨(Nat.le_of_ble_eq_true rfl), (Nat.le_of_ble_eq_true rfl)⟩ dX5_load_146 ?_
                      refine W.eq (g2 := F0 m 149 ls [.int (s_X3_read (uS u64 2) (((p3.toInt64 + (4 * x7.toInt64)).toInt32) + 3)), .int (s_X3_read (uS u64 2) (((p3.toInt64 + (4 * x7.toInt64)).toInt32) + 2)), .int (s_X3_read (uS u64 2) (((p3.toInt64 + (4 * x7.toInt64)).toInt32) + 1)), .int (s_X3_read (uS u64 2) ((p3.toInt64 + (4 * x7.toInt64)).toInt32)), .ref (a 0)]) rfl ?_
                      refine xMdV (nL := 11) ⟨hx, hb, hml, hown, hts⟩ (c_X5_piece l E a u64 (s_X3_read (uS u64 2) ((p3.toInt64 + (4 * x7.toInt64)).toInt32)) (s_X3_read (uS u64 2) (((p3.toInt64 + (4 * x7.toInt64)).toInt32) + 1)) (s_X3_read (uS u64 2) (((p3.toInt64 + (4 * x7.toInt64)).toInt32) + 2)) (s_X3_read (uS u64 2) (((p3.toInt64 + (4 * x7.toInt64)).toInt32) + 3)) (hI0) hL) (cwV 4 hts gX5_load_X5_piece rfl rfl rfl ⟨rfl, hd_X5_piece⟩ ⟨(Nat.le_of_ble_eq_true rfl), (Nat.le_of_ble_eq_true rfl)⟩) hF hS hL.2 (fun _ h => h) hP (va_recv (q := (RX5, TX5, 9)) hK hP (ci := 5) rfl (q0 := 0) rfl) rfl hl.1 rfl (Nat.le_of_ble_eq_true rfl) ⟨(Nat.le_of_ble_eq_true rfl), (Nat.le_of_ble_eq_true rfl)⟩ dX5_load_149 (fun H locs hP _ hS => ?_)
                      refine W.eq (g2 := F0 m 152 ls [.int ((s_X5_piece u64 (s_X3_read (uS u64 2) ((p3.toInt64 + (4 * x7.toInt64)).toInt32)) (s_X3_read (uS u64 2) (((p3.toInt64 + (4 * x7.toInt64)).toInt32) + 1)) (s_X3_read (uS u64 2) (((p3.toInt64 + (4 * x7.toInt64)).toInt32) + 2)) (s_X3_read (uS u64 2) (((p3.toInt64 + (4 * x7.toInt64)).toInt32) + 3))).1)]) rfl ?_
                      refine lv_if_lt (tgt := 158) hx hb dX5_load_152 rfl (fun q25 => ?_) (fun q25 => ?_)
                      · have hR := hR.trans (if_pos q25)
                        refine lv_iinc (k := 2) (v := x7 + 1) (lv' := [(7, .int (x7 + 1)), (10, .int ((p3.toInt64 + (4 * x7.toInt64)).toInt32)), (8, .long (p3.toInt64 + (4 * x7.toInt64))), (6, .int x6), (5, .ref (a 19)), (0, .ref (a 0)), (1, .int p1), (2, .int p2), (3, .int p3), (4, .int p4)]) hx hb dX5_load_158 hl rfl rfl (by decide) rfl (fun ls hl => ?_)
                        refine lv_goto (tgt := 64) hx hb dX5_load_161 rfl ?_
                        exact ih64 ((s_X5_piece u64 (s_X3_read (uS u64 2) ((p3.toInt64 + (4 * x7.toInt64)).toInt32)) (s_X3_read (uS u64 2) (((p3.toInt64 + (4 * x7.toInt64)).toInt32) + 1)) (s_X3_read (uS u64 2) (((p3.toInt64 + (4 * x7.toInt64)).toInt32) + 2)) (s_X3_read (uS u64 2) (((p3.toInt64 + (4 * x7.toInt64)).toInt32) + 3))).2) x6 (x7 + 1) _ _ _ (by first | exact (xK_piece _ _ _ _ _).1 hI0 | exact hI0) (Nat.lt_of_lt_of_le (xupc q22) (Nat.le_of_lt_succ hM64)) hR (lv_sub hl [0, 3, 4, 5, 6, 7, 8, 9] rfl) hP hS
                      · have hR := hR.trans (if_neg q25)
                        refine lv_iinc (k := 3) (v := x6 + 1) (lv' := [(6, .int (x6 + 1)), (10, .int ((p3.toInt64 + (4 * x7.toInt64)).toInt32)), (8, .long (p3.toInt64 + (4 * x7.toInt64))), (7, .int x7), (5, .ref (a 19)), (0, .ref (a 0)), (1, .int p1), (2, .int p2), (3, .int p3), (4, .int p4)]) hx hb dX5_load_155 hl rfl rfl (by decide) rfl (fun ls hl => ?_)
                        refine lv_iinc (k := 3) (v := x7 + 1) (lv' := [(7, .int (x7 + 1)), (6, .int (x6 + 1)), (10, .int ((p3.toInt64 + (4 * x7.toInt64)).toInt32)), (8, .long (p3.toInt64 + (4 * x7.toInt64))), (5, .ref (a 19)), (0, .ref (a 0)), (1, .int p1), (2, .int p2), (3, .int p3), (4, .int p4)]) hx hb dX5_load_158 hl rfl rfl (by decide) rfl (fun ls hl => ?_)
                        refine lv_goto (tgt := 64) hx hb dX5_load_161 rfl ?_
                        exact ih64 ((s_X5_piece u64 (s_X3_read (uS u64 2) ((p3.toInt64 + (4 * x7.toInt64)).toInt32)) (s_X3_read (uS u64 2) (((p3.toInt64 + (4 * x7.toInt64)).toInt32) + 1)) (s_X3_read (uS u64 2) (((p3.toInt64 + (4 * x7.toInt64)).toInt32) + 2)) (s_X3_read (uS u64 2) (((p3.toInt64 + (4 * x7.toInt64)).toInt32) + 3))).2) (x6 + 1) (x7 + 1) _ _ _ (by first | exact (xK_piece _ _ _ _ _).1 hI0 | exact hI0) (Nat.lt_of_lt_of_le (xupc q22) (Nat.le_of_lt_succ hM64)) hR (lv_sub hl [0, 1, 4, 5, 6, 7, 8, 9] rfl) hP hS
                    · have hR := hR.trans (if_neg q24)
                      refine lv_bipush (v := (-12)) hx hb dX5_load_106 rfl ?_
                      have hR : s_X5_load u p1 p2 p3 p4 = ((-12), u64) := hR
                      exact W.iret (v := (-12)) hx hb hr (fun t ht _ => by rw [hR]; dsimp only; exact ⟨⟨rfl, by rw [ht]; exact hP⟩, hS.F ht⟩) hS.2.2 dX5_load_108
            exact L64 ((p4.toInt - (0 : Int32).toInt).toNat + 1) u 0 0 _ _ ls (hp0) (Nat.lt_succ_self _) hR hl hP hS
          · have hR := hR.trans (if_neg q21)
            refine lv_bipush (v := (-13)) hx hb dX5_load_55 rfl ?_
            have hR : s_X5_load u p1 p2 p3 p4 = ((-13), u) := hR
            exact W.iret (v := (-13)) hx hb hr (fun t ht _ => by rw [hR]; dsimp only; exact ⟨⟨rfl, by rw [ht]; exact hP⟩, hS.F ht⟩) hS.2.2 dX5_load_57
        · have hR := hR.trans (if_neg q20)
          refine lv_bipush (v := (-11)) hx hb dX5_load_43 rfl ?_
          have hR : s_X5_load u p1 p2 p3 p4 = ((-11), u) := hR
          exact W.iret (v := (-11)) hx hb hr (fun t ht _ => by rw [hR]; dsimp only; exact ⟨⟨rfl, by rw [ht]; exact hP⟩, hS.F ht⟩) hS.2.2 dX5_load_45
      · have hR := hR.trans (if_pos q19)
        refine lv_bipush (v := (-2)) hx hb dX5_load_32 rfl ?_
        have hR : s_X5_load u p1 p2 p3 p4 = ((-2), u) := hR
        exact W.iret (v := (-2)) hx hb hr (fun t ht _ => by rw [hR]; dsimp only; exact ⟨⟨rfl, by rw [ht]; exact hP⟩, hS.F ht⟩) hS.2.2 dX5_load_34
  have hR := hR.trans (if_neg t1_2)
  by_cases t1_3 : p1 = 3
  · have hR := hR.trans (if_pos t1_3)
    refine xRoV (nL := 11) ⟨hx, hb, hml, hown, hts⟩ (c_X5_sheetOf l E a u p1 3 (by decide) t1_3) (cwV 1 hts gX5_load_X5_sheetOf rfl rfl rfl ⟨rfl, hd_X5_sheetOf⟩ ⟨(Nat.le_of_ble_eq_true rfl), (Nat.le_of_ble_eq_true rfl)⟩) hF hS hA hP (va_recv (q := (RX5, TX5, 9)) hK hP (ci := 5) rfl (q0 := 0) rfl) rfl hl.1 rfl (Nat.le_of_ble_eq_true rfl) ⟨(Nat.le_of_ble_eq_true rfl), (Nat.le_of_ble_eq_true rfl)⟩ dX5_load_2 ?_
    refine W.eq (g2 := F0 m 5 ls [.ref (a 20)]) rfl ?_
    refine lv_astore (lv' := [(5, .ref (a 20)), (0, .ref (a 0)), (1, .int p1), (2, .int p2), (3, .int p3), (4, .int p4)]) hx hb dX5_load_5 hl (by decide) rfl (fun ls hl => ?_)
    refine lv_aload hx hb dX5_load_7 (lv_at hl 0 rfl) ?_
    refine lv_ifnull hx hb dX5_load_9 ?_
    refine lv_iload_n hx hb dX5_load_12 rfl (lv_at hl 3 rfl) ?_
    refine lv_iconst (v := 0) hx hb dX5_load_13 rfl ?_
    refine lv_iconst (v := 1) hx hb dX5_load_14 rfl ?_
    refine xRoS (nL := 11) ⟨hx, hb, hml, hown, hts⟩ (c_X5_within l E p2 0 1) (va_cwS 3 hts gX5_load_X5_within rfl rfl rfl hd_X5_within ⟨(Nat.le_of_ble_eq_true rfl), (Nat.le_of_ble_eq_true rfl)⟩) hF hS hA (hP.sub [] rfl) rfl hl.1 rfl (Nat.le_of_ble_eq_true rfl) ⟨(Nat.le_of_ble_eq_true rfl), (Nat.le_of_ble_eq_true rfl)⟩ dX5_load_15 ?_
    refine W.eq (g2 := F0 m 18 ls [.int (s_X5_within p2 0 1)]) rfl ?_
    refine lv_if_eq (tgt := 32) hx hb dX5_load_18 rfl (fun q26 => ?_) (fun q26 => ?_)
    · have hR := hR.trans (if_pos q26)
      refine lv_bipush (v := (-2)) hx hb dX5_load_32 rfl ?_
      have hR : s_X5_load u p1 p2 p3 p4 = ((-2), u) := hR
      exact W.iret (v := (-2)) hx hb hr (fun t ht _ => by rw [hR]; dsimp only; exact ⟨⟨rfl, by rw [ht]; exact hP⟩, hS.F ht⟩) hS.2.2 dX5_load_34
    · have hR := hR.trans (if_neg q26)
      refine lv_iload hx hb dX5_load_21 (lv_at hl 5 rfl) ?_
      refine lv_iconst (v := 0) hx hb dX5_load_23 rfl ?_
      refine lv_bipush (v := 10) hx hb dX5_load_24 rfl ?_
      refine xRoS (nL := 11) ⟨hx, hb, hml, hown, hts⟩ (c_X5_within l E p4 0 10) (va_cwS 3 hts gX5_load_X5_within rfl rfl rfl hd_X5_within ⟨(Nat.le_of_ble_eq_true rfl), (Nat.le_of_ble_eq_true rfl)⟩) hF hS hA (hP.sub [] rfl) rfl hl.1 rfl (Nat.le_of_ble_eq_true rfl) ⟨(Nat.le_of_ble_eq_true rfl), (Nat.le_of_ble_eq_true rfl)⟩ dX5_load_26 ?_
      refine W.eq (g2 := F0 m 29 ls [.int (s_X5_within p4 0 10)]) rfl ?_
      refine lv_if_ne (tgt := 35) hx hb dX5_load_29 rfl (fun q27 => ?_) (fun q27 => ?_)
      · have hR := hR.trans (if_neg q27)
        refine lv_aload hx hb dX5_load_35 (lv_at hl 0 rfl) ?_
        refine xRoV (nL := 11) ⟨hx, hb, hml, hown, hts⟩ (c_X3_isMissing l E (a 20) (a 24) (uS u 3) ) (cwV 0 hts gX5_load_X3_isMissing rfl rfl rfl ⟨rfl, hd_X3_isMissing⟩ ⟨(Nat.le_of_ble_eq_true rfl), (Nat.le_of_ble_eq_true rfl)⟩) hF hS hA (hP.sub [20, 24] rfl) (va_recv (q := (RX3, TX3, 3)) hK hP (ci := 3) rfl (q0 := 20) rfl) rfl hl.1 rfl (Nat.le_of_ble_eq_true rfl) ⟨(Nat.le_of_ble_eq_true rfl), (Nat.le_of_ble_eq_true rfl)⟩ dX5_load_37 ?_
        refine W.eq (g2 := F0 m 40 ls [.int (s_X3_isMissing (uS u 3))]) rfl ?_
        refine lv_if_eq (tgt := 46) hx hb dX5_load_40 rfl (fun q28 => ?_) (fun q28 => ?_)
        · have hR := hR.trans (if_pos q28)
          refine lv_aload hx hb dX5_load_46 (lv_at hl 0 rfl) ?_
          refine va_get (D := xD E) (ci := 3) (v := .int (u.2 7)) (C := RX3) (T := TX3) (N := 3) hx hb hts (by decide +kernel) hown hK hP 20 rfl rfl 1 (by decide) (hts (.fieldLink RX5 329 "RailOffsets$Sheet" "sort" "I") (by decide +kernel)) (fun _ h => h) rfl dX5_load_48 ?_
          refine lv_iload_n hx hb dX5_load_51 rfl (lv_at hl 3 rfl) ?_
          refine lv_icmp_eq (tgt := 58) hx hb dX5_load_52 rfl (fun q29 => ?_) (fun q29 => ?_)
          · have hR := hR.trans (if_pos q29)
            refine lv_iconst (v := 0) hx hb dX5_load_58 rfl ?_
            refine lv_istore (lv' := [(6, .int 0), (5, .ref (a 20)), (0, .ref (a 0)), (1, .int p1), (2, .int p2), (3, .int p3), (4, .int p4)]) hx hb dX5_load_59 hl (by decide) rfl (fun ls hl => ?_)
            refine lv_iconst (v := 0) hx hb dX5_load_61 rfl ?_
            refine lv_istore (lv' := [(7, .int 0), (6, .int 0), (5, .ref (a 20)), (0, .ref (a 0)), (1, .int p1), (2, .int p2), (3, .int p3), (4, .int p4)]) hx hb dX5_load_62 hl (by decide) rfl (fun ls hl => ?_)
            have L64 : ∀ (n64 : Nat) (u64 : xU) (x6 : Int32) (x7 : Int32) (H : Heap) (locs : List Loc) (ls : Array Slot), (XV (u64.1 2) (u64.2 1)) → (p4.toInt - x7.toInt).toNat < n64 → s_X5_load u p1 p2 p3 p4 = s_X5_load_L64_3 n64 u64 p1 p2 p3 p4 x6 x7 → lv_has ls 11 [(7, .int x7), (6, .int x6), (5, .ref (a 20)), (0, .ref (a 0)), (1, .int p1), (2, .int p2), (3, .int p3), (4, .int p4)] → va_P (xD E) vwCl (wX E a u64) H → va_S (· ∈ LX a) s.heap H locs → W p l e rm_X5_load s m ([.ref (a 0), .int p1, .int p2, .int p3, .int p4] : List Value).toArray below meth c H locs 0 0 (xQmd E below (LX a) (some (.int ((s_X5_load u p1 p2 p3 p4).1))) (wX E a ((s_X5_load u p1 p2 p3 p4).2)) ([.ref (a 0), .int p1, .int p2, .int p3, .int p4] : List Value).toArray s) (F0 m 64 ls []) := by
              intro n64
              induction n64 with
              | zero => intro u64 x6 x7 H locs ls hI0 hM64 hR hl hP hS; exact absurd hM64 (Nat.not_lt_zero _)
              | succ n64 ih64 =>
                intro u64 x6 x7 H locs ls hI0 hM64 hR hl hP hS
                refine lv_iload hx hb dX5_load_64 (lv_at hl 0 rfl) ?_
                refine lv_iload hx hb dX5_load_66 (lv_at hl 7 rfl) ?_
                refine lv_icmp_ge (tgt := 164) hx hb dX5_load_68 rfl (fun q30 => ?_) (fun q30 => ?_)
                · have hR := hR.trans (if_pos q30)
                  refine lv_iload hx hb dX5_load_164 (lv_at hl 1 rfl) ?_
                  have hR : s_X5_load u p1 p2 p3 p4 = (x6, u64) := hR
                  exact W.iret (v := x6) hx hb hr (fun t ht _ => by rw [hR]; dsimp only; exact ⟨⟨rfl, by rw [ht]; exact hP⟩, hS.F ht⟩) hS.2.2 dX5_load_166
                · have hR := hR.trans (if_neg q30)
                  refine lv_iload_n hx hb dX5_load_71 rfl (lv_at hl 6 rfl) ?_
                  refine lv_i2l hx hb dX5_load_72 rfl ?_
                  refine lv_ldc2 (v := 4) hx hb hown (hts (.constantLong RX5 332 (4)) (by decide +kernel)) dX5_load_73 ?_
                  refine lv_iload hx hb dX5_load_76 (lv_at hl 0 rfl) ?_
                  refine lv_i2l hx hb dX5_load_78 rfl ?_
                  refine lv_lmul hx hb dX5_load_79 ?_
                  refine lv_ladd hx hb dX5_load_80 ?_
                  refine lv_lstore (lv' := [(8, .long (p3.toInt64 + (4 * x7.toInt64))), (7, .int x7), (6, .int x6), (5, .ref (a 20)), (0, .ref (a 0)), (1, .int p1), (2, .int p2), (3, .int p3), (4, .int p4)]) hx hb dX5_load_81 hl (by decide) rfl (fun ls hl => ?_)
                  refine lv_lload hx hb dX5_load_83 (lv_at hl 0 rfl) ?_
                  refine lv_lconst (v := 0) hx hb dX5_load_85 rfl ?_
                  refine W.lcmp hx hb dX5_load_86 ?_
                  refine lv_if_lt (tgt := 106) hx hb dX5_load_87 rfl (fun q31 => ?_) (fun q31 => ?_)
                  · have hR := hR.trans (if_pos q31)
                    refine lv_bipush (v := (-12)) hx hb dX5_load_106 rfl ?_
                    have hR : s_X5_load u p1 p2 p3 p4 = ((-12), u64) := hR
                    exact W.iret (v := (-12)) hx hb hr (fun t ht _ => by rw [hR]; dsimp only; exact ⟨⟨rfl, by rw [ht]; exact hP⟩, hS.F ht⟩) hS.2.2 dX5_load_108
                  · have hR := hR.trans (if_neg q31)
                    refine lv_lload hx hb dX5_load_90 (lv_at hl 0 rfl) ?_
                    refine lv_ldc2 (v := 4) hx hb hown (hts (.constantLong RX5 332 (4)) (by decide +kernel)) dX5_load_92 ?_
                    refine lv_ladd hx hb dX5_load_95 ?_
                    refine lv_aload hx hb dX5_load_96 (lv_at hl 3 rfl) ?_
                    refine va_get (D := xD E) (ci := 3) (v := .int (u64.2 11)) (C := RX3) (T := TX3) (N := 3) hx hb hts (by decide +kernel) hown hK hP 20 rfl rfl 2 (by decide) (hts (.fieldLink RX5 264 "RailOffsets$Sheet" "size" "I") (by decide +kernel)) (fun _ h => h) rfl dX5_load_98 ?_
                    refine lv_i2l hx hb dX5_load_101 rfl ?_
                    refine W.lcmp hx hb dX5_load_102 ?_
                    refine lv_if_le (tgt := 109) hx hb dX5_load_103 rfl (fun q32 => ?_) (fun q32 => ?_)
                    · have hR := hR.trans (if_pos q32)
                      refine lv_lload hx hb dX5_load_109 (lv_at hl 0 rfl) ?_
                      refine lv_l2i hx hb dX5_load_111 rfl ?_
                      refine lv_istore (lv' := [(10, .int ((p3.toInt64 + (4 * x7.toInt64)).toInt32)), (8, .long (p3.toInt64 + (4 * x7.toInt64))), (7, .int x7), (6, .int x6), (5, .ref (a 20)), (0, .ref (a 0)), (1, .int p1), (2, .int p2), (3, .int p3), (4, .int p4)]) hx hb dX5_load_112 hl (by decide) rfl (fun ls hl => ?_)
                      refine lv_aload_n hx hb dX5_load_114 rfl (lv_at hl 5 rfl) ?_
                      refine lv_aload hx hb dX5_load_115 (lv_at hl 4 rfl) ?_
                      refine lv_iload hx hb dX5_load_117 (lv_at hl 0 rfl) ?_
                      refine xRoV (nL := 11) ⟨hx, hb, hml, hown, hts⟩ (c_X3_read l E (a 20) (a 24) (uS u64 3) ((p3.toInt64 + (4 * x7.toInt64)).toInt32)) (cwV 1 hts gX5_load_X3_read rfl rfl rfl ⟨rfl, hd_X3_read⟩ ⟨(Nat.le_of_ble_eq_true rfl), (Nat.le_of_ble_eq_true rfl)⟩) hF hS hA (hP.sub [20, 24] rfl) (va_recv (q := (RX3, TX3, 3)) hK hP (ci := 3) rfl (q0 := 20) rfl) rfl hl.1 rfl (Nat.le_of_ble_eq_true rfl) ⟨(Nat.le_of_ble_eq_true rfl), (Nat.le_of_ble_eq_true rfl)⟩ dX5_load_119 ?_
                      refine W.eq (g2 := F0 m 122 ls [.int (s_X3_read (uS u64 3) ((p3.toInt64 + (4 * x7.toInt64)).toInt32)), .ref (a 0)]) rfl ?_
                      refine lv_aload hx hb dX5_load_122 (lv_at hl 4 rfl) ?_
                      refine lv_iload hx hb dX5_load_124 (lv_at hl 0 rfl) ?_
                      refine lv_iconst (v := 1) hx hb dX5_load_126 rfl ?_
                      refine lv_iadd hx hb dX5_load_127 ?_
                      refine xRoV (nL := 11) ⟨hx, hb, hml, hown, hts⟩ (c_X3_read l E (a 20) (a 24) (uS u64 3) (((p3.toInt64 + (4 * x7.toInt64)).toInt32) + 1)) (cwV 1 hts gX5_load_X3_read rfl rfl rfl ⟨rfl, hd_X3_read⟩ ⟨(Nat.le_of_ble_eq_true rfl), (Nat.le_of_ble_eq_true rfl)⟩) hF hS hA (hP.sub [20, 24] rfl) (va_recv (q := (RX3, TX3, 3)) hK hP (ci := 3) rfl (q0 := 20) rfl) rfl hl.1 rfl (Nat.le_of_ble_eq_true rfl) ⟨(Nat.le_of_ble_eq_true rfl), (Nat.le_of_ble_eq_true rfl)⟩ dX5_load_128 ?_
                      refine W.eq (g2 := F0 m 131 ls [.int (s_X3_read (uS u64 3) (((p3.toInt64 + (4 * x7.toInt64)).toInt32) + 1)), .int (s_X3_read (uS u64 3) ((p3.toInt64 + (4 * x7.toInt64)).toInt32)), .ref (a 0)]) rfl ?_
                      refine lv_aload hx hb dX5_load_131 (lv_at hl 4 rfl) ?_
                      refine lv_iload hx hb dX5_load_133 (lv_at hl 0 rfl) ?_
                      refine lv_iconst (v := 2) hx hb dX5_load_135 rfl ?_
                      refine lv_iadd hx hb dX5_load_136 ?_
                      refine xRoV (nL := 11) ⟨hx, hb, hml, hown, hts⟩ (c_X3_read l E (a 20) (a 24) (uS u64 3) (((p3.toInt64 + (4 * x7.toInt64)).toInt32) + 2)) (cwV 1 hts gX5_load_X3_read rfl rfl rfl ⟨rfl, hd_X3_read⟩ ⟨(Nat.le_of_ble_eq_true rfl), (Nat.le_of_ble_eq_true rfl)⟩) hF hS hA (hP.sub [20, 24] rfl) (va_recv (q := (RX3, TX3, 3)) hK hP (ci := 3) rfl (q0 := 20) rfl) rfl hl.1 rfl (Nat.le_of_ble_eq_true rfl) ⟨(Nat.le_of_ble_eq_true rfl), (Nat.le_of_ble_eq_true rfl)⟩ dX5_load_137 ?_
                      refine W.eq (g2 := F0 m 140 ls [.int (s_X3_read (uS u64 3) (((p3.toInt64 + (4 * x7.toInt64)).toInt32) + 2)), .int (s_X3_read (uS u64 3) (((p3.toInt64 + (4 * x7.toInt64)).toInt32) + 1)), .int (s_X3_read (uS u64 3) ((p3.toInt64 + (4 * x7.toInt64)).toInt32)), .ref (a 0)]) rfl ?_
                      refine lv_aload hx hb dX5_load_140 (lv_at hl 4 rfl) ?_
                      refine lv_iload hx hb dX5_load_142 (lv_at hl 0 rfl) ?_
                      refine lv_iconst (v := 3) hx hb dX5_load_144 rfl ?_
                      refine lv_iadd hx hb dX5_load_145 ?_
                      refine xRoV (nL := 11) ⟨hx, hb, hml, hown, hts⟩ (c_X3_read l E (a 20) (a 24) (uS u64 3) (((p3.toInt64 + (4 * x7.toInt64)).toInt32) + 3)) (cwV 1 hts gX5_load_X3_read rfl rfl rfl ⟨rfl, hd_X3_read⟩ ⟨(Nat.le_of_ble_eq_true rfl), (Nat.le_of_ble_eq_true rfl)⟩) hF hS hA (hP.sub [20, 24] rfl) (va_recv (q := (RX3, TX3, 3)) hK hP (ci := 3) rfl (q0 := 20) rfl) rfl hl.1 rfl (Nat.le_of_ble_eq_true rfl) ⟨(Nat.le_of_ble_eq_true rfl), (Nat.le_of_ble_eq_true rfl)⟩ dX5_load_146 ?_
                      refine W.eq (g2 := F0 m 149 ls [.int (s_X3_read (uS u64 3) (((p3.toInt64 + (4 * x7.toInt64)).toInt32) + 3)), .int (s_X3_read (uS u64 3) (((p3.toInt64 + (4 * x7.toInt64)).toInt32) + 2)), .int (s_X3_read (uS u64 3) (((p3.toInt64 + (4 * x7.toInt64)).toInt32) + 1)), .int (s_X3_read (uS u64 3) ((p3.toInt64 + (4 * x7.toInt64)).toInt32)), .ref (a 0)]) rfl ?_
                      refine xMdV (nL := 11) ⟨hx, hb, hml, hown, hts⟩ (c_X5_piece l E a u64 (s_X3_read (uS u64 3) ((p3.toInt64 + (4 * x7.toInt64)).toInt32)) (s_X3_read (uS u64 3) (((p3.toInt64 + (4 * x7.toInt64)).toInt32) + 1)) (s_X3_read (uS u64 3) (((p3.toInt64 + (4 * x7.toInt64)).toInt32) + 2)) (s_X3_read (uS u64 3) (((p3.toInt64 + (4 * x7.toInt64)).toInt32) + 3)) (hI0) hL) (cwV 4 hts gX5_load_X5_piece rfl rfl rfl ⟨rfl, hd_X5_piece⟩ ⟨(Nat.le_of_ble_eq_true rfl), (Nat.le_of_ble_eq_true rfl)⟩) hF hS hL.2 (fun _ h => h) hP (va_recv (q := (RX5, TX5, 9)) hK hP (ci := 5) rfl (q0 := 0) rfl) rfl hl.1 rfl (Nat.le_of_ble_eq_true rfl) ⟨(Nat.le_of_ble_eq_true rfl), (Nat.le_of_ble_eq_true rfl)⟩ dX5_load_149 (fun H locs hP _ hS => ?_)
                      refine W.eq (g2 := F0 m 152 ls [.int ((s_X5_piece u64 (s_X3_read (uS u64 3) ((p3.toInt64 + (4 * x7.toInt64)).toInt32)) (s_X3_read (uS u64 3) (((p3.toInt64 + (4 * x7.toInt64)).toInt32) + 1)) (s_X3_read (uS u64 3) (((p3.toInt64 + (4 * x7.toInt64)).toInt32) + 2)) (s_X3_read (uS u64 3) (((p3.toInt64 + (4 * x7.toInt64)).toInt32) + 3))).1)]) rfl ?_
                      refine lv_if_lt (tgt := 158) hx hb dX5_load_152 rfl (fun q33 => ?_) (fun q33 => ?_)
                      · have hR := hR.trans (if_pos q33)
                        refine lv_iinc (k := 2) (v := x7 + 1) (lv' := [(7, .int (x7 + 1)), (10, .int ((p3.toInt64 + (4 * x7.toInt64)).toInt32)), (8, .long (p3.toInt64 + (4 * x7.toInt64))), (6, .int x6), (5, .ref (a 20)), (0, .ref (a 0)), (1, .int p1), (2, .int p2), (3, .int p3), (4, .int p4)]) hx hb dX5_load_158 hl rfl rfl (by decide) rfl (fun ls hl => ?_)
                        refine lv_goto (tgt := 64) hx hb dX5_load_161 rfl ?_
                        exact ih64 ((s_X5_piece u64 (s_X3_read (uS u64 3) ((p3.toInt64 + (4 * x7.toInt64)).toInt32)) (s_X3_read (uS u64 3) (((p3.toInt64 + (4 * x7.toInt64)).toInt32) + 1)) (s_X3_read (uS u64 3) (((p3.toInt64 + (4 * x7.toInt64)).toInt32) + 2)) (s_X3_read (uS u64 3) (((p3.toInt64 + (4 * x7.toInt64)).toInt32) + 3))).2) x6 (x7 + 1) _ _ _ (by first | exact (xK_piece _ _ _ _ _).1 hI0 | exact hI0) (Nat.lt_of_lt_of_le (xupc q30) (Nat.le_of_lt_succ hM64)) hR (lv_sub hl [0, 3, 4, 5, 6, 7, 8, 9] rfl) hP hS
                      · have hR := hR.trans (if_neg q33)
                        refine lv_iinc (k := 3) (v := x6 + 1) (lv' := [(6, .int (x6 + 1)), (10, .int ((p3.toInt64 + (4 * x7.toInt64)).toInt32)), (8, .long (p3.toInt64 + (4 * x7.toInt64))), (7, .int x7), (5, .ref (a 20)), (0, .ref (a 0)), (1, .int p1), (2, .int p2), (3, .int p3), (4, .int p4)]) hx hb dX5_load_155 hl rfl rfl (by decide) rfl (fun ls hl => ?_)
                        refine lv_iinc (k := 3) (v := x7 + 1) (lv' := [(7, .int (x7 + 1)), (6, .int (x6 + 1)), (10, .int ((p3.toInt64 + (4 * x7.toInt64)).toInt32)), (8, .long (p3.toInt64 + (4 * x7.toInt64))), (5, .ref (a 20)), (0, .ref (a 0)), (1, .int p1), (2, .int p2), (3, .int p3), (4, .int p4)]) hx hb dX5_load_158 hl rfl rfl (by decide) rfl (fun ls hl => ?_)
                        refine lv_goto (tgt := 64) hx hb dX5_load_161 rfl ?_
                        exact ih64 ((s_X5_piece u64 (s_X3_read (uS u64 3) ((p3.toInt64 + (4 * x7.toInt64)).toInt32)) (s_X3_read (uS u64 3) (((p3.toInt64 + (4 * x7.toInt64)).toInt32) + 1)) (s_X3_read (uS u64 3) (((p3.toInt64 + (4 * x7.toInt64)).toInt32) + 2)) (s_X3_read (uS u64 3) (((p3.toInt64 + (4 * x7.toInt64)).toInt32) + 3))).2) (x6 + 1) (x7 + 1) _ _ _ (by first | exact (xK_piece _ _ _ _ _).1 hI0 | exact hI0) (Nat.lt_of_lt_of_le (xupc q30) (Nat.le_of_lt_succ hM64)) hR (lv_sub hl [0, 1, 4, 5, 6, 7, 8, 9] rfl) hP hS
                    · have hR := hR.trans (if_neg q32)
                      refine lv_bipush (v := (-12)) hx hb dX5_load_106 rfl ?_
                      have hR : s_X5_load u p1 p2 p3 p4 = ((-12), u64) := hR
                      exact W.iret (v := (-12)) hx hb hr (fun t ht _ => by rw [hR]; dsimp only; exact ⟨⟨rfl, by rw [ht]; exact hP⟩, hS.F ht⟩) hS.2.2 dX5_load_108
            exact L64 ((p4.toInt - (0 : Int32).toInt).toNat + 1) u 0 0 _ _ ls (hp0) (Nat.lt_succ_self _) hR hl hP hS
          · have hR := hR.trans (if_neg q29)
            refine lv_bipush (v := (-13)) hx hb dX5_load_55 rfl ?_
            have hR : s_X5_load u p1 p2 p3 p4 = ((-13), u) := hR
            exact W.iret (v := (-13)) hx hb hr (fun t ht _ => by rw [hR]; dsimp only; exact ⟨⟨rfl, by rw [ht]; exact hP⟩, hS.F ht⟩) hS.2.2 dX5_load_57
        · have hR := hR.trans (if_neg q28)
          refine lv_bipush (v := (-11)) hx hb dX5_load_43 rfl ?_
          have hR : s_X5_load u p1 p2 p3 p4 = ((-11), u) := hR
          exact W.iret (v := (-11)) hx hb hr (fun t ht _ => by rw [hR]; dsimp only; exact ⟨⟨rfl, by rw [ht]; exact hP⟩, hS.F ht⟩) hS.2.2 dX5_load_45
      · have hR := hR.trans (if_pos q27)
        refine lv_bipush (v := (-2)) hx hb dX5_load_32 rfl ?_
        have hR : s_X5_load u p1 p2 p3 p4 = ((-2), u) := hR
        exact W.iret (v := (-2)) hx hb hr (fun t ht _ => by rw [hR]; dsimp only; exact ⟨⟨rfl, by rw [ht]; exact hP⟩, hS.F ht⟩) hS.2.2 dX5_load_34
  have hR := hR.trans (if_neg t1_3)
  refine xRoV (nL := 11) ⟨hx, hb, hml, hown, hts⟩ (c_X5_sheetOf_n l E a u p1 t1_0 t1_1 t1_2 t1_3) (cwV 1 hts gX5_load_X5_sheetOf rfl rfl rfl ⟨rfl, hd_X5_sheetOf⟩ ⟨(Nat.le_of_ble_eq_true rfl), (Nat.le_of_ble_eq_true rfl)⟩) hF hS hA hP (va_recv (q := (RX5, TX5, 9)) hK hP (ci := 5) rfl (q0 := 0) rfl) rfl hl.1 rfl (Nat.le_of_ble_eq_true rfl) ⟨(Nat.le_of_ble_eq_true rfl), (Nat.le_of_ble_eq_true rfl)⟩ dX5_load_2 ?_
  refine W.eq (g2 := F0 m 5 ls [.null]) rfl ?_
  refine lv_astoreN (lv' := [(5, .null), (0, .ref (a 0)), (1, .int p1), (2, .int p2), (3, .int p3), (4, .int p4)]) hx hb dX5_load_5 hl (by decide) rfl (fun ls hl => ?_)
  refine lv_aloadN hx hb dX5_load_7 (lv_at hl 0 rfl) ?_
  refine lv_ifnullN (tgt := 32) hx hb dX5_load_9 rfl ?_
  refine lv_bipush (v := (-2)) hx hb dX5_load_32 rfl ?_
  have hR : s_X5_load u p1 p2 p3 p4 = ((-2), u) := hR
  exact W.iret (v := (-2)) hx hb hr (fun t ht _ => by rw [hR]; dsimp only; exact ⟨⟨rfl, by rw [ht]; exact hP⟩, hS.F ht⟩) hS.2.2 dX5_load_34
