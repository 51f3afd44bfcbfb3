def XKl (u : xU) (r : Int32 × xU) : Prop := (∀ k, k ≠ 18 → r.2.1 k = u.1 k) ∧ (∀ k, k ≠ 5 → k ≠ 6 → k ≠ 7 → k ≠ 8 → k ≠ 9 → r.2.2 k = u.2 k) ∧ XTk r.2 ∧ (u.2 5).toInt ≤ (r.2.2 5).toInt ∧ (r.1 = 0 ∨ (r.1 = 1 ∧ (u.2 7).toInt ≤ 4))
theorem xcl33 {u0 : xU} (h04 : (u0.2 7).toInt ≤ 4) {w : Int32} : ∀ (n : Nat) (u : xU) (k : Int32), XKc u w → ¬ k < 0 → (4 - k.toInt).toNat < n → (∀ j, j ≠ 18 → u.1 j = u0.1 j) → (∀ j, j ≠ 5 → j ≠ 6 → j ≠ 7 → j ≠ 8 → u.2 j = u0.2 j) → (u0.2 5).toInt ≤ (u.2 5).toInt → XKl u0 (s_X6_clause_L33 n u w k) := by
  intro n
  induction n with
  | zero => intro u k h h0 hn; exact absurd hn (Nat.not_lt_zero _)
  | succ n ih =>
    intro u k h h0 hn r1 r2 r3
    rw [s_X6_clause_L33]
    have hc := h
    obtain ⟨h1, h2, h3, h4, h5, h6, h7⟩ := h
    split
    · have e := xinc (k := u.2 9) (by have := xkcb hc; omega)
      refine ⟨r1, fun j j5 j6 j7 j8 j9 => ?_, ⟨h1, h4, h5, ?_, ?_⟩, r3, Or.inr ⟨rfl, h04⟩⟩
      · simp only [uZ]
        rw [if_neg j9]
        exact r2 j j5 j6 j7 j8
      · show 0 ≤ (u.2 9 + 1).toInt
        omega
      · show 4 * (u.2 9 + 1).toInt ≤ (u.2 6).toInt
        omega
    · rename_i q
      split
      · obtain ⟨a1, a2, a3, a4, a5, a6⟩ := xnx (u := uA u 18 (((5 * (u.2 9)) + 1) + k).toNatClampNeg (u.2 8)) h1.1
        refine ih _ _ (xkc1 hc _ _) (xkck hc h0 q) (by have := xkcd hc h0 q; omega) (fun j hj => ?_) (fun j j5 j6 j7 j8 => ?_) ?_
        · rw [a1]
          simp only [uA]
          rw [if_neg hj]
          exact r1 j hj
        · exact (a2 j j5 j6 j7 j8).trans (r2 j j5 j6 j7 j8)
        · have h8 := h1.2.2
          have h9 := a3.2.2
          change (u.2 5).toInt ≤ _ at a4
          omega
      · exact ⟨r1, fun j j5 j6 j7 j8 _ => r2 j j5 j6 j7 j8, ⟨h1, h4, h5, h6, by omega⟩, r3, Or.inl rfl⟩
theorem xcl {u : xU} (h : XTk u) : XKl u (s_X6_clause u) := by
  unfold s_X6_clause
  split
  · rename_i q
    obtain ⟨a1, a2, a3, a4, a5, a6⟩ := xnx (u := uA u 18 (5 * (u.2 9)).toNatClampNeg (u.2 7)) h.1.1
    refine xcl33 (xle4 q) _ _ _ (xkc0 h q _ _) (by decide) (by decide) (fun j hj => ?_) (fun j j5 j6 j7 j8 => a2 j j5 j6 j7 j8) ?_
    · rw [a1]
      simp only [uA]
      rw [if_neg hj]
    · have h9 := a3.2.2
      change (u.2 5).toInt ≤ _ at a4
      omega
  · exact ⟨fun _ _ => rfl, fun _ _ _ _ _ _ => rfl, h, Int.le_refl _, Or.inl rfl⟩
theorem xcl_w {u : xU} (h : XTk u) (hw : XW u) : XW (s_X6_clause u).2 := by
  unfold XW
  rw [(xcl h).1 1 (by decide)]
  exact hw
theorem xnx_w1 {u : xU} (h : XTq u) (hw : XW u) : XW (s_X6_next u) := by
  unfold XW
  rw [(xnx h).1]
  exact hw
def XTs (u : xU) : Prop := XCn u ∧ XTS u
theorem xtx0 {u : xU} (h : XTs u) : XTq (uZ (uZ u 5 0) 9 0) := ⟨h.1, by decide, h.2.1, h.2.2⟩
theorem xtx1 {u : xU} (h : XTs u) : XTk (s_X6_next (uZ (uZ u 5 0) 9 0)) := xtkn' (xtx0 h) (by decide) (by decide)
theorem xcl_d {u : xU} {x : Int32} (h : XTk u) (h1 : x = 0 ∨ x = 1) (q : ¬ x = 0) : ((((s_X6_clause (s_X6_next u)).2.2 4).toInt - ((s_X6_clause (s_X6_next u)).2.2 5).toInt) + (s_X6_clause (s_X6_next u)).1.toInt).toNat < (((u.2 4).toInt - (u.2 5).toInt) + x.toInt).toNat := by
  have hx := h1.resolve_left q
  obtain ⟨a1, a2, a3, a4, a5, a6⟩ := xnx h.1.1
  obtain ⟨b1, b2, b3, b4, b5⟩ := xcl (xtkn h)
  have e4 : (s_X6_clause (s_X6_next u)).2.2 4 = u.2 4 := (b2 4 (by decide) (by decide) (by decide) (by decide) (by decide)).trans (a2 4 (by decide) (by decide) (by decide) (by decide))
  have g := b3.1.1.2.2.1
  rw [e4] at g ⊢
  have g2 := a3.2.2
  rw [hx, show (1 : Int32).toInt = 1 from rfl]
  rcases b5 with e | ⟨e, e2⟩
  · rw [e, show (0 : Int32).toInt = 0 from rfl]
    omega
  · have := a6 e2
    rw [e, show (1 : Int32).toInt = 1 from rfl]
    omega
theorem xcl_b {u : xU} (h : XTk u) : (s_X6_clause u).1 = 0 ∨ (s_X6_clause u).1 = 1 := by
  rcases (xcl h).2.2.2.2 with e | e
  · exact Or.inl e
  · exact Or.inr e.1
theorem xcl_15 {u : xU} (h : XTk u) : (u.2 9).toInt ≤ 15 := by
  obtain ⟨⟨⟨g0, g1, g2, g3⟩, g4, g5⟩, h2, h3, h4, h5⟩ := h
  omega
theorem xdo_k (u : xU) (k : Int32) : xK1 u (s_X6_does u k).2 := by
  unfold s_X6_does
  split
  · split <;> exact xpc_k _ _ _ _ _
  · split
    · split <;> exact xse_k _ _ _ _
    · split
      · split <;> exact xse_k _ _ _ _
      · split
        · split <;> exact xru_k _ _ _
        · split <;> exact xdr_k _
theorem xdo_w {u : xU} (h : XW u) (k : Int32) : XW (s_X6_does u k).2 := by
  unfold s_X6_does
  split
  · split <;> exact xpc_w h _ _ _ _
  · split
    · split <;> exact xse_w h _ _ _
    · split
      · split <;> exact xse_w h _ _ _
      · split
        · split <;> exact xru_w h _ _
        · split <;> exact xdr_w h
theorem xdo_14 {k m : Int32} (h0 : ¬ k < 0) (hm : m.toInt ≤ 15) (q : ¬ m ≤ k) : 0 ≤ k.toInt ∧ k.toInt ≤ 14 := by
  rw [fa_le] at q
  exact ⟨xge0 h0, by omega⟩
def s_X6_does (u : xU) (p1 : Int32) : Int32 × xU :=
  if (u.1 18 (5 * p1).toNatClampNeg) = 0 then
    if ((s_X6_piece u (u.1 18 ((5 * p1) + 1).toNatClampNeg) (u.1 18 ((5 * p1) + 2).toNatClampNeg) (u.1 18 ((5 * p1) + 3).toNatClampNeg) (u.1 18 ((5 * p1) + 4).toNatClampNeg)).1) < 0 then
      (0, (s_X6_piece u (u.1 18 ((5 * p1) + 1).toNatClampNeg) (u.1 18 ((5 * p1) + 2).toNatClampNeg) (u.1 18 ((5 * p1) + 3).toNatClampNeg) (u.1 18 ((5 * p1) + 4).toNatClampNeg)).2)
    else
      (1, (s_X6_piece u (u.1 18 ((5 * p1) + 1).toNatClampNeg) (u.1 18 ((5 * p1) + 2).toNatClampNeg) (u.1 18 ((5 * p1) + 3).toNatClampNeg) (u.1 18 ((5 * p1) + 4).toNatClampNeg)).2)
  else
    if (u.1 18 (5 * p1).toNatClampNeg) = 1 then
      if ((s_X6_set u (u.1 18 ((5 * p1) + 1).toNatClampNeg) 1 (u.1 18 ((5 * p1) + 2).toNatClampNeg)).1) = (-1000) then
        (0, (s_X6_set u (u.1 18 ((5 * p1) + 1).toNatClampNeg) 1 (u.1 18 ((5 * p1) + 2).toNatClampNeg)).2)
      else
        (1, (s_X6_set u (u.1 18 ((5 * p1) + 1).toNatClampNeg) 1 (u.1 18 ((5 * p1) + 2).toNatClampNeg)).2)
    else
      if (u.1 18 (5 * p1).toNatClampNeg) = 2 then
        if ((s_X6_set u (u.1 18 ((5 * p1) + 1).toNatClampNeg) 2 (u.1 18 ((5 * p1) + 2).toNatClampNeg)).1) = (-1000) then
          (0, (s_X6_set u (u.1 18 ((5 * p1) + 1).toNatClampNeg) 2 (u.1 18 ((5 * p1) + 2).toNatClampNeg)).2)
        else
          (1, (s_X6_set u (u.1 18 ((5 * p1) + 1).toNatClampNeg) 2 (u.1 18 ((5 * p1) + 2).toNatClampNeg)).2)
      else
        if (u.1 18 (5 * p1).toNatClampNeg) = 3 then
          if (lg_cmp ((s_X6_rule_ u 5 (u.1 18 ((5 * p1) + 1).toNatClampNeg)).1) xNO) = 0 then
            (0, (s_X6_rule_ u 5 (u.1 18 ((5 * p1) + 1).toNatClampNeg)).2)
          else
            (1, (s_X6_rule_ u 5 (u.1 18 ((5 * p1) + 1).toNatClampNeg)).2)
        else
          if ((s_X6_drop u).1) < 0 then
            (0, (s_X6_drop u).2)
          else
            (1, (s_X6_drop u).2)
abbrev rm_X6_does : Room := { frames := 3, cells := 0, slots := 0, locals := 71 }
set_option maxHeartbeats 8000000 in
set_option maxRecDepth 100000 in
theorem c_X6_does (l : Launch) (E : xG) (a : Nat → Nat) (u : xU) (p1 : Int32) (hp0 : XW u) (hp1 : 0 ≤ p1.toInt ∧ p1.toInt ≤ 14) (hL : xOK E (LM a)) : xMd l E yX6_does wsX6_does rm_X6_does (LM a) [.ref (a 0), .int p1] (wM E a u) (some (.int ((s_X6_does u p1).1))) (wM E a ((s_X6_does u p1).2)) := by
  refine xMd.of (cc := cX6_does) (maxL := 4) (ret := (some .boolean)) (by decide) rfl (Nat.le_of_ble_eq_true rfl) ?_
  intro p e s m below meth c ls hAt hF hP hS hl
  obtain ⟨hx, hb, hr, hml, hown, hts, hlocks, -⟩ := hAt
  have hown : s.vm.findClass RX6 = some m.cls := hown
  have hl : lv_has ls 4 [(0, .ref (a 0)), (1, .int p1)] := hl
  have hK := hF.1
  have hA := hL.2
  change W p l e rm_X6_does s m ([.ref (a 0), .int p1] : List Value).toArray below meth c s.heap [] 0 0 (xQmd E below (LM a) (some (.int ((s_X6_does u p1).1))) (wM E a ((s_X6_does u p1).2)) ([.ref (a 0), .int p1] : List Value).toArray s) _
  have hS : va_S (· ∈ LM a) s.heap s.heap [] := hS
  have hR : s_X6_does u p1 = s_X6_does u p1 := rfl
  refine lv_aload_n hx hb dX6_does_0 rfl (lv_at hl 0 rfl) ?_
  refine va_get (D := xD E) (ci := 6) (v := .ref (a 18)) (C := RX6) (T := TX6) (N := 28) hx hb hts (by decide +kernel) hown hK hP 0 rfl rfl 26 (by decide) (hts (.fieldLink RX6 64 "RailOffsetsModel" "clauses" "[I") (by decide +kernel)) (fun _ h => h) rfl dX6_does_1 ?_
  refine lv_iconst (v := 5) hx hb dX6_does_4 rfl ?_
  refine lv_iload_n hx hb dX6_does_5 rfl (lv_at hl 1 rfl) ?_
  refine lv_imul hx hb dX6_does_6 ?_
  refine lv_iconst (v := 1) hx hb dX6_does_7 rfl ?_
  refine lv_iadd hx hb dX6_does_8 ?_
  refine va_iald hx hb hK hP 18 0 rfl rfl (xd5 hp1) dX6_does_9 ?_
  refine lv_istore_n (lv' := [(2, .int (u.1 18 ((5 * p1) + 1).toNatClampNeg)), (0, .ref (a 0)), (1, .int p1)]) hx hb dX6_does_10 rfl hl (by decide) rfl (fun ls hl => ?_)
  refine lv_aload_n hx hb dX6_does_11 rfl (lv_at hl 1 rfl) ?_
  refine va_get (D := xD E) (ci := 6) (v := .ref (a 18)) (C := RX6) (T := TX6) (N := 28) hx hb hts (by decide +kernel) hown hK hP 0 rfl rfl 26 (by decide) (hts (.fieldLink RX6 64 "RailOffsetsModel" "clauses" "[I") (by decide +kernel)) (fun _ h => h) rfl dX6_does_12 ?_
  refine lv_iconst (v := 5) hx hb dX6_does_15 rfl ?_
  refine lv_iload_n hx hb dX6_does_16 rfl (lv_at hl 2 rfl) ?_
  refine lv_imul hx hb dX6_does_17 ?_
  refine lv_iconst (v := 2) hx hb dX6_does_18 rfl ?_
  refine lv_iadd hx hb dX6_does_19 ?_
  refine va_iald hx hb hK hP 18 0 rfl rfl (xd5j hp1 (by decide) (by decide)) dX6_does_20 ?_
  refine lv_istore_n (lv' := [(3, .int (u.1 18 ((5 * p1) + 2).toNatClampNeg)), (2, .int (u.1 18 ((5 * p1) + 1).toNatClampNeg)), (0, .ref (a 0)), (1, .int p1)]) hx hb dX6_does_21 rfl hl (by decide) rfl (fun ls hl => ?_)
  refine lv_aload_n hx hb dX6_does_22 rfl (lv_at hl 2 rfl) ?_
  refine va_get (D := xD E) (ci := 6) (v := .ref (a 18)) (C := RX6) (T := TX6) (N := 28) hx hb hts (by decide +kernel) hown hK hP 0 rfl rfl 26 (by decide) (hts (.fieldLink RX6 64 "RailOffsetsModel" "clauses" "[I") (by decide +kernel)) (fun _ h => h) rfl dX6_does_23 ?_
  refine lv_iconst (v := 5) hx hb dX6_does_26 rfl ?_
  refine lv_iload_n hx hb dX6_does_27 rfl (lv_at hl 3 rfl) ?_
  refine lv_imul hx hb dX6_does_28 ?_
  refine va_iald hx hb hK hP 18 0 rfl rfl (xd5j hp1 (by decide) (by decide)) dX6_does_29 ?_
  by_cases q1 : (u.1 18 (5 * p1).toNatClampNeg) = 0
  · have hR := hR.trans (if_pos q1)
    refine lv_tableIn (tgt := 60) (off := 30) hx hb dX6_does_30 (by rw [q1]; decide) (by rw [q1]; decide) (by rw [q1]; rfl) rfl ?_
    refine lv_aload_n hx hb dX6_does_60 rfl (lv_at hl 2 rfl) ?_
    refine lv_iload_n hx hb dX6_does_61 rfl (lv_at hl 1 rfl) ?_
    refine lv_iload_n hx hb dX6_does_62 rfl (lv_at hl 0 rfl) ?_
    refine lv_aload_n hx hb dX6_does_63 rfl (lv_at hl 2 rfl) ?_
    refine va_get (D := xD E) (ci := 6) (v := .ref (a 18)) (C := RX6) (T := TX6) (N := 28) hx hb hts (by decide +kernel) hown hK hP 0 rfl rfl 26 (by decide) (hts (.fieldLink RX6 64 "RailOffsetsModel" "clauses" "[I") (by decide +kernel)) (fun _ h => h) rfl dX6_does_64 ?_
    refine lv_iconst (v := 5) hx hb dX6_does_67 rfl ?_
    refine lv_iload_n hx hb dX6_does_68 rfl (lv_at hl 3 rfl) ?_
    refine lv_imul hx hb dX6_does_69 ?_
    refine lv_iconst (v := 3) hx hb dX6_does_70 rfl ?_
    refine lv_iadd hx hb dX6_does_71 ?_
    refine va_iald hx hb hK hP 18 0 rfl rfl (xd5j hp1 (by decide) (by decide)) dX6_does_72 ?_
    refine lv_aload_n hx hb dX6_does_73 rfl (lv_at hl 2 rfl) ?_
    refine va_get (D := xD E) (ci := 6) (v := .ref (a 18)) (C := RX6) (T := TX6) (N := 28) hx hb hts (by decide +kernel) hown hK hP 0 rfl rfl 26 (by decide) (hts (.fieldLink RX6 64 "RailOffsetsModel" "clauses" "[I") (by decide +kernel)) (fun _ h => h) rfl dX6_does_74 ?_
    refine lv_iconst (v := 5) hx hb dX6_does_77 rfl ?_
    refine lv_iload_n hx hb dX6_does_78 rfl (lv_at hl 3 rfl) ?_
    refine lv_imul hx hb dX6_does_79 ?_
    refine lv_iconst (v := 4) hx hb dX6_does_80 rfl ?_
    refine lv_iadd hx hb dX6_does_81 ?_
    refine va_iald hx hb hK hP 18 0 rfl rfl (xd5j hp1 (by decide) (by decide)) dX6_does_82 ?_
    refine xMdV (nL := 4) ⟨hx, hb, hml, hown, hts⟩ (c_X6_piece l E a u (u.1 18 ((5 * p1) + 1).toNatClampNeg) (u.1 18 ((5 * p1) + 2).toNatClampNeg) (u.1 18 ((5 * p1) + 3).toNatClampNeg) (u.1 18 ((5 * p1) + 4).toNatClampNeg) (hp0) hL) (cwV 4 hts gX6_does_X6_piece rfl rfl rfl ⟨rfl, hd_X6_piece⟩ ⟨(Nat.le_of_ble_eq_true rfl), (Nat.le_of_ble_eq_true rfl)⟩) hF hS hL.2 (fun _ h => h) hP (va_recv (q := (RX6, TX6, 28)) hK hP (ci := 6) rfl (q0 := 0) rfl) rfl hl.1 rfl (Nat.le_of_ble_eq_true rfl) ⟨(Nat.le_of_ble_eq_true rfl), (Nat.le_of_ble_eq_true rfl)⟩ dX6_does_83 (fun H locs hP _ hS => ?_)
    refine W.eq (g2 := F0 m 86 ls [.int ((s_X6_piece u (u.1 18 ((5 * p1) + 1).toNatClampNeg) (u.1 18 ((5 * p1) + 2).toNatClampNeg) (u.1 18 ((5 * p1) + 3).toNatClampNeg) (u.1 18 ((5 * p1) + 4).toNatClampNeg)).1)]) rfl ?_
    refine lv_if_lt (tgt := 93) hx hb dX6_does_86 rfl (fun q2 => ?_) (fun q2 => ?_)
    · have hR := hR.trans (if_pos q2)
      refine lv_iconst (v := 0) hx hb dX6_does_93 rfl ?_
      have hR : s_X6_does u p1 = (0, (s_X6_piece u (u.1 18 ((5 * p1) + 1).toNatClampNeg) (u.1 18 ((5 * p1) + 2).toNatClampNeg) (u.1 18 ((5 * p1) + 3).toNatClampNeg) (u.1 18 ((5 * p1) + 4).toNatClampNeg)).2) := hR
      exact W.zret (v := 0) (ty := .boolean) hx hb hr (xnb (Or.inl rfl)) (fun t ht _ => by rw [hR]; dsimp only; exact ⟨⟨rfl, by rw [ht]; exact hP⟩, hS.F ht⟩) hS.2.2 dX6_does_94
    · have hR := hR.trans (if_neg q2)
      refine lv_iconst (v := 1) hx hb dX6_does_89 rfl ?_
      refine lv_goto (tgt := 94) hx hb dX6_does_90 rfl ?_
      have hR : s_X6_does u p1 = (1, (s_X6_piece u (u.1 18 ((5 * p1) + 1).toNatClampNeg) (u.1 18 ((5 * p1) + 2).toNatClampNeg) (u.1 18 ((5 * p1) + 3).toNatClampNeg) (u.1 18 ((5 * p1) + 4).toNatClampNeg)).2) := hR
      exact W.zret (v := 1) (ty := .boolean) hx hb hr (xnb (Or.inr rfl)) (fun t ht _ => by rw [hR]; dsimp only; exact ⟨⟨rfl, by rw [ht]; exact hP⟩, hS.F ht⟩) hS.2.2 dX6_does_94
  have hR := hR.trans (if_neg q1)
  by_cases q3 : (u.1 18 (5 * p1).toNatClampNeg) = 1
  · have hR := hR.trans (if_pos q3)
    refine lv_tableIn (tgt := 95) (off := 65) hx hb dX6_does_30 (by rw [q3]; decide) (by rw [q3]; decide) (by rw [q3]; rfl) rfl ?_
    refine lv_aload_n hx hb dX6_does_95 rfl (lv_at hl 2 rfl) ?_
    refine lv_iload_n hx hb dX6_does_96 rfl (lv_at hl 1 rfl) ?_
    refine lv_iconst (v := 1) hx hb dX6_does_97 rfl ?_
    refine lv_iload_n hx hb dX6_does_98 rfl (lv_at hl 0 rfl) ?_
    refine xMdV (nL := 4) ⟨hx, hb, hml, hown, hts⟩ (c_X6_set l E a u (u.1 18 ((5 * p1) + 1).toNatClampNeg) 1 (u.1 18 ((5 * p1) + 2).toNatClampNeg) (hp0) hL) (cwV 3 hts gX6_does_X6_set rfl rfl rfl ⟨rfl, hd_X6_set⟩ ⟨(Nat.le_of_ble_eq_true rfl), (Nat.le_of_ble_eq_true rfl)⟩) hF hS hL.2 (fun _ h => h) hP (va_recv (q := (RX6, TX6, 28)) hK hP (ci := 6) rfl (q0 := 0) rfl) rfl hl.1 rfl (Nat.le_of_ble_eq_true rfl) ⟨(Nat.le_of_ble_eq_true rfl), (Nat.le_of_ble_eq_true rfl)⟩ dX6_does_99 (fun H locs hP _ hS => ?_)
    refine W.eq (g2 := F0 m 102 ls [.int ((s_X6_set u (u.1 18 ((5 * p1) + 1).toNatClampNeg) 1 (u.1 18 ((5 * p1) + 2).toNatClampNeg)).1)]) rfl ?_
    refine lv_sipush (v := (-1000)) hx hb dX6_does_102 rfl ?_
    refine lv_icmp_eq (tgt := 112) hx hb dX6_does_105 rfl (fun q4 => ?_) (fun q4 => ?_)
    · have hR := hR.trans (if_pos q4)
      refine lv_iconst (v := 0) hx hb dX6_does_112 rfl ?_
      have hR : s_X6_does u p1 = (0, (s_X6_set u (u.1 18 ((5 * p1) + 1).toNatClampNeg) 1 (u.1 18 ((5 * p1) + 2).toNatClampNeg)).2) := hR
      exact W.zret (v := 0) (ty := .boolean) hx hb hr (xnb (Or.inl rfl)) (fun t ht _ => by rw [hR]; dsimp only; exact ⟨⟨rfl, by rw [ht]; exact hP⟩, hS.F ht⟩) hS.2.2 dX6_does_113
    · have hR := hR.trans (if_neg q4)
      refine lv_iconst (v := 1) hx hb dX6_does_108 rfl ?_
      refine lv_goto (tgt := 113) hx hb dX6_does_109 rfl ?_
      have hR : s_X6_does u p1 = (1, (s_X6_set u (u.1 18 ((5 * p1) + 1).toNatClampNeg) 1 (u.1 18 ((5 * p1) + 2).toNatClampNeg)).2) := hR
      exact W.zret (v := 1) (ty := .boolean) hx hb hr (xnb (Or.inr rfl)) (fun t ht _ => by rw [hR]; dsimp only; exact ⟨⟨rfl, by rw [ht]; exact hP⟩, hS.F ht⟩) hS.2.2 dX6_does_113
  have hR := hR.trans (if_neg q3)
  by_cases q5 : (u.1 18 (5 * p1).toNatClampNeg) = 2
  · have hR := hR.trans (if_pos q5)
    refine lv_tableIn (tgt := 114) (off := 84) hx hb dX6_does_30 (by rw [q5]; decide) (by rw [q5]; decide) (by rw [q5]; rfl) rfl ?_
    refine lv_aload_n hx hb dX6_does_114 rfl (lv_at hl 2 rfl) ?_
    refine lv_iload_n hx hb dX6_does_115 rfl (lv_at hl 1 rfl) ?_
    refine lv_iconst (v := 2) hx hb dX6_does_116 rfl ?_
    refine lv_iload_n hx hb dX6_does_117 rfl (lv_at hl 0 rfl) ?_
    refine xMdV (nL := 4) ⟨hx, hb, hml, hown, hts⟩ (c_X6_set l E a u (u.1 18 ((5 * p1) + 1).toNatClampNeg) 2 (u.1 18 ((5 * p1) + 2).toNatClampNeg) (hp0) hL) (cwV 3 hts gX6_does_X6_set rfl rfl rfl ⟨rfl, hd_X6_set⟩ ⟨(Nat.le_of_ble_eq_true rfl), (Nat.le_of_ble_eq_true rfl)⟩) hF hS hL.2 (fun _ h => h) hP (va_recv (q := (RX6, TX6, 28)) hK hP (ci := 6) rfl (q0 := 0) rfl) rfl hl.1 rfl (Nat.le_of_ble_eq_true rfl) ⟨(Nat.le_of_ble_eq_true rfl), (Nat.le_of_ble_eq_true rfl)⟩ dX6_does_118 (fun H locs hP _ hS => ?_)
    refine W.eq (g2 := F0 m 121 ls [.int ((s_X6_set u (u.1 18 ((5 * p1) + 1).toNatClampNeg) 2 (u.1 18 ((5 * p1) + 2).toNatClampNeg)).1)]) rfl ?_
    refine lv_sipush (v := (-1000)) hx hb dX6_does_121 rfl ?_
    refine lv_icmp_eq (tgt := 131) hx hb dX6_does_124 rfl (fun q6 => ?_) (fun q6 => ?_)
    · have hR := hR.trans (if_pos q6)
      refine lv_iconst (v := 0) hx hb dX6_does_131 rfl ?_
      have hR : s_X6_does u p1 = (0, (s_X6_set u (u.1 18 ((5 * p1) + 1).toNatClampNeg) 2 (u.1 18 ((5 * p1) + 2).toNatClampNeg)).2) := hR
      exact W.zret (v := 0) (ty := .boolean) hx hb hr (xnb (Or.inl rfl)) (fun t ht _ => by rw [hR]; dsimp only; exact ⟨⟨rfl, by rw [ht]; exact hP⟩, hS.F ht⟩) hS.2.2 dX6_does_132
    · have hR := hR.trans (if_neg q6)
      refine lv_iconst (v := 1) hx hb dX6_does_127 rfl ?_
      refine lv_goto (tgt := 132) hx hb dX6_does_128 rfl ?_
      have hR : s_X6_does u p1 = (1, (s_X6_set u (u.1 18 ((5 * p1) + 1).toNatClampNeg) 2 (u.1 18 ((5 * p1) + 2).toNatClampNeg)).2) := hR
      exact W.zret (v := 1) (ty := .boolean) hx hb hr (xnb (Or.inr rfl)) (fun t ht _ => by rw [hR]; dsimp only; exact ⟨⟨rfl, by rw [ht]; exact hP⟩, hS.F ht⟩) hS.2.2 dX6_does_132
  have hR := hR.trans (if_neg q5)
  by_cases q7 : (u.1 18 (5 * p1).toNatClampNeg) = 3
  · have hR := hR.trans (if_pos q7)
    refine lv_tableIn (tgt := 133) (off := 103) hx hb dX6_does_30 (by rw [q7]; decide) (by rw [q7]; decide) (by rw [q7]; rfl) rfl ?_
    refine lv_aload_n hx hb dX6_does_133 rfl (lv_at hl 2 rfl) ?_
    refine lv_iconst (v := 5) hx hb dX6_does_134 rfl ?_
    refine lv_iload_n hx hb dX6_does_135 rfl (lv_at hl 1 rfl) ?_
    refine xMdV (nL := 4) ⟨hx, hb, hml, hown, hts⟩ (c_X6_rule_ l E a u 5 (u.1 18 ((5 * p1) + 1).toNatClampNeg) hL) (cwV 2 hts gX6_does_X6_rule_ rfl rfl rfl ⟨rfl, hd_X6_rule_⟩ ⟨(Nat.le_of_ble_eq_true rfl), (Nat.le_of_ble_eq_true rfl)⟩) hF hS hL.2 (fun _ h => h) hP (va_recv (q := (RX6, TX6, 28)) hK hP (ci := 6) rfl (q0 := 0) rfl) rfl hl.1 rfl (Nat.le_of_ble_eq_true rfl) ⟨(Nat.le_of_ble_eq_true rfl), (Nat.le_of_ble_eq_true rfl)⟩ dX6_does_136 (fun H locs hP _ hS => ?_)
    refine W.eq (g2 := F0 m 139 ls [.long ((s_X6_rule_ u 5 (u.1 18 ((5 * p1) + 1).toNatClampNeg)).1)]) rfl ?_
    refine lv_ldc2 (v := xNO) hx hb hown (hts (.constantLong RX6 125 (-9223372036854775808)) (by decide +kernel)) dX6_does_139 ?_
    refine W.lcmp hx hb dX6_does_142 ?_
    refine lv_if_eq (tgt := 150) hx hb dX6_does_143 rfl (fun q8 => ?_) (fun q8 => ?_)
    · have hR := hR.trans (if_pos q8)
      refine lv_iconst (v := 0) hx hb dX6_does_150 rfl ?_
      have hR : s_X6_does u p1 = (0, (s_X6_rule_ u 5 (u.1 18 ((5 * p1) + 1).toNatClampNeg)).2) := hR
      exact W.zret (v := 0) (ty := .boolean) hx hb hr (xnb (Or.inl rfl)) (fun t ht _ => by rw [hR]; dsimp only; exact ⟨⟨rfl, by rw [ht]; exact hP⟩, hS.F ht⟩) hS.2.2 dX6_does_151
    · have hR := hR.trans (if_neg q8)
      refine lv_iconst (v := 1) hx hb dX6_does_146 rfl ?_
      refine lv_goto (tgt := 151) hx hb dX6_does_147 rfl ?_
      have hR : s_X6_does u p1 = (1, (s_X6_rule_ u 5 (u.1 18 ((5 * p1) + 1).toNatClampNeg)).2) := hR
      exact W.zret (v := 1) (ty := .boolean) hx hb hr (xnb (Or.inr rfl)) (fun t ht _ => by rw [hR]; dsimp only; exact ⟨⟨rfl, by rw [ht]; exact hP⟩, hS.F ht⟩) hS.2.2 dX6_does_151
  have hR := hR.trans (if_neg q7)
  refine lv_tableOut (tgt := 152) hx hb dX6_does_30 (xsw (u.1 18 (5 * p1).toNatClampNeg) (fun j h1 h2 h3 => by
    have h9 : j = 0 ∨ j = 1 ∨ j = 2 ∨ j = 3 ∨ False := by omega
    rcases h9 with rfl | rfl | rfl | rfl | h9
    · exact q1 (Int32.toInt_inj.mp h3)
    · exact q3 (Int32.toInt_inj.mp h3)
    · exact q5 (Int32.toInt_inj.mp h3)
    · exact q7 (Int32.toInt_inj.mp h3)
    · exact h9)) rfl ?_
  refine lv_aload_n hx hb dX6_does_152 rfl (lv_at hl 2 rfl) ?_
  refine xMdV (nL := 4) ⟨hx, hb, hml, hown, hts⟩ (c_X6_drop l E a u  hL) (cwV 0 hts gX6_does_X6_drop rfl rfl rfl ⟨rfl, hd_X6_drop⟩ ⟨(Nat.le_of_ble_eq_true rfl), (Nat.le_of_ble_eq_true rfl)⟩) hF hS hL.2 (fun _ h => h) hP (va_recv (q := (RX6, TX6, 28)) hK hP (ci := 6) rfl (q0 := 0) rfl) rfl hl.1 rfl (Nat.le_of_ble_eq_true rfl) ⟨(Nat.le_of_ble_eq_true rfl), (Nat.le_of_ble_eq_true rfl)⟩ dX6_does_153 (fun H locs hP _ hS => ?_)
  refine W.eq (g2 := F0 m 156 ls [.int ((s_X6_drop u).1)]) rfl ?_
  refine lv_if_lt (tgt := 163) hx hb dX6_does_156 rfl (fun q9 => ?_) (fun q9 => ?_)
  · have hR := hR.trans (if_pos q9)
    refine lv_iconst (v := 0) hx hb dX6_does_163 rfl ?_
    have hR : s_X6_does u p1 = (0, (s_X6_drop u).2) := hR
    exact W.zret (v := 0) (ty := .boolean) hx hb hr (xnb (Or.inl rfl)) (fun t ht _ => by rw [hR]; dsimp only; exact ⟨⟨rfl, by rw [ht]; exact hP⟩, hS.F ht⟩) hS.2.2 dX6_does_164
  · have hR := hR.trans (if_neg q9)
    refine lv_iconst (v := 1) hx hb dX6_does_159 rfl ?_
    refine lv_goto (tgt := 164) hx hb dX6_does_160 rfl ?_
    have hR : s_X6_does u p1 = (1, (s_X6_drop u).2) := hR
    exact W.zret (v := 1) (ty := .boolean) hx hb hr (xnb (Or.inr rfl)) (fun t ht _ => by rw [hR]; dsimp only; exact ⟨⟨rfl, by rw [ht]; exact hP⟩, hS.F ht⟩) hS.2.2 dX6_does_164
def s_X6_text_L74 : Nat → xU → Int32 → Int32 → Int32 → Int32 × xU
  | 0, u, _, _, _ => (0, u)
  | n + 1, u, x1, x2, x3 =>
    if (u.2 9) ≤ x3 then
      (x2, u)
    else
      s_X6_text_L74 n ((s_X6_does u x3).2) x1 (x2 + (s_X6_bit ((s_X6_does u x3).2) ((s_X6_does u x3).1))) (x3 + 1)
def s_X6_text_L19 : Nat → xU → Int32 → Int32 × xU
  | 0, u, _ => (0, u)
  | n + 1, u, x1 =>
    if x1 = 0 then
      if x1 = 0 then
        ((-100) - (u.2 6), uZ u 4 0)
      else
        if (u.2 7) = 12 then
          s_X6_text_L74 ((((uZ u 4 0).2 9).toInt - (0 : Int32).toInt).toNat + 1) (uZ u 4 0) x1 0 0
        else
          ((-100) - (u.2 6), uZ u 4 0)
    else
      if (u.2 7) = 11 then
        s_X6_text_L19 n ((s_X6_clause (s_X6_next u)).2) ((s_X6_clause (s_X6_next u)).1)
      else
        if x1 = 0 then
          ((-100) - (u.2 6), uZ u 4 0)
        else
          if (u.2 7) = 12 then
            s_X6_text_L74 ((((uZ u 4 0).2 9).toInt - (0 : Int32).toInt).toNat + 1) (uZ u 4 0) x1 0 0
          else
            ((-100) - (u.2 6), uZ u 4 0)
def s_X6_text (u : xU) : Int32 × xU :=
  s_X6_text_L19 ((((((s_X6_clause (s_X6_next (uZ (uZ u 5 0) 9 0))).2).2 4).toInt - (((s_X6_clause (s_X6_next (uZ (uZ u 5 0) 9 0))).2).2 5).toInt) + ((s_X6_clause (s_X6_next (uZ (uZ u 5 0) 9 0))).1).toInt).toNat + 1) ((s_X6_clause (s_X6_next (uZ (uZ u 5 0) 9 0))).2) ((s_X6_clause (s_X6_next (uZ (uZ u 5 0) 9 0))).1)
abbrev rm_X6_text : Room := { frames := 4, cells := 0, slots := 0, locals := 94 }
set_option maxHeartbeats 8000000 in
set_option maxRecDepth 100000 in
theorem c_X6_text (l : Launch) (E : xG) (a : Nat → Nat) (u : xU)  (hp0 : XW u) (hp1 : XTs u) (hL : xOK E (LM a)) : xMd l E yX6_text wsX6_text rm_X6_text (LM a) [.ref (a 0)] (wM E a u) (some (.int ((s_X6_text u).1))) (wM E a ((s_X6_text u).2)) := by
  refine xMd.of (cc := cX6_text) (maxL := 4) (ret := (some .int)) (by decide) rfl (Nat.le_of_ble_eq_true rfl) ?_
  intro p e s m below meth c ls hAt hF hP hS hl
  obtain ⟨hx, hb, hr, hml, hown, hts, hlocks, -⟩ := hAt
  have hown : s.vm.findClass RX6 = some m.cls := hown
  have hl : lv_has ls 4 [(0, .ref (a 0))] := hl
  have hK := hF.1
  have hA := hL.2
  change W p l e rm_X6_text s m ([.ref (a 0)] : List Value).toArray below meth c s.heap [] 0 0 (xQmd E below (LM a) (some (.int ((s_X6_text u).1))) (wM E a ((s_X6_text u).2)) ([.ref (a 0)] : List Value).toArray s) _
  have hS : va_S (· ∈ LM a) s.heap s.heap [] := hS
  have hR : s_X6_text u = s_X6_text u := rfl
  refine lv_aload_n hx hb dX6_text_0 rfl (lv_at hl 0 rfl) ?_
  refine lv_iconst (v := 0) hx hb dX6_text_1 rfl ?_
  refine va_put (D := xD E) (ci := 6) (v := .int 0) (ty := .int) (C := RX6) (T := TX6) (N := 28) hx hb hts (by decide +kernel) tyX6 tyX6_ok nmX6 hown hK hP (xD_of (ws := wM E a u) (A := (· ∈ LM a)) hL.1 (fun _ h => h)) hS 0 rfl rfl 22 (by decide) (hts (.fieldLink RX6 245 "RailOffsetsModel" "at" "I") (by decide +kernel)) (fun _ h => h) rfl (by decide +kernel) rfl rfl (Nat.le_of_ble_eq_true rfl) dX6_text_2 (fun H locs hP _ hS => ?_)
  have hP : va_P (xD E) vwCl (wM E a (uZ u 5 0)) H := hP
  refine lv_aload_n hx hb dX6_text_5 rfl (lv_at hl 0 rfl) ?_
  refine lv_iconst (v := 0) hx hb dX6_text_6 rfl ?_
  refine va_put (D := xD E) (ci := 6) (v := .int 0) (ty := .int) (C := RX6) (T := TX6) (N := 28) hx hb hts (by decide +kernel) tyX6 tyX6_ok nmX6 hown hK hP (xD_of (ws := wM E a (uZ u 5 0)) (A := (· ∈ LM a)) hL.1 (fun _ h => h)) hS 0 rfl rfl 27 (by decide) (hts (.fieldLink RX6 274 "RailOffsetsModel" "clauseMany" "I") (by decide +kernel)) (fun _ h => h) rfl (by decide +kernel) rfl rfl (Nat.le_of_ble_eq_true rfl) dX6_text_7 (fun H locs hP _ hS => ?_)
  have hP : va_P (xD E) vwCl (wM E a (uZ (uZ u 5 0) 9 0)) H := hP
  refine lv_aload_n hx hb dX6_text_10 rfl (lv_at hl 0 rfl) ?_
  refine xMdV (nL := 4) ⟨hx, hb, hml, hown, hts⟩ (c_X6_next l E a (uZ (uZ u 5 0) 9 0)  (xtx0 hp1) hL) (cwV 0 hts gX6_text_X6_next rfl rfl rfl ⟨rfl, hd_X6_next⟩ ⟨(Nat.le_of_ble_eq_true rfl), (Nat.le_of_ble_eq_true rfl)⟩) hF hS hL.2 (fun _ h => h) hP (va_recv (q := (RX6, TX6, 28)) hK hP (ci := 6) rfl (q0 := 0) rfl) rfl hl.1 rfl (Nat.le_of_ble_eq_true rfl) ⟨(Nat.le_of_ble_eq_true rfl), (Nat.le_of_ble_eq_true rfl)⟩ dX6_text_11 (fun H locs hP _ hS => ?_)
  refine W.eq (g2 := F0 m 14 ls []) rfl ?_
  refine lv_aload_n hx hb dX6_text_14 rfl (lv_at hl 0 rfl) ?_
  refine xMdV (nL := 4) ⟨hx, hb, hml, hown, hts⟩ (c_X6_clause l E a (s_X6_next (uZ (uZ u 5 0) 9 0))  (xtx1 hp1) hL) (cwV 0 hts gX6_text_X6_clause rfl rfl rfl ⟨rfl, hd_X6_clause⟩ ⟨(Nat.le_of_ble_eq_true rfl), (Nat.le_of_ble_eq_true rfl)⟩) hF hS hL.2 (fun _ h => h) hP (va_recv (q := (RX6, TX6, 28)) hK hP (ci := 6) rfl (q0 := 0) rfl) rfl hl.1 rfl (Nat.le_of_ble_eq_true rfl) ⟨(Nat.le_of_ble_eq_true rfl), (Nat.le_of_ble_eq_true rfl)⟩ dX6_text_15 (fun H locs hP _ hS => ?_)
  refine W.eq (g2 := F0 m 18 ls [.int ((s_X6_clause (s_X6_next (uZ (uZ u 5 0) 9 0))).1)]) rfl ?_
  refine lv_istore_n (lv' := [(1, .int ((s_X6_clause (s_X6_next (uZ (uZ u 5 0) 9 0))).1)), (0, .ref (a 0))]) hx hb dX6_text_18 rfl hl (by decide) rfl (fun ls hl => ?_)
  have L19 : ∀ (n19 : Nat) (u19 : xU) (x1 : Int32) (H : Heap) (locs : List Loc) (ls : Array Slot), (XTk u19) → (XW u19) → (x1 = 0 ∨ x1 = 1) → (((u19.2 4).toInt - (u19.2 5).toInt) + x1.toInt).toNat < n19 → s_X6_text u = s_X6_text_L19 n19 u19 x1 → lv_has ls 4 [(1, .int x1), (0, .ref (a 0))] → va_P (xD E) vwCl (wM E a u19) H → va_S (· ∈ LM a) s.heap H locs → W p l e rm_X6_text s m ([.ref (a 0)] : List Value).toArray below meth c H locs 0 0 (xQmd E below (LM a) (some (.int ((s_X6_text u).1))) (wM E a ((s_X6_text u).2)) ([.ref (a 0)] : List Value).toArray s) (F0 m 19 ls []) := by
    intro n19
    induction n19 with
    | zero => intro u19 x1 H locs ls hI0 hI1 hI2 hM19 hR hl hP hS; exact absurd hM19 (Nat.not_lt_zero _)
    | succ n19 ih19 =>
      intro u19 x1 H locs ls hI0 hI1 hI2 hM19 hR hl hP hS
      refine lv_iload_n hx hb dX6_text_19 rfl (lv_at hl 0 rfl) ?_
      refine lv_if_eq (tgt := 44) hx hb dX6_text_20 rfl (fun q1 => ?_) (fun q1 => ?_)
      · have hR := hR.trans (if_pos q1)
        refine lv_aload_n hx hb dX6_text_44 rfl (lv_at hl 1 rfl) ?_
        refine lv_iconst (v := 0) hx hb dX6_text_45 rfl ?_
        refine va_put (D := xD E) (ci := 6) (v := .int 0) (ty := .int) (C := RX6) (T := TX6) (N := 28) hx hb hts (by decide +kernel) tyX6 tyX6_ok nmX6 hown hK hP (xD_of (ws := wM E a u19) (A := (· ∈ LM a)) hL.1 (fun _ h => h)) hS 0 rfl rfl 18 (by decide) (hts (.fieldLink RX6 242 "RailOffsetsModel" "size" "I") (by decide +kernel)) (fun _ h => h) rfl (by decide +kernel) rfl rfl (Nat.le_of_ble_eq_true rfl) dX6_text_46 (fun H locs hP _ hS => ?_)
        have hP : va_P (xD E) vwCl (wM E a (uZ u19 4 0)) H := hP
        refine lv_iload_n hx hb dX6_text_49 rfl (lv_at hl 0 rfl) ?_
        refine lv_if_eq (tgt := 62) hx hb dX6_text_50 rfl (fun q2 => ?_) (fun q2 => ?_)
        · have hR := hR.trans (if_pos q2)
          refine lv_bipush (v := (-100)) hx hb dX6_text_62 rfl ?_
          refine lv_aload_n hx hb dX6_text_64 rfl (lv_at hl 1 rfl) ?_
          refine va_get (D := xD E) (ci := 6) (v := .int ((uZ u19 4 0).2 6)) (C := RX6) (T := TX6) (N := 28) hx hb hts (by decide +kernel) hown hK hP 0 rfl rfl 23 (by decide) (hts (.fieldLink RX6 255 "RailOffsetsModel" "begun" "I") (by decide +kernel)) (fun _ h => h) rfl dX6_text_65 ?_
          refine W.eq (g2 := F0 m 68 ls [.int (u19.2 6), .int (-100)]) rfl ?_
          refine lv_isub hx hb dX6_text_68 ?_
          have hR : s_X6_text u = ((-100) - (u19.2 6), uZ u19 4 0) := hR
          exact W.iret (v := (-100) - (u19.2 6)) hx hb hr (fun t ht _ => by rw [hR]; dsimp only; exact ⟨⟨rfl, by rw [ht]; exact hP⟩, hS.F ht⟩) hS.2.2 dX6_text_69
        · have hR := hR.trans (if_neg q2)
          refine lv_aload_n hx hb dX6_text_53 rfl (lv_at hl 1 rfl) ?_
          refine va_get (D := xD E) (ci := 6) (v := .int ((uZ u19 4 0).2 7)) (C := RX6) (T := TX6) (N := 28) hx hb hts (by decide +kernel) hown hK hP 0 rfl rfl 24 (by decide) (hts (.fieldLink RX6 268 "RailOffsetsModel" "token" "I") (by decide +kernel)) (fun _ h => h) rfl dX6_text_54 ?_
          refine W.eq (g2 := F0 m 57 ls [.int (u19.2 7)]) rfl ?_
          refine lv_bipush (v := 12) hx hb dX6_text_57 rfl ?_
          refine lv_icmp_eq (tgt := 70) hx hb dX6_text_59 rfl (fun q3 => ?_) (fun q3 => ?_)
          · have hR := hR.trans (if_pos q3)
            refine lv_iconst (v := 0) hx hb dX6_text_70 rfl ?_
            refine lv_istore_n (lv' := [(2, .int 0), (1, .int x1), (0, .ref (a 0))]) hx hb dX6_text_71 rfl hl (by decide) rfl (fun ls hl => ?_)
            refine lv_iconst (v := 0) hx hb dX6_text_72 rfl ?_
            refine lv_istore_n (lv' := [(3, .int 0), (2, .int 0), (1, .int x1), (0, .ref (a 0))]) hx hb dX6_text_73 rfl hl (by decide) rfl (fun ls hl => ?_)
            have L74 : ∀ (n74 : Nat) (u74 : xU) (x2 : Int32) (x3 : Int32) (H : Heap) (locs : List Loc) (ls : Array Slot), (XW u74) → ((u74.2 9).toInt ≤ 15) → (¬ x3 < 0) → ((u74.2 9).toInt - x3.toInt).toNat < n74 → s_X6_text u = s_X6_text_L74 n74 u74 x1 x2 x3 → lv_has ls 4 [(3, .int x3), (2, .int x2), (1, .int x1), (0, .ref (a 0))] → va_P (xD E) vwCl (wM E a u74) H → va_S (· ∈ LM a) s.heap H locs → W p l e rm_X6_text s m ([.ref (a 0)] : List Value).toArray below meth c H locs 0 0 (xQmd E below (LM a) (some (.int ((s_X6_text u).1))) (wM E a ((s_X6_text u).2)) ([.ref (a 0)] : List Value).toArray s) (F0 m 74 ls []) := by
              intro n74
              induction n74 with
              | zero => intro u74 x2 x3 H locs ls hI0 hI1 hI2 hM74 hR hl hP hS; exact absurd hM74 (Nat.not_lt_zero _)
              | succ n74 ih74 =>
                intro u74 x2 x3 H locs ls hI0 hI1 hI2 hM74 hR hl hP hS
                refine lv_iload_n hx hb dX6_text_74 rfl (lv_at hl 0 rfl) ?_
                refine lv_aload_n hx hb dX6_text_75 rfl (lv_at hl 3 rfl) ?_
                refine va_get (D := xD E) (ci := 6) (v := .int (u74.2 9)) (C := RX6) (T := TX6) (N := 28) hx hb hts (by decide +kernel) hown hK hP 0 rfl rfl 27 (by decide) (hts (.fieldLink RX6 274 "RailOffsetsModel" "clauseMany" "I") (by decide +kernel)) (fun _ h => h) rfl dX6_text_76 ?_
                refine lv_icmp_ge (tgt := 99) hx hb dX6_text_79 rfl (fun q4 => ?_) (fun q4 => ?_)
                · have hR := hR.trans (if_pos q4)
                  refine lv_iload_n hx hb dX6_text_99 rfl (lv_at hl 1 rfl) ?_
                  have hR : s_X6_text u = (x2, u74) := hR
                  exact W.iret (v := x2) hx hb hr (fun t ht _ => by rw [hR]; dsimp only; exact ⟨⟨rfl, by rw [ht]; exact hP⟩, hS.F ht⟩) hS.2.2 dX6_text_100
                · have hR := hR.trans (if_neg q4)
                  refine lv_iload_n hx hb dX6_text_82 rfl (lv_at hl 1 rfl) ?_
                  refine lv_aload_n hx hb dX6_text_83 rfl (lv_at hl 3 rfl) ?_
                  refine lv_iload_n hx hb dX6_text_84 rfl (lv_at hl 0 rfl) ?_
                  refine xMdV (nL := 4) ⟨hx, hb, hml, hown, hts⟩ (c_X6_does l E a u74 x3 (hI0) (xdo_14 hI2 hI1 q4) hL) (cwV 1 hts gX6_text_X6_does rfl rfl rfl ⟨rfl, hd_X6_does⟩ ⟨(Nat.le_of_ble_eq_true rfl), (Nat.le_of_ble_eq_true rfl)⟩) hF hS hL.2 (fun _ h => h) hP (va_recv (q := (RX6, TX6, 28)) hK hP (ci := 6) rfl (q0 := 0) rfl) rfl hl.1 rfl (Nat.le_of_ble_eq_true rfl) ⟨(Nat.le_of_ble_eq_true rfl), (Nat.le_of_ble_eq_true rfl)⟩ dX6_text_85 (fun H locs hP _ hS => ?_)
                  refine W.eq (g2 := F0 m 88 ls [.int ((s_X6_does u74 x3).1), .int x2]) rfl ?_
                  refine xRoS (nL := 4) ⟨hx, hb, hml, hown, hts⟩ (c_X6_bit l E a ((s_X6_does u74 x3).2) ((s_X6_does u74 x3).1)) (va_cwS 1 hts gX6_text_X6_bit rfl rfl rfl hd_X6_bit ⟨(Nat.le_of_ble_eq_true rfl), (Nat.le_of_ble_eq_true rfl)⟩) hF hS hA hP rfl hl.1 rfl (Nat.le_of_ble_eq_true rfl) ⟨(Nat.le_of_ble_eq_true rfl), (Nat.le_of_ble_eq_true rfl)⟩ dX6_text_88 ?_
                  refine W.eq (g2 := F0 m 91 ls [.int (s_X6_bit ((s_X6_does u74 x3).2) ((s_X6_does u74 x3).1)), .int x2]) rfl ?_
                  refine lv_iadd hx hb dX6_text_91 ?_
                  refine lv_istore_n (lv' := [(2, .int (x2 + (s_X6_bit ((s_X6_does u74 x3).2) ((s_X6_does u74 x3).1)))), (3, .int x3), (1, .int x1), (0, .ref (a 0))]) hx hb dX6_text_92 rfl hl (by decide) rfl (fun ls hl => ?_)
                  refine lv_iinc (k := 1) (v := x3 + 1) (lv' := [(3, .int (x3 + 1)), (2, .int (x2 + (s_X6_bit ((s_X6_does u74 x3).2) ((s_X6_does u74 x3).1)))), (1, .int x1), (0, .ref (a 0))]) hx hb dX6_text_93 hl rfl rfl (by decide) rfl (fun ls hl => ?_)
                  refine lv_goto (tgt := 74) hx hb dX6_text_96 rfl ?_
                  exact ih74 ((s_X6_does u74 x3).2) (x2 + (s_X6_bit ((s_X6_does u74 x3).2) ((s_X6_does u74 x3).1))) (x3 + 1) _ _ _ (xdo_w hI0 _) (by rw [(xdo_k _ _).1]; exact hI1) (xup0 hI2 q4) (Nat.lt_of_lt_of_le (by rw [(xdo_k _ _).1]; exact xupc q4) (Nat.le_of_lt_succ hM74)) hR (lv_sub hl [0, 1, 2, 3] rfl) hP hS
            exact L74 ((((uZ u19 4 0).2 9).toInt - (0 : Int32).toInt).toNat + 1) (uZ u19 4 0) 0 0 _ _ ls (hI1) (xcl_15 hI0) (by decide) (Nat.lt_succ_self _) hR hl hP hS
          · have hR := hR.trans (if_neg q3)
            refine lv_bipush (v := (-100)) hx hb dX6_text_62 rfl ?_
            refine lv_aload_n hx hb dX6_text_64 rfl (lv_at hl 1 rfl) ?_
            refine va_get (D := xD E) (ci := 6) (v := .int ((uZ u19 4 0).2 6)) (C := RX6) (T := TX6) (N := 28) hx hb hts (by decide +kernel) hown hK hP 0 rfl rfl 23 (by decide) (hts (.fieldLink RX6 255 "RailOffsetsModel" "begun" "I") (by decide +kernel)) (fun _ h => h) rfl dX6_text_65 ?_
            refine W.eq (g2 := F0 m 68 ls [.int (u19.2 6), .int (-100)]) rfl ?_
            refine lv_isub hx hb dX6_text_68 ?_
            have hR : s_X6_text u = ((-100) - (u19.2 6), uZ u19 4 0) := hR
            exact W.iret (v := (-100) - (u19.2 6)) hx hb hr (fun t ht _ => by rw [hR]; dsimp only; exact ⟨⟨rfl, by rw [ht]; exact hP⟩, hS.F ht⟩) hS.2.2 dX6_text_69
      · have hR := hR.trans (if_neg q1)
        refine lv_aload_n hx hb dX6_text_23 rfl (lv_at hl 1 rfl) ?_
        refine va_get (D := xD E) (ci := 6) (v := .int (u19.2 7)) (C := RX6) (T := TX6) (N := 28) hx hb hts (by decide +kernel) hown hK hP 0 rfl rfl 24 (by decide) (hts (.fieldLink RX6 268 "RailOffsetsModel" "token" "I") (by decide +kernel)) (fun _ h => h) rfl dX6_text_24 ?_
        refine lv_bipush (v := 11) hx hb dX6_text_27 rfl ?_
        refine lv_icmp_ne (tgt := 44) hx hb dX6_text_29 rfl (fun q5 => ?_) (fun q5 => ?_)
        · have hR := hR.trans (if_neg q5)
          refine lv_aload_n hx hb dX6_text_44 rfl (lv_at hl 1 rfl) ?_
          refine lv_iconst (v := 0) hx hb dX6_text_45 rfl ?_
          refine va_put (D := xD E) (ci := 6) (v := .int 0) (ty := .int) (C := RX6) (T := TX6) (N := 28) hx hb hts (by decide +kernel) tyX6 tyX6_ok nmX6 hown hK hP (xD_of (ws := wM E a u19) (A := (· ∈ LM a)) hL.1 (fun _ h => h)) hS 0 rfl rfl 18 (by decide) (hts (.fieldLink RX6 242 "RailOffsetsModel" "size" "I") (by decide +kernel)) (fun _ h => h) rfl (by decide +kernel) rfl rfl (Nat.le_of_ble_eq_true rfl) dX6_text_46 (fun H locs hP _ hS => ?_)
          have hP : va_P (xD E) vwCl (wM E a (uZ u19 4 0)) H := hP
          refine lv_iload_n hx hb dX6_text_49 rfl (lv_at hl 0 rfl) ?_
          refine lv_if_eq (tgt := 62) hx hb dX6_text_50 rfl (fun q6 => ?_) (fun q6 => ?_)
          · have hR := hR.trans (if_pos q6)
            refine lv_bipush (v := (-100)) hx hb dX6_text_62 rfl ?_
            refine lv_aload_n hx hb dX6_text_64 rfl (lv_at hl 1 rfl) ?_
            refine va_get (D := xD E) (ci := 6) (v := .int ((uZ u19 4 0).2 6)) (C := RX6) (T := TX6) (N := 28) hx hb hts (by decide +kernel) hown hK hP 0 rfl rfl 23 (by decide) (hts (.fieldLink RX6 255 "RailOffsetsModel" "begun" "I") (by decide +kernel)) (fun _ h => h) rfl dX6_text_65 ?_
            refine W.eq (g2 := F0 m 68 ls [.int (u19.2 6), .int (-100)]) rfl ?_
            refine lv_isub hx hb dX6_text_68 ?_
            have hR : s_X6_text u = ((-100) - (u19.2 6), uZ u19 4 0) := hR
            exact W.iret (v := (-100) - (u19.2 6)) hx hb hr (fun t ht _ => by rw [hR]; dsimp only; exact ⟨⟨rfl, by rw [ht]; exact hP⟩, hS.F ht⟩) hS.2.2 dX6_text_69
          · have hR := hR.trans (if_neg q6)
            refine lv_aload_n hx hb dX6_text_53 rfl (lv_at hl 1 rfl) ?_
            refine va_get (D := xD E) (ci := 6) (v := .int ((uZ u19 4 0).2 7)) (C := RX6) (T := TX6) (N := 28) hx hb hts (by decide +kernel) hown hK hP 0 rfl rfl 24 (by decide) (hts (.fieldLink RX6 268 "RailOffsetsModel" "token" "I") (by decide +kernel)) (fun _ h => h) rfl dX6_text_54 ?_
            refine W.eq (g2 := F0 m 57 ls [.int (u19.2 7)]) rfl ?_
            refine lv_bipush (v := 12) hx hb dX6_text_57 rfl ?_
            refine lv_icmp_eq (tgt := 70) hx hb dX6_text_59 rfl (fun q7 => ?_) (fun q7 => ?_)
            · have hR := hR.trans (if_pos q7)
              refine lv_iconst (v := 0) hx hb dX6_text_70 rfl ?_
              refine lv_istore_n (lv' := [(2, .int 0), (1, .int x1), (0, .ref (a 0))]) hx hb dX6_text_71 rfl hl (by decide) rfl (fun ls hl => ?_)
              refine lv_iconst (v := 0) hx hb dX6_text_72 rfl ?_
              refine lv_istore_n (lv' := [(3, .int 0), (2, .int 0), (1, .int x1), (0, .ref (a 0))]) hx hb dX6_text_73 rfl hl (by decide) rfl (fun ls hl => ?_)
              have L74 : ∀ (n74 : Nat) (u74 : xU) (x2 : Int32) (x3 : Int32) (H : Heap) (locs : List Loc) (ls : Array Slot), (XW u74) → ((u74.2 9).toInt ≤ 15) → (¬ x3 < 0) → ((u74.2 9).toInt - x3.toInt).toNat < n74 → s_X6_text u = s_X6_text_L74 n74 u74 x1 x2 x3 → lv_has ls 4 [(3, .int x3), (2, .int x2), (1, .int x1), (0, .ref (a 0))] → va_P (xD E) vwCl (wM E a u74) H → va_S (· ∈ LM a) s.heap H locs → W p l e rm_X6_text s m ([.ref (a 0)] : List Value).toArray below meth c H locs 0 0 (xQmd E below (LM a) (some (.int ((s_X6_text u).1))) (wM E a ((s_X6_text u).2)) ([.ref (a 0)] : List Value).toArray s) (F0 m 74 ls []) := by
                intro n74
                induction n74 with
                | zero => intro u74 x2 x3 H locs ls hI0 hI1 hI2 hM74 hR hl hP hS; exact absurd hM74 (Nat.not_lt_zero _)
                | succ n74 ih74 =>
                  intro u74 x2 x3 H locs ls hI0 hI1 hI2 hM74 hR hl hP hS
                  refine lv_iload_n hx hb dX6_text_74 rfl (lv_at hl 0 rfl) ?_
                  refine lv_aload_n hx hb dX6_text_75 rfl (lv_at hl 3 rfl) ?_
                  refine va_get (D := xD E) (ci := 6) (v := .int (u74.2 9)) (C := RX6) (T := TX6) (N := 28) hx hb hts (by decide +kernel) hown hK hP 0 rfl rfl 27 (by decide) (hts (.fieldLink RX6 274 "RailOffsetsModel" "clauseMany" "I") (by decide +kernel)) (fun _ h => h) rfl dX6_text_76 ?_
                  refine lv_icmp_ge (tgt := 99) hx hb dX6_text_79 rfl (fun q8 => ?_) (fun q8 => ?_)
                  · have hR := hR.trans (if_pos q8)
                    refine lv_iload_n hx hb dX6_text_99 rfl (lv_at hl 1 rfl) ?_
                    have hR : s_X6_text u = (x2, u74) := hR
                    exact W.iret (v := x2) hx hb hr (fun t ht _ => by rw [hR]; dsimp only; exact ⟨⟨rfl, by rw [ht]; exact hP⟩, hS.F ht⟩) hS.2.2 dX6_text_100
                  · have hR := hR.trans (if_neg q8)
                    refine lv_iload_n hx hb dX6_text_82 rfl (lv_at hl 1 rfl) ?_
                    refine lv_aload_n hx hb dX6_text_83 rfl (lv_at hl 3 rfl) ?_
                    refine lv_iload_n hx hb dX6_text_84 rfl (lv_at hl 0 rfl) ?_
                    refine xMdV (nL := 4) ⟨hx, hb, hml, hown, hts⟩ (c_X6_does l E a u74 x3 (hI0) (xdo_14 hI2 hI1 q8) hL) (cwV 1 hts gX6_text_X6_does rfl rfl rfl ⟨rfl, hd_X6_does⟩ ⟨(Nat.le_of_ble_eq_true rfl), (Nat.le_of_ble_eq_true rfl)⟩) hF hS hL.2 (fun _ h => h) hP (va_recv (q := (RX6, TX6, 28)) hK hP (ci := 6) rfl (q0 := 0) rfl) rfl hl.1 rfl (Nat.le_of_ble_eq_true rfl) ⟨(Nat.le_of_ble_eq_true rfl), (Nat.le_of_ble_eq_true rfl)⟩ dX6_text_85 (fun H locs hP _ hS => ?_)
                    refine W.eq (g2 := F0 m 88 ls [.int ((s_X6_does u74 x3).1), .int x2]) rfl ?_
                    refine xRoS (nL := 4) ⟨hx, hb, hml, hown, hts⟩ (c_X6_bit l E a ((s_X6_does u74 x3).2) ((s_X6_does u74 x3).1)) (va_cwS 1 hts gX6_text_X6_bit rfl rfl rfl hd_X6_bit ⟨(Nat.le_of_ble_eq_true rfl), (Nat.le_of_ble_eq_true rfl)⟩) hF hS hA hP rfl hl.1 rfl (Nat.le_of_ble_eq_true rfl) ⟨(Nat.le_of_ble_eq_true rfl), (Nat.le_of_ble_eq_true rfl)⟩ dX6_text_88 ?_
                    refine W.eq (g2 := F0 m 91 ls [.int (s_X6_bit ((s_X6_does u74 x3).2) ((s_X6_does u74 x3).1)), .int x2]) rfl ?_
                    refine lv_iadd hx hb dX6_text_91 ?_
                    refine lv_istore_n (lv' := [(2, .int (x2 + (s_X6_bit ((s_X6_does u74 x3).2) ((s_X6_does u74 x3).1)))), (3, .int x3), (1, .int x1), (0, .ref (a 0))]) hx hb dX6_text_92 rfl hl (by decide) rfl (fun ls hl => ?_)
                    refine lv_iinc (k := 1) (v := x3 + 1) (lv' := [(3, .int (x3 + 1)), (2, .int (x2 + (s_X6_bit ((s_X6_does u74 x3).2) ((s_X6_does u74 x3).1)))), (1, .int x1), (0, .ref (a 0))]) hx hb dX6_text_93 hl rfl rfl (by decide) rfl (fun ls hl => ?_)
                    refine lv_goto (tgt := 74) hx hb dX6_text_96 rfl ?_
                    exact ih74 ((s_X6_does u74 x3).2) (x2 + (s_X6_bit ((s_X6_does u74 x3).2) ((s_X6_does u74 x3).1))) (x3 + 1) _ _ _ (xdo_w hI0 _) (by rw [(xdo_k _ _).1]; exact hI1) (xup0 hI2 q8) (Nat.lt_of_lt_of_le (by rw [(xdo_k _ _).1]; exact xupc q8) (Nat.le_of_lt_succ hM74)) hR (lv_sub hl [0, 1, 2, 3] rfl) hP hS
              exact L74 ((((uZ u19 4 0).2 9).toInt - (0 : Int32).toInt).toNat + 1) (uZ u19 4 0) 0 0 _ _ ls (hI1) (xcl_15 hI0) (by decide) (Nat.lt_succ_self _) hR hl hP hS
            · have hR := hR.trans (if_neg q7)
              refine lv_bipush (v := (-100)) hx hb dX6_text_62 rfl ?_
              refine lv_aload_n hx hb dX6_text_64 rfl (lv_at hl 1 rfl) ?_
              refine va_get (D := xD E) (ci := 6) (v := .int ((uZ u19 4 0).2 6)) (C := RX6) (T := TX6) (N := 28) hx hb hts (by decide +kernel) hown hK hP 0 rfl rfl 23 (by decide) (hts (.fieldLink RX6 255 "RailOffsetsModel" "begun" "I") (by decide +kernel)) (fun _ h => h) rfl dX6_text_65 ?_
              refine W.eq (g2 := F0 m 68 ls [.int (u19.2 6), .int (-100)]) rfl ?_
              refine lv_isub hx hb dX6_text_68 ?_
              have hR : s_X6_text u = ((-100) - (u19.2 6), uZ u19 4 0) := hR
              exact W.iret (v := (-100) - (u19.2 6)) hx hb hr (fun t ht _ => by rw [hR]; dsimp only; exact ⟨⟨rfl, by rw [ht]; exact hP⟩, hS.F ht⟩) hS.2.2 dX6_text_69
        · have hR := hR.trans (if_pos q5)
          refine lv_aload_n hx hb dX6_text_32 rfl (lv_at hl 1 rfl) ?_
          refine xMdV (nL := 4) ⟨hx, hb, hml, hown, hts⟩ (c_X6_next l E a u19  (hI0.1.1) hL) (cwV 0 hts gX6_text_X6_next rfl rfl rfl ⟨rfl, hd_X6_next⟩ ⟨(Nat.le_of_ble_eq_true rfl), (Nat.le_of_ble_eq_true rfl)⟩) hF hS hL.2 (fun _ h => h) hP (va_recv (q := (RX6, TX6, 28)) hK hP (ci := 6) rfl (q0 := 0) rfl) rfl hl.1 rfl (Nat.le_of_ble_eq_true rfl) ⟨(Nat.le_of_ble_eq_true rfl), (Nat.le_of_ble_eq_true rfl)⟩ dX6_text_33 (fun H locs hP _ hS => ?_)
          refine W.eq (g2 := F0 m 36 ls []) rfl ?_
          refine lv_aload_n hx hb dX6_text_36 rfl (lv_at hl 1 rfl) ?_
          refine xMdV (nL := 4) ⟨hx, hb, hml, hown, hts⟩ (c_X6_clause l E a (s_X6_next u19)  (xtkn hI0) hL) (cwV 0 hts gX6_text_X6_clause rfl rfl rfl ⟨rfl, hd_X6_clause⟩ ⟨(Nat.le_of_ble_eq_true rfl), (Nat.le_of_ble_eq_true rfl)⟩) hF hS hL.2 (fun _ h => h) hP (va_recv (q := (RX6, TX6, 28)) hK hP (ci := 6) rfl (q0 := 0) rfl) rfl hl.1 rfl (Nat.le_of_ble_eq_true rfl) ⟨(Nat.le_of_ble_eq_true rfl), (Nat.le_of_ble_eq_true rfl)⟩ dX6_text_37 (fun H locs hP _ hS => ?_)
          refine W.eq (g2 := F0 m 40 ls [.int ((s_X6_clause (s_X6_next u19)).1)]) rfl ?_
          refine lv_istore_n (lv' := [(1, .int ((s_X6_clause (s_X6_next u19)).1)), (0, .ref (a 0))]) hx hb dX6_text_40 rfl hl (by decide) rfl (fun ls hl => ?_)
          refine lv_goto (tgt := 19) hx hb dX6_text_41 rfl ?_
          exact ih19 ((s_X6_clause (s_X6_next u19)).2) ((s_X6_clause (s_X6_next u19)).1) _ _ _ ((xcl (xtkn hI0)).2.2.1) (xcl_w (xtkn hI0) (xnx_w1 hI0.1.1 hI1)) (xcl_b (xtkn hI0)) (Nat.lt_of_lt_of_le (xcl_d hI0 hI2 q1) (Nat.le_of_lt_succ hM19)) hR (lv_sub hl [0, 1] rfl) hP hS
  exact L19 ((((((s_X6_clause (s_X6_next (uZ (uZ u 5 0) 9 0))).2).2 4).toInt - (((s_X6_clause (s_X6_next (uZ (uZ u 5 0) 9 0))).2).2 5).toInt) + ((s_X6_clause (s_X6_next (uZ (uZ u 5 0) 9 0))).1).toInt).toNat + 1) ((s_X6_clause (s_X6_next (uZ (uZ u 5 0) 9 0))).2) ((s_X6_clause (s_X6_next (uZ (uZ u 5 0) 9 0))).1) _ _ ls ((xcl (xtx1 hp1)).2.2.1) (xcl_w (xtx1 hp1) (xnx_w1 (xtx0 hp1) hp0)) (xcl_b (xtx1 hp1)) (Nat.lt_succ_self _) hR hl hP hS
