/-! ===== the reference's trials ===== -/
theorem xwA1 {E : xG} {a : Nat → Nat} {U : xU} {i : Nat} {x : Int32} {H : Heap} (h : va_P (xD E) vwCl ((wM E a U).set 1 (a 1, .inl (xct E 0, 49, .inl (upd (U.1 1) i x)))) H) : va_P (xD E) vwCl (wM E a (uA U 1 i x)) H := h
theorem xdm (u : xU) : (s_X6_doMeet u).2 = s_X6_lays u := by
  unfold s_X6_doMeet
  split
  · split <;> rfl
  · rfl
theorem xokm_n : ∀ k, k < 199 → -99 ≤ (if (iRem (nI k) 2) = 1 then ((nI k) + 1) / 2 else (-(nI k)) / 2).toInt ∧ (if (iRem (nI k) 2) = 1 then ((nI k) + 1) / 2 else (-(nI k)) / 2).toInt ≤ 99 := by decide +kernel
theorem xnat {k : Int32} (h0 : ¬ k < 0) {N : Int32} (q : ¬ N ≤ k) : ∃ j : Nat, (j : Int) < N.toInt ∧ k = nI j := by
  rw [fa_le] at q
  obtain ⟨j, hj, rfl⟩ := nI_of_toInt (xge0 h0)
  rw [nI_toInt hj] at q
  exact ⟨j, by omega, rfl⟩
theorem xokm {k : Int32} (h0 : ¬ k < 0) (q : ¬ 199 ≤ k) : okf 2 (if (iRem k 2) = 1 then (k + 1) / 2 else (-k) / 2) := by
  obtain ⟨j, hj, rfl⟩ := xnat h0 q
  exact xokm_n j (by rw [show (199 : Int32).toInt = 199 from rfl] at hj; omega)
set_option maxRecDepth 100000 in
theorem xokb_n : ∀ k, k < 3721 → (-99 ≤ ((nI k) / 61 - 30).toInt ∧ ((nI k) / 61 - 30).toInt ≤ 99) ∧ (-99 ≤ (iRem (nI k) 61 - 30).toInt ∧ (iRem (nI k) 61 - 30).toInt ≤ 99) := by decide +kernel
theorem xokb {k : Int32} (h0 : ¬ k < 0) (q : ¬ 3721 ≤ k) : okf 2 (k / 61 - 30) ∧ okf 2 (iRem k 61 - 30) := by
  obtain ⟨j, hj, rfl⟩ := xnat h0 q
  exact xokb_n j (by rw [show (3721 : Int32).toInt = 3721 from rfl] at hj; omega)
def s_X6_least_L23 : Nat → xU → Int32 → Int32 → Int32 → Int32 → Int32 × xU
  | 0, u, _, _, _, _ => (0, u)
  | n + 1, u, x1, x2, x3, x4 =>
    if 160 < x4 then
      (x3, uA u 1 ((4 * x1) + 3).toNatClampNeg x2)
    else
      if 0 ≤ x3 then
        (x3, uA u 1 ((4 * x1) + 3).toNatClampNeg x2)
      else
        s_X6_least_L23 n (s_X6_lays (uA u 1 ((4 * x1) + 3).toNatClampNeg x4)) x1 x2 (if (s_X6_piecelacks (s_X6_lays (uA u 1 ((4 * x1) + 3).toNatClampNeg x4)) x1) = 0 then x4 else (-1)) (x4 + 1)
def s_X6_least (u : xU) (p1 : Int32) : Int32 × xU :=
  if (s_X6_isPiece u p1) = 0 then
    ((-2), u)
  else
    s_X6_least_L23 (((160 : Int32).toInt + 1 - (0 : Int32).toInt).toNat + 1) u p1 (s_X6_of0 u p1 3) (-1) 0
abbrev rm_X6_least : Room := { frames := 4, cells := 0, slots := 0, locals := 88 }
set_option maxHeartbeats 8000000 in
set_option maxRecDepth 100000 in
theorem c_X6_least (l : Launch) (E : xG) (a : Nat → Nat) (u : xU) (p1 : Int32) (hp0 : XW u) (hL : xOK E (LM a)) : xMd l E yX6_least wsX6_least rm_X6_least (LM a) [.ref (a 0), .int p1] (wM E a u) (some (.int ((s_X6_least u p1).1))) (wM E a ((s_X6_least u p1).2)) := by
  refine xMd.of (cc := cX6_least) (maxL := 5) (ret := (some .int)) (by decide) rfl (Nat.le_of_ble_eq_true rfl) ?_
  intro p e s m below meth c ls hAt hF hP hS hl
  obtain ⟨hx, hb, hr, hml, hown, hts, hlocks, -⟩ := hAt
  have hown : s.vm.findClass RX6 = some m.cls := hown
  have hl : lv_has ls 5 [(0, .ref (a 0)), (1, .int p1)] := hl
  have hK := hF.1
  have hA := hL.2
  change W p l e rm_X6_least s m ([.ref (a 0), .int p1] : List Value).toArray below meth c s.heap [] 0 0 (xQmd E below (LM a) (some (.int ((s_X6_least u p1).1))) (wM E a ((s_X6_least u p1).2)) ([.ref (a 0), .int p1] : List Value).toArray s) _
  have hS : va_S (· ∈ LM a) s.heap s.heap [] := hS
  have hR : s_X6_least u p1 = s_X6_least u p1 := rfl
  refine lv_aload_n hx hb dX6_least_0 rfl (lv_at hl 0 rfl) ?_
  refine lv_iload_n hx hb dX6_least_1 rfl (lv_at hl 1 rfl) ?_
  refine xRoV (nL := 5) ⟨hx, hb, hml, hown, hts⟩ (c_X6_isPiece l E a u p1) (cwV 1 hts gX6_least_X6_isPiece rfl rfl rfl ⟨rfl, hd_X6_isPiece⟩ ⟨(Nat.le_of_ble_eq_true rfl), (Nat.le_of_ble_eq_true rfl)⟩) hF hS hA hP (va_recv (q := (RX6, TX6, 28)) hK hP (ci := 6) rfl (q0 := 0) rfl) rfl hl.1 rfl (Nat.le_of_ble_eq_true rfl) ⟨(Nat.le_of_ble_eq_true rfl), (Nat.le_of_ble_eq_true rfl)⟩ dX6_least_2 ?_
  refine W.eq (g2 := F0 m 5 ls [.int (s_X6_isPiece u p1)]) rfl ?_
  refine lv_if_ne (tgt := 11) hx hb dX6_least_5 rfl (fun q1 => ?_) (fun q1 => ?_)
  · have hR := hR.trans (if_neg q1)
    refine lv_aload_n hx hb dX6_least_11 rfl (lv_at hl 0 rfl) ?_
    refine lv_iload_n hx hb dX6_least_12 rfl (lv_at hl 1 rfl) ?_
    refine lv_iconst (v := 3) hx hb dX6_least_13 rfl ?_
    refine xRoV (nL := 5) ⟨hx, hb, hml, hown, hts⟩ (c_X6_of0 l E a u p1 3 (xof (xisP hp0 q1) (by decide) (by decide))) (cwV 2 hts gX6_least_X6_of0 rfl rfl rfl ⟨rfl, hd_X6_of0⟩ ⟨(Nat.le_of_ble_eq_true rfl), (Nat.le_of_ble_eq_true rfl)⟩) hF hS hA hP (va_recv (q := (RX6, TX6, 28)) hK hP (ci := 6) rfl (q0 := 0) rfl) rfl hl.1 rfl (Nat.le_of_ble_eq_true rfl) ⟨(Nat.le_of_ble_eq_true rfl), (Nat.le_of_ble_eq_true rfl)⟩ dX6_least_14 ?_
    refine W.eq (g2 := F0 m 17 ls [.int (s_X6_of0 u p1 3)]) rfl ?_
    refine lv_istore_n (lv' := [(2, .int (s_X6_of0 u p1 3)), (0, .ref (a 0)), (1, .int p1)]) hx hb dX6_least_17 rfl hl (by decide) rfl (fun ls hl => ?_)
    refine lv_iconst (v := (-1)) hx hb dX6_least_18 rfl ?_
    refine lv_istore_n (lv' := [(3, .int (-1)), (2, .int (s_X6_of0 u p1 3)), (0, .ref (a 0)), (1, .int p1)]) hx hb dX6_least_19 rfl hl (by decide) rfl (fun ls hl => ?_)
    refine lv_iconst (v := 0) hx hb dX6_least_20 rfl ?_
    refine lv_istore (lv' := [(4, .int 0), (3, .int (-1)), (2, .int (s_X6_of0 u p1 3)), (0, .ref (a 0)), (1, .int p1)]) hx hb dX6_least_21 hl (by decide) rfl (fun ls hl => ?_)
    have L23 : ∀ (n23 : Nat) (u23 : xU) (x3 : Int32) (x4 : Int32) (H : Heap) (locs : List Loc) (ls : Array Slot), (XW u23) → (¬ x4 < 0) → ((160 : Int32).toInt + 1 - x4.toInt).toNat < n23 → s_X6_least u p1 = s_X6_least_L23 n23 u23 p1 (s_X6_of0 u p1 3) x3 x4 → lv_has ls 5 [(4, .int x4), (3, .int x3), (2, .int (s_X6_of0 u p1 3)), (0, .ref (a 0)), (1, .int p1)] → va_P (xD E) vwCl (wM E a u23) H → va_S (· ∈ LM a) s.heap H locs → W p l e rm_X6_least s m ([.ref (a 0), .int p1] : List Value).toArray below meth c H locs 0 0 (xQmd E below (LM a) (some (.int ((s_X6_least u p1).1))) (wM E a ((s_X6_least u p1).2)) ([.ref (a 0), .int p1] : List Value).toArray s) (F0 m 23 ls []) := by
      intro n23
      induction n23 with
      | zero => intro u23 x3 x4 H locs ls hI0 hI1 hM23 hR hl hP hS; exact absurd hM23 (Nat.not_lt_zero _)
      | succ n23 ih23 =>
        intro u23 x3 x4 H locs ls hI0 hI1 hM23 hR hl hP hS
        refine lv_iload hx hb dX6_least_23 (lv_at hl 0 rfl) ?_
        refine lv_sipush (v := 160) hx hb dX6_least_25 rfl ?_
        refine lv_icmp_gt (tgt := 72) hx hb dX6_least_28 rfl (fun q2 => ?_) (fun q2 => ?_)
        · have hR := hR.trans (if_pos q2)
          refine lv_aload_n hx hb dX6_least_72 rfl (lv_at hl 3 rfl) ?_
          refine va_get (D := xD E) (ci := 6) (v := .ref (a 1)) (C := RX6) (T := TX6) (N := 28) hx hb hts (by decide +kernel) hown hK hP 0 rfl rfl 0 (by decide) (hts (.fieldLink RX6 11 "RailOffsetsModel" "now" "[I") (by decide +kernel)) (fun _ h => h) rfl dX6_least_73 ?_
          refine lv_iconst (v := 4) hx hb dX6_least_76 rfl ?_
          refine lv_iload_n hx hb dX6_least_77 rfl (lv_at hl 4 rfl) ?_
          refine lv_imul hx hb dX6_least_78 ?_
          refine lv_iconst (v := 3) hx hb dX6_least_79 rfl ?_
          refine lv_iadd hx hb dX6_least_80 ?_
          refine lv_iload_n hx hb dX6_least_81 rfl (lv_at hl 2 rfl) ?_
          refine va_iast hx hb hK hP (xD_of (ws := wM E a u23) (A := (· ∈ LM a)) hL.1 (fun _ h => h)) hS 1 0 rfl rfl (xof (xisP hp0 q1) (by decide) (by decide)) dX6_least_82 (fun H locs hP _ hS => ?_)
          have hP : va_P (xD E) vwCl (wM E a (uA u23 1 ((4 * p1) + 3).toNatClampNeg (s_X6_of0 u p1 3))) H := hP
          refine lv_iload_n hx hb dX6_least_83 rfl (lv_at hl 1 rfl) ?_
          have hR : s_X6_least u p1 = (x3, uA u23 1 ((4 * p1) + 3).toNatClampNeg (s_X6_of0 u p1 3)) := hR
          exact W.iret (v := x3) hx hb hr (fun t ht _ => by rw [hR]; dsimp only; exact ⟨⟨rfl, by rw [ht]; exact hP⟩, hS.F ht⟩) hS.2.2 dX6_least_84
        · have hR := hR.trans (if_neg q2)
          refine lv_iload_n hx hb dX6_least_31 rfl (lv_at hl 1 rfl) ?_
          refine lv_if_ge (tgt := 72) hx hb dX6_least_32 rfl (fun q3 => ?_) (fun q3 => ?_)
          · have hR := hR.trans (if_pos q3)
            refine lv_aload_n hx hb dX6_least_72 rfl (lv_at hl 3 rfl) ?_
            refine va_get (D := xD E) (ci := 6) (v := .ref (a 1)) (C := RX6) (T := TX6) (N := 28) hx hb hts (by decide +kernel) hown hK hP 0 rfl rfl 0 (by decide) (hts (.fieldLink RX6 11 "RailOffsetsModel" "now" "[I") (by decide +kernel)) (fun _ h => h) rfl dX6_least_73 ?_
            refine lv_iconst (v := 4) hx hb dX6_least_76 rfl ?_
            refine lv_iload_n hx hb dX6_least_77 rfl (lv_at hl 4 rfl) ?_
            refine lv_imul hx hb dX6_least_78 ?_
            refine lv_iconst (v := 3) hx hb dX6_least_79 rfl ?_
            refine lv_iadd hx hb dX6_least_80 ?_
            refine lv_iload_n hx hb dX6_least_81 rfl (lv_at hl 2 rfl) ?_
            refine va_iast hx hb hK hP (xD_of (ws := wM E a u23) (A := (· ∈ LM a)) hL.1 (fun _ h => h)) hS 1 0 rfl rfl (xof (xisP hp0 q1) (by decide) (by decide)) dX6_least_82 (fun H locs hP _ hS => ?_)
            have hP : va_P (xD E) vwCl (wM E a (uA u23 1 ((4 * p1) + 3).toNatClampNeg (s_X6_of0 u p1 3))) H := hP
            refine lv_iload_n hx hb dX6_least_83 rfl (lv_at hl 1 rfl) ?_
            have hR : s_X6_least u p1 = (x3, uA u23 1 ((4 * p1) + 3).toNatClampNeg (s_X6_of0 u p1 3)) := hR
            exact W.iret (v := x3) hx hb hr (fun t ht _ => by rw [hR]; dsimp only; exact ⟨⟨rfl, by rw [ht]; exact hP⟩, hS.F ht⟩) hS.2.2 dX6_least_84
          · have hR := hR.trans (if_neg q3)
            refine lv_aload_n hx hb dX6_least_35 rfl (lv_at hl 3 rfl) ?_
            refine va_get (D := xD E) (ci := 6) (v := .ref (a 1)) (C := RX6) (T := TX6) (N := 28) hx hb hts (by decide +kernel) hown hK hP 0 rfl rfl 0 (by decide) (hts (.fieldLink RX6 11 "RailOffsetsModel" "now" "[I") (by decide +kernel)) (fun _ h => h) rfl dX6_least_36 ?_
            refine lv_iconst (v := 4) hx hb dX6_least_39 rfl ?_
            refine lv_iload_n hx hb dX6_least_40 rfl (lv_at hl 4 rfl) ?_
            refine lv_imul hx hb dX6_least_41 ?_
            refine lv_iconst (v := 3) hx hb dX6_least_42 rfl ?_
            refine lv_iadd hx hb dX6_least_43 ?_
            refine lv_iload hx hb dX6_least_44 (lv_at hl 0 rfl) ?_
            refine va_iast hx hb hK hP (xD_of (ws := wM E a u23) (A := (· ∈ LM a)) hL.1 (fun _ h => h)) hS 1 0 rfl rfl (xof (xisP hp0 q1) (by decide) (by decide)) dX6_least_46 (fun H locs hP _ hS => ?_)
            have hP : va_P (xD E) vwCl (wM E a (uA u23 1 ((4 * p1) + 3).toNatClampNeg x4)) H := hP
            refine lv_aload_n hx hb dX6_least_47 rfl (lv_at hl 3 rfl) ?_
            refine xMdV (nL := 5) ⟨hx, hb, hml, hown, hts⟩ (c_X6_lays l E a (uA u23 1 ((4 * p1) + 3).toNatClampNeg x4)  (xwu hI0 (xisP hp0 q1) (j := 3) (by decide) (xok_cant hI1 q2) (fun z => absurd z (by decide))) hL) (cwV 0 hts gX6_least_X6_lays rfl rfl rfl ⟨rfl, hd_X6_lays⟩ ⟨(Nat.le_of_ble_eq_true rfl), (Nat.le_of_ble_eq_true rfl)⟩) hF hS hL.2 (fun _ h => h) hP (va_recv (q := (RX6, TX6, 28)) hK hP (ci := 6) rfl (q0 := 0) rfl) rfl hl.1 rfl (Nat.le_of_ble_eq_true rfl) ⟨(Nat.le_of_ble_eq_true rfl), (Nat.le_of_ble_eq_true rfl)⟩ dX6_least_48 (fun H locs hP _ hS => ?_)
            refine W.eq (g2 := F0 m 51 ls []) rfl ?_
            refine lv_aload_n hx hb dX6_least_51 rfl (lv_at hl 3 rfl) ?_
            refine lv_iload_n hx hb dX6_least_52 rfl (lv_at hl 4 rfl) ?_
            refine xRoV (nL := 5) ⟨hx, hb, hml, hown, hts⟩ (c_X6_piecelacks l E a (s_X6_lays (uA u23 1 ((4 * p1) + 3).toNatClampNeg x4)) p1 (xlays_w (xwu hI0 (xisP hp0 q1) (j := 3) (by decide) (xok_cant hI1 q2) (fun z => absurd z (by decide)))) ((xisP hp0 q1))) (cwV 1 hts gX6_least_X6_piecelacks rfl rfl rfl ⟨rfl, hd_X6_piecelacks⟩ ⟨(Nat.le_of_ble_eq_true rfl), (Nat.le_of_ble_eq_true rfl)⟩) hF hS hA hP (va_recv (q := (RX6, TX6, 28)) hK hP (ci := 6) rfl (q0 := 0) rfl) rfl hl.1 rfl (Nat.le_of_ble_eq_true rfl) ⟨(Nat.le_of_ble_eq_true rfl), (Nat.le_of_ble_eq_true rfl)⟩ dX6_least_53 ?_
            refine W.eq (g2 := F0 m 56 ls [.int (s_X6_piecelacks (s_X6_lays (uA u23 1 ((4 * p1) + 3).toNatClampNeg x4)) p1)]) rfl ?_
            have J4 : W p l e rm_X6_least s m ([.ref (a 0), .int p1] : List Value).toArray below meth c H locs 0 0 (xQmd E below (LM a) (some (.int ((s_X6_least u p1).1))) (wM E a ((s_X6_least u p1).2)) ([.ref (a 0), .int p1] : List Value).toArray s) (F0 m 65 ls [.int (if (s_X6_piecelacks (s_X6_lays (uA u23 1 ((4 * p1) + 3).toNatClampNeg x4)) p1) = 0 then x4 else (-1))]) := by
              refine lv_istore_n (lv' := [(3, .int (if (s_X6_piecelacks (s_X6_lays (uA u23 1 ((4 * p1) + 3).toNatClampNeg x4)) p1) = 0 then x4 else (-1))), (4, .int x4), (2, .int (s_X6_of0 u p1 3)), (0, .ref (a 0)), (1, .int p1)]) hx hb dX6_least_65 rfl hl (by decide) rfl (fun ls hl => ?_)
              refine lv_iinc (k := 1) (v := x4 + 1) (lv' := [(4, .int (x4 + 1)), (3, .int (if (s_X6_piecelacks (s_X6_lays (uA u23 1 ((4 * p1) + 3).toNatClampNeg x4)) p1) = 0 then x4 else (-1))), (2, .int (s_X6_of0 u p1 3)), (0, .ref (a 0)), (1, .int p1)]) hx hb dX6_least_66 hl rfl rfl (by decide) rfl (fun ls hl => ?_)
              refine lv_goto (tgt := 23) hx hb dX6_least_69 rfl ?_
              exact ih23 (s_X6_lays (uA u23 1 ((4 * p1) + 3).toNatClampNeg x4)) (if (s_X6_piecelacks (s_X6_lays (uA u23 1 ((4 * p1) + 3).toNatClampNeg x4)) p1) = 0 then x4 else (-1)) (x4 + 1) _ _ _ (xlays_w (xwu hI0 (xisP hp0 q1) (j := 3) (by decide) (xok_cant hI1 q2) (fun z => absurd z (by decide)))) (xupge hI1 q2 (by decide)) (Nat.lt_of_lt_of_le (xupl q2 (by decide)) (Nat.le_of_lt_succ hM23)) hR (lv_sub hl [0, 1, 2, 3, 4] rfl) hP hS
            refine lv_if_eq (tgt := 63) hx hb dX6_least_56 rfl (fun q5 => ?_) (fun q5 => ?_)
            · refine lv_iload hx hb dX6_least_63 (lv_at hl 0 rfl) ?_
              exact W.eq (congrArg (fun z => F0 m 65 ls [.int z]) (if_pos q5).symm) J4
            · refine lv_iconst (v := (-1)) hx hb dX6_least_59 rfl ?_
              refine lv_goto (tgt := 65) hx hb dX6_least_60 rfl ?_
              exact W.eq (congrArg (fun z => F0 m 65 ls [.int z]) (if_neg q5).symm) J4
    exact L23 (((160 : Int32).toInt + 1 - (0 : Int32).toInt).toNat + 1) u (-1) 0 _ _ ls (hp0) (by decide) (Nat.lt_succ_self _) hR hl hP hS
  · have hR := hR.trans (if_pos q1)
    refine lv_bipush (v := (-2)) hx hb dX6_least_8 rfl ?_
    have hR : s_X6_least u p1 = ((-2), u) := hR
    exact W.iret (v := (-2)) hx hb hr (fun t ht _ => by rw [hR]; dsimp only; exact ⟨⟨rfl, by rw [ht]; exact hP⟩, hS.F ht⟩) hS.2.2 dX6_least_10
def s_X6_meets_L23 : Nat → xU → Int32 → Int32 → Int32 → Int32 → Int32 × xU
  | 0, u, _, _, _, _ => (0, u)
  | n + 1, u, x1, x2, x3, x4 =>
    if 199 ≤ x4 then
      (x3, uA u 1 ((4 * x1) + 2).toNatClampNeg x2)
    else
      if 0 ≤ x3 then
        (x3, uA u 1 ((4 * x1) + 2).toNatClampNeg x2)
      else
        s_X6_meets_L23 n ((s_X6_doMeet (uA u 1 ((4 * x1) + 2).toNatClampNeg (if (iRem x4 2) = 1 then (x4 + 1) / 2 else (-x4) / 2))).2) x1 x2 (if ((s_X6_doMeet (uA u 1 ((4 * x1) + 2).toNatClampNeg (if (iRem x4 2) = 1 then (x4 + 1) / 2 else (-x4) / 2))).1) = 0 then (-1) else 1000 + (if (iRem x4 2) = 1 then (x4 + 1) / 2 else (-x4) / 2)) (x4 + 1)
def s_X6_meets (u : xU) (p1 : Int32) : Int32 × xU :=
  if (s_X6_isPiece u p1) = 0 then
    ((-2), u)
  else
    s_X6_meets_L23 (((199 : Int32).toInt - (0 : Int32).toInt).toNat + 1) u p1 (s_X6_of0 u p1 2) (-1) 0
abbrev rm_X6_meets : Room := { frames := 3, cells := 0, slots := 0, locals := 70 }
set_option maxHeartbeats 8000000 in
set_option maxRecDepth 100000 in
theorem c_X6_meets (l : Launch) (E : xG) (a : Nat → Nat) (u : xU) (p1 : Int32) (hp0 : XW u) (hL : xOK E (LM a)) : xMd l E yX6_meets wsX6_meets rm_X6_meets (LM a) [.ref (a 0), .int p1] (wM E a u) (some (.int ((s_X6_meets u p1).1))) (wM E a ((s_X6_meets u p1).2)) := by
  refine xMd.of (cc := cX6_meets) (maxL := 6) (ret := (some .int)) (by decide) rfl (Nat.le_of_ble_eq_true rfl) ?_
  intro p e s m below meth c ls hAt hF hP hS hl
  obtain ⟨hx, hb, hr, hml, hown, hts, hlocks, -⟩ := hAt
  have hown : s.vm.findClass RX6 = some m.cls := hown
  have hl : lv_has ls 6 [(0, .ref (a 0)), (1, .int p1)] := hl
  have hK := hF.1
  have hA := hL.2
  change W p l e rm_X6_meets s m ([.ref (a 0), .int p1] : List Value).toArray below meth c s.heap [] 0 0 (xQmd E below (LM a) (some (.int ((s_X6_meets u p1).1))) (wM E a ((s_X6_meets u p1).2)) ([.ref (a 0), .int p1] : List Value).toArray s) _
  have hS : va_S (· ∈ LM a) s.heap s.heap [] := hS
  have hR : s_X6_meets u p1 = s_X6_meets u p1 := rfl
  refine lv_aload_n hx hb dX6_meets_0 rfl (lv_at hl 0 rfl) ?_
  refine lv_iload_n hx hb dX6_meets_1 rfl (lv_at hl 1 rfl) ?_
  refine xRoV (nL := 6) ⟨hx, hb, hml, hown, hts⟩ (c_X6_isPiece l E a u p1) (cwV 1 hts gX6_meets_X6_isPiece rfl rfl rfl ⟨rfl, hd_X6_isPiece⟩ ⟨(Nat.le_of_ble_eq_true rfl), (Nat.le_of_ble_eq_true rfl)⟩) hF hS hA hP (va_recv (q := (RX6, TX6, 28)) hK hP (ci := 6) rfl (q0 := 0) rfl) rfl hl.1 rfl (Nat.le_of_ble_eq_true rfl) ⟨(Nat.le_of_ble_eq_true rfl), (Nat.le_of_ble_eq_true rfl)⟩ dX6_meets_2 ?_
  refine W.eq (g2 := F0 m 5 ls [.int (s_X6_isPiece u p1)]) rfl ?_
  refine lv_if_ne (tgt := 11) hx hb dX6_meets_5 rfl (fun q1 => ?_) (fun q1 => ?_)
  · have hR := hR.trans (if_neg q1)
    refine lv_aload_n hx hb dX6_meets_11 rfl (lv_at hl 0 rfl) ?_
    refine lv_iload_n hx hb dX6_meets_12 rfl (lv_at hl 1 rfl) ?_
    refine lv_iconst (v := 2) hx hb dX6_meets_13 rfl ?_
    refine xRoV (nL := 6) ⟨hx, hb, hml, hown, hts⟩ (c_X6_of0 l E a u p1 2 (xof (xisP hp0 q1) (by decide) (by decide))) (cwV 2 hts gX6_meets_X6_of0 rfl rfl rfl ⟨rfl, hd_X6_of0⟩ ⟨(Nat.le_of_ble_eq_true rfl), (Nat.le_of_ble_eq_true rfl)⟩) hF hS hA hP (va_recv (q := (RX6, TX6, 28)) hK hP (ci := 6) rfl (q0 := 0) rfl) rfl hl.1 rfl (Nat.le_of_ble_eq_true rfl) ⟨(Nat.le_of_ble_eq_true rfl), (Nat.le_of_ble_eq_true rfl)⟩ dX6_meets_14 ?_
    refine W.eq (g2 := F0 m 17 ls [.int (s_X6_of0 u p1 2)]) rfl ?_
    refine lv_istore_n (lv' := [(2, .int (s_X6_of0 u p1 2)), (0, .ref (a 0)), (1, .int p1)]) hx hb dX6_meets_17 rfl hl (by decide) rfl (fun ls hl => ?_)
    refine lv_iconst (v := (-1)) hx hb dX6_meets_18 rfl ?_
    refine lv_istore_n (lv' := [(3, .int (-1)), (2, .int (s_X6_of0 u p1 2)), (0, .ref (a 0)), (1, .int p1)]) hx hb dX6_meets_19 rfl hl (by decide) rfl (fun ls hl => ?_)
    refine lv_iconst (v := 0) hx hb dX6_meets_20 rfl ?_
    refine lv_istore (lv' := [(4, .int 0), (3, .int (-1)), (2, .int (s_X6_of0 u p1 2)), (0, .ref (a 0)), (1, .int p1)]) hx hb dX6_meets_21 hl (by decide) rfl (fun ls hl => ?_)
    have L23 : ∀ (n23 : Nat) (u23 : xU) (x3 : Int32) (x4 : Int32) (H : Heap) (locs : List Loc) (ls : Array Slot), (XW u23) → (¬ x4 < 0) → ((199 : Int32).toInt - x4.toInt).toNat < n23 → s_X6_meets u p1 = s_X6_meets_L23 n23 u23 p1 (s_X6_of0 u p1 2) x3 x4 → lv_has ls 6 [(4, .int x4), (3, .int x3), (2, .int (s_X6_of0 u p1 2)), (0, .ref (a 0)), (1, .int p1)] → va_P (xD E) vwCl (wM E a u23) H → va_S (· ∈ LM a) s.heap H locs → W p l e rm_X6_meets s m ([.ref (a 0), .int p1] : List Value).toArray below meth c H locs 0 0 (xQmd E below (LM a) (some (.int ((s_X6_meets u p1).1))) (wM E a ((s_X6_meets u p1).2)) ([.ref (a 0), .int p1] : List Value).toArray s) (F0 m 23 ls []) := by
      intro n23
      induction n23 with
      | zero => intro u23 x3 x4 H locs ls hI0 hI1 hM23 hR hl hP hS; exact absurd hM23 (Nat.not_lt_zero _)
      | succ n23 ih23 =>
        intro u23 x3 x4 H locs ls hI0 hI1 hM23 hR hl hP hS
        refine lv_iload hx hb dX6_meets_23 (lv_at hl 0 rfl) ?_
        refine lv_sipush (v := 199) hx hb dX6_meets_25 rfl ?_
        refine lv_icmp_ge (tgt := 95) hx hb dX6_meets_28 rfl (fun q2 => ?_) (fun q2 => ?_)
        · have hR := hR.trans (if_pos q2)
          refine lv_aload_n hx hb dX6_meets_95 rfl (lv_at hl 3 rfl) ?_
          refine va_get (D := xD E) (ci := 6) (v := .ref (a 1)) (C := RX6) (T := TX6) (N := 28) hx hb hts (by decide +kernel) hown hK hP 0 rfl rfl 0 (by decide) (hts (.fieldLink RX6 11 "RailOffsetsModel" "now" "[I") (by decide +kernel)) (fun _ h => h) rfl dX6_meets_96 ?_
          refine lv_iconst (v := 4) hx hb dX6_meets_99 rfl ?_
          refine lv_iload_n hx hb dX6_meets_100 rfl (lv_at hl 4 rfl) ?_
          refine lv_imul hx hb dX6_meets_101 ?_
          refine lv_iconst (v := 2) hx hb dX6_meets_102 rfl ?_
          refine lv_iadd hx hb dX6_meets_103 ?_
          refine lv_iload_n hx hb dX6_meets_104 rfl (lv_at hl 2 rfl) ?_
          refine va_iast hx hb hK hP (xD_of (ws := wM E a u23) (A := (· ∈ LM a)) hL.1 (fun _ h => h)) hS 1 0 rfl rfl (xof (xisP hp0 q1) (by decide) (by decide)) dX6_meets_105 (fun H locs hP _ hS => ?_)
          have hP : va_P (xD E) vwCl (wM E a (uA u23 1 ((4 * p1) + 2).toNatClampNeg (s_X6_of0 u p1 2))) H := hP
          refine lv_iload_n hx hb dX6_meets_106 rfl (lv_at hl 1 rfl) ?_
          have hR : s_X6_meets u p1 = (x3, uA u23 1 ((4 * p1) + 2).toNatClampNeg (s_X6_of0 u p1 2)) := hR
          exact W.iret (v := x3) hx hb hr (fun t ht _ => by rw [hR]; dsimp only; exact ⟨⟨rfl, by rw [ht]; exact hP⟩, hS.F ht⟩) hS.2.2 dX6_meets_107
        · have hR := hR.trans (if_neg q2)
          refine lv_iload_n hx hb dX6_meets_31 rfl (lv_at hl 1 rfl) ?_
          refine lv_if_ge (tgt := 95) hx hb dX6_meets_32 rfl (fun q3 => ?_) (fun q3 => ?_)
          · have hR := hR.trans (if_pos q3)
            refine lv_aload_n hx hb dX6_meets_95 rfl (lv_at hl 3 rfl) ?_
            refine va_get (D := xD E) (ci := 6) (v := .ref (a 1)) (C := RX6) (T := TX6) (N := 28) hx hb hts (by decide +kernel) hown hK hP 0 rfl rfl 0 (by decide) (hts (.fieldLink RX6 11 "RailOffsetsModel" "now" "[I") (by decide +kernel)) (fun _ h => h) rfl dX6_meets_96 ?_
            refine lv_iconst (v := 4) hx hb dX6_meets_99 rfl ?_
            refine lv_iload_n hx hb dX6_meets_100 rfl (lv_at hl 4 rfl) ?_
            refine lv_imul hx hb dX6_meets_101 ?_
            refine lv_iconst (v := 2) hx hb dX6_meets_102 rfl ?_
            refine lv_iadd hx hb dX6_meets_103 ?_
            refine lv_iload_n hx hb dX6_meets_104 rfl (lv_at hl 2 rfl) ?_
            refine va_iast hx hb hK hP (xD_of (ws := wM E a u23) (A := (· ∈ LM a)) hL.1 (fun _ h => h)) hS 1 0 rfl rfl (xof (xisP hp0 q1) (by decide) (by decide)) dX6_meets_105 (fun H locs hP _ hS => ?_)
            have hP : va_P (xD E) vwCl (wM E a (uA u23 1 ((4 * p1) + 2).toNatClampNeg (s_X6_of0 u p1 2))) H := hP
            refine lv_iload_n hx hb dX6_meets_106 rfl (lv_at hl 1 rfl) ?_
            have hR : s_X6_meets u p1 = (x3, uA u23 1 ((4 * p1) + 2).toNatClampNeg (s_X6_of0 u p1 2)) := hR
            exact W.iret (v := x3) hx hb hr (fun t ht _ => by rw [hR]; dsimp only; exact ⟨⟨rfl, by rw [ht]; exact hP⟩, hS.F ht⟩) hS.2.2 dX6_meets_107
          · have hR := hR.trans (if_neg q3)
            refine lv_iload hx hb dX6_meets_35 (lv_at hl 0 rfl) ?_
            refine lv_iconst (v := 2) hx hb dX6_meets_37 rfl ?_
            refine lv_irem hx hb dX6_meets_38 (by decide) ?_
            refine W.eq (g2 := F0 m 39 ls [.int (iRem x4 2)]) rfl ?_
            refine lv_iconst (v := 1) hx hb dX6_meets_39 rfl ?_
            have J4 : W p l e rm_X6_meets s m ([.ref (a 0), .int p1] : List Value).toArray below meth c H locs 0 0 (xQmd E below (LM a) (some (.int ((s_X6_meets u p1).1))) (wM E a ((s_X6_meets u p1).2)) ([.ref (a 0), .int p1] : List Value).toArray s) (F0 m 57 ls [.int (if (iRem x4 2) = 1 then (x4 + 1) / 2 else (-x4) / 2)]) := by
              refine lv_istore (lv' := [(5, .int (if (iRem x4 2) = 1 then (x4 + 1) / 2 else (-x4) / 2)), (4, .int x4), (3, .int x3), (2, .int (s_X6_of0 u p1 2)), (0, .ref (a 0)), (1, .int p1)]) hx hb dX6_meets_57 hl (by decide) rfl (fun ls hl => ?_)
              refine lv_aload_n hx hb dX6_meets_59 rfl (lv_at hl 4 rfl) ?_
              refine va_get (D := xD E) (ci := 6) (v := .ref (a 1)) (C := RX6) (T := TX6) (N := 28) hx hb hts (by decide +kernel) hown hK hP 0 rfl rfl 0 (by decide) (hts (.fieldLink RX6 11 "RailOffsetsModel" "now" "[I") (by decide +kernel)) (fun _ h => h) rfl dX6_meets_60 ?_
              refine lv_iconst (v := 4) hx hb dX6_meets_63 rfl ?_
              refine lv_iload_n hx hb dX6_meets_64 rfl (lv_at hl 5 rfl) ?_
              refine lv_imul hx hb dX6_meets_65 ?_
              refine lv_iconst (v := 2) hx hb dX6_meets_66 rfl ?_
              refine lv_iadd hx hb dX6_meets_67 ?_
              refine lv_iload hx hb dX6_meets_68 (lv_at hl 0 rfl) ?_
              refine va_iast hx hb hK hP (xD_of (ws := wM E a u23) (A := (· ∈ LM a)) hL.1 (fun _ h => h)) hS 1 0 rfl rfl (xof (xisP hp0 q1) (by decide) (by decide)) dX6_meets_70 (fun H locs hP _ hS => ?_)
              have hP : va_P (xD E) vwCl (wM E a (uA u23 1 ((4 * p1) + 2).toNatClampNeg (if (iRem x4 2) = 1 then (x4 + 1) / 2 else (-x4) / 2))) H := hP
              refine lv_aload_n hx hb dX6_meets_71 rfl (lv_at hl 4 rfl) ?_
              refine xMdV (nL := 6) ⟨hx, hb, hml, hown, hts⟩ (c_X6_doMeet l E a (uA u23 1 ((4 * p1) + 2).toNatClampNeg (if (iRem x4 2) = 1 then (x4 + 1) / 2 else (-x4) / 2))  (xwu hI0 (xisP hp0 q1) (j := 2) (by decide) (xokm hI1 q2) (fun z => absurd z (by decide))) hL) (cwV 0 hts gX6_meets_X6_doMeet rfl rfl rfl ⟨rfl, hd_X6_doMeet⟩ ⟨(Nat.le_of_ble_eq_true rfl), (Nat.le_of_ble_eq_true rfl)⟩) hF hS hL.2 (fun _ h => h) hP (va_recv (q := (RX6, TX6, 28)) hK hP (ci := 6) rfl (q0 := 0) rfl) rfl hl.1 rfl (Nat.le_of_ble_eq_true rfl) ⟨(Nat.le_of_ble_eq_true rfl), (Nat.le_of_ble_eq_true rfl)⟩ dX6_meets_72 (fun H locs hP _ hS => ?_)
              refine W.eq (g2 := F0 m 75 ls [.int ((s_X6_doMeet (uA u23 1 ((4 * p1) + 2).toNatClampNeg (if (iRem x4 2) = 1 then (x4 + 1) / 2 else (-x4) / 2))).1)]) rfl ?_
              have J6 : W p l e rm_X6_meets s m ([.ref (a 0), .int p1] : List Value).toArray below meth c H locs 0 0 (xQmd E below (LM a) (some (.int ((s_X6_meets u p1).1))) (wM E a ((s_X6_meets u p1).2)) ([.ref (a 0), .int p1] : List Value).toArray s) (F0 m 88 ls [.int (if ((s_X6_doMeet (uA u23 1 ((4 * p1) + 2).toNatClampNeg (if (iRem x4 2) = 1 then (x4 + 1) / 2 else (-x4) / 2))).1) = 0 then (-1) else 1000 + (if (iRem x4 2) = 1 then (x4 + 1) / 2 else (-x4) / 2))]) := by
                refine lv_istore_n (lv' := [(3, .int (if ((s_X6_doMeet (uA u23 1 ((4 * p1) + 2).toNatClampNeg (if (iRem x4 2) = 1 then (x4 + 1) / 2 else (-x4) / 2))).1) = 0 then (-1) else 1000 + (if (iRem x4 2) = 1 then (x4 + 1) / 2 else (-x4) / 2))), (5, .int (if (iRem x4 2) = 1 then (x4 + 1) / 2 else (-x4) / 2)), (4, .int x4), (2, .int (s_X6_of0 u p1 2)), (0, .ref (a 0)), (1, .int p1)]) hx hb dX6_meets_88 rfl hl (by decide) rfl (fun ls hl => ?_)
                refine lv_iinc (k := 2) (v := x4 + 1) (lv' := [(4, .int (x4 + 1)), (3, .int (if ((s_X6_doMeet (uA u23 1 ((4 * p1) + 2).toNatClampNeg (if (iRem x4 2) = 1 then (x4 + 1) / 2 else (-x4) / 2))).1) = 0 then (-1) else 1000 + (if (iRem x4 2) = 1 then (x4 + 1) / 2 else (-x4) / 2))), (5, .int (if (iRem x4 2) = 1 then (x4 + 1) / 2 else (-x4) / 2)), (2, .int (s_X6_of0 u p1 2)), (0, .ref (a 0)), (1, .int p1)]) hx hb dX6_meets_89 hl rfl rfl (by decide) rfl (fun ls hl => ?_)
                refine lv_goto (tgt := 23) hx hb dX6_meets_92 rfl ?_
                exact ih23 ((s_X6_doMeet (uA u23 1 ((4 * p1) + 2).toNatClampNeg (if (iRem x4 2) = 1 then (x4 + 1) / 2 else (-x4) / 2))).2) (if ((s_X6_doMeet (uA u23 1 ((4 * p1) + 2).toNatClampNeg (if (iRem x4 2) = 1 then (x4 + 1) / 2 else (-x4) / 2))).1) = 0 then (-1) else 1000 + (if (iRem x4 2) = 1 then (x4 + 1) / 2 else (-x4) / 2)) (x4 + 1) _ _ _ (by rw [xdm]; exact xlays_w (xwu hI0 (xisP hp0 q1) (j := 2) (by decide) (xokm hI1 q2) (fun z => absurd z (by decide)))) (xup0 hI1 q2) (Nat.lt_of_lt_of_le (xupc q2) (Nat.le_of_lt_succ hM23)) hR (lv_sub hl [0, 1, 3, 4, 5] rfl) hP hS
              refine lv_if_eq (tgt := 87) hx hb dX6_meets_75 rfl (fun q7 => ?_) (fun q7 => ?_)
              · refine lv_iconst (v := (-1)) hx hb dX6_meets_87 rfl ?_
                exact W.eq (congrArg (fun z => F0 m 88 ls [.int z]) (if_pos q7).symm) J6
              · refine lv_sipush (v := 1000) hx hb dX6_meets_78 rfl ?_
                refine lv_iload hx hb dX6_meets_81 (lv_at hl 0 rfl) ?_
                refine lv_iadd hx hb dX6_meets_83 ?_
                refine lv_goto (tgt := 88) hx hb dX6_meets_84 rfl ?_
                exact W.eq (congrArg (fun z => F0 m 88 ls [.int z]) (if_neg q7).symm) J6
            refine lv_icmp_ne (tgt := 52) hx hb dX6_meets_40 rfl (fun q5 => ?_) (fun q5 => ?_)
            · refine lv_iload hx hb dX6_meets_52 (lv_at hl 0 rfl) ?_
              refine lv_ineg hx hb dX6_meets_54 ?_
              refine lv_iconst (v := 2) hx hb dX6_meets_55 rfl ?_
              refine lv_idiv hx hb dX6_meets_56 (by decide) ?_
              exact W.eq (congrArg (fun z => F0 m 57 ls [.int z]) (if_neg q5).symm) J4
            · refine lv_iload hx hb dX6_meets_43 (lv_at hl 0 rfl) ?_
              refine lv_iconst (v := 1) hx hb dX6_meets_45 rfl ?_
              refine lv_iadd hx hb dX6_meets_46 ?_
              refine lv_iconst (v := 2) hx hb dX6_meets_47 rfl ?_
              refine lv_idiv hx hb dX6_meets_48 (by decide) ?_
              refine lv_goto (tgt := 57) hx hb dX6_meets_49 rfl ?_
              exact W.eq (congrArg (fun z => F0 m 57 ls [.int z]) (if_pos q5).symm) J4
    exact L23 (((199 : Int32).toInt - (0 : Int32).toInt).toNat + 1) u (-1) 0 _ _ ls (hp0) (by decide) (Nat.lt_succ_self _) hR hl hP hS
  · have hR := hR.trans (if_pos q1)
    refine lv_bipush (v := (-2)) hx hb dX6_meets_8 rfl ?_
    have hR : s_X6_meets u p1 = ((-2), u) := hR
    exact W.iret (v := (-2)) hx hb hr (fun t ht _ => by rw [hR]; dsimp only; exact ⟨⟨rfl, by rw [ht]; exact hP⟩, hS.F ht⟩) hS.2.2 dX6_meets_10
def s_X6_both_L45 : Nat → xU → Int32 → Int32 → Int32 → Int32 → Int32 → Int32 → Int32 × xU
  | 0, u, _, _, _, _, _, _ => (0, u)
  | n + 1, u, x1, x2, x3, x4, x5, x6 =>
    if 3721 ≤ x6 then
      (x5, uA (uA u 1 ((4 * x1) + 2).toNatClampNeg x3) 1 ((4 * x2) + 2).toNatClampNeg x4)
    else
      if 0 ≤ x5 then
        (x5, uA (uA u 1 ((4 * x1) + 2).toNatClampNeg x3) 1 ((4 * x2) + 2).toNatClampNeg x4)
      else
        s_X6_both_L45 n ((s_X6_doMeet (uA (uA u 1 ((4 * x1) + 2).toNatClampNeg ((x6 / 61) - 30)) 1 ((4 * x2) + 2).toNatClampNeg ((iRem x6 61) - 30))).2) x1 x2 x3 x4 (if ((s_X6_doMeet (uA (uA u 1 ((4 * x1) + 2).toNatClampNeg ((x6 / 61) - 30)) 1 ((4 * x2) + 2).toNatClampNeg ((iRem x6 61) - 30))).1) = 0 then (-1) else x6) (x6 + 1)
def s_X6_both (u : xU) (p1 : Int32) (p2 : Int32) : Int32 × xU :=
  if (s_X6_isPiece u p1) = 0 then
    ((-2), u)
  else
    if (s_X6_isPiece u p2) = 0 then
      ((-2), u)
    else
      if p1 = p2 then
        ((-2), u)
      else
        s_X6_both_L45 (((3721 : Int32).toInt - (0 : Int32).toInt).toNat + 1) u p1 p2 (s_X6_of0 u p1 2) (s_X6_of0 u p2 2) (-1) 0
abbrev rm_X6_both : Room := { frames := 3, cells := 0, slots := 0, locals := 70 }
set_option maxHeartbeats 8000000 in
set_option maxRecDepth 100000 in
theorem c_X6_both (l : Launch) (E : xG) (a : Nat → Nat) (u : xU) (p1 : Int32) (p2 : Int32) (hp0 : XW u) (hL : xOK E (LM a)) : xMd l E yX6_both wsX6_both rm_X6_both (LM a) [.ref (a 0), .int p1, .int p2] (wM E a u) (some (.int ((s_X6_both u p1 p2).1))) (wM E a ((s_X6_both u p1 p2).2)) := by
  refine xMd.of (cc := cX6_both) (maxL := 7) (ret := (some .int)) (by decide) rfl (Nat.le_of_ble_eq_true rfl) ?_
  intro p e s m below meth c ls hAt hF hP hS hl
  obtain ⟨hx, hb, hr, hml, hown, hts, hlocks, -⟩ := hAt
  have hown : s.vm.findClass RX6 = some m.cls := hown
  have hl : lv_has ls 7 [(0, .ref (a 0)), (1, .int p1), (2, .int p2)] := hl
  have hK := hF.1
  have hA := hL.2
  change W p l e rm_X6_both s m ([.ref (a 0), .int p1, .int p2] : List Value).toArray below meth c s.heap [] 0 0 (xQmd E below (LM a) (some (.int ((s_X6_both u p1 p2).1))) (wM E a ((s_X6_both u p1 p2).2)) ([.ref (a 0), .int p1, .int p2] : List Value).toArray s) _
  have hS : va_S (· ∈ LM a) s.heap s.heap [] := hS
  have hR : s_X6_both u p1 p2 = s_X6_both u p1 p2 := rfl
  refine lv_aload_n hx hb dX6_both_0 rfl (lv_at hl 0 rfl) ?_
  refine lv_iload_n hx hb dX6_both_1 rfl (lv_at hl 1 rfl) ?_
  refine xRoV (nL := 7) ⟨hx, hb, hml, hown, hts⟩ (c_X6_isPiece l E a u p1) (cwV 1 hts gX6_both_X6_isPiece rfl rfl rfl ⟨rfl, hd_X6_isPiece⟩ ⟨(Nat.le_of_ble_eq_true rfl), (Nat.le_of_ble_eq_true rfl)⟩) hF hS hA hP (va_recv (q := (RX6, TX6, 28)) hK hP (ci := 6) rfl (q0 := 0) rfl) rfl hl.1 rfl (Nat.le_of_ble_eq_true rfl) ⟨(Nat.le_of_ble_eq_true rfl), (Nat.le_of_ble_eq_true rfl)⟩ dX6_both_2 ?_
  refine W.eq (g2 := F0 m 5 ls [.int (s_X6_isPiece u p1)]) rfl ?_
  refine lv_if_eq (tgt := 21) hx hb dX6_both_5 rfl (fun q1 => ?_) (fun q1 => ?_)
  · have hR := hR.trans (if_pos q1)
    refine lv_bipush (v := (-2)) hx hb dX6_both_21 rfl ?_
    have hR : s_X6_both u p1 p2 = ((-2), u) := hR
    exact W.iret (v := (-2)) hx hb hr (fun t ht _ => by rw [hR]; dsimp only; exact ⟨⟨rfl, by rw [ht]; exact hP⟩, hS.F ht⟩) hS.2.2 dX6_both_23
  · have hR := hR.trans (if_neg q1)
    refine lv_aload_n hx hb dX6_both_8 rfl (lv_at hl 0 rfl) ?_
    refine lv_iload_n hx hb dX6_both_9 rfl (lv_at hl 2 rfl) ?_
    refine xRoV (nL := 7) ⟨hx, hb, hml, hown, hts⟩ (c_X6_isPiece l E a u p2) (cwV 1 hts gX6_both_X6_isPiece rfl rfl rfl ⟨rfl, hd_X6_isPiece⟩ ⟨(Nat.le_of_ble_eq_true rfl), (Nat.le_of_ble_eq_true rfl)⟩) hF hS hA hP (va_recv (q := (RX6, TX6, 28)) hK hP (ci := 6) rfl (q0 := 0) rfl) rfl hl.1 rfl (Nat.le_of_ble_eq_true rfl) ⟨(Nat.le_of_ble_eq_true rfl), (Nat.le_of_ble_eq_true rfl)⟩ dX6_both_10 ?_
    refine W.eq (g2 := F0 m 13 ls [.int (s_X6_isPiece u p2)]) rfl ?_
    refine lv_if_eq (tgt := 21) hx hb dX6_both_13 rfl (fun q2 => ?_) (fun q2 => ?_)
    · have hR := hR.trans (if_pos q2)
      refine lv_bipush (v := (-2)) hx hb dX6_both_21 rfl ?_
      have hR : s_X6_both u p1 p2 = ((-2), u) := hR
      exact W.iret (v := (-2)) hx hb hr (fun t ht _ => by rw [hR]; dsimp only; exact ⟨⟨rfl, by rw [ht]; exact hP⟩, hS.F ht⟩) hS.2.2 dX6_both_23
    · have hR := hR.trans (if_neg q2)
      refine lv_iload_n hx hb dX6_both_16 rfl (lv_at hl 1 rfl) ?_
      refine lv_iload_n hx hb dX6_both_17 rfl (lv_at hl 2 rfl) ?_
      refine lv_icmp_ne (tgt := 24) hx hb dX6_both_18 rfl (fun q3 => ?_) (fun q3 => ?_)
      · have hR := hR.trans (if_neg q3)
        refine lv_aload_n hx hb dX6_both_24 rfl (lv_at hl 0 rfl) ?_
        refine lv_iload_n hx hb dX6_both_25 rfl (lv_at hl 1 rfl) ?_
        refine lv_iconst (v := 2) hx hb dX6_both_26 rfl ?_
        refine xRoV (nL := 7) ⟨hx, hb, hml, hown, hts⟩ (c_X6_of0 l E a u p1 2 (xof (xisP hp0 q1) (by decide) (by decide))) (cwV 2 hts gX6_both_X6_of0 rfl rfl rfl ⟨rfl, hd_X6_of0⟩ ⟨(Nat.le_of_ble_eq_true rfl), (Nat.le_of_ble_eq_true rfl)⟩) hF hS hA hP (va_recv (q := (RX6, TX6, 28)) hK hP (ci := 6) rfl (q0 := 0) rfl) rfl hl.1 rfl (Nat.le_of_ble_eq_true rfl) ⟨(Nat.le_of_ble_eq_true rfl), (Nat.le_of_ble_eq_true rfl)⟩ dX6_both_27 ?_
        refine W.eq (g2 := F0 m 30 ls [.int (s_X6_of0 u p1 2)]) rfl ?_
        refine lv_istore_n (lv' := [(3, .int (s_X6_of0 u p1 2)), (0, .ref (a 0)), (1, .int p1), (2, .int p2)]) hx hb dX6_both_30 rfl hl (by decide) rfl (fun ls hl => ?_)
        refine lv_aload_n hx hb dX6_both_31 rfl (lv_at hl 1 rfl) ?_
        refine lv_iload_n hx hb dX6_both_32 rfl (lv_at hl 3 rfl) ?_
        refine lv_iconst (v := 2) hx hb dX6_both_33 rfl ?_
        refine xRoV (nL := 7) ⟨hx, hb, hml, hown, hts⟩ (c_X6_of0 l E a u p2 2 (xof (xisP hp0 q2) (by decide) (by decide))) (cwV 2 hts gX6_both_X6_of0 rfl rfl rfl ⟨rfl, hd_X6_of0⟩ ⟨(Nat.le_of_ble_eq_true rfl), (Nat.le_of_ble_eq_true rfl)⟩) hF hS hA hP (va_recv (q := (RX6, TX6, 28)) hK hP (ci := 6) rfl (q0 := 0) rfl) rfl hl.1 rfl (Nat.le_of_ble_eq_true rfl) ⟨(Nat.le_of_ble_eq_true rfl), (Nat.le_of_ble_eq_true rfl)⟩ dX6_both_34 ?_
        refine W.eq (g2 := F0 m 37 ls [.int (s_X6_of0 u p2 2)]) rfl ?_
        refine lv_istore (lv' := [(4, .int (s_X6_of0 u p2 2)), (3, .int (s_X6_of0 u p1 2)), (0, .ref (a 0)), (1, .int p1), (2, .int p2)]) hx hb dX6_both_37 hl (by decide) rfl (fun ls hl => ?_)
        refine lv_iconst (v := (-1)) hx hb dX6_both_39 rfl ?_
        refine lv_istore (lv' := [(5, .int (-1)), (4, .int (s_X6_of0 u p2 2)), (3, .int (s_X6_of0 u p1 2)), (0, .ref (a 0)), (1, .int p1), (2, .int p2)]) hx hb dX6_both_40 hl (by decide) rfl (fun ls hl => ?_)
        refine lv_iconst (v := 0) hx hb dX6_both_42 rfl ?_
        refine lv_istore (lv' := [(6, .int 0), (5, .int (-1)), (4, .int (s_X6_of0 u p2 2)), (3, .int (s_X6_of0 u p1 2)), (0, .ref (a 0)), (1, .int p1), (2, .int p2)]) hx hb dX6_both_43 hl (by decide) rfl (fun ls hl => ?_)
        have L45 : ∀ (n45 : Nat) (u45 : xU) (x5 : Int32) (x6 : Int32) (H : Heap) (locs : List Loc) (ls : Array Slot), (XW u45) → (¬ x6 < 0) → ((3721 : Int32).toInt - x6.toInt).toNat < n45 → s_X6_both u p1 p2 = s_X6_both_L45 n45 u45 p1 p2 (s_X6_of0 u p1 2) (s_X6_of0 u p2 2) x5 x6 → lv_has ls 7 [(6, .int x6), (5, .int x5), (4, .int (s_X6_of0 u p2 2)), (3, .int (s_X6_of0 u p1 2)), (0, .ref (a 0)), (1, .int p1), (2, .int p2)] → va_P (xD E) vwCl (wM E a u45) H → va_S (· ∈ LM a) s.heap H locs → W p l e rm_X6_both s m ([.ref (a 0), .int p1, .int p2] : List Value).toArray below meth c H locs 0 0 (xQmd E below (LM a) (some (.int ((s_X6_both u p1 p2).1))) (wM E a ((s_X6_both u p1 p2).2)) ([.ref (a 0), .int p1, .int p2] : List Value).toArray s) (F0 m 45 ls []) := by
          intro n45
          induction n45 with
          | zero => intro u45 x5 x6 H locs ls hI0 hI1 hM45 hR hl hP hS; exact absurd hM45 (Nat.not_lt_zero _)
          | succ n45 ih45 =>
            intro u45 x5 x6 H locs ls hI0 hI1 hM45 hR hl hP hS
            refine lv_iload hx hb dX6_both_45 (lv_at hl 0 rfl) ?_
            refine lv_sipush (v := 3721) hx hb dX6_both_47 rfl ?_
            refine lv_icmp_ge (tgt := 115) hx hb dX6_both_50 rfl (fun q4 => ?_) (fun q4 => ?_)
            · have hR := hR.trans (if_pos q4)
              refine lv_aload_n hx hb dX6_both_115 rfl (lv_at hl 4 rfl) ?_
              refine va_get (D := xD E) (ci := 6) (v := .ref (a 1)) (C := RX6) (T := TX6) (N := 28) hx hb hts (by decide +kernel) hown hK hP 0 rfl rfl 0 (by decide) (hts (.fieldLink RX6 11 "RailOffsetsModel" "now" "[I") (by decide +kernel)) (fun _ h => h) rfl dX6_both_116 ?_
              refine lv_iconst (v := 4) hx hb dX6_both_119 rfl ?_
              refine lv_iload_n hx hb dX6_both_120 rfl (lv_at hl 5 rfl) ?_
              refine lv_imul hx hb dX6_both_121 ?_
              refine lv_iconst (v := 2) hx hb dX6_both_122 rfl ?_
              refine lv_iadd hx hb dX6_both_123 ?_
              refine lv_iload_n hx hb dX6_both_124 rfl (lv_at hl 3 rfl) ?_
              refine va_iast hx hb hK hP (xD_of (ws := wM E a u45) (A := (· ∈ LM a)) hL.1 (fun _ h => h)) hS 1 0 rfl rfl (xof (xisP hp0 q1) (by decide) (by decide)) dX6_both_125 (fun H locs hP _ hS => ?_)
              have hP : va_P (xD E) vwCl (wM E a (uA u45 1 ((4 * p1) + 2).toNatClampNeg (s_X6_of0 u p1 2))) H := hP
              refine lv_aload_n hx hb dX6_both_126 rfl (lv_at hl 4 rfl) ?_
              refine va_get (D := xD E) (ci := 6) (v := .ref (a 1)) (C := RX6) (T := TX6) (N := 28) hx hb hts (by decide +kernel) hown hK hP 0 rfl rfl 0 (by decide) (hts (.fieldLink RX6 11 "RailOffsetsModel" "now" "[I") (by decide +kernel)) (fun _ h => h) rfl dX6_both_127 ?_
              refine lv_iconst (v := 4) hx hb dX6_both_130 rfl ?_
              refine lv_iload_n hx hb dX6_both_131 rfl (lv_at hl 6 rfl) ?_
              refine lv_imul hx hb dX6_both_132 ?_
              refine lv_iconst (v := 2) hx hb dX6_both_133 rfl ?_
              refine lv_iadd hx hb dX6_both_134 ?_
              refine lv_iload hx hb dX6_both_135 (lv_at hl 2 rfl) ?_
              refine va_iast hx hb hK hP (xD_of (ws := wM E a (uA u45 1 ((4 * p1) + 2).toNatClampNeg (s_X6_of0 u p1 2))) (A := (· ∈ LM a)) hL.1 (fun _ h => h)) hS 1 0 rfl rfl (xof (xisP hp0 q2) (by decide) (by decide)) dX6_both_137 (fun H locs hP _ hS => ?_)
              have hP : va_P (xD E) vwCl (wM E a (uA (uA u45 1 ((4 * p1) + 2).toNatClampNeg (s_X6_of0 u p1 2)) 1 ((4 * p2) + 2).toNatClampNeg (s_X6_of0 u p2 2))) H := xwA1 hP
              refine lv_iload hx hb dX6_both_138 (lv_at hl 1 rfl) ?_
              have hR : s_X6_both u p1 p2 = (x5, uA (uA u45 1 ((4 * p1) + 2).toNatClampNeg (s_X6_of0 u p1 2)) 1 ((4 * p2) + 2).toNatClampNeg (s_X6_of0 u p2 2)) := hR
              exact W.iret (v := x5) hx hb hr (fun t ht _ => by rw [hR]; dsimp only; exact ⟨⟨rfl, by rw [ht]; exact hP⟩, hS.F ht⟩) hS.2.2 dX6_both_140
            · have hR := hR.trans (if_neg q4)
              refine lv_iload hx hb dX6_both_53 (lv_at hl 1 rfl) ?_
              refine lv_if_ge (tgt := 115) hx hb dX6_both_55 rfl (fun q5 => ?_) (fun q5 => ?_)
              · have hR := hR.trans (if_pos q5)
                refine lv_aload_n hx hb dX6_both_115 rfl (lv_at hl 4 rfl) ?_
                refine va_get (D := xD E) (ci := 6) (v := .ref (a 1)) (C := RX6) (T := TX6) (N := 28) hx hb hts (by decide +kernel) hown hK hP 0 rfl rfl 0 (by decide) (hts (.fieldLink RX6 11 "RailOffsetsModel" "now" "[I") (by decide +kernel)) (fun _ h => h) rfl dX6_both_116 ?_
                refine lv_iconst (v := 4) hx hb dX6_both_119 rfl ?_
                refine lv_iload_n hx hb dX6_both_120 rfl (lv_at hl 5 rfl) ?_
                refine lv_imul hx hb dX6_both_121 ?_
                refine lv_iconst (v := 2) hx hb dX6_both_122 rfl ?_
                refine lv_iadd hx hb dX6_both_123 ?_
                refine lv_iload_n hx hb dX6_both_124 rfl (lv_at hl 3 rfl) ?_
                refine va_iast hx hb hK hP (xD_of (ws := wM E a u45) (A := (· ∈ LM a)) hL.1 (fun _ h => h)) hS 1 0 rfl rfl (xof (xisP hp0 q1) (by decide) (by decide)) dX6_both_125 (fun H locs hP _ hS => ?_)
                have hP : va_P (xD E) vwCl (wM E a (uA u45 1 ((4 * p1) + 2).toNatClampNeg (s_X6_of0 u p1 2))) H := hP
                refine lv_aload_n hx hb dX6_both_126 rfl (lv_at hl 4 rfl) ?_
                refine va_get (D := xD E) (ci := 6) (v := .ref (a 1)) (C := RX6) (T := TX6) (N := 28) hx hb hts (by decide +kernel) hown hK hP 0 rfl rfl 0 (by decide) (hts (.fieldLink RX6 11 "RailOffsetsModel" "now" "[I") (by decide +kernel)) (fun _ h => h) rfl dX6_both_127 ?_
                refine lv_iconst (v := 4) hx hb dX6_both_130 rfl ?_
                refine lv_iload_n hx hb dX6_both_131 rfl (lv_at hl 6 rfl) ?_
                refine lv_imul hx hb dX6_both_132 ?_
                refine lv_iconst (v := 2) hx hb dX6_both_133 rfl ?_
                refine lv_iadd hx hb dX6_both_134 ?_
                refine lv_iload hx hb dX6_both_135 (lv_at hl 2 rfl) ?_
                refine va_iast hx hb hK hP (xD_of (ws := wM E a (uA u45 1 ((4 * p1) + 2).toNatClampNeg (s_X6_of0 u p1 2))) (A := (· ∈ LM a)) hL.1 (fun _ h => h)) hS 1 0 rfl rfl (xof (xisP hp0 q2) (by decide) (by decide)) dX6_both_137 (fun H locs hP _ hS => ?_)
                have hP : va_P (xD E) vwCl (wM E a (uA (uA u45 1 ((4 * p1) + 2).toNatClampNeg (s_X6_of0 u p1 2)) 1 ((4 * p2) + 2).toNatClampNeg (s_X6_of0 u p2 2))) H := xwA1 hP
                refine lv_iload hx hb dX6_both_138 (lv_at hl 1 rfl) ?_
                have hR : s_X6_both u p1 p2 = (x5, uA (uA u45 1 ((4 * p1) + 2).toNatClampNeg (s_X6_of0 u p1 2)) 1 ((4 * p2) + 2).toNatClampNeg (s_X6_of0 u p2 2)) := hR
                exact W.iret (v := x5) hx hb hr (fun t ht _ => by rw [hR]; dsimp only; exact ⟨⟨rfl, by rw [ht]; exact hP⟩, hS.F ht⟩) hS.2.2 dX6_both_140
              · have hR := hR.trans (if_neg q5)
                refine lv_aload_n hx hb dX6_both_58 rfl (lv_at hl 4 rfl) ?_
                refine va_get (D := xD E) (ci := 6) (v := .ref (a 1)) (C := RX6) (T := TX6) (N := 28) hx hb hts (by decide +kernel) hown hK hP 0 rfl rfl 0 (by decide) (hts (.fieldLink RX6 11 "RailOffsetsModel" "now" "[I") (by decide +kernel)) (fun _ h => h) rfl dX6_both_59 ?_
                refine lv_iconst (v := 4) hx hb dX6_both_62 rfl ?_
                refine lv_iload_n hx hb dX6_both_63 rfl (lv_at hl 5 rfl) ?_
                refine lv_imul hx hb dX6_both_64 ?_
                refine lv_iconst (v := 2) hx hb dX6_both_65 rfl ?_
                refine lv_iadd hx hb dX6_both_66 ?_
                refine lv_iload hx hb dX6_both_67 (lv_at hl 0 rfl) ?_
                refine lv_bipush (v := 61) hx hb dX6_both_69 rfl ?_
                refine lv_idiv hx hb dX6_both_71 (by decide) ?_
                refine lv_bipush (v := 30) hx hb dX6_both_72 rfl ?_
                refine lv_isub hx hb dX6_both_74 ?_
                refine va_iast hx hb hK hP (xD_of (ws := wM E a u45) (A := (· ∈ LM a)) hL.1 (fun _ h => h)) hS 1 0 rfl rfl (xof (xisP hp0 q1) (by decide) (by decide)) dX6_both_75 (fun H locs hP _ hS => ?_)
                have hP : va_P (xD E) vwCl (wM E a (uA u45 1 ((4 * p1) + 2).toNatClampNeg ((x6 / 61) - 30))) H := hP
                refine lv_aload_n hx hb dX6_both_76 rfl (lv_at hl 4 rfl) ?_
                refine va_get (D := xD E) (ci := 6) (v := .ref (a 1)) (C := RX6) (T := TX6) (N := 28) hx hb hts (by decide +kernel) hown hK hP 0 rfl rfl 0 (by decide) (hts (.fieldLink RX6 11 "RailOffsetsModel" "now" "[I") (by decide +kernel)) (fun _ h => h) rfl dX6_both_77 ?_
                refine lv_iconst (v := 4) hx hb dX6_both_80 rfl ?_
                refine lv_iload_n hx hb dX6_both_81 rfl (lv_at hl 6 rfl) ?_
                refine lv_imul hx hb dX6_both_82 ?_
                refine lv_iconst (v := 2) hx hb dX6_both_83 rfl ?_
                refine lv_iadd hx hb dX6_both_84 ?_
                refine lv_iload hx hb dX6_both_85 (lv_at hl 0 rfl) ?_
                refine lv_bipush (v := 61) hx hb dX6_both_87 rfl ?_
                refine lv_irem hx hb dX6_both_89 (by decide) ?_
                refine W.eq (g2 := F0 m 90 ls [.int (iRem x6 61), .int ((4 * p2) + 2), .ref (a 1)]) rfl ?_
                refine lv_bipush (v := 30) hx hb dX6_both_90 rfl ?_
                refine lv_isub hx hb dX6_both_92 ?_
                refine va_iast hx hb hK hP (xD_of (ws := wM E a (uA u45 1 ((4 * p1) + 2).toNatClampNeg ((x6 / 61) - 30))) (A := (· ∈ LM a)) hL.1 (fun _ h => h)) hS 1 0 rfl rfl (xof (xisP hp0 q2) (by decide) (by decide)) dX6_both_93 (fun H locs hP _ hS => ?_)
                have hP : va_P (xD E) vwCl (wM E a (uA (uA u45 1 ((4 * p1) + 2).toNatClampNeg ((x6 / 61) - 30)) 1 ((4 * p2) + 2).toNatClampNeg ((iRem x6 61) - 30))) H := xwA1 hP
                refine lv_aload_n hx hb dX6_both_94 rfl (lv_at hl 4 rfl) ?_
                refine xMdV (nL := 7) ⟨hx, hb, hml, hown, hts⟩ (c_X6_doMeet l E a (uA (uA u45 1 ((4 * p1) + 2).toNatClampNeg ((x6 / 61) - 30)) 1 ((4 * p2) + 2).toNatClampNeg ((iRem x6 61) - 30))  (xwu (xwu hI0 (xisP hp0 q1) (j := 2) (by decide) (xokb hI1 q4).1 (fun z => absurd z (by decide))) (xisP hp0 q2) (j := 2) (by decide) (xokb hI1 q4).2 (fun z => absurd z (by decide))) hL) (cwV 0 hts gX6_both_X6_doMeet rfl rfl rfl ⟨rfl, hd_X6_doMeet⟩ ⟨(Nat.le_of_ble_eq_true rfl), (Nat.le_of_ble_eq_true rfl)⟩) hF hS hL.2 (fun _ h => h) hP (va_recv (q := (RX6, TX6, 28)) hK hP (ci := 6) rfl (q0 := 0) rfl) rfl hl.1 rfl (Nat.le_of_ble_eq_true rfl) ⟨(Nat.le_of_ble_eq_true rfl), (Nat.le_of_ble_eq_true rfl)⟩ dX6_both_95 (fun H locs hP _ hS => ?_)
                refine W.eq (g2 := F0 m 98 ls [.int ((s_X6_doMeet (uA (uA u45 1 ((4 * p1) + 2).toNatClampNeg ((x6 / 61) - 30)) 1 ((4 * p2) + 2).toNatClampNeg ((iRem x6 61) - 30))).1)]) rfl ?_
                have J6 : W p l e rm_X6_both s m ([.ref (a 0), .int p1, .int p2] : List Value).toArray below meth c H locs 0 0 (xQmd E below (LM a) (some (.int ((s_X6_both u p1 p2).1))) (wM E a ((s_X6_both u p1 p2).2)) ([.ref (a 0), .int p1, .int p2] : List Value).toArray s) (F0 m 107 ls [.int (if ((s_X6_doMeet (uA (uA u45 1 ((4 * p1) + 2).toNatClampNeg ((x6 / 61) - 30)) 1 ((4 * p2) + 2).toNatClampNeg ((iRem x6 61) - 30))).1) = 0 then (-1) else x6)]) := by
                  refine lv_istore (lv' := [(5, .int (if ((s_X6_doMeet (uA (uA u45 1 ((4 * p1) + 2).toNatClampNeg ((x6 / 61) - 30)) 1 ((4 * p2) + 2).toNatClampNeg ((iRem x6 61) - 30))).1) = 0 then (-1) else x6)), (6, .int x6), (4, .int (s_X6_of0 u p2 2)), (3, .int (s_X6_of0 u p1 2)), (0, .ref (a 0)), (1, .int p1), (2, .int p2)]) hx hb dX6_both_107 hl (by decide) rfl (fun ls hl => ?_)
                  refine lv_iinc (k := 1) (v := x6 + 1) (lv' := [(6, .int (x6 + 1)), (5, .int (if ((s_X6_doMeet (uA (uA u45 1 ((4 * p1) + 2).toNatClampNeg ((x6 / 61) - 30)) 1 ((4 * p2) + 2).toNatClampNeg ((iRem x6 61) - 30))).1) = 0 then (-1) else x6)), (4, .int (s_X6_of0 u p2 2)), (3, .int (s_X6_of0 u p1 2)), (0, .ref (a 0)), (1, .int p1), (2, .int p2)]) hx hb dX6_both_109 hl rfl rfl (by decide) rfl (fun ls hl => ?_)
                  refine lv_goto (tgt := 45) hx hb dX6_both_112 rfl ?_
                  exact ih45 ((s_X6_doMeet (uA (uA u45 1 ((4 * p1) + 2).toNatClampNeg ((x6 / 61) - 30)) 1 ((4 * p2) + 2).toNatClampNeg ((iRem x6 61) - 30))).2) (if ((s_X6_doMeet (uA (uA u45 1 ((4 * p1) + 2).toNatClampNeg ((x6 / 61) - 30)) 1 ((4 * p2) + 2).toNatClampNeg ((iRem x6 61) - 30))).1) = 0 then (-1) else x6) (x6 + 1) _ _ _ (by rw [xdm]; exact xlays_w (xwu (xwu hI0 (xisP hp0 q1) (j := 2) (by decide) (xokb hI1 q4).1 (fun z => absurd z (by decide))) (xisP hp0 q2) (j := 2) (by decide) (xokb hI1 q4).2 (fun z => absurd z (by decide)))) (xup0 hI1 q4) (Nat.lt_of_lt_of_le (xupc q4) (Nat.le_of_lt_succ hM45)) hR (lv_sub hl [0, 1, 2, 3, 4, 5, 6] rfl) hP hS
                refine lv_if_eq (tgt := 106) hx hb dX6_both_98 rfl (fun q7 => ?_) (fun q7 => ?_)
                · refine lv_iconst (v := (-1)) hx hb dX6_both_106 rfl ?_
                  exact W.eq (congrArg (fun z => F0 m 107 ls [.int z]) (if_pos q7).symm) J6
                · refine lv_iload hx hb dX6_both_101 (lv_at hl 0 rfl) ?_
                  refine lv_goto (tgt := 107) hx hb dX6_both_103 rfl ?_
                  exact W.eq (congrArg (fun z => F0 m 107 ls [.int z]) (if_neg q7).symm) J6
        exact L45 (((3721 : Int32).toInt - (0 : Int32).toInt).toNat + 1) u (-1) 0 _ _ ls (hp0) (by decide) (Nat.lt_succ_self _) hR hl hP hS
      · have hR := hR.trans (if_pos q3)
        refine lv_bipush (v := (-2)) hx hb dX6_both_21 rfl ?_
        have hR : s_X6_both u p1 p2 = ((-2), u) := hR
        exact W.iret (v := (-2)) hx hb hr (fun t ht _ => by rw [hR]; dsimp only; exact ⟨⟨rfl, by rw [ht]; exact hP⟩, hS.F ht⟩) hS.2.2 dX6_both_23
