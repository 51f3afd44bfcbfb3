/-! ===== trials ===== -/
theorem xupge {i N c : Int32} (h0 : ¬ i < c) (h : ¬ N < i) (hN : N.toInt < 2147483647) : ¬ i + 1 < c := by
  rw [fa_lt] at h0 h ⊢
  have h1 := fb_rng i
  have e : (i + 1).toInt = i.toInt + 1 := fb_addI (x := i) (y := 1) (by rw [show (1 : Int32).toInt = 1 from rfl]; omega) (by rw [show (1 : Int32).toInt = 1 from rfl]; omega)
  rw [e]
  omega
theorem xokf {x lo hi : Int32} (h0 : ¬ x < lo) (h : ¬ hi < x) {j : Nat} (hj : ∀ z : Int32, lo.toInt ≤ z.toInt → z.toInt ≤ hi.toInt → okf j z) : okf j x := by
  rw [fa_lt] at h0 h
  exact hj x (by omega) (by omega)
theorem xok2 {z lo hi : Int32} (h1 : lo.toInt ≤ z.toInt) (h2 : z.toInt ≤ hi.toInt) (hlo : -99 ≤ lo.toInt) (hhi : hi.toInt ≤ 99) : okf 2 z := ⟨by omega, by omega⟩
theorem xok_bend {x lo hi : Int32} (h0 : ¬ x < lo) (h : ¬ hi < x) (hlo : -99 ≤ lo.toInt) (hhi : hi.toInt ≤ 99) : okf 2 x := by
  rw [fa_lt] at h0 h
  exact ⟨by omega, by omega⟩
theorem xok_neg {x : Int32} (h0 : ¬ x < 0) (h : ¬ 99 < x) : okf 2 (-x) := by
  rw [fa_lt] at h0 h
  rw [show (0 : Int32).toInt = 0 from rfl] at h0
  rw [show (99 : Int32).toInt = 99 from rfl] at h
  have e : (-x).toInt = -x.toInt := fb_negI (by omega)
  exact ⟨by omega, by omega⟩
theorem xok_place {x : Int32} (h0 : ¬ x < 0) (h : ¬ 61 ≤ x) : okf 2 (x - 30) := by
  rw [fa_lt, show (0 : Int32).toInt = 0 from rfl] at h0
  rw [fa_le, show (61 : Int32).toInt = 61 from rfl] at h
  have e : (x - 30).toInt = x.toInt - 30 := fb_subI (x := x) (y := 30) (by rw [show (30 : Int32).toInt = 30 from rfl]; omega) (by rw [show (30 : Int32).toInt = 30 from rfl]; omega)
  exact ⟨by omega, by omega⟩
theorem xok_cant {x : Int32} (h0 : ¬ x < 0) (h : ¬ 160 < x) : okf 3 x := by
  rw [fa_lt, show (0 : Int32).toInt = 0 from rfl] at h0
  rw [fa_lt, show (160 : Int32).toInt = 160 from rfl] at h
  exact ⟨by omega, by omega⟩
theorem xok_kind {x : Int32} (h0 : ¬ x < 0) (h : ¬ 5 < x) : okf 0 x := by
  rw [fa_lt, show (0 : Int32).toInt = 0 from rfl] at h0
  rw [fa_lt, show (5 : Int32).toInt = 5 from rfl] at h
  exact ⟨by omega, by omega⟩
theorem okf_0 {j : Nat} (hj : j < 4) : okf j 0 := by
  have h4 : j = 0 ∨ j = 1 ∨ j = 2 ∨ j = 3 := by omega
  rcases h4 with rfl | rfl | rfl | rfl <;> exact ⟨by decide, by decide⟩
theorem s_X2_read_out {u : xU} {p : Int32} (h : s_X2_has u p = 0) (f : Int32) : s_X2_read u p f = 0 := by
  unfold s_X2_has at h
  unfold s_X2_read
  split at h
  · rename_i q; rw [if_pos q]
  · rename_i q
    rw [if_neg q]
    split at h
    · rename_i q2; rw [if_neg (Int32.not_lt.mpr q2)]
    · exact absurd h (by decide)
theorem xro {u : xU} (h : XV (u.1 2) (u.2 1)) (p : Int32) {j : Nat} (hj : j < 4) : okf j (s_X2_read u p (nI j)) := by
  by_cases hp : s_X2_has u p = 0
  · rw [s_X2_read_out hp]; exact okf_0 hj
  · obtain ⟨n, h1, h2, h3, h4⟩ := h
    obtain ⟨q, hq, rfl⟩ := s_X2_has_of h1 h2 hp
    rw [s_X2_read_in h1 h2 hq hj]
    exact h3 q j (by omega) hj
theorem s_X2_has_eq {u w : xU} (h : w.2 1 = u.2 1) (p : Int32) : s_X2_has w p = s_X2_has u p := by
  unfold s_X2_has
  rw [h]
/-- another number of a piece stays -/
theorem xrw {u : xU} (h : XV (u.1 2) (u.2 1)) (p q v : Int32) {i j : Nat} (hi : i < 4) (hj : j < 4) (hij : i ≠ j) : s_X2_read (s_X2_write u p (nI j) v) q (nI i) = s_X2_read u q (nI i) := by
  by_cases hp : s_X2_has u p = 0
  · rw [s_X2_write_out hp]
  · obtain ⟨n, h1, h2, h3, h4⟩ := h
    obtain ⟨p', hp', rfl⟩ := s_X2_has_of h1 h2 hp
    by_cases hq : s_X2_has u q = 0
    · rw [s_X2_read_out hq, s_X2_read_out ((s_X2_has_eq (by rw [s_X2_write_2]) q).trans hq)]
    · obtain ⟨q', hq', rfl⟩ := s_X2_has_of h1 h2 hq
      rw [s_X2_read_in h1 (by rw [s_X2_write_2]; exact h2) hq' hi, s_X2_read_in h1 h2 hq' hi, s_X2_write_in h1 h2 hp' hj]
      show upd (u.1 2) (4 * p' + j) v (4 * q' + i) = _
      rw [pk_un (by omega)]
theorem xlast {u : xU} (h : XV (u.1 2) (u.2 1)) (p q v r : Int32) : s_X0_lastOf (s_X0_fill (s_X2_write u p 3 v) r) q = s_X0_lastOf u q := by
  unfold s_X0_lastOf s_X0_firstOf
  rw [(xfill _ _).2 8 (by decide) (by decide) (by decide), s_X2_write_1 _ _ _ _ (by decide), xfr]
  have e := xrw h p q v (i := 1) (j := 3) (by decide) (by decide) (by decide)
  rw [show nI 1 = 1 from rfl, show nI 3 = 3 from rfl] at e
  rw [e]
theorem s_X0_attempt_2 (u : xU) (p f v : Int32) : (s_X0_attempt u p f v).2 = u.2 := by
  unfold s_X0_attempt
  rw [s_X0_fill_2, s_X0_fill_2, s_X2_write_2]
theorem s_X0_attempt_1 (u : xU) (p f v : Int32) : (s_X0_attempt u p f v).1 2 = (s_X2_write u p f v).1 2 := by
  unfold s_X0_attempt
  rw [s_X0_fill_1, s_X0_fill_1]
theorem xav {u : xU} (h : XV (u.1 2) (u.2 1)) {p : Int32} {j : Nat} (hj : j < 4) {x : Int32} (hx : okf j x) (h1 : j = 1 → 1 ≤ x.toInt) : XV ((s_X0_attempt u p (nI j) x).1 2) ((s_X0_attempt u p (nI j) x).2 1) := by
  have q := xwv h (p := p) hj hx h1
  rw [s_X2_write_2] at q
  rw [s_X0_attempt_1, s_X0_attempt_2]
  exact q
/-! ===== the old line's rows alone change ===== -/
theorem xsumL (n : Nat) : ∀ (u : xU) (x1 x2 : Int32), (s_X1_sum_L4 n u x1 x2).2 = u.2 ∧ ∀ r, r ≠ 29 → (s_X1_sum_L4 n u x1 x2).1 r = u.1 r := by
  induction n with
  | zero => intros; exact ⟨rfl, fun _ _ => rfl⟩
  | succ n ih =>
    intro u x1 x2
    rw [s_X1_sum_L4]
    split
    · exact ⟨rfl, fun _ _ => rfl⟩
    · refine ⟨(ih _ _ _).1.trans rfl, fun r h1 => ((ih _ _ _).2 r h1).trans ?_⟩
      simp only [uR]
      rw [if_neg h1]
theorem xsum (u : xU) : (s_X1_sum u).2 = u.2 ∧ ∀ r, r ≠ 29 → (s_X1_sum u).1 r = u.1 r := xsumL _ _ _ _
theorem xsumv {u : xU} (h : XV (u.1 2) (u.2 1)) : XV ((s_X1_sum u).1 2) ((s_X1_sum u).2 1) := by
  rw [(xsum u).1, (xsum u).2 2 (by decide)]
  exact h
theorem xtellL (k n : Nat) : ∀ (u : xU) (x2 : Int32), (s_X1_tell_L2 k n u x2).2 = u.2 ∧ ∀ r, (r ≠ 15 ∧ r ≠ 29) → (s_X1_tell_L2 k n u x2).1 r = u.1 r := by
  induction n with
  | zero => intros; exact ⟨rfl, fun _ _ => rfl⟩
  | succ n ih =>
    intro u x2
    rw [s_X1_tell_L2]
    split
    · exact ⟨(xsum u).1, fun r h1 => (xsum u).2 r h1.2⟩
    · refine ⟨(ih _ _).1.trans rfl, fun r h1 => ((ih _ _).2 r h1).trans ?_⟩
      simp only [uR]
      rw [if_neg h1.1]
theorem xtell (k : Nat) (u : xU) : (s_X1_tell k u).2 = u.2 ∧ ∀ r, (r ≠ 15 ∧ r ≠ 29) → (s_X1_tell k u).1 r = u.1 r := by
  unfold s_X1_tell
  exact xtellL _ _ _ _
theorem xerrL (n : Nat) : ∀ (u : xU) (x1 x2 x3 x4 x5 : Int32), (s_X1_err_L12 n u x1 x2 x3 x4 x5).2 = u.2 ∧ ∀ r, (r ≠ 15 ∧ r ≠ 29) → (s_X1_err_L12 n u x1 x2 x3 x4 x5).1 r = u.1 r := by
  induction n with
  | zero => intros; exact ⟨rfl, fun _ _ => rfl⟩
  | succ n ih =>
    intro u x1 x2 x3 x4 x5
    rw [s_X1_err_L12]
    split
    · exact ⟨(xsum u).1, fun r h1 => (xsum u).2 r h1.2⟩
    · split <;>
      · refine ⟨(ih _ _ _ _ _ _).1.trans rfl, fun r h1 => ((ih _ _ _ _ _ _).2 r h1).trans ?_⟩
        simp only [uR]
        rw [if_neg h1.1]
theorem xerr (u : xU) (a b : Int32) : (s_X1_err u a b).2 = u.2 ∧ ∀ r, (r ≠ 15 ∧ r ≠ 29) → (s_X1_err u a b).1 r = u.1 r := by
  unfold s_X1_err
  exact xerrL _ _ _ _ _ _ _
def s_X5_least_L29 : Nat → xU → Int32 → Int32 → Int32 → Int32 → Int32 × xU
  | 0, u, _, _, _, _ => (0, u)
  | n + 1, u, x1, x2, x3, x4 =>
    if 160 < x4 then
      (x3, s_X0_fill (s_X2_write u x1 3 x2) x1)
    else
      if x3 = (-1) then
        if (s_X5_lacksWithin (s_X0_fill (s_X2_write u x1 3 x4) x1) x1) = 0 then
          s_X5_least_L29 n (s_X0_fill (s_X2_write u x1 3 x4) x1) x1 x2 x4 (x4 + 1)
        else
          s_X5_least_L29 n (s_X0_fill (s_X2_write u x1 3 x4) x1) x1 x2 x3 (x4 + 1)
      else
        (x3, s_X0_fill (s_X2_write u x1 3 x2) x1)
def s_X5_least (u : xU) (p1 : Int32) : Int32 × xU :=
  if (s_X2_has u p1) = 0 then
    ((-2), u)
  else
    s_X5_least_L29 (((160 : Int32).toInt + 1 - (0 : Int32).toInt).toNat + 1) u p1 (s_X2_read u p1 3) (-1) 0
abbrev rm_X5_least : Room := { frames := 4, cells := 0, slots := 0, locals := 95 }
set_option maxHeartbeats 8000000 in
set_option maxRecDepth 100000 in
theorem c_X5_least (l : Launch) (E : xG) (a : Nat → Nat) (u : xU) (p1 : Int32) (hp0 : XV (u.1 2) (u.2 1)) (hp1 : (s_X0_lastOf u p1).toInt < 2147483647) (hL : xOK E (LX a)) : xMd l E yX5_least wsX5_least rm_X5_least (LX a) [.ref (a 0), .int p1] (wX E a u) (some (.int ((s_X5_least u p1).1))) (wX E a ((s_X5_least u p1).2)) := by
  refine xMd.of (cc := cX5_least) (maxL := 5) (ret := (some .int)) (by decide) rfl (Nat.le_of_ble_eq_true rfl) ?_
  intro p e s m below meth c ls hAt hF hP hS hl
  obtain ⟨hx, hb, hr, hml, hown, hts, hlocks, -⟩ := hAt
  have hown : s.vm.findClass RX5 = some m.cls := hown
  have hl : lv_has ls 5 [(0, .ref (a 0)), (1, .int p1)] := hl
  have hK := hF.1
  have hA := hL.2
  change W p l e rm_X5_least s m ([.ref (a 0), .int p1] : List Value).toArray below meth c s.heap [] 0 0 (xQmd E below (LX a) (some (.int ((s_X5_least u p1).1))) (wX E a ((s_X5_least u p1).2)) ([.ref (a 0), .int p1] : List Value).toArray s) _
  have hS : va_S (· ∈ LX a) s.heap s.heap [] := hS
  have hR : s_X5_least u p1 = s_X5_least u p1 := rfl
  refine lv_aload_n hx hb dX5_least_0 rfl (lv_at hl 0 rfl) ?_
  refine va_get (D := xD E) (ci := 5) (v := .ref (a 1)) (C := RX5) (T := TX5) (N := 9) hx hb hts (by decide +kernel) hown hK hP 0 rfl rfl 0 (by decide) (hts (.fieldLink RX5 12 "RailOffsets" "pieces" "LRailOffsets$Pieces;") (by decide +kernel)) (fun _ h => h) rfl dX5_least_1 ?_
  refine lv_iload_n hx hb dX5_least_4 rfl (lv_at hl 1 rfl) ?_
  refine xRoV (nL := 5) ⟨hx, hb, hml, hown, hts⟩ (c_X2_has l E a u p1) (cwV 1 hts gX5_least_X2_has rfl rfl rfl ⟨rfl, hd_X2_has⟩ ⟨(Nat.le_of_ble_eq_true rfl), (Nat.le_of_ble_eq_true rfl)⟩) hF hS hA hP (va_recv (q := (RX2, TX2, 2)) hK hP (ci := 2) rfl (q0 := 1) rfl) rfl hl.1 rfl (Nat.le_of_ble_eq_true rfl) ⟨(Nat.le_of_ble_eq_true rfl), (Nat.le_of_ble_eq_true rfl)⟩ dX5_least_5 ?_
  refine W.eq (g2 := F0 m 8 ls [.int (s_X2_has u p1)]) rfl ?_
  refine lv_if_ne (tgt := 14) hx hb dX5_least_8 rfl (fun q1 => ?_) (fun q1 => ?_)
  · have hR := hR.trans (if_neg q1)
    refine lv_aload_n hx hb dX5_least_14 rfl (lv_at hl 0 rfl) ?_
    refine va_get (D := xD E) (ci := 5) (v := .ref (a 1)) (C := RX5) (T := TX5) (N := 9) hx hb hts (by decide +kernel) hown hK hP 0 rfl rfl 0 (by decide) (hts (.fieldLink RX5 12 "RailOffsets" "pieces" "LRailOffsets$Pieces;") (by decide +kernel)) (fun _ h => h) rfl dX5_least_15 ?_
    refine lv_iload_n hx hb dX5_least_18 rfl (lv_at hl 1 rfl) ?_
    refine lv_iconst (v := 3) hx hb dX5_least_19 rfl ?_
    refine xRoV (nL := 5) ⟨hx, hb, hml, hown, hts⟩ (c_X2_read l E a u p1 3) (cwV 2 hts gX5_least_X2_read rfl rfl rfl ⟨rfl, hd_X2_read⟩ ⟨(Nat.le_of_ble_eq_true rfl), (Nat.le_of_ble_eq_true rfl)⟩) hF hS hA hP (va_recv (q := (RX2, TX2, 2)) hK hP (ci := 2) rfl (q0 := 1) rfl) rfl hl.1 rfl (Nat.le_of_ble_eq_true rfl) ⟨(Nat.le_of_ble_eq_true rfl), (Nat.le_of_ble_eq_true rfl)⟩ dX5_least_20 ?_
    refine W.eq (g2 := F0 m 23 ls [.int (s_X2_read u p1 3)]) rfl ?_
    refine lv_istore_n (lv' := [(2, .int (s_X2_read u p1 3)), (0, .ref (a 0)), (1, .int p1)]) hx hb dX5_least_23 rfl hl (by decide) rfl (fun ls hl => ?_)
    refine lv_iconst (v := (-1)) hx hb dX5_least_24 rfl ?_
    refine lv_istore_n (lv' := [(3, .int (-1)), (2, .int (s_X2_read u p1 3)), (0, .ref (a 0)), (1, .int p1)]) hx hb dX5_least_25 rfl hl (by decide) rfl (fun ls hl => ?_)
    refine lv_iconst (v := 0) hx hb dX5_least_26 rfl ?_
    refine lv_istore (lv' := [(4, .int 0), (3, .int (-1)), (2, .int (s_X2_read u p1 3)), (0, .ref (a 0)), (1, .int p1)]) hx hb dX5_least_27 hl (by decide) rfl (fun ls hl => ?_)
    have L29 : ∀ (n29 : Nat) (u29 : xU) (x3 : Int32) (x4 : Int32) (H : Heap) (locs : List Loc) (ls : Array Slot), (XV (u29.1 2) (u29.2 1)) → ((s_X0_lastOf u29 p1).toInt < 2147483647) → (¬ x4 < 0) → ((160 : Int32).toInt + 1 - x4.toInt).toNat < n29 → s_X5_least u p1 = s_X5_least_L29 n29 u29 p1 (s_X2_read u p1 3) x3 x4 → lv_has ls 5 [(4, .int x4), (3, .int x3), (2, .int (s_X2_read u p1 3)), (0, .ref (a 0)), (1, .int p1)] → va_P (xD E) vwCl (wX E a u29) H → va_S (· ∈ LX a) s.heap H locs → W p l e rm_X5_least s m ([.ref (a 0), .int p1] : List Value).toArray below meth c H locs 0 0 (xQmd E below (LX a) (some (.int ((s_X5_least u p1).1))) (wX E a ((s_X5_least u p1).2)) ([.ref (a 0), .int p1] : List Value).toArray s) (F0 m 29 ls []) := by
      intro n29
      induction n29 with
      | zero => intro u29 x3 x4 H locs ls hI0 hI1 hI2 hM29 hR hl hP hS; exact absurd hM29 (Nat.not_lt_zero _)
      | succ n29 ih29 =>
        intro u29 x3 x4 H locs ls hI0 hI1 hI2 hM29 hR hl hP hS
        refine lv_iload hx hb dX5_least_29 (lv_at hl 0 rfl) ?_
        refine lv_sipush (v := 160) hx hb dX5_least_31 rfl ?_
        refine lv_icmp_gt (tgt := 78) hx hb dX5_least_34 rfl (fun q2 => ?_) (fun q2 => ?_)
        · have hR := hR.trans (if_pos q2)
          refine lv_aload_n hx hb dX5_least_78 rfl (lv_at hl 3 rfl) ?_
          refine va_get (D := xD E) (ci := 5) (v := .ref (a 1)) (C := RX5) (T := TX5) (N := 9) hx hb hts (by decide +kernel) hown hK hP 0 rfl rfl 0 (by decide) (hts (.fieldLink RX5 12 "RailOffsets" "pieces" "LRailOffsets$Pieces;") (by decide +kernel)) (fun _ h => h) rfl dX5_least_79 ?_
          refine lv_iload_n hx hb dX5_least_82 rfl (lv_at hl 4 rfl) ?_
          refine lv_iconst (v := 3) hx hb dX5_least_83 rfl ?_
          refine lv_iload_n hx hb dX5_least_84 rfl (lv_at hl 2 rfl) ?_
          refine xMdV (nL := 5) ⟨hx, hb, hml, hown, hts⟩ (c_X2_write l E a u29 p1 3 (s_X2_read u p1 3) hL) (cwV 3 hts gX5_least_X2_write rfl rfl rfl ⟨rfl, hd_X2_write⟩ ⟨(Nat.le_of_ble_eq_true rfl), (Nat.le_of_ble_eq_true rfl)⟩) hF hS hL.2 (fun _ h => h) hP (va_recv (q := (RX2, TX2, 2)) hK hP (ci := 2) rfl (q0 := 1) rfl) rfl hl.1 rfl (Nat.le_of_ble_eq_true rfl) ⟨(Nat.le_of_ble_eq_true rfl), (Nat.le_of_ble_eq_true rfl)⟩ dX5_least_85 (fun H locs hP _ hS => ?_)
          refine W.eq (g2 := F0 m 88 ls []) rfl ?_
          refine lv_aload_n hx hb dX5_least_88 rfl (lv_at hl 3 rfl) ?_
          refine va_get (D := xD E) (ci := 5) (v := .ref (a 7)) (C := RX5) (T := TX5) (N := 9) hx hb hts (by decide +kernel) hown hK hP 0 rfl rfl 4 (by decide) (hts (.fieldLink RX5 41 "RailOffsets" "line" "LRailOffsets$Line;") (by decide +kernel)) (fun _ h => h) rfl dX5_least_89 ?_
          refine lv_iload_n hx hb dX5_least_92 rfl (lv_at hl 4 rfl) ?_
          refine xMdV (nL := 5) ⟨hx, hb, hml, hown, hts⟩ (c_X0_fill l E a (s_X2_write u29 p1 3 (s_X2_read u p1 3)) p1 (xwm hI0 (j := 3) (by decide) (xro hp0 _ (j := 3) (by decide)) (fun z => absurd z (by decide))) hL) (cwV 1 hts gX5_least_X0_fill rfl rfl rfl ⟨rfl, hd_X0_fill⟩ ⟨(Nat.le_of_ble_eq_true rfl), (Nat.le_of_ble_eq_true rfl)⟩) hF hS hL.2 (fun _ h => h) hP (va_recv (q := (RX0, TX0, 8)) hK hP (ci := 0) rfl (q0 := 7) rfl) rfl hl.1 rfl (Nat.le_of_ble_eq_true rfl) ⟨(Nat.le_of_ble_eq_true rfl), (Nat.le_of_ble_eq_true rfl)⟩ dX5_least_93 (fun H locs hP _ hS => ?_)
          refine W.eq (g2 := F0 m 96 ls []) rfl ?_
          refine lv_iload_n hx hb dX5_least_96 rfl (lv_at hl 1 rfl) ?_
          have hR : s_X5_least u p1 = (x3, s_X0_fill (s_X2_write u29 p1 3 (s_X2_read u p1 3)) p1) := hR
          exact W.iret (v := x3) hx hb hr (fun t ht _ => by rw [hR]; dsimp only; exact ⟨⟨rfl, by rw [ht]; exact hP⟩, hS.F ht⟩) hS.2.2 dX5_least_97
        · have hR := hR.trans (if_neg q2)
          refine lv_iload_n hx hb dX5_least_37 rfl (lv_at hl 1 rfl) ?_
          refine lv_iconst (v := (-1)) hx hb dX5_least_38 rfl ?_
          refine lv_icmp_ne (tgt := 78) hx hb dX5_least_39 rfl (fun q3 => ?_) (fun q3 => ?_)
          · have hR := hR.trans (if_neg q3)
            refine lv_aload_n hx hb dX5_least_78 rfl (lv_at hl 3 rfl) ?_
            refine va_get (D := xD E) (ci := 5) (v := .ref (a 1)) (C := RX5) (T := TX5) (N := 9) hx hb hts (by decide +kernel) hown hK hP 0 rfl rfl 0 (by decide) (hts (.fieldLink RX5 12 "RailOffsets" "pieces" "LRailOffsets$Pieces;") (by decide +kernel)) (fun _ h => h) rfl dX5_least_79 ?_
            refine lv_iload_n hx hb dX5_least_82 rfl (lv_at hl 4 rfl) ?_
            refine lv_iconst (v := 3) hx hb dX5_least_83 rfl ?_
            refine lv_iload_n hx hb dX5_least_84 rfl (lv_at hl 2 rfl) ?_
            refine xMdV (nL := 5) ⟨hx, hb, hml, hown, hts⟩ (c_X2_write l E a u29 p1 3 (s_X2_read u p1 3) hL) (cwV 3 hts gX5_least_X2_write rfl rfl rfl ⟨rfl, hd_X2_write⟩ ⟨(Nat.le_of_ble_eq_true rfl), (Nat.le_of_ble_eq_true rfl)⟩) hF hS hL.2 (fun _ h => h) hP (va_recv (q := (RX2, TX2, 2)) hK hP (ci := 2) rfl (q0 := 1) rfl) rfl hl.1 rfl (Nat.le_of_ble_eq_true rfl) ⟨(Nat.le_of_ble_eq_true rfl), (Nat.le_of_ble_eq_true rfl)⟩ dX5_least_85 (fun H locs hP _ hS => ?_)
            refine W.eq (g2 := F0 m 88 ls []) rfl ?_
            refine lv_aload_n hx hb dX5_least_88 rfl (lv_at hl 3 rfl) ?_
            refine va_get (D := xD E) (ci := 5) (v := .ref (a 7)) (C := RX5) (T := TX5) (N := 9) hx hb hts (by decide +kernel) hown hK hP 0 rfl rfl 4 (by decide) (hts (.fieldLink RX5 41 "RailOffsets" "line" "LRailOffsets$Line;") (by decide +kernel)) (fun _ h => h) rfl dX5_least_89 ?_
            refine lv_iload_n hx hb dX5_least_92 rfl (lv_at hl 4 rfl) ?_
            refine xMdV (nL := 5) ⟨hx, hb, hml, hown, hts⟩ (c_X0_fill l E a (s_X2_write u29 p1 3 (s_X2_read u p1 3)) p1 (xwm hI0 (j := 3) (by decide) (xro hp0 _ (j := 3) (by decide)) (fun z => absurd z (by decide))) hL) (cwV 1 hts gX5_least_X0_fill rfl rfl rfl ⟨rfl, hd_X0_fill⟩ ⟨(Nat.le_of_ble_eq_true rfl), (Nat.le_of_ble_eq_true rfl)⟩) hF hS hL.2 (fun _ h => h) hP (va_recv (q := (RX0, TX0, 8)) hK hP (ci := 0) rfl (q0 := 7) rfl) rfl hl.1 rfl (Nat.le_of_ble_eq_true rfl) ⟨(Nat.le_of_ble_eq_true rfl), (Nat.le_of_ble_eq_true rfl)⟩ dX5_least_93 (fun H locs hP _ hS => ?_)
            refine W.eq (g2 := F0 m 96 ls []) rfl ?_
            refine lv_iload_n hx hb dX5_least_96 rfl (lv_at hl 1 rfl) ?_
            have hR : s_X5_least u p1 = (x3, s_X0_fill (s_X2_write u29 p1 3 (s_X2_read u p1 3)) p1) := hR
            exact W.iret (v := x3) hx hb hr (fun t ht _ => by rw [hR]; dsimp only; exact ⟨⟨rfl, by rw [ht]; exact hP⟩, hS.F ht⟩) hS.2.2 dX5_least_97
          · have hR := hR.trans (if_pos q3)
            refine lv_aload_n hx hb dX5_least_42 rfl (lv_at hl 3 rfl) ?_
            refine va_get (D := xD E) (ci := 5) (v := .ref (a 1)) (C := RX5) (T := TX5) (N := 9) hx hb hts (by decide +kernel) hown hK hP 0 rfl rfl 0 (by decide) (hts (.fieldLink RX5 12 "RailOffsets" "pieces" "LRailOffsets$Pieces;") (by decide +kernel)) (fun _ h => h) rfl dX5_least_43 ?_
            refine lv_iload_n hx hb dX5_least_46 rfl (lv_at hl 4 rfl) ?_
            refine lv_iconst (v := 3) hx hb dX5_least_47 rfl ?_
            refine lv_iload hx hb dX5_least_48 (lv_at hl 0 rfl) ?_
            refine xMdV (nL := 5) ⟨hx, hb, hml, hown, hts⟩ (c_X2_write l E a u29 p1 3 x4 hL) (cwV 3 hts gX5_least_X2_write rfl rfl rfl ⟨rfl, hd_X2_write⟩ ⟨(Nat.le_of_ble_eq_true rfl), (Nat.le_of_ble_eq_true rfl)⟩) hF hS hL.2 (fun _ h => h) hP (va_recv (q := (RX2, TX2, 2)) hK hP (ci := 2) rfl (q0 := 1) rfl) rfl hl.1 rfl (Nat.le_of_ble_eq_true rfl) ⟨(Nat.le_of_ble_eq_true rfl), (Nat.le_of_ble_eq_true rfl)⟩ dX5_least_50 (fun H locs hP _ hS => ?_)
            refine W.eq (g2 := F0 m 53 ls []) rfl ?_
            refine lv_aload_n hx hb dX5_least_53 rfl (lv_at hl 3 rfl) ?_
            refine va_get (D := xD E) (ci := 5) (v := .ref (a 7)) (C := RX5) (T := TX5) (N := 9) hx hb hts (by decide +kernel) hown hK hP 0 rfl rfl 4 (by decide) (hts (.fieldLink RX5 41 "RailOffsets" "line" "LRailOffsets$Line;") (by decide +kernel)) (fun _ h => h) rfl dX5_least_54 ?_
            refine lv_iload_n hx hb dX5_least_57 rfl (lv_at hl 4 rfl) ?_
            refine xMdV (nL := 5) ⟨hx, hb, hml, hown, hts⟩ (c_X0_fill l E a (s_X2_write u29 p1 3 x4) p1 (xwm hI0 (j := 3) (by decide) (xok_cant hI2 q2) (fun z => absurd z (by decide))) hL) (cwV 1 hts gX5_least_X0_fill rfl rfl rfl ⟨rfl, hd_X0_fill⟩ ⟨(Nat.le_of_ble_eq_true rfl), (Nat.le_of_ble_eq_true rfl)⟩) hF hS hL.2 (fun _ h => h) hP (va_recv (q := (RX0, TX0, 8)) hK hP (ci := 0) rfl (q0 := 7) rfl) rfl hl.1 rfl (Nat.le_of_ble_eq_true rfl) ⟨(Nat.le_of_ble_eq_true rfl), (Nat.le_of_ble_eq_true rfl)⟩ dX5_least_58 (fun H locs hP _ hS => ?_)
            refine W.eq (g2 := F0 m 61 ls []) rfl ?_
            refine lv_aload_n hx hb dX5_least_61 rfl (lv_at hl 3 rfl) ?_
            refine lv_iload_n hx hb dX5_least_62 rfl (lv_at hl 4 rfl) ?_
            refine xRoV (nL := 5) ⟨hx, hb, hml, hown, hts⟩ (c_X5_lacksWithin l E a (s_X0_fill (s_X2_write u29 p1 3 x4) p1) p1 (by rw [xlast hI0]; exact hI1)) (cwV 1 hts gX5_least_X5_lacksWithin rfl rfl rfl ⟨rfl, hd_X5_lacksWithin⟩ ⟨(Nat.le_of_ble_eq_true rfl), (Nat.le_of_ble_eq_true rfl)⟩) hF hS hA hP (va_recv (q := (RX5, TX5, 9)) hK hP (ci := 5) rfl (q0 := 0) rfl) rfl hl.1 rfl (Nat.le_of_ble_eq_true rfl) ⟨(Nat.le_of_ble_eq_true rfl), (Nat.le_of_ble_eq_true rfl)⟩ dX5_least_63 ?_
            refine W.eq (g2 := F0 m 66 ls [.int (s_X5_lacksWithin (s_X0_fill (s_X2_write u29 p1 3 x4) p1) p1)]) rfl ?_
            refine lv_if_ne (tgt := 72) hx hb dX5_least_66 rfl (fun q4 => ?_) (fun q4 => ?_)
            · have hR := hR.trans (if_neg q4)
              refine lv_iinc (k := 0) (v := x4 + 1) (lv' := [(4, .int (x4 + 1)), (3, .int x3), (2, .int (s_X2_read u p1 3)), (0, .ref (a 0)), (1, .int p1)]) hx hb dX5_least_72 hl rfl rfl (by decide) rfl (fun ls hl => ?_)
              refine lv_goto (tgt := 29) hx hb dX5_least_75 rfl ?_
              exact ih29 (s_X0_fill (s_X2_write u29 p1 3 x4) p1) x3 (x4 + 1) _ _ _ (by rw [s_X0_fill_1, s_X0_fill_2]; exact xwv hI0 (j := 3) (by decide) (xok_cant hI2 q2) (fun z => absurd z (by decide))) (by rw [xlast hI0]; exact hI1) (xupge hI2 q2 (by decide)) (Nat.lt_of_lt_of_le (xupl q2 (by decide)) (Nat.le_of_lt_succ hM29)) hR (lv_sub hl [0, 1, 2, 3, 4] rfl) hP hS
            · have hR := hR.trans (if_pos q4)
              refine lv_iload hx hb dX5_least_69 (lv_at hl 0 rfl) ?_
              refine lv_istore_n (lv' := [(3, .int x4), (4, .int x4), (2, .int (s_X2_read u p1 3)), (0, .ref (a 0)), (1, .int p1)]) hx hb dX5_least_71 rfl hl (by decide) rfl (fun ls hl => ?_)
              refine lv_iinc (k := 1) (v := x4 + 1) (lv' := [(4, .int (x4 + 1)), (3, .int x4), (2, .int (s_X2_read u p1 3)), (0, .ref (a 0)), (1, .int p1)]) hx hb dX5_least_72 hl rfl rfl (by decide) rfl (fun ls hl => ?_)
              refine lv_goto (tgt := 29) hx hb dX5_least_75 rfl ?_
              exact ih29 (s_X0_fill (s_X2_write u29 p1 3 x4) p1) x4 (x4 + 1) _ _ _ (by rw [s_X0_fill_1, s_X0_fill_2]; exact xwv hI0 (j := 3) (by decide) (xok_cant hI2 q2) (fun z => absurd z (by decide))) (by rw [xlast hI0]; exact hI1) (xupge hI2 q2 (by decide)) (Nat.lt_of_lt_of_le (xupl q2 (by decide)) (Nat.le_of_lt_succ hM29)) hR (lv_sub hl [0, 1, 2, 3, 4] rfl) hP hS
    exact L29 (((160 : Int32).toInt + 1 - (0 : Int32).toInt).toNat + 1) u (-1) 0 _ _ ls (hp0) (hp1) (by decide) (Nat.lt_succ_self _) hR hl hP hS
  · have hR := hR.trans (if_pos q1)
    refine lv_bipush (v := (-2)) hx hb dX5_least_11 rfl ?_
    have hR : s_X5_least u p1 = ((-2), u) := hR
    exact W.iret (v := (-2)) hx hb hr (fun t ht _ => by rw [hR]; dsimp only; exact ⟨⟨rfl, by rw [ht]; exact hP⟩, hS.F ht⟩) hS.2.2 dX5_least_13
def s_X5_meetsBy (u : xU) (p1 : Int32) (p2 : Int32) (p3 : Int32) (p4 : Int32) : Int32 × xU :=
  if (s_X0_turnReached (s_X2_write u p1 2 p2) p1) = p3 then
    if (s_X0_offsetReached (s_X2_write u p1 2 p2) p1) = p4 then
      (1, s_X2_write u p1 2 p2)
    else
      (0, s_X2_write u p1 2 p2)
  else
    (0, s_X2_write u p1 2 p2)
abbrev rm_X5_meetsBy : Room := { frames := 5, cells := 0, slots := 0, locals := 114 }
set_option maxHeartbeats 8000000 in
set_option maxRecDepth 100000 in
theorem c_X5_meetsBy (l : Launch) (E : xG) (a : Nat → Nat) (u : xU) (p1 : Int32) (p2 : Int32) (p3 : Int32) (p4 : Int32) (hp0 : ∀ i, i < 40 → ((s_X2_write u p1 2 p2).1 2 i).toInt < 2147483647) (hL : xOK E (LX a)) : xMd l E yX5_meetsBy wsX5_meetsBy rm_X5_meetsBy (LX a) [.ref (a 0), .int p1, .int p2, .int p3, .int p4] (wX E a u) (some (.int ((s_X5_meetsBy u p1 p2 p3 p4).1))) (wX E a ((s_X5_meetsBy u p1 p2 p3 p4).2)) := by
  refine xMd.of (cc := cX5_meetsBy) (maxL := 5) (ret := (some .boolean)) (by decide) rfl (Nat.le_of_ble_eq_true rfl) ?_
  intro p e s m below meth c ls hAt hF hP hS hl
  obtain ⟨hx, hb, hr, hml, hown, hts, hlocks, -⟩ := hAt
  have hown : s.vm.findClass RX5 = some m.cls := hown
  have hl : lv_has ls 5 [(0, .ref (a 0)), (1, .int p1), (2, .int p2), (3, .int p3), (4, .int p4)] := hl
  have hK := hF.1
  have hA := hL.2
  change W p l e rm_X5_meetsBy s m ([.ref (a 0), .int p1, .int p2, .int p3, .int p4] : List Value).toArray below meth c s.heap [] 0 0 (xQmd E below (LX a) (some (.int ((s_X5_meetsBy u p1 p2 p3 p4).1))) (wX E a ((s_X5_meetsBy u p1 p2 p3 p4).2)) ([.ref (a 0), .int p1, .int p2, .int p3, .int p4] : List Value).toArray s) _
  have hS : va_S (· ∈ LX a) s.heap s.heap [] := hS
  have hR : s_X5_meetsBy u p1 p2 p3 p4 = s_X5_meetsBy u p1 p2 p3 p4 := rfl
  refine lv_aload_n hx hb dX5_meetsBy_0 rfl (lv_at hl 0 rfl) ?_
  refine va_get (D := xD E) (ci := 5) (v := .ref (a 1)) (C := RX5) (T := TX5) (N := 9) hx hb hts (by decide +kernel) hown hK hP 0 rfl rfl 0 (by decide) (hts (.fieldLink RX5 12 "RailOffsets" "pieces" "LRailOffsets$Pieces;") (by decide +kernel)) (fun _ h => h) rfl dX5_meetsBy_1 ?_
  refine lv_iload_n hx hb dX5_meetsBy_4 rfl (lv_at hl 1 rfl) ?_
  refine lv_iconst (v := 2) hx hb dX5_meetsBy_5 rfl ?_
  refine lv_iload_n hx hb dX5_meetsBy_6 rfl (lv_at hl 2 rfl) ?_
  refine xMdV (nL := 5) ⟨hx, hb, hml, hown, hts⟩ (c_X2_write l E a u p1 2 p2 hL) (cwV 3 hts gX5_meetsBy_X2_write rfl rfl rfl ⟨rfl, hd_X2_write⟩ ⟨(Nat.le_of_ble_eq_true rfl), (Nat.le_of_ble_eq_true rfl)⟩) hF hS hL.2 (fun _ h => h) hP (va_recv (q := (RX2, TX2, 2)) hK hP (ci := 2) rfl (q0 := 1) rfl) rfl hl.1 rfl (Nat.le_of_ble_eq_true rfl) ⟨(Nat.le_of_ble_eq_true rfl), (Nat.le_of_ble_eq_true rfl)⟩ dX5_meetsBy_7 (fun H locs hP _ hS => ?_)
  refine W.eq (g2 := F0 m 10 ls []) rfl ?_
  refine lv_aload_n hx hb dX5_meetsBy_10 rfl (lv_at hl 0 rfl) ?_
  refine va_get (D := xD E) (ci := 5) (v := .ref (a 7)) (C := RX5) (T := TX5) (N := 9) hx hb hts (by decide +kernel) hown hK hP 0 rfl rfl 4 (by decide) (hts (.fieldLink RX5 41 "RailOffsets" "line" "LRailOffsets$Line;") (by decide +kernel)) (fun _ h => h) rfl dX5_meetsBy_11 ?_
  refine lv_iload_n hx hb dX5_meetsBy_14 rfl (lv_at hl 1 rfl) ?_
  refine xRoV (nL := 5) ⟨hx, hb, hml, hown, hts⟩ (c_X0_turnReached l E a (s_X2_write u p1 2 p2) p1 (hp0)) (cwV 1 hts gX5_meetsBy_X0_turnReached rfl rfl rfl ⟨rfl, hd_X0_turnReached⟩ ⟨(Nat.le_of_ble_eq_true rfl), (Nat.le_of_ble_eq_true rfl)⟩) hF hS hA hP (va_recv (q := (RX0, TX0, 8)) hK hP (ci := 0) rfl (q0 := 7) rfl) rfl hl.1 rfl (Nat.le_of_ble_eq_true rfl) ⟨(Nat.le_of_ble_eq_true rfl), (Nat.le_of_ble_eq_true rfl)⟩ dX5_meetsBy_15 ?_
  refine W.eq (g2 := F0 m 18 ls [.int (s_X0_turnReached (s_X2_write u p1 2 p2) p1)]) rfl ?_
  refine lv_iload_n hx hb dX5_meetsBy_18 rfl (lv_at hl 3 rfl) ?_
  refine lv_icmp_ne (tgt := 39) hx hb dX5_meetsBy_19 rfl (fun q1 => ?_) (fun q1 => ?_)
  · have hR := hR.trans (if_neg q1)
    refine lv_iconst (v := 0) hx hb dX5_meetsBy_39 rfl ?_
    have hR : s_X5_meetsBy u p1 p2 p3 p4 = (0, s_X2_write u p1 2 p2) := hR
    exact W.zret (v := 0) (ty := .boolean) hx hb hr (xnb (Or.inl rfl)) (fun t ht _ => by rw [hR]; dsimp only; exact ⟨⟨rfl, by rw [ht]; exact hP⟩, hS.F ht⟩) hS.2.2 dX5_meetsBy_40
  · have hR := hR.trans (if_pos q1)
    refine lv_aload_n hx hb dX5_meetsBy_22 rfl (lv_at hl 0 rfl) ?_
    refine va_get (D := xD E) (ci := 5) (v := .ref (a 7)) (C := RX5) (T := TX5) (N := 9) hx hb hts (by decide +kernel) hown hK hP 0 rfl rfl 4 (by decide) (hts (.fieldLink RX5 41 "RailOffsets" "line" "LRailOffsets$Line;") (by decide +kernel)) (fun _ h => h) rfl dX5_meetsBy_23 ?_
    refine lv_iload_n hx hb dX5_meetsBy_26 rfl (lv_at hl 1 rfl) ?_
    refine xRoV (nL := 5) ⟨hx, hb, hml, hown, hts⟩ (c_X0_offsetReached l E a (s_X2_write u p1 2 p2) p1 (hp0)) (cwV 1 hts gX5_meetsBy_X0_offsetReached rfl rfl rfl ⟨rfl, hd_X0_offsetReached⟩ ⟨(Nat.le_of_ble_eq_true rfl), (Nat.le_of_ble_eq_true rfl)⟩) hF hS hA hP (va_recv (q := (RX0, TX0, 8)) hK hP (ci := 0) rfl (q0 := 7) rfl) rfl hl.1 rfl (Nat.le_of_ble_eq_true rfl) ⟨(Nat.le_of_ble_eq_true rfl), (Nat.le_of_ble_eq_true rfl)⟩ dX5_meetsBy_27 ?_
    refine W.eq (g2 := F0 m 30 ls [.int (s_X0_offsetReached (s_X2_write u p1 2 p2) p1)]) rfl ?_
    refine lv_iload hx hb dX5_meetsBy_30 (lv_at hl 4 rfl) ?_
    refine lv_icmp_ne (tgt := 39) hx hb dX5_meetsBy_32 rfl (fun q2 => ?_) (fun q2 => ?_)
    · have hR := hR.trans (if_neg q2)
      refine lv_iconst (v := 0) hx hb dX5_meetsBy_39 rfl ?_
      have hR : s_X5_meetsBy u p1 p2 p3 p4 = (0, s_X2_write u p1 2 p2) := hR
      exact W.zret (v := 0) (ty := .boolean) hx hb hr (xnb (Or.inl rfl)) (fun t ht _ => by rw [hR]; dsimp only; exact ⟨⟨rfl, by rw [ht]; exact hP⟩, hS.F ht⟩) hS.2.2 dX5_meetsBy_40
    · have hR := hR.trans (if_pos q2)
      refine lv_iconst (v := 1) hx hb dX5_meetsBy_35 rfl ?_
      refine lv_goto (tgt := 40) hx hb dX5_meetsBy_36 rfl ?_
      have hR : s_X5_meetsBy u p1 p2 p3 p4 = (1, s_X2_write u p1 2 p2) := hR
      exact W.zret (v := 1) (ty := .boolean) hx hb hr (xnb (Or.inr rfl)) (fun t ht _ => by rw [hR]; dsimp only; exact ⟨⟨rfl, by rw [ht]; exact hP⟩, hS.F ht⟩) hS.2.2 dX5_meetsBy_40
theorem s_X5_meetsBy_2 (u : xU) (p b t o : Int32) : (s_X5_meetsBy u p b t o).2 = s_X2_write u p 2 b := by
  unfold s_X5_meetsBy
  split
  · split <;> rfl
  · rfl
def s_X5_firstToMeet_L41 : Nat → xU → Int32 → Int32 → Int32 → Int32 → Int32 × xU
  | 0, u, _, _, _, _ => (0, u)
  | n + 1, u, x1, x2, x3, x4 =>
    if 61 ≤ x4 then
      ((-1), u)
    else
      if ((s_X5_meetsBy u x1 (x4 - 30) x2 x3).1) = 0 then
        s_X5_firstToMeet_L41 n ((s_X5_meetsBy u x1 (x4 - 30) x2 x3).2) x1 x2 x3 (x4 + 1)
      else
        (x4, (s_X5_meetsBy u x1 (x4 - 30) x2 x3).2)
def s_X5_firstToMeet (u : xU) (p1 : Int32) : Int32 × xU :=
  s_X5_firstToMeet_L41 (((61 : Int32).toInt - (0 : Int32).toInt).toNat + 1) u p1 ((s_X5_cell 8 (u.1 5) 7) - (s_X0_turnBut u p1)) ((s_X5_cell 8 (u.1 5) 6) - (s_X0_offsetBut u p1)) 0
abbrev rm_X5_firstToMeet : Room := { frames := 6, cells := 0, slots := 0, locals := 138 }
set_option maxHeartbeats 8000000 in
set_option maxRecDepth 100000 in
theorem c_X5_firstToMeet (l : Launch) (E : xG) (a : Nat → Nat) (u : xU) (p1 : Int32) (hp0 : XV (u.1 2) (u.2 1)) (hL : xOK E (LX a)) : xMd l E yX5_firstToMeet wsX5_firstToMeet rm_X5_firstToMeet (LX a) [.ref (a 0), .int p1] (wX E a u) (some (.int ((s_X5_firstToMeet u p1).1))) (wX E a ((s_X5_firstToMeet u p1).2)) := by
  refine xMd.of (cc := cX5_firstToMeet) (maxL := 5) (ret := (some .int)) (by decide) rfl (Nat.le_of_ble_eq_true rfl) ?_
  intro p e s m below meth c ls hAt hF hP hS hl
  obtain ⟨hx, hb, hr, hml, hown, hts, hlocks, -⟩ := hAt
  have hown : s.vm.findClass RX5 = some m.cls := hown
  have hl : lv_has ls 5 [(0, .ref (a 0)), (1, .int p1)] := hl
  have hK := hF.1
  have hA := hL.2
  change W p l e rm_X5_firstToMeet s m ([.ref (a 0), .int p1] : List Value).toArray below meth c s.heap [] 0 0 (xQmd E below (LX a) (some (.int ((s_X5_firstToMeet u p1).1))) (wX E a ((s_X5_firstToMeet u p1).2)) ([.ref (a 0), .int p1] : List Value).toArray s) _
  have hS : va_S (· ∈ LX a) s.heap s.heap [] := hS
  have hR : s_X5_firstToMeet u p1 = s_X5_firstToMeet u p1 := rfl
  refine lv_aload_n hx hb dX5_firstToMeet_0 rfl (lv_at hl 0 rfl) ?_
  refine va_get (D := xD E) (ci := 5) (v := .ref (a 5)) (C := RX5) (T := TX5) (N := 9) hx hb hts (by decide +kernel) hown hK hP 0 rfl rfl 2 (by decide) (hts (.fieldLink RX5 30 "RailOffsets" "rules" "[I") (by decide +kernel)) (fun _ h => h) rfl dX5_firstToMeet_1 ?_
  refine lv_bipush (v := 7) hx hb dX5_firstToMeet_4 rfl ?_
  refine xRoS (nL := 5) ⟨hx, hb, hml, hown, hts⟩ (c_X5_cell l E (a 5) 8 (u.1 5) 7) (va_cwS 2 hts gX5_firstToMeet_X5_cell rfl rfl rfl hd_X5_cell ⟨(Nat.le_of_ble_eq_true rfl), (Nat.le_of_ble_eq_true rfl)⟩) hF hS hA (hP.sub [5] rfl) rfl hl.1 rfl (Nat.le_of_ble_eq_true rfl) ⟨(Nat.le_of_ble_eq_true rfl), (Nat.le_of_ble_eq_true rfl)⟩ dX5_firstToMeet_6 ?_
  refine W.eq (g2 := F0 m 9 ls [.int (s_X5_cell 8 (u.1 5) 7)]) rfl ?_
  refine lv_aload_n hx hb dX5_firstToMeet_9 rfl (lv_at hl 0 rfl) ?_
  refine va_get (D := xD E) (ci := 5) (v := .ref (a 7)) (C := RX5) (T := TX5) (N := 9) hx hb hts (by decide +kernel) hown hK hP 0 rfl rfl 4 (by decide) (hts (.fieldLink RX5 41 "RailOffsets" "line" "LRailOffsets$Line;") (by decide +kernel)) (fun _ h => h) rfl dX5_firstToMeet_10 ?_
  refine lv_iload_n hx hb dX5_firstToMeet_13 rfl (lv_at hl 1 rfl) ?_
  refine xRoV (nL := 5) ⟨hx, hb, hml, hown, hts⟩ (c_X0_turnBut l E a u p1 (hp0.xm)) (cwV 1 hts gX5_firstToMeet_X0_turnBut rfl rfl rfl ⟨rfl, hd_X0_turnBut⟩ ⟨(Nat.le_of_ble_eq_true rfl), (Nat.le_of_ble_eq_true rfl)⟩) hF hS hA hP (va_recv (q := (RX0, TX0, 8)) hK hP (ci := 0) rfl (q0 := 7) rfl) rfl hl.1 rfl (Nat.le_of_ble_eq_true rfl) ⟨(Nat.le_of_ble_eq_true rfl), (Nat.le_of_ble_eq_true rfl)⟩ dX5_firstToMeet_14 ?_
  refine W.eq (g2 := F0 m 17 ls [.int (s_X0_turnBut u p1), .int (s_X5_cell 8 (u.1 5) 7)]) rfl ?_
  refine lv_isub hx hb dX5_firstToMeet_17 ?_
  refine lv_istore_n (lv' := [(2, .int ((s_X5_cell 8 (u.1 5) 7) - (s_X0_turnBut u p1))), (0, .ref (a 0)), (1, .int p1)]) hx hb dX5_firstToMeet_18 rfl hl (by decide) rfl (fun ls hl => ?_)
  refine lv_aload_n hx hb dX5_firstToMeet_19 rfl (lv_at hl 1 rfl) ?_
  refine va_get (D := xD E) (ci := 5) (v := .ref (a 5)) (C := RX5) (T := TX5) (N := 9) hx hb hts (by decide +kernel) hown hK hP 0 rfl rfl 2 (by decide) (hts (.fieldLink RX5 30 "RailOffsets" "rules" "[I") (by decide +kernel)) (fun _ h => h) rfl dX5_firstToMeet_20 ?_
  refine lv_bipush (v := 6) hx hb dX5_firstToMeet_23 rfl ?_
  refine xRoS (nL := 5) ⟨hx, hb, hml, hown, hts⟩ (c_X5_cell l E (a 5) 8 (u.1 5) 6) (va_cwS 2 hts gX5_firstToMeet_X5_cell rfl rfl rfl hd_X5_cell ⟨(Nat.le_of_ble_eq_true rfl), (Nat.le_of_ble_eq_true rfl)⟩) hF hS hA (hP.sub [5] rfl) rfl hl.1 rfl (Nat.le_of_ble_eq_true rfl) ⟨(Nat.le_of_ble_eq_true rfl), (Nat.le_of_ble_eq_true rfl)⟩ dX5_firstToMeet_25 ?_
  refine W.eq (g2 := F0 m 28 ls [.int (s_X5_cell 8 (u.1 5) 6)]) rfl ?_
  refine lv_aload_n hx hb dX5_firstToMeet_28 rfl (lv_at hl 1 rfl) ?_
  refine va_get (D := xD E) (ci := 5) (v := .ref (a 7)) (C := RX5) (T := TX5) (N := 9) hx hb hts (by decide +kernel) hown hK hP 0 rfl rfl 4 (by decide) (hts (.fieldLink RX5 41 "RailOffsets" "line" "LRailOffsets$Line;") (by decide +kernel)) (fun _ h => h) rfl dX5_firstToMeet_29 ?_
  refine lv_iload_n hx hb dX5_firstToMeet_32 rfl (lv_at hl 2 rfl) ?_
  refine xRoV (nL := 5) ⟨hx, hb, hml, hown, hts⟩ (c_X0_offsetBut l E a u p1 (hp0.xm)) (cwV 1 hts gX5_firstToMeet_X0_offsetBut rfl rfl rfl ⟨rfl, hd_X0_offsetBut⟩ ⟨(Nat.le_of_ble_eq_true rfl), (Nat.le_of_ble_eq_true rfl)⟩) hF hS hA hP (va_recv (q := (RX0, TX0, 8)) hK hP (ci := 0) rfl (q0 := 7) rfl) rfl hl.1 rfl (Nat.le_of_ble_eq_true rfl) ⟨(Nat.le_of_ble_eq_true rfl), (Nat.le_of_ble_eq_true rfl)⟩ dX5_firstToMeet_33 ?_
  refine W.eq (g2 := F0 m 36 ls [.int (s_X0_offsetBut u p1), .int (s_X5_cell 8 (u.1 5) 6)]) rfl ?_
  refine lv_isub hx hb dX5_firstToMeet_36 ?_
  refine lv_istore_n (lv' := [(3, .int ((s_X5_cell 8 (u.1 5) 6) - (s_X0_offsetBut u p1))), (2, .int ((s_X5_cell 8 (u.1 5) 7) - (s_X0_turnBut u p1))), (0, .ref (a 0)), (1, .int p1)]) hx hb dX5_firstToMeet_37 rfl hl (by decide) rfl (fun ls hl => ?_)
  refine lv_iconst (v := 0) hx hb dX5_firstToMeet_38 rfl ?_
  refine lv_istore (lv' := [(4, .int 0), (3, .int ((s_X5_cell 8 (u.1 5) 6) - (s_X0_offsetBut u p1))), (2, .int ((s_X5_cell 8 (u.1 5) 7) - (s_X0_turnBut u p1))), (0, .ref (a 0)), (1, .int p1)]) hx hb dX5_firstToMeet_39 hl (by decide) rfl (fun ls hl => ?_)
  have L41 : ∀ (n41 : Nat) (u41 : xU) (x4 : Int32) (H : Heap) (locs : List Loc) (ls : Array Slot), (XV (u41.1 2) (u41.2 1)) → (¬ x4 < 0) → ((61 : Int32).toInt - x4.toInt).toNat < n41 → s_X5_firstToMeet u p1 = s_X5_firstToMeet_L41 n41 u41 p1 ((s_X5_cell 8 (u.1 5) 7) - (s_X0_turnBut u p1)) ((s_X5_cell 8 (u.1 5) 6) - (s_X0_offsetBut u p1)) x4 → lv_has ls 5 [(4, .int x4), (3, .int ((s_X5_cell 8 (u.1 5) 6) - (s_X0_offsetBut u p1))), (2, .int ((s_X5_cell 8 (u.1 5) 7) - (s_X0_turnBut u p1))), (0, .ref (a 0)), (1, .int p1)] → va_P (xD E) vwCl (wX E a u41) H → va_S (· ∈ LX a) s.heap H locs → W p l e rm_X5_firstToMeet s m ([.ref (a 0), .int p1] : List Value).toArray below meth c H locs 0 0 (xQmd E below (LX a) (some (.int ((s_X5_firstToMeet u p1).1))) (wX E a ((s_X5_firstToMeet u p1).2)) ([.ref (a 0), .int p1] : List Value).toArray s) (F0 m 41 ls []) := by
    intro n41
    induction n41 with
    | zero => intro u41 x4 H locs ls hI0 hI1 hM41 hR hl hP hS; exact absurd hM41 (Nat.not_lt_zero _)
    | succ n41 ih41 =>
      intro u41 x4 H locs ls hI0 hI1 hM41 hR hl hP hS
      refine lv_iload hx hb dX5_firstToMeet_41 (lv_at hl 0 rfl) ?_
      refine lv_bipush (v := 61) hx hb dX5_firstToMeet_43 rfl ?_
      refine lv_icmp_ge (tgt := 72) hx hb dX5_firstToMeet_45 rfl (fun q1 => ?_) (fun q1 => ?_)
      · have hR := hR.trans (if_pos q1)
        refine lv_iconst (v := (-1)) hx hb dX5_firstToMeet_72 rfl ?_
        have hR : s_X5_firstToMeet u p1 = ((-1), u41) := hR
        exact W.iret (v := (-1)) hx hb hr (fun t ht _ => by rw [hR]; dsimp only; exact ⟨⟨rfl, by rw [ht]; exact hP⟩, hS.F ht⟩) hS.2.2 dX5_firstToMeet_73
      · have hR := hR.trans (if_neg q1)
        refine lv_aload_n hx hb dX5_firstToMeet_48 rfl (lv_at hl 3 rfl) ?_
        refine lv_iload_n hx hb dX5_firstToMeet_49 rfl (lv_at hl 4 rfl) ?_
        refine lv_iload hx hb dX5_firstToMeet_50 (lv_at hl 0 rfl) ?_
        refine lv_bipush (v := 30) hx hb dX5_firstToMeet_52 rfl ?_
        refine lv_isub hx hb dX5_firstToMeet_54 ?_
        refine lv_iload_n hx hb dX5_firstToMeet_55 rfl (lv_at hl 2 rfl) ?_
        refine lv_iload_n hx hb dX5_firstToMeet_56 rfl (lv_at hl 1 rfl) ?_
        refine xMdV (nL := 5) ⟨hx, hb, hml, hown, hts⟩ (c_X5_meetsBy l E a u41 p1 (x4 - 30) ((s_X5_cell 8 (u.1 5) 7) - (s_X0_turnBut u p1)) ((s_X5_cell 8 (u.1 5) 6) - (s_X0_offsetBut u p1)) (xwm hI0 (j := 2) (by decide) (xok_place hI1 q1) (fun z => absurd z (by decide))) hL) (cwV 4 hts gX5_firstToMeet_X5_meetsBy rfl rfl rfl ⟨rfl, hd_X5_meetsBy⟩ ⟨(Nat.le_of_ble_eq_true rfl), (Nat.le_of_ble_eq_true rfl)⟩) hF hS hL.2 (fun _ h => h) hP (va_recv (q := (RX5, TX5, 9)) hK hP (ci := 5) rfl (q0 := 0) rfl) rfl hl.1 rfl (Nat.le_of_ble_eq_true rfl) ⟨(Nat.le_of_ble_eq_true rfl), (Nat.le_of_ble_eq_true rfl)⟩ dX5_firstToMeet_57 (fun H locs hP _ hS => ?_)
        refine W.eq (g2 := F0 m 60 ls [.int ((s_X5_meetsBy u41 p1 (x4 - 30) ((s_X5_cell 8 (u.1 5) 7) - (s_X0_turnBut u p1)) ((s_X5_cell 8 (u.1 5) 6) - (s_X0_offsetBut u p1))).1)]) rfl ?_
        refine lv_if_eq (tgt := 66) hx hb dX5_firstToMeet_60 rfl (fun q2 => ?_) (fun q2 => ?_)
        · have hR := hR.trans (if_pos q2)
          refine lv_iinc (k := 0) (v := x4 + 1) (lv' := [(4, .int (x4 + 1)), (3, .int ((s_X5_cell 8 (u.1 5) 6) - (s_X0_offsetBut u p1))), (2, .int ((s_X5_cell 8 (u.1 5) 7) - (s_X0_turnBut u p1))), (0, .ref (a 0)), (1, .int p1)]) hx hb dX5_firstToMeet_66 hl rfl rfl (by decide) rfl (fun ls hl => ?_)
          refine lv_goto (tgt := 41) hx hb dX5_firstToMeet_69 rfl ?_
          exact ih41 ((s_X5_meetsBy u41 p1 (x4 - 30) ((s_X5_cell 8 (u.1 5) 7) - (s_X0_turnBut u p1)) ((s_X5_cell 8 (u.1 5) 6) - (s_X0_offsetBut u p1))).2) (x4 + 1) _ _ _ (by rw [s_X5_meetsBy_2]; exact xwv hI0 (j := 2) (by decide) (xok_place hI1 q1) (fun z => absurd z (by decide))) (xup0 hI1 q1) (Nat.lt_of_lt_of_le (xupc q1) (Nat.le_of_lt_succ hM41)) hR (lv_sub hl [0, 1, 2, 3, 4] rfl) hP hS
        · have hR := hR.trans (if_neg q2)
          refine lv_iload hx hb dX5_firstToMeet_63 (lv_at hl 0 rfl) ?_
          have hR : s_X5_firstToMeet u p1 = (x4, (s_X5_meetsBy u41 p1 (x4 - 30) ((s_X5_cell 8 (u.1 5) 7) - (s_X0_turnBut u p1)) ((s_X5_cell 8 (u.1 5) 6) - (s_X0_offsetBut u p1))).2) := hR
          exact W.iret (v := x4) hx hb hr (fun t ht _ => by rw [hR]; dsimp only; exact ⟨⟨rfl, by rw [ht]; exact hP⟩, hS.F ht⟩) hS.2.2 dX5_firstToMeet_65
  exact L41 (((61 : Int32).toInt - (0 : Int32).toInt).toNat + 1) u 0 _ _ ls (hp0) (by decide) (Nat.lt_succ_self _) hR hl hP hS
theorem xftmL (n : Nat) : ∀ (u : xU) (x1 x2 x3 x4 : Int32), XV (u.1 2) (u.2 1) → ¬ x4 < 0 → XV ((s_X5_firstToMeet_L41 n u x1 x2 x3 x4).2.1 2) ((s_X5_firstToMeet_L41 n u x1 x2 x3 x4).2.2 1) := by
  induction n with
  | zero => intro u x1 x2 x3 x4 h _; exact h
  | succ n ih =>
    intro u x1 x2 x3 x4 h h0
    rw [s_X5_firstToMeet_L41]
    split
    · exact h
    · rename_i q
      have hx := xwv h (p := x1) (j := 2) (by decide) (xok_place h0 q) (fun z => absurd z (by decide))
      split
      · exact ih _ _ _ _ _ (by rw [s_X5_meetsBy_2]; exact hx) (xup0 h0 q)
      · rw [s_X5_meetsBy_2]; exact hx
theorem xftm {u : xU} (h : XV (u.1 2) (u.2 1)) (p : Int32) : XV ((s_X5_firstToMeet u p).2.1 2) ((s_X5_firstToMeet u p).2.2 1) := by
  unfold s_X5_firstToMeet
  exact xftmL _ _ _ _ _ _ h (by decide)
def s_X5_meets_L69 : Nat → xU → Int32 → Int32 → Int32 → Int32 → Int32 → Int32 → Int32 × xU
  | 0, u, _, _, _, _, _, _ => (0, u)
  | n + 1, u, x1, x2, x3, x4, x5, x6 =>
    if 99 < x6 then
      (x5, s_X2_write u x1 2 x2)
    else
      if x5 = (-1) then
        if ((s_X5_meetsBy u x1 x6 x3 x4).1) = 0 then
          if ((s_X5_meetsBy ((s_X5_meetsBy u x1 x6 x3 x4).2) x1 (-x6) x3 x4).1) = 0 then
            s_X5_meets_L69 n ((s_X5_meetsBy ((s_X5_meetsBy u x1 x6 x3 x4).2) x1 (-x6) x3 x4).2) x1 x2 x3 x4 x5 (x6 + 1)
          else
            s_X5_meets_L69 n ((s_X5_meetsBy ((s_X5_meetsBy u x1 x6 x3 x4).2) x1 (-x6) x3 x4).2) x1 x2 x3 x4 (1000 - x6) (x6 + 1)
        else
          s_X5_meets_L69 n ((s_X5_meetsBy u x1 x6 x3 x4).2) x1 x2 x3 x4 (1000 + x6) (x6 + 1)
      else
        (x5, s_X2_write u x1 2 x2)
def s_X5_meets (u : xU) (p1 : Int32) : Int32 × xU :=
  if (s_X2_has u p1) = 0 then
    ((-2), u)
  else
    s_X5_meets_L69 (((99 : Int32).toInt + 1 - (0 : Int32).toInt).toNat + 1) u p1 (s_X2_read u p1 2) ((s_X5_cell 8 (u.1 5) 7) - (s_X0_turnBut u p1)) ((s_X5_cell 8 (u.1 5) 6) - (s_X0_offsetBut u p1)) (-1) 0
abbrev rm_X5_meets : Room := { frames := 6, cells := 0, slots := 0, locals := 138 }
set_option maxHeartbeats 8000000 in
set_option maxRecDepth 100000 in
theorem c_X5_meets (l : Launch) (E : xG) (a : Nat → Nat) (u : xU) (p1 : Int32) (hp0 : XV (u.1 2) (u.2 1)) (hL : xOK E (LX a)) : xMd l E yX5_meets wsX5_meets rm_X5_meets (LX a) [.ref (a 0), .int p1] (wX E a u) (some (.int ((s_X5_meets u p1).1))) (wX E a ((s_X5_meets u p1).2)) := by
  refine xMd.of (cc := cX5_meets) (maxL := 7) (ret := (some .int)) (by decide) rfl (Nat.le_of_ble_eq_true rfl) ?_
  intro p e s m below meth c ls hAt hF hP hS hl
  obtain ⟨hx, hb, hr, hml, hown, hts, hlocks, -⟩ := hAt
  have hown : s.vm.findClass RX5 = some m.cls := hown
  have hl : lv_has ls 7 [(0, .ref (a 0)), (1, .int p1)] := hl
  have hK := hF.1
  have hA := hL.2
  change W p l e rm_X5_meets s m ([.ref (a 0), .int p1] : List Value).toArray below meth c s.heap [] 0 0 (xQmd E below (LX a) (some (.int ((s_X5_meets u p1).1))) (wX E a ((s_X5_meets u p1).2)) ([.ref (a 0), .int p1] : List Value).toArray s) _
  have hS : va_S (· ∈ LX a) s.heap s.heap [] := hS
  have hR : s_X5_meets u p1 = s_X5_meets u p1 := rfl
  refine lv_aload_n hx hb dX5_meets_0 rfl (lv_at hl 0 rfl) ?_
  refine va_get (D := xD E) (ci := 5) (v := .ref (a 1)) (C := RX5) (T := TX5) (N := 9) hx hb hts (by decide +kernel) hown hK hP 0 rfl rfl 0 (by decide) (hts (.fieldLink RX5 12 "RailOffsets" "pieces" "LRailOffsets$Pieces;") (by decide +kernel)) (fun _ h => h) rfl dX5_meets_1 ?_
  refine lv_iload_n hx hb dX5_meets_4 rfl (lv_at hl 1 rfl) ?_
  refine xRoV (nL := 7) ⟨hx, hb, hml, hown, hts⟩ (c_X2_has l E a u p1) (cwV 1 hts gX5_meets_X2_has rfl rfl rfl ⟨rfl, hd_X2_has⟩ ⟨(Nat.le_of_ble_eq_true rfl), (Nat.le_of_ble_eq_true rfl)⟩) hF hS hA hP (va_recv (q := (RX2, TX2, 2)) hK hP (ci := 2) rfl (q0 := 1) rfl) rfl hl.1 rfl (Nat.le_of_ble_eq_true rfl) ⟨(Nat.le_of_ble_eq_true rfl), (Nat.le_of_ble_eq_true rfl)⟩ dX5_meets_5 ?_
  refine W.eq (g2 := F0 m 8 ls [.int (s_X2_has u p1)]) rfl ?_
  refine lv_if_ne (tgt := 14) hx hb dX5_meets_8 rfl (fun q1 => ?_) (fun q1 => ?_)
  · have hR := hR.trans (if_neg q1)
    refine lv_aload_n hx hb dX5_meets_14 rfl (lv_at hl 0 rfl) ?_
    refine va_get (D := xD E) (ci := 5) (v := .ref (a 1)) (C := RX5) (T := TX5) (N := 9) hx hb hts (by decide +kernel) hown hK hP 0 rfl rfl 0 (by decide) (hts (.fieldLink RX5 12 "RailOffsets" "pieces" "LRailOffsets$Pieces;") (by decide +kernel)) (fun _ h => h) rfl dX5_meets_15 ?_
    refine lv_iload_n hx hb dX5_meets_18 rfl (lv_at hl 1 rfl) ?_
    refine lv_iconst (v := 2) hx hb dX5_meets_19 rfl ?_
    refine xRoV (nL := 7) ⟨hx, hb, hml, hown, hts⟩ (c_X2_read l E a u p1 2) (cwV 2 hts gX5_meets_X2_read rfl rfl rfl ⟨rfl, hd_X2_read⟩ ⟨(Nat.le_of_ble_eq_true rfl), (Nat.le_of_ble_eq_true rfl)⟩) hF hS hA hP (va_recv (q := (RX2, TX2, 2)) hK hP (ci := 2) rfl (q0 := 1) rfl) rfl hl.1 rfl (Nat.le_of_ble_eq_true rfl) ⟨(Nat.le_of_ble_eq_true rfl), (Nat.le_of_ble_eq_true rfl)⟩ dX5_meets_20 ?_
    refine W.eq (g2 := F0 m 23 ls [.int (s_X2_read u p1 2)]) rfl ?_
    refine lv_istore_n (lv' := [(2, .int (s_X2_read u p1 2)), (0, .ref (a 0)), (1, .int p1)]) hx hb dX5_meets_23 rfl hl (by decide) rfl (fun ls hl => ?_)
    refine lv_aload_n hx hb dX5_meets_24 rfl (lv_at hl 1 rfl) ?_
    refine va_get (D := xD E) (ci := 5) (v := .ref (a 5)) (C := RX5) (T := TX5) (N := 9) hx hb hts (by decide +kernel) hown hK hP 0 rfl rfl 2 (by decide) (hts (.fieldLink RX5 30 "RailOffsets" "rules" "[I") (by decide +kernel)) (fun _ h => h) rfl dX5_meets_25 ?_
    refine lv_bipush (v := 7) hx hb dX5_meets_28 rfl ?_
    refine xRoS (nL := 7) ⟨hx, hb, hml, hown, hts⟩ (c_X5_cell l E (a 5) 8 (u.1 5) 7) (va_cwS 2 hts gX5_meets_X5_cell rfl rfl rfl hd_X5_cell ⟨(Nat.le_of_ble_eq_true rfl), (Nat.le_of_ble_eq_true rfl)⟩) hF hS hA (hP.sub [5] rfl) rfl hl.1 rfl (Nat.le_of_ble_eq_true rfl) ⟨(Nat.le_of_ble_eq_true rfl), (Nat.le_of_ble_eq_true rfl)⟩ dX5_meets_30 ?_
    refine W.eq (g2 := F0 m 33 ls [.int (s_X5_cell 8 (u.1 5) 7)]) rfl ?_
    refine lv_aload_n hx hb dX5_meets_33 rfl (lv_at hl 1 rfl) ?_
    refine va_get (D := xD E) (ci := 5) (v := .ref (a 7)) (C := RX5) (T := TX5) (N := 9) hx hb hts (by decide +kernel) hown hK hP 0 rfl rfl 4 (by decide) (hts (.fieldLink RX5 41 "RailOffsets" "line" "LRailOffsets$Line;") (by decide +kernel)) (fun _ h => h) rfl dX5_meets_34 ?_
    refine lv_iload_n hx hb dX5_meets_37 rfl (lv_at hl 2 rfl) ?_
    refine xRoV (nL := 7) ⟨hx, hb, hml, hown, hts⟩ (c_X0_turnBut l E a u p1 (hp0.xm)) (cwV 1 hts gX5_meets_X0_turnBut rfl rfl rfl ⟨rfl, hd_X0_turnBut⟩ ⟨(Nat.le_of_ble_eq_true rfl), (Nat.le_of_ble_eq_true rfl)⟩) hF hS hA hP (va_recv (q := (RX0, TX0, 8)) hK hP (ci := 0) rfl (q0 := 7) rfl) rfl hl.1 rfl (Nat.le_of_ble_eq_true rfl) ⟨(Nat.le_of_ble_eq_true rfl), (Nat.le_of_ble_eq_true rfl)⟩ dX5_meets_38 ?_
    refine W.eq (g2 := F0 m 41 ls [.int (s_X0_turnBut u p1), .int (s_X5_cell 8 (u.1 5) 7)]) rfl ?_
    refine lv_isub hx hb dX5_meets_41 ?_
    refine lv_istore_n (lv' := [(3, .int ((s_X5_cell 8 (u.1 5) 7) - (s_X0_turnBut u p1))), (2, .int (s_X2_read u p1 2)), (0, .ref (a 0)), (1, .int p1)]) hx hb dX5_meets_42 rfl hl (by decide) rfl (fun ls hl => ?_)
    refine lv_aload_n hx hb dX5_meets_43 rfl (lv_at hl 2 rfl) ?_
    refine va_get (D := xD E) (ci := 5) (v := .ref (a 5)) (C := RX5) (T := TX5) (N := 9) hx hb hts (by decide +kernel) hown hK hP 0 rfl rfl 2 (by decide) (hts (.fieldLink RX5 30 "RailOffsets" "rules" "[I") (by decide +kernel)) (fun _ h => h) rfl dX5_meets_44 ?_
    refine lv_bipush (v := 6) hx hb dX5_meets_47 rfl ?_
    refine xRoS (nL := 7) ⟨hx, hb, hml, hown, hts⟩ (c_X5_cell l E (a 5) 8 (u.1 5) 6) (va_cwS 2 hts gX5_meets_X5_cell rfl rfl rfl hd_X5_cell ⟨(Nat.le_of_ble_eq_true rfl), (Nat.le_of_ble_eq_true rfl)⟩) hF hS hA (hP.sub [5] rfl) rfl hl.1 rfl (Nat.le_of_ble_eq_true rfl) ⟨(Nat.le_of_ble_eq_true rfl), (Nat.le_of_ble_eq_true rfl)⟩ dX5_meets_49 ?_
    refine W.eq (g2 := F0 m 52 ls [.int (s_X5_cell 8 (u.1 5) 6)]) rfl ?_
    refine lv_aload_n hx hb dX5_meets_52 rfl (lv_at hl 2 rfl) ?_
    refine va_get (D := xD E) (ci := 5) (v := .ref (a 7)) (C := RX5) (T := TX5) (N := 9) hx hb hts (by decide +kernel) hown hK hP 0 rfl rfl 4 (by decide) (hts (.fieldLink RX5 41 "RailOffsets" "line" "LRailOffsets$Line;") (by decide +kernel)) (fun _ h => h) rfl dX5_meets_53 ?_
    refine lv_iload_n hx hb dX5_meets_56 rfl (lv_at hl 3 rfl) ?_
    refine xRoV (nL := 7) ⟨hx, hb, hml, hown, hts⟩ (c_X0_offsetBut l E a u p1 (hp0.xm)) (cwV 1 hts gX5_meets_X0_offsetBut rfl rfl rfl ⟨rfl, hd_X0_offsetBut⟩ ⟨(Nat.le_of_ble_eq_true rfl), (Nat.le_of_ble_eq_true rfl)⟩) hF hS hA hP (va_recv (q := (RX0, TX0, 8)) hK hP (ci := 0) rfl (q0 := 7) rfl) rfl hl.1 rfl (Nat.le_of_ble_eq_true rfl) ⟨(Nat.le_of_ble_eq_true rfl), (Nat.le_of_ble_eq_true rfl)⟩ dX5_meets_57 ?_
    refine W.eq (g2 := F0 m 60 ls [.int (s_X0_offsetBut u p1), .int (s_X5_cell 8 (u.1 5) 6)]) rfl ?_
    refine lv_isub hx hb dX5_meets_60 ?_
    refine lv_istore (lv' := [(4, .int ((s_X5_cell 8 (u.1 5) 6) - (s_X0_offsetBut u p1))), (3, .int ((s_X5_cell 8 (u.1 5) 7) - (s_X0_turnBut u p1))), (2, .int (s_X2_read u p1 2)), (0, .ref (a 0)), (1, .int p1)]) hx hb dX5_meets_61 hl (by decide) rfl (fun ls hl => ?_)
    refine lv_iconst (v := (-1)) hx hb dX5_meets_63 rfl ?_
    refine lv_istore (lv' := [(5, .int (-1)), (4, .int ((s_X5_cell 8 (u.1 5) 6) - (s_X0_offsetBut u p1))), (3, .int ((s_X5_cell 8 (u.1 5) 7) - (s_X0_turnBut u p1))), (2, .int (s_X2_read u p1 2)), (0, .ref (a 0)), (1, .int p1)]) hx hb dX5_meets_64 hl (by decide) rfl (fun ls hl => ?_)
    refine lv_iconst (v := 0) hx hb dX5_meets_66 rfl ?_
    refine lv_istore (lv' := [(6, .int 0), (5, .int (-1)), (4, .int ((s_X5_cell 8 (u.1 5) 6) - (s_X0_offsetBut u p1))), (3, .int ((s_X5_cell 8 (u.1 5) 7) - (s_X0_turnBut u p1))), (2, .int (s_X2_read u p1 2)), (0, .ref (a 0)), (1, .int p1)]) hx hb dX5_meets_67 hl (by decide) rfl (fun ls hl => ?_)
    have L69 : ∀ (n69 : Nat) (u69 : xU) (x5 : Int32) (x6 : Int32) (H : Heap) (locs : List Loc) (ls : Array Slot), (XV (u69.1 2) (u69.2 1)) → (¬ x6 < 0) → ((99 : Int32).toInt + 1 - x6.toInt).toNat < n69 → s_X5_meets u p1 = s_X5_meets_L69 n69 u69 p1 (s_X2_read u p1 2) ((s_X5_cell 8 (u.1 5) 7) - (s_X0_turnBut u p1)) ((s_X5_cell 8 (u.1 5) 6) - (s_X0_offsetBut u p1)) x5 x6 → lv_has ls 7 [(6, .int x6), (5, .int x5), (4, .int ((s_X5_cell 8 (u.1 5) 6) - (s_X0_offsetBut u p1))), (3, .int ((s_X5_cell 8 (u.1 5) 7) - (s_X0_turnBut u p1))), (2, .int (s_X2_read u p1 2)), (0, .ref (a 0)), (1, .int p1)] → va_P (xD E) vwCl (wX E a u69) H → va_S (· ∈ LX a) s.heap H locs → W p l e rm_X5_meets s m ([.ref (a 0), .int p1] : List Value).toArray below meth c H locs 0 0 (xQmd E below (LX a) (some (.int ((s_X5_meets u p1).1))) (wX E a ((s_X5_meets u p1).2)) ([.ref (a 0), .int p1] : List Value).toArray s) (F0 m 69 ls []) := by
      intro n69
      induction n69 with
      | zero => intro u69 x5 x6 H locs ls hI0 hI1 hM69 hR hl hP hS; exact absurd hM69 (Nat.not_lt_zero _)
      | succ n69 ih69 =>
        intro u69 x5 x6 H locs ls hI0 hI1 hM69 hR hl hP hS
        refine lv_iload hx hb dX5_meets_69 (lv_at hl 0 rfl) ?_
        refine lv_bipush (v := 99) hx hb dX5_meets_71 rfl ?_
        refine lv_icmp_gt (tgt := 134) hx hb dX5_meets_73 rfl (fun q2 => ?_) (fun q2 => ?_)
        · have hR := hR.trans (if_pos q2)
          refine lv_aload_n hx hb dX5_meets_134 rfl (lv_at hl 5 rfl) ?_
          refine va_get (D := xD E) (ci := 5) (v := .ref (a 1)) (C := RX5) (T := TX5) (N := 9) hx hb hts (by decide +kernel) hown hK hP 0 rfl rfl 0 (by decide) (hts (.fieldLink RX5 12 "RailOffsets" "pieces" "LRailOffsets$Pieces;") (by decide +kernel)) (fun _ h => h) rfl dX5_meets_135 ?_
          refine lv_iload_n hx hb dX5_meets_138 rfl (lv_at hl 6 rfl) ?_
          refine lv_iconst (v := 2) hx hb dX5_meets_139 rfl ?_
          refine lv_iload_n hx hb dX5_meets_140 rfl (lv_at hl 4 rfl) ?_
          refine xMdV (nL := 7) ⟨hx, hb, hml, hown, hts⟩ (c_X2_write l E a u69 p1 2 (s_X2_read u p1 2) hL) (cwV 3 hts gX5_meets_X2_write rfl rfl rfl ⟨rfl, hd_X2_write⟩ ⟨(Nat.le_of_ble_eq_true rfl), (Nat.le_of_ble_eq_true rfl)⟩) hF hS hL.2 (fun _ h => h) hP (va_recv (q := (RX2, TX2, 2)) hK hP (ci := 2) rfl (q0 := 1) rfl) rfl hl.1 rfl (Nat.le_of_ble_eq_true rfl) ⟨(Nat.le_of_ble_eq_true rfl), (Nat.le_of_ble_eq_true rfl)⟩ dX5_meets_141 (fun H locs hP _ hS => ?_)
          refine W.eq (g2 := F0 m 144 ls []) rfl ?_
          refine lv_iload hx hb dX5_meets_144 (lv_at hl 1 rfl) ?_
          have hR : s_X5_meets u p1 = (x5, s_X2_write u69 p1 2 (s_X2_read u p1 2)) := hR
          exact W.iret (v := x5) hx hb hr (fun t ht _ => by rw [hR]; dsimp only; exact ⟨⟨rfl, by rw [ht]; exact hP⟩, hS.F ht⟩) hS.2.2 dX5_meets_146
        · have hR := hR.trans (if_neg q2)
          refine lv_iload hx hb dX5_meets_76 (lv_at hl 1 rfl) ?_
          refine lv_iconst (v := (-1)) hx hb dX5_meets_78 rfl ?_
          refine lv_icmp_ne (tgt := 134) hx hb dX5_meets_79 rfl (fun q3 => ?_) (fun q3 => ?_)
          · have hR := hR.trans (if_neg q3)
            refine lv_aload_n hx hb dX5_meets_134 rfl (lv_at hl 5 rfl) ?_
            refine va_get (D := xD E) (ci := 5) (v := .ref (a 1)) (C := RX5) (T := TX5) (N := 9) hx hb hts (by decide +kernel) hown hK hP 0 rfl rfl 0 (by decide) (hts (.fieldLink RX5 12 "RailOffsets" "pieces" "LRailOffsets$Pieces;") (by decide +kernel)) (fun _ h => h) rfl dX5_meets_135 ?_
            refine lv_iload_n hx hb dX5_meets_138 rfl (lv_at hl 6 rfl) ?_
            refine lv_iconst (v := 2) hx hb dX5_meets_139 rfl ?_
            refine lv_iload_n hx hb dX5_meets_140 rfl (lv_at hl 4 rfl) ?_
            refine xMdV (nL := 7) ⟨hx, hb, hml, hown, hts⟩ (c_X2_write l E a u69 p1 2 (s_X2_read u p1 2) hL) (cwV 3 hts gX5_meets_X2_write rfl rfl rfl ⟨rfl, hd_X2_write⟩ ⟨(Nat.le_of_ble_eq_true rfl), (Nat.le_of_ble_eq_true rfl)⟩) hF hS hL.2 (fun _ h => h) hP (va_recv (q := (RX2, TX2, 2)) hK hP (ci := 2) rfl (q0 := 1) rfl) rfl hl.1 rfl (Nat.le_of_ble_eq_true rfl) ⟨(Nat.le_of_ble_eq_true rfl), (Nat.le_of_ble_eq_true rfl)⟩ dX5_meets_141 (fun H locs hP _ hS => ?_)
            refine W.eq (g2 := F0 m 144 ls []) rfl ?_
            refine lv_iload hx hb dX5_meets_144 (lv_at hl 1 rfl) ?_
            have hR : s_X5_meets u p1 = (x5, s_X2_write u69 p1 2 (s_X2_read u p1 2)) := hR
            exact W.iret (v := x5) hx hb hr (fun t ht _ => by rw [hR]; dsimp only; exact ⟨⟨rfl, by rw [ht]; exact hP⟩, hS.F ht⟩) hS.2.2 dX5_meets_146
          · have hR := hR.trans (if_pos q3)
            refine lv_aload_n hx hb dX5_meets_82 rfl (lv_at hl 5 rfl) ?_
            refine lv_iload_n hx hb dX5_meets_83 rfl (lv_at hl 6 rfl) ?_
            refine lv_iload hx hb dX5_meets_84 (lv_at hl 0 rfl) ?_
            refine lv_iload_n hx hb dX5_meets_86 rfl (lv_at hl 3 rfl) ?_
            refine lv_iload hx hb dX5_meets_87 (lv_at hl 2 rfl) ?_
            refine xMdV (nL := 7) ⟨hx, hb, hml, hown, hts⟩ (c_X5_meetsBy l E a u69 p1 x6 ((s_X5_cell 8 (u.1 5) 7) - (s_X0_turnBut u p1)) ((s_X5_cell 8 (u.1 5) 6) - (s_X0_offsetBut u p1)) (xwm hI0 (j := 2) (by decide) (xok_bend hI1 q2 (by decide) (by decide)) (fun z => absurd z (by decide))) hL) (cwV 4 hts gX5_meets_X5_meetsBy rfl rfl rfl ⟨rfl, hd_X5_meetsBy⟩ ⟨(Nat.le_of_ble_eq_true rfl), (Nat.le_of_ble_eq_true rfl)⟩) hF hS hL.2 (fun _ h => h) hP (va_recv (q := (RX5, TX5, 9)) hK hP (ci := 5) rfl (q0 := 0) rfl) rfl hl.1 rfl (Nat.le_of_ble_eq_true rfl) ⟨(Nat.le_of_ble_eq_true rfl), (Nat.le_of_ble_eq_true rfl)⟩ dX5_meets_89 (fun H locs hP _ hS => ?_)
            refine W.eq (g2 := F0 m 92 ls [.int ((s_X5_meetsBy u69 p1 x6 ((s_X5_cell 8 (u.1 5) 7) - (s_X0_turnBut u p1)) ((s_X5_cell 8 (u.1 5) 6) - (s_X0_offsetBut u p1))).1)]) rfl ?_
            refine lv_if_eq (tgt := 106) hx hb dX5_meets_92 rfl (fun q4 => ?_) (fun q4 => ?_)
            · have hR := hR.trans (if_pos q4)
              refine lv_aload_n hx hb dX5_meets_106 rfl (lv_at hl 5 rfl) ?_
              refine lv_iload_n hx hb dX5_meets_107 rfl (lv_at hl 6 rfl) ?_
              refine lv_iload hx hb dX5_meets_108 (lv_at hl 0 rfl) ?_
              refine lv_ineg hx hb dX5_meets_110 ?_
              refine lv_iload_n hx hb dX5_meets_111 rfl (lv_at hl 3 rfl) ?_
              refine lv_iload hx hb dX5_meets_112 (lv_at hl 2 rfl) ?_
              refine xMdV (nL := 7) ⟨hx, hb, hml, hown, hts⟩ (c_X5_meetsBy l E a ((s_X5_meetsBy u69 p1 x6 ((s_X5_cell 8 (u.1 5) 7) - (s_X0_turnBut u p1)) ((s_X5_cell 8 (u.1 5) 6) - (s_X0_offsetBut u p1))).2) p1 (-x6) ((s_X5_cell 8 (u.1 5) 7) - (s_X0_turnBut u p1)) ((s_X5_cell 8 (u.1 5) 6) - (s_X0_offsetBut u p1)) (by rw [s_X5_meetsBy_2]; exact xwm (xwv hI0 (j := 2) (by decide) (xok_bend hI1 q2 (by decide) (by decide)) (fun z => absurd z (by decide))) (j := 2) (by decide) (xok_neg hI1 q2) (fun z => absurd z (by decide))) hL) (cwV 4 hts gX5_meets_X5_meetsBy rfl rfl rfl ⟨rfl, hd_X5_meetsBy⟩ ⟨(Nat.le_of_ble_eq_true rfl), (Nat.le_of_ble_eq_true rfl)⟩) hF hS hL.2 (fun _ h => h) hP (va_recv (q := (RX5, TX5, 9)) hK hP (ci := 5) rfl (q0 := 0) rfl) rfl hl.1 rfl (Nat.le_of_ble_eq_true rfl) ⟨(Nat.le_of_ble_eq_true rfl), (Nat.le_of_ble_eq_true rfl)⟩ dX5_meets_114 (fun H locs hP _ hS => ?_)
              refine W.eq (g2 := F0 m 117 ls [.int ((s_X5_meetsBy ((s_X5_meetsBy u69 p1 x6 ((s_X5_cell 8 (u.1 5) 7) - (s_X0_turnBut u p1)) ((s_X5_cell 8 (u.1 5) 6) - (s_X0_offsetBut u p1))).2) p1 (-x6) ((s_X5_cell 8 (u.1 5) 7) - (s_X0_turnBut u p1)) ((s_X5_cell 8 (u.1 5) 6) - (s_X0_offsetBut u p1))).1)]) rfl ?_
              refine lv_if_eq (tgt := 128) hx hb dX5_meets_117 rfl (fun q5 => ?_) (fun q5 => ?_)
              · have hR := hR.trans (if_pos q5)
                refine lv_iinc (k := 0) (v := x6 + 1) (lv' := [(6, .int (x6 + 1)), (5, .int x5), (4, .int ((s_X5_cell 8 (u.1 5) 6) - (s_X0_offsetBut u p1))), (3, .int ((s_X5_cell 8 (u.1 5) 7) - (s_X0_turnBut u p1))), (2, .int (s_X2_read u p1 2)), (0, .ref (a 0)), (1, .int p1)]) hx hb dX5_meets_128 hl rfl rfl (by decide) rfl (fun ls hl => ?_)
                refine lv_goto (tgt := 69) hx hb dX5_meets_131 rfl ?_
                exact ih69 ((s_X5_meetsBy ((s_X5_meetsBy u69 p1 x6 ((s_X5_cell 8 (u.1 5) 7) - (s_X0_turnBut u p1)) ((s_X5_cell 8 (u.1 5) 6) - (s_X0_offsetBut u p1))).2) p1 (-x6) ((s_X5_cell 8 (u.1 5) 7) - (s_X0_turnBut u p1)) ((s_X5_cell 8 (u.1 5) 6) - (s_X0_offsetBut u p1))).2) x5 (x6 + 1) _ _ _ (by first | exact (by rw [s_X5_meetsBy_2, s_X5_meetsBy_2]; exact xwv (xwv hI0 (j := 2) (by decide) (xok_bend hI1 q2 (by decide) (by decide)) (fun z => absurd z (by decide))) (j := 2) (by decide) (xok_neg hI1 q2) (fun z => absurd z (by decide))) | exact (by rw [s_X5_meetsBy_2]; exact xwv hI0 (j := 2) (by decide) (xok_bend hI1 q2 (by decide) (by decide)) (fun z => absurd z (by decide)))) (xupge hI1 q2 (by decide)) (Nat.lt_of_lt_of_le (xupl q2 (by decide)) (Nat.le_of_lt_succ hM69)) hR (lv_sub hl [0, 1, 2, 3, 4, 5, 6] rfl) hP hS
              · have hR := hR.trans (if_neg q5)
                refine lv_sipush (v := 1000) hx hb dX5_meets_120 rfl ?_
                refine lv_iload hx hb dX5_meets_123 (lv_at hl 0 rfl) ?_
                refine lv_isub hx hb dX5_meets_125 ?_
                refine lv_istore (lv' := [(5, .int (1000 - x6)), (6, .int x6), (4, .int ((s_X5_cell 8 (u.1 5) 6) - (s_X0_offsetBut u p1))), (3, .int ((s_X5_cell 8 (u.1 5) 7) - (s_X0_turnBut u p1))), (2, .int (s_X2_read u p1 2)), (0, .ref (a 0)), (1, .int p1)]) hx hb dX5_meets_126 hl (by decide) rfl (fun ls hl => ?_)
                refine lv_iinc (k := 1) (v := x6 + 1) (lv' := [(6, .int (x6 + 1)), (5, .int (1000 - x6)), (4, .int ((s_X5_cell 8 (u.1 5) 6) - (s_X0_offsetBut u p1))), (3, .int ((s_X5_cell 8 (u.1 5) 7) - (s_X0_turnBut u p1))), (2, .int (s_X2_read u p1 2)), (0, .ref (a 0)), (1, .int p1)]) hx hb dX5_meets_128 hl rfl rfl (by decide) rfl (fun ls hl => ?_)
                refine lv_goto (tgt := 69) hx hb dX5_meets_131 rfl ?_
                exact ih69 ((s_X5_meetsBy ((s_X5_meetsBy u69 p1 x6 ((s_X5_cell 8 (u.1 5) 7) - (s_X0_turnBut u p1)) ((s_X5_cell 8 (u.1 5) 6) - (s_X0_offsetBut u p1))).2) p1 (-x6) ((s_X5_cell 8 (u.1 5) 7) - (s_X0_turnBut u p1)) ((s_X5_cell 8 (u.1 5) 6) - (s_X0_offsetBut u p1))).2) (1000 - x6) (x6 + 1) _ _ _ (by first | exact (by rw [s_X5_meetsBy_2, s_X5_meetsBy_2]; exact xwv (xwv hI0 (j := 2) (by decide) (xok_bend hI1 q2 (by decide) (by decide)) (fun z => absurd z (by decide))) (j := 2) (by decide) (xok_neg hI1 q2) (fun z => absurd z (by decide))) | exact (by rw [s_X5_meetsBy_2]; exact xwv hI0 (j := 2) (by decide) (xok_bend hI1 q2 (by decide) (by decide)) (fun z => absurd z (by decide)))) (xupge hI1 q2 (by decide)) (Nat.lt_of_lt_of_le (xupl q2 (by decide)) (Nat.le_of_lt_succ hM69)) hR (lv_sub hl [0, 1, 2, 3, 4, 5, 6] rfl) hP hS
            · have hR := hR.trans (if_neg q4)
              refine lv_sipush (v := 1000) hx hb dX5_meets_95 rfl ?_
              refine lv_iload hx hb dX5_meets_98 (lv_at hl 0 rfl) ?_
              refine lv_iadd hx hb dX5_meets_100 ?_
              refine lv_istore (lv' := [(5, .int (1000 + x6)), (6, .int x6), (4, .int ((s_X5_cell 8 (u.1 5) 6) - (s_X0_offsetBut u p1))), (3, .int ((s_X5_cell 8 (u.1 5) 7) - (s_X0_turnBut u p1))), (2, .int (s_X2_read u p1 2)), (0, .ref (a 0)), (1, .int p1)]) hx hb dX5_meets_101 hl (by decide) rfl (fun ls hl => ?_)
              refine lv_goto (tgt := 128) hx hb dX5_meets_103 rfl ?_
              refine lv_iinc (k := 1) (v := x6 + 1) (lv' := [(6, .int (x6 + 1)), (5, .int (1000 + x6)), (4, .int ((s_X5_cell 8 (u.1 5) 6) - (s_X0_offsetBut u p1))), (3, .int ((s_X5_cell 8 (u.1 5) 7) - (s_X0_turnBut u p1))), (2, .int (s_X2_read u p1 2)), (0, .ref (a 0)), (1, .int p1)]) hx hb dX5_meets_128 hl rfl rfl (by decide) rfl (fun ls hl => ?_)
              refine lv_goto (tgt := 69) hx hb dX5_meets_131 rfl ?_
              exact ih69 ((s_X5_meetsBy u69 p1 x6 ((s_X5_cell 8 (u.1 5) 7) - (s_X0_turnBut u p1)) ((s_X5_cell 8 (u.1 5) 6) - (s_X0_offsetBut u p1))).2) (1000 + x6) (x6 + 1) _ _ _ (by first | exact (by rw [s_X5_meetsBy_2, s_X5_meetsBy_2]; exact xwv (xwv hI0 (j := 2) (by decide) (xok_bend hI1 q2 (by decide) (by decide)) (fun z => absurd z (by decide))) (j := 2) (by decide) (xok_neg hI1 q2) (fun z => absurd z (by decide))) | exact (by rw [s_X5_meetsBy_2]; exact xwv hI0 (j := 2) (by decide) (xok_bend hI1 q2 (by decide) (by decide)) (fun z => absurd z (by decide)))) (xupge hI1 q2 (by decide)) (Nat.lt_of_lt_of_le (xupl q2 (by decide)) (Nat.le_of_lt_succ hM69)) hR (lv_sub hl [0, 1, 2, 3, 4, 5, 6] rfl) hP hS
    exact L69 (((99 : Int32).toInt + 1 - (0 : Int32).toInt).toNat + 1) u (-1) 0 _ _ ls (hp0) (by decide) (Nat.lt_succ_self _) hR hl hP hS
  · have hR := hR.trans (if_pos q1)
    refine lv_bipush (v := (-2)) hx hb dX5_meets_11 rfl ?_
    have hR : s_X5_meets u p1 = ((-2), u) := hR
    exact W.iret (v := (-2)) hx hb hr (fun t ht _ => by rw [hR]; dsimp only; exact ⟨⟨rfl, by rw [ht]; exact hP⟩, hS.F ht⟩) hS.2.2 dX5_meets_13
def s_X5_both_L58 : Nat → xU → Int32 → Int32 → Int32 → Int32 → Int32 → Int32 → Int32 × xU
  | 0, u, _, _, _, _, _, _ => (0, u)
  | n + 1, u, x1, x2, x3, x4, x5, x6 =>
    if 30 < x6 then
      (x5, s_X2_write (s_X2_write u x1 2 x3) x2 2 x4)
    else
      if x5 = (-1) then
        if ((s_X5_firstToMeet (s_X2_write u x1 2 x6) x2).1) = (-1) then
          s_X5_both_L58 n ((s_X5_firstToMeet (s_X2_write u x1 2 x6) x2).2) x1 x2 x3 x4 x5 (x6 + 1)
        else
          s_X5_both_L58 n ((s_X5_firstToMeet (s_X2_write u x1 2 x6) x2).2) x1 x2 x3 x4 ((61 * (x6 + 30)) + ((s_X5_firstToMeet (s_X2_write u x1 2 x6) x2).1)) (x6 + 1)
      else
        (x5, s_X2_write (s_X2_write u x1 2 x3) x2 2 x4)
def s_X5_both (u : xU) (p1 : Int32) (p2 : Int32) : Int32 × xU :=
  if (s_X2_has u p1) = 0 then
    ((-2), u)
  else
    if (s_X2_has u p2) = 0 then
      ((-2), u)
    else
      if p1 = p2 then
        ((-2), u)
      else
        s_X5_both_L58 (((30 : Int32).toInt + 1 - ((-30) : Int32).toInt).toNat + 1) u p1 p2 (s_X2_read u p1 2) (s_X2_read u p2 2) (-1) (-30)
abbrev rm_X5_both : Room := { frames := 7, cells := 0, slots := 0, locals := 162 }
set_option maxHeartbeats 8000000 in
set_option maxRecDepth 100000 in
theorem c_X5_both (l : Launch) (E : xG) (a : Nat → Nat) (u : xU) (p1 : Int32) (p2 : Int32) (hp0 : XV (u.1 2) (u.2 1)) (hL : xOK E (LX a)) : xMd l E yX5_both wsX5_both rm_X5_both (LX a) [.ref (a 0), .int p1, .int p2] (wX E a u) (some (.int ((s_X5_both u p1 p2).1))) (wX E a ((s_X5_both u p1 p2).2)) := by
  refine xMd.of (cc := cX5_both) (maxL := 8) (ret := (some .int)) (by decide) rfl (Nat.le_of_ble_eq_true rfl) ?_
  intro p e s m below meth c ls hAt hF hP hS hl
  obtain ⟨hx, hb, hr, hml, hown, hts, hlocks, -⟩ := hAt
  have hown : s.vm.findClass RX5 = some m.cls := hown
  have hl : lv_has ls 8 [(0, .ref (a 0)), (1, .int p1), (2, .int p2)] := hl
  have hK := hF.1
  have hA := hL.2
  change W p l e rm_X5_both s m ([.ref (a 0), .int p1, .int p2] : List Value).toArray below meth c s.heap [] 0 0 (xQmd E below (LX a) (some (.int ((s_X5_both u p1 p2).1))) (wX E a ((s_X5_both u p1 p2).2)) ([.ref (a 0), .int p1, .int p2] : List Value).toArray s) _
  have hS : va_S (· ∈ LX a) s.heap s.heap [] := hS
  have hR : s_X5_both u p1 p2 = s_X5_both u p1 p2 := rfl
  refine lv_aload_n hx hb dX5_both_0 rfl (lv_at hl 0 rfl) ?_
  refine va_get (D := xD E) (ci := 5) (v := .ref (a 1)) (C := RX5) (T := TX5) (N := 9) hx hb hts (by decide +kernel) hown hK hP 0 rfl rfl 0 (by decide) (hts (.fieldLink RX5 12 "RailOffsets" "pieces" "LRailOffsets$Pieces;") (by decide +kernel)) (fun _ h => h) rfl dX5_both_1 ?_
  refine lv_iload_n hx hb dX5_both_4 rfl (lv_at hl 1 rfl) ?_
  refine xRoV (nL := 8) ⟨hx, hb, hml, hown, hts⟩ (c_X2_has l E a u p1) (cwV 1 hts gX5_both_X2_has rfl rfl rfl ⟨rfl, hd_X2_has⟩ ⟨(Nat.le_of_ble_eq_true rfl), (Nat.le_of_ble_eq_true rfl)⟩) hF hS hA hP (va_recv (q := (RX2, TX2, 2)) hK hP (ci := 2) rfl (q0 := 1) rfl) rfl hl.1 rfl (Nat.le_of_ble_eq_true rfl) ⟨(Nat.le_of_ble_eq_true rfl), (Nat.le_of_ble_eq_true rfl)⟩ dX5_both_5 ?_
  refine W.eq (g2 := F0 m 8 ls [.int (s_X2_has u p1)]) rfl ?_
  refine lv_if_eq (tgt := 27) hx hb dX5_both_8 rfl (fun q1 => ?_) (fun q1 => ?_)
  · have hR := hR.trans (if_pos q1)
    refine lv_bipush (v := (-2)) hx hb dX5_both_27 rfl ?_
    have hR : s_X5_both u p1 p2 = ((-2), u) := hR
    exact W.iret (v := (-2)) hx hb hr (fun t ht _ => by rw [hR]; dsimp only; exact ⟨⟨rfl, by rw [ht]; exact hP⟩, hS.F ht⟩) hS.2.2 dX5_both_29
  · have hR := hR.trans (if_neg q1)
    refine lv_aload_n hx hb dX5_both_11 rfl (lv_at hl 0 rfl) ?_
    refine va_get (D := xD E) (ci := 5) (v := .ref (a 1)) (C := RX5) (T := TX5) (N := 9) hx hb hts (by decide +kernel) hown hK hP 0 rfl rfl 0 (by decide) (hts (.fieldLink RX5 12 "RailOffsets" "pieces" "LRailOffsets$Pieces;") (by decide +kernel)) (fun _ h => h) rfl dX5_both_12 ?_
    refine lv_iload_n hx hb dX5_both_15 rfl (lv_at hl 2 rfl) ?_
    refine xRoV (nL := 8) ⟨hx, hb, hml, hown, hts⟩ (c_X2_has l E a u p2) (cwV 1 hts gX5_both_X2_has rfl rfl rfl ⟨rfl, hd_X2_has⟩ ⟨(Nat.le_of_ble_eq_true rfl), (Nat.le_of_ble_eq_true rfl)⟩) hF hS hA hP (va_recv (q := (RX2, TX2, 2)) hK hP (ci := 2) rfl (q0 := 1) rfl) rfl hl.1 rfl (Nat.le_of_ble_eq_true rfl) ⟨(Nat.le_of_ble_eq_true rfl), (Nat.le_of_ble_eq_true rfl)⟩ dX5_both_16 ?_
    refine W.eq (g2 := F0 m 19 ls [.int (s_X2_has u p2)]) rfl ?_
    refine lv_if_eq (tgt := 27) hx hb dX5_both_19 rfl (fun q2 => ?_) (fun q2 => ?_)
    · have hR := hR.trans (if_pos q2)
      refine lv_bipush (v := (-2)) hx hb dX5_both_27 rfl ?_
      have hR : s_X5_both u p1 p2 = ((-2), u) := hR
      exact W.iret (v := (-2)) hx hb hr (fun t ht _ => by rw [hR]; dsimp only; exact ⟨⟨rfl, by rw [ht]; exact hP⟩, hS.F ht⟩) hS.2.2 dX5_both_29
    · have hR := hR.trans (if_neg q2)
      refine lv_iload_n hx hb dX5_both_22 rfl (lv_at hl 1 rfl) ?_
      refine lv_iload_n hx hb dX5_both_23 rfl (lv_at hl 2 rfl) ?_
      refine lv_icmp_ne (tgt := 30) hx hb dX5_both_24 rfl (fun q3 => ?_) (fun q3 => ?_)
      · have hR := hR.trans (if_neg q3)
        refine lv_aload_n hx hb dX5_both_30 rfl (lv_at hl 0 rfl) ?_
        refine va_get (D := xD E) (ci := 5) (v := .ref (a 1)) (C := RX5) (T := TX5) (N := 9) hx hb hts (by decide +kernel) hown hK hP 0 rfl rfl 0 (by decide) (hts (.fieldLink RX5 12 "RailOffsets" "pieces" "LRailOffsets$Pieces;") (by decide +kernel)) (fun _ h => h) rfl dX5_both_31 ?_
        refine lv_iload_n hx hb dX5_both_34 rfl (lv_at hl 1 rfl) ?_
        refine lv_iconst (v := 2) hx hb dX5_both_35 rfl ?_
        refine xRoV (nL := 8) ⟨hx, hb, hml, hown, hts⟩ (c_X2_read l E a u p1 2) (cwV 2 hts gX5_both_X2_read rfl rfl rfl ⟨rfl, hd_X2_read⟩ ⟨(Nat.le_of_ble_eq_true rfl), (Nat.le_of_ble_eq_true rfl)⟩) hF hS hA hP (va_recv (q := (RX2, TX2, 2)) hK hP (ci := 2) rfl (q0 := 1) rfl) rfl hl.1 rfl (Nat.le_of_ble_eq_true rfl) ⟨(Nat.le_of_ble_eq_true rfl), (Nat.le_of_ble_eq_true rfl)⟩ dX5_both_36 ?_
        refine W.eq (g2 := F0 m 39 ls [.int (s_X2_read u p1 2)]) rfl ?_
        refine lv_istore_n (lv' := [(3, .int (s_X2_read u p1 2)), (0, .ref (a 0)), (1, .int p1), (2, .int p2)]) hx hb dX5_both_39 rfl hl (by decide) rfl (fun ls hl => ?_)
        refine lv_aload_n hx hb dX5_both_40 rfl (lv_at hl 1 rfl) ?_
        refine va_get (D := xD E) (ci := 5) (v := .ref (a 1)) (C := RX5) (T := TX5) (N := 9) hx hb hts (by decide +kernel) hown hK hP 0 rfl rfl 0 (by decide) (hts (.fieldLink RX5 12 "RailOffsets" "pieces" "LRailOffsets$Pieces;") (by decide +kernel)) (fun _ h => h) rfl dX5_both_41 ?_
        refine lv_iload_n hx hb dX5_both_44 rfl (lv_at hl 3 rfl) ?_
        refine lv_iconst (v := 2) hx hb dX5_both_45 rfl ?_
        refine xRoV (nL := 8) ⟨hx, hb, hml, hown, hts⟩ (c_X2_read l E a u p2 2) (cwV 2 hts gX5_both_X2_read rfl rfl rfl ⟨rfl, hd_X2_read⟩ ⟨(Nat.le_of_ble_eq_true rfl), (Nat.le_of_ble_eq_true rfl)⟩) hF hS hA hP (va_recv (q := (RX2, TX2, 2)) hK hP (ci := 2) rfl (q0 := 1) rfl) rfl hl.1 rfl (Nat.le_of_ble_eq_true rfl) ⟨(Nat.le_of_ble_eq_true rfl), (Nat.le_of_ble_eq_true rfl)⟩ dX5_both_46 ?_
        refine W.eq (g2 := F0 m 49 ls [.int (s_X2_read u p2 2)]) rfl ?_
        refine lv_istore (lv' := [(4, .int (s_X2_read u p2 2)), (3, .int (s_X2_read u p1 2)), (0, .ref (a 0)), (1, .int p1), (2, .int p2)]) hx hb dX5_both_49 hl (by decide) rfl (fun ls hl => ?_)
        refine lv_iconst (v := (-1)) hx hb dX5_both_51 rfl ?_
        refine lv_istore (lv' := [(5, .int (-1)), (4, .int (s_X2_read u p2 2)), (3, .int (s_X2_read u p1 2)), (0, .ref (a 0)), (1, .int p1), (2, .int p2)]) hx hb dX5_both_52 hl (by decide) rfl (fun ls hl => ?_)
        refine lv_bipush (v := (-30)) hx hb dX5_both_54 rfl ?_
        refine lv_istore (lv' := [(6, .int (-30)), (5, .int (-1)), (4, .int (s_X2_read u p2 2)), (3, .int (s_X2_read u p1 2)), (0, .ref (a 0)), (1, .int p1), (2, .int p2)]) hx hb dX5_both_56 hl (by decide) rfl (fun ls hl => ?_)
        have L58 : ∀ (n58 : Nat) (u58 : xU) (x5 : Int32) (x6 : Int32) (H : Heap) (locs : List Loc) (ls : Array Slot), (XV (u58.1 2) (u58.2 1)) → (¬ x6 < (-30)) → ((30 : Int32).toInt + 1 - x6.toInt).toNat < n58 → s_X5_both u p1 p2 = s_X5_both_L58 n58 u58 p1 p2 (s_X2_read u p1 2) (s_X2_read u p2 2) x5 x6 → lv_has ls 8 [(6, .int x6), (5, .int x5), (4, .int (s_X2_read u p2 2)), (3, .int (s_X2_read u p1 2)), (0, .ref (a 0)), (1, .int p1), (2, .int p2)] → va_P (xD E) vwCl (wX E a u58) H → va_S (· ∈ LX a) s.heap H locs → W p l e rm_X5_both s m ([.ref (a 0), .int p1, .int p2] : List Value).toArray below meth c H locs 0 0 (xQmd E below (LX a) (some (.int ((s_X5_both u p1 p2).1))) (wX E a ((s_X5_both u p1 p2).2)) ([.ref (a 0), .int p1, .int p2] : List Value).toArray s) (F0 m 58 ls []) := by
          intro n58
          induction n58 with
          | zero => intro u58 x5 x6 H locs ls hI0 hI1 hM58 hR hl hP hS; exact absurd hM58 (Nat.not_lt_zero _)
          | succ n58 ih58 =>
            intro u58 x5 x6 H locs ls hI0 hI1 hM58 hR hl hP hS
            refine lv_iload hx hb dX5_both_58 (lv_at hl 0 rfl) ?_
            refine lv_bipush (v := 30) hx hb dX5_both_60 rfl ?_
            refine lv_icmp_gt (tgt := 114) hx hb dX5_both_62 rfl (fun q4 => ?_) (fun q4 => ?_)
            · have hR := hR.trans (if_pos q4)
              refine lv_aload_n hx hb dX5_both_114 rfl (lv_at hl 4 rfl) ?_
              refine va_get (D := xD E) (ci := 5) (v := .ref (a 1)) (C := RX5) (T := TX5) (N := 9) hx hb hts (by decide +kernel) hown hK hP 0 rfl rfl 0 (by decide) (hts (.fieldLink RX5 12 "RailOffsets" "pieces" "LRailOffsets$Pieces;") (by decide +kernel)) (fun _ h => h) rfl dX5_both_115 ?_
              refine lv_iload_n hx hb dX5_both_118 rfl (lv_at hl 5 rfl) ?_
              refine lv_iconst (v := 2) hx hb dX5_both_119 rfl ?_
              refine lv_iload_n hx hb dX5_both_120 rfl (lv_at hl 3 rfl) ?_
              refine xMdV (nL := 8) ⟨hx, hb, hml, hown, hts⟩ (c_X2_write l E a u58 p1 2 (s_X2_read u p1 2) hL) (cwV 3 hts gX5_both_X2_write rfl rfl rfl ⟨rfl, hd_X2_write⟩ ⟨(Nat.le_of_ble_eq_true rfl), (Nat.le_of_ble_eq_true rfl)⟩) hF hS hL.2 (fun _ h => h) hP (va_recv (q := (RX2, TX2, 2)) hK hP (ci := 2) rfl (q0 := 1) rfl) rfl hl.1 rfl (Nat.le_of_ble_eq_true rfl) ⟨(Nat.le_of_ble_eq_true rfl), (Nat.le_of_ble_eq_true rfl)⟩ dX5_both_121 (fun H locs hP _ hS => ?_)
              refine W.eq (g2 := F0 m 124 ls []) rfl ?_
              refine lv_aload_n hx hb dX5_both_124 rfl (lv_at hl 4 rfl) ?_
              refine va_get (D := xD E) (ci := 5) (v := .ref (a 1)) (C := RX5) (T := TX5) (N := 9) hx hb hts (by decide +kernel) hown hK hP 0 rfl rfl 0 (by decide) (hts (.fieldLink RX5 12 "RailOffsets" "pieces" "LRailOffsets$Pieces;") (by decide +kernel)) (fun _ h => h) rfl dX5_both_125 ?_
              refine lv_iload_n hx hb dX5_both_128 rfl (lv_at hl 6 rfl) ?_
              refine lv_iconst (v := 2) hx hb dX5_both_129 rfl ?_
              refine lv_iload hx hb dX5_both_130 (lv_at hl 2 rfl) ?_
              refine xMdV (nL := 8) ⟨hx, hb, hml, hown, hts⟩ (c_X2_write l E a (s_X2_write u58 p1 2 (s_X2_read u p1 2)) p2 2 (s_X2_read u p2 2) hL) (cwV 3 hts gX5_both_X2_write rfl rfl rfl ⟨rfl, hd_X2_write⟩ ⟨(Nat.le_of_ble_eq_true rfl), (Nat.le_of_ble_eq_true rfl)⟩) hF hS hL.2 (fun _ h => h) hP (va_recv (q := (RX2, TX2, 2)) hK hP (ci := 2) rfl (q0 := 1) rfl) rfl hl.1 rfl (Nat.le_of_ble_eq_true rfl) ⟨(Nat.le_of_ble_eq_true rfl), (Nat.le_of_ble_eq_true rfl)⟩ dX5_both_132 (fun H locs hP _ hS => ?_)
              refine W.eq (g2 := F0 m 135 ls []) rfl ?_
              refine lv_iload hx hb dX5_both_135 (lv_at hl 1 rfl) ?_
              have hR : s_X5_both u p1 p2 = (x5, s_X2_write (s_X2_write u58 p1 2 (s_X2_read u p1 2)) p2 2 (s_X2_read u p2 2)) := hR
              exact W.iret (v := x5) hx hb hr (fun t ht _ => by rw [hR]; dsimp only; exact ⟨⟨rfl, by rw [ht]; exact hP⟩, hS.F ht⟩) hS.2.2 dX5_both_137
            · have hR := hR.trans (if_neg q4)
              refine lv_iload hx hb dX5_both_65 (lv_at hl 1 rfl) ?_
              refine lv_iconst (v := (-1)) hx hb dX5_both_67 rfl ?_
              refine lv_icmp_ne (tgt := 114) hx hb dX5_both_68 rfl (fun q5 => ?_) (fun q5 => ?_)
              · have hR := hR.trans (if_neg q5)
                refine lv_aload_n hx hb dX5_both_114 rfl (lv_at hl 4 rfl) ?_
                refine va_get (D := xD E) (ci := 5) (v := .ref (a 1)) (C := RX5) (T := TX5) (N := 9) hx hb hts (by decide +kernel) hown hK hP 0 rfl rfl 0 (by decide) (hts (.fieldLink RX5 12 "RailOffsets" "pieces" "LRailOffsets$Pieces;") (by decide +kernel)) (fun _ h => h) rfl dX5_both_115 ?_
                refine lv_iload_n hx hb dX5_both_118 rfl (lv_at hl 5 rfl) ?_
                refine lv_iconst (v := 2) hx hb dX5_both_119 rfl ?_
                refine lv_iload_n hx hb dX5_both_120 rfl (lv_at hl 3 rfl) ?_
                refine xMdV (nL := 8) ⟨hx, hb, hml, hown, hts⟩ (c_X2_write l E a u58 p1 2 (s_X2_read u p1 2) hL) (cwV 3 hts gX5_both_X2_write rfl rfl rfl ⟨rfl, hd_X2_write⟩ ⟨(Nat.le_of_ble_eq_true rfl), (Nat.le_of_ble_eq_true rfl)⟩) hF hS hL.2 (fun _ h => h) hP (va_recv (q := (RX2, TX2, 2)) hK hP (ci := 2) rfl (q0 := 1) rfl) rfl hl.1 rfl (Nat.le_of_ble_eq_true rfl) ⟨(Nat.le_of_ble_eq_true rfl), (Nat.le_of_ble_eq_true rfl)⟩ dX5_both_121 (fun H locs hP _ hS => ?_)
                refine W.eq (g2 := F0 m 124 ls []) rfl ?_
                refine lv_aload_n hx hb dX5_both_124 rfl (lv_at hl 4 rfl) ?_
                refine va_get (D := xD E) (ci := 5) (v := .ref (a 1)) (C := RX5) (T := TX5) (N := 9) hx hb hts (by decide +kernel) hown hK hP 0 rfl rfl 0 (by decide) (hts (.fieldLink RX5 12 "RailOffsets" "pieces" "LRailOffsets$Pieces;") (by decide +kernel)) (fun _ h => h) rfl dX5_both_125 ?_
                refine lv_iload_n hx hb dX5_both_128 rfl (lv_at hl 6 rfl) ?_
                refine lv_iconst (v := 2) hx hb dX5_both_129 rfl ?_
                refine lv_iload hx hb dX5_both_130 (lv_at hl 2 rfl) ?_
                refine xMdV (nL := 8) ⟨hx, hb, hml, hown, hts⟩ (c_X2_write l E a (s_X2_write u58 p1 2 (s_X2_read u p1 2)) p2 2 (s_X2_read u p2 2) hL) (cwV 3 hts gX5_both_X2_write rfl rfl rfl ⟨rfl, hd_X2_write⟩ ⟨(Nat.le_of_ble_eq_true rfl), (Nat.le_of_ble_eq_true rfl)⟩) hF hS hL.2 (fun _ h => h) hP (va_recv (q := (RX2, TX2, 2)) hK hP (ci := 2) rfl (q0 := 1) rfl) rfl hl.1 rfl (Nat.le_of_ble_eq_true rfl) ⟨(Nat.le_of_ble_eq_true rfl), (Nat.le_of_ble_eq_true rfl)⟩ dX5_both_132 (fun H locs hP _ hS => ?_)
                refine W.eq (g2 := F0 m 135 ls []) rfl ?_
                refine lv_iload hx hb dX5_both_135 (lv_at hl 1 rfl) ?_
                have hR : s_X5_both u p1 p2 = (x5, s_X2_write (s_X2_write u58 p1 2 (s_X2_read u p1 2)) p2 2 (s_X2_read u p2 2)) := hR
                exact W.iret (v := x5) hx hb hr (fun t ht _ => by rw [hR]; dsimp only; exact ⟨⟨rfl, by rw [ht]; exact hP⟩, hS.F ht⟩) hS.2.2 dX5_both_137
              · have hR := hR.trans (if_pos q5)
                refine lv_aload_n hx hb dX5_both_71 rfl (lv_at hl 4 rfl) ?_
                refine va_get (D := xD E) (ci := 5) (v := .ref (a 1)) (C := RX5) (T := TX5) (N := 9) hx hb hts (by decide +kernel) hown hK hP 0 rfl rfl 0 (by decide) (hts (.fieldLink RX5 12 "RailOffsets" "pieces" "LRailOffsets$Pieces;") (by decide +kernel)) (fun _ h => h) rfl dX5_both_72 ?_
                refine lv_iload_n hx hb dX5_both_75 rfl (lv_at hl 5 rfl) ?_
                refine lv_iconst (v := 2) hx hb dX5_both_76 rfl ?_
                refine lv_iload hx hb dX5_both_77 (lv_at hl 0 rfl) ?_
                refine xMdV (nL := 8) ⟨hx, hb, hml, hown, hts⟩ (c_X2_write l E a u58 p1 2 x6 hL) (cwV 3 hts gX5_both_X2_write rfl rfl rfl ⟨rfl, hd_X2_write⟩ ⟨(Nat.le_of_ble_eq_true rfl), (Nat.le_of_ble_eq_true rfl)⟩) hF hS hL.2 (fun _ h => h) hP (va_recv (q := (RX2, TX2, 2)) hK hP (ci := 2) rfl (q0 := 1) rfl) rfl hl.1 rfl (Nat.le_of_ble_eq_true rfl) ⟨(Nat.le_of_ble_eq_true rfl), (Nat.le_of_ble_eq_true rfl)⟩ dX5_both_79 (fun H locs hP _ hS => ?_)
                refine W.eq (g2 := F0 m 82 ls []) rfl ?_
                refine lv_aload_n hx hb dX5_both_82 rfl (lv_at hl 4 rfl) ?_
                refine lv_iload_n hx hb dX5_both_83 rfl (lv_at hl 6 rfl) ?_
                refine xMdV (nL := 8) ⟨hx, hb, hml, hown, hts⟩ (c_X5_firstToMeet l E a (s_X2_write u58 p1 2 x6) p2 (xwv (u := u58) (p := p1) (x := x6) hI0 (j := 2) (by decide) (xok_bend hI1 q4 (by decide) (by decide)) (fun z => absurd z (by decide))) hL) (cwV 1 hts gX5_both_X5_firstToMeet rfl rfl rfl ⟨rfl, hd_X5_firstToMeet⟩ ⟨(Nat.le_of_ble_eq_true rfl), (Nat.le_of_ble_eq_true rfl)⟩) hF hS hL.2 (fun _ h => h) hP (va_recv (q := (RX5, TX5, 9)) hK hP (ci := 5) rfl (q0 := 0) rfl) rfl hl.1 rfl (Nat.le_of_ble_eq_true rfl) ⟨(Nat.le_of_ble_eq_true rfl), (Nat.le_of_ble_eq_true rfl)⟩ dX5_both_84 (fun H locs hP _ hS => ?_)
                refine W.eq (g2 := F0 m 87 ls [.int ((s_X5_firstToMeet (s_X2_write u58 p1 2 x6) p2).1)]) rfl ?_
                refine lv_istore (lv' := [(7, .int ((s_X5_firstToMeet (s_X2_write u58 p1 2 x6) p2).1)), (6, .int x6), (5, .int x5), (4, .int (s_X2_read u p2 2)), (3, .int (s_X2_read u p1 2)), (0, .ref (a 0)), (1, .int p1), (2, .int p2)]) hx hb dX5_both_87 hl (by decide) rfl (fun ls hl => ?_)
                refine lv_iload hx hb dX5_both_89 (lv_at hl 0 rfl) ?_
                refine lv_iconst (v := (-1)) hx hb dX5_both_91 rfl ?_
                refine lv_icmp_eq (tgt := 108) hx hb dX5_both_92 rfl (fun q6 => ?_) (fun q6 => ?_)
                · have hR := hR.trans (if_pos q6)
                  refine lv_iinc (k := 1) (v := x6 + 1) (lv' := [(6, .int (x6 + 1)), (7, .int ((s_X5_firstToMeet (s_X2_write u58 p1 2 x6) p2).1)), (5, .int x5), (4, .int (s_X2_read u p2 2)), (3, .int (s_X2_read u p1 2)), (0, .ref (a 0)), (1, .int p1), (2, .int p2)]) hx hb dX5_both_108 hl rfl rfl (by decide) rfl (fun ls hl => ?_)
                  refine lv_goto (tgt := 58) hx hb dX5_both_111 rfl ?_
                  exact ih58 ((s_X5_firstToMeet (s_X2_write u58 p1 2 x6) p2).2) x5 (x6 + 1) _ _ _ (xftm (u := s_X2_write u58 p1 2 x6) (xwv (u := u58) (p := p1) (x := x6) hI0 (j := 2) (by decide) (xok_bend hI1 q4 (by decide) (by decide)) (fun z => absurd z (by decide))) p2) (xupge hI1 q4 (by decide)) (Nat.lt_of_lt_of_le (xupl q4 (by decide)) (Nat.le_of_lt_succ hM58)) hR (lv_sub hl [0, 2, 3, 4, 5, 6, 7] rfl) hP hS
                · have hR := hR.trans (if_neg q6)
                  refine lv_bipush (v := 61) hx hb dX5_both_95 rfl ?_
                  refine lv_iload hx hb dX5_both_97 (lv_at hl 1 rfl) ?_
                  refine lv_bipush (v := 30) hx hb dX5_both_99 rfl ?_
                  refine lv_iadd hx hb dX5_both_101 ?_
                  refine lv_imul hx hb dX5_both_102 ?_
                  refine lv_iload hx hb dX5_both_103 (lv_at hl 0 rfl) ?_
                  refine lv_iadd hx hb dX5_both_105 ?_
                  refine lv_istore (lv' := [(5, .int ((61 * (x6 + 30)) + ((s_X5_firstToMeet (s_X2_write u58 p1 2 x6) p2).1))), (7, .int ((s_X5_firstToMeet (s_X2_write u58 p1 2 x6) p2).1)), (6, .int x6), (4, .int (s_X2_read u p2 2)), (3, .int (s_X2_read u p1 2)), (0, .ref (a 0)), (1, .int p1), (2, .int p2)]) hx hb dX5_both_106 hl (by decide) rfl (fun ls hl => ?_)
                  refine lv_iinc (k := 2) (v := x6 + 1) (lv' := [(6, .int (x6 + 1)), (5, .int ((61 * (x6 + 30)) + ((s_X5_firstToMeet (s_X2_write u58 p1 2 x6) p2).1))), (7, .int ((s_X5_firstToMeet (s_X2_write u58 p1 2 x6) p2).1)), (4, .int (s_X2_read u p2 2)), (3, .int (s_X2_read u p1 2)), (0, .ref (a 0)), (1, .int p1), (2, .int p2)]) hx hb dX5_both_108 hl rfl rfl (by decide) rfl (fun ls hl => ?_)
                  refine lv_goto (tgt := 58) hx hb dX5_both_111 rfl ?_
                  exact ih58 ((s_X5_firstToMeet (s_X2_write u58 p1 2 x6) p2).2) ((61 * (x6 + 30)) + ((s_X5_firstToMeet (s_X2_write u58 p1 2 x6) p2).1)) (x6 + 1) _ _ _ (xftm (u := s_X2_write u58 p1 2 x6) (xwv (u := u58) (p := p1) (x := x6) hI0 (j := 2) (by decide) (xok_bend hI1 q4 (by decide) (by decide)) (fun z => absurd z (by decide))) p2) (xupge hI1 q4 (by decide)) (Nat.lt_of_lt_of_le (xupl q4 (by decide)) (Nat.le_of_lt_succ hM58)) hR (lv_sub hl [0, 1, 3, 4, 5, 6, 7] rfl) hP hS
        exact L58 (((30 : Int32).toInt + 1 - ((-30) : Int32).toInt).toNat + 1) u (-1) (-30) _ _ ls (hp0) (by decide) (Nat.lt_succ_self _) hR hl hP hS
      · have hR := hR.trans (if_pos q3)
        refine lv_bipush (v := (-2)) hx hb dX5_both_27 rfl ?_
        have hR : s_X5_both u p1 p2 = ((-2), u) := hR
        exact W.iret (v := (-2)) hx hb hr (fun t ht _ => by rw [hR]; dsimp only; exact ⟨⟨rfl, by rw [ht]; exact hP⟩, hS.F ht⟩) hS.2.2 dX5_both_29
