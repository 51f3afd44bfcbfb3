/-! ===== the pieces' numbers are in their ranges ===== -/
def okf (j : Nat) (x : Int32) : Prop := (match j with
  | 0 => 0 ≤ x.toInt ∧ x.toInt ≤ 5
  | 1 => 0 ≤ x.toInt ∧ x.toInt ≤ 20
  | 2 => -99 ≤ x.toInt ∧ x.toInt ≤ 99
  | _ => 0 ≤ x.toInt ∧ x.toInt ≤ 160)
def XV0 (v : Nat → Int32) : Prop := ∀ p j : Nat, p < 10 → j < 4 → okf j (v (4 * p + j))
def XV (v : Nat → Int32) (N : Int32) : Prop := ∃ n : Nat, n ≤ 10 ∧ N = nI n ∧ XV0 v ∧ ∀ p, p < n → 1 ≤ (v (4 * p + 1)).toInt
theorem okf_lt {j : Nat} {x : Int32} (h : okf j x) : x.toInt < 2147483647 := by
  unfold okf at h
  split at h <;> omega
theorem XV0.xm {v : Nat → Int32} (h : XV0 v) : ∀ i, i < 40 → (v i).toInt < 2147483647 := by
  intro i hi
  have h1 := h (i / 4) (i % 4) (by omega) (by omega)
  rw [show 4 * (i / 4) + i % 4 = i by omega] at h1
  exact okf_lt h1
theorem XV.xm {v : Nat → Int32} {N : Int32} (h : XV v N) : ∀ i, i < 40 → (v i).toInt < 2147483647 := by
  obtain ⟨n, h1, h2, h3, h4⟩ := h
  exact h3.xm
theorem XV0.upd {v : Nat → Int32} (h : XV0 v) {q j : Nat} (hj : j < 4) {x : Int32} (hx : okf j x) : XV0 (upd v (4 * q + j) x) := by
  intro p i hp hi
  by_cases e : 4 * p + i = 4 * q + j
  · have e1 : i = j := by omega
    subst e1
    rw [e, pk_us]
    exact hx
  · rw [pk_un e]
    exact h p i hp hi
/-! ===== what fill leaves ===== -/
theorem xfillL (n : Nat) : ∀ (u : xU) (x1 x2 x3 x4 x5 x6 x7 x8 x9 : Int32), (s_X0_fill_L87 n u x1 x2 x3 x4 x5 x6 x7 x8 x9).2 = u.2 ∧ ∀ k, k ≠ 9 → k ≠ 10 → k ≠ 11 → (s_X0_fill_L87 n u x1 x2 x3 x4 x5 x6 x7 x8 x9).1 k = u.1 k := by
  induction n with
  | zero => intros; exact ⟨rfl, fun _ _ _ _ => rfl⟩
  | succ n ih =>
    intro u x1 x2 x3 x4 x5 x6 x7 x8 x9
    rw [s_X0_fill_L87]
    split
    · exact ⟨rfl, fun _ _ _ _ => rfl⟩
    · refine ⟨(ih _ _ _ _ _ _ _ _ _ _).1.trans rfl, fun k h1 h2 h3 => ((ih _ _ _ _ _ _ _ _ _ _).2 k h1 h2 h3).trans ?_⟩
      simp only [uR]
      rw [if_neg h3, if_neg h2, if_neg h1]
theorem xfill (u : xU) (p : Int32) : (s_X0_fill u p).2 = u.2 ∧ ∀ k, k ≠ 9 → k ≠ 10 → k ≠ 11 → (s_X0_fill u p).1 k = u.1 k := by
  unfold s_X0_fill
  split
  · exact ⟨rfl, fun _ _ _ _ => rfl⟩
  · split <;> exact xfillL _ _ _ _ _ _ _ _ _ _ _
theorem s_X0_fill_2 (u : xU) (p : Int32) : (s_X0_fill u p).2 = u.2 := (xfill u p).1
theorem s_X0_fill_1 (u : xU) (p : Int32) : (s_X0_fill u p).1 2 = u.1 2 := (xfill u p).2 2 (by decide) (by decide) (by decide)
theorem s_X2_read_eq {u w : xU} (h1 : w.1 2 = u.1 2) (h2 : w.2 1 = u.2 1) (p f : Int32) : s_X2_read w p f = s_X2_read u p f := by
  unfold s_X2_read
  rw [h1, h2]
theorem xfr (u : xU) (q p f : Int32) : s_X2_read (s_X0_fill u q) p f = s_X2_read u p f := s_X2_read_eq (s_X0_fill_1 u q) (by rw [s_X0_fill_2]) p f
/-! ===== lay's first loop ===== -/
def XI (laid piece : Int32) : Prop := 0 ≤ piece.toInt ∧ piece.toInt ≤ 10 ∧ 0 ≤ laid.toInt ∧ laid.toInt ≤ 20 * piece.toInt
theorem xi0 : XI 0 0 := by unfold XI; decide
theorem xi2 {a b : Int32} (h : XI a b) : a.toInt < 2147483647 := by
  obtain ⟨h1, h2, h3, h4⟩ := h
  omega
theorem nI_of_toInt {x : Int32} (h : 0 ≤ x.toInt) : ∃ j : Nat, j < 2 ^ 31 ∧ x = nI j := nI_of (x := x) (by rw [fa_lt, show (0 : Int32).toInt = 0 from rfl]; omega)
theorem s_X5_cell_in {n : Nat} {f : Nat → Int32} (hn : n < 2 ^ 31) {j : Nat} (hj : j < n) : s_X5_cell n f (nI j) = f j := by
  unfold s_X5_cell
  rw [if_neg (nI_pos (by omega)), if_neg (nI_ge hj hn), nI_clamp (by omega)]
theorem s_X5_mark_in {n : Nat} {f : Nat → Int32} (hn : n < 2 ^ 31) {j : Nat} (hj : j < n) (v : Int32) : s_X5_mark n f (nI j) v = upd f j v := by
  unfold s_X5_mark
  rw [if_neg (nI_pos (by omega)), if_neg (nI_ge hj hn), nI_clamp (by omega)]
theorem xix {p j : Nat} : nI p * 4 + nI j = nI (4 * p + j) := by
  rw [show (4 : Int32) = nI 4 from rfl, pk_mul, nI_add, Nat.mul_comm]
/-- a piece's number that is there -/
theorem s_X2_read_in {u : xU} {n p j : Nat} (hn : n ≤ 10) (hN : u.2 1 = nI n) (hp : p < n) (hj : j < 4) : s_X2_read u (nI p) (nI j) = u.1 2 (4 * p + j) := by
  unfold s_X2_read
  rw [if_neg (nI_pos (by omega)), hN, if_pos (nI_lt hp (by omega)), xix, s_X5_cell_in (by decide) (by omega)]
theorem xi1 {u : xU} {a b : Int32} (h : XV (u.1 2) (u.2 1)) (hI : XI a b) (hb : ¬ u.2 1 ≤ b) : XI (a + s_X2_read u b 1) (b + 1) := by
  obtain ⟨n, h1, h2, h3, h4⟩ := h
  obtain ⟨i1, i2, i3, i4⟩ := hI
  obtain ⟨p, hp, rfl⟩ := nI_of_toInt i1
  rw [h2] at hb
  have hpn : p < n := Nat.lt_of_not_le (fun z => hb (nI_le z hp))
  have e := s_X2_read_in (j := 1) h1 h2 hpn (by decide)
  rw [show nI 1 = 1 from rfl] at e
  rw [e]
  have ok : okf 1 (u.1 2 (4 * p + 1)) := h3 p 1 (by omega) (by decide)
  have ok : 0 ≤ (u.1 2 (4 * p + 1)).toInt ∧ (u.1 2 (4 * p + 1)).toInt ≤ 20 := ok
  rw [nI_toInt hp] at i2 i4
  have s1 : (a + u.1 2 (4 * p + 1)).toInt = a.toInt + (u.1 2 (4 * p + 1)).toInt := fb_addI (by omega) (by omega)
  have s2 : (nI p + 1).toInt = (p : Int) + 1 := by
    rw [nI_1, nI_toInt (by omega)]
    rfl
  unfold XI
  rw [s1, s2]
  omega
def s_X0_lay_L56 : Nat → xU → Int32 → Int32 → xU
  | 0, u, _, _ => u
  | n + 1, u, x1, x2 =>
    if (u.2 3) < x2 then
      u
    else
      s_X0_lay_L56 n (uR (uR u 12 (s_X5_mark 201 (u.1 12) x2 ((s_X5_cell 201 (u.1 12) (x2 - 1)) + (s_X5_cell 201 (u.1 10) x2)))) 13 (s_X5_mark 201 ((uR u 12 (s_X5_mark 201 (u.1 12) x2 ((s_X5_cell 201 (u.1 12) (x2 - 1)) + (s_X5_cell 201 (u.1 10) x2)))).1 13) x2 ((s_X5_cell 201 ((uR u 12 (s_X5_mark 201 (u.1 12) x2 ((s_X5_cell 201 (u.1 12) (x2 - 1)) + (s_X5_cell 201 (u.1 10) x2)))).1 13) (x2 - 1)) + (s_X5_cell 201 ((uR u 12 (s_X5_mark 201 (u.1 12) x2 ((s_X5_cell 201 (u.1 12) (x2 - 1)) + (s_X5_cell 201 (u.1 10) x2)))).1 12) x2)))) x1 (x2 + 1)
def s_X0_lay_L4 : Nat → xU → Int32 → Int32 → xU
  | 0, u, _, _ => u
  | n + 1, u, x1, x2 =>
    if (u.2 1) ≤ x2 then
      s_X0_lay_L56 ((((uZ u 3 x1).2 3).toInt + 1 - (1 : Int32).toInt).toNat + 1) (uZ u 3 x1) x1 1
    else
      s_X0_lay_L4 n (s_X0_fill (uR u 8 (s_X5_mark 10 (u.1 8) x2 (x1 + 1))) x2) (x1 + (s_X2_read (s_X0_fill (uR u 8 (s_X5_mark 10 (u.1 8) x2 (x1 + 1))) x2) x2 1)) (x2 + 1)
def s_X0_lay (u : xU) : xU :=
  s_X0_lay_L4 (((u.2 1).toInt - (0 : Int32).toInt).toNat + 1) u 0 0
abbrev rm_X0_lay : Room := { frames := 4, cells := 0, slots := 0, locals := 95 }
set_option maxHeartbeats 8000000 in
set_option maxRecDepth 100000 in
theorem c_X0_lay (l : Launch) (E : xG) (a : Nat → Nat) (u : xU)  (hp0 : XV (u.1 2) (u.2 1)) (hL : xOK E (LX a)) : xMd l E yX0_lay wsX0_lay rm_X0_lay (LX a) [.ref (a 7)] (wX E a u) (none) (wX E a (s_X0_lay u)) := by
  refine xMd.of (cc := cX0_lay) (maxL := 3) (ret := none) (by decide) rfl (Nat.le_of_ble_eq_true rfl) ?_
  intro p e s m below meth c ls hAt hF hP hS hl
  obtain ⟨hx, hb, hr, hml, hown, hts, hlocks, -⟩ := hAt
  have hown : s.vm.findClass RX0 = some m.cls := hown
  have hl : lv_has ls 3 [(0, .ref (a 7))] := hl
  have hK := hF.1
  have hA := hL.2
  change W p l e rm_X0_lay s m ([.ref (a 7)] : List Value).toArray below meth c s.heap [] 0 0 (xQmd E below (LX a) (none) (wX E a (s_X0_lay u)) ([.ref (a 7)] : List Value).toArray s) _
  have hS : va_S (· ∈ LX a) s.heap s.heap [] := hS
  have hR : s_X0_lay u = s_X0_lay u := rfl
  refine lv_iconst (v := 0) hx hb dX0_lay_0 rfl ?_
  refine lv_istore_n (lv' := [(1, .int 0), (0, .ref (a 7))]) hx hb dX0_lay_1 rfl hl (by decide) rfl (fun ls hl => ?_)
  refine lv_iconst (v := 0) hx hb dX0_lay_2 rfl ?_
  refine lv_istore_n (lv' := [(2, .int 0), (1, .int 0), (0, .ref (a 7))]) hx hb dX0_lay_3 rfl hl (by decide) rfl (fun ls hl => ?_)
  have L4 : ∀ (n4 : Nat) (u4 : xU) (x1 : Int32) (x2 : Int32) (H : Heap) (locs : List Loc) (ls : Array Slot), (XV (u4.1 2) (u4.2 1)) → (XI x1 x2) → ((u4.2 1).toInt - x2.toInt).toNat < n4 → s_X0_lay u = s_X0_lay_L4 n4 u4 x1 x2 → lv_has ls 3 [(2, .int x2), (1, .int x1), (0, .ref (a 7))] → va_P (xD E) vwCl (wX E a u4) H → va_S (· ∈ LX a) s.heap H locs → W p l e rm_X0_lay s m ([.ref (a 7)] : List Value).toArray below meth c H locs 0 0 (xQmd E below (LX a) (none) (wX E a (s_X0_lay u)) ([.ref (a 7)] : List Value).toArray s) (F0 m 4 ls []) := by
    intro n4
    induction n4 with
    | zero => intro u4 x1 x2 H locs ls hI0 hI1 hM4 hR hl hP hS; exact absurd hM4 (Nat.not_lt_zero _)
    | succ n4 ih4 =>
      intro u4 x1 x2 H locs ls hI0 hI1 hM4 hR hl hP hS
      refine lv_iload_n hx hb dX0_lay_4 rfl (lv_at hl 0 rfl) ?_
      refine lv_aload_n hx hb dX0_lay_5 rfl (lv_at hl 2 rfl) ?_
      refine va_get (D := xD E) (ci := 0) (v := .ref (a 1)) (C := RX0) (T := TX0) (N := 8) hx hb hts (by decide +kernel) hown hK hP 7 rfl rfl 0 (by decide) (hts (.fieldLink RX0 9 "RailOffsets$Line" "pieces" "LRailOffsets$Pieces;") (by decide +kernel)) (fun _ h => h) rfl dX0_lay_6 ?_
      refine va_get (D := xD E) (ci := 2) (v := .int (u4.2 1)) (C := RX2) (T := TX2) (N := 2) hx hb hts (by decide +kernel) hown hK hP 1 rfl rfl 1 (by decide) (hts (.fieldLink RX0 38 "RailOffsets$Pieces" "size" "I") (by decide +kernel)) (fun _ h => h) rfl dX0_lay_9 ?_
      refine lv_icmp_ge (tgt := 49) hx hb dX0_lay_12 rfl (fun q1 => ?_) (fun q1 => ?_)
      · have hR := hR.trans (if_pos q1)
        refine lv_aload_n hx hb dX0_lay_49 rfl (lv_at hl 2 rfl) ?_
        refine lv_iload_n hx hb dX0_lay_50 rfl (lv_at hl 1 rfl) ?_
        refine va_put (D := xD E) (ci := 0) (v := .int x1) (ty := .int) (C := RX0) (T := TX0) (N := 8) hx hb hts (by decide +kernel) tyX0 tyX0_ok nmX0 hown hK hP (xD_of (ws := wX E a u4) (A := (· ∈ LX a)) hL.1 (fun _ h => h)) hS 7 rfl rfl 7 (by decide) (hts (.fieldLink RX0 34 "RailOffsets$Line" "stations" "I") (by decide +kernel)) (fun _ h => h) rfl (by decide +kernel) rfl rfl (Nat.le_of_ble_eq_true rfl) dX0_lay_51 (fun H locs hP _ hS => ?_)
        have hP : va_P (xD E) vwCl (wX E a (uZ u4 3 x1)) H := hP
        refine lv_iconst (v := 1) hx hb dX0_lay_54 rfl ?_
        refine lv_istore_n (lv' := [(2, .int 1), (1, .int x1), (0, .ref (a 7))]) hx hb dX0_lay_55 rfl hl (by decide) rfl (fun ls hl => ?_)
        have L56 : ∀ (n56 : Nat) (u56 : xU) (x2 : Int32) (H : Heap) (locs : List Loc) (ls : Array Slot), ((u56.2 3).toInt < 2147483647) → ((u56.2 3).toInt + 1 - x2.toInt).toNat < n56 → s_X0_lay u = s_X0_lay_L56 n56 u56 x1 x2 → lv_has ls 3 [(2, .int x2), (1, .int x1), (0, .ref (a 7))] → va_P (xD E) vwCl (wX E a u56) H → va_S (· ∈ LX a) s.heap H locs → W p l e rm_X0_lay s m ([.ref (a 7)] : List Value).toArray below meth c H locs 0 0 (xQmd E below (LX a) (none) (wX E a (s_X0_lay u)) ([.ref (a 7)] : List Value).toArray s) (F0 m 56 ls []) := by
          intro n56
          induction n56 with
          | zero => intro u56 x2 H locs ls hI0 hM56 hR hl hP hS; exact absurd hM56 (Nat.not_lt_zero _)
          | succ n56 ih56 =>
            intro u56 x2 H locs ls hI0 hM56 hR hl hP hS
            refine lv_iload_n hx hb dX0_lay_56 rfl (lv_at hl 0 rfl) ?_
            refine lv_aload_n hx hb dX0_lay_57 rfl (lv_at hl 2 rfl) ?_
            refine va_get (D := xD E) (ci := 0) (v := .int (u56.2 3)) (C := RX0) (T := TX0) (N := 8) hx hb hts (by decide +kernel) hown hK hP 7 rfl rfl 7 (by decide) (hts (.fieldLink RX0 34 "RailOffsets$Line" "stations" "I") (by decide +kernel)) (fun _ h => h) rfl dX0_lay_58 ?_
            refine lv_icmp_gt (tgt := 124) hx hb dX0_lay_61 rfl (fun q2 => ?_) (fun q2 => ?_)
            · have hR := hR.trans (if_pos q2)
              have hR : s_X0_lay u = u56 := hR
              exact W.vret hx hb hr (fun t ht _ => by rw [hR]; exact ⟨⟨rfl, by rw [ht]; exact hP⟩, hS.F ht⟩) hS.2.2 dX0_lay_124
            · have hR := hR.trans (if_neg q2)
              refine lv_aload_n hx hb dX0_lay_64 rfl (lv_at hl 2 rfl) ?_
              refine va_get (D := xD E) (ci := 0) (v := .ref (a 12)) (C := RX0) (T := TX0) (N := 8) hx hb hts (by decide +kernel) hown hK hP 7 rfl rfl 5 (by decide) (hts (.fieldLink RX0 28 "RailOffsets$Line" "turns" "[I") (by decide +kernel)) (fun _ h => h) rfl dX0_lay_65 ?_
              refine lv_iload_n hx hb dX0_lay_68 rfl (lv_at hl 0 rfl) ?_
              refine lv_aload_n hx hb dX0_lay_69 rfl (lv_at hl 2 rfl) ?_
              refine va_get (D := xD E) (ci := 0) (v := .ref (a 12)) (C := RX0) (T := TX0) (N := 8) hx hb hts (by decide +kernel) hown hK hP 7 rfl rfl 5 (by decide) (hts (.fieldLink RX0 28 "RailOffsets$Line" "turns" "[I") (by decide +kernel)) (fun _ h => h) rfl dX0_lay_70 ?_
              refine lv_iload_n hx hb dX0_lay_73 rfl (lv_at hl 0 rfl) ?_
              refine lv_iconst (v := 1) hx hb dX0_lay_74 rfl ?_
              refine lv_isub hx hb dX0_lay_75 ?_
              refine xRoSN (nL := 3) ⟨hx, hb, hml, hown, hts⟩ (c_X5_cell l E (a 12) 201 (u56.1 12) (x2 - 1)) ⟨va_cnB (own := RX0) (host := RX5) (index := 55) (y := yX5_cell) 2 hts gX0_lay_X5_cell_n55 rfl rfl rfl (hF.2.1.1 (RX0, 55, yX5_cell) (List.mem_of_getElem? (i := 3) rfl)) (hts (.initialized RX5) (by decide +kernel)) hd_X5_cell ⟨(Nat.le_of_ble_eq_true rfl), (Nat.le_of_ble_eq_true rfl)⟩, hts (.static yX5_cell) (by decide +kernel), trivial⟩ hF hS hA (hP.sub [12] rfl) rfl hl.1 rfl (Nat.le_of_ble_eq_true rfl) ⟨(Nat.le_of_ble_eq_true rfl), (Nat.le_of_ble_eq_true rfl)⟩ dX0_lay_76 ?_
              refine W.eq (g2 := F0 m 79 ls [.int (s_X5_cell 201 (u56.1 12) (x2 - 1)), .int x2, .ref (a 12)]) rfl ?_
              refine lv_aload_n hx hb dX0_lay_79 rfl (lv_at hl 2 rfl) ?_
              refine va_get (D := xD E) (ci := 0) (v := .ref (a 10)) (C := RX0) (T := TX0) (N := 8) hx hb hts (by decide +kernel) hown hK hP 7 rfl rfl 3 (by decide) (hts (.fieldLink RX0 22 "RailOffsets$Line" "versines" "[I") (by decide +kernel)) (fun _ h => h) rfl dX0_lay_80 ?_
              refine lv_iload_n hx hb dX0_lay_83 rfl (lv_at hl 0 rfl) ?_
              refine xRoSN (nL := 3) ⟨hx, hb, hml, hown, hts⟩ (c_X5_cell l E (a 10) 201 (u56.1 10) x2) ⟨va_cnB (own := RX0) (host := RX5) (index := 55) (y := yX5_cell) 2 hts gX0_lay_X5_cell_n55 rfl rfl rfl (hF.2.1.1 (RX0, 55, yX5_cell) (List.mem_of_getElem? (i := 3) rfl)) (hts (.initialized RX5) (by decide +kernel)) hd_X5_cell ⟨(Nat.le_of_ble_eq_true rfl), (Nat.le_of_ble_eq_true rfl)⟩, hts (.static yX5_cell) (by decide +kernel), trivial⟩ hF hS hA (hP.sub [10] rfl) rfl hl.1 rfl (Nat.le_of_ble_eq_true rfl) ⟨(Nat.le_of_ble_eq_true rfl), (Nat.le_of_ble_eq_true rfl)⟩ dX0_lay_84 ?_
              refine W.eq (g2 := F0 m 87 ls [.int (s_X5_cell 201 (u56.1 10) x2), .int (s_X5_cell 201 (u56.1 12) (x2 - 1)), .int x2, .ref (a 12)]) rfl ?_
              refine lv_iadd hx hb dX0_lay_87 ?_
              refine xMdSN (nL := 3) ⟨hx, hb, hml, hown, hts⟩ (c_X5_mark l E (a 12) 201 (u56.1 12) x2 ((s_X5_cell 201 (u56.1 12) (x2 - 1)) + (s_X5_cell 201 (u56.1 10) x2)) (hL.2 _ (List.mem_of_getElem? (i := 12) rfl))) ⟨va_cnB (own := RX0) (host := RX5) (index := 43) (y := yX5_mark) 3 hts gX0_lay_X5_mark_n43 rfl rfl rfl (hF.2.1.1 (RX0, 43, yX5_mark) (List.mem_of_getElem? (i := 1) rfl)) (hts (.initialized RX5) (by decide +kernel)) hd_X5_mark ⟨(Nat.le_of_ble_eq_true rfl), (Nat.le_of_ble_eq_true rfl)⟩, hts (.static yX5_mark) (by decide +kernel), trivial⟩ hF hS hL.2 (xsub1 (List.mem_of_getElem? (i := 12) rfl)) (hP.sub [12] rfl) rfl hl.1 rfl (Nat.le_of_ble_eq_true rfl) ⟨(Nat.le_of_ble_eq_true rfl), (Nat.le_of_ble_eq_true rfl)⟩ dX0_lay_88 (fun H1 locs hP1 hk hS => ?_)
              have hP : va_P (xD E) vwCl (wX E a (uR u56 12 (s_X5_mark 201 (u56.1 12) x2 ((s_X5_cell 201 (u56.1 12) (x2 - 1)) + (s_X5_cell 201 (u56.1 10) x2))))) H1 := xset1 hP (xD_of (ws := wX E a u56) (A := (· ∈ LX a)) hL.1 (fun _ h => h)) (p := 12) rfl hP1 hk
              generalize H1 = H at hP hS ⊢
              refine W.eq (g2 := F0 m 91 ls []) rfl ?_
              refine lv_aload_n hx hb dX0_lay_91 rfl (lv_at hl 2 rfl) ?_
              refine va_get (D := xD E) (ci := 0) (v := .ref (a 13)) (C := RX0) (T := TX0) (N := 8) hx hb hts (by decide +kernel) hown hK hP 7 rfl rfl 6 (by decide) (hts (.fieldLink RX0 31 "RailOffsets$Line" "offsets" "[I") (by decide +kernel)) (fun _ h => h) rfl dX0_lay_92 ?_
              refine lv_iload_n hx hb dX0_lay_95 rfl (lv_at hl 0 rfl) ?_
              refine lv_aload_n hx hb dX0_lay_96 rfl (lv_at hl 2 rfl) ?_
              refine va_get (D := xD E) (ci := 0) (v := .ref (a 13)) (C := RX0) (T := TX0) (N := 8) hx hb hts (by decide +kernel) hown hK hP 7 rfl rfl 6 (by decide) (hts (.fieldLink RX0 31 "RailOffsets$Line" "offsets" "[I") (by decide +kernel)) (fun _ h => h) rfl dX0_lay_97 ?_
              refine lv_iload_n hx hb dX0_lay_100 rfl (lv_at hl 0 rfl) ?_
              refine lv_iconst (v := 1) hx hb dX0_lay_101 rfl ?_
              refine lv_isub hx hb dX0_lay_102 ?_
              refine xRoSN (nL := 3) ⟨hx, hb, hml, hown, hts⟩ (c_X5_cell l E (a 13) 201 ((uR u56 12 (s_X5_mark 201 (u56.1 12) x2 ((s_X5_cell 201 (u56.1 12) (x2 - 1)) + (s_X5_cell 201 (u56.1 10) x2)))).1 13) (x2 - 1)) ⟨va_cnB (own := RX0) (host := RX5) (index := 55) (y := yX5_cell) 2 hts gX0_lay_X5_cell_n55 rfl rfl rfl (hF.2.1.1 (RX0, 55, yX5_cell) (List.mem_of_getElem? (i := 3) rfl)) (hts (.initialized RX5) (by decide +kernel)) hd_X5_cell ⟨(Nat.le_of_ble_eq_true rfl), (Nat.le_of_ble_eq_true rfl)⟩, hts (.static yX5_cell) (by decide +kernel), trivial⟩ hF hS hA (hP.sub [13] rfl) rfl hl.1 rfl (Nat.le_of_ble_eq_true rfl) ⟨(Nat.le_of_ble_eq_true rfl), (Nat.le_of_ble_eq_true rfl)⟩ dX0_lay_103 ?_
              refine W.eq (g2 := F0 m 106 ls [.int (s_X5_cell 201 ((uR u56 12 (s_X5_mark 201 (u56.1 12) x2 ((s_X5_cell 201 (u56.1 12) (x2 - 1)) + (s_X5_cell 201 (u56.1 10) x2)))).1 13) (x2 - 1)), .int x2, .ref (a 13)]) rfl ?_
              refine lv_aload_n hx hb dX0_lay_106 rfl (lv_at hl 2 rfl) ?_
              refine va_get (D := xD E) (ci := 0) (v := .ref (a 12)) (C := RX0) (T := TX0) (N := 8) hx hb hts (by decide +kernel) hown hK hP 7 rfl rfl 5 (by decide) (hts (.fieldLink RX0 28 "RailOffsets$Line" "turns" "[I") (by decide +kernel)) (fun _ h => h) rfl dX0_lay_107 ?_
              refine lv_iload_n hx hb dX0_lay_110 rfl (lv_at hl 0 rfl) ?_
              refine xRoSN (nL := 3) ⟨hx, hb, hml, hown, hts⟩ (c_X5_cell l E (a 12) 201 ((uR u56 12 (s_X5_mark 201 (u56.1 12) x2 ((s_X5_cell 201 (u56.1 12) (x2 - 1)) + (s_X5_cell 201 (u56.1 10) x2)))).1 12) x2) ⟨va_cnB (own := RX0) (host := RX5) (index := 55) (y := yX5_cell) 2 hts gX0_lay_X5_cell_n55 rfl rfl rfl (hF.2.1.1 (RX0, 55, yX5_cell) (List.mem_of_getElem? (i := 3) rfl)) (hts (.initialized RX5) (by decide +kernel)) hd_X5_cell ⟨(Nat.le_of_ble_eq_true rfl), (Nat.le_of_ble_eq_true rfl)⟩, hts (.static yX5_cell) (by decide +kernel), trivial⟩ hF hS hA (hP.sub [12] rfl) rfl hl.1 rfl (Nat.le_of_ble_eq_true rfl) ⟨(Nat.le_of_ble_eq_true rfl), (Nat.le_of_ble_eq_true rfl)⟩ dX0_lay_111 ?_
              refine W.eq (g2 := F0 m 114 ls [.int (s_X5_cell 201 ((uR u56 12 (s_X5_mark 201 (u56.1 12) x2 ((s_X5_cell 201 (u56.1 12) (x2 - 1)) + (s_X5_cell 201 (u56.1 10) x2)))).1 12) x2), .int (s_X5_cell 201 ((uR u56 12 (s_X5_mark 201 (u56.1 12) x2 ((s_X5_cell 201 (u56.1 12) (x2 - 1)) + (s_X5_cell 201 (u56.1 10) x2)))).1 13) (x2 - 1)), .int x2, .ref (a 13)]) rfl ?_
              refine lv_iadd hx hb dX0_lay_114 ?_
              refine xMdSN (nL := 3) ⟨hx, hb, hml, hown, hts⟩ (c_X5_mark l E (a 13) 201 ((uR u56 12 (s_X5_mark 201 (u56.1 12) x2 ((s_X5_cell 201 (u56.1 12) (x2 - 1)) + (s_X5_cell 201 (u56.1 10) x2)))).1 13) x2 ((s_X5_cell 201 ((uR u56 12 (s_X5_mark 201 (u56.1 12) x2 ((s_X5_cell 201 (u56.1 12) (x2 - 1)) + (s_X5_cell 201 (u56.1 10) x2)))).1 13) (x2 - 1)) + (s_X5_cell 201 ((uR u56 12 (s_X5_mark 201 (u56.1 12) x2 ((s_X5_cell 201 (u56.1 12) (x2 - 1)) + (s_X5_cell 201 (u56.1 10) x2)))).1 12) x2)) (hL.2 _ (List.mem_of_getElem? (i := 13) rfl))) ⟨va_cnB (own := RX0) (host := RX5) (index := 43) (y := yX5_mark) 3 hts gX0_lay_X5_mark_n43 rfl rfl rfl (hF.2.1.1 (RX0, 43, yX5_mark) (List.mem_of_getElem? (i := 1) rfl)) (hts (.initialized RX5) (by decide +kernel)) hd_X5_mark ⟨(Nat.le_of_ble_eq_true rfl), (Nat.le_of_ble_eq_true rfl)⟩, hts (.static yX5_mark) (by decide +kernel), trivial⟩ hF hS hL.2 (xsub1 (List.mem_of_getElem? (i := 13) rfl)) (hP.sub [13] rfl) rfl hl.1 rfl (Nat.le_of_ble_eq_true rfl) ⟨(Nat.le_of_ble_eq_true rfl), (Nat.le_of_ble_eq_true rfl)⟩ dX0_lay_115 (fun H1 locs hP1 hk hS => ?_)
              have hP : va_P (xD E) vwCl (wX E a (uR (uR u56 12 (s_X5_mark 201 (u56.1 12) x2 ((s_X5_cell 201 (u56.1 12) (x2 - 1)) + (s_X5_cell 201 (u56.1 10) x2)))) 13 (s_X5_mark 201 ((uR u56 12 (s_X5_mark 201 (u56.1 12) x2 ((s_X5_cell 201 (u56.1 12) (x2 - 1)) + (s_X5_cell 201 (u56.1 10) x2)))).1 13) x2 ((s_X5_cell 201 ((uR u56 12 (s_X5_mark 201 (u56.1 12) x2 ((s_X5_cell 201 (u56.1 12) (x2 - 1)) + (s_X5_cell 201 (u56.1 10) x2)))).1 13) (x2 - 1)) + (s_X5_cell 201 ((uR u56 12 (s_X5_mark 201 (u56.1 12) x2 ((s_X5_cell 201 (u56.1 12) (x2 - 1)) + (s_X5_cell 201 (u56.1 10) x2)))).1 12) x2))))) H1 := xset1 hP (xD_of (ws := wX E a (uR u56 12 (s_X5_mark 201 (u56.1 12) x2 ((s_X5_cell 201 (u56.1 12) (x2 - 1)) + (s_X5_cell 201 (u56.1 10) x2))))) (A := (· ∈ LX a)) hL.1 (fun _ h => h)) (p := 13) rfl hP1 hk
              generalize H1 = H at hP hS ⊢
              refine W.eq (g2 := F0 m 118 ls []) rfl ?_
              refine lv_iinc (k := 0) (v := x2 + 1) (lv' := [(2, .int (x2 + 1)), (1, .int x1), (0, .ref (a 7))]) hx hb dX0_lay_118 hl rfl rfl (by decide) rfl (fun ls hl => ?_)
              refine lv_goto (tgt := 56) hx hb dX0_lay_121 rfl ?_
              exact ih56 (uR (uR u56 12 (s_X5_mark 201 (u56.1 12) x2 ((s_X5_cell 201 (u56.1 12) (x2 - 1)) + (s_X5_cell 201 (u56.1 10) x2)))) 13 (s_X5_mark 201 ((uR u56 12 (s_X5_mark 201 (u56.1 12) x2 ((s_X5_cell 201 (u56.1 12) (x2 - 1)) + (s_X5_cell 201 (u56.1 10) x2)))).1 13) x2 ((s_X5_cell 201 ((uR u56 12 (s_X5_mark 201 (u56.1 12) x2 ((s_X5_cell 201 (u56.1 12) (x2 - 1)) + (s_X5_cell 201 (u56.1 10) x2)))).1 13) (x2 - 1)) + (s_X5_cell 201 ((uR u56 12 (s_X5_mark 201 (u56.1 12) x2 ((s_X5_cell 201 (u56.1 12) (x2 - 1)) + (s_X5_cell 201 (u56.1 10) x2)))).1 12) x2)))) (x2 + 1) _ _ _ (hI0) (Nat.lt_of_lt_of_le (xupl q2 (hI0)) (Nat.le_of_lt_succ hM56)) hR (lv_sub hl [0, 1, 2] rfl) hP hS
        exact L56 ((((uZ u4 3 x1).2 3).toInt + 1 - (1 : Int32).toInt).toNat + 1) (uZ u4 3 x1) 1 _ _ ls (xi2 hI1) (Nat.lt_succ_self _) hR hl hP hS
      · have hR := hR.trans (if_neg q1)
        refine lv_aload_n hx hb dX0_lay_15 rfl (lv_at hl 2 rfl) ?_
        refine va_get (D := xD E) (ci := 0) (v := .ref (a 8)) (C := RX0) (T := TX0) (N := 8) hx hb hts (by decide +kernel) hown hK hP 7 rfl rfl 1 (by decide) (hts (.fieldLink RX0 15 "RailOffsets$Line" "starts" "[I") (by decide +kernel)) (fun _ h => h) rfl dX0_lay_16 ?_
        refine lv_iload_n hx hb dX0_lay_19 rfl (lv_at hl 0 rfl) ?_
        refine lv_iload_n hx hb dX0_lay_20 rfl (lv_at hl 1 rfl) ?_
        refine lv_iconst (v := 1) hx hb dX0_lay_21 rfl ?_
        refine lv_iadd hx hb dX0_lay_22 ?_
        refine xMdSN (nL := 3) ⟨hx, hb, hml, hown, hts⟩ (c_X5_mark l E (a 8) 10 (u4.1 8) x2 (x1 + 1) (hL.2 _ (List.mem_of_getElem? (i := 8) rfl))) ⟨va_cnB (own := RX0) (host := RX5) (index := 43) (y := yX5_mark) 3 hts gX0_lay_X5_mark_n43 rfl rfl rfl (hF.2.1.1 (RX0, 43, yX5_mark) (List.mem_of_getElem? (i := 1) rfl)) (hts (.initialized RX5) (by decide +kernel)) hd_X5_mark ⟨(Nat.le_of_ble_eq_true rfl), (Nat.le_of_ble_eq_true rfl)⟩, hts (.static yX5_mark) (by decide +kernel), trivial⟩ hF hS hL.2 (xsub1 (List.mem_of_getElem? (i := 8) rfl)) (hP.sub [8] rfl) rfl hl.1 rfl (Nat.le_of_ble_eq_true rfl) ⟨(Nat.le_of_ble_eq_true rfl), (Nat.le_of_ble_eq_true rfl)⟩ dX0_lay_23 (fun H1 locs hP1 hk hS => ?_)
        have hP : va_P (xD E) vwCl (wX E a (uR u4 8 (s_X5_mark 10 (u4.1 8) x2 (x1 + 1)))) H1 := xset1 hP (xD_of (ws := wX E a u4) (A := (· ∈ LX a)) hL.1 (fun _ h => h)) (p := 8) rfl hP1 hk
        generalize H1 = H at hP hS ⊢
        refine W.eq (g2 := F0 m 26 ls []) rfl ?_
        refine lv_aload_n hx hb dX0_lay_26 rfl (lv_at hl 2 rfl) ?_
        refine lv_iload_n hx hb dX0_lay_27 rfl (lv_at hl 0 rfl) ?_
        refine xMdV (nL := 3) ⟨hx, hb, hml, hown, hts⟩ (c_X0_fill l E a (uR u4 8 (s_X5_mark 10 (u4.1 8) x2 (x1 + 1))) x2 (hI0.xm) hL) (cwV 1 hts gX0_lay_X0_fill rfl rfl rfl ⟨rfl, hd_X0_fill⟩ ⟨(Nat.le_of_ble_eq_true rfl), (Nat.le_of_ble_eq_true rfl)⟩) hF hS hL.2 (fun _ h => h) hP (va_recv (q := (RX0, TX0, 8)) hK hP (ci := 0) rfl (q0 := 7) rfl) rfl hl.1 rfl (Nat.le_of_ble_eq_true rfl) ⟨(Nat.le_of_ble_eq_true rfl), (Nat.le_of_ble_eq_true rfl)⟩ dX0_lay_28 (fun H locs hP _ hS => ?_)
        refine W.eq (g2 := F0 m 31 ls []) rfl ?_
        refine lv_iload_n hx hb dX0_lay_31 rfl (lv_at hl 1 rfl) ?_
        refine lv_aload_n hx hb dX0_lay_32 rfl (lv_at hl 2 rfl) ?_
        refine va_get (D := xD E) (ci := 0) (v := .ref (a 1)) (C := RX0) (T := TX0) (N := 8) hx hb hts (by decide +kernel) hown hK hP 7 rfl rfl 0 (by decide) (hts (.fieldLink RX0 9 "RailOffsets$Line" "pieces" "LRailOffsets$Pieces;") (by decide +kernel)) (fun _ h => h) rfl dX0_lay_33 ?_
        refine lv_iload_n hx hb dX0_lay_36 rfl (lv_at hl 0 rfl) ?_
        refine lv_iconst (v := 1) hx hb dX0_lay_37 rfl ?_
        refine xRoV (nL := 3) ⟨hx, hb, hml, hown, hts⟩ (c_X2_read l E a (s_X0_fill (uR u4 8 (s_X5_mark 10 (u4.1 8) x2 (x1 + 1))) x2) x2 1) (cwV 2 hts gX0_lay_X2_read rfl rfl rfl ⟨rfl, hd_X2_read⟩ ⟨(Nat.le_of_ble_eq_true rfl), (Nat.le_of_ble_eq_true rfl)⟩) hF hS hA hP (va_recv (q := (RX2, TX2, 2)) hK hP (ci := 2) rfl (q0 := 1) rfl) rfl hl.1 rfl (Nat.le_of_ble_eq_true rfl) ⟨(Nat.le_of_ble_eq_true rfl), (Nat.le_of_ble_eq_true rfl)⟩ dX0_lay_38 ?_
        refine W.eq (g2 := F0 m 41 ls [.int (s_X2_read (s_X0_fill (uR u4 8 (s_X5_mark 10 (u4.1 8) x2 (x1 + 1))) x2) x2 1), .int x1]) rfl ?_
        refine lv_iadd hx hb dX0_lay_41 ?_
        refine lv_istore_n (lv' := [(1, .int (x1 + (s_X2_read (s_X0_fill (uR u4 8 (s_X5_mark 10 (u4.1 8) x2 (x1 + 1))) x2) x2 1))), (2, .int x2), (0, .ref (a 7))]) hx hb dX0_lay_42 rfl hl (by decide) rfl (fun ls hl => ?_)
        refine lv_iinc (k := 1) (v := x2 + 1) (lv' := [(2, .int (x2 + 1)), (1, .int (x1 + (s_X2_read (s_X0_fill (uR u4 8 (s_X5_mark 10 (u4.1 8) x2 (x1 + 1))) x2) x2 1))), (0, .ref (a 7))]) hx hb dX0_lay_43 hl rfl rfl (by decide) rfl (fun ls hl => ?_)
        refine lv_goto (tgt := 4) hx hb dX0_lay_46 rfl ?_
        exact ih4 (s_X0_fill (uR u4 8 (s_X5_mark 10 (u4.1 8) x2 (x1 + 1))) x2) (x1 + (s_X2_read (s_X0_fill (uR u4 8 (s_X5_mark 10 (u4.1 8) x2 (x1 + 1))) x2) x2 1)) (x2 + 1) _ _ _ (by rw [s_X0_fill_1, s_X0_fill_2]; exact hI0) (by rw [xfr]; exact xi1 hI0 hI1 q1) (Nat.lt_of_lt_of_le (by rw [s_X0_fill_2]; exact xupc q1) (Nat.le_of_lt_succ hM4)) hR (lv_sub hl [0, 1, 2] rfl) hP hS
  exact L4 (((u.2 1).toInt - (0 : Int32).toInt).toNat + 1) u 0 0 _ _ ls (hp0) (xi0) (Nat.lt_succ_self _) hR hl hP hS
/-! ===== within, fits, write ===== -/
theorem xwithin {x lo hi : Int32} (h : ¬ s_X5_within x lo hi = 0) : lo.toInt ≤ x.toInt ∧ x.toInt ≤ hi.toInt := by
  unfold s_X5_within at h
  split at h
  · exact absurd rfl h
  · split at h
    · exact absurd rfl h
    · rename_i q1 q2
      rw [fa_lt] at q1 q2
      omega
theorem xfit {f v : Int32} {j : Nat} (hj : j < 4) (hf : f = nI j) (h : ¬ s_X5_fits f v = 0) : okf j v ∧ (j = 1 → 1 ≤ v.toInt) := by
  unfold s_X5_fits at h
  have h2 := xwithin h
  have h4 : j = 0 ∨ j = 1 ∨ j = 2 ∨ j = 3 := by omega
  rcases h4 with rfl | rfl | rfl | rfl
  · rw [hf, show (s_X5_cell (xStL 1) (xStV 1) (nI 0)).toInt = 0 from by decide, show (s_X5_cell (xStL 2) (xStV 2) (nI 0)).toInt = 5 from by decide] at h2
    exact ⟨h2, fun z => by omega⟩
  · rw [hf, show (s_X5_cell (xStL 1) (xStV 1) (nI 1)).toInt = 1 from by decide, show (s_X5_cell (xStL 2) (xStV 2) (nI 1)).toInt = 20 from by decide] at h2
    exact ⟨⟨by omega, h2.2⟩, fun _ => h2.1⟩
  · rw [hf, show (s_X5_cell (xStL 1) (xStV 1) (nI 2)).toInt = -99 from by decide, show (s_X5_cell (xStL 2) (xStV 2) (nI 2)).toInt = 99 from by decide] at h2
    exact ⟨h2, fun z => by omega⟩
  · rw [hf, show (s_X5_cell (xStL 1) (xStV 1) (nI 3)).toInt = 0 from by decide, show (s_X5_cell (xStL 2) (xStV 2) (nI 3)).toInt = 160 from by decide] at h2
    exact ⟨h2, fun z => by omega⟩
theorem s_X2_has_in {u : xU} {n p : Nat} (hn : n ≤ 10) (hN : u.2 1 = nI n) (hp : p < n) : s_X2_has u (nI p) = 1 := by
  unfold s_X2_has
  rw [if_neg (nI_pos (by omega)), hN, if_neg (nI_ge hp (by omega))]
theorem s_X2_has_of {u : xU} {n : Nat} {p : Int32} (hn : n ≤ 10) (hN : u.2 1 = nI n) (h : ¬ s_X2_has u p = 0) : ∃ q, q < n ∧ p = nI q := by
  unfold s_X2_has at h
  split at h
  · exact absurd rfl h
  · split at h
    · exact absurd rfl h
    · rename_i q1 q2
      rw [hN] at q2
      rcases pk_ix p (n := n) (by omega) with z | z | ⟨j, hj, e⟩
      · exact absurd z q1
      · exact absurd z q2
      · exact ⟨j, hj, e⟩
theorem s_X2_write_in {u : xU} {n p j : Nat} (hn : n ≤ 10) (hN : u.2 1 = nI n) (hp : p < n) (hj : j < 4) (v : Int32) : s_X2_write u (nI p) (nI j) v = uR u 2 (upd (u.1 2) (4 * p + j) v) := by
  unfold s_X2_write
  rw [s_X2_has_in hn hN hp, if_neg (by decide), xix, s_X5_mark_in (by decide) (by omega)]
theorem s_X2_write_2 (u : xU) (p f v : Int32) : (s_X2_write u p f v).2 = u.2 := by
  unfold s_X2_write
  split <;> rfl
theorem s_X2_write_1 (u : xU) (p f v : Int32) {k : Nat} (hk : k ≠ 2) : (s_X2_write u p f v).1 k = u.1 k := by
  unfold s_X2_write
  split
  · rfl
  · simp only [uR]
    rw [if_neg hk]
theorem s_X2_write_out {u : xU} {p : Int32} (h : s_X2_has u p = 0) (f v : Int32) : s_X2_write u p f v = u := by
  unfold s_X2_write
  rw [if_pos h]
theorem xwv {u : xU} (h : XV (u.1 2) (u.2 1)) {p : Int32} {j : Nat} (hj : j < 4) {x : Int32} (hx : okf j x) (h1 : j = 1 → 1 ≤ x.toInt) : XV ((s_X2_write u p (nI j) x).1 2) ((s_X2_write u p (nI j) x).2 1) := by
  by_cases hp : s_X2_has u p = 0
  · rw [s_X2_write_out hp]; exact h
  · obtain ⟨n, h1', h2, h3, h4⟩ := h
    obtain ⟨q, hq, rfl⟩ := s_X2_has_of h1' h2 hp
    rw [s_X2_write_in h1' h2 hq hj]
    refine ⟨n, h1', h2, XV0.upd h3 hj hx, fun p hp => ?_⟩
    show 1 ≤ (upd (u.1 2) (4 * q + j) x (4 * p + 1)).toInt
    by_cases e : 4 * p + 1 = 4 * q + j
    · rw [e, pk_us]
      exact h1 (by omega)
    · rw [pk_un e]
      exact h4 p hp
theorem xwm {u : xU} (h : XV (u.1 2) (u.2 1)) {p : Int32} {j : Nat} (hj : j < 4) {x : Int32} (hx : okf j x) (h1 : j = 1 → 1 ≤ x.toInt) : ∀ i, i < 40 → ((s_X2_write u p (nI j) x).1 2 i).toInt < 2147483647 := (xwv h hj hx h1).xm
/-- a new piece -/
theorem xv_piece {u : xU} (h : XV (u.1 2) (u.2 1)) (h10 : ¬ 10 ≤ u.2 1) {k l b c : Int32} (f0 : ¬ s_X5_fits 0 k = 0) (f1 : ¬ s_X5_fits 1 l = 0) (f2 : ¬ s_X5_fits 2 b = 0) (f3 : ¬ s_X5_fits 3 c = 0) :
    s_X2_write (s_X2_write (s_X2_write (s_X2_write (uZ u 1 (u.2 1 + 1)) (u.2 1) 0 k) (u.2 1) 1 l) (u.2 1) 2 b) (u.2 1) 3 c = uR (uR (uR (uR (uZ u 1 (u.2 1 + 1)) 2 (upd (u.1 2) (4 * (u.2 1).toNatClampNeg) k)) 2 (upd (upd (u.1 2) (4 * (u.2 1).toNatClampNeg) k) (4 * (u.2 1).toNatClampNeg + 1) l)) 2 (upd (upd (upd (u.1 2) (4 * (u.2 1).toNatClampNeg) k) (4 * (u.2 1).toNatClampNeg + 1) l) (4 * (u.2 1).toNatClampNeg + 2) b)) 2 (upd (upd (upd (upd (u.1 2) (4 * (u.2 1).toNatClampNeg) k) (4 * (u.2 1).toNatClampNeg + 1) l) (4 * (u.2 1).toNatClampNeg + 2) b) (4 * (u.2 1).toNatClampNeg + 3) c) ∧
    XV (upd (upd (upd (upd (u.1 2) (4 * (u.2 1).toNatClampNeg) k) (4 * (u.2 1).toNatClampNeg + 1) l) (4 * (u.2 1).toNatClampNeg + 2) b) (4 * (u.2 1).toNatClampNeg + 3) c) (u.2 1 + 1) := by
  obtain ⟨n, h1, h2, h3, h4⟩ := h
  have hn : n < 10 := by
    rw [h2] at h10
    exact Nat.lt_of_not_le (fun z => h10 (nI_le (a := 10) z (by omega)))
  rw [h2, nI_clamp (by omega), nI_1]
  have e1 : ∀ w : xU, w.2 1 = nI (n + 1) → ∀ (j : Nat), j < 4 → ∀ v, s_X2_write w (nI n) (nI j) v = uR w 2 (upd (w.1 2) (4 * n + j) v) := fun w hw j hj v => s_X2_write_in (n := n + 1) (by omega) hw (by omega) hj v
  have w0 := e1 (uZ u 1 (nI (n + 1))) rfl 0 (by decide) k
  have w1 := e1 (uR (uZ u 1 (nI (n + 1))) 2 (upd (u.1 2) (4 * n) k)) rfl 1 (by decide) l
  have w2 := e1 (uR (uR (uZ u 1 (nI (n + 1))) 2 (upd (u.1 2) (4 * n) k)) 2 (upd (upd (u.1 2) (4 * n) k) (4 * n + 1) l)) rfl 2 (by decide) b
  have w3 := e1 (uR (uR (uR (uZ u 1 (nI (n + 1))) 2 (upd (u.1 2) (4 * n) k)) 2 (upd (upd (u.1 2) (4 * n) k) (4 * n + 1) l)) 2 (upd (upd (upd (u.1 2) (4 * n) k) (4 * n + 1) l) (4 * n + 2) b)) rfl 3 (by decide) c
  refine ⟨?_, n + 1, by omega, rfl, ?_, ?_⟩
  · rw [show (0 : Int32) = nI 0 from rfl, w0]
    refine Eq.trans (congrArg (fun z => s_X2_write (s_X2_write z (nI n) 2 b) (nI n) 3 c) w1) ?_
    refine Eq.trans (congrArg (fun z => s_X2_write z (nI n) 3 c) w2) ?_
    exact w3
  · exact XV0.upd (XV0.upd (XV0.upd (XV0.upd (j := 0) h3 (by decide) (xfit (j := 0) (by decide) rfl f0).1) (by decide) (xfit (j := 1) (by decide) rfl f1).1) (by decide) (xfit (j := 2) (by decide) rfl f2).1) (by decide) (xfit (j := 3) (by decide) rfl f3).1
  · intro p hp
    rw [pk_un (by omega), pk_un (by omega)]
    by_cases e : p = n
    · subst e
      rw [pk_us]
      exact (xfit (j := 1) (by decide) rfl f1).2 rfl
    · rw [pk_un (by omega), pk_un (by omega)]
      exact h4 p (by omega)
theorem xv_piece2 {u : xU} (h : XV (u.1 2) (u.2 1)) (h10 : ¬ 10 ≤ u.2 1) {k l b c : Int32} (f0 : ¬ s_X5_fits 0 k = 0) (f1 : ¬ s_X5_fits 1 l = 0) (f2 : ¬ s_X5_fits 2 b = 0) (f3 : ¬ s_X5_fits 3 c = 0) :
    XV ((s_X2_write (s_X2_write (s_X2_write (s_X2_write (uZ u 1 (u.2 1 + 1)) (u.2 1) 0 k) (u.2 1) 1 l) (u.2 1) 2 b) (u.2 1) 3 c).1 2) ((s_X2_write (s_X2_write (s_X2_write (s_X2_write (uZ u 1 (u.2 1 + 1)) (u.2 1) 0 k) (u.2 1) 1 l) (u.2 1) 2 b) (u.2 1) 3 c).2 1) := by
  obtain ⟨e, x⟩ := xv_piece h h10 f0 f1 f2 f3
  rw [e]
  exact x
theorem xv_drop {u : xU} (h : XV (u.1 2) (u.2 1)) (h1 : ¬ u.2 1 < 1) : XV (u.1 2) (u.2 1 - 1) := by
  obtain ⟨n, h2, h3, h4, h5⟩ := h
  have hn : 1 ≤ n := by
    rw [h3] at h1
    exact Nat.le_of_not_lt (fun z => h1 (nI_lt (b := 1) z (by decide)))
  refine ⟨n - 1, by omega, ?_, h4, fun p hp => h5 p (by omega)⟩
  rw [h3]
  exact pk_sub hn
theorem xv_set {u : xU} (h : XV (u.1 2) (u.2 1)) {p f v : Int32} (hf : ∃ j : Nat, j < 4 ∧ f = nI j) (hv : ¬ s_X5_fits f v = 0) : XV ((s_X2_write u p f v).1 2) ((s_X2_write u p f v).2 1) := by
  obtain ⟨j, hj, rfl⟩ := hf
  have q := xfit hj rfl hv
  exact xwv h hj q.1 q.2
theorem xv_what {w : Int32} (h : ¬ s_X5_within w 0 3 = 0) (h3 : ¬ w = 3) : ∃ j : Nat, j < 4 ∧ w + 1 = nI j := by
  have q := xwithin h
  rw [show (0 : Int32).toInt = 0 from rfl, show (3 : Int32).toInt = 3 from rfl] at q
  obtain ⟨j, hj, rfl⟩ := nI_of_toInt q.1
  rw [nI_toInt hj] at q
  refine ⟨j + 1, ?_, nI_1 j⟩
  have : j ≠ 3 := fun e => h3 (by rw [e]; rfl)
  omega
def s_X0_attempt (u : xU) (p1 : Int32) (p2 : Int32) (p3 : Int32) : xU :=
  s_X0_fill (s_X0_fill (s_X2_write u p1 p2 p3) p1) (p1 + 1)
abbrev rm_X0_attempt : Room := { frames := 4, cells := 0, slots := 0, locals := 95 }
set_option maxHeartbeats 8000000 in
set_option maxRecDepth 100000 in
theorem c_X0_attempt (l : Launch) (E : xG) (a : Nat → Nat) (u : xU) (p1 : Int32) (p2 : Int32) (p3 : Int32) (hp0 : ∀ i, i < 40 → ((s_X2_write u p1 p2 p3).1 2 i).toInt < 2147483647) (hL : xOK E (LX a)) : xMd l E yX0_attempt wsX0_attempt rm_X0_attempt (LX a) [.ref (a 7), .int p1, .int p2, .int p3] (wX E a u) (none) (wX E a (s_X0_attempt u p1 p2 p3)) := by
  refine xMd.of (cc := cX0_attempt) (maxL := 4) (ret := none) (by decide) rfl (Nat.le_of_ble_eq_true rfl) ?_
  intro p e s m below meth c ls hAt hF hP hS hl
  obtain ⟨hx, hb, hr, hml, hown, hts, hlocks, -⟩ := hAt
  have hown : s.vm.findClass RX0 = some m.cls := hown
  have hl : lv_has ls 4 [(0, .ref (a 7)), (1, .int p1), (2, .int p2), (3, .int p3)] := hl
  have hK := hF.1
  have hA := hL.2
  change W p l e rm_X0_attempt s m ([.ref (a 7), .int p1, .int p2, .int p3] : List Value).toArray below meth c s.heap [] 0 0 (xQmd E below (LX a) (none) (wX E a (s_X0_attempt u p1 p2 p3)) ([.ref (a 7), .int p1, .int p2, .int p3] : List Value).toArray s) _
  have hS : va_S (· ∈ LX a) s.heap s.heap [] := hS
  have hR : s_X0_attempt u p1 p2 p3 = s_X0_attempt u p1 p2 p3 := rfl
  refine lv_aload_n hx hb dX0_attempt_0 rfl (lv_at hl 0 rfl) ?_
  refine va_get (D := xD E) (ci := 0) (v := .ref (a 1)) (C := RX0) (T := TX0) (N := 8) hx hb hts (by decide +kernel) hown hK hP 7 rfl rfl 0 (by decide) (hts (.fieldLink RX0 9 "RailOffsets$Line" "pieces" "LRailOffsets$Pieces;") (by decide +kernel)) (fun _ h => h) rfl dX0_attempt_1 ?_
  refine lv_iload_n hx hb dX0_attempt_4 rfl (lv_at hl 1 rfl) ?_
  refine lv_iload_n hx hb dX0_attempt_5 rfl (lv_at hl 2 rfl) ?_
  refine lv_iload_n hx hb dX0_attempt_6 rfl (lv_at hl 3 rfl) ?_
  refine xMdV (nL := 4) ⟨hx, hb, hml, hown, hts⟩ (c_X2_write l E a u p1 p2 p3 hL) (cwV 3 hts gX0_attempt_X2_write rfl rfl rfl ⟨rfl, hd_X2_write⟩ ⟨(Nat.le_of_ble_eq_true rfl), (Nat.le_of_ble_eq_true rfl)⟩) hF hS hL.2 (fun _ h => h) hP (va_recv (q := (RX2, TX2, 2)) hK hP (ci := 2) rfl (q0 := 1) rfl) rfl hl.1 rfl (Nat.le_of_ble_eq_true rfl) ⟨(Nat.le_of_ble_eq_true rfl), (Nat.le_of_ble_eq_true rfl)⟩ dX0_attempt_7 (fun H locs hP _ hS => ?_)
  refine W.eq (g2 := F0 m 10 ls []) rfl ?_
  refine lv_aload_n hx hb dX0_attempt_10 rfl (lv_at hl 0 rfl) ?_
  refine lv_iload_n hx hb dX0_attempt_11 rfl (lv_at hl 1 rfl) ?_
  refine xMdV (nL := 4) ⟨hx, hb, hml, hown, hts⟩ (c_X0_fill l E a (s_X2_write u p1 p2 p3) p1 (hp0) hL) (cwV 1 hts gX0_attempt_X0_fill rfl rfl rfl ⟨rfl, hd_X0_fill⟩ ⟨(Nat.le_of_ble_eq_true rfl), (Nat.le_of_ble_eq_true rfl)⟩) hF hS hL.2 (fun _ h => h) hP (va_recv (q := (RX0, TX0, 8)) hK hP (ci := 0) rfl (q0 := 7) rfl) rfl hl.1 rfl (Nat.le_of_ble_eq_true rfl) ⟨(Nat.le_of_ble_eq_true rfl), (Nat.le_of_ble_eq_true rfl)⟩ dX0_attempt_12 (fun H locs hP _ hS => ?_)
  refine W.eq (g2 := F0 m 15 ls []) rfl ?_
  refine lv_aload_n hx hb dX0_attempt_15 rfl (lv_at hl 0 rfl) ?_
  refine lv_iload_n hx hb dX0_attempt_16 rfl (lv_at hl 1 rfl) ?_
  refine lv_iconst (v := 1) hx hb dX0_attempt_17 rfl ?_
  refine lv_iadd hx hb dX0_attempt_18 ?_
  refine xMdV (nL := 4) ⟨hx, hb, hml, hown, hts⟩ (c_X0_fill l E a (s_X0_fill (s_X2_write u p1 p2 p3) p1) (p1 + 1) (by rw [s_X0_fill_1]; exact hp0) hL) (cwV 1 hts gX0_attempt_X0_fill rfl rfl rfl ⟨rfl, hd_X0_fill⟩ ⟨(Nat.le_of_ble_eq_true rfl), (Nat.le_of_ble_eq_true rfl)⟩) hF hS hL.2 (fun _ h => h) hP (va_recv (q := (RX0, TX0, 8)) hK hP (ci := 0) rfl (q0 := 7) rfl) rfl hl.1 rfl (Nat.le_of_ble_eq_true rfl) ⟨(Nat.le_of_ble_eq_true rfl), (Nat.le_of_ble_eq_true rfl)⟩ dX0_attempt_19 (fun H locs hP _ hS => ?_)
  refine W.eq (g2 := F0 m 22 ls []) rfl ?_
  have hR : s_X0_attempt u p1 p2 p3 = s_X0_fill (s_X0_fill (s_X2_write u p1 p2 p3) p1) (p1 + 1) := hR
  exact W.vret hx hb hr (fun t ht _ => by rw [hR]; exact ⟨⟨rfl, by rw [ht]; exact hP⟩, hS.F ht⟩) hS.2.2 dX0_attempt_22
def s_X5_rule (u : xU) (p1 : Int32) (p2 : Int32) : Int64 × xU :=
  if (s_X5_within p1 0 (8 - 1)) = 0 then
    (xNO, u)
  else
    if (s_X5_within p2 (s_X5_cell (xStL 4) (xStV 4) p1) (s_X5_cell (xStL 5) (xStV 5) p1)) = 0 then
      (xNO, u)
    else
      ((s_X5_cell 8 (u.1 5) p1).toInt64, uR u 5 (s_X5_mark 8 (u.1 5) p1 p2))
abbrev rm_X5_rule : Room := { frames := 1, cells := 0, slots := 0, locals := 22 }
set_option maxHeartbeats 8000000 in
set_option maxRecDepth 100000 in
theorem c_X5_rule (l : Launch) (E : xG) (a : Nat → Nat) (u : xU) (p1 : Int32) (p2 : Int32) (hL : xOK E (LX a)) : xMd l E yX5_rule wsX5_rule rm_X5_rule (LX a) [.ref (a 0), .int p1, .int p2] (wX E a u) (some (.long ((s_X5_rule u p1 p2).1))) (wX E a ((s_X5_rule u p1 p2).2)) := by
  refine xMd.of (cc := cX5_rule) (maxL := 4) (ret := (some .long)) (by decide) rfl (Nat.le_of_ble_eq_true rfl) ?_
  intro p e s m below meth c ls hAt hF hP hS hl
  obtain ⟨hx, hb, hr, hml, hown, hts, hlocks, -⟩ := hAt
  have hown : s.vm.findClass RX5 = some m.cls := hown
  have hl : lv_has ls 4 [(0, .ref (a 0)), (1, .int p1), (2, .int p2)] := hl
  have hK := hF.1
  have hA := hL.2
  change W p l e rm_X5_rule s m ([.ref (a 0), .int p1, .int p2] : List Value).toArray below meth c s.heap [] 0 0 (xQmd E below (LX a) (some (.long ((s_X5_rule u p1 p2).1))) (wX E a ((s_X5_rule u p1 p2).2)) ([.ref (a 0), .int p1, .int p2] : List Value).toArray s) _
  have hS : va_S (· ∈ LX a) s.heap s.heap [] := hS
  have hR : s_X5_rule u p1 p2 = s_X5_rule u p1 p2 := rfl
  refine lv_iload_n hx hb dX5_rule_0 rfl (lv_at hl 1 rfl) ?_
  refine lv_iconst (v := 0) hx hb dX5_rule_1 rfl ?_
  refine lv_aload_n hx hb dX5_rule_2 rfl (lv_at hl 0 rfl) ?_
  refine va_get (D := xD E) (ci := 5) (v := .ref (a 5)) (C := RX5) (T := TX5) (N := 9) hx hb hts (by decide +kernel) hown hK hP 0 rfl rfl 2 (by decide) (hts (.fieldLink RX5 30 "RailOffsets" "rules" "[I") (by decide +kernel)) (fun _ h => h) rfl dX5_rule_3 ?_
  refine va_alen (v := 8) hx hb hK hP 5 0 rfl rfl rfl dX5_rule_6 ?_
  refine lv_iconst (v := 1) hx hb dX5_rule_7 rfl ?_
  refine lv_isub hx hb dX5_rule_8 ?_
  refine xRoS (nL := 4) ⟨hx, hb, hml, hown, hts⟩ (c_X5_within l E p1 0 (8 - 1)) (va_cwS 3 hts gX5_rule_X5_within rfl rfl rfl hd_X5_within ⟨(Nat.le_of_ble_eq_true rfl), (Nat.le_of_ble_eq_true rfl)⟩) hF hS hA (hP.sub [] rfl) rfl hl.1 rfl (Nat.le_of_ble_eq_true rfl) ⟨(Nat.le_of_ble_eq_true rfl), (Nat.le_of_ble_eq_true rfl)⟩ dX5_rule_9 ?_
  refine W.eq (g2 := F0 m 12 ls [.int (s_X5_within p1 0 (8 - 1))]) rfl ?_
  refine lv_if_ne (tgt := 19) hx hb dX5_rule_12 rfl (fun q1 => ?_) (fun q1 => ?_)
  · have hR := hR.trans (if_neg q1)
    refine lv_iload_n hx hb dX5_rule_19 rfl (lv_at hl 2 rfl) ?_
    refine va_gets (C := RX5) hx hb ((hF.2.2.1 4 (by decide)).1.narrow hA) hS hown (hts (.fieldLink RX5 114 "RailOffsets" "RULE_LEAST" "[I") (by decide +kernel)) (fun _ h => h) dX5_rule_20 ?_
    refine lv_iload_n hx hb dX5_rule_23 rfl (lv_at hl 1 rfl) ?_
    refine xRoS (nL := 4) ⟨hx, hb, hml, hown, hts⟩ (c_X5_cell_st l E 4 (by decide) p1) (va_cwS 2 hts gX5_rule_X5_cell rfl rfl rfl hd_X5_cell ⟨(Nat.le_of_ble_eq_true rfl), (Nat.le_of_ble_eq_true rfl)⟩) hF hS hA (hP.sub [] rfl) rfl hl.1 rfl (Nat.le_of_ble_eq_true rfl) ⟨(Nat.le_of_ble_eq_true rfl), (Nat.le_of_ble_eq_true rfl)⟩ dX5_rule_24 ?_
    refine W.eq (g2 := F0 m 27 ls [.int (s_X5_cell (xStL 4) (xStV 4) p1), .int p2]) rfl ?_
    refine va_gets (C := RX5) hx hb ((hF.2.2.1 5 (by decide)).1.narrow hA) hS hown (hts (.fieldLink RX5 121 "RailOffsets" "RULE_MOST" "[I") (by decide +kernel)) (fun _ h => h) dX5_rule_27 ?_
    refine lv_iload_n hx hb dX5_rule_30 rfl (lv_at hl 1 rfl) ?_
    refine xRoS (nL := 4) ⟨hx, hb, hml, hown, hts⟩ (c_X5_cell_st l E 5 (by decide) p1) (va_cwS 2 hts gX5_rule_X5_cell rfl rfl rfl hd_X5_cell ⟨(Nat.le_of_ble_eq_true rfl), (Nat.le_of_ble_eq_true rfl)⟩) hF hS hA (hP.sub [] rfl) rfl hl.1 rfl (Nat.le_of_ble_eq_true rfl) ⟨(Nat.le_of_ble_eq_true rfl), (Nat.le_of_ble_eq_true rfl)⟩ dX5_rule_31 ?_
    refine W.eq (g2 := F0 m 34 ls [.int (s_X5_cell (xStL 5) (xStV 5) p1), .int (s_X5_cell (xStL 4) (xStV 4) p1), .int p2]) rfl ?_
    refine xRoS (nL := 4) ⟨hx, hb, hml, hown, hts⟩ (c_X5_within l E p2 (s_X5_cell (xStL 4) (xStV 4) p1) (s_X5_cell (xStL 5) (xStV 5) p1)) (va_cwS 3 hts gX5_rule_X5_within rfl rfl rfl hd_X5_within ⟨(Nat.le_of_ble_eq_true rfl), (Nat.le_of_ble_eq_true rfl)⟩) hF hS hA (hP.sub [] rfl) rfl hl.1 rfl (Nat.le_of_ble_eq_true rfl) ⟨(Nat.le_of_ble_eq_true rfl), (Nat.le_of_ble_eq_true rfl)⟩ dX5_rule_34 ?_
    refine W.eq (g2 := F0 m 37 ls [.int (s_X5_within p2 (s_X5_cell (xStL 4) (xStV 4) p1) (s_X5_cell (xStL 5) (xStV 5) p1))]) rfl ?_
    refine lv_if_ne (tgt := 44) hx hb dX5_rule_37 rfl (fun q2 => ?_) (fun q2 => ?_)
    · have hR := hR.trans (if_neg q2)
      refine lv_aload_n hx hb dX5_rule_44 rfl (lv_at hl 0 rfl) ?_
      refine va_get (D := xD E) (ci := 5) (v := .ref (a 5)) (C := RX5) (T := TX5) (N := 9) hx hb hts (by decide +kernel) hown hK hP 0 rfl rfl 2 (by decide) (hts (.fieldLink RX5 30 "RailOffsets" "rules" "[I") (by decide +kernel)) (fun _ h => h) rfl dX5_rule_45 ?_
      refine lv_iload_n hx hb dX5_rule_48 rfl (lv_at hl 1 rfl) ?_
      refine xRoS (nL := 4) ⟨hx, hb, hml, hown, hts⟩ (c_X5_cell l E (a 5) 8 (u.1 5) p1) (va_cwS 2 hts gX5_rule_X5_cell rfl rfl rfl hd_X5_cell ⟨(Nat.le_of_ble_eq_true rfl), (Nat.le_of_ble_eq_true rfl)⟩) hF hS hA (hP.sub [5] rfl) rfl hl.1 rfl (Nat.le_of_ble_eq_true rfl) ⟨(Nat.le_of_ble_eq_true rfl), (Nat.le_of_ble_eq_true rfl)⟩ dX5_rule_49 ?_
      refine W.eq (g2 := F0 m 52 ls [.int (s_X5_cell 8 (u.1 5) p1)]) rfl ?_
      refine lv_istore_n (lv' := [(3, .int (s_X5_cell 8 (u.1 5) p1)), (0, .ref (a 0)), (1, .int p1), (2, .int p2)]) hx hb dX5_rule_52 rfl hl (by decide) rfl (fun ls hl => ?_)
      refine lv_aload_n hx hb dX5_rule_53 rfl (lv_at hl 1 rfl) ?_
      refine va_get (D := xD E) (ci := 5) (v := .ref (a 5)) (C := RX5) (T := TX5) (N := 9) hx hb hts (by decide +kernel) hown hK hP 0 rfl rfl 2 (by decide) (hts (.fieldLink RX5 30 "RailOffsets" "rules" "[I") (by decide +kernel)) (fun _ h => h) rfl dX5_rule_54 ?_
      refine lv_iload_n hx hb dX5_rule_57 rfl (lv_at hl 2 rfl) ?_
      refine lv_iload_n hx hb dX5_rule_58 rfl (lv_at hl 3 rfl) ?_
      refine xMdS (nL := 4) ⟨hx, hb, hml, hown, hts⟩ (c_X5_mark l E (a 5) 8 (u.1 5) p1 p2 (hL.2 _ (List.mem_of_getElem? (i := 5) rfl))) (va_cwS 3 hts gX5_rule_X5_mark rfl rfl rfl hd_X5_mark ⟨(Nat.le_of_ble_eq_true rfl), (Nat.le_of_ble_eq_true rfl)⟩) hF hS hL.2 (xsub1 (List.mem_of_getElem? (i := 5) rfl)) (hP.sub [5] rfl) rfl hl.1 rfl (Nat.le_of_ble_eq_true rfl) ⟨(Nat.le_of_ble_eq_true rfl), (Nat.le_of_ble_eq_true rfl)⟩ dX5_rule_59 (fun H1 locs hP1 hk hS => ?_)
      have hP : va_P (xD E) vwCl (wX E a (uR u 5 (s_X5_mark 8 (u.1 5) p1 p2))) H1 := xset1 hP (xD_of (ws := wX E a u) (A := (· ∈ LX a)) hL.1 (fun _ h => h)) (p := 5) rfl hP1 hk
      generalize H1 = H at hP hS ⊢
      refine W.eq (g2 := F0 m 62 ls []) rfl ?_
      refine lv_iload_n hx hb dX5_rule_62 rfl (lv_at hl 0 rfl) ?_
      refine lv_i2l hx hb dX5_rule_63 rfl ?_
      have hR : s_X5_rule u p1 p2 = ((s_X5_cell 8 (u.1 5) p1).toInt64, uR u 5 (s_X5_mark 8 (u.1 5) p1 p2)) := hR
      exact W.lret (v := (s_X5_cell 8 (u.1 5) p1).toInt64) hx hb hr (fun t ht _ => by rw [hR]; dsimp only; exact ⟨⟨rfl, by rw [ht]; exact hP⟩, hS.F ht⟩) hS.2.2 dX5_rule_64
    · have hR := hR.trans (if_pos q2)
      refine lv_ldc2 (v := xNO) hx hb hown (hts (.constantLong RX5 112 (-9223372036854775808)) (by decide +kernel)) dX5_rule_40 ?_
      have hR : s_X5_rule u p1 p2 = (xNO, u) := hR
      exact W.lret (v := xNO) hx hb hr (fun t ht _ => by rw [hR]; dsimp only; exact ⟨⟨rfl, by rw [ht]; exact hP⟩, hS.F ht⟩) hS.2.2 dX5_rule_43
  · have hR := hR.trans (if_pos q1)
    refine lv_ldc2 (v := xNO) hx hb hown (hts (.constantLong RX5 112 (-9223372036854775808)) (by decide +kernel)) dX5_rule_15 ?_
    have hR : s_X5_rule u p1 p2 = (xNO, u) := hR
    exact W.lret (v := xNO) hx hb hr (fun t ht _ => by rw [hR]; dsimp only; exact ⟨⟨rfl, by rw [ht]; exact hP⟩, hS.F ht⟩) hS.2.2 dX5_rule_18
