/-! ===== what the reference's laying keeps ===== -/
def XSt (s : Int32) : Prop := 0 ≤ s.toInt ∧ s.toInt ≤ 200
theorem xvst {s : Int32} (h : XSt s) : vp_in s 201 := by
  rw [vp_in_iff]
  obtain ⟨h1, h2⟩ := h
  omega
def xLS (u w : xU) : Prop := (∀ k, k ≠ 3 → k ≠ 4 → k ≠ 5 → k ≠ 6 → k ≠ 7 → w.1 k = u.1 k) ∧ ∀ k, k ≠ 1 → w.2 k = u.2 k
theorem xLS.rfl' (u : xU) : xLS u u := ⟨fun _ _ _ _ _ _ => rfl, fun _ _ => rfl⟩
theorem xLS.trans' {u v w : xU} (h : xLS u v) (h2 : xLS v w) : xLS u w :=
  ⟨fun k a b c d e => (h2.1 k a b c d e).trans (h.1 k a b c d e), fun k a => (h2.2 k a).trans (h.2 k a)⟩
theorem xLS.uZ' (u : xU) (x : Int32) : xLS u (uZ u 1 x) := ⟨fun _ _ _ _ _ _ => rfl, fun k a => by simp only [uZ]; rw [if_neg a]⟩
theorem xLS.uA' (u : xU) (r i : Nat) (x : Int32) (hr : r = 3 ∨ r = 4 ∨ r = 5 ∨ r = 6 ∨ r = 7) : xLS u (uA u r i x) :=
  ⟨fun k a b c d e => by
    have : k ≠ r := by omega
    simp only [uA, uR]
    rw [if_neg this], fun k a => rfl⟩
theorem xl65_ls (K : xU → Int32 → xU) (hK : ∀ w y, xLS w (K w y)) : ∀ (n : Nat) (u : xU) (x1 x2 x3 x4 x5 x6 x7 : Int32), xLS u (s_X6_lays_L65 K n u x1 x2 x3 x4 x5 x6 x7) := by
  intro n
  induction n with
  | zero => intros; exact xLS.rfl' _
  | succ n ih =>
    intro u x1 x2 x3 x4 x5 x6 x7
    rw [s_X6_lays_L65]
    split
    · exact hK _ _
    · refine xLS.trans' ?_ (ih _ _ _ _ _ _ _ _)
      exact xLS.trans' (xLS.trans' (xLS.trans' (xLS.trans' (xLS.trans' (xLS.uZ' _ _) (xLS.uA' _ 3 _ _ (by omega))) (xLS.uA' _ 4 _ _ (by omega))) (xLS.uA' _ 5 _ _ (by omega))) (xLS.uA' _ 6 _ _ (by omega))) (xLS.uA' _ 7 _ _ (by omega))
theorem xl7_ls : ∀ (n : Nat) (u : xU) (x1 : Int32), xLS u (s_X6_lays_L7 n u x1) := by
  intro n
  induction n with
  | zero => intros; exact xLS.rfl' _
  | succ n ih =>
    intro u x1
    rw [s_X6_lays_L7]
    split
    · exact xLS.rfl' _
    · exact xl65_ls _ (fun w y => ih w y) _ _ _ _ _ _ _ _ _
theorem xlays_ls (u : xU) : xLS u (s_X6_lays u) := xLS.trans' (xLS.uZ' u 0) (xl7_ls _ _ _)
theorem XW.ls {u w : xU} (h : XW u) (hs : xLS u w) : XW w := by
  unfold XW
  rw [hs.1 1 (by decide) (by decide) (by decide) (by decide) (by decide)]
  exact h
theorem xlays_w {u : xU} (h : XW u) : XW (s_X6_lays u) := h.ls (xlays_ls u)
theorem xk_st {p n k N : Int32} (h : XK p n k N) : XSt N := by
  obtain ⟨h1, h2, h3, h4, h5, h6, h7⟩ := h
  have h1' := h1.1
  have h1'' := h1.2
  exact ⟨h6, by omega⟩
theorem xi_st {p N : Int32} (h : XI N p) : XSt N := by
  obtain ⟨h1, h2, h3, h4⟩ := h
  exact ⟨h3, by omega⟩
theorem xl65_st (K : xU → Int32 → xU) (hK : ∀ w y, XW w → XI (w.2 1) y → XSt ((K w y).2 1)) : ∀ (n : Nat) (u : xU) (x1 x2 x3 x4 x5 x6 x7 : Int32), XW u → XK x1 x3 x7 (u.2 1) → XSt ((s_X6_lays_L65 K n u x1 x2 x3 x4 x5 x6 x7).2 1) := by
  intro n
  induction n with
  | zero => intro u x1 x2 x3 x4 x5 x6 x7 h h2; exact xk_st h2
  | succ n ih =>
    intro u x1 x2 x3 x4 x5 x6 x7 h h2
    rw [s_X6_lays_L65]
    split
    · rename_i q
      exact hK _ _ h (xlout h2 q)
    · rename_i q
      exact ih _ _ _ _ _ _ _ _ h (xkup h2 q)
theorem xl7_st : ∀ (n : Nat) (u : xU) (x1 : Int32), XW u → XI (u.2 1) x1 → XSt ((s_X6_lays_L7 n u x1).2 1) := by
  intro n
  induction n with
  | zero => intro u x1 h h2; exact xi_st h2
  | succ n ih =>
    intro u x1 h h2
    rw [s_X6_lays_L7]
    split
    · exact xi_st h2
    · rename_i q
      exact xl65_st _ (fun w y hw hy => ih w y hw hy) _ _ _ _ _ _ _ _ _ h (xkin h h2 q)
theorem xlays_st {u : xU} (h : XW u) : XSt ((s_X6_lays u).2 1) := xl7_st _ _ _ h xi0
theorem xins {u : xU} {s N : Int32} {lo : Int64} (h : XSt N) (q : ¬ s_X6_in u s.toInt64 lo N.toInt64 = 0) (hlo : 0 ≤ lo.toInt) : XSt s := by
  have q2 := xin32 q
  rw [Int32.toInt_toInt64] at q2
  exact ⟨by omega, Int.le_trans q2.2 h.2⟩
/-! ===== first and last station ===== -/
theorem xlen {u : xU} (h : XW u) {p : Int32} (hp : XP p) : 0 ≤ (s_X6_of0 u p 1).toInt ∧ (s_X6_of0 u p 1).toInt ≤ 20 := by
  obtain ⟨n, h1, h2, h3, h4⟩ := h
  have e : s_X6_of0 u p 1 = u.1 1 (4 * p.toInt.toNat + 1) := by
    unfold s_X6_of0
    have e2 := xadd4 hp (j := 1) (by decide) (by decide)
    rw [show ((4 * p) + 1).toNatClampNeg = 4 * p.toInt.toNat + 1 from ?_]
    show ((4 * p) + 1).toInt.toNat = _
    rw [e2, show (1 : Int32).toInt = 1 from rfl]
    have := hp.1
    omega
  rw [e]
  exact h3 p.toInt.toNat 1 (by have := hp.2; omega) (by decide)
theorem xfirstL {u : xU} (h : XW u) {p : Int32} (h0 : 0 ≤ p.toInt) (hp : p.toInt ≤ 10) : ∀ (n : Nat) (x2 x3 : Int32), 0 ≤ x3.toInt → x3.toInt ≤ p.toInt → 1 ≤ x2.toInt → x2.toInt ≤ 1 + 20 * x3.toInt → (p.toInt - x3.toInt).toNat < n → 1 ≤ (s_X6_firstOf_L4 n u p x2 x3).toInt ∧ (s_X6_firstOf_L4 n u p x2 x3).toInt ≤ 1 + 20 * p.toInt := by
  intro n
  induction n with
  | zero => intro x2 x3 a b c d hn; exact absurd hn (Nat.not_lt_zero _)
  | succ n ih =>
    intro x2 x3 a b c d hn
    rw [s_X6_firstOf_L4]
    split
    · exact ⟨c, by omega⟩
    · rename_i q
      rw [fa_le] at q
      have hl := xlen h (p := x3) ⟨a, by omega⟩
      have e1 : (x3 + 1).toInt = x3.toInt + 1 := xinc (by omega)
      have e2 : (x2 + s_X6_of0 u x3 1).toInt = x2.toInt + (s_X6_of0 u x3 1).toInt := fb_addI (by omega) (by omega)
      exact ih _ _ (by omega) (by omega) (by omega) (by omega) (by omega)
theorem xfirst {u : xU} (h : XW u) {p : Int32} (h0 : 0 ≤ p.toInt) (hp : p.toInt ≤ 10) : 1 ≤ (s_X6_firstOf u p).toInt ∧ (s_X6_firstOf u p).toInt ≤ 1 + 20 * p.toInt := by
  unfold s_X6_firstOf
  exact xfirstL h h0 hp _ _ _ (by decide) h0 (by decide) (by decide) (Nat.lt_succ_self _)
theorem xlasto {u : xU} (h : XW u) {p : Int32} (hp : XP p) : 0 ≤ (s_X6_lastOf u p).toInt ∧ (s_X6_lastOf u p).toInt ≤ 20 + 20 * p.toInt := by
  have h1 := xfirst h hp.1 (Int.le_of_lt hp.2)
  have h2 := xlen h hp
  have h3 := hp.1
  have h4 := hp.2
  have e2 : (s_X6_firstOf u p + s_X6_of0 u p 1).toInt = (s_X6_firstOf u p).toInt + (s_X6_of0 u p 1).toInt := fb_addI (by omega) (by omega)
  have e : (s_X6_lastOf u p).toInt = (s_X6_firstOf u p).toInt + (s_X6_of0 u p 1).toInt - 1 := by
    unfold s_X6_lastOf
    rw [fb_subI (by rw [e2, show (1 : Int32).toInt = 1 from rfl]; omega) (by rw [e2, show (1 : Int32).toInt = 1 from rfl]; omega), e2]
    rfl
  omega
def XJ (i : Int32) : Prop := 0 ≤ i.toInt ∧ i.toInt ≤ 8
theorem XJ.p {i : Int32} (h : XJ i) : XP i := ⟨h.1, by have := h.2; omega⟩
theorem xls0 {u : xU} (h : XW u) {i : Int32} (hi : XJ i) : vp_in (s_X6_lastOf u i) 201 := by
  have h1 := xlasto h hi.p
  have h2 := hi.2
  rw [vp_in_iff]
  omega
theorem xls1 {u : xU} (h : XW u) {i : Int32} (hi : XJ i) : vp_in (s_X6_lastOf u i + 1) 201 := by
  have h1 := xlasto h hi.p
  have h2 := hi.2
  rw [vp_in_iff, xinc (by omega)]
  omega
theorem xjin {u w : xU} (h : XW u) {i : Int32} (q : ¬ s_X6_in w i.toInt64 0 (u.1 1 40 - 2).toInt64 = 0) : XJ i := by
  obtain ⟨n, h1, h2, h3, h4⟩ := h
  have q2 := xin32 q
  rw [Int32.toInt_toInt64, h2, xsub1' h1 (by decide) (by decide), show (2 : Int32).toInt = 2 from rfl] at q2
  exact ⟨q2.1, by have := q2.2; omega⟩
theorem xjup {u : xU} (h : XW u) {i : Int32} (h0 : ¬ i < 0) (q : ¬ u.1 1 40 - 1 ≤ i) : XJ i := by
  obtain ⟨n, h1, h2, h3, h4⟩ := h
  rw [fa_lt, show (0 : Int32).toInt = 0 from rfl] at h0
  rw [h2, fa_le, xsub1' h1 (by decide) (by decide), show (1 : Int32).toInt = 1 from rfl] at q
  exact ⟨by omega, by omega⟩
def s_X6_isStation (u : xU) (p1 : Int32) : Int32 :=
  s_X6_in u p1.toInt64 1 ((u.2 1).toInt64)
abbrev rm_X6_isStation : Room := { frames := 1, cells := 0, slots := 0, locals := 25 }
set_option maxHeartbeats 8000000 in
set_option maxRecDepth 100000 in
theorem c_X6_isStation (l : Launch) (E : xG) (a : Nat → Nat) (u : xU) (p1 : Int32) : xRo l E yX6_isStation wsX6_isStation rm_X6_isStation [.ref (a 0), .int p1] (wM E a u) (some (.int (s_X6_isStation u p1))) := by
  refine xRo.of (cc := cX6_isStation) (maxL := 2) (ret := (some .boolean)) (by decide) rfl (Nat.le_of_ble_eq_true rfl) ?_
  intro p e s m below meth c ls hAt hF hP hS hl
  obtain ⟨hx, hb, hr, hml, hown, hts, hlocks, -⟩ := hAt
  have hown : s.vm.findClass RX6 = some m.cls := hown
  have hl : lv_has ls 2 [(0, .ref (a 0)), (1, .int p1)] := hl
  have hK := hF.1
  have hA : ∀ q : Nat, (fun _ => False) q → xA0 E q := fun _ h => h.elim
  change W p l e rm_X6_isStation s m ([.ref (a 0), .int p1] : List Value).toArray below meth c s.heap [] 0 0 (xQro below (some (.int (s_X6_isStation u p1))) ([.ref (a 0), .int p1] : List Value).toArray s) _
  have hR : s_X6_isStation u p1 = s_X6_isStation u p1 := rfl
  refine lv_iload_n hx hb dX6_isStation_0 rfl (lv_at hl 1 rfl) ?_
  refine lv_i2l hx hb dX6_isStation_1 rfl ?_
  refine lv_lconst (v := 1) hx hb dX6_isStation_2 rfl ?_
  refine lv_aload_n hx hb dX6_isStation_3 rfl (lv_at hl 0 rfl) ?_
  refine va_get (D := xD E) (ci := 6) (v := .int (u.2 1)) (C := RX6) (T := TX6) (N := 28) hx hb hts (by decide +kernel) hown hK hP 0 rfl rfl 8 (by decide) (hts (.fieldLink RX6 130 "RailOffsetsModel" "stations" "I") (by decide +kernel)) (fun _ h => h) rfl dX6_isStation_4 ?_
  refine lv_i2l hx hb dX6_isStation_7 rfl ?_
  refine xRoS (nL := 2) ⟨hx, hb, hml, hown, hts⟩ (c_X6_in l E a u p1.toInt64 1 ((u.2 1).toInt64)) (va_cwS 3 hts gX6_isStation_X6_in rfl rfl rfl hd_X6_in ⟨(Nat.le_of_ble_eq_true rfl), (Nat.le_of_ble_eq_true rfl)⟩) hF hS hA hP rfl hl.1 rfl (Nat.le_of_ble_eq_true rfl) ⟨(Nat.le_of_ble_eq_true rfl), (Nat.le_of_ble_eq_true rfl)⟩ dX6_isStation_8 ?_
  refine W.eq (g2 := F0 m 11 ls [.int (s_X6_in u p1.toInt64 1 ((u.2 1).toInt64))]) rfl ?_
  have hR : s_X6_isStation u p1 = s_X6_in u p1.toInt64 1 ((u.2 1).toInt64) := hR
  exact W.zret (v := s_X6_in u p1.toInt64 1 ((u.2 1).toInt64)) (ty := .boolean) hx hb hr (xnb (bs_X6_in ..)) (fun t ht _ => ⟨congrArg (fun z => Outcome.returned (some (Value.int z))) hR.symm, ht⟩) (fun _ h => by cases h) dX6_isStation_11
def s_X6_at (u : xU) (p1 : Int32) (p2 : Int32) : Int64 × xU :=
  if (s_X6_in (s_X6_lays u) p1.toInt64 0 (((s_X6_lays u).2 1).toInt64)) = 0 then
    (xNO, s_X6_lays u)
  else
    if (s_X6_in (s_X6_lays u) p2.toInt64 0 4) = 0 then
      (xNO, s_X6_lays u)
    else
      if p1 = 0 then
        if p2 = 4 then
          (xNO, s_X6_lays u)
        else
          if p2 = 0 then
            (((s_X6_lays u).1 3 p1.toNatClampNeg).toInt64, s_X6_lays u)
          else
            if p2 = 1 then
              (((s_X6_lays u).1 4 p1.toNatClampNeg).toInt64, s_X6_lays u)
            else
              if p2 = 2 then
                (((s_X6_lays u).1 6 p1.toNatClampNeg).toInt64, s_X6_lays u)
              else
                if p2 = 3 then
                  (((s_X6_lays u).1 7 p1.toNatClampNeg).toInt64, s_X6_lays u)
                else
                  (((s_X6_lays u).1 5 p1.toNatClampNeg).toInt64, s_X6_lays u)
      else
        if p2 = 0 then
          (((s_X6_lays u).1 3 p1.toNatClampNeg).toInt64, s_X6_lays u)
        else
          if p2 = 1 then
            (((s_X6_lays u).1 4 p1.toNatClampNeg).toInt64, s_X6_lays u)
          else
            if p2 = 2 then
              (((s_X6_lays u).1 6 p1.toNatClampNeg).toInt64, s_X6_lays u)
            else
              if p2 = 3 then
                (((s_X6_lays u).1 7 p1.toNatClampNeg).toInt64, s_X6_lays u)
              else
                (((s_X6_lays u).1 5 p1.toNatClampNeg).toInt64, s_X6_lays u)
abbrev rm_X6_at : Room := { frames := 2, cells := 0, slots := 0, locals := 50 }
set_option maxHeartbeats 8000000 in
set_option maxRecDepth 100000 in
theorem c_X6_at (l : Launch) (E : xG) (a : Nat → Nat) (u : xU) (p1 : Int32) (p2 : Int32) (hp0 : XW u) (hL : xOK E (LM a)) : xMd l E yX6_at wsX6_at rm_X6_at (LM a) [.ref (a 0), .int p1, .int p2] (wM E a u) (some (.long ((s_X6_at u p1 p2).1))) (wM E a ((s_X6_at u p1 p2).2)) := by
  refine xMd.of (cc := cX6_at) (maxL := 3) (ret := (some .long)) (by decide) rfl (Nat.le_of_ble_eq_true rfl) ?_
  intro p e s m below meth c ls hAt hF hP hS hl
  obtain ⟨hx, hb, hr, hml, hown, hts, hlocks, -⟩ := hAt
  have hown : s.vm.findClass RX6 = some m.cls := hown
  have hl : lv_has ls 3 [(0, .ref (a 0)), (1, .int p1), (2, .int p2)] := hl
  have hK := hF.1
  have hA := hL.2
  change W p l e rm_X6_at s m ([.ref (a 0), .int p1, .int p2] : List Value).toArray below meth c s.heap [] 0 0 (xQmd E below (LM a) (some (.long ((s_X6_at u p1 p2).1))) (wM E a ((s_X6_at u p1 p2).2)) ([.ref (a 0), .int p1, .int p2] : List Value).toArray s) _
  have hS : va_S (· ∈ LM a) s.heap s.heap [] := hS
  have hR : s_X6_at u p1 p2 = s_X6_at u p1 p2 := rfl
  refine lv_aload_n hx hb dX6_at_0 rfl (lv_at hl 0 rfl) ?_
  refine xMdV (nL := 3) ⟨hx, hb, hml, hown, hts⟩ (c_X6_lays l E a u  (hp0) hL) (cwV 0 hts gX6_at_X6_lays rfl rfl rfl ⟨rfl, hd_X6_lays⟩ ⟨(Nat.le_of_ble_eq_true rfl), (Nat.le_of_ble_eq_true rfl)⟩) hF hS hL.2 (fun _ h => h) hP (va_recv (q := (RX6, TX6, 28)) hK hP (ci := 6) rfl (q0 := 0) rfl) rfl hl.1 rfl (Nat.le_of_ble_eq_true rfl) ⟨(Nat.le_of_ble_eq_true rfl), (Nat.le_of_ble_eq_true rfl)⟩ dX6_at_1 (fun H locs hP _ hS => ?_)
  refine W.eq (g2 := F0 m 4 ls []) rfl ?_
  refine lv_iload_n hx hb dX6_at_4 rfl (lv_at hl 1 rfl) ?_
  refine lv_i2l hx hb dX6_at_5 rfl ?_
  refine lv_lconst (v := 0) hx hb dX6_at_6 rfl ?_
  refine lv_aload_n hx hb dX6_at_7 rfl (lv_at hl 0 rfl) ?_
  refine va_get (D := xD E) (ci := 6) (v := .int ((s_X6_lays u).2 1)) (C := RX6) (T := TX6) (N := 28) hx hb hts (by decide +kernel) hown hK hP 0 rfl rfl 8 (by decide) (hts (.fieldLink RX6 130 "RailOffsetsModel" "stations" "I") (by decide +kernel)) (fun _ h => h) rfl dX6_at_8 ?_
  refine lv_i2l hx hb dX6_at_11 rfl ?_
  refine xRoS (nL := 3) ⟨hx, hb, hml, hown, hts⟩ (c_X6_in l E a (s_X6_lays u) p1.toInt64 0 (((s_X6_lays u).2 1).toInt64)) (va_cwS 3 hts gX6_at_X6_in rfl rfl rfl hd_X6_in ⟨(Nat.le_of_ble_eq_true rfl), (Nat.le_of_ble_eq_true rfl)⟩) hF hS hA hP rfl hl.1 rfl (Nat.le_of_ble_eq_true rfl) ⟨(Nat.le_of_ble_eq_true rfl), (Nat.le_of_ble_eq_true rfl)⟩ dX6_at_12 ?_
  refine W.eq (g2 := F0 m 15 ls [.int (s_X6_in (s_X6_lays u) p1.toInt64 0 (((s_X6_lays u).2 1).toInt64))]) rfl ?_
  refine lv_if_eq (tgt := 39) hx hb dX6_at_15 rfl (fun q1 => ?_) (fun q1 => ?_)
  · have hR := hR.trans (if_pos q1)
    refine lv_ldc2 (v := xNO) hx hb hown (hts (.constantLong RX6 125 (-9223372036854775808)) (by decide +kernel)) dX6_at_39 ?_
    have hR : s_X6_at u p1 p2 = (xNO, s_X6_lays u) := hR
    exact W.lret (v := xNO) hx hb hr (fun t ht _ => by rw [hR]; dsimp only; exact ⟨⟨rfl, by rw [ht]; exact hP⟩, hS.F ht⟩) hS.2.2 dX6_at_42
  · have hR := hR.trans (if_neg q1)
    refine lv_iload_n hx hb dX6_at_18 rfl (lv_at hl 2 rfl) ?_
    refine lv_i2l hx hb dX6_at_19 rfl ?_
    refine lv_lconst (v := 0) hx hb dX6_at_20 rfl ?_
    refine lv_ldc2 (v := 4) hx hb hown (hts (.constantLong RX6 137 (4)) (by decide +kernel)) dX6_at_21 ?_
    refine xRoS (nL := 3) ⟨hx, hb, hml, hown, hts⟩ (c_X6_in l E a (s_X6_lays u) p2.toInt64 0 4) (va_cwS 3 hts gX6_at_X6_in rfl rfl rfl hd_X6_in ⟨(Nat.le_of_ble_eq_true rfl), (Nat.le_of_ble_eq_true rfl)⟩) hF hS hA hP rfl hl.1 rfl (Nat.le_of_ble_eq_true rfl) ⟨(Nat.le_of_ble_eq_true rfl), (Nat.le_of_ble_eq_true rfl)⟩ dX6_at_24 ?_
    refine W.eq (g2 := F0 m 27 ls [.int (s_X6_in (s_X6_lays u) p2.toInt64 0 4)]) rfl ?_
    refine lv_if_eq (tgt := 39) hx hb dX6_at_27 rfl (fun q2 => ?_) (fun q2 => ?_)
    · have hR := hR.trans (if_pos q2)
      refine lv_ldc2 (v := xNO) hx hb hown (hts (.constantLong RX6 125 (-9223372036854775808)) (by decide +kernel)) dX6_at_39 ?_
      have hR : s_X6_at u p1 p2 = (xNO, s_X6_lays u) := hR
      exact W.lret (v := xNO) hx hb hr (fun t ht _ => by rw [hR]; dsimp only; exact ⟨⟨rfl, by rw [ht]; exact hP⟩, hS.F ht⟩) hS.2.2 dX6_at_42
    · have hR := hR.trans (if_neg q2)
      refine lv_iload_n hx hb dX6_at_30 rfl (lv_at hl 1 rfl) ?_
      refine lv_if_ne (tgt := 43) hx hb dX6_at_31 rfl (fun q3 => ?_) (fun q3 => ?_)
      · have hR := hR.trans (if_neg q3)
        refine lv_iload_n hx hb dX6_at_43 rfl (lv_at hl 2 rfl) ?_
        by_cases q4 : p2 = 0
        · have hR := hR.trans (if_pos q4)
          refine lv_tableIn (tgt := 76) (off := 32) hx hb dX6_at_44 (by rw [q4]; decide) (by rw [q4]; decide) (by rw [q4]; rfl) rfl ?_
          refine lv_aload_n hx hb dX6_at_76 rfl (lv_at hl 0 rfl) ?_
          refine va_get (D := xD E) (ci := 6) (v := .ref (a 3)) (C := RX6) (T := TX6) (N := 28) hx hb hts (by decide +kernel) hown hK hP 0 rfl rfl 3 (by decide) (hts (.fieldLink RX6 18 "RailOffsetsModel" "versine" "[I") (by decide +kernel)) (fun _ h => h) rfl dX6_at_77 ?_
          refine lv_iload_n hx hb dX6_at_80 rfl (lv_at hl 1 rfl) ?_
          refine va_iald hx hb hK hP 3 0 rfl rfl (xvst (xins (lo := 0) (xlays_st hp0) q1 (by decide))) dX6_at_81 ?_
          refine lv_i2l hx hb dX6_at_82 rfl ?_
          have hR : s_X6_at u p1 p2 = (((s_X6_lays u).1 3 p1.toNatClampNeg).toInt64, s_X6_lays u) := hR
          exact W.lret (v := ((s_X6_lays u).1 3 p1.toNatClampNeg).toInt64) hx hb hr (fun t ht _ => by rw [hR]; dsimp only; exact ⟨⟨rfl, by rw [ht]; exact hP⟩, hS.F ht⟩) hS.2.2 dX6_at_83
        have hR := hR.trans (if_neg q4)
        by_cases q5 : p2 = 1
        · have hR := hR.trans (if_pos q5)
          refine lv_tableIn (tgt := 84) (off := 40) hx hb dX6_at_44 (by rw [q5]; decide) (by rw [q5]; decide) (by rw [q5]; rfl) rfl ?_
          refine lv_aload_n hx hb dX6_at_84 rfl (lv_at hl 0 rfl) ?_
          refine va_get (D := xD E) (ci := 6) (v := .ref (a 4)) (C := RX6) (T := TX6) (N := 28) hx hb hts (by decide +kernel) hown hK hP 0 rfl rfl 4 (by decide) (hts (.fieldLink RX6 21 "RailOffsetsModel" "height" "[I") (by decide +kernel)) (fun _ h => h) rfl dX6_at_85 ?_
          refine lv_iload_n hx hb dX6_at_88 rfl (lv_at hl 1 rfl) ?_
          refine va_iald hx hb hK hP 4 0 rfl rfl (xvst (xins (lo := 0) (xlays_st hp0) q1 (by decide))) dX6_at_89 ?_
          refine lv_i2l hx hb dX6_at_90 rfl ?_
          have hR : s_X6_at u p1 p2 = (((s_X6_lays u).1 4 p1.toNatClampNeg).toInt64, s_X6_lays u) := hR
          exact W.lret (v := ((s_X6_lays u).1 4 p1.toNatClampNeg).toInt64) hx hb hr (fun t ht _ => by rw [hR]; dsimp only; exact ⟨⟨rfl, by rw [ht]; exact hP⟩, hS.F ht⟩) hS.2.2 dX6_at_91
        have hR := hR.trans (if_neg q5)
        by_cases q6 : p2 = 2
        · have hR := hR.trans (if_pos q6)
          refine lv_tableIn (tgt := 92) (off := 48) hx hb dX6_at_44 (by rw [q6]; decide) (by rw [q6]; decide) (by rw [q6]; rfl) rfl ?_
          refine lv_aload_n hx hb dX6_at_92 rfl (lv_at hl 0 rfl) ?_
          refine va_get (D := xD E) (ci := 6) (v := .ref (a 6)) (C := RX6) (T := TX6) (N := 28) hx hb hts (by decide +kernel) hown hK hP 0 rfl rfl 6 (by decide) (hts (.fieldLink RX6 27 "RailOffsetsModel" "turn" "[I") (by decide +kernel)) (fun _ h => h) rfl dX6_at_93 ?_
          refine lv_iload_n hx hb dX6_at_96 rfl (lv_at hl 1 rfl) ?_
          refine va_iald hx hb hK hP 6 0 rfl rfl (xvst (xins (lo := 0) (xlays_st hp0) q1 (by decide))) dX6_at_97 ?_
          refine lv_i2l hx hb dX6_at_98 rfl ?_
          have hR : s_X6_at u p1 p2 = (((s_X6_lays u).1 6 p1.toNatClampNeg).toInt64, s_X6_lays u) := hR
          exact W.lret (v := ((s_X6_lays u).1 6 p1.toNatClampNeg).toInt64) hx hb hr (fun t ht _ => by rw [hR]; dsimp only; exact ⟨⟨rfl, by rw [ht]; exact hP⟩, hS.F ht⟩) hS.2.2 dX6_at_99
        have hR := hR.trans (if_neg q6)
        by_cases q7 : p2 = 3
        · have hR := hR.trans (if_pos q7)
          refine lv_tableIn (tgt := 100) (off := 56) hx hb dX6_at_44 (by rw [q7]; decide) (by rw [q7]; decide) (by rw [q7]; rfl) rfl ?_
          refine lv_aload_n hx hb dX6_at_100 rfl (lv_at hl 0 rfl) ?_
          refine va_get (D := xD E) (ci := 6) (v := .ref (a 7)) (C := RX6) (T := TX6) (N := 28) hx hb hts (by decide +kernel) hown hK hP 0 rfl rfl 7 (by decide) (hts (.fieldLink RX6 30 "RailOffsetsModel" "offset" "[I") (by decide +kernel)) (fun _ h => h) rfl dX6_at_101 ?_
          refine lv_iload_n hx hb dX6_at_104 rfl (lv_at hl 1 rfl) ?_
          refine va_iald hx hb hK hP 7 0 rfl rfl (xvst (xins (lo := 0) (xlays_st hp0) q1 (by decide))) dX6_at_105 ?_
          refine lv_i2l hx hb dX6_at_106 rfl ?_
          have hR : s_X6_at u p1 p2 = (((s_X6_lays u).1 7 p1.toNatClampNeg).toInt64, s_X6_lays u) := hR
          exact W.lret (v := ((s_X6_lays u).1 7 p1.toNatClampNeg).toInt64) hx hb hr (fun t ht _ => by rw [hR]; dsimp only; exact ⟨⟨rfl, by rw [ht]; exact hP⟩, hS.F ht⟩) hS.2.2 dX6_at_107
        have hR := hR.trans (if_neg q7)
        refine lv_tableOut (tgt := 108) hx hb dX6_at_44 (xsw p2 (fun j h1 h2 h3 => by
          have h9 : j = 0 ∨ j = 1 ∨ j = 2 ∨ j = 3 ∨ False := by omega
          rcases h9 with rfl | rfl | rfl | rfl | h9
          · exact q4 (Int32.toInt_inj.mp h3)
          · exact q5 (Int32.toInt_inj.mp h3)
          · exact q6 (Int32.toInt_inj.mp h3)
          · exact q7 (Int32.toInt_inj.mp h3)
          · exact h9)) rfl ?_
        refine lv_aload_n hx hb dX6_at_108 rfl (lv_at hl 0 rfl) ?_
        refine va_get (D := xD E) (ci := 6) (v := .ref (a 5)) (C := RX6) (T := TX6) (N := 28) hx hb hts (by decide +kernel) hown hK hP 0 rfl rfl 5 (by decide) (hts (.fieldLink RX6 24 "RailOffsetsModel" "pieceAt" "[I") (by decide +kernel)) (fun _ h => h) rfl dX6_at_109 ?_
        refine lv_iload_n hx hb dX6_at_112 rfl (lv_at hl 1 rfl) ?_
        refine va_iald hx hb hK hP 5 0 rfl rfl (xvst (xins (lo := 0) (xlays_st hp0) q1 (by decide))) dX6_at_113 ?_
        refine lv_i2l hx hb dX6_at_114 rfl ?_
        have hR : s_X6_at u p1 p2 = (((s_X6_lays u).1 5 p1.toNatClampNeg).toInt64, s_X6_lays u) := hR
        exact W.lret (v := ((s_X6_lays u).1 5 p1.toNatClampNeg).toInt64) hx hb hr (fun t ht _ => by rw [hR]; dsimp only; exact ⟨⟨rfl, by rw [ht]; exact hP⟩, hS.F ht⟩) hS.2.2 dX6_at_115
      · have hR := hR.trans (if_pos q3)
        refine lv_iload_n hx hb dX6_at_34 rfl (lv_at hl 2 rfl) ?_
        refine lv_iconst (v := 4) hx hb dX6_at_35 rfl ?_
        refine lv_icmp_ne (tgt := 43) hx hb dX6_at_36 rfl (fun q8 => ?_) (fun q8 => ?_)
        · have hR := hR.trans (if_neg q8)
          refine lv_iload_n hx hb dX6_at_43 rfl (lv_at hl 2 rfl) ?_
          by_cases q9 : p2 = 0
          · have hR := hR.trans (if_pos q9)
            refine lv_tableIn (tgt := 76) (off := 32) hx hb dX6_at_44 (by rw [q9]; decide) (by rw [q9]; decide) (by rw [q9]; rfl) rfl ?_
            refine lv_aload_n hx hb dX6_at_76 rfl (lv_at hl 0 rfl) ?_
            refine va_get (D := xD E) (ci := 6) (v := .ref (a 3)) (C := RX6) (T := TX6) (N := 28) hx hb hts (by decide +kernel) hown hK hP 0 rfl rfl 3 (by decide) (hts (.fieldLink RX6 18 "RailOffsetsModel" "versine" "[I") (by decide +kernel)) (fun _ h => h) rfl dX6_at_77 ?_
            refine lv_iload_n hx hb dX6_at_80 rfl (lv_at hl 1 rfl) ?_
            refine va_iald hx hb hK hP 3 0 rfl rfl (xvst (xins (lo := 0) (xlays_st hp0) q1 (by decide))) dX6_at_81 ?_
            refine lv_i2l hx hb dX6_at_82 rfl ?_
            have hR : s_X6_at u p1 p2 = (((s_X6_lays u).1 3 p1.toNatClampNeg).toInt64, s_X6_lays u) := hR
            exact W.lret (v := ((s_X6_lays u).1 3 p1.toNatClampNeg).toInt64) hx hb hr (fun t ht _ => by rw [hR]; dsimp only; exact ⟨⟨rfl, by rw [ht]; exact hP⟩, hS.F ht⟩) hS.2.2 dX6_at_83
          have hR := hR.trans (if_neg q9)
          by_cases q10 : p2 = 1
          · have hR := hR.trans (if_pos q10)
            refine lv_tableIn (tgt := 84) (off := 40) hx hb dX6_at_44 (by rw [q10]; decide) (by rw [q10]; decide) (by rw [q10]; rfl) rfl ?_
            refine lv_aload_n hx hb dX6_at_84 rfl (lv_at hl 0 rfl) ?_
            refine va_get (D := xD E) (ci := 6) (v := .ref (a 4)) (C := RX6) (T := TX6) (N := 28) hx hb hts (by decide +kernel) hown hK hP 0 rfl rfl 4 (by decide) (hts (.fieldLink RX6 21 "RailOffsetsModel" "height" "[I") (by decide +kernel)) (fun _ h => h) rfl dX6_at_85 ?_
            refine lv_iload_n hx hb dX6_at_88 rfl (lv_at hl 1 rfl) ?_
            refine va_iald hx hb hK hP 4 0 rfl rfl (xvst (xins (lo := 0) (xlays_st hp0) q1 (by decide))) dX6_at_89 ?_
            refine lv_i2l hx hb dX6_at_90 rfl ?_
            have hR : s_X6_at u p1 p2 = (((s_X6_lays u).1 4 p1.toNatClampNeg).toInt64, s_X6_lays u) := hR
            exact W.lret (v := ((s_X6_lays u).1 4 p1.toNatClampNeg).toInt64) hx hb hr (fun t ht _ => by rw [hR]; dsimp only; exact ⟨⟨rfl, by rw [ht]; exact hP⟩, hS.F ht⟩) hS.2.2 dX6_at_91
          have hR := hR.trans (if_neg q10)
          by_cases q11 : p2 = 2
          · have hR := hR.trans (if_pos q11)
            refine lv_tableIn (tgt := 92) (off := 48) hx hb dX6_at_44 (by rw [q11]; decide) (by rw [q11]; decide) (by rw [q11]; rfl) rfl ?_
            refine lv_aload_n hx hb dX6_at_92 rfl (lv_at hl 0 rfl) ?_
            refine va_get (D := xD E) (ci := 6) (v := .ref (a 6)) (C := RX6) (T := TX6) (N := 28) hx hb hts (by decide +kernel) hown hK hP 0 rfl rfl 6 (by decide) (hts (.fieldLink RX6 27 "RailOffsetsModel" "turn" "[I") (by decide +kernel)) (fun _ h => h) rfl dX6_at_93 ?_
            refine lv_iload_n hx hb dX6_at_96 rfl (lv_at hl 1 rfl) ?_
            refine va_iald hx hb hK hP 6 0 rfl rfl (xvst (xins (lo := 0) (xlays_st hp0) q1 (by decide))) dX6_at_97 ?_
            refine lv_i2l hx hb dX6_at_98 rfl ?_
            have hR : s_X6_at u p1 p2 = (((s_X6_lays u).1 6 p1.toNatClampNeg).toInt64, s_X6_lays u) := hR
            exact W.lret (v := ((s_X6_lays u).1 6 p1.toNatClampNeg).toInt64) hx hb hr (fun t ht _ => by rw [hR]; dsimp only; exact ⟨⟨rfl, by rw [ht]; exact hP⟩, hS.F ht⟩) hS.2.2 dX6_at_99
          have hR := hR.trans (if_neg q11)
          by_cases q12 : p2 = 3
          · have hR := hR.trans (if_pos q12)
            refine lv_tableIn (tgt := 100) (off := 56) hx hb dX6_at_44 (by rw [q12]; decide) (by rw [q12]; decide) (by rw [q12]; rfl) rfl ?_
            refine lv_aload_n hx hb dX6_at_100 rfl (lv_at hl 0 rfl) ?_
            refine va_get (D := xD E) (ci := 6) (v := .ref (a 7)) (C := RX6) (T := TX6) (N := 28) hx hb hts (by decide +kernel) hown hK hP 0 rfl rfl 7 (by decide) (hts (.fieldLink RX6 30 "RailOffsetsModel" "offset" "[I") (by decide +kernel)) (fun _ h => h) rfl dX6_at_101 ?_
            refine lv_iload_n hx hb dX6_at_104 rfl (lv_at hl 1 rfl) ?_
            refine va_iald hx hb hK hP 7 0 rfl rfl (xvst (xins (lo := 0) (xlays_st hp0) q1 (by decide))) dX6_at_105 ?_
            refine lv_i2l hx hb dX6_at_106 rfl ?_
            have hR : s_X6_at u p1 p2 = (((s_X6_lays u).1 7 p1.toNatClampNeg).toInt64, s_X6_lays u) := hR
            exact W.lret (v := ((s_X6_lays u).1 7 p1.toNatClampNeg).toInt64) hx hb hr (fun t ht _ => by rw [hR]; dsimp only; exact ⟨⟨rfl, by rw [ht]; exact hP⟩, hS.F ht⟩) hS.2.2 dX6_at_107
          have hR := hR.trans (if_neg q12)
          refine lv_tableOut (tgt := 108) hx hb dX6_at_44 (xsw p2 (fun j h1 h2 h3 => by
            have h9 : j = 0 ∨ j = 1 ∨ j = 2 ∨ j = 3 ∨ False := by omega
            rcases h9 with rfl | rfl | rfl | rfl | h9
            · exact q9 (Int32.toInt_inj.mp h3)
            · exact q10 (Int32.toInt_inj.mp h3)
            · exact q11 (Int32.toInt_inj.mp h3)
            · exact q12 (Int32.toInt_inj.mp h3)
            · exact h9)) rfl ?_
          refine lv_aload_n hx hb dX6_at_108 rfl (lv_at hl 0 rfl) ?_
          refine va_get (D := xD E) (ci := 6) (v := .ref (a 5)) (C := RX6) (T := TX6) (N := 28) hx hb hts (by decide +kernel) hown hK hP 0 rfl rfl 5 (by decide) (hts (.fieldLink RX6 24 "RailOffsetsModel" "pieceAt" "[I") (by decide +kernel)) (fun _ h => h) rfl dX6_at_109 ?_
          refine lv_iload_n hx hb dX6_at_112 rfl (lv_at hl 1 rfl) ?_
          refine va_iald hx hb hK hP 5 0 rfl rfl (xvst (xins (lo := 0) (xlays_st hp0) q1 (by decide))) dX6_at_113 ?_
          refine lv_i2l hx hb dX6_at_114 rfl ?_
          have hR : s_X6_at u p1 p2 = (((s_X6_lays u).1 5 p1.toNatClampNeg).toInt64, s_X6_lays u) := hR
          exact W.lret (v := ((s_X6_lays u).1 5 p1.toNatClampNeg).toInt64) hx hb hr (fun t ht _ => by rw [hR]; dsimp only; exact ⟨⟨rfl, by rw [ht]; exact hP⟩, hS.F ht⟩) hS.2.2 dX6_at_115
        · have hR := hR.trans (if_pos q8)
          refine lv_ldc2 (v := xNO) hx hb hown (hts (.constantLong RX6 125 (-9223372036854775808)) (by decide +kernel)) dX6_at_39 ?_
          have hR : s_X6_at u p1 p2 = (xNO, s_X6_lays u) := hR
          exact W.lret (v := xNO) hx hb hr (fun t ht _ => by rw [hR]; dsimp only; exact ⟨⟨rfl, by rw [ht]; exact hP⟩, hS.F ht⟩) hS.2.2 dX6_at_42
def s_X6_scaled (u : xU) (p1 : Int32) : Int64 × xU :=
  if (s_X6_in (s_X6_lays u) p1.toInt64 0 (((s_X6_lays u).2 1).toInt64)) = 0 then
    (xNO, s_X6_lays u)
  else
    if (lg_cmp ((((s_X6_lays u).1 7 p1.toNatClampNeg).toInt64) * ((s_X6_rule (s_X6_lays u) 0).toInt64)) ((((((s_X6_lays u).1 7 p1.toNatClampNeg).toInt64) * ((s_X6_rule (s_X6_lays u) 0).toInt64)).toInt32).toInt64)) = 0 then
      ((((s_X6_lays u).1 7 p1.toNatClampNeg).toInt64) * ((s_X6_rule (s_X6_lays u) 0).toInt64), s_X6_lays u)
    else
      (xNO, s_X6_lays u)
abbrev rm_X6_scaled : Room := { frames := 2, cells := 0, slots := 0, locals := 50 }
set_option maxHeartbeats 8000000 in
set_option maxRecDepth 100000 in
theorem c_X6_scaled (l : Launch) (E : xG) (a : Nat → Nat) (u : xU) (p1 : Int32) (hp0 : XW u) (hL : xOK E (LM a)) : xMd l E yX6_scaled wsX6_scaled rm_X6_scaled (LM a) [.ref (a 0), .int p1] (wM E a u) (some (.long ((s_X6_scaled u p1).1))) (wM E a ((s_X6_scaled u p1).2)) := by
  refine xMd.of (cc := cX6_scaled) (maxL := 4) (ret := (some .long)) (by decide) rfl (Nat.le_of_ble_eq_true rfl) ?_
  intro p e s m below meth c ls hAt hF hP hS hl
  obtain ⟨hx, hb, hr, hml, hown, hts, hlocks, -⟩ := hAt
  have hown : s.vm.findClass RX6 = some m.cls := hown
  have hl : lv_has ls 4 [(0, .ref (a 0)), (1, .int p1)] := hl
  have hK := hF.1
  have hA := hL.2
  change W p l e rm_X6_scaled s m ([.ref (a 0), .int p1] : List Value).toArray below meth c s.heap [] 0 0 (xQmd E below (LM a) (some (.long ((s_X6_scaled u p1).1))) (wM E a ((s_X6_scaled u p1).2)) ([.ref (a 0), .int p1] : List Value).toArray s) _
  have hS : va_S (· ∈ LM a) s.heap s.heap [] := hS
  have hR : s_X6_scaled u p1 = s_X6_scaled u p1 := rfl
  refine lv_aload_n hx hb dX6_scaled_0 rfl (lv_at hl 0 rfl) ?_
  refine xMdV (nL := 4) ⟨hx, hb, hml, hown, hts⟩ (c_X6_lays l E a u  (hp0) hL) (cwV 0 hts gX6_scaled_X6_lays rfl rfl rfl ⟨rfl, hd_X6_lays⟩ ⟨(Nat.le_of_ble_eq_true rfl), (Nat.le_of_ble_eq_true rfl)⟩) hF hS hL.2 (fun _ h => h) hP (va_recv (q := (RX6, TX6, 28)) hK hP (ci := 6) rfl (q0 := 0) rfl) rfl hl.1 rfl (Nat.le_of_ble_eq_true rfl) ⟨(Nat.le_of_ble_eq_true rfl), (Nat.le_of_ble_eq_true rfl)⟩ dX6_scaled_1 (fun H locs hP _ hS => ?_)
  refine W.eq (g2 := F0 m 4 ls []) rfl ?_
  refine lv_iload_n hx hb dX6_scaled_4 rfl (lv_at hl 1 rfl) ?_
  refine lv_i2l hx hb dX6_scaled_5 rfl ?_
  refine lv_lconst (v := 0) hx hb dX6_scaled_6 rfl ?_
  refine lv_aload_n hx hb dX6_scaled_7 rfl (lv_at hl 0 rfl) ?_
  refine va_get (D := xD E) (ci := 6) (v := .int ((s_X6_lays u).2 1)) (C := RX6) (T := TX6) (N := 28) hx hb hts (by decide +kernel) hown hK hP 0 rfl rfl 8 (by decide) (hts (.fieldLink RX6 130 "RailOffsetsModel" "stations" "I") (by decide +kernel)) (fun _ h => h) rfl dX6_scaled_8 ?_
  refine lv_i2l hx hb dX6_scaled_11 rfl ?_
  refine xRoS (nL := 4) ⟨hx, hb, hml, hown, hts⟩ (c_X6_in l E a (s_X6_lays u) p1.toInt64 0 (((s_X6_lays u).2 1).toInt64)) (va_cwS 3 hts gX6_scaled_X6_in rfl rfl rfl hd_X6_in ⟨(Nat.le_of_ble_eq_true rfl), (Nat.le_of_ble_eq_true rfl)⟩) hF hS hA hP rfl hl.1 rfl (Nat.le_of_ble_eq_true rfl) ⟨(Nat.le_of_ble_eq_true rfl), (Nat.le_of_ble_eq_true rfl)⟩ dX6_scaled_12 ?_
  refine W.eq (g2 := F0 m 15 ls [.int (s_X6_in (s_X6_lays u) p1.toInt64 0 (((s_X6_lays u).2 1).toInt64))]) rfl ?_
  refine lv_if_ne (tgt := 22) hx hb dX6_scaled_15 rfl (fun q1 => ?_) (fun q1 => ?_)
  · have hR := hR.trans (if_neg q1)
    refine lv_aload_n hx hb dX6_scaled_22 rfl (lv_at hl 0 rfl) ?_
    refine va_get (D := xD E) (ci := 6) (v := .ref (a 7)) (C := RX6) (T := TX6) (N := 28) hx hb hts (by decide +kernel) hown hK hP 0 rfl rfl 7 (by decide) (hts (.fieldLink RX6 30 "RailOffsetsModel" "offset" "[I") (by decide +kernel)) (fun _ h => h) rfl dX6_scaled_23 ?_
    refine lv_iload_n hx hb dX6_scaled_26 rfl (lv_at hl 1 rfl) ?_
    refine va_iald hx hb hK hP 7 0 rfl rfl (xvst (xins (lo := 0) (xlays_st hp0) q1 (by decide))) dX6_scaled_27 ?_
    refine lv_i2l hx hb dX6_scaled_28 rfl ?_
    refine lv_aload_n hx hb dX6_scaled_29 rfl (lv_at hl 0 rfl) ?_
    refine lv_iconst (v := 0) hx hb dX6_scaled_30 rfl ?_
    refine xRoV (nL := 4) ⟨hx, hb, hml, hown, hts⟩ (c_X6_rule l E a (s_X6_lays u) 0 (xrul (by decide) (by decide))) (cwV 1 hts gX6_scaled_X6_rule rfl rfl rfl ⟨rfl, hd_X6_rule⟩ ⟨(Nat.le_of_ble_eq_true rfl), (Nat.le_of_ble_eq_true rfl)⟩) hF hS hA hP (va_recv (q := (RX6, TX6, 28)) hK hP (ci := 6) rfl (q0 := 0) rfl) rfl hl.1 rfl (Nat.le_of_ble_eq_true rfl) ⟨(Nat.le_of_ble_eq_true rfl), (Nat.le_of_ble_eq_true rfl)⟩ dX6_scaled_31 ?_
    refine W.eq (g2 := F0 m 34 ls [.int (s_X6_rule (s_X6_lays u) 0), .long (((s_X6_lays u).1 7 p1.toNatClampNeg).toInt64)]) rfl ?_
    refine lv_i2l hx hb dX6_scaled_34 rfl ?_
    refine lv_lmul hx hb dX6_scaled_35 ?_
    refine lv_lstore_n (lv' := [(2, .long ((((s_X6_lays u).1 7 p1.toNatClampNeg).toInt64) * ((s_X6_rule (s_X6_lays u) 0).toInt64))), (0, .ref (a 0)), (1, .int p1)]) hx hb dX6_scaled_36 rfl hl (by decide) rfl (fun ls hl => ?_)
    refine lv_lload_n hx hb dX6_scaled_37 rfl (lv_at hl 0 rfl) ?_
    refine lv_lload_n hx hb dX6_scaled_38 rfl (lv_at hl 0 rfl) ?_
    refine lv_l2i hx hb dX6_scaled_39 rfl ?_
    refine lv_i2l hx hb dX6_scaled_40 rfl ?_
    refine W.lcmp hx hb dX6_scaled_41 ?_
    refine lv_if_ne (tgt := 49) hx hb dX6_scaled_42 rfl (fun q2 => ?_) (fun q2 => ?_)
    · have hR := hR.trans (if_neg q2)
      refine lv_ldc2 (v := xNO) hx hb hown (hts (.constantLong RX6 125 (-9223372036854775808)) (by decide +kernel)) dX6_scaled_49 ?_
      have hR : s_X6_scaled u p1 = (xNO, s_X6_lays u) := hR
      exact W.lret (v := xNO) hx hb hr (fun t ht _ => by rw [hR]; dsimp only; exact ⟨⟨rfl, by rw [ht]; exact hP⟩, hS.F ht⟩) hS.2.2 dX6_scaled_52
    · have hR := hR.trans (if_pos q2)
      refine lv_lload_n hx hb dX6_scaled_45 rfl (lv_at hl 0 rfl) ?_
      refine lv_goto (tgt := 52) hx hb dX6_scaled_46 rfl ?_
      have hR : s_X6_scaled u p1 = ((((s_X6_lays u).1 7 p1.toNatClampNeg).toInt64) * ((s_X6_rule (s_X6_lays u) 0).toInt64), s_X6_lays u) := hR
      exact W.lret (v := (((s_X6_lays u).1 7 p1.toNatClampNeg).toInt64) * ((s_X6_rule (s_X6_lays u) 0).toInt64)) hx hb hr (fun t ht _ => by rw [hR]; dsimp only; exact ⟨⟨rfl, by rw [ht]; exact hP⟩, hS.F ht⟩) hS.2.2 dX6_scaled_52
  · have hR := hR.trans (if_pos q1)
    refine lv_ldc2 (v := xNO) hx hb hown (hts (.constantLong RX6 125 (-9223372036854775808)) (by decide +kernel)) dX6_scaled_18 ?_
    have hR : s_X6_scaled u p1 = (xNO, s_X6_lays u) := hR
    exact W.lret (v := xNO) hx hb hr (fun t ht _ => by rw [hR]; dsimp only; exact ⟨⟨rfl, by rw [ht]; exact hP⟩, hS.F ht⟩) hS.2.2 dX6_scaled_21
def s_X6_versinesApart (u : xU) (p1 : Int32) : Int32 :=
  s_X6_abs u ((u.1 3 (s_X6_lastOf u p1).toNatClampNeg) - (u.1 3 ((s_X6_lastOf u p1) + 1).toNatClampNeg))
abbrev rm_X6_versinesApart : Room := { frames := 3, cells := 0, slots := 0, locals := 66 }
set_option maxHeartbeats 8000000 in
set_option maxRecDepth 100000 in
theorem c_X6_versinesApart (l : Launch) (E : xG) (a : Nat → Nat) (u : xU) (p1 : Int32) (hp0 : XW u) (hp1 : XJ p1) : xRo l E yX6_versinesApart wsX6_versinesApart rm_X6_versinesApart [.ref (a 0), .int p1] (wM E a u) (some (.int (s_X6_versinesApart u p1))) := by
  refine xRo.of (cc := cX6_versinesApart) (maxL := 2) (ret := (some .int)) (by decide) rfl (Nat.le_of_ble_eq_true rfl) ?_
  intro p e s m below meth c ls hAt hF hP hS hl
  obtain ⟨hx, hb, hr, hml, hown, hts, hlocks, -⟩ := hAt
  have hown : s.vm.findClass RX6 = some m.cls := hown
  have hl : lv_has ls 2 [(0, .ref (a 0)), (1, .int p1)] := hl
  have hK := hF.1
  have hA : ∀ q : Nat, (fun _ => False) q → xA0 E q := fun _ h => h.elim
  change W p l e rm_X6_versinesApart s m ([.ref (a 0), .int p1] : List Value).toArray below meth c s.heap [] 0 0 (xQro below (some (.int (s_X6_versinesApart u p1))) ([.ref (a 0), .int p1] : List Value).toArray s) _
  have hR : s_X6_versinesApart u p1 = s_X6_versinesApart u p1 := rfl
  refine lv_aload_n hx hb dX6_versinesApart_0 rfl (lv_at hl 0 rfl) ?_
  refine va_get (D := xD E) (ci := 6) (v := .ref (a 3)) (C := RX6) (T := TX6) (N := 28) hx hb hts (by decide +kernel) hown hK hP 0 rfl rfl 3 (by decide) (hts (.fieldLink RX6 18 "RailOffsetsModel" "versine" "[I") (by decide +kernel)) (fun _ h => h) rfl dX6_versinesApart_1 ?_
  refine lv_aload_n hx hb dX6_versinesApart_4 rfl (lv_at hl 0 rfl) ?_
  refine lv_iload_n hx hb dX6_versinesApart_5 rfl (lv_at hl 1 rfl) ?_
  refine xRoV (nL := 2) ⟨hx, hb, hml, hown, hts⟩ (c_X6_lastOf l E a u p1 (hp1.p)) (cwV 1 hts gX6_versinesApart_X6_lastOf rfl rfl rfl ⟨rfl, hd_X6_lastOf⟩ ⟨(Nat.le_of_ble_eq_true rfl), (Nat.le_of_ble_eq_true rfl)⟩) hF hS hA hP (va_recv (q := (RX6, TX6, 28)) hK hP (ci := 6) rfl (q0 := 0) rfl) rfl hl.1 rfl (Nat.le_of_ble_eq_true rfl) ⟨(Nat.le_of_ble_eq_true rfl), (Nat.le_of_ble_eq_true rfl)⟩ dX6_versinesApart_6 ?_
  refine W.eq (g2 := F0 m 9 ls [.int (s_X6_lastOf u p1), .ref (a 3)]) rfl ?_
  refine va_iald hx hb hK hP 3 0 rfl rfl (xls0 hp0 hp1) dX6_versinesApart_9 ?_
  refine lv_aload_n hx hb dX6_versinesApart_10 rfl (lv_at hl 0 rfl) ?_
  refine va_get (D := xD E) (ci := 6) (v := .ref (a 3)) (C := RX6) (T := TX6) (N := 28) hx hb hts (by decide +kernel) hown hK hP 0 rfl rfl 3 (by decide) (hts (.fieldLink RX6 18 "RailOffsetsModel" "versine" "[I") (by decide +kernel)) (fun _ h => h) rfl dX6_versinesApart_11 ?_
  refine lv_aload_n hx hb dX6_versinesApart_14 rfl (lv_at hl 0 rfl) ?_
  refine lv_iload_n hx hb dX6_versinesApart_15 rfl (lv_at hl 1 rfl) ?_
  refine xRoV (nL := 2) ⟨hx, hb, hml, hown, hts⟩ (c_X6_lastOf l E a u p1 (hp1.p)) (cwV 1 hts gX6_versinesApart_X6_lastOf rfl rfl rfl ⟨rfl, hd_X6_lastOf⟩ ⟨(Nat.le_of_ble_eq_true rfl), (Nat.le_of_ble_eq_true rfl)⟩) hF hS hA hP (va_recv (q := (RX6, TX6, 28)) hK hP (ci := 6) rfl (q0 := 0) rfl) rfl hl.1 rfl (Nat.le_of_ble_eq_true rfl) ⟨(Nat.le_of_ble_eq_true rfl), (Nat.le_of_ble_eq_true rfl)⟩ dX6_versinesApart_16 ?_
  refine W.eq (g2 := F0 m 19 ls [.int (s_X6_lastOf u p1), .ref (a 3), .int (u.1 3 (s_X6_lastOf u p1).toNatClampNeg)]) rfl ?_
  refine lv_iconst (v := 1) hx hb dX6_versinesApart_19 rfl ?_
  refine lv_iadd hx hb dX6_versinesApart_20 ?_
  refine va_iald hx hb hK hP 3 0 rfl rfl (xls1 hp0 hp1) dX6_versinesApart_21 ?_
  refine lv_isub hx hb dX6_versinesApart_22 ?_
  refine xRoS (nL := 2) ⟨hx, hb, hml, hown, hts⟩ (c_X6_abs l E a u ((u.1 3 (s_X6_lastOf u p1).toNatClampNeg) - (u.1 3 ((s_X6_lastOf u p1) + 1).toNatClampNeg))) (va_cwS 1 hts gX6_versinesApart_X6_abs rfl rfl rfl hd_X6_abs ⟨(Nat.le_of_ble_eq_true rfl), (Nat.le_of_ble_eq_true rfl)⟩) hF hS hA hP rfl hl.1 rfl (Nat.le_of_ble_eq_true rfl) ⟨(Nat.le_of_ble_eq_true rfl), (Nat.le_of_ble_eq_true rfl)⟩ dX6_versinesApart_23 ?_
  refine W.eq (g2 := F0 m 26 ls [.int (s_X6_abs u ((u.1 3 (s_X6_lastOf u p1).toNatClampNeg) - (u.1 3 ((s_X6_lastOf u p1) + 1).toNatClampNeg)))]) rfl ?_
  have hR : s_X6_versinesApart u p1 = s_X6_abs u ((u.1 3 (s_X6_lastOf u p1).toNatClampNeg) - (u.1 3 ((s_X6_lastOf u p1) + 1).toNatClampNeg)) := hR
  exact W.iret (v := s_X6_abs u ((u.1 3 (s_X6_lastOf u p1).toNatClampNeg) - (u.1 3 ((s_X6_lastOf u p1) + 1).toNatClampNeg))) hx hb hr (fun t ht _ => ⟨congrArg (fun z => Outcome.returned (some (Value.int z))) hR.symm, ht⟩) (fun _ h => by cases h) dX6_versinesApart_26
def s_X6_heightsApart (u : xU) (p1 : Int32) : Int32 :=
  s_X6_abs u ((u.1 4 (s_X6_lastOf u p1).toNatClampNeg) - (u.1 4 ((s_X6_lastOf u p1) + 1).toNatClampNeg))
abbrev rm_X6_heightsApart : Room := { frames := 3, cells := 0, slots := 0, locals := 66 }
set_option maxHeartbeats 8000000 in
set_option maxRecDepth 100000 in
theorem c_X6_heightsApart (l : Launch) (E : xG) (a : Nat → Nat) (u : xU) (p1 : Int32) (hp0 : XW u) (hp1 : XJ p1) : xRo l E yX6_heightsApart wsX6_heightsApart rm_X6_heightsApart [.ref (a 0), .int p1] (wM E a u) (some (.int (s_X6_heightsApart u p1))) := by
  refine xRo.of (cc := cX6_heightsApart) (maxL := 2) (ret := (some .int)) (by decide) rfl (Nat.le_of_ble_eq_true rfl) ?_
  intro p e s m below meth c ls hAt hF hP hS hl
  obtain ⟨hx, hb, hr, hml, hown, hts, hlocks, -⟩ := hAt
  have hown : s.vm.findClass RX6 = some m.cls := hown
  have hl : lv_has ls 2 [(0, .ref (a 0)), (1, .int p1)] := hl
  have hK := hF.1
  have hA : ∀ q : Nat, (fun _ => False) q → xA0 E q := fun _ h => h.elim
  change W p l e rm_X6_heightsApart s m ([.ref (a 0), .int p1] : List Value).toArray below meth c s.heap [] 0 0 (xQro below (some (.int (s_X6_heightsApart u p1))) ([.ref (a 0), .int p1] : List Value).toArray s) _
  have hR : s_X6_heightsApart u p1 = s_X6_heightsApart u p1 := rfl
  refine lv_aload_n hx hb dX6_heightsApart_0 rfl (lv_at hl 0 rfl) ?_
  refine va_get (D := xD E) (ci := 6) (v := .ref (a 4)) (C := RX6) (T := TX6) (N := 28) hx hb hts (by decide +kernel) hown hK hP 0 rfl rfl 4 (by decide) (hts (.fieldLink RX6 21 "RailOffsetsModel" "height" "[I") (by decide +kernel)) (fun _ h => h) rfl dX6_heightsApart_1 ?_
  refine lv_aload_n hx hb dX6_heightsApart_4 rfl (lv_at hl 0 rfl) ?_
  refine lv_iload_n hx hb dX6_heightsApart_5 rfl (lv_at hl 1 rfl) ?_
  refine xRoV (nL := 2) ⟨hx, hb, hml, hown, hts⟩ (c_X6_lastOf l E a u p1 (hp1.p)) (cwV 1 hts gX6_heightsApart_X6_lastOf rfl rfl rfl ⟨rfl, hd_X6_lastOf⟩ ⟨(Nat.le_of_ble_eq_true rfl), (Nat.le_of_ble_eq_true rfl)⟩) hF hS hA hP (va_recv (q := (RX6, TX6, 28)) hK hP (ci := 6) rfl (q0 := 0) rfl) rfl hl.1 rfl (Nat.le_of_ble_eq_true rfl) ⟨(Nat.le_of_ble_eq_true rfl), (Nat.le_of_ble_eq_true rfl)⟩ dX6_heightsApart_6 ?_
  refine W.eq (g2 := F0 m 9 ls [.int (s_X6_lastOf u p1), .ref (a 4)]) rfl ?_
  refine va_iald hx hb hK hP 4 0 rfl rfl (xls0 hp0 hp1) dX6_heightsApart_9 ?_
  refine lv_aload_n hx hb dX6_heightsApart_10 rfl (lv_at hl 0 rfl) ?_
  refine va_get (D := xD E) (ci := 6) (v := .ref (a 4)) (C := RX6) (T := TX6) (N := 28) hx hb hts (by decide +kernel) hown hK hP 0 rfl rfl 4 (by decide) (hts (.fieldLink RX6 21 "RailOffsetsModel" "height" "[I") (by decide +kernel)) (fun _ h => h) rfl dX6_heightsApart_11 ?_
  refine lv_aload_n hx hb dX6_heightsApart_14 rfl (lv_at hl 0 rfl) ?_
  refine lv_iload_n hx hb dX6_heightsApart_15 rfl (lv_at hl 1 rfl) ?_
  refine xRoV (nL := 2) ⟨hx, hb, hml, hown, hts⟩ (c_X6_lastOf l E a u p1 (hp1.p)) (cwV 1 hts gX6_heightsApart_X6_lastOf rfl rfl rfl ⟨rfl, hd_X6_lastOf⟩ ⟨(Nat.le_of_ble_eq_true rfl), (Nat.le_of_ble_eq_true rfl)⟩) hF hS hA hP (va_recv (q := (RX6, TX6, 28)) hK hP (ci := 6) rfl (q0 := 0) rfl) rfl hl.1 rfl (Nat.le_of_ble_eq_true rfl) ⟨(Nat.le_of_ble_eq_true rfl), (Nat.le_of_ble_eq_true rfl)⟩ dX6_heightsApart_16 ?_
  refine W.eq (g2 := F0 m 19 ls [.int (s_X6_lastOf u p1), .ref (a 4), .int (u.1 4 (s_X6_lastOf u p1).toNatClampNeg)]) rfl ?_
  refine lv_iconst (v := 1) hx hb dX6_heightsApart_19 rfl ?_
  refine lv_iadd hx hb dX6_heightsApart_20 ?_
  refine va_iald hx hb hK hP 4 0 rfl rfl (xls1 hp0 hp1) dX6_heightsApart_21 ?_
  refine lv_isub hx hb dX6_heightsApart_22 ?_
  refine xRoS (nL := 2) ⟨hx, hb, hml, hown, hts⟩ (c_X6_abs l E a u ((u.1 4 (s_X6_lastOf u p1).toNatClampNeg) - (u.1 4 ((s_X6_lastOf u p1) + 1).toNatClampNeg))) (va_cwS 1 hts gX6_heightsApart_X6_abs rfl rfl rfl hd_X6_abs ⟨(Nat.le_of_ble_eq_true rfl), (Nat.le_of_ble_eq_true rfl)⟩) hF hS hA hP rfl hl.1 rfl (Nat.le_of_ble_eq_true rfl) ⟨(Nat.le_of_ble_eq_true rfl), (Nat.le_of_ble_eq_true rfl)⟩ dX6_heightsApart_23 ?_
  refine W.eq (g2 := F0 m 26 ls [.int (s_X6_abs u ((u.1 4 (s_X6_lastOf u p1).toNatClampNeg) - (u.1 4 ((s_X6_lastOf u p1) + 1).toNatClampNeg)))]) rfl ?_
  have hR : s_X6_heightsApart u p1 = s_X6_abs u ((u.1 4 (s_X6_lastOf u p1).toNatClampNeg) - (u.1 4 ((s_X6_lastOf u p1) + 1).toNatClampNeg)) := hR
  exact W.iret (v := s_X6_abs u ((u.1 4 (s_X6_lastOf u p1).toNatClampNeg) - (u.1 4 ((s_X6_lastOf u p1) + 1).toNatClampNeg))) hx hb hr (fun t ht _ => ⟨congrArg (fun z => Outcome.returned (some (Value.int z))) hR.symm, ht⟩) (fun _ h => by cases h) dX6_heightsApart_26
def s_X6_jumps (u : xU) (p1 : Int32) : Int32 :=
  if (s_X6_rule u 4) < (s_X6_versinesApart u p1) then
    1
  else
    if (s_X6_heightsApart u p1) ≤ (s_X6_rule u 3) then
      0
    else
      1
abbrev rm_X6_jumps : Room := { frames := 4, cells := 0, slots := 0, locals := 87 }
set_option maxHeartbeats 8000000 in
set_option maxRecDepth 100000 in
theorem c_X6_jumps (l : Launch) (E : xG) (a : Nat → Nat) (u : xU) (p1 : Int32) (hp0 : XW u) (hp1 : XJ p1) : xRo l E yX6_jumps wsX6_jumps rm_X6_jumps [.ref (a 0), .int p1] (wM E a u) (some (.int (s_X6_jumps u p1))) := by
  refine xRo.of (cc := cX6_jumps) (maxL := 2) (ret := (some .boolean)) (by decide) rfl (Nat.le_of_ble_eq_true rfl) ?_
  intro p e s m below meth c ls hAt hF hP hS hl
  obtain ⟨hx, hb, hr, hml, hown, hts, hlocks, -⟩ := hAt
  have hown : s.vm.findClass RX6 = some m.cls := hown
  have hl : lv_has ls 2 [(0, .ref (a 0)), (1, .int p1)] := hl
  have hK := hF.1
  have hA : ∀ q : Nat, (fun _ => False) q → xA0 E q := fun _ h => h.elim
  change W p l e rm_X6_jumps s m ([.ref (a 0), .int p1] : List Value).toArray below meth c s.heap [] 0 0 (xQro below (some (.int (s_X6_jumps u p1))) ([.ref (a 0), .int p1] : List Value).toArray s) _
  have hR : s_X6_jumps u p1 = s_X6_jumps u p1 := rfl
  refine lv_aload_n hx hb dX6_jumps_0 rfl (lv_at hl 0 rfl) ?_
  refine lv_iload_n hx hb dX6_jumps_1 rfl (lv_at hl 1 rfl) ?_
  refine xRoV (nL := 2) ⟨hx, hb, hml, hown, hts⟩ (c_X6_versinesApart l E a u p1 (hp0) (hp1)) (cwV 1 hts gX6_jumps_X6_versinesApart rfl rfl rfl ⟨rfl, hd_X6_versinesApart⟩ ⟨(Nat.le_of_ble_eq_true rfl), (Nat.le_of_ble_eq_true rfl)⟩) hF hS hA hP (va_recv (q := (RX6, TX6, 28)) hK hP (ci := 6) rfl (q0 := 0) rfl) rfl hl.1 rfl (Nat.le_of_ble_eq_true rfl) ⟨(Nat.le_of_ble_eq_true rfl), (Nat.le_of_ble_eq_true rfl)⟩ dX6_jumps_2 ?_
  refine W.eq (g2 := F0 m 5 ls [.int (s_X6_versinesApart u p1)]) rfl ?_
  refine lv_aload_n hx hb dX6_jumps_5 rfl (lv_at hl 0 rfl) ?_
  refine lv_iconst (v := 4) hx hb dX6_jumps_6 rfl ?_
  refine xRoV (nL := 2) ⟨hx, hb, hml, hown, hts⟩ (c_X6_rule l E a u 4 (xrul (by decide) (by decide))) (cwV 1 hts gX6_jumps_X6_rule rfl rfl rfl ⟨rfl, hd_X6_rule⟩ ⟨(Nat.le_of_ble_eq_true rfl), (Nat.le_of_ble_eq_true rfl)⟩) hF hS hA hP (va_recv (q := (RX6, TX6, 28)) hK hP (ci := 6) rfl (q0 := 0) rfl) rfl hl.1 rfl (Nat.le_of_ble_eq_true rfl) ⟨(Nat.le_of_ble_eq_true rfl), (Nat.le_of_ble_eq_true rfl)⟩ dX6_jumps_7 ?_
  refine W.eq (g2 := F0 m 10 ls [.int (s_X6_rule u 4), .int (s_X6_versinesApart u p1)]) rfl ?_
  refine lv_icmp_gt (tgt := 26) hx hb dX6_jumps_10 rfl (fun q1 => ?_) (fun q1 => ?_)
  · have hR := hR.trans (if_pos q1)
    refine lv_iconst (v := 1) hx hb dX6_jumps_26 rfl ?_
    refine lv_goto (tgt := 31) hx hb dX6_jumps_27 rfl ?_
    have hR : s_X6_jumps u p1 = 1 := hR
    exact W.zret (v := 1) (ty := .boolean) hx hb hr (xnb (Or.inr rfl)) (fun t ht _ => ⟨congrArg (fun z => Outcome.returned (some (Value.int z))) hR.symm, ht⟩) (fun _ h => by cases h) dX6_jumps_31
  · have hR := hR.trans (if_neg q1)
    refine lv_aload_n hx hb dX6_jumps_13 rfl (lv_at hl 0 rfl) ?_
    refine lv_iload_n hx hb dX6_jumps_14 rfl (lv_at hl 1 rfl) ?_
    refine xRoV (nL := 2) ⟨hx, hb, hml, hown, hts⟩ (c_X6_heightsApart l E a u p1 (hp0) (hp1)) (cwV 1 hts gX6_jumps_X6_heightsApart rfl rfl rfl ⟨rfl, hd_X6_heightsApart⟩ ⟨(Nat.le_of_ble_eq_true rfl), (Nat.le_of_ble_eq_true rfl)⟩) hF hS hA hP (va_recv (q := (RX6, TX6, 28)) hK hP (ci := 6) rfl (q0 := 0) rfl) rfl hl.1 rfl (Nat.le_of_ble_eq_true rfl) ⟨(Nat.le_of_ble_eq_true rfl), (Nat.le_of_ble_eq_true rfl)⟩ dX6_jumps_15 ?_
    refine W.eq (g2 := F0 m 18 ls [.int (s_X6_heightsApart u p1)]) rfl ?_
    refine lv_aload_n hx hb dX6_jumps_18 rfl (lv_at hl 0 rfl) ?_
    refine lv_iconst (v := 3) hx hb dX6_jumps_19 rfl ?_
    refine xRoV (nL := 2) ⟨hx, hb, hml, hown, hts⟩ (c_X6_rule l E a u 3 (xrul (by decide) (by decide))) (cwV 1 hts gX6_jumps_X6_rule rfl rfl rfl ⟨rfl, hd_X6_rule⟩ ⟨(Nat.le_of_ble_eq_true rfl), (Nat.le_of_ble_eq_true rfl)⟩) hF hS hA hP (va_recv (q := (RX6, TX6, 28)) hK hP (ci := 6) rfl (q0 := 0) rfl) rfl hl.1 rfl (Nat.le_of_ble_eq_true rfl) ⟨(Nat.le_of_ble_eq_true rfl), (Nat.le_of_ble_eq_true rfl)⟩ dX6_jumps_20 ?_
    refine W.eq (g2 := F0 m 23 ls [.int (s_X6_rule u 3), .int (s_X6_heightsApart u p1)]) rfl ?_
    refine lv_icmp_le (tgt := 30) hx hb dX6_jumps_23 rfl (fun q2 => ?_) (fun q2 => ?_)
    · have hR := hR.trans (if_pos q2)
      refine lv_iconst (v := 0) hx hb dX6_jumps_30 rfl ?_
      have hR : s_X6_jumps u p1 = 0 := hR
      exact W.zret (v := 0) (ty := .boolean) hx hb hr (xnb (Or.inl rfl)) (fun t ht _ => ⟨congrArg (fun z => Outcome.returned (some (Value.int z))) hR.symm, ht⟩) (fun _ h => by cases h) dX6_jumps_31
    · have hR := hR.trans (if_neg q2)
      refine lv_iconst (v := 1) hx hb dX6_jumps_26 rfl ?_
      refine lv_goto (tgt := 31) hx hb dX6_jumps_27 rfl ?_
      have hR : s_X6_jumps u p1 = 1 := hR
      exact W.zret (v := 1) (ty := .boolean) hx hb hr (xnb (Or.inr rfl)) (fun t ht _ => ⟨congrArg (fun z => Outcome.returned (some (Value.int z))) hR.symm, ht⟩) (fun _ h => by cases h) dX6_jumps_31
def s_X6_join (u : xU) (p1 : Int32) (p2 : Int32) : Int32 × xU :=
  if (s_X6_in u p1.toInt64 0 (((u.1 1 (40 : Int32).toNatClampNeg) - 2).toInt64)) = 0 then
    ((-2), u)
  else
    if (s_X6_in u p2.toInt64 0 2) = 0 then
      ((-2), u)
    else
      if p2 = 0 then
        (s_X6_versinesApart (s_X6_lays u) p1, s_X6_lays u)
      else
        if p2 = 1 then
          (s_X6_heightsApart (s_X6_lays u) p1, s_X6_lays u)
        else
          if (s_X6_jumps (s_X6_lays u) p1) = 0 then
            (0, s_X6_lays u)
          else
            (1, s_X6_lays u)
abbrev rm_X6_join : Room := { frames := 5, cells := 0, slots := 0, locals := 108 }
set_option maxHeartbeats 8000000 in
set_option maxRecDepth 100000 in
theorem c_X6_join (l : Launch) (E : xG) (a : Nat → Nat) (u : xU) (p1 : Int32) (p2 : Int32) (hp0 : XW u) (hL : xOK E (LM a)) : xMd l E yX6_join wsX6_join rm_X6_join (LM a) [.ref (a 0), .int p1, .int p2] (wM E a u) (some (.int ((s_X6_join u p1 p2).1))) (wM E a ((s_X6_join u p1 p2).2)) := by
  refine xMd.of (cc := cX6_join) (maxL := 3) (ret := (some .int)) (by decide) rfl (Nat.le_of_ble_eq_true rfl) ?_
  intro p e s m below meth c ls hAt hF hP hS hl
  obtain ⟨hx, hb, hr, hml, hown, hts, hlocks, -⟩ := hAt
  have hown : s.vm.findClass RX6 = some m.cls := hown
  have hl : lv_has ls 3 [(0, .ref (a 0)), (1, .int p1), (2, .int p2)] := hl
  have hK := hF.1
  have hA := hL.2
  change W p l e rm_X6_join s m ([.ref (a 0), .int p1, .int p2] : List Value).toArray below meth c s.heap [] 0 0 (xQmd E below (LM a) (some (.int ((s_X6_join u p1 p2).1))) (wM E a ((s_X6_join u p1 p2).2)) ([.ref (a 0), .int p1, .int p2] : List Value).toArray s) _
  have hS : va_S (· ∈ LM a) s.heap s.heap [] := hS
  have hR : s_X6_join u p1 p2 = s_X6_join u p1 p2 := rfl
  refine lv_iload_n hx hb dX6_join_0 rfl (lv_at hl 1 rfl) ?_
  refine lv_i2l hx hb dX6_join_1 rfl ?_
  refine lv_lconst (v := 0) hx hb dX6_join_2 rfl ?_
  refine lv_aload_n hx hb dX6_join_3 rfl (lv_at hl 0 rfl) ?_
  refine va_get (D := xD E) (ci := 6) (v := .ref (a 1)) (C := RX6) (T := TX6) (N := 28) hx hb hts (by decide +kernel) hown hK hP 0 rfl rfl 0 (by decide) (hts (.fieldLink RX6 11 "RailOffsetsModel" "now" "[I") (by decide +kernel)) (fun _ h => h) rfl dX6_join_4 ?_
  refine lv_bipush (v := 40) hx hb dX6_join_7 rfl ?_
  refine va_iald hx hb hK hP 1 0 rfl rfl (v40) dX6_join_9 ?_
  refine lv_iconst (v := 2) hx hb dX6_join_10 rfl ?_
  refine lv_isub hx hb dX6_join_11 ?_
  refine lv_i2l hx hb dX6_join_12 rfl ?_
  refine xRoS (nL := 3) ⟨hx, hb, hml, hown, hts⟩ (c_X6_in l E a u p1.toInt64 0 (((u.1 1 (40 : Int32).toNatClampNeg) - 2).toInt64)) (va_cwS 3 hts gX6_join_X6_in rfl rfl rfl hd_X6_in ⟨(Nat.le_of_ble_eq_true rfl), (Nat.le_of_ble_eq_true rfl)⟩) hF hS hA hP rfl hl.1 rfl (Nat.le_of_ble_eq_true rfl) ⟨(Nat.le_of_ble_eq_true rfl), (Nat.le_of_ble_eq_true rfl)⟩ dX6_join_13 ?_
  refine W.eq (g2 := F0 m 16 ls [.int (s_X6_in u p1.toInt64 0 (((u.1 1 (40 : Int32).toNatClampNeg) - 2).toInt64))]) rfl ?_
  refine lv_if_eq (tgt := 31) hx hb dX6_join_16 rfl (fun q1 => ?_) (fun q1 => ?_)
  · have hR := hR.trans (if_pos q1)
    refine lv_bipush (v := (-2)) hx hb dX6_join_31 rfl ?_
    have hR : s_X6_join u p1 p2 = ((-2), u) := hR
    exact W.iret (v := (-2)) hx hb hr (fun t ht _ => by rw [hR]; dsimp only; exact ⟨⟨rfl, by rw [ht]; exact hP⟩, hS.F ht⟩) hS.2.2 dX6_join_33
  · have hR := hR.trans (if_neg q1)
    refine lv_iload_n hx hb dX6_join_19 rfl (lv_at hl 2 rfl) ?_
    refine lv_i2l hx hb dX6_join_20 rfl ?_
    refine lv_lconst (v := 0) hx hb dX6_join_21 rfl ?_
    refine lv_ldc2 (v := 2) hx hb hown (hts (.constantLong RX6 148 (2)) (by decide +kernel)) dX6_join_22 ?_
    refine xRoS (nL := 3) ⟨hx, hb, hml, hown, hts⟩ (c_X6_in l E a u p2.toInt64 0 2) (va_cwS 3 hts gX6_join_X6_in rfl rfl rfl hd_X6_in ⟨(Nat.le_of_ble_eq_true rfl), (Nat.le_of_ble_eq_true rfl)⟩) hF hS hA hP rfl hl.1 rfl (Nat.le_of_ble_eq_true rfl) ⟨(Nat.le_of_ble_eq_true rfl), (Nat.le_of_ble_eq_true rfl)⟩ dX6_join_25 ?_
    refine W.eq (g2 := F0 m 28 ls [.int (s_X6_in u p2.toInt64 0 2)]) rfl ?_
    refine lv_if_ne (tgt := 34) hx hb dX6_join_28 rfl (fun q2 => ?_) (fun q2 => ?_)
    · have hR := hR.trans (if_neg q2)
      refine lv_aload_n hx hb dX6_join_34 rfl (lv_at hl 0 rfl) ?_
      refine xMdV (nL := 3) ⟨hx, hb, hml, hown, hts⟩ (c_X6_lays l E a u  (hp0) hL) (cwV 0 hts gX6_join_X6_lays rfl rfl rfl ⟨rfl, hd_X6_lays⟩ ⟨(Nat.le_of_ble_eq_true rfl), (Nat.le_of_ble_eq_true rfl)⟩) hF hS hL.2 (fun _ h => h) hP (va_recv (q := (RX6, TX6, 28)) hK hP (ci := 6) rfl (q0 := 0) rfl) rfl hl.1 rfl (Nat.le_of_ble_eq_true rfl) ⟨(Nat.le_of_ble_eq_true rfl), (Nat.le_of_ble_eq_true rfl)⟩ dX6_join_35 (fun H locs hP _ hS => ?_)
      refine W.eq (g2 := F0 m 38 ls []) rfl ?_
      refine lv_iload_n hx hb dX6_join_38 rfl (lv_at hl 2 rfl) ?_
      refine lv_if_ne (tgt := 50) hx hb dX6_join_39 rfl (fun q3 => ?_) (fun q3 => ?_)
      · have hR := hR.trans (if_neg q3)
        refine lv_iload_n hx hb dX6_join_50 rfl (lv_at hl 2 rfl) ?_
        refine lv_iconst (v := 1) hx hb dX6_join_51 rfl ?_
        refine lv_icmp_ne (tgt := 63) hx hb dX6_join_52 rfl (fun q4 => ?_) (fun q4 => ?_)
        · have hR := hR.trans (if_neg q4)
          refine lv_aload_n hx hb dX6_join_63 rfl (lv_at hl 0 rfl) ?_
          refine lv_iload_n hx hb dX6_join_64 rfl (lv_at hl 1 rfl) ?_
          refine xRoV (nL := 3) ⟨hx, hb, hml, hown, hts⟩ (c_X6_jumps l E a (s_X6_lays u) p1 (xlays_w hp0) (xjin hp0 q1)) (cwV 1 hts gX6_join_X6_jumps rfl rfl rfl ⟨rfl, hd_X6_jumps⟩ ⟨(Nat.le_of_ble_eq_true rfl), (Nat.le_of_ble_eq_true rfl)⟩) hF hS hA hP (va_recv (q := (RX6, TX6, 28)) hK hP (ci := 6) rfl (q0 := 0) rfl) rfl hl.1 rfl (Nat.le_of_ble_eq_true rfl) ⟨(Nat.le_of_ble_eq_true rfl), (Nat.le_of_ble_eq_true rfl)⟩ dX6_join_65 ?_
          refine W.eq (g2 := F0 m 68 ls [.int (s_X6_jumps (s_X6_lays u) p1)]) rfl ?_
          refine lv_if_eq (tgt := 75) hx hb dX6_join_68 rfl (fun q5 => ?_) (fun q5 => ?_)
          · have hR := hR.trans (if_pos q5)
            refine lv_iconst (v := 0) hx hb dX6_join_75 rfl ?_
            have hR : s_X6_join u p1 p2 = (0, s_X6_lays u) := hR
            exact W.iret (v := 0) hx hb hr (fun t ht _ => by rw [hR]; dsimp only; exact ⟨⟨rfl, by rw [ht]; exact hP⟩, hS.F ht⟩) hS.2.2 dX6_join_76
          · have hR := hR.trans (if_neg q5)
            refine lv_iconst (v := 1) hx hb dX6_join_71 rfl ?_
            refine lv_goto (tgt := 76) hx hb dX6_join_72 rfl ?_
            have hR : s_X6_join u p1 p2 = (1, s_X6_lays u) := hR
            exact W.iret (v := 1) hx hb hr (fun t ht _ => by rw [hR]; dsimp only; exact ⟨⟨rfl, by rw [ht]; exact hP⟩, hS.F ht⟩) hS.2.2 dX6_join_76
        · have hR := hR.trans (if_pos q4)
          refine lv_aload_n hx hb dX6_join_55 rfl (lv_at hl 0 rfl) ?_
          refine lv_iload_n hx hb dX6_join_56 rfl (lv_at hl 1 rfl) ?_
          refine xRoV (nL := 3) ⟨hx, hb, hml, hown, hts⟩ (c_X6_heightsApart l E a (s_X6_lays u) p1 (xlays_w hp0) (xjin hp0 q1)) (cwV 1 hts gX6_join_X6_heightsApart rfl rfl rfl ⟨rfl, hd_X6_heightsApart⟩ ⟨(Nat.le_of_ble_eq_true rfl), (Nat.le_of_ble_eq_true rfl)⟩) hF hS hA hP (va_recv (q := (RX6, TX6, 28)) hK hP (ci := 6) rfl (q0 := 0) rfl) rfl hl.1 rfl (Nat.le_of_ble_eq_true rfl) ⟨(Nat.le_of_ble_eq_true rfl), (Nat.le_of_ble_eq_true rfl)⟩ dX6_join_57 ?_
          refine W.eq (g2 := F0 m 60 ls [.int (s_X6_heightsApart (s_X6_lays u) p1)]) rfl ?_
          refine lv_goto (tgt := 76) hx hb dX6_join_60 rfl ?_
          have hR : s_X6_join u p1 p2 = (s_X6_heightsApart (s_X6_lays u) p1, s_X6_lays u) := hR
          exact W.iret (v := s_X6_heightsApart (s_X6_lays u) p1) hx hb hr (fun t ht _ => by rw [hR]; dsimp only; exact ⟨⟨rfl, by rw [ht]; exact hP⟩, hS.F ht⟩) hS.2.2 dX6_join_76
      · have hR := hR.trans (if_pos q3)
        refine lv_aload_n hx hb dX6_join_42 rfl (lv_at hl 0 rfl) ?_
        refine lv_iload_n hx hb dX6_join_43 rfl (lv_at hl 1 rfl) ?_
        refine xRoV (nL := 3) ⟨hx, hb, hml, hown, hts⟩ (c_X6_versinesApart l E a (s_X6_lays u) p1 (xlays_w hp0) (xjin hp0 q1)) (cwV 1 hts gX6_join_X6_versinesApart rfl rfl rfl ⟨rfl, hd_X6_versinesApart⟩ ⟨(Nat.le_of_ble_eq_true rfl), (Nat.le_of_ble_eq_true rfl)⟩) hF hS hA hP (va_recv (q := (RX6, TX6, 28)) hK hP (ci := 6) rfl (q0 := 0) rfl) rfl hl.1 rfl (Nat.le_of_ble_eq_true rfl) ⟨(Nat.le_of_ble_eq_true rfl), (Nat.le_of_ble_eq_true rfl)⟩ dX6_join_44 ?_
        refine W.eq (g2 := F0 m 47 ls [.int (s_X6_versinesApart (s_X6_lays u) p1)]) rfl ?_
        refine lv_goto (tgt := 76) hx hb dX6_join_47 rfl ?_
        have hR : s_X6_join u p1 p2 = (s_X6_versinesApart (s_X6_lays u) p1, s_X6_lays u) := hR
        exact W.iret (v := s_X6_versinesApart (s_X6_lays u) p1) hx hb hr (fun t ht _ => by rw [hR]; dsimp only; exact ⟨⟨rfl, by rw [ht]; exact hP⟩, hS.F ht⟩) hS.2.2 dX6_join_76
    · have hR := hR.trans (if_pos q2)
      refine lv_bipush (v := (-2)) hx hb dX6_join_31 rfl ?_
      have hR : s_X6_join u p1 p2 = ((-2), u) := hR
      exact W.iret (v := (-2)) hx hb hr (fun t ht _ => by rw [hR]; dsimp only; exact ⟨⟨rfl, by rw [ht]; exact hP⟩, hS.F ht⟩) hS.2.2 dX6_join_33
def s_X6_joins_L8 : Nat → xU → Int32 → Int32 → Int32 × xU
  | 0, u, _, _ => (0, u)
  | n + 1, u, x1, x2 =>
    if ((u.1 1 (40 : Int32).toNatClampNeg) - 1) ≤ x2 then
      (x1, u)
    else
      s_X6_joins_L8 n u (x1 ||| (if (s_X6_jumps u x2) = 0 then 0 else (1 : Int32) <<< (x2 &&& 31))) (x2 + 1)
def s_X6_joins (u : xU) : Int32 × xU :=
  s_X6_joins_L8 (((((s_X6_lays u).1 1 40) - 1).toInt - (0 : Int32).toInt).toNat + 1) (s_X6_lays u) 0 0
abbrev rm_X6_joins : Room := { frames := 5, cells := 0, slots := 0, locals := 108 }
set_option maxHeartbeats 8000000 in
set_option maxRecDepth 100000 in
theorem c_X6_joins (l : Launch) (E : xG) (a : Nat → Nat) (u : xU)  (hp0 : XW u) (hL : xOK E (LM a)) : xMd l E yX6_joins wsX6_joins rm_X6_joins (LM a) [.ref (a 0)] (wM E a u) (some (.int ((s_X6_joins u).1))) (wM E a ((s_X6_joins u).2)) := by
  refine xMd.of (cc := cX6_joins) (maxL := 3) (ret := (some .int)) (by decide) rfl (Nat.le_of_ble_eq_true rfl) ?_
  intro p e s m below meth c ls hAt hF hP hS hl
  obtain ⟨hx, hb, hr, hml, hown, hts, hlocks, -⟩ := hAt
  have hown : s.vm.findClass RX6 = some m.cls := hown
  have hl : lv_has ls 3 [(0, .ref (a 0))] := hl
  have hK := hF.1
  have hA := hL.2
  change W p l e rm_X6_joins s m ([.ref (a 0)] : List Value).toArray below meth c s.heap [] 0 0 (xQmd E below (LM a) (some (.int ((s_X6_joins u).1))) (wM E a ((s_X6_joins u).2)) ([.ref (a 0)] : List Value).toArray s) _
  have hS : va_S (· ∈ LM a) s.heap s.heap [] := hS
  have hR : s_X6_joins u = s_X6_joins u := rfl
  refine lv_aload_n hx hb dX6_joins_0 rfl (lv_at hl 0 rfl) ?_
  refine xMdV (nL := 3) ⟨hx, hb, hml, hown, hts⟩ (c_X6_lays l E a u  (hp0) hL) (cwV 0 hts gX6_joins_X6_lays rfl rfl rfl ⟨rfl, hd_X6_lays⟩ ⟨(Nat.le_of_ble_eq_true rfl), (Nat.le_of_ble_eq_true rfl)⟩) hF hS hL.2 (fun _ h => h) hP (va_recv (q := (RX6, TX6, 28)) hK hP (ci := 6) rfl (q0 := 0) rfl) rfl hl.1 rfl (Nat.le_of_ble_eq_true rfl) ⟨(Nat.le_of_ble_eq_true rfl), (Nat.le_of_ble_eq_true rfl)⟩ dX6_joins_1 (fun H locs hP _ hS => ?_)
  refine W.eq (g2 := F0 m 4 ls []) rfl ?_
  refine lv_iconst (v := 0) hx hb dX6_joins_4 rfl ?_
  refine lv_istore_n (lv' := [(1, .int 0), (0, .ref (a 0))]) hx hb dX6_joins_5 rfl hl (by decide) rfl (fun ls hl => ?_)
  refine lv_iconst (v := 0) hx hb dX6_joins_6 rfl ?_
  refine lv_istore_n (lv' := [(2, .int 0), (1, .int 0), (0, .ref (a 0))]) hx hb dX6_joins_7 rfl hl (by decide) rfl (fun ls hl => ?_)
  have L8 : ∀ (n8 : Nat) (x1 : Int32) (x2 : Int32) (H : Heap) (locs : List Loc) (ls : Array Slot), (¬ x2 < 0) → ((((s_X6_lays u).1 1 40) - 1).toInt - x2.toInt).toNat < n8 → s_X6_joins u = s_X6_joins_L8 n8 (s_X6_lays u) x1 x2 → lv_has ls 3 [(2, .int x2), (1, .int x1), (0, .ref (a 0))] → va_P (xD E) vwCl (wM E a (s_X6_lays u)) H → va_S (· ∈ LM a) s.heap H locs → W p l e rm_X6_joins s m ([.ref (a 0)] : List Value).toArray below meth c H locs 0 0 (xQmd E below (LM a) (some (.int ((s_X6_joins u).1))) (wM E a ((s_X6_joins u).2)) ([.ref (a 0)] : List Value).toArray s) (F0 m 8 ls []) := by
    intro n8
    induction n8 with
    | zero => intro x1 x2 H locs ls hI0 hM8 hR hl hP hS; exact absurd hM8 (Nat.not_lt_zero _)
    | succ n8 ih8 =>
      intro x1 x2 H locs ls hI0 hM8 hR hl hP hS
      refine lv_iload_n hx hb dX6_joins_8 rfl (lv_at hl 0 rfl) ?_
      refine lv_aload_n hx hb dX6_joins_9 rfl (lv_at hl 2 rfl) ?_
      refine va_get (D := xD E) (ci := 6) (v := .ref (a 1)) (C := RX6) (T := TX6) (N := 28) hx hb hts (by decide +kernel) hown hK hP 0 rfl rfl 0 (by decide) (hts (.fieldLink RX6 11 "RailOffsetsModel" "now" "[I") (by decide +kernel)) (fun _ h => h) rfl dX6_joins_10 ?_
      refine lv_bipush (v := 40) hx hb dX6_joins_13 rfl ?_
      refine va_iald hx hb hK hP 1 0 rfl rfl (v40) dX6_joins_15 ?_
      refine lv_iconst (v := 1) hx hb dX6_joins_16 rfl ?_
      refine lv_isub hx hb dX6_joins_17 ?_
      refine lv_icmp_ge (tgt := 45) hx hb dX6_joins_18 rfl (fun q1 => ?_) (fun q1 => ?_)
      · have hR := hR.trans (if_pos q1)
        refine lv_iload_n hx hb dX6_joins_45 rfl (lv_at hl 1 rfl) ?_
        have hR : s_X6_joins u = (x1, s_X6_lays u) := hR
        exact W.iret (v := x1) hx hb hr (fun t ht _ => by rw [hR]; dsimp only; exact ⟨⟨rfl, by rw [ht]; exact hP⟩, hS.F ht⟩) hS.2.2 dX6_joins_46
      · have hR := hR.trans (if_neg q1)
        refine lv_iload_n hx hb dX6_joins_21 rfl (lv_at hl 1 rfl) ?_
        refine lv_aload_n hx hb dX6_joins_22 rfl (lv_at hl 2 rfl) ?_
        refine lv_iload_n hx hb dX6_joins_23 rfl (lv_at hl 0 rfl) ?_
        refine xRoV (nL := 3) ⟨hx, hb, hml, hown, hts⟩ (c_X6_jumps l E a (s_X6_lays u) x2 (xlays_w hp0) (xjup (xlays_w hp0) hI0 q1)) (cwV 1 hts gX6_joins_X6_jumps rfl rfl rfl ⟨rfl, hd_X6_jumps⟩ ⟨(Nat.le_of_ble_eq_true rfl), (Nat.le_of_ble_eq_true rfl)⟩) hF hS hA hP (va_recv (q := (RX6, TX6, 28)) hK hP (ci := 6) rfl (q0 := 0) rfl) rfl hl.1 rfl (Nat.le_of_ble_eq_true rfl) ⟨(Nat.le_of_ble_eq_true rfl), (Nat.le_of_ble_eq_true rfl)⟩ dX6_joins_24 ?_
        refine W.eq (g2 := F0 m 27 ls [.int (s_X6_jumps (s_X6_lays u) x2), .int x1]) rfl ?_
        have J2 : W p l e rm_X6_joins s m ([.ref (a 0)] : List Value).toArray below meth c H locs 0 0 (xQmd E below (LM a) (some (.int ((s_X6_joins u).1))) (wM E a ((s_X6_joins u).2)) ([.ref (a 0)] : List Value).toArray s) (F0 m 37 ls [.int (if (s_X6_jumps (s_X6_lays u) x2) = 0 then 0 else (1 : Int32) <<< (x2 &&& 31)), .int x1]) := by
          refine lv_ior hx hb dX6_joins_37 ?_
          refine lv_istore_n (lv' := [(1, .int (x1 ||| (if (s_X6_jumps (s_X6_lays u) x2) = 0 then 0 else (1 : Int32) <<< (x2 &&& 31)))), (2, .int x2), (0, .ref (a 0))]) hx hb dX6_joins_38 rfl hl (by decide) rfl (fun ls hl => ?_)
          refine lv_iinc (k := 1) (v := x2 + 1) (lv' := [(2, .int (x2 + 1)), (1, .int (x1 ||| (if (s_X6_jumps (s_X6_lays u) x2) = 0 then 0 else (1 : Int32) <<< (x2 &&& 31)))), (0, .ref (a 0))]) hx hb dX6_joins_39 hl rfl rfl (by decide) rfl (fun ls hl => ?_)
          refine lv_goto (tgt := 8) hx hb dX6_joins_42 rfl ?_
          exact ih8 (x1 ||| (if (s_X6_jumps (s_X6_lays u) x2) = 0 then 0 else (1 : Int32) <<< (x2 &&& 31))) (x2 + 1) _ _ _ (xup0 hI0 q1) (Nat.lt_of_lt_of_le (xupc q1) (Nat.le_of_lt_succ hM8)) hR (lv_sub hl [0, 1, 2] rfl) hP hS
        refine lv_if_eq (tgt := 36) hx hb dX6_joins_27 rfl (fun q3 => ?_) (fun q3 => ?_)
        · refine lv_iconst (v := 0) hx hb dX6_joins_36 rfl ?_
          exact W.eq (congrArg (fun z => F0 m 37 ls [.int z, .int x1]) (if_pos q3).symm) J2
        · refine lv_iconst (v := 1) hx hb dX6_joins_30 rfl ?_
          refine lv_iload_n hx hb dX6_joins_31 rfl (lv_at hl 0 rfl) ?_
          refine lv_ishl hx hb dX6_joins_32 ?_
          refine lv_goto (tgt := 37) hx hb dX6_joins_33 rfl ?_
          exact W.eq (congrArg (fun z => F0 m 37 ls [.int z, .int x1]) (if_neg q3).symm) J2
  exact L8 (((((s_X6_lays u).1 1 40) - 1).toInt - (0 : Int32).toInt).toNat + 1) 0 0 _ _ ls (by decide) (Nat.lt_succ_self _) hR hl hP hS
