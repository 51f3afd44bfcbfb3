/-! ===== the old line: how far it is to be slewed ===== -/
theorem zr4 (a b c d : Int32) : (a + b) - (c + d) = (a - c) + (b - d) := by
  simp only [Int32.sub_eq_add_neg, Int32.neg_add]
  ac_rfl
def zDd (o v : Nat → Int32) : Nat → Int32
  | 0 => 0
  | s + 1 => zDd o v s + (o (s + 1) - v (s + 1))
def zDe (o v : Nat → Int32) : Nat → Int32
  | 0 => 0
  | s + 1 => zDe o v s + zDd o v (s + 1)
/-- the station that lies off most, so far -/
def zWd (e : Nat → Int32) : Nat → Int32
  | 0 => -1
  | s + 1 => if zWd e s < 0 then nI (s + 1) else if iAbs (e (s + 1)) ≤ iAbs (e (zWd e s).toNatClampNeg) then zWd e s else nI (s + 1)
def zMb (e : Nat → Int32) (s : Nat) : Int32 := if zWd e s < 0 then 0 else iAbs (e (zWd e s).toNatClampNeg)
def zSm (e : Nat → Int32) : Nat → Int64
  | 0 => 0
  | s + 1 => zSm e s + (iAbs (e (s + 1))).toInt64
theorem zWd_r (e : Nat → Int32) : ∀ s, (zWd e s = -1 ∧ s = 0) ∨ ∃ t, 1 ≤ t ∧ t ≤ s ∧ zWd e s = nI t
  | 0 => Or.inl ⟨rfl, rfl⟩
  | s + 1 => by
    rw [zWd]
    rcases zWd_r e s with ⟨h, h0⟩ | ⟨t, t1, t2, h⟩
    · rw [h, if_pos (by decide)]
      exact Or.inr ⟨s + 1, by omega, Nat.le_refl _, rfl⟩
    · split
      · exact Or.inr ⟨s + 1, by omega, Nat.le_refl _, rfl⟩
      · split
        · exact Or.inr ⟨t, t1, by omega, h⟩
        · exact Or.inr ⟨s + 1, by omega, Nat.le_refl _, rfl⟩
def zOb (o v : Nat → Int32) (S : Nat) : Prop := S ≤ 200 ∧ (∀ s, 1 ≤ s → s ≤ S → -1000 ≤ (o s).toInt ∧ (o s).toInt ≤ 1000) ∧ ∀ s, 1 ≤ s → s ≤ S → -300 ≤ (v s).toInt ∧ (v s).toInt ≤ 300
theorem zOb.d {o v : Nat → Int32} {S : Nat} (h : zOb o v S) {s : Nat} (s1 : 1 ≤ s) (s2 : s ≤ S) : -1300 ≤ (o s - v s).toInt ∧ (o s - v s).toInt ≤ 1300 := by
  have a := h.2.1 s s1 s2
  have b := h.2.2 s s1 s2
  rw [fb_subI (by omega) (by omega)]
  omega
theorem zDb {o v : Nat → Int32} {S : Nat} (h : zOb o v S) : ∀ s, s ≤ S → (-(1300 * (s : Int)) ≤ (zDd o v s).toInt ∧ (zDd o v s).toInt ≤ 1300 * (s : Int)) ∧ (-(260000 * (s : Int)) ≤ (zDe o v s).toInt ∧ (zDe o v s).toInt ≤ 260000 * (s : Int))
  | 0, _ => by
    have z : (0 : Int32).toInt = 0 := rfl
    show (_ ≤ (0 : Int32).toInt ∧ (0 : Int32).toInt ≤ _) ∧ (_ ≤ (0 : Int32).toInt ∧ (0 : Int32).toInt ≤ _)
    rw [z]
    omega
  | s + 1, hs => by
    obtain ⟨a, b⟩ := zDb h s (by omega)
    have c := h.d (s := s + 1) (by omega) hs
    have h200 := h.1
    have d : (zDd o v (s + 1)).toInt = (zDd o v s).toInt + (o (s + 1) - v (s + 1)).toInt := fb_addI (by omega) (by omega)
    have e : (zDe o v (s + 1)).toInt = (zDe o v s).toInt + (zDd o v (s + 1)).toInt := fb_addI (by omega) (by omega)
    omega
theorem ziabs {x : Int32} (h : -2147483648 < x.toInt) : (iAbs x).toInt = if 0 ≤ x.toInt then x.toInt else -x.toInt := by
  unfold iAbs
  by_cases a : 0 ≤ x.toInt
  · rw [if_pos a, if_pos (by rw [fa_le]; exact a)]
  · rw [if_neg a, if_neg (by rw [fa_le]; exact a), Int32.zero_sub, fb_negI (by omega)]
theorem ziabs0 {x : Int32} (h : -2147483648 < x.toInt) : 0 ≤ (iAbs x).toInt := by
  rw [ziabs h]
  split <;> omega
section ZSL
variable {u w : xU} {S : Nat}
theorem zcell {k : Nat} (u : xU) {s : Nat} (hs : s ≤ 200) : s_X5_cell 201 (u.1 k) (nI s) = u.1 k s := s_X5_cell_in (by decide) (by omega)
/-- the class's row of slews -/
def zSl (u : xU) (S : Nat) : Prop := ∀ i, i ≤ S → u.1 29 i = zDe (u.1 15) (u.1 10) i
theorem zsmL (h200 : S ≤ 200) : ∀ (m s f : Nat) (u : xU), m < f → s + m = S → u.2 3 = nI S → u.1 29 s = zDe (u.1 15) (u.1 10) s →
    (∀ i, i ≤ s → (s_X1_sum_L4 f u (zDd (u.1 15) (u.1 10) s) (nI (s + 1))).1 29 i = u.1 29 i) ∧ ∀ i, s ≤ i → i ≤ S → (s_X1_sum_L4 f u (zDd (u.1 15) (u.1 10) s) (nI (s + 1))).1 29 i = zDe (u.1 15) (u.1 10) i := by
  intro m
  induction m with
  | zero =>
    intro s f u hf hs h3 hE
    obtain ⟨f, rfl⟩ : ∃ z, f = z + 1 := ⟨f - 1, by omega⟩
    rw [s_X1_sum_L4, h3, if_pos (nI_lt (by omega) (by omega))]
    refine ⟨fun _ _ => rfl, fun i i1 i2 => ?_⟩
    have e : i = s := by omega
    rw [e]
    exact hE
  | succ m ih =>
    intro s f u hf hs h3 hE
    obtain ⟨f, rfl⟩ : ∃ z, f = z + 1 := ⟨f - 1, by omega⟩
    have e1 : zDd (u.1 15) (u.1 10) s + (u.1 15 (s + 1) - u.1 10 (s + 1)) = zDd (u.1 15) (u.1 10) (s + 1) := rfl
    have e2 : u.1 29 s + zDd (u.1 15) (u.1 10) (s + 1) = zDe (u.1 15) (u.1 10) (s + 1) := by rw [hE]; rfl
    rw [s_X1_sum_L4, h3, if_neg (nI_nlt (by omega) (by omega)), nI_pred, zcell u (by omega), zcell u (by omega), zcell u (by omega), e1, e2, s_X5_mark_in (by decide) (by omega), nI_1]
    have key : (∀ i, i ≤ s + 1 → (s_X1_sum_L4 f (uR u 29 (upd (u.1 29) (s + 1) (zDe (u.1 15) (u.1 10) (s + 1)))) (zDd (u.1 15) (u.1 10) (s + 1)) (nI (s + 1 + 1))).1 29 i = upd (u.1 29) (s + 1) (zDe (u.1 15) (u.1 10) (s + 1)) i) ∧ ∀ i, s + 1 ≤ i → i ≤ S → (s_X1_sum_L4 f (uR u 29 (upd (u.1 29) (s + 1) (zDe (u.1 15) (u.1 10) (s + 1)))) (zDd (u.1 15) (u.1 10) (s + 1)) (nI (s + 1 + 1))).1 29 i = zDe (u.1 15) (u.1 10) i :=
      ih (s + 1) f (uR u 29 (upd (u.1 29) (s + 1) (zDe (u.1 15) (u.1 10) (s + 1)))) (by omega) (by omega) h3 (by
        show upd (u.1 29) (s + 1) (zDe (u.1 15) (u.1 10) (s + 1)) (s + 1) = zDe (u.1 15) (u.1 10) (s + 1)
        rw [pk_us])
    obtain ⟨a1, a2⟩ := key
    refine ⟨fun i hi => (a1 i (by omega)).trans (pk_un (by omega)), fun i i1 i2 => ?_⟩
    by_cases e : i = s
    · rw [e]
      exact ((a1 s (by omega)).trans (pk_un (by omega))).trans hE
    · exact a2 i (by omega) i2
/-- what sum() leaves: the row of slews, and the row's first cell as it was -/
theorem zsl (h200 : S ≤ 200) (h3 : u.2 3 = nI S) (h0 : u.1 29 0 = 0) : zSl (s_X1_sum u) S ∧ (s_X1_sum u).1 29 0 = 0 := by
  obtain ⟨a1, a2⟩ := zsmL h200 S 0 (((u.2 3).toInt + 1 - (1 : Int32).toInt).toNat + 1) u (by rw [h3, nI_toInt (by omega), show (1 : Int32).toInt = 1 from rfl]; omega) (by omega) h3 h0
  refine ⟨fun i hi => ?_, (a1 0 (Nat.le_refl _)).trans h0⟩
  rw [(xsum u).2 15 (by decide), (xsum u).2 10 (by decide)]
  exact a2 i (Nat.zero_le _) hi
theorem zslewAt (h200 : S ≤ 200) (hE : zSl u S) {T : Nat} (hT : T ≤ S) : s_X1_slewAt u (nI T) = zDe (u.1 15) (u.1 10) T := (zcell (k := 29) u (by omega)).trans (hE T hT)
theorem zDmin (h : zOb (u.1 15) (u.1 10) S) {s : Nat} (hs : s ≤ S) : -2147483648 < (zDe (u.1 15) (u.1 10) s).toInt := by
  have h200 := h.1
  have := (zDb h s hs).2
  omega
theorem zMb_s (h : zOb (u.1 15) (u.1 10) S) {s : Nat} (hs : s + 1 ≤ S) : iMax (zMb (zDe (u.1 15) (u.1 10)) s) (iAbs (zDe (u.1 15) (u.1 10) (s + 1))) = zMb (zDe (u.1 15) (u.1 10)) (s + 1) := by
  have h200 := h.1
  generalize hE : zDe (u.1 15) (u.1 10) = e
  have hm : ∀ t, t ≤ S → -2147483648 < (e t).toInt := fun t ht => by rw [← hE]; exact zDmin h ht
  unfold iMax zMb
  rw [zWd]
  rcases zWd_r e s with ⟨g, g0⟩ | ⟨t, t1, t2, g⟩
  · rw [g, if_pos (show (-1 : Int32) < 0 by decide), if_pos (show (-1 : Int32) < 0 by decide), if_neg (nI_pos (by omega)), nI_clamp (by omega)]
    have i0 := ziabs0 (hm (s + 1) hs)
    by_cases c : 0 < iAbs (e (s + 1))
    · rw [if_pos c]
    · rw [if_neg c, fa_eq, show (0 : Int32).toInt = 0 from rfl]
      rw [fa_lt, show (0 : Int32).toInt = 0 from rfl] at c
      omega
  · rw [g, if_neg (nI_pos (by omega)), if_neg (nI_pos (by omega)), nI_clamp (show t < 2 ^ 31 by omega)]
    by_cases a : iAbs (e (s + 1)) ≤ iAbs (e t)
    · rw [if_pos a, if_neg (nI_pos (by omega)), nI_clamp (show t < 2 ^ 31 by omega)]
      rw [fa_le] at a
      rw [if_neg (by rw [fa_lt]; omega)]
    · rw [if_neg a, if_neg (nI_pos (by omega)), nI_clamp (show s + 1 < 2 ^ 31 by omega)]
      rw [fa_le] at a
      rw [if_pos (by rw [fa_lt]; omega)]
theorem zgrL (h : zOb (u.1 15) (u.1 10) S) (hE : zSl u S) (h3 : u.2 3 = nI S) : ∀ (m s f : Nat), m < f → s + m = S → s_X1_greatest_L4 f u (zMb (zDe (u.1 15) (u.1 10)) s) (nI (s + 1)) = zMb (zDe (u.1 15) (u.1 10)) S := by
  have h200 := h.1
  intro m
  induction m with
  | zero =>
    intro s f hf hs
    obtain ⟨f, rfl⟩ : ∃ z, f = z + 1 := ⟨f - 1, by omega⟩
    rw [s_X1_greatest_L4, h3, if_pos (nI_lt (by omega) (by omega)), show s = S by omega]
  | succ m ih =>
    intro s f hf hs
    obtain ⟨f, rfl⟩ : ∃ z, f = z + 1 := ⟨f - 1, by omega⟩
    rw [s_X1_greatest_L4, h3, if_neg (nI_nlt (by omega) (by omega)), zslewAt h200 hE (by omega), zMb_s h (by omega), nI_1]
    exact ih (s + 1) f (by omega) (by omega)
theorem zgreatest (h : zOb (u.1 15) (u.1 10) S) (hE : zSl u S) (h3 : u.2 3 = nI S) : s_X1_greatest u = zMb (zDe (u.1 15) (u.1 10)) S := by
  have h200 := h.1
  exact zgrL h hE h3 S 0 (((u.2 3).toInt + 1 - (1 : Int32).toInt).toNat + 1) (by rw [h3, nI_toInt (by omega), show (1 : Int32).toInt = 1 from rfl]; omega) (by omega)
/-- the station that lies off most is the first such -/
theorem zWd_x (e : Nat → Int32) : ∀ S, S ≤ 200 → ∀ t, 1 ≤ t → t ≤ S → zWd e S = nI t → (∀ j, 1 ≤ j → j ≤ S → (iAbs (e j)).toInt ≤ (iAbs (e t)).toInt) ∧ ∀ j, 1 ≤ j → j < t → (iAbs (e j)).toInt < (iAbs (e t)).toInt
  | 0, _, t, t1, t2, _ => absurd t2 (by omega)
  | S + 1, hS, t, t1, t2, h => by
    rw [zWd] at h
    rcases zWd_r e S with ⟨y, y0⟩ | ⟨r, r1, r2, y⟩
    · rw [y, if_pos (show (-1 : Int32) < 0 by decide)] at h
      have et : S + 1 = t := (nI_eq (by omega) (by omega)).mp h
      refine ⟨fun j j1 j2 => ?_, fun j j1 j2 => absurd j2 (by omega)⟩
      rw [show j = t by omega]
      exact Int.le_refl _
    · rw [y, if_neg (nI_pos (by omega)), nI_clamp (show r < 2 ^ 31 by omega)] at h
      obtain ⟨x1, x2⟩ := zWd_x e S (by omega) r r1 r2 y
      by_cases a : iAbs (e (S + 1)) ≤ iAbs (e r)
      · rw [if_pos a] at h
        have et : r = t := (nI_eq (by omega) (by omega)).mp h
        subst et
        rw [fa_le] at a
        refine ⟨fun j j1 j2 => ?_, x2⟩
        by_cases c : j = S + 1
        · rw [c]; exact a
        · exact x1 j j1 (by omega)
      · rw [if_neg a] at h
        have et : S + 1 = t := (nI_eq (by omega) (by omega)).mp h
        subst et
        rw [fa_le] at a
        have x3 : ∀ j, 1 ≤ j → j < S + 1 → (iAbs (e j)).toInt < (iAbs (e (S + 1))).toInt := fun j j1 j2 => by
          have := x1 j j1 (by omega)
          omega
        refine ⟨fun j j1 j2 => ?_, x3⟩
        by_cases c : j = S + 1
        · rw [c]; exact Int.le_refl _
        · exact Int.le_of_lt (x3 j j1 (by omega))
theorem zwiL (h200 : S ≤ 200) (hE : zSl u S) (h3 : u.2 3 = nI S) {t : Nat} (t2 : t ≤ S) (hx : ∀ j, 1 ≤ j → j < t → (iAbs (zDe (u.1 15) (u.1 10) j)).toInt < (iAbs (zDe (u.1 15) (u.1 10) t)).toInt) : ∀ (m s f : Nat), m < f → s + 1 + m = t → s_X1_widest_L7 f u (iAbs (zDe (u.1 15) (u.1 10) t)) (nI (s + 1)) = nI t := by
  intro m
  induction m with
  | zero =>
    intro s f hf hs
    obtain ⟨f, rfl⟩ : ∃ z, f = z + 1 := ⟨f - 1, by omega⟩
    rw [s_X1_widest_L7, h3, if_neg (nI_nlt (by omega) (by omega)), zslewAt h200 hE (by omega), show s + 1 = t by omega, if_pos rfl]
  | succ m ih =>
    intro s f hf hs
    obtain ⟨f, rfl⟩ : ∃ z, f = z + 1 := ⟨f - 1, by omega⟩
    have n1 := hx (s + 1) (by omega) (by omega)
    rw [s_X1_widest_L7, h3, if_neg (nI_nlt (by omega) (by omega)), zslewAt h200 hE (by omega), if_neg (fun e => by rw [e] at n1; omega), nI_1]
    exact ih (s + 1) f (by omega) (by omega)
theorem zwidest (h : zOb (u.1 15) (u.1 10) S) (hE : zSl u S) (h3 : u.2 3 = nI S) : s_X1_widest u = zWd (zDe (u.1 15) (u.1 10)) S := by
  have h200 := h.1
  unfold s_X1_widest
  rw [zgreatest h hE h3]
  rcases zWd_r (zDe (u.1 15) (u.1 10)) S with ⟨y, y0⟩ | ⟨t, t1, t2, y⟩
  · rw [y, s_X1_widest_L7, h3, y0, if_pos (show nI 0 < (1 : Int32) by decide)]
  · have x2 := (zWd_x _ S h200 t t1 t2 y).2
    have eM : zMb (zDe (u.1 15) (u.1 10)) S = iAbs (zDe (u.1 15) (u.1 10) t) := by
      unfold zMb
      rw [y, if_neg (nI_pos (by omega)), nI_clamp (by omega)]
    rw [y, eM]
    exact zwiL h200 hE h3 t2 x2 (t - 1) 0 (((u.2 3).toInt + 1 - (1 : Int32).toInt).toNat + 1) (by rw [h3, nI_toInt (by omega), show (1 : Int32).toInt = 1 from rfl]; omega) (by omega)
theorem ztoL (h200 : S ≤ 200) (hE : zSl u S) (h3 : u.2 3 = nI S) : ∀ (m s f : Nat), m < f → s + m = S → s_X1_together_L4 f u (zSm (zDe (u.1 15) (u.1 10)) s) (nI (s + 1)) = zSm (zDe (u.1 15) (u.1 10)) S := by
  intro m
  induction m with
  | zero =>
    intro s f hf hs
    obtain ⟨f, rfl⟩ : ∃ z, f = z + 1 := ⟨f - 1, by omega⟩
    rw [s_X1_together_L4, h3, if_pos (nI_lt (by omega) (by omega)), show s = S by omega]
  | succ m ih =>
    intro s f hf hs
    obtain ⟨f, rfl⟩ : ∃ z, f = z + 1 := ⟨f - 1, by omega⟩
    rw [s_X1_together_L4, h3, if_neg (nI_nlt (by omega) (by omega)), zslewAt h200 hE (by omega), nI_1]
    exact ih (s + 1) f (by omega) (by omega)
theorem ztogether (h200 : S ≤ 200) (hE : zSl u S) (h3 : u.2 3 = nI S) : s_X1_together u = zSm (zDe (u.1 15) (u.1 10)) S := by
  exact ztoL h200 hE h3 S 0 (((u.2 3).toInt + 1 - (1 : Int32).toInt).toNat + 1) (by rw [h3, nI_toInt (by omega), show (1 : Int32).toInt = 1 from rfl]; omega) (by omega)
/-! ### the reference's slews -/
theorem zms (o : Nat → Int32) (hS : S ≤ 200) : ∀ (m s f : Nat) (w : xU) (x1 x2 : Int32), m < f → s + m = S → w.2 1 = nI S → zT (w.1 3) (w.1 6) (w.1 7) S → (∀ i, 1 ≤ i → i ≤ S → w.1 12 i = o i) → x1 - w.1 6 s = zDd o (w.1 3) s → x2 - w.1 7 s = zDe o (w.1 3) s →
    (s_X6_slews_L6 f w x1 x2 (nI (s + 1))).2 = w.2 ∧ (∀ k, k ≠ 13 → (s_X6_slews_L6 f w x1 x2 (nI (s + 1))).1 k = w.1 k) ∧ (∀ i, i ≤ s → (s_X6_slews_L6 f w x1 x2 (nI (s + 1))).1 13 i = w.1 13 i) ∧ ∀ i, s < i → i ≤ S → (s_X6_slews_L6 f w x1 x2 (nI (s + 1))).1 13 i = zDe o (w.1 3) i := by
  intro m
  induction m with
  | zero =>
    intro s f w x1 x2 hf hs h1 hT ho e1 e2
    obtain ⟨f, rfl⟩ : ∃ z, f = z + 1 := ⟨f - 1, by omega⟩
    rw [s_X6_slews_L6, h1, if_pos (nI_lt (by omega) (by omega))]
    exact ⟨rfl, fun _ _ => rfl, fun _ _ => rfl, fun i a b => absurd b (by omega)⟩
  | succ m ih =>
    intro s f w x1 x2 hf hs h1 hT ho e1 e2
    obtain ⟨f, rfl⟩ : ∃ z, f = z + 1 := ⟨f - 1, by omega⟩
    rw [s_X6_slews_L6, h1, if_neg (nI_nlt (by omega) (by omega)), nI_clamp (by omega), ho (s + 1) (by omega) (by omega), nI_1]
    obtain ⟨t1, t2⟩ := hT.2.2 s (by omega)
    have g1 : (x1 + o (s + 1)) - w.1 6 (s + 1) = zDd o (w.1 3) (s + 1) := by rw [t1, zr4, e1]; rfl
    have g2 : (x2 + (x1 + o (s + 1))) - w.1 7 (s + 1) = zDe o (w.1 3) (s + 1) := by rw [t2, zr4, e2, g1]; rfl
    rw [g2]
    obtain ⟨a1, a2, a3, a4⟩ := ih (s + 1) f (uA w 13 (s + 1) (zDe o (w.1 3) (s + 1))) (x1 + o (s + 1)) (x2 + (x1 + o (s + 1))) (by omega) (by omega) h1 hT ho g1 g2
    refine ⟨a1, fun k hk => (a2 k hk).trans (by simp only [uA]; rw [if_neg hk]), fun i hi => (a3 i (by omega)).trans ?_, fun i i1 i2 => ?_⟩
    · show upd (w.1 13) (s + 1) _ i = _
      rw [pk_un (by omega)]
    · by_cases e : i = s + 1
      · subst e
        refine (a3 (s + 1) (by omega)).trans ?_
        show upd (w.1 13) (s + 1) _ (s + 1) = _
        rw [pk_us]
      · exact a4 i (by omega) i2
/-- the reference's row of slews after slews() -/
theorem zslews (o : Nat → Int32) (hS : S ≤ 200) (h1 : w.2 1 = nI S) (hT : zT (w.1 3) (w.1 6) (w.1 7) S) (ho : ∀ i, 1 ≤ i → i ≤ S → w.1 12 i = o i) (h0 : w.1 13 0 = 0) :
    (s_X6_slews w).2 = w.2 ∧ (∀ k, k ≠ 13 → (s_X6_slews w).1 k = w.1 k) ∧ ∀ i, i ≤ S → (s_X6_slews w).1 13 i = zDe o (w.1 3) i := by
  obtain ⟨a1, a2, a3, a4⟩ := zms o hS S 0 (((w.2 1).toInt + 1 - (1 : Int32).toInt).toNat + 1) w 0 0 (by rw [h1, nI_toInt (by omega), show (1 : Int32).toInt = 1 from rfl]; omega) (by omega) h1 hT ho (by rw [hT.1]; rfl) (by rw [hT.2.1]; rfl)
  refine ⟨a1, a2, fun i hi => ?_⟩
  rcases Nat.eq_zero_or_pos i with e | e
  · subst e
    exact (a3 0 (Nat.le_refl _)).trans h0
  · exact a4 i e hi
theorem zmwL (e : Nat → Int32) (hS : S ≤ 200) (h1 : w.2 1 = nI S) (he : ∀ i, i ≤ S → w.1 13 i = e i) : ∀ (m s f : Nat), m < f → s + m = S → s_X6_widest_L4 f w (zWd e s) (nI (s + 1)) = zWd e S := by
  intro m
  induction m with
  | zero =>
    intro s f hf hs
    obtain ⟨f, rfl⟩ : ∃ z, f = z + 1 := ⟨f - 1, by omega⟩
    rw [s_X6_widest_L4, h1, if_pos (nI_lt (by omega) (by omega)), show s = S by omega]
  | succ m ih =>
    intro s f hf hs
    obtain ⟨f, rfl⟩ : ∃ z, f = z + 1 := ⟨f - 1, by omega⟩
    have g := ih (s + 1) f (by omega) (by omega)
    rw [s_X6_widest_L4, h1, if_neg (nI_nlt (by omega) (by omega)), nI_clamp (show s + 1 < 2 ^ 31 by omega), he (s + 1) (by omega), zabs, zabs, nI_1, ← g]
    congr 1
    rw [zWd]
    rcases zWd_r e s with ⟨y, y0⟩ | ⟨t, t1, t2, y⟩
    · rw [y, if_pos (show (-1 : Int32) < 0 by decide), if_pos (show (-1 : Int32) < 0 by decide)]
    · rw [y, if_neg (nI_pos (by omega)), if_neg (nI_pos (by omega)), nI_clamp (show t < 2 ^ 31 by omega), he t (by omega)]
theorem zmwidest (e : Nat → Int32) (hS : S ≤ 200) (h1 : w.2 1 = nI S) (he : ∀ i, i ≤ S → w.1 13 i = e i) : s_X6_widest w = zWd e S :=
  zmwL e hS h1 he S 0 (((w.2 1).toInt + 1 - (1 : Int32).toInt).toNat + 1) (by rw [h1, nI_toInt (by omega), show (1 : Int32).toInt = 1 from rfl]; omega) (by omega)
theorem zmost (e : Nat → Int32) (hS : S ≤ 200) (h1 : w.2 1 = nI S) (he : ∀ i, i ≤ S → w.1 13 i = e i) : s_X6_most w = zMb e S := by
  unfold s_X6_most zMb
  rw [zmwidest e hS h1 he]
  rcases zWd_r e S with ⟨y, y0⟩ | ⟨t, t1, t2, y⟩
  · rw [y, if_neg (by decide), if_pos (by decide)]
  · rw [y, if_pos (nI_pos' (by omega)), if_neg (nI_pos (by omega)), nI_clamp (by omega), he t t2, zabs]
theorem zm50 (e : Nat → Int32) (hS : S ≤ 200) (h1 : w.2 1 = nI S) (he : ∀ i, i ≤ S → w.1 13 i = e i) (x1 x2 : Int32) : ∀ (m s f : Nat), m < f → s + m = S → s_X6_slews__L50 f w x1 x2 (zSm e s) (nI (s + 1)) = if x2 = 0 then ((zWd e S).toInt64, w) else if x2 = 1 then (zSm e S, w) else ((e S).toInt64, w) := by
  intro m
  induction m with
  | zero =>
    intro s f hf hs
    obtain ⟨f, rfl⟩ : ∃ z, f = z + 1 := ⟨f - 1, by omega⟩
    have e1 : w.1 13 (w.2 1).toNatClampNeg = e S := by rw [h1, nI_clamp (by omega)]; exact he S (Nat.le_refl _)
    rw [s_X6_slews__L50, e1, zmwidest e hS h1 he, h1, if_pos (nI_lt (by omega) (by omega)), show s = S by omega]
  | succ m ih =>
    intro s f hf hs
    obtain ⟨f, rfl⟩ : ∃ z, f = z + 1 := ⟨f - 1, by omega⟩
    rw [s_X6_slews__L50, h1, if_neg (nI_nlt (by omega) (by omega)), nI_clamp (show s + 1 < 2 ^ 31 by omega), he (s + 1) (by omega), zabs, nI_1]
    exact ih (s + 1) f (by omega) (by omega)
end ZSL
