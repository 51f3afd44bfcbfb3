/-! ===== the line, worked out of the pieces' row: what both sides come to ===== -/
def zpK (f : Nat → Int32) (p : Nat) : Int32 := f (4 * p + 0)
def zpL (f : Nat → Int32) (p : Nat) : Int32 := f (4 * p + 1)
def zpB (f : Nat → Int32) (p : Nat) : Int32 := f (4 * p + 2)
def zpC (f : Nat → Int32) (p : Nat) : Int32 := f (4 * p + 3)
def zpN (f : Nat → Int32) (p : Nat) : Nat := (zpL f p).toInt.toNat
def zpS (f : Nat → Int32) : Nat → Nat
  | 0 => 0
  | p + 1 => zpS f p + zpN f p
def zpE (f : Nat → Int32) (p : Nat) : Int32 := if zpK f p = 0 then 0 else if zpK f p = 3 then -zpB f p else if zpK f p = 5 then zpB f p / 2 else zpB f p
def zpA (f : Nat → Int32) : Nat → Int32
  | 0 => 0
  | p + 1 => zpE f p
def zpD (f : Nat → Int32) : Nat → Int32
  | 0 => 0
  | p + 1 => zpC f p
def zpV (f : Nat → Int32) (p k : Nat) : Int32 := s_X5_along (zpK f p) (zpA f p) (zpE f p) (nI k) (zpL f p)
def zpR (f : Nat → Int32) (p : Nat) : Int32 := if zpK f p = 4 then 2 else zpK f p
def zpH (f : Nat → Int32) (p k : Nat) : Int32 := s_X5_along (zpR f p) (zpD f p) (zpC f p) (nI k) (zpL f p)
def zGP (f : Nat → Int32) (n : Nat) : Prop := n ≤ 10 ∧ XV0 f ∧ ∀ p, p < n → 1 ≤ (f (4 * p + 1)).toInt
theorem zGP.of {f : Nat → Int32} {N : Int32} (h : XV f N) : ∃ n, N = nI n ∧ zGP f n := by
  obtain ⟨n, h1, h2, h3, h4⟩ := h
  exact ⟨n, h2, h1, h3, h4⟩
theorem zGP.xv {f : Nat → Int32} {n : Nat} (h : zGP f n) : XV f (nI n) := ⟨n, h.1, rfl, h.2.1, h.2.2⟩
theorem zGP.N {f : Nat → Int32} {n p : Nat} (h : zGP f n) (hp : p < n) : 1 ≤ zpN f p ∧ zpN f p ≤ 20 ∧ zpL f p = nI (zpN f p) := by
  obtain ⟨h1, h2, h3⟩ := h
  have a := h3 p hp
  have b : 0 ≤ (f (4 * p + 1)).toInt ∧ (f (4 * p + 1)).toInt ≤ 20 := h2 p 1 (by omega) (by decide)
  have e : zpN f p = (f (4 * p + 1)).toInt.toNat := rfl
  refine ⟨by omega, by omega, ?_⟩
  rw [fa_eq, nI_toInt (by omega), e]
  show (f (4 * p + 1)).toInt = _
  omega
theorem zpS_b {f : Nat → Int32} {n : Nat} (h : zGP f n) : ∀ p, p ≤ n → zpS f p ≤ 20 * p
  | 0, _ => Nat.le_refl _
  | p + 1, hp => by
    have a := zpS_b h p (by omega)
    have b := (h.N (p := p) (by omega)).2.1
    show zpS f p + zpN f p ≤ _
    omega
theorem zpS_mono {f : Nat → Int32} {p : Nat} : ∀ q, p ≤ q → zpS f p ≤ zpS f q
  | 0, h => by rw [show p = 0 by omega]; exact Nat.le_refl _
  | q + 1, h => by
    by_cases e : p = q + 1
    · rw [e]; exact Nat.le_refl _
    · exact Nat.le_trans (zpS_mono q (by omega)) (Nat.le_add_right _ _)
theorem zpS_in {f : Nat → Int32} {p n : Nat} (hp : p < n) : zpS f p + zpN f p ≤ zpS f n := zpS_mono (p := p + 1) n hp
theorem zpS_200 {f : Nat → Int32} {n : Nat} (h : zGP f n) : zpS f n ≤ 200 := by
  have := zpS_b h n (Nat.le_refl _)
  have := h.1
  omega
theorem zp_at (f : Nat → Int32) : ∀ (n s : Nat), 1 ≤ s → s ≤ zpS f n → ∃ p k, p < n ∧ 1 ≤ k ∧ k ≤ zpN f p ∧ s = zpS f p + k
  | 0, s, h1, h2 => by
    change s ≤ 0 at h2
    omega
  | n + 1, s, h1, h2 => by
    change s ≤ zpS f n + zpN f n at h2
    by_cases h : s ≤ zpS f n
    · obtain ⟨p, k, a, b, c, d⟩ := zp_at f n s h1 h
      exact ⟨p, k, by omega, b, c, d⟩
    · exact ⟨n, s - zpS f n, by omega, by omega, by omega, by omega⟩
/-- a line laid by a row of pieces -/
def zLD (f : Nat → Int32) (n : Nat) (o v h t g : Nat → Int32) (N : Int32) : Prop :=
  N = nI (zpS f n) ∧ (∀ p k, p < n → 1 ≤ k → k ≤ zpN f p → o (zpS f p + k) = nI p ∧ v (zpS f p + k) = zpV f p k ∧ h (zpS f p + k) = zpH f p k) ∧
  (v 0 = 0 ∧ h 0 = 0 ∧ t 0 = 0 ∧ g 0 = 0) ∧ ∀ s, s < zpS f n → t (s + 1) = t s + v (s + 1) ∧ g (s + 1) = g s + t (s + 1)
theorem zLD.eq {f o v h t g o2 v2 h2 t2 g2 : Nat → Int32} {n : Nat} {N N2 : Int32} (a : zLD f n o v h t g N) (b : zLD f n o2 v2 h2 t2 g2 N2) :
    N = N2 ∧ ∀ s, s ≤ zpS f n → v s = v2 s ∧ h s = h2 s ∧ t s = t2 s ∧ g s = g2 s ∧ (1 ≤ s → o s = o2 s) := by
  obtain ⟨a1, a2, ⟨a3, a4, a5, a6⟩, a7⟩ := a
  obtain ⟨b1, b2, ⟨b3, b4, b5, b6⟩, b7⟩ := b
  refine ⟨a1.trans b1.symm, ?_⟩
  have k1 : ∀ s, s ≤ zpS f n → v s = v2 s ∧ h s = h2 s ∧ (1 ≤ s → o s = o2 s) := by
    intro s hs
    by_cases h0 : s = 0
    · subst h0
      exact ⟨a3.trans b3.symm, a4.trans b4.symm, fun z => absurd z (by decide)⟩
    · obtain ⟨p, k, p1, p2, p3, rfl⟩ := zp_at f n s (by omega) hs
      obtain ⟨x1, x2, x3⟩ := a2 p k p1 p2 p3
      obtain ⟨y1, y2, y3⟩ := b2 p k p1 p2 p3
      exact ⟨x2.trans y2.symm, x3.trans y3.symm, fun _ => x1.trans y1.symm⟩
  have k2 : ∀ s, s ≤ zpS f n → t s = t2 s ∧ g s = g2 s := by
    intro s
    induction s with
    | zero => intro _; exact ⟨a5.trans b5.symm, a6.trans b6.symm⟩
    | succ s ih =>
      intro hs
      obtain ⟨e1, e2⟩ := ih (by omega)
      obtain ⟨c1, c2⟩ := a7 s (by omega)
      obtain ⟨d1, d2⟩ := b7 s (by omega)
      have e3 : t (s + 1) = t2 (s + 1) := by rw [c1, d1, e1, (k1 (s + 1) hs).1]
      exact ⟨e3, by rw [c2, d2, e2, e3]⟩
  intro s hs
  exact ⟨(k1 s hs).1, (k1 s hs).2.1, (k2 s hs).1, (k2 s hs).2, (k1 s hs).2.2⟩
/-! ===== the class: fill ===== -/
theorem zput_cons (f g : Nat → Int32) (a m : Nat) : fb_put (upd f a (g 0)) (fun j => g (j + 1)) (a + 1) m = fb_put f g a (m + 1) := by
  funext k
  unfold fb_put
  by_cases h1 : k = a
  · subst h1
    rw [if_neg (by omega), if_pos (by omega), pk_us, Nat.sub_self]
  · by_cases h2 : a ≤ k ∧ k < a + (m + 1)
    · rw [if_pos (by omega), if_pos h2]
      show g (k - (a + 1) + 1) = _
      rw [show k - (a + 1) + 1 = k - a by omega]
    · rw [if_neg (by omega), if_neg h2, pk_un h1]
theorem zix {a i : Nat} : (nI a + nI (i + 1)) - 1 = nI (a + i) := by
  rw [nI_add, ← Nat.add_assoc, nI_pred]
theorem zfillL {kind rise ah en lo ca x1 : Int32} {L a : Nat} (hL : L ≤ 20) (ha : a + L ≤ 201) : ∀ (m i : Nat) (u : xU) (fuel : Nat), m < fuel → i + m = L → s_X0_firstOf u x1 = nI a →
    (s_X0_fill_L87 fuel u x1 kind rise (nI L) ah en lo ca (nI (i + 1))).1 9 = fb_put (u.1 9) (fun _ => x1) (a + i) m ∧
    (s_X0_fill_L87 fuel u x1 kind rise (nI L) ah en lo ca (nI (i + 1))).1 10 = fb_put (u.1 10) (fun j => s_X5_along kind ah en (nI (i + j + 1)) (nI L)) (a + i) m ∧
    (s_X0_fill_L87 fuel u x1 kind rise (nI L) ah en lo ca (nI (i + 1))).1 11 = fb_put (u.1 11) (fun j => s_X5_along rise lo ca (nI (i + j + 1)) (nI L)) (a + i) m := by
  intro m
  induction m with
  | zero =>
    intro i u fuel hf hi hs
    obtain ⟨fuel, rfl⟩ : ∃ z, fuel = z + 1 := ⟨fuel - 1, by omega⟩
    rw [s_X0_fill_L87, if_pos (nI_lt (by omega) (by omega)), fb_put_0, fb_put_0, fb_put_0]
    exact ⟨rfl, rfl, rfl⟩
  | succ m ih =>
    intro i u fuel hf hi hs
    obtain ⟨fuel, rfl⟩ : ∃ z, fuel = z + 1 := ⟨fuel - 1, by omega⟩
    rw [s_X0_fill_L87, if_neg (nI_nlt (by omega) (by omega)), nI_1]
    have e : ((s_X0_firstOf u x1) + nI (i + 1)) - 1 = nI (a + i) := by rw [hs, zix]
    rw [e]
    obtain ⟨r1, r2, r3⟩ := ih (i + 1) (uR (uR (uR u 9 (s_X5_mark 201 (u.1 9) (nI (a + i)) x1)) 10 (s_X5_mark 201 ((uR u 9 (s_X5_mark 201 (u.1 9) (nI (a + i)) x1)).1 10) (nI (a + i)) (s_X5_along kind ah en (nI (i + 1)) (nI L)))) 11 (s_X5_mark 201 ((uR (uR u 9 (s_X5_mark 201 (u.1 9) (nI (a + i)) x1)) 10 (s_X5_mark 201 ((uR u 9 (s_X5_mark 201 (u.1 9) (nI (a + i)) x1)).1 10) (nI (a + i)) (s_X5_along kind ah en (nI (i + 1)) (nI L)))).1 11) (nI (a + i)) (s_X5_along rise lo ca (nI (i + 1)) (nI L)))) fuel (by omega) (by omega) hs
    refine ⟨r1.trans ?_, r2.trans ?_, r3.trans ?_⟩
    · show fb_put (s_X5_mark 201 (u.1 9) (nI (a + i)) x1) _ _ _ = _
      rw [s_X5_mark_in (by decide) (by omega)]
      exact zput_cons (u.1 9) (fun _ => x1) (a + i) m
    · show fb_put (s_X5_mark 201 (u.1 10) (nI (a + i)) _) _ _ _ = _
      rw [s_X5_mark_in (by decide) (by omega), ← zput_cons]
      show fb_put _ (fun j => s_X5_along kind ah en (nI (i + 1 + j + 1)) (nI L)) _ _ = fb_put _ (fun j => s_X5_along kind ah en (nI (i + (j + 1) + 1)) (nI L)) _ _
      rw [show (fun j => s_X5_along kind ah en (nI (i + 1 + j + 1)) (nI L)) = (fun j => s_X5_along kind ah en (nI (i + (j + 1) + 1)) (nI L)) from funext fun j => by rw [show i + 1 + j + 1 = i + (j + 1) + 1 by omega]]
      rfl
    · show fb_put (s_X5_mark 201 (u.1 11) (nI (a + i)) _) _ _ _ = _
      rw [s_X5_mark_in (by decide) (by omega), ← zput_cons]
      show fb_put _ (fun j => s_X5_along rise lo ca (nI (i + 1 + j + 1)) (nI L)) _ _ = fb_put _ (fun j => s_X5_along rise lo ca (nI (i + (j + 1) + 1)) (nI L)) _ _
      rw [show (fun j => s_X5_along rise lo ca (nI (i + 1 + j + 1)) (nI L)) = (fun j => s_X5_along rise lo ca (nI (i + (j + 1) + 1)) (nI L)) from funext fun j => by rw [show i + 1 + j + 1 = i + (j + 1) + 1 by omega]]
      rfl
