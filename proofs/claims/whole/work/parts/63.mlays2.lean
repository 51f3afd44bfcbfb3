/-! ===== the reference lays its line ===== -/
theorem zA_s {U : xU} {k i : Nat} {x : Int32} : (uA U k i x).1 k i = x := by
  show (if k = k then upd (U.1 k) i x else U.1 k) i = x
  rw [if_pos rfl, pk_us]
theorem zof0 {u : xU} {p j : Nat} (hp : p < 10) (hj : j < 4) : s_X6_of0 u (nI p) (nI j) = u.1 1 (4 * p + j) := by
  unfold s_X6_of0
  have h : (nI p).toInt = p := nI_toInt (by omega)
  rw [xat4 (p := nI p) ⟨by omega, by omega⟩ hj, h, Int.toNat_natCast]
def zMP (f : Nat → Int32) (p i : Nat) (u : xU) : Prop :=
  u.1 1 = f ∧ u.2 1 = nI (zpS f p + i) ∧ (∀ q k, q < p → 1 ≤ k → k ≤ zpN f q → u.1 5 (zpS f q + k) = nI q ∧ u.1 3 (zpS f q + k) = zpV f q k ∧ u.1 4 (zpS f q + k) = zpH f q k) ∧
  (∀ k, 1 ≤ k → k ≤ i → u.1 5 (zpS f p + k) = nI p ∧ u.1 3 (zpS f p + k) = zpV f p k ∧ u.1 4 (zpS f p + k) = zpH f p k) ∧ u.1 3 0 = 0 ∧ u.1 4 0 = 0 ∧ zT (u.1 3) (u.1 6) (u.1 7) (zpS f p + i)
def zst (u : xU) (s : Nat) (V H P T G : Int32) : xU := uA (uA (uA (uA (uA (uZ u 1 (nI (s + 1))) 3 (s + 1) V) 4 (s + 1) H) 5 (s + 1) P) 6 (s + 1) T) 7 (s + 1) G
theorem zst_ls (u : xU) (s : Nat) (V H P T G : Int32) : xLS u (zst u s V H P T G) :=
  xLS.trans' (xLS.trans' (xLS.trans' (xLS.trans' (xLS.trans' (xLS.uZ' _ _) (xLS.uA' _ 3 _ _ (by omega))) (xLS.uA' _ 4 _ _ (by omega))) (xLS.uA' _ 5 _ _ (by omega))) (xLS.uA' _ 6 _ _ (by omega))) (xLS.uA' _ 7 _ _ (by omega))
theorem zst_mp {f : Nat → Int32} {p i : Nat} {u : xU} (h : zMP f p i u) : zMP f p (i + 1) (zst u (zpS f p + i) (zpV f p (i + 1)) (zpH f p (i + 1)) (nI p) (u.1 6 (zpS f p + i) + zpV f p (i + 1)) (u.1 7 (zpS f p + i) + (u.1 6 (zpS f p + i) + zpV f p (i + 1)))) := by
  obtain ⟨h1, h2, h3, h4, h5, h6, h7⟩ := h
  refine ⟨h1, rfl, fun q k hq k1 k2 => ?_, fun k k1 k2 => ?_, ?_, ?_, ?_⟩
  · have hz : zpS f q + zpN f q ≤ zpS f p := zpS_in (by omega)
    show upd (u.1 5) (zpS f p + i + 1) _ _ = _ ∧ upd (u.1 3) (zpS f p + i + 1) _ _ = _ ∧ upd (u.1 4) (zpS f p + i + 1) _ _ = _
    rw [pk_un (by omega), pk_un (by omega), pk_un (by omega)]
    exact h3 q k hq k1 k2
  · show upd (u.1 5) (zpS f p + i + 1) _ _ = _ ∧ upd (u.1 3) (zpS f p + i + 1) _ _ = _ ∧ upd (u.1 4) (zpS f p + i + 1) _ _ = _
    by_cases e : k = i + 1
    · subst e
      rw [show zpS f p + (i + 1) = zpS f p + i + 1 by omega, pk_us, pk_us, pk_us]
      exact ⟨rfl, rfl, rfl⟩
    · rw [pk_un (by omega), pk_un (by omega), pk_un (by omega)]
      exact h4 k k1 (by omega)
  · show upd (u.1 3) (zpS f p + i + 1) (zpV f p (i + 1)) 0 = 0
    rw [pk_un (by omega)]
    exact h5
  · show upd (u.1 4) (zpS f p + i + 1) (zpH f p (i + 1)) 0 = 0
    rw [pk_un (by omega)]
    exact h6
  · show zT (upd (u.1 3) (zpS f p + i + 1) (zpV f p (i + 1))) (upd (u.1 6) (zpS f p + i + 1) (u.1 6 (zpS f p + i) + zpV f p (i + 1))) (upd (u.1 7) (zpS f p + i + 1) (u.1 7 (zpS f p + i) + (u.1 6 (zpS f p + i) + zpV f p (i + 1)))) (zpS f p + i + 1)
    obtain ⟨t1, t2, t3⟩ := h7
    refine ⟨by rw [pk_un (by omega)]; exact t1, by rw [pk_un (by omega)]; exact t2, fun s hs => ?_⟩
    by_cases e : s = zpS f p + i
    · subst e
      rw [pk_us, pk_us, pk_us, pk_un (by omega), pk_un (by omega)]
      exact ⟨rfl, rfl⟩
    · rw [pk_un (show s + 1 ≠ zpS f p + i + 1 by omega), pk_un (show s ≠ zpS f p + i + 1 by omega), pk_un (show s + 1 ≠ zpS f p + i + 1 by omega), pk_un (show s + 1 ≠ zpS f p + i + 1 by omega), pk_un (show s ≠ zpS f p + i + 1 by omega)]
      exact t3 s (by omega)
theorem zl65 {f : Nat → Int32} {n p : Nat} (hg : zGP f n) (hp : p < n) (K : xU → Int32 → xU) : ∀ (m i : Nat) (u : xU) (fuel : Nat), m < fuel → i + m = zpN f p → zMP f p i u →
    ∃ w, zMP f p (zpN f p) w ∧ xLS u w ∧ s_X6_lays_L65 K fuel u (nI p) (zpK f p) (zpL f p) (zpB f p) (zpA f p) (zpD f p) (nI (i + 1)) = K w (nI (p + 1)) := by
  obtain ⟨l1, l2, l3⟩ := hg.N hp
  have h10 := hg.1
  have h200 := zpS_200 hg
  have hin : zpS f p + zpN f p ≤ zpS f n := zpS_in hp
  intro m
  induction m with
  | zero =>
    intro i u fuel hf hi h
    obtain ⟨fuel, rfl⟩ : ∃ z, fuel = z + 1 := ⟨fuel - 1, by omega⟩
    refine ⟨u, by rw [show zpN f p = i by omega]; exact h, xLS.rfl' u, ?_⟩
    rw [s_X6_lays_L65, if_pos (by rw [l3]; exact nI_lt (by omega) (by omega)), nI_1 p]
  | succ m ih =>
    intro i u fuel hf hi h
    obtain ⟨fuel, rfl⟩ : ∃ z, fuel = z + 1 := ⟨fuel - 1, by omega⟩
    obtain ⟨w, w1, w2, w3⟩ := ih (i + 1) _ fuel (by omega) (by omega) (zst_mp h)
    refine ⟨w, w1, xLS.trans' (zst_ls _ _ _ _ _ _ _) w2, ?_⟩
    rw [← w3, s_X6_lays_L65, if_neg (by rw [l3]; exact nI_nlt (by omega) (by omega)), zval hg hp (i + 1)]
    have eC : s_X6_of0 u (nI p) 3 = zpC f p := by
      refine (zof0 (j := 3) (by omega) (by decide)).trans ?_
      rw [h.1]
      rfl
    rw [eC, zhgt hg hp u (i + 1), h.2.1, nI_1 (zpS f p + i), nI_clamp (show zpS f p + i + 1 < 2 ^ 31 by omega), nI_pred, nI_clamp (show zpS f p + i < 2 ^ 31 by omega), zA_s, zA_s, nI_1 (i + 1)]
    rfl
theorem zmA {f : Nat → Int32} {n p : Nat} {u : xU} (hg : zGP f n) (hp : p < n) (h : zMP f p 0 u) : u.1 3 (zpS f p) = zpA f p ∧ u.1 4 (zpS f p) = zpD f p := by
  obtain ⟨h1, h2, h3, h4, h5, h6, h7⟩ := h
  cases p with
  | zero => exact ⟨h5, h6⟩
  | succ q =>
    obtain ⟨l1, l2, l3⟩ := hg.N (p := q) (by omega)
    obtain ⟨a, b, c⟩ := h3 q (zpN f q) (by omega) l1 (Nat.le_refl _)
    exact ⟨b.trans (zVend hg (by omega)), c.trans (zHend hg (by omega))⟩
theorem zMP_next {f : Nat → Int32} {p : Nat} {u : xU} (h : zMP f p (zpN f p) u) : zMP f (p + 1) 0 u := by
  obtain ⟨h1, h2, h3, h4, h5, h6, h7⟩ := h
  refine ⟨h1, h2, fun q k hq k1 k2 => ?_, fun k k1 k2 => absurd k2 (by omega), h5, h6, h7⟩
  by_cases e : q = p
  · subst e
    exact h4 k k1 k2
  · exact h3 q k (by omega) k1 k2
theorem zl7 {f : Nat → Int32} {n : Nat} (hg : zGP f n) (h40 : f 40 = nI n) : ∀ (m p : Nat) (u : xU) (fuel : Nat), m < fuel → p + m = n → zMP f p 0 u → zMP f n 0 (s_X6_lays_L7 fuel u (nI p)) := by
  have h10 := hg.1
  have h200 := zpS_200 hg
  intro m
  induction m with
  | zero =>
    intro p u fuel hf hp h
    obtain ⟨fuel, rfl⟩ : ∃ z, fuel = z + 1 := ⟨fuel - 1, by omega⟩
    have e : p = n := by omega
    subst e
    have c : u.1 1 (40 : Int32).toNatClampNeg = nI p := by
      show u.1 1 40 = nI p
      rw [h.1, h40]
    rw [s_X6_lays_L7, if_pos (by rw [c]; exact nI_le (Nat.le_refl _) (by omega))]
    exact h
  | succ m ih =>
    intro p u fuel hf hp h
    obtain ⟨fuel, rfl⟩ : ∃ z, fuel = z + 1 := ⟨fuel - 1, by omega⟩
    have hpn : p < n := by omega
    obtain ⟨l1, l2, l3⟩ := hg.N hpn
    have hin : zpS f p + zpN f p ≤ zpS f n := zpS_in hpn
    have c : u.1 1 (40 : Int32).toNatClampNeg = nI n := by
      show u.1 1 40 = nI n
      rw [h.1, h40]
    have o0 : s_X6_of0 u (nI p) 0 = zpK f p := by
      refine (zof0 (j := 0) (by omega) (by decide)).trans ?_
      rw [h.1]; rfl
    have o1 : s_X6_of0 u (nI p) 1 = zpL f p := by
      refine (zof0 (j := 1) (by omega) (by decide)).trans ?_
      rw [h.1]; rfl
    have o2 : s_X6_of0 u (nI p) 2 = zpB f p := by
      refine (zof0 (j := 2) (by omega) (by decide)).trans ?_
      rw [h.1]; rfl
    obtain ⟨a1, a2⟩ := zmA hg hpn h
    have cl : (u.2 1).toNatClampNeg = zpS f p := by rw [h.2.1, nI_clamp (by omega)]; rfl
    obtain ⟨w, w1, w2, w3⟩ := zl65 hg hpn (fun u x1 => s_X6_lays_L7 fuel u x1) (zpN f p) 0 u (((zpL f p).toInt + 1 - (1 : Int32).toInt).toNat + 1) (by rw [l3, nI_toInt (by omega), show (1 : Int32).toInt = 1 from rfl]; omega) (by omega) h
    rw [s_X6_lays_L7, if_neg (by rw [c]; exact nI_ge hpn (by omega)), o0, o1, o2, cl, a1, a2]
    rw [show nI (0 + 1) = 1 from rfl] at w3
    rw [w3]
    exact ih (p + 1) w fuel (by omega) (by omega) (zMP_next w1)
def z0M (v : xU) : Prop := v.1 3 0 = 0 ∧ v.1 4 0 = 0 ∧ v.1 6 0 = 0 ∧ v.1 7 0 = 0
theorem zmlays {v : xU} {n : Nat} (hg : zGP (v.1 1) n) (h40 : v.1 1 40 = nI n) (z : z0M v) : zLD (v.1 1) n ((s_X6_lays v).1 5) ((s_X6_lays v).1 3) ((s_X6_lays v).1 4) ((s_X6_lays v).1 6) ((s_X6_lays v).1 7) ((s_X6_lays v).2 1) := by
  obtain ⟨z1, z2, z3, z4⟩ := z
  have h10 := hg.1
  have h : zMP (v.1 1) n 0 (s_X6_lays v) := zl7 hg h40 n 0 (uZ v 1 0) ((10 - (0 : Int32).toInt).toNat + 1) (by rw [show (0 : Int32).toInt = 0 from rfl]; omega) (by omega)
    ⟨rfl, rfl, fun q k hq => absurd hq (by omega), fun k k1 k2 => absurd k2 (by omega), z1, z2, z3, z4, fun s hs => absurd hs (by show ¬ s < 0 + 0; omega)⟩
  obtain ⟨h1, h2, h3, h4, h5, h6, t1, t2, t3⟩ := h
  exact ⟨h2, h3, ⟨h5, h6, t1, t2⟩, t3⟩
