/-! ===== the least cant ===== -/
section ZE
variable {u v w u0 : xU} {n p q j S s : Nat} {x : Int32}
theorem zRo.readL (h : zRo u v n) (hp : p < n) : s_X2_read u (nI p) 1 = nI (zpN (u.1 2) p) := (s_X2_read_in (j := 1) h.n10 h.N hp (by decide)).trans (h.g.N hp).2.2
theorem zRo.fstML (h : zRo u v n) (hp : p ≤ n) : ∀ (m k fuel : Nat), m < fuel → k + m = p → s_X6_firstOf_L4 fuel v (nI p) (nI (zpS (u.1 2) k + 1)) (nI k) = nI (zpS (u.1 2) p + 1) := by
  have h10 := h.n10
  intro m
  induction m with
  | zero =>
    intro k fuel hf hk
    obtain ⟨fuel, rfl⟩ : ∃ z, fuel = z + 1 := ⟨fuel - 1, by omega⟩
    have e : k = p := by omega
    subst e
    rw [s_X6_firstOf_L4, if_pos (nI_le (Nat.le_refl _) (by omega))]
  | succ m ih =>
    intro k fuel hf hk
    obtain ⟨fuel, rfl⟩ : ∃ z, fuel = z + 1 := ⟨fuel - 1, by omega⟩
    have o : s_X6_of0 v (nI k) 1 = nI (zpN (u.1 2) k) := (h.1.1.of (j := 1) (by omega) (by decide)).trans (h.readL (by omega))
    rw [s_X6_firstOf_L4, if_neg (nI_ge (by omega) (by omega)), o, nI_add, nI_1 k, show zpS (u.1 2) k + 1 + zpN (u.1 2) k = zpS (u.1 2) (k + 1) + 1 by show _ = zpS (u.1 2) k + zpN (u.1 2) k + 1; omega]
    exact ih (k + 1) fuel (by omega) (by omega)
theorem zRo.fstM (h : zRo u v n) (hp : p ≤ n) : s_X6_firstOf v (nI p) = nI (zpS (u.1 2) p + 1) := by
  have h10 := h.n10
  exact h.fstML hp p 0 (((nI p).toInt - (0 : Int32).toInt).toNat + 1) (by rw [nI_toInt (by omega), show (0 : Int32).toInt = 0 from rfl]; omega) (by omega)
theorem zRo.lstM (h : zRo u v n) (hp : p < n) : s_X6_lastOf v (nI p) = nI (zpS (u.1 2) p + zpN (u.1 2) p) := by
  have o : s_X6_of0 v (nI p) 1 = nI (zpN (u.1 2) p) := (h.1.1.of (j := 1) (by omega) (by decide)).trans (h.readL (by omega))
  unfold s_X6_lastOf
  rw [h.fstM (by omega), o, nI_add, show zpS (u.1 2) p + 1 + zpN (u.1 2) p = zpS (u.1 2) p + zpN (u.1 2) p + 1 by omega, nI_pred]
theorem zRo.fst (h : zRo u v n) (hp : p < n) : s_X0_firstOf u (nI p) = nI (zpS (u.1 2) p + 1) := by
  have := h.n10
  unfold s_X0_firstOf
  rw [s_X5_cell_in (by decide) (by omega)]
  exact h.2.1 p hp
theorem zRo.lst (h : zRo u v n) (hp : p < n) : s_X0_lastOf u (nI p) = nI (zpS (u.1 2) p + zpN (u.1 2) p) := by
  unfold s_X0_lastOf
  rw [h.fst hp, h.readL hp, nI_add, show zpS (u.1 2) p + 1 + zpN (u.1 2) p = zpS (u.1 2) p + zpN (u.1 2) p + 1 by omega, nI_pred]
theorem zlk (h : zRo u w n) (hs : s ≤ 200) (e3 : w.1 3 s = u.1 10 s) (e4 : w.1 4 s = u.1 11 s) (z : Int32) : s_X5_lacks u (nI s) z = s_X6_lacks w (nI s) z := by
  have r1 : s_X6_rule w 1 = s_X5_cell 8 (u.1 5) 1 := h.1.1.rul (j := 1) (by decide)
  unfold s_X5_lacks s_X6_lacks s_X5_needBy s_X6_needAt
  rw [zcell u hs, zcell u hs, nI_clamp (by omega), e3, e4, r1, zabs]
/-- within one piece both sides hold the same -/
def zIn (u w : xU) (p : Nat) : Prop := ∀ k, 1 ≤ k → k ≤ zpN (u.1 2) p → w.1 3 (zpS (u.1 2) p + k) = u.1 10 (zpS (u.1 2) p + k) ∧ w.1 4 (zpS (u.1 2) p + k) = u.1 11 (zpS (u.1 2) p + k)
theorem zlwL (h : zRo u w n) (hp : p < n) (hI : zIn u w p) : ∀ (m k f1 f2 : Nat), m < f1 → m < f2 → k + m = zpN (u.1 2) p + 1 → 1 ≤ k →
    s_X5_lacksWithin_L28 f1 u (nI p) (s_X5_cell 8 (u.1 5) 5) (nI (zpS (u.1 2) p + zpN (u.1 2) p)) (nI (zpS (u.1 2) p + k)) = s_X6_piecelacks_L6 f2 w (nI p) (nI (zpS (u.1 2) p + k)) := by
  have h200 := zpS_200 h.g
  have hin : zpS (u.1 2) p + zpN (u.1 2) p ≤ zpS (u.1 2) n := zpS_in hp
  have r5 : s_X6_rule w 5 = s_X5_cell 8 (u.1 5) 5 := h.1.1.rul (j := 5) (by decide)
  intro m
  induction m with
  | zero =>
    intro k f1 f2 hf1 hf2 hk k1
    obtain ⟨f1, rfl⟩ : ∃ z, f1 = z + 1 := ⟨f1 - 1, by omega⟩
    obtain ⟨f2, rfl⟩ : ∃ z, f2 = z + 1 := ⟨f2 - 1, by omega⟩
    rw [s_X5_lacksWithin_L28, s_X6_piecelacks_L6, h.lstM hp, if_pos (nI_lt (by omega) (by omega)), if_pos (nI_lt (by omega) (by omega))]
  | succ m ih =>
    intro k f1 f2 hf1 hf2 hk k1
    obtain ⟨f1, rfl⟩ : ∃ z, f1 = z + 1 := ⟨f1 - 1, by omega⟩
    obtain ⟨f2, rfl⟩ : ∃ z, f2 = z + 1 := ⟨f2 - 1, by omega⟩
    obtain ⟨i1, i2⟩ := hI k k1 (by omega)
    rw [s_X5_lacksWithin_L28, s_X6_piecelacks_L6, h.lstM hp, if_neg (nI_nlt (by omega) (by omega)), if_neg (nI_nlt (by omega) (by omega)), r5, zlk h (by omega) i1 i2, nI_1]
    split
    · exact ih (k + 1) f1 f2 (by omega) (by omega) (by omega) (by omega)
    · rfl
theorem zlw (h : zRo u w n) (hp : p < n) (hI : zIn u w p) : s_X5_lacksWithin u (nI p) = s_X6_piecelacks w (nI p) := by
  have h200 := zpS_200 h.g
  have hin : zpS (u.1 2) p + zpN (u.1 2) p ≤ zpS (u.1 2) n := zpS_in hp
  unfold s_X5_lacksWithin s_X6_piecelacks
  rw [h.fst hp, h.lst hp, h.fstM (by omega), h.lstM hp]
  exact zlwL h hp hI (zpN (u.1 2) p) 1 _ _ (by rw [nI_toInt (by omega), nI_toInt (by omega)]; omega) (by rw [nI_toInt (by omega), nI_toInt (by omega)]; omega) (by omega) (by omega)
/-- one piece's cant was tried, all else stands still -/
def zLe (u0 u : xU) (p : Nat) : Prop := u.2 = u0.2 ∧ (∀ k, k ≠ 2 → k ≠ 9 → k ≠ 10 → k ≠ 11 → u.1 k = u0.1 k) ∧ (∃ c, u.1 2 = upd (u0.1 2) (4 * p + 3) c) ∧
  ∀ s, (s ≤ zpS (u0.1 2) p ∨ zpS (u0.1 2) p + zpN (u0.1 2) p < s) → u.1 9 s = u0.1 9 s ∧ u.1 10 s = u0.1 10 s ∧ u.1 11 s = u0.1 11 s
theorem zleS (h : zRo u v n) (hp : p < n) (hx : okf 3 x) (hl : zLe u0 u p) : s_X0_fill (s_X2_write u (nI p) 3 x) (nI p) = s_X0_fill (uR u 2 (upd (u.1 2) (4 * p + 3) x)) (nI p) ∧
    zRo (s_X0_fill (uR u 2 (upd (u.1 2) (4 * p + 3) x)) (nI p)) (uA v 1 (4 * p + 3) x) n ∧ zLe u0 (s_X0_fill (uR u 2 (upd (u.1 2) (4 * p + 3) x)) (nI p)) p ∧ (s_X0_fill (uR u 2 (upd (u.1 2) (4 * p + 3) x)) (nI p)).1 2 = upd (u0.1 2) (4 * p + 3) x ∧
    ∀ k, 1 ≤ k → k ≤ zpN (u0.1 2) p → (s_X0_fill (uR u 2 (upd (u.1 2) (4 * p + 3) x)) (nI p)).1 9 (zpS (u0.1 2) p + k) = nI p ∧ (s_X0_fill (uR u 2 (upd (u.1 2) (4 * p + 3) x)) (nI p)).1 10 (zpS (u0.1 2) p + k) = zpV (upd (u0.1 2) (4 * p + 3) x) p k ∧ (s_X0_fill (uR u 2 (upd (u.1 2) (4 * p + 3) x)) (nI p)).1 11 (zpS (u0.1 2) p + k) = zpH (upd (u0.1 2) (4 * p + 3) x) p k := by
  obtain ⟨l1, l2, ⟨c, l3⟩, l4⟩ := hl
  have ew : s_X2_write u (nI p) 3 x = uR u 2 (upd (u.1 2) (4 * p + 3) x) := s_X2_write_in (j := 3) h.n10 h.N hp (by decide) x
  have e2 : upd (u.1 2) (4 * p + 3) x = upd (u0.1 2) (4 * p + 3) x := by rw [l3, fa_upd_twice]
  have hput := h.put (j := 3) hp (by decide) (by decide) hx
  obtain ⟨a1, a2⟩ := zfl (u := uR u 2 (upd (u.1 2) (4 * p + 3) x)) (n := n) (p := p) h.N hput.g hp hput.2.1
  obtain ⟨b2, b1⟩ := xfill (uR u 2 (upd (u.1 2) (4 * p + 3) x)) (nI p)
  change ∀ k, 1 ≤ k → k ≤ zpN (upd (u.1 2) (4 * p + 3) x) p → _ = nI p ∧ _ = zpV (upd (u.1 2) (4 * p + 3) x) p k ∧ _ = zpH (upd (u.1 2) (4 * p + 3) x) p k at a1
  change ∀ s, (s ≤ zpS (upd (u.1 2) (4 * p + 3) x) p ∨ zpS (upd (u.1 2) (4 * p + 3) x) p + zpN (upd (u.1 2) (4 * p + 3) x) p < s) → _ = u.1 9 s ∧ _ = u.1 10 s ∧ _ = u.1 11 s at a2
  have h1 : ∀ k, k ≠ 2 → k ≠ 9 → k ≠ 10 → k ≠ 11 → (s_X0_fill (uR u 2 (upd (u.1 2) (4 * p + 3) x)) (nI p)).1 k = u.1 k := fun k k2 k9 k10 k11 => (b1 k k9 k10 k11).trans (by simp only [uR]; rw [if_neg k2])
  have h2 : (s_X0_fill (uR u 2 (upd (u.1 2) (4 * p + 3) x)) (nI p)).1 2 = upd (u.1 2) (4 * p + 3) x := b1 2 (by decide) (by decide) (by decide)
  rw [e2] at a1 a2
  rw [zu_S (by decide) (by decide), zu_N (by decide) (by decide)] at a2
  have a1' : ∀ k, 1 ≤ k → k ≤ zpN (u0.1 2) p → (s_X0_fill (uR u 2 (upd (u.1 2) (4 * p + 3) x)) (nI p)).1 9 (zpS (u0.1 2) p + k) = nI p ∧ (s_X0_fill (uR u 2 (upd (u.1 2) (4 * p + 3) x)) (nI p)).1 10 (zpS (u0.1 2) p + k) = zpV (upd (u0.1 2) (4 * p + 3) x) p k ∧ (s_X0_fill (uR u 2 (upd (u.1 2) (4 * p + 3) x)) (nI p)).1 11 (zpS (u0.1 2) p + k) = zpH (upd (u0.1 2) (4 * p + 3) x) p k := fun k k1 k2 => by
    have := a1 k k1 (by rw [zu_N (by decide) (by decide)]; exact k2)
    show (s_X0_fill (uR u 2 (upd (u.1 2) (4 * p + 3) x)) (nI p)).1 9 (zpS (u0.1 2) p + k) = nI p ∧ _
    rw [e2]
    have eS : zpS ((uR u 2 (upd (u0.1 2) (4 * p + 3) x)).1 2) p = zpS (u0.1 2) p := zu_S (by decide) (by decide) p
    rw [eS] at this
    exact this
  refine ⟨by rw [ew], ⟨h.1.touch (h.1.1.put (j := 3) hp (by decide) (by decide) hx) h2 (fun k k2 k9 k10 k11 _ => h1 k k2 k9 k10 k11) ?_ b2 ?_ (fun k hk => by simp only [uA]; rw [if_neg hk]) rfl, fun q hq => ?_, ?_⟩, ⟨b2.trans l1, fun k k2 k9 k10 k11 => (h1 k k2 k9 k10 k11).trans (l2 k k2 k9 k10 k11), ⟨x, h2.trans e2⟩, fun s hs => ?_⟩, h2.trans e2, a1'⟩
  · obtain ⟨y9, y10, y11⟩ := a2 0 (Or.inl (Nat.zero_le _))
    rw [e2, y10, y11]
    exact ⟨h.1.2.1.1, h.1.2.1.2.1⟩
  · show (if 1 = 1 then upd (v.1 1) (4 * p + 3) x else v.1 1) = _
    rw [if_pos rfl]
  · rw [h1 8 (by decide) (by decide) (by decide) (by decide), h2, zu_S (by decide) (by decide)]
    exact h.2.1 q hq
  · rw [b2, h2, zu_S (by decide) (by decide)]
    exact h.2.2
  · obtain ⟨y9, y10, y11⟩ := a2 s hs
    obtain ⟨z9, z10, z11⟩ := l4 s hs
    rw [e2]
    exact ⟨y9.trans z9, y10.trans z10, y11.trans z11⟩
theorem zle_in (hro : zRo u v n) (hp : p < n) (h2 : u.1 2 = upd (u0.1 2) (4 * p + 3) x) (ha : ∀ k, 1 ≤ k → k ≤ zpN (u0.1 2) p → u.1 9 (zpS (u0.1 2) p + k) = nI p ∧ u.1 10 (zpS (u0.1 2) p + k) = zpV (upd (u0.1 2) (4 * p + 3) x) p k ∧ u.1 11 (zpS (u0.1 2) p + k) = zpH (upd (u0.1 2) (4 * p + 3) x) p k) : zRo u (s_X6_lays v) n ∧ zIn u (s_X6_lays v) p := by
  obtain ⟨l0, -⟩ := hro.lays
  obtain ⟨⟨hg, hN, h40, hi, hj, hb⟩, z0, hk, hs, ht, zm, h13, hc⟩ := hro.1
  have d := (zmlays (hg.cong hi) h40 zm).cong hg.1 hi
  refine ⟨l0, fun k k1 k2 => ?_⟩
  obtain ⟨d1, d2, d3⟩ := d.2.1 p k hp k1 k2
  have eN : zpN (u.1 2) p = zpN (u0.1 2) p := by rw [h2, zu_N (by decide) (by decide)]
  have eS : zpS (u.1 2) p = zpS (u0.1 2) p := by rw [h2, zu_S (by decide) (by decide)]
  rw [eN] at k2
  obtain ⟨a1, a2, a3⟩ := ha k k1 k2
  rw [d2, d3, eS, a2, a3, h2]
  exact ⟨rfl, rfl⟩
theorem zle_back (h0 : zLX n u0) (hp : p < n) (hx : u0.1 2 (4 * p + 3) = x) (hro : zRo u v n) (hl : zLe u0 u p) (h2 : u.1 2 = upd (u0.1 2) (4 * p + 3) x) (ha : ∀ k, 1 ≤ k → k ≤ zpN (u0.1 2) p → u.1 9 (zpS (u0.1 2) p + k) = nI p ∧ u.1 10 (zpS (u0.1 2) p + k) = zpV (upd (u0.1 2) (4 * p + 3) x) p k ∧ u.1 11 (zpS (u0.1 2) p + k) = zpH (upd (u0.1 2) (4 * p + 3) x) p k) : zR u v n := by
  obtain ⟨l1, l2, l3, l4⟩ := hl
  rw [fa_upd_same hx] at h2 ha
  have hd := h0.1.2.1
  have key : ∀ s, u.1 9 s = u0.1 9 s ∧ u.1 10 s = u0.1 10 s ∧ u.1 11 s = u0.1 11 s := fun s => by
    by_cases c : s ≤ zpS (u0.1 2) p ∨ zpS (u0.1 2) p + zpN (u0.1 2) p < s
    · exact l4 s c
    · obtain ⟨k, rfl⟩ : ∃ k, s = zpS (u0.1 2) p + k := ⟨s - zpS (u0.1 2) p, by omega⟩
      obtain ⟨a1, a2, a3⟩ := ha k (by omega) (by omega)
      obtain ⟨b1, b2, b3⟩ := hd p k hp (by omega) (by omega)
      exact ⟨a1.trans b1.symm, a2.trans b2.symm, a3.trans b3.symm⟩
  refine ⟨hro.1, ?_⟩
  unfold zLX at h0 ⊢
  rw [h2, l1, show u.1 9 = u0.1 9 from funext fun s => (key s).1, show u.1 10 = u0.1 10 from funext fun s => (key s).2.1, show u.1 11 = u0.1 11 from funext fun s => (key s).2.2, l2 12 (by decide) (by decide) (by decide) (by decide), l2 13 (by decide) (by decide) (by decide) (by decide), l2 8 (by decide) (by decide) (by decide) (by decide)]
  exact h0
theorem z4p3 (hp : p < 10) : ((4 * nI p) + 3).toNatClampNeg = 4 * p + 3 := zplace (j := 3) hp (by decide)
theorem zex {v : xU} (hp : p < 10) (f : Nat) (was x3 x4 : Int32) (h : (160 : Int32) < x4 ∨ 0 ≤ x3) : s_X6_least_L23 (f + 1) v (nI p) was x3 x4 = (x3, uA v 1 (4 * p + 3) was) := by
  rw [s_X6_least_L23, z4p3 hp]
  by_cases a : (160 : Int32) < x4
  · rw [if_pos a]
  · rw [if_neg a, if_pos (h.resolve_left a)]
theorem zec (f : Nat) (u : xU) (x1 x2 x3 x4 : Int32) (h : (160 : Int32) < x4 ∨ ¬ x3 = -1) : s_X5_least_L29 (f + 1) u x1 x2 x3 x4 = (x3, s_X0_fill (s_X2_write u x1 3 x2) x1) := by
  rw [s_X5_least_L29]
  by_cases a : (160 : Int32) < x4
  · rw [if_pos a]
  · rw [if_neg a, if_neg (h.resolve_left a)]
theorem zleL {was : Int32} (hp : p < n) (hw : u0.1 2 (4 * p + 3) = was) (hwx : okf 3 was) (h0 : zLX n u0) :
    ∀ (m c : Nat) (u v : xU) (f1 f2 : Nat), m < f1 → m < f2 → c + m = 161 → zRo u v n → zLe u0 u p →
      (s_X5_least_L29 f1 u (nI p) was (-1) (nI c)).1 = (s_X6_least_L23 f2 v (nI p) was (-1) (nI c)).1 ∧ zR (s_X5_least_L29 f1 u (nI p) was (-1) (nI c)).2 (s_X6_least_L23 f2 v (nI p) was (-1) (nI c)).2 n := by
  have fin : ∀ (u v : xU), zRo u v n → zLe u0 u p → zR (s_X0_fill (s_X2_write u (nI p) 3 was) (nI p)) (uA v 1 (4 * p + 3) was) n := by
    intro u v h hl
    obtain ⟨s1, s2, s3, s4, s5⟩ := zleS h hp hwx hl
    rw [s1]
    exact zle_back h0 hp hw s2 s3 s4 s5
  intro m
  induction m with
  | zero =>
    intro c u v f1 f2 hf1 hf2 hc h hl
    obtain ⟨f1, rfl⟩ : ∃ z, f1 = z + 1 := ⟨f1 - 1, by omega⟩
    obtain ⟨f2, rfl⟩ : ∃ z, f2 = z + 1 := ⟨f2 - 1, by omega⟩
    have h10 := h.n10
    have e : c = 161 := by omega
    subst e
    rw [zec f1 u _ _ _ _ (Or.inl (by decide)), zex (by omega) f2 was (-1) (nI 161) (Or.inl (by decide))]
    exact ⟨rfl, fin u v h hl⟩
  | succ m ih =>
    intro c u v f1 f2 hf1 hf2 hc h hl
    obtain ⟨f1, rfl⟩ : ∃ z, f1 = z + 2 := ⟨f1 - 2, by omega⟩
    obtain ⟨f2, rfl⟩ : ∃ z, f2 = z + 2 := ⟨f2 - 2, by omega⟩
    have h10 := h.n10
    have hok : okf 3 (nI c) := ⟨show (0 : Int) ≤ _ by rw [nI_toInt (by omega)]; omega, show _ ≤ (160 : Int) by rw [nI_toInt (by omega)]; omega⟩
    obtain ⟨s1, s2, s3, s4, s5⟩ := zleS h hp hok hl
    obtain ⟨t1, t2⟩ := zle_in s2 hp s4 s5
    have hlw := zlw t1 hp t2
    have nc : ¬ nI c = -1 := fun z => by
      have z2 := congrArg Int32.toInt z
      rw [nI_toInt (by omega), show (-1 : Int32).toInt = -1 from rfl] at z2
      omega
    rw [s_X5_least_L29, s_X6_least_L23, z4p3 (by omega), if_neg (show ¬ (160 : Int32) < nI c from nI_nlt (a := 160) (by omega) (by omega)), if_neg (show ¬ (160 : Int32) < nI c from nI_nlt (a := 160) (by omega) (by omega)), if_pos rfl, if_neg (show ¬ (0 : Int32) ≤ -1 by decide), s1, hlw, nI_1]
    by_cases d : s_X6_piecelacks (s_X6_lays (uA v 1 (4 * p + 3) (nI c))) (nI p) = 0
    · rw [if_pos d, if_pos d, zec f1 _ _ _ _ _ (Or.inr nc), zex (by omega) f2 was (nI c) _ (Or.inr (nI_pos' (by omega)))]
      exact ⟨rfl, fin _ _ t1 s3⟩
    · rw [if_neg d, if_neg d]
      exact ih (c + 1) _ _ (f1 + 1) (f2 + 1) (by omega) (by omega) (by omega) t1 s3
theorem e_least (h : zR u v n) (p1 : Int32) : (s_X5_least u p1).1 = (s_X6_least v p1).1 ∧ ∃ m, zR (s_X5_least u p1).2 (s_X6_least v p1).2 m := by
  have h10 := h.n10
  unfold s_X5_least s_X6_least
  rw [h.1.1.has p1]
  by_cases a : s_X2_has u p1 = 0
  · rw [if_pos a, if_pos a]
    exact ⟨rfl, n, h⟩
  · rw [if_neg a, if_neg a]
    obtain ⟨p, hp, rfl⟩ := h.1.1.isp a
    have o3 : s_X6_of0 v (nI p) 3 = s_X2_read u (nI p) 3 := h.1.1.of (j := 3) hp (by decide)
    have w3 : s_X2_read u (nI p) 3 = u.1 2 (4 * p + 3) := s_X2_read_in (j := 3) h10 h.N hp (by decide)
    rw [o3, w3]
    have x := zleL (u0 := u) hp rfl (h.g.C hp) h.2 161 0 u v (((160 : Int32).toInt + 1 - (0 : Int32).toInt).toNat + 1) (((160 : Int32).toInt + 1 - (0 : Int32).toInt).toNat + 1) (by rw [show (160 : Int32).toInt = 160 from rfl, show (0 : Int32).toInt = 0 from rfl]; omega) (by rw [show (160 : Int32).toInt = 160 from rfl, show (0 : Int32).toInt = 0 from rfl]; omega) (by decide) h.ro ⟨rfl, fun _ _ _ _ _ => rfl, ⟨u.1 2 (4 * p + 3), (fa_upd_same rfl).symm⟩, fun s _ => ⟨rfl, rfl, rfl⟩⟩
    rw [show nI 0 = (0 : Int32) from rfl] at x
    exact ⟨x.1, n, x.2⟩
end ZE
