/-! ===== the two states held against each other ===== -/
theorem zin (v : xU) (x lo hi : Int32) : s_X6_in v x.toInt64 lo.toInt64 hi.toInt64 = s_X5_within x lo hi := by
  unfold s_X6_in s_X5_within
  by_cases a : x < lo
  · rw [if_pos a, if_pos ((lg_cmp_lt _ _).mpr ((fa_wide_lt _ _).mpr a))]
  · rw [if_neg a, if_neg (fun c => a ((fa_wide_lt _ _).mp ((lg_cmp_lt _ _).mp c)))]
    by_cases b : hi < x
    · rw [if_pos b, if_pos ((lg_cmp_gt _ _).mpr ((fa_wide_lt _ _).mpr b))]
    · rw [if_neg b, if_neg (fun c => b ((fa_wide_lt _ _).mp ((lg_cmp_gt _ _).mp c)))]
theorem zinl (v : xU) (x lo hi : Int32) (l h : Int64) (hl : lo.toInt64 = l) (hh : hi.toInt64 = h) : s_X6_in v x.toInt64 l h = s_X5_within x lo hi := by
  subst hl hh
  exact zin v x lo hi
theorem zwn {x : Int32} {S : Nat} (hS : S < 2 ^ 31) (h : ¬ s_X5_within x 0 (nI S) = 0) : ∃ s, s ≤ S ∧ x = nI s := by
  obtain ⟨h1, h2⟩ := xwithin h
  rw [show (0 : Int32).toInt = 0 from rfl] at h1
  rw [nI_toInt hS] at h2
  obtain ⟨j, hj, rfl⟩ := nI_of_toInt h1
  rw [nI_toInt hj] at h2
  exact ⟨j, by omega, rfl⟩
theorem zwn1 {x : Int32} {S : Nat} (hS : S < 2 ^ 31) (h : ¬ s_X5_within x 1 (nI S) = 0) : ∃ s, 1 ≤ s ∧ s ≤ S ∧ x = nI s := by
  obtain ⟨h1, h2⟩ := xwithin h
  rw [show (1 : Int32).toInt = 1 from rfl] at h1
  rw [nI_toInt hS] at h2
  obtain ⟨j, hj, rfl⟩ := nI_of_toInt (x := x) (by omega)
  rw [nI_toInt hj] at h1 h2
  exact ⟨j, by omega, by omega, rfl⟩
theorem zwin {x lo hi : Int32} (h1 : lo.toInt ≤ x.toInt) (h2 : x.toInt ≤ hi.toInt) : s_X5_within x lo hi = 1 := by
  unfold s_X5_within
  rw [if_neg (by rw [fa_lt]; omega), if_neg (by rw [fa_lt]; omega)]
theorem zwout {x lo hi : Int32} (h : x.toInt < lo.toInt ∨ hi.toInt < x.toInt) : s_X5_within x lo hi = 0 := by
  unfold s_X5_within
  by_cases a : x < lo
  · rw [if_pos a]
  · rw [if_neg a, if_pos (by rw [fa_lt] at a ⊢; omega)]
theorem zabs (v : xU) (x : Int32) : s_X6_abs v x = iAbs x := by
  unfold s_X6_abs iAbs
  rw [Int32.zero_sub]
section ZC
variable {f g : Nat → Int32}
theorem zc_K (h : ∀ i, i < 40 → g i = f i) {p : Nat} (hp : p < 10) : zpK g p = zpK f p := h _ (by omega)
theorem zc_L (h : ∀ i, i < 40 → g i = f i) {p : Nat} (hp : p < 10) : zpL g p = zpL f p := h _ (by omega)
theorem zc_B (h : ∀ i, i < 40 → g i = f i) {p : Nat} (hp : p < 10) : zpB g p = zpB f p := h _ (by omega)
theorem zc_C (h : ∀ i, i < 40 → g i = f i) {p : Nat} (hp : p < 10) : zpC g p = zpC f p := h _ (by omega)
theorem zc_N (h : ∀ i, i < 40 → g i = f i) {p : Nat} (hp : p < 10) : zpN g p = zpN f p := by
  unfold zpN
  rw [zc_L h hp]
theorem zc_S (h : ∀ i, i < 40 → g i = f i) : ∀ p : Nat, p ≤ 10 → zpS g p = zpS f p
  | 0, _ => rfl
  | p + 1, hp => by
    show zpS g p + zpN g p = zpS f p + zpN f p
    rw [zc_S h p (by omega), zc_N h (by omega)]
theorem zc_E (h : ∀ i, i < 40 → g i = f i) {p : Nat} (hp : p < 10) : zpE g p = zpE f p := by
  unfold zpE
  rw [zc_K h hp, zc_B h hp]
theorem zc_A (h : ∀ i, i < 40 → g i = f i) : ∀ {p : Nat}, p < 10 → zpA g p = zpA f p
  | 0, _ => rfl
  | p + 1, hp => zc_E (p := p) h (by omega)
theorem zc_D (h : ∀ i, i < 40 → g i = f i) : ∀ {p : Nat}, p < 10 → zpD g p = zpD f p
  | 0, _ => rfl
  | p + 1, hp => zc_C (p := p) h (by omega)
theorem zc_V (h : ∀ i, i < 40 → g i = f i) {p : Nat} (hp : p < 10) (k : Nat) : zpV g p k = zpV f p k := by
  unfold zpV
  rw [zc_K h hp, zc_A h hp, zc_E h hp, zc_L h hp]
theorem zc_H (h : ∀ i, i < 40 → g i = f i) {p : Nat} (hp : p < 10) (k : Nat) : zpH g p k = zpH f p k := by
  unfold zpH zpR
  rw [zc_K h hp, zc_D h hp, zc_C h hp, zc_L h hp]
theorem zGP.cong {n : Nat} (a : zGP f n) (h : ∀ i, i < 40 → g i = f i) : zGP g n := by
  obtain ⟨a1, a2, a3⟩ := a
  refine ⟨a1, fun p j hp hj => ?_, fun p hp => ?_⟩
  · rw [h _ (by omega)]
    exact a2 p j hp hj
  · rw [h _ (by omega)]
    exact a3 p hp
theorem zLD.cong {o v e t q : Nat → Int32} {n : Nat} {N : Int32} (hn : n ≤ 10) (h : ∀ i, i < 40 → g i = f i) (a : zLD g n o v e t q N) : zLD f n o v e t q N := by
  obtain ⟨a1, a2, a3, a4⟩ := a
  rw [zc_S h n hn] at a1 a4
  refine ⟨a1, fun p k hp k1 k2 => ?_, a3, a4⟩
  have := a2 p k hp k1 (by rw [zc_N h (by omega)]; exact k2)
  rw [zc_S h p (by omega), zc_V h (by omega), zc_H h (by omega)] at this
  exact this
end ZC
/-- pieces and rules on both sides: a row, its size, the rules; the reference's one row -/
def zRn (f : Nat → Int32) (N : Int32) (g r : Nat → Int32) (n : Nat) : Prop :=
  zGP f n ∧ N = nI n ∧ g 40 = nI n ∧ (∀ i, i < 40 → g i = f i) ∧ (∀ j, j < 8 → g (41 + j) = r j) ∧ (-1000000 ≤ (r 6).toInt ∧ (r 6).toInt ≤ 1000000) ∧ -10000 ≤ (r 7).toInt ∧ (r 7).toInt ≤ 10000
def zRk (u v : xU) : Prop := (u.2 0 = 0 ∧ v.2 0 = 0) ∨ (u.2 0 = 1 ∧ v.2 0 = 1 ∧ ∃ m, zRn (u.1 4) (u.2 2) (v.1 2) (u.1 6) m)
def zRs (u v : xU) : Prop := ∀ k, k < 4 → v.1 8 k = u.2 (4 + k) ∧ v.1 9 k = u.2 (8 + k) ∧ (0 ≤ (u.2 (8 + k)).toInt ∧ (u.2 (8 + k)).toInt ≤ 40) ∧ (u.2 (4 + k) = -1 ∨ u.2 (4 + k) = 0 ∨ u.2 (4 + k) = 1) ∧ ∀ i, i < 40 → v.1 10 (40 * k + i) = u.1 (21 + k) i
def zRt (u v : xU) : Prop := v.2 4 = u.2 12 ∧ (0 ≤ (u.2 12).toInt ∧ (u.2 12).toInt ≤ 60) ∧ (∀ i, i < 60 → v.1 14 i = u.1 26 i) ∧ ∀ i, i < 60 → 0 ≤ (u.1 26 i).toInt
def zR0 (u v : xU) (n : Nat) : Prop := zRn (u.1 2) (u.2 1) (v.1 1) (u.1 5) n ∧ z0X u ∧ zRk u v ∧ zRs u v ∧ zRt u v ∧ z0M v ∧ v.1 13 0 = 0 ∧ XCn v
def zR (u v : xU) (n : Nat) : Prop := zR0 u v n ∧ zLX n u
/-- the stations that both have laid -/
def zQ (u w : xU) (S : Nat) : Prop := S ≤ 200 ∧ u.2 3 = nI S ∧ w.2 1 = nI S ∧ ∀ s, s ≤ S → w.1 3 s = u.1 10 s ∧ w.1 4 s = u.1 11 s ∧ w.1 6 s = u.1 12 s ∧ w.1 7 s = u.1 13 s ∧ (1 ≤ s → w.1 5 s = u.1 9 s)
theorem zR0.ls {u v w : xU} {n : Nat} (h : zR0 u v n) (l : xLS v w) (z : z0M w) : zR0 u w n := by
  obtain ⟨h1, h2, h3, h4, h5, h6, h7, h8⟩ := h
  obtain ⟨l1, l2⟩ := l
  refine ⟨?_, h2, ?_, ?_, ?_, z, ?_, ?_⟩
  · rw [l1 1 (by decide) (by decide) (by decide) (by decide) (by decide)]; exact h1
  · unfold zRk at h3 ⊢
    rw [l2 0 (by decide), l1 2 (by decide) (by decide) (by decide) (by decide) (by decide)]; exact h3
  · unfold zRs at h4 ⊢
    rw [l1 8 (by decide) (by decide) (by decide) (by decide) (by decide), l1 9 (by decide) (by decide) (by decide) (by decide) (by decide), l1 10 (by decide) (by decide) (by decide) (by decide) (by decide)]; exact h4
  · unfold zRt at h5 ⊢
    rw [l2 4 (by decide), l1 14 (by decide) (by decide) (by decide) (by decide) (by decide)]; exact h5
  · rw [l1 13 (by decide) (by decide) (by decide) (by decide) (by decide)]; exact h7
  · show XCv (w.1 15) (w.1 16) (w.1 17)
    rw [l1 15 (by decide) (by decide) (by decide) (by decide) (by decide), l1 16 (by decide) (by decide) (by decide) (by decide) (by decide), l1 17 (by decide) (by decide) (by decide) (by decide) (by decide)]; exact h8
theorem zR_lays {u v : xU} {n : Nat} (h : zR u v n) : zR u (s_X6_lays v) n ∧ zQ u (s_X6_lays v) (zpS (u.1 2) n) := by
  obtain ⟨h0, h1⟩ := h
  have hq := h0
  obtain ⟨⟨hg, hN, h40, hi, hj, hb⟩, z0, hk, hs, ht, zm, h13, hc⟩ := h0
  have gM : zGP (v.1 1) n := hg.cong hi
  have d := (zmlays gM h40 zm).cong hg.1 hi
  have e := zLD.eq h1.1 d
  have z : z0M (s_X6_lays v) := ⟨d.2.2.1.1, d.2.2.1.2.1, d.2.2.1.2.2.1, d.2.2.1.2.2.2⟩
  refine ⟨⟨hq.ls (xlays_ls v) z, h1⟩, zpS_200 hg, h1.1.1, d.1, fun s hs => ?_⟩
  obtain ⟨e1, e2, e3, e4, e5⟩ := e.2 s hs
  exact ⟨e1.symm, e2.symm, e3.symm, e4.symm, fun k => (e5 k).symm⟩
section ZQ
variable {u w : xU} {S s : Nat}
theorem zq3 (q : zQ u w S) (hs : s ≤ S) : s_X5_cell 201 (u.1 10) (nI s) = w.1 3 (nI s).toNatClampNeg := by
  have h2 := q.1
  rw [s_X5_cell_in (by decide) (by omega), nI_clamp (by omega)]
  exact (q.2.2.2 s hs).1.symm
theorem zq4 (q : zQ u w S) (hs : s ≤ S) : s_X5_cell 201 (u.1 11) (nI s) = w.1 4 (nI s).toNatClampNeg := by
  have h2 := q.1
  rw [s_X5_cell_in (by decide) (by omega), nI_clamp (by omega)]
  exact (q.2.2.2 s hs).2.1.symm
theorem zq6 (q : zQ u w S) (hs : s ≤ S) : s_X5_cell 201 (u.1 12) (nI s) = w.1 6 (nI s).toNatClampNeg := by
  have h2 := q.1
  rw [s_X5_cell_in (by decide) (by omega), nI_clamp (by omega)]
  exact (q.2.2.2 s hs).2.2.1.symm
theorem zq7 (q : zQ u w S) (hs : s ≤ S) : s_X5_cell 201 (u.1 13) (nI s) = w.1 7 (nI s).toNatClampNeg := by
  have h2 := q.1
  rw [s_X5_cell_in (by decide) (by omega), nI_clamp (by omega)]
  exact (q.2.2.2 s hs).2.2.2.1.symm
theorem zq5 (q : zQ u w S) (h1 : 1 ≤ s) (hs : s ≤ S) : s_X5_cell 201 (u.1 9) (nI s) = w.1 5 (nI s).toNatClampNeg := by
  have h2 := q.1
  rw [s_X5_cell_in (by decide) (by omega), nI_clamp (by omega)]
  exact ((q.2.2.2 s hs).2.2.2.2 h1).symm
end ZQ
section ZN
variable {u v : xU} {n p : Nat}
theorem zRn.has (h : zRn (u.1 2) (u.2 1) (v.1 1) (u.1 5) n) (x : Int32) : s_X6_isPiece v x = s_X2_has u x := by
  obtain ⟨hg, hN, h40, hi, hj, hb⟩ := h
  have h10 := hg.1
  unfold s_X6_isPiece
  rw [zinl v x 0 ((v.1 1 (40 : Int32).toNatClampNeg) - 1) 0 _ rfl rfl]
  have e : v.1 1 (40 : Int32).toNatClampNeg = nI n := h40
  rw [e]
  unfold s_X5_within s_X2_has
  by_cases a : x < 0
  · rw [if_pos a, if_pos a]
  · rw [if_neg a, if_neg a, hN]
    have t : (nI n - 1).toInt = (n : Int) - 1 := by
      have t0 := nI_toInt (n := n) (by omega)
      rw [fb_subI (by rw [t0, show (1 : Int32).toInt = 1 from rfl]; omega) (by rw [t0, show (1 : Int32).toInt = 1 from rfl]; omega), t0]
      rfl
    by_cases b : nI n ≤ x
    · rw [if_pos b, if_pos (by rw [fa_lt, t]; rw [fa_le, nI_toInt (by omega)] at b; omega)]
    · rw [if_neg b, if_neg (by rw [fa_lt, t]; rw [fa_le, nI_toInt (by omega)] at b; omega)]
theorem zRn.of {j : Nat} (h : zRn (u.1 2) (u.2 1) (v.1 1) (u.1 5) n) (hp : p < n) (hj : j < 4) : s_X6_of0 v (nI p) (nI j) = s_X2_read u (nI p) (nI j) := by
  obtain ⟨hg, hN, h40, hi, hjj, hb⟩ := h
  have h10 := hg.1
  rw [zof0 (by omega) hj, s_X2_read_in h10 hN hp hj]
  exact hi _ (by omega)
theorem zRn.rul {j : Nat} (h : zRn (u.1 2) (u.2 1) (v.1 1) (u.1 5) n) (hj : j < 8) : s_X6_rule v (nI j) = s_X5_cell 8 (u.1 5) (nI j) := by
  obtain ⟨hg, hN, h40, hi, hjj, hb⟩ := h
  unfold s_X6_rule
  rw [show (41 : Int32) + nI j = nI (41 + j) from nI_add 41 j, nI_clamp (by omega), s_X5_cell_in (by decide) hj]
  exact hjj j hj
theorem zRn.isp {x : Int32} (h : zRn (u.1 2) (u.2 1) (v.1 1) (u.1 5) n) (q : ¬ s_X2_has u x = 0) : ∃ p, p < n ∧ x = nI p := s_X2_has_of h.1.1 h.2.1 q
end ZN
