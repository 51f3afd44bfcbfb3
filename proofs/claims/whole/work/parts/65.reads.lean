/-! ===== reads: both sides answer alike ===== -/
def z0U : xU := (fun _ _ => 0, fun _ => 0)
theorem ztab_u : ∀ a : Nat, a < 6 → ∀ b : Nat, b < 6 → s_X5_isUnder (nI a) (nI b) = s_X6_isUnder z0U (nI a) (nI b) := by decide +kernel
theorem zunder (v : xU) {a b : Nat} (ha : a < 6) (hb : b < 6) : s_X5_isUnder (nI a) (nI b) = s_X6_isUnder v (nI a) (nI b) := ztab_u a ha b hb
theorem zmadeL : ∀ (n : Nat) (x0 x1 x2 x3 : Int32), s_X5_made_L15 n x0 x1 x2 x3 = s_X5_made_L15 n x0 0 x2 x3
  | 0, _, _, _, _ => rfl
  | n + 1, x0, x1, x2, x3 => by
    rw [s_X5_made_L15, s_X5_made_L15, zmadeL n x0 x1 x2, zmadeL n x0 x1]
def zmM (v : xU) (K L : Int32) : Int32 :=
  if (s_X6_isUnder v K 1) = 0 then
    if (s_X6_isUnder v K 2) = 0 then
      if 3 ≤ K then
        (10 * (if L = 1 then 123 else 13)) + (if K = 3 then 6 else if K = 4 then 7 else 8)
      else
        if L = 1 then 123 else 13
    else
      if 3 ≤ K then
        (10 * ((10 * (if L = 1 then 123 else 13)) + 5)) + (if K = 3 then 6 else if K = 4 then 7 else 8)
      else
        (10 * (if L = 1 then 123 else 13)) + 5
  else
    if 3 ≤ K then
      (10 * ((10 * (if L = 1 then 123 else 13)) + 4)) + (if K = 3 then 6 else if K = 4 then 7 else 8)
    else
      (10 * (if L = 1 then 123 else 13)) + 4
theorem ztab_m : ∀ a : Nat, a < 6 → s_X5_made_L15 (((5 : Int32).toInt + 1 - (1 : Int32).toInt).toNat + 1) (nI a) 0 123 1 = zmM z0U (nI a) 1 ∧ s_X5_made_L15 (((5 : Int32).toInt + 1 - (1 : Int32).toInt).toNat + 1) (nI a) 0 13 1 = zmM z0U (nI a) 2 := by decide +kernel
theorem zmM_1 (v : xU) (K : Int32) : zmM v K 1 = zmM z0U K 1 := rfl
theorem zmM_2 (v : xU) (K : Int32) {L : Int32} (h : ¬ L = 1) : zmM v K L = zmM z0U K 2 := by
  have e : zmM v K L = zmM z0U K L := rfl
  rw [e]
  unfold zmM
  simp only [if_neg h, if_neg (show ¬ (2 : Int32) = 1 by decide)]
theorem zmade (v : xU) {a : Nat} (ha : a < 6) (L : Int32) : s_X5_made (nI a) L = zmM v (nI a) L := by
  unfold s_X5_made
  obtain ⟨t1, t2⟩ := ztab_m a ha
  by_cases h : L = 1
  · rw [if_pos h, zmadeL, t1, h, zmM_1 v]
  · rw [if_neg h, zmadeL, t2, zmM_2 v _ h]
theorem zfits (v : xU) {j : Nat} (hj : j < 4) (x : Int32) : s_X6_mayBe v (nI j) x = s_X5_fits (nI j) x := by
  have h4 : j = 0 ∨ j = 1 ∨ j = 2 ∨ j = 3 := by omega
  unfold s_X6_mayBe s_X5_fits
  rcases h4 with rfl | rfl | rfl | rfl
  · rw [if_pos (by decide), zinl v x 0 5 0 5 rfl rfl]; rfl
  · rw [if_neg (by decide), if_pos (by decide), zinl v x 1 20 1 20 rfl rfl]; rfl
  · rw [if_neg (by decide), if_neg (by decide), if_pos (by decide), zinl v x (-99) 99 (-99) 99 rfl rfl]; rfl
  · rw [if_neg (by decide), if_neg (by decide), if_neg (by decide), zinl v x 0 160 0 160 rfl rfl]; rfl
theorem zabs_neg (z : Int32) : iAbs (-z) = iAbs z := by
  unfold iAbs
  have hr := fb_rng z
  by_cases hm : z.toInt = -2147483648
  · have e : z = -2147483648 := by rw [fa_eq, hm]; rfl
    rw [e]
    rfl
  · have hn : (-z).toInt = -z.toInt := fb_negI hm
    by_cases a : 0 ≤ z
    · by_cases b : 0 ≤ -z
      · rw [if_pos a, if_pos b, fa_eq]
        rw [fa_le, show (0 : Int32).toInt = 0 from rfl] at a b
        omega
      · rw [if_pos a, if_neg b, Int32.zero_sub, Int32.neg_neg]
    · by_cases b : 0 ≤ -z
      · rw [if_neg a, if_pos b, Int32.zero_sub]
      · rw [fa_le, show (0 : Int32).toInt = 0 from rfl] at a b
        omega
theorem zabs_sub (x y : Int32) : iAbs (x - y) = iAbs (y - x) := by
  have e : -(y - x) = x - y := Int32.neg_sub
  rw [← e, zabs_neg]
section ZF
variable {u v w : xU} {n p S s : Nat}
theorem zR.n10 (h : zR u v n) : n ≤ 10 := h.1.1.1.1
theorem zR.N (h : zR u v n) : u.2 1 = nI n := h.1.1.2.1
theorem zR.M (h : zR u v n) : v.1 1 40 = nI n := h.1.1.2.2.1
theorem zR.g (h : zR u v n) : zGP (u.1 2) n := h.1.1.1
theorem zR.readL (h : zR u v n) (hp : p < n) : s_X2_read u (nI p) 1 = nI (zpN (u.1 2) p) := (s_X2_read_in (j := 1) h.n10 h.N hp (by decide)).trans (h.g.N hp).2.2
theorem zR.readK (h : zR u v n) (hp : p < n) : ∃ c, c < 6 ∧ s_X2_read u (nI p) 0 = nI c := by
  have k := h.g.K hp
  obtain ⟨c, hc, e⟩ := nI_of_toInt k.1
  have e2 : (zpK (u.1 2) p).toInt = c := by rw [e, nI_toInt hc]
  refine ⟨c, by omega, (s_X2_read_in (j := 0) h.n10 h.N hp (by decide)).trans e⟩
theorem zR.fst (h : zR u v n) (hp : p < n) : s_X0_firstOf u (nI p) = nI (zpS (u.1 2) p + 1) := by
  have := h.n10
  unfold s_X0_firstOf
  rw [s_X5_cell_in (by decide) (by omega)]
  exact h.2.2 p hp
theorem zR.fstML (h : zR u v n) (hp : p ≤ n) : ∀ (m k fuel : Nat), m < fuel → k + m = p → s_X6_firstOf_L4 fuel v (nI p) (nI (zpS (u.1 2) k + 1)) (nI k) = nI (zpS (u.1 2) p + 1) := by
  have h10 := h.n10
  intro m
  induction m with
  | zero =>
    intro k fuel hf hk
    obtain ⟨fuel, rfl⟩ : ∃ z, fuel = z + 1 := ⟨fuel - 1, by omega⟩
    have e : k = p := by omega
    subst e
    rw [s_X6_firstOf_L4, if_pos (nI_le (Nat.le_refl _) (by omega))]
  | succ m ih =>
    intro k fuel hf hk
    obtain ⟨fuel, rfl⟩ : ∃ z, fuel = z + 1 := ⟨fuel - 1, by omega⟩
    have o : s_X6_of0 v (nI k) 1 = nI (zpN (u.1 2) k) := (h.1.1.of (j := 1) (by omega) (by decide)).trans (h.readL (by omega))
    rw [s_X6_firstOf_L4, if_neg (nI_ge (by omega) (by omega)), o, nI_add, nI_1 k, show zpS (u.1 2) k + 1 + zpN (u.1 2) k = zpS (u.1 2) (k + 1) + 1 by show _ = zpS (u.1 2) k + zpN (u.1 2) k + 1; omega]
    exact ih (k + 1) fuel (by omega) (by omega)
theorem zR.fstM (h : zR u v n) (hp : p ≤ n) : s_X6_firstOf v (nI p) = nI (zpS (u.1 2) p + 1) := by
  have h10 := h.n10
  exact h.fstML hp p 0 (((nI p).toInt - (0 : Int32).toInt).toNat + 1) (by rw [nI_toInt (by omega), show (0 : Int32).toInt = 0 from rfl]; omega) (by omega)
theorem zR.lst (h : zR u v n) (hp : p < n) : s_X0_lastOf u (nI p) = nI (zpS (u.1 2) p + zpN (u.1 2) p) := by
  unfold s_X0_lastOf
  rw [h.fst hp, h.readL hp, nI_add, show zpS (u.1 2) p + 1 + zpN (u.1 2) p = zpS (u.1 2) p + zpN (u.1 2) p + 1 by omega, nI_pred]
theorem zR.lstM (h : zR u v n) (hp : p < n) : s_X6_lastOf v (nI p) = nI (zpS (u.1 2) p + zpN (u.1 2) p) := by
  have o : s_X6_of0 v (nI p) 1 = nI (zpN (u.1 2) p) := (h.1.1.of (j := 1) (by omega) (by decide)).trans (h.readL (by omega))
  unfold s_X6_lastOf
  rw [h.fstM (by omega), o, nI_add, show zpS (u.1 2) p + 1 + zpN (u.1 2) p = zpS (u.1 2) p + zpN (u.1 2) p + 1 by omega, nI_pred]
theorem e_of (h : zR u v n) (p1 p2 : Int32) : s_X5_of u p1 p2 = s_X6_of v p1 p2 := by
  unfold s_X5_of s_X6_of
  rw [h.1.1.has p1, zinl v p2 0 6 0 6 rfl rfl]
  by_cases a : s_X2_has u p1 = 0
  · rw [if_pos a, if_pos a]
  · rw [if_neg a, if_neg a]
    obtain ⟨p, hp, rfl⟩ := h.1.1.isp a
    by_cases b : s_X5_within p2 0 6 = 0
    · rw [if_pos b, if_pos b]
    · rw [if_neg b, if_neg b]
      obtain ⟨j, hj, rfl⟩ := zwn (S := 6) (by decide) b
      obtain ⟨c, hc, eK⟩ := h.readK hp
      have hm : s_X6_madeOf v (nI p) = zmM v (s_X6_of0 v (nI p) 0) (s_X6_of0 v (nI p) 1) := rfl
      have o0 : s_X6_of0 v (nI p) 0 = s_X2_read u (nI p) 0 := h.1.1.of (j := 0) hp (by decide)
      have o1 : s_X6_of0 v (nI p) 1 = s_X2_read u (nI p) 1 := h.1.1.of (j := 1) hp (by decide)
      by_cases j4 : j < 4
      · rw [if_neg (by rw [show (4 : Int32) = nI 4 from rfl, nI_eq (by omega) (by omega)]; omega), if_neg (by rw [show (5 : Int32) = nI 5 from rfl, nI_eq (by omega) (by omega)]; omega), if_neg (by rw [show (6 : Int32) = nI 6 from rfl, nI_eq (by omega) (by omega)]; omega), if_neg (show ¬ (4 : Int32) ≤ nI j from nI_ge (b := 4) j4 (by decide))]
        exact (h.1.1.of hp j4).symm
      · have h3 : j = 4 ∨ j = 5 ∨ j = 6 := by omega
        rcases h3 with rfl | rfl | rfl
        · rw [if_pos (by decide), if_pos (by decide), if_pos (by decide), hm, o0, o1, eK]
          exact zmade v hc _
        · rw [if_neg (by decide), if_pos (by decide), if_pos (by decide), if_neg (by decide), if_pos (by decide), h.fst hp, h.fstM (by omega)]
        · rw [if_neg (by decide), if_neg (by decide), if_pos (by decide), if_pos (by decide), if_neg (by decide), if_neg (by decide), h.lst hp, h.lstM hp]
theorem e_taken (h : zR u v n) (p1 p2 : Int32) : s_X5_taken u p1 p2 = s_X6_taken v p1 p2 := by
  unfold s_X5_taken s_X6_taken
  have ef : s_X6_in v p2.toInt64 0 5 = s_X5_fits 0 p2 := zfits v (j := 0) (by decide) p2
  rw [h.1.1.has p1, ef]
  by_cases a : s_X2_has u p1 = 0
  · rw [if_pos a, if_pos a]
  · rw [if_neg a, if_neg a]
    obtain ⟨p, hp, rfl⟩ := h.1.1.isp a
    by_cases b : s_X5_fits 0 p2 = 0
    · rw [if_pos b, if_pos b]
    · rw [if_neg b, if_neg b]
      obtain ⟨j, hj, rfl⟩ := zwn (S := 5) (x := p2) (by decide) b
      obtain ⟨c, hc, eK⟩ := h.readK hp
      have o0 : s_X6_of0 v (nI p) 0 = s_X2_read u (nI p) 0 := h.1.1.of (j := 0) hp (by decide)
      have o1 : s_X6_of0 v (nI p) 1 = s_X2_read u (nI p) 1 := h.1.1.of (j := 1) hp (by decide)
      rw [o0, o1, eK, zunder v hc (by omega)]
theorem zst0 (q : zQ u w S) (x : Int32) : s_X6_in w x.toInt64 0 ((w.2 1).toInt64) = s_X5_within x 0 (u.2 3) := by
  rw [zinl w x 0 (w.2 1) 0 _ rfl rfl, q.2.1, q.2.2.1]
theorem zst1 (q : zQ u w S) (x : Int32) : s_X6_isStation w x = s_X5_within x 1 (u.2 3) := by
  unfold s_X6_isStation
  rw [zinl w x 1 (w.2 1) 1 _ rfl rfl, q.2.1, q.2.2.1]
theorem e_at (h : zR u v n) (p1 p2 : Int32) : s_X5_at u p1 p2 = (s_X6_at v p1 p2).1 ∧ (s_X6_at v p1 p2).2 = s_X6_lays v := by
  obtain ⟨h', q⟩ := zR_lays h
  have h200 := q.1
  unfold s_X5_at s_X6_at
  rw [zst0 q p1]
  by_cases a : s_X5_within p1 0 (u.2 3) = 0
  · rw [if_pos a, if_pos a]
    exact ⟨rfl, rfl⟩
  · rw [if_neg a, if_neg a]
    rw [q.2.1] at a
    obtain ⟨s, hs, rfl⟩ := zwn (by omega) a
    rw [zinl (s_X6_lays v) p2 0 4 0 4 rfl rfl, zq3 q hs, zq4 q hs, zq6 q hs, zq7 q hs]
    by_cases b : s_X5_within p2 0 4 = 0
    · rw [if_pos b, if_neg (fun e => by rw [e] at b; exact absurd b (by decide)), if_neg (fun e => by rw [e] at b; exact absurd b (by decide)), if_neg (fun e => by rw [e] at b; exact absurd b (by decide)), if_neg (fun e => by rw [e] at b; exact absurd b (by decide)), if_neg (fun e => by rw [e] at b; exact absurd b (by decide))]
      exact ⟨rfl, rfl⟩
    · rw [if_neg b]
      obtain ⟨j, hj, rfl⟩ := zwn (S := 4) (x := p2) (by decide) b
      by_cases s0 : nI s = 0
      · rw [if_pos s0, if_pos s0]
        have h5 : j = 0 ∨ j = 1 ∨ j = 2 ∨ j = 3 ∨ j = 4 := by omega
        rcases h5 with rfl | rfl | rfl | rfl | rfl
        · exact ⟨rfl, rfl⟩
        · exact ⟨rfl, rfl⟩
        · exact ⟨rfl, rfl⟩
        · exact ⟨rfl, rfl⟩
        · exact ⟨rfl, rfl⟩
      · rw [if_neg s0, if_neg s0]
        have s1 : 1 ≤ s := by
          rcases Nat.eq_zero_or_pos s with e | e
          · exact absurd (by rw [e]; rfl) s0
          · exact e
        rw [zq5 q s1 hs]
        have h5 : j = 0 ∨ j = 1 ∨ j = 2 ∨ j = 3 ∨ j = 4 := by omega
        rcases h5 with rfl | rfl | rfl | rfl | rfl
        · exact ⟨rfl, rfl⟩
        · exact ⟨rfl, rfl⟩
        · exact ⟨rfl, rfl⟩
        · exact ⟨rfl, rfl⟩
        · exact ⟨rfl, rfl⟩
theorem zR.rl (h : zR u v n) {j : Nat} (hj : j < 8) : s_X5_cell 8 (u.1 5) (nI j) = s_X6_rule v (nI j) := (h.1.1.rul hj).symm
theorem e_scaled (h : zR u v n) (p1 : Int32) : s_X5_scaled u p1 = (s_X6_scaled v p1).1 ∧ (s_X6_scaled v p1).2 = s_X6_lays v := by
  obtain ⟨h', q⟩ := zR_lays h
  have h200 := q.1
  unfold s_X5_scaled s_X6_scaled
  rw [zst0 q p1]
  by_cases a : s_X5_within p1 0 (u.2 3) = 0
  · rw [if_pos a, if_pos a]
    exact ⟨rfl, rfl⟩
  · rw [if_neg a, if_neg a]
    rw [q.2.1] at a
    obtain ⟨s, hs, rfl⟩ := zwn (by omega) a
    have e0 : s_X5_cell 8 (u.1 5) 0 = s_X6_rule (s_X6_lays v) 0 := h'.rl (j := 0) (by decide)
    rw [zq7 q hs, e0]
    split
    · exact ⟨rfl, rfl⟩
    · exact ⟨rfl, rfl⟩
/-- where pieces join -/
theorem zap10 (h : zR u w n) (q : zQ u w (zpS (u.1 2) n)) (hp : p + 1 < n) : s_X5_apartAhead_10 u (nI p + 1) = s_X6_versinesApart w (nI p) := by
  have hin : zpS (u.1 2) (p + 1) + zpN (u.1 2) (p + 1) ≤ zpS (u.1 2) n := zpS_in hp
  have hl := h.g.N hp
  have e : zpS (u.1 2) (p + 1) = zpS (u.1 2) p + zpN (u.1 2) p := rfl
  unfold s_X5_apartAhead_10 s_X6_versinesApart
  rw [nI_1, h.fst hp, nI_pred, zq3 q (by omega), zq3 q (by omega), h.lstM (by omega), ← e, nI_1, zabs, zabs_sub]
theorem zap11 (h : zR u w n) (q : zQ u w (zpS (u.1 2) n)) (hp : p + 1 < n) : s_X5_apartAhead_11 u (nI p + 1) = s_X6_heightsApart w (nI p) := by
  have hin : zpS (u.1 2) (p + 1) + zpN (u.1 2) (p + 1) ≤ zpS (u.1 2) n := zpS_in hp
  have hl := h.g.N hp
  have e : zpS (u.1 2) (p + 1) = zpS (u.1 2) p + zpN (u.1 2) p := rfl
  unfold s_X5_apartAhead_11 s_X6_heightsApart
  rw [nI_1, h.fst hp, nI_pred, zq4 q (by omega), zq4 q (by omega), h.lstM (by omega), ← e, nI_1, zabs, zabs_sub]
theorem zjumps (h : zR u w n) (q : zQ u w (zpS (u.1 2) n)) (hp : p + 1 < n) : s_X5_jumps u (nI p) = s_X6_jumps w (nI p) := by
  have e3 : s_X5_cell 8 (u.1 5) 3 = s_X6_rule w 3 := h.rl (j := 3) (by decide)
  have e4 : s_X5_cell 8 (u.1 5) 4 = s_X6_rule w 4 := h.rl (j := 4) (by decide)
  unfold s_X5_jumps s_X6_jumps
  rw [zap10 h q hp, zap11 h q hp, e3, e4]
theorem znsub {k : Nat} (hn : n ≤ 10) (hk : k ≤ 10) : (nI n - nI k).toInt = (n : Int) - k := pk_sub_toInt (by omega) (by omega)
theorem e_join (h : zR u v n) (p1 p2 : Int32) : s_X5_join u p1 p2 = (s_X6_join v p1 p2).1 ∧ ((s_X6_join v p1 p2).2 = s_X6_lays v ∨ (s_X6_join v p1 p2).2 = v) := by
  obtain ⟨h', q⟩ := zR_lays h
  have h10 := h.n10
  unfold s_X5_join s_X6_join
  have eM : v.1 1 (40 : Int32).toNatClampNeg = nI n := h.M
  rw [eM, zinl v p1 0 (nI n - 2) 0 _ rfl rfl, zinl v p2 0 2 0 2 rfl rfl, h.N]
  by_cases a : s_X5_within p1 0 (nI n - 2) = 0
  · rw [if_pos a, if_pos a]
    exact ⟨rfl, Or.inr rfl⟩
  · rw [if_neg a, if_neg a]
    obtain ⟨a1, a2⟩ := xwithin a
    rw [show (0 : Int32).toInt = 0 from rfl] at a1
    rw [show (nI n - 2).toInt = (n : Int) - 2 from znsub (k := 2) h10 (by decide)] at a2
    obtain ⟨p, hp, rfl⟩ := nI_of_toInt a1
    rw [nI_toInt hp] at a2
    have hp1 : p + 1 < n := by omega
    rw [zap10 h' q hp1, zap11 h' q hp1, zjumps h' q hp1]
    by_cases b : s_X5_within p2 0 2 = 0
    · rw [if_pos b, if_neg (fun e => by rw [e] at b; exact absurd b (by decide)), if_neg (fun e => by rw [e] at b; exact absurd b (by decide)), if_neg (fun e => by rw [e] at b; exact absurd b (by decide))]
      exact ⟨rfl, Or.inr rfl⟩
    · rw [if_neg b]
      obtain ⟨j, hj, rfl⟩ := zwn (S := 2) (x := p2) (by decide) b
      have h3 : j = 0 ∨ j = 1 ∨ j = 2 := by omega
      rcases h3 with rfl | rfl | rfl
      · exact ⟨rfl, Or.inl rfl⟩
      · exact ⟨rfl, Or.inl rfl⟩
      · rw [if_neg (show ¬ nI 2 = 0 by decide), if_neg (show ¬ nI 2 = 1 by decide), if_pos (show nI 2 = 2 by decide), if_neg (show ¬ nI 2 = 0 by decide), if_neg (show ¬ nI 2 = 1 by decide)]
        by_cases c : s_X6_jumps (s_X6_lays v) (nI p) = 0
        · rw [if_pos c, if_pos c]
          exact ⟨rfl, Or.inl rfl⟩
        · rw [if_neg c, if_neg c]
          exact ⟨rfl, Or.inl rfl⟩
theorem zjoinsL (h : zR u w n) (q : zQ u w (zpS (u.1 2) n)) : ∀ (m k : Nat) (x : Int32) (f1 f2 : Nat), m < f1 → m < f2 → k + m + 1 = n → s_X5_joins_L4 f1 u x (nI k) = (s_X6_joins_L8 f2 w x (nI k)).1 ∧ (s_X6_joins_L8 f2 w x (nI k)).2 = w := by
  have h10 := h.n10
  have eM : w.1 1 (40 : Int32).toNatClampNeg = nI n := h.M
  intro m
  induction m with
  | zero =>
    intro k x f1 f2 hf1 hf2 hk
    obtain ⟨f1, rfl⟩ : ∃ z, f1 = z + 1 := ⟨f1 - 1, by omega⟩
    obtain ⟨f2, rfl⟩ : ∃ z, f2 = z + 1 := ⟨f2 - 1, by omega⟩
    have e : nI n - 1 = nI k := by rw [← hk]; exact nI_pred k
    rw [s_X5_joins_L4, s_X6_joins_L8, eM, h.N, e, if_pos (nI_le (Nat.le_refl _) (by omega)), if_pos (nI_le (Nat.le_refl _) (by omega))]
    exact ⟨rfl, rfl⟩
  | succ m ih =>
    intro k x f1 f2 hf1 hf2 hk
    obtain ⟨f1, rfl⟩ : ∃ z, f1 = z + 1 := ⟨f1 - 1, by omega⟩
    obtain ⟨f2, rfl⟩ : ∃ z, f2 = z + 1 := ⟨f2 - 1, by omega⟩
    have e : nI n - 1 = nI (k + m + 1) := by rw [← hk]; exact nI_pred (k + m + 1)
    rw [s_X5_joins_L4, s_X6_joins_L8, eM, h.N, e, if_neg (nI_ge (by omega) (by omega)), if_neg (nI_ge (by omega) (by omega)), zjumps h q (by omega), nI_1]
    by_cases a : s_X6_jumps w (nI k) = 0
    · rw [if_pos a, if_pos a, Int32.or_zero]
      exact ih (k + 1) x f1 f2 (by omega) (by omega) (by omega)
    · rw [if_neg a, if_neg a]
      exact ih (k + 1) _ f1 f2 (by omega) (by omega) (by omega)
theorem e_joins (h : zR u v n) : s_X5_joins u = (s_X6_joins v).1 ∧ (s_X6_joins v).2 = s_X6_lays v := by
  obtain ⟨h', q⟩ := zR_lays h
  have h10 := h.n10
  unfold s_X5_joins s_X6_joins
  have eM : (s_X6_lays v).1 1 40 = nI n := h'.M
  rw [eM, h.N]
  rcases Nat.eq_zero_or_pos n with e | e
  · subst e
    rw [s_X5_joins_L4, s_X6_joins_L8]
    have eM2 : (s_X6_lays v).1 1 (40 : Int32).toNatClampNeg = nI 0 := h'.M
    rw [eM2, h.N, if_pos (by decide), if_pos (by decide)]
    exact ⟨rfl, rfl⟩
  · have t : (nI n - 1).toInt = (n : Int) - 1 := znsub (k := 1) h10 (by decide)
    rw [t, show (0 : Int32).toInt = 0 from rfl]
    exact zjoinsL h' q (n - 1) 0 0 _ _ (by omega) (by omega) (by omega)
end ZF
