/-! ===== cants, speeds, faults: both sides answer alike ===== -/
theorem z11 : ((1 : Int32) = 1) = True := eq_true rfl
theorem z12 : ((1 : Int32) = 2) = False := eq_false (by decide)
theorem z13 : ((1 : Int32) = 3) = False := eq_false (by decide)
theorem z21 : ((2 : Int32) = 1) = False := eq_false (by decide)
theorem z22 : ((2 : Int32) = 2) = True := eq_true rfl
theorem z23 : ((2 : Int32) = 3) = False := eq_false (by decide)
theorem z31 : ((3 : Int32) = 1) = False := eq_false (by decide)
theorem z32 : ((3 : Int32) = 2) = False := eq_false (by decide)
theorem z33 : ((3 : Int32) = 3) = True := eq_true rfl
section ZG
variable {u v w : xU} {n p S s : Nat}
theorem zR.r1 (h : zR u v n) : s_X5_cell 8 (u.1 5) 1 = s_X6_rule v 1 := h.rl (j := 1) (by decide)
theorem zR.r2 (h : zR u v n) : s_X5_cell 8 (u.1 5) 2 = s_X6_rule v 2 := h.rl (j := 2) (by decide)
theorem zR.r3 (h : zR u v n) : s_X5_cell 8 (u.1 5) 3 = s_X6_rule v 3 := h.rl (j := 3) (by decide)
theorem zR.r4 (h : zR u v n) : s_X5_cell 8 (u.1 5) 4 = s_X6_rule v 4 := h.rl (j := 4) (by decide)
theorem zR.r5 (h : zR u v n) : s_X5_cell 8 (u.1 5) 5 = s_X6_rule v 5 := h.rl (j := 5) (by decide)
theorem zR.r6 (h : zR u v n) : s_X5_cell 8 (u.1 5) 6 = s_X6_rule v 6 := h.rl (j := 6) (by decide)
theorem zR.r7 (h : zR u v n) : s_X5_cell 8 (u.1 5) 7 = s_X6_rule v 7 := h.rl (j := 7) (by decide)
theorem zneed (q : zQ u w S) (hs : s ≤ S) (z : Int32) : s_X5_needBy u (nI s) z = s_X6_needAt w (nI s) z := by
  unfold s_X5_needBy s_X6_needAt
  rw [zq3 q hs, zabs]
theorem zlacks (h : zR u w n) (q : zQ u w S) (hs : s ≤ S) (z : Int32) : s_X5_lacks u (nI s) z = s_X6_lacks w (nI s) z := by
  unfold s_X5_lacks s_X6_lacks
  rw [zneed q hs, zq4 q hs, h.r1]
theorem zhigh (h : zR u w n) (q : zQ u w S) (hs : s ≤ S) (z : Int32) : s_X5_tooHigh u (nI s) z = s_X6_isHigh w (nI s) z := by
  unfold s_X5_tooHigh s_X6_isHigh
  rw [zneed q hs, zq4 q hs, h.r2]
theorem zsteep (h : zR u w n) (q : zQ u w S) (h1 : 1 ≤ s) (hs : s ≤ S) : s_X5_steep u (nI s) = s_X6_isSteep w (nI s) := by
  obtain ⟨t, rfl⟩ : ∃ t, s = t + 1 := ⟨s - 1, by omega⟩
  unfold s_X5_steep s_X6_isSteep
  rw [nI_pred, zq4 q hs, zq4 q (show t ≤ S by omega), h.r3, zabs]
theorem zruns (h : zR u w n) (q : zQ u w S) (hs : s ≤ S) (z : Int32) : s_X5_runs u (nI s) z = s_X6_may w (nI s) z := by
  unfold s_X5_runs s_X6_may
  rw [zlacks h q hs, zhigh h q hs]
theorem zwhy (h : zR u w n) (q : zQ u w S) (h1 : 1 ≤ s) (hs : s ≤ S) : s_X5_whyAt u (nI s) = s_X6_why w (nI s) := by
  unfold s_X5_whyAt s_X6_why
  rw [zlacks h q hs, zhigh h q hs, zsteep h q h1 hs, h.r5]
theorem zwhy_r (w : xU) (x : Int32) : s_X6_why w x = 0 ∨ s_X6_why w x = 1 ∨ s_X6_why w x = 2 ∨ s_X6_why w x = 3 := by
  unfold s_X6_why
  split
  · split
    · split
      · exact Or.inl rfl
      · exact Or.inr (Or.inr (Or.inr rfl))
    · exact Or.inr (Or.inr (Or.inl rfl))
  · exact Or.inr (Or.inl rfl)
theorem e_need (h : zR u v n) (p1 p2 : Int32) : s_X5_need u p1 p2 = (s_X6_need v p1 p2).1 ∧ (s_X6_need v p1 p2).2 = s_X6_lays v := by
  obtain ⟨h', q⟩ := zR_lays h
  have h200 := q.1
  unfold s_X5_need s_X6_need s_X6_bit
  rw [zst1 q p1, zinl (s_X6_lays v) p2 0 3 0 3 rfl rfl]
  by_cases a : s_X5_within p1 1 (u.2 3) = 0
  · rw [if_pos a, if_pos a]
    exact ⟨rfl, rfl⟩
  · rw [if_neg a, if_neg a]
    rw [q.2.1] at a
    obtain ⟨s, s1, hs, rfl⟩ := zwn1 (by omega) a
    rw [zneed q hs, zlacks h' q hs, zhigh h' q hs, zsteep h' q s1 hs, h'.r5]
    by_cases b : s_X5_within p2 0 3 = 0
    · rw [if_pos b, if_neg (fun e => by rw [e] at b; exact absurd b (by decide)), if_neg (fun e => by rw [e] at b; exact absurd b (by decide)), if_neg (fun e => by rw [e] at b; exact absurd b (by decide)), if_neg (fun e => by rw [e] at b; exact absurd b (by decide))]
      exact ⟨rfl, rfl⟩
    · rw [if_neg b]
      obtain ⟨j, hj, rfl⟩ := zwn (S := 3) (x := p2) (by decide) b
      have h4 : j = 0 ∨ j = 1 ∨ j = 2 ∨ j = 3 := by omega
      rcases h4 with rfl | rfl | rfl | rfl
      · exact ⟨rfl, rfl⟩
      · exact ⟨rfl, rfl⟩
      · exact ⟨rfl, rfl⟩
      · exact ⟨rfl, rfl⟩
theorem zmayL (h : zR u w n) (q : zQ u w S) (hs : s ≤ S) : ∀ (f : Nat) (x : Int32), s_X5_may_L22 f u (nI s) x = (s_X6_may__L19 f w (nI s) x).1 ∧ (s_X6_may__L19 f w (nI s) x).2 = w := by
  intro f
  induction f with
  | zero => intro x; exact ⟨rfl, rfl⟩
  | succ f ih =>
    intro x
    rw [s_X5_may_L22, s_X6_may__L19, zruns h q hs]
    split
    · exact ⟨rfl, rfl⟩
    · split
      · exact ih _
      · exact ⟨rfl, rfl⟩
theorem e_may (h : zR u v n) (p1 : Int32) : s_X5_may u p1 = (s_X6_may_ v p1).1 ∧ (s_X6_may_ v p1).2 = s_X6_lays v := by
  obtain ⟨h', q⟩ := zR_lays h
  have h200 := q.1
  unfold s_X5_may s_X6_may_
  rw [zst1 q p1]
  by_cases a : s_X5_within p1 1 (u.2 3) = 0
  · rw [if_pos a, if_pos a]
    exact ⟨rfl, rfl⟩
  · rw [if_neg a, if_neg a]
    rw [q.2.1] at a
    obtain ⟨s, s1, hs, rfl⟩ := zwn1 (by omega) a
    exact zmayL h' q hs _ _
theorem zl16_0 (q : zQ u w S) (K : Int32 → Int32 × xU) (x : Int32) : ∀ (m s f : Nat), m < f → s + m = S + 1 → s_X6_limit_L16 K f w x 0 (nI s) = K (x + (-5)) := by
  have h200 := q.1
  intro m
  induction m with
  | zero =>
    intro s f hf hs
    obtain ⟨f, rfl⟩ : ∃ z, f = z + 1 := ⟨f - 1, by omega⟩
    rw [s_X6_limit_L16, q.2.2.1, if_pos (nI_lt (by omega) (by omega)), if_pos rfl]
  | succ m ih =>
    intro s f hf hs
    obtain ⟨f, rfl⟩ : ∃ z, f = z + 1 := ⟨f - 1, by omega⟩
    rw [s_X6_limit_L16, q.2.2.1, if_neg (nI_nlt (by omega) (by omega)), if_pos rfl, nI_1]
    exact ih (s + 1) f (by omega) (by omega)
theorem zl16 (h : zR u w n) (q : zQ u w S) (K : Int32 → Int32 × xU) (x : Int32) : ∀ (m s f1 f2 : Nat), m < f1 → m < f2 → s + m = S + 1 →
    s_X6_limit_L16 K f2 w x 1 (nI s) = if s_X5_runsAll_L2 f1 u x (nI s) = 0 then K (x + (-5)) else (x, w) := by
  have h200 := q.1
  intro m
  induction m with
  | zero =>
    intro s f1 f2 hf1 hf2 hs
    obtain ⟨f1, rfl⟩ : ∃ z, f1 = z + 1 := ⟨f1 - 1, by omega⟩
    obtain ⟨f2, rfl⟩ : ∃ z, f2 = z + 1 := ⟨f2 - 1, by omega⟩
    rw [s_X6_limit_L16, s_X5_runsAll_L2, q.2.2.1, q.2.1, if_pos (nI_lt (by omega) (by omega)), if_pos (nI_lt (by omega) (by omega)), if_neg (show ¬ (1 : Int32) = 0 by decide)]
  | succ m ih =>
    intro s f1 f2 hf1 hf2 hs
    obtain ⟨f1, rfl⟩ : ∃ z, f1 = z + 1 := ⟨f1 - 1, by omega⟩
    obtain ⟨f2, rfl⟩ : ∃ z, f2 = z + 1 := ⟨f2 - 1, by omega⟩
    rw [s_X6_limit_L16, s_X5_runsAll_L2, q.2.2.1, q.2.1, if_neg (nI_nlt (by omega) (by omega)), if_neg (nI_nlt (by omega) (by omega)), if_neg (show ¬ (1 : Int32) = 0 by decide), zruns h q (by omega), nI_1]
    by_cases a : s_X6_may w (nI s) x = 0
    · rw [if_pos a, if_pos a, if_pos rfl]
      exact zl16_0 q K x m (s + 1) f2 (by omega) (by omega)
    · rw [if_neg a, if_neg a]
      exact ih (s + 1) f1 f2 (by omega) (by omega) (by omega)
theorem zlimL (h : zR u w n) (q : zQ u w S) : ∀ (f : Nat) (x : Int32), s_X5_limit_L4 f u x = (s_X6_limit_L8 f w x).1 ∧ (s_X6_limit_L8 f w x).2 = w := by
  have h200 := q.1
  intro f
  induction f with
  | zero => intro x; exact ⟨rfl, rfl⟩
  | succ f ih =>
    intro x
    have e := zl16 h q (fun x1 => s_X6_limit_L8 f w x1) x S 1 (((u.2 3).toInt + 1 - (1 : Int32).toInt).toNat + 1) (((w.2 1).toInt + 1 - (1 : Int32).toInt).toNat + 1) (by rw [q.2.1, nI_toInt (by omega), show (1 : Int32).toInt = 1 from rfl]; omega) (by rw [q.2.2.1, nI_toInt (by omega), show (1 : Int32).toInt = 1 from rfl]; omega) (by omega)
    rw [show nI 1 = (1 : Int32) from rfl] at e
    rw [s_X5_limit_L4, s_X6_limit_L8, e]
    by_cases a : x < 0
    · rw [if_pos a, if_pos a]
      exact ⟨rfl, rfl⟩
    · rw [if_neg a, if_neg a]
      unfold s_X5_runsAll
      split
      · exact ih _
      · exact ⟨rfl, rfl⟩
theorem e_limit (h : zR u v n) : s_X5_limit u = (s_X6_limit v).1 ∧ (s_X6_limit v).2 = s_X6_lays v := by
  obtain ⟨h', q⟩ := zR_lays h
  exact zlimL h' q _ _
/-! ### faults -/
theorem zown (h : zR u w n) (q : zQ u w (zpS (u.1 2) n)) {t : Nat} (t1 : 1 ≤ t) (t2 : t ≤ zpS (u.1 2) n) : ∃ p, p < n ∧ s_X5_cell 201 (u.1 9) (nI t) = nI p ∧ w.1 5 (nI t).toNatClampNeg = nI p := by
  have h200 := q.1
  obtain ⟨p, k, p1, k1, k2, rfl⟩ := zp_at (u.1 2) n t t1 t2
  have e : s_X5_cell 201 (u.1 9) (nI (zpS (u.1 2) p + k)) = nI p := by
    rw [s_X5_cell_in (by decide) (by omega)]
    exact (h.2.1.2.1 p k p1 k1 k2).1
  exact ⟨p, p1, e, (zq5 q t1 t2).symm.trans e⟩
theorem zcauses (h : zR u w n) (q : zQ u w (zpS (u.1 2) n)) {t : Nat} (t1 : 1 ≤ t) (t2 : t ≤ zpS (u.1 2) n) (hw : ¬ s_X6_why w (nI t) = 0) :
    zR u (s_X6_findsCauses w (nI t)) n ∧ zQ u (s_X6_findsCauses w (nI t)) (zpS (u.1 2) n) ∧ (s_X6_findsCauses w (nI t)).2 2 = s_X5_cell (xStL 6) (xStV 6) (s_X5_rootOf u (nI t) (s_X6_why w (nI t))) ∧ (s_X6_findsCauses w (nI t)).2 3 = s_X5_rootOf u (nI t) (s_X6_why w (nI t)) := by
  obtain ⟨p, hp, e5, e6⟩ := zown h q t1 t2
  have h10 := h.n10
  have h200 := q.1
  unfold s_X6_findsCauses s_X5_rootOf
  rw [e5, e6]
  have hw3 := zwhy_r w (nI t)
  rcases hw3 with e | e | e | e
  · exact absurd e hw
  · simp only [e, z11, z12, z13, if_true, if_false]
    have ob : s_X6_of0 (s_X6_isCaused (uZ w 2 0) 1) (nI p) 2 = s_X2_read u (nI p) 2 := h.1.1.of (j := 2) hp (by decide)
    rw [ob, zabs]
    by_cases a : iAbs (s_X2_read u (nI p) 2) ≤ 50
    · rw [if_pos a, if_pos a]
      exact ⟨h, q, by show (0 : Int32) + 1 = _; decide, rfl⟩
    · rw [if_neg a, if_neg a]
      exact ⟨h, q, by show (0 : Int32) + 1 + 1 = _; decide, rfl⟩
  · simp only [e, z21, z22, z23, if_true, if_false]
    exact ⟨h, q, by show (0 : Int32) + 1 + 1 = _; decide, rfl⟩
  · simp only [e, z31, z32, z33, if_true, if_false]
    rcases Nat.eq_zero_or_pos p with p0 | p0
    · subst p0
      rw [if_pos (show nI 0 ≤ 0 by decide), if_pos (show nI 0 < 1 by decide)]
      exact ⟨h, q, by show (0 : Int32) + 1 = _; decide, rfl⟩
    · rw [if_neg (nI_nle p0 (by omega)), if_neg (show ¬ nI p < (1 : Int32) from nI_nlt (b := 1) p0 (by omega))]
      obtain ⟨r, rfl⟩ : ∃ r, p = r + 1 := ⟨p - 1, by omega⟩
      have hc : zR u (s_X6_isCaused (uZ w 2 0) 1) n := h
      have hc4 : zR u (s_X6_isCaused (s_X6_isCaused (uZ w 2 0) 1) 4) n := h
      have qc4 : zQ u (s_X6_isCaused (s_X6_isCaused (uZ w 2 0) 1) 4) (zpS (u.1 2) n) := q
      rw [hc.fstM (by omega), h.fst hp]
      by_cases a : nI t = nI (zpS (u.1 2) (r + 1) + 1)
      · have ap := zap10 hc4 qc4 (p := r) hp
        rw [nI_1] at ap
        have rr : s_X5_cell 8 (u.1 5) 4 = s_X6_rule (s_X6_isCaused (s_X6_isCaused (uZ w 2 0) 1) 4) 4 := hc4.r4
        rw [if_pos a.symm, if_pos a, nI_pred, ← ap, rr]
        split
        · exact ⟨h, q, by show (0 : Int32) + 1 + 1 = _; decide, rfl⟩
        · exact ⟨h, q, by show (0 : Int32) + 1 + 1 + 1 = _; decide, rfl⟩
      · rw [if_neg (fun z => a z.symm), if_neg a]
        exact ⟨h, q, by show (0 : Int32) + 1 = _; decide, rfl⟩
def zFa (w : xU) (x1 x2 : Int32) : Int32 × xU :=
  if x1 = 0 then
    (x2, s_X6_findsCauses w x2)
  else
    if x1 = 1 then
      (s_X6_why (s_X6_findsCauses w x2) x2, s_X6_findsCauses w x2)
    else
      if x1 = 2 then
        ((s_X6_findsCauses w x2).2 2, s_X6_findsCauses w x2)
      else
        ((s_X6_findsCauses w x2).2 3, s_X6_findsCauses w x2)
theorem zffL (h : zR u w n) (q : zQ u w S) (x1 : Int32) : ∀ (m s f1 f2 : Nat), m < f1 → m < f2 → s + m = S + 1 → 1 ≤ s →
    (s_X5_firstFault_L2 f1 u (nI s) = -1 ∧ s_X6_fault_L21 f2 w x1 (nI s) = (if x1 = 0 then ((-1), w) else (0, w))) ∨
    ∃ t, 1 ≤ t ∧ t ≤ S ∧ s_X5_firstFault_L2 f1 u (nI s) = nI t ∧ (¬ s_X6_why w (nI t) = 0) ∧ s_X6_fault_L21 f2 w x1 (nI s) = zFa w x1 (nI t) := by
  have h200 := q.1
  intro m
  induction m with
  | zero =>
    intro s f1 f2 hf1 hf2 hs h1
    obtain ⟨f1, rfl⟩ : ∃ z, f1 = z + 1 := ⟨f1 - 1, by omega⟩
    obtain ⟨f2, rfl⟩ : ∃ z, f2 = z + 1 := ⟨f2 - 1, by omega⟩
    rw [s_X5_firstFault_L2, s_X6_fault_L21, q.2.1, q.2.2.1, if_pos (nI_lt (by omega) (by omega)), if_pos (nI_lt (by omega) (by omega))]
    exact Or.inl ⟨rfl, rfl⟩
  | succ m ih =>
    intro s f1 f2 hf1 hf2 hs h1
    obtain ⟨f1, rfl⟩ : ∃ z, f1 = z + 1 := ⟨f1 - 1, by omega⟩
    obtain ⟨f2, rfl⟩ : ∃ z, f2 = z + 1 := ⟨f2 - 1, by omega⟩
    rw [s_X5_firstFault_L2, s_X6_fault_L21, q.2.1, q.2.2.1, if_neg (nI_nlt (by omega) (by omega)), if_neg (nI_nlt (by omega) (by omega)), zwhy h q h1 (by omega), nI_1]
    by_cases a : s_X6_why w (nI s) = 0
    · rw [if_pos a, if_pos (by rw [a]; decide)]
      exact ih (s + 1) f1 f2 (by omega) (by omega) (by omega) (by omega)
    · have b : ¬ s_X6_why w (nI s) ≤ 0 := by
        rcases zwhy_r w (nI s) with e | e | e | e
        · exact absurd e a
        · rw [e]; decide
        · rw [e]; decide
        · rw [e]; decide
      rw [if_neg a, if_neg b]
      exact Or.inr ⟨s, h1, by omega, rfl, a, rfl⟩
theorem e_fault (h : zR u v n) (p1 : Int32) : s_X5_fault u p1 = (s_X6_fault v p1).1 ∧ zR u (s_X6_fault v p1).2 n := by
  obtain ⟨h', q⟩ := zR_lays h
  have h200 := q.1
  unfold s_X5_fault s_X6_fault
  rw [zinl v p1 0 3 0 3 rfl rfl]
  have key := zffL h' q p1 (zpS (u.1 2) n) 1 (((u.2 3).toInt + 1 - (1 : Int32).toInt).toNat + 1) ((((s_X6_lays v).2 1).toInt + 1 - (1 : Int32).toInt).toNat + 1) (by rw [q.2.1, nI_toInt (by omega), show (1 : Int32).toInt = 1 from rfl]; omega) (by rw [q.2.2.1, nI_toInt (by omega), show (1 : Int32).toInt = 1 from rfl]; omega) (by omega) (by omega)
  rw [show nI 1 = (1 : Int32) from rfl] at key
  by_cases b : s_X5_within p1 0 3 = 0
  · have n0 : ¬ p1 = 0 := fun e => by rw [e] at b; exact absurd b (by decide)
    have n1 : ¬ p1 = 1 := fun e => by rw [e] at b; exact absurd b (by decide)
    have n2 : ¬ p1 = 2 := fun e => by rw [e] at b; exact absurd b (by decide)
    have n3 : ¬ p1 = 3 := fun e => by rw [e] at b; exact absurd b (by decide)
    simp only [if_pos b, if_neg n0, if_neg n1, if_neg n2, if_neg n3, ite_self]
    exact ⟨trivial, h⟩
  · rw [if_neg b]
    obtain ⟨j, hj, rfl⟩ := zwn (S := 3) (x := p1) (by decide) b
    have h4 : j = 0 ∨ j = 1 ∨ j = 2 ∨ j = 3 := by omega
    rcases key with ⟨k1, k2⟩ | ⟨t, t1, t2, k1, k2, k3⟩
    · have k1' : s_X5_firstFault u = -1 := k1
      rw [k2, k1', if_pos rfl, if_pos rfl]
      rcases h4 with rfl | rfl | rfl | rfl
      · exact ⟨rfl, h'⟩
      · exact ⟨rfl, h'⟩
      · exact ⟨show s_X5_cell (xStL 6) (xStV 6) 0 = 0 from by decide, h'⟩
      · exact ⟨rfl, h'⟩
    · have k1' : s_X5_firstFault u = nI t := k1
      have nt : ¬ nI t = -1 := fun e => by
        have e2 := congrArg Int32.toInt e
        rw [nI_toInt (by omega), show (-1 : Int32).toInt = -1 from rfl] at e2
        omega
      obtain ⟨c1, c2, c3, c4⟩ := zcauses h' q t1 t2 k2
      rw [k3, k1', if_neg nt, if_neg nt, zwhy h' q t1 t2]
      unfold zFa
      rcases h4 with rfl | rfl | rfl | rfl
      · rw [if_pos (show nI 0 = 0 from rfl), if_pos (show nI 0 = 0 from rfl)]
        dsimp only
        exact ⟨rfl, c1⟩
      · rw [if_neg (show ¬ nI 1 = 0 by decide), if_pos (show nI 1 = 1 from rfl), if_neg (show ¬ nI 1 = 0 by decide), if_pos (show nI 1 = 1 from rfl), ← zwhy c1 c2 t1 t2, zwhy h' q t1 t2]
        dsimp only
        exact ⟨rfl, c1⟩
      · rw [if_neg (show ¬ nI 2 = 0 by decide), if_neg (show ¬ nI 2 = 1 by decide), if_pos (show nI 2 = 2 from rfl), if_neg (show ¬ nI 2 = 0 by decide), if_neg (show ¬ nI 2 = 1 by decide), if_pos (show nI 2 = 2 from rfl), c3]
        dsimp only
        exact ⟨rfl, c1⟩
      · rw [if_neg (show ¬ nI 3 = 0 by decide), if_neg (show ¬ nI 3 = 1 by decide), if_neg (show ¬ nI 3 = 2 by decide), if_pos (show nI 3 = 3 from rfl), if_neg (show ¬ nI 3 = 0 by decide), if_neg (show ¬ nI 3 = 1 by decide), if_neg (show ¬ nI 3 = 2 by decide), c4]
        dsimp only
        exact ⟨rfl, c1⟩
/-! ### counts -/
theorem zrevL (h : zR u w n) (x1 : Int32) : ∀ (m k : Nat) (x : Int32) (f1 f2 : Nat), m < f1 → m < f2 → k + m = n → s_X5_reversed_L4 f1 u x (nI k) = (s_X6_count_L60 f2 w x1 x (nI k)).1 ∧ (s_X6_count_L60 f2 w x1 x (nI k)).2 = w := by
  have h10 := h.n10
  have eM : w.1 1 (40 : Int32).toNatClampNeg = nI n := h.M
  intro m
  induction m with
  | zero =>
    intro k x f1 f2 hf1 hf2 hk
    obtain ⟨f1, rfl⟩ : ∃ z, f1 = z + 1 := ⟨f1 - 1, by omega⟩
    obtain ⟨f2, rfl⟩ : ∃ z, f2 = z + 1 := ⟨f2 - 1, by omega⟩
    rw [s_X5_reversed_L4, s_X6_count_L60, eM, h.N, if_pos (nI_le (by omega) (by omega)), if_pos (nI_le (by omega) (by omega))]
    exact ⟨rfl, rfl⟩
  | succ m ih =>
    intro k x f1 f2 hf1 hf2 hk
    obtain ⟨f1, rfl⟩ : ∃ z, f1 = z + 1 := ⟨f1 - 1, by omega⟩
    obtain ⟨f2, rfl⟩ : ∃ z, f2 = z + 1 := ⟨f2 - 1, by omega⟩
    have o0 : s_X6_of0 w (nI k) 0 = s_X2_read u (nI k) 0 := h.1.1.of (j := 0) (by omega) (by decide)
    have o1 : s_X6_of0 w (nI k) 1 = s_X2_read u (nI k) 1 := h.1.1.of (j := 1) (by omega) (by decide)
    rw [s_X5_reversed_L4, s_X6_count_L60, eM, h.N, if_neg (nI_ge (by omega) (by omega)), if_neg (nI_ge (by omega) (by omega)), o0, o1, nI_1]
    by_cases a : s_X2_read u (nI k) 0 = 3
    · rw [if_pos a, if_pos a]
      exact ih (k + 1) _ f1 f2 (by omega) (by omega) (by omega)
    · rw [if_neg a, if_neg a, Int32.add_zero]
      exact ih (k + 1) _ f1 f2 (by omega) (by omega) (by omega)
theorem zraiL (q : zQ u w S) (x1 : Int32) : ∀ (m s : Nat) (x : Int32) (f1 f2 : Nat), m < f1 → m < f2 → s + m = S + 1 → s_X5_raised_L4 f1 u x (nI s) = (s_X6_count_L104 f2 w x1 x (nI s)).1 ∧ (s_X6_count_L104 f2 w x1 x (nI s)).2 = w := by
  have h200 := q.1
  intro m
  induction m with
  | zero =>
    intro s x f1 f2 hf1 hf2 hs
    obtain ⟨f1, rfl⟩ : ∃ z, f1 = z + 1 := ⟨f1 - 1, by omega⟩
    obtain ⟨f2, rfl⟩ : ∃ z, f2 = z + 1 := ⟨f2 - 1, by omega⟩
    rw [s_X5_raised_L4, s_X6_count_L104, q.2.1, q.2.2.1, if_pos (nI_lt (by omega) (by omega)), if_pos (nI_lt (by omega) (by omega))]
    exact ⟨rfl, rfl⟩
  | succ m ih =>
    intro s x f1 f2 hf1 hf2 hs
    obtain ⟨f1, rfl⟩ : ∃ z, f1 = z + 1 := ⟨f1 - 1, by omega⟩
    obtain ⟨f2, rfl⟩ : ∃ z, f2 = z + 1 := ⟨f2 - 1, by omega⟩
    rw [s_X5_raised_L4, s_X6_count_L104, q.2.1, q.2.2.1, if_neg (nI_nlt (by omega) (by omega)), if_neg (nI_nlt (by omega) (by omega)), zq4 q (by omega), nI_1]
    unfold s_X6_bit
    by_cases a : w.1 4 (nI s).toNatClampNeg ≤ 0
    · rw [if_pos a, if_pos a, if_pos rfl, Int32.add_zero]
      exact ih (s + 1) _ f1 f2 (by omega) (by omega) (by omega)
    · rw [if_neg a, if_neg a, if_neg (show ¬ (1 : Int32) = 0 by decide)]
      exact ih (s + 1) _ f1 f2 (by omega) (by omega) (by omega)
theorem e_count (h : zR u v n) (p1 : Int32) : s_X5_count u p1 = (s_X6_count v p1).1 ∧ (s_X6_count v p1).2 = s_X6_lays v := by
  obtain ⟨h', q⟩ := zR_lays h
  have h10 := h.n10
  have h200 := q.1
  have eM : (s_X6_lays v).1 1 (40 : Int32).toNatClampNeg = u.2 1 := h'.M.trans h'.N.symm
  have eM2 : (s_X6_lays v).1 1 40 = u.2 1 := h'.M.trans h'.N.symm
  have eT : (s_X6_lays v).2 4 = u.2 12 := h'.1.2.2.2.2.1.1
  unfold s_X5_count s_X6_count
  split
  · exact ⟨eM.symm, rfl⟩
  · split
    · exact ⟨q.2.1.trans q.2.2.1.symm, rfl⟩
    · split
      · exact ⟨eT.symm, rfl⟩
      · split
        · rw [eM2]
          unfold s_X5_reversed
          exact zrevL h' p1 n 0 0 _ _ (by rw [h.N, nI_toInt (by omega), show (0 : Int32).toInt = 0 from rfl]; omega) (by rw [h.N, nI_toInt (by omega), show (0 : Int32).toInt = 0 from rfl]; omega) (by omega)
        · split
          · unfold s_X5_raised
            exact zraiL q p1 (zpS (u.1 2) n) 1 0 _ _ (by rw [q.2.1, nI_toInt (by omega), show (1 : Int32).toInt = 1 from rfl]; omega) (by rw [q.2.2.1, nI_toInt (by omega), show (1 : Int32).toInt = 1 from rfl]; omega) (by omega)
          · exact ⟨rfl, rfl⟩
/-! ### alike -/
theorem zsameL (h : zR u v n) {a b : Nat} (ha : a < n) (hb : b < n) : ∀ (m k f : Nat), m < f → k + m = 4 → s_X2_same_L2 f u (nI a) (nI b) (nI k) = s_X6_areAlike_L2 f v (nI a) (nI b) (nI k) := by
  intro m
  induction m with
  | zero =>
    intro k f hf hk
    obtain ⟨f, rfl⟩ : ∃ z, f = z + 1 := ⟨f - 1, by omega⟩
    rw [s_X2_same_L2, s_X6_areAlike_L2, if_pos (show (4 : Int32) ≤ nI k from nI_le (a := 4) (by omega) (by omega)), if_pos (show (4 : Int32) ≤ nI k from nI_le (a := 4) (by omega) (by omega))]
  | succ m ih =>
    intro k f hf hk
    obtain ⟨f, rfl⟩ : ∃ z, f = z + 1 := ⟨f - 1, by omega⟩
    rw [s_X2_same_L2, s_X6_areAlike_L2, if_neg (show ¬ (4 : Int32) ≤ nI k from nI_ge (b := 4) (by omega) (by omega)), if_neg (show ¬ (4 : Int32) ≤ nI k from nI_ge (b := 4) (by omega) (by omega)), h.1.1.of ha (by omega), h.1.1.of hb (by omega), nI_1, ih (k + 1) f (by omega) (by omega)]
theorem zsame (h : zR u v n) {a b : Nat} (ha : a < n) (hb : b < n) : s_X2_same u (nI a) (nI b) = s_X6_areAlike v (nI a) (nI b) := zsameL h ha hb 4 0 _ (by decide) (by decide)
theorem zsymL (v : xU) (x y : Int32) : ∀ (f : Nat) (k : Int32), s_X6_areAlike_L2 f v x y k = s_X6_areAlike_L2 f v y x k := by
  intro f
  induction f with
  | zero => intro k; rfl
  | succ f ih =>
    intro k
    rw [s_X6_areAlike_L2, s_X6_areAlike_L2, ih]
    by_cases a : s_X6_of0 v x k = s_X6_of0 v y k
    · rw [if_pos a, if_pos a.symm]
    · rw [if_neg a, if_neg (show ¬ s_X6_of0 v y k = s_X6_of0 v x k from fun e => a e.symm)]
theorem zsym (v : xU) (x y : Int32) : s_X6_areAlike v x y = s_X6_areAlike v y x := zsymL v x y _ _
theorem zshl : ∀ k : Nat, k < 11 → (1 : Int32) <<< (nI k &&& 31) = nI (2 ^ k) := by decide +kernel
/-- the bits of the pieces that are like a piece -/
def zBt (v : xU) (a : Nat) : Nat → Nat
  | 0 => 0
  | k + 1 => if s_X6_areAlike v (nI a) (nI k) = 0 then zBt v a k else zBt v a k ||| 2 ^ k
theorem zBt_lt (v : xU) (a : Nat) : ∀ k, zBt v a k < 2 ^ k
  | 0 => by show (0 : Nat) < 1; decide
  | k + 1 => by
    have := zBt_lt v a k
    rw [zBt]
    split
    · rw [Nat.pow_succ]; omega
    · exact Nat.or_lt_two_pow (by rw [Nat.pow_succ]; omega) (Nat.pow_lt_pow_right (by decide) (Nat.lt_succ_self k))
theorem zBt_bit (v : xU) (a : Nat) : ∀ k i, (zBt v a k).testBit i = true ↔ i < k ∧ ¬ s_X6_areAlike v (nI a) (nI i) = 0
  | 0, i => by
    rw [zBt, Nat.zero_testBit]
    exact ⟨fun h => absurd h (by decide), fun h => absurd h.1 (by omega)⟩
  | k + 1, i => by
    rw [zBt]
    split
    · rename_i e
      rw [zBt_bit v a k i]
      exact ⟨fun h => ⟨by omega, h.2⟩, fun h => ⟨by
        rcases Nat.lt_or_ge i k with z | z
        · exact z
        · exact absurd (by rw [show i = k by omega]; exact e) h.2, h.2⟩⟩
    · rename_i e
      rw [fb_bit_set, Bool.or_eq_true, zBt_bit v a k i, decide_eq_true_iff]
      exact ⟨fun h => by
        rcases h with h | h
        · exact ⟨by omega, h.2⟩
        · exact ⟨by omega, by rw [h]; exact e⟩, fun h => by
        by_cases z : i = k
        · exact Or.inr z
        · exact Or.inl ⟨by omega, h.2⟩⟩
theorem zalL (h : zR u v n) {a : Nat} (ha : a < n) : ∀ (m k f : Nat), m < f → k + m = n → s_X5_alikeTo_L4 f u (nI a) (nI (zBt v a k)) (nI k) = nI (zBt v a n) := by
  have h10 := h.n10
  intro m
  induction m with
  | zero =>
    intro k f hf hk
    obtain ⟨f, rfl⟩ : ∃ z, f = z + 1 := ⟨f - 1, by omega⟩
    rw [s_X5_alikeTo_L4, h.N, if_pos (nI_le (by omega) (by omega)), show k = n by omega]
  | succ m ih =>
    intro k f hf hk
    obtain ⟨f, rfl⟩ : ∃ z, f = z + 1 := ⟨f - 1, by omega⟩
    have e := ih (k + 1) f (by omega) (by omega)
    rw [s_X5_alikeTo_L4, h.N, if_neg (nI_ge (by omega) (by omega)), zsame h ha (by omega), nI_1, zshl k (by omega), fa_or]
    rw [zBt] at e
    by_cases z : s_X6_areAlike v (nI a) (nI k) = 0
    · rw [if_pos z] at e ⊢
      exact e
    · rw [if_neg z] at e ⊢
      exact e
theorem zalTo (h : zR u v n) {a : Nat} (ha : a < n) : s_X5_alikeTo u (nI a) = nI (zBt v a n) := by
  have h10 := h.n10
  unfold s_X5_alikeTo
  exact zalL h ha n 0 _ (by rw [h.N, nI_toInt (by omega), show (0 : Int32).toInt = 0 from rfl]; omega) (by omega)
/-- is a piece new, from place i on -/
noncomputable def zNw (v : xU) (b : Int32) (i k : Nat) : Int32 := @ite Int32 (b = 1 ∧ ∀ j, i ≤ j → j < k → s_X6_areAlike v (nI j) (nI k) = 0) (Classical.propDecidable _) 1 0
theorem zNw_t {v : xU} {b : Int32} {i k : Nat} (h : b = 1 ∧ ∀ j, i ≤ j → j < k → s_X6_areAlike v (nI j) (nI k) = 0) : zNw v b i k = 1 := if_pos h
theorem zNw_f {v : xU} {b : Int32} {i k : Nat} (h : ¬ (b = 1 ∧ ∀ j, i ≤ j → j < k → s_X6_areAlike v (nI j) (nI k) = 0)) : zNw v b i k = 0 := if_neg h
theorem zal67 (v : xU) (K : Int32 → Int32 → Int32 → Int32) (x1 x2 x3 : Int32) {k : Nat} (hk : k ≤ 10) : ∀ (m i f : Nat) (b : Int32), m < f → i + m = k → (b = 0 ∨ b = 1) →
    s_X6_alike_L67 K f v x1 x2 x3 (nI k) b (nI i) = K x2 (x3 + zNw v b i k) (nI k + 1) := by
  intro m
  induction m with
  | zero =>
    intro i f b hf hi hb
    obtain ⟨f, rfl⟩ : ∃ z, f = z + 1 := ⟨f - 1, by omega⟩
    rw [s_X6_alike_L67, if_pos (nI_le (by omega) (by omega))]
    unfold s_X6_bit
    rcases hb with rfl | rfl
    · rw [if_pos rfl, zNw_f (fun z => absurd z.1 (by decide))]
    · rw [if_neg (show ¬ (1 : Int32) = 0 by decide), zNw_t ⟨rfl, fun j h1 h2 => absurd h2 (by omega)⟩]
  | succ m ih =>
    intro i f b hf hi hb
    obtain ⟨f, rfl⟩ : ∃ z, f = z + 1 := ⟨f - 1, by omega⟩
    rw [s_X6_alike_L67, if_neg (nI_ge (by omega) (by omega)), nI_1]
    rcases hb with rfl | rfl
    · rw [if_pos rfl, ih (i + 1) f 0 (by omega) (by omega) (Or.inl rfl), zNw_f (fun z => absurd z.1 (by decide)), zNw_f (fun z => absurd z.1 (by decide))]
    · rw [if_neg (show ¬ (1 : Int32) = 0 by decide)]
      by_cases z : s_X6_areAlike v (nI i) (nI k) = 0
      · rw [if_pos z, ih (i + 1) f 1 (by omega) (by omega) (Or.inr rfl)]
        by_cases y : ∀ j, i + 1 ≤ j → j < k → s_X6_areAlike v (nI j) (nI k) = 0
        · rw [zNw_t (i := i + 1) ⟨rfl, y⟩, zNw_t (i := i) ⟨rfl, fun j h1 h2 => by
            rcases Nat.lt_or_ge i j with x | x
            · exact y j (by omega) h2
            · rw [show j = i by omega]; exact z⟩]
        · rw [zNw_f (i := i + 1) (fun x => y x.2), zNw_f (i := i) (fun x => y (fun j h1 h2 => x.2 j (by omega) h2))]
      · rw [if_neg z, ih (i + 1) f 0 (by omega) (by omega) (Or.inl rfl), zNw_f (i := i + 1) (fun x => absurd x.1 (by decide)), zNw_f (i := i) (fun x => z (x.2 i (Nat.le_refl _) (by omega)))]
theorem znew (v : xU) {n k : Nat} (hn : n ≤ 10) (hk : k < n) : nI (zBt v k n) &&& ((1 : Int32) <<< (nI k &&& 31) - 1) = 0 ↔ ∀ j, 0 ≤ j → j < k → s_X6_areAlike v (nI j) (nI k) = 0 := by
  have hb := zBt_lt v k n
  have h2 : 2 ^ n ≤ 2 ^ 10 := Nat.pow_le_pow_right (by decide) hn
  have hp : 0 < 2 ^ k := Nat.two_pow_pos k
  rw [zshl k (by omega), show nI (2 ^ k) - 1 = nI (2 ^ k - 1) from pk_sub (b := 1) hp, fa_mask, show (0 : Int32) = nI 0 from rfl, nI_eq (Nat.lt_of_le_of_lt (Nat.mod_le _ _) (by omega)) (by decide)]
  constructor
  · intro e j _ hj
    rcases Decidable.em (s_X6_areAlike v (nI j) (nI k) = 0) with z | z
    · exact z
    · have t : (zBt v k n).testBit j = true := (zBt_bit v k n j).mpr ⟨by omega, by rw [zsym]; exact z⟩
      have t2 : (zBt v k n % 2 ^ k).testBit j = true := by rw [Nat.testBit_mod_two_pow, t, decide_eq_true hj]; rfl
      rw [e, Nat.zero_testBit] at t2
      exact absurd t2 (by decide)
  · intro e
    refine Nat.eq_of_testBit_eq fun j => ?_
    rw [Nat.testBit_mod_two_pow, Nat.zero_testBit]
    by_cases hj : j < k
    · have t : (zBt v k n).testBit j = false := by
        rcases Bool.eq_false_or_eq_true ((zBt v k n).testBit j) with z | z
        · exact absurd (by rw [zsym]; exact e j (by omega) hj) ((zBt_bit v k n j).mp z).2
        · exact z
      rw [t, Bool.and_false]
    · rw [decide_eq_false hj, Bool.false_and]
theorem zunL (h : zR u v n) : ∀ (m k : Nat) (x y : Int32) (f1 f2 : Nat), m < f1 → m < f2 → k + m = n → s_X5_unlike_L4 f1 u x (nI k) = s_X6_alike_L23 f2 v (-1) y x (nI k) := by
  have h10 := h.n10
  have eM : v.1 1 (40 : Int32).toNatClampNeg = nI n := h.M
  intro m
  induction m with
  | zero =>
    intro k x y f1 f2 hf1 hf2 hk
    obtain ⟨f1, rfl⟩ : ∃ z, f1 = z + 1 := ⟨f1 - 1, by omega⟩
    obtain ⟨f2, rfl⟩ : ∃ z, f2 = z + 1 := ⟨f2 - 1, by omega⟩
    rw [s_X5_unlike_L4, s_X6_alike_L23, eM, h.N, if_pos (nI_le (by omega) (by omega)), if_pos (nI_le (by omega) (by omega)), if_pos rfl]
  | succ m ih =>
    intro k x y f1 f2 hf1 hf2 hk
    obtain ⟨f1, rfl⟩ : ∃ z, f1 = z + 1 := ⟨f1 - 1, by omega⟩
    obtain ⟨f2, rfl⟩ : ∃ z, f2 = z + 1 := ⟨f2 - 1, by omega⟩
    rw [s_X5_unlike_L4, s_X6_alike_L23, eM, h.N, if_neg (nI_ge (by omega) (by omega)), if_neg (nI_ge (by omega) (by omega)), zalTo h (by omega)]
    have e := zal67 v (fun x2 x3 x4 => s_X6_alike_L23 f2 v (-1) x2 x3 x4) (-1) (y ||| (if (-1 : Int32) = (-1) then 0 else if (s_X6_areAlike v (nI k) (-1)) = 0 then 0 else (1 : Int32) <<< (nI k &&& 31))) x (k := k) (by omega) k 0 (((nI k).toInt - (0 : Int32).toInt).toNat + 1) 1 (by rw [nI_toInt (by omega), show (0 : Int32).toInt = 0 from rfl]; omega) (by omega) (Or.inr rfl)
    rw [show nI 0 = (0 : Int32) from rfl] at e
    rw [e, nI_1]
    by_cases z : ∀ j, 0 ≤ j → j < k → s_X6_areAlike v (nI j) (nI k) = 0
    · rw [if_pos ((znew v h10 (by omega)).mpr z), zNw_t ⟨rfl, z⟩]
      exact ih (k + 1) _ _ f1 f2 (by omega) (by omega) (by omega)
    · rw [if_neg (fun t => z ((znew v h10 (by omega)).mp t)), zNw_f (fun t => z t.2), Int32.add_zero]
      exact ih (k + 1) _ _ f1 f2 (by omega) (by omega) (by omega)
theorem zalK (h : zR u v n) {a : Nat} (ha : a < n) : ∀ (m k : Nat) (x : Int32) (f2 : Nat), m < f2 → k + m = n → s_X6_alike_L23 f2 v (nI a) (nI (zBt v a k)) x (nI k) = nI (zBt v a n) := by
  have h10 := h.n10
  have eM : v.1 1 (40 : Int32).toNatClampNeg = nI n := h.M
  have na : ¬ nI a = -1 := fun e => by
    have e2 := congrArg Int32.toInt e
    rw [nI_toInt (by omega), show (-1 : Int32).toInt = -1 from rfl] at e2
    omega
  intro m
  induction m with
  | zero =>
    intro k x f2 hf2 hk
    obtain ⟨f2, rfl⟩ : ∃ z, f2 = z + 1 := ⟨f2 - 1, by omega⟩
    rw [s_X6_alike_L23, eM, if_pos (nI_le (by omega) (by omega)), if_neg na, show k = n by omega]
  | succ m ih =>
    intro k x f2 hf2 hk
    obtain ⟨f2, rfl⟩ : ∃ z, f2 = z + 1 := ⟨f2 - 1, by omega⟩
    have e := zal67 v (fun x2 x3 x4 => s_X6_alike_L23 f2 v (nI a) x2 x3 x4) (nI a) (nI (zBt v a k) ||| (if nI a = (-1) then 0 else if (s_X6_areAlike v (nI k) (nI a)) = 0 then 0 else (1 : Int32) <<< (nI k &&& 31))) x (k := k) (by omega) k 0 (((nI k).toInt - (0 : Int32).toInt).toNat + 1) 1 (by rw [nI_toInt (by omega), show (0 : Int32).toInt = 0 from rfl]; omega) (by omega) (Or.inr rfl)
    rw [show nI 0 = (0 : Int32) from rfl] at e
    rw [s_X6_alike_L23, eM, if_neg (nI_ge (by omega) (by omega)), e, nI_1, if_neg na]
    have g := fun y => ih (k + 1) y f2 (by omega) (by omega)
    rw [zBt] at g
    by_cases z : s_X6_areAlike v (nI a) (nI k) = 0
    · rw [if_pos (by rw [zsym]; exact z), Int32.or_zero]
      rw [if_pos z] at g
      exact g _
    · rw [if_neg (by rw [zsym]; exact z), zshl k (by omega), fa_or]
      rw [if_neg z] at g
      exact g _
theorem e_alike (h : zR u v n) (p1 : Int32) : s_X5_alike u p1 = s_X6_alike v p1 := by
  have h10 := h.n10
  unfold s_X5_alike s_X6_alike
  rw [h.1.1.has p1, h.M]
  by_cases a : p1 = -1
  · subst a
    rw [if_pos rfl, if_pos rfl]
    unfold s_X5_unlike
    exact zunL h n 0 0 0 _ _ (by rw [h.N, nI_toInt (by omega), show (0 : Int32).toInt = 0 from rfl]; omega) (by rw [nI_toInt (by omega), show (0 : Int32).toInt = 0 from rfl]; omega) (by omega)
  · rw [if_neg a, if_neg a]
    by_cases b : s_X2_has u p1 = 0
    · rw [if_pos b, if_pos b]
    · rw [if_neg b, if_neg b]
      obtain ⟨p, hp, rfl⟩ := h.1.1.isp b
      rw [zalTo h hp]
      exact (zalK h hp n 0 0 _ (by rw [nI_toInt (by omega), show (0 : Int32).toInt = 0 from rfl]; omega) (by omega)).symm
end ZG
