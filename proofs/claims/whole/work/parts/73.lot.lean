/-! ===== errors by lot, what was told, film ===== -/
def zzq (seed : Int32) : Nat → Int32
  | 0 => seed
  | s + 1 => (zzq seed s * 1103515245) + 12345
def zer (seed n : Int32) (s : Nat) : Int32 := iRem (iUshr (zzq seed s) 9) ((2 * n) + 1)
theorem zush (x : Int32) : iUshr x 9 = nI (x.toBitVec.toNat / 2 ^ 9) := by
  have h := pk_ushr x 9 9 (by decide)
  have hx : x.toBitVec.toNat / 2 ^ 9 < 2 ^ 32 := Nat.lt_of_le_of_lt (Nat.div_le_self _ _) x.toBitVec.isLt
  refine Int32.toBitVec_inj.1 (BitVec.eq_of_toNat_eq ?_)
  rw [pk_tn hx]
  exact h
theorem zush_l (x : Int32) : x.toBitVec.toNat / 2 ^ 9 < 2 ^ 31 := by
  have := x.toBitVec.isLt
  omega
theorem zspan {n : Int32} (h : 0 ≤ n.toInt ∧ n.toInt ≤ 9) : ∃ c : Nat, n = nI c ∧ c ≤ 9 ∧ (2 * n) + 1 = nI (2 * c + 1) := by
  obtain ⟨c, hc, rfl⟩ := nI_of_toInt h.1
  rw [nI_toInt hc] at h
  refine ⟨c, rfl, by omega, ?_⟩
  rw [show (2 : Int32) * nI c = nI (2 * c) from pk_mul 2 c, nI_1]
theorem zer_b {seed n : Int32} (h : 0 ≤ n.toInt ∧ n.toInt ≤ 9) (s : Nat) : 0 ≤ (zer seed n s).toInt ∧ (zer seed n s).toInt ≤ 18 := by
  obtain ⟨c, rfl, hc, e⟩ := zspan h
  unfold zer
  rw [e, zush]
  have r : iRem (nI ((zzq seed s).toBitVec.toNat / 2 ^ 9)) (nI (2 * c + 1)) = nI (((zzq seed s).toBitVec.toNat / 2 ^ 9) % (2 * c + 1)) := pk_rem (zush_l _) (by omega) (by omega)
  have m := Nat.mod_lt ((zzq seed s).toBitVec.toNat / 2 ^ 9) (show 0 < 2 * c + 1 by omega)
  rw [r, nI_toInt (by omega)]
  omega
theorem zas (a b c : Int32) : (a + b) - c = a + (b - c) := by
  simp only [Int32.sub_eq_add_neg]
  ac_rfl
section ZLo
variable {u v w : xU} {n p S k : Nat}
theorem zerL (h200 : S ≤ 200) (seed : Int32) {x1 x2 : Int32} (h9 : 0 ≤ x2.toInt ∧ x2.toInt ≤ 9) : ∀ (m s f : Nat) (u : xU), m < f → s + m = S → u.2 3 = nI S →
    ∃ w, s_X1_err_L12 f u x1 x2 (zzq seed s) ((2 * x2) + 1) (nI (s + 1)) = s_X1_sum w ∧ w.2 = u.2 ∧ (∀ r, r ≠ 15 → w.1 r = u.1 r) ∧ (∀ i, s ≤ i → i < S → w.1 15 (i + 1) = u.1 10 (i + 1) + (zer seed x2 (i + 1) - x2)) ∧ ∀ i, i ≤ s → w.1 15 i = u.1 15 i := by
  obtain ⟨c, ec, hc, e⟩ := zspan h9
  have hpos : ¬ (2 * x2) + 1 ≤ 0 := by rw [e]; exact nI_nle (by omega) (by omega)
  intro m
  induction m with
  | zero =>
    intro s f u hf hs h3
    obtain ⟨f, rfl⟩ : ∃ z, f = z + 1 := ⟨f - 1, by omega⟩
    rw [s_X1_err_L12, h3, if_pos (nI_lt (by omega) (by omega))]
    exact ⟨u, rfl, rfl, fun _ _ => rfl, fun i a b => absurd b (by omega), fun _ _ => rfl⟩
  | succ m ih =>
    intro s f u hf hs h3
    obtain ⟨f, rfl⟩ : ∃ z, f = z + 1 := ⟨f - 1, by omega⟩
    rw [s_X1_err_L12, h3, if_neg (nI_nlt (by omega) (by omega)), if_neg hpos, zcell u (by omega), s_X5_mark_in (by decide) (by omega), nI_1, show (zzq seed s * 1103515245) + 12345 = zzq seed (s + 1) from rfl]
    obtain ⟨w, w1, w2, w3, a1, a2⟩ := ih (s + 1) f (uR u 15 (upd (u.1 15) (s + 1) (u.1 10 (s + 1) + (iRem (iUshr (zzq seed (s + 1)) 9) ((2 * x2) + 1) - x2)))) (by omega) (by omega) h3
    refine ⟨w, w1, w2.trans rfl, fun r hr => (w3 r hr).trans (by simp only [uR]; rw [if_neg hr]), fun i i1 i2 => ?_, fun i hi => (a2 i (by omega)).trans ?_⟩
    · by_cases g : i = s
      · subst g
        refine (a2 (i + 1) (Nat.le_refl _)).trans ?_
        show upd (u.1 15) (i + 1) _ (i + 1) = _
        rw [pk_us]
        rfl
      · exact a1 i (by omega) i2
    · show upd (u.1 15) (s + 1) _ i = _
      rw [pk_un (by omega)]
theorem zerr (h200 : S ≤ 200) (seed : Int32) {x2 : Int32} (h9 : 0 ≤ x2.toInt ∧ x2.toInt ≤ 9) (h3 : u.2 3 = nI S) (h0 : u.1 29 0 = 0) : (∀ i, 1 ≤ i → i ≤ S → (s_X1_err u seed x2).1 15 i = u.1 10 i + (zer seed x2 i - x2)) ∧ zSl (s_X1_err u seed x2) S ∧ (s_X1_err u seed x2).1 29 0 = 0 := by
  obtain ⟨w, w1, w2, w3, a1, -⟩ := zerL h200 seed (x1 := seed) h9 S 0 (((u.2 3).toInt + 1 - (1 : Int32).toInt).toNat + 1) u (by rw [h3, nI_toInt (by omega), show (1 : Int32).toInt = 1 from rfl]; omega) (by omega) h3
  rw [show nI (0 + 1) = (1 : Int32) from rfl, show zzq seed 0 = seed from rfl] at w1
  have e : s_X1_err u seed x2 = s_X1_sum w := w1
  rw [e]
  refine ⟨fun i i1 i2 => ?_, zsl h200 (by rw [w2]; exact h3) (by rw [w3 29 (by decide)]; exact h0)⟩
  obtain ⟨j, rfl⟩ : ∃ j, i = j + 1 := ⟨i - 1, by omega⟩
  rw [(xsum w).2 15 (by decide)]
  exact a1 j (Nat.zero_le _) (by omega)
theorem zme9 (h200 : S ≤ 200) (seed : Int32) (x1 x2 : Int32) : ∀ (m s f : Nat) (w : xU), m < f → s + m = S → w.2 1 = nI S → ∃ w1, s_X6_errorsBy_L9 f w x1 x2 (zzq seed s) (nI (s + 1)) = (s_X6_most (s_X6_slews w1), s_X6_slews w1) ∧ w1.2 = w.2 ∧ (∀ r, r ≠ 12 → w1.1 r = w.1 r) ∧ (∀ i, i ≤ s → w1.1 12 i = w.1 12 i) ∧ ∀ i, s ≤ i → i < S → w1.1 12 (i + 1) = (w.1 3 (i + 1) + zer seed x2 (i + 1)) - x2 := by
  intro m
  induction m with
  | zero =>
    intro s f w hf hs h1
    obtain ⟨f, rfl⟩ : ∃ z, f = z + 1 := ⟨f - 1, by omega⟩
    refine ⟨w, ?_, rfl, fun _ _ => rfl, fun _ _ => rfl, fun i a b => absurd b (by omega)⟩
    rw [s_X6_errorsBy_L9, h1, if_pos (nI_lt (by omega) (by omega))]
  | succ m ih =>
    intro s f w hf hs h1
    obtain ⟨f, rfl⟩ : ∃ z, f = z + 1 := ⟨f - 1, by omega⟩
    obtain ⟨w1, a0, a1, a2, a3, a4⟩ := ih (s + 1) f (uA w 12 (s + 1) ((w.1 3 (s + 1) + (iRem (iUshr (zzq seed (s + 1)) 9) ((2 * x2) + 1))) - x2)) (by omega) (by omega) h1
    refine ⟨w1, ?_, a1, fun r hr => (a2 r hr).trans (by simp only [uA]; rw [if_neg hr]), fun i hi => (a3 i (by omega)).trans ?_, fun i i1 i2 => ?_⟩
    · rw [s_X6_errorsBy_L9, h1, if_neg (nI_nlt (by omega) (by omega)), nI_clamp (show s + 1 < 2 ^ 31 by omega), nI_1, show (zzq seed s * 1103515245) + 12345 = zzq seed (s + 1) from rfl]
      exact a0
    · show upd (w.1 12) (s + 1) _ i = _
      rw [pk_un (by omega)]
    · by_cases g : i = s
      · subst g
        refine (a3 (i + 1) (Nat.le_refl _)).trans ?_
        show upd (w.1 12) (i + 1) _ (i + 1) = _
        rw [pk_us]
        rfl
      · exact a4 i (by omega) i2
theorem zerrs (h : zR u v n) (seed : Int32) {x : Int32} (h9 : 0 ≤ x.toInt ∧ x.toInt ≤ 9) : s_X1_greatest (s_X1_err u seed x) = (s_X6_errorsBy v seed x).1 ∧ zR (s_X1_err u seed x) (s_X6_errorsBy v seed x).2 n := by
  obtain ⟨l1, l2⟩ := zRw_lays h.wk
  obtain ⟨h', -⟩ := zR_lays h
  have h200 := l2.1
  obtain ⟨w1, a0, a1, a2, a3, a4⟩ := zme9 h200 seed seed x (zpS (u.1 2) n) 0 ((((s_X6_lays v).2 1).toInt + 1 - (1 : Int32).toInt).toNat + 1) (s_X6_lays v) (by rw [l2.2.2.1, nI_toInt (by omega), show (1 : Int32).toInt = 1 from rfl]; omega) (by omega) l2.2.2.1
  rw [show nI (0 + 1) = (1 : Int32) from rfl, show zzq seed 0 = seed from rfl] at a0
  have eB : s_X6_errorsBy v seed x = (s_X6_most (s_X6_slews w1), s_X6_slews w1) := a0
  rw [eB]
  obtain ⟨x2, x1⟩ := xerr u seed x
  obtain ⟨ho, hsl, h29⟩ := zerr (u := u) h200 seed h9 h.2.1.1 h.n29
  have hz := h'.uo x1 x2 h29
  have eV : ∀ i, i ≤ zpS (u.1 2) n → -300 ≤ (u.1 10 i).toInt ∧ (u.1 10 i).toInt ≤ 300 := fun i hi => zrow h.wk hi
  have q' : zQw (s_X1_err u seed x) (s_X6_lays v) (zpS (u.1 2) n) := by
    obtain ⟨q1, q2, q3, q4, q5⟩ := l2
    refine ⟨q1, by rw [x2]; exact q2, q3, fun s hs => ?_, q5⟩
    rw [x1 10 (by decide), x1 11 (by decide)]
    exact q4 s hs
  obtain ⟨b1, b2, b3, b4, b5, b6, b7⟩ := zone q' (fun s hs => by rw [x1 10 (by decide)]; exact eV s hs) (fun i i1 i2 => by
    rw [ho i i1 i2]
    have r := zer_b (seed := seed) h9 i
    have e := eV i i2
    have d : (zer seed x i - x).toInt = (zer seed x i).toInt - x.toInt := fb_subI (by omega) (by omega)
    rw [fb_addI (by omega) (by omega), d]
    omega) a1 a2 (fun i i1 i2 => by
    obtain ⟨j, rfl⟩ : ∃ j, i = j + 1 := ⟨i - 1, by omega⟩
    rw [a4 j (Nat.zero_le _) (by omega), ho (j + 1) i1 i2, zas, (l2.2.2.2.1 (j + 1) i2).1]) l1.1.2.2.2.2.2.2.1
  refine ⟨?_, hz.vo b5 b4 b6⟩
  rw [zgreatest b1 hsl b2, zmost _ h200 b3 b7]
theorem e_errors (h : zR u v n) (p1 p2 : Int32) : (s_X5_errors u p1 p2).1 = (s_X6_errors v p1 p2).1 ∧ ∃ m, zR (s_X5_errors u p1 p2).2 (s_X6_errors v p1 p2).2 m := by
  unfold s_X5_errors s_X6_errors
  rw [zinl v p2 0 9 0 9 rfl rfl]
  by_cases a : s_X5_within p2 0 9 = 0
  · rw [if_pos a, if_pos a]
    exact ⟨rfl, n, h⟩
  · rw [if_neg a, if_neg a]
    obtain ⟨x1, x2⟩ := zerrs h p1 (x := p2) (xwithin a)
    rw [x1]
    exact ⟨rfl, n, x2⟩
/-! ### chances -/
theorem zdiv0 (x y : Int32) : s_X5_share x y = x / y := by
  unfold s_X5_share
  by_cases h : y = 0
  · rw [if_pos h, h, fa_eq, Int32.toInt_div, show (0 : Int32).toInt = 0 from rfl, Int.tdiv_zero]
    rfl
  · rw [if_neg h]
theorem zgcL (v : xU) (x1 x2 x3 x4 x5 x6 a0 b0 : Int32) : ∀ (N a b i f1 f2 : Nat), b < N → N ≤ f2 → i + N ≤ 100 → 100 - i < f1 → a < 2 ^ 31 → b < 2 ^ 31 →
    s_X6_chance_L95 f2 v x1 x2 x3 x4 x5 x6 (nI a) (nI b) = ((if x5 = 0 then x6 / s_X5_commonDivisor_L7 f1 a0 b0 (nI a) (nI b) (nI i) else x2 / s_X5_commonDivisor_L7 f1 a0 b0 (nI a) (nI b) (nI i)), v) := by
  intro N
  induction N with
  | zero => intro a b i f1 f2 h; exact absurd h (by omega)
  | succ N ih =>
    intro a b i f1 f2 hb hf2 hi hf1 ha hb2
    obtain ⟨f1, rfl⟩ : ∃ z, f1 = z + 1 := ⟨f1 - 1, by omega⟩
    obtain ⟨f2, rfl⟩ : ∃ z, f2 = z + 1 := ⟨f2 - 1, by omega⟩
    rw [s_X6_chance_L95, s_X5_commonDivisor_L7, if_neg (show ¬ (100 : Int32) ≤ nI i from nI_ge (b := 100) (by omega) (by omega))]
    rcases Nat.eq_zero_or_pos b with e | e
    · subst e
      rw [if_pos (show nI 0 = 0 from rfl), if_pos (show nI 0 = 0 from rfl)]
      split
      · rfl
      · rfl
    · have r : iRem (nI a) (nI b) = nI (a % b) := pk_rem ha e hb2
      have m := Nat.mod_lt a e
      rw [if_neg (nI_ne0 e hb2), if_neg (nI_ne0 e hb2), r, nI_1]
      exact ih b (a % b) (i + 1) f1 f2 (by omega) (by omega) (by omega) (by omega) hb2 (by omega)
theorem zchL {N : Nat} (hN1 : 1 ≤ N) (hN : N ≤ 20) (seed : Int32) {x3 : Int32} (h9 : 0 ≤ x3.toInt ∧ x3.toInt ≤ 9) (x4 x5 : Int32) : ∀ (m i g : Nat) (u v : xU) (f1 f2 : Nat), m < f1 → m < f2 → i + m = N → g ≤ i → zR u v n →
    (s_X5_chance_L44 f1 u seed (nI N) x3 x4 x5 (nI g) (nI i)).1 = (s_X6_chance_L49 f2 v seed (nI N) x3 x4 x5 (nI g) (nI i)).1 ∧ zR (s_X5_chance_L44 f1 u seed (nI N) x3 x4 x5 (nI g) (nI i)).2 (s_X6_chance_L49 f2 v seed (nI N) x3 x4 x5 (nI g) (nI i)).2 n := by
  intro m
  induction m with
  | zero =>
    intro i g u v f1 f2 hf1 hf2 hi hg h
    obtain ⟨f1, rfl⟩ : ∃ z, f1 = z + 1 := ⟨f1 - 1, by omega⟩
    obtain ⟨f2, rfl⟩ : ∃ z, f2 = z + 1 := ⟨f2 - 1, by omega⟩
    have e := zgcL v seed (nI N) x3 x4 x5 (nI g) (nI g) (nI N) (N + 1) g N 0 (((100 : Int32).toInt - (0 : Int32).toInt).toNat + 1) ((nI N).toInt.toNat + 1) (by omega) (by rw [nI_toInt (by omega)]; omega) (by omega) (by rw [show (100 : Int32).toInt = 100 from rfl, show (0 : Int32).toInt = 0 from rfl]; omega) (by omega) (by omega)
    rw [s_X5_chance_L44, s_X6_chance_L49, if_pos (nI_le (by omega) (by omega)), if_pos (nI_le (by omega) (by omega)), e]
    unfold s_X5_commonDivisor
    rw [zdiv0, zdiv0]
    split
    · exact ⟨rfl, h⟩
    · exact ⟨rfl, h⟩
  | succ m ih =>
    intro i g u v f1 f2 hf1 hf2 hi hg h
    obtain ⟨f1, rfl⟩ : ∃ z, f1 = z + 1 := ⟨f1 - 1, by omega⟩
    obtain ⟨f2, rfl⟩ : ∃ z, f2 = z + 1 := ⟨f2 - 1, by omega⟩
    obtain ⟨a1, a2⟩ := zerrs h (seed + nI i) h9
    rw [s_X5_chance_L44, s_X6_chance_L49, if_neg (nI_ge (by omega) (by omega)), if_neg (nI_ge (by omega) (by omega)), a1, nI_1]
    unfold s_X6_bit
    by_cases c : x4 < (s_X6_errorsBy v (seed + nI i) x3).1
    · rw [if_pos c, if_pos c, if_pos rfl, Int32.add_zero]
      exact ih (i + 1) g _ _ f1 f2 (by omega) (by omega) (by omega) (by omega) a2
    · rw [if_neg c, if_neg c, if_neg (show ¬ (1 : Int32) = 0 by decide), nI_1]
      exact ih (i + 1) (g + 1) _ _ f1 f2 (by omega) (by omega) (by omega) (by omega) a2
theorem e_chance (h : zR u v n) (p1 p2 p3 p4 p5 : Int32) : (s_X5_chance u p1 p2 p3 p4 p5).1 = (s_X6_chance v p1 p2 p3 p4 p5).1 ∧ ∃ m, zR (s_X5_chance u p1 p2 p3 p4 p5).2 (s_X6_chance v p1 p2 p3 p4 p5).2 m := by
  unfold s_X5_chance s_X6_chance
  rw [zinl v p2 1 20 1 20 rfl rfl, zinl v p3 0 9 0 9 rfl rfl, zinl v p5 0 1 0 1 rfl rfl]
  by_cases a : s_X5_within p2 1 20 = 0
  · rw [if_pos a, if_pos a]; exact ⟨rfl, n, h⟩
  · rw [if_neg a, if_neg a]
    obtain ⟨N, h1, hN, rfl⟩ := zwn1 (S := 20) (by decide) a
    by_cases b : s_X5_within p3 0 9 = 0
    · rw [if_pos b, if_pos b]; exact ⟨rfl, n, h⟩
    · rw [if_neg b, if_neg b]
      by_cases c : p4 < 0
      · rw [if_pos c, if_pos c]; exact ⟨rfl, n, h⟩
      · rw [if_neg c, if_neg c]
        by_cases d : s_X5_within p5 0 1 = 0
        · rw [if_pos d, if_pos d]; exact ⟨rfl, n, h⟩
        · rw [if_neg d, if_neg d]
          obtain ⟨x1, x2⟩ := zchL h1 hN p1 (xwithin b) p4 p5 N 0 0 u v (((nI N).toInt - (0 : Int32).toInt).toNat + 1) (((nI N).toInt - (0 : Int32).toInt).toNat + 1) (by rw [nI_toInt (by omega), show (0 : Int32).toInt = 0 from rfl]; omega) (by rw [nI_toInt (by omega), show (0 : Int32).toInt = 0 from rfl]; omega) (by omega) (Nat.le_refl _) h
          exact ⟨x1, n, x2⟩
/-! ### what was told -/
theorem zaddF {F i : Nat} : nI F + nI i = nI (F + i) := nI_add F i
theorem zstat (q2 : u.2 3 = nI S) (q3 : w.2 1 = nI S) {j : Nat} (hS : S ≤ 200) (h1 : 1 ≤ j) (hj : j < 1000) : s_X6_isStation w (nI j) = if u.2 3 < nI j then 0 else 1 := by
  unfold s_X6_isStation
  rw [zinl w (nI j) 1 (w.2 1) 1 _ rfl rfl, q2, q3]
  unfold s_X5_within
  rw [if_neg (show ¬ nI j < (1 : Int32) from nI_nlt (b := 1) h1 (by omega))]
theorem zfoL (h : zRs u w) (q : zQw u w S) (hk : k < 4) {F : Nat} (F1 : 1 ≤ F) (F2 : F ≤ 200) {N : Nat} (hN : N ≤ 40) (eN : u.2 (8 + k) = nI N) : ∀ (m i f1 f2 : Nat), m < f1 → m < f2 → i + m = N →
    s_X5_firstOtherwise_L2 k f1 u (nI F) (nI i) = (s_X6_otherwise_L6 f2 w (nI k) (nI F) (nI i)).1 ∧ (s_X6_otherwise_L6 f2 w (nI k) (nI F) (nI i)).2 = w := by
  obtain ⟨b1, b2, b3, b4, b5⟩ := h k hk
  have h200 := q.1
  intro m
  induction m with
  | zero =>
    intro i f1 f2 hf1 hf2 hi
    obtain ⟨f1, rfl⟩ : ∃ z, f1 = z + 1 := ⟨f1 - 1, by omega⟩
    obtain ⟨f2, rfl⟩ : ∃ z, f2 = z + 1 := ⟨f2 - 1, by omega⟩
    rw [s_X5_firstOtherwise_L2, s_X6_otherwise_L6, zcl hk, b2, eN, if_pos (nI_le (by omega) (by omega)), if_pos (nI_le (by omega) (by omega))]
    exact ⟨rfl, rfl⟩
  | succ m ih =>
    intro i f1 f2 hf1 hf2 hi
    obtain ⟨f1, rfl⟩ : ∃ z, f1 = z + 1 := ⟨f1 - 1, by omega⟩
    obtain ⟨f2, rfl⟩ : ∃ z, f2 = z + 1 := ⟨f2 - 1, by omega⟩
    have er : s_X3_read (uS u k) (nI i) = w.1 10 (40 * k + i) := (zld1 (u := u) (k := k) (i := i) (by omega) (by rw [eN, nI_toInt (by omega)]; omega)).trans (b5 i (by omega)).symm
    have ei : ((40 * nI k) + nI i).toNatClampNeg = 40 * k + i := by rw [show (40 : Int32) * nI k = nI (40 * k) from pk_mul 40 k, nI_add, nI_clamp (by omega)]
    rw [s_X5_firstOtherwise_L2, s_X6_otherwise_L6, zcl hk, b2, eN, if_neg (nI_ge (by omega) (by omega)), if_neg (nI_ge (by omega) (by omega)), zaddF, zstat q.2.1 q.2.2.1 h200 (by omega) (by omega), er, ei, nI_1]
    by_cases a : u.2 3 < nI (F + i)
    · rw [if_pos a, if_pos a, if_pos rfl]
      exact ⟨rfl, rfl⟩
    · rw [if_neg a, if_neg a, if_neg (show ¬ (1 : Int32) = 0 by decide)]
      have hFi : F + i ≤ S := by
        rw [q.2.1] at a
        exact Nat.le_of_not_lt (fun z => a (nI_lt z (by omega)))
      rw [q.c3 hFi, nI_clamp (show F + i < 2 ^ 31 by omega)]
      by_cases c : w.1 10 (40 * k + i) = w.1 3 (F + i)
      · rw [if_pos c, if_pos c.symm]
        exact ih (i + 1) f1 f2 (by omega) (by omega) (by omega)
      · rw [if_neg c, if_neg (show ¬ w.1 3 (F + i) = w.1 10 (40 * k + i) from fun e => c e.symm)]
        exact ⟨rfl, rfl⟩
theorem zfo (h : zRw u v n) (hk : k < 4) {F : Nat} (F1 : 1 ≤ F) (F2 : F ≤ 200) : s_X5_firstOtherwise k u (nI F) = (s_X6_otherwise v (nI k) (nI F)).1 ∧ (s_X6_otherwise v (nI k) (nI F)).2 = s_X6_lays v := by
  obtain ⟨l1, l2⟩ := zRw_lays h
  have hR : zRs u (s_X6_lays v) := l1.1.2.2.2.1
  obtain ⟨b1, b2, b3, b4, b5⟩ := hR k hk
  obtain ⟨N, hN, eN⟩ := nI_of_toInt b3.1
  have h40 : N ≤ 40 := by rw [eN, nI_toInt hN] at b3; omega
  unfold s_X5_firstOtherwise s_X6_otherwise
  exact zfoL hR l2 hk F1 F2 h40 eN N 0 _ _ (by rw [eN, nI_toInt hN, show (0 : Int32).toInt = 0 from rfl]; omega) (by rw [zcl hk, b2, eN, nI_toInt hN, show (0 : Int32).toInt = 0 from rfl]; omega) (by omega)
theorem zplace0 (hp : p < 10) : ((4 * nI p) + 0).toNatClampNeg = 4 * p + 0 := zplace (j := 0) hp (by decide)
theorem zktL {u0 : xU} (hk : k < 4) (hp : p < n) {F : Nat} (F1 : 1 ≤ F) (F2 : F ≤ 200) {was : Int32} (hw : u0.1 2 (4 * p + 0) = was) (hwx : okf 0 was) (hl0 : zLP (u0.1 2) n n u0) (ht0 : zT (u0.1 10) (u0.1 12) (u0.1 13) (zpS (u0.1 2) n)) :
    ∀ (m c : Nat) (u v : xU) (x : Int32) (f1 f2 : Nat), m < f1 → m < f2 → c + m = 6 → zRw u v n → (∃ y, u.1 2 = upd (u0.1 2) (4 * p + 0) y) → u.1 12 = u0.1 12 → u.1 13 = u0.1 13 →
      (s_X5_kindsTold_L17 k f1 u (nI F) (nI p) was x (nI c)).1 = (s_X6_tells_L87 f2 v (nI k) (nI F) (nI p) was x (nI c)).1 ∧ zR (s_X5_kindsTold_L17 k f1 u (nI F) (nI p) was x (nI c)).2 (s_X6_tells_L87 f2 v (nI k) (nI F) (nI p) was x (nI c)).2 n := by
  intro m
  induction m with
  | zero =>
    intro c u v x f1 f2 hf1 hf2 hc h hy e12 e13
    obtain ⟨f1, rfl⟩ : ∃ z, f1 = z + 1 := ⟨f1 - 1, by omega⟩
    obtain ⟨f2, rfl⟩ : ∃ z, f2 = z + 1 := ⟨f2 - 1, by omega⟩
    have h10 := h.n10
    have e6 : c = 6 := by omega
    subst e6
    rw [s_X5_kindsTold_L17, s_X6_tells_L87, if_pos (show (5 : Int32) < nI 6 by decide), if_pos (show (6 : Int32) ≤ nI 6 by decide), zplace0 (by omega)]
    obtain ⟨y, hy⟩ := hy
    obtain ⟨a1, a2, a3, a4⟩ := h.tri (j := 0) hp (by decide) (by decide) hwx
    have e2 : (s_X0_attempt u (nI p) 0 was).1 2 = u0.1 2 := by
      refine a3.trans ?_
      rw [hy, fa_upd_twice]
      exact fa_upd_same hw
    exact ⟨rfl, zRw.back a1 ht0 hl0 e2 ((a4 12 (by decide) (by decide) (by decide) (by decide)).trans e12) ((a4 13 (by decide) (by decide) (by decide) (by decide)).trans e13)⟩
  | succ m ih =>
    intro c u v x f1 f2 hf1 hf2 hc h hy e12 e13
    obtain ⟨f1, rfl⟩ : ∃ z, f1 = z + 1 := ⟨f1 - 1, by omega⟩
    obtain ⟨f2, rfl⟩ : ∃ z, f2 = z + 1 := ⟨f2 - 1, by omega⟩
    have h10 := h.n10
    obtain ⟨y, hy⟩ := hy
    have hok : okf 0 (nI c) := ⟨show (0 : Int) ≤ _ by rw [nI_toInt (by omega)]; omega, show _ ≤ (5 : Int) by rw [nI_toInt (by omega)]; omega⟩
    obtain ⟨a1, a2, a3, a4⟩ := h.tri (j := 0) hp (by decide) (by decide) hok
    change zRw (s_X0_attempt u (nI p) 0 (nI c)) _ n at a1
    change (s_X0_attempt u (nI p) 0 (nI c)).1 2 = _ at a3
    change ∀ k, k ≠ 2 → k ≠ 9 → k ≠ 10 → k ≠ 11 → (s_X0_attempt u (nI p) 0 (nI c)).1 k = _ at a4
    obtain ⟨o1, o2⟩ := zfo a1 hk F1 F2
    obtain ⟨l1, l2⟩ := zRw_lays a1
    rw [s_X5_kindsTold_L17, s_X6_tells_L87, if_neg (show ¬ (5 : Int32) < nI c from nI_nlt (b := c) (a := 5) (by omega) (by omega)), if_neg (show ¬ (6 : Int32) ≤ nI c from nI_ge (b := 6) (by omega) (by omega)), zplace0 (by omega), o1, o2, nI_1]
    have next := fun x => ih (c + 1) (s_X0_attempt u (nI p) 0 (nI c)) (s_X6_lays (uA v 1 (4 * p + 0) (nI c))) x f1 f2 (by omega) (by omega) (by omega) l1 ⟨nI c, by rw [a3, hy, fa_upd_twice]⟩ ((a4 12 (by decide) (by decide) (by decide) (by decide)).trans e12) ((a4 13 (by decide) (by decide) (by decide) (by decide)).trans e13)
    by_cases z : (s_X6_otherwise (uA v 1 (4 * p + 0) (nI c)) (nI k) (nI F)).1 = -1
    · rw [if_pos z, if_pos z]
      exact next _
    · rw [if_neg z, if_neg z, Int32.or_zero]
      exact next _
theorem e_tells (h : zR u v n) (p1 p2 p3 : Int32) : (s_X5_tells u p1 p2 p3).1 = (s_X6_tells v p1 p2 p3).1 ∧ ∃ m, zR (s_X5_tells u p1 p2 p3).2 (s_X6_tells v p1 p2 p3).2 m := by
  unfold s_X6_tells
  rcases zd_tells u p1 p2 p3 with ⟨k, hk, rfl, e⟩ | ⟨e1, e⟩
  · rw [e]
    unfold zB_tells
    obtain ⟨b1, b2, b3, b4, b5⟩ := h.sh hk
    rw [zisS_k v hk, if_neg (show ¬ (1 : Int32) = 0 by decide), zinl v p2 1 200 1 200 rfl rfl, h.1.1.has p3]
    by_cases a : s_X5_within p2 1 200 = 0
    · rw [if_pos a, if_pos a]; exact ⟨rfl, n, h⟩
    · rw [if_neg a, if_neg a]
      obtain ⟨F, F1, F2, rfl⟩ := zwn1 (S := 200) (by decide) a
      obtain ⟨h', q⟩ := zR_lays h
      obtain ⟨o1, o2⟩ := zfo h.wk hk F1 F2
      have eb : v.1 9 (nI k).toNatClampNeg = u.2 (8 + k) := by rw [zcl hk]; exact b2
      rw [eb]
      by_cases c : p3 = -1
      · rw [if_pos c, if_pos c, if_pos c, if_pos c]
        rcases zmiss h hk with ⟨a1, a2, a3, a4⟩ | ⟨a1, a2, a3, a4⟩
        · rw [a1, if_neg (show ¬ (1 : Int32) = 0 by decide), if_neg a3]; exact ⟨rfl, n, h⟩
        · rw [a1, if_pos rfl, if_pos a3]
          by_cases d : u.2 (8 + k) ≤ 8
          · rw [if_pos d, if_pos d, o1, o2]; exact ⟨rfl, n, h'⟩
          · rw [if_neg d, if_neg d]; exact ⟨rfl, n, h⟩
      · rw [if_neg c, if_neg c, if_neg c, if_neg c]
        by_cases g : s_X2_has u p3 = 0
        · rw [if_pos g, if_pos g]; exact ⟨rfl, n, h⟩
        · rw [if_neg g, if_neg g]
          obtain ⟨p, hp, rfl⟩ := h.1.1.isp g
          rcases zmiss h hk with ⟨a1, a2, a3, a4⟩ | ⟨a1, a2, a3, a4⟩
          · rw [a1, if_neg (show ¬ (1 : Int32) = 0 by decide), if_neg a3]; exact ⟨rfl, n, h⟩
          · rw [a1, if_pos rfl, if_pos a3]
            by_cases d : u.2 (8 + k) ≤ 8
            · rw [if_pos d, if_pos d]
              have o0 : s_X6_of0 v (nI p) 0 = s_X2_read u (nI p) 0 := h.1.1.of (j := 0) hp (by decide)
              have w0 : s_X2_read u (nI p) 0 = u.1 2 (4 * p + 0) := s_X2_read_in (j := 0) h.n10 h.N hp (by decide)
              have y := zktL (u0 := u) hk hp F1 F2 rfl (h.g.K hp) h.lp h.t 6 0 u v 0 (((5 : Int32).toInt + 1 - (0 : Int32).toInt).toNat + 1) (((6 : Int32).toInt - (0 : Int32).toInt).toNat + 1) (by decide) (by decide) (by decide) h.wk ⟨u.1 2 (4 * p + 0), (fa_upd_same rfl).symm⟩ rfl rfl
              rw [show nI 0 = (0 : Int32) from rfl] at y
              unfold s_X5_kindsTold
              rw [o0, w0]
              exact ⟨y.1, n, y.2⟩
            · rw [if_neg d, if_neg d]; exact ⟨rfl, n, h⟩
  · rw [e, zisS, if_pos e1]
    exact ⟨rfl, n, h⟩
/-! ### film -/
theorem zfiL (hk : k < 4) {F N : Nat} (F1 : 1 ≤ F) (F2 : F ≤ 200) (hN : N ≤ 40) (x4 : Int32) : ∀ (m i : Nat) (u v : xU) (f1 f2 : Nat), m < f1 → m < f2 → i + m = N → zR u v n → zQ u v (zpS (u.1 2) n) → u.2 (4 + k) = 0 → u.2 (8 + k) = nI N → (∀ j, i ≤ j → j < 40 → u.1 (21 + k) j = 0) →
    (zFilmL k f1 u (nI k) (nI F) (nI N) (nI i)).1 = (s_X6_film_L50 f2 v (nI k) (nI F) (nI N) x4 (nI i)).1 ∧ zR (zFilmL k f1 u (nI k) (nI F) (nI N) (nI i)).2 (s_X6_film_L50 f2 v (nI k) (nI F) (nI N) x4 (nI i)).2 n := by
  intro m
  induction m with
  | zero =>
    intro i u v f1 f2 hf1 hf2 hi h q es ez hz
    obtain ⟨f1, rfl⟩ : ∃ z, f1 = z + 1 := ⟨f1 - 1, by omega⟩
    obtain ⟨f2, rfl⟩ : ∃ z, f2 = z + 1 := ⟨f2 - 1, by omega⟩
    rw [zFilmL, s_X6_film_L50, if_pos (nI_le (by omega) (by omega)), if_pos (nI_le (by omega) (by omega))]
    exact ⟨rfl, h⟩
  | succ m ih =>
    intro i u v f1 f2 hf1 hf2 hi h q es ez hz
    obtain ⟨f1, rfl⟩ : ∃ z, f1 = z + 1 := ⟨f1 - 1, by omega⟩
    obtain ⟨f2, rfl⟩ : ∃ z, f2 = z + 1 := ⟨f2 - 1, by omega⟩
    have h200 := q.1
    obtain ⟨b1, b2, b3, b4, b5⟩ := h.sh hk
    have ei : ((40 * nI k) + nI i).toNatClampNeg = 40 * k + i := by rw [show (40 : Int32) * nI k = nI (40 * k) from pk_mul 40 k, nI_add, nI_clamp (by omega)]
    rw [zFilmL, s_X6_film_L50, if_neg (nI_ge (by omega) (by omega)), if_neg (nI_ge (by omega) (by omega)), zaddF, zstat q.2.1 q.2.2.1 h200 (by omega) (by omega), ei, nI_1]
    by_cases a : u.2 3 < nI (F + i)
    · rw [if_pos a, if_pos a, if_pos rfl]
      refine ih (i + 1) u (uA v 10 (40 * k + i) 0) f1 f2 (by omega) (by omega) (by omega) (h.shto hk (fun _ _ => rfl) (fun _ _ _ => rfl) (fun r h8 h9 h10 h11 => by simp only [uA]; rw [if_neg h10]) rfl (fun j hj hjk => ⟨rfl, rfl, fun c hc => ?_⟩) ⟨b1, b2, b3, b4, fun c hc => ?_⟩) q es ez (fun j j1 j2 => hz j (by omega) j2)
      · show upd (v.1 10) (40 * k + i) 0 (40 * j + c) = _
        rw [pk_un (by omega)]
      · show upd (v.1 10) (40 * k + i) 0 (40 * k + c) = _
        by_cases e : c = i
        · rw [e, pk_us, hz i (Nat.le_refl _) (by omega)]
        · rw [pk_un (by omega)]
          exact b5 c hc
    · have hFi : F + i ≤ zpS (u.1 2) n := by
        rw [q.2.1] at a
        exact Nat.le_of_not_lt (fun z => a (nI_lt z (by omega)))
      have hv := zrow h.wk hFi
      have ec : s_X5_cell 201 (u.1 10) (nI (F + i)) = u.1 10 (F + i) := zcell u (by omega)
      have ev : v.1 3 (nI (F + i)).toNatClampNeg = u.1 10 (F + i) := by rw [nI_clamp (by omega)]; exact (q.2.2.2 (F + i) hFi).1
      rw [if_neg a, if_neg a, if_neg (show ¬ (1 : Int32) = 0 by decide), ec, ev]
      have ew : s_X3_write (uS u k) (nI i) (u.1 10 (F + i)) = uR (uS u k) 0 (upd (u.1 (21 + k)) i (u.1 10 (F + i))) := by
        unfold s_X3_write
        rw [if_neg (show ¬ (uS u k).2 1 ≤ nI i by show ¬ u.2 (8 + k) ≤ nI i; rw [ez]; exact nI_ge (by omega) (by omega)), if_pos (show (uS u k).2 0 = 0 from es), fb_short (by omega) (by omega), s_X5_mark_in (by decide) (by omega)]
        rfl
      rw [ew]
      have hr : ∀ r, r ≠ 21 + k → (uP u k (uR (uS u k) 0 (upd (u.1 (21 + k)) i (u.1 10 (F + i))))).1 r = u.1 r := fun r hr => by simp only [uP]; rw [if_neg hr]
      have h2 : ∀ j, (uP u k (uR (uS u k) 0 (upd (u.1 (21 + k)) i (u.1 10 (F + i))))).2 j = u.2 j := fun j => by
        by_cases e4 : j = 4 + k
        · rw [e4, uP_s]; rfl
        · by_cases e8 : j = 8 + k
          · rw [e8, uP_z]; rfl
          · simp only [uP]; rw [if_neg e4, if_neg e8]
      refine ih (i + 1) (uP u k (uR (uS u k) 0 (upd (u.1 (21 + k)) i (u.1 10 (F + i))))) (uA v 10 (40 * k + i) (u.1 10 (F + i))) f1 f2 (by omega) (by omega) (by omega) (h.shto hk hr (fun j _ _ => h2 j) (fun r h8 h9 h10 h11 => by simp only [uA]; rw [if_neg h10]) rfl (fun j hj hjk => ⟨rfl, rfl, fun c hc => ?_⟩) ⟨?_, ?_, ?_, ?_, fun c hc => ?_⟩) ?_ ?_ ?_ ?_
      · show upd (v.1 10) (40 * k + i) _ (40 * j + c) = _
        rw [pk_un (by omega)]
      · rw [h2]; exact b1
      · rw [h2]; exact b2
      · rw [h2]; exact b3
      · rw [h2]; exact b4
      · rw [uP_r]
        show upd (v.1 10) (40 * k + i) _ (40 * k + c) = upd (u.1 (21 + k)) i _ c
        by_cases e : c = i
        · rw [e, pk_us, pk_us]
        · rw [pk_un (by omega), pk_un e]
          exact b5 c hc
      · unfold zQ at q ⊢
        rw [h2, hr 2 (by omega), hr 9 (by omega), hr 10 (by omega), hr 11 (by omega), hr 12 (by omega), hr 13 (by omega)]
        exact q
      · rw [h2]; exact es
      · rw [h2]; exact ez
      · intro j j1 j2
        rw [uP_r]
        show upd (u.1 (21 + k)) i _ j = 0
        rw [pk_un (by omega)]
        exact hz j (by omega) j2
theorem e_film (h : zR u v n) (p1 p2 p3 : Int32) : (s_X5_film u p1 p2 p3).1 = (s_X6_film v p1 p2 p3).1 ∧ ∃ m, zR (s_X5_film u p1 p2 p3).2 (s_X6_film v p1 p2 p3).2 m := by
  unfold s_X6_film
  rcases zd_film u p1 p2 p3 with ⟨k, hk, rfl, e⟩ | ⟨e1, e⟩
  · rw [e]
    unfold zB_film
    rw [zisS_k v hk, if_neg (show ¬ (1 : Int32) = 0 by decide), zinl v p2 1 200 1 200 rfl rfl, zinl v p3 0 40 0 40 rfl rfl]
    by_cases a : s_X5_within p2 1 200 = 0
    · rw [if_pos a, if_pos a]; exact ⟨rfl, n, h⟩
    · rw [if_neg a, if_neg a]
      obtain ⟨F, F1, F2, rfl⟩ := zwn1 (S := 200) (by decide) a
      by_cases b : s_X5_within p3 0 40 = 0
      · rw [if_pos b, if_pos b]; exact ⟨rfl, n, h⟩
      · rw [if_neg b, if_neg b]
        obtain ⟨N, hN, rfl⟩ := zwn (S := 40) (by decide) b
        have hi : (nI N).toInt = N := nI_toInt (by omega)
        obtain ⟨x1, x2⟩ := zsheet_to h hk (a := 0) (b := nI N) (x2 := 0) (x3 := nI N) (Or.inr (Or.inl rfl)) (by omega)
        have es : s_X6_sheet v (nI k) 0 (nI N) = s_X6_sheet_L68 (((40 : Int32).toInt - (0 : Int32).toInt).toNat + 1) (uA (uA v 8 k 0) 9 k (nI N)) (nI k) 0 (nI N) 0 := by
          unfold s_X6_sheet
          rw [zisS_k v hk, if_neg (show ¬ (1 : Int32) = 0 by decide), zinl v 0 (-1) 1 (-1) 1 rfl rfl, if_neg (by decide), if_neg (show ¬ (0 : Int32) < 0 by decide), if_pos (show nI N ≤ 40 from nI_le (b := 40) hN (by decide)), if_neg (show ¬ (0 : Int32) < 0 by decide), if_pos (show (0 : Int32) ≤ nI N from nI_pos' (by omega)), if_pos (show (0 : Int32) ≤ 0 by decide), zcl hk]
        rw [es]
        obtain ⟨l1, l2⟩ := zR_lays x2
        obtain ⟨c1, c2, c3⟩ := zbec (uS u k) 0 (nI N)
        have y := zfiL (n := n) hk F1 F2 hN ((s_X6_sheet_L68 (((40 : Int32).toInt - (0 : Int32).toInt).toNat + 1) (uA (uA v 8 k 0) 9 k (nI N)) (nI k) 0 (nI N) 0).1) N 0 (uP u k (s_X3_become (uS u k) 0 (nI N))) _ (((nI N).toInt - (0 : Int32).toInt).toNat + 1) (((nI N).toInt - (0 : Int32).toInt).toNat + 1) (by rw [hi, show (0 : Int32).toInt = 0 from rfl]; omega) (by rw [hi, show (0 : Int32).toInt = 0 from rfl]; omega) (by omega) l1 l2 (by rw [uP_s]; exact c1) (by rw [uP_z, c2]; unfold iMin; rw [if_neg (by rw [fa_lt, show (40 : Int32).toInt = 40 from rfl]; omega)]) (fun j j1 j2 => by rw [uP_r]; exact c3 j j2)
        rw [show nI 0 = (0 : Int32) from rfl] at y
        exact ⟨y.1, n, y.2⟩
  · rw [e, zisS, if_pos e1]
    exact ⟨rfl, n, h⟩
end ZLo
