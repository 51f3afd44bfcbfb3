/-! ===== sheets, the tape's bytes: both sides answer alike ===== -/
theorem uP_r (u : xU) (k : Nat) (w : xU) : (uP u k w).1 (21 + k) = w.1 0 := if_pos rfl
theorem uP_s (u : xU) (k : Nat) (w : xU) : (uP u k w).2 (4 + k) = w.2 0 := if_pos rfl
theorem uP_z (u : xU) (k : Nat) (w : xU) : (uP u k w).2 (8 + k) = w.2 1 := (if_neg (by omega)).trans (if_pos rfl)
theorem uR_r (u : xU) (r : Nat) (f : Nat → Int32) : (uR u r f).1 r = f := if_pos rfl
section ZH
variable {u v w : xU} {n p S s k : Nat}
theorem zR.sh (h : zR u v n) (hk : k < 4) : v.1 8 k = u.2 (4 + k) ∧ v.1 9 k = u.2 (8 + k) ∧ (0 ≤ (u.2 (8 + k)).toInt ∧ (u.2 (8 + k)).toInt ≤ 40) ∧ (u.2 (4 + k) = -1 ∨ u.2 (4 + k) = 0 ∨ u.2 (4 + k) = 1) ∧ ∀ i, i < 40 → v.1 10 (40 * k + i) = u.1 (21 + k) i := h.1.2.2.2.1 k hk
theorem zisS (v : xU) (x : Int32) : s_X6_isSheet v x = s_X5_within x 0 3 := zinl v x 0 3 0 3 rfl rfl
theorem zisS_k (v : xU) (hk : k < 4) : s_X6_isSheet v (nI k) = 1 := by
  rw [zisS]
  exact zwin (show (0 : Int32).toInt ≤ _ by rw [nI_toInt (by omega)]; show (0 : Int) ≤ _; omega) (show _ ≤ (3 : Int32).toInt by rw [nI_toInt (by omega)]; show _ ≤ (3 : Int); omega)
theorem zcl (hk : k < 4) : (nI k).toNatClampNeg = k := nI_clamp (by omega)
/-- a sheet is missing on both sides, or on neither -/
theorem zmiss (h : zR u v n) (hk : k < 4) : (s_X3_isMissing (uS u k) = 1 ∧ u.2 (4 + k) = -1 ∧ ¬ 0 ≤ v.1 8 (nI k).toNatClampNeg ∧ v.1 8 (nI k).toNatClampNeg < 0) ∨ (s_X3_isMissing (uS u k) = 0 ∧ (u.2 (4 + k) = 0 ∨ u.2 (4 + k) = 1) ∧ 0 ≤ v.1 8 (nI k).toNatClampNeg ∧ ¬ v.1 8 (nI k).toNatClampNeg < 0) := by
  obtain ⟨b1, b2, b3, b4, b5⟩ := h.sh hk
  rw [zcl hk, b1]
  have e : s_X3_isMissing (uS u k) = if u.2 (4 + k) = -1 then 1 else 0 := rfl
  rw [e]
  rcases b4 with c | c | c
  · rw [c]; exact Or.inl ⟨if_pos rfl, rfl, by decide, by decide⟩
  · rw [c]; exact Or.inr ⟨if_neg (by decide), Or.inl rfl, by decide, by decide⟩
  · rw [c]; exact Or.inr ⟨if_neg (by decide), Or.inr rfl, by decide, by decide⟩
/-- only one sheet was touched -/
theorem zR.shto {u' v' : xU} (h : zR u v n) (hk : k < 4) (h1 : ∀ r, r ≠ 21 + k → u'.1 r = u.1 r) (h2 : ∀ j, j ≠ 4 + k → j ≠ 8 + k → u'.2 j = u.2 j) (h3 : ∀ r, r ≠ 8 → r ≠ 9 → r ≠ 10 → r ≠ 11 → v'.1 r = v.1 r) (h4 : v'.2 = v.2)
    (g1 : ∀ j, j < 4 → j ≠ k → v'.1 8 j = v.1 8 j ∧ v'.1 9 j = v.1 9 j ∧ ∀ i, i < 40 → v'.1 10 (40 * j + i) = v.1 10 (40 * j + i))
    (g2 : v'.1 8 k = u'.2 (4 + k) ∧ v'.1 9 k = u'.2 (8 + k) ∧ (0 ≤ (u'.2 (8 + k)).toInt ∧ (u'.2 (8 + k)).toInt ≤ 40) ∧ (u'.2 (4 + k) = -1 ∨ u'.2 (4 + k) = 0 ∨ u'.2 (4 + k) = 1) ∧ ∀ i, i < 40 → v'.1 10 (40 * k + i) = u'.1 (21 + k) i) : zR u' v' n := by
  obtain ⟨⟨hr, z0, hkk, hs, ht, zm, h13, hc⟩, hl⟩ := h
  refine ⟨⟨?_, ?_, ?_, ?_, ?_, ?_, ?_, ?_⟩, ?_⟩
  · rw [h1 2 (by omega), h1 5 (by omega), h2 1 (by omega) (by omega), h3 1 (by decide) (by decide) (by decide) (by decide)]; exact hr
  · unfold z0X
    rw [h1 10 (by omega), h1 11 (by omega), h1 12 (by omega), h1 13 (by omega), h1 29 (by omega)]; exact z0
  · unfold zRk at hkk ⊢
    rw [h4, h2 0 (by omega) (by omega), h2 2 (by omega) (by omega), h1 4 (by omega), h1 6 (by omega), h3 2 (by decide) (by decide) (by decide) (by decide)]; exact hkk
  · intro j hj
    by_cases e : j = k
    · subst e
      exact g2
    · obtain ⟨a1, a2, a3⟩ := g1 j hj e
      obtain ⟨b1, b2, b3, b4, b5⟩ := hs j hj
      rw [h2 (4 + j) (by omega) (by omega), h2 (8 + j) (by omega) (by omega), h1 (21 + j) (by omega), a1, a2]
      exact ⟨b1, b2, b3, b4, fun i hi => (a3 i hi).trans (b5 i hi)⟩
  · unfold zRt at ht ⊢
    rw [h4, h2 12 (by omega) (by omega), h1 26 (by omega), h3 14 (by decide) (by decide) (by decide) (by decide)]; exact ht
  · unfold z0M
    rw [h3 3 (by decide) (by decide) (by decide) (by decide), h3 4 (by decide) (by decide) (by decide) (by decide), h3 6 (by decide) (by decide) (by decide) (by decide), h3 7 (by decide) (by decide) (by decide) (by decide)]; exact zm
  · rw [h3 13 (by decide) (by decide) (by decide) (by decide)]; exact h13
  · show XCv (v'.1 15) (v'.1 16) (v'.1 17)
    rw [h3 15 (by decide) (by decide) (by decide) (by decide), h3 16 (by decide) (by decide) (by decide) (by decide), h3 17 (by decide) (by decide) (by decide) (by decide)]; exact hc
  · unfold zLX at hl ⊢
    rw [h1 2 (by omega), h1 9 (by omega), h1 10 (by omega), h1 11 (by omega), h1 12 (by omega), h1 13 (by omega), h1 8 (by omega), h2 3 (by omega) (by omega)]; exact hl
/-! ### a sheet becomes another -/
theorem zbecL (a b : Int32) : ∀ (m i : Nat) (w : xU) (f : Nat), m < f → i + m = 40 → (∀ j, j < i → w.1 0 j = 0) → (s_X3_become_L2 f w a b (nI i)).2 0 = a ∧ (s_X3_become_L2 f w a b (nI i)).2 1 = iMin b 40 ∧ ∀ j, j < 40 → (s_X3_become_L2 f w a b (nI i)).1 0 j = 0 := by
  intro m
  induction m with
  | zero =>
    intro i w f hf hi hz
    obtain ⟨f, rfl⟩ : ∃ z, f = z + 1 := ⟨f - 1, by omega⟩
    rw [s_X3_become_L2, if_pos (show (40 : Int32) ≤ nI i from nI_le (a := 40) (by omega) (by omega))]
    exact ⟨rfl, rfl, fun j hj => hz j (by omega)⟩
  | succ m ih =>
    intro i w f hf hi hz
    obtain ⟨f, rfl⟩ : ∃ z, f = z + 1 := ⟨f - 1, by omega⟩
    rw [s_X3_become_L2, if_neg (show ¬ (40 : Int32) ≤ nI i from nI_ge (b := 40) (by omega) (by omega)), nI_1, nI_clamp (by omega)]
    refine ih (i + 1) (uA w 0 i 0) f (by omega) (by omega) (fun j hj => ?_)
    show upd (w.1 0) i 0 j = 0
    by_cases e : j = i
    · rw [e, pk_us]
    · rw [pk_un e]
      exact hz j (by omega)
theorem zbec (w : xU) (a b : Int32) : (s_X3_become w a b).2 0 = a ∧ (s_X3_become w a b).2 1 = iMin b 40 ∧ ∀ j, j < 40 → (s_X3_become w a b).1 0 j = 0 := zbecL a b 40 0 w _ (by decide) (by decide) (fun j hj => absurd hj (by omega))
theorem zshL (x2 x3 : Int32) (hk : k < 4) : ∀ (m i : Nat) (v : xU) (f : Nat), m < f → i + m = 40 → (∀ j, j < i → v.1 10 (40 * k + j) = 0) →
    (s_X6_sheet_L68 f v (nI k) x2 x3 (nI i)).1 = 1 ∧ (∀ j, j < 40 → (s_X6_sheet_L68 f v (nI k) x2 x3 (nI i)).2.1 10 (40 * k + j) = 0) ∧ ∀ q, (q < 40 * k ∨ 40 * k + 40 ≤ q) → (s_X6_sheet_L68 f v (nI k) x2 x3 (nI i)).2.1 10 q = v.1 10 q := by
  intro m
  induction m with
  | zero =>
    intro i v f hf hi hz
    obtain ⟨f, rfl⟩ : ∃ z, f = z + 1 := ⟨f - 1, by omega⟩
    rw [s_X6_sheet_L68, if_pos (show (40 : Int32) ≤ nI i from nI_le (a := 40) (by omega) (by omega))]
    exact ⟨rfl, fun j hj => hz j (by omega), fun _ _ => rfl⟩
  | succ m ih =>
    intro i v f hf hi hz
    obtain ⟨f, rfl⟩ : ∃ z, f = z + 1 := ⟨f - 1, by omega⟩
    rw [s_X6_sheet_L68, if_neg (show ¬ (40 : Int32) ≤ nI i from nI_ge (b := 40) (by omega) (by omega)), nI_1, show (40 : Int32) * nI k = nI (40 * k) from pk_mul 40 k, nI_add, nI_clamp (by omega)]
    obtain ⟨a1, a2, a3⟩ := ih (i + 1) (uA v 10 (40 * k + i) 0) f (by omega) (by omega) (fun j hj => by
      show upd (v.1 10) (40 * k + i) 0 (40 * k + j) = 0
      by_cases e : j = i
      · rw [e, pk_us]
      · rw [pk_un (by omega)]
        exact hz j (by omega))
    refine ⟨a1, a2, fun q hq => (a3 q hq).trans ?_⟩
    show upd (v.1 10) (40 * k + i) 0 q = _
    rw [pk_un (by omega)]
theorem zsheet_to {u v : xU} {n k : Nat} (h : zR u v n) (hk : k < 4) {a b x2 x3 : Int32} (ha : a = -1 ∨ a = 0 ∨ a = 1) (hb : 0 ≤ b.toInt ∧ b.toInt ≤ 40) :
    (s_X6_sheet_L68 (((40 : Int32).toInt - (0 : Int32).toInt).toNat + 1) (uA (uA v 8 k a) 9 k b) (nI k) x2 x3 0).1 = 1 ∧ zR (uP u k (s_X3_become (uS u k) a b)) (s_X6_sheet_L68 (((40 : Int32).toInt - (0 : Int32).toInt).toNat + 1) (uA (uA v 8 k a) 9 k b) (nI k) x2 x3 0).2 n := by
  obtain ⟨a1, a2, a3⟩ := zshL x2 x3 hk 40 0 (uA (uA v 8 k a) 9 k b) (((40 : Int32).toInt - (0 : Int32).toInt).toNat + 1) (by decide) (by decide) (fun j hj => absurd hj (by omega))
  obtain ⟨b1, b2, b3⟩ := zbec (uS u k) a b
  obtain ⟨k1, k2⟩ := xsh_L (((40 : Int32).toInt - (0 : Int32).toInt).toNat + 1) (uA (uA v 8 k a) 9 k b) (nI k) x2 x3 0
  rw [show nI 0 = (0 : Int32) from rfl] at a1 a2 a3
  have e0 : (uP u k (s_X3_become (uS u k) a b)).2 (4 + k) = a := by
    rw [uP_s]; exact b1
  have e1 : (uP u k (s_X3_become (uS u k) a b)).2 (8 + k) = b := by
    rw [uP_z, b2]
    unfold iMin
    rw [if_neg (by rw [fa_lt, show (40 : Int32).toInt = 40 from rfl]; omega)]
  have e2 : ∀ i, i < 40 → (uP u k (s_X3_become (uS u k) a b)).1 (21 + k) i = 0 := fun i hi => by
    rw [uP_r]; exact b3 i hi
  refine ⟨a1, h.shto hk (fun r hr => ?_) (fun j h4 h8 => ?_) (fun r h8 h9 h10 h11 => ?_) ?_ (fun j hj hjk => ⟨?_, ?_, fun i hi => ?_⟩) ⟨?_, ?_, ?_, ?_, fun i hi => ?_⟩⟩
  · simp only [uP]; rw [if_neg hr]
  · simp only [uP]; rw [if_neg h4, if_neg h8]
  · rw [k2 r h10]; simp only [uA]; rw [if_neg h9, if_neg h8]
  · rw [k1]; rfl
  · rw [k2 8 (by decide)]
    show upd (v.1 8) k a j = _
    rw [pk_un hjk]
  · rw [k2 9 (by decide)]
    show upd (v.1 9) k b j = _
    rw [pk_un hjk]
  · rw [a3 (40 * j + i) (by omega)]
    rfl
  · rw [k2 8 (by decide), e0]
    show upd (v.1 8) k a k = _
    rw [pk_us]
  · rw [k2 9 (by decide), e1]
    show upd (v.1 9) k b k = _
    rw [pk_us]
  · rw [e1]; exact hb
  · rw [e0]; exact ha
  · rw [a2 i hi, e2 i hi]
theorem e_sheet (h : zR u v n) (p1 p2 p3 : Int32) : (s_X5_sheet u p1 p2 p3).1 = (s_X6_sheet v p1 p2 p3).1 ∧ ∃ m, zR (s_X5_sheet u p1 p2 p3).2 (s_X6_sheet v p1 p2 p3).2 m := by
  rcases zd_sheet u p1 p2 p3 with ⟨k, hk, rfl, e⟩ | ⟨e1, e⟩
  · rw [e]
    unfold zB_sheet s_X6_sheet
    rw [zisS_k v hk, if_neg (show ¬ (1 : Int32) = 0 by decide), zinl v p2 (-1) 1 (-1) 1 rfl rfl, zcl hk]
    by_cases a : s_X5_within p2 (-1) 1 = 0
    · rw [if_pos a, if_pos a]
      exact ⟨rfl, _, h⟩
    · rw [if_neg a, if_neg a]
      have hw := xwithin a
      rw [show (-1 : Int32).toInt = -1 from rfl, show (1 : Int32).toInt = 1 from rfl] at hw
      by_cases b : p2 = -1
      · subst b
        rw [if_pos rfl, if_pos (show (-1 : Int32) < 0 by decide), if_pos (show (-1 : Int32) < 0 by decide), if_neg (show ¬ (0 : Int32) ≤ -1 by decide)]
        obtain ⟨x1, x2⟩ := zsheet_to h hk (a := -1) (b := 0) (x2 := -1) (x3 := p3) (Or.inl rfl) (by decide)
        exact ⟨x1.symm, _, x2⟩
      · have c : p2 = 0 ∨ p2 = 1 := by
          rw [fa_eq, show (-1 : Int32).toInt = -1 from rfl] at b
          rw [fa_eq, fa_eq, show (0 : Int32).toInt = 0 from rfl, show (1 : Int32).toInt = 1 from rfl]
          omega
        have c0 : ¬ p2 < 0 := by rcases c with rfl | rfl <;> decide
        have c1 : 0 ≤ p2 := by rcases c with rfl | rfl <;> decide
        rw [if_neg b, if_neg c0, if_neg c0, if_pos c1]
        by_cases d : p3 ≤ 40
        · rw [if_pos d, if_pos d]
          by_cases g : 0 ≤ p3
          · rw [if_pos g, if_pos g]
            rw [fa_le, show (40 : Int32).toInt = 40 from rfl] at d
            rw [fa_le, show (0 : Int32).toInt = 0 from rfl] at g
            obtain ⟨x1, x2⟩ := zsheet_to h hk (a := p2) (b := p3) (x2 := p2) (x3 := p3) (Or.inr c) ⟨g, d⟩
            exact ⟨x1.symm, _, x2⟩
          · rw [if_neg g, if_neg g]
            exact ⟨rfl, _, h⟩
        · rw [if_neg d, if_neg d]
          exact ⟨rfl, _, h⟩
  · rw [e]
    unfold s_X6_sheet
    rw [zisS, if_pos e1]
    exact ⟨rfl, _, h⟩
theorem zsz {x : Int32} {i : Int32} (hs : 0 ≤ x.toInt ∧ x.toInt ≤ 40) (h : ¬ s_X5_within i 0 (x - 1) = 0) : ∃ j, j < 40 ∧ i = nI j ∧ (j : Int) < x.toInt := by
  obtain ⟨h1, h2⟩ := xwithin h
  rw [show (0 : Int32).toInt = 0 from rfl] at h1
  rw [fb_subI (by rw [show (1 : Int32).toInt = 1 from rfl]; omega) (by rw [show (1 : Int32).toInt = 1 from rfl]; omega), show (1 : Int32).toInt = 1 from rfl] at h2
  obtain ⟨j, hj, rfl⟩ := nI_of_toInt h1
  rw [nI_toInt hj] at h2
  exact ⟨j, by omega, rfl, by omega⟩
theorem e_put (h : zR u v n) (p1 p2 p3 : Int32) : (s_X5_put u p1 p2 p3).1 = (s_X6_put v p1 p2 p3).1 ∧ ∃ m, zR (s_X5_put u p1 p2 p3).2 (s_X6_put v p1 p2 p3).2 m := by
  rcases zd_put u p1 p2 p3 with ⟨k, hk, rfl, e⟩ | ⟨e1, e⟩
  · rw [e]
    unfold zB_put s_X6_put
    rw [zisS_k v hk, if_neg (show ¬ (1 : Int32) = 0 by decide)]
    obtain ⟨b1, b2, b3, b4, b5⟩ := h.sh hk
    rcases zmiss h hk with ⟨a1, a2, a3, a4⟩ | ⟨a1, a2, a3, a4⟩
    · rw [a1, if_neg (by decide), if_neg a3]
      exact ⟨rfl, _, h⟩
    · rw [a1, if_pos rfl, if_pos a3, zcl hk, b1, b2, zinl v p2 0 (u.2 (8 + k) - 1) 0 _ rfl rfl]
      by_cases c : s_X5_within p2 0 (u.2 (8 + k) - 1) = 0
      · rw [if_pos c, if_pos c]
        exact ⟨rfl, _, h⟩
      · rw [if_neg c, if_neg c]
        obtain ⟨j, hj, rfl, hjs⟩ := zsz b3 c
        refine ⟨rfl, n, ?_⟩
        rw [show (40 : Int32) * nI k = nI (40 * k) from pk_mul 40 k, nI_add, nI_clamp (by omega)]
        have ew : s_X3_write (uS u k) (nI j) p3 = uR (uS u k) 0 (upd (u.1 (21 + k)) j (if (u.2 (4 + k)) = 0 then p3.toInt16.toInt32 else p3)) := by
          unfold s_X3_write
          rw [if_neg (show ¬ (uS u k).2 1 ≤ nI j by show ¬ u.2 (8 + k) ≤ nI j; rw [fa_le, nI_toInt (by omega)]; omega), s_X5_mark_in (by decide) hj, s_X5_mark_in (by decide) hj]
          show (if u.2 (4 + k) = 0 then _ else _) = _
          split
          · rfl
          · rfl
        rw [ew]
        refine h.shto hk (fun r hr => ?_) (fun i h4 h8 => ?_) (fun r h8 h9 h10 h11 => ?_) rfl (fun i hi hik => ⟨rfl, rfl, fun q hq => ?_⟩) ⟨?_, ?_, ?_, ?_, fun i hi => ?_⟩
        · simp only [uP]; rw [if_neg hr]
        · simp only [uP]; rw [if_neg h4, if_neg h8]
        · simp only [uA]; rw [if_neg h10]
        · show upd (v.1 10) (40 * k + j) _ (40 * i + q) = _
          rw [pk_un (by omega)]
        · rw [uP_s]; exact b1
        · rw [uP_z]; exact b2
        · rw [uP_z]; exact b3
        · rw [uP_s]; exact b4
        · rw [uP_r]
          show upd (v.1 10) (40 * k + j) _ (40 * k + i) = upd (u.1 (21 + k)) j _ i
          by_cases e2 : i = j
          · rw [e2, pk_us, pk_us]
          · rw [pk_un (by omega), pk_un e2]
            exact b5 i hi
  · rw [e]
    unfold s_X6_put
    rw [zisS, if_pos e1]
    exact ⟨rfl, _, h⟩
/-! ### a copy -/
theorem zcp111 {k i l j N : Nat} (hk : k < 4) (hl : l < 4) (hi : i + N ≤ 40) (hj : j + N ≤ 40) : ∀ (m q : Nat) (v : xU) (f : Nat), m < f → q + m = N → ∃ w, s_X6_copy_L111 f v (nI k) (nI i) (nI l) (nI j) (nI N) (nI q) = s_X6_copy_L148 (((nI N).toInt - (0 : Int32).toInt).toNat + 1) w (nI k) (nI i) (nI l) (nI j) (nI N) 0 ∧
    w.2 = v.2 ∧ (∀ r, r ≠ 11 → w.1 r = v.1 r) ∧ (∀ c, c < q → w.1 11 c = v.1 11 c) ∧ ∀ c, q ≤ c → c < N → w.1 11 c = v.1 10 (40 * k + i + c) := by
  intro m
  induction m with
  | zero =>
    intro q v f hf hq
    obtain ⟨f, rfl⟩ : ∃ z, f = z + 1 := ⟨f - 1, by omega⟩
    refine ⟨v, ?_, rfl, fun _ _ => rfl, fun _ _ => rfl, fun c h1 h2 => absurd h2 (by omega)⟩
    rw [s_X6_copy_L111, if_pos (nI_le (by omega) (by omega))]
  | succ m ih =>
    intro q v f hf hq
    obtain ⟨f, rfl⟩ : ∃ z, f = z + 1 := ⟨f - 1, by omega⟩
    obtain ⟨w, w0, w1, w2, w3, w4⟩ := ih (q + 1) (uA v 11 q (v.1 10 (40 * k + i + q))) f (by omega) (by omega)
    refine ⟨w, ?_, w1, fun r hr => (w2 r hr).trans (by simp only [uA]; rw [if_neg hr]), fun c hc => (w3 c (by omega)).trans ?_, fun c h1 h2 => ?_⟩
    · rw [s_X6_copy_L111, if_neg (nI_ge (by omega) (by omega)), nI_1, show (40 : Int32) * nI k = nI (40 * k) from pk_mul 40 k, nI_add, nI_add, nI_clamp (by omega), nI_clamp (show 40 * k + i + q < 2 ^ 31 by omega)]
      exact w0
    · show upd (v.1 11) q _ c = _
      rw [pk_un (by omega)]
    · by_cases e : c = q
      · subst e
        refine (w3 c (by omega)).trans ?_
        show upd (v.1 11) c _ c = _
        rw [pk_us]
      · exact w4 c (by omega) h2
theorem zcp148 {k i l j N : Nat} (hl : l < 4) (hj : j + N ≤ 40) : ∀ (m q : Nat) (v : xU) (f : Nat), m < f → q + m = N →
    (s_X6_copy_L148 f v (nI k) (nI i) (nI l) (nI j) (nI N) (nI q)).1 = nI N ∧ (s_X6_copy_L148 f v (nI k) (nI i) (nI l) (nI j) (nI N) (nI q)).2.2 = v.2 ∧ (∀ r, r ≠ 10 → (s_X6_copy_L148 f v (nI k) (nI i) (nI l) (nI j) (nI N) (nI q)).2.1 r = v.1 r) ∧
    ∀ c, (s_X6_copy_L148 f v (nI k) (nI i) (nI l) (nI j) (nI N) (nI q)).2.1 10 c = if 40 * l + j + q ≤ c ∧ c < 40 * l + j + N then v.1 11 (c - (40 * l + j)) else v.1 10 c := by
  intro m
  induction m with
  | zero =>
    intro q v f hf hq
    obtain ⟨f, rfl⟩ : ∃ z, f = z + 1 := ⟨f - 1, by omega⟩
    rw [s_X6_copy_L148, if_pos (nI_le (by omega) (by omega))]
    exact ⟨rfl, rfl, fun _ _ => rfl, fun c => by rw [if_neg (by omega)]⟩
  | succ m ih =>
    intro q v f hf hq
    obtain ⟨f, rfl⟩ : ∃ z, f = z + 1 := ⟨f - 1, by omega⟩
    rw [s_X6_copy_L148, if_neg (nI_ge (by omega) (by omega)), nI_1, show (40 : Int32) * nI l = nI (40 * l) from pk_mul 40 l, nI_add, nI_add, nI_clamp (show 40 * l + j + q < 2 ^ 31 by omega), nI_clamp (show q < 2 ^ 31 by omega)]
    obtain ⟨a1, a2, a3, a4⟩ := ih (q + 1) (uA v 10 (40 * l + j + q) (v.1 11 q)) f (by omega) (by omega)
    refine ⟨a1, a2, fun r hr => (a3 r hr).trans (by simp only [uA]; rw [if_neg hr]), fun c => (a4 c).trans ?_⟩
    show (if 40 * l + j + (q + 1) ≤ c ∧ c < 40 * l + j + N then v.1 11 (c - (40 * l + j)) else upd (v.1 10) (40 * l + j + q) (v.1 11 q) c) = _
    by_cases e : c = 40 * l + j + q
    · subst e
      rw [if_neg (by omega), if_pos (by omega), pk_us, show 40 * l + j + q - (40 * l + j) = q by omega]
    · rw [pk_un e]
      by_cases g : 40 * l + j + q ≤ c ∧ c < 40 * l + j + N
      · rw [if_pos (by omega), if_pos g]
      · rw [if_neg (by omega), if_neg g]
theorem zwsub {x s N : Int32} (hs : 0 ≤ s.toInt ∧ s.toInt ≤ 40) (hN : 0 ≤ N.toInt) : s_X5_within x 0 (s - N) = 0 ∨ (0 ≤ x.toInt ∧ x.toInt + N.toInt ≤ s.toInt) := by
  have hr := fb_rng N
  have e : (s - N).toInt = s.toInt - N.toInt := fb_subI (by omega) (by omega)
  by_cases a : s_X5_within x 0 (s - N) = 0
  · exact Or.inl a
  · obtain ⟨h1, h2⟩ := xwithin a
    rw [show (0 : Int32).toInt = 0 from rfl] at h1
    rw [e] at h2
    exact Or.inr ⟨h1, by omega⟩
theorem zadd64 (x y : Int32) : (x.toInt64 + y.toInt64).toInt = x.toInt + y.toInt := by
  have h1 := fb_rng x
  have h2 := fb_rng y
  rw [fb_addL (by rw [Int32.toInt_toInt64, Int32.toInt_toInt64]; omega) (by rw [Int32.toInt_toInt64, Int32.toInt_toInt64]; omega), Int32.toInt_toInt64, Int32.toInt_toInt64]
theorem e_copy (h : zR u v n) (p1 p2 p3 p4 p5 : Int32) : (s_X5_copy u p1 p2 p3 p4 p5).1 = (s_X6_copy v p1 p2 p3 p4 p5).1 ∧ ∃ m, zR (s_X5_copy u p1 p2 p3 p4 p5).2 (s_X6_copy v p1 p2 p3 p4 p5).2 m := by
  rcases zd_copy u p1 p2 p3 p4 p5 with ⟨k, l, hk, hl, rfl, rfl, e⟩ | ⟨e1, e⟩
  · rw [e]
    unfold zB_copy s_X6_copy
    rw [zisS_k v hk, if_neg (show ¬ (1 : Int32) = 0 by decide), zisS_k v hl, if_neg (show ¬ (1 : Int32) = 0 by decide)]
    obtain ⟨b1, b2, b3, b4, b5⟩ := h.sh hk
    obtain ⟨c1, c2, c3, c4, c5⟩ := h.sh hl
    rcases zmiss h hk with ⟨a1, a2, a3, a4⟩ | ⟨a1, a2, a3, a4⟩
    · rw [a1, if_neg (by decide), if_pos a4]
      exact ⟨rfl, _, h⟩
    · rw [a1, if_pos rfl, if_neg a4]
      rcases zmiss h hl with ⟨d1, d2, d3, d4⟩ | ⟨d1, d2, d3, d4⟩
      · rw [d1, if_neg (by decide), if_neg d3]
        exact ⟨rfl, _, h⟩
      · rw [d1, if_pos rfl, if_pos d3, zcl hk, zcl hl, b1, b2, c1, c2]
        by_cases g : u.2 (4 + k) = u.2 (4 + l)
        · rw [if_pos g, if_pos g]
          by_cases n0 : p5 < 0
          · rw [if_pos n0, if_pos n0]
            exact ⟨rfl, _, h⟩
          · rw [if_neg n0, if_neg n0]
            rw [fa_lt, show (0 : Int32).toInt = 0 from rfl] at n0
            by_cases W : 0 ≤ p2.toInt ∧ p2.toInt + p5.toInt ≤ (u.2 (8 + k)).toInt ∧ 0 ≤ p4.toInt ∧ p4.toInt + p5.toInt ≤ (u.2 (8 + l)).toInt
            · obtain ⟨W1, W2, W3, W4⟩ := W
              obtain ⟨i, hi, rfl⟩ := nI_of_toInt W1
              obtain ⟨j, hj, rfl⟩ := nI_of_toInt W3
              obtain ⟨N, hN, rfl⟩ := nI_of_toInt (x := p5) (by omega)
              rw [nI_toInt hN] at n0
              have V2 := W2
              have V4 := W4
              rw [nI_toInt hi, nI_toInt hN] at V2
              rw [nI_toInt hj, nI_toInt hN] at V4
              have i1 : s_X5_within (nI i) 0 (u.2 (8 + k) - nI N) = 1 := zwin (show (0 : Int) ≤ _ from W1) (by rw [fb_subI (by rw [nI_toInt hN]; omega) (by rw [nI_toInt hN]; omega)]; omega)
              have i2 : s_X5_within (nI j) 0 (u.2 (8 + l) - nI N) = 1 := zwin (show (0 : Int) ≤ _ from W3) (by rw [fb_subI (by rw [nI_toInt hN]; omega) (by rw [nI_toInt hN]; omega)]; omega)
              rw [i1, if_neg (by decide), i2, if_neg (by decide), if_neg (nI_pos hi), if_neg (nI_pos hj), if_neg (by rw [lg_cmp_gt, fa_lt64, zadd64, Int32.toInt_toInt64]; omega), if_pos (by rw [lg_cmp_le, fa_le64, zadd64, Int32.toInt_toInt64]; omega)]
              obtain ⟨w, w0, w1, w2, w3, w4⟩ := zcp111 hk hl (i := i) (j := j) (N := N) (by omega) (by omega) N 0 v (((nI N).toInt - (0 : Int32).toInt).toNat + 1) (by rw [nI_toInt hN, show (0 : Int32).toInt = 0 from rfl]; omega) (by omega)
              rw [show nI 0 = (0 : Int32) from rfl] at w0
              obtain ⟨x1, x2, x3, x4⟩ := zcp148 (k := k) (i := i) hl (j := j) (N := N) (by omega) N 0 w (((nI N).toInt - (0 : Int32).toInt).toNat + 1) (by rw [nI_toInt hN, show (0 : Int32).toInt = 0 from rfl]; omega) (by omega)
              rw [show nI 0 = (0 : Int32) from rfl, ← w0] at x1 x2 x3 x4
              refine ⟨x1.symm, n, h.shto hl (fun r hr => ?_) (fun _ _ _ => rfl) (fun r h8 h9 h10 h11 => ?_) (x2.trans w1) (fun r hr hrl => ⟨?_, ?_, fun q hq => ?_⟩) ⟨?_, ?_, c3, c4, fun q hq => ?_⟩⟩
              · simp only [uR]; rw [if_neg hr]
              · rw [x3 r h10, w2 r h11]
              · rw [x3 8 (by decide), w2 8 (by decide)]
              · rw [x3 9 (by decide), w2 9 (by decide)]
              · rw [x4, if_neg (by omega), w2 10 (by decide)]
              · rw [x3 8 (by decide), w2 8 (by decide)]; exact c1
              · rw [x3 9 (by decide), w2 9 (by decide)]; exact c2
              · rw [x4, uR_r, nI_clamp hi, nI_clamp hj, nI_clamp hN]
                by_cases y : j ≤ q ∧ q < j + N
                · rw [if_pos (by omega), w4 _ (by omega) (by omega), pk_cpy_in y.1 y.2, show 40 * k + i + (40 * l + q - (40 * l + j)) = 40 * k + (i + (q - j)) by omega]
                  exact b5 _ (by omega)
                · rw [if_neg (by omega), w2 10 (by decide), pk_cpy_out (by omega)]
                  exact c5 q hq
            · have L5 : (if (s_X5_within p2 0 ((u.2 (8 + k)) - p5)) = 0 then ((-12 : Int32), u) else if (s_X5_within p4 0 ((u.2 (8 + l)) - p5)) = 0 then ((-12), u) else (p5, uR u (21 + l) (va_cpy (u.1 (21 + k)) (u.1 (21 + l)) p2.toNatClampNeg p4.toNatClampNeg p5.toNatClampNeg))) = (-12, u) := by
                by_cases y1 : s_X5_within p2 0 (u.2 (8 + k) - p5) = 0
                · rw [if_pos y1]
                · rw [if_neg y1]
                  by_cases y2 : s_X5_within p4 0 (u.2 (8 + l) - p5) = 0
                  · rw [if_pos y2]
                  · have q1 := (zwsub (x := p2) b3 (N := p5) (by omega)).resolve_left y1
                    have q2 := (zwsub (x := p4) c3 (N := p5) (by omega)).resolve_left y2
                    exact absurd ⟨q1.1, q1.2, q2.1, q2.2⟩ W
              rw [L5]
              by_cases y1 : p2 < 0
              · rw [if_pos y1]; exact ⟨rfl, _, h⟩
              · rw [if_neg y1]
                by_cases y2 : p4 < 0
                · rw [if_pos y2]; exact ⟨rfl, _, h⟩
                · rw [if_neg y2]
                  by_cases y3 : 0 < lg_cmp (p2.toInt64 + p5.toInt64) ((u.2 (8 + k)).toInt64)
                  · rw [if_pos y3]; exact ⟨rfl, _, h⟩
                  · rw [if_neg y3]
                    by_cases y4 : lg_cmp (p4.toInt64 + p5.toInt64) ((u.2 (8 + l)).toInt64) ≤ 0
                    · rw [lg_cmp_gt, fa_lt64, zadd64, Int32.toInt_toInt64] at y3
                      rw [lg_cmp_le, fa_le64, zadd64, Int32.toInt_toInt64] at y4
                      rw [fa_lt, show (0 : Int32).toInt = 0 from rfl] at y1 y2
                      exact absurd ⟨by omega, by omega, by omega, y4⟩ W
                    · rw [if_neg y4]; exact ⟨rfl, _, h⟩
        · rw [if_neg g, if_neg g]
          exact ⟨rfl, _, h⟩
  · rw [e]
    unfold s_X6_copy
    rw [zisS, zisS]
    rcases e1 with e1 | e1
    · rw [if_pos e1]
      exact ⟨rfl, _, h⟩
    · rw [if_pos e1]
      split
      · exact ⟨rfl, _, h⟩
      · exact ⟨rfl, _, h⟩
/-! ### bytes that come -/
theorem zapp (h : zR u v n) {x : Int32} (hx0 : 0 ≤ x.toInt) (h60 : (u.2 12).toInt < 60) : zR (s_X4_append u x) (uZ (uA v 14 (v.2 4).toNatClampNeg x) 4 ((v.2 4) + 1)) n := by
  obtain ⟨⟨hr, z0, hkk, hs, ⟨t1, t2, t3, t4⟩, zm, h13, hc⟩, hl⟩ := h
  obtain ⟨j, hj, ej⟩ := nI_of_toInt t2.1
  have j60 : j < 60 := by rw [ej, nI_toInt hj] at h60; omega
  unfold s_X4_append
  rw [t1, ej, nI_clamp hj, s_X5_mark_in (by decide) j60]
  refine ⟨⟨hr, z0, hkk, ?_, ⟨?_, ?_, fun i hi => ?_, fun i hi => ?_⟩, zm, h13, hc⟩, hl⟩
  · intro k hk
    have h4 : k = 0 ∨ k = 1 ∨ k = 2 ∨ k = 3 := by omega
    rcases h4 with rfl | rfl | rfl | rfl
    · exact hs 0 (by decide)
    · exact hs 1 (by decide)
    · exact hs 2 (by decide)
    · exact hs 3 (by decide)
  · show nI j + 1 = u.2 12 + 1
    rw [ej]
  · show 0 ≤ (u.2 12 + 1).toInt ∧ (u.2 12 + 1).toInt ≤ 60
    rw [ej, nI_1, nI_toInt (by omega)]
    omega
  · show upd (v.1 14) j x i = upd (u.1 26) j x i
    by_cases e : i = j
    · rw [e, pk_us, pk_us]
    · rw [pk_un e, pk_un e]
      exact t3 i hi
  · show 0 ≤ (upd (u.1 26) j x i).toInt
    by_cases e : i = j
    · rw [e, pk_us]
      exact hx0
    · rw [pk_un e]
      exact t4 i hi
theorem zfeedL {N : Nat} (hN : N ≤ 5) {x2 x3 x4 x5 x6 : Int32} (b2 : 0 ≤ x2.toInt) (b3 : 0 ≤ x3.toInt) (b4 : 0 ≤ x4.toInt) (b5 : 0 ≤ x5.toInt) (b6 : 0 ≤ x6.toInt) : ∀ (m k : Nat) (u v : xU) (f1 f2 : Nat), m < f1 → m < f2 → k + m = N → zR u v n → (u.2 12).toInt + m ≤ 60 →
    (s_X5_feed_L70 f1 u (nI N) x2 x3 x4 x5 x6 (nI k)).1 = (s_X6_feed_L95 f2 v (nI N) x2 x3 x4 x5 x6 (nI k)).1 ∧ zR (s_X5_feed_L70 f1 u (nI N) x2 x3 x4 x5 x6 (nI k)).2 (s_X6_feed_L95 f2 v (nI N) x2 x3 x4 x5 x6 (nI k)).2 n := by
  intro m
  induction m with
  | zero =>
    intro k u v f1 f2 hf1 hf2 hk h hm
    obtain ⟨f1, rfl⟩ : ∃ z, f1 = z + 1 := ⟨f1 - 1, by omega⟩
    obtain ⟨f2, rfl⟩ : ∃ z, f2 = z + 1 := ⟨f2 - 1, by omega⟩
    rw [s_X5_feed_L70, s_X6_feed_L95, if_pos (nI_le (by omega) (by omega)), if_pos (nI_le (by omega) (by omega))]
    exact ⟨h.1.2.2.2.2.1.1.symm, h⟩
  | succ m ih =>
    intro k u v f1 f2 hf1 hf2 hk h hm
    obtain ⟨f1, rfl⟩ : ∃ z, f1 = z + 1 := ⟨f1 - 1, by omega⟩
    obtain ⟨f2, rfl⟩ : ∃ z, f2 = z + 1 := ⟨f2 - 1, by omega⟩
    have t0 := h.1.2.2.2.2.1.2.1.1
    have g : ∀ x : Int32, 0 ≤ x.toInt → (s_X5_feed_L70 f1 (s_X4_append u x) (nI N) x2 x3 x4 x5 x6 (nI (k + 1))).1 = (s_X6_feed_L95 f2 (uZ (uA v 14 (v.2 4).toNatClampNeg x) 4 ((v.2 4) + 1)) (nI N) x2 x3 x4 x5 x6 (nI (k + 1))).1 ∧ zR (s_X5_feed_L70 f1 (s_X4_append u x) (nI N) x2 x3 x4 x5 x6 (nI (k + 1))).2 (s_X6_feed_L95 f2 (uZ (uA v 14 (v.2 4).toNatClampNeg x) 4 ((v.2 4) + 1)) (nI N) x2 x3 x4 x5 x6 (nI (k + 1))).2 n := by
      intro x hx
      refine ih (k + 1) (s_X4_append u x) _ f1 f2 (by omega) (by omega) (by omega) (zapp h hx (by omega)) ?_
      show (u.2 12 + 1).toInt + m ≤ 60
      rw [fb_addI (by rw [show (1 : Int32).toInt = 1 from rfl]; omega) (by rw [show (1 : Int32).toInt = 1 from rfl]; omega), show (1 : Int32).toInt = 1 from rfl]
      omega
    rw [s_X5_feed_L70, s_X6_feed_L95, if_neg (nI_ge (by omega) (by omega)), if_neg (nI_ge (by omega) (by omega)), nI_1]
    by_cases a0 : nI k = 0
    · rw [if_pos a0, if_pos a0]; exact g _ b2
    · rw [if_neg a0, if_neg a0]
      by_cases a1 : nI k = 1
      · rw [if_pos a1, if_pos a1]; exact g _ b3
      · rw [if_neg a1, if_neg a1]
        by_cases a2 : nI k = 2
        · rw [if_pos a2, if_pos a2]; exact g _ b4
        · rw [if_neg a2, if_neg a2]
          by_cases a3 : nI k = 3
          · rw [if_pos a3, if_pos a3]; exact g _ b5
          · rw [if_neg a3, if_neg a3]; exact g _ b6
theorem e_feed (h : zR u v n) (p1 p2 p3 p4 p5 p6 : Int32) : (s_X5_feed u p1 p2 p3 p4 p5 p6).1 = (s_X6_feed v p1 p2 p3 p4 p5 p6).1 ∧ ∃ m, zR (s_X5_feed u p1 p2 p3 p4 p5 p6).2 (s_X6_feed v p1 p2 p3 p4 p5 p6).2 m := by
  have eT : v.2 4 = u.2 12 := h.1.2.2.2.2.1.1
  have t0 := h.1.2.2.2.2.1.2.1
  unfold s_X5_feed s_X6_feed s_X5_isByte
  rw [zinl v p1 1 5 1 5 rfl rfl, zinl v p2 0 255 0 255 rfl rfl, zinl v p3 0 255 0 255 rfl rfl, zinl v p4 0 255 0 255 rfl rfl, zinl v p5 0 255 0 255 rfl rfl, zinl v p6 0 255 0 255 rfl rfl, eT]
  by_cases a : s_X5_within p1 1 5 = 0
  · rw [if_pos a, if_pos a]; exact ⟨rfl, _, h⟩
  · rw [if_neg a, if_neg a]
    obtain ⟨N, h1, hN, rfl⟩ := zwn1 (S := 5) (by decide) a
    by_cases a2 : s_X5_within p2 0 255 = 0
    · rw [if_pos a2, if_pos a2]; exact ⟨rfl, _, h⟩
    · rw [if_neg a2, if_neg a2]
      by_cases a3 : s_X5_within p3 0 255 = 0
      · rw [if_pos a3, if_pos a3]; exact ⟨rfl, _, h⟩
      · rw [if_neg a3, if_neg a3]
        by_cases a4 : s_X5_within p4 0 255 = 0
        · rw [if_pos a4, if_pos a4]; exact ⟨rfl, _, h⟩
        · rw [if_neg a4, if_neg a4]
          by_cases a5 : s_X5_within p5 0 255 = 0
          · rw [if_pos a5, if_pos a5]; exact ⟨rfl, _, h⟩
          · rw [if_neg a5, if_neg a5]
            by_cases a6 : s_X5_within p6 0 255 = 0
            · rw [if_pos a6, if_pos a6]; exact ⟨rfl, _, h⟩
            · rw [if_neg a6, if_neg a6]
              by_cases a7 : u.2 12 + nI N ≤ 60
              · rw [if_pos a7, if_pos a7]
                rw [fa_le, fb_addI (by rw [nI_toInt (by omega)]; omega) (by rw [nI_toInt (by omega)]; omega), nI_toInt (by omega), show (60 : Int32).toInt = 60 from rfl] at a7
                obtain ⟨x1, x2⟩ := zfeedL (n := n) hN (xwithin a2).1 (xwithin a3).1 (xwithin a4).1 (xwithin a5).1 (xwithin a6).1 N 0 u v (((nI N).toInt - (0 : Int32).toInt).toNat + 1) (((nI N).toInt - (0 : Int32).toInt).toNat + 1) (by rw [nI_toInt (by omega), show (0 : Int32).toInt = 0 from rfl]; omega) (by rw [nI_toInt (by omega), show (0 : Int32).toInt = 0 from rfl]; omega) (by omega) h a7
                exact ⟨x1, n, x2⟩
              · rw [if_neg a7, if_neg a7]; exact ⟨rfl, _, h⟩
/-! ### pieces out of a sheet -/
theorem zpk2 (u : xU) (a b c d : Int32) : (∀ k, 3 < k → (s_X5_piece u a b c d).2.2 k = u.2 k) ∧ ∀ r, (r < 2 ∨ 13 < r) → (s_X5_piece u a b c d).2.1 r = u.1 r := by
  refine ⟨fun k hk => (xK_piece u a b c d).2 k hk, fun r hr => ?_⟩
  unfold s_X5_piece
  split
  · rfl
  · split
    · rfl
    · split
      · rfl
      · split
        · rfl
        · split
          · refine ((xlay _).2 r (by omega)).trans ?_
            rw [s_X2_write_1 _ _ _ _ (by omega), s_X2_write_1 _ _ _ _ (by omega), s_X2_write_1 _ _ _ _ (by omega), s_X2_write_1 _ _ _ _ (by omega)]
            rfl
          · rfl
theorem zld1 {u : xU} {k i : Nat} (hi : i < 40) (h : (i : Int) < (u.2 (8 + k)).toInt) : s_X3_read (uS u k) (nI i) = u.1 (21 + k) i := by
  unfold s_X3_read
  rw [if_neg (show ¬ (uS u k).2 1 ≤ nI i by show ¬ u.2 (8 + k) ≤ nI i; rw [fa_le, nI_toInt (by omega)]; omega), s_X5_cell_in (by decide) hi]
  rfl
theorem zpc_w (v : xU) (a b c d : Int32) : (s_X6_piece v a b c d).2.1 9 = v.1 9 := (xpc_k v a b c d).2 9 (by decide)
theorem zloadL (hk : k < 4) {N : Nat} (hN : N ≤ 10) (x2 x3 : Int32) : ∀ (m q : Nat) (x : Int32) (u v : xU) (n : Nat) (f1 f2 : Nat), m < f1 → m < f2 → q + m = N → zR u v n →
    (zLoadL k f1 u (nI k) x2 x3 (nI N) x (nI q)).1 = (s_X6_load_L64 f2 v (nI k) x2 x3 (nI N) x (nI q)).1 ∧ ∃ z, zR (zLoadL k f1 u (nI k) x2 x3 (nI N) x (nI q)).2 (s_X6_load_L64 f2 v (nI k) x2 x3 (nI N) x (nI q)).2 z := by
  intro m
  induction m with
  | zero =>
    intro q x u v n f1 f2 hf1 hf2 hq h
    obtain ⟨f1, rfl⟩ : ∃ z, f1 = z + 1 := ⟨f1 - 1, by omega⟩
    obtain ⟨f2, rfl⟩ : ∃ z, f2 = z + 1 := ⟨f2 - 1, by omega⟩
    rw [zLoadL, s_X6_load_L64, if_pos (nI_le (by omega) (by omega)), if_pos (nI_le (by omega) (by omega))]
    exact ⟨rfl, n, h⟩
  | succ m ih =>
    intro q x u v n f1 f2 hf1 hf2 hq h
    obtain ⟨f1, rfl⟩ : ∃ z, f1 = z + 1 := ⟨f1 - 1, by omega⟩
    obtain ⟨f2, rfl⟩ : ∃ z, f2 = z + 1 := ⟨f2 - 1, by omega⟩
    obtain ⟨b1, b2, b3, b4, b5⟩ := h.sh hk
    rw [zLoadL, s_X6_load_L64, if_neg (nI_ge (by omega) (by omega)), if_neg (nI_ge (by omega) (by omega)), zcl hk, b2, nI_1]
    by_cases c1 : lg_cmp (x3.toInt64 + (4 * (nI q).toInt64)) 0 < 0
    · rw [if_pos c1, if_pos c1]; exact ⟨rfl, n, h⟩
    · rw [if_neg c1, if_neg c1]
      by_cases c2 : lg_cmp ((x3.toInt64 + (4 * (nI q).toInt64)) + 4) ((u.2 (8 + k)).toInt64) ≤ 0
      · rw [if_pos c2, if_pos c2]
        have e0 := (lg_cmp_le _ _).mp c2
        rw [lg_cmp_lt, fa_lt64, xldw, show (0 : Int64).toInt = 0 from rfl] at c1
        have hx3 := fb_rng x3
        have hnq : (nI q).toInt = q := nI_toInt (by omega)
        rw [fa_le64, fb_addL (by rw [xldw, hnq, show (4 : Int64).toInt = 4 from rfl]; omega) (by rw [xldw, hnq, show (4 : Int64).toInt = 4 from rfl]; omega), xldw, hnq, Int32.toInt_toInt64, show (4 : Int64).toInt = 4 from rfl] at e0
        rw [hnq] at c1
        obtain ⟨i, hi⟩ : ∃ i : Nat, x3.toInt + 4 * (q : Int) = i := ⟨(x3.toInt + 4 * (q : Int)).toNat, by omega⟩
        have ei : (x3.toInt64 + (4 * (nI q).toInt64)).toInt32 = nI i := by
          rw [fa_eq, Int64.toInt_toInt32, xldw, hnq, hi, nI_toInt (by omega), fb_bmod (by omega) (by omega)]
        rw [ei]
        have w0 := zld1 (u := u) (k := k) (i := i) (by omega) (by omega)
        have w1 := zld1 (u := u) (k := k) (i := i + 1) (by omega) (by omega)
        have w2 := zld1 (u := u) (k := k) (i := i + 2) (by omega) (by omega)
        have w3 := zld1 (u := u) (k := k) (i := i + 3) (by omega) (by omega)
        have a1 : nI i + 1 = nI (i + 1) := nI_1 i
        have a2 : nI i + 2 = nI (i + 2) := nI_add i 2
        have a3 : nI i + 3 = nI (i + 3) := nI_add i 3
        have j0 : ((40 * nI k) + nI i).toNatClampNeg = 40 * k + i := by rw [show (40 : Int32) * nI k = nI (40 * k) from pk_mul 40 k, nI_add, nI_clamp (by omega)]
        have j1 : (((40 * nI k) + nI i) + 1).toNatClampNeg = 40 * k + (i + 1) := by rw [show (40 : Int32) * nI k = nI (40 * k) from pk_mul 40 k, nI_add, nI_1, nI_clamp (by omega)]; omega
        have j2 : (((40 * nI k) + nI i) + 2).toNatClampNeg = 40 * k + (i + 2) := by rw [show (40 : Int32) * nI k = nI (40 * k) from pk_mul 40 k, nI_add, show nI (40 * k + i) + 2 = nI (40 * k + i + 2) from nI_add (40 * k + i) 2, nI_clamp (by omega)]; omega
        have j3 : (((40 * nI k) + nI i) + 3).toNatClampNeg = 40 * k + (i + 3) := by rw [show (40 : Int32) * nI k = nI (40 * k) from pk_mul 40 k, nI_add, show nI (40 * k + i) + 3 = nI (40 * k + i + 3) from nI_add (40 * k + i) 3, nI_clamp (by omega)]; omega
        rw [a1, a2, a3, w0, w1, w2, w3, j0, j1, j2, j3, b5 i (by omega), b5 (i + 1) (by omega), b5 (i + 2) (by omega), b5 (i + 3) (by omega)]
        obtain ⟨g1, z, g2⟩ := e_piece h (u.1 (21 + k) i) (u.1 (21 + k) (i + 1)) (u.1 (21 + k) (i + 2)) (u.1 (21 + k) (i + 3))
        rw [g1]
        unfold s_X6_bit
        by_cases d : (s_X6_piece v (u.1 (21 + k) i) (u.1 (21 + k) (i + 1)) (u.1 (21 + k) (i + 2)) (u.1 (21 + k) (i + 3))).1 < 0
        · rw [if_pos d, if_pos d, if_pos rfl, Int32.add_zero]
          exact ih (q + 1) x _ _ z f1 f2 (by omega) (by omega) (by omega) g2
        · rw [if_neg d, if_neg d, if_neg (show ¬ (1 : Int32) = 0 by decide)]
          exact ih (q + 1) _ _ _ z f1 f2 (by omega) (by omega) (by omega) g2
      · rw [if_neg c2, if_neg c2]; exact ⟨rfl, n, h⟩
theorem e_load (h : zR u v n) (p1 p2 p3 p4 : Int32) : (s_X5_load u p1 p2 p3 p4).1 = (s_X6_load v p1 p2 p3 p4).1 ∧ ∃ m, zR (s_X5_load u p1 p2 p3 p4).2 (s_X6_load v p1 p2 p3 p4).2 m := by
  rcases zd_load u p1 p2 p3 p4 with ⟨k, hk, rfl, e⟩ | ⟨e1, e⟩
  · rw [e]
    unfold zB_load s_X6_load
    rw [zisS_k v hk, if_neg (show ¬ (1 : Int32) = 0 by decide), zinl v p2 0 1 0 1 rfl rfl, zinl v p4 0 10 0 10 rfl rfl]
    obtain ⟨b1, b2, b3, b4, b5⟩ := h.sh hk
    by_cases a : s_X5_within p2 0 1 = 0
    · rw [if_pos a, if_pos a]; exact ⟨rfl, _, h⟩
    · rw [if_neg a, if_neg a]
      by_cases b : s_X5_within p4 0 10 = 0
      · rw [if_pos b, if_pos b]; exact ⟨rfl, _, h⟩
      · rw [if_neg b, if_neg b]
        obtain ⟨N, hN, rfl⟩ := zwn (S := 10) (by decide) b
        rcases zmiss h hk with ⟨a1, a2, a3, a4⟩ | ⟨a1, a2, a3, a4⟩
        · rw [a1, if_neg (by decide), if_neg a3]; exact ⟨rfl, _, h⟩
        · rw [a1, if_pos rfl, if_pos a3, zcl hk, b1]
          by_cases c : u.2 (4 + k) = p2
          · rw [if_pos c, if_pos c]
            exact zloadL hk hN p2 p3 N 0 0 u v n (((nI N).toInt - (0 : Int32).toInt).toNat + 1) (((nI N).toInt - (0 : Int32).toInt).toNat + 1) (by rw [nI_toInt (by omega), show (0 : Int32).toInt = 0 from rfl]; omega) (by rw [nI_toInt (by omega), show (0 : Int32).toInt = 0 from rfl]; omega) (by omega) h
          · rw [if_neg c, if_neg c]; exact ⟨rfl, _, h⟩
  · rw [e]
    unfold s_X6_load
    rw [zisS, if_pos e1]
    exact ⟨rfl, _, h⟩
end ZH
