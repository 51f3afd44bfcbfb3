/-! ===== slew, slews, by: both sides answer alike ===== -/
def zcp (x : Int32) : Int32 := iMax (-999) (iMin 999 x)
theorem zcp_i (x : Int32) : (zcp x).toInt = if x.toInt < 999 then (if -999 < x.toInt then x.toInt else -999) else 999 := by
  have e1 : (-999 : Int32).toInt = -999 := rfl
  have e2 : (999 : Int32).toInt = 999 := rfl
  unfold zcp iMax iMin
  by_cases a : x.toInt < 999
  · rw [if_pos (show x < 999 by rw [fa_lt, e2]; exact a), if_pos a]
    by_cases b : -999 < x.toInt
    · rw [if_pos (show (-999 : Int32) < x by rw [fa_lt, e1]; exact b), if_pos b]
    · rw [if_neg (show ¬ (-999 : Int32) < x by rw [fa_lt, e1]; exact b), if_neg b, e1]
  · rw [if_neg (show ¬ x < 999 by rw [fa_lt, e2]; exact a), if_neg a, if_pos (show (-999 : Int32) < 999 by decide), e2]
theorem zcp_b (x : Int32) : -1000 ≤ (zcp x).toInt ∧ (zcp x).toInt ≤ 1000 := by
  rw [zcp_i]
  split
  · split <;> omega
  · omega
theorem zcp_m (x : Int32) : (if (-999) ≤ x then if x ≤ 999 then x else 999 else (-999 : Int32)) = zcp x := by
  have e1 : (-999 : Int32).toInt = -999 := rfl
  have e2 : (999 : Int32).toInt = 999 := rfl
  rw [fa_eq, zcp_i]
  by_cases b : -999 ≤ x.toInt
  · rw [if_pos (show (-999 : Int32) ≤ x by rw [fa_le, e1]; exact b)]
    by_cases a : x.toInt ≤ 999
    · rw [if_pos (show x ≤ 999 by rw [fa_le, e2]; exact a)]
      split
      · split <;> omega
      · omega
    · rw [if_neg (show ¬ x ≤ 999 by rw [fa_le, e2]; exact a), if_neg (by omega), e2]
  · rw [if_neg (show ¬ (-999 : Int32) ≤ x by rw [fa_le, e1]; exact b), if_pos (by omega), if_neg (by omega), e1]
theorem zuS {u u' : xU} {k : Nat} (h1 : u'.1 (21 + k) = u.1 (21 + k)) (h2 : u'.2 = u.2) : uS u' k = uS u k := by
  unfold uS
  rw [h1, h2]
section ZO
variable {u v w : xU} {n p S k : Nat}
theorem ztlL (k : Nat) : ∀ (m i f : Nat) (u : xU), m < f → i + m = 200 →
    ∃ w, s_X1_tell_L2 k f u (nI (i + 1)) = s_X1_sum w ∧ w.2 = u.2 ∧ (∀ r, r ≠ 15 → w.1 r = u.1 r) ∧ (∀ s, i ≤ s → s < 200 → w.1 15 (s + 1) = zcp (s_X3_read (uS u k) (nI s))) ∧ ∀ s, s ≤ i → w.1 15 s = u.1 15 s := by
  intro m
  induction m with
  | zero =>
    intro i f u hf hi
    obtain ⟨f, rfl⟩ : ∃ z, f = z + 1 := ⟨f - 1, by omega⟩
    rw [s_X1_tell_L2, if_pos (show (201 : Int32) ≤ nI (i + 1) from nI_le (a := 201) (by omega) (by omega))]
    exact ⟨u, rfl, rfl, fun _ _ => rfl, fun s a b => absurd b (by omega), fun _ _ => rfl⟩
  | succ m ih =>
    intro i f u hf hi
    obtain ⟨f, rfl⟩ : ∃ z, f = z + 1 := ⟨f - 1, by omega⟩
    rw [s_X1_tell_L2, if_neg (show ¬ (201 : Int32) ≤ nI (i + 1) from nI_ge (b := 201) (by omega) (by omega)), nI_pred, s_X5_mark_in (by decide) (by omega), nI_1]
    obtain ⟨w, w1, w2, w3, a1, a2⟩ := ih (i + 1) f (uR u 15 (upd (u.1 15) (i + 1) (iMax (-999) (iMin 999 (s_X3_read (uS u k) (nI i)))))) (by omega) (by omega)
    have hu : uS (uR u 15 (upd (u.1 15) (i + 1) (iMax (-999) (iMin 999 (s_X3_read (uS u k) (nI i)))))) k = uS u k := zuS (by simp only [uR]; rw [if_neg (by omega)]) rfl
    refine ⟨w, w1, w2.trans rfl, fun r hr => (w3 r hr).trans (by simp only [uR]; rw [if_neg hr]), fun s h1 h2 => ?_, fun s hs => (a2 s (by omega)).trans ?_⟩
    · by_cases e : s = i
      · subst e
        refine (a2 (s + 1) (Nat.le_refl _)).trans ?_
        show upd (u.1 15) (s + 1) _ (s + 1) = _
        rw [pk_us]
        rfl
      · rw [a1 s (by omega) h2, hu]
    · show upd (u.1 15) (i + 1) _ s = _
      rw [pk_un (by omega)]
theorem ztw (k : Nat) (u : xU) : ∃ w, s_X1_tell k u = s_X1_sum w ∧ w.2 = u.2 ∧ (∀ r, r ≠ 15 → w.1 r = u.1 r) ∧ ∀ s, s < 200 → w.1 15 (s + 1) = zcp (s_X3_read (uS u k) (nI s)) := by
  obtain ⟨w, w1, w2, w3, a1, -⟩ := ztlL k 200 0 (((201 : Int32).toInt - (1 : Int32).toInt).toNat + 1) u (by rw [show (201 : Int32).toInt = 201 from rfl, show (1 : Int32).toInt = 1 from rfl]; omega) (by omega)
  rw [show nI (0 + 1) = (1 : Int32) from rfl] at w1
  exact ⟨w, w1, w2, w3, fun s hs => a1 s (Nat.zero_le _) hs⟩
theorem ztl (k : Nat) (u : xU) : ∀ s, s < 200 → (s_X1_tell k u).1 15 (s + 1) = zcp (s_X3_read (uS u k) (nI s)) := by
  intro s hs
  obtain ⟨w, w1, w2, w3, a1⟩ := ztw k u
  rw [w1, (xsum w).2 15 (by decide)]
  exact a1 s hs
theorem zslt (k : Nat) (hS : S ≤ 200) (h3 : u.2 3 = nI S) (h0 : u.1 29 0 = 0) : zSl (s_X1_tell k u) S ∧ (s_X1_tell k u).1 29 0 = 0 := by
  obtain ⟨w, w1, w2, w3, a1⟩ := ztw k u
  rw [w1]
  exact zsl hS (by rw [w2]; exact h3) (by rw [w3 29 (by decide)]; exact h0)
theorem zrd (h : zRs u v) (hk : k < 4) {s : Nat} (hs : s < 200) : (if v.1 9 k < nI (s + 1) then 0 else v.1 10 (40 * k + s)) = s_X3_read (uS u k) (nI s) := by
  obtain ⟨b1, b2, b3, b4, b5⟩ := h k hk
  unfold s_X3_read
  have e : (uS u k).2 1 = u.2 (8 + k) := rfl
  rw [b2, e]
  by_cases a : u.2 (8 + k) ≤ nI s
  · rw [if_pos a, if_pos (by rw [fa_lt, nI_toInt (by omega)]; rw [fa_le, nI_toInt (by omega)] at a; omega)]
  · rw [fa_le, nI_toInt (by omega)] at a
    rw [if_neg (show ¬ u.2 (8 + k) < nI (s + 1) by rw [fa_lt, nI_toInt (by omega)]; omega), if_neg (show ¬ u.2 (8 + k) ≤ nI s by rw [fa_le, nI_toInt (by omega)]; exact a), s_X5_cell_in (by decide) (by omega)]
    exact b5 s (by omega)
theorem zloL (u : xU) (hk : k < 4) (hS : S ≤ 200) : ∀ (m s f : Nat) (w : xU), m < f → s + m = S → zRs u w → w.2 1 = nI S →
    (s_X6_laysOld_L2 f w (nI k) (nI (s + 1))).2 = w.2 ∧ (∀ r, r ≠ 12 → (s_X6_laysOld_L2 f w (nI k) (nI (s + 1))).1 r = w.1 r) ∧ (∀ i, i ≤ s → (s_X6_laysOld_L2 f w (nI k) (nI (s + 1))).1 12 i = w.1 12 i) ∧ ∀ i, s ≤ i → i < S → (s_X6_laysOld_L2 f w (nI k) (nI (s + 1))).1 12 (i + 1) = zcp (s_X3_read (uS u k) (nI i)) := by
  intro m
  induction m with
  | zero =>
    intro s f w hf hs hR h1
    obtain ⟨f, rfl⟩ : ∃ z, f = z + 1 := ⟨f - 1, by omega⟩
    rw [s_X6_laysOld_L2, h1, if_pos (nI_lt (by omega) (by omega))]
    exact ⟨rfl, fun _ _ => rfl, fun _ _ => rfl, fun i a b => absurd b (by omega)⟩
  | succ m ih =>
    intro s f w hf hs hR h1
    obtain ⟨f, rfl⟩ : ∃ z, f = z + 1 := ⟨f - 1, by omega⟩
    have ei : (((40 * nI k) + nI (s + 1)) - 1).toNatClampNeg = 40 * k + s := by
      rw [show (40 : Int32) * nI k = nI (40 * k) from pk_mul 40 k, nI_add, ← Nat.add_assoc, nI_pred, nI_clamp (by omega)]
    rw [s_X6_laysOld_L2, h1, if_neg (nI_nlt (by omega) (by omega)), ei, zcl hk, zrd hR hk (by omega), zcp_m, nI_clamp (show s + 1 < 2 ^ 31 by omega), nI_1]
    obtain ⟨a1, a2, a3, a4⟩ := ih (s + 1) f (uA w 12 (s + 1) (zcp (s_X3_read (uS u k) (nI s)))) (by omega) (by omega) hR h1
    refine ⟨a1, fun r hr => (a2 r hr).trans (by simp only [uA]; rw [if_neg hr]), fun i hi => (a3 i (by omega)).trans ?_, fun i i1 i2 => ?_⟩
    · show upd (w.1 12) (s + 1) _ i = _
      rw [pk_un (by omega)]
    · by_cases e : i = s
      · subst e
        refine (a3 (i + 1) (Nat.le_refl _)).trans ?_
        show upd (w.1 12) (i + 1) _ (i + 1) = _
        rw [pk_us]
      · exact a4 i (by omega) i2
theorem zlo (hR : zRs u w) (hk : k < 4) (hS : S ≤ 200) (h1 : w.2 1 = nI S) : (s_X6_laysOld w (nI k)).2 = w.2 ∧ (∀ r, r ≠ 12 → (s_X6_laysOld w (nI k)).1 r = w.1 r) ∧ ∀ i, i < S → (s_X6_laysOld w (nI k)).1 12 (i + 1) = zcp (s_X3_read (uS u k) (nI i)) := by
  obtain ⟨a1, a2, a3, a4⟩ := zloL u hk hS S 0 (((w.2 1).toInt + 1 - (1 : Int32).toInt).toNat + 1) w (by rw [h1, nI_toInt (by omega), show (1 : Int32).toInt = 1 from rfl]; omega) (by omega) hR h1
  exact ⟨a1, a2, fun i hi => a4 i (Nat.zero_le _) hi⟩
/-- an old line is told on the class's side -/
def zTo (u : xU) (k S : Nat) : Prop := ∀ i, i < S → u.1 15 (i + 1) = zcp (s_X3_read (uS u k) (nI i))
theorem zobc {o v1 v2 : Nat → Int32} (h : ∀ i, 1 ≤ i → i ≤ S → v1 i = v2 i) : ∀ i, i ≤ S → zDd o v1 i = zDd o v2 i ∧ zDe o v1 i = zDe o v2 i
  | 0, _ => ⟨rfl, rfl⟩
  | i + 1, hi => by
    obtain ⟨a, b⟩ := zobc h i (by omega)
    have c : zDd o v1 (i + 1) = zDd o v2 (i + 1) := by
      rw [zDd, zDd, a, h (i + 1) (by omega) hi]
    exact ⟨c, by rw [zDe, zDe, b, c]⟩
/-- class and reference hold one row of slews -/
theorem zone (q : zQw u w S) (hv : ∀ s, s ≤ S → -300 ≤ (u.1 10 s).toInt ∧ (u.1 10 s).toInt ≤ 300) (ho : ∀ i, 1 ≤ i → i ≤ S → -1000 ≤ (u.1 15 i).toInt ∧ (u.1 15 i).toInt ≤ 1000) {w1 : xU} (h2 : w1.2 = w.2) (h1 : ∀ r, r ≠ 12 → w1.1 r = w.1 r) (h12 : ∀ i, 1 ≤ i → i ≤ S → w1.1 12 i = u.1 15 i) (h13 : w.1 13 0 = 0) :
    zOb (u.1 15) (u.1 10) S ∧ u.2 3 = nI S ∧ (s_X6_slews w1).2 1 = nI S ∧ (s_X6_slews w1).2 = w.2 ∧ (∀ r, r ≠ 12 → r ≠ 13 → (s_X6_slews w1).1 r = w.1 r) ∧ (s_X6_slews w1).1 13 0 = 0 ∧ ∀ i, i ≤ S → (s_X6_slews w1).1 13 i = zDe (u.1 15) (u.1 10) i := by
  obtain ⟨q1, q2, q3, q4, q5⟩ := q
  obtain ⟨a1, a2, a3⟩ := zslews (w := w1) (u.1 15) q1 (by rw [h2]; exact q3) (by rw [h1 3 (by decide), h1 6 (by decide), h1 7 (by decide)]; exact q5) h12 (by rw [h1 13 (by decide)]; exact h13)
  have e : ∀ i, i ≤ S → (s_X6_slews w1).1 13 i = zDe (u.1 15) (u.1 10) i := fun i hi => by
    rw [a3 i hi, h1 3 (by decide)]
    exact (zobc (S := S) (fun j j1 j2 => (q4 j j2).1) i hi).2
  exact ⟨⟨q1, ho, fun s s1 s2 => hv s s2⟩, q2, by rw [a1, h2]; exact q3, a1.trans h2, fun r r12 r13 => (a2 r r13).trans (h1 r r12), e 0 (Nat.zero_le _), e⟩
theorem zR.vo {v' : xU} (h : zR u v n) (h1 : ∀ r, r ≠ 12 → r ≠ 13 → v'.1 r = v.1 r) (h2 : v'.2 = v.2) (h13 : v'.1 13 0 = 0) : zR u v' n := by
  obtain ⟨⟨hr, z0, hk, hs, ht, zm, -, hc⟩, hl⟩ := h
  refine ⟨⟨?_, z0, ?_, ?_, ?_, ?_, h13, ?_⟩, hl⟩
  · rw [h1 1 (by decide) (by decide)]; exact hr
  · unfold zRk at hk ⊢
    rw [h2, h1 2 (by decide) (by decide)]; exact hk
  · unfold zRs at hs ⊢
    rw [h1 8 (by decide) (by decide), h1 9 (by decide) (by decide), h1 10 (by decide) (by decide)]; exact hs
  · unfold zRt at ht ⊢
    rw [h2, h1 14 (by decide) (by decide)]; exact ht
  · unfold z0M
    rw [h1 3 (by decide) (by decide), h1 4 (by decide) (by decide), h1 6 (by decide) (by decide), h1 7 (by decide) (by decide)]; exact zm
  · show XCv (v'.1 15) (v'.1 16) (v'.1 17)
    rw [h1 15 (by decide) (by decide), h1 16 (by decide) (by decide), h1 17 (by decide) (by decide)]; exact hc
theorem zR0.vo {v' : xU} (h : zR0 u v n) (h1 : ∀ r, r ≠ 12 → r ≠ 13 → v'.1 r = v.1 r) (h2 : v'.2 = v.2) (h13 : v'.1 13 0 = 0) : zR0 u v' n := by
  obtain ⟨hr, z0, hk, hs, ht, zm, -, hc⟩ := h
  refine ⟨?_, z0, ?_, ?_, ?_, ?_, h13, ?_⟩
  · rw [h1 1 (by decide) (by decide)]; exact hr
  · unfold zRk at hk ⊢
    rw [h2, h1 2 (by decide) (by decide)]; exact hk
  · unfold zRs at hs ⊢
    rw [h1 8 (by decide) (by decide), h1 9 (by decide) (by decide), h1 10 (by decide) (by decide)]; exact hs
  · unfold zRt at ht ⊢
    rw [h2, h1 14 (by decide) (by decide)]; exact ht
  · unfold z0M
    rw [h1 3 (by decide) (by decide), h1 4 (by decide) (by decide), h1 6 (by decide) (by decide), h1 7 (by decide) (by decide)]; exact zm
  · show XCv (v'.1 15) (v'.1 16) (v'.1 17)
    rw [h1 15 (by decide) (by decide), h1 16 (by decide) (by decide), h1 17 (by decide) (by decide)]; exact hc
/-- the class's old line changes -/
theorem zR0.uo {u' : xU} (h : zR0 u v n) (h1 : ∀ r, (r ≠ 15 ∧ r ≠ 29) → u'.1 r = u.1 r) (h2 : u'.2 = u.2) (h29 : u'.1 29 0 = 0) : zR0 u' v n := by
  obtain ⟨hr, z0, hk, hs, ht, zm, h13, hc⟩ := h
  refine ⟨?_, ?_, ?_, ?_, ?_, zm, h13, hc⟩
  · rw [h1 2 (by decide), h1 5 (by decide), h2]; exact hr
  · unfold z0X
    rw [h1 10 (by decide), h1 11 (by decide), h1 12 (by decide), h1 13 (by decide)]; exact ⟨z0.1, z0.2.1, z0.2.2.1, z0.2.2.2.1, h29⟩
  · unfold zRk at hk ⊢
    rw [h2, h1 4 (by decide), h1 6 (by decide)]; exact hk
  · intro k hk4
    rw [h2, h1 (21 + k) (by omega)]; exact hs k hk4
  · unfold zRt at ht ⊢
    rw [h2, h1 26 (by decide)]; exact ht
theorem zR.uo {u' : xU} (h : zR u v n) (h1 : ∀ r, (r ≠ 15 ∧ r ≠ 29) → u'.1 r = u.1 r) (h2 : u'.2 = u.2) (h29 : u'.1 29 0 = 0) : zR u' v n := by
  refine ⟨h.1.uo h1 h2 h29, ?_⟩
  have hl := h.2
  unfold zLX at hl ⊢
  rw [h1 2 (by decide), h1 9 (by decide), h1 10 (by decide), h1 11 (by decide), h1 12 (by decide), h1 13 (by decide), h1 8 (by decide), h2]; exact hl
theorem zRw.uo {u' : xU} (h : zRw u v n) (h1 : ∀ r, (r ≠ 15 ∧ r ≠ 29) → u'.1 r = u.1 r) (h2 : u'.2 = u.2) (h29 : u'.1 29 0 = 0) : zRw u' v n := by
  obtain ⟨h0, hl, h3⟩ := h
  refine ⟨h0.uo h1 h2 h29, ?_, ?_⟩
  · unfold zLP at hl ⊢
    rw [h1 2 (by decide), h1 8 (by decide), h1 9 (by decide), h1 10 (by decide), h1 11 (by decide), h2]; exact hl
  · rw [h1 2 (by decide), h2]; exact h3
theorem zR.n29 (h : zR u v n) : u.1 29 0 = 0 := h.1.2.1.2.2.2.2
theorem zR.slt (h : zR u v n) (k : Nat) : zSl (s_X1_tell k u) (zpS (u.1 2) n) ∧ (s_X1_tell k u).1 29 0 = 0 := zslt k (zpS_200 h.g) h.2.1.1 h.n29
theorem zR.tell (h : zR u v n) (k : Nat) : zR (s_X1_tell k u) v n := h.uo (xtell k u).2 (xtell k u).1 (h.slt k).2
theorem ztellTo (k : Nat) (hS : S ≤ 200) (hk : k < 4) : zTo (s_X1_tell k u) k S := fun i hi => by
  rw [ztl k u i (by omega), zuS (u := u) ((xtell k u).2 _ (by omega)) (xtell k u).1]
theorem zTo.b (h : zTo u k S) : ∀ i, 1 ≤ i → i ≤ S → -1000 ≤ (u.1 15 i).toInt ∧ (u.1 15 i).toInt ≤ 1000 := fun i i1 i2 => by
  obtain ⟨j, rfl⟩ : ∃ j, i = j + 1 := ⟨i - 1, by omega⟩
  rw [h j (by omega)]
  exact zcp_b _
/-- what both hold once an old line is told and the line is laid -/
theorem zheld (h : zRw u v n) (hT : zTo u k (zpS (u.1 2) n)) (hk : k < 4) :
    zOb (u.1 15) (u.1 10) (zpS (u.1 2) n) ∧ u.2 3 = nI (zpS (u.1 2) n) ∧ (s_X6_slews (s_X6_laysOld (s_X6_lays v) (nI k))).2 1 = nI (zpS (u.1 2) n) ∧ (∀ i, i ≤ zpS (u.1 2) n → (s_X6_slews (s_X6_laysOld (s_X6_lays v) (nI k))).1 13 i = zDe (u.1 15) (u.1 10) i) ∧
    (∀ r, r ≠ 12 → r ≠ 13 → (s_X6_slews (s_X6_laysOld (s_X6_lays v) (nI k))).1 r = (s_X6_lays v).1 r) ∧ (s_X6_slews (s_X6_laysOld (s_X6_lays v) (nI k))).2 = (s_X6_lays v).2 ∧ (s_X6_slews (s_X6_laysOld (s_X6_lays v) (nI k))).1 13 0 = 0 := by
  obtain ⟨h', q⟩ := zRw_lays h
  have hS := q.1
  obtain ⟨a1, a2, a3⟩ := zlo (u := u) h'.1.2.2.2.1 hk hS q.2.2.1
  obtain ⟨b1, b2, b3, b4, b5, b6, b7⟩ := zone q (fun s hs => zrow h hs) hT.b a1 a2 (fun i i1 i2 => by
    obtain ⟨j, rfl⟩ : ∃ j, i = j + 1 := ⟨i - 1, by omega⟩
    rw [a3 j (by omega), hT j (by omega)]) h'.1.2.2.2.2.2.2.1
  exact ⟨b1, b2, b3, b7, b5, b4, b6⟩
theorem e_slew (h : zR u v n) (p1 p2 : Int32) : (s_X5_slew u p1 p2).1 = (s_X6_slew v p1 p2).1 ∧ ∃ m, zR (s_X5_slew u p1 p2).2 (s_X6_slew v p1 p2).2 m := by
  obtain ⟨h', q⟩ := zR_lays h
  have h200 := q.1
  unfold s_X6_slew
  rw [zst0 q p2, zisS]
  rcases zd_slew u p1 p2 with ⟨k, hk, rfl, e⟩ | ⟨e1, e⟩
  · rw [e]
    unfold zB_slew
    have ek := zisS_k (s_X6_lays v) hk
    rw [zisS] at ek
    rw [ek, if_neg (show ¬ (1 : Int32) = 0 by decide)]
    rcases zmiss h' hk with ⟨a1, a2, a3, a4⟩ | ⟨a1, a2, a3, a4⟩
    · rw [a1, if_neg (show ¬ (1 : Int32) = 0 by decide), if_neg a3]
      split
      · exact ⟨rfl, n, h'⟩
      · exact ⟨rfl, n, h'⟩
    · rw [a1, if_pos rfl, if_pos a3]
      by_cases c : s_X5_within p2 0 (u.2 3) = 0
      · rw [if_pos c, if_pos c]
        exact ⟨rfl, n, h'⟩
      · rw [if_neg c, if_neg c]
        rw [q.2.1] at c
        obtain ⟨s, hs, rfl⟩ := zwn (by omega) c
        have ht := h.tell k
        have e2 := (xtell k u).2 2 (by decide)
        obtain ⟨b1, b2, b3, b4, b5, b6, b7⟩ := zheld ht.wk (ztellTo k (by rw [e2]; exact h200) hk) hk
        rw [e2] at b1 b2 b3 b4
        rw [zslewAt h200 (h.slt k).1 hs, nI_clamp (by omega), b4 s hs]
        dsimp only
        exact ⟨rfl, n, (h'.tell k).vo b5 b6 b7⟩
  · rw [e, if_pos e1]
    split
    · exact ⟨rfl, n, h'⟩
    · exact ⟨rfl, n, h'⟩
theorem e_slews (h : zR u v n) (p1 p2 : Int32) : (s_X5_slews u p1 p2).1 = (s_X6_slews_ v p1 p2).1 ∧ ∃ m, zR (s_X5_slews u p1 p2).2 (s_X6_slews_ v p1 p2).2 m := by
  obtain ⟨h', q⟩ := zR_lays h
  have h200 := q.1
  unfold s_X6_slews_
  rcases zd_slews u p1 p2 with ⟨k, hk, rfl, e⟩ | ⟨e1, e⟩
  · rw [e]
    unfold zB_slews
    rw [zisS_k v hk, if_neg (show ¬ (1 : Int32) = 0 by decide), zinl v p2 0 2 0 2 rfl rfl]
    have ht := h.tell k
    rcases zmiss h hk with ⟨a1, a2, a3, a4⟩ | ⟨a1, a2, a3, a4⟩
    · rw [a1, if_neg (show ¬ (1 : Int32) = 0 by decide), if_pos a4]
      exact ⟨rfl, n, h⟩
    · rw [a1, if_pos rfl, if_neg a4]
      by_cases c : s_X5_within p2 0 2 = 0
      · rw [if_pos c, if_neg (fun e => by rw [e] at c; exact absurd c (by decide)), if_neg (fun e => by rw [e] at c; exact absurd c (by decide)), if_neg (fun e => by rw [e] at c; exact absurd c (by decide))]
        dsimp only
        exact ⟨rfl, n, ht⟩
      · rw [if_neg c]
        obtain ⟨j, hj, rfl⟩ := zwn (S := 2) (x := p2) (by decide) c
        have e2 := (xtell k u).2 2 (by decide)
        obtain ⟨b1, b2, b3, b4, b5, b6, b7⟩ := zheld ht.wk (ztellTo k (by rw [e2]; exact h200) hk) hk
        rw [e2] at b1 b2 b3 b4
        have g := zm50 _ h200 b3 b4 (nI k) (nI j) (zpS (u.1 2) n) 0 ((((s_X6_slews (s_X6_laysOld (s_X6_lays v) (nI k))).2 1).toInt + 1 - (1 : Int32).toInt).toNat + 1) (by rw [b3, nI_toInt (by omega), show (1 : Int32).toInt = 1 from rfl]; omega) (by omega)
        rw [show nI (0 + 1) = (1 : Int32) from rfl, show zSm (zDe ((s_X1_tell k u).1 15) ((s_X1_tell k u).1 10)) 0 = (0 : Int64) from rfl] at g
        rw [g]
        have hz := (h'.tell k).vo b5 b6 b7
        have h3 : j = 0 ∨ j = 1 ∨ j = 2 := by omega
        rcases h3 with rfl | rfl | rfl
        · rw [if_pos (show nI 0 = 0 from rfl), if_pos (show nI 0 = 0 from rfl), zwidest b1 (h.slt k).1 b2]
          dsimp only
          exact ⟨rfl, n, hz⟩
        · rw [if_neg (show ¬ nI 1 = 0 by decide), if_pos (show nI 1 = 1 from rfl), if_neg (show ¬ nI 1 = 0 by decide), if_pos (show nI 1 = 1 from rfl), ztogether h200 (h.slt k).1 b2]
          dsimp only
          exact ⟨rfl, n, hz⟩
        · rw [if_neg (show ¬ nI 2 = 0 by decide), if_neg (show ¬ nI 2 = 1 by decide), if_pos (show nI 2 = 2 from rfl), if_neg (show ¬ nI 2 = 0 by decide), if_neg (show ¬ nI 2 = 1 by decide), b2, zslewAt h200 (h.slt k).1 (Nat.le_refl _)]
          dsimp only
          exact ⟨rfl, n, hz⟩
  · rw [e, zisS, if_pos e1]
    exact ⟨rfl, n, h⟩
/-! ### the bend that slews least -/
def zbb (b : Nat) : Int32 := nI b - 99
theorem zbb_i {b : Nat} (hb : b < 1000) : (zbb b).toInt = (b : Int) - 99 := pk_sub_toInt (b := 99) (by omega) (by decide)
theorem zbb_s (b : Nat) : zbb b + 1 = zbb (b + 1) := by
  unfold zbb
  have h := zr4 (nI b) 1 99 0
  rw [Int32.add_zero] at h
  rw [← nI_1 b, h]
  rfl
theorem zRw.vo {v' : xU} (h : zRw u v n) (h1 : ∀ r, r ≠ 12 → r ≠ 13 → v'.1 r = v.1 r) (h2 : v'.2 = v.2) (h13 : v'.1 13 0 = 0) : zRw u v' n := ⟨h.1.vo h1 h2 h13, h.2.1, h.2.2⟩
theorem zbyS (h : zRw u v n) (hk : k < 4) (hp : p < n) {x : Int32} (hx : okf 2 x) (hT : zTo u k (zpS (u.1 2) n)) :
    zRw (s_X1_sum (s_X0_attempt u (nI p) 2 x)) (s_X6_slews (s_X6_laysOld (s_X6_lays (uA v 1 (4 * p + 2) x)) (nI k))) n ∧
    s_X1_greatest (s_X1_sum (s_X0_attempt u (nI p) 2 x)) = s_X6_most (s_X6_slews (s_X6_laysOld (s_X6_lays (uA v 1 (4 * p + 2) x)) (nI k))) ∧
    zTo (s_X1_sum (s_X0_attempt u (nI p) 2 x)) k (zpS (u.1 2) n) ∧ (s_X1_sum (s_X0_attempt u (nI p) 2 x)).1 2 = upd (u.1 2) (4 * p + 2) x ∧ (s_X1_sum (s_X0_attempt u (nI p) 2 x)).1 12 = u.1 12 ∧ (s_X1_sum (s_X0_attempt u (nI p) 2 x)).1 13 = u.1 13 := by
  obtain ⟨a1, a2, a3, a4⟩ := h.tri (j := 2) hp (by decide) (by decide) hx
  change zRw (s_X0_attempt u (nI p) 2 x) _ n at a1
  change (s_X0_attempt u (nI p) 2 x).2 = _ at a2
  change (s_X0_attempt u (nI p) 2 x).1 2 = _ at a3
  change ∀ k, k ≠ 2 → k ≠ 9 → k ≠ 10 → k ≠ 11 → (s_X0_attempt u (nI p) 2 x).1 k = _ at a4
  generalize s_X0_attempt u (nI p) 2 x = w at a1 a2 a3 a4
  have eS : zpS (w.1 2) n = zpS (u.1 2) n := by rw [a3, zu_S (by decide) (by decide)]
  have hT' : zTo w k (zpS (u.1 2) n) := fun i hi => by
    rw [a4 15 (by decide) (by decide) (by decide) (by decide), hT i hi, zuS (u := u) (a4 (21 + k) (by omega) (by omega) (by omega) (by omega)) a2]
  have h200 : zpS (w.1 2) n ≤ 200 := zpS_200 a1.1.1.1
  obtain ⟨c1, c2⟩ := zsl h200 a1.2.2 a1.1.2.1.2.2.2.2
  obtain ⟨d2, d1⟩ := xsum w
  have a5 : zRw (s_X1_sum w) (uA v 1 (4 * p + 2) x) n := a1.uo (fun r hr => d1 r hr.2) d2 c2
  have e2 : (s_X1_sum w).1 2 = w.1 2 := d1 2 (by decide)
  have hT2 : zTo (s_X1_sum w) k (zpS (u.1 2) n) := fun i hi => by
    rw [d1 15 (by decide), hT' i hi, zuS (u := w) (d1 (21 + k) (by omega)) d2]
  obtain ⟨l1, l2⟩ := zRw_lays a5
  obtain ⟨b1, b2, b3, b4, b5, b6, b7⟩ := zheld a5 (by rw [e2, eS]; exact hT2) hk
  rw [e2] at b1 b2 b3 b4
  refine ⟨l1.vo b5 b6 b7, ?_, hT2, e2.trans a3, (d1 12 (by decide)).trans (a4 12 (by decide) (by decide) (by decide) (by decide)), (d1 13 (by decide)).trans (a4 13 (by decide) (by decide) (by decide) (by decide))⟩
  rw [zgreatest b1 c1 b2, zmost _ h200 b3 b4]
theorem zbyL {u0 : xU} (hk : k < 4) (hp : p < n) (x1 : Int32) {was : Int32} (hw : u0.1 2 (4 * p + 2) = was) (hwx : okf 2 was) (hl0 : zLP (u0.1 2) n n u0) (ht0 : zT (u0.1 10) (u0.1 12) (u0.1 13) (zpS (u0.1 2) n)) :
    ∀ (m b : Nat) (u v : xU) (x5 y4 y5 x6 : Int32) (f1 f2 : Nat), m < f1 → m < f2 → b + m = 199 → zRw u v n → zTo u k (zpS (u0.1 2) n) → (∃ y, u.1 2 = upd (u0.1 2) (4 * p + 2) y) → u.1 12 = u0.1 12 → u.1 13 = u0.1 13 →
      ((b = 0 ∧ y4 = -1) ∨ (0 < b ∧ y4 = 1000 + x5 ∧ ¬ y4 < 0 ∧ x6 = y5)) →
      (zByL f1 u x1 (nI p) was x5 x6 (zbb b)).1 = (s_X6_by_L47 f2 v (nI k) (nI p) was y4 y5 (zbb b)).1 ∧ zR (zByL f1 u x1 (nI p) was x5 x6 (zbb b)).2 (s_X6_by_L47 f2 v (nI k) (nI p) was y4 y5 (zbb b)).2 n := by
  intro m
  induction m with
  | zero =>
    intro b u v x5 y4 y5 x6 f1 f2 hf1 hf2 hb h hT hy e12 e13 hI
    obtain ⟨f1, rfl⟩ : ∃ z, f1 = z + 1 := ⟨f1 - 1, by omega⟩
    obtain ⟨f2, rfl⟩ : ∃ z, f2 = z + 1 := ⟨f2 - 1, by omega⟩
    have h10 := h.n10
    have g : (99 : Int32) < zbb b := by rw [fa_lt, zbb_i (by omega)]; show (99 : Int) < _; omega
    have ei : ((4 * nI p) + 2).toNatClampNeg = 4 * p + 2 := zplace (j := 2) (by omega) (by decide)
    rw [zByL, s_X6_by_L47, if_pos g, if_pos g, ei]
    obtain ⟨y, hy⟩ := hy
    rcases hI with ⟨i1, i2⟩ | ⟨i1, i2, i3, i4⟩
    · omega
    · refine ⟨i2.symm, ?_⟩
      obtain ⟨a1, a2, a3, a4⟩ := h.tri (j := 2) hp (by decide) (by decide) hwx
      have e2 : (s_X0_attempt u (nI p) 2 was).1 2 = u0.1 2 := by
        refine a3.trans ?_
        rw [hy, fa_upd_twice]
        exact fa_upd_same hw
      exact zRw.back a1 ht0 hl0 e2 ((a4 12 (by decide) (by decide) (by decide) (by decide)).trans e12) ((a4 13 (by decide) (by decide) (by decide) (by decide)).trans e13)
  | succ m ih =>
    intro b u v x5 y4 y5 x6 f1 f2 hf1 hf2 hb h hT hy e12 e13 hI
    obtain ⟨f1, rfl⟩ : ∃ z, f1 = z + 1 := ⟨f1 - 1, by omega⟩
    obtain ⟨f2, rfl⟩ : ∃ z, f2 = z + 1 := ⟨f2 - 1, by omega⟩
    have h10 := h.n10
    have hbi := zbb_i (b := b) (by omega)
    have g : ¬ (99 : Int32) < zbb b := by rw [fa_lt, hbi]; show ¬ (99 : Int) < _; omega
    have ei : ((4 * nI p) + 2).toNatClampNeg = 4 * p + 2 := zplace (j := 2) (by omega) (by decide)
    obtain ⟨y, hy⟩ := hy
    have eS : zpS (u.1 2) n = zpS (u0.1 2) n := by rw [hy, zu_S (by decide) (by decide)]
    obtain ⟨s1, s2, s3, s4, s5, s6⟩ := zbyS (x := zbb b) h hk hp ⟨by omega, by omega⟩ (by rw [eS]; exact hT)
    rw [eS] at s3
    have hy' : ∃ y, (s_X1_sum (s_X0_attempt u (nI p) 2 (zbb b))).1 2 = upd (u0.1 2) (4 * p + 2) y := ⟨zbb b, by rw [s4, hy, fa_upd_twice]⟩
    have next := fun x5 y4 y5 x6 hI => ih (b + 1) _ _ x5 y4 y5 x6 f1 f2 (by omega) (by omega) (by omega) s1 s3 hy' (s5.trans e12) (s6.trans e13) hI
    have pos : ¬ (1000 + zbb b) < 0 := by
      rw [fa_lt, fb_addI (by rw [hbi, show (1000 : Int32).toInt = 1000 from rfl]; omega) (by rw [hbi, show (1000 : Int32).toInt = 1000 from rfl]; omega), hbi, show (1000 : Int32).toInt = 1000 from rfl, show (0 : Int32).toInt = 0 from rfl]
      omega
    rw [zByL, s_X6_by_L47, if_neg g, if_neg g, ei, zbb_s]
    rcases hI with ⟨i1, i2⟩ | ⟨i1, i2, i3, i4⟩
    · subst i1
      rw [if_pos (show zbb 0 = -99 by decide), i2, if_pos (show (-1 : Int32) < 0 by decide)]
      exact next _ _ _ _ (Or.inr ⟨by omega, rfl, pos, s2⟩)
    · have nb : ¬ zbb b = -99 := fun e => by
        have e2 := congrArg Int32.toInt e
        rw [hbi, show (-99 : Int32).toInt = -99 from rfl] at e2
        omega
      rw [if_neg nb, if_neg i3, s2]
      by_cases c : y5 ≤ s_X6_most (s_X6_slews (s_X6_laysOld (s_X6_lays (uA v 1 (4 * p + 2) (zbb b))) (nI k)))
      · rw [if_pos c, if_pos (by rw [i4]; exact c)]
        exact next _ _ _ _ (Or.inr ⟨by omega, i2, i3, i4⟩)
      · rw [if_neg c, if_neg (by rw [i4]; exact c)]
        exact next _ _ _ _ (Or.inr ⟨by omega, rfl, pos, rfl⟩)
theorem e_by (h : zR u v n) (p1 p2 : Int32) : (s_X5_by u p1 p2).1 = (s_X6_by v p1 p2).1 ∧ ∃ m, zR (s_X5_by u p1 p2).2 (s_X6_by v p1 p2).2 m := by
  have h200 := zpS_200 h.g
  unfold s_X6_by
  rcases zd_by u p1 p2 with ⟨k, hk, rfl, e⟩ | ⟨e1, e⟩
  · rw [e]
    unfold zB_by
    rw [zisS_k v hk, if_neg (show ¬ (1 : Int32) = 0 by decide), h.1.1.has p2]
    by_cases a : s_X2_has u p2 = 0
    · rw [if_pos a, if_pos a]
      exact ⟨rfl, n, h⟩
    · rw [if_neg a, if_neg a]
      obtain ⟨p, hp, rfl⟩ := h.1.1.isp a
      rcases zmiss h hk with ⟨a1, a2, a3, a4⟩ | ⟨a1, a2, a3, a4⟩
      · rw [a1, if_neg (show ¬ (1 : Int32) = 0 by decide), if_neg a3]
        exact ⟨rfl, n, h⟩
      · rw [a1, if_pos rfl, if_pos a3]
        have ht := h.tell k
        have e2 := (xtell k u).2 2 (by decide)
        have o2 : s_X6_of0 v (nI p) 2 = s_X2_read (s_X1_tell k u) (nI p) 2 := ht.1.1.of (j := 2) hp (by decide)
        have w2 : s_X2_read (s_X1_tell k u) (nI p) 2 = (s_X1_tell k u).1 2 (4 * p + 2) := s_X2_read_in (j := 2) ht.n10 ht.N hp (by decide)
        rw [o2, w2]
        obtain ⟨x1, x2⟩ := zbyL (u0 := s_X1_tell k u) hk hp (nI k) rfl (ht.g.B hp) ht.lp ht.t 199 0 (s_X1_tell k u) v (-99) (-1) 0 0 (((99 : Int32).toInt + 1 - ((-99) : Int32).toInt).toNat + 1) (((99 : Int32).toInt + 1 - ((-99) : Int32).toInt).toNat + 1) (by decide) (by decide) (by decide) ht.wk (ztellTo k (by rw [e2]; exact h200) hk) ⟨(s_X1_tell k u).1 2 (4 * p + 2), (fa_upd_same rfl).symm⟩ rfl rfl (Or.inl ⟨rfl, rfl⟩)
        exact ⟨x1, n, x2⟩
  · rw [e, zisS, if_pos e1]
    exact ⟨rfl, n, h⟩
end ZO
