/-! ===== what the reference's tokens leave ===== -/
def XWr (u : xU) (r : Int32 × xU) : Prop := r.2 = u ∧ (r.1 = 13 ∨ (0 ≤ r.1.toInt ∧ r.1.toInt < 5 ∧ (u.2 5).toInt - (u.2 6).toInt = (tBeg (r.1.toInt.toNat + 1)).toInt - (tBeg r.1.toInt.toNat).toInt))
theorem xwh75 (K : Int32 → Int32 × xU) {u : xU} {w : Int32} (hK : XWr u (K (w + 1))) : ∀ (n : Nat) (y k : Int32), XWk u w y k → ((u.2 5).toInt - k.toInt).toNat < n → XWr u (s_X6_wordHere_L75 K n u w y k) := by
  intro n
  induction n with
  | zero => intro y k h hn; exact absurd hn (Nat.not_lt_zero _)
  | succ n ih =>
    intro y k h hn
    rw [s_X6_wordHere_L75]
    split
    · split
      · exact hK
      · rename_i q q2
        exact ⟨rfl, Or.inr ⟨h.2.1, h.2.2.1, h.2.2.2.2.1.resolve_left q2⟩⟩
    · rename_i q
      split
      · exact hK
      · rename_i q2
        exact ih _ _ (xwk1 h q q2) (by have := xupc q; omega)
theorem xwh32 : ∀ (n : Nat) (u : xU) (w : Int32), XTw u → ¬ w < 0 → (5 - w.toInt).toNat < n → XWr u (s_X6_wordHere_L32 n u w) := by
  intro n
  induction n with
  | zero => intro u w h h0 hn; exact absurd hn (Nat.not_lt_zero _)
  | succ n ih =>
    intro u w h h0 hn
    rw [s_X6_wordHere_L32]
    split
    · exact ⟨rfl, Or.inl rfl⟩
    · rename_i q
      have h1 := xge0 h0
      have q' := q
      rw [fa_le, show (5 : Int32).toInt = 5 from rfl] at q'
      have e := xinc (k := w) (by omega)
      refine xwh75 _ (ih u (w + 1) h ?_ (by omega)) _ _ _ (xwk0 h h0 q) (Nat.lt_succ_self _)
      rw [fa_lt, e, show (0 : Int32).toInt = 0 from rfl]
      omega
def XWq (u : xU) (r : Int32 × xU) : Prop := r.2.1 = u.1 ∧ (∀ k, k ≠ 5 → r.2.2 k = u.2 k) ∧ XTw r.2 ∧ (u.2 5).toInt ≤ (r.2.2 5).toInt ∧ (r.1 = 13 ∨ (0 ≤ r.1.toInt ∧ r.1.toInt < 5 ∧ (r.2.2 6).toInt + 4 ≤ (r.2.2 5).toInt))
theorem xwh0 : ∀ (n : Nat) (u : xU), XTw u → ((u.2 4).toInt - (u.2 5).toInt).toNat < n → XWq u (s_X6_wordHere_L0 n u) := by
  intro n
  induction n with
  | zero => intro u h hn; exact absurd hn (Nat.not_lt_zero _)
  | succ n ih =>
    intro u h hn
    rw [s_X6_wordHere_L0]
    split
    · obtain ⟨e, r⟩ := xwh32 (((5 : Int32).toInt - (0 : Int32).toInt).toNat + 1) u 0 h (by decide) (by decide)
      unfold XWq
      rw [e]
      refine ⟨rfl, fun _ _ => rfl, h, Int.le_refl _, ?_⟩
      rcases r with r | ⟨r1, r2, r3⟩
      · exact Or.inl r
      · have := tBeg_d _ (show (s_X6_wordHere_L32 (((5 : Int32).toInt - (0 : Int32).toInt).toNat + 1) u 0).1.toInt.toNat < 5 by omega)
        exact Or.inr ⟨r1, r2, by omega⟩
    · rename_i q
      have ha := xhin q (by decide)
      have e := xat1 h.1 ha
      obtain ⟨a1, a2, a3, a4, a5⟩ := ih (uZ u 5 ((u.2 5) + 1)) (xtw1 (u := u) h ha) (by
        show ((u.2 4).toInt - (u.2 5 + 1).toInt).toNat < n
        have := xtd1 h.1 ha
        omega)
      refine ⟨a1, fun k hk => (a2 k hk).trans ?_, a3, ?_, a5⟩
      · simp only [uZ]
        rw [if_neg hk]
      · change (u.2 5 + 1).toInt ≤ _ at a4
        omega
theorem xwhd {u : xU} (h : XTw u) : XWq u (s_X6_wordHere u) := xwh0 _ u h (Nat.lt_succ_self _)
def XNq (u : xU) (r : Int32 × xU) : Prop := r.2.1 = u.1 ∧ (∀ k, k ≠ 5 → k ≠ 8 → r.2.2 k = u.2 k) ∧ XTq r.2 ∧ (u.2 5).toInt ≤ (r.2.2 5).toInt ∧ (r.1 = 13 ∨ r.1 = 10)
theorem xnh40 : ∀ (n : Nat) (u : xU) (x y : Int32), XTq u → ((u.2 4).toInt - (u.2 5).toInt).toNat < n → XNq u (s_X6_numberHere_L40 n u x y) := by
  intro n
  induction n with
  | zero => intro u x y h hn; exact absurd hn (Nat.not_lt_zero _)
  | succ n ih =>
    intro u x y h hn
    rw [s_X6_numberHere_L40]
    split
    · split
      · refine ⟨rfl, fun k _ hk => ?_, h, Int.le_refl _, Or.inl rfl⟩
        simp only [uZ]
        rw [if_neg hk]
      · refine ⟨rfl, fun k _ hk => ?_, h, Int.le_refl _, Or.inr rfl⟩
        simp only [uZ]
        rw [if_neg hk]
    · rename_i q
      have ha := xhin q (by decide)
      have e := xat1 h ha
      obtain ⟨a1, a2, a3, a4, a5⟩ := ih (uZ (uZ u 8 (if 3 ≤ y then u.2 8 else ((10 * (u.2 8)) + (s_X6_here u)) - 48)) 5 ((u.2 5) + 1)) x (y + 1) (xtz2 (u := u) (xtq1 (u := u) h ha)) (by
        show ((u.2 4).toInt - (u.2 5 + 1).toInt).toNat < n
        have := xtd1 h ha
        omega)
      refine ⟨a1, fun k hk h8 => (a2 k hk h8).trans ?_, a3, ?_, a5⟩
      · simp only [uZ]
        rw [if_neg hk, if_neg h8]
      · change (u.2 5 + 1).toInt ≤ _ at a4
        omega
theorem xnh {u : xU} (h : XTq u) : XNq u (s_X6_numberHere u) := by
  unfold s_X6_numberHere
  have hz := xtz (u := u) (xnh0 (u := u) h)
  obtain ⟨a1, a2, a3, a4, a5⟩ := xnh40 ((((uZ (uZ u 5 ((u.2 5) + (if (if (s_X6_here u) = 45 then 1 else 0 : Int32) = 0 then 0 else 1))) 8 0).2 4).toInt - ((uZ (uZ u 5 ((u.2 5) + (if (if (s_X6_here u) = 45 then 1 else 0 : Int32) = 0 then 0 else 1))) 8 0).2 5).toInt).toNat + 1) _ (if (s_X6_here u) = 45 then 1 else 0) 0 hz (Nat.lt_succ_self _)
  refine ⟨a1, fun k hk h8 => (a2 k hk h8).trans ?_, a3, Int.le_trans ?_ a4, a5⟩
  · simp only [uZ]
    rw [if_neg h8, if_neg hk]
  · show (u.2 5).toInt ≤ ((u.2 5) + (if (if (s_X6_here u) = 45 then 1 else 0 : Int32) = 0 then 0 else 1)).toInt
    by_cases e : s_X6_here u = 45
    · rw [if_pos e]
      show (u.2 5).toInt ≤ (u.2 5 + 1).toInt
      have := xat1 h (xheq e (by decide))
      omega
    · rw [if_neg e]
      show (u.2 5).toInt ≤ (u.2 5 + 0).toInt
      rw [Int32.add_zero]
      omega
/-- what a token leaves: the rows, and the fields but four, stay -/
def XNx (u w : xU) : Prop := w.1 = u.1 ∧ (∀ k, k ≠ 5 → k ≠ 6 → k ≠ 7 → k ≠ 8 → w.2 k = u.2 k) ∧ XTw w ∧ (u.2 5).toInt ≤ (w.2 6).toInt ∧ 0 ≤ (w.2 7).toInt ∧ ((w.2 7).toInt ≤ 4 → (w.2 6).toInt + 4 ≤ (w.2 5).toInt)
theorem xnx_n' {u : xU} (r : Int32 × xU) (h : XTq u) (hn : XNq (uZ u 6 (u.2 5)) r) : XNx u (uZ r.2 7 r.1) := by
  obtain ⟨a1, a2, a3, a4, a5⟩ := hn
  have e6 : r.2.2 6 = u.2 5 := a2 6 (by decide) (by decide)
  have ht : r.1.toInt = 13 ∨ r.1.toInt = 10 := by
    rcases a5 with e | e <;> rw [e]
    · exact Or.inl rfl
    · exact Or.inr rfl
  refine ⟨a1, fun k h5 h6 h7 h8 => ?_, ⟨a3, ?_, ?_⟩, ?_, ?_, ?_⟩
  · have := a2 k h5 h8
    simp only [uZ] at this ⊢
    rw [if_neg h7, this, if_neg h6]
  · show 0 ≤ (r.2.2 6).toInt
    rw [e6]; exact h.2.1
  · show (r.2.2 6).toInt ≤ (r.2.2 5).toInt
    rw [e6]; exact a4
  · show (u.2 5).toInt ≤ (r.2.2 6).toInt
    rw [e6]; exact Int.le_refl _
  · show 0 ≤ r.1.toInt
    omega
  · intro h9
    change r.1.toInt ≤ 4 at h9
    omega
theorem xnx_n {u : xU} (h : XTq u) : XNx u (uZ ((s_X6_numberHere (uZ u 6 (u.2 5))).2) 7 ((s_X6_numberHere (uZ u 6 (u.2 5))).1)) := xnx_n' _ h (xnh (u := uZ u 6 (u.2 5)) h)
theorem xnx_w' {u : xU} (r : Int32 × xU) (h : XTq u) (hn : XWq (uZ u 6 (u.2 5)) r) : XNx u (uZ r.2 7 r.1) := by
  obtain ⟨a1, a2, a3, a4, a5⟩ := hn
  have e6 : r.2.2 6 = u.2 5 := a2 6 (by decide)
  refine ⟨a1, fun k h5 h6 h7 h8 => ?_, a3, ?_, ?_, ?_⟩
  · have := a2 k h5
    simp only [uZ] at this ⊢
    rw [if_neg h7, this, if_neg h6]
  · show (u.2 5).toInt ≤ (r.2.2 6).toInt
    rw [e6]; exact Int.le_refl _
  · show 0 ≤ r.1.toInt
    rcases a5 with e | e
    · rw [e]; decide
    · exact e.1
  · intro h9
    change r.1.toInt ≤ 4 at h9
    rcases a5 with e | e
    · rw [e] at h9; exact absurd h9 (by decide)
    · exact e.2.2
theorem xnx_w {u : xU} (h : XTq u) : XNx u (uZ ((s_X6_wordHere (uZ u 6 (u.2 5))).2) 7 ((s_X6_wordHere (uZ u 6 (u.2 5))).1)) := xnx_w' _ h (xwhd (u := uZ u 6 (u.2 5)) (xtw0 (u := u) h))
theorem xnx_L : ∀ (n : Nat) (u : xU), XTq u → ((u.2 4).toInt - (u.2 5).toInt).toNat < n → XNx u (s_X6_next_L0 n u) := by
  intro n
  induction n with
  | zero => intro u h hn; exact absurd hn (Nat.not_lt_zero _)
  | succ n ih =>
    intro u h hn
    have step : (u.2 5).toInt < (u.2 4).toInt → XNx u (s_X6_next_L0 n (uZ u 5 ((u.2 5) + 1))) := by
      intro ha
      have e := xat1 h ha
      obtain ⟨a1, a2, a3, a4, a5, a6⟩ := ih (uZ u 5 ((u.2 5) + 1)) (xtq1 (u := u) h ha) (by
        show ((u.2 4).toInt - (u.2 5 + 1).toInt).toNat < n
        have := xtd1 h ha
        omega)
      refine ⟨a1, fun k h5 h6 h7 h8 => (a2 k h5 h6 h7 h8).trans ?_, a3, ?_, a5, a6⟩
      · simp only [uZ]
        rw [if_neg h5]
      · change (u.2 5 + 1).toInt ≤ _ at a4
        omega
    rw [s_X6_next_L0]
    split
    · rename_i q
      exact step (xheq q (by decide))
    · split
      · rename_i q
        exact step (xheq q (by decide))
      · split
        · split
          · split
            · exact xnx_n h
            · split
              · rename_i q
                have ha : (u.2 5).toInt < (u.2 4).toInt := xheq (u := uZ u 6 (u.2 5)) q (by decide)
                have e := xat1 h ha
                refine ⟨rfl, fun k h5 h6 h7 h8 => ?_, xtw1 (u := uZ u 6 (u.2 5)) (xtw0 (u := u) h) ha, Int.le_refl _, show 0 ≤ (11 : Int32).toInt by decide, ?_⟩
                · simp only [uZ]
                  rw [if_neg h5, if_neg h7, if_neg h6]
                · intro h9
                  exact absurd h9 (show ¬ (11 : Int32).toInt ≤ 4 by decide)
              · have ht : ∀ z : Int32, 5 ≤ z.toInt → XNx u (uZ (uZ u 6 (u.2 5)) 7 z) := by
                  intro z hz
                  refine ⟨rfl, fun k h5 h6 h7 h8 => ?_, xtw0 (u := u) h, Int.le_refl _, ?_, ?_⟩
                  · simp only [uZ]
                    rw [if_neg h7, if_neg h6]
                  · show 0 ≤ z.toInt
                    omega
                  · intro h9
                    change z.toInt ≤ 4 at h9
                    omega
                refine ht _ ?_
                split <;> decide
          · exact xnx_n h
        · exact xnx_w h
theorem xnx {u : xU} (h : XTq u) : XNx u (s_X6_next u) := xnx_L _ u h (Nat.lt_succ_self _)
/-! ===== the reference's clauses ===== -/
def XTkv (c1 c2 c3 : Nat → Int32) (z a b t m : Int32) : Prop := XTwv c1 c2 c3 z a b ∧ 0 ≤ t.toInt ∧ (t.toInt ≤ 4 → b.toInt + 4 ≤ a.toInt) ∧ 0 ≤ m.toInt ∧ 4 * m.toInt ≤ b.toInt
abbrev XTk (u : xU) : Prop := XTkv (u.1 15) (u.1 16) (u.1 17) (u.2 4) (u.2 5) (u.2 6) (u.2 7) (u.2 9)
theorem xtkn' {u : xU} (h : XTq u) (h0 : 0 ≤ (u.2 9).toInt) (h1 : 4 * (u.2 9).toInt ≤ (u.2 5).toInt) : XTk (s_X6_next u) := by
  obtain ⟨a1, a2, a3, a4, a5, a6⟩ := xnx h
  have e9 := a2 9 (by decide) (by decide) (by decide) (by decide)
  exact ⟨a3, a5, a6, by rw [e9]; exact h0, by rw [e9]; exact Int.le_trans h1 a4⟩
theorem xtkn {u : xU} (h : XTk u) : XTk (s_X6_next u) := xtkn' h.1.1 h.2.2.2.1 (Int.le_trans h.2.2.2.2 h.1.2.2)
def XKcv (c1 c2 c3 : Nat → Int32) (z a b t m w : Int32) : Prop := XTwv c1 c2 c3 z a b ∧ 0 ≤ w.toInt ∧ w.toInt ≤ 4 ∧ 0 ≤ t.toInt ∧ (t.toInt ≤ 4 → b.toInt + 4 ≤ a.toInt) ∧ 0 ≤ m.toInt ∧ 4 * m.toInt + 4 ≤ b.toInt
abbrev XKc (u : xU) (w : Int32) : Prop := XKcv (u.1 15) (u.1 16) (u.1 17) (u.2 4) (u.2 5) (u.2 6) (u.2 7) (u.2 9) w
theorem xle4 {w : Int32} (q : w ≤ 4) : w.toInt ≤ 4 := by
  rw [fa_le, show (4 : Int32).toInt = 4 from rfl] at q
  exact q
theorem xkc0 {u : xU} (h : XTk u) (q : (u.2 7) ≤ 4) (i : Nat) (x : Int32) : XKc (s_X6_next (uA u 18 i x)) (u.2 7) := by
  obtain ⟨h1, h2, h3, h4, h5⟩ := h
  have q4 := xle4 q
  have h6 := h3 q4
  obtain ⟨a1, a2, a3, a4, a5, a6⟩ := xnx (u := uA u 18 i x) h1.1
  have e9 : (s_X6_next (uA u 18 i x)).2 9 = u.2 9 := a2 9 (by decide) (by decide) (by decide) (by decide)
  change (u.2 5).toInt ≤ _ at a4
  exact ⟨a3, h2, q4, a5, a6, by rw [e9]; exact h4, by rw [e9]; omega⟩
theorem xkc1 {u : xU} {w : Int32} (h : XKc u w) (i : Nat) (x : Int32) : XKc (s_X6_next (uA u 18 i x)) w := by
  obtain ⟨h1, h2, h3, h4, h5, h6, h7⟩ := h
  obtain ⟨a1, a2, a3, a4, a5, a6⟩ := xnx (u := uA u 18 i x) h1.1
  have e9 : (s_X6_next (uA u 18 i x)).2 9 = u.2 9 := a2 9 (by decide) (by decide) (by decide) (by decide)
  have h8 := h1.2.2
  change (u.2 5).toInt ≤ _ at a4
  exact ⟨a3, h2, h3, a5, a6, by rw [e9]; exact h6, by rw [e9]; omega⟩
theorem xkcb {u : xU} {w : Int32} (h : XKc u w) : (u.2 9).toInt ≤ 14 := by
  obtain ⟨⟨⟨g0, g1, g2, g3⟩, g4, g5⟩, h2, h3, h4, h5, h6, h7⟩ := h
  omega
theorem xkcq {u : xU} {w k : Int32} (h : XKc u w) (q : ¬ (u.1 17 w.toNatClampNeg) ≤ k) : k.toInt < 4 := by
  have e : u.1 17 w.toNatClampNeg = tWant w.toInt.toNat := h.1.1.1.2.2 w.toInt.toNat (by have := h.2.2.1; omega)
  have r := tWant_r w.toInt.toNat (by have := h.2.2.1; omega)
  rw [fa_le, e] at q
  omega
theorem xkcd {u : xU} {w k : Int32} (h : XKc u w) (h0 : ¬ k < 0) (q : ¬ (u.1 17 w.toNatClampNeg) ≤ k) : (4 - (k + 1).toInt).toNat < (4 - k.toInt).toNat := by
  have h1 := xkcq h q
  have h2 := xge0 h0
  rw [xinc (by omega)]
  omega
theorem xkck {u : xU} {w k : Int32} (h : XKc u w) (h0 : ¬ k < 0) (q : ¬ (u.1 17 w.toNatClampNeg) ≤ k) : ¬ k + 1 < 0 := by
  have h1 := xkcq h q
  have h2 := xge0 h0
  rw [fa_lt, xinc (by omega), show (0 : Int32).toInt = 0 from rfl]
  omega
theorem x5m {k : Int32} (h0 : 0 ≤ k.toInt) (h1 : k.toInt ≤ 14) : (5 * k).toInt = 5 * k.toInt :=
  fb_mulI (x := 5) (y := k) (by rw [show (5 : Int32).toInt = 5 from rfl]; omega) (by rw [show (5 : Int32).toInt = 5 from rfl]; omega)
theorem xd5 {k : Int32} (h : 0 ≤ k.toInt ∧ k.toInt ≤ 14) : vp_in (5 * k) 100 := by
  rw [vp_in_iff, x5m h.1 h.2]
  omega
theorem xd5j {k j : Int32} (h : 0 ≤ k.toInt ∧ k.toInt ≤ 14) (h0 : 0 ≤ j.toInt) (h1 : j.toInt ≤ 4) : vp_in ((5 * k) + j) 100 := by
  have e := x5m h.1 h.2
  rw [vp_in_iff, fb_addI (by omega) (by omega), e]
  omega
theorem xk5 {u : xU} (h : XTk u) (q : (u.2 7) ≤ 4) : vp_in (5 * (u.2 9)) 100 := by
  obtain ⟨⟨⟨g0, g1, g2, g3⟩, g4, g5⟩, h2, h3, h4, h5⟩ := h
  have h6 := h3 (xle4 q)
  exact xd5 ⟨h4, by omega⟩
theorem xkcw {u : xU} {w : Int32} (h : XKc u w) : vp_in w 5 := by
  obtain ⟨h1, h2, h3, h4⟩ := h
  rw [vp_in_iff]
  omega
theorem xkci {u : xU} {w k : Int32} (h : XKc u w) (h0 : ¬ k < 0) (q : ¬ (u.1 17 w.toNatClampNeg) ≤ k) : vp_in (((5 * (u.2 9)) + 1) + k) 100 := by
  have h1 := xkcq h q
  have h2 := xge0 h0
  have h3 := xkcb h
  have h4 := h.2.2.2.2.2.1
  have e := x5m h4 h3
  have e2 : ((5 * (u.2 9)) + 1).toInt = 5 * (u.2 9).toInt + 1 := by rw [xinc (by omega), e]
  rw [vp_in_iff, fb_addI (by omega) (by omega), e2]
  omega
def s_X6_clause_L33 : Nat → xU → Int32 → Int32 → Int32 × xU
  | 0, u, _, _ => (0, u)
  | n + 1, u, x1, x2 =>
    if (u.1 17 x1.toNatClampNeg) ≤ x2 then
      (1, uZ u 9 ((u.2 9) + 1))
    else
      if (u.2 7) = 10 then
        s_X6_clause_L33 n (s_X6_next (uA u 18 (((5 * (u.2 9)) + 1) + x2).toNatClampNeg (u.2 8))) x1 (x2 + 1)
      else
        (0, u)
def s_X6_clause (u : xU) : Int32 × xU :=
  if (u.2 7) ≤ 4 then
    s_X6_clause_L33 ((4 - (0 : Int32).toInt).toNat + 1) (s_X6_next (uA u 18 (5 * (u.2 9)).toNatClampNeg (u.2 7))) (u.2 7) 0
  else
    (0, u)
abbrev rm_X6_clause : Room := { frames := 3, cells := 0, slots := 0, locals := 69 }
set_option maxHeartbeats 8000000 in
set_option maxRecDepth 100000 in
theorem c_X6_clause (l : Launch) (E : xG) (a : Nat → Nat) (u : xU)  (hp0 : XTk u) (hL : xOK E (LM a)) : xMd l E yX6_clause wsX6_clause rm_X6_clause (LM a) [.ref (a 0)] (wM E a u) (some (.int ((s_X6_clause u).1))) (wM E a ((s_X6_clause u).2)) := by
  refine xMd.of (cc := cX6_clause) (maxL := 3) (ret := (some .boolean)) (by decide) rfl (Nat.le_of_ble_eq_true rfl) ?_
  intro p e s m below meth c ls hAt hF hP hS hl
  obtain ⟨hx, hb, hr, hml, hown, hts, hlocks, -⟩ := hAt
  have hown : s.vm.findClass RX6 = some m.cls := hown
  have hl : lv_has ls 3 [(0, .ref (a 0))] := hl
  have hK := hF.1
  have hA := hL.2
  change W p l e rm_X6_clause s m ([.ref (a 0)] : List Value).toArray below meth c s.heap [] 0 0 (xQmd E below (LM a) (some (.int ((s_X6_clause u).1))) (wM E a ((s_X6_clause u).2)) ([.ref (a 0)] : List Value).toArray s) _
  have hS : va_S (· ∈ LM a) s.heap s.heap [] := hS
  have hR : s_X6_clause u = s_X6_clause u := rfl
  refine lv_aload_n hx hb dX6_clause_0 rfl (lv_at hl 0 rfl) ?_
  refine va_get (D := xD E) (ci := 6) (v := .int (u.2 7)) (C := RX6) (T := TX6) (N := 28) hx hb hts (by decide +kernel) hown hK hP 0 rfl rfl 24 (by decide) (hts (.fieldLink RX6 268 "RailOffsetsModel" "token" "I") (by decide +kernel)) (fun _ h => h) rfl dX6_clause_1 ?_
  refine lv_iconst (v := 4) hx hb dX6_clause_4 rfl ?_
  refine lv_icmp_le (tgt := 10) hx hb dX6_clause_5 rfl (fun q1 => ?_) (fun q1 => ?_)
  · have hR := hR.trans (if_pos q1)
    refine lv_aload_n hx hb dX6_clause_10 rfl (lv_at hl 0 rfl) ?_
    refine va_get (D := xD E) (ci := 6) (v := .int (u.2 7)) (C := RX6) (T := TX6) (N := 28) hx hb hts (by decide +kernel) hown hK hP 0 rfl rfl 24 (by decide) (hts (.fieldLink RX6 268 "RailOffsetsModel" "token" "I") (by decide +kernel)) (fun _ h => h) rfl dX6_clause_11 ?_
    refine lv_istore_n (lv' := [(1, .int (u.2 7)), (0, .ref (a 0))]) hx hb dX6_clause_14 rfl hl (by decide) rfl (fun ls hl => ?_)
    refine lv_aload_n hx hb dX6_clause_15 rfl (lv_at hl 1 rfl) ?_
    refine va_get (D := xD E) (ci := 6) (v := .ref (a 18)) (C := RX6) (T := TX6) (N := 28) hx hb hts (by decide +kernel) hown hK hP 0 rfl rfl 26 (by decide) (hts (.fieldLink RX6 64 "RailOffsetsModel" "clauses" "[I") (by decide +kernel)) (fun _ h => h) rfl dX6_clause_16 ?_
    refine lv_iconst (v := 5) hx hb dX6_clause_19 rfl ?_
    refine lv_aload_n hx hb dX6_clause_20 rfl (lv_at hl 1 rfl) ?_
    refine va_get (D := xD E) (ci := 6) (v := .int (u.2 9)) (C := RX6) (T := TX6) (N := 28) hx hb hts (by decide +kernel) hown hK hP 0 rfl rfl 27 (by decide) (hts (.fieldLink RX6 274 "RailOffsetsModel" "clauseMany" "I") (by decide +kernel)) (fun _ h => h) rfl dX6_clause_21 ?_
    refine lv_imul hx hb dX6_clause_24 ?_
    refine lv_iload_n hx hb dX6_clause_25 rfl (lv_at hl 0 rfl) ?_
    refine va_iast hx hb hK hP (xD_of (ws := wM E a u) (A := (· ∈ LM a)) hL.1 (fun _ h => h)) hS 18 0 rfl rfl (xk5 hp0 q1) dX6_clause_26 (fun H locs hP _ hS => ?_)
    have hP : va_P (xD E) vwCl (wM E a (uA u 18 (5 * (u.2 9)).toNatClampNeg (u.2 7))) H := hP
    refine lv_aload_n hx hb dX6_clause_27 rfl (lv_at hl 1 rfl) ?_
    refine xMdV (nL := 3) ⟨hx, hb, hml, hown, hts⟩ (c_X6_next l E a (uA u 18 (5 * (u.2 9)).toNatClampNeg (u.2 7))  (hp0.1.1) hL) (cwV 0 hts gX6_clause_X6_next rfl rfl rfl ⟨rfl, hd_X6_next⟩ ⟨(Nat.le_of_ble_eq_true rfl), (Nat.le_of_ble_eq_true rfl)⟩) hF hS hL.2 (fun _ h => h) hP (va_recv (q := (RX6, TX6, 28)) hK hP (ci := 6) rfl (q0 := 0) rfl) rfl hl.1 rfl (Nat.le_of_ble_eq_true rfl) ⟨(Nat.le_of_ble_eq_true rfl), (Nat.le_of_ble_eq_true rfl)⟩ dX6_clause_28 (fun H locs hP _ hS => ?_)
    refine W.eq (g2 := F0 m 31 ls []) rfl ?_
    refine lv_iconst (v := 0) hx hb dX6_clause_31 rfl ?_
    refine lv_istore_n (lv' := [(2, .int 0), (1, .int (u.2 7)), (0, .ref (a 0))]) hx hb dX6_clause_32 rfl hl (by decide) rfl (fun ls hl => ?_)
    have L33 : ∀ (n33 : Nat) (u33 : xU) (x2 : Int32) (H : Heap) (locs : List Loc) (ls : Array Slot), (XKc u33 (u.2 7)) → (¬ x2 < 0) → (4 - x2.toInt).toNat < n33 → s_X6_clause u = s_X6_clause_L33 n33 u33 (u.2 7) x2 → lv_has ls 3 [(2, .int x2), (1, .int (u.2 7)), (0, .ref (a 0))] → va_P (xD E) vwCl (wM E a u33) H → va_S (· ∈ LM a) s.heap H locs → W p l e rm_X6_clause s m ([.ref (a 0)] : List Value).toArray below meth c H locs 0 0 (xQmd E below (LM a) (some (.int ((s_X6_clause u).1))) (wM E a ((s_X6_clause u).2)) ([.ref (a 0)] : List Value).toArray s) (F0 m 33 ls []) := by
      intro n33
      induction n33 with
      | zero => intro u33 x2 H locs ls hI0 hI1 hM33 hR hl hP hS; exact absurd hM33 (Nat.not_lt_zero _)
      | succ n33 ih33 =>
        intro u33 x2 H locs ls hI0 hI1 hM33 hR hl hP hS
        refine lv_iload_n hx hb dX6_clause_33 rfl (lv_at hl 0 rfl) ?_
        refine lv_aload_n hx hb dX6_clause_34 rfl (lv_at hl 2 rfl) ?_
        refine va_get (D := xD E) (ci := 6) (v := .ref (a 17)) (C := RX6) (T := TX6) (N := 28) hx hb hts (by decide +kernel) hown hK hP 0 rfl rfl 21 (by decide) (hts (.fieldLink RX6 61 "RailOffsetsModel" "wants" "[I") (by decide +kernel)) (fun _ h => h) rfl dX6_clause_35 ?_
        refine lv_iload_n hx hb dX6_clause_38 rfl (lv_at hl 1 rfl) ?_
        refine va_iald hx hb hK hP 17 0 rfl rfl (xkcw hI0) dX6_clause_39 ?_
        refine lv_icmp_ge (tgt := 83) hx hb dX6_clause_40 rfl (fun q2 => ?_) (fun q2 => ?_)
        · have hR := hR.trans (if_pos q2)
          refine lv_aload_n hx hb dX6_clause_83 rfl (lv_at hl 2 rfl) ?_
          refine lv_dup hx hb dX6_clause_84 rfl ?_
          refine va_get (D := xD E) (ci := 6) (v := .int (u33.2 9)) (C := RX6) (T := TX6) (N := 28) hx hb hts (by decide +kernel) hown hK hP 0 rfl rfl 27 (by decide) (hts (.fieldLink RX6 274 "RailOffsetsModel" "clauseMany" "I") (by decide +kernel)) (fun _ h => h) rfl dX6_clause_85 ?_
          refine lv_iconst (v := 1) hx hb dX6_clause_88 rfl ?_
          refine lv_iadd hx hb dX6_clause_89 ?_
          refine va_put (D := xD E) (ci := 6) (v := .int ((u33.2 9) + 1)) (ty := .int) (C := RX6) (T := TX6) (N := 28) hx hb hts (by decide +kernel) tyX6 tyX6_ok nmX6 hown hK hP (xD_of (ws := wM E a u33) (A := (· ∈ LM a)) hL.1 (fun _ h => h)) hS 0 rfl rfl 27 (by decide) (hts (.fieldLink RX6 274 "RailOffsetsModel" "clauseMany" "I") (by decide +kernel)) (fun _ h => h) rfl (by decide +kernel) rfl rfl (Nat.le_of_ble_eq_true rfl) dX6_clause_90 (fun H locs hP _ hS => ?_)
          have hP : va_P (xD E) vwCl (wM E a (uZ u33 9 ((u33.2 9) + 1))) H := hP
          refine lv_iconst (v := 1) hx hb dX6_clause_93 rfl ?_
          have hR : s_X6_clause u = (1, uZ u33 9 ((u33.2 9) + 1)) := hR
          exact W.zret (v := 1) (ty := .boolean) hx hb hr (xnb (Or.inr rfl)) (fun t ht _ => by rw [hR]; dsimp only; exact ⟨⟨rfl, by rw [ht]; exact hP⟩, hS.F ht⟩) hS.2.2 dX6_clause_94
        · have hR := hR.trans (if_neg q2)
          refine lv_aload_n hx hb dX6_clause_43 rfl (lv_at hl 2 rfl) ?_
          refine va_get (D := xD E) (ci := 6) (v := .int (u33.2 7)) (C := RX6) (T := TX6) (N := 28) hx hb hts (by decide +kernel) hown hK hP 0 rfl rfl 24 (by decide) (hts (.fieldLink RX6 268 "RailOffsetsModel" "token" "I") (by decide +kernel)) (fun _ h => h) rfl dX6_clause_44 ?_
          refine lv_bipush (v := 10) hx hb dX6_clause_47 rfl ?_
          refine lv_icmp_eq (tgt := 54) hx hb dX6_clause_49 rfl (fun q3 => ?_) (fun q3 => ?_)
          · have hR := hR.trans (if_pos q3)
            refine lv_aload_n hx hb dX6_clause_54 rfl (lv_at hl 2 rfl) ?_
            refine va_get (D := xD E) (ci := 6) (v := .ref (a 18)) (C := RX6) (T := TX6) (N := 28) hx hb hts (by decide +kernel) hown hK hP 0 rfl rfl 26 (by decide) (hts (.fieldLink RX6 64 "RailOffsetsModel" "clauses" "[I") (by decide +kernel)) (fun _ h => h) rfl dX6_clause_55 ?_
            refine lv_iconst (v := 5) hx hb dX6_clause_58 rfl ?_
            refine lv_aload_n hx hb dX6_clause_59 rfl (lv_at hl 2 rfl) ?_
            refine va_get (D := xD E) (ci := 6) (v := .int (u33.2 9)) (C := RX6) (T := TX6) (N := 28) hx hb hts (by decide +kernel) hown hK hP 0 rfl rfl 27 (by decide) (hts (.fieldLink RX6 274 "RailOffsetsModel" "clauseMany" "I") (by decide +kernel)) (fun _ h => h) rfl dX6_clause_60 ?_
            refine lv_imul hx hb dX6_clause_63 ?_
            refine lv_iconst (v := 1) hx hb dX6_clause_64 rfl ?_
            refine lv_iadd hx hb dX6_clause_65 ?_
            refine lv_iload_n hx hb dX6_clause_66 rfl (lv_at hl 0 rfl) ?_
            refine lv_iadd hx hb dX6_clause_67 ?_
            refine lv_aload_n hx hb dX6_clause_68 rfl (lv_at hl 2 rfl) ?_
            refine va_get (D := xD E) (ci := 6) (v := .int (u33.2 8)) (C := RX6) (T := TX6) (N := 28) hx hb hts (by decide +kernel) hown hK hP 0 rfl rfl 25 (by decide) (hts (.fieldLink RX6 258 "RailOffsetsModel" "number" "I") (by decide +kernel)) (fun _ h => h) rfl dX6_clause_69 ?_
            refine va_iast hx hb hK hP (xD_of (ws := wM E a u33) (A := (· ∈ LM a)) hL.1 (fun _ h => h)) hS 18 0 rfl rfl (xkci hI0 hI1 q2) dX6_clause_72 (fun H locs hP _ hS => ?_)
            have hP : va_P (xD E) vwCl (wM E a (uA u33 18 (((5 * (u33.2 9)) + 1) + x2).toNatClampNeg (u33.2 8))) H := hP
            refine lv_aload_n hx hb dX6_clause_73 rfl (lv_at hl 2 rfl) ?_
            refine xMdV (nL := 3) ⟨hx, hb, hml, hown, hts⟩ (c_X6_next l E a (uA u33 18 (((5 * (u33.2 9)) + 1) + x2).toNatClampNeg (u33.2 8))  (hI0.1.1) hL) (cwV 0 hts gX6_clause_X6_next rfl rfl rfl ⟨rfl, hd_X6_next⟩ ⟨(Nat.le_of_ble_eq_true rfl), (Nat.le_of_ble_eq_true rfl)⟩) hF hS hL.2 (fun _ h => h) hP (va_recv (q := (RX6, TX6, 28)) hK hP (ci := 6) rfl (q0 := 0) rfl) rfl hl.1 rfl (Nat.le_of_ble_eq_true rfl) ⟨(Nat.le_of_ble_eq_true rfl), (Nat.le_of_ble_eq_true rfl)⟩ dX6_clause_74 (fun H locs hP _ hS => ?_)
            refine W.eq (g2 := F0 m 77 ls []) rfl ?_
            refine lv_iinc (k := 0) (v := x2 + 1) (lv' := [(2, .int (x2 + 1)), (1, .int (u.2 7)), (0, .ref (a 0))]) hx hb dX6_clause_77 hl rfl rfl (by decide) rfl (fun ls hl => ?_)
            refine lv_goto (tgt := 33) hx hb dX6_clause_80 rfl ?_
            exact ih33 (s_X6_next (uA u33 18 (((5 * (u33.2 9)) + 1) + x2).toNatClampNeg (u33.2 8))) (x2 + 1) _ _ _ (xkc1 hI0 _ _) (xkck hI0 hI1 q2) (Nat.lt_of_lt_of_le (xkcd hI0 hI1 q2) (Nat.le_of_lt_succ hM33)) hR (lv_sub hl [0, 1, 2] rfl) hP hS
          · have hR := hR.trans (if_neg q3)
            refine lv_iconst (v := 0) hx hb dX6_clause_52 rfl ?_
            have hR : s_X6_clause u = (0, u33) := hR
            exact W.zret (v := 0) (ty := .boolean) hx hb hr (xnb (Or.inl rfl)) (fun t ht _ => by rw [hR]; dsimp only; exact ⟨⟨rfl, by rw [ht]; exact hP⟩, hS.F ht⟩) hS.2.2 dX6_clause_53
    exact L33 ((4 - (0 : Int32).toInt).toNat + 1) (s_X6_next (uA u 18 (5 * (u.2 9)).toNatClampNeg (u.2 7))) 0 _ _ ls (xkc0 hp0 q1 _ _) (by decide) (Nat.lt_succ_self _) hR hl hP hS
  · have hR := hR.trans (if_neg q1)
    refine lv_iconst (v := 0) hx hb dX6_clause_8 rfl ?_
    have hR : s_X6_clause u = (0, u) := hR
    exact W.zret (v := 0) (ty := .boolean) hx hb hr (xnb (Or.inl rfl)) (fun t ht _ => by rw [hR]; dsimp only; exact ⟨⟨rfl, by rw [ht]; exact hP⟩, hS.F ht⟩) hS.2.2 dX6_clause_9
