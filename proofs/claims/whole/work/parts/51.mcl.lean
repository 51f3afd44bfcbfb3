def XKl (u : xU) (r : Int32 × xU) : Prop := (∀ k, k ≠ 18 → r.2.1 k = u.1 k) ∧ (∀ k, k ≠ 5 → k ≠ 6 → k ≠ 7 → k ≠ 8 → k ≠ 9 → r.2.2 k = u.2 k) ∧ XTk r.2 ∧ (u.2 5).toInt ≤ (r.2.2 5).toInt ∧ (r.1 = 0 ∨ (r.1 = 1 ∧ (u.2 7).toInt ≤ 4))
theorem xcl33 {u0 : xU} (h04 : (u0.2 7).toInt ≤ 4) {w : Int32} : ∀ (n : Nat) (u : xU) (k : Int32), XKc u w → ¬ k < 0 → (4 - k.toInt).toNat < n → (∀ j, j ≠ 18 → u.1 j = u0.1 j) → (∀ j, j ≠ 5 → j ≠ 6 → j ≠ 7 → j ≠ 8 → u.2 j = u0.2 j) → (u0.2 5).toInt ≤ (u.2 5).toInt → XKl u0 (s_X6_clause_L33 n u w k) := by
  intro n
  induction n with
  | zero => intro u k h h0 hn; exact absurd hn (Nat.not_lt_zero _)
  | succ n ih =>
    intro u k h h0 hn r1 r2 r3
    rw [s_X6_clause_L33]
    have hc := h
    obtain ⟨h1, h2, h3, h4, h5, h6, h7⟩ := h
    split
    · have e := xinc (k := u.2 9) (by have := xkcb hc; omega)
      refine ⟨r1, fun j j5 j6 j7 j8 j9 => ?_, ⟨h1, h4, h5, ?_, ?_⟩, r3, Or.inr ⟨rfl, h04⟩⟩
      · simp only [uZ]
        rw [if_neg j9]
        exact r2 j j5 j6 j7 j8
      · show 0 ≤ (u.2 9 + 1).toInt
        omega
      · show 4 * (u.2 9 + 1).toInt ≤ (u.2 6).toInt
        omega
    · rename_i q
      split
      · obtain ⟨a1, a2, a3, a4, a5, a6⟩ := xnx (u := uA u 18 (((5 * (u.2 9)) + 1) + k).toNatClampNeg (u.2 8)) h1.1
        refine ih _ _ (xkc1 hc _ _) (xkck hc h0 q) (by have := xkcd hc h0 q; omega) (fun j hj => ?_) (fun j j5 j6 j7 j8 => ?_) ?_
        · rw [a1]
          simp only [uA]
          rw [if_neg hj]
          exact r1 j hj
        · exact (a2 j j5 j6 j7 j8).trans (r2 j j5 j6 j7 j8)
        · have h8 := h1.2.2
          have h9 := a3.2.2
          change (u.2 5).toInt ≤ _ at a4
          omega
      · exact ⟨r1, fun j j5 j6 j7 j8 _ => r2 j j5 j6 j7 j8, ⟨h1, h4, h5, h6, show 4 * (u.2 9).toInt ≤ (u.2 6).toInt by omega⟩, r3, Or.inl rfl⟩
theorem xcls {u : xU} (h : XTk u) : XKl u (s_X6_clause u) := by
  unfold s_X6_clause
  split
  · rename_i q
    obtain ⟨a1, a2, a3, a4, a5, a6⟩ := xnx (u := uA u 18 (5 * (u.2 9)).toNatClampNeg (u.2 7)) h.1.1
    refine xcl33 (xle4 q) _ _ _ (xkc0 h q _ _) (by decide) (by decide) (fun j hj => ?_) (fun j j5 j6 j7 j8 => a2 j j5 j6 j7 j8) ?_
    · rw [a1]
      simp only [uA]
      rw [if_neg hj]
    · have h9 := a3.2.2
      change (u.2 5).toInt ≤ _ at a4
      omega
  · exact ⟨fun _ _ => rfl, fun _ _ _ _ _ _ => rfl, h, Int.le_refl _, Or.inl rfl⟩
theorem xcl_w {u : xU} (h : XTk u) (hw : XW u) : XW (s_X6_clause u).2 := by
  unfold XW
  rw [(xcls h).1 1 (by decide)]
  exact hw
theorem xnx_w1 {u : xU} (h : XTq u) (hw : XW u) : XW (s_X6_next u) := by
  unfold XW
  rw [(xnx h).1]
  exact hw
abbrev XTs (u : xU) : Prop := XCn u ∧ XTS u
theorem xtx0 {u : xU} (h : XTs u) : XTv (u.1 15) (u.1 16) (u.1 17) (u.2 4) 0 := ⟨h.1, by decide, h.2.1, h.2.2⟩
theorem xtx1 {u : xU} (h : XTs u) : XTk (s_X6_next (uZ (uZ u 5 0) 9 0)) := xtkn' (u := uZ (uZ u 5 0) 9 0) (xtx0 (u := u) h) (show 0 ≤ (0 : Int32).toInt by decide) (show 4 * (0 : Int32).toInt ≤ (0 : Int32).toInt by decide)
theorem xcl_d {u : xU} {x : Int32} (h : XTk u) (h1 : x = 0 ∨ x = 1) (q : ¬ x = 0) : ((((s_X6_clause (s_X6_next u)).2.2 4).toInt - ((s_X6_clause (s_X6_next u)).2.2 5).toInt) + (s_X6_clause (s_X6_next u)).1.toInt).toNat < (((u.2 4).toInt - (u.2 5).toInt) + x.toInt).toNat := by
  have hx := h1.resolve_left q
  obtain ⟨a1, a2, a3, a4, a5, a6⟩ := xnx h.1.1
  obtain ⟨b1, b2, b3, b4, b5⟩ := xcls (xtkn h)
  have e4 : (s_X6_clause (s_X6_next u)).2.2 4 = u.2 4 := (b2 4 (by decide) (by decide) (by decide) (by decide) (by decide)).trans (a2 4 (by decide) (by decide) (by decide) (by decide))
  have g := b3.1.1.2.2.1
  rw [e4] at g ⊢
  have g2 := a3.2.2
  rw [hx, show (1 : Int32).toInt = 1 from rfl]
  rcases b5 with e | ⟨e, e2⟩
  · rw [e, show (0 : Int32).toInt = 0 from rfl]
    omega
  · have := a6 e2
    rw [e, show (1 : Int32).toInt = 1 from rfl]
    omega
theorem xcl_b {u : xU} (h : XTk u) : (s_X6_clause u).1 = 0 ∨ (s_X6_clause u).1 = 1 := by
  rcases (xcls h).2.2.2.2 with e | e
  · exact Or.inl e
  · exact Or.inr e.1
theorem xcl_15 {u : xU} (h : XTk u) : (u.2 9).toInt ≤ 15 := by
  obtain ⟨⟨⟨g0, g1, g2, g3⟩, g4, g5⟩, h2, h3, h4, h5⟩ := h
  omega
