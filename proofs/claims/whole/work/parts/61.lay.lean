/-! ===== the class lays its line ===== -/
section ZL
variable {u : xU} {n p : Nat}
theorem zend (hn : u.2 1 = nI n) (h10 : n ≤ 10) (hp : p < n) : s_X0_endVersine u (nI p) = zpE (u.1 2) p := by
  have e0 : s_X2_read u (nI p) 0 = zpK (u.1 2) p := s_X2_read_in (j := 0) h10 hn hp (by decide)
  have e2 : s_X2_read u (nI p) 2 = zpB (u.1 2) p := s_X2_read_in (j := 2) h10 hn hp (by decide)
  unfold s_X0_endVersine zpE
  rw [e0, e2]
theorem zneg {f : Int32} : s_X2_read u (-1) f = 0 := by
  unfold s_X2_read
  rw [if_pos (by decide)]
theorem zm1 : nI 0 - 1 = (-1 : Int32) := by decide
theorem zahead (hn : u.2 1 = nI n) (h10 : n ≤ 10) (hp : p < n) : s_X0_endVersine u (nI p - 1) = zpA (u.1 2) p := by
  cases p with
  | zero =>
    rw [zm1]
    unfold s_X0_endVersine
    rw [zneg, if_pos rfl]
    rfl
  | succ p =>
    rw [nI_pred]
    exact zend hn h10 (by omega)
theorem zlow (hn : u.2 1 = nI n) (h10 : n ≤ 10) (hp : p < n) : s_X2_read u (nI p - 1) 3 = zpD (u.1 2) p := by
  cases p with
  | zero => rw [zm1, zneg]; rfl
  | succ p =>
    rw [nI_pred]
    exact s_X2_read_in (j := 3) h10 hn (by omega) (by decide)
theorem zhas (hn : u.2 1 = nI n) (h10 : n ≤ 10) (hp : p < n) : s_X2_has u (nI p) = 1 := by
  unfold s_X2_has
  rw [if_neg (nI_pos (by omega)), hn, if_neg (nI_ge hp (by omega))]
theorem zfill (hn : u.2 1 = nI n) (hg : zGP (u.1 2) n) (hp : p < n) (hs : s_X0_firstOf u (nI p) = nI (zpS (u.1 2) p + 1)) :
    (s_X0_fill u (nI p)).1 9 = fb_put (u.1 9) (fun _ => nI p) (zpS (u.1 2) p + 1) (zpN (u.1 2) p) ∧
    (s_X0_fill u (nI p)).1 10 = fb_put (u.1 10) (fun j => zpV (u.1 2) p (j + 1)) (zpS (u.1 2) p + 1) (zpN (u.1 2) p) ∧
    (s_X0_fill u (nI p)).1 11 = fb_put (u.1 11) (fun j => zpH (u.1 2) p (j + 1)) (zpS (u.1 2) p + 1) (zpN (u.1 2) p) := by
  have h10 := hg.1
  have eK : s_X2_read u (nI p) 0 = zpK (u.1 2) p := s_X2_read_in (j := 0) h10 hn hp (by decide)
  have eL : s_X2_read u (nI p) 1 = zpL (u.1 2) p := s_X2_read_in (j := 1) h10 hn hp (by decide)
  have eC : s_X2_read u (nI p) 3 = zpC (u.1 2) p := s_X2_read_in (j := 3) h10 hn hp (by decide)
  obtain ⟨l1, l2, l3⟩ := hg.N hp
  have hS := zpS_b hg p (by omega)
  have key : ∀ rise : Int32, rise = zpR (u.1 2) p →
      (s_X0_fill_L87 (((nI (zpN (u.1 2) p)).toInt + 1 - (1 : Int32).toInt).toNat + 1) u (nI p) (zpK (u.1 2) p) rise (nI (zpN (u.1 2) p)) (zpA (u.1 2) p) (zpE (u.1 2) p) (zpD (u.1 2) p) (zpC (u.1 2) p) 1).1 9 = fb_put (u.1 9) (fun _ => nI p) (zpS (u.1 2) p + 1) (zpN (u.1 2) p) ∧
      (s_X0_fill_L87 (((nI (zpN (u.1 2) p)).toInt + 1 - (1 : Int32).toInt).toNat + 1) u (nI p) (zpK (u.1 2) p) rise (nI (zpN (u.1 2) p)) (zpA (u.1 2) p) (zpE (u.1 2) p) (zpD (u.1 2) p) (zpC (u.1 2) p) 1).1 10 = fb_put (u.1 10) (fun j => zpV (u.1 2) p (j + 1)) (zpS (u.1 2) p + 1) (zpN (u.1 2) p) ∧
      (s_X0_fill_L87 (((nI (zpN (u.1 2) p)).toInt + 1 - (1 : Int32).toInt).toNat + 1) u (nI p) (zpK (u.1 2) p) rise (nI (zpN (u.1 2) p)) (zpA (u.1 2) p) (zpE (u.1 2) p) (zpD (u.1 2) p) (zpC (u.1 2) p) 1).1 11 = fb_put (u.1 11) (fun j => zpH (u.1 2) p (j + 1)) (zpS (u.1 2) p + 1) (zpN (u.1 2) p) := by
    rintro rise rfl
    obtain ⟨r1, r2, r3⟩ := zfillL (kind := zpK (u.1 2) p) (rise := zpR (u.1 2) p) (ah := zpA (u.1 2) p) (en := zpE (u.1 2) p) (lo := zpD (u.1 2) p) (ca := zpC (u.1 2) p) (x1 := nI p) (L := zpN (u.1 2) p) (a := zpS (u.1 2) p + 1) l2 (by omega) (zpN (u.1 2) p) 0 u (((nI (zpN (u.1 2) p)).toInt + 1 - (1 : Int32).toInt).toNat + 1) (by rw [nI_toInt (by omega), show (1 : Int32).toInt = 1 from rfl]; omega) (by omega) hs
    refine ⟨r1, r2.trans ?_, r3.trans ?_⟩
    · unfold zpV
      rw [l3]
      simp only [Nat.zero_add, Nat.add_zero]
    · unfold zpH
      rw [l3]
      simp only [Nat.zero_add, Nat.add_zero]
  unfold s_X0_fill
  rw [if_neg (by rw [zhas hn h10 hp]; decide), eK, eL, eC, zahead hn h10 hp, zend hn h10 hp, zlow hn h10 hp, l3]
  by_cases h4 : zpK (u.1 2) p = 4
  · rw [if_pos h4]
    exact key 2 (by unfold zpR; rw [if_pos h4])
  · rw [if_neg h4]
    exact key _ (by unfold zpR; rw [if_neg h4])
end ZL
/-- so far the line is laid: the pieces ahead of p -/
def zLP (f : Nat → Int32) (n p : Nat) (u : xU) : Prop :=
  u.1 2 = f ∧ u.2 1 = nI n ∧ (∀ q, q < p → u.1 8 q = nI (zpS f q + 1)) ∧ (∀ q k, q < p → 1 ≤ k → k ≤ zpN f q → u.1 9 (zpS f q + k) = nI q ∧ u.1 10 (zpS f q + k) = zpV f q k ∧ u.1 11 (zpS f q + k) = zpH f q k) ∧ u.1 10 0 = 0 ∧ u.1 11 0 = 0
theorem zput_o {α : Type} {f g : Nat → α} {a n k : Nat} (h : k < a) : fb_put f g a n k = f k := fb_put_out (Or.inl h)
theorem zLP_step {f : Nat → Int32} {n p : Nat} {u : xU} (hg : zGP f n) (hp : p < n) (h : zLP f n p u) : zLP f n (p + 1) (s_X0_fill (uR u 8 (s_X5_mark 10 (u.1 8) (nI p) (nI (zpS f p) + 1))) (nI p)) := by
  obtain ⟨rfl, h2, h3, h4, h5, h6⟩ := h
  have h10 := hg.1
  have e8 : s_X5_mark 10 (u.1 8) (nI p) (nI (zpS (u.1 2) p) + 1) = upd (u.1 8) p (nI (zpS (u.1 2) p + 1)) := by
    rw [s_X5_mark_in (by decide) (by omega), nI_1]
  rw [e8]
  have hs : s_X0_firstOf (uR u 8 (upd (u.1 8) p (nI (zpS (u.1 2) p + 1)))) (nI p) = nI (zpS (u.1 2) p + 1) := by
    show s_X5_cell 10 (upd (u.1 8) p (nI (zpS (u.1 2) p + 1))) (nI p) = _
    rw [s_X5_cell_in (by decide) (by omega), pk_us]
  obtain ⟨r9, r10, r11⟩ := zfill (u := uR u 8 (upd (u.1 8) p (nI (zpS (u.1 2) p + 1)))) (n := n) (p := p) h2 hg hp hs
  obtain ⟨k2, k1⟩ := xfill (uR u 8 (upd (u.1 8) p (nI (zpS (u.1 2) p + 1)))) (nI p)
  change _ = fb_put (u.1 9) (fun _ => nI p) (zpS (u.1 2) p + 1) (zpN (u.1 2) p) at r9
  change _ = fb_put (u.1 10) (fun j => zpV (u.1 2) p (j + 1)) (zpS (u.1 2) p + 1) (zpN (u.1 2) p) at r10
  change _ = fb_put (u.1 11) (fun j => zpH (u.1 2) p (j + 1)) (zpS (u.1 2) p + 1) (zpN (u.1 2) p) at r11
  have e8' := k1 8 (by decide) (by decide) (by decide)
  change _ = upd (u.1 8) p (nI (zpS (u.1 2) p + 1)) at e8'
  refine ⟨k1 2 (by decide) (by decide) (by decide), by rw [k2]; exact h2, fun q hq => ?_, fun q k hq hk1 hk2 => ?_, ?_, ?_⟩
  · rw [e8']
    by_cases e : q = p
    · rw [e, pk_us]
    · rw [pk_un e]
      exact h3 q (by omega)
  · rw [r9, r10, r11]
    by_cases e : q = p
    · subst e
      rw [fb_put_in (by omega) (by omega), fb_put_in (by omega) (by omega), fb_put_in (by omega) (by omega), show zpS (u.1 2) q + k - (zpS (u.1 2) q + 1) + 1 = k by omega]
      exact ⟨rfl, rfl, rfl⟩
    · have hz : zpS (u.1 2) q + zpN (u.1 2) q ≤ zpS (u.1 2) p := zpS_in (by omega)
      rw [zput_o (by omega), zput_o (by omega), zput_o (by omega)]
      exact h4 q k (by omega) hk1 hk2
  · rw [r10, zput_o (by omega)]
    exact h5
  · rw [r11, zput_o (by omega)]
    exact h6
/-- turns and offsets so far -/
def zT (v t g : Nat → Int32) (i : Nat) : Prop := t 0 = 0 ∧ g 0 = 0 ∧ ∀ s, s < i → t (s + 1) = t s + v (s + 1) ∧ g (s + 1) = g s + t (s + 1)
theorem zT_step {v t g : Nat → Int32} {i : Nat} (h : zT v t g i) : zT v (upd t (i + 1) (t i + v (i + 1))) (upd g (i + 1) (g i + (t i + v (i + 1)))) (i + 1) := by
  obtain ⟨h1, h2, h3⟩ := h
  refine ⟨by rw [pk_un (by omega)]; exact h1, by rw [pk_un (by omega)]; exact h2, fun s hs => ?_⟩
  by_cases e : s = i
  · subst e
    rw [pk_us, pk_us, pk_un (by omega), pk_un (by omega)]
    exact ⟨rfl, rfl⟩
  · rw [pk_un (show s + 1 ≠ i + 1 by omega), pk_un (show s ≠ i + 1 by omega), pk_un (show s + 1 ≠ i + 1 by omega), pk_un (show s ≠ i + 1 by omega)]
    exact h3 s (by omega)
theorem zlay56 {N : Nat} (hN : N ≤ 200) {x : Int32} : ∀ (m i : Nat) (u : xU) (fuel : Nat), m < fuel → i + m = N → u.2 3 = nI N → zT (u.1 10) (u.1 12) (u.1 13) i →
    (zT ((s_X0_lay_L56 fuel u x (nI (i + 1))).1 10) ((s_X0_lay_L56 fuel u x (nI (i + 1))).1 12) ((s_X0_lay_L56 fuel u x (nI (i + 1))).1 13) N ∧ (s_X0_lay_L56 fuel u x (nI (i + 1))).2 = u.2 ∧ ∀ k, k ≠ 12 → k ≠ 13 → (s_X0_lay_L56 fuel u x (nI (i + 1))).1 k = u.1 k) := by
  intro m
  induction m with
  | zero =>
    intro i u fuel hf hi h3 hT
    obtain ⟨fuel, rfl⟩ : ∃ z, fuel = z + 1 := ⟨fuel - 1, by omega⟩
    rw [s_X0_lay_L56, if_pos (by rw [h3]; exact nI_lt (by omega) (by omega))]
    rw [show i = N by omega] at hT
    exact ⟨hT, rfl, fun _ _ _ => rfl⟩
  | succ m ih =>
    intro i u fuel hf hi h3 hT
    obtain ⟨fuel, rfl⟩ : ∃ z, fuel = z + 1 := ⟨fuel - 1, by omega⟩
    rw [s_X0_lay_L56, if_neg (by rw [h3]; exact nI_nlt (by omega) (by omega)), nI_1, nI_pred]
    have e12 : s_X5_mark 201 (u.1 12) (nI (i + 1)) ((s_X5_cell 201 (u.1 12) (nI i)) + (s_X5_cell 201 (u.1 10) (nI (i + 1)))) = upd (u.1 12) (i + 1) (u.1 12 i + u.1 10 (i + 1)) := by
      rw [s_X5_mark_in (by decide) (by omega), s_X5_cell_in (by decide) (by omega), s_X5_cell_in (by decide) (by omega)]
    rw [e12]
    have e13 : s_X5_mark 201 ((uR u 12 (upd (u.1 12) (i + 1) (u.1 12 i + u.1 10 (i + 1)))).1 13) (nI (i + 1)) ((s_X5_cell 201 ((uR u 12 (upd (u.1 12) (i + 1) (u.1 12 i + u.1 10 (i + 1)))).1 13) (nI i)) + (s_X5_cell 201 ((uR u 12 (upd (u.1 12) (i + 1) (u.1 12 i + u.1 10 (i + 1)))).1 12) (nI (i + 1)))) = upd (u.1 13) (i + 1) (u.1 13 i + (u.1 12 i + u.1 10 (i + 1))) := by
      show s_X5_mark 201 (u.1 13) (nI (i + 1)) ((s_X5_cell 201 (u.1 13) (nI i)) + (s_X5_cell 201 (upd (u.1 12) (i + 1) (u.1 12 i + u.1 10 (i + 1))) (nI (i + 1)))) = _
      rw [s_X5_mark_in (by decide) (by omega), s_X5_cell_in (by decide) (by omega), s_X5_cell_in (by decide) (by omega), pk_us]
    rw [e13]
    obtain ⟨r1, r2, r3⟩ := ih (i + 1) (uR (uR u 12 (upd (u.1 12) (i + 1) (u.1 12 i + u.1 10 (i + 1)))) 13 (upd (u.1 13) (i + 1) (u.1 13 i + (u.1 12 i + u.1 10 (i + 1))))) fuel (by omega) (by omega) h3 (zT_step hT)
    refine ⟨r1, r2, fun k a b => (r3 k a b).trans ?_⟩
    simp only [uR]
    rw [if_neg b, if_neg a]
theorem zlay4 {f : Nat → Int32} {n : Nat} (hg : zGP f n) : ∀ (m p : Nat) (u : xU) (fuel : Nat), m < fuel → p + m = n → zLP f n p u →
    ∃ w : xU, zLP f n n w ∧ w.2 = u.2 ∧ (∀ k, k ≠ 8 → k ≠ 9 → k ≠ 10 → k ≠ 11 → w.1 k = u.1 k) ∧ s_X0_lay_L4 fuel u (nI (zpS f p)) (nI p) = s_X0_lay_L56 ((((uZ w 3 (nI (zpS f n))).2 3).toInt + 1 - (1 : Int32).toInt).toNat + 1) (uZ w 3 (nI (zpS f n))) (nI (zpS f n)) 1 := by
  intro m
  induction m with
  | zero =>
    intro p u fuel hf hp h
    obtain ⟨fuel, rfl⟩ : ∃ z, fuel = z + 1 := ⟨fuel - 1, by omega⟩
    have e : p = n := by omega
    subst e
    have h10 := hg.1
    refine ⟨u, h, rfl, fun _ _ _ _ _ => rfl, ?_⟩
    rw [s_X0_lay_L4, if_pos (by rw [h.2.1]; exact nI_le (Nat.le_refl _) (by omega))]
  | succ m ih =>
    intro p u fuel hf hp h
    obtain ⟨fuel, rfl⟩ : ∃ z, fuel = z + 1 := ⟨fuel - 1, by omega⟩
    have h10 := hg.1
    have hpn : p < n := by omega
    have hst := zLP_step hg hpn h
    have eL : s_X2_read (s_X0_fill (uR u 8 (s_X5_mark 10 (u.1 8) (nI p) (nI (zpS f p) + 1))) (nI p)) (nI p) 1 = nI (zpN f p) := by
      refine (s_X2_read_in (j := 1) h10 hst.2.1 hpn (by decide)).trans ?_
      rw [hst.1]
      exact (hg.N hpn).2.2
    obtain ⟨w, w1, w2, w3, w4⟩ := ih (p + 1) _ fuel (by omega) (by omega) hst
    obtain ⟨k2, k1⟩ := xfill (uR u 8 (s_X5_mark 10 (u.1 8) (nI p) (nI (zpS f p) + 1))) (nI p)
    refine ⟨w, w1, w2.trans k2, fun k a b c d => (w3 k a b c d).trans ((k1 k b c d).trans ?_), ?_⟩
    · simp only [uR]
      rw [if_neg a]
    · rw [s_X0_lay_L4, if_neg (by rw [h.2.1]; exact nI_ge hpn (by omega)), eL, nI_add, nI_1 p]
      exact w4
/-- the class's line is laid by its pieces -/
def zLX (n : Nat) (u : xU) : Prop := zLD (u.1 2) n (u.1 9) (u.1 10) (u.1 11) (u.1 12) (u.1 13) (u.2 3) ∧ ∀ p, p < n → u.1 8 p = nI (zpS (u.1 2) p + 1)
def z0X (u : xU) : Prop := u.1 10 0 = 0 ∧ u.1 11 0 = 0 ∧ u.1 12 0 = 0 ∧ u.1 13 0 = 0 ∧ u.1 29 0 = 0
theorem zlay {u : xU} {n : Nat} (hn : u.2 1 = nI n) (hg : zGP (u.1 2) n) (h0 : z0X u) : zLX n (s_X0_lay u) ∧ (∀ k, k < 8 ∨ 13 < k → (s_X0_lay u).1 k = u.1 k) ∧ ∀ k, k ≠ 3 → (s_X0_lay u).2 k = u.2 k := by
  obtain ⟨z1, z2, z3, z4, -⟩ := h0
  have h10 := hg.1
  have h200 := zpS_200 hg
  obtain ⟨w, ⟨w1, w2, w3, w4, w5, w6⟩, w7, w8, w9⟩ := zlay4 hg n 0 u (((u.2 1).toInt - (0 : Int32).toInt).toNat + 1) (by rw [hn, nI_toInt (by omega), show (0 : Int32).toInt = 0 from rfl]; omega) (by omega) ⟨rfl, hn, fun q h => absurd h (by omega), fun q k h => absurd h (by omega), z1, z2⟩
  have e : s_X0_lay u = s_X0_lay_L56 ((((uZ w 3 (nI (zpS (u.1 2) n))).2 3).toInt + 1 - (1 : Int32).toInt).toNat + 1) (uZ w 3 (nI (zpS (u.1 2) n))) (nI (zpS (u.1 2) n)) 1 := w9
  have eN : (uZ w 3 (nI (zpS (u.1 2) n))).2 3 = nI (zpS (u.1 2) n) := rfl
  obtain ⟨⟨r1, r2, r3⟩, r4, r5⟩ := zlay56 (x := nI (zpS (u.1 2) n)) h200 (zpS (u.1 2) n) 0 (uZ w 3 (nI (zpS (u.1 2) n))) ((((uZ w 3 (nI (zpS (u.1 2) n))).2 3).toInt + 1 - (1 : Int32).toInt).toNat + 1) (by rw [eN, nI_toInt (by omega), show (1 : Int32).toInt = 1 from rfl]; omega) (by omega) eN ⟨by
      show w.1 12 0 = 0
      rw [w8 12 (by decide) (by decide) (by decide) (by decide)]; exact z3, by
      show w.1 13 0 = 0
      rw [w8 13 (by decide) (by decide) (by decide) (by decide)]; exact z4, fun s h => absurd h (by omega)⟩
  rw [show nI (0 + 1) = 1 from rfl, ← e] at r1 r2 r3 r4 r5
  have g : ∀ k, k ≠ 12 → k ≠ 13 → (s_X0_lay u).1 k = w.1 k := fun k a b => r5 k a b
  have g2 : (s_X0_lay u).1 2 = u.1 2 := (g 2 (by decide) (by decide)).trans w1
  refine ⟨⟨⟨?_, fun p k hp hk1 hk2 => ?_, ⟨?_, ?_, r1, r2⟩, fun s hs => ?_⟩, fun p hp => ?_⟩, fun k hk => ?_, fun k hk => ?_⟩
  · rw [g2, r4]
    rfl
  · rw [g2] at hk2 ⊢
    rw [g 9 (by decide) (by decide), g 10 (by decide) (by decide), g 11 (by decide) (by decide)]
    exact w4 p k hp hk1 hk2
  · rw [g 10 (by decide) (by decide)]; exact w5
  · rw [g 11 (by decide) (by decide)]; exact w6
  · rw [g2] at hs
    exact r3 s hs
  · rw [g2, g 8 (by decide) (by decide)]
    exact w3 p hp
  · exact (g k (by omega) (by omega)).trans (w8 k (by omega) (by omega) (by omega) (by omega))
  · rw [r4]
    simp only [uZ]
    rw [if_neg hk, w7]
