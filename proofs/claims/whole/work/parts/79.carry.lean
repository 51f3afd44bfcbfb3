/-! ===== clauses are carried out ===== -/
section ZCa
variable {u v : xU} {Z a s n c q : Nat}
theorem zr_p (u : xU) (k l b d : Int32) {r : Nat} (hr : 13 < r) : (s_X5_piece u k l b d).2.1 r = u.1 r := (zpk2 u k l b d).2 r (Or.inr hr)
theorem zr_s (u : xU) (p w x : Int32) {r : Nat} (hr : 13 < r) : (s_X5_set u p w x).2.1 r = u.1 r := by
  unfold s_X5_set
  split
  · rfl
  · split
    · rfl
    · split
      · split
        · rfl
        · exact ((xlay _).2 r (Or.inr hr)).trans (s_X2_write_1 _ _ _ _ (by omega))
      · split
        · rfl
        · exact ((xlay _).2 r (Or.inr hr)).trans (s_X2_write_1 _ _ _ _ (by omega))
theorem zr_r (u : xU) (p x : Int32) {r : Nat} (hr : 13 < r) : (s_X5_rule u p x).2.1 r = u.1 r := by
  unfold s_X5_rule
  split
  · rfl
  · split
    · rfl
    · simp only [uR]
      rw [if_neg (by omega)]
theorem zr_d (u : xU) {r : Nat} (hr : 13 < r) : (s_X5_drop u).2.1 r = u.1 r := by
  unfold s_X5_drop
  split
  · exact ((xlay _).2 r (Or.inr hr)).trans rfl
  · rfl
theorem zr_c (u : xU) (x : Int32) {r : Nat} (hr : 13 < r) : (s_X5_carryOut u x).2.1 r = u.1 r := by
  unfold s_X5_carryOut
  split
  · split <;> (dsimp only; exact zr_p _ _ _ _ _ hr)
  · split
    · split <;> (dsimp only; exact zr_s _ _ _ _ hr)
    · split
      · split <;> (dsimp only; exact zr_s _ _ _ _ hr)
      · split
        · split <;> (dsimp only; exact zr_r _ _ _ hr)
        · split <;> (dsimp only; exact zr_d _ hr)
theorem zdrop0 (h : zR u v n) : (s_X6_drop v).1 = -3 ↔ (s_X6_drop v).1 < 0 := by
  have h10 := h.n10
  have eM : v.1 1 (40 : Int32).toNatClampNeg = nI n := h.M
  unfold s_X6_drop
  rw [eM]
  rcases Nat.eq_zero_or_pos n with e | e
  · subst e
    rw [if_pos (show nI 0 = 0 from rfl)]
    exact ⟨fun _ => show (-3 : Int32) < 0 by decide, fun _ => rfl⟩
  · have es : nI n - 1 = nI (n - 1) := pk_sub (b := 1) e
    rw [if_neg (nI_ne0 e (by omega)), es]
    have e0 : (uA v 1 (40 : Int32).toNatClampNeg (nI (n - 1))).1 1 (40 : Int32).toNatClampNeg = nI (n - 1) := zA_s
    rw [e0]
    refine ⟨fun z => ?_, fun z => absurd z (nI_pos (by omega))⟩
    have z2 := congrArg Int32.toInt z
    rw [nI_toInt (by omega), show (-3 : Int32).toInt = -3 from rfl] at z2
    omega
theorem zword_c (u : xU) (hq : q < 12) : s_X4_wordOf u (nI q) = u.1 27 q := s_X5_cell_in (by decide) hq
theorem znum_c (u : xU) (hq : q < 12) {i : Nat} (hi : i < 4) : s_X4_numberOf u (nI q) (nI i) = u.1 28 (4 * q + i) := by
  unfold s_X4_numberOf
  rw [xix, s_X5_cell_in (by decide) (by omega)]
theorem zdo (h : zR u v n) (hq : q < 12) {w : Nat} (hw : w < 5) (h27 : u.1 27 q = nI w) (h18 : v.1 18 (5 * q) = nI w) (hn : ∀ i, i < zwt w → v.1 18 (5 * q + 1 + i) = u.1 28 (4 * q + i)) :
    (s_X5_carryOut u (nI q)).1 = (s_X6_does v (nI q)).1 ∧ ∃ m, zR (s_X5_carryOut u (nI q)).2 (s_X6_does v (nI q)).2 m := by
  have n0 : s_X4_numberOf u (nI q) 0 = u.1 28 (4 * q + 0) := znum_c u hq (i := 0) (by decide)
  have n1 : s_X4_numberOf u (nI q) 1 = u.1 28 (4 * q + 1) := znum_c u hq (i := 1) (by decide)
  have n2 : s_X4_numberOf u (nI q) 2 = u.1 28 (4 * q + 2) := znum_c u hq (i := 2) (by decide)
  have n3 : s_X4_numberOf u (nI q) 3 = u.1 28 (4 * q + 3) := znum_c u hq (i := 3) (by decide)
  have i5 : (5 * nI q).toNatClampNeg = 5 * q := by rw [show (5 : Int32) * nI q = nI (5 * q) from pk_mul 5 q, nI_clamp (by omega)]
  have i6 : ((5 * nI q) + 1).toNatClampNeg = 5 * q + 1 + 0 := by rw [show (5 : Int32) * nI q = nI (5 * q) from pk_mul 5 q, show nI (5 * q) + 1 = nI (5 * q + 1) from nI_add (5 * q) 1, nI_clamp (by omega)]
  have i7 : ((5 * nI q) + 2).toNatClampNeg = 5 * q + 1 + 1 := by rw [show (5 : Int32) * nI q = nI (5 * q) from pk_mul 5 q, show nI (5 * q) + 2 = nI (5 * q + 2) from nI_add (5 * q) 2, nI_clamp (by omega)]
  have i8 : ((5 * nI q) + 3).toNatClampNeg = 5 * q + 1 + 2 := by rw [show (5 : Int32) * nI q = nI (5 * q) from pk_mul 5 q, show nI (5 * q) + 3 = nI (5 * q + 3) from nI_add (5 * q) 3, nI_clamp (by omega)]
  have i9 : ((5 * nI q) + 4).toNatClampNeg = 5 * q + 1 + 3 := by rw [show (5 : Int32) * nI q = nI (5 * q) from pk_mul 5 q, show nI (5 * q) + 4 = nI (5 * q + 4) from nI_add (5 * q) 4, nI_clamp (by omega)]
  unfold s_X5_carryOut s_X6_does
  rw [zword_c u hq, n0, n1, n2, n3, i5, i6, i7, i8, i9, h27, h18]
  have h5 : w = 0 ∨ w = 1 ∨ w = 2 ∨ w = 3 ∨ w = 4 := by omega
  rcases h5 with rfl | rfl | rfl | rfl | rfl
  · have m0 := hn 0 (by decide)
    have m1 := hn 1 (by decide)
    have m2 := hn 2 (by decide)
    have m3 := hn 3 (by decide)
    rw [if_pos (show nI 0 = 0 from rfl), if_pos (show nI 0 = 0 from rfl), m0, m1, m2, m3]
    obtain ⟨e1, m, e2⟩ := e_piece h (u.1 28 (4 * q + 0)) (u.1 28 (4 * q + 1)) (u.1 28 (4 * q + 2)) (u.1 28 (4 * q + 3))
    rw [e1]
    by_cases c : (s_X6_piece v (u.1 28 (4 * q + 0)) (u.1 28 (4 * q + 1)) (u.1 28 (4 * q + 2)) (u.1 28 (4 * q + 3))).1 < 0
    · rw [if_pos c, if_pos c]
      dsimp only
      exact ⟨rfl, m, e2⟩
    · rw [if_neg c, if_neg c]
      dsimp only
      exact ⟨rfl, m, e2⟩
  · have m0 := hn 0 (by decide)
    have m1 := hn 1 (by decide)
    rw [if_neg (show ¬ nI 1 = 0 by decide), if_pos (show nI 1 = 1 from rfl), if_neg (show ¬ nI 1 = 0 by decide), if_pos (show nI 1 = 1 from rfl), m0, m1]
    obtain ⟨e1, m, e2⟩ := e_set h (u.1 28 (4 * q + 0)) 1 (u.1 28 (4 * q + 1))
    rw [e1]
    by_cases c : (s_X6_set v (u.1 28 (4 * q + 0)) 1 (u.1 28 (4 * q + 1))).1 = -1000
    · rw [if_pos c, if_pos c]
      dsimp only
      exact ⟨rfl, m, e2⟩
    · rw [if_neg c, if_neg c]
      dsimp only
      exact ⟨rfl, m, e2⟩
  · have m0 := hn 0 (by decide)
    have m1 := hn 1 (by decide)
    rw [if_neg (show ¬ nI 2 = 0 by decide), if_neg (show ¬ nI 2 = 1 by decide), if_pos (show nI 2 = 2 from rfl), if_neg (show ¬ nI 2 = 0 by decide), if_neg (show ¬ nI 2 = 1 by decide), if_pos (show nI 2 = 2 from rfl), m0, m1]
    obtain ⟨e1, m, e2⟩ := e_set h (u.1 28 (4 * q + 0)) 2 (u.1 28 (4 * q + 1))
    rw [e1]
    by_cases c : (s_X6_set v (u.1 28 (4 * q + 0)) 2 (u.1 28 (4 * q + 1))).1 = -1000
    · rw [if_pos c, if_pos c]
      dsimp only
      exact ⟨rfl, m, e2⟩
    · rw [if_neg c, if_neg c]
      dsimp only
      exact ⟨rfl, m, e2⟩
  · have m0 := hn 0 (by decide)
    rw [if_neg (show ¬ nI 3 = 0 by decide), if_neg (show ¬ nI 3 = 1 by decide), if_neg (show ¬ nI 3 = 2 by decide), if_pos (show nI 3 = 3 from rfl), if_neg (show ¬ nI 3 = 0 by decide), if_neg (show ¬ nI 3 = 1 by decide), if_neg (show ¬ nI 3 = 2 by decide), if_pos (show nI 3 = 3 from rfl), m0]
    obtain ⟨e1, m, e2⟩ := e_rule h 5 (u.1 28 (4 * q + 0))
    rw [e1]
    by_cases c : lg_cmp (s_X6_rule_ v 5 (u.1 28 (4 * q + 0))).1 xNO = 0
    · rw [if_pos c, if_pos c]
      dsimp only
      exact ⟨rfl, m, e2⟩
    · rw [if_neg c, if_neg c]
      dsimp only
      exact ⟨rfl, m, e2⟩
  · rw [if_neg (show ¬ nI 4 = 0 by decide), if_neg (show ¬ nI 4 = 1 by decide), if_neg (show ¬ nI 4 = 2 by decide), if_neg (show ¬ nI 4 = 3 by decide), if_neg (show ¬ nI 4 = 0 by decide), if_neg (show ¬ nI 4 = 1 by decide), if_neg (show ¬ nI 4 = 2 by decide), if_neg (show ¬ nI 4 = 3 by decide)]
    obtain ⟨e1, m, e2⟩ := e_drop h
    have e3 := zdrop0 h
    rw [e1]
    by_cases c : (s_X6_drop v).1 < 0
    · rw [if_pos (e3.mpr c), if_pos c]
      dsimp only
      exact ⟨rfl, m, e2⟩
    · rw [if_neg (fun z => c (e3.mp z)), if_neg c]
      dsimp only
      exact ⟨rfl, m, e2⟩
theorem zcaL {d : Nat} (hd : d ≤ 12) (x1 y1 : Int32) : ∀ (m q : Nat) (u v : xU) (n : Nat) (x : Int32) (f1 f2 : Nat), m < f1 → m < f2 → q + m = d → zR u v n → u.2 13 = nI d → v.2 9 = nI d → zCl u v d →
    (s_X5_text_L30 f1 u x1 x (nI q)).1 = (s_X6_text_L74 f2 v y1 x (nI q)).1 ∧ ∃ z, zR (s_X5_text_L30 f1 u x1 x (nI q)).2 (s_X6_text_L74 f2 v y1 x (nI q)).2 z := by
  intro m
  induction m with
  | zero =>
    intro q u v n x f1 f2 hf1 hf2 hq h h13 h9 hC
    obtain ⟨f1, rfl⟩ : ∃ z, f1 = z + 1 := ⟨f1 - 1, by omega⟩
    obtain ⟨f2, rfl⟩ : ∃ z, f2 = z + 1 := ⟨f2 - 1, by omega⟩
    rw [s_X5_text_L30, s_X6_text_L74, h13, h9, if_pos (nI_le (by omega) (by omega)), if_pos (nI_le (by omega) (by omega))]
    exact ⟨rfl, n, h⟩
  | succ m ih =>
    intro q u v n x f1 f2 hf1 hf2 hq h h13 h9 hC
    obtain ⟨f1, rfl⟩ : ∃ z, f1 = z + 1 := ⟨f1 - 1, by omega⟩
    obtain ⟨f2, rfl⟩ : ∃ z, f2 = z + 1 := ⟨f2 - 1, by omega⟩
    obtain ⟨w, hw, w1, w2, w3⟩ := hC q (by omega)
    obtain ⟨e1, n2, e2⟩ := zdo h (by omega) hw w1 w2 w3
    have k13 : (s_X5_carryOut u (nI q)).2.2 13 = nI d := ((xK_carry u (nI q)).2 13 (by decide)).trans h13
    have dk := xdo_k v (nI q)
    have k9 : (s_X6_does v (nI q)).2.2 9 = nI d := by rw [dk.1]; exact h9
    have hC2 : zCl (s_X5_carryOut u (nI q)).2 (s_X6_does v (nI q)).2 d := hC.to (zr_c u (nI q) (by decide)) (zr_c u (nI q) (by decide)) (dk.2 18 (by decide))
    rw [s_X5_text_L30, s_X6_text_L74, h13, h9, if_neg (nI_ge (by omega) (by omega)), if_neg (nI_ge (by omega) (by omega)), e1, nI_1]
    unfold s_X6_bit
    by_cases c : (s_X6_does v (nI q)).1 = 0
    · rw [if_pos c, if_pos c, Int32.add_zero]
      exact ih (q + 1) _ _ n2 x f1 f2 (by omega) (by omega) (by omega) e2 k13 k9 hC2
    · rw [if_neg c, if_neg c]
      exact ih (q + 1) _ _ n2 (x + 1) f1 f2 (by omega) (by omega) (by omega) e2 k13 k9 hC2
/-- the tape is empty again -/
theorem zR.tape {u' v' : xU} (h : zR u v n) (hu : tK u u') (hv : zFv v v') : zR (uZ u' 12 0) (uZ v' 4 0) n := by
  obtain ⟨⟨hr, z0, hk, hs, ⟨t1, t2, t3, t4⟩, zm, h13, hc⟩, hl⟩ := h
  obtain ⟨a1, a2⟩ := hu
  obtain ⟨b1, b2⟩ := hv
  refine ⟨⟨?_, ?_, ?_, ?_, ⟨rfl, ⟨by show 0 ≤ (0 : Int32).toInt; decide, by show (0 : Int32).toInt ≤ 60; decide⟩, ?_, ?_⟩, ?_, ?_, ?_⟩, ?_⟩
  · show zRn (u'.1 2) (u'.2 1) (v'.1 1) (u'.1 5) n
    rw [a1 2 (by decide), a2 1 (by decide), b1 1 (by decide), a1 5 (by decide)]; exact hr
  · show u'.1 10 0 = 0 ∧ u'.1 11 0 = 0 ∧ u'.1 12 0 = 0 ∧ u'.1 13 0 = 0 ∧ u'.1 29 0 = 0
    rw [a1 10 (by decide), a1 11 (by decide), a1 12 (by decide), a1 13 (by decide), a1 29 (by decide)]; exact z0
  · show (u'.2 0 = 0 ∧ v'.2 0 = 0) ∨ (u'.2 0 = 1 ∧ v'.2 0 = 1 ∧ ∃ m, zRn (u'.1 4) (u'.2 2) (v'.1 2) (u'.1 6) m)
    rw [a2 0 (by decide), b2 0 (by decide) (by decide) (by decide) (by decide) (by decide), a1 4 (by decide), a2 2 (by decide), b1 2 (by decide), a1 6 (by decide)]; exact hk
  · intro k hk4
    have e1 : (uZ u' 12 0).2 (4 + k) = u.2 (4 + k) := by
      simp only [uZ]
      rw [if_neg (by omega)]
      exact a2 _ (by omega)
    have e2 : (uZ u' 12 0).2 (8 + k) = u.2 (8 + k) := by
      simp only [uZ]
      rw [if_neg (by omega)]
      exact a2 _ (by omega)
    have e3 : (uZ u' 12 0).1 (21 + k) = u.1 (21 + k) := a1 _ (by omega)
    rw [e1, e2, e3]
    show v'.1 8 k = _ ∧ v'.1 9 k = _ ∧ _ ∧ _ ∧ ∀ i, i < 40 → v'.1 10 (40 * k + i) = _
    rw [b1 8 (by decide), b1 9 (by decide), b1 10 (by decide)]
    exact hs k hk4
  · show ∀ i, i < 60 → v'.1 14 i = u'.1 26 i
    rw [b1 14 (by decide), a1 26 (by decide)]; exact t3
  · show ∀ i, i < 60 → 0 ≤ (u'.1 26 i).toInt
    rw [a1 26 (by decide)]; exact t4
  · show v'.1 3 0 = 0 ∧ v'.1 4 0 = 0 ∧ v'.1 6 0 = 0 ∧ v'.1 7 0 = 0
    rw [b1 3 (by decide), b1 4 (by decide), b1 6 (by decide), b1 7 (by decide)]; exact zm
  · show v'.1 13 0 = 0
    rw [b1 13 (by decide)]; exact h13
  · show XCv (v'.1 15) (v'.1 16) (v'.1 17)
    rw [b1 15 (by decide), b1 16 (by decide), b1 17 (by decide)]; exact hc
  · show zLD (u'.1 2) n (u'.1 9) (u'.1 10) (u'.1 11) (u'.1 12) (u'.1 13) (u'.2 3) ∧ ∀ p, p < n → u'.1 8 p = nI (zpS (u'.1 2) p + 1)
    rw [a1 2 (by decide), a1 9 (by decide), a1 10 (by decide), a1 11 (by decide), a1 12 (by decide), a1 13 (by decide), a1 8 (by decide), a2 3 (by decide)]; exact hl
theorem e_text (h : zR u v n) : (s_X5_text u).1 = (s_X6_text v).1 ∧ ∃ m, zR (s_X5_text u).2 (s_X6_text v).2 m := by
  obtain ⟨t1, t2, t3, t4⟩ := h.1.2.2.2.2.1
  obtain ⟨Z, hZ, eZ⟩ := nI_of_toInt t2.1
  have z60 : Z ≤ 60 := by rw [eZ, nI_toInt hZ] at t2; omega
  have hX : zX (uZ (uZ u 14 0) 13 0) (uZ (uZ v 5 0) 9 0) Z := ⟨z60, eZ, t1.trans eZ, ⟨t3, t4⟩, h.1.2.2.2.2.2.2.2⟩
  have hs : XTs v := ⟨h.1.2.2.2.2.2.2.2, by show 0 ≤ (v.2 4).toInt; rw [t1]; exact t2.1, by show (v.2 4).toInt ≤ 60; rw [t1]; exact t2.2⟩
  have hk := xtx1 hs
  have hp : zP (uZ (uZ u 14 0) 13 0) (uZ (uZ v 5 0) 9 0) Z 0 := ⟨hX, rfl, rfl, Nat.zero_le _⟩
  have hn := znx hp
  have fv0 : zFv v (s_X6_next (uZ (uZ v 5 0) 9 0)) := ⟨fun r _ => by rw [hn.2.1]; rfl, fun k k5 k6 k7 k8 k9 => (hn.2.2 k k5 k6 k7 k8).trans (by simp only [uZ]; rw [if_neg k9, if_neg k5])⟩
  have key := zfaL (Z := Z) ((((((s_X6_clause (s_X6_next (uZ (uZ v 5 0) 9 0))).2).2 4).toInt - (((s_X6_clause (s_X6_next (uZ (uZ v 5 0) 9 0))).2).2 5).toInt) + ((s_X6_clause (s_X6_next (uZ (uZ v 5 0) 9 0))).1).toInt).toNat + 1) (uZ (uZ u 14 0) 13 0) (s_X6_next (uZ (uZ v 5 0) 9 0)) 0 0 (((60 : Int32).toInt - (0 : Int32).toInt).toNat + 1) (by rw [show (60 : Int32).toInt = 60 from rfl, show (0 : Int32).toInt = 0 from rfl]; omega) ⟨_, hp, rfl, fun _ _ => rfl⟩ rfl (hn.2.2 9 (by decide) (by decide) (by decide) (by decide)) (fun q hq => absurd hq (by omega)) (by decide) hk (Nat.lt_succ_self _)
  rw [show nI 0 = (0 : Int32) from rfl] at key
  have eF : s_X4_faultOf u = s_X4_faultOf_L12 (((60 : Int32).toInt - (0 : Int32).toInt).toNat + 1) (uZ (uZ u 14 0) 13 0) 0 := rfl
  rw [← eF] at key
  have tk := tK_fo u
  unfold s_X5_text s_X6_text
  rcases key with ⟨s, w, j1, j2, j3, j4⟩ | ⟨j1, d, w, j2, j3, j4, j5, j6, j7⟩
  · have ns : ¬ nI s = -1 := fun z => by
      have z2 := congrArg Int32.toInt z
      rw [nI_toInt (by omega), show (-1 : Int32).toInt = -1 from rfl] at z2
      omega
    rw [j1, if_neg ns, j3]
    exact ⟨rfl, n, h.tape tk (fv0.t j4)⟩
  · rw [j1, if_pos rfl, j6]
    have hR := h.tape tk (fv0.t j7)
    have x := zcaL j2 (-1) 1 d 0 (uZ (s_X4_faultOf u).2 12 0) (uZ w 4 0) n 0 ((((uZ (s_X4_faultOf u).2 12 0).2 13).toInt - (0 : Int32).toInt).toNat + 1) ((((uZ w 4 0).2 9).toInt - (0 : Int32).toInt).toNat + 1) (by show d < (((s_X4_faultOf u).2.2 13).toInt - (0 : Int32).toInt).toNat + 1; rw [j3, nI_toInt (by omega), show (0 : Int32).toInt = 0 from rfl]; omega) (by show d < ((w.2 9).toInt - (0 : Int32).toInt).toNat + 1; rw [j4, nI_toInt (by omega), show (0 : Int32).toInt = 0 from rfl]; omega) (by omega) hR j3 j4 (j5.to rfl rfl rfl)
    rw [show nI 0 = (0 : Int32) from rfl] at x
    exact x
end ZCa
