/-! ===== pieces and rules are set; the image ===== -/
theorem zuc {f g : Nat → Int32} (h : ∀ i, i < 40 → g i = f i) (j : Nat) (x : Int32) : ∀ i, i < 40 → upd g j x i = upd f j x i := by
  intro i hi
  by_cases e : i = j
  · rw [e, pk_us, pk_us]
  · rw [pk_un e, pk_un e]
    exact h i hi
theorem zRn.cong {f g r f' g' r' : Nat → Int32} {N N' : Int32} {n : Nat} (h : zRn f N g r n) (hf : ∀ i, i < 40 → f' i = f i) (hN : N' = N) (hg : ∀ i, i < 49 → g' i = g i) (hr : ∀ j, j < 8 → r' j = r j) : zRn f' N' g' r' n := by
  obtain ⟨h1, h2, h3, h4, h5, h6, h7⟩ := h
  refine ⟨h1.cong hf, hN.trans h2, (hg 40 (by decide)).trans h3, fun i hi => ?_, fun j hj => ?_, ?_, ?_⟩
  · rw [hg i (by omega), hf i hi]
    exact h4 i hi
  · rw [hg _ (by omega), hr j hj]
    exact h5 j hj
  · rw [hr 6 (by decide)]; exact h6
  · rw [hr 7 (by decide)]; exact h7
theorem zR0.lay {u v : xU} {n : Nat} (h : zR0 u v n) : zR (s_X0_lay u) v n := by
  obtain ⟨hr, h0, hk, hs, ht, zm, h13, hc⟩ := h
  obtain ⟨l1, l2, l3⟩ := zlay (n := n) hr.2.1 hr.1 h0
  have z := l1.1.2.2.1
  refine ⟨⟨?_, ⟨z.1, z.2.1, z.2.2.1, z.2.2.2, by rw [l2 29 (by omega)]; exact h0.2.2.2.2⟩, ?_, ?_, ?_, zm, h13, hc⟩, l1⟩
  · rw [l2 2 (by omega), l2 5 (by omega), l3 1 (by decide)]; exact hr
  · unfold zRk at hk ⊢
    rw [l3 0 (by decide), l3 2 (by decide), l2 4 (by omega), l2 6 (by omega)]; exact hk
  · intro k hk4
    rw [l3 (4 + k) (by omega), l3 (8 + k) (by omega), l2 (21 + k) (by omega)]; exact hs k hk4
  · unfold zRt at ht ⊢
    rw [l3 12 (by decide), l2 26 (by omega)]; exact ht
section ZS
variable {u v w : xU} {n p S s : Nat}
theorem zR.z0 (h : zR u v n) : z0X u := h.1.2.1
theorem zR.xv (h : zR u v n) : XV (u.1 2) (u.2 1) := by rw [h.N]; exact h.g.xv
/-- only the pieces and the rules were touched -/
theorem zR0.of {u' v' : xU} {m : Nat} (h : zR0 u v n) (hr : zRn (u'.1 2) (u'.2 1) (v'.1 1) (u'.1 5) m) (h1 : ∀ k, k ≠ 2 → k ≠ 5 → u'.1 k = u.1 k) (h2 : ∀ k, k ≠ 1 → u'.2 k = u.2 k) (h3 : ∀ k, k ≠ 1 → v'.1 k = v.1 k) (h4 : v'.2 = v.2) : zR0 u' v' m := by
  obtain ⟨-, z0, hk, hs, ht, zm, h13, hc⟩ := h
  refine ⟨hr, ?_, ?_, ?_, ?_, ?_, ?_, ?_⟩
  · unfold z0X
    rw [h1 10 (by decide) (by decide), h1 11 (by decide) (by decide), h1 12 (by decide) (by decide), h1 13 (by decide) (by decide), h1 29 (by decide) (by decide)]; exact z0
  · unfold zRk at hk ⊢
    rw [h4, h2 0 (by decide), h2 2 (by decide), h1 4 (by decide) (by decide), h1 6 (by decide) (by decide), h3 2 (by decide)]; exact hk
  · intro k hk4
    rw [h2 (4 + k) (by omega), h2 (8 + k) (by omega), h1 (21 + k) (by omega) (by omega), h3 8 (by decide), h3 9 (by decide), h3 10 (by decide)]; exact hs k hk4
  · unfold zRt at ht ⊢
    rw [h4, h2 12 (by decide), h1 26 (by decide) (by decide), h3 14 (by decide)]; exact ht
  · unfold z0M
    rw [h3 3 (by decide), h3 4 (by decide), h3 6 (by decide), h3 7 (by decide)]; exact zm
  · rw [h3 13 (by decide)]; exact h13
  · show XCv (v'.1 15) (v'.1 16) (v'.1 17)
    rw [h3 15 (by decide), h3 16 (by decide), h3 17 (by decide)]; exact hc
theorem zgp {f : Nat → Int32} {m : Nat} (hm : m ≤ 10) (h : XV f (nI m)) : zGP f m := by
  obtain ⟨k, h1, h2, h3, h4⟩ := h
  have e : m = k := (nI_eq (by omega) (by omega)).mp h2
  subst e
  exact ⟨h1, h3, h4⟩
theorem e_drop (h : zR u v n) : (s_X5_drop u).1 = (s_X6_drop v).1 ∧ ∃ m, zR (s_X5_drop u).2 (s_X6_drop v).2 m := by
  have h10 := h.n10
  have hN := h.N
  have eM : v.1 1 (40 : Int32).toNatClampNeg = nI n := h.M
  unfold s_X5_drop s_X6_drop
  rw [eM, hN]
  rcases Nat.eq_zero_or_pos n with e | e
  · subst e
    rw [if_neg (by decide), if_pos (by decide)]
    exact ⟨rfl, _, h⟩
  · rw [if_pos (show (1 : Int32) ≤ nI n from nI_le (a := 1) e (by omega)), if_neg (nI_ne0 e (by omega))]
    have es : nI n - 1 = nI (n - 1) := pk_sub (b := 1) e
    rw [es]
    obtain ⟨hg, hN', h40, hi, hj, hb⟩ := h.1.1
    have hr : zRn ((uZ u 1 (nI (n - 1))).1 2) ((uZ u 1 (nI (n - 1))).2 1) ((uA v 1 (40 : Int32).toNatClampNeg (nI (n - 1))).1 1) ((uZ u 1 (nI (n - 1))).1 5) (n - 1) := by
      refine ⟨⟨by omega, hg.2.1, fun p hp => hg.2.2 p (by omega)⟩, rfl, show upd (v.1 1) 40 (nI (n - 1)) 40 = nI (n - 1) from pk_us, fun i hi' => ?_, fun j hj' => ?_, hb⟩
      · show upd (v.1 1) 40 _ i = _
        rw [pk_un (by omega)]
        exact hi i hi'
      · show upd (v.1 1) 40 _ (41 + j) = _
        rw [pk_un (by omega)]
        exact hj j hj'
    have hz : zR0 (uZ u 1 (nI (n - 1))) (uA v 1 (40 : Int32).toNatClampNeg (nI (n - 1))) (n - 1) := h.1.of hr (fun k _ _ => rfl) (fun k hk => by simp only [uZ]; rw [if_neg hk]) (fun k hk => by simp only [uA]; rw [if_neg hk]) rfl
    have hl := hz.lay
    exact ⟨hl.N.trans hl.M.symm, _, hl⟩
theorem e_set (h : zR u v n) (p1 p2 p3 : Int32) : (s_X5_set u p1 p2 p3).1 = (s_X6_set v p1 p2 p3).1 ∧ ∃ m, zR (s_X5_set u p1 p2 p3).2 (s_X6_set v p1 p2 p3).2 m := by
  have h10 := h.n10
  have hN := h.N
  unfold s_X5_set s_X6_set
  rw [h.1.1.has p1, zinl v p2 0 3 0 3 rfl rfl]
  by_cases a : s_X2_has u p1 = 0
  · rw [if_pos a, if_pos a]
    exact ⟨rfl, _, h⟩
  · rw [if_neg a, if_neg a]
    obtain ⟨p, hp, rfl⟩ := h.1.1.isp a
    by_cases b : s_X5_within p2 0 3 = 0
    · rw [if_pos b, if_pos b]
      exact ⟨rfl, _, h⟩
    · rw [if_neg b, if_neg b]
      have key : ∀ j, j < 4 → (if (s_X5_fits (nI j) p3) = 0 then (((-1000) : Int32), u) else (s_X2_read u (nI p) (nI j), s_X0_lay (s_X2_write u (nI p) (nI j) p3))).1 = (if (s_X6_mayBe v (nI j) p3) = 0 then (((-1000) : Int32), v) else (s_X6_of0 v (nI p) (nI j), uA v 1 ((4 * nI p) + nI j).toNatClampNeg p3)).1 ∧
          ∃ m, zR (if (s_X5_fits (nI j) p3) = 0 then (((-1000) : Int32), u) else (s_X2_read u (nI p) (nI j), s_X0_lay (s_X2_write u (nI p) (nI j) p3))).2 (if (s_X6_mayBe v (nI j) p3) = 0 then (((-1000) : Int32), v) else (s_X6_of0 v (nI p) (nI j), uA v 1 ((4 * nI p) + nI j).toNatClampNeg p3)).2 m := by
        intro j hj
        rw [zfits v hj]
        by_cases c : s_X5_fits (nI j) p3 = 0
        · rw [if_pos c, if_pos c]
          exact ⟨rfl, _, h⟩
        · rw [if_neg c, if_neg c]
          have q := xfit hj rfl c
          have xw := xwv h.xv (p := nI p) hj q.1 q.2
          rw [s_X2_write_in h10 hN hp hj] at xw ⊢
          have ei : ((4 * nI p) + nI j).toNatClampNeg = 4 * p + j := by
            rw [show (4 : Int32) * nI p = nI (4 * p) from pk_mul 4 p, nI_add, nI_clamp (by omega)]
          rw [ei]
          obtain ⟨hg, hN', h40, hi, hjj, hb⟩ := h.1.1
          have hr : zRn ((uR u 2 (upd (u.1 2) (4 * p + j) p3)).1 2) ((uR u 2 (upd (u.1 2) (4 * p + j) p3)).2 1) ((uA v 1 (4 * p + j) p3).1 1) ((uR u 2 (upd (u.1 2) (4 * p + j) p3)).1 5) n := by
            refine ⟨zgp h10 (by rw [← hN]; exact xw), hN, ?_, zuc hi _ _, fun i hi' => ?_, hb⟩
            · show upd (v.1 1) (4 * p + j) p3 40 = _
              rw [pk_un (by omega)]
              exact h40
            · show upd (v.1 1) (4 * p + j) p3 (41 + i) = _
              rw [pk_un (by omega)]
              exact hjj i hi'
          have hz : zR0 (uR u 2 (upd (u.1 2) (4 * p + j) p3)) (uA v 1 (4 * p + j) p3) n := h.1.of hr (fun k hk _ => by simp only [uR]; rw [if_neg hk]) (fun k hk => rfl) (fun k hk => by simp only [uA]; rw [if_neg hk]) rfl
          exact ⟨(h.1.1.of hp hj).symm, _, hz.lay⟩
      by_cases c : p2 = 3
      · rw [if_pos c]
        simp only [if_pos c]
        exact key 0 (by decide)
      · rw [if_neg c]
        simp only [if_neg c]
        obtain ⟨j, hj, e⟩ := xv_what b c
        rw [e]
        exact key j hj
theorem zrule_w (v : xU) (x : Int32) : ∀ j : Nat, j < 8 → s_X6_mayRule v (nI j) x = s_X5_within x (s_X5_cell (xStL 4) (xStV 4) (nI j)) (s_X5_cell (xStL 5) (xStV 5) (nI j)) := by
  intro j hj
  have h8 : j = 0 ∨ j = 1 ∨ j = 2 ∨ j = 3 ∨ j = 4 ∨ j = 5 ∨ j = 6 ∨ j = 7 := by omega
  unfold s_X6_mayRule
  rcases h8 with rfl | rfl | rfl | rfl | rfl | rfl | rfl | rfl
  · rw [if_pos (by decide), zinl v x 1 1000000 1 1000000 rfl rfl]; rfl
  · rw [if_neg (by decide), if_neg (by decide), if_neg (by decide), if_neg (by decide), if_neg (by decide), zinl v x 0 160 0 160 rfl rfl]; rfl
  · rw [if_neg (by decide), if_neg (by decide), if_neg (by decide), if_neg (by decide), if_neg (by decide), zinl v x 0 160 0 160 rfl rfl]; rfl
  · rw [if_neg (by decide), if_neg (by decide), if_neg (by decide), if_neg (by decide), if_neg (by decide), zinl v x 0 160 0 160 rfl rfl]; rfl
  · rw [if_neg (by decide), if_pos (by decide), zinl v x 0 99 0 99 rfl rfl]; rfl
  · rw [if_neg (by decide), if_neg (by decide), if_pos (by decide), zinl v x 0 200 0 200 rfl rfl]; rfl
  · rw [if_neg (by decide), if_neg (by decide), if_neg (by decide), if_pos (by decide), zinl v x (-1000000) 1000000 (-1000000) 1000000 rfl rfl]; rfl
  · rw [if_neg (by decide), if_neg (by decide), if_neg (by decide), if_neg (by decide), if_pos (by decide), zinl v x (-10000) 10000 (-10000) 10000 rfl rfl]; rfl
theorem e_rule (h : zR u v n) (p1 p2 : Int32) : (s_X5_rule u p1 p2).1 = (s_X6_rule_ v p1 p2).1 ∧ ∃ m, zR (s_X5_rule u p1 p2).2 (s_X6_rule_ v p1 p2).2 m := by
  unfold s_X5_rule s_X6_rule_
  rw [zinl v p1 0 7 0 7 rfl rfl, show (8 : Int32) - 1 = 7 from rfl]
  by_cases a : s_X5_within p1 0 7 = 0
  · rw [if_pos a, if_pos a]
    exact ⟨rfl, _, h⟩
  · rw [if_neg a, if_neg a]
    obtain ⟨j, hj, rfl⟩ := zwn (S := 7) (x := p1) (by decide) a
    rw [zrule_w v p2 j (by omega)]
    by_cases b : s_X5_within p2 (s_X5_cell (xStL 4) (xStV 4) (nI j)) (s_X5_cell (xStL 5) (xStV 5) (nI j)) = 0
    · rw [if_pos b, if_pos b]
      exact ⟨rfl, _, h⟩
    · rw [if_neg b, if_neg b]
      refine ⟨congrArg Int32.toInt64 (h.rl (j := j) (by omega)), n, ?_, h.2⟩
      rw [s_X5_mark_in (by decide) (by omega), show (41 : Int32) + nI j = nI (41 + j) from nI_add 41 j, nI_clamp (by omega)]
      obtain ⟨hg, hN', h40, hi, hjj, hb6, hb7⟩ := h.1.1
      have hw := xwithin b
      refine h.1.of ?_ (fun k _ hk => by simp only [uR]; rw [if_neg hk]) (fun k hk => rfl) (fun k hk => by simp only [uA]; rw [if_neg hk]) rfl
      refine ⟨hg, hN', ?_, fun i hi' => ?_, fun i hi' => ?_, ?_, ?_⟩
      · show upd (v.1 1) (41 + j) p2 40 = _
        rw [pk_un (by omega)]
        exact h40
      · show upd (v.1 1) (41 + j) p2 i = _
        rw [pk_un (by omega)]
        exact hi i hi'
      · show upd (v.1 1) (41 + j) p2 (41 + i) = upd (u.1 5) j p2 i
        by_cases e : i = j
        · subst e
          rw [pk_us, pk_us]
        · rw [pk_un (by omega), pk_un e]
          exact hjj i hi'
      · show -1000000 ≤ (upd (u.1 5) j p2 6).toInt ∧ (upd (u.1 5) j p2 6).toInt ≤ 1000000
        by_cases e : 6 = j
        · subst e
          rw [pk_us]
          exact hw
        · rw [pk_un e]
          exact hb6
      · show -10000 ≤ (upd (u.1 5) j p2 7).toInt ∧ (upd (u.1 5) j p2 7).toInt ≤ 10000
        by_cases e : 7 = j
        · subst e
          rw [pk_us]
          exact hw
        · rw [pk_un e]
          exact hb7
theorem e_piece (h : zR u v n) (p1 p2 p3 p4 : Int32) : (s_X5_piece u p1 p2 p3 p4).1 = (s_X6_piece v p1 p2 p3 p4).1 ∧ ∃ m, zR (s_X5_piece u p1 p2 p3 p4).2 (s_X6_piece v p1 p2 p3 p4).2 m := by
  have h10 := h.n10
  have hN := h.N
  have hk1 := xpc_k v p1 p2 p3 p4
  revert hk1
  have eM : v.1 1 (40 : Int32).toNatClampNeg = nI n := h.M
  have m0 : s_X6_mayBe v 0 p1 = s_X5_fits 0 p1 := zfits v (j := 0) (by decide) p1
  have m1 : s_X6_mayBe v 1 p2 = s_X5_fits 1 p2 := zfits v (j := 1) (by decide) p2
  have m2 : s_X6_mayBe v 2 p3 = s_X5_fits 2 p3 := zfits v (j := 2) (by decide) p3
  have m3 : s_X6_mayBe v 3 p4 = s_X5_fits 3 p4 := zfits v (j := 3) (by decide) p4
  unfold s_X5_piece s_X6_piece
  rw [m0, m1, m2, m3, eM]
  by_cases f0 : s_X5_fits 0 p1 = 0
  · rw [if_pos f0, if_pos f0]
    exact fun _ => ⟨rfl, _, h⟩
  · rw [if_neg f0, if_neg f0]
    by_cases f1 : s_X5_fits 1 p2 = 0
    · rw [if_pos f1, if_pos f1]
      exact fun _ => ⟨rfl, _, h⟩
    · rw [if_neg f1, if_neg f1]
      by_cases f2 : s_X5_fits 2 p3 = 0
      · rw [if_pos f2, if_pos f2]
        exact fun _ => ⟨rfl, _, h⟩
      · rw [if_neg f2, if_neg f2]
        by_cases f3 : s_X5_fits 3 p4 = 0
        · rw [if_pos f3, if_pos f3]
          exact fun _ => ⟨rfl, _, h⟩
        · rw [if_neg f3, if_neg f3]
          by_cases e10 : n = 10
          · rw [if_pos (show nI n = 10 by rw [e10]; rfl), if_neg (show ¬ u.2 1 < 10 by rw [hN, e10]; decide)]
            exact fun _ => ⟨rfl, _, h⟩
          · have hn : n < 10 := by omega
            have hlt : u.2 1 < 10 := by rw [hN]; exact nI_lt (b := 10) hn (by decide)
            rw [if_pos hlt, if_neg (show ¬ nI n = 10 by rw [show (10 : Int32) = nI 10 from rfl, nI_eq (by omega) (by omega)]; exact e10)]
            obtain ⟨w1, w2⟩ := xv_piece h.xv (by rw [hN]; exact nI_ge (b := 10) hn (by decide)) f0 f1 f2 f3
            rw [w1]
            have i0 : (4 * nI n).toNatClampNeg = 4 * n := by rw [show (4 : Int32) * nI n = nI (4 * n) from pk_mul 4 n, nI_clamp (by omega)]
            have i1 : (4 * nI n + 1).toNatClampNeg = 4 * n + 1 := by rw [show (4 : Int32) * nI n = nI (4 * n) from pk_mul 4 n, nI_1, nI_clamp (by omega)]
            have i2 : (4 * nI n + 2).toNatClampNeg = 4 * n + 2 := by rw [show (4 : Int32) * nI n = nI (4 * n) from pk_mul 4 n, show nI (4 * n) + 2 = nI (4 * n + 2) from nI_add (4 * n) 2, nI_clamp (by omega)]
            have i3 : (4 * nI n + 3).toNatClampNeg = 4 * n + 3 := by rw [show (4 : Int32) * nI n = nI (4 * n) from pk_mul 4 n, show nI (4 * n) + 3 = nI (4 * n + 3) from nI_add (4 * n) 3, nI_clamp (by omega)]
            rw [i0, i1, i2, i3]
            rw [hN, nI_clamp (by omega), nI_1] at w2 ⊢
            have e40 : (uA (uA (uA (uA v 1 (4 * n) p1) 1 (4 * n + 1) p2) 1 (4 * n + 2) p3) 1 (4 * n + 3) p4).1 1 (40 : Int32).toNatClampNeg = nI n := by
              show upd (upd (upd (upd (v.1 1) (4 * n) p1) (4 * n + 1) p2) (4 * n + 2) p3) (4 * n + 3) p4 40 = _
              rw [pk_un (by omega), pk_un (by omega), pk_un (by omega), pk_un (by omega)]
              exact h.M
            rw [e40, zA_s, nI_1, nI_pred]
            intro hk1
            refine ⟨rfl, n + 1, ?_⟩
            obtain ⟨hg, hN', h40, hi, hjj, hb⟩ := h.1.1
            refine zR0.lay (h.1.of ?_ (fun k hk _ => ?_) (fun k hk => ?_) hk1.2 hk1.1)
            · refine ⟨zgp (by omega) w2, rfl, zA_s, ?_, fun i hi' => ?_, hb⟩
              · intro i hi'
                show upd (upd (upd (upd (upd (v.1 1) (4 * n) p1) (4 * n + 1) p2) (4 * n + 2) p3) (4 * n + 3) p4) 40 (nI (n + 1)) i = upd (upd (upd (upd (u.1 2) (4 * n) p1) (4 * n + 1) p2) (4 * n + 2) p3) (4 * n + 3) p4 i
                rw [pk_un (show i ≠ 40 by omega)]
                exact zuc (zuc (zuc (zuc hi _ _) _ _) _ _) _ _ i hi'
              · show upd (upd (upd (upd (upd (v.1 1) (4 * n) p1) (4 * n + 1) p2) (4 * n + 2) p3) (4 * n + 3) p4) 40 (nI (n + 1)) (41 + i) = _
                rw [pk_un (by omega), pk_un (by omega), pk_un (by omega), pk_un (by omega), pk_un (by omega)]
                exact hjj i hi'
            · simp only [uR, uZ]
              rw [if_neg hk, if_neg hk, if_neg hk, if_neg hk]
            · simp only [uR, uZ]
              rw [if_neg hk]
/-! ### the image -/
theorem zimL : ∀ (m i : Nat) (v : xU) (f : Nat), m < f → i + m = 49 → (s_X6_image_L7 f v (nI i)).1 = v.1 1 40 ∧ (s_X6_image_L7 f v (nI i)).2.2 = v.2 ∧ (∀ k, k ≠ 2 → (s_X6_image_L7 f v (nI i)).2.1 k = v.1 k) ∧ (∀ j, j < i → (s_X6_image_L7 f v (nI i)).2.1 2 j = v.1 2 j) ∧ ∀ j, i ≤ j → j < 49 → (s_X6_image_L7 f v (nI i)).2.1 2 j = v.1 1 j := by
  intro m
  induction m with
  | zero =>
    intro i v f hf hi
    obtain ⟨f, rfl⟩ : ∃ z, f = z + 1 := ⟨f - 1, by omega⟩
    rw [s_X6_image_L7, if_pos (show (49 : Int32) ≤ nI i from nI_le (a := 49) (by omega) (by omega))]
    exact ⟨rfl, rfl, fun _ _ => rfl, fun _ _ => rfl, fun j h1 h2 => absurd h2 (by omega)⟩
  | succ m ih =>
    intro i v f hf hi
    obtain ⟨f, rfl⟩ : ∃ z, f = z + 1 := ⟨f - 1, by omega⟩
    rw [s_X6_image_L7, if_neg (show ¬ (49 : Int32) ≤ nI i from nI_ge (b := 49) (by omega) (by omega)), nI_1, nI_clamp (by omega)]
    obtain ⟨a1, a2, a3, a4, a5⟩ := ih (i + 1) (uA v 2 i (v.1 1 i)) f (by omega) (by omega)
    refine ⟨a1, a2, fun k hk => (a3 k hk).trans (by simp only [uA]; rw [if_neg hk]), fun j hj => (a4 j (by omega)).trans ?_, fun j h1 h2 => ?_⟩
    · show upd (v.1 2) i _ j = _
      rw [pk_un (by omega)]
    · by_cases e : j = i
      · subst e
        refine (a4 j (by omega)).trans ?_
        show upd (v.1 2) j _ j = _
        rw [pk_us]
      · exact a5 j (by omega) h2
theorem zbkL : ∀ (m i : Nat) (v : xU) (f : Nat), m < f → i + m = 49 → (s_X6_back_L12 f v (nI i)).1 = (s_X6_back_L12 f v (nI i)).2.1 1 40 ∧ (s_X6_back_L12 f v (nI i)).2.2 = v.2 ∧ (∀ k, k ≠ 1 → (s_X6_back_L12 f v (nI i)).2.1 k = v.1 k) ∧ (∀ j, j < i → (s_X6_back_L12 f v (nI i)).2.1 1 j = v.1 1 j) ∧ ∀ j, i ≤ j → j < 49 → (s_X6_back_L12 f v (nI i)).2.1 1 j = v.1 2 j := by
  intro m
  induction m with
  | zero =>
    intro i v f hf hi
    obtain ⟨f, rfl⟩ : ∃ z, f = z + 1 := ⟨f - 1, by omega⟩
    rw [s_X6_back_L12, if_pos (show (49 : Int32) ≤ nI i from nI_le (a := 49) (by omega) (by omega))]
    exact ⟨rfl, rfl, fun _ _ => rfl, fun _ _ => rfl, fun j h1 h2 => absurd h2 (by omega)⟩
  | succ m ih =>
    intro i v f hf hi
    obtain ⟨f, rfl⟩ : ∃ z, f = z + 1 := ⟨f - 1, by omega⟩
    rw [s_X6_back_L12, if_neg (show ¬ (49 : Int32) ≤ nI i from nI_ge (b := 49) (by omega) (by omega)), nI_1, nI_clamp (by omega)]
    obtain ⟨a1, a2, a3, a4, a5⟩ := ih (i + 1) (uA v 1 i (v.1 2 i)) f (by omega) (by omega)
    refine ⟨a1, a2, fun k hk => (a3 k hk).trans (by simp only [uA]; rw [if_neg hk]), fun j hj => (a4 j (by omega)).trans ?_, fun j h1 h2 => ?_⟩
    · show upd (v.1 1) i _ j = _
      rw [pk_un (by omega)]
    · by_cases e : j = i
      · subst e
        refine (a4 j (by omega)).trans ?_
        show upd (v.1 1) j _ j = _
        rw [pk_us]
      · exact a5 j (by omega) h2
theorem zcpy {f g : Nat → Int32} {m i : Nat} (hi : i < m) : va_cpy f g 0 0 m i = f i := by
  rw [pk_cpy_in (by omega) (by omega), Nat.zero_add, Nat.sub_zero]
theorem e_image (h : zR u v n) : (s_X5_image u).1 = (s_X6_image v).1 ∧ ∃ m, zR (s_X5_image u).2 (s_X6_image v).2 m := by
  obtain ⟨a1, a2, a3, a4, a5⟩ := zimL 49 0 (uZ v 0 1) (((49 : Int32).toInt - (0 : Int32).toInt).toNat + 1) (by decide) (by decide)
  have e : s_X6_image v = s_X6_image_L7 (((49 : Int32).toInt - (0 : Int32).toInt).toNat + 1) (uZ v 0 1) (nI 0) := rfl
  rw [← e] at a1 a2 a3 a4 a5
  refine ⟨(show (s_X5_image u).1 = u.2 1 from rfl).trans (h.N.trans (a1.trans h.M).symm), n, ?_, h.2⟩
  obtain ⟨hr, z0, hk, hs, ht, zm, h13, hc⟩ := h.1
  refine ⟨?_, z0, Or.inr ⟨rfl, ?_, n, ?_⟩, ?_, ?_, ?_, ?_, ?_⟩
  · rw [a3 1 (by decide)]; exact hr
  · rw [a2]; rfl
  · refine hr.cong (fun i hi => ?_) rfl (fun i hi => a5 i (Nat.zero_le _) hi) (fun j hj => ?_)
    · show va_cpy (u.1 2) (u.1 4) 0 0 40 i = _
      exact zcpy hi
    · show va_cpy (u.1 5) (u.1 6) 0 0 8 j = _
      exact zcpy hj
  · intro k hk4
    rw [a3 8 (by decide), a3 9 (by decide), a3 10 (by decide)]
    obtain ⟨b1, b2, b3, b4, b5⟩ := hs k hk4
    have h4 : k = 0 ∨ k = 1 ∨ k = 2 ∨ k = 3 := by omega
    rcases h4 with rfl | rfl | rfl | rfl
    · exact ⟨b1, b2, b3, b4, b5⟩
    · exact ⟨b1, b2, b3, b4, b5⟩
    · exact ⟨b1, b2, b3, b4, b5⟩
    · exact ⟨b1, b2, b3, b4, b5⟩
  · unfold zRt at ht ⊢
    rw [a2, a3 14 (by decide)]; exact ht
  · unfold z0M
    rw [a3 3 (by decide), a3 4 (by decide), a3 6 (by decide), a3 7 (by decide)]; exact zm
  · rw [a3 13 (by decide)]; exact h13
  · show XCv ((s_X6_image v).2.1 15) ((s_X6_image v).2.1 16) ((s_X6_image v).2.1 17)
    rw [a3 15 (by decide), a3 16 (by decide), a3 17 (by decide)]; exact hc
theorem e_back (h : zR u v n) : (s_X5_back u).1 = (s_X6_back v).1 ∧ ∃ m, zR (s_X5_back u).2 (s_X6_back v).2 m := by
  obtain ⟨hr, z0, hk, hs, ht, zm, h13, hc⟩ := h.1
  unfold s_X5_back s_X6_back
  rcases hk with ⟨k1, k2⟩ | ⟨k1, k2, m, km⟩
  · rw [if_pos k1, if_pos k2]
    exact ⟨rfl, _, h⟩
  · rw [if_neg (by rw [k1]; decide), if_neg (by rw [k2]; decide)]
    obtain ⟨a1, a2, a3, a4, a5⟩ := zbkL 49 0 v (((49 : Int32).toInt - (0 : Int32).toInt).toNat + 1) (by decide) (by decide)
    rw [show nI 0 = (0 : Int32) from rfl] at a1 a2 a3 a4 a5
    have hz : zR0 (uR (s_X2_takeFrom_b u) 5 (va_cpy ((s_X2_takeFrom_b u).1 6) ((s_X2_takeFrom_b u).1 5) (0 : Int32).toNatClampNeg (0 : Int32).toNatClampNeg (iMin 8 8).toNatClampNeg)) (s_X6_back_L12 (((49 : Int32).toInt - (0 : Int32).toInt).toNat + 1) v 0).2 m := by
      refine h.1.of ?_ (fun k hk2 hk5 => ?_) (fun k hk1 => ?_) a3 a2
      · refine km.cong (fun i hi => ?_) rfl (fun i hi => a5 i (Nat.zero_le _) hi) (fun j hj => ?_)
        · show va_cpy (u.1 4) (u.1 2) 0 0 40 i = _
          exact zcpy hi
        · show va_cpy (u.1 6) (u.1 5) 0 0 8 j = _
          exact zcpy hj
      · simp only [uR, s_X2_takeFrom_b, uZ]
        rw [if_neg hk5, if_neg hk2]
      · simp only [uR, s_X2_takeFrom_b, uZ]
        rw [if_neg hk1]
    have hl := hz.lay
    exact ⟨hl.N.trans (a1.trans hl.M).symm, _, hl⟩
end ZS
