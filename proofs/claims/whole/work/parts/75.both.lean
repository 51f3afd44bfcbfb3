/-! ===== meets, both ===== -/
theorem zuR_same {u : xU} {i : Nat} {x : Int32} (h : u.1 2 i = x) : uR u 2 (upd (u.1 2) i x) = u := by
  rw [fa_upd_same h]
  refine Prod.ext (funext fun k => ?_) rfl
  show (if k = 2 then u.1 2 else u.1 k) = u.1 k
  by_cases e : k = 2
  · rw [if_pos e, e]
  · rw [if_neg e]
theorem zuR_twice (u : xU) (f g : Nat → Int32) : uR (uR u 2 f) 2 g = uR u 2 g := by
  refine Prod.ext (funext fun k => ?_) rfl
  show (if k = 2 then g else if k = 2 then f else u.1 k) = if k = 2 then g else u.1 k
  by_cases e : k = 2
  · rw [if_pos e, if_pos e]
  · rw [if_neg e, if_neg e, if_neg e]
/-- rows but the pieces' stand still -/
def zFr (u0 u : xU) : Prop := (∀ k, k ≠ 2 → u.1 k = u0.1 k) ∧ u.2 = u0.2
theorem zFr.r (u : xU) : zFr u u := ⟨fun _ _ => rfl, rfl⟩
theorem zFr.p {u0 u : xU} (h : zFr u0 u) (f : Nat → Int32) : zFr u0 (uR u 2 f) := ⟨fun k hk => (show (uR u 2 f).1 k = u.1 k by simp only [uR]; rw [if_neg hk]).trans (h.1 k hk), h.2⟩
section ZB
variable {u v w u0 : xU} {n p q j S : Nat} {x : Int32}
theorem zRo.back (h : zRo u v n) (h0 : zLX n u0) (e2 : u.1 2 = u0.1 2) (hf : zFr u0 u) : zR u v n := by
  refine ⟨h.1, ?_⟩
  unfold zLX at h0 ⊢
  rw [e2, hf.2, hf.1 9 (by decide), hf.1 10 (by decide), hf.1 11 (by decide), hf.1 12 (by decide), hf.1 13 (by decide), hf.1 8 (by decide)]
  exact h0
def zV2 (x : Int32) : Int32 := if (iRem x 2) = 1 then (x + 1) / 2 else (-x) / 2
theorem zV2_t : ∀ a : Nat, a < 100 → (1 ≤ a → zV2 (nI (2 * a - 1)) = nI a) ∧ zV2 (nI (2 * a)) = -(nI a) := by decide +kernel
theorem zok1 {a : Nat} (h : a < 100) : okf 2 (nI a) := ⟨show (-99 : Int) ≤ _ by rw [nI_toInt (by omega)]; omega, show _ ≤ (99 : Int) by rw [nI_toInt (by omega)]; omega⟩
theorem zok2 {a : Nat} (h : a < 100) : okf 2 (-(nI a)) := by
  have e : (-(nI a)).toInt = -(a : Int) := by rw [fb_negI (by rw [nI_toInt (by omega)]; omega), nI_toInt (by omega)]
  exact ⟨show (-99 : Int) ≤ _ by rw [e]; omega, show _ ≤ (99 : Int) by rw [e]; omega⟩
theorem zk1 {a : Nat} (h : a < 100) : (¬ 1000 + nI a = -1) ∧ 0 ≤ 1000 + nI a := by
  have e : 1000 + nI a = nI (1000 + a) := nI_add 1000 a
  rw [e]
  refine ⟨fun z => ?_, nI_pos' (by omega)⟩
  have z2 := congrArg Int32.toInt z
  rw [nI_toInt (by omega), show (-1 : Int32).toInt = -1 from rfl] at z2
  omega
theorem zk2 {a : Nat} (h : a < 100) : (¬ 1000 - nI a = -1) ∧ 0 ≤ 1000 - nI a ∧ 1000 + -(nI a) = 1000 - nI a := by
  have e : (1000 : Int32) - nI a = nI (1000 - a) := pk_sub (a := 1000) (by omega)
  rw [e]
  refine ⟨fun z => ?_, nI_pos' (by omega), by rw [← e, Int32.sub_eq_add_neg]⟩
  have z2 := congrArg Int32.toInt z
  rw [nI_toInt (by omega), show (-1 : Int32).toInt = -1 from rfl] at z2
  omega
theorem z4p2 (hp : p < 10) : ((4 * nI p) + 2).toNatClampNeg = 4 * p + 2 := zplace (j := 2) hp (by decide)
theorem zmx {v : xU} (hp : p < 10) (f : Nat) (was x3 x4 : Int32) (h : (199 : Int32) ≤ x4 ∨ 0 ≤ x3) : s_X6_meets_L23 (f + 1) v (nI p) was x3 x4 = (x3, uA v 1 (4 * p + 2) was) := by
  rw [s_X6_meets_L23, z4p2 hp]
  by_cases a : (199 : Int32) ≤ x4
  · rw [if_pos a]
  · rw [if_neg a, if_pos (h.resolve_left a)]
theorem zmc (f : Nat) (u : xU) (x1 x2 x3 x4 x5 x6 : Int32) (h : ¬ x5 = -1) : s_X5_meets_L69 (f + 1) u x1 x2 x3 x4 x5 x6 = (x5, s_X2_write u x1 2 x2) := by
  rw [s_X5_meets_L69]
  by_cases a : (99 : Int32) < x6
  · rw [if_pos a]
  · rw [if_neg a, if_neg h]
theorem zms23 {v : xU} (hp : p < 10) (f : Nat) (was : Int32) {k : Nat} (hk : k < 199) : s_X6_meets_L23 (f + 1) v (nI p) was (-1) (nI k) = s_X6_meets_L23 f (s_X6_doMeet (uA v 1 (4 * p + 2) (zV2 (nI k)))).2 (nI p) was (if (s_X6_doMeet (uA v 1 (4 * p + 2) (zV2 (nI k)))).1 = 0 then (-1) else 1000 + zV2 (nI k)) (nI (k + 1)) := by
  unfold zV2
  rw [s_X6_meets_L23, z4p2 hp, if_neg (show ¬ (199 : Int32) ≤ nI k from nI_ge (b := 199) hk (by decide)), if_neg (show ¬ (0 : Int32) ≤ -1 by decide), nI_1]
/-- the constants of a search -/
def zTO (u0 : xU) (p n : Nat) (T O : Int32) : Prop := T = s_X5_cell 8 (u0.1 5) 7 - zBut (zTp (u0.1 2)) p n ∧ O = s_X5_cell 8 (u0.1 5) 6 - zBut (zOp (u0.1 2) (zpS (u0.1 2) n)) p n
theorem zTO.on {T O : Int32} (h : zTO u0 p n T O) (hf : zFr u0 u) (hy : ∃ y, u.1 2 = upd (u0.1 2) (4 * p + 2) y) : zTO u p n T O := by
  obtain ⟨y, hy⟩ := hy
  obtain ⟨b1, b2⟩ := zbut_u (p := p) (j := 2) (x := y) (by decide) (by decide) (u0.1 2) (zpS (u0.1 2) n) n
  unfold zTO
  rw [hy, hf.1 5 (by decide), zu_S (by decide) (by decide), b1, b2]
  exact h
theorem zmtL {T O was : Int32} (hp : p < n) (hw : u0.1 2 (4 * p + 2) = was) (hwx : okf 2 was) (h0 : zLX n u0) (hTO : zTO u0 p n T O) :
    ∀ (m a : Nat) (u v : xU) (f1 f2 : Nat), m < f1 → 2 * m < f2 → a + m = 100 → 1 ≤ a → zRo u v n → (∃ y, u.1 2 = upd (u0.1 2) (4 * p + 2) y) → zFr u0 u →
      (s_X5_meets_L69 f1 u (nI p) was T O (-1) (nI a)).1 = (s_X6_meets_L23 f2 v (nI p) was (-1) (nI (2 * a - 1))).1 ∧ zR (s_X5_meets_L69 f1 u (nI p) was T O (-1) (nI a)).2 (s_X6_meets_L23 f2 v (nI p) was (-1) (nI (2 * a - 1))).2 n := by
  have fin : ∀ (u v : xU), zRo u v n → (∃ y, u.1 2 = upd (u0.1 2) (4 * p + 2) y) → zFr u0 u → zR (s_X2_write u (nI p) 2 was) (uA v 1 (4 * p + 2) was) n := by
    intro u v h hy hf
    have ew : s_X2_write u (nI p) 2 was = uR u 2 (upd (u.1 2) (4 * p + 2) was) := s_X2_write_in (j := 2) h.n10 h.N hp (by decide) was
    rw [ew]
    obtain ⟨y, hy⟩ := hy
    refine (h.put (j := 2) hp (by decide) (by decide) hwx).back h0 ?_ (hf.p _)
    show upd (u.1 2) (4 * p + 2) was = _
    rw [hy, fa_upd_twice]
    exact fa_upd_same hw
  intro m
  induction m with
  | zero =>
    intro a u v f1 f2 hf1 hf2 ha a1 h hy hf
    obtain ⟨f1, rfl⟩ : ∃ z, f1 = z + 1 := ⟨f1 - 1, by omega⟩
    obtain ⟨f2, rfl⟩ : ∃ z, f2 = z + 1 := ⟨f2 - 1, by omega⟩
    have h10 := h.n10
    have e : a = 100 := by omega
    subst e
    rw [s_X5_meets_L69, zmx (by omega) f2 was (-1) (nI (2 * 100 - 1)) (Or.inl (by decide)), if_pos (show (99 : Int32) < nI 100 by decide)]
    exact ⟨rfl, fin u v h hy hf⟩
  | succ m ih =>
    intro a u v f1 f2 hf1 hf2 ha a1 h hy hf
    obtain ⟨f1, rfl⟩ : ∃ z, f1 = z + 2 := ⟨f1 - 2, by omega⟩
    obtain ⟨f2, rfl⟩ : ∃ z, f2 = z + 3 := ⟨f2 - 3, by omega⟩
    have h10 := h.n10
    obtain ⟨v1, v2⟩ := zV2_t a (by omega)
    have hto := hTO.on hf hy
    obtain ⟨m1, m2⟩ := zmeet h hp (zok1 (a := a) (by omega)) hto.1 hto.2
    have hy1 : ∃ y, (uR u 2 (upd (u.1 2) (4 * p + 2) (nI a))).1 2 = upd (u0.1 2) (4 * p + 2) y := by
      obtain ⟨y, hy⟩ := hy
      refine ⟨nI a, ?_⟩
      show upd (u.1 2) (4 * p + 2) (nI a) = _
      rw [hy, fa_upd_twice]
    have hf1' := hf.p (upd (u.1 2) (4 * p + 2) (nI a))
    have hto1 := hTO.on hf1' hy1
    obtain ⟨m3, m4⟩ := zmeet m2 hp (zok2 (a := a) (by omega)) hto1.1 hto1.2
    have hy2 : ∃ y, (uR (uR u 2 (upd (u.1 2) (4 * p + 2) (nI a))) 2 (upd ((uR u 2 (upd (u.1 2) (4 * p + 2) (nI a))).1 2) (4 * p + 2) (-(nI a)))).1 2 = upd (u0.1 2) (4 * p + 2) y := by
      obtain ⟨y, hy⟩ := hy1
      refine ⟨-(nI a), ?_⟩
      show upd ((uR u 2 (upd (u.1 2) (4 * p + 2) (nI a))).1 2) (4 * p + 2) (-(nI a)) = _
      rw [hy, fa_upd_twice]
    have hf2' := hf1'.p (upd ((uR u 2 (upd (u.1 2) (4 * p + 2) (nI a))).1 2) (4 * p + 2) (-(nI a)))
    have r1 := zms23 (v := v) (p := p) (by omega) (f2 + 2) was (k := 2 * a - 1) (by omega)
    rw [v1 a1, show 2 * a - 1 + 1 = 2 * a by omega] at r1
    rw [s_X5_meets_L69, if_neg (show ¬ (99 : Int32) < nI a from nI_nlt (a := 99) (by omega) (by omega)), if_pos rfl, m1, r1]
    dsimp only
    by_cases d : (s_X6_doMeet (uA v 1 (4 * p + 2) (nI a))).1 = 0
    · have r2 := zms23 (v := (s_X6_doMeet (uA v 1 (4 * p + 2) (nI a))).2) (p := p) (by omega) (f2 + 1) was (k := 2 * a) (by omega)
      rw [v2] at r2
      rw [if_pos d, if_pos d, m3, r2]
      dsimp only
      by_cases e : (s_X6_doMeet (uA (s_X6_doMeet (uA v 1 (4 * p + 2) (nI a))).2 1 (4 * p + 2) (-(nI a)))).1 = 0
      · rw [if_pos e, if_pos e, nI_1]
        have g := ih (a + 1) _ _ (f1 + 1) (f2 + 1) (by omega) (by omega) (by omega) (by omega) m4 hy2 hf2'
        rw [show 2 * (a + 1) - 1 = 2 * a + 1 by omega] at g
        exact g
      · obtain ⟨k1, k2, k3⟩ := zk2 (a := a) (by omega)
        rw [if_neg e, if_neg e, k3, zmc f1 _ _ _ _ _ _ _ k1, zmx (by omega) f2 was (1000 - nI a) _ (Or.inr k2)]
        exact ⟨rfl, fin _ _ m4 hy2 hf2'⟩
    · obtain ⟨k1, k2⟩ := zk1 (a := a) (by omega)
      rw [if_neg d, if_neg d, zmc f1 _ _ _ _ _ _ _ k1, zmx (by omega) (f2 + 1) was (1000 + nI a) _ (Or.inr k2)]
      exact ⟨rfl, fin _ _ m2 hy1 hf1'⟩
theorem zmb_same (h : zRo u v n) (hp : p < n) (x T O : Int32) : s_X5_meetsBy (uR u 2 (upd (u.1 2) (4 * p + 2) x)) (nI p) x T O = s_X5_meetsBy u (nI p) x T O := by
  have e1 : s_X2_write u (nI p) 2 x = uR u 2 (upd (u.1 2) (4 * p + 2) x) := s_X2_write_in (j := 2) h.n10 h.N hp (by decide) x
  have e2 : s_X2_write (uR u 2 (upd (u.1 2) (4 * p + 2) x)) (nI p) 2 x = uR u 2 (upd (u.1 2) (4 * p + 2) x) := by
    refine (s_X2_write_in (u := uR u 2 (upd (u.1 2) (4 * p + 2) x)) (j := 2) h.n10 h.N hp (by decide) x).trans ?_
    exact zuR_same (u := uR u 2 (upd (u.1 2) (4 * p + 2) x)) pk_us
  unfold s_X5_meetsBy
  rw [e1, e2]
theorem e_meets (h : zR u v n) (p1 : Int32) : (s_X5_meets u p1).1 = (s_X6_meets v p1).1 ∧ ∃ m, zR (s_X5_meets u p1).2 (s_X6_meets v p1).2 m := by
  have h10 := h.n10
  unfold s_X5_meets s_X6_meets
  rw [h.1.1.has p1]
  by_cases a : s_X2_has u p1 = 0
  · rw [if_pos a, if_pos a]
    exact ⟨rfl, n, h⟩
  · rw [if_neg a, if_neg a]
    obtain ⟨p, hp, rfl⟩ := h.1.1.isp a
    have o2 : s_X6_of0 v (nI p) 2 = s_X2_read u (nI p) 2 := h.1.1.of (j := 2) hp (by decide)
    have w2 : s_X2_read u (nI p) 2 = u.1 2 (4 * p + 2) := s_X2_read_in (j := 2) h10 h.N hp (by decide)
    obtain ⟨b1, b2⟩ := h.ro.but hp
    have hwx : okf 2 (u.1 2 (4 * p + 2)) := h.g.B hp
    rw [o2, w2, b1, b2]
    have hTO : zTO u p n (s_X5_cell 8 (u.1 5) 7 - zBut (zTp (u.1 2)) p n) (s_X5_cell 8 (u.1 5) 6 - zBut (zOp (u.1 2) (zpS (u.1 2) n)) p n) := ⟨rfl, rfl⟩
    have fin : ∀ (w v : xU), zRo w v n → (∃ y, w.1 2 = upd (u.1 2) (4 * p + 2) y) → zFr u w → zR (s_X2_write w (nI p) 2 (u.1 2 (4 * p + 2))) (uA v 1 (4 * p + 2) (u.1 2 (4 * p + 2))) n := by
      intro w v h' hy hf
      have ew : s_X2_write w (nI p) 2 (u.1 2 (4 * p + 2)) = uR w 2 (upd (w.1 2) (4 * p + 2) (u.1 2 (4 * p + 2))) := s_X2_write_in (j := 2) h10 h'.N hp (by decide) _
      rw [ew]
      obtain ⟨y, hy⟩ := hy
      refine (h'.put (j := 2) hp (by decide) (by decide) hwx).back h.2 ?_ (hf.p _)
      show upd (w.1 2) (4 * p + 2) (u.1 2 (4 * p + 2)) = _
      rw [hy, fa_upd_twice]
      exact fa_upd_same rfl
    obtain ⟨m1, m2⟩ := zmeet h.ro hp (zok1 (a := 0) (by decide)) hTO.1 hTO.2
    rw [show nI 0 = (0 : Int32) from rfl] at m1 m2
    have hf1 := (zFr.r u).p (upd (u.1 2) (4 * p + 2) 0)
    have hy1 : ∃ y, (uR u 2 (upd (u.1 2) (4 * p + 2) 0)).1 2 = upd (u.1 2) (4 * p + 2) y := ⟨0, rfl⟩
    have r1 := zms23 (v := v) (p := p) (by omega) (((199 : Int32).toInt - (0 : Int32).toInt).toNat) (u.1 2 (4 * p + 2)) (k := 0) (by decide)
    rw [show nI 0 = (0 : Int32) from rfl, show zV2 0 = 0 by decide] at r1
    have m3 := zmb_same h.ro hp 0 (s_X5_cell 8 (u.1 5) 7 - zBut (zTp (u.1 2)) p n) (s_X5_cell 8 (u.1 5) 6 - zBut (zOp (u.1 2) (zpS (u.1 2) n)) p n)
    rw [r1, s_X5_meets_L69, if_neg (show ¬ (99 : Int32) < 0 by decide), if_pos rfl, m1, show -(0 : Int32) = 0 from rfl]
    dsimp only
    rw [m3, m1]
    dsimp only
    by_cases d : (s_X6_doMeet (uA v 1 (4 * p + 2) 0)).1 = 0
    · rw [if_pos d, if_pos d, if_pos d]
      obtain ⟨x1, x2⟩ := zmtL (u0 := u) hp rfl hwx h.2 hTO 99 1 _ _ (((99 : Int32).toInt + 1 - (0 : Int32).toInt).toNat) (((199 : Int32).toInt - (0 : Int32).toInt).toNat) (by rw [show (99 : Int32).toInt = 99 from rfl, show (0 : Int32).toInt = 0 from rfl]; omega) (by rw [show (199 : Int32).toInt = 199 from rfl, show (0 : Int32).toInt = 0 from rfl]; omega) (by decide) (by decide) m2 hy1 hf1
      exact ⟨x1, n, x2⟩
    · obtain ⟨f1, e1⟩ : ∃ z, ((99 : Int32).toInt + 1 - (0 : Int32).toInt).toNat = z + 1 := ⟨99, by decide⟩
      obtain ⟨f2, e2⟩ : ∃ z, ((199 : Int32).toInt - (0 : Int32).toInt).toNat = z + 1 := ⟨198, by decide⟩
      rw [if_neg d, if_neg d, e1, e2, show (1000 : Int32) + 0 = 1000 from rfl, zmc f1 _ _ _ _ _ 1000 _ (by decide), zmx (by omega) f2 _ 1000 _ (Or.inr (by decide))]
      exact ⟨rfl, n, fin _ _ m2 hy1 hf1⟩
/-! ### two bends -/
def zb3 (b : Nat) : Int32 := nI b - 30
theorem zb3_i {b : Nat} (hb : b < 1000) : (zb3 b).toInt = (b : Int) - 30 := pk_sub_toInt (b := 30) (by omega) (by decide)
theorem zb3_s (b : Nat) : zb3 b + 1 = zb3 (b + 1) := by
  unfold zb3
  have h := zr4 (nI b) 1 30 0
  rw [Int32.add_zero] at h
  rw [← nI_1 b, h]
  rfl
theorem zb3_ok {b : Nat} (hb : b < 61) : okf 2 (zb3 b) := ⟨show (-99 : Int) ≤ _ by rw [zb3_i (by omega)]; omega, show _ ≤ (99 : Int) by rw [zb3_i (by omega)]; omega⟩
theorem zb3_k {b c : Nat} (hb : b < 61) (hc : c < 61) : (nI (61 * b + c) / 61) - 30 = zb3 b ∧ (iRem (nI (61 * b + c)) 61) - 30 = zb3 c := by
  have e1 : nI (61 * b + c) / 61 = nI b := (pk_div (d := 61) (by omega) (by decide) (by decide)).trans (by rw [show (61 * b + c) / 61 = b by omega])
  have e2 : iRem (nI (61 * b + c)) 61 = nI c := (pk_rem (d := 61) (by omega) (by decide) (by decide)).trans (by rw [show (61 * b + c) % 61 = c by omega])
  rw [e1, e2]
  exact ⟨rfl, rfl⟩
theorem zbx {v : xU} {i j : Nat} (hi : i < 10) (hj : j < 10) (f : Nat) (wi wj x5 x6 : Int32) (h : (3721 : Int32) ≤ x6 ∨ 0 ≤ x5) : s_X6_both_L45 (f + 1) v (nI i) (nI j) wi wj x5 x6 = (x5, uA (uA v 1 (4 * i + 2) wi) 1 (4 * j + 2) wj) := by
  rw [s_X6_both_L45, z4p2 hi, z4p2 hj]
  by_cases a : (3721 : Int32) ≤ x6
  · rw [if_pos a]
  · rw [if_neg a, if_pos (h.resolve_left a)]
theorem zbs {v : xU} {i j b c : Nat} (hi : i < 10) (hj : j < 10) (f : Nat) (wi wj : Int32) (hb : b < 61) (hc : c < 61) : s_X6_both_L45 (f + 1) v (nI i) (nI j) wi wj (-1) (nI (61 * b + c)) = s_X6_both_L45 f (s_X6_doMeet (uA (uA v 1 (4 * i + 2) (zb3 b)) 1 (4 * j + 2) (zb3 c))).2 (nI i) (nI j) wi wj (if (s_X6_doMeet (uA (uA v 1 (4 * i + 2) (zb3 b)) 1 (4 * j + 2) (zb3 c))).1 = 0 then (-1) else nI (61 * b + c)) (nI (61 * b + c + 1)) := by
  obtain ⟨k1, k2⟩ := zb3_k hb hc
  rw [s_X6_both_L45, z4p2 hi, z4p2 hj, k1, k2, if_neg (show ¬ (3721 : Int32) ≤ nI (61 * b + c) from nI_ge (b := 3721) (by omega) (by decide)), if_neg (show ¬ (0 : Int32) ≤ -1 by decide), nI_1]
def zFo (f0 f : Nat → Int32) (i j : Nat) : Prop := ∀ q, q ≠ 4 * i + 2 → q ≠ 4 * j + 2 → f q = f0 q
theorem zFo.si {f0 f : Nat → Int32} {i j : Nat} (h : zFo f0 f i j) (x : Int32) : zFo f0 (upd f (4 * i + 2) x) i j := fun q a b => by rw [pk_un a]; exact h q a b
theorem zFo.sj {f0 f : Nat → Int32} {i j : Nat} (h : zFo f0 f i j) (x : Int32) : zFo f0 (upd f (4 * j + 2) x) i j := fun q a b => by rw [pk_un b]; exact h q a b
theorem zinL {i j b : Nat} {T O wi wj : Int32} (hi : i < n) (hj : j < n) (hij : i ≠ j) (hb : b < 61) (f0 : Nat → Int32) :
    ∀ (m c : Nat) (u v : xU) (f1 f2 : Nat), m < f1 → 3721 - (61 * b + c) < f2 → c + m = 61 → zRo u (uA v 1 (4 * i + 2) (zb3 b)) n → (c = 0 ∨ zRo u v n) → u.1 2 (4 * i + 2) = zb3 b → zFo f0 (u.1 2) i j → zFr u0 u → zTO u j n T O →
      (∃ d u' v' f2', d < 61 ∧ s_X5_firstToMeet_L41 f1 u (nI j) T O (nI c) = (nI d, u') ∧ s_X6_both_L45 f2 v (nI i) (nI j) wi wj (-1) (nI (61 * b + c)) = s_X6_both_L45 (f2' + 1) v' (nI i) (nI j) wi wj (nI (61 * b + d)) (nI (61 * b + d + 1)) ∧ zRo u' v' n ∧ zFo f0 (u'.1 2) i j ∧ zFr u0 u') ∨
      ∃ u' v' f2', s_X5_firstToMeet_L41 f1 u (nI j) T O (nI c) = (-1, u') ∧ s_X6_both_L45 f2 v (nI i) (nI j) wi wj (-1) (nI (61 * b + c)) = s_X6_both_L45 f2' v' (nI i) (nI j) wi wj (-1) (nI (61 * (b + 1))) ∧ 3721 - 61 * (b + 1) < f2' ∧ zRo u' v' n ∧ zFo f0 (u'.1 2) i j ∧ zFr u0 u' := by
  intro m
  induction m with
  | zero =>
    intro c u v f1 f2 hf1 hf2 hc h hc0 hI hFo hf hTO
    obtain ⟨f1, rfl⟩ : ∃ z, f1 = z + 1 := ⟨f1 - 1, by omega⟩
    have e : c = 61 := by omega
    subst e
    refine Or.inr ⟨u, v, f2, ?_, rfl, by omega, hc0.resolve_left (by decide), hFo, hf⟩
    rw [s_X5_firstToMeet_L41, if_pos (show (61 : Int32) ≤ nI 61 by decide)]
  | succ m ih =>
    intro c u v f1 f2 hf1 hf2 hc h hc0 hI hFo hf hTO
    obtain ⟨f1, rfl⟩ : ∃ z, f1 = z + 1 := ⟨f1 - 1, by omega⟩
    obtain ⟨f2, rfl⟩ : ∃ z, f2 = z + 2 := ⟨f2 - 2, by omega⟩
    have h10 := h.n10
    obtain ⟨m1, m2⟩ := zmeet h hj (zb3_ok (b := c) (by omega)) hTO.1 hTO.2
    have hFo1 : zFo f0 ((uR u 2 (upd (u.1 2) (4 * j + 2) (zb3 c))).1 2) i j := hFo.sj _
    have hf' := hf.p (upd (u.1 2) (4 * j + 2) (zb3 c))
    have r1 := zbs (v := v) (i := i) (j := j) (b := b) (c := c) (by omega) (by omega) (f2 + 1) wi wj hb (by omega)
    rw [s_X5_firstToMeet_L41, if_neg (show ¬ (61 : Int32) ≤ nI c from nI_ge (b := 61) (by omega) (by decide)), show nI c - 30 = zb3 c from rfl, m1, r1]
    dsimp only
    by_cases d : (s_X6_doMeet (uA (uA v 1 (4 * i + 2) (zb3 b)) 1 (4 * j + 2) (zb3 c))).1 = 0
    · rw [if_pos d, if_pos d, nI_1]
      have hI1 : (uR u 2 (upd (u.1 2) (4 * j + 2) (zb3 c))).1 2 (4 * i + 2) = zb3 b := by
        show upd (u.1 2) (4 * j + 2) (zb3 c) (4 * i + 2) = _
        rw [pk_un (by omega)]
        exact hI
      have h1 := m2.put (j := 2) hi (by decide) (by decide) (zb3_ok (b := b) hb)
      rw [zuR_same hI1] at h1
      have hTO1 : zTO (uR u 2 (upd (u.1 2) (4 * j + 2) (zb3 c))) j n T O := hTO.on ((zFr.r u).p _) ⟨zb3 c, rfl⟩
      have g := ih (c + 1) _ (s_X6_doMeet (uA (uA v 1 (4 * i + 2) (zb3 b)) 1 (4 * j + 2) (zb3 c))).2 f1 (f2 + 1) (by omega) (by omega) (by omega) h1 (Or.inr m2) hI1 hFo1 hf' hTO1
      rw [← Nat.add_assoc] at g
      exact g
    · rw [if_neg d, if_neg d]
      exact Or.inl ⟨c, _, _, f2, by omega, rfl, rfl, m2, hFo1, hf'⟩
theorem zoutL {i j : Nat} {wi wj : Int32} (hi : i < n) (hj : j < n) (hij : i ≠ j) (hwi : u0.1 2 (4 * i + 2) = wi) (hwj : u0.1 2 (4 * j + 2) = wj) (oki : okf 2 wi) (okj : okf 2 wj) (h0 : zLX n u0) :
    ∀ (m b : Nat) (u v : xU) (f1 f2 : Nat), m < f1 → 3721 - 61 * b < f2 → b + m = 61 → zRo u v n → zFo (u0.1 2) (u.1 2) i j → zFr u0 u →
      (s_X5_both_L58 f1 u (nI i) (nI j) wi wj (-1) (zb3 b)).1 = (s_X6_both_L45 f2 v (nI i) (nI j) wi wj (-1) (nI (61 * b))).1 ∧ zR (s_X5_both_L58 f1 u (nI i) (nI j) wi wj (-1) (zb3 b)).2 (s_X6_both_L45 f2 v (nI i) (nI j) wi wj (-1) (nI (61 * b))).2 n := by
  have fin : ∀ (u v : xU), zRo u v n → zFo (u0.1 2) (u.1 2) i j → zFr u0 u → zR (s_X2_write (s_X2_write u (nI i) 2 wi) (nI j) 2 wj) (uA (uA v 1 (4 * i + 2) wi) 1 (4 * j + 2) wj) n := by
    intro u v h hFo hf
    have h1 := h.put (j := 2) hi (by decide) (by decide) oki
    have e1 : s_X2_write u (nI i) 2 wi = uR u 2 (upd (u.1 2) (4 * i + 2) wi) := s_X2_write_in (j := 2) h.n10 h.N hi (by decide) wi
    have e2 : s_X2_write (uR u 2 (upd (u.1 2) (4 * i + 2) wi)) (nI j) 2 wj = uR (uR u 2 (upd (u.1 2) (4 * i + 2) wi)) 2 (upd (upd (u.1 2) (4 * i + 2) wi) (4 * j + 2) wj) := s_X2_write_in (u := uR u 2 (upd (u.1 2) (4 * i + 2) wi)) (j := 2) h.n10 h.N hj (by decide) wj
    rw [e1, e2]
    refine (h1.put (j := 2) hj (by decide) (by decide) okj).back h0 ?_ ((hf.p _).p _)
    show upd (upd (u.1 2) (4 * i + 2) wi) (4 * j + 2) wj = u0.1 2
    funext q
    by_cases a : q = 4 * j + 2
    · rw [a, pk_us, hwj]
    · rw [pk_un a]
      by_cases b : q = 4 * i + 2
      · rw [b, pk_us, hwi]
      · rw [pk_un b]
        exact hFo q b a
  intro m
  induction m with
  | zero =>
    intro b u v f1 f2 hf1 hf2 hb h hFo hf
    obtain ⟨f1, rfl⟩ : ∃ z, f1 = z + 1 := ⟨f1 - 1, by omega⟩
    obtain ⟨f2, rfl⟩ : ∃ z, f2 = z + 1 := ⟨f2 - 1, by omega⟩
    have h10 := h.n10
    have e : b = 61 := by omega
    subst e
    rw [s_X5_both_L58, if_pos (show (30 : Int32) < zb3 61 by decide), zbx (by omega) (by omega) f2 wi wj (-1) (nI (61 * 61)) (Or.inl (by decide))]
    exact ⟨rfl, fin u v h hFo hf⟩
  | succ m ih =>
    intro b u v f1 f2 hf1 hf2 hb h hFo hf
    obtain ⟨f1, rfl⟩ : ∃ z, f1 = z + 2 := ⟨f1 - 2, by omega⟩
    have h10 := h.n10
    have hbi := zb3_i (b := b) (by omega)
    have e1 : s_X2_write u (nI i) 2 (zb3 b) = uR u 2 (upd (u.1 2) (4 * i + 2) (zb3 b)) := s_X2_write_in (j := 2) h.n10 h.N hi (by decide) _
    have h1 := h.put (j := 2) hi (by decide) (by decide) (zb3_ok (b := b) (by omega))
    obtain ⟨t1, t2⟩ := h1.but hj
    have g30 : ¬ (30 : Int32) < zb3 b := by rw [fa_lt, hbi, show (30 : Int32).toInt = 30 from rfl]; omega
    have eft : s_X5_firstToMeet (uR u 2 (upd (u.1 2) (4 * i + 2) (zb3 b))) (nI j) = s_X5_firstToMeet_L41 (((61 : Int32).toInt - (0 : Int32).toInt).toNat + 1) (uR u 2 (upd (u.1 2) (4 * i + 2) (zb3 b))) (nI j) ((s_X5_cell 8 ((uR u 2 (upd (u.1 2) (4 * i + 2) (zb3 b))).1 5) 7) - zBut (zTp ((uR u 2 (upd (u.1 2) (4 * i + 2) (zb3 b))).1 2)) j n) ((s_X5_cell 8 ((uR u 2 (upd (u.1 2) (4 * i + 2) (zb3 b))).1 5) 6) - zBut (zOp ((uR u 2 (upd (u.1 2) (4 * i + 2) (zb3 b))).1 2) (zpS ((uR u 2 (upd (u.1 2) (4 * i + 2) (zb3 b))).1 2) n)) j n) (nI 0) := by
      unfold s_X5_firstToMeet
      rw [t1, t2]
      rfl
    have key := zinL (u0 := u0) (wi := wi) (wj := wj) hi hj hij (b := b) (by omega) (u0.1 2) 61 0 (uR u 2 (upd (u.1 2) (4 * i + 2) (zb3 b))) v (((61 : Int32).toInt - (0 : Int32).toInt).toNat + 1) f2 (by rw [show (61 : Int32).toInt = 61 from rfl, show (0 : Int32).toInt = 0 from rfl]; omega) (by omega) (by decide) h1 (Or.inl rfl) pk_us (hFo.si _) (hf.p _) ⟨rfl, rfl⟩
    rw [s_X5_both_L58, if_neg g30, if_pos rfl, e1, eft, zb3_s]
    rcases key with ⟨d, u', v', f2', hd, k1, k2, k3, k4, k5⟩ | ⟨u', v', f2', k1, k2, k3, k4, k5, k6⟩
    · have nd : ¬ nI d = -1 := fun z => by
        have z2 := congrArg Int32.toInt z
        rw [nI_toInt (by omega), show (-1 : Int32).toInt = -1 from rfl] at z2
        omega
      have ev : (61 * (zb3 b + 30)) + nI d = nI (61 * b + d) := by
        unfold zb3
        rw [Int32.sub_add_cancel, show (61 : Int32) * nI b = nI (61 * b) from pk_mul 61 b, nI_add]
      have nv : ¬ nI (61 * b + d) = -1 := fun z => by
        have z2 := congrArg Int32.toInt z
        rw [nI_toInt (by omega), show (-1 : Int32).toInt = -1 from rfl] at z2
        omega
      rw [Nat.add_zero] at k2
      rw [k1, k2, zbx (by omega) (by omega) f2' wi wj (nI (61 * b + d)) _ (Or.inr (nI_pos' (by omega)))]
      dsimp only
      rw [if_neg nd, ev, s_X5_both_L58]
      by_cases y : (30 : Int32) < zb3 (b + 1)
      · rw [if_pos y]
        exact ⟨rfl, fin _ _ k3 k4 k5⟩
      · rw [if_neg y, if_neg nv]
        exact ⟨rfl, fin _ _ k3 k4 k5⟩
    · rw [Nat.add_zero] at k2
      rw [k1, k2]
      dsimp only
      rw [if_pos rfl]
      exact ih (b + 1) u' v' (f1 + 1) f2' (by omega) k3 (by omega) k4 k5 k6
theorem e_both (h : zR u v n) (p1 p2 : Int32) : (s_X5_both u p1 p2).1 = (s_X6_both v p1 p2).1 ∧ ∃ m, zR (s_X5_both u p1 p2).2 (s_X6_both v p1 p2).2 m := by
  have h10 := h.n10
  unfold s_X5_both s_X6_both
  rw [h.1.1.has p1, h.1.1.has p2]
  by_cases a : s_X2_has u p1 = 0
  · rw [if_pos a, if_pos a]
    exact ⟨rfl, n, h⟩
  · rw [if_neg a, if_neg a]
    by_cases b : s_X2_has u p2 = 0
    · rw [if_pos b, if_pos b]
      exact ⟨rfl, n, h⟩
    · rw [if_neg b, if_neg b]
      by_cases c : p1 = p2
      · rw [if_pos c, if_pos c]
        exact ⟨rfl, n, h⟩
      · rw [if_neg c, if_neg c]
        obtain ⟨i, hi, rfl⟩ := h.1.1.isp a
        obtain ⟨j, hj, rfl⟩ := h.1.1.isp b
        have oi : s_X6_of0 v (nI i) 2 = s_X2_read u (nI i) 2 := h.1.1.of (j := 2) hi (by decide)
        have oj : s_X6_of0 v (nI j) 2 = s_X2_read u (nI j) 2 := h.1.1.of (j := 2) hj (by decide)
        have ri : s_X2_read u (nI i) 2 = u.1 2 (4 * i + 2) := s_X2_read_in (j := 2) h10 h.N hi (by decide)
        have rj : s_X2_read u (nI j) 2 = u.1 2 (4 * j + 2) := s_X2_read_in (j := 2) h10 h.N hj (by decide)
        have x := zoutL (u0 := u) hi hj (fun e => c (by rw [e])) rfl rfl (h.g.B hi) (h.g.B hj) h.2 61 0 u v (((30 : Int32).toInt + 1 - ((-30) : Int32).toInt).toNat + 1) (((3721 : Int32).toInt - (0 : Int32).toInt).toNat + 1) (by rw [show (30 : Int32).toInt = 30 from rfl, show (-30 : Int32).toInt = -30 from rfl]; omega) (by rw [show (3721 : Int32).toInt = 3721 from rfl, show (0 : Int32).toInt = 0 from rfl]; omega) (by decide) h.ro (fun q _ _ => rfl) (zFr.r u)
        rw [show zb3 0 = (-30 : Int32) by decide, show nI (61 * 0) = (0 : Int32) from rfl] at x
        rw [oi, oj, ri, rj]
        exact ⟨x.1, n, x.2⟩
end ZB
