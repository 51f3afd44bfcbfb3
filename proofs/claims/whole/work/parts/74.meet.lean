/-! ===== ends that meet: turns and offsets as sums over the pieces ===== -/
theorem zTb {v t g : Nat → Int32} {S : Nat} (h : zT v t g S) (hS : S ≤ 200) (hv : ∀ s, s ≤ S → -300 ≤ (v s).toInt ∧ (v s).toInt ≤ 300) : ∀ s, s ≤ S → (-(300 * (s : Int)) ≤ (t s).toInt ∧ (t s).toInt ≤ 300 * (s : Int)) ∧ (-(60000 * (s : Int)) ≤ (g s).toInt ∧ (g s).toInt ≤ 60000 * (s : Int))
  | 0, _ => by
    rw [h.1, h.2.1, show (0 : Int32).toInt = 0 from rfl]
    omega
  | s + 1, hs => by
    obtain ⟨a, b⟩ := zTb h hS hv s (by omega)
    obtain ⟨e1, e2⟩ := h.2.2 s (by omega)
    have c := hv (s + 1) hs
    have d1 : (t (s + 1)).toInt = (t s).toInt + (v (s + 1)).toInt := by rw [e1, fb_addI (by omega) (by omega)]
    have d2 : (g (s + 1)).toInt = (g s).toInt + (t (s + 1)).toInt := by rw [e2, fb_addI (by omega) (by omega)]
    omega
theorem zws {a b : Int32} (h1 : -2147483648 ≤ a.toInt - b.toInt) (h2 : a.toInt - b.toInt < 2147483648) : a.toInt64 - b.toInt64 = (a - b).toInt64 := by
  have ha := fb_rng a
  have hb := fb_rng b
  rw [fa_eq64, Int32.toInt_toInt64, fb_subI h1 h2, fb_subL (by rw [Int32.toInt_toInt64, Int32.toInt_toInt64]; omega) (by rw [Int32.toInt_toInt64, Int32.toInt_toInt64]; omega), Int32.toInt_toInt64, Int32.toInt_toInt64]
/-- all pieces' shares, and all but two -/
def zAll (F : Nat → Int32) : Nat → Int32
  | 0 => 0
  | q + 1 => zAll F q + F q
def zBut (F : Nat → Int32) (p : Nat) : Nat → Int32
  | 0 => 0
  | q + 1 => if q = p then zBut F p q else if q = p + 1 then zBut F p q else zBut F p q + F q
theorem zAll_But (F : Nat → Int32) (p : Nat) : ∀ q, zAll F q = zBut F p q + ((if p < q then F p else 0) + (if p + 1 < q then F (p + 1) else 0))
  | 0 => by
    rw [if_neg (by omega), if_neg (by omega)]
    rfl
  | q + 1 => by
    rw [zAll, zBut, zAll_But F p q]
    by_cases a : q = p
    · subst a
      rw [if_pos rfl, if_neg (by omega), if_neg (by omega), if_pos (by omega), if_neg (by omega), Int32.add_zero, Int32.add_zero, Int32.add_zero]
    · rw [if_neg a]
      by_cases b : q = p + 1
      · subst b
        rw [if_pos rfl, if_pos (by omega), if_neg (by omega), if_pos (by omega), if_pos (by omega), Int32.add_zero, Int32.add_assoc]
      · rw [if_neg b]
        by_cases c : p < q
        · have d : p + 1 < q := by omega
          rw [if_pos c, if_pos d, if_pos (by omega), if_pos (by omega)]
          ac_rfl
        · rw [if_neg c, if_neg (by omega), if_neg (by omega), if_neg (by omega), Int32.add_zero, Int32.add_zero, Int32.add_zero]
theorem zBut_cong {F G : Nat → Int32} {p : Nat} (h : ∀ q, q ≠ p → q ≠ p + 1 → F q = G q) : ∀ q, zBut F p q = zBut G p q
  | 0 => rfl
  | q + 1 => by
    rw [zBut, zBut, zBut_cong h q]
    by_cases a : q = p
    · rw [if_pos a, if_pos a]
    · rw [if_neg a, if_neg a]
      by_cases b : q = p + 1
      · rw [if_pos b, if_pos b]
      · rw [if_neg b, if_neg b, h q a b]
/-- a piece's own sum, with weights -/
def zSk (V W : Nat → Int32) : Nat → Int32
  | 0 => 0
  | k + 1 => zSk V W k + V (k + 1) * W (k + 1)
def zTp (f : Nat → Int32) (p : Nat) : Int32 := zSk (zpV f p) (fun _ => 1) (zpN f p)
def zOp (f : Nat → Int32) (S p : Nat) : Int32 := zSk (zpV f p) (fun k => nI (S + 1) - nI (zpS f p + k)) (zpN f p)
theorem zSk_row (v V W W' : Nat → Int32) (a : Nat) : ∀ L, (∀ k, 1 ≤ k → k ≤ L → v (a + k) = V k ∧ W' (a + k) = W k) → zSk v W' (a + L) = zSk v W' a + zSk V W L
  | 0, _ => (Int32.add_zero _).symm
  | L + 1, h => by
    obtain ⟨e1, e2⟩ := h (L + 1) (by omega) (Nat.le_refl _)
    rw [← Nat.add_assoc] at e1 e2
    rw [← Nat.add_assoc, zSk, zSk, zSk_row v V W W' a L (fun k k1 k2 => h k k1 (by omega)), e1, e2, Int32.add_assoc]
/-- the whole line's sum is the sum of the pieces' -/
theorem zSk_all {f v W : Nat → Int32} {F : Nat → Int32} {U : Nat → Nat → Int32} {n : Nat} (hv : ∀ p k, p < n → 1 ≤ k → k ≤ zpN f p → v (zpS f p + k) = zpV f p k ∧ W (zpS f p + k) = U p k) (hF : ∀ p, p < n → F p = zSk (zpV f p) (U p) (zpN f p)) : ∀ q, q ≤ n → zSk v W (zpS f q) = zAll F q
  | 0, _ => rfl
  | q + 1, hq => by
    show zSk v W (zpS f q + zpN f q) = _
    rw [zSk_row v (zpV f q) (U q) W (zpS f q) (zpN f q) (fun k k1 k2 => hv q k (by omega) k1 k2), zSk_all hv hF q (by omega), zAll, hF q (by omega)]
theorem zT_sum {v t g : Nat → Int32} {S : Nat} (h : zT v t g S) : ∀ s, s ≤ S → t s = zSk v (fun _ => 1) s
  | 0, _ => h.1
  | s + 1, hs => by rw [(h.2.2 s (by omega)).1, zT_sum h s (by omega), zSk, Int32.mul_one]
theorem zSk_up (v : Nat → Int32) (N : Nat) : ∀ s, zSk v (fun i => nI (N + 1 + 1) - nI i) s = zSk v (fun i => nI (N + 1) - nI i) s + zSk v (fun _ => 1) s
  | 0 => rfl
  | s + 1 => by
    have e : nI (N + 1 + 1) - nI (s + 1) = (nI (N + 1) - nI (s + 1)) + 1 := by
      rw [← nI_1 (N + 1)]
      have h := zr4 (nI (N + 1)) 1 (nI (s + 1)) 0
      rw [Int32.add_zero] at h
      rw [h]
      rfl
    rw [zSk, zSk, zSk, zSk_up v N s, e, Int32.mul_add]
    ac_rfl
theorem zG_sum {v t g : Nat → Int32} {S : Nat} (h : zT v t g S) : ∀ s, s ≤ S → g s = zSk v (fun i => nI (s + 1) - nI i) s
  | 0, _ => h.2.1
  | s + 1, hs => by
    have e : nI (s + 1 + 1) - nI (s + 1) = 1 := by
      rw [pk_sub (by omega), show s + 1 + 1 - (s + 1) = 1 by omega]
      rfl
    rw [(h.2.2 s (by omega)).2, (h.2.2 s (by omega)).1, zT_sum h s (by omega), zG_sum h s (by omega), zSk, zSk_up v s s, e, Int32.mul_one]
    ac_rfl
/-- the two states while bends are tried: the class's line stands still -/
def zRo (u v : xU) (n : Nat) : Prop := zR0 u v n ∧ (∀ q, q < n → u.1 8 q = nI (zpS (u.1 2) q + 1)) ∧ u.2 3 = nI (zpS (u.1 2) n)
section ZM
variable {u v w : xU} {n p q j S : Nat} {x : Int32}
theorem zR.ro (h : zR u v n) : zRo u v n := ⟨h.1, h.2.2, h.2.1.1⟩
theorem zRo.g (h : zRo u v n) : zGP (u.1 2) n := h.1.1.1
theorem zRo.N (h : zRo u v n) : u.2 1 = nI n := h.1.1.2.1
theorem zRo.n10 (h : zRo u v n) : n ≤ 10 := h.1.1.1.1
theorem zRo.put (h : zRo u v n) (hp : p < n) (hj : j < 4) (j1 : j ≠ 1) (hx : okf j x) : zRo (uR u 2 (upd (u.1 2) (4 * p + j) x)) (uA v 1 (4 * p + j) x) n := by
  obtain ⟨h0, h8, h3⟩ := h
  refine ⟨h0.touch (h0.1.put hp hj j1 hx) rfl (fun k k2 _ _ _ _ => by simp only [uR]; rw [if_neg k2]) ⟨h0.2.1.1, h0.2.1.2.1⟩ rfl ?_ (fun k hk => by simp only [uA]; rw [if_neg hk]) rfl, fun q hq => ?_, ?_⟩
  · show (if 1 = 1 then upd (v.1 1) (4 * p + j) x else v.1 1) = _
    rw [if_pos rfl]
  · show u.1 8 q = nI (zpS (upd (u.1 2) (4 * p + j) x) q + 1)
    rw [zu_S hj j1]
    exact h8 q hq
  · show u.2 3 = nI (zpS (upd (u.1 2) (4 * p + j) x) n)
    rw [zu_S hj j1]
    exact h3
theorem zRo.lays (h : zRo u v n) : zRo u (s_X6_lays v) n ∧ (s_X6_lays v).2 1 = nI (zpS (u.1 2) n) ∧ (s_X6_lays v).1 6 (zpS (u.1 2) n) = zAll (zTp (u.1 2)) n ∧ (s_X6_lays v).1 7 (zpS (u.1 2) n) = zAll (zOp (u.1 2) (zpS (u.1 2) n)) n := by
  obtain ⟨h0, h8, h3⟩ := h
  have hq := h0
  obtain ⟨⟨hg, hN, h40, hi, hj, hb⟩, z0, hk, hs, ht, zm, h13, hc⟩ := h0
  have gM : zGP (v.1 1) n := hg.cong hi
  have d := (zmlays gM h40 zm).cong hg.1 hi
  have z : z0M (s_X6_lays v) := ⟨d.2.2.1.1, d.2.2.1.2.1, d.2.2.1.2.2.1, d.2.2.1.2.2.2⟩
  have hT : zT ((s_X6_lays v).1 3) ((s_X6_lays v).1 6) ((s_X6_lays v).1 7) (zpS (u.1 2) n) := ⟨d.2.2.1.2.2.1, d.2.2.1.2.2.2, d.2.2.2⟩
  refine ⟨⟨hq.ls (xlays_ls v) z, h8, h3⟩, d.1, ?_, ?_⟩
  · rw [zT_sum hT _ (Nat.le_refl _)]
    exact zSk_all (U := fun _ _ => 1) (fun p k hp k1 k2 => ⟨(d.2.1 p k hp k1 k2).2.1, rfl⟩) (fun p hp => rfl) n (Nat.le_refl _)
  · rw [zG_sum hT _ (Nat.le_refl _)]
    exact zSk_all (U := fun p k => nI (zpS (u.1 2) n + 1) - nI (zpS (u.1 2) p + k)) (fun p k hp k1 k2 => ⟨(d.2.1 p k hp k1 k2).2.1, rfl⟩) (fun p hp => rfl) n (Nat.le_refl _)
theorem zrdN (hN : u.2 1 = nI n) (h10 : n ≤ 10) (hq : n ≤ q) (hq2 : q < 100) (y : Int32) : s_X2_read u (nI q) y = 0 := by
  unfold s_X2_read
  rw [if_neg (nI_pos (by omega)), hN, if_neg (nI_nlt hq (by omega))]
theorem zunder2 {K : Int32} (h : 0 ≤ K.toInt ∧ K.toInt ≤ 5) : (s_X5_isUnder K 2 = 0 ∧ ¬ K = 2 ∧ ¬ K = 4) ∨ (¬ s_X5_isUnder K 2 = 0) := by
  obtain ⟨c, hc, rfl⟩ := nI_of_toInt h.1
  rw [nI_toInt hc] at h
  have h6 : c = 0 ∨ c = 1 ∨ c = 2 ∨ c = 3 ∨ c = 4 ∨ c = 5 := by omega
  rcases h6 with rfl | rfl | rfl | rfl | rfl | rfl
  · exact Or.inl (by decide +kernel)
  · exact Or.inl (by decide +kernel)
  · exact Or.inr (by decide +kernel)
  · exact Or.inl (by decide +kernel)
  · exact Or.inr (by decide +kernel)
  · exact Or.inl (by decide +kernel)
theorem zSk_const (e : Int32) (V : Nat → Int32) (h : ∀ k, V k = e) : ∀ k, zSk V (fun _ => 1) k = nI k * e
  | 0 => by rw [zSk, show nI 0 = (0 : Int32) from rfl, Int32.zero_mul]
  | k + 1 => by rw [zSk, zSk_const e V h k, h, Int32.mul_one, ← nI_1, Int32.add_mul, Int32.one_mul]
theorem zt55 {K e a : Int32} {L : Nat} (hL : L ≤ 20) (V : Nat → Int32) (hV : ∀ k, V k = s_X5_along K a e (nI k) (nI L)) (x1 : Int32) : ∀ (m k f : Nat), m < f → k + m = L → s_X0_turnOf_L55 f u x1 K (nI L) e a (zSk V (fun _ => 1) k) (nI (k + 1)) = zSk V (fun _ => 1) L := by
  intro m
  induction m with
  | zero =>
    intro k f hf hk
    obtain ⟨f, rfl⟩ : ∃ z, f = z + 1 := ⟨f - 1, by omega⟩
    rw [s_X0_turnOf_L55, if_pos (nI_lt (by omega) (by omega)), show k = L by omega]
  | succ m ih =>
    intro k f hf hk
    obtain ⟨f, rfl⟩ : ∃ z, f = z + 1 := ⟨f - 1, by omega⟩
    have e1 : zSk V (fun _ => 1) k + s_X5_along K a e (nI (k + 1)) (nI L) = zSk V (fun _ => 1) (k + 1) := by rw [zSk, hV, Int32.mul_one]
    rw [s_X0_turnOf_L55, if_neg (nI_nlt (by omega) (by omega)), e1, nI_1]
    exact ih (k + 1) f (by omega) (by omega)
theorem zturnOf (hN : u.2 1 = nI n) (hg : zGP (u.1 2) n) (hp : p < n) : s_X0_turnOf u (nI p) = zTp (u.1 2) p := by
  have h10 := hg.1
  obtain ⟨l1, l2, l3⟩ := hg.N hp
  have eK : s_X2_read u (nI p) 0 = zpK (u.1 2) p := s_X2_read_in (j := 0) h10 hN hp (by decide)
  have eL : s_X2_read u (nI p) 1 = nI (zpN (u.1 2) p) := (s_X2_read_in (j := 1) h10 hN hp (by decide)).trans l3
  have hV : ∀ k, zpV (u.1 2) p k = s_X5_along (zpK (u.1 2) p) (zpA (u.1 2) p) (zpE (u.1 2) p) (nI k) (nI (zpN (u.1 2) p)) := fun k => by
    unfold zpV
    rw [l3]
  unfold s_X0_turnOf zTp
  rw [eK, eL, zend hN h10 hp, zahead hN h10 hp]
  rcases zunder2 (hg.K hp) with ⟨a, b, c⟩ | a
  · rw [if_pos a]
    refine (zSk_const (zpE (u.1 2) p) (zpV (u.1 2) p) (fun k => ?_) _).symm
    rw [hV]
    unfold s_X5_along
    rw [if_neg b, if_neg c]
  · rw [if_neg a]
    exact zt55 l2 (zpV (u.1 2) p) hV (nI p) (zpN (u.1 2) p) 0 _ (by rw [nI_toInt (by omega), show (1 : Int32).toInt = 1 from rfl]; omega) (by omega)
theorem zo56 {K e a B : Int32} {L : Nat} (hL : L ≤ 20) (V W : Nat → Int32) (hV : ∀ k, V k = s_X5_along K a e (nI k) (nI L)) (hW : ∀ k, 1 ≤ k → k ≤ L → W k = B - nI k) (x1 : Int32) : ∀ (m k f : Nat), m < f → k + m = L → s_X0_offsetOf_L56 f u x1 K (nI L) a e B (zSk V W k) (nI (k + 1)) = zSk V W L := by
  intro m
  induction m with
  | zero =>
    intro k f hf hk
    obtain ⟨f, rfl⟩ : ∃ z, f = z + 1 := ⟨f - 1, by omega⟩
    rw [s_X0_offsetOf_L56, if_pos (nI_lt (by omega) (by omega)), show k = L by omega]
  | succ m ih =>
    intro k f hf hk
    obtain ⟨f, rfl⟩ : ∃ z, f = z + 1 := ⟨f - 1, by omega⟩
    have e1 : zSk V W k + s_X5_along K a e (nI (k + 1)) (nI L) * (B - nI (k + 1)) = zSk V W (k + 1) := by rw [zSk, hV, hW (k + 1) (by omega) (by omega)]
    rw [s_X0_offsetOf_L56, if_neg (nI_nlt (by omega) (by omega)), e1, nI_1]
    exact ih (k + 1) f (by omega) (by omega)
theorem zoffOf (hN : u.2 1 = nI n) (hg : zGP (u.1 2) n) (hp : p < n) (h8 : ∀ q, q < n → u.1 8 q = nI (zpS (u.1 2) q + 1)) (h3 : u.2 3 = nI (zpS (u.1 2) n)) : s_X0_offsetOf u (nI p) = zOp (u.1 2) (zpS (u.1 2) n) p := by
  have h10 := hg.1
  obtain ⟨l1, l2, l3⟩ := hg.N hp
  have eK : s_X2_read u (nI p) 0 = zpK (u.1 2) p := s_X2_read_in (j := 0) h10 hN hp (by decide)
  have eL : s_X2_read u (nI p) 1 = nI (zpN (u.1 2) p) := (s_X2_read_in (j := 1) h10 hN hp (by decide)).trans l3
  have hV : ∀ k, zpV (u.1 2) p k = s_X5_along (zpK (u.1 2) p) (zpA (u.1 2) p) (zpE (u.1 2) p) (nI k) (nI (zpN (u.1 2) p)) := fun k => by
    unfold zpV
    rw [l3]
  have eF : s_X0_firstOf u (nI p) = nI (zpS (u.1 2) p + 1) := by
    unfold s_X0_firstOf
    rw [s_X5_cell_in (by decide) (by omega)]
    exact h8 p hp
  have hin : zpS (u.1 2) p + zpN (u.1 2) p ≤ zpS (u.1 2) n := zpS_in hp
  unfold s_X0_offsetOf zOp
  rw [eK, eL, zend hN h10 hp, zahead hN h10 hp, eF, h3]
  refine zo56 l2 (zpV (u.1 2) p) (fun k => nI (zpS (u.1 2) n + 1) - nI (zpS (u.1 2) p + k)) hV (fun k k1 k2 => ?_) (nI p) (zpN (u.1 2) p) 0 _ (by rw [nI_toInt (by omega), show (1 : Int32).toInt = 1 from rfl]; omega) (by omega)
  rw [pk_sub (show zpS (u.1 2) p + k ≤ zpS (u.1 2) n + 1 by omega), pk_sub (show zpS (u.1 2) p + 1 ≤ zpS (u.1 2) n by omega), show nI (zpS (u.1 2) n - (zpS (u.1 2) p + 1)) + 2 = nI (zpS (u.1 2) n - (zpS (u.1 2) p + 1) + 2) from nI_add _ 2, pk_sub (by omega)]
  congr 1
  omega
theorem zturnN (hN : u.2 1 = nI n) (h10 : n ≤ 10) (hq : n ≤ q) (hq2 : q < 100) : s_X0_turnOf u (nI q) = 0 := by
  unfold s_X0_turnOf
  rw [zrdN hN h10 hq hq2, zrdN hN h10 hq hq2, if_pos (by decide +kernel), Int32.zero_mul]
theorem zoffN (hN : u.2 1 = nI n) (h10 : n ≤ 10) (hq : n ≤ q) (hq2 : q < 100) : s_X0_offsetOf u (nI q) = 0 := by
  unfold s_X0_offsetOf
  rw [zrdN hN h10 hq hq2, zrdN hN h10 hq hq2, s_X0_offsetOf_L56, if_pos (by decide)]
theorem ztbL (hN : u.2 1 = nI n) (h10 : n ≤ 10) (hp : p < n) (F : Nat → Int32) (hF : ∀ q, q < n → s_X0_turnOf u (nI q) = F q) : ∀ (m k f : Nat), m < f → k + m = n → s_X0_turnBut_L4 f u (nI p) (zBut F p k) (nI k) = zBut F p n := by
  intro m
  induction m with
  | zero =>
    intro k f hf hk
    obtain ⟨f, rfl⟩ : ∃ z, f = z + 1 := ⟨f - 1, by omega⟩
    rw [s_X0_turnBut_L4, hN, if_pos (nI_le (by omega) (by omega)), show k = n by omega]
  | succ m ih =>
    intro k f hf hk
    obtain ⟨f, rfl⟩ : ∃ z, f = z + 1 := ⟨f - 1, by omega⟩
    have g := ih (k + 1) f (by omega) (by omega)
    rw [zBut] at g
    rw [s_X0_turnBut_L4, hN, if_neg (nI_ge (by omega) (by omega)), nI_1, nI_1, hF k (by omega)]
    by_cases a : k = p
    · rw [if_pos (by rw [a])]
      rw [if_pos a] at g
      exact g
    · rw [if_neg (by rw [nI_eq (by omega) (by omega)]; exact a)]
      rw [if_neg a] at g
      by_cases b : k = p + 1
      · rw [if_pos (by rw [b])]
        rw [if_pos b] at g
        exact g
      · rw [if_neg (by rw [nI_eq (by omega) (by omega)]; exact b)]
        rw [if_neg b] at g
        exact g
theorem zobL (hN : u.2 1 = nI n) (h10 : n ≤ 10) (hp : p < n) (F : Nat → Int32) (hF : ∀ q, q < n → s_X0_offsetOf u (nI q) = F q) : ∀ (m k f : Nat), m < f → k + m = n → s_X0_offsetBut_L4 f u (nI p) (zBut F p k) (nI k) = zBut F p n := by
  intro m
  induction m with
  | zero =>
    intro k f hf hk
    obtain ⟨f, rfl⟩ : ∃ z, f = z + 1 := ⟨f - 1, by omega⟩
    rw [s_X0_offsetBut_L4, hN, if_pos (nI_le (by omega) (by omega)), show k = n by omega]
  | succ m ih =>
    intro k f hf hk
    obtain ⟨f, rfl⟩ : ∃ z, f = z + 1 := ⟨f - 1, by omega⟩
    have g := ih (k + 1) f (by omega) (by omega)
    rw [zBut] at g
    rw [s_X0_offsetBut_L4, hN, if_neg (nI_ge (by omega) (by omega)), nI_1, nI_1, hF k (by omega)]
    by_cases a : k = p
    · rw [if_pos (by rw [a])]
      rw [if_pos a] at g
      exact g
    · rw [if_neg (by rw [nI_eq (by omega) (by omega)]; exact a)]
      rw [if_neg a] at g
      by_cases b : k = p + 1
      · rw [if_pos (by rw [b])]
        rw [if_pos b] at g
        exact g
      · rw [if_neg (by rw [nI_eq (by omega) (by omega)]; exact b)]
        rw [if_neg b] at g
        exact g
theorem zRo.but (h : zRo u v n) (hp : p < n) : s_X0_turnBut u (nI p) = zBut (zTp (u.1 2)) p n ∧ s_X0_offsetBut u (nI p) = zBut (zOp (u.1 2) (zpS (u.1 2) n)) p n := by
  have h10 := h.n10
  have hN := h.N
  unfold s_X0_turnBut s_X0_offsetBut
  rw [hN]
  exact ⟨ztbL hN h10 hp _ (fun q hq => zturnOf hN h.g hq) n 0 _ (by rw [nI_toInt (by omega), show (0 : Int32).toInt = 0 from rfl]; omega) (by omega), zobL hN h10 hp _ (fun q hq => zoffOf hN h.g hq h.2.1 h.2.2) n 0 _ (by rw [nI_toInt (by omega), show (0 : Int32).toInt = 0 from rfl]; omega) (by omega)⟩
theorem zRo.reach (h : zRo u v n) (hp : p < n) : s_X0_turnReached u (nI p) + zBut (zTp (u.1 2)) p n = zAll (zTp (u.1 2)) n ∧ s_X0_offsetReached u (nI p) + zBut (zOp (u.1 2) (zpS (u.1 2) n)) p n = zAll (zOp (u.1 2) (zpS (u.1 2) n)) n := by
  have h10 := h.n10
  have hN := h.N
  unfold s_X0_turnReached s_X0_offsetReached
  rw [zAll_But (zTp (u.1 2)) p n, zAll_But (zOp (u.1 2) (zpS (u.1 2) n)) p n, if_pos hp, if_pos hp, zturnOf hN h.g hp, zoffOf hN h.g hp h.2.1 h.2.2, nI_1]
  by_cases a : p + 1 < n
  · rw [if_pos a, if_pos a, zturnOf hN h.g a, zoffOf hN h.g a h.2.1 h.2.2]
    exact ⟨Int32.add_comm _ _, Int32.add_comm _ _⟩
  · rw [if_neg a, if_neg a, zturnN hN h10 (by omega) (by omega), zoffN hN h10 (by omega) (by omega)]
    exact ⟨Int32.add_comm _ _, Int32.add_comm _ _⟩
/-- what a bend does not reach -/
theorem zbut_u (hj : j < 4) (j1 : j ≠ 1) (f : Nat → Int32) (S n : Nat) : zBut (zTp (upd f (4 * p + j) x)) p n = zBut (zTp f) p n ∧ zBut (zOp (upd f (4 * p + j) x) S) p n = zBut (zOp f S) p n := by
  refine ⟨zBut_cong (fun q q0 q1 => ?_) n, zBut_cong (fun q q0 q1 => ?_) n⟩
  · unfold zTp
    rw [zu_N hj j1, show zpV (upd f (4 * p + j) x) q = zpV f q from funext fun k => zu_V hj j1 q0 q1 k]
  · unfold zOp
    rw [zu_N hj j1, zu_S hj j1, show zpV (upd f (4 * p + j) x) q = zpV f q from funext fun k => zu_V hj j1 q0 q1 k]
/-- a bend tried on both sides: what is left of the turn and the offset stands fast -/
theorem zmeet (h : zRo u v n) (hp : p < n) (hx : okf 2 x) {T O : Int32} (hT : T = s_X5_cell 8 (u.1 5) 7 - zBut (zTp (u.1 2)) p n) (hO : O = s_X5_cell 8 (u.1 5) 6 - zBut (zOp (u.1 2) (zpS (u.1 2) n)) p n) :
    s_X5_meetsBy u (nI p) x T O = ((s_X6_doMeet (uA v 1 (4 * p + 2) x)).1, uR u 2 (upd (u.1 2) (4 * p + 2) x)) ∧ zRo (uR u 2 (upd (u.1 2) (4 * p + 2) x)) (s_X6_doMeet (uA v 1 (4 * p + 2) x)).2 n := by
  have h10 := h.n10
  have hp2 := h.put (j := 2) hp (by decide) (by decide) hx
  obtain ⟨l0, l1, l6, l7⟩ := hp2.lays
  obtain ⟨r1, r2⟩ := hp2.reach hp
  have ew : s_X2_write u (nI p) 2 x = uR u 2 (upd (u.1 2) (4 * p + 2) x) := s_X2_write_in (j := 2) h10 h.N hp (by decide) x
  change s_X0_turnReached (uR u 2 (upd (u.1 2) (4 * p + 2) x)) (nI p) + zBut (zTp (upd (u.1 2) (4 * p + 2) x)) p n = zAll (zTp (upd (u.1 2) (4 * p + 2) x)) n at r1
  change s_X0_offsetReached (uR u 2 (upd (u.1 2) (4 * p + 2) x)) (nI p) + zBut (zOp (upd (u.1 2) (4 * p + 2) x) (zpS (upd (u.1 2) (4 * p + 2) x) n)) p n = zAll (zOp (upd (u.1 2) (4 * p + 2) x) (zpS (upd (u.1 2) (4 * p + 2) x) n)) n at r2
  change (s_X6_lays (uA v 1 (4 * p + 2) x)).2 1 = nI (zpS (upd (u.1 2) (4 * p + 2) x) n) at l1
  change (s_X6_lays (uA v 1 (4 * p + 2) x)).1 6 (zpS (upd (u.1 2) (4 * p + 2) x) n) = zAll (zTp (upd (u.1 2) (4 * p + 2) x)) n at l6
  change (s_X6_lays (uA v 1 (4 * p + 2) x)).1 7 (zpS (upd (u.1 2) (4 * p + 2) x) n) = zAll (zOp (upd (u.1 2) (4 * p + 2) x) (zpS (upd (u.1 2) (4 * p + 2) x) n)) n at l7
  obtain ⟨b1, b2⟩ := zbut_u (p := p) (j := 2) (x := x) (by decide) (by decide) (u.1 2) (zpS (u.1 2) n) n
  rw [zu_S (by decide) (by decide)] at l1 l6 l7 r2
  rw [b1] at r1
  rw [b2] at r2
  have h200 := zpS_200 h.g
  have e6 : s_X6_rule (s_X6_lays (uA v 1 (4 * p + 2) x)) 6 = s_X5_cell 8 (u.1 5) 6 := l0.1.1.rul (j := 6) (by decide)
  have e7 : s_X6_rule (s_X6_lays (uA v 1 (4 * p + 2) x)) 7 = s_X5_cell 8 (u.1 5) 7 := l0.1.1.rul (j := 7) (by decide)
  unfold s_X5_meetsBy s_X6_doMeet
  rw [ew, l1, nI_clamp (by omega), l6, l7, e6, e7, hT, hO, ← r1, ← r2]
  by_cases a : s_X0_turnReached (uR u 2 (upd (u.1 2) (4 * p + 2) x)) (nI p) + zBut (zTp (u.1 2)) p n = s_X5_cell 8 (u.1 5) 7
  · rw [if_pos (Int32.eq_sub_iff_add_eq.mpr a)]
    by_cases b : s_X0_offsetReached (uR u 2 (upd (u.1 2) (4 * p + 2) x)) (nI p) + zBut (zOp (u.1 2) (zpS (u.1 2) n)) p n = s_X5_cell 8 (u.1 5) 6
    · rw [if_pos (Int32.eq_sub_iff_add_eq.mpr b), if_pos b, if_pos a]
      exact ⟨rfl, l0⟩
    · rw [if_neg (fun z => b (Int32.eq_sub_iff_add_eq.mp z)), if_neg b]
      exact ⟨rfl, l0⟩
  · rw [if_neg (fun z => a (Int32.eq_sub_iff_add_eq.mp z))]
    by_cases b : s_X0_offsetReached (uR u 2 (upd (u.1 2) (4 * p + 2) x)) (nI p) + zBut (zOp (u.1 2) (zpS (u.1 2) n)) p n = s_X5_cell 8 (u.1 5) 6
    · rw [if_pos b, if_neg a]
      exact ⟨rfl, l0⟩
    · rw [if_neg b]
      exact ⟨rfl, l0⟩
theorem e_miss (h : zR u v n) (p1 : Int32) : s_X5_miss u p1 = (s_X6_miss v p1).1 ∧ ((s_X6_miss v p1).2 = s_X6_lays v ∨ (s_X6_miss v p1).2 = v) := by
  obtain ⟨h', q⟩ := zR_lays h
  have h200 := q.1
  have ht := h.t
  have hb := zTb ht h200 (fun s hs => zrow h.wk hs) _ (Nat.le_refl _)
  obtain ⟨r6, r7⟩ := h.1.1.2.2.2.2.2
  have i6 : s_X5_cell 8 (u.1 5) 6 = u.1 5 6 := s_X5_cell_in (j := 6) (by decide) (by decide)
  have i7 : s_X5_cell 8 (u.1 5) 7 = u.1 5 7 := s_X5_cell_in (j := 7) (by decide) (by decide)
  have c12 : s_X5_cell 201 (u.1 12) (nI (zpS (u.1 2) n)) = u.1 12 (zpS (u.1 2) n) := zcell u h200
  have c13 : s_X5_cell 201 (u.1 13) (nI (zpS (u.1 2) n)) = u.1 13 (zpS (u.1 2) n) := zcell u h200
  have w6 : (s_X6_lays v).1 6 ((s_X6_lays v).2 1).toNatClampNeg = u.1 12 (zpS (u.1 2) n) := by rw [q.2.2.1, nI_clamp (by omega)]; exact (q.2.2.2 _ (Nat.le_refl _)).2.2.1
  have w7 : (s_X6_lays v).1 7 ((s_X6_lays v).2 1).toNatClampNeg = u.1 13 (zpS (u.1 2) n) := by rw [q.2.2.1, nI_clamp (by omega)]; exact (q.2.2.2 _ (Nat.le_refl _)).2.2.2.1
  unfold s_X5_miss s_X6_miss
  rw [zinl v p1 0 1 0 1 rfl rfl, w6, w7, ← h'.r6, ← h'.r7, i6, i7, q.2.1, c12, c13]
  by_cases b : s_X5_within p1 0 1 = 0
  · rw [if_pos b, if_neg (fun e => by rw [e] at b; exact absurd b (by decide)), if_neg (fun e => by rw [e] at b; exact absurd b (by decide))]
    exact ⟨rfl, Or.inr rfl⟩
  · rw [if_neg b]
    obtain ⟨j, hj, rfl⟩ := zwn (S := 1) (x := p1) (by decide) b
    have h2 : j = 0 ∨ j = 1 := by omega
    rcases h2 with rfl | rfl
    · rw [if_pos (show nI 0 = 0 from rfl), if_pos (show nI 0 = 0 from rfl), zws (by omega) (by omega)]
      exact ⟨rfl, Or.inl rfl⟩
    · rw [if_neg (show ¬ nI 1 = 0 by decide), if_pos (show nI 1 = 1 from rfl), if_neg (show ¬ nI 1 = 0 by decide), zws (by omega) (by omega)]
      exact ⟨rfl, Or.inl rfl⟩
end ZM
