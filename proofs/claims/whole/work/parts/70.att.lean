/-! ===== pieces tried: fills, attempts, bounds ===== -/
theorem zdb {x y : Int32} {M : Int} (hy : 0 < y.toInt) (hM : 0 ≤ M) (hM2 : M < 2147483648) (h1 : -(M * y.toInt) ≤ x.toInt) (h2 : x.toInt ≤ M * y.toInt) : -M ≤ (x / y).toInt ∧ (x / y).toInt ≤ M := by
  have hb : -M ≤ x.toInt.tdiv y.toInt ∧ x.toInt.tdiv y.toInt ≤ M := by
    by_cases h : 0 ≤ x.toInt
    · rw [Int.tdiv_eq_ediv_of_nonneg h]
      have a := Int.ediv_le_of_le_mul hy h2
      have b := Int.ediv_nonneg h (Int.le_of_lt hy)
      omega
    · have e : x.toInt = -(-x.toInt) := by omega
      rw [e, Int.neg_tdiv, Int.tdiv_eq_ediv_of_nonneg (by omega)]
      have a := Int.ediv_le_of_le_mul (a := -x.toInt) hy (show -x.toInt ≤ M * y.toInt by omega)
      have b := Int.ediv_nonneg (a := -x.toInt) (by omega) (Int.le_of_lt hy)
      omega
  rw [Int32.toInt_div, fb_bmod (by omega) (by omega)]
  exact hb
theorem zalb {K a e : Int32} {k L : Nat} (a1 : -99 ≤ a.toInt) (a2 : a.toInt ≤ 99) (e1 : -99 ≤ e.toInt) (e2 : e.toInt ≤ 99) (k2 : k ≤ L) (l1 : 1 ≤ L) (l2 : L ≤ 20) :
    -300 ≤ (s_X5_along K a e (nI k) (nI L)).toInt ∧ (s_X5_along K a e (nI k) (nI L)).toInt ≤ 300 := by
  have hl : (nI L).toInt = (L : Int) := nI_toInt (by omega)
  have hk : (nI k).toInt = (k : Int) := nI_toInt (by omega)
  have hd : (e - a).toInt = e.toInt - a.toInt := fb_subI (by omega) (by omega)
  have m1 := zmulb (a := (e - a).toInt) (l := (nI k).toInt) (A := 198) (B := (L : Int)) (by omega) (by omega) (by omega) (by omega) (by decide)
  have x1 : ((e - a) * nI k).toInt = (e - a).toInt * (nI k).toInt := fb_mulI (by omega) (by omega)
  have ll : nI L * nI L = nI (L * L) := pk_mul L L
  have hL2 : L * L ≤ 400 := Nat.mul_le_mul l2 l2
  have hL1 : 1 ≤ L * L := Nat.mul_le_mul l1 l1
  have hLL : (nI (L * L)).toInt = (L : Int) * (L : Int) := (nI_toInt (by omega)).trans (Int.natCast_mul L L)
  have hc : ((L * L : Nat) : Int) = (L : Int) * (L : Int) := Int.natCast_mul L L
  unfold s_X5_along
  split
  · rw [zshare (nI_ne0 (by omega) (by omega))]
    have d := zdb (x := (e - a) * nI k) (y := nI L) (M := 198) (by omega) (by decide) (by decide) (by omega) (by omega)
    rw [fb_addI (by omega) (by omega)]
    omega
  · split
    · have m2 := zmulb (a := ((e - a) * nI k).toInt) (l := (nI k).toInt) (A := 198 * (L : Int)) (B := (L : Int)) (by omega) (by omega) (by omega) (by omega) (by omega)
      rw [Int.mul_assoc 198 (L : Int) (L : Int)] at m2
      have x2 : (((e - a) * nI k) * nI k).toInt = ((e - a) * nI k).toInt * (nI k).toInt := fb_mulI (by omega) (by omega)
      rw [ll, zshare (nI_ne0 (by omega) (by omega))]
      have d := zdb (x := ((e - a) * nI k) * nI k) (y := nI (L * L)) (M := 198) (by omega) (by decide) (by decide) (by omega) (by omega)
      rw [fb_addI (by omega) (by omega)]
      omega
    · omega
theorem zVb {f : Nat → Int32} {n p k : Nat} (h : zGP f n) (hp : p < n) (hk : k ≤ zpN f p) : -300 ≤ (zpV f p k).toInt ∧ (zpV f p k).toInt ≤ 300 := by
  obtain ⟨l1, l2, l3⟩ := h.N hp
  unfold zpV
  rw [l3]
  exact zalb (h.A hp).1 (h.A hp).2 (h.E hp).1 (h.E hp).2 hk l1 l2
section ZU
variable {f : Nat → Int32} {p q j n : Nat} {x : Int32}
theorem zu_i (hj : j < 4) (hq : q ≠ p) {i : Nat} (hi : i < 4) : upd f (4 * p + j) x (4 * q + i) = f (4 * q + i) := pk_un (by omega)
theorem zu_K (hj : j < 4) (hq : q ≠ p) : zpK (upd f (4 * p + j) x) q = zpK f q := zu_i (i := 0) hj hq (by decide)
theorem zu_B (hj : j < 4) (hq : q ≠ p) : zpB (upd f (4 * p + j) x) q = zpB f q := zu_i (i := 2) hj hq (by decide)
theorem zu_C (hj : j < 4) (hq : q ≠ p) : zpC (upd f (4 * p + j) x) q = zpC f q := zu_i (i := 3) hj hq (by decide)
theorem zu_L (hj : j < 4) (j1 : j ≠ 1) : zpL (upd f (4 * p + j) x) q = zpL f q := by
  show upd f (4 * p + j) x (4 * q + 1) = f (4 * q + 1)
  rw [pk_un (by omega)]
theorem zu_N (hj : j < 4) (j1 : j ≠ 1) : zpN (upd f (4 * p + j) x) q = zpN f q := by
  unfold zpN
  rw [zu_L hj j1]
theorem zu_S (hj : j < 4) (j1 : j ≠ 1) : ∀ q, zpS (upd f (4 * p + j) x) q = zpS f q
  | 0 => rfl
  | q + 1 => by
    show zpS _ q + zpN _ q = zpS f q + zpN f q
    rw [zu_S hj j1 q, zu_N hj j1]
theorem zu_E (hj : j < 4) (hq : q ≠ p) : zpE (upd f (4 * p + j) x) q = zpE f q := by
  unfold zpE
  rw [zu_K hj hq, zu_B hj hq]
theorem zu_A (hj : j < 4) (hq : q ≠ p + 1) : zpA (upd f (4 * p + j) x) q = zpA f q := by
  cases q with
  | zero => rfl
  | succ q => exact zu_E hj (by omega)
theorem zu_D (hj : j < 4) (hq : q ≠ p + 1) : zpD (upd f (4 * p + j) x) q = zpD f q := by
  cases q with
  | zero => rfl
  | succ q => exact zu_C hj (by omega)
theorem zu_V (hj : j < 4) (j1 : j ≠ 1) (h0 : q ≠ p) (h1 : q ≠ p + 1) (k : Nat) : zpV (upd f (4 * p + j) x) q k = zpV f q k := by
  unfold zpV
  rw [zu_K hj h0, zu_A hj h1, zu_E hj h0, zu_L hj j1]
theorem zu_H (hj : j < 4) (j1 : j ≠ 1) (h0 : q ≠ p) (h1 : q ≠ p + 1) (k : Nat) : zpH (upd f (4 * p + j) x) q k = zpH f q k := by
  unfold zpH zpR
  rw [zu_K hj h0, zu_D hj h1, zu_C hj h0, zu_L hj j1]
theorem zGP.put (h : zGP f n) (hj : j < 4) (j1 : j ≠ 1) (hx : okf j x) : zGP (upd f (4 * p + j) x) n := by
  obtain ⟨h1, h2, h3⟩ := h
  refine ⟨h1, XV0.upd h2 hj hx, fun q hq => ?_⟩
  rw [pk_un (by omega)]
  exact h3 q hq
theorem zpart (hpn : p < n) (hq : q < n) (hne : q ≠ p) {k : Nat} (k1 : 1 ≤ k) (k2 : k ≤ zpN f q) : zpS f q + k ≤ zpS f p ∨ zpS f p + zpN f p < zpS f q + k := by
  rcases Nat.lt_or_ge q p with h | h
  · have := zpS_in (f := f) h
    omega
  · have := zpS_in (f := f) (p := p) (n := q) (by omega)
    omega
end ZU
theorem zfl {u : xU} {n p : Nat} (hn : u.2 1 = nI n) (hg : zGP (u.1 2) n) (hp : p < n) (hs : ∀ q, q < n → u.1 8 q = nI (zpS (u.1 2) q + 1)) :
    (∀ k, 1 ≤ k → k ≤ zpN (u.1 2) p → (s_X0_fill u (nI p)).1 9 (zpS (u.1 2) p + k) = nI p ∧ (s_X0_fill u (nI p)).1 10 (zpS (u.1 2) p + k) = zpV (u.1 2) p k ∧ (s_X0_fill u (nI p)).1 11 (zpS (u.1 2) p + k) = zpH (u.1 2) p k) ∧
    ∀ s, (s ≤ zpS (u.1 2) p ∨ zpS (u.1 2) p + zpN (u.1 2) p < s) → (s_X0_fill u (nI p)).1 9 s = u.1 9 s ∧ (s_X0_fill u (nI p)).1 10 s = u.1 10 s ∧ (s_X0_fill u (nI p)).1 11 s = u.1 11 s := by
  have h10 := hg.1
  obtain ⟨r9, r10, r11⟩ := zfill hn hg hp (by
    unfold s_X0_firstOf
    rw [s_X5_cell_in (by decide) (by omega)]
    exact hs p hp)
  rw [r9, r10, r11]
  refine ⟨fun k k1 k2 => ?_, fun s hs => ?_⟩
  · rw [fb_put_in (by omega) (by omega), fb_put_in (by omega) (by omega), fb_put_in (by omega) (by omega), show zpS (u.1 2) p + k - (zpS (u.1 2) p + 1) + 1 = k by omega]
    exact ⟨rfl, rfl, rfl⟩
  · rw [fb_put_out (by omega), fb_put_out (by omega), fb_put_out (by omega)]
    exact ⟨rfl, rfl, rfl⟩
theorem zatt {f : Nat → Int32} {u : xU} {n p j : Nat} {x : Int32} (hg : zGP f n) (h : zLP f n n u) (hp : p < n) (hj : j < 4) (j1 : j ≠ 1) (hx : okf j x) :
    zLP (upd f (4 * p + j) x) n n (s_X0_attempt u (nI p) (nI j) x) ∧ (s_X0_attempt u (nI p) (nI j) x).2 = u.2 ∧ ∀ k, k ≠ 2 → k ≠ 9 → k ≠ 10 → k ≠ 11 → (s_X0_attempt u (nI p) (nI j) x).1 k = u.1 k := by
  obtain ⟨rfl, h2, h3, h4, h5, h6⟩ := h
  have h10 := hg.1
  have hg' : zGP (upd (u.1 2) (4 * p + j) x) n := hg.put hj j1 hx
  unfold s_X0_attempt
  rw [s_X2_write_in h10 h2 hp hj]
  have hs1 : ∀ q, q < n → (uR u 2 (upd (u.1 2) (4 * p + j) x)).1 8 q = nI (zpS ((uR u 2 (upd (u.1 2) (4 * p + j) x)).1 2) q + 1) := fun q hq => by
    show u.1 8 q = nI (zpS (upd (u.1 2) (4 * p + j) x) q + 1)
    rw [zu_S hj j1]
    exact h3 q hq
  obtain ⟨a1, a2⟩ := zfl (u := uR u 2 (upd (u.1 2) (4 * p + j) x)) (n := n) (p := p) h2 hg' hp hs1
  obtain ⟨b2, b1⟩ := xfill (uR u 2 (upd (u.1 2) (4 * p + j) x)) (nI p)
  change ∀ k, 1 ≤ k → k ≤ zpN (upd (u.1 2) (4 * p + j) x) p → _ at a1
  change ∀ s, (s ≤ zpS (upd (u.1 2) (4 * p + j) x) p ∨ zpS (upd (u.1 2) (4 * p + j) x) p + zpN (upd (u.1 2) (4 * p + j) x) p < s) → _ = u.1 9 s ∧ _ = u.1 10 s ∧ _ = u.1 11 s at a2
  rw [nI_1]
  generalize s_X0_fill (uR u 2 (upd (u.1 2) (4 * p + j) x)) (nI p) = w at a1 a2 b1 b2
  have w2 : w.1 2 = upd (u.1 2) (4 * p + j) x := b1 2 (by decide) (by decide) (by decide)
  have w8 : w.1 8 = u.1 8 := b1 8 (by decide) (by decide) (by decide)
  have wr : ∀ k, k ≠ 2 → k ≠ 9 → k ≠ 10 → k ≠ 11 → w.1 k = u.1 k := fun k k2 k9 k10 k11 => (b1 k k9 k10 k11).trans (by simp only [uR]; rw [if_neg k2])
  have e2 : w.2 = u.2 := b2
  by_cases hp1 : p + 1 < n
  · obtain ⟨c1, c2⟩ := zfl (u := w) (n := n) (p := p + 1) (by rw [e2]; exact h2) (by rw [w2]; exact hg') hp1 (fun q hq => by rw [w2, w8]; exact hs1 q hq)
    obtain ⟨d2, d1⟩ := xfill w (nI (p + 1))
    rw [w2] at c1 c2
    refine ⟨⟨(d1 2 (by decide) (by decide) (by decide)).trans w2, by rw [d2, e2]; exact h2, fun q hq => ?_, fun q k hq k1 k2 => ?_, ?_, ?_⟩, d2.trans e2, fun k k2 k9 k10 k11 => (d1 k k9 k10 k11).trans (wr k k2 k9 k10 k11)⟩
    · rw [d1 8 (by decide) (by decide) (by decide), w8]
      exact hs1 q hq
    · by_cases z1 : q = p + 1
      · subst z1
        exact c1 k k1 k2
      · obtain ⟨g9, g10, g11⟩ := c2 _ (zpart hp1 hq z1 k1 k2)
        rw [g9, g10, g11]
        by_cases z0 : q = p
        · subst z0
          exact a1 k k1 k2
        · obtain ⟨g9, g10, g11⟩ := a2 _ (zpart hp hq z0 k1 k2)
          rw [g9, g10, g11, zu_V hj j1 z0 z1, zu_H hj j1 z0 z1, zu_S hj j1]
          exact h4 q k hq k1 (by rw [zu_N hj j1] at k2; exact k2)
    · obtain ⟨g9, g10, g11⟩ := c2 0 (Or.inl (Nat.zero_le _))
      rw [g10, (a2 0 (Or.inl (Nat.zero_le _))).2.1]
      exact h5
    · obtain ⟨g9, g10, g11⟩ := c2 0 (Or.inl (Nat.zero_le _))
      rw [g11, (a2 0 (Or.inl (Nat.zero_le _))).2.2]
      exact h6
  · have ef : s_X0_fill w (nI (p + 1)) = w := by
      unfold s_X0_fill
      rw [if_pos]
      unfold s_X2_has
      rw [if_neg (nI_pos (by omega)), e2, h2, if_pos (nI_le (by omega) (by omega))]
    rw [ef]
    refine ⟨⟨w2, by rw [e2]; exact h2, fun q hq => by rw [w8]; exact hs1 q hq, fun q k hq k1 k2 => ?_, ?_, ?_⟩, e2, wr⟩
    · by_cases z0 : q = p
      · subst z0
        exact a1 k k1 k2
      · obtain ⟨g9, g10, g11⟩ := a2 _ (zpart hp hq z0 k1 k2)
        rw [g9, g10, g11, zu_V hj j1 z0 (by omega), zu_H hj j1 z0 (by omega), zu_S hj j1]
        exact h4 q k hq k1 (by rw [zu_N hj j1] at k2; exact k2)
    · rw [(a2 0 (Or.inl (Nat.zero_le _))).2.1]
      exact h5
    · rw [(a2 0 (Or.inl (Nat.zero_le _))).2.2]
      exact h6
/-- the two states while pieces are tried: turns and offsets of the class may stand still -/
def zRw (u v : xU) (n : Nat) : Prop := zR0 u v n ∧ zLP (u.1 2) n n u ∧ u.2 3 = nI (zpS (u.1 2) n)
def zQw (u w : xU) (S : Nat) : Prop := S ≤ 200 ∧ u.2 3 = nI S ∧ w.2 1 = nI S ∧ (∀ s, s ≤ S → w.1 3 s = u.1 10 s ∧ w.1 4 s = u.1 11 s) ∧ zT (w.1 3) (w.1 6) (w.1 7) S
section ZW
variable {u v w : xU} {n p j S : Nat} {x : Int32}
theorem zR.wk (h : zR u v n) : zRw u v n := by
  obtain ⟨h0, h1⟩ := h
  have hd := h1.1
  exact ⟨h0, ⟨rfl, h0.1.2.1, h1.2, hd.2.1, hd.2.2.1.1, hd.2.2.1.2.1⟩, hd.1⟩
theorem zRw.to (h : zRw u v n) (ht : zT (u.1 10) (u.1 12) (u.1 13) (zpS (u.1 2) n)) : zR u v n := by
  obtain ⟨h0, ⟨-, l2, l3, l4, l5, l6⟩, h3⟩ := h
  exact ⟨h0, ⟨h3, l4, ⟨l5, l6, ht.1, ht.2.1⟩, ht.2.2⟩, l3⟩
theorem zR.t (h : zR u v n) : zT (u.1 10) (u.1 12) (u.1 13) (zpS (u.1 2) n) := by
  have hd := h.2.1
  exact ⟨hd.2.2.1.2.2.1, hd.2.2.1.2.2.2, hd.2.2.2⟩
theorem zRw_lays (h : zRw u v n) : zRw u (s_X6_lays v) n ∧ zQw u (s_X6_lays v) (zpS (u.1 2) n) := by
  obtain ⟨h0, ⟨l1, l2, l3, l4, l5, l6⟩, h3⟩ := h
  have hq := h0
  obtain ⟨⟨hg, hN, h40, hi, hj, hb⟩, z0, hk, hs, ht, zm, h13, hc⟩ := h0
  have gM : zGP (v.1 1) n := hg.cong hi
  have d := (zmlays gM h40 zm).cong hg.1 hi
  have z : z0M (s_X6_lays v) := ⟨d.2.2.1.1, d.2.2.1.2.1, d.2.2.1.2.2.1, d.2.2.1.2.2.2⟩
  refine ⟨⟨hq.ls (xlays_ls v) z, ⟨l1, l2, l3, l4, l5, l6⟩, h3⟩, zpS_200 hg, h3, d.1, fun s hs => ?_, ⟨d.2.2.1.2.2.1, d.2.2.1.2.2.2, d.2.2.2⟩⟩
  by_cases s0 : s = 0
  · subst s0
    exact ⟨z.1.trans l5.symm, z.2.1.trans l6.symm⟩
  · obtain ⟨q, k, q1, k1, k2, rfl⟩ := zp_at (u.1 2) n s (by omega) hs
    obtain ⟨a1, a2, a3⟩ := l4 q k q1 k1 k2
    obtain ⟨b1, b2, b3⟩ := d.2.1 q k q1 k1 k2
    exact ⟨b2.trans a2.symm, b3.trans a3.symm⟩
theorem zR0.touch {u' v' : xU} {f' g' : Nat → Int32} (h : zR0 u v n) (hr : zRn f' (u.2 1) g' (u.1 5) n) (h0 : u'.1 2 = f') (h1 : ∀ k, k ≠ 2 → k ≠ 9 → k ≠ 10 → k ≠ 11 → k ≠ 15 → u'.1 k = u.1 k) (hz : u'.1 10 0 = 0 ∧ u'.1 11 0 = 0) (h2 : u'.2 = u.2) (hv : v'.1 1 = g') (h3 : ∀ k, k ≠ 1 → v'.1 k = v.1 k) (h4 : v'.2 = v.2) : zR0 u' v' n := by
  obtain ⟨-, z0, hk, hs, ht, zm, h13, hc⟩ := h
  refine ⟨?_, ⟨hz.1, hz.2, ?_, ?_, ?_⟩, ?_, ?_, ?_, ?_, ?_, ?_⟩
  · rw [h0, hv, h2, h1 5 (by decide) (by decide) (by decide) (by decide) (by decide)]; exact hr
  · rw [h1 12 (by decide) (by decide) (by decide) (by decide) (by decide)]; exact z0.2.2.1
  · rw [h1 13 (by decide) (by decide) (by decide) (by decide) (by decide)]; exact z0.2.2.2.1
  · rw [h1 29 (by decide) (by decide) (by decide) (by decide) (by decide)]; exact z0.2.2.2.2
  · unfold zRk at hk ⊢
    rw [h4, h2, h1 4 (by decide) (by decide) (by decide) (by decide) (by decide), h1 6 (by decide) (by decide) (by decide) (by decide) (by decide), h3 2 (by decide)]; exact hk
  · intro k hk4
    rw [h2, h1 (21 + k) (by omega) (by omega) (by omega) (by omega) (by omega), h3 8 (by decide), h3 9 (by decide), h3 10 (by decide)]; exact hs k hk4
  · unfold zRt at ht ⊢
    rw [h4, h2, h1 26 (by decide) (by decide) (by decide) (by decide) (by decide), h3 14 (by decide)]; exact ht
  · unfold z0M
    rw [h3 3 (by decide), h3 4 (by decide), h3 6 (by decide), h3 7 (by decide)]; exact zm
  · rw [h3 13 (by decide)]; exact h13
  · show XCv (v'.1 15) (v'.1 16) (v'.1 17)
    rw [h3 15 (by decide), h3 16 (by decide), h3 17 (by decide)]; exact hc
theorem zRn.put {f g r : Nat → Int32} {N : Int32} (h : zRn f N g r n) (hp : p < n) (hj : j < 4) (j1 : j ≠ 1) (hx : okf j x) : zRn (upd f (4 * p + j) x) N (upd g (4 * p + j) x) r n := by
  obtain ⟨hg, hN, h40, hi, hjj, hb⟩ := h
  have h10 := hg.1
  refine ⟨hg.put hj j1 hx, hN, ?_, zuc hi _ _, fun i hi' => ?_, hb⟩
  · rw [pk_un (by omega)]; exact h40
  · rw [pk_un (by omega)]; exact hjj i hi'
theorem zplace {p j : Nat} (hp : p < 10) (hj : j < 4) : ((4 * nI p) + nI j).toNatClampNeg = 4 * p + j := by
  rw [show (4 : Int32) * nI p = nI (4 * p) from pk_mul 4 p, nI_add, nI_clamp (by omega)]
/-- a piece's field tried on both sides -/
theorem zRw.tri (h : zRw u v n) (hp : p < n) (hj : j < 4) (j1 : j ≠ 1) (hx : okf j x) :
    zRw (s_X0_attempt u (nI p) (nI j) x) (uA v 1 (4 * p + j) x) n ∧ (s_X0_attempt u (nI p) (nI j) x).2 = u.2 ∧ (s_X0_attempt u (nI p) (nI j) x).1 2 = upd (u.1 2) (4 * p + j) x ∧ ∀ k, k ≠ 2 → k ≠ 9 → k ≠ 10 → k ≠ 11 → (s_X0_attempt u (nI p) (nI j) x).1 k = u.1 k := by
  obtain ⟨h0, hl, h3⟩ := h
  have hg := h0.1.1
  obtain ⟨a1, a2, a3⟩ := zatt hg hl hp hj j1 hx
  have e2 := a1.1
  refine ⟨⟨h0.touch (h0.1.put hp hj j1 hx) e2 (fun k k2 k9 k10 k11 _ => a3 k k2 k9 k10 k11) ⟨a1.2.2.2.2.1, a1.2.2.2.2.2⟩ a2 ?_ (fun k hk => by simp only [uA]; rw [if_neg hk]) rfl, by rw [e2]; exact a1, ?_⟩, a2, e2, a3⟩
  · show (if 1 = 1 then upd (v.1 1) (4 * p + j) x else v.1 1) = _
    rw [if_pos rfl]
  · rw [a2, e2, zu_S hj j1]; exact h3
/-- the old state comes back -/
theorem zRw.back {u0 : xU} (h : zRw u v n) (h0 : zT (u0.1 10) (u0.1 12) (u0.1 13) (zpS (u0.1 2) n)) (hl : zLP (u0.1 2) n n u0) (e2 : u.1 2 = u0.1 2) (e12 : u.1 12 = u0.1 12) (e13 : u.1 13 = u0.1 13) : zR u v n := by
  refine h.to ?_
  obtain ⟨hz, ⟨-, l2, l3, l4, l5, l6⟩, h3⟩ := h
  obtain ⟨-, m2, m3, m4, m5, m6⟩ := hl
  rw [e2, e12, e13]
  rw [e2] at l4
  refine ⟨h0.1, h0.2.1, fun s hs => ?_⟩
  have e10 : u.1 10 (s + 1) = u0.1 10 (s + 1) := by
    obtain ⟨q, k, q1, k1, k2, e⟩ := zp_at (u0.1 2) n (s + 1) (by omega) (by omega)
    rw [e, (l4 q k q1 k1 k2).2.1, (m4 q k q1 k1 k2).2.1]
  rw [e10]
  exact h0.2.2 s hs
theorem zR.lp (h : zR u v n) : zLP (u.1 2) n n u := h.wk.2.1
theorem zrow (h : zRw u v n) {s : Nat} (hs : s ≤ zpS (u.1 2) n) : -300 ≤ (u.1 10 s).toInt ∧ (u.1 10 s).toInt ≤ 300 := by
  obtain ⟨hz, ⟨-, l2, l3, l4, l5, l6⟩, h3⟩ := h
  by_cases s0 : s = 0
  · subst s0
    rw [l5]
    decide
  · obtain ⟨q, k, q1, k1, k2, rfl⟩ := zp_at (u.1 2) n s (by omega) hs
    rw [(l4 q k q1 k1 k2).2.1]
    exact zVb hz.1.1 q1 k2
theorem zRw.n10 (h : zRw u v n) : n ≤ 10 := h.1.1.1.1
theorem zQw.c3 {s : Nat} (q : zQw u w S) (hs : s ≤ S) : s_X5_cell 201 (u.1 10) (nI s) = w.1 3 s := by
  have h2 := q.1
  rw [s_X5_cell_in (by decide) (by omega)]
  exact (q.2.2.2.1 s hs).1.symm
end ZW
