/-! ===== numbers: exact division ===== -/
theorem zdivx {x y q : Int32} (e : x.toInt = q.toInt * y.toInt) (hy : y.toInt ≠ 0) : x / y = q := by
  rw [fa_eq, Int32.toInt_div, e, Int.mul_tdiv_cancel _ hy, fb_bmod (fb_rng q).1 (fb_rng q).2]
theorem zmulb {a l A B : Int} (h1 : -A ≤ a) (h2 : a ≤ A) (h3 : 0 ≤ l) (h4 : l ≤ B) (hA : 0 ≤ A) : -(A * B) ≤ a * l ∧ a * l ≤ A * B := by
  have x := Int.mul_le_mul h2 h4 h3 hA
  have y := Int.mul_le_mul (show -a ≤ A by omega) h4 h3 hA
  rw [Int.neg_mul] at y
  exact ⟨by omega, x⟩
theorem zhalf {x : Int32} {A : Int} (h1 : -A ≤ x.toInt) (h2 : x.toInt ≤ A) : -A ≤ (x / 2).toInt ∧ (x / 2).toInt ≤ A := by
  have hr := fb_rng x
  have hb : -A ≤ x.toInt.tdiv 2 ∧ x.toInt.tdiv 2 ≤ A ∧ -2147483648 ≤ x.toInt.tdiv 2 ∧ x.toInt.tdiv 2 < 2147483648 := by
    by_cases h : 0 ≤ x.toInt
    · rw [Int.tdiv_eq_ediv_of_nonneg h]
      omega
    · have e : x.toInt = -(-x.toInt) := by omega
      rw [e, Int.neg_tdiv, Int.tdiv_eq_ediv_of_nonneg (by omega)]
      omega
  rw [Int32.toInt_div, show (2 : Int32).toInt = 2 from rfl, fb_bmod hb.2.2.1 hb.2.2.2]
  exact ⟨hb.1, hb.2.1⟩
theorem zback (a e : Int32) : a + (e - a) = e := by
  rw [Int32.add_comm, Int32.sub_add_cancel]
theorem zshare {x y : Int32} (h : ¬ y = 0) : s_X5_share x y = x / y := by
  unfold s_X5_share
  rw [if_neg h]
/-- an ease comes to its end -/
theorem zease {a e : Int32} {L : Nat} (h1 : -500 ≤ a.toInt) (h2 : a.toInt ≤ 500) (h3 : -500 ≤ e.toInt) (h4 : e.toInt ≤ 500) (l1 : 1 ≤ L) (l2 : L ≤ 20) :
    a + s_X5_share ((e - a) * nI L) (nI L) = e ∧ a + s_X5_share (((e - a) * nI L) * nI L) (nI L * nI L) = e := by
  have hl : (nI L).toInt = (L : Int) := nI_toInt (by omega)
  have hd : (e - a).toInt = e.toInt - a.toInt := fb_subI (by omega) (by omega)
  have m1 := zmulb (a := (e - a).toInt) (l := (nI L).toInt) (A := 1000) (B := 20) (by omega) (by omega) (by omega) (by omega) (by decide)
  have e1 : ((e - a) * nI L).toInt = (e - a).toInt * (nI L).toInt := fb_mulI (by omega) (by omega)
  have m2 := zmulb (a := ((e - a) * nI L).toInt) (l := (nI L).toInt) (A := 20000) (B := 20) (by omega) (by omega) (by omega) (by omega) (by decide)
  have e2 : (((e - a) * nI L) * nI L).toInt = ((e - a) * nI L).toInt * (nI L).toInt := fb_mulI (by omega) (by omega)
  have ll : nI L * nI L = nI (L * L) := pk_mul L L
  have hL2 : L * L ≤ 400 := Nat.mul_le_mul l2 l2
  have hL1 : 1 ≤ L * L := Nat.mul_le_mul l1 l1
  have n1 : ¬ nI L = 0 := nI_ne0 (by omega) (by omega)
  have n2 : ¬ nI L * nI L = 0 := by rw [ll]; exact nI_ne0 (by omega) (by omega)
  have e3 : (nI L * nI L).toInt = (nI L).toInt * (nI L).toInt := by rw [ll, nI_toInt (by omega), hl]; exact Int.natCast_mul L L
  refine ⟨?_, ?_⟩
  · rw [zshare n1, zdivx (q := e - a) e1 (by omega), zback]
  · rw [zshare n2, zdivx (q := e - a) ?_ ?_, zback]
    · rw [e2, e1, e3, Int.mul_assoc]
    · rw [ll, nI_toInt (by omega)]
      omega
section ZR
variable {f : Nat → Int32} {n p : Nat}
theorem zGP.K (h : zGP f n) (hp : p < n) : 0 ≤ (zpK f p).toInt ∧ (zpK f p).toInt ≤ 5 := h.2.1 p 0 (by have := h.1; omega) (by decide)
theorem zGP.B (h : zGP f n) (hp : p < n) : -99 ≤ (zpB f p).toInt ∧ (zpB f p).toInt ≤ 99 := h.2.1 p 2 (by have := h.1; omega) (by decide)
theorem zGP.C (h : zGP f n) (hp : p < n) : 0 ≤ (zpC f p).toInt ∧ (zpC f p).toInt ≤ 160 := h.2.1 p 3 (by have := h.1; omega) (by decide)
theorem zGP.E (h : zGP f n) (hp : p < n) : -99 ≤ (zpE f p).toInt ∧ (zpE f p).toInt ≤ 99 := by
  have b := h.B hp
  have c := zhalf (A := 99) b.1 b.2
  unfold zpE
  split
  · decide
  · split
    · rw [fb_negI (by omega)]
      omega
    · split
      · exact c
      · exact b
theorem zGP.A (h : zGP f n) (hp : p < n) : -99 ≤ (zpA f p).toInt ∧ (zpA f p).toInt ≤ 99 := by
  cases p with
  | zero => exact ⟨show -99 ≤ (0 : Int32).toInt by decide, show (0 : Int32).toInt ≤ 99 by decide⟩
  | succ p => exact h.E (by omega)
theorem zGP.D (h : zGP f n) (hp : p < n) : 0 ≤ (zpD f p).toInt ∧ (zpD f p).toInt ≤ 160 := by
  cases p with
  | zero => exact ⟨show 0 ≤ (0 : Int32).toInt by decide, show (0 : Int32).toInt ≤ 160 by decide⟩
  | succ p => exact h.C (by omega)
theorem zVend (h : zGP f n) (hp : p < n) : zpV f p (zpN f p) = zpE f p := by
  obtain ⟨l1, l2, l3⟩ := h.N hp
  have a := h.A hp
  have e := h.E hp
  obtain ⟨x, y⟩ := zease (a := zpA f p) (e := zpE f p) (L := zpN f p) (by omega) (by omega) (by omega) (by omega) l1 l2
  unfold zpV s_X5_along
  rw [l3]
  split
  · exact x
  · split
    · exact y
    · rfl
theorem zHend (h : zGP f n) (hp : p < n) : zpH f p (zpN f p) = zpC f p := by
  obtain ⟨l1, l2, l3⟩ := h.N hp
  have a := h.D hp
  have e := h.C hp
  obtain ⟨x, y⟩ := zease (a := zpD f p) (e := zpC f p) (L := zpN f p) (by omega) (by omega) (by omega) (by omega) l1 l2
  unfold zpH s_X5_along
  rw [l3]
  split
  · exact x
  · split
    · exact y
    · rfl
theorem zLne (h : zGP f n) (hp : p < n) : ¬ zpL f p = 0 ∧ ¬ zpL f p * zpL f p = 0 := by
  obtain ⟨l1, l2, l3⟩ := h.N hp
  rw [l3, pk_mul]
  have hL2 : zpN f p * zpN f p ≤ 400 := Nat.mul_le_mul l2 l2
  have hL1 : 1 ≤ zpN f p * zpN f p := Nat.mul_le_mul l1 l1
  exact ⟨nI_ne0 (by omega) (by omega), nI_ne0 (by omega) (by omega)⟩
theorem zval (h : zGP f n) (hp : p < n) (k : Nat) : (if zpK f p = 4 then zpA f p + ((((zpB f p - zpA f p) * nI k) * nI k) / (zpL f p * zpL f p)) else if zpK f p = 2 then zpA f p + (((zpB f p - zpA f p) * nI k) / zpL f p) else if zpK f p = 0 then 0 else if zpK f p = 1 then zpB f p else if zpK f p = 3 then -zpB f p else zpB f p / 2) = zpV f p k := by
  obtain ⟨n1, n2⟩ := zLne h hp
  have hK := h.K hp
  unfold zpV s_X5_along
  by_cases h4 : zpK f p = 4
  · have e : zpE f p = zpB f p := by
      unfold zpE
      rw [h4, if_neg (by decide), if_neg (by decide), if_neg (by decide)]
    rw [if_pos h4, h4, if_neg (by decide), if_pos rfl, e, zshare n2]
  · rw [if_neg h4]
    by_cases h2 : zpK f p = 2
    · have e : zpE f p = zpB f p := by
        unfold zpE
        rw [h2, if_neg (by decide), if_neg (by decide), if_neg (by decide)]
      rw [if_pos h2, if_pos h2, e, zshare n1]
    · rw [if_neg h2, if_neg h2, if_neg h4]
      unfold zpE
      by_cases h0 : zpK f p = 0
      · rw [if_pos h0, if_pos h0]
      · rw [if_neg h0, if_neg h0]
        by_cases h1 : zpK f p = 1
        · rw [if_pos h1, h1, if_neg (by decide), if_neg (by decide)]
        · rw [if_neg h1]
          by_cases h3 : zpK f p = 3
          · rw [if_pos h3, if_pos h3]
          · rw [if_neg h3, if_neg h3]
            have h5 : zpK f p = 5 := by
              rw [fa_eq] at h0 h1 h2 h3 h4 ⊢
              rw [show (0 : Int32).toInt = 0 from rfl] at h0
              rw [show (1 : Int32).toInt = 1 from rfl] at h1
              rw [show (2 : Int32).toInt = 2 from rfl] at h2
              rw [show (3 : Int32).toInt = 3 from rfl] at h3
              rw [show (4 : Int32).toInt = 4 from rfl] at h4
              rw [show (5 : Int32).toInt = 5 from rfl]
              omega
            rw [if_pos h5]
theorem zund2 (u : xU) (K : Int32) : s_X6_isUnder u K 2 = if K = 2 then 1 else if K = 4 then 1 else 0 := by
  unfold s_X6_isUnder
  rw [if_neg (by decide), if_neg (show ¬ (2 : Int32) = 1 by decide), if_pos (show (2 : Int32) = 2 from rfl)]
theorem zhgt (h : zGP f n) (hp : p < n) (u : xU) (k : Nat) : (if (s_X6_isUnder u (zpK f p) 2) = 0 then zpC f p else zpD f p + (((zpC f p - zpD f p) * nI k) / zpL f p)) = zpH f p k := by
  obtain ⟨n1, n2⟩ := zLne h hp
  rw [zund2]
  unfold zpH s_X5_along zpR
  by_cases h2 : zpK f p = 2
  · rw [h2, if_pos rfl, if_neg (by decide), if_neg (show ¬ (2 : Int32) = 4 by decide), if_pos rfl, zshare n1]
  · rw [if_neg h2]
    by_cases h4 : zpK f p = 4
    · rw [if_pos h4, if_neg (by decide), if_pos h4, if_pos rfl, zshare n1]
    · rw [if_neg h4, if_pos rfl, if_neg h4, if_neg h2, if_neg h4]
end ZR
