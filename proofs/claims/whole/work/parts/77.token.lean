/-! ===== tokens: both sides read alike ===== -/
def zln (w : Nat) : Nat := ([5, 4, 4, 5, 4] : List Nat).getD w 0
def zbg (w : Nat) : Nat := ([0, 5, 9, 13, 18] : List Nat).getD w 0
theorem zt_len : ∀ w : Nat, w < 5 → s_str_length w = nI (zln w) ∧ tBeg (w + 1) - tBeg w = nI (zln w) ∧ tBeg w = nI (zbg w) ∧ zbg w + zln w ≤ 22 ∧ 4 ≤ zln w ∧ zln w ≤ 5 := by decide +kernel
theorem zt_ch : ∀ w : Nat, w < 5 → ∀ i : Nat, i < 5 → i < zln w → s_str_charAt w (nI i) = tLet (zbg w + i) := by decide +kernel
theorem zt_first : ∀ w : Nat, w < 5 → ∀ w2 : Nat, w2 < 5 → tLet (zbg w) = tLet (zbg w2) → w = w2 := by decide +kernel
theorem zt_name : ∀ w : Nat, w < 5 → s_X4_nameOf (nI w) = w := by decide +kernel
/-- the bytes from s to e spell a word -/
def zMt (b : Nat → Int32) (s e w : Nat) : Prop := e = s + zln w ∧ ∀ i, i < zln w → b (s + i) = tLet (zbg w + i)
theorem zMt.one {b : Nat → Int32} {s e w w2 : Nat} (h : zMt b s e w) (h2 : zMt b s e w2) (hw : w < 5) (hw2 : w2 < 5) : w = w2 := by
  have a := (zt_len w hw).2.2.2.2.1
  have a2 := (zt_len w2 hw2).2.2.2.2.1
  exact zt_first w hw w2 hw2 ((h.2 0 (by omega)).symm.trans (h2.2 0 (by omega)))
/-- what reading a token leaves alone -/
def zFt (u w : xU) : Prop := w.1 = u.1 ∧ ∀ k, k ≠ 14 → k ≠ 15 → k ≠ 16 → k ≠ 17 → w.2 k = u.2 k
theorem zFt.r (u : xU) : zFt u u := ⟨rfl, fun _ _ _ _ _ => rfl⟩
theorem zFt.t {u v w : xU} (h : zFt u v) (h2 : zFt v w) : zFt u w := ⟨h2.1.trans h.1, fun k a b c d => (h2.2 k a b c d).trans (h.2 k a b c d)⟩
theorem zFt.z (u : xU) {j : Nat} (hj : 14 ≤ j ∧ j ≤ 17) (x : Int32) : zFt u (uZ u j x) := ⟨rfl, fun k a b c d => by simp only [uZ]; rw [if_neg (by omega)]⟩
theorem zFt_48 (n : Nat) : ∀ (u : xU) (x1 : Int32), zFt u (s_X4_readWord_L48 n u x1) := by
  induction n with
  | zero => intro u x1; exact zFt.r u
  | succ n ih =>
    intro u x1
    rw [s_X4_readWord_L48]
    split
    · exact zFt.r u
    · split
      · exact ih _ _
      · exact ((zFt.z u (by decide) _).t (zFt.z _ (by decide) _)).t (ih _ _)
theorem zFt_0 (n : Nat) : ∀ (u : xU), zFt u (s_X4_readWord_L0 n u) := by
  induction n with
  | zero => intro u; exact zFt.r u
  | succ n ih =>
    intro u
    rw [s_X4_readWord_L0]
    split
    · exact (zFt.z u (by decide) _).t (zFt_48 _ _ _)
    · split
      · exact (zFt.z u (by decide) _).t (zFt_48 _ _ _)
      · exact (zFt.z u (by decide) _).t (ih _)
def zNf (u : xU) (x1 x2 x3 : Int32) : xU :=
  if (s_X5_within ((u.2 14) - x2) 1 3) = 0 then
    if x1 = 0 then
      uZ (uZ u 16 4) 17 x3
    else
      uZ (uZ u 16 4) 17 (-x3)
  else
    if x1 = 0 then
      uZ (uZ u 16 1) 17 x3
    else
      uZ (uZ u 16 1) 17 (-x3)
theorem zrn_eq (n : Nat) (u : xU) (x1 x2 x3 : Int32) : s_X4_readNumber_L43 (n + 1) u x1 x2 x3 = if (u.2 12) ≤ (u.2 14) then zNf u x1 x2 x3 else if (s_X4_isDigit (s_X5_cell 60 (u.1 26) (u.2 14))) = 0 then zNf u x1 x2 x3 else s_X4_readNumber_L43 n (uZ u 14 ((u.2 14) + 1)) x1 x2 (((x3 * 10) + (s_X5_cell 60 (u.1 26) (u.2 14))) - 48) := by
  rw [s_X4_readNumber_L43]
  rfl
theorem zFt_nf (u : xU) (x1 x2 x3 : Int32) : zFt u (zNf u x1 x2 x3) := by
  unfold zNf
  split
  · split
    · exact (zFt.z u (by decide) _).t (zFt.z _ (by decide) _)
    · exact (zFt.z u (by decide) _).t (zFt.z _ (by decide) _)
  · split
    · exact (zFt.z u (by decide) _).t (zFt.z _ (by decide) _)
    · exact (zFt.z u (by decide) _).t (zFt.z _ (by decide) _)
theorem zFt_43 (n : Nat) : ∀ (u : xU) (x1 x2 x3 : Int32), zFt u (s_X4_readNumber_L43 n u x1 x2 x3) := by
  induction n with
  | zero => intro u x1 x2 x3; exact zFt.r u
  | succ n ih =>
    intro u x1 x2 x3
    rw [zrn_eq]
    split
    · exact zFt_nf u x1 x2 x3
    · split
      · exact zFt_nf u x1 x2 x3
      · exact (zFt.z u (by decide) _).t (ih _ _ _ _)
theorem zFt_n (u : xU) : zFt u (s_X4_readNumber u) := by
  unfold s_X4_readNumber
  split
  · exact (zFt.z u (by decide) _).t (zFt_43 _ _ _ _ _)
  · exact zFt_43 _ _ _ _ _
/-- the class's choice at a token's start -/
def zDc (u : xU) : xU :=
  if ((uZ u 15 (u.2 14)).2 14) < ((uZ u 15 (u.2 14)).2 12) then
    if (s_X4_isLetter (s_X5_cell 60 ((uZ u 15 (u.2 14)).1 26) ((uZ u 15 (u.2 14)).2 14))) = 0 then
      if (s_X5_cell 60 ((uZ u 15 (u.2 14)).1 26) ((uZ u 15 (u.2 14)).2 14)) = 45 then
        s_X4_readNumber (uZ u 15 (u.2 14))
      else
        if (s_X4_isDigit (s_X5_cell 60 ((uZ u 15 (u.2 14)).1 26) ((uZ u 15 (u.2 14)).2 14))) = 0 then
          if (s_X5_cell 60 ((uZ u 15 (u.2 14)).1 26) ((uZ u 15 (u.2 14)).2 14)) = 59 then
            uZ (uZ (uZ u 15 (u.2 14)) 16 2) 14 (((uZ (uZ u 15 (u.2 14)) 16 2).2 14) + 1)
          else
            uZ (uZ (uZ u 15 (u.2 14)) 16 4) 14 (((uZ (uZ u 15 (u.2 14)) 16 4).2 14) + 1)
        else
          s_X4_readNumber (uZ u 15 (u.2 14))
    else
      s_X4_readWord (uZ u 15 (u.2 14))
  else
    uZ (uZ u 15 (u.2 14)) 16 3
theorem znt_eq (n : Nat) (u : xU) : s_X4_nextToken_L0 (n + 1) u = if (u.2 12) ≤ (u.2 14) then zDc u else if (s_X4_isBlank (s_X5_cell 60 (u.1 26) (u.2 14))) = 0 then zDc u else s_X4_nextToken_L0 n (uZ u 14 ((u.2 14) + 1)) := by
  rw [s_X4_nextToken_L0]
  rfl
theorem zFt_dc (u : xU) : zFt u (zDc u) := by
  unfold zDc
  split
  · split
    · split
      · exact (zFt.z u (by decide) _).t (zFt_n _)
      · split
        · split
          · exact ((zFt.z u (by decide) _).t (zFt.z _ (by decide) _)).t (zFt.z _ (by decide) _)
          · exact ((zFt.z u (by decide) _).t (zFt.z _ (by decide) _)).t (zFt.z _ (by decide) _)
        · exact (zFt.z u (by decide) _).t (zFt_n _)
    · exact (zFt.z u (by decide) _).t (zFt_0 _ _)
  · exact (zFt.z u (by decide) _).t (zFt.z _ (by decide) _)
theorem zFt_nt0 (n : Nat) : ∀ (u : xU), zFt u (s_X4_nextToken_L0 n u) := by
  induction n with
  | zero => intro u; exact zFt.r u
  | succ n ih =>
    intro u
    rw [znt_eq]
    split
    · exact zFt_dc u
    · split
      · exact zFt_dc u
      · exact (zFt.z u (by decide) _).t (ih _)
theorem zFt_nt (u : xU) : zFt u (s_X4_nextToken u) := zFt_nt0 _ u
/-- the reference's choice -/
def zDm (v : xU) : xU :=
  if (s_X6_in v ((s_X6_here (uZ v 6 (v.2 5))).toInt64) 97 122) = 0 then
    if (s_X6_in v ((s_X6_here (uZ v 6 (v.2 5))).toInt64) 48 57) = 0 then
      if (s_X6_here (uZ v 6 (v.2 5))) = 45 then
        uZ ((s_X6_numberHere (uZ v 6 (v.2 5))).2) 7 ((s_X6_numberHere (uZ v 6 (v.2 5))).1)
      else
        if (s_X6_here (uZ v 6 (v.2 5))) = 59 then
          uZ (uZ (uZ v 6 (v.2 5)) 7 11) 5 ((v.2 5) + 1)
        else
          uZ (uZ v 6 (v.2 5)) 7 (if (s_X6_here (uZ v 6 (v.2 5))) = (-1) then 12 else 13)
    else
      uZ ((s_X6_numberHere (uZ v 6 (v.2 5))).2) 7 ((s_X6_numberHere (uZ v 6 (v.2 5))).1)
  else
    uZ ((s_X6_wordHere (uZ v 6 (v.2 5))).2) 7 ((s_X6_wordHere (uZ v 6 (v.2 5))).1)
theorem znx_eq (n : Nat) (v : xU) : s_X6_next_L0 (n + 1) v = if (s_X6_here v) = 32 then s_X6_next_L0 n (uZ v 5 ((v.2 5) + 1)) else if (s_X6_here v) = 10 then s_X6_next_L0 n (uZ v 5 ((v.2 5) + 1)) else zDm v := by
  rw [s_X6_next_L0]
  rfl
/-- one tape on both sides -/
def zX (u v : xU) (Z : Nat) : Prop := Z ≤ 60 ∧ u.2 12 = nI Z ∧ v.2 4 = nI Z ∧ ((∀ i, i < 60 → v.1 14 i = u.1 26 i) ∧ ∀ i, i < 60 → 0 ≤ (u.1 26 i).toInt) ∧ XCn v
theorem zX.to {u v u' v' : xU} {Z : Nat} (h : zX u v Z) (h1 : u'.1 26 = u.1 26) (h2 : u'.2 12 = u.2 12) (h3 : ∀ r, r < 18 → v'.1 r = v.1 r) (h4 : v'.2 4 = v.2 4) : zX u' v' Z := by
  obtain ⟨a, b, c, d, e⟩ := h
  refine ⟨a, h2.trans b, h4.trans c, by rw [h1, h3 14 (by decide)]; exact d, ?_⟩
  show XCv (v'.1 15) (v'.1 16) (v'.1 17)
  rw [h3 15 (by decide), h3 16 (by decide), h3 17 (by decide)]
  exact e
section ZT
variable {u v : xU} {Z a s : Nat}
theorem zX.ft {u' v' : xU} (h : zX u v Z) (hu : zFt u u') (h1 : v'.1 = v.1) (h2 : v'.2 4 = v.2 4) : zX u' v' Z := h.to (by rw [hu.1]) (hu.2 12 (by decide) (by decide) (by decide) (by decide)) (fun r _ => by rw [h1]) h2
theorem zhere (h : zX u v Z) (h5 : v.2 5 = nI a) (ha : a ≤ Z) : s_X6_here v = if a < Z then u.1 26 a else -1 := by
  obtain ⟨z1, z2, z3, z4, z5⟩ := h
  unfold s_X6_here
  rw [z3, h5]
  by_cases c : a < Z
  · rw [if_neg (nI_ge c (by omega)), if_pos c, nI_clamp (by omega)]
    exact z4.1 a (by omega)
  · rw [if_pos (nI_le (by omega) (by omega)), if_neg c]
theorem zcel (h : zX u v Z) (h14 : u.2 14 = nI a) (ha : a < Z) : s_X5_cell 60 (u.1 26) (u.2 14) = u.1 26 a := by
  have := h.1
  rw [h14, s_X5_cell_in (by decide) (by omega)]
theorem zw0 : ∀ (m a : Nat) (u v : xU) (f1 f2 : Nat), m < f1 → m < f2 → a + m = Z → zX u v Z → u.2 14 = nI a → v.2 5 = nI a →
    ∃ e u' v', a ≤ e ∧ e ≤ Z ∧ s_X4_readWord_L0 f1 u = s_X4_readWord_L48 (((Int32.ofNat (xStL 7)).toInt - (0 : Int32).toInt).toNat + 1) (uZ u' 16 4) 0 ∧ s_X6_wordHere_L0 f2 v = s_X6_wordHere_L32 (((5 : Int32).toInt - (0 : Int32).toInt).toNat + 1) v' 0 ∧
      u'.1 = u.1 ∧ (∀ k, k ≠ 14 → u'.2 k = u.2 k) ∧ u'.2 14 = nI e ∧ v'.1 = v.1 ∧ (∀ k, k ≠ 5 → v'.2 k = v.2 k) ∧ v'.2 5 = nI e := by
  intro m
  induction m with
  | zero =>
    intro a u v f1 f2 hf1 hf2 ha h h14 h5
    obtain ⟨f1, rfl⟩ : ∃ z, f1 = z + 1 := ⟨f1 - 1, by omega⟩
    obtain ⟨f2, rfl⟩ : ∃ z, f2 = z + 1 := ⟨f2 - 1, by omega⟩
    have z60 := h.1
    refine ⟨a, u, v, Nat.le_refl _, by omega, ?_, ?_, rfl, fun _ _ => rfl, h14, rfl, fun _ _ => rfl, h5⟩
    · rw [s_X4_readWord_L0, h.2.1, h14, if_pos (nI_le (by omega) (by omega))]
    · rw [s_X6_wordHere_L0, zhere h h5 (by omega), if_neg (show ¬ a < Z by omega), zinl v (-1) 97 122 97 122 rfl rfl, if_pos (by decide)]
  | succ m ih =>
    intro a u v f1 f2 hf1 hf2 ha h h14 h5
    obtain ⟨f1, rfl⟩ : ∃ z, f1 = z + 1 := ⟨f1 - 1, by omega⟩
    obtain ⟨f2, rfl⟩ : ∃ z, f2 = z + 1 := ⟨f2 - 1, by omega⟩
    have z60 := h.1
    by_cases c : s_X5_within (u.1 26 a) 97 122 = 0
    · refine ⟨a, u, v, Nat.le_refl _, by omega, ?_, ?_, rfl, fun _ _ => rfl, h14, rfl, fun _ _ => rfl, h5⟩
      · rw [s_X4_readWord_L0, zcel h h14 (by omega), h.2.1, h14, if_neg (nI_ge (by omega) (by omega)), if_pos (show s_X4_isLetter (u.1 26 a) = 0 from c)]
      · rw [s_X6_wordHere_L0, zhere h h5 (by omega), if_pos (show a < Z by omega), zinl v (u.1 26 a) 97 122 97 122 rfl rfl, if_pos c]
    · obtain ⟨e, u', v', e1, e2, g1, g2, g3, g4, g5, g6, g7, g8⟩ := ih (a + 1) (uZ u 14 (nI (a + 1))) (uZ v 5 (nI (a + 1))) f1 f2 (by omega) (by omega) (by omega) (h.to rfl rfl (fun _ _ => rfl) rfl) rfl rfl
      refine ⟨e, u', v', by omega, e2, ?_, ?_, g3, fun k hk => (g4 k hk).trans (by simp only [uZ]; rw [if_neg hk]), g5, g6, fun k hk => (g7 k hk).trans (by simp only [uZ]; rw [if_neg hk]), g8⟩
      · rw [s_X4_readWord_L0, zcel h h14 (by omega), h.2.1, h14, if_neg (nI_ge (by omega) (by omega)), if_neg (show ¬ s_X4_isLetter (u.1 26 a) = 0 from c), nI_1]
        exact g1
      · rw [s_X6_wordHere_L0, zhere h h5 (by omega), if_pos (show a < Z by omega), zinl v (u.1 26 a) 97 122 97 122 rfl rfl, if_neg c, h5, nI_1]
        exact g2
/-! ### which word -/
theorem zsp20 {w : Nat} (hw : w < 5) (h15 : u.2 15 = nI s) (hs : s + zln w ≤ 60) : ∀ (m i f : Nat), m < f → i + m = zln w →
    (s_X4_spells_L20 w f u (nI i) = 1 ∧ ∀ j, i ≤ j → j < zln w → u.1 26 (s + j) = tLet (zbg w + j)) ∨ (s_X4_spells_L20 w f u (nI i) = 0 ∧ ∃ j, i ≤ j ∧ j < zln w ∧ ¬ u.1 26 (s + j) = tLet (zbg w + j)) := by
  obtain ⟨l1, l2, l3, l4, l5, l6⟩ := zt_len w hw
  intro m
  induction m with
  | zero =>
    intro i f hf hi
    obtain ⟨f, rfl⟩ : ∃ z, f = z + 1 := ⟨f - 1, by omega⟩
    rw [s_X4_spells_L20, l1, if_pos (nI_le (by omega) (by omega))]
    exact Or.inl ⟨rfl, fun j a b => absurd b (by omega)⟩
  | succ m ih =>
    intro i f hf hi
    obtain ⟨f, rfl⟩ : ∃ z, f = z + 1 := ⟨f - 1, by omega⟩
    rw [s_X4_spells_L20, l1, if_neg (nI_ge (by omega) (by omega)), h15, nI_add, s_X5_cell_in (by decide) (by omega), zt_ch w hw i (by omega) (by omega), nI_1]
    by_cases c : u.1 26 (s + i) = tLet (zbg w + i)
    · rw [if_pos c]
      rcases ih (i + 1) f (by omega) (by omega) with ⟨g1, g2⟩ | ⟨g1, j, j1, j2, g2⟩
      · refine Or.inl ⟨g1, fun j a b => ?_⟩
        by_cases e : j = i
        · rw [e]; exact c
        · exact g2 j (by omega) b
      · exact Or.inr ⟨g1, j, by omega, j2, g2⟩
    · rw [if_neg c]
      exact Or.inr ⟨rfl, i, Nat.le_refl _, by omega, c⟩
theorem zsp {e w : Nat} (hw : w < 5) (h14 : u.2 14 = nI e) (h15 : u.2 15 = nI s) (hse : s ≤ e) (he : e ≤ 60) : (s_X4_spells w u = 1 ∧ zMt (u.1 26) s e w) ∨ (s_X4_spells w u = 0 ∧ ¬ zMt (u.1 26) s e w) := by
  obtain ⟨l1, l2, l3, l4, l5, l6⟩ := zt_len w hw
  unfold s_X4_spells
  rw [h14, h15, pk_sub hse, l1]
  by_cases c : e - s = zln w
  · rw [if_pos (by rw [c])]
    rcases zsp20 (u := u) hw h15 (by omega) (zln w) 0 (((nI (zln w)).toInt - (0 : Int32).toInt).toNat + 1) (by rw [nI_toInt (by omega), show (0 : Int32).toInt = 0 from rfl]; omega) (by omega) with ⟨g1, g2⟩ | ⟨g1, j, j1, j2, g2⟩
    · exact Or.inl ⟨g1, by omega, fun i hi => g2 i (Nat.zero_le _) hi⟩
    · exact Or.inr ⟨g1, fun z => g2 (z.2 j j2)⟩
  · rw [if_neg (by rw [nI_eq (by omega) (by omega)]; exact c)]
    exact Or.inr ⟨rfl, fun z => c (by have := z.1; omega)⟩
theorem zw48_no {e : Nat} (h14 : u.2 14 = nI e) (h15 : u.2 15 = nI s) (hse : s ≤ e) (he : e ≤ 60) : ∀ (m w f : Nat), m < f → w + m = 5 → (∀ x, w ≤ x → x < 5 → ¬ zMt (u.1 26) s e x) → s_X4_readWord_L48 f u (nI w) = u := by
  intro m
  induction m with
  | zero =>
    intro w f hf hw hn
    obtain ⟨f, rfl⟩ : ∃ z, f = z + 1 := ⟨f - 1, by omega⟩
    rw [s_X4_readWord_L48, if_pos (show Int32.ofNat (xStL 7) ≤ nI w from nI_le (a := 5) (by omega) (by omega))]
  | succ m ih =>
    intro w f hf hw hn
    obtain ⟨f, rfl⟩ : ∃ z, f = z + 1 := ⟨f - 1, by omega⟩
    rcases zsp (u := u) (w := w) (by omega) h14 h15 hse he with ⟨g1, g2⟩ | ⟨g1, g2⟩
    · exact absurd g2 (hn w (Nat.le_refl _) (by omega))
    · rw [s_X4_readWord_L48, if_neg (show ¬ Int32.ofNat (xStL 7) ≤ nI w from nI_ge (b := 5) (by omega) (by omega)), zt_name w (by omega), if_pos g1, nI_1]
      exact ih (w + 1) f (by omega) (by omega) (fun x a b => hn x (by omega) b)
theorem zw48_yes {e w0 : Nat} (hw0 : w0 < 5) (h14 : u.2 14 = nI e) (h15 : u.2 15 = nI s) (hse : s ≤ e) (he : e ≤ 60) (hM : zMt (u.1 26) s e w0) : ∀ (m w f : Nat), m < f → w + m = 5 → w ≤ w0 → s_X4_readWord_L48 f u (nI w) = uZ (uZ u 16 0) 17 (nI w0) := by
  intro m
  induction m with
  | zero =>
    intro w f hf hw hn
    omega
  | succ m ih =>
    intro w f hf hw hn
    obtain ⟨f, rfl⟩ : ∃ z, f = z + 1 := ⟨f - 1, by omega⟩
    rw [s_X4_readWord_L48, if_neg (show ¬ Int32.ofNat (xStL 7) ≤ nI w from nI_ge (b := 5) (by omega) (by omega)), zt_name w (by omega), nI_1]
    by_cases c : w = w0
    · subst c
      rcases zsp (u := u) (w := w) (by omega) h14 h15 hse he with ⟨g1, g2⟩ | ⟨g1, g2⟩
      · rw [if_neg (by rw [g1]; decide)]
        exact zw48_no (u := uZ (uZ u 16 0) 17 (nI w)) h14 h15 hse he m (w + 1) f (by omega) (by omega) (fun x a b z => absurd (zMt.one z hM b hw0) (by omega))
      · exact absurd hM g2
    · rcases zsp (u := u) (w := w) (by omega) h14 h15 hse he with ⟨g1, g2⟩ | ⟨g1, g2⟩
      · exact absurd (zMt.one g2 hM (by omega) hw0) c
      · rw [if_pos g1]
        exact ih (w + 1) f (by omega) (by omega) (by omega)
theorem zw75_0 (K : Int32 → Int32 × xU) (w x : Int32) (f : Nat) : s_X6_wordHere_L75 K (f + 1) v w 0 x = K (w + 1) := by
  rw [s_X6_wordHere_L75]
  split
  · rw [if_pos rfl]
  · rw [if_pos rfl, if_pos rfl]
theorem zw75 (h : zX u v Z) (K : Int32 → Int32 × xU) {e w : Nat} (hw : w < 5) (h5 : v.2 5 = nI e) (h6 : v.2 6 = nI s) (he : e = s + zln w) (hZ : e ≤ Z) : ∀ (m i f : Nat), m < f → i + m = zln w →
    (s_X6_wordHere_L75 K f v (nI w) 1 (nI (s + i)) = (nI w, v) ∧ ∀ j, i ≤ j → j < zln w → u.1 26 (s + j) = tLet (zbg w + j)) ∨ (s_X6_wordHere_L75 K f v (nI w) 1 (nI (s + i)) = K (nI (w + 1)) ∧ ∃ j, i ≤ j ∧ j < zln w ∧ ¬ u.1 26 (s + j) = tLet (zbg w + j)) := by
  obtain ⟨l1, l2, l3, l4, l5, l6⟩ := zt_len w hw
  obtain ⟨z1, z2, z3, z4, c1, c2, c3⟩ := h
  intro m
  induction m with
  | zero =>
    intro i f hf hi
    obtain ⟨f, rfl⟩ : ∃ z, f = z + 1 := ⟨f - 1, by omega⟩
    rw [s_X6_wordHere_L75, h5, if_pos (nI_le (by omega) (by omega)), if_neg (show ¬ (1 : Int32) = 0 by decide)]
    exact Or.inl ⟨rfl, fun j a b => absurd b (by omega)⟩
  | succ m ih =>
    intro i f hf hi
    obtain ⟨f, rfl⟩ : ∃ z, f = z + 1 := ⟨f - 1, by omega⟩
    have ew : v.1 16 (nI w).toNatClampNeg = nI (zbg w) := by rw [nI_clamp (by omega), c2 w (by omega), l3]
    have ei : ((nI (zbg w) + nI (s + i)) - nI s).toNatClampNeg = zbg w + i := by rw [nI_add, pk_sub (by omega), nI_clamp (by omega)]; omega
    rw [s_X6_wordHere_L75, h5, if_neg (nI_ge (by omega) (by omega)), if_neg (show ¬ (1 : Int32) = 0 by decide), ew, h6, ei, nI_clamp (show s + i < 2 ^ 31 by omega), z4.1 (s + i) (by omega), c1 (zbg w + i) (by omega), nI_1]
    by_cases c : u.1 26 (s + i) = tLet (zbg w + i)
    · rw [if_pos c]
      rcases ih (i + 1) f (by omega) (by omega) with ⟨g1, g2⟩ | ⟨g1, j, j1, j2, g2⟩
      · refine Or.inl ⟨g1, fun j a b => ?_⟩
        by_cases e : j = i
        · rw [e]; exact c
        · exact g2 j (by omega) b
      · exact Or.inr ⟨g1, j, by omega, j2, g2⟩
    · obtain ⟨f, rfl⟩ : ∃ z, f = z + 1 := ⟨f - 1, by omega⟩
      rw [if_neg c, zw75_0, nI_1]
      exact Or.inr ⟨rfl, i, Nat.le_refl _, by omega, c⟩
theorem zw32s (h : zX u v Z) {e w : Nat} (hw : w < 5) (h5 : v.2 5 = nI e) (h6 : v.2 6 = nI s) (hse : s ≤ e) (hZ : e ≤ Z) (f : Nat) : (zMt (u.1 26) s e w ∧ s_X6_wordHere_L32 (f + 1) v (nI w) = (nI w, v)) ∨ ((¬ zMt (u.1 26) s e w) ∧ s_X6_wordHere_L32 (f + 1) v (nI w) = s_X6_wordHere_L32 f v (nI (w + 1))) := by
  obtain ⟨l1, l2, l3, l4, l5, l6⟩ := zt_len w hw
  have hX := h
  obtain ⟨z1, z2, z3, z4, c1, c2, c3⟩ := h
  have e1 : v.1 16 (nI w).toNatClampNeg = tBeg w := by rw [nI_clamp (by omega)]; exact c2 w (by omega)
  have e2 : v.1 16 (nI w + 1).toNatClampNeg = tBeg (w + 1) := by rw [nI_1, nI_clamp (by omega)]; exact c2 (w + 1) (by omega)
  rw [s_X6_wordHere_L32, if_neg (show ¬ (5 : Int32) ≤ nI w from nI_ge (b := 5) (by omega) (by omega)), e1, e2, l2, h5, h6, pk_sub hse, nI_toInt (by omega), nI_toInt (by omega)]
  by_cases c : e - s = zln w
  · rw [if_pos (by rw [c])]
    have k := zw75 (u := u) hX (fun x1 => s_X6_wordHere_L32 f v x1) hw h5 h6 (by omega) hZ (zln w) 0 (((e : Int) - (s : Int)).toNat + 1) (by omega) (by omega)
    rw [Nat.add_zero] at k
    rcases k with ⟨g1, g2⟩ | ⟨g1, j, j1, j2, g2⟩
    · exact Or.inl ⟨⟨by omega, fun i hi => g2 i (Nat.zero_le _) hi⟩, g1⟩
    · exact Or.inr ⟨fun z => g2 (z.2 j j2), g1⟩
  · rw [if_neg (by rw [nI_eq (by omega) (by omega)]; exact c), zw75_0, nI_1]
    exact Or.inr ⟨fun z => c (by have := z.1; omega), rfl⟩
theorem zw32_no (h : zX u v Z) {e : Nat} (h5 : v.2 5 = nI e) (h6 : v.2 6 = nI s) (hse : s ≤ e) (hZ : e ≤ Z) : ∀ (m w f : Nat), m < f → w + m = 5 → (∀ x, w ≤ x → x < 5 → ¬ zMt (u.1 26) s e x) → s_X6_wordHere_L32 f v (nI w) = (13, v) := by
  intro m
  induction m with
  | zero =>
    intro w f hf hw hn
    obtain ⟨f, rfl⟩ : ∃ z, f = z + 1 := ⟨f - 1, by omega⟩
    rw [s_X6_wordHere_L32, if_pos (show (5 : Int32) ≤ nI w from nI_le (a := 5) (by omega) (by omega))]
  | succ m ih =>
    intro w f hf hw hn
    obtain ⟨f, rfl⟩ : ∃ z, f = z + 1 := ⟨f - 1, by omega⟩
    rcases zw32s h (w := w) (by omega) h5 h6 hse hZ f with ⟨g1, g2⟩ | ⟨g1, g2⟩
    · exact absurd g1 (hn w (Nat.le_refl _) (by omega))
    · rw [g2]
      exact ih (w + 1) f (by omega) (by omega) (fun x a b => hn x (by omega) b)
theorem zw32_yes (h : zX u v Z) {e w0 : Nat} (hw0 : w0 < 5) (h5 : v.2 5 = nI e) (h6 : v.2 6 = nI s) (hse : s ≤ e) (hZ : e ≤ Z) (hM : zMt (u.1 26) s e w0) : ∀ (m w f : Nat), m < f → w + m = 5 → w ≤ w0 → s_X6_wordHere_L32 f v (nI w) = (nI w0, v) := by
  intro m
  induction m with
  | zero =>
    intro w f hf hw hn
    omega
  | succ m ih =>
    intro w f hf hw hn
    obtain ⟨f, rfl⟩ : ∃ z, f = z + 1 := ⟨f - 1, by omega⟩
    rcases zw32s h (w := w) (by omega) h5 h6 hse hZ f with ⟨g1, g2⟩ | ⟨g1, g2⟩
    · rw [g2, zMt.one g1 hM (by omega) hw0]
    · have c : w ≠ w0 := fun z => g1 (by rw [z]; exact hM)
      rw [g2]
      exact ih (w + 1) f (by omega) (by omega) (by omega)
/-- a word read on both sides -/
theorem zword (h : zX u v Z) (h14 : u.2 14 = nI a) (h5 : v.2 5 = nI a) (h15 : u.2 15 = nI a) (h6 : v.2 6 = nI a) (ha : a ≤ Z) : ∃ e, a ≤ e ∧ e ≤ Z ∧ (s_X6_wordHere v).2.1 = v.1 ∧ (∀ k, k ≠ 5 → (s_X6_wordHere v).2.2 k = v.2 k) ∧
    (((s_X4_readWord u).2 16 = 4 ∧ (s_X6_wordHere v).1 = 13) ∨ ∃ w, w < 5 ∧ (s_X4_readWord u).2 16 = 0 ∧ (s_X4_readWord u).2 17 = nI w ∧ (s_X6_wordHere v).1 = nI w ∧ (s_X4_readWord u).2 14 = nI e ∧ (s_X6_wordHere v).2.2 5 = nI e ∧ a + 4 ≤ e) ∧ (s_X4_readWord u).2 15 = nI a := by
  have z60 := h.1
  obtain ⟨e, u', v', e1, e2, g1, g2, g3, g4, g5, g6, g7, g8⟩ := zw0 (Z := Z) (Z - a) a u v (((u.2 12).toInt - (u.2 14).toInt).toNat + 1) (((v.2 4).toInt - (v.2 5).toInt).toNat + 1) (by rw [h.2.1, h14, nI_toInt (by omega), nI_toInt (by omega)]; omega) (by rw [h.2.2.1, h5, nI_toInt (by omega), nI_toInt (by omega)]; omega) (by omega) h h14 h5
  have e0 : s_X4_readWord u = s_X4_readWord_L48 (((Int32.ofNat (xStL 7)).toInt - (0 : Int32).toInt).toNat + 1) (uZ u' 16 4) 0 := g1
  have m0 : s_X6_wordHere v = s_X6_wordHere_L32 (((5 : Int32).toInt - (0 : Int32).toInt).toNat + 1) v' 0 := g2
  rw [e0, m0]
  have hX : zX (uZ u' 16 4) v' Z := h.to (by show u'.1 26 = _; rw [g3]) (g4 12 (by decide)) (fun r _ => by rw [g6]) (g7 4 (by decide))
  have f15 : (uZ u' 16 4).2 15 = nI a := (g4 15 (by decide)).trans h15
  have f14 : (uZ u' 16 4).2 14 = nI e := g5
  have f6 : v'.2 6 = nI a := (g7 6 (by decide)).trans h6
  refine ⟨e, e1, e2, ?_⟩
  rcases Classical.em (∃ w, w < 5 ∧ zMt ((uZ u' 16 4).1 26) a e w) with ⟨w, hw, hM⟩ | hno
  · have c1 := zw48_yes (u := uZ u' 16 4) hw f14 f15 e1 (by omega) hM 5 0 (((Int32.ofNat (xStL 7)).toInt - (0 : Int32).toInt).toNat + 1) (by decide) (by decide) (Nat.zero_le _)
    have c2 := zw32_yes (u := uZ u' 16 4) hX hw g8 f6 e1 e2 hM 5 0 (((5 : Int32).toInt - (0 : Int32).toInt).toNat + 1) (by decide) (by decide) (Nat.zero_le _)
    rw [show nI 0 = (0 : Int32) from rfl] at c1 c2
    have l := (zt_len w hw).2.2.2.2.1
    have l2 := hM.1
    rw [c1, c2]
    exact ⟨g6, g7, Or.inr ⟨w, hw, rfl, rfl, rfl, g5, g8, by omega⟩, f15⟩
  · have hn : ∀ x, 0 ≤ x → x < 5 → ¬ zMt ((uZ u' 16 4).1 26) a e x := fun x _ b z => hno ⟨x, b, z⟩
    have c1 := zw48_no (u := uZ u' 16 4) f14 f15 e1 (by omega) 5 0 (((Int32.ofNat (xStL 7)).toInt - (0 : Int32).toInt).toNat + 1) (by decide) (by decide) hn
    have c2 := zw32_no (u := uZ u' 16 4) hX g8 f6 e1 e2 5 0 (((5 : Int32).toInt - (0 : Int32).toInt).toNat + 1) (by decide) (by decide) hn
    rw [show nI 0 = (0 : Int32) from rfl] at c1 c2
    rw [c1, c2]
    exact ⟨g6, g7, Or.inl ⟨rfl, rfl⟩, f15⟩
/-! ### numbers -/
theorem zn43 {p0 : Nat} (y : Int32) : ∀ (m a d : Nat) (u v : xU) (x3 : Int32) (f1 f2 : Nat), m < f1 → m < f2 → a + m = Z → zX u v Z → u.2 14 = nI a → v.2 5 = nI a → a = p0 + d → (d ≤ 3 → x3 = v.2 8) →
    ∃ e, a ≤ e ∧ e ≤ Z ∧ (s_X6_numberHere_L40 f2 v y (nI d)).2.1 = v.1 ∧ (∀ k, k ≠ 5 → k ≠ 8 → (s_X6_numberHere_L40 f2 v y (nI d)).2.2 k = v.2 k) ∧ (s_X4_readNumber_L43 f1 u y (nI p0) x3).2 15 = u.2 15 ∧
      (((s_X4_readNumber_L43 f1 u y (nI p0) x3).2 16 = 4 ∧ (s_X6_numberHere_L40 f2 v y (nI d)).1 = 13) ∨ ((s_X4_readNumber_L43 f1 u y (nI p0) x3).2 16 = 1 ∧ (s_X6_numberHere_L40 f2 v y (nI d)).1 = 10 ∧ (s_X4_readNumber_L43 f1 u y (nI p0) x3).2 17 = (s_X6_numberHere_L40 f2 v y (nI d)).2.2 8 ∧ (s_X4_readNumber_L43 f1 u y (nI p0) x3).2 14 = nI e ∧ (s_X6_numberHere_L40 f2 v y (nI d)).2.2 5 = nI e)) := by
  have stop : ∀ (a d : Nat) (u v : xU) (x3 : Int32), a ≤ Z → Z ≤ 60 → u.2 14 = nI a → v.2 5 = nI a → a = p0 + d → (d ≤ 3 → x3 = v.2 8) →
      ((if (s_X6_in v (nI d).toInt64 1 3) = 0 then ((13 : Int32), uZ v 8 (if y = 0 then v.2 8 else -(v.2 8))) else (10, uZ v 8 (if y = 0 then v.2 8 else -(v.2 8)))).2.1 = v.1 ∧ (∀ k, k ≠ 5 → k ≠ 8 → (if (s_X6_in v (nI d).toInt64 1 3) = 0 then ((13 : Int32), uZ v 8 (if y = 0 then v.2 8 else -(v.2 8))) else (10, uZ v 8 (if y = 0 then v.2 8 else -(v.2 8)))).2.2 k = v.2 k) ∧ (zNf u y (nI p0) x3).2 15 = u.2 15 ∧
        (((zNf u y (nI p0) x3).2 16 = 4 ∧ (if (s_X6_in v (nI d).toInt64 1 3) = 0 then ((13 : Int32), uZ v 8 (if y = 0 then v.2 8 else -(v.2 8))) else (10, uZ v 8 (if y = 0 then v.2 8 else -(v.2 8)))).1 = 13) ∨ ((zNf u y (nI p0) x3).2 16 = 1 ∧ (if (s_X6_in v (nI d).toInt64 1 3) = 0 then ((13 : Int32), uZ v 8 (if y = 0 then v.2 8 else -(v.2 8))) else (10, uZ v 8 (if y = 0 then v.2 8 else -(v.2 8)))).1 = 10 ∧ (zNf u y (nI p0) x3).2 17 = (if (s_X6_in v (nI d).toInt64 1 3) = 0 then ((13 : Int32), uZ v 8 (if y = 0 then v.2 8 else -(v.2 8))) else (10, uZ v 8 (if y = 0 then v.2 8 else -(v.2 8)))).2.2 8 ∧ (zNf u y (nI p0) x3).2 14 = nI a ∧ (if (s_X6_in v (nI d).toInt64 1 3) = 0 then ((13 : Int32), uZ v 8 (if y = 0 then v.2 8 else -(v.2 8))) else (10, uZ v 8 (if y = 0 then v.2 8 else -(v.2 8)))).2.2 5 = nI a))) := by
    intro a d u v x3 ha hZ h14 h5 hd hx
    unfold zNf
    rw [zinl v (nI d) 1 3 1 3 rfl rfl, h14, pk_sub (show p0 ≤ a by omega), show a - p0 = d by omega]
    by_cases c : s_X5_within (nI d) 1 3 = 0
    · rw [if_pos c, if_pos c]
      refine ⟨rfl, fun k k5 k8 => by simp only [uZ]; rw [if_neg k8], ?_, Or.inl ⟨?_, rfl⟩⟩
      · split <;> rfl
      · split <;> rfl
    · have h3 := (xwithin c).2
      rw [nI_toInt (by omega), show (3 : Int32).toInt = 3 from rfl] at h3
      have ex := hx (by omega)
      rw [if_neg c, if_neg c]
      refine ⟨rfl, fun k k5 k8 => by simp only [uZ]; rw [if_neg k8], ?_, Or.inr ⟨?_, rfl, ?_, ?_, h5⟩⟩
      · split <;> rfl
      · split <;> rfl
      · by_cases g : y = 0
        · rw [if_pos g]
          simp only [if_pos g]
          exact ex
        · rw [if_neg g]
          simp only [if_neg g]
          show -x3 = -(v.2 8)
          rw [ex]
      · split
        · exact h14
        · exact h14
  intro m
  induction m with
  | zero =>
    intro a d u v x3 f1 f2 hf1 hf2 ha h h14 h5 hd hx
    obtain ⟨f1, rfl⟩ : ∃ z, f1 = z + 1 := ⟨f1 - 1, by omega⟩
    obtain ⟨f2, rfl⟩ : ∃ z, f2 = z + 1 := ⟨f2 - 1, by omega⟩
    have z60 := h.1
    refine ⟨a, Nat.le_refl _, by omega, ?_⟩
    rw [zrn_eq, s_X6_numberHere_L40, zhere h h5 (by omega), if_neg (show ¬ a < Z by omega), zinl v (-1) 48 57 48 57 rfl rfl, if_pos (show s_X5_within (-1) 48 57 = 0 by decide), if_pos (show u.2 12 ≤ u.2 14 by rw [h.2.1, h14]; exact nI_le (by omega) (by omega))]
    exact stop a d u v x3 (by omega) z60 h14 h5 hd hx
  | succ m ih =>
    intro a d u v x3 f1 f2 hf1 hf2 ha h h14 h5 hd hx
    obtain ⟨f1, rfl⟩ : ∃ z, f1 = z + 1 := ⟨f1 - 1, by omega⟩
    obtain ⟨f2, rfl⟩ : ∃ z, f2 = z + 1 := ⟨f2 - 1, by omega⟩
    have z60 := h.1
    have en : ¬ u.2 12 ≤ u.2 14 := by rw [h.2.1, h14]; exact nI_ge (by omega) (by omega)
    rw [zrn_eq, s_X6_numberHere_L40, zhere h h5 (by omega), if_pos (show a < Z by omega), zinl v (u.1 26 a) 48 57 48 57 rfl rfl, if_neg en, zcel h h14 (by omega)]
    by_cases c : s_X5_within (u.1 26 a) 48 57 = 0
    · refine ⟨a, Nat.le_refl _, by omega, ?_⟩
      rw [if_pos c, if_pos (show s_X4_isDigit (u.1 26 a) = 0 from c)]
      exact stop a d u v x3 (by omega) z60 h14 h5 hd hx
    · rw [if_neg c, if_neg (show ¬ s_X4_isDigit (u.1 26 a) = 0 from c), h14, h5, nI_1, nI_1]
      obtain ⟨e, e1, e2, g1, g2, g3, g4⟩ := ih (a + 1) (d + 1) (uZ u 14 (nI (a + 1))) (uZ (uZ v 8 (if 3 ≤ nI d then v.2 8 else ((10 * (v.2 8)) + (u.1 26 a)) - 48)) 5 (nI (a + 1))) (((x3 * 10) + u.1 26 a) - 48) f1 f2 (by omega) (by omega) (by omega) (h.to rfl rfl (fun _ _ => rfl) rfl) rfl rfl (by omega) (fun hd3 => by
        show _ = (if 3 ≤ nI d then v.2 8 else ((10 * (v.2 8)) + (u.1 26 a)) - 48)
        rw [if_neg (show ¬ (3 : Int32) ≤ nI d from nI_ge (b := 3) (by omega) (by omega)), hx (by omega), Int32.mul_comm])
      exact ⟨e, by omega, e2, g1, fun k k5 k8 => (g2 k k5 k8).trans (by simp only [uZ]; rw [if_neg k5, if_neg k8]), g3, g4⟩
theorem znum (h : zX u v Z) (h14 : u.2 14 = nI a) (h5 : v.2 5 = nI a) (ha : a < Z) : ∃ e, a ≤ e ∧ e ≤ Z ∧ (s_X6_numberHere v).2.1 = v.1 ∧ (∀ k, k ≠ 5 → k ≠ 8 → (s_X6_numberHere v).2.2 k = v.2 k) ∧ (s_X4_readNumber u).2 15 = u.2 15 ∧
    (((s_X4_readNumber u).2 16 = 4 ∧ (s_X6_numberHere v).1 = 13) ∨ ((s_X4_readNumber u).2 16 = 1 ∧ (s_X6_numberHere v).1 = 10 ∧ (s_X4_readNumber u).2 17 = (s_X6_numberHere v).2.2 8 ∧ (s_X4_readNumber u).2 14 = nI e ∧ (s_X6_numberHere v).2.2 5 = nI e)) := by
  have z60 := h.1
  have eh : s_X6_here v = u.1 26 a := by rw [zhere h h5 (by omega), if_pos ha]
  unfold s_X4_readNumber s_X6_numberHere
  rw [zcel h h14 ha, eh]
  by_cases c : u.1 26 a = 45
  · rw [if_pos c, if_pos c, if_neg (show ¬ (1 : Int32) = 0 by decide)]
    have k := zn43 (Z := Z) (p0 := a + 1) 1 (Z - (a + 1)) (a + 1) 0 (uZ u 14 ((u.2 14) + 1)) (uZ (uZ v 5 ((v.2 5) + 1)) 8 0) 0 ((((uZ u 14 ((u.2 14) + 1)).2 12).toInt - ((uZ u 14 ((u.2 14) + 1)).2 14).toInt).toNat + 1) ((((uZ (uZ v 5 ((v.2 5) + 1)) 8 0).2 4).toInt - ((uZ (uZ v 5 ((v.2 5) + 1)) 8 0).2 5).toInt).toNat + 1) (by show Z - (a + 1) < ((u.2 12).toInt - ((u.2 14) + 1).toInt).toNat + 1; rw [h.2.1, h14, nI_1, nI_toInt (by omega), nI_toInt (by omega)]; omega) (by show Z - (a + 1) < ((v.2 4).toInt - ((v.2 5) + 1).toInt).toNat + 1; rw [h.2.2.1, h5, nI_1, nI_toInt (by omega), nI_toInt (by omega)]; omega) (by omega) (h.to rfl rfl (fun _ _ => rfl) rfl) (by show (u.2 14) + 1 = _; rw [h14, nI_1]) (by show (v.2 5) + 1 = _; rw [h5, nI_1]) (by omega) (fun _ => rfl)
    rw [show nI 0 = (0 : Int32) from rfl, show nI (a + 1) = (uZ u 14 ((u.2 14) + 1)).2 14 by show _ = (u.2 14) + 1; rw [h14, nI_1]] at k
    obtain ⟨e, e1, e2, g1, g2, g3, g4⟩ := k
    exact ⟨e, by omega, e2, g1, fun k k5 k8 => (g2 k k5 k8).trans (by simp only [uZ]; rw [if_neg k8, if_neg k5]), g3, g4⟩
  · rw [if_neg c, if_neg c, if_pos rfl, Int32.add_zero]
    have k := zn43 (Z := Z) (p0 := a) 0 (Z - a) a 0 u (uZ (uZ v 5 (v.2 5)) 8 0) 0 (((u.2 12).toInt - (u.2 14).toInt).toNat + 1) ((((uZ (uZ v 5 (v.2 5)) 8 0).2 4).toInt - ((uZ (uZ v 5 (v.2 5)) 8 0).2 5).toInt).toNat + 1) (by rw [h.2.1, h14, nI_toInt (by omega), nI_toInt (by omega)]; omega) (by show Z - a < ((v.2 4).toInt - (v.2 5).toInt).toNat + 1; rw [h.2.2.1, h5, nI_toInt (by omega), nI_toInt (by omega)]; omega) (by omega) (h.to rfl rfl (fun _ _ => rfl) rfl) h14 h5 (by omega) (fun _ => rfl)
    rw [show nI 0 = (0 : Int32) from rfl, ← h14] at k
    obtain ⟨e, e1, e2, g1, g2, g3, g4⟩ := k
    rw [h14] at g3 g4 ⊢
    exact ⟨e, e1, e2, g1, fun k k5 k8 => (g2 k k5 k8).trans (by simp only [uZ]; rw [if_neg k8, if_neg k5]), g3, g4⟩
/-! ### tokens -/
/-- the token that both have read: it starts at s, the next place is a -/
def zTk (u v : xU) (Z s a : Nat) : Prop := zX u v Z ∧ u.2 15 = nI s ∧ v.2 6 = nI s ∧ s ≤ Z ∧
  ((u.2 16 = 3 ∧ v.2 7 = 12) ∨ (u.2 16 = 4 ∧ v.2 7 = 13) ∨ (a ≤ Z ∧ u.2 14 = nI a ∧ v.2 5 = nI a ∧ ((u.2 16 = 2 ∧ v.2 7 = 11 ∧ s + 1 ≤ a) ∨ (u.2 16 = 1 ∧ v.2 7 = 10 ∧ u.2 17 = v.2 8 ∧ s ≤ a) ∨ ∃ w, w < 5 ∧ u.2 16 = 0 ∧ v.2 7 = nI w ∧ u.2 17 = nI w ∧ s + 4 ≤ a)))
def zFn (v w : xU) : Prop := w.1 = v.1 ∧ ∀ k, k ≠ 5 → k ≠ 6 → k ≠ 7 → k ≠ 8 → w.2 k = v.2 k
theorem zdec (h : zX u v Z) (h14 : u.2 14 = nI a) (h5 : v.2 5 = nI a) (ha : a ≤ Z) : (∃ e, zTk (zDc u) (zDm v) Z a e) ∧ zFn v (zDm v) := by
  have z60 := h.1
  have h1 : zX (uZ u 15 (u.2 14)) (uZ v 6 (v.2 5)) Z := h.to rfl rfl (fun _ _ => rfl) rfl
  have eh : s_X6_here (uZ v 6 (v.2 5)) = if a < Z then u.1 26 a else -1 := zhere (u := uZ u 15 (u.2 14)) h1 h5 ha
  unfold zDc zDm
  rw [eh]
  have hlt : ((uZ u 15 (u.2 14)).2 14 < (uZ u 15 (u.2 14)).2 12) ↔ a < Z := by
    show u.2 14 < u.2 12 ↔ _
    rw [h.2.1, h14, nI_ltI (by omega) (by omega)]
  by_cases c : a < Z
  · have ec : s_X5_cell 60 ((uZ u 15 (u.2 14)).1 26) ((uZ u 15 (u.2 14)).2 14) = u.1 26 a := zcel (u := uZ u 15 (u.2 14)) h1 h14 c
    rw [if_pos c, if_pos (hlt.mpr c), ec, zinl v (u.1 26 a) 97 122 97 122 rfl rfl, zinl v (u.1 26 a) 48 57 48 57 rfl rfl]
    have hN : (∃ e, zTk (s_X4_readNumber (uZ u 15 (u.2 14))) (uZ ((s_X6_numberHere (uZ v 6 (v.2 5))).2) 7 ((s_X6_numberHere (uZ v 6 (v.2 5))).1)) Z a e) ∧ zFn v (uZ ((s_X6_numberHere (uZ v 6 (v.2 5))).2) 7 ((s_X6_numberHere (uZ v 6 (v.2 5))).1)) := by
      obtain ⟨e, e1, e2, g1, g2, g3, g4⟩ := znum (u := uZ u 15 (u.2 14)) h1 h14 h5 c
      have hft := (zFt.z u (j := 15) (by decide) (u.2 14)).t (zFt_n (uZ u 15 (u.2 14)))
      generalize s_X4_readNumber (uZ u 15 (u.2 14)) = ru at hft g3 g4 ⊢
      generalize s_X6_numberHere (uZ v 6 (v.2 5)) = rv at g1 g2 g4 ⊢
      have q1 : (uZ rv.2 7 rv.1).1 = v.1 := g1
      refine ⟨⟨e, h.ft hft q1 (g2 4 (by decide) (by decide)), g3.trans h14, (g2 6 (by decide) (by decide)).trans h5, ha, ?_⟩, q1, fun k k5 k6 k7 k8 => ?_⟩
      · rcases g4 with ⟨g5, g6⟩ | ⟨g5, g6, g7, g8, g9⟩
        · exact Or.inr (Or.inl ⟨g5, g6⟩)
        · exact Or.inr (Or.inr ⟨e2, g8, g9, Or.inr (Or.inl ⟨g5, g6, g7, e1⟩)⟩)
      · show (if k = 7 then _ else rv.2.2 k) = _
        rw [if_neg k7]
        exact (g2 k k5 k8).trans (by simp only [uZ]; rw [if_neg k6])
    by_cases c1 : s_X5_within (u.1 26 a) 97 122 = 0
    · rw [if_pos c1, if_pos (show s_X4_isLetter (u.1 26 a) = 0 from c1)]
      by_cases c2 : u.1 26 a = 45
      · rw [if_pos c2, if_pos c2]
        rw [if_pos (by rw [c2]; decide)]
        exact hN
      · rw [if_neg c2, if_neg c2]
        by_cases c3 : s_X5_within (u.1 26 a) 48 57 = 0
        · rw [if_pos c3, if_pos (show s_X4_isDigit (u.1 26 a) = 0 from c3)]
          by_cases c4 : u.1 26 a = 59
          · rw [if_pos c4, if_pos c4]
            refine ⟨⟨a + 1, h.to rfl rfl (fun _ _ => rfl) rfl, h14, h5, ha, Or.inr (Or.inr ⟨c, ?_, ?_, Or.inl ⟨rfl, rfl, Nat.le_refl _⟩⟩)⟩, rfl, fun k k5 k6 k7 k8 => by simp only [uZ]; rw [if_neg k5, if_neg k7, if_neg k6]⟩
            · show u.2 14 + 1 = _
              rw [h14, nI_1]
            · show v.2 5 + 1 = _
              rw [h5, nI_1]
          · have c5 : ¬ u.1 26 a = -1 := fun z => by
              have z2 := h.2.2.2.1.2 a (by omega)
              rw [z, show (-1 : Int32).toInt = -1 from rfl] at z2
              omega
            rw [if_neg c4, if_neg c4, if_neg c5]
            exact ⟨⟨a, h.to rfl rfl (fun _ _ => rfl) rfl, h14, h5, ha, Or.inr (Or.inl ⟨rfl, rfl⟩)⟩, rfl, fun k k5 k6 k7 k8 => by simp only [uZ]; rw [if_neg k7, if_neg k6]⟩
        · rw [if_neg c3, if_neg (show ¬ s_X4_isDigit (u.1 26 a) = 0 from c3)]
          exact hN
    · rw [if_neg c1, if_neg (show ¬ s_X4_isLetter (u.1 26 a) = 0 from c1)]
      obtain ⟨e, e1, e2, g1, g2, g3, g4⟩ := zword (u := uZ u 15 (u.2 14)) (v := uZ v 6 (v.2 5)) h1 h14 h5 h14 h5 ha
      have hft := (zFt.z u (j := 15) (by decide) (u.2 14)).t (show zFt (uZ u 15 (u.2 14)) (s_X4_readWord (uZ u 15 (u.2 14))) from zFt_0 _ _)
      generalize s_X4_readWord (uZ u 15 (u.2 14)) = ru at hft g3 g4 ⊢
      generalize s_X6_wordHere (uZ v 6 (v.2 5)) = rv at g1 g2 g3 ⊢
      have q1 : (uZ rv.2 7 rv.1).1 = v.1 := g1
      refine ⟨⟨e, h.ft hft q1 (g2 4 (by decide)), g4, (g2 6 (by decide)).trans h5, ha, ?_⟩, q1, fun k k5 k6 k7 k8 => ?_⟩
      · rcases g3 with ⟨g5, g6⟩ | ⟨w, hw, g5, g6, g7, g8, g9, g10⟩
        · exact Or.inr (Or.inl ⟨g5, g6⟩)
        · exact Or.inr (Or.inr ⟨e2, g8, g9, Or.inr (Or.inr ⟨w, hw, g5, g7, g6, g10⟩)⟩)
      · show (if k = 7 then _ else rv.2.2 k) = _
        rw [if_neg k7]
        exact (g2 k k5).trans (by simp only [uZ]; rw [if_neg k6])
  · rw [if_neg c, if_neg (fun z => c (hlt.mp z)), zinl v (-1) 97 122 97 122 rfl rfl, zinl v (-1) 48 57 48 57 rfl rfl, if_pos (show s_X5_within (-1) 97 122 = 0 by decide), if_pos (show s_X5_within (-1) 48 57 = 0 by decide), if_neg (show ¬ (-1 : Int32) = 45 by decide), if_neg (show ¬ (-1 : Int32) = 59 by decide), if_pos rfl]
    exact ⟨⟨a, h.to rfl rfl (fun _ _ => rfl) rfl, h14, h5, ha, Or.inl ⟨rfl, rfl⟩⟩, rfl, fun k k5 k6 k7 k8 => by simp only [uZ]; rw [if_neg k7, if_neg k6]⟩
end ZT
