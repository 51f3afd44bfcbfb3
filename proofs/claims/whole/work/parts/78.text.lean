/-! ===== texts: both sides answer alike ===== -/
section ZV
variable {u v : xU} {Z a s n c : Nat}
/-- both stand at one place of the tape -/
def zP (u v : xU) (Z a : Nat) : Prop := zX u v Z ∧ u.2 14 = nI a ∧ v.2 5 = nI a ∧ a ≤ Z
theorem znxL : ∀ (m a : Nat) (u v : xU) (f1 f2 : Nat), m < f1 → m < f2 → a + m = Z → zP u v Z a → (∃ s e, a ≤ s ∧ zTk (s_X4_nextToken_L0 f1 u) (s_X6_next_L0 f2 v) Z s e) ∧ zFn v (s_X6_next_L0 f2 v) := by
  intro m
  induction m with
  | zero =>
    intro a u v f1 f2 hf1 hf2 ha h
    obtain ⟨f1, rfl⟩ : ∃ z, f1 = z + 1 := ⟨f1 - 1, by omega⟩
    obtain ⟨f2, rfl⟩ : ∃ z, f2 = z + 1 := ⟨f2 - 1, by omega⟩
    obtain ⟨h, h14, h5, hZ⟩ := h
    have z60 := h.1
    obtain ⟨⟨e, d1⟩, d2⟩ := zdec h h14 h5 hZ
    rw [znt_eq, znx_eq, zhere h h5 hZ, if_neg (show ¬ a < Z by omega), if_neg (show ¬ (-1 : Int32) = 32 by decide), if_neg (show ¬ (-1 : Int32) = 10 by decide), if_pos (show u.2 12 ≤ u.2 14 by rw [h.2.1, h14]; exact nI_le (by omega) (by omega))]
    exact ⟨⟨a, e, Nat.le_refl _, d1⟩, d2⟩
  | succ m ih =>
    intro a u v f1 f2 hf1 hf2 ha h
    obtain ⟨f1, rfl⟩ : ∃ z, f1 = z + 1 := ⟨f1 - 1, by omega⟩
    obtain ⟨f2, rfl⟩ : ∃ z, f2 = z + 1 := ⟨f2 - 1, by omega⟩
    obtain ⟨h, h14, h5, hZ⟩ := h
    have z60 := h.1
    obtain ⟨⟨e, d1⟩, d2⟩ := zdec h h14 h5 hZ
    have en : ¬ u.2 12 ≤ u.2 14 := by rw [h.2.1, h14]; exact nI_ge (by omega) (by omega)
    have go : (∃ s e, a ≤ s ∧ zTk (s_X4_nextToken_L0 f1 (uZ u 14 ((u.2 14) + 1))) (s_X6_next_L0 f2 (uZ v 5 ((v.2 5) + 1))) Z s e) ∧ zFn v (s_X6_next_L0 f2 (uZ v 5 ((v.2 5) + 1))) := by
      obtain ⟨⟨s, e, g1, g2⟩, g3⟩ := ih (a + 1) (uZ u 14 ((u.2 14) + 1)) (uZ v 5 ((v.2 5) + 1)) f1 f2 (by omega) (by omega) (by omega) ⟨h.to rfl rfl (fun _ _ => rfl) rfl, by show (u.2 14) + 1 = _; rw [h14, nI_1], by show (v.2 5) + 1 = _; rw [h5, nI_1], by omega⟩
      exact ⟨⟨s, e, by omega, g2⟩, g3.1, fun k k5 k6 k7 k8 => (g3.2 k k5 k6 k7 k8).trans (by simp only [uZ]; rw [if_neg k5])⟩
    rw [znt_eq, znx_eq, zhere h h5 hZ, if_pos (show a < Z by omega), if_neg en, zcel h h14 (by omega)]
    unfold s_X4_isBlank
    by_cases c1 : u.1 26 a = 32
    · rw [if_pos c1, if_pos c1, if_neg (show ¬ (1 : Int32) = 0 by decide)]
      exact go
    · rw [if_neg c1, if_neg c1]
      by_cases c2 : u.1 26 a = 10
      · rw [if_pos c2, if_pos c2, if_neg (show ¬ (1 : Int32) = 0 by decide)]
        exact go
      · rw [if_neg c2, if_neg c2, if_pos rfl]
        exact ⟨⟨a, e, Nat.le_refl _, d1⟩, d2⟩
theorem znx (h : zP u v Z a) : (∃ s e, a ≤ s ∧ zTk (s_X4_nextToken u) (s_X6_next v) Z s e) ∧ zFn v (s_X6_next v) := by
  obtain ⟨h0, h14, h5, hZ⟩ := h
  have z60 := h0.1
  exact znxL (Z - a) a u v (((u.2 12).toInt - (u.2 14).toInt).toNat + 1) (((v.2 4).toInt - (v.2 5).toInt).toNat + 1) (by rw [h0.2.1, h14, nI_toInt (by omega), nI_toInt (by omega)]; omega) (by rw [h0.2.2.1, h5, nI_toInt (by omega), nI_toInt (by omega)]; omega) (by omega) ⟨h0, h14, h5, hZ⟩
/-- the reference has read one token more -/
def zPN (u v : xU) (Z a : Nat) : Prop := ∃ y, zP u y Z a ∧ v.1 = (s_X6_next y).1 ∧ ∀ k, k ≠ 9 → v.2 k = (s_X6_next y).2 k
theorem zPN.tk (h : zPN u v Z a) : ∃ s e, a ≤ s ∧ zTk (s_X4_nextToken u) v Z s e := by
  obtain ⟨y, h1, h2, h3⟩ := h
  obtain ⟨⟨s, e, g1, g2, g3, g4, g5, g6⟩, -⟩ := znx h1
  refine ⟨s, e, g1, g2.to rfl rfl (fun r _ => by rw [h2]) (h3 4 (by decide)), g3, (h3 6 (by decide)).trans g4, g5, ?_⟩
  rw [h3 7 (by decide), h3 5 (by decide), h3 8 (by decide)]
  exact g6
theorem zPN.to {u' : xU} (h : zPN u v Z a) (h1 : u'.1 26 = u.1 26) (h2 : u'.2 12 = u.2 12) (h3 : u'.2 14 = u.2 14) : zPN u' v Z a := by
  obtain ⟨y, ⟨p1, p2, p3, p4⟩, g2, g3⟩ := h
  exact ⟨y, ⟨p1.to h1 h2 (fun _ _ => rfl) rfl, h3.trans p2, p3, p4⟩, g2, g3⟩
theorem zPN.z9 (h : zPN u v Z a) (x : Int32) : zPN u (uZ v 9 x) Z a := by
  obtain ⟨y, p, g2, g3⟩ := h
  exact ⟨y, p, g2, fun k hk => (show (uZ v 9 x).2 k = v.2 k by simp only [uZ]; rw [if_neg hk]).trans (g3 k hk)⟩
def zwt (w : Nat) : Nat := ([4, 2, 2, 1, 0] : List Nat).getD w 0
theorem zt_want : ∀ w : Nat, w < 5 → tWant w = nI (zwt w) ∧ s_X5_cell (xStL 7) (xStV 7) (nI w) = nI (zwt w) ∧ zwt w ≤ 4 := by decide +kernel
/-- the clauses that were read, on both sides -/
def zCl (u v : xU) (c : Nat) : Prop := ∀ q, q < c → ∃ w, w < 5 ∧ u.1 27 q = nI w ∧ v.1 18 (5 * q) = nI w ∧ ∀ i, i < zwt w → v.1 18 (5 * q + 1 + i) = u.1 28 (4 * q + i)
theorem zCl.to {u' v' : xU} (h : zCl u v c) (h1 : u'.1 27 = u.1 27) (h2 : u'.1 28 = u.1 28) (h3 : v'.1 18 = v.1 18) : zCl u' v' c := by
  unfold zCl
  rw [h1, h2, h3]
  exact h
theorem zclL {w : Nat} (hw : w < 5) (hc : c < 12) : ∀ (m i : Nat) (u v : xU) (a f1 f2 : Nat), m < f1 → m < f2 → i + m = zwt w → zPN u v Z a → u.2 13 = nI c → v.2 9 = nI c → zCl u v c → u.1 27 c = nI w → v.1 18 (5 * c) = nI w → (∀ j, j < i → v.1 18 (5 * c + 1 + j) = u.1 28 (4 * c + j)) →
    ((s_X4_readClause_L40 f1 u (nI w) (nI (zwt w)) (nI i)).1 = 0 ∧ (s_X6_clause_L33 f2 v (nI w) (nI i)).1 = 0 ∧ ∃ s, s ≤ Z ∧ (s_X4_readClause_L40 f1 u (nI w) (nI (zwt w)) (nI i)).2.2 15 = nI s ∧ (s_X6_clause_L33 f2 v (nI w) (nI i)).2.2 6 = nI s) ∨
    ((s_X4_readClause_L40 f1 u (nI w) (nI (zwt w)) (nI i)).1 = 1 ∧ (s_X6_clause_L33 f2 v (nI w) (nI i)).1 = 1 ∧ ∃ a', a ≤ a' ∧ zPN (s_X4_readClause_L40 f1 u (nI w) (nI (zwt w)) (nI i)).2 (s_X6_clause_L33 f2 v (nI w) (nI i)).2 Z a' ∧ (s_X4_readClause_L40 f1 u (nI w) (nI (zwt w)) (nI i)).2.2 13 = nI (c + 1) ∧ (s_X6_clause_L33 f2 v (nI w) (nI i)).2.2 9 = nI (c + 1) ∧ zCl (s_X4_readClause_L40 f1 u (nI w) (nI (zwt w)) (nI i)).2 (s_X6_clause_L33 f2 v (nI w) (nI i)).2 (c + 1)) := by
  obtain ⟨t1, t2, t3⟩ := zt_want w hw
  intro m
  induction m with
  | zero =>
    intro i u v a f1 f2 hf1 hf2 hi h h13 h9 hC h27 h18 hj
    obtain ⟨f1, rfl⟩ : ∃ z, f1 = z + 1 := ⟨f1 - 1, by omega⟩
    obtain ⟨f2, rfl⟩ : ∃ z, f2 = z + 1 := ⟨f2 - 1, by omega⟩
    obtain ⟨s, e, g1, g2⟩ := h.tk
    have e17 : v.1 17 (nI w).toNatClampNeg = nI (zwt w) := by rw [nI_clamp (by omega), ← t1]; exact g2.1.2.2.2.2.2.2 w hw
    rw [s_X4_readClause_L40, s_X6_clause_L33, e17, if_pos (nI_le (by omega) (by omega)), if_pos (nI_le (by omega) (by omega))]
    refine Or.inr ⟨rfl, rfl, a, Nat.le_refl _, (h.to rfl rfl rfl).z9 _, ?_, ?_, fun q hq => ?_⟩
    · show u.2 13 + 1 = _
      rw [h13, nI_1]
    · show v.2 9 + 1 = _
      rw [h9, nI_1]
    · by_cases x : q = c
      · subst x
        exact ⟨w, hw, h27, h18, fun j hj' => hj j (by omega)⟩
      · exact hC q (by omega)
  | succ m ih =>
    intro i u v a f1 f2 hf1 hf2 hi h h13 h9 hC h27 h18 hj
    obtain ⟨f1, rfl⟩ : ∃ z, f1 = z + 1 := ⟨f1 - 1, by omega⟩
    obtain ⟨f2, rfl⟩ : ∃ z, f2 = z + 1 := ⟨f2 - 1, by omega⟩
    obtain ⟨s, e, g1, g2, g3, g4, g5, g6⟩ := h.tk
    have e17 : v.1 17 (nI w).toNatClampNeg = nI (zwt w) := by rw [nI_clamp (by omega), ← t1]; exact g2.2.2.2.2.2.2 w hw
    have ft := zFt_nt u
    rw [s_X4_readClause_L40, s_X6_clause_L33, e17, if_neg (nI_ge (by omega) (by omega)), if_neg (nI_ge (by omega) (by omega))]
    rcases g6 with ⟨y1, y2⟩ | ⟨y1, y2⟩ | ⟨y0, y3, y4, ⟨y1, y2, y5⟩ | ⟨y1, y2, y5, y6⟩ | ⟨x, hx, y1, y2, y5, y6⟩⟩
    · rw [if_neg (by rw [y1]; decide), if_neg (by rw [y2]; decide)]
      exact Or.inl ⟨rfl, rfl, s, g5, g3, g4⟩
    · rw [if_neg (by rw [y1]; decide), if_neg (by rw [y2]; decide)]
      exact Or.inl ⟨rfl, rfl, s, g5, g3, g4⟩
    · rw [if_neg (by rw [y1]; decide), if_neg (by rw [y2]; decide)]
      exact Or.inl ⟨rfl, rfl, s, g5, g3, g4⟩
    · have e13 : (s_X4_nextToken u).2 13 = nI c := (ft.2 13 (by decide) (by decide) (by decide) (by decide)).trans h13
      have i1 : ((5 * (v.2 9) + 1) + nI i).toNatClampNeg = 5 * c + 1 + i := by
        rw [h9, show (5 : Int32) * nI c = nI (5 * c) from pk_mul 5 c, nI_1, nI_add, nI_clamp (by omega)]
      rw [if_pos y1, if_pos y2, e13, xix, s_X5_mark_in (by decide) (by omega), i1, nI_1]
      have hX1 : zX (uR (s_X4_nextToken u) 28 (upd ((s_X4_nextToken u).1 28) (4 * c + i) ((s_X4_nextToken u).2 17))) (uA v 18 (5 * c + 1 + i) (v.2 8)) Z := g2.to rfl rfl (fun r hr => by simp only [uA]; rw [if_neg (by omega)]) rfl
      have hn := znx (u := uR (s_X4_nextToken u) 28 (upd ((s_X4_nextToken u).1 28) (4 * c + i) ((s_X4_nextToken u).2 17))) (v := uA v 18 (5 * c + 1 + i) (v.2 8)) (a := e) ⟨hX1, y3, y4, y0⟩
      have f18 : (s_X6_next (uA v 18 (5 * c + 1 + i) (v.2 8))).1 18 = upd (v.1 18) (5 * c + 1 + i) (v.2 8) := by rw [hn.2.1]; rfl
      have r27 : (s_X4_nextToken u).1 27 = u.1 27 := by rw [ft.1]
      have r28 : (s_X4_nextToken u).1 28 = u.1 28 := by rw [ft.1]
      have r28' : (uR (s_X4_nextToken u) 28 (upd ((s_X4_nextToken u).1 28) (4 * c + i) ((s_X4_nextToken u).2 17))).1 28 = upd (u.1 28) (4 * c + i) (v.2 8) := by
        rw [uR_r, r28, y5]
      have r27' : (uR (s_X4_nextToken u) 28 (upd ((s_X4_nextToken u).1 28) (4 * c + i) ((s_X4_nextToken u).2 17))).1 27 = u.1 27 := r27
      have hC2 : zCl (uR (s_X4_nextToken u) 28 (upd ((s_X4_nextToken u).1 28) (4 * c + i) ((s_X4_nextToken u).2 17))) (s_X6_next (uA v 18 (5 * c + 1 + i) (v.2 8))) c := by
        intro q hq
        obtain ⟨x, hx, x1, x2, x3⟩ := hC q hq
        have xw := (zt_want x hx).2.2
        refine ⟨x, hx, by rw [r27']; exact x1, by rw [f18, pk_un (by omega)]; exact x2, fun j hj' => ?_⟩
        rw [f18, r28', pk_un (by omega), pk_un (by omega)]
        exact x3 j hj'
      have hj2 : ∀ j, j < i + 1 → (s_X6_next (uA v 18 (5 * c + 1 + i) (v.2 8))).1 18 (5 * c + 1 + j) = (uR (s_X4_nextToken u) 28 (upd ((s_X4_nextToken u).1 28) (4 * c + i) ((s_X4_nextToken u).2 17))).1 28 (4 * c + j) := by
        intro j hji
        rw [f18, r28']
        by_cases z : j = i
        · rw [z, pk_us, pk_us]
        · rw [pk_un (by omega), pk_un (by omega)]
          exact hj j (by omega)
      rcases ih (i + 1) (uR (s_X4_nextToken u) 28 (upd ((s_X4_nextToken u).1 28) (4 * c + i) ((s_X4_nextToken u).2 17))) (s_X6_next (uA v 18 (5 * c + 1 + i) (v.2 8))) e f1 f2 (by omega) (by omega) (by omega) ⟨_, ⟨hX1, y3, y4, y0⟩, rfl, fun _ _ => rfl⟩ e13 ((hn.2.2 9 (by decide) (by decide) (by decide) (by decide)).trans h9) hC2 (by rw [r27']; exact h27) (by rw [f18, pk_un (by omega)]; exact h18) hj2 with k | ⟨k1, k2, a', k3, k4⟩
      · exact Or.inl k
      · exact Or.inr ⟨k1, k2, a', by omega, k4⟩
    · rw [if_neg (by rw [y1]; decide), if_neg (by rw [y2, show (10 : Int32) = nI 10 from rfl, nI_eq (by omega) (by omega)]; omega)]
      exact Or.inl ⟨rfl, rfl, s, g5, g3, g4⟩
theorem zclause (h : zPN u v Z a) (h13 : u.2 13 = nI c) (h9 : v.2 9 = nI c) (hC : zCl u v c) (hca : 5 * c ≤ a) :
    ((s_X4_readClause u).1 = 0 ∧ (s_X6_clause v).1 = 0 ∧ ∃ s, s ≤ Z ∧ (s_X4_readClause u).2.2 15 = nI s ∧ (s_X6_clause v).2.2 6 = nI s) ∨
    ((s_X4_readClause u).1 = 1 ∧ (s_X6_clause v).1 = 1 ∧ c < 12 ∧ ∃ a', 5 * c + 4 ≤ a' ∧ zPN (s_X4_readClause u).2 (s_X6_clause v).2 Z a' ∧ (s_X4_readClause u).2.2 13 = nI (c + 1) ∧ (s_X6_clause v).2.2 9 = nI (c + 1) ∧ zCl (s_X4_readClause u).2 (s_X6_clause v).2 (c + 1)) := by
  obtain ⟨s, e, g1, g2, g3, g4, g5, g6⟩ := h.tk
  have ft := zFt_nt u
  have z60 := g2.1
  unfold s_X4_readClause s_X6_clause
  rcases g6 with ⟨y1, y2⟩ | ⟨y1, y2⟩ | ⟨y0, y3, y4, ⟨y1, y2, y5⟩ | ⟨y1, y2, y5, y6⟩ | ⟨w, hw, y1, y2, y5, y6⟩⟩
  · rw [if_neg (by rw [y1]; decide), if_neg (by rw [y2]; decide)]
    exact Or.inl ⟨rfl, rfl, s, g5, g3, g4⟩
  · rw [if_neg (by rw [y1]; decide), if_neg (by rw [y2]; decide)]
    exact Or.inl ⟨rfl, rfl, s, g5, g3, g4⟩
  · rw [if_neg (by rw [y1]; decide), if_neg (by rw [y2]; decide)]
    exact Or.inl ⟨rfl, rfl, s, g5, g3, g4⟩
  · rw [if_neg (by rw [y1]; decide), if_neg (by rw [y2]; decide)]
    exact Or.inl ⟨rfl, rfl, s, g5, g3, g4⟩
  · have hc : c < 12 := by omega
    obtain ⟨t1, t2, t3⟩ := zt_want w hw
    have e13 : (s_X4_nextToken u).2 13 = nI c := (ft.2 13 (by decide) (by decide) (by decide) (by decide)).trans h13
    have i0 : (5 * (v.2 9)).toNatClampNeg = 5 * c := by
      rw [h9, show (5 : Int32) * nI c = nI (5 * c) from pk_mul 5 c, nI_clamp (by omega)]
    rw [if_pos y1, if_pos (show v.2 7 ≤ 4 by rw [y2]; exact nI_le (b := 4) (by omega) (by decide)), y5, y2, t2, e13, s_X5_mark_in (by decide) (by omega), i0]
    have hX1 : zX (uR (s_X4_nextToken u) 27 (upd ((s_X4_nextToken u).1 27) c (nI w))) (uA v 18 (5 * c) (nI w)) Z := g2.to rfl rfl (fun r hr => by simp only [uA]; rw [if_neg (by omega)]) rfl
    have hn := znx (u := uR (s_X4_nextToken u) 27 (upd ((s_X4_nextToken u).1 27) c (nI w))) (v := uA v 18 (5 * c) (nI w)) (a := e) ⟨hX1, y3, y4, y0⟩
    have f18 : (s_X6_next (uA v 18 (5 * c) (nI w))).1 18 = upd (v.1 18) (5 * c) (nI w) := by rw [hn.2.1]; rfl
    have r28 : (uR (s_X4_nextToken u) 27 (upd ((s_X4_nextToken u).1 27) c (nI w))).1 28 = u.1 28 := by
      show (s_X4_nextToken u).1 28 = _
      rw [ft.1]
    have r27 : (uR (s_X4_nextToken u) 27 (upd ((s_X4_nextToken u).1 27) c (nI w))).1 27 = upd (u.1 27) c (nI w) := by rw [uR_r, ft.1]
    have key := zclL (Z := Z) hw hc (zwt w) 0 (uR (s_X4_nextToken u) 27 (upd ((s_X4_nextToken u).1 27) c (nI w))) (s_X6_next (uA v 18 (5 * c) (nI w))) e (((nI (zwt w)).toInt - (0 : Int32).toInt).toNat + 1) ((4 - (0 : Int32).toInt).toNat + 1) (by rw [nI_toInt (by omega), show (0 : Int32).toInt = 0 from rfl]; omega) (by rw [show (0 : Int32).toInt = 0 from rfl]; omega) (by omega) ⟨_, ⟨hX1, y3, y4, y0⟩, rfl, fun _ _ => rfl⟩ e13 ((hn.2.2 9 (by decide) (by decide) (by decide) (by decide)).trans h9) (fun q hq => by
      obtain ⟨x, hx, x1, x2, x3⟩ := hC q hq
      have xw := (zt_want x hx).2.2
      refine ⟨x, hx, by rw [r27, pk_un (by omega)]; exact x1, by rw [f18, pk_un (by omega)]; exact x2, fun j hj' => ?_⟩
      rw [f18, r28, pk_un (by omega)]
      exact x3 j hj') (by rw [r27, pk_us]) (by rw [f18, pk_us]) (fun j hj => absurd hj (by omega))
    rw [show nI 0 = (0 : Int32) from rfl] at key
    rcases key with k | ⟨k1, k2, a', k3, k4⟩
    · exact Or.inl k
    · exact Or.inr ⟨k1, k2, hc, a', by omega, k4⟩
/-- what texts leave alone on the reference's side -/
def zFv (v w : xU) : Prop := (∀ r, r ≠ 18 → w.1 r = v.1 r) ∧ ∀ k, k ≠ 5 → k ≠ 6 → k ≠ 7 → k ≠ 8 → k ≠ 9 → w.2 k = v.2 k
theorem zFv.r (v : xU) : zFv v v := ⟨fun _ _ => rfl, fun _ _ _ _ _ _ => rfl⟩
theorem zFv.t {v w x : xU} (h : zFv v w) (h2 : zFv w x) : zFv v x := ⟨fun r hr => (h2.1 r hr).trans (h.1 r hr), fun k a b c d e => (h2.2 k a b c d e).trans (h.2 k a b c d e)⟩
theorem zFv.cl (h : XTk v) : zFv v (s_X6_clause v).2 := ⟨(xcls h).1, (xcls h).2.1⟩
theorem zFv.nx (h : zFn v u) : zFv v u := ⟨fun r _ => by rw [h.1], fun k a b c d _ => h.2 k a b c d⟩
theorem zfaL : ∀ (f2 : Nat) (u v : xU) (a c f1 : Nat), 60 - c < f1 → zPN u v Z a → u.2 13 = nI c → v.2 9 = nI c → zCl u v c → 5 * c ≤ a → XTk v → ((((s_X6_clause v).2.2 4).toInt - ((s_X6_clause v).2.2 5).toInt) + (s_X6_clause v).1.toInt).toNat < f2 →
    (∃ s w, (s_X4_faultOf_L12 f1 u (nI c)).1 = nI s ∧ s ≤ 1000000 ∧ s_X6_text_L19 f2 (s_X6_clause v).2 (s_X6_clause v).1 = ((-100) - nI s, uZ w 4 0) ∧ zFv v w) ∨
    ((s_X4_faultOf_L12 f1 u (nI c)).1 = -1 ∧ ∃ d w, d ≤ 12 ∧ (s_X4_faultOf_L12 f1 u (nI c)).2.2 13 = nI d ∧ w.2 9 = nI d ∧ zCl (s_X4_faultOf_L12 f1 u (nI c)).2 w d ∧ s_X6_text_L19 f2 (s_X6_clause v).2 (s_X6_clause v).1 = s_X6_text_L74 ((((uZ w 4 0).2 9).toInt - (0 : Int32).toInt).toNat + 1) (uZ w 4 0) 1 0 0 ∧ zFv v w) := by
  intro f2
  induction f2 with
  | zero => intro u v a c f1 hf1 h h13 h9 hC hca hk hm; exact absurd hm (by omega)
  | succ f2 ih =>
    intro u v a c f1 hf1 h h13 h9 hC hca hk hm
    obtain ⟨f1, rfl⟩ : ∃ z, f1 = z + 1 := ⟨f1 - 1, by omega⟩
    have fcl := zFv.cl hk
    have hk2 := (xcls hk).2.2.1
    have zZ : Z ≤ 60 := by
      obtain ⟨y, p, -⟩ := h
      exact p.1.1
    have ca : a ≤ 60 := by
      obtain ⟨y, p, -⟩ := h
      have := p.2.2.2
      omega
    have sle : ∀ {s : Nat} {X Y : xU} {e : Nat}, zTk X Y Z s e → s ≤ 1000000 := fun t => by have := t.2.2.2.1; omega
    rw [s_X4_faultOf_L12, if_neg (show ¬ (60 : Int32) ≤ nI c from nI_ge (b := 60) (by omega) (by decide)), s_X6_text_L19]
    rcases zclause h h13 h9 hC hca with ⟨k1, k2, s, k0, k3, k4⟩ | ⟨k1, k2, k0, a', k3, k4, k5, k6, k7⟩
    · rw [if_pos k1, k2, if_pos rfl, if_pos rfl, k4]
      exact Or.inl ⟨s, _, k3, by omega, rfl, fcl⟩
    · obtain ⟨s, e, g1, g⟩ := k4.tk
      have gs := sle g
      obtain ⟨g2, g3, g4, g5, g6⟩ := g
      have ft := zFt_nt (s_X4_readClause u).2
      have e13 : (s_X4_nextToken (s_X4_readClause u).2).2 13 = nI (c + 1) := (ft.2 13 (by decide) (by decide) (by decide) (by decide)).trans k5
      have cl' : zCl (s_X4_nextToken (s_X4_readClause u).2) (s_X6_clause v).2 (c + 1) := k7.to (by rw [ft.1]) (by rw [ft.1]) rfl
      rw [if_neg (by rw [k1]; decide), k2, if_neg (show ¬ (1 : Int32) = 0 by decide), if_neg (show ¬ (1 : Int32) = 0 by decide)]
      rcases g6 with ⟨y1, y2⟩ | ⟨y1, y2⟩ | ⟨y0, y3, y4, ⟨y1, y2, y5⟩ | ⟨y1, y2, y5, y6⟩ | ⟨w, hw, y1, y2, y5, y6⟩⟩
      · rw [if_pos y1, if_neg (by rw [y2]; decide), if_pos y2]
        exact Or.inr ⟨rfl, c + 1, _, by omega, e13, k6, cl', rfl, fcl⟩
      · rw [if_neg (by rw [y1]; decide), if_neg (by rw [y1]; decide), if_neg (by rw [y2]; decide), if_neg (by rw [y2]; decide), g4]
        exact Or.inl ⟨s, _, g3, gs, rfl, fcl⟩
      · rw [if_neg (by rw [y1]; decide), if_pos y1, if_pos y2, nI_1]
        have hnx := znx (u := s_X4_nextToken (s_X4_readClause u).2) (v := (s_X6_clause v).2) (a := e) ⟨g2, y3, y4, y0⟩
        have hm1 := xcl_d hk2 (x := 1) (Or.inr rfl) (by decide)
        rw [k2] at hm
        rcases ih (s_X4_nextToken (s_X4_readClause u).2) (s_X6_next (s_X6_clause v).2) e (c + 1) f1 (by omega) ⟨_, ⟨g2, y3, y4, y0⟩, rfl, fun _ _ => rfl⟩ e13 ((hnx.2.2 9 (by decide) (by decide) (by decide) (by decide)).trans k6) (cl'.to rfl rfl (by rw [hnx.2.1])) (by omega) (xtkn hk2) (by omega) with ⟨s', w, j1, j2, j3, j4⟩ | ⟨j1, d, w, j2, j3, j4, j5, j6, j7⟩
        · exact Or.inl ⟨s', w, j1, j2, j3, fcl.t ((zFv.nx hnx.2).t j4)⟩
        · exact Or.inr ⟨j1, d, w, j2, j3, j4, j5, j6, fcl.t ((zFv.nx hnx.2).t j7)⟩
      · rw [if_neg (by rw [y1]; decide), if_neg (by rw [y1]; decide), if_neg (by rw [y2]; decide), if_neg (by rw [y2]; decide), g4]
        exact Or.inl ⟨s, _, g3, gs, rfl, fcl⟩
      · rw [if_neg (by rw [y1]; decide), if_neg (by rw [y1]; decide), if_neg (by rw [y2, show (11 : Int32) = nI 11 from rfl, nI_eq (by omega) (by omega)]; omega), if_neg (by rw [y2, show (12 : Int32) = nI 12 from rfl, nI_eq (by omega) (by omega)]; omega), g4]
        exact Or.inl ⟨s, _, g3, gs, rfl, fcl⟩
end ZV
