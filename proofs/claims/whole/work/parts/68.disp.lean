/-! ===== a sheet by its number: one body for the four (printed by wip/gen/disp.py) ===== -/
def zFilmL (k : Nat) : Nat → xU → Int32 → Int32 → Int32 → Int32 → Int32 × xU
  | 0, u, _, _, _, _ => (0, u)
  | n + 1, u, x1, x2, x3, x5 =>
    if x3 ≤ x5 then
      (x3, u)
    else
      if (u.2 3) < (x2 + x5) then
        zFilmL k n u x1 x2 x3 (x5 + 1)
      else
        zFilmL k n (uP u k (s_X3_write (uS u k) x5 (s_X5_cell 201 (u.1 10) (x2 + x5)))) x1 x2 x3 (x5 + 1)
theorem zFilmL_0 : ∀ (f : Nat) (u : xU) (y1 y2 y3 y4 : _), s_X5_film_L46_0 f u y1 y2 y3 y4 = zFilmL 0 f u y1 y2 y3 y4 := by
  intro f
  induction f with
  | zero => intros; rfl
  | succ f ih =>
    intro u y1 y2 y3 y4
    rw [s_X5_film_L46_0, zFilmL, ih, ih]
theorem zFilmL_1 : ∀ (f : Nat) (u : xU) (y1 y2 y3 y4 : _), s_X5_film_L46_1 f u y1 y2 y3 y4 = zFilmL 1 f u y1 y2 y3 y4 := by
  intro f
  induction f with
  | zero => intros; rfl
  | succ f ih =>
    intro u y1 y2 y3 y4
    rw [s_X5_film_L46_1, zFilmL, ih, ih]
theorem zFilmL_2 : ∀ (f : Nat) (u : xU) (y1 y2 y3 y4 : _), s_X5_film_L46_2 f u y1 y2 y3 y4 = zFilmL 2 f u y1 y2 y3 y4 := by
  intro f
  induction f with
  | zero => intros; rfl
  | succ f ih =>
    intro u y1 y2 y3 y4
    rw [s_X5_film_L46_2, zFilmL, ih, ih]
theorem zFilmL_3 : ∀ (f : Nat) (u : xU) (y1 y2 y3 y4 : _), s_X5_film_L46_3 f u y1 y2 y3 y4 = zFilmL 3 f u y1 y2 y3 y4 := by
  intro f
  induction f with
  | zero => intros; rfl
  | succ f ih =>
    intro u y1 y2 y3 y4
    rw [s_X5_film_L46_3, zFilmL, ih, ih]
def zLoadL (k : Nat) : Nat → xU → Int32 → Int32 → Int32 → Int32 → Int32 → Int32 → Int32 × xU
  | 0, u, _, _, _, _, _, _ => (0, u)
  | n + 1, u, x1, x2, x3, x4, x6, x7 =>
    if x4 ≤ x7 then
      (x6, u)
    else
      if (lg_cmp (x3.toInt64 + (4 * x7.toInt64)) 0) < 0 then
        ((-12), u)
      else
        if (lg_cmp ((x3.toInt64 + (4 * x7.toInt64)) + 4) ((u.2 (8 + k)).toInt64)) ≤ 0 then
          if ((s_X5_piece u (s_X3_read (uS u k) ((x3.toInt64 + (4 * x7.toInt64)).toInt32)) (s_X3_read (uS u k) (((x3.toInt64 + (4 * x7.toInt64)).toInt32) + 1)) (s_X3_read (uS u k) (((x3.toInt64 + (4 * x7.toInt64)).toInt32) + 2)) (s_X3_read (uS u k) (((x3.toInt64 + (4 * x7.toInt64)).toInt32) + 3))).1) < 0 then
            zLoadL k n ((s_X5_piece u (s_X3_read (uS u k) ((x3.toInt64 + (4 * x7.toInt64)).toInt32)) (s_X3_read (uS u k) (((x3.toInt64 + (4 * x7.toInt64)).toInt32) + 1)) (s_X3_read (uS u k) (((x3.toInt64 + (4 * x7.toInt64)).toInt32) + 2)) (s_X3_read (uS u k) (((x3.toInt64 + (4 * x7.toInt64)).toInt32) + 3))).2) x1 x2 x3 x4 x6 (x7 + 1)
          else
            zLoadL k n ((s_X5_piece u (s_X3_read (uS u k) ((x3.toInt64 + (4 * x7.toInt64)).toInt32)) (s_X3_read (uS u k) (((x3.toInt64 + (4 * x7.toInt64)).toInt32) + 1)) (s_X3_read (uS u k) (((x3.toInt64 + (4 * x7.toInt64)).toInt32) + 2)) (s_X3_read (uS u k) (((x3.toInt64 + (4 * x7.toInt64)).toInt32) + 3))).2) x1 x2 x3 x4 (x6 + 1) (x7 + 1)
        else
          ((-12), u)
theorem zLoadL_0 : ∀ (f : Nat) (u : xU) (y1 y2 y3 y4 y5 y6 : _), s_X5_load_L64_0 f u y1 y2 y3 y4 y5 y6 = zLoadL 0 f u y1 y2 y3 y4 y5 y6 := by
  intro f
  induction f with
  | zero => intros; rfl
  | succ f ih =>
    intro u y1 y2 y3 y4 y5 y6
    rw [s_X5_load_L64_0, zLoadL, ih, ih]
theorem zLoadL_1 : ∀ (f : Nat) (u : xU) (y1 y2 y3 y4 y5 y6 : _), s_X5_load_L64_1 f u y1 y2 y3 y4 y5 y6 = zLoadL 1 f u y1 y2 y3 y4 y5 y6 := by
  intro f
  induction f with
  | zero => intros; rfl
  | succ f ih =>
    intro u y1 y2 y3 y4 y5 y6
    rw [s_X5_load_L64_1, zLoadL, ih, ih]
theorem zLoadL_2 : ∀ (f : Nat) (u : xU) (y1 y2 y3 y4 y5 y6 : _), s_X5_load_L64_2 f u y1 y2 y3 y4 y5 y6 = zLoadL 2 f u y1 y2 y3 y4 y5 y6 := by
  intro f
  induction f with
  | zero => intros; rfl
  | succ f ih =>
    intro u y1 y2 y3 y4 y5 y6
    rw [s_X5_load_L64_2, zLoadL, ih, ih]
theorem zLoadL_3 : ∀ (f : Nat) (u : xU) (y1 y2 y3 y4 y5 y6 : _), s_X5_load_L64_3 f u y1 y2 y3 y4 y5 y6 = zLoadL 3 f u y1 y2 y3 y4 y5 y6 := by
  intro f
  induction f with
  | zero => intros; rfl
  | succ f ih =>
    intro u y1 y2 y3 y4 y5 y6
    rw [s_X5_load_L64_3, zLoadL, ih, ih]
def zByL : Nat → xU → Int32 → Int32 → Int32 → Int32 → Int32 → Int32 → Int32 × xU
  | 0, u, _, _, _, _, _, _ => (0, u)
  | n + 1, u, x1, x2, x4, x5, x6, x7 =>
    if 99 < x7 then
      (1000 + x5, s_X0_attempt u x2 2 x4)
    else
      if x7 = (-99) then
        zByL n (s_X1_sum (s_X0_attempt u x2 2 x7)) x1 x2 x4 x7 (s_X1_greatest (s_X1_sum (s_X0_attempt u x2 2 x7))) (x7 + 1)
      else
        if x6 ≤ (s_X1_greatest (s_X1_sum (s_X0_attempt u x2 2 x7))) then
          zByL n (s_X1_sum (s_X0_attempt u x2 2 x7)) x1 x2 x4 x5 x6 (x7 + 1)
        else
          zByL n (s_X1_sum (s_X0_attempt u x2 2 x7)) x1 x2 x4 x7 (s_X1_greatest (s_X1_sum (s_X0_attempt u x2 2 x7))) (x7 + 1)
theorem zByL_0 : ∀ (f : Nat) (u : xU) (y1 y2 y3 y4 y5 y6 : _), s_X5_by_L64_0 f u y1 y2 y3 y4 y5 y6 = zByL f u y1 y2 y3 y4 y5 y6 := by
  intro f
  induction f with
  | zero => intros; rfl
  | succ f ih =>
    intro u y1 y2 y3 y4 y5 y6
    rw [s_X5_by_L64_0, zByL, ih, ih]
theorem zByL_1 : ∀ (f : Nat) (u : xU) (y1 y2 y3 y4 y5 y6 : _), s_X5_by_L64_1 f u y1 y2 y3 y4 y5 y6 = zByL f u y1 y2 y3 y4 y5 y6 := by
  intro f
  induction f with
  | zero => intros; rfl
  | succ f ih =>
    intro u y1 y2 y3 y4 y5 y6
    rw [s_X5_by_L64_1, zByL, ih, ih]
theorem zByL_2 : ∀ (f : Nat) (u : xU) (y1 y2 y3 y4 y5 y6 : _), s_X5_by_L64_2 f u y1 y2 y3 y4 y5 y6 = zByL f u y1 y2 y3 y4 y5 y6 := by
  intro f
  induction f with
  | zero => intros; rfl
  | succ f ih =>
    intro u y1 y2 y3 y4 y5 y6
    rw [s_X5_by_L64_2, zByL, ih, ih]
theorem zByL_3 : ∀ (f : Nat) (u : xU) (y1 y2 y3 y4 y5 y6 : _), s_X5_by_L64_3 f u y1 y2 y3 y4 y5 y6 = zByL f u y1 y2 y3 y4 y5 y6 := by
  intro f
  induction f with
  | zero => intros; rfl
  | succ f ih =>
    intro u y1 y2 y3 y4 y5 y6
    rw [s_X5_by_L64_3, zByL, ih, ih]
def zB_slew (k : Nat) (u : xU) (p1 : Int32) (p2 : Int32) : Int64 × xU :=
  if (s_X3_isMissing (uS u k)) = 0 then
    if (s_X5_within p2 0 (u.2 3)) = 0 then
      (xNO, u)
    else
      ((s_X1_slewAt (s_X1_tell k u) p2).toInt64, s_X1_tell k u)
  else
    (xNO, u)
theorem zd_slew (u : xU) (p1 p2 : Int32) : (∃ k, k < 4 ∧ p1 = nI k ∧ s_X5_slew u p1 p2 = zB_slew k u p1 p2) ∨ (s_X5_within p1 0 3 = 0 ∧ s_X5_slew u p1 p2 = (xNO, u)) := by
  by_cases h0 : p1 = 0
  · refine Or.inl ⟨0, by decide, h0, ?_⟩
    unfold s_X5_slew zB_slew
    rw [if_pos h0]
    all_goals rfl
  · by_cases h1 : p1 = 1
    · refine Or.inl ⟨1, by decide, h1, ?_⟩
      unfold s_X5_slew zB_slew
      rw [if_neg h0, if_pos h1]
      all_goals rfl
    · by_cases h2 : p1 = 2
      · refine Or.inl ⟨2, by decide, h2, ?_⟩
        unfold s_X5_slew zB_slew
        rw [if_neg h0, if_neg h1, if_pos h2]
        all_goals rfl
      · by_cases h3 : p1 = 3
        · refine Or.inl ⟨3, by decide, h3, ?_⟩
          unfold s_X5_slew zB_slew
          rw [if_neg h0, if_neg h1, if_neg h2, if_pos h3]
          all_goals rfl
        · refine Or.inr ⟨xsheet_out h0 h1 h2 h3, ?_⟩
          unfold s_X5_slew
          rw [if_neg h0, if_neg h1, if_neg h2, if_neg h3]
          all_goals rfl
def zB_slews (k : Nat) (u : xU) (p1 : Int32) (p2 : Int32) : Int64 × xU :=
  if (s_X3_isMissing (uS u k)) = 0 then
    if p2 = 0 then
      ((s_X1_widest (s_X1_tell k u)).toInt64, s_X1_tell k u)
    else
      if p2 = 1 then
        (s_X1_together (s_X1_tell k u), s_X1_tell k u)
      else
        if p2 = 2 then
          ((s_X1_slewAt (s_X1_tell k u) ((s_X1_tell k u).2 3)).toInt64, s_X1_tell k u)
        else
          (xNO, s_X1_tell k u)
  else
    (xNO, u)
theorem zd_slews (u : xU) (p1 p2 : Int32) : (∃ k, k < 4 ∧ p1 = nI k ∧ s_X5_slews u p1 p2 = zB_slews k u p1 p2) ∨ (s_X5_within p1 0 3 = 0 ∧ s_X5_slews u p1 p2 = (xNO, u)) := by
  by_cases h0 : p1 = 0
  · refine Or.inl ⟨0, by decide, h0, ?_⟩
    unfold s_X5_slews zB_slews
    rw [if_pos h0]
    all_goals rfl
  · by_cases h1 : p1 = 1
    · refine Or.inl ⟨1, by decide, h1, ?_⟩
      unfold s_X5_slews zB_slews
      rw [if_neg h0, if_pos h1]
      all_goals rfl
    · by_cases h2 : p1 = 2
      · refine Or.inl ⟨2, by decide, h2, ?_⟩
        unfold s_X5_slews zB_slews
        rw [if_neg h0, if_neg h1, if_pos h2]
        all_goals rfl
      · by_cases h3 : p1 = 3
        · refine Or.inl ⟨3, by decide, h3, ?_⟩
          unfold s_X5_slews zB_slews
          rw [if_neg h0, if_neg h1, if_neg h2, if_pos h3]
          all_goals rfl
        · refine Or.inr ⟨xsheet_out h0 h1 h2 h3, ?_⟩
          unfold s_X5_slews
          rw [if_neg h0, if_neg h1, if_neg h2, if_neg h3]
          all_goals rfl
def zB_by (k : Nat) (u : xU) (p1 : Int32) (p2 : Int32) : Int32 × xU :=
  if (s_X2_has u p2) = 0 then
    ((-2), u)
  else
    if (s_X3_isMissing (uS u k)) = 0 then
      zByL (((99 : Int32).toInt + 1 - ((-99) : Int32).toInt).toNat + 1) (s_X1_tell k u) p1 p2 (s_X2_read (s_X1_tell k u) p2 2) (-99) 0 (-99)
    else
      ((-11), u)
theorem zd_by (u : xU) (p1 p2 : Int32) : (∃ k, k < 4 ∧ p1 = nI k ∧ s_X5_by u p1 p2 = zB_by k u p1 p2) ∨ (s_X5_within p1 0 3 = 0 ∧ s_X5_by u p1 p2 = ((-2), u)) := by
  by_cases h0 : p1 = 0
  · refine Or.inl ⟨0, by decide, h0, ?_⟩
    unfold s_X5_by zB_by
    rw [if_pos h0, zByL_0]
    all_goals rfl
  · by_cases h1 : p1 = 1
    · refine Or.inl ⟨1, by decide, h1, ?_⟩
      unfold s_X5_by zB_by
      rw [if_neg h0, if_pos h1, zByL_1]
      all_goals rfl
    · by_cases h2 : p1 = 2
      · refine Or.inl ⟨2, by decide, h2, ?_⟩
        unfold s_X5_by zB_by
        rw [if_neg h0, if_neg h1, if_pos h2, zByL_2]
        all_goals rfl
      · by_cases h3 : p1 = 3
        · refine Or.inl ⟨3, by decide, h3, ?_⟩
          unfold s_X5_by zB_by
          rw [if_neg h0, if_neg h1, if_neg h2, if_pos h3, zByL_3]
          all_goals rfl
        · refine Or.inr ⟨xsheet_out h0 h1 h2 h3, ?_⟩
          unfold s_X5_by
          rw [if_neg h0, if_neg h1, if_neg h2, if_neg h3]
          all_goals rfl
def zB_tells (k : Nat) (u : xU) (p1 : Int32) (p2 : Int32) (p3 : Int32) : Int32 × xU :=
  if (s_X5_within p2 1 200) = 0 then
    ((-2), u)
  else
    if p3 = (-1) then
      if (s_X3_isMissing (uS u k)) = 0 then
        if (u.2 (8 + k)) ≤ 8 then
          if p3 = (-1) then
            (s_X5_firstOtherwise k u p2, u)
          else
            ((s_X5_kindsTold k u p2 p3).1, (s_X5_kindsTold k u p2 p3).2)
        else
          ((-2), u)
      else
        ((-11), u)
    else
      if (s_X2_has u p3) = 0 then
        ((-2), u)
      else
        if (s_X3_isMissing (uS u k)) = 0 then
          if (u.2 (8 + k)) ≤ 8 then
            if p3 = (-1) then
              (s_X5_firstOtherwise k u p2, u)
            else
              ((s_X5_kindsTold k u p2 p3).1, (s_X5_kindsTold k u p2 p3).2)
          else
            ((-2), u)
        else
          ((-11), u)
theorem zd_tells (u : xU) (p1 p2 p3 : Int32) : (∃ k, k < 4 ∧ p1 = nI k ∧ s_X5_tells u p1 p2 p3 = zB_tells k u p1 p2 p3) ∨ (s_X5_within p1 0 3 = 0 ∧ s_X5_tells u p1 p2 p3 = ((-2), u)) := by
  by_cases h0 : p1 = 0
  · refine Or.inl ⟨0, by decide, h0, ?_⟩
    unfold s_X5_tells zB_tells
    rw [if_pos h0]
    all_goals rfl
  · by_cases h1 : p1 = 1
    · refine Or.inl ⟨1, by decide, h1, ?_⟩
      unfold s_X5_tells zB_tells
      rw [if_neg h0, if_pos h1]
      all_goals rfl
    · by_cases h2 : p1 = 2
      · refine Or.inl ⟨2, by decide, h2, ?_⟩
        unfold s_X5_tells zB_tells
        rw [if_neg h0, if_neg h1, if_pos h2]
        all_goals rfl
      · by_cases h3 : p1 = 3
        · refine Or.inl ⟨3, by decide, h3, ?_⟩
          unfold s_X5_tells zB_tells
          rw [if_neg h0, if_neg h1, if_neg h2, if_pos h3]
          all_goals rfl
        · refine Or.inr ⟨xsheet_out h0 h1 h2 h3, ?_⟩
          unfold s_X5_tells
          rw [if_neg h0, if_neg h1, if_neg h2, if_neg h3]
          all_goals rfl
def zB_film (k : Nat) (u : xU) (p1 : Int32) (p2 : Int32) (p3 : Int32) : Int32 × xU :=
  if (s_X5_within p2 1 200) = 0 then
    ((-2), u)
  else
    if (s_X5_within p3 0 40) = 0 then
      ((-2), u)
    else
      zFilmL k ((p3.toInt - (0 : Int32).toInt).toNat + 1) (uP u k (s_X3_become (uS u k) 0 p3)) p1 p2 p3 0
theorem zd_film (u : xU) (p1 p2 p3 : Int32) : (∃ k, k < 4 ∧ p1 = nI k ∧ s_X5_film u p1 p2 p3 = zB_film k u p1 p2 p3) ∨ (s_X5_within p1 0 3 = 0 ∧ s_X5_film u p1 p2 p3 = ((-2), u)) := by
  by_cases h0 : p1 = 0
  · refine Or.inl ⟨0, by decide, h0, ?_⟩
    unfold s_X5_film zB_film
    rw [if_pos h0, zFilmL_0]
    all_goals rfl
  · by_cases h1 : p1 = 1
    · refine Or.inl ⟨1, by decide, h1, ?_⟩
      unfold s_X5_film zB_film
      rw [if_neg h0, if_pos h1, zFilmL_1]
      all_goals rfl
    · by_cases h2 : p1 = 2
      · refine Or.inl ⟨2, by decide, h2, ?_⟩
        unfold s_X5_film zB_film
        rw [if_neg h0, if_neg h1, if_pos h2, zFilmL_2]
        all_goals rfl
      · by_cases h3 : p1 = 3
        · refine Or.inl ⟨3, by decide, h3, ?_⟩
          unfold s_X5_film zB_film
          rw [if_neg h0, if_neg h1, if_neg h2, if_pos h3, zFilmL_3]
          all_goals rfl
        · refine Or.inr ⟨xsheet_out h0 h1 h2 h3, ?_⟩
          unfold s_X5_film
          rw [if_neg h0, if_neg h1, if_neg h2, if_neg h3]
          all_goals rfl
def zB_sheet (k : Nat) (u : xU) (p1 : Int32) (p2 : Int32) (p3 : Int32) : Int32 × xU :=
  if (s_X5_within p2 (-1) 1) = 0 then
    ((-2), u)
  else
    if p2 = (-1) then
      (1, uP u k (s_X3_become (uS u k) (-1) 0))
    else
      if p3 ≤ 40 then
        if 0 ≤ p3 then
          (1, uP u k (s_X3_become (uS u k) p2 p3))
        else
          ((-14), u)
      else
        ((-2), u)
theorem zd_sheet (u : xU) (p1 p2 p3 : Int32) : (∃ k, k < 4 ∧ p1 = nI k ∧ s_X5_sheet u p1 p2 p3 = zB_sheet k u p1 p2 p3) ∨ (s_X5_within p1 0 3 = 0 ∧ s_X5_sheet u p1 p2 p3 = ((-2), u)) := by
  by_cases h0 : p1 = 0
  · refine Or.inl ⟨0, by decide, h0, ?_⟩
    unfold s_X5_sheet zB_sheet
    rw [if_pos h0]
    all_goals rfl
  · by_cases h1 : p1 = 1
    · refine Or.inl ⟨1, by decide, h1, ?_⟩
      unfold s_X5_sheet zB_sheet
      rw [if_neg h0, if_pos h1]
      all_goals rfl
    · by_cases h2 : p1 = 2
      · refine Or.inl ⟨2, by decide, h2, ?_⟩
        unfold s_X5_sheet zB_sheet
        rw [if_neg h0, if_neg h1, if_pos h2]
        all_goals rfl
      · by_cases h3 : p1 = 3
        · refine Or.inl ⟨3, by decide, h3, ?_⟩
          unfold s_X5_sheet zB_sheet
          rw [if_neg h0, if_neg h1, if_neg h2, if_pos h3]
          all_goals rfl
        · refine Or.inr ⟨xsheet_out h0 h1 h2 h3, ?_⟩
          unfold s_X5_sheet
          rw [if_neg h0, if_neg h1, if_neg h2, if_neg h3]
          all_goals rfl
def zB_put (k : Nat) (u : xU) (p1 : Int32) (p2 : Int32) (p3 : Int32) : Int32 × xU :=
  if (s_X3_isMissing (uS u k)) = 0 then
    if (s_X5_within p2 0 ((u.2 (8 + k)) - 1)) = 0 then
      ((-12), u)
    else
      (1, uP u k (s_X3_write (uS u k) p2 p3))
  else
    ((-11), u)
theorem zd_put (u : xU) (p1 p2 p3 : Int32) : (∃ k, k < 4 ∧ p1 = nI k ∧ s_X5_put u p1 p2 p3 = zB_put k u p1 p2 p3) ∨ (s_X5_within p1 0 3 = 0 ∧ s_X5_put u p1 p2 p3 = ((-2), u)) := by
  by_cases h0 : p1 = 0
  · refine Or.inl ⟨0, by decide, h0, ?_⟩
    unfold s_X5_put zB_put
    rw [if_pos h0]
    all_goals rfl
  · by_cases h1 : p1 = 1
    · refine Or.inl ⟨1, by decide, h1, ?_⟩
      unfold s_X5_put zB_put
      rw [if_neg h0, if_pos h1]
      all_goals rfl
    · by_cases h2 : p1 = 2
      · refine Or.inl ⟨2, by decide, h2, ?_⟩
        unfold s_X5_put zB_put
        rw [if_neg h0, if_neg h1, if_pos h2]
        all_goals rfl
      · by_cases h3 : p1 = 3
        · refine Or.inl ⟨3, by decide, h3, ?_⟩
          unfold s_X5_put zB_put
          rw [if_neg h0, if_neg h1, if_neg h2, if_pos h3]
          all_goals rfl
        · refine Or.inr ⟨xsheet_out h0 h1 h2 h3, ?_⟩
          unfold s_X5_put
          rw [if_neg h0, if_neg h1, if_neg h2, if_neg h3]
          all_goals rfl
def zB_load (k : Nat) (u : xU) (p1 : Int32) (p2 : Int32) (p3 : Int32) (p4 : Int32) : Int32 × xU :=
  if (s_X5_within p2 0 1) = 0 then
    ((-2), u)
  else
    if (s_X5_within p4 0 10) = 0 then
      ((-2), u)
    else
      if (s_X3_isMissing (uS u k)) = 0 then
        if (u.2 (4 + k)) = p2 then
          zLoadL k ((p4.toInt - (0 : Int32).toInt).toNat + 1) u p1 p2 p3 p4 0 0
        else
          ((-13), u)
      else
        ((-11), u)
theorem zd_load (u : xU) (p1 p2 p3 p4 : Int32) : (∃ k, k < 4 ∧ p1 = nI k ∧ s_X5_load u p1 p2 p3 p4 = zB_load k u p1 p2 p3 p4) ∨ (s_X5_within p1 0 3 = 0 ∧ s_X5_load u p1 p2 p3 p4 = ((-2), u)) := by
  by_cases h0 : p1 = 0
  · refine Or.inl ⟨0, by decide, h0, ?_⟩
    unfold s_X5_load zB_load
    rw [if_pos h0, zLoadL_0]
    all_goals rfl
  · by_cases h1 : p1 = 1
    · refine Or.inl ⟨1, by decide, h1, ?_⟩
      unfold s_X5_load zB_load
      rw [if_neg h0, if_pos h1, zLoadL_1]
      all_goals rfl
    · by_cases h2 : p1 = 2
      · refine Or.inl ⟨2, by decide, h2, ?_⟩
        unfold s_X5_load zB_load
        rw [if_neg h0, if_neg h1, if_pos h2, zLoadL_2]
        all_goals rfl
      · by_cases h3 : p1 = 3
        · refine Or.inl ⟨3, by decide, h3, ?_⟩
          unfold s_X5_load zB_load
          rw [if_neg h0, if_neg h1, if_neg h2, if_pos h3, zLoadL_3]
          all_goals rfl
        · refine Or.inr ⟨xsheet_out h0 h1 h2 h3, ?_⟩
          unfold s_X5_load
          rw [if_neg h0, if_neg h1, if_neg h2, if_neg h3]
          all_goals rfl
def zB_copy (k l : Nat) (u : xU) (p2 p4 p5 : Int32) : Int32 × xU :=
  if (s_X3_isMissing (uS u k)) = 0 then
    if (s_X3_isMissing (uS u l)) = 0 then
      if (u.2 (4 + k)) = (u.2 (4 + l)) then
        if p5 < 0 then
          ((-12), u)
        else
          if (s_X5_within p2 0 ((u.2 (8 + k)) - p5)) = 0 then
            ((-12), u)
          else
            if (s_X5_within p4 0 ((u.2 (8 + l)) - p5)) = 0 then
              ((-12), u)
            else
              (p5, uR u (21 + l) (va_cpy (u.1 (21 + k)) (u.1 (21 + l)) p2.toNatClampNeg p4.toNatClampNeg p5.toNatClampNeg))
      else
        ((-13), u)
    else
      ((-11), u)
  else
    ((-11), u)
theorem zd_copy (u : xU) (p1 p2 p3 p4 p5 : Int32) : (∃ k l, k < 4 ∧ l < 4 ∧ p1 = nI k ∧ p3 = nI l ∧ s_X5_copy u p1 p2 p3 p4 p5 = zB_copy k l u p2 p4 p5) ∨ ((s_X5_within p1 0 3 = 0 ∨ s_X5_within p3 0 3 = 0) ∧ s_X5_copy u p1 p2 p3 p4 p5 = ((-2), u)) := by
  by_cases h0 : p1 = 0
  · by_cases g0 : p3 = 0
    · refine Or.inl ⟨0, 0, by decide, by decide, h0, g0, ?_⟩
      unfold s_X5_copy zB_copy
      rw [if_pos h0, if_pos g0]
      all_goals rfl
    · by_cases g1 : p3 = 1
      · refine Or.inl ⟨0, 1, by decide, by decide, h0, g1, ?_⟩
        unfold s_X5_copy zB_copy
        rw [if_pos h0, if_neg g0, if_pos g1]
        all_goals rfl
      · by_cases g2 : p3 = 2
        · refine Or.inl ⟨0, 2, by decide, by decide, h0, g2, ?_⟩
          unfold s_X5_copy zB_copy
          rw [if_pos h0, if_neg g0, if_neg g1, if_pos g2]
          all_goals rfl
        · by_cases g3 : p3 = 3
          · refine Or.inl ⟨0, 3, by decide, by decide, h0, g3, ?_⟩
            unfold s_X5_copy zB_copy
            rw [if_pos h0, if_neg g0, if_neg g1, if_neg g2, if_pos g3]
            all_goals rfl
          · refine Or.inr ⟨Or.inr (xsheet_out g0 g1 g2 g3), ?_⟩
            unfold s_X5_copy
            rw [if_pos h0, if_neg g0, if_neg g1, if_neg g2, if_neg g3]
            all_goals rfl
  · by_cases h1 : p1 = 1
    · by_cases g0 : p3 = 0
      · refine Or.inl ⟨1, 0, by decide, by decide, h1, g0, ?_⟩
        unfold s_X5_copy zB_copy
        rw [if_neg h0, if_pos h1, if_pos g0]
        all_goals rfl
      · by_cases g1 : p3 = 1
        · refine Or.inl ⟨1, 1, by decide, by decide, h1, g1, ?_⟩
          unfold s_X5_copy zB_copy
          rw [if_neg h0, if_pos h1, if_neg g0, if_pos g1]
          all_goals rfl
        · by_cases g2 : p3 = 2
          · refine Or.inl ⟨1, 2, by decide, by decide, h1, g2, ?_⟩
            unfold s_X5_copy zB_copy
            rw [if_neg h0, if_pos h1, if_neg g0, if_neg g1, if_pos g2]
            all_goals rfl
          · by_cases g3 : p3 = 3
            · refine Or.inl ⟨1, 3, by decide, by decide, h1, g3, ?_⟩
              unfold s_X5_copy zB_copy
              rw [if_neg h0, if_pos h1, if_neg g0, if_neg g1, if_neg g2, if_pos g3]
              all_goals rfl
            · refine Or.inr ⟨Or.inr (xsheet_out g0 g1 g2 g3), ?_⟩
              unfold s_X5_copy
              rw [if_neg h0, if_pos h1, if_neg g0, if_neg g1, if_neg g2, if_neg g3]
              all_goals rfl
    · by_cases h2 : p1 = 2
      · by_cases g0 : p3 = 0
        · refine Or.inl ⟨2, 0, by decide, by decide, h2, g0, ?_⟩
          unfold s_X5_copy zB_copy
          rw [if_neg h0, if_neg h1, if_pos h2, if_pos g0]
          all_goals rfl
        · by_cases g1 : p3 = 1
          · refine Or.inl ⟨2, 1, by decide, by decide, h2, g1, ?_⟩
            unfold s_X5_copy zB_copy
            rw [if_neg h0, if_neg h1, if_pos h2, if_neg g0, if_pos g1]
            all_goals rfl
          · by_cases g2 : p3 = 2
            · refine Or.inl ⟨2, 2, by decide, by decide, h2, g2, ?_⟩
              unfold s_X5_copy zB_copy
              rw [if_neg h0, if_neg h1, if_pos h2, if_neg g0, if_neg g1, if_pos g2]
              all_goals rfl
            · by_cases g3 : p3 = 3
              · refine Or.inl ⟨2, 3, by decide, by decide, h2, g3, ?_⟩
                unfold s_X5_copy zB_copy
                rw [if_neg h0, if_neg h1, if_pos h2, if_neg g0, if_neg g1, if_neg g2, if_pos g3]
                all_goals rfl
              · refine Or.inr ⟨Or.inr (xsheet_out g0 g1 g2 g3), ?_⟩
                unfold s_X5_copy
                rw [if_neg h0, if_neg h1, if_pos h2, if_neg g0, if_neg g1, if_neg g2, if_neg g3]
                all_goals rfl
      · by_cases h3 : p1 = 3
        · by_cases g0 : p3 = 0
          · refine Or.inl ⟨3, 0, by decide, by decide, h3, g0, ?_⟩
            unfold s_X5_copy zB_copy
            rw [if_neg h0, if_neg h1, if_neg h2, if_pos h3, if_pos g0]
            all_goals rfl
          · by_cases g1 : p3 = 1
            · refine Or.inl ⟨3, 1, by decide, by decide, h3, g1, ?_⟩
              unfold s_X5_copy zB_copy
              rw [if_neg h0, if_neg h1, if_neg h2, if_pos h3, if_neg g0, if_pos g1]
              all_goals rfl
            · by_cases g2 : p3 = 2
              · refine Or.inl ⟨3, 2, by decide, by decide, h3, g2, ?_⟩
                unfold s_X5_copy zB_copy
                rw [if_neg h0, if_neg h1, if_neg h2, if_pos h3, if_neg g0, if_neg g1, if_pos g2]
                all_goals rfl
              · by_cases g3 : p3 = 3
                · refine Or.inl ⟨3, 3, by decide, by decide, h3, g3, ?_⟩
                  unfold s_X5_copy zB_copy
                  rw [if_neg h0, if_neg h1, if_neg h2, if_pos h3, if_neg g0, if_neg g1, if_neg g2, if_pos g3]
                  all_goals rfl
                · refine Or.inr ⟨Or.inr (xsheet_out g0 g1 g2 g3), ?_⟩
                  unfold s_X5_copy
                  rw [if_neg h0, if_neg h1, if_neg h2, if_pos h3, if_neg g0, if_neg g1, if_neg g2, if_neg g3]
                  all_goals rfl
        · refine Or.inr ⟨Or.inl (xsheet_out h0 h1 h2 h3), ?_⟩
          unfold s_X5_copy
          rw [if_neg h0, if_neg h1, if_neg h2, if_neg h3]
          simp only [ite_self]
