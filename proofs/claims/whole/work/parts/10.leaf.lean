def s_X5_within  (p0 : Int32) (p1 : Int32) (p2 : Int32) : Int32 :=
  if p0 < p1 then
    0
  else
    if p2 < p0 then
      0
    else
      1
abbrev rm_X5_within : Room := { frames := 0, cells := 0, slots := 0, locals := 0 }
set_option maxHeartbeats 8000000 in
set_option maxRecDepth 100000 in
theorem c_X5_within (l : Launch) (E : xG) (p0 : Int32) (p1 : Int32) (p2 : Int32) : xRo l E yX5_within wsX5_within rm_X5_within [.int p0, .int p1, .int p2] [] (some (.int (s_X5_within p0 p1 p2))) := by
  refine xRo.of (cc := cX5_within) (maxL := 3) (ret := (some .boolean)) (by decide) rfl (Nat.le_of_ble_eq_true rfl) ?_
  intro p e s m below meth c ls hAt hF hP hS hl
  obtain ⟨hx, hb, hr, hml, hown, hts, hlocks, -⟩ := hAt
  have hown : s.vm.findClass RX5 = some m.cls := hown
  have hl : lv_has ls 3 [(0, .int p0), (1, .int p1), (2, .int p2)] := hl
  have hK := hF.1
  have hA : ∀ q : Nat, (fun _ => False) q → xA0 E q := fun _ h => h.elim
  change W p l e rm_X5_within s m ([.int p0, .int p1, .int p2] : List Value).toArray below meth c s.heap [] 0 0 (xQro below (some (.int (s_X5_within p0 p1 p2))) ([.int p0, .int p1, .int p2] : List Value).toArray s) _
  have hR : s_X5_within p0 p1 p2 = s_X5_within p0 p1 p2 := rfl
  refine lv_iload_n hx hb dX5_within_0 rfl (lv_at hl 0 rfl) ?_
  refine lv_iload_n hx hb dX5_within_1 rfl (lv_at hl 1 rfl) ?_
  refine lv_icmp_lt (tgt := 14) hx hb dX5_within_2 rfl (fun q1 => ?_) (fun q1 => ?_)
  · have hR := hR.trans (if_pos q1)
    refine lv_iconst (v := 0) hx hb dX5_within_14 rfl ?_
    have hR : s_X5_within p0 p1 p2 = 0 := hR
    exact W.zret (v := 0) (ty := .boolean) hx hb hr (xnb (Or.inl rfl)) (fun t ht _ => ⟨congrArg (fun z => Outcome.returned (some (Value.int z))) hR.symm, ht⟩) (fun _ h => by cases h) dX5_within_15
  · have hR := hR.trans (if_neg q1)
    refine lv_iload_n hx hb dX5_within_5 rfl (lv_at hl 0 rfl) ?_
    refine lv_iload_n hx hb dX5_within_6 rfl (lv_at hl 2 rfl) ?_
    refine lv_icmp_gt (tgt := 14) hx hb dX5_within_7 rfl (fun q2 => ?_) (fun q2 => ?_)
    · have hR := hR.trans (if_pos q2)
      refine lv_iconst (v := 0) hx hb dX5_within_14 rfl ?_
      have hR : s_X5_within p0 p1 p2 = 0 := hR
      exact W.zret (v := 0) (ty := .boolean) hx hb hr (xnb (Or.inl rfl)) (fun t ht _ => ⟨congrArg (fun z => Outcome.returned (some (Value.int z))) hR.symm, ht⟩) (fun _ h => by cases h) dX5_within_15
    · have hR := hR.trans (if_neg q2)
      refine lv_iconst (v := 1) hx hb dX5_within_10 rfl ?_
      refine lv_goto (tgt := 15) hx hb dX5_within_11 rfl ?_
      have hR : s_X5_within p0 p1 p2 = 1 := hR
      exact W.zret (v := 1) (ty := .boolean) hx hb hr (xnb (Or.inr rfl)) (fun t ht _ => ⟨congrArg (fun z => Outcome.returned (some (Value.int z))) hR.symm, ht⟩) (fun _ h => by cases h) dX5_within_15
theorem bs_X5_within (p0 : Int32) (p1 : Int32) (p2 : Int32) : s_X5_within p0 p1 p2 = 0 ∨ s_X5_within p0 p1 p2 = 1 := by
  unfold s_X5_within; repeat (first | exact Or.inl rfl | exact Or.inr rfl | split)
def s_X5_share  (p0 : Int32) (p1 : Int32) : Int32 :=
  if p1 = 0 then
    0
  else
    p0 / p1
abbrev rm_X5_share : Room := { frames := 0, cells := 0, slots := 0, locals := 0 }
set_option maxHeartbeats 8000000 in
set_option maxRecDepth 100000 in
theorem c_X5_share (l : Launch) (E : xG) (p0 : Int32) (p1 : Int32) : xRo l E yX5_share wsX5_share rm_X5_share [.int p0, .int p1] [] (some (.int (s_X5_share p0 p1))) := by
  refine xRo.of (cc := cX5_share) (maxL := 2) (ret := (some .int)) (by decide) rfl (Nat.le_of_ble_eq_true rfl) ?_
  intro p e s m below meth c ls hAt hF hP hS hl
  obtain ⟨hx, hb, hr, hml, hown, hts, hlocks, -⟩ := hAt
  have hown : s.vm.findClass RX5 = some m.cls := hown
  have hl : lv_has ls 2 [(0, .int p0), (1, .int p1)] := hl
  have hK := hF.1
  have hA : ∀ q : Nat, (fun _ => False) q → xA0 E q := fun _ h => h.elim
  change W p l e rm_X5_share s m ([.int p0, .int p1] : List Value).toArray below meth c s.heap [] 0 0 (xQro below (some (.int (s_X5_share p0 p1))) ([.int p0, .int p1] : List Value).toArray s) _
  have hR : s_X5_share p0 p1 = s_X5_share p0 p1 := rfl
  refine lv_iload_n hx hb dX5_share_0 rfl (lv_at hl 1 rfl) ?_
  refine lv_if_ne (tgt := 8) hx hb dX5_share_1 rfl (fun q1 => ?_) (fun q1 => ?_)
  · have hR := hR.trans (if_neg q1)
    refine lv_iload_n hx hb dX5_share_8 rfl (lv_at hl 0 rfl) ?_
    refine lv_iload_n hx hb dX5_share_9 rfl (lv_at hl 1 rfl) ?_
    refine lv_idiv hx hb dX5_share_10 (by first | assumption | decide) ?_
    have hR : s_X5_share p0 p1 = p0 / p1 := hR
    exact W.iret (v := p0 / p1) hx hb hr (fun t ht _ => ⟨congrArg (fun z => Outcome.returned (some (Value.int z))) hR.symm, ht⟩) (fun _ h => by cases h) dX5_share_11
  · have hR := hR.trans (if_pos q1)
    refine lv_iconst (v := 0) hx hb dX5_share_4 rfl ?_
    refine lv_goto (tgt := 11) hx hb dX5_share_5 rfl ?_
    have hR : s_X5_share p0 p1 = 0 := hR
    exact W.iret (v := 0) hx hb hr (fun t ht _ => ⟨congrArg (fun z => Outcome.returned (some (Value.int z))) hR.symm, ht⟩) (fun _ h => by cases h) dX5_share_11
def s_X5_isByte  (p0 : Int32) : Int32 :=
  s_X5_within p0 0 255
abbrev rm_X5_isByte : Room := { frames := 1, cells := 0, slots := 0, locals := 22 }
set_option maxHeartbeats 8000000 in
set_option maxRecDepth 100000 in
theorem c_X5_isByte (l : Launch) (E : xG) (p0 : Int32) : xRo l E yX5_isByte wsX5_isByte rm_X5_isByte [.int p0] [] (some (.int (s_X5_isByte p0))) := by
  refine xRo.of (cc := cX5_isByte) (maxL := 1) (ret := (some .boolean)) (by decide) rfl (Nat.le_of_ble_eq_true rfl) ?_
  intro p e s m below meth c ls hAt hF hP hS hl
  obtain ⟨hx, hb, hr, hml, hown, hts, hlocks, -⟩ := hAt
  have hown : s.vm.findClass RX5 = some m.cls := hown
  have hl : lv_has ls 1 [(0, .int p0)] := hl
  have hK := hF.1
  have hA : ∀ q : Nat, (fun _ => False) q → xA0 E q := fun _ h => h.elim
  change W p l e rm_X5_isByte s m ([.int p0] : List Value).toArray below meth c s.heap [] 0 0 (xQro below (some (.int (s_X5_isByte p0))) ([.int p0] : List Value).toArray s) _
  have hR : s_X5_isByte p0 = s_X5_isByte p0 := rfl
  refine lv_iload_n hx hb dX5_isByte_0 rfl (lv_at hl 0 rfl) ?_
  refine lv_iconst (v := 0) hx hb dX5_isByte_1 rfl ?_
  refine lv_sipush (v := 255) hx hb dX5_isByte_2 rfl ?_
  refine xRoS (nL := 1) ⟨hx, hb, hml, hown, hts⟩ (c_X5_within l E p0 0 255) (va_cwS 3 hts gX5_isByte_X5_within rfl rfl rfl hd_X5_within ⟨(Nat.le_of_ble_eq_true rfl), (Nat.le_of_ble_eq_true rfl)⟩) hF hS hA (hP.sub [] rfl) rfl hl.1 rfl (Nat.le_of_ble_eq_true rfl) ⟨(Nat.le_of_ble_eq_true rfl), (Nat.le_of_ble_eq_true rfl)⟩ dX5_isByte_5 ?_
  refine W.eq (g2 := F0 m 8 ls [.int (s_X5_within p0 0 255)]) rfl ?_
  have hR : s_X5_isByte p0 = s_X5_within p0 0 255 := hR
  exact W.zret (v := s_X5_within p0 0 255) (ty := .boolean) hx hb hr (xnb (bs_X5_within ..)) (fun t ht _ => ⟨congrArg (fun z => Outcome.returned (some (Value.int z))) hR.symm, ht⟩) (fun _ h => by cases h) dX5_isByte_8
def s_X5_fits  (p0 : Int32) (p1 : Int32) : Int32 :=
  s_X5_within p1 (s_X5_cell (xStL 1) (xStV 1) p0) (s_X5_cell (xStL 2) (xStV 2) p0)
abbrev rm_X5_fits : Room := { frames := 1, cells := 0, slots := 0, locals := 22 }
set_option maxHeartbeats 8000000 in
set_option maxRecDepth 100000 in
theorem c_X5_fits (l : Launch) (E : xG) (p0 : Int32) (p1 : Int32) : xRo l E yX5_fits wsX5_fits rm_X5_fits [.int p0, .int p1] [] (some (.int (s_X5_fits p0 p1))) := by
  refine xRo.of (cc := cX5_fits) (maxL := 2) (ret := (some .boolean)) (by decide) rfl (Nat.le_of_ble_eq_true rfl) ?_
  intro p e s m below meth c ls hAt hF hP hS hl
  obtain ⟨hx, hb, hr, hml, hown, hts, hlocks, -⟩ := hAt
  have hown : s.vm.findClass RX5 = some m.cls := hown
  have hl : lv_has ls 2 [(0, .int p0), (1, .int p1)] := hl
  have hK := hF.1
  have hA : ∀ q : Nat, (fun _ => False) q → xA0 E q := fun _ h => h.elim
  change W p l e rm_X5_fits s m ([.int p0, .int p1] : List Value).toArray below meth c s.heap [] 0 0 (xQro below (some (.int (s_X5_fits p0 p1))) ([.int p0, .int p1] : List Value).toArray s) _
  have hR : s_X5_fits p0 p1 = s_X5_fits p0 p1 := rfl
  refine lv_iload_n hx hb dX5_fits_0 rfl (lv_at hl 1 rfl) ?_
  refine va_gets (C := RX5) hx hb ((hF.2.2.1 1 (by decide)).1.narrow hA) hS hown (hts (.fieldLink RX5 343 "RailOffsets" "FIELD_LEAST" "[I") (by decide +kernel)) (fun _ h => h) dX5_fits_1 ?_
  refine lv_iload_n hx hb dX5_fits_4 rfl (lv_at hl 0 rfl) ?_
  refine xRoS (nL := 2) ⟨hx, hb, hml, hown, hts⟩ (c_X5_cell_st l E 1 (by decide) p0) (va_cwS 2 hts gX5_fits_X5_cell rfl rfl rfl hd_X5_cell ⟨(Nat.le_of_ble_eq_true rfl), (Nat.le_of_ble_eq_true rfl)⟩) hF hS hA (hP.sub [] rfl) rfl hl.1 rfl (Nat.le_of_ble_eq_true rfl) ⟨(Nat.le_of_ble_eq_true rfl), (Nat.le_of_ble_eq_true rfl)⟩ dX5_fits_5 ?_
  refine W.eq (g2 := F0 m 8 ls [.int (s_X5_cell (xStL 1) (xStV 1) p0), .int p1]) rfl ?_
  refine va_gets (C := RX5) hx hb ((hF.2.2.1 2 (by decide)).1.narrow hA) hS hown (hts (.fieldLink RX5 346 "RailOffsets" "FIELD_MOST" "[I") (by decide +kernel)) (fun _ h => h) dX5_fits_8 ?_
  refine lv_iload_n hx hb dX5_fits_11 rfl (lv_at hl 0 rfl) ?_
  refine xRoS (nL := 2) ⟨hx, hb, hml, hown, hts⟩ (c_X5_cell_st l E 2 (by decide) p0) (va_cwS 2 hts gX5_fits_X5_cell rfl rfl rfl hd_X5_cell ⟨(Nat.le_of_ble_eq_true rfl), (Nat.le_of_ble_eq_true rfl)⟩) hF hS hA (hP.sub [] rfl) rfl hl.1 rfl (Nat.le_of_ble_eq_true rfl) ⟨(Nat.le_of_ble_eq_true rfl), (Nat.le_of_ble_eq_true rfl)⟩ dX5_fits_12 ?_
  refine W.eq (g2 := F0 m 15 ls [.int (s_X5_cell (xStL 2) (xStV 2) p0), .int (s_X5_cell (xStL 1) (xStV 1) p0), .int p1]) rfl ?_
  refine xRoS (nL := 2) ⟨hx, hb, hml, hown, hts⟩ (c_X5_within l E p1 (s_X5_cell (xStL 1) (xStV 1) p0) (s_X5_cell (xStL 2) (xStV 2) p0)) (va_cwS 3 hts gX5_fits_X5_within rfl rfl rfl hd_X5_within ⟨(Nat.le_of_ble_eq_true rfl), (Nat.le_of_ble_eq_true rfl)⟩) hF hS hA (hP.sub [] rfl) rfl hl.1 rfl (Nat.le_of_ble_eq_true rfl) ⟨(Nat.le_of_ble_eq_true rfl), (Nat.le_of_ble_eq_true rfl)⟩ dX5_fits_15 ?_
  refine W.eq (g2 := F0 m 18 ls [.int (s_X5_within p1 (s_X5_cell (xStL 1) (xStV 1) p0) (s_X5_cell (xStL 2) (xStV 2) p0))]) rfl ?_
  have hR : s_X5_fits p0 p1 = s_X5_within p1 (s_X5_cell (xStL 1) (xStV 1) p0) (s_X5_cell (xStL 2) (xStV 2) p0) := hR
  exact W.zret (v := s_X5_within p1 (s_X5_cell (xStL 1) (xStV 1) p0) (s_X5_cell (xStL 2) (xStV 2) p0)) (ty := .boolean) hx hb hr (xnb (bs_X5_within ..)) (fun t ht _ => ⟨congrArg (fun z => Outcome.returned (some (Value.int z))) hR.symm, ht⟩) (fun _ h => by cases h) dX5_fits_18
def s_X2_has (u : xU) (p1 : Int32) : Int32 :=
  if p1 < 0 then
    0
  else
    if (u.2 1) ≤ p1 then
      0
    else
      1
abbrev rm_X2_has : Room := { frames := 0, cells := 0, slots := 0, locals := 0 }
set_option maxHeartbeats 8000000 in
set_option maxRecDepth 100000 in
theorem c_X2_has (l : Launch) (E : xG) (a : Nat → Nat) (u : xU) (p1 : Int32) : xRo l E yX2_has wsX2_has rm_X2_has [.ref (a 1), .int p1] (wX E a u) (some (.int (s_X2_has u p1))) := by
  refine xRo.of (cc := cX2_has) (maxL := 2) (ret := (some .boolean)) (by decide) rfl (Nat.le_of_ble_eq_true rfl) ?_
  intro p e s m below meth c ls hAt hF hP hS hl
  obtain ⟨hx, hb, hr, hml, hown, hts, hlocks, -⟩ := hAt
  have hown : s.vm.findClass RX2 = some m.cls := hown
  have hl : lv_has ls 2 [(0, .ref (a 1)), (1, .int p1)] := hl
  have hK := hF.1
  have hA : ∀ q : Nat, (fun _ => False) q → xA0 E q := fun _ h => h.elim
  change W p l e rm_X2_has s m ([.ref (a 1), .int p1] : List Value).toArray below meth c s.heap [] 0 0 (xQro below (some (.int (s_X2_has u p1))) ([.ref (a 1), .int p1] : List Value).toArray s) _
  have hR : s_X2_has u p1 = s_X2_has u p1 := rfl
  refine lv_iload_n hx hb dX2_has_0 rfl (lv_at hl 1 rfl) ?_
  refine lv_if_lt (tgt := 16) hx hb dX2_has_1 rfl (fun q1 => ?_) (fun q1 => ?_)
  · have hR := hR.trans (if_pos q1)
    refine lv_iconst (v := 0) hx hb dX2_has_16 rfl ?_
    have hR : s_X2_has u p1 = 0 := hR
    exact W.zret (v := 0) (ty := .boolean) hx hb hr (xnb (Or.inl rfl)) (fun t ht _ => ⟨congrArg (fun z => Outcome.returned (some (Value.int z))) hR.symm, ht⟩) (fun _ h => by cases h) dX2_has_17
  · have hR := hR.trans (if_neg q1)
    refine lv_iload_n hx hb dX2_has_4 rfl (lv_at hl 1 rfl) ?_
    refine lv_aload_n hx hb dX2_has_5 rfl (lv_at hl 0 rfl) ?_
    refine va_get (D := xD E) (ci := 2) (v := .int (u.2 1)) (C := RX2) (T := TX2) (N := 2) hx hb hts (by decide +kernel) hown hK hP 1 rfl rfl 1 (by decide) (hts (.fieldLink RX2 15 "RailOffsets$Pieces" "size" "I") (by decide +kernel)) (fun _ h => h) rfl dX2_has_6 ?_
    refine lv_icmp_ge (tgt := 16) hx hb dX2_has_9 rfl (fun q2 => ?_) (fun q2 => ?_)
    · have hR := hR.trans (if_pos q2)
      refine lv_iconst (v := 0) hx hb dX2_has_16 rfl ?_
      have hR : s_X2_has u p1 = 0 := hR
      exact W.zret (v := 0) (ty := .boolean) hx hb hr (xnb (Or.inl rfl)) (fun t ht _ => ⟨congrArg (fun z => Outcome.returned (some (Value.int z))) hR.symm, ht⟩) (fun _ h => by cases h) dX2_has_17
    · have hR := hR.trans (if_neg q2)
      refine lv_iconst (v := 1) hx hb dX2_has_12 rfl ?_
      refine lv_goto (tgt := 17) hx hb dX2_has_13 rfl ?_
      have hR : s_X2_has u p1 = 1 := hR
      exact W.zret (v := 1) (ty := .boolean) hx hb hr (xnb (Or.inr rfl)) (fun t ht _ => ⟨congrArg (fun z => Outcome.returned (some (Value.int z))) hR.symm, ht⟩) (fun _ h => by cases h) dX2_has_17
def s_X2_read (u : xU) (p1 : Int32) (p2 : Int32) : Int32 :=
  if p1 < 0 then
    0
  else
    if p1 < (u.2 1) then
      s_X5_cell 40 (u.1 2) ((p1 * 4) + p2)
    else
      0
abbrev rm_X2_read : Room := { frames := 1, cells := 0, slots := 0, locals := 21 }
set_option maxHeartbeats 8000000 in
set_option maxRecDepth 100000 in
theorem c_X2_read (l : Launch) (E : xG) (a : Nat → Nat) (u : xU) (p1 : Int32) (p2 : Int32) : xRo l E yX2_read wsX2_read rm_X2_read [.ref (a 1), .int p1, .int p2] (wX E a u) (some (.int (s_X2_read u p1 p2))) := by
  refine xRo.of (cc := cX2_read) (maxL := 3) (ret := (some .int)) (by decide) rfl (Nat.le_of_ble_eq_true rfl) ?_
  intro p e s m below meth c ls hAt hF hP hS hl
  obtain ⟨hx, hb, hr, hml, hown, hts, hlocks, -⟩ := hAt
  have hown : s.vm.findClass RX2 = some m.cls := hown
  have hl : lv_has ls 3 [(0, .ref (a 1)), (1, .int p1), (2, .int p2)] := hl
  have hK := hF.1
  have hA : ∀ q : Nat, (fun _ => False) q → xA0 E q := fun _ h => h.elim
  change W p l e rm_X2_read s m ([.ref (a 1), .int p1, .int p2] : List Value).toArray below meth c s.heap [] 0 0 (xQro below (some (.int (s_X2_read u p1 p2))) ([.ref (a 1), .int p1, .int p2] : List Value).toArray s) _
  have hR : s_X2_read u p1 p2 = s_X2_read u p1 p2 := rfl
  refine lv_iload_n hx hb dX2_read_0 rfl (lv_at hl 1 rfl) ?_
  refine lv_if_lt (tgt := 12) hx hb dX2_read_1 rfl (fun q1 => ?_) (fun q1 => ?_)
  · have hR := hR.trans (if_pos q1)
    refine lv_iconst (v := 0) hx hb dX2_read_12 rfl ?_
    have hR : s_X2_read u p1 p2 = 0 := hR
    exact W.iret (v := 0) hx hb hr (fun t ht _ => ⟨congrArg (fun z => Outcome.returned (some (Value.int z))) hR.symm, ht⟩) (fun _ h => by cases h) dX2_read_13
  · have hR := hR.trans (if_neg q1)
    refine lv_iload_n hx hb dX2_read_4 rfl (lv_at hl 1 rfl) ?_
    refine lv_aload_n hx hb dX2_read_5 rfl (lv_at hl 0 rfl) ?_
    refine va_get (D := xD E) (ci := 2) (v := .int (u.2 1)) (C := RX2) (T := TX2) (N := 2) hx hb hts (by decide +kernel) hown hK hP 1 rfl rfl 1 (by decide) (hts (.fieldLink RX2 15 "RailOffsets$Pieces" "size" "I") (by decide +kernel)) (fun _ h => h) rfl dX2_read_6 ?_
    refine lv_icmp_lt (tgt := 14) hx hb dX2_read_9 rfl (fun q2 => ?_) (fun q2 => ?_)
    · have hR := hR.trans (if_pos q2)
      refine lv_aload_n hx hb dX2_read_14 rfl (lv_at hl 0 rfl) ?_
      refine va_get (D := xD E) (ci := 2) (v := .ref (a 2)) (C := RX2) (T := TX2) (N := 2) hx hb hts (by decide +kernel) hown hK hP 1 rfl rfl 0 (by decide) (hts (.fieldLink RX2 9 "RailOffsets$Pieces" "values" "[I") (by decide +kernel)) (fun _ h => h) rfl dX2_read_15 ?_
      refine lv_iload_n hx hb dX2_read_18 rfl (lv_at hl 1 rfl) ?_
      refine lv_iconst (v := 4) hx hb dX2_read_19 rfl ?_
      refine lv_imul hx hb dX2_read_20 ?_
      refine lv_iload_n hx hb dX2_read_21 rfl (lv_at hl 2 rfl) ?_
      refine lv_iadd hx hb dX2_read_22 ?_
      refine xRoSN (nL := 3) ⟨hx, hb, hml, hown, hts⟩ (c_X5_cell l E (a 2) 40 (u.1 2) ((p1 * 4) + p2)) ⟨va_cnB (own := RX2) (host := RX5) (index := 19) (y := yX5_cell) 2 hts gX2_read_X5_cell_n19 rfl rfl rfl (hF.2.1.1 (RX2, 19, yX5_cell) (List.mem_of_getElem? (i := 2) rfl)) (hts (.initialized RX5) (by decide +kernel)) hd_X5_cell ⟨(Nat.le_of_ble_eq_true rfl), (Nat.le_of_ble_eq_true rfl)⟩, hts (.static yX5_cell) (by decide +kernel), trivial⟩ hF hS hA (hP.sub [2] rfl) rfl hl.1 rfl (Nat.le_of_ble_eq_true rfl) ⟨(Nat.le_of_ble_eq_true rfl), (Nat.le_of_ble_eq_true rfl)⟩ dX2_read_23 ?_
      refine W.eq (g2 := F0 m 26 ls [.int (s_X5_cell 40 (u.1 2) ((p1 * 4) + p2))]) rfl ?_
      have hR : s_X2_read u p1 p2 = s_X5_cell 40 (u.1 2) ((p1 * 4) + p2) := hR
      exact W.iret (v := s_X5_cell 40 (u.1 2) ((p1 * 4) + p2)) hx hb hr (fun t ht _ => ⟨congrArg (fun z => Outcome.returned (some (Value.int z))) hR.symm, ht⟩) (fun _ h => by cases h) dX2_read_26
    · have hR := hR.trans (if_neg q2)
      refine lv_iconst (v := 0) hx hb dX2_read_12 rfl ?_
      have hR : s_X2_read u p1 p2 = 0 := hR
      exact W.iret (v := 0) hx hb hr (fun t ht _ => ⟨congrArg (fun z => Outcome.returned (some (Value.int z))) hR.symm, ht⟩) (fun _ h => by cases h) dX2_read_13
def s_X2_write (u : xU) (p1 : Int32) (p2 : Int32) (p3 : Int32) : xU :=
  if (s_X2_has u p1) = 0 then
    u
  else
    uR u 2 (s_X5_mark 40 (u.1 2) ((p1 * 4) + p2) p3)
abbrev rm_X2_write : Room := { frames := 1, cells := 0, slots := 0, locals := 22 }
set_option maxHeartbeats 8000000 in
set_option maxRecDepth 100000 in
theorem c_X2_write (l : Launch) (E : xG) (a : Nat → Nat) (u : xU) (p1 : Int32) (p2 : Int32) (p3 : Int32) (hL : xOK E (LX a)) : xMd l E yX2_write wsX2_write rm_X2_write (LX a) [.ref (a 1), .int p1, .int p2, .int p3] (wX E a u) (none) (wX E a (s_X2_write u p1 p2 p3)) := by
  refine xMd.of (cc := cX2_write) (maxL := 4) (ret := none) (by decide) rfl (Nat.le_of_ble_eq_true rfl) ?_
  intro p e s m below meth c ls hAt hF hP hS hl
  obtain ⟨hx, hb, hr, hml, hown, hts, hlocks, -⟩ := hAt
  have hown : s.vm.findClass RX2 = some m.cls := hown
  have hl : lv_has ls 4 [(0, .ref (a 1)), (1, .int p1), (2, .int p2), (3, .int p3)] := hl
  have hK := hF.1
  have hA := hL.2
  change W p l e rm_X2_write s m ([.ref (a 1), .int p1, .int p2, .int p3] : List Value).toArray below meth c s.heap [] 0 0 (xQmd E below (LX a) (none) (wX E a (s_X2_write u p1 p2 p3)) ([.ref (a 1), .int p1, .int p2, .int p3] : List Value).toArray s) _
  have hS : va_S (· ∈ LX a) s.heap s.heap [] := hS
  have hR : s_X2_write u p1 p2 p3 = s_X2_write u p1 p2 p3 := rfl
  refine lv_aload_n hx hb dX2_write_0 rfl (lv_at hl 0 rfl) ?_
  refine lv_iload_n hx hb dX2_write_1 rfl (lv_at hl 1 rfl) ?_
  refine xRoV (nL := 4) ⟨hx, hb, hml, hown, hts⟩ (c_X2_has l E a u p1) (cwV 1 hts gX2_write_X2_has rfl rfl rfl ⟨rfl, hd_X2_has⟩ ⟨(Nat.le_of_ble_eq_true rfl), (Nat.le_of_ble_eq_true rfl)⟩) hF hS hA hP (va_recv (q := (RX2, TX2, 2)) hK hP (ci := 2) rfl (q0 := 1) rfl) rfl hl.1 rfl (Nat.le_of_ble_eq_true rfl) ⟨(Nat.le_of_ble_eq_true rfl), (Nat.le_of_ble_eq_true rfl)⟩ dX2_write_2 ?_
  refine W.eq (g2 := F0 m 5 ls [.int (s_X2_has u p1)]) rfl ?_
  refine lv_if_eq (tgt := 21) hx hb dX2_write_5 rfl (fun q1 => ?_) (fun q1 => ?_)
  · have hR := hR.trans (if_pos q1)
    have hR : s_X2_write u p1 p2 p3 = u := hR
    exact W.vret hx hb hr (fun t ht _ => by rw [hR]; exact ⟨⟨rfl, by rw [ht]; exact hP⟩, hS.F ht⟩) hS.2.2 dX2_write_21
  · have hR := hR.trans (if_neg q1)
    refine lv_aload_n hx hb dX2_write_8 rfl (lv_at hl 0 rfl) ?_
    refine va_get (D := xD E) (ci := 2) (v := .ref (a 2)) (C := RX2) (T := TX2) (N := 2) hx hb hts (by decide +kernel) hown hK hP 1 rfl rfl 0 (by decide) (hts (.fieldLink RX2 9 "RailOffsets$Pieces" "values" "[I") (by decide +kernel)) (fun _ h => h) rfl dX2_write_9 ?_
    refine lv_iload_n hx hb dX2_write_12 rfl (lv_at hl 1 rfl) ?_
    refine lv_iconst (v := 4) hx hb dX2_write_13 rfl ?_
    refine lv_imul hx hb dX2_write_14 ?_
    refine lv_iload_n hx hb dX2_write_15 rfl (lv_at hl 2 rfl) ?_
    refine lv_iadd hx hb dX2_write_16 ?_
    refine lv_iload_n hx hb dX2_write_17 rfl (lv_at hl 3 rfl) ?_
    refine xMdSN (nL := 4) ⟨hx, hb, hml, hown, hts⟩ (c_X5_mark l E (a 2) 40 (u.1 2) ((p1 * 4) + p2) p3 (hL.2 _ (List.mem_of_getElem? (i := 2) rfl))) ⟨va_cnB (own := RX2) (host := RX5) (index := 27) (y := yX5_mark) 3 hts gX2_write_X5_mark_n27 rfl rfl rfl (hF.2.1.1 (RX2, 27, yX5_mark) (List.mem_of_getElem? (i := 0) rfl)) (hts (.initialized RX5) (by decide +kernel)) hd_X5_mark ⟨(Nat.le_of_ble_eq_true rfl), (Nat.le_of_ble_eq_true rfl)⟩, hts (.static yX5_mark) (by decide +kernel), trivial⟩ hF hS hL.2 (xsub1 (List.mem_of_getElem? (i := 2) rfl)) (hP.sub [2] rfl) rfl hl.1 rfl (Nat.le_of_ble_eq_true rfl) ⟨(Nat.le_of_ble_eq_true rfl), (Nat.le_of_ble_eq_true rfl)⟩ dX2_write_18 (fun H1 locs hP1 hk hS => ?_)
    have hP : va_P (xD E) vwCl (wX E a (uR u 2 (s_X5_mark 40 (u.1 2) ((p1 * 4) + p2) p3))) H1 := xset1 hP (xD_of (ws := wX E a u) (A := (· ∈ LX a)) hL.1 (fun _ h => h)) (p := 2) rfl hP1 hk
    generalize H1 = H at hP hS ⊢
    refine W.eq (g2 := F0 m 21 ls []) rfl ?_
    have hR : s_X2_write u p1 p2 p3 = uR u 2 (s_X5_mark 40 (u.1 2) ((p1 * 4) + p2) p3) := hR
    exact W.vret hx hb hr (fun t ht _ => by rw [hR]; exact ⟨⟨rfl, by rw [ht]; exact hP⟩, hS.F ht⟩) hS.2.2 dX2_write_21
def s_X2_same_L2 : Nat → xU → Int32 → Int32 → Int32 → Int32
  | 0, _, _, _, _ => 0
  | n + 1, u, x1, x2, x3 =>
    if 4 ≤ x3 then
      1
    else
      if (s_X2_read u x1 x3) = (s_X2_read u x2 x3) then
        s_X2_same_L2 n u x1 x2 (x3 + 1)
      else
        0
def s_X2_same (u : xU) (p1 : Int32) (p2 : Int32) : Int32 :=
  s_X2_same_L2 (((4 : Int32).toInt - (0 : Int32).toInt).toNat + 1) u p1 p2 0
abbrev rm_X2_same : Room := { frames := 2, cells := 0, slots := 0, locals := 43 }
set_option maxHeartbeats 8000000 in
set_option maxRecDepth 100000 in
theorem c_X2_same (l : Launch) (E : xG) (a : Nat → Nat) (u : xU) (p1 : Int32) (p2 : Int32) : xRo l E yX2_same wsX2_same rm_X2_same [.ref (a 1), .int p1, .int p2] (wX E a u) (some (.int (s_X2_same u p1 p2))) := by
  refine xRo.of (cc := cX2_same) (maxL := 4) (ret := (some .boolean)) (by decide) rfl (Nat.le_of_ble_eq_true rfl) ?_
  intro p e s m below meth c ls hAt hF hP hS hl
  obtain ⟨hx, hb, hr, hml, hown, hts, hlocks, -⟩ := hAt
  have hown : s.vm.findClass RX2 = some m.cls := hown
  have hl : lv_has ls 4 [(0, .ref (a 1)), (1, .int p1), (2, .int p2)] := hl
  have hK := hF.1
  have hA : ∀ q : Nat, (fun _ => False) q → xA0 E q := fun _ h => h.elim
  change W p l e rm_X2_same s m ([.ref (a 1), .int p1, .int p2] : List Value).toArray below meth c s.heap [] 0 0 (xQro below (some (.int (s_X2_same u p1 p2))) ([.ref (a 1), .int p1, .int p2] : List Value).toArray s) _
  have hR : s_X2_same u p1 p2 = s_X2_same u p1 p2 := rfl
  refine lv_iconst (v := 0) hx hb dX2_same_0 rfl ?_
  refine lv_istore_n (lv' := [(3, .int 0), (0, .ref (a 1)), (1, .int p1), (2, .int p2)]) hx hb dX2_same_1 rfl hl (by decide) rfl (fun ls hl => ?_)
  have L2 : ∀ (n2 : Nat) (x3 : Int32) (ls : Array Slot), ((4 : Int32).toInt - x3.toInt).toNat < n2 → s_X2_same u p1 p2 = s_X2_same_L2 n2 u p1 p2 x3 → lv_has ls 4 [(3, .int x3), (0, .ref (a 1)), (1, .int p1), (2, .int p2)] → W p l e rm_X2_same s m ([.ref (a 1), .int p1, .int p2] : List Value).toArray below meth c s.heap [] 0 0 (xQro below (some (.int (s_X2_same u p1 p2))) ([.ref (a 1), .int p1, .int p2] : List Value).toArray s) (F0 m 2 ls []) := by
    intro n2
    induction n2 with
    | zero => intro x3 ls hM2 hR hl; exact absurd hM2 (Nat.not_lt_zero _)
    | succ n2 ih2 =>
      intro x3 ls hM2 hR hl
      refine lv_iload_n hx hb dX2_same_2 rfl (lv_at hl 0 rfl) ?_
      refine lv_iconst (v := 4) hx hb dX2_same_3 rfl ?_
      refine lv_icmp_ge (tgt := 30) hx hb dX2_same_4 rfl (fun q1 => ?_) (fun q1 => ?_)
      · have hR := hR.trans (if_pos q1)
        refine lv_iconst (v := 1) hx hb dX2_same_30 rfl ?_
        have hR : s_X2_same u p1 p2 = 1 := hR
        exact W.zret (v := 1) (ty := .boolean) hx hb hr (xnb (Or.inr rfl)) (fun t ht _ => ⟨congrArg (fun z => Outcome.returned (some (Value.int z))) hR.symm, ht⟩) (fun _ h => by cases h) dX2_same_31
      · have hR := hR.trans (if_neg q1)
        refine lv_aload_n hx hb dX2_same_7 rfl (lv_at hl 1 rfl) ?_
        refine lv_iload_n hx hb dX2_same_8 rfl (lv_at hl 2 rfl) ?_
        refine lv_iload_n hx hb dX2_same_9 rfl (lv_at hl 0 rfl) ?_
        refine xRoV (nL := 4) ⟨hx, hb, hml, hown, hts⟩ (c_X2_read l E a u p1 x3) (cwV 2 hts gX2_same_X2_read rfl rfl rfl ⟨rfl, hd_X2_read⟩ ⟨(Nat.le_of_ble_eq_true rfl), (Nat.le_of_ble_eq_true rfl)⟩) hF hS hA hP (va_recv (q := (RX2, TX2, 2)) hK hP (ci := 2) rfl (q0 := 1) rfl) rfl hl.1 rfl (Nat.le_of_ble_eq_true rfl) ⟨(Nat.le_of_ble_eq_true rfl), (Nat.le_of_ble_eq_true rfl)⟩ dX2_same_10 ?_
        refine W.eq (g2 := F0 m 13 ls [.int (s_X2_read u p1 x3)]) rfl ?_
        refine lv_aload_n hx hb dX2_same_13 rfl (lv_at hl 1 rfl) ?_
        refine lv_iload_n hx hb dX2_same_14 rfl (lv_at hl 3 rfl) ?_
        refine lv_iload_n hx hb dX2_same_15 rfl (lv_at hl 0 rfl) ?_
        refine xRoV (nL := 4) ⟨hx, hb, hml, hown, hts⟩ (c_X2_read l E a u p2 x3) (cwV 2 hts gX2_same_X2_read rfl rfl rfl ⟨rfl, hd_X2_read⟩ ⟨(Nat.le_of_ble_eq_true rfl), (Nat.le_of_ble_eq_true rfl)⟩) hF hS hA hP (va_recv (q := (RX2, TX2, 2)) hK hP (ci := 2) rfl (q0 := 1) rfl) rfl hl.1 rfl (Nat.le_of_ble_eq_true rfl) ⟨(Nat.le_of_ble_eq_true rfl), (Nat.le_of_ble_eq_true rfl)⟩ dX2_same_16 ?_
        refine W.eq (g2 := F0 m 19 ls [.int (s_X2_read u p2 x3), .int (s_X2_read u p1 x3)]) rfl ?_
        refine lv_icmp_eq (tgt := 24) hx hb dX2_same_19 rfl (fun q2 => ?_) (fun q2 => ?_)
        · have hR := hR.trans (if_pos q2)
          refine lv_iinc (k := 0) (v := x3 + 1) (lv' := [(3, .int (x3 + 1)), (0, .ref (a 1)), (1, .int p1), (2, .int p2)]) hx hb dX2_same_24 hl rfl rfl (by decide) rfl (fun ls hl => ?_)
          refine lv_goto (tgt := 2) hx hb dX2_same_27 rfl ?_
          exact ih2 (x3 + 1) _ (Nat.lt_of_lt_of_le (xupc q1) (Nat.le_of_lt_succ hM2)) hR (lv_sub hl [0, 1, 2, 3] rfl)
        · have hR := hR.trans (if_neg q2)
          refine lv_iconst (v := 0) hx hb dX2_same_22 rfl ?_
          have hR : s_X2_same u p1 p2 = 0 := hR
          exact W.zret (v := 0) (ty := .boolean) hx hb hr (xnb (Or.inl rfl)) (fun t ht _ => ⟨congrArg (fun z => Outcome.returned (some (Value.int z))) hR.symm, ht⟩) (fun _ h => by cases h) dX2_same_23
  exact L2 (((4 : Int32).toInt - (0 : Int32).toInt).toNat + 1) 0 ls (Nat.lt_succ_self _) hR hl
def s_X2_takeFrom_k (u : xU) : xU :=
  uZ (uR u 4 (va_cpy (u.1 2) (u.1 4) (0 : Int32).toNatClampNeg (0 : Int32).toNatClampNeg (iMin 40 40).toNatClampNeg)) 2 ((uR u 4 (va_cpy (u.1 2) (u.1 4) (0 : Int32).toNatClampNeg (0 : Int32).toNatClampNeg (iMin 40 40).toNatClampNeg)).2 1)
abbrev rm_X2_takeFrom_k : Room := { frames := 1, cells := 0, slots := 0, locals := 40 }
set_option maxHeartbeats 8000000 in
set_option maxRecDepth 100000 in
theorem c_X2_takeFrom_k (l : Launch) (E : xG) (a : Nat → Nat) (u : xU)  (hL : xOK E (LX a)) : xMd l E yX2_takeFrom wsX2_takeFrom rm_X2_takeFrom_k (LX a) [.ref (a 3), .ref (a 1)] (wX E a u) (none) (wX E a (s_X2_takeFrom_k u)) := by
  refine xMd.of (cc := cX2_takeFrom) (maxL := 2) (ret := none) (by decide) rfl (Nat.le_of_ble_eq_true rfl) ?_
  intro p e s m below meth c ls hAt hF hP hS hl
  obtain ⟨hx, hb, hr, hml, hown, hts, hlocks, -⟩ := hAt
  have hown : s.vm.findClass RX2 = some m.cls := hown
  have hl : lv_has ls 2 [(0, .ref (a 3)), (1, .ref (a 1))] := hl
  have hK := hF.1
  have hA := hL.2
  change W p l e rm_X2_takeFrom_k s m ([.ref (a 3), .ref (a 1)] : List Value).toArray below meth c s.heap [] 0 0 (xQmd E below (LX a) (none) (wX E a (s_X2_takeFrom_k u)) ([.ref (a 3), .ref (a 1)] : List Value).toArray s) _
  have hS : va_S (· ∈ LX a) s.heap s.heap [] := hS
  have hR : s_X2_takeFrom_k u = s_X2_takeFrom_k u := rfl
  refine lv_aload_n hx hb dX2_takeFrom_0 rfl (lv_at hl 1 rfl) ?_
  refine va_get (D := xD E) (ci := 2) (v := .ref (a 2)) (C := RX2) (T := TX2) (N := 2) hx hb hts (by decide +kernel) hown hK hP 1 rfl rfl 0 (by decide) (hts (.fieldLink RX2 9 "RailOffsets$Pieces" "values" "[I") (by decide +kernel)) (fun _ h => h) rfl dX2_takeFrom_1 ?_
  refine lv_iconst (v := 0) hx hb dX2_takeFrom_4 rfl ?_
  refine lv_aload_n hx hb dX2_takeFrom_5 rfl (lv_at hl 0 rfl) ?_
  refine va_get (D := xD E) (ci := 2) (v := .ref (a 4)) (C := RX2) (T := TX2) (N := 2) hx hb hts (by decide +kernel) hown hK hP 3 rfl rfl 0 (by decide) (hts (.fieldLink RX2 9 "RailOffsets$Pieces" "values" "[I") (by decide +kernel)) (fun _ h => h) rfl dX2_takeFrom_6 ?_
  refine lv_iconst (v := 0) hx hb dX2_takeFrom_9 rfl ?_
  refine lv_aload_n hx hb dX2_takeFrom_10 rfl (lv_at hl 0 rfl) ?_
  refine va_get (D := xD E) (ci := 2) (v := .ref (a 4)) (C := RX2) (T := TX2) (N := 2) hx hb hts (by decide +kernel) hown hK hP 3 rfl rfl 0 (by decide) (hts (.fieldLink RX2 9 "RailOffsets$Pieces" "values" "[I") (by decide +kernel)) (fun _ h => h) rfl dX2_takeFrom_11 ?_
  refine va_alen (v := 40) hx hb hK hP 4 0 rfl rfl rfl dX2_takeFrom_14 ?_
  refine lv_aload_n hx hb dX2_takeFrom_15 rfl (lv_at hl 1 rfl) ?_
  refine va_get (D := xD E) (ci := 2) (v := .ref (a 2)) (C := RX2) (T := TX2) (N := 2) hx hb hts (by decide +kernel) hown hK hP 1 rfl rfl 0 (by decide) (hts (.fieldLink RX2 9 "RailOffsets$Pieces" "values" "[I") (by decide +kernel)) (fun _ h => h) rfl dX2_takeFrom_16 ?_
  refine va_alen (v := 40) hx hb hK hP 2 0 rfl rfl rfl dX2_takeFrom_19 ?_
  refine va_mmin hx hb (hml.trans hl.1.symm) hown (hts (.methodLink RX2 35 Lib.Math.min.name) (by decide +kernel)) (hts (.static Lib.Math.min.name) (by decide +kernel)) (hts (.initialized "java/lang/Math") (by decide +kernel)) (hts (.code Lib.Math.min.name Lib.Math.min.code 2 (some .int)) (by decide +kernel)) (Nat.le_of_ble_eq_true rfl) (Nat.le_of_ble_eq_true rfl) (Nat.le_of_ble_eq_true rfl) (Nat.le_of_ble_eq_true rfl) dX2_takeFrom_20 ?_
  refine W.eq (g2 := F0 m 23 ls [.int (iMin 40 40), .int 0, .ref (a 4), .int 0, .ref (a 2)]) rfl ?_
  refine va_copyi (ty := .int) hx hb (hml.trans hl.1.symm) hown (hts (.methodLink RX2 40 arraycopyName) (by decide +kernel)) (hts (.native arraycopyName) (by decide +kernel)) (hts (.static arraycopyName) (by decide +kernel)) (hts (.initialized "java/lang/System") (by decide +kernel)) hK hP (xD_of (ws := wX E a u) (A := (· ∈ LX a)) hL.1 (fun _ h => h)) hS 2 4 0 0 rfl rfl rfl rfl rfl (by decide) (by decide) (by decide) (by decide) (by decide) (fun _ _ => rfl) (Nat.le_of_ble_eq_true rfl) (Nat.le_of_ble_eq_true rfl) dX2_takeFrom_23 (fun H locs hP _ hS => ?_)
  have hP : va_P (xD E) vwCl (wX E a (uR u 4 (va_cpy (u.1 2) (u.1 4) (0 : Int32).toNatClampNeg (0 : Int32).toNatClampNeg (iMin 40 40).toNatClampNeg))) H := hP
  refine W.eq (g2 := F0 m 26 ls []) rfl ?_
  refine lv_aload_n hx hb dX2_takeFrom_26 rfl (lv_at hl 0 rfl) ?_
  refine lv_aload_n hx hb dX2_takeFrom_27 rfl (lv_at hl 1 rfl) ?_
  refine va_get (D := xD E) (ci := 2) (v := .int ((uR u 4 (va_cpy (u.1 2) (u.1 4) (0 : Int32).toNatClampNeg (0 : Int32).toNatClampNeg (iMin 40 40).toNatClampNeg)).2 1)) (C := RX2) (T := TX2) (N := 2) hx hb hts (by decide +kernel) hown hK hP 1 rfl rfl 1 (by decide) (hts (.fieldLink RX2 15 "RailOffsets$Pieces" "size" "I") (by decide +kernel)) (fun _ h => h) rfl dX2_takeFrom_28 ?_
  refine va_put (D := xD E) (ci := 2) (v := .int ((uR u 4 (va_cpy (u.1 2) (u.1 4) (0 : Int32).toNatClampNeg (0 : Int32).toNatClampNeg (iMin 40 40).toNatClampNeg)).2 1)) (ty := .int) (C := RX2) (T := TX2) (N := 2) hx hb hts (by decide +kernel) tyX2 tyX2_ok nmX2 hown hK hP (xD_of (ws := wX E a (uR u 4 (va_cpy (u.1 2) (u.1 4) (0 : Int32).toNatClampNeg (0 : Int32).toNatClampNeg (iMin 40 40).toNatClampNeg))) (A := (· ∈ LX a)) hL.1 (fun _ h => h)) hS 3 rfl rfl 1 (by decide) (hts (.fieldLink RX2 15 "RailOffsets$Pieces" "size" "I") (by decide +kernel)) (fun _ h => h) rfl (by decide +kernel) rfl rfl (Nat.le_of_ble_eq_true rfl) dX2_takeFrom_31 (fun H locs hP _ hS => ?_)
  have hP : va_P (xD E) vwCl (wX E a (uZ (uR u 4 (va_cpy (u.1 2) (u.1 4) (0 : Int32).toNatClampNeg (0 : Int32).toNatClampNeg (iMin 40 40).toNatClampNeg)) 2 ((uR u 4 (va_cpy (u.1 2) (u.1 4) (0 : Int32).toNatClampNeg (0 : Int32).toNatClampNeg (iMin 40 40).toNatClampNeg)).2 1))) H := hP
  have hR : s_X2_takeFrom_k u = uZ (uR u 4 (va_cpy (u.1 2) (u.1 4) (0 : Int32).toNatClampNeg (0 : Int32).toNatClampNeg (iMin 40 40).toNatClampNeg)) 2 ((uR u 4 (va_cpy (u.1 2) (u.1 4) (0 : Int32).toNatClampNeg (0 : Int32).toNatClampNeg (iMin 40 40).toNatClampNeg)).2 1) := hR
  exact W.vret hx hb hr (fun t ht _ => by rw [hR]; exact ⟨⟨rfl, by rw [ht]; exact hP⟩, hS.F ht⟩) hS.2.2 dX2_takeFrom_34
def s_X2_takeFrom_b (u : xU) : xU :=
  uZ (uR u 2 (va_cpy (u.1 4) (u.1 2) (0 : Int32).toNatClampNeg (0 : Int32).toNatClampNeg (iMin 40 40).toNatClampNeg)) 1 ((uR u 2 (va_cpy (u.1 4) (u.1 2) (0 : Int32).toNatClampNeg (0 : Int32).toNatClampNeg (iMin 40 40).toNatClampNeg)).2 2)
abbrev rm_X2_takeFrom_b : Room := { frames := 1, cells := 0, slots := 0, locals := 40 }
set_option maxHeartbeats 8000000 in
set_option maxRecDepth 100000 in
theorem c_X2_takeFrom_b (l : Launch) (E : xG) (a : Nat → Nat) (u : xU)  (hL : xOK E (LX a)) : xMd l E yX2_takeFrom wsX2_takeFrom rm_X2_takeFrom_b (LX a) [.ref (a 1), .ref (a 3)] (wX E a u) (none) (wX E a (s_X2_takeFrom_b u)) := by
  refine xMd.of (cc := cX2_takeFrom) (maxL := 2) (ret := none) (by decide) rfl (Nat.le_of_ble_eq_true rfl) ?_
  intro p e s m below meth c ls hAt hF hP hS hl
  obtain ⟨hx, hb, hr, hml, hown, hts, hlocks, -⟩ := hAt
  have hown : s.vm.findClass RX2 = some m.cls := hown
  have hl : lv_has ls 2 [(0, .ref (a 1)), (1, .ref (a 3))] := hl
  have hK := hF.1
  have hA := hL.2
  change W p l e rm_X2_takeFrom_b s m ([.ref (a 1), .ref (a 3)] : List Value).toArray below meth c s.heap [] 0 0 (xQmd E below (LX a) (none) (wX E a (s_X2_takeFrom_b u)) ([.ref (a 1), .ref (a 3)] : List Value).toArray s) _
  have hS : va_S (· ∈ LX a) s.heap s.heap [] := hS
  have hR : s_X2_takeFrom_b u = s_X2_takeFrom_b u := rfl
  refine lv_aload_n hx hb dX2_takeFrom_0 rfl (lv_at hl 1 rfl) ?_
  refine va_get (D := xD E) (ci := 2) (v := .ref (a 4)) (C := RX2) (T := TX2) (N := 2) hx hb hts (by decide +kernel) hown hK hP 3 rfl rfl 0 (by decide) (hts (.fieldLink RX2 9 "RailOffsets$Pieces" "values" "[I") (by decide +kernel)) (fun _ h => h) rfl dX2_takeFrom_1 ?_
  refine lv_iconst (v := 0) hx hb dX2_takeFrom_4 rfl ?_
  refine lv_aload_n hx hb dX2_takeFrom_5 rfl (lv_at hl 0 rfl) ?_
  refine va_get (D := xD E) (ci := 2) (v := .ref (a 2)) (C := RX2) (T := TX2) (N := 2) hx hb hts (by decide +kernel) hown hK hP 1 rfl rfl 0 (by decide) (hts (.fieldLink RX2 9 "RailOffsets$Pieces" "values" "[I") (by decide +kernel)) (fun _ h => h) rfl dX2_takeFrom_6 ?_
  refine lv_iconst (v := 0) hx hb dX2_takeFrom_9 rfl ?_
  refine lv_aload_n hx hb dX2_takeFrom_10 rfl (lv_at hl 0 rfl) ?_
  refine va_get (D := xD E) (ci := 2) (v := .ref (a 2)) (C := RX2) (T := TX2) (N := 2) hx hb hts (by decide +kernel) hown hK hP 1 rfl rfl 0 (by decide) (hts (.fieldLink RX2 9 "RailOffsets$Pieces" "values" "[I") (by decide +kernel)) (fun _ h => h) rfl dX2_takeFrom_11 ?_
  refine va_alen (v := 40) hx hb hK hP 2 0 rfl rfl rfl dX2_takeFrom_14 ?_
  refine lv_aload_n hx hb dX2_takeFrom_15 rfl (lv_at hl 1 rfl) ?_
  refine va_get (D := xD E) (ci := 2) (v := .ref (a 4)) (C := RX2) (T := TX2) (N := 2) hx hb hts (by decide +kernel) hown hK hP 3 rfl rfl 0 (by decide) (hts (.fieldLink RX2 9 "RailOffsets$Pieces" "values" "[I") (by decide +kernel)) (fun _ h => h) rfl dX2_takeFrom_16 ?_
  refine va_alen (v := 40) hx hb hK hP 4 0 rfl rfl rfl dX2_takeFrom_19 ?_
  refine va_mmin hx hb (hml.trans hl.1.symm) hown (hts (.methodLink RX2 35 Lib.Math.min.name) (by decide +kernel)) (hts (.static Lib.Math.min.name) (by decide +kernel)) (hts (.initialized "java/lang/Math") (by decide +kernel)) (hts (.code Lib.Math.min.name Lib.Math.min.code 2 (some .int)) (by decide +kernel)) (Nat.le_of_ble_eq_true rfl) (Nat.le_of_ble_eq_true rfl) (Nat.le_of_ble_eq_true rfl) (Nat.le_of_ble_eq_true rfl) dX2_takeFrom_20 ?_
  refine W.eq (g2 := F0 m 23 ls [.int (iMin 40 40), .int 0, .ref (a 2), .int 0, .ref (a 4)]) rfl ?_
  refine va_copyi (ty := .int) hx hb (hml.trans hl.1.symm) hown (hts (.methodLink RX2 40 arraycopyName) (by decide +kernel)) (hts (.native arraycopyName) (by decide +kernel)) (hts (.static arraycopyName) (by decide +kernel)) (hts (.initialized "java/lang/System") (by decide +kernel)) hK hP (xD_of (ws := wX E a u) (A := (· ∈ LX a)) hL.1 (fun _ h => h)) hS 4 2 0 0 rfl rfl rfl rfl rfl (by decide) (by decide) (by decide) (by decide) (by decide) (fun _ _ => rfl) (Nat.le_of_ble_eq_true rfl) (Nat.le_of_ble_eq_true rfl) dX2_takeFrom_23 (fun H locs hP _ hS => ?_)
  have hP : va_P (xD E) vwCl (wX E a (uR u 2 (va_cpy (u.1 4) (u.1 2) (0 : Int32).toNatClampNeg (0 : Int32).toNatClampNeg (iMin 40 40).toNatClampNeg))) H := hP
  refine W.eq (g2 := F0 m 26 ls []) rfl ?_
  refine lv_aload_n hx hb dX2_takeFrom_26 rfl (lv_at hl 0 rfl) ?_
  refine lv_aload_n hx hb dX2_takeFrom_27 rfl (lv_at hl 1 rfl) ?_
  refine va_get (D := xD E) (ci := 2) (v := .int ((uR u 2 (va_cpy (u.1 4) (u.1 2) (0 : Int32).toNatClampNeg (0 : Int32).toNatClampNeg (iMin 40 40).toNatClampNeg)).2 2)) (C := RX2) (T := TX2) (N := 2) hx hb hts (by decide +kernel) hown hK hP 3 rfl rfl 1 (by decide) (hts (.fieldLink RX2 15 "RailOffsets$Pieces" "size" "I") (by decide +kernel)) (fun _ h => h) rfl dX2_takeFrom_28 ?_
  refine va_put (D := xD E) (ci := 2) (v := .int ((uR u 2 (va_cpy (u.1 4) (u.1 2) (0 : Int32).toNatClampNeg (0 : Int32).toNatClampNeg (iMin 40 40).toNatClampNeg)).2 2)) (ty := .int) (C := RX2) (T := TX2) (N := 2) hx hb hts (by decide +kernel) tyX2 tyX2_ok nmX2 hown hK hP (xD_of (ws := wX E a (uR u 2 (va_cpy (u.1 4) (u.1 2) (0 : Int32).toNatClampNeg (0 : Int32).toNatClampNeg (iMin 40 40).toNatClampNeg))) (A := (· ∈ LX a)) hL.1 (fun _ h => h)) hS 1 rfl rfl 1 (by decide) (hts (.fieldLink RX2 15 "RailOffsets$Pieces" "size" "I") (by decide +kernel)) (fun _ h => h) rfl (by decide +kernel) rfl rfl (Nat.le_of_ble_eq_true rfl) dX2_takeFrom_31 (fun H locs hP _ hS => ?_)
  have hP : va_P (xD E) vwCl (wX E a (uZ (uR u 2 (va_cpy (u.1 4) (u.1 2) (0 : Int32).toNatClampNeg (0 : Int32).toNatClampNeg (iMin 40 40).toNatClampNeg)) 1 ((uR u 2 (va_cpy (u.1 4) (u.1 2) (0 : Int32).toNatClampNeg (0 : Int32).toNatClampNeg (iMin 40 40).toNatClampNeg)).2 2))) H := hP
  have hR : s_X2_takeFrom_b u = uZ (uR u 2 (va_cpy (u.1 4) (u.1 2) (0 : Int32).toNatClampNeg (0 : Int32).toNatClampNeg (iMin 40 40).toNatClampNeg)) 1 ((uR u 2 (va_cpy (u.1 4) (u.1 2) (0 : Int32).toNatClampNeg (0 : Int32).toNatClampNeg (iMin 40 40).toNatClampNeg)).2 2) := hR
  exact W.vret hx hb hr (fun t ht _ => by rw [hR]; exact ⟨⟨rfl, by rw [ht]; exact hP⟩, hS.F ht⟩) hS.2.2 dX2_takeFrom_34
def s_X5_isUnder_L4 : Nat → Int32 → Int32 → Int32 → Int32 → Int32
  | 0, _, _, _, _ => 0
  | n + 1, x0, x1, x2, x3 =>
    if (Int32.ofNat (xStL 0)) ≤ x3 then
      0
    else
      if x2 = (-1) then
        0
      else
        if x2 = x1 then
          1
        else
          s_X5_isUnder_L4 n x0 x1 (s_X5_cell (xStL 0) (xStV 0) x2) (x3 + 1)
def s_X5_isUnder  (p0 : Int32) (p1 : Int32) : Int32 :=
  s_X5_isUnder_L4 (((Int32.ofNat (xStL 0)).toInt - (0 : Int32).toInt).toNat + 1) p0 p1 p0 0
abbrev rm_X5_isUnder : Room := { frames := 1, cells := 0, slots := 0, locals := 21 }
set_option maxHeartbeats 8000000 in
set_option maxRecDepth 100000 in
theorem c_X5_isUnder (l : Launch) (E : xG) (p0 : Int32) (p1 : Int32) : xRo l E yX5_isUnder wsX5_isUnder rm_X5_isUnder [.int p0, .int p1] [] (some (.int (s_X5_isUnder p0 p1))) := by
  refine xRo.of (cc := cX5_isUnder) (maxL := 4) (ret := (some .boolean)) (by decide) rfl (Nat.le_of_ble_eq_true rfl) ?_
  intro p e s m below meth c ls hAt hF hP hS hl
  obtain ⟨hx, hb, hr, hml, hown, hts, hlocks, -⟩ := hAt
  have hown : s.vm.findClass RX5 = some m.cls := hown
  have hl : lv_has ls 4 [(0, .int p0), (1, .int p1)] := hl
  have hK := hF.1
  have hA : ∀ q : Nat, (fun _ => False) q → xA0 E q := fun _ h => h.elim
  change W p l e rm_X5_isUnder s m ([.int p0, .int p1] : List Value).toArray below meth c s.heap [] 0 0 (xQro below (some (.int (s_X5_isUnder p0 p1))) ([.int p0, .int p1] : List Value).toArray s) _
  have hR : s_X5_isUnder p0 p1 = s_X5_isUnder p0 p1 := rfl
  refine lv_iload_n hx hb dX5_isUnder_0 rfl (lv_at hl 0 rfl) ?_
  refine lv_istore_n (lv' := [(2, .int p0), (0, .int p0), (1, .int p1)]) hx hb dX5_isUnder_1 rfl hl (by decide) rfl (fun ls hl => ?_)
  refine lv_iconst (v := 0) hx hb dX5_isUnder_2 rfl ?_
  refine lv_istore_n (lv' := [(3, .int 0), (2, .int p0), (0, .int p0), (1, .int p1)]) hx hb dX5_isUnder_3 rfl hl (by decide) rfl (fun ls hl => ?_)
  have L4 : ∀ (n4 : Nat) (x2 : Int32) (x3 : Int32) (ls : Array Slot), ((Int32.ofNat (xStL 0)).toInt - x3.toInt).toNat < n4 → s_X5_isUnder p0 p1 = s_X5_isUnder_L4 n4 p0 p1 x2 x3 → lv_has ls 4 [(3, .int x3), (2, .int x2), (0, .int p0), (1, .int p1)] → W p l e rm_X5_isUnder s m ([.int p0, .int p1] : List Value).toArray below meth c s.heap [] 0 0 (xQro below (some (.int (s_X5_isUnder p0 p1))) ([.int p0, .int p1] : List Value).toArray s) (F0 m 4 ls []) := by
    intro n4
    induction n4 with
    | zero => intro x2 x3 ls hM4 hR hl; exact absurd hM4 (Nat.not_lt_zero _)
    | succ n4 ih4 =>
      intro x2 x3 ls hM4 hR hl
      refine lv_iload_n hx hb dX5_isUnder_4 rfl (lv_at hl 0 rfl) ?_
      refine va_gets (C := RX5) hx hb ((hF.2.2.1 0 (by decide)).1.narrow hA) hS hown (hts (.fieldLink RX5 349 "RailOffsets" "PARENTS" "[I") (by decide +kernel)) (fun _ h => h) dX5_isUnder_5 ?_
      refine va_slen hx hb (hF.2.2.1 0 (by decide)).2.1 (hF.2.2.1 0 (by decide)).2.2.1 (fun h => (hF.2.2.1 0 (by decide)).2.2.2 (hA _ h)) hS dX5_isUnder_8 ?_
      refine lv_icmp_ge (tgt := 38) hx hb dX5_isUnder_9 rfl (fun q1 => ?_) (fun q1 => ?_)
      · have hR := hR.trans (if_pos q1)
        refine lv_iconst (v := 0) hx hb dX5_isUnder_38 rfl ?_
        have hR : s_X5_isUnder p0 p1 = 0 := hR
        exact W.zret (v := 0) (ty := .boolean) hx hb hr (xnb (Or.inl rfl)) (fun t ht _ => ⟨congrArg (fun z => Outcome.returned (some (Value.int z))) hR.symm, ht⟩) (fun _ h => by cases h) dX5_isUnder_39
      · have hR := hR.trans (if_neg q1)
        refine lv_iload_n hx hb dX5_isUnder_12 rfl (lv_at hl 1 rfl) ?_
        refine lv_iconst (v := (-1)) hx hb dX5_isUnder_13 rfl ?_
        refine lv_icmp_eq (tgt := 38) hx hb dX5_isUnder_14 rfl (fun q2 => ?_) (fun q2 => ?_)
        · have hR := hR.trans (if_pos q2)
          refine lv_iconst (v := 0) hx hb dX5_isUnder_38 rfl ?_
          have hR : s_X5_isUnder p0 p1 = 0 := hR
          exact W.zret (v := 0) (ty := .boolean) hx hb hr (xnb (Or.inl rfl)) (fun t ht _ => ⟨congrArg (fun z => Outcome.returned (some (Value.int z))) hR.symm, ht⟩) (fun _ h => by cases h) dX5_isUnder_39
        · have hR := hR.trans (if_neg q2)
          refine lv_iload_n hx hb dX5_isUnder_17 rfl (lv_at hl 1 rfl) ?_
          refine lv_iload_n hx hb dX5_isUnder_18 rfl (lv_at hl 3 rfl) ?_
          refine lv_icmp_ne (tgt := 24) hx hb dX5_isUnder_19 rfl (fun q3 => ?_) (fun q3 => ?_)
          · have hR := hR.trans (if_neg q3)
            refine va_gets (C := RX5) hx hb ((hF.2.2.1 0 (by decide)).1.narrow hA) hS hown (hts (.fieldLink RX5 349 "RailOffsets" "PARENTS" "[I") (by decide +kernel)) (fun _ h => h) dX5_isUnder_24 ?_
            refine lv_iload_n hx hb dX5_isUnder_27 rfl (lv_at hl 1 rfl) ?_
            refine xRoS (nL := 4) ⟨hx, hb, hml, hown, hts⟩ (c_X5_cell_st l E 0 (by decide) x2) (va_cwS 2 hts gX5_isUnder_X5_cell rfl rfl rfl hd_X5_cell ⟨(Nat.le_of_ble_eq_true rfl), (Nat.le_of_ble_eq_true rfl)⟩) hF hS hA (hP.sub [] rfl) rfl hl.1 rfl (Nat.le_of_ble_eq_true rfl) ⟨(Nat.le_of_ble_eq_true rfl), (Nat.le_of_ble_eq_true rfl)⟩ dX5_isUnder_28 ?_
            refine W.eq (g2 := F0 m 31 ls [.int (s_X5_cell (xStL 0) (xStV 0) x2)]) rfl ?_
            refine lv_istore_n (lv' := [(2, .int (s_X5_cell (xStL 0) (xStV 0) x2)), (3, .int x3), (0, .int p0), (1, .int p1)]) hx hb dX5_isUnder_31 rfl hl (by decide) rfl (fun ls hl => ?_)
            refine lv_iinc (k := 1) (v := x3 + 1) (lv' := [(3, .int (x3 + 1)), (2, .int (s_X5_cell (xStL 0) (xStV 0) x2)), (0, .int p0), (1, .int p1)]) hx hb dX5_isUnder_32 hl rfl rfl (by decide) rfl (fun ls hl => ?_)
            refine lv_goto (tgt := 4) hx hb dX5_isUnder_35 rfl ?_
            exact ih4 (s_X5_cell (xStL 0) (xStV 0) x2) (x3 + 1) _ (Nat.lt_of_lt_of_le (xupc q1) (Nat.le_of_lt_succ hM4)) hR (lv_sub hl [0, 1, 2, 3] rfl)
          · have hR := hR.trans (if_pos q3)
            refine lv_iconst (v := 1) hx hb dX5_isUnder_22 rfl ?_
            have hR : s_X5_isUnder p0 p1 = 1 := hR
            exact W.zret (v := 1) (ty := .boolean) hx hb hr (xnb (Or.inr rfl)) (fun t ht _ => ⟨congrArg (fun z => Outcome.returned (some (Value.int z))) hR.symm, ht⟩) (fun _ h => by cases h) dX5_isUnder_23
  exact L4 (((Int32.ofNat (xStL 0)).toInt - (0 : Int32).toInt).toNat + 1) p0 0 ls (Nat.lt_succ_self _) hR hl
def s_X5_made_L15 : Nat → Int32 → Int32 → Int32 → Int32 → Int32
  | 0, _, _, _, _ => 0
  | n + 1, x0, x1, x2, x3 =>
    if 5 < x3 then
      x2
    else
      if (s_X5_isUnder x0 x3) = 0 then
        s_X5_made_L15 n x0 x1 x2 (x3 + 1)
      else
        s_X5_made_L15 n x0 x1 (((x2 * 10) + 3) + x3) (x3 + 1)
def s_X5_made  (p0 : Int32) (p1 : Int32) : Int32 :=
  if p1 = 1 then
    s_X5_made_L15 (((5 : Int32).toInt + 1 - (1 : Int32).toInt).toNat + 1) p0 p1 123 1
  else
    s_X5_made_L15 (((5 : Int32).toInt + 1 - (1 : Int32).toInt).toNat + 1) p0 p1 13 1
abbrev rm_X5_made : Room := { frames := 2, cells := 0, slots := 0, locals := 44 }
set_option maxHeartbeats 8000000 in
set_option maxRecDepth 100000 in
theorem c_X5_made (l : Launch) (E : xG) (p0 : Int32) (p1 : Int32) : xRo l E yX5_made wsX5_made rm_X5_made [.int p0, .int p1] [] (some (.int (s_X5_made p0 p1))) := by
  refine xRo.of (cc := cX5_made) (maxL := 4) (ret := (some .int)) (by decide) rfl (Nat.le_of_ble_eq_true rfl) ?_
  intro p e s m below meth c ls hAt hF hP hS hl
  obtain ⟨hx, hb, hr, hml, hown, hts, hlocks, -⟩ := hAt
  have hown : s.vm.findClass RX5 = some m.cls := hown
  have hl : lv_has ls 4 [(0, .int p0), (1, .int p1)] := hl
  have hK := hF.1
  have hA : ∀ q : Nat, (fun _ => False) q → xA0 E q := fun _ h => h.elim
  change W p l e rm_X5_made s m ([.int p0, .int p1] : List Value).toArray below meth c s.heap [] 0 0 (xQro below (some (.int (s_X5_made p0 p1))) ([.int p0, .int p1] : List Value).toArray s) _
  have hR : s_X5_made p0 p1 = s_X5_made p0 p1 := rfl
  refine lv_iload_n hx hb dX5_made_0 rfl (lv_at hl 1 rfl) ?_
  refine lv_iconst (v := 1) hx hb dX5_made_1 rfl ?_
  refine lv_icmp_ne (tgt := 10) hx hb dX5_made_2 rfl (fun q1 => ?_) (fun q1 => ?_)
  · have hR := hR.trans (if_neg q1)
    refine lv_bipush (v := 13) hx hb dX5_made_10 rfl ?_
    refine lv_istore_n (lv' := [(2, .int 13), (0, .int p0), (1, .int p1)]) hx hb dX5_made_12 rfl hl (by decide) rfl (fun ls hl => ?_)
    refine lv_iconst (v := 1) hx hb dX5_made_13 rfl ?_
    refine lv_istore_n (lv' := [(3, .int 1), (2, .int 13), (0, .int p0), (1, .int p1)]) hx hb dX5_made_14 rfl hl (by decide) rfl (fun ls hl => ?_)
    have L15 : ∀ (n15 : Nat) (x2 : Int32) (x3 : Int32) (ls : Array Slot), ((5 : Int32).toInt + 1 - x3.toInt).toNat < n15 → s_X5_made p0 p1 = s_X5_made_L15 n15 p0 p1 x2 x3 → lv_has ls 4 [(3, .int x3), (2, .int x2), (0, .int p0), (1, .int p1)] → W p l e rm_X5_made s m ([.int p0, .int p1] : List Value).toArray below meth c s.heap [] 0 0 (xQro below (some (.int (s_X5_made p0 p1))) ([.int p0, .int p1] : List Value).toArray s) (F0 m 15 ls []) := by
      intro n15
      induction n15 with
      | zero => intro x2 x3 ls hM15 hR hl; exact absurd hM15 (Nat.not_lt_zero _)
      | succ n15 ih15 =>
        intro x2 x3 ls hM15 hR hl
        refine lv_iload_n hx hb dX5_made_15 rfl (lv_at hl 0 rfl) ?_
        refine lv_iconst (v := 5) hx hb dX5_made_16 rfl ?_
        refine lv_icmp_gt (tgt := 43) hx hb dX5_made_17 rfl (fun q2 => ?_) (fun q2 => ?_)
        · have hR := hR.trans (if_pos q2)
          refine lv_iload_n hx hb dX5_made_43 rfl (lv_at hl 1 rfl) ?_
          have hR : s_X5_made p0 p1 = x2 := hR
          exact W.iret (v := x2) hx hb hr (fun t ht _ => ⟨congrArg (fun z => Outcome.returned (some (Value.int z))) hR.symm, ht⟩) (fun _ h => by cases h) dX5_made_44
        · have hR := hR.trans (if_neg q2)
          refine lv_iload_n hx hb dX5_made_20 rfl (lv_at hl 2 rfl) ?_
          refine lv_iload_n hx hb dX5_made_21 rfl (lv_at hl 0 rfl) ?_
          refine xRoS (nL := 4) ⟨hx, hb, hml, hown, hts⟩ (c_X5_isUnder l E p0 x3) (va_cwS 2 hts gX5_made_X5_isUnder rfl rfl rfl hd_X5_isUnder ⟨(Nat.le_of_ble_eq_true rfl), (Nat.le_of_ble_eq_true rfl)⟩) hF hS hA (hP.sub [] rfl) rfl hl.1 rfl (Nat.le_of_ble_eq_true rfl) ⟨(Nat.le_of_ble_eq_true rfl), (Nat.le_of_ble_eq_true rfl)⟩ dX5_made_22 ?_
          refine W.eq (g2 := F0 m 25 ls [.int (s_X5_isUnder p0 x3)]) rfl ?_
          refine lv_if_eq (tgt := 37) hx hb dX5_made_25 rfl (fun q3 => ?_) (fun q3 => ?_)
          · have hR := hR.trans (if_pos q3)
            refine lv_iinc (k := 0) (v := x3 + 1) (lv' := [(3, .int (x3 + 1)), (2, .int x2), (0, .int p0), (1, .int p1)]) hx hb dX5_made_37 hl rfl rfl (by decide) rfl (fun ls hl => ?_)
            refine lv_goto (tgt := 15) hx hb dX5_made_40 rfl ?_
            exact ih15 x2 (x3 + 1) _ (Nat.lt_of_lt_of_le (xupl q2 (by decide)) (Nat.le_of_lt_succ hM15)) hR (lv_sub hl [0, 1, 2, 3] rfl)
          · have hR := hR.trans (if_neg q3)
            refine lv_iload_n hx hb dX5_made_28 rfl (lv_at hl 1 rfl) ?_
            refine lv_bipush (v := 10) hx hb dX5_made_29 rfl ?_
            refine lv_imul hx hb dX5_made_31 ?_
            refine lv_iconst (v := 3) hx hb dX5_made_32 rfl ?_
            refine lv_iadd hx hb dX5_made_33 ?_
            refine lv_iload_n hx hb dX5_made_34 rfl (lv_at hl 0 rfl) ?_
            refine lv_iadd hx hb dX5_made_35 ?_
            refine lv_istore_n (lv' := [(2, .int (((x2 * 10) + 3) + x3)), (3, .int x3), (0, .int p0), (1, .int p1)]) hx hb dX5_made_36 rfl hl (by decide) rfl (fun ls hl => ?_)
            refine lv_iinc (k := 1) (v := x3 + 1) (lv' := [(3, .int (x3 + 1)), (2, .int (((x2 * 10) + 3) + x3)), (0, .int p0), (1, .int p1)]) hx hb dX5_made_37 hl rfl rfl (by decide) rfl (fun ls hl => ?_)
            refine lv_goto (tgt := 15) hx hb dX5_made_40 rfl ?_
            exact ih15 (((x2 * 10) + 3) + x3) (x3 + 1) _ (Nat.lt_of_lt_of_le (xupl q2 (by decide)) (Nat.le_of_lt_succ hM15)) hR (lv_sub hl [0, 1, 2, 3] rfl)
    exact L15 (((5 : Int32).toInt + 1 - (1 : Int32).toInt).toNat + 1) 13 1 ls (Nat.lt_succ_self _) hR hl
  · have hR := hR.trans (if_pos q1)
    refine lv_bipush (v := 123) hx hb dX5_made_5 rfl ?_
    refine lv_goto (tgt := 12) hx hb dX5_made_7 rfl ?_
    refine lv_istore_n (lv' := [(2, .int 123), (0, .int p0), (1, .int p1)]) hx hb dX5_made_12 rfl hl (by decide) rfl (fun ls hl => ?_)
    refine lv_iconst (v := 1) hx hb dX5_made_13 rfl ?_
    refine lv_istore_n (lv' := [(3, .int 1), (2, .int 123), (0, .int p0), (1, .int p1)]) hx hb dX5_made_14 rfl hl (by decide) rfl (fun ls hl => ?_)
    have L15 : ∀ (n15 : Nat) (x2 : Int32) (x3 : Int32) (ls : Array Slot), ((5 : Int32).toInt + 1 - x3.toInt).toNat < n15 → s_X5_made p0 p1 = s_X5_made_L15 n15 p0 p1 x2 x3 → lv_has ls 4 [(3, .int x3), (2, .int x2), (0, .int p0), (1, .int p1)] → W p l e rm_X5_made s m ([.int p0, .int p1] : List Value).toArray below meth c s.heap [] 0 0 (xQro below (some (.int (s_X5_made p0 p1))) ([.int p0, .int p1] : List Value).toArray s) (F0 m 15 ls []) := by
      intro n15
      induction n15 with
      | zero => intro x2 x3 ls hM15 hR hl; exact absurd hM15 (Nat.not_lt_zero _)
      | succ n15 ih15 =>
        intro x2 x3 ls hM15 hR hl
        refine lv_iload_n hx hb dX5_made_15 rfl (lv_at hl 0 rfl) ?_
        refine lv_iconst (v := 5) hx hb dX5_made_16 rfl ?_
        refine lv_icmp_gt (tgt := 43) hx hb dX5_made_17 rfl (fun q4 => ?_) (fun q4 => ?_)
        · have hR := hR.trans (if_pos q4)
          refine lv_iload_n hx hb dX5_made_43 rfl (lv_at hl 1 rfl) ?_
          have hR : s_X5_made p0 p1 = x2 := hR
          exact W.iret (v := x2) hx hb hr (fun t ht _ => ⟨congrArg (fun z => Outcome.returned (some (Value.int z))) hR.symm, ht⟩) (fun _ h => by cases h) dX5_made_44
        · have hR := hR.trans (if_neg q4)
          refine lv_iload_n hx hb dX5_made_20 rfl (lv_at hl 2 rfl) ?_
          refine lv_iload_n hx hb dX5_made_21 rfl (lv_at hl 0 rfl) ?_
          refine xRoS (nL := 4) ⟨hx, hb, hml, hown, hts⟩ (c_X5_isUnder l E p0 x3) (va_cwS 2 hts gX5_made_X5_isUnder rfl rfl rfl hd_X5_isUnder ⟨(Nat.le_of_ble_eq_true rfl), (Nat.le_of_ble_eq_true rfl)⟩) hF hS hA (hP.sub [] rfl) rfl hl.1 rfl (Nat.le_of_ble_eq_true rfl) ⟨(Nat.le_of_ble_eq_true rfl), (Nat.le_of_ble_eq_true rfl)⟩ dX5_made_22 ?_
          refine W.eq (g2 := F0 m 25 ls [.int (s_X5_isUnder p0 x3)]) rfl ?_
          refine lv_if_eq (tgt := 37) hx hb dX5_made_25 rfl (fun q5 => ?_) (fun q5 => ?_)
          · have hR := hR.trans (if_pos q5)
            refine lv_iinc (k := 0) (v := x3 + 1) (lv' := [(3, .int (x3 + 1)), (2, .int x2), (0, .int p0), (1, .int p1)]) hx hb dX5_made_37 hl rfl rfl (by decide) rfl (fun ls hl => ?_)
            refine lv_goto (tgt := 15) hx hb dX5_made_40 rfl ?_
            exact ih15 x2 (x3 + 1) _ (Nat.lt_of_lt_of_le (xupl q4 (by decide)) (Nat.le_of_lt_succ hM15)) hR (lv_sub hl [0, 1, 2, 3] rfl)
          · have hR := hR.trans (if_neg q5)
            refine lv_iload_n hx hb dX5_made_28 rfl (lv_at hl 1 rfl) ?_
            refine lv_bipush (v := 10) hx hb dX5_made_29 rfl ?_
            refine lv_imul hx hb dX5_made_31 ?_
            refine lv_iconst (v := 3) hx hb dX5_made_32 rfl ?_
            refine lv_iadd hx hb dX5_made_33 ?_
            refine lv_iload_n hx hb dX5_made_34 rfl (lv_at hl 0 rfl) ?_
            refine lv_iadd hx hb dX5_made_35 ?_
            refine lv_istore_n (lv' := [(2, .int (((x2 * 10) + 3) + x3)), (3, .int x3), (0, .int p0), (1, .int p1)]) hx hb dX5_made_36 rfl hl (by decide) rfl (fun ls hl => ?_)
            refine lv_iinc (k := 1) (v := x3 + 1) (lv' := [(3, .int (x3 + 1)), (2, .int (((x2 * 10) + 3) + x3)), (0, .int p0), (1, .int p1)]) hx hb dX5_made_37 hl rfl rfl (by decide) rfl (fun ls hl => ?_)
            refine lv_goto (tgt := 15) hx hb dX5_made_40 rfl ?_
            exact ih15 (((x2 * 10) + 3) + x3) (x3 + 1) _ (Nat.lt_of_lt_of_le (xupl q4 (by decide)) (Nat.le_of_lt_succ hM15)) hR (lv_sub hl [0, 1, 2, 3] rfl)
    exact L15 (((5 : Int32).toInt + 1 - (1 : Int32).toInt).toNat + 1) 123 1 ls (Nat.lt_succ_self _) hR hl
def s_X5_commonDivisor_L7 : Nat → Int32 → Int32 → Int32 → Int32 → Int32 → Int32
  | 0, _, _, _, _, _ => 0
  | n + 1, x0, x1, x2, x3, x4 =>
    if 100 ≤ x4 then
      x2
    else
      if x3 = 0 then
        x2
      else
        s_X5_commonDivisor_L7 n x0 x1 x3 (iRem x2 x3) (x4 + 1)
def s_X5_commonDivisor  (p0 : Int32) (p1 : Int32) : Int32 :=
  s_X5_commonDivisor_L7 (((100 : Int32).toInt - (0 : Int32).toInt).toNat + 1) p0 p1 p0 p1 0
abbrev rm_X5_commonDivisor : Room := { frames := 0, cells := 0, slots := 0, locals := 0 }
set_option maxHeartbeats 8000000 in
set_option maxRecDepth 100000 in
theorem c_X5_commonDivisor (l : Launch) (E : xG) (p0 : Int32) (p1 : Int32) : xRo l E yX5_commonDivisor wsX5_commonDivisor rm_X5_commonDivisor [.int p0, .int p1] [] (some (.int (s_X5_commonDivisor p0 p1))) := by
  refine xRo.of (cc := cX5_commonDivisor) (maxL := 6) (ret := (some .int)) (by decide) rfl (Nat.le_of_ble_eq_true rfl) ?_
  intro p e s m below meth c ls hAt hF hP hS hl
  obtain ⟨hx, hb, hr, hml, hown, hts, hlocks, -⟩ := hAt
  have hown : s.vm.findClass RX5 = some m.cls := hown
  have hl : lv_has ls 6 [(0, .int p0), (1, .int p1)] := hl
  have hK := hF.1
  have hA : ∀ q : Nat, (fun _ => False) q → xA0 E q := fun _ h => h.elim
  change W p l e rm_X5_commonDivisor s m ([.int p0, .int p1] : List Value).toArray below meth c s.heap [] 0 0 (xQro below (some (.int (s_X5_commonDivisor p0 p1))) ([.int p0, .int p1] : List Value).toArray s) _
  have hR : s_X5_commonDivisor p0 p1 = s_X5_commonDivisor p0 p1 := rfl
  refine lv_iload_n hx hb dX5_commonDivisor_0 rfl (lv_at hl 0 rfl) ?_
  refine lv_istore_n (lv' := [(2, .int p0), (0, .int p0), (1, .int p1)]) hx hb dX5_commonDivisor_1 rfl hl (by decide) rfl (fun ls hl => ?_)
  refine lv_iload_n hx hb dX5_commonDivisor_2 rfl (lv_at hl 2 rfl) ?_
  refine lv_istore_n (lv' := [(3, .int p1), (2, .int p0), (0, .int p0), (1, .int p1)]) hx hb dX5_commonDivisor_3 rfl hl (by decide) rfl (fun ls hl => ?_)
  refine lv_iconst (v := 0) hx hb dX5_commonDivisor_4 rfl ?_
  refine lv_istore (lv' := [(4, .int 0), (3, .int p1), (2, .int p0), (0, .int p0), (1, .int p1)]) hx hb dX5_commonDivisor_5 hl (by decide) rfl (fun ls hl => ?_)
  have L7 : ∀ (n7 : Nat) (x2 : Int32) (x3 : Int32) (x4 : Int32) (ls : Array Slot), ((100 : Int32).toInt - x4.toInt).toNat < n7 → s_X5_commonDivisor p0 p1 = s_X5_commonDivisor_L7 n7 p0 p1 x2 x3 x4 → lv_has ls 6 [(4, .int x4), (3, .int x3), (2, .int x2), (0, .int p0), (1, .int p1)] → W p l e rm_X5_commonDivisor s m ([.int p0, .int p1] : List Value).toArray below meth c s.heap [] 0 0 (xQro below (some (.int (s_X5_commonDivisor p0 p1))) ([.int p0, .int p1] : List Value).toArray s) (F0 m 7 ls []) := by
    intro n7
    induction n7 with
    | zero => intro x2 x3 x4 ls hM7 hR hl; exact absurd hM7 (Nat.not_lt_zero _)
    | succ n7 ih7 =>
      intro x2 x3 x4 ls hM7 hR hl
      refine lv_iload hx hb dX5_commonDivisor_7 (lv_at hl 0 rfl) ?_
      refine lv_bipush (v := 100) hx hb dX5_commonDivisor_9 rfl ?_
      refine lv_icmp_ge (tgt := 34) hx hb dX5_commonDivisor_11 rfl (fun q1 => ?_) (fun q1 => ?_)
      · have hR := hR.trans (if_pos q1)
        refine lv_iload_n hx hb dX5_commonDivisor_34 rfl (lv_at hl 2 rfl) ?_
        have hR : s_X5_commonDivisor p0 p1 = x2 := hR
        exact W.iret (v := x2) hx hb hr (fun t ht _ => ⟨congrArg (fun z => Outcome.returned (some (Value.int z))) hR.symm, ht⟩) (fun _ h => by cases h) dX5_commonDivisor_35
      · have hR := hR.trans (if_neg q1)
        refine lv_iload_n hx hb dX5_commonDivisor_14 rfl (lv_at hl 1 rfl) ?_
        refine lv_if_eq (tgt := 34) hx hb dX5_commonDivisor_15 rfl (fun q2 => ?_) (fun q2 => ?_)
        · have hR := hR.trans (if_pos q2)
          refine lv_iload_n hx hb dX5_commonDivisor_34 rfl (lv_at hl 2 rfl) ?_
          have hR : s_X5_commonDivisor p0 p1 = x2 := hR
          exact W.iret (v := x2) hx hb hr (fun t ht _ => ⟨congrArg (fun z => Outcome.returned (some (Value.int z))) hR.symm, ht⟩) (fun _ h => by cases h) dX5_commonDivisor_35
        · have hR := hR.trans (if_neg q2)
          refine lv_iload_n hx hb dX5_commonDivisor_18 rfl (lv_at hl 2 rfl) ?_
          refine lv_iload_n hx hb dX5_commonDivisor_19 rfl (lv_at hl 1 rfl) ?_
          refine lv_irem hx hb dX5_commonDivisor_20 (by first | assumption | decide) ?_
          refine W.eq (g2 := F0 m 21 ls [.int (iRem x2 x3)]) rfl ?_
          refine lv_istore (lv' := [(5, .int (iRem x2 x3)), (4, .int x4), (3, .int x3), (2, .int x2), (0, .int p0), (1, .int p1)]) hx hb dX5_commonDivisor_21 hl (by decide) rfl (fun ls hl => ?_)
          refine lv_iload_n hx hb dX5_commonDivisor_23 rfl (lv_at hl 2 rfl) ?_
          refine lv_istore_n (lv' := [(2, .int x3), (5, .int (iRem x2 x3)), (4, .int x4), (3, .int x3), (0, .int p0), (1, .int p1)]) hx hb dX5_commonDivisor_24 rfl hl (by decide) rfl (fun ls hl => ?_)
          refine lv_iload hx hb dX5_commonDivisor_25 (lv_at hl 1 rfl) ?_
          refine lv_istore_n (lv' := [(3, .int (iRem x2 x3)), (2, .int x3), (5, .int (iRem x2 x3)), (4, .int x4), (0, .int p0), (1, .int p1)]) hx hb dX5_commonDivisor_27 rfl hl (by decide) rfl (fun ls hl => ?_)
          refine lv_iinc (k := 3) (v := x4 + 1) (lv' := [(4, .int (x4 + 1)), (3, .int (iRem x2 x3)), (2, .int x3), (5, .int (iRem x2 x3)), (0, .int p0), (1, .int p1)]) hx hb dX5_commonDivisor_28 hl rfl rfl (by decide) rfl (fun ls hl => ?_)
          refine lv_goto (tgt := 7) hx hb dX5_commonDivisor_31 rfl ?_
          exact ih7 x3 (iRem x2 x3) (x4 + 1) _ (Nat.lt_of_lt_of_le (xupc q1) (Nat.le_of_lt_succ hM7)) hR (lv_sub hl [0, 1, 2, 4, 5] rfl)
  exact L7 (((100 : Int32).toInt - (0 : Int32).toInt).toNat + 1) p0 p1 0 ls (Nat.lt_succ_self _) hR hl
def s_X5_along  (p0 : Int32) (p1 : Int32) (p2 : Int32) (p3 : Int32) (p4 : Int32) : Int32 :=
  if p0 = 2 then
    p1 + (s_X5_share ((p2 - p1) * p3) p4)
  else
    if p0 = 4 then
      p1 + (s_X5_share (((p2 - p1) * p3) * p3) (p4 * p4))
    else
      p2
abbrev rm_X5_along : Room := { frames := 1, cells := 0, slots := 0, locals := 21 }
set_option maxHeartbeats 8000000 in
set_option maxRecDepth 100000 in
theorem c_X5_along (l : Launch) (E : xG) (p0 : Int32) (p1 : Int32) (p2 : Int32) (p3 : Int32) (p4 : Int32) : xRo l E yX5_along wsX5_along rm_X5_along [.int p0, .int p1, .int p2, .int p3, .int p4] [] (some (.int (s_X5_along p0 p1 p2 p3 p4))) := by
  refine xRo.of (cc := cX5_along) (maxL := 5) (ret := (some .int)) (by decide) rfl (Nat.le_of_ble_eq_true rfl) ?_
  intro p e s m below meth c ls hAt hF hP hS hl
  obtain ⟨hx, hb, hr, hml, hown, hts, hlocks, -⟩ := hAt
  have hown : s.vm.findClass RX5 = some m.cls := hown
  have hl : lv_has ls 5 [(0, .int p0), (1, .int p1), (2, .int p2), (3, .int p3), (4, .int p4)] := hl
  have hK := hF.1
  have hA : ∀ q : Nat, (fun _ => False) q → xA0 E q := fun _ h => h.elim
  change W p l e rm_X5_along s m ([.int p0, .int p1, .int p2, .int p3, .int p4] : List Value).toArray below meth c s.heap [] 0 0 (xQro below (some (.int (s_X5_along p0 p1 p2 p3 p4))) ([.int p0, .int p1, .int p2, .int p3, .int p4] : List Value).toArray s) _
  have hR : s_X5_along p0 p1 p2 p3 p4 = s_X5_along p0 p1 p2 p3 p4 := rfl
  refine lv_iload_n hx hb dX5_along_0 rfl (lv_at hl 0 rfl) ?_
  by_cases q1 : p0 = 2
  · have hR := hR.trans (if_pos q1)
    refine lv_lookup (tgt := 28) (off := 27) hx hb dX5_along_1 rfl (by rw [q1]; rfl) rfl ?_
    refine lv_iload_n hx hb dX5_along_28 rfl (lv_at hl 1 rfl) ?_
    refine lv_iload_n hx hb dX5_along_29 rfl (lv_at hl 2 rfl) ?_
    refine lv_iload_n hx hb dX5_along_30 rfl (lv_at hl 1 rfl) ?_
    refine lv_isub hx hb dX5_along_31 ?_
    refine lv_iload_n hx hb dX5_along_32 rfl (lv_at hl 3 rfl) ?_
    refine lv_imul hx hb dX5_along_33 ?_
    refine lv_iload hx hb dX5_along_34 (lv_at hl 4 rfl) ?_
    refine xRoS (nL := 5) ⟨hx, hb, hml, hown, hts⟩ (c_X5_share l E ((p2 - p1) * p3) p4) (va_cwS 2 hts gX5_along_X5_share rfl rfl rfl hd_X5_share ⟨(Nat.le_of_ble_eq_true rfl), (Nat.le_of_ble_eq_true rfl)⟩) hF hS hA (hP.sub [] rfl) rfl hl.1 rfl (Nat.le_of_ble_eq_true rfl) ⟨(Nat.le_of_ble_eq_true rfl), (Nat.le_of_ble_eq_true rfl)⟩ dX5_along_36 ?_
    refine W.eq (g2 := F0 m 39 ls [.int (s_X5_share ((p2 - p1) * p3) p4), .int p1]) rfl ?_
    refine lv_iadd hx hb dX5_along_39 ?_
    have hR : s_X5_along p0 p1 p2 p3 p4 = p1 + (s_X5_share ((p2 - p1) * p3) p4) := hR
    exact W.iret (v := p1 + (s_X5_share ((p2 - p1) * p3) p4)) hx hb hr (fun t ht _ => ⟨congrArg (fun z => Outcome.returned (some (Value.int z))) hR.symm, ht⟩) (fun _ h => by cases h) dX5_along_40
  have hR := hR.trans (if_neg q1)
  by_cases q2 : p0 = 4
  · have hR := hR.trans (if_pos q2)
    refine lv_lookup (tgt := 41) (off := 40) hx hb dX5_along_1 rfl (by rw [q2]; rfl) rfl ?_
    refine lv_iload_n hx hb dX5_along_41 rfl (lv_at hl 1 rfl) ?_
    refine lv_iload_n hx hb dX5_along_42 rfl (lv_at hl 2 rfl) ?_
    refine lv_iload_n hx hb dX5_along_43 rfl (lv_at hl 1 rfl) ?_
    refine lv_isub hx hb dX5_along_44 ?_
    refine lv_iload_n hx hb dX5_along_45 rfl (lv_at hl 3 rfl) ?_
    refine lv_imul hx hb dX5_along_46 ?_
    refine lv_iload_n hx hb dX5_along_47 rfl (lv_at hl 3 rfl) ?_
    refine lv_imul hx hb dX5_along_48 ?_
    refine lv_iload hx hb dX5_along_49 (lv_at hl 4 rfl) ?_
    refine lv_iload hx hb dX5_along_51 (lv_at hl 4 rfl) ?_
    refine lv_imul hx hb dX5_along_53 ?_
    refine xRoS (nL := 5) ⟨hx, hb, hml, hown, hts⟩ (c_X5_share l E (((p2 - p1) * p3) * p3) (p4 * p4)) (va_cwS 2 hts gX5_along_X5_share rfl rfl rfl hd_X5_share ⟨(Nat.le_of_ble_eq_true rfl), (Nat.le_of_ble_eq_true rfl)⟩) hF hS hA (hP.sub [] rfl) rfl hl.1 rfl (Nat.le_of_ble_eq_true rfl) ⟨(Nat.le_of_ble_eq_true rfl), (Nat.le_of_ble_eq_true rfl)⟩ dX5_along_54 ?_
    refine W.eq (g2 := F0 m 57 ls [.int (s_X5_share (((p2 - p1) * p3) * p3) (p4 * p4)), .int p1]) rfl ?_
    refine lv_iadd hx hb dX5_along_57 ?_
    have hR : s_X5_along p0 p1 p2 p3 p4 = p1 + (s_X5_share (((p2 - p1) * p3) * p3) (p4 * p4)) := hR
    exact W.iret (v := p1 + (s_X5_share (((p2 - p1) * p3) * p3) (p4 * p4))) hx hb hr (fun t ht _ => ⟨congrArg (fun z => Outcome.returned (some (Value.int z))) hR.symm, ht⟩) (fun _ h => by cases h) dX5_along_58
  have hR := hR.trans (if_neg q2)
  refine lv_lookup (tgt := 59) (off := 58) hx hb dX5_along_1 rfl ((if_neg (fun h => q1 (Int32.toInt_inj.mp h.symm))).trans ((if_neg (fun h => q2 (Int32.toInt_inj.mp h.symm))).trans rfl)) rfl ?_
  refine lv_iload_n hx hb dX5_along_59 rfl (lv_at hl 2 rfl) ?_
  have hR : s_X5_along p0 p1 p2 p3 p4 = p2 := hR
  exact W.iret (v := p2) hx hb hr (fun t ht _ => ⟨congrArg (fun z => Outcome.returned (some (Value.int z))) hR.symm, ht⟩) (fun _ h => by cases h) dX5_along_60
