def s_X0_firstOf (u : xU) (p1 : Int32) : Int32 :=
  s_X5_cell 10 (u.1 8) p1
abbrev rm_X0_firstOf : Room := { frames := 1, cells := 0, slots := 0, locals := 21 }
set_option maxHeartbeats 8000000 in
set_option maxRecDepth 100000 in
theorem c_X0_firstOf (l : Launch) (E : xG) (a : Nat → Nat) (u : xU) (p1 : Int32) : xRo l E yX0_firstOf wsX0_firstOf rm_X0_firstOf [.ref (a 7), .int p1] (wX E a u) (some (.int (s_X0_firstOf u p1))) := by
  refine xRo.of (cc := cX0_firstOf) (maxL := 2) (ret := (some .int)) (by decide) rfl (Nat.le_of_ble_eq_true rfl) ?_
  intro p e s m below meth c ls hAt hF hP hS hl
  obtain ⟨hx, hb, hr, hml, hown, hts, hlocks, -⟩ := hAt
  have hown : s.vm.findClass RX0 = some m.cls := hown
  have hl : lv_has ls 2 [(0, .ref (a 7)), (1, .int p1)] := hl
  have hK := hF.1
  have hA : ∀ q : Nat, (fun _ => False) q → xA0 E q := fun _ h => h.elim
  change W p l e rm_X0_firstOf s m ([.ref (a 7), .int p1] : List Value).toArray below meth c s.heap [] 0 0 (xQro below (some (.int (s_X0_firstOf u p1))) ([.ref (a 7), .int p1] : List Value).toArray s) _
  have hR : s_X0_firstOf u p1 = s_X0_firstOf u p1 := rfl
  refine lv_aload_n hx hb dX0_firstOf_0 rfl (lv_at hl 0 rfl) ?_
  refine va_get (D := xD E) (ci := 0) (v := .ref (a 8)) (C := RX0) (T := TX0) (N := 8) hx hb hts (by decide +kernel) hown hK hP 7 rfl rfl 1 (by decide) (hts (.fieldLink RX0 15 "RailOffsets$Line" "starts" "[I") (by decide +kernel)) (fun _ h => h) rfl dX0_firstOf_1 ?_
  refine lv_iload_n hx hb dX0_firstOf_4 rfl (lv_at hl 1 rfl) ?_
  refine xRoSN (nL := 2) ⟨hx, hb, hml, hown, hts⟩ (c_X5_cell l E (a 8) 10 (u.1 8) p1) ⟨va_cnB (own := RX0) (host := RX5) (index := 55) (y := yX5_cell) 2 hts gX0_firstOf_X5_cell_n55 rfl rfl rfl (hF.2.1.1 (RX0, 55, yX5_cell) (List.mem_of_getElem? (i := 3) rfl)) (hts (.initialized RX5) (by decide +kernel)) hd_X5_cell ⟨(Nat.le_of_ble_eq_true rfl), (Nat.le_of_ble_eq_true rfl)⟩, hts (.static yX5_cell) (by decide +kernel), trivial⟩ hF hS hA (hP.sub [8] rfl) rfl hl.1 rfl (Nat.le_of_ble_eq_true rfl) ⟨(Nat.le_of_ble_eq_true rfl), (Nat.le_of_ble_eq_true rfl)⟩ dX0_firstOf_5 ?_
  refine W.eq (g2 := F0 m 8 ls [.int (s_X5_cell 10 (u.1 8) p1)]) rfl ?_
  have hR : s_X0_firstOf u p1 = s_X5_cell 10 (u.1 8) p1 := hR
  exact W.iret (v := s_X5_cell 10 (u.1 8) p1) hx hb hr (fun t ht _ => ⟨congrArg (fun z => Outcome.returned (some (Value.int z))) hR.symm, ht⟩) (fun _ h => by cases h) dX0_firstOf_8
def s_X0_lastOf (u : xU) (p1 : Int32) : Int32 :=
  ((s_X0_firstOf u p1) + (s_X2_read u p1 1)) - 1
abbrev rm_X0_lastOf : Room := { frames := 2, cells := 0, slots := 0, locals := 43 }
set_option maxHeartbeats 8000000 in
set_option maxRecDepth 100000 in
theorem c_X0_lastOf (l : Launch) (E : xG) (a : Nat → Nat) (u : xU) (p1 : Int32) : xRo l E yX0_lastOf wsX0_lastOf rm_X0_lastOf [.ref (a 7), .int p1] (wX E a u) (some (.int (s_X0_lastOf u p1))) := by
  refine xRo.of (cc := cX0_lastOf) (maxL := 2) (ret := (some .int)) (by decide) rfl (Nat.le_of_ble_eq_true rfl) ?_
  intro p e s m below meth c ls hAt hF hP hS hl
  obtain ⟨hx, hb, hr, hml, hown, hts, hlocks, -⟩ := hAt
  have hown : s.vm.findClass RX0 = some m.cls := hown
  have hl : lv_has ls 2 [(0, .ref (a 7)), (1, .int p1)] := hl
  have hK := hF.1
  have hA : ∀ q : Nat, (fun _ => False) q → xA0 E q := fun _ h => h.elim
  change W p l e rm_X0_lastOf s m ([.ref (a 7), .int p1] : List Value).toArray below meth c s.heap [] 0 0 (xQro below (some (.int (s_X0_lastOf u p1))) ([.ref (a 7), .int p1] : List Value).toArray s) _
  have hR : s_X0_lastOf u p1 = s_X0_lastOf u p1 := rfl
  refine lv_aload_n hx hb dX0_lastOf_0 rfl (lv_at hl 0 rfl) ?_
  refine lv_iload_n hx hb dX0_lastOf_1 rfl (lv_at hl 1 rfl) ?_
  refine xRoV (nL := 2) ⟨hx, hb, hml, hown, hts⟩ (c_X0_firstOf l E a u p1) (cwV 1 hts gX0_lastOf_X0_firstOf rfl rfl rfl ⟨rfl, hd_X0_firstOf⟩ ⟨(Nat.le_of_ble_eq_true rfl), (Nat.le_of_ble_eq_true rfl)⟩) hF hS hA hP (va_recv (q := (RX0, TX0, 8)) hK hP (ci := 0) rfl (q0 := 7) rfl) rfl hl.1 rfl (Nat.le_of_ble_eq_true rfl) ⟨(Nat.le_of_ble_eq_true rfl), (Nat.le_of_ble_eq_true rfl)⟩ dX0_lastOf_2 ?_
  refine W.eq (g2 := F0 m 5 ls [.int (s_X0_firstOf u p1)]) rfl ?_
  refine lv_aload_n hx hb dX0_lastOf_5 rfl (lv_at hl 0 rfl) ?_
  refine va_get (D := xD E) (ci := 0) (v := .ref (a 1)) (C := RX0) (T := TX0) (N := 8) hx hb hts (by decide +kernel) hown hK hP 7 rfl rfl 0 (by decide) (hts (.fieldLink RX0 9 "RailOffsets$Line" "pieces" "LRailOffsets$Pieces;") (by decide +kernel)) (fun _ h => h) rfl dX0_lastOf_6 ?_
  refine lv_iload_n hx hb dX0_lastOf_9 rfl (lv_at hl 1 rfl) ?_
  refine lv_iconst (v := 1) hx hb dX0_lastOf_10 rfl ?_
  refine xRoV (nL := 2) ⟨hx, hb, hml, hown, hts⟩ (c_X2_read l E a u p1 1) (cwV 2 hts gX0_lastOf_X2_read rfl rfl rfl ⟨rfl, hd_X2_read⟩ ⟨(Nat.le_of_ble_eq_true rfl), (Nat.le_of_ble_eq_true rfl)⟩) hF hS hA hP (va_recv (q := (RX2, TX2, 2)) hK hP (ci := 2) rfl (q0 := 1) rfl) rfl hl.1 rfl (Nat.le_of_ble_eq_true rfl) ⟨(Nat.le_of_ble_eq_true rfl), (Nat.le_of_ble_eq_true rfl)⟩ dX0_lastOf_11 ?_
  refine W.eq (g2 := F0 m 14 ls [.int (s_X2_read u p1 1), .int (s_X0_firstOf u p1)]) rfl ?_
  refine lv_iadd hx hb dX0_lastOf_14 ?_
  refine lv_iconst (v := 1) hx hb dX0_lastOf_15 rfl ?_
  refine lv_isub hx hb dX0_lastOf_16 ?_
  have hR : s_X0_lastOf u p1 = ((s_X0_firstOf u p1) + (s_X2_read u p1 1)) - 1 := hR
  exact W.iret (v := ((s_X0_firstOf u p1) + (s_X2_read u p1 1)) - 1) hx hb hr (fun t ht _ => ⟨congrArg (fun z => Outcome.returned (some (Value.int z))) hR.symm, ht⟩) (fun _ h => by cases h) dX0_lastOf_17
def s_X0_endVersine (u : xU) (p1 : Int32) : Int32 :=
  if (s_X2_read u p1 0) = 0 then
    0
  else
    if (s_X2_read u p1 0) = 3 then
      -(s_X2_read u p1 2)
    else
      if (s_X2_read u p1 0) = 5 then
        (s_X2_read u p1 2) / 2
      else
        s_X2_read u p1 2
abbrev rm_X0_endVersine : Room := { frames := 2, cells := 0, slots := 0, locals := 43 }
set_option maxHeartbeats 8000000 in
set_option maxRecDepth 100000 in
theorem c_X0_endVersine (l : Launch) (E : xG) (a : Nat → Nat) (u : xU) (p1 : Int32) : xRo l E yX0_endVersine wsX0_endVersine rm_X0_endVersine [.ref (a 7), .int p1] (wX E a u) (some (.int (s_X0_endVersine u p1))) := by
  refine xRo.of (cc := cX0_endVersine) (maxL := 3) (ret := (some .int)) (by decide) rfl (Nat.le_of_ble_eq_true rfl) ?_
  intro p e s m below meth c ls hAt hF hP hS hl
  obtain ⟨hx, hb, hr, hml, hown, hts, hlocks, -⟩ := hAt
  have hown : s.vm.findClass RX0 = some m.cls := hown
  have hl : lv_has ls 3 [(0, .ref (a 7)), (1, .int p1)] := hl
  have hK := hF.1
  have hA : ∀ q : Nat, (fun _ => False) q → xA0 E q := fun _ h => h.elim
  change W p l e rm_X0_endVersine s m ([.ref (a 7), .int p1] : List Value).toArray below meth c s.heap [] 0 0 (xQro below (some (.int (s_X0_endVersine u p1))) ([.ref (a 7), .int p1] : List Value).toArray s) _
  have hR : s_X0_endVersine u p1 = s_X0_endVersine u p1 := rfl
  refine lv_aload_n hx hb dX0_endVersine_0 rfl (lv_at hl 0 rfl) ?_
  refine va_get (D := xD E) (ci := 0) (v := .ref (a 1)) (C := RX0) (T := TX0) (N := 8) hx hb hts (by decide +kernel) hown hK hP 7 rfl rfl 0 (by decide) (hts (.fieldLink RX0 9 "RailOffsets$Line" "pieces" "LRailOffsets$Pieces;") (by decide +kernel)) (fun _ h => h) rfl dX0_endVersine_1 ?_
  refine lv_iload_n hx hb dX0_endVersine_4 rfl (lv_at hl 1 rfl) ?_
  refine lv_iconst (v := 2) hx hb dX0_endVersine_5 rfl ?_
  refine xRoV (nL := 3) ⟨hx, hb, hml, hown, hts⟩ (c_X2_read l E a u p1 2) (cwV 2 hts gX0_endVersine_X2_read rfl rfl rfl ⟨rfl, hd_X2_read⟩ ⟨(Nat.le_of_ble_eq_true rfl), (Nat.le_of_ble_eq_true rfl)⟩) hF hS hA hP (va_recv (q := (RX2, TX2, 2)) hK hP (ci := 2) rfl (q0 := 1) rfl) rfl hl.1 rfl (Nat.le_of_ble_eq_true rfl) ⟨(Nat.le_of_ble_eq_true rfl), (Nat.le_of_ble_eq_true rfl)⟩ dX0_endVersine_6 ?_
  refine W.eq (g2 := F0 m 9 ls [.int (s_X2_read u p1 2)]) rfl ?_
  refine lv_istore_n (lv' := [(2, .int (s_X2_read u p1 2)), (0, .ref (a 7)), (1, .int p1)]) hx hb dX0_endVersine_9 rfl hl (by decide) rfl (fun ls hl => ?_)
  refine lv_aload_n hx hb dX0_endVersine_10 rfl (lv_at hl 1 rfl) ?_
  refine va_get (D := xD E) (ci := 0) (v := .ref (a 1)) (C := RX0) (T := TX0) (N := 8) hx hb hts (by decide +kernel) hown hK hP 7 rfl rfl 0 (by decide) (hts (.fieldLink RX0 9 "RailOffsets$Line" "pieces" "LRailOffsets$Pieces;") (by decide +kernel)) (fun _ h => h) rfl dX0_endVersine_11 ?_
  refine lv_iload_n hx hb dX0_endVersine_14 rfl (lv_at hl 2 rfl) ?_
  refine lv_iconst (v := 0) hx hb dX0_endVersine_15 rfl ?_
  refine xRoV (nL := 3) ⟨hx, hb, hml, hown, hts⟩ (c_X2_read l E a u p1 0) (cwV 2 hts gX0_endVersine_X2_read rfl rfl rfl ⟨rfl, hd_X2_read⟩ ⟨(Nat.le_of_ble_eq_true rfl), (Nat.le_of_ble_eq_true rfl)⟩) hF hS hA hP (va_recv (q := (RX2, TX2, 2)) hK hP (ci := 2) rfl (q0 := 1) rfl) rfl hl.1 rfl (Nat.le_of_ble_eq_true rfl) ⟨(Nat.le_of_ble_eq_true rfl), (Nat.le_of_ble_eq_true rfl)⟩ dX0_endVersine_16 ?_
  refine W.eq (g2 := F0 m 19 ls [.int (s_X2_read u p1 0)]) rfl ?_
  by_cases q1 : (s_X2_read u p1 0) = 0
  · have hR := hR.trans (if_pos q1)
    refine lv_lookup (tgt := 52) (off := 33) hx hb dX0_endVersine_19 rfl (by rw [q1]; rfl) rfl ?_
    refine lv_iconst (v := 0) hx hb dX0_endVersine_52 rfl ?_
    have hR : s_X0_endVersine u p1 = 0 := hR
    exact W.iret (v := 0) hx hb hr (fun t ht _ => ⟨congrArg (fun z => Outcome.returned (some (Value.int z))) hR.symm, ht⟩) (fun _ h => by cases h) dX0_endVersine_53
  have hR := hR.trans (if_neg q1)
  by_cases q2 : (s_X2_read u p1 0) = 3
  · have hR := hR.trans (if_pos q2)
    refine lv_lookup (tgt := 54) (off := 35) hx hb dX0_endVersine_19 rfl (by rw [q2]; rfl) rfl ?_
    refine lv_iload_n hx hb dX0_endVersine_54 rfl (lv_at hl 0 rfl) ?_
    refine lv_ineg hx hb dX0_endVersine_55 ?_
    have hR : s_X0_endVersine u p1 = -(s_X2_read u p1 2) := hR
    exact W.iret (v := -(s_X2_read u p1 2)) hx hb hr (fun t ht _ => ⟨congrArg (fun z => Outcome.returned (some (Value.int z))) hR.symm, ht⟩) (fun _ h => by cases h) dX0_endVersine_56
  have hR := hR.trans (if_neg q2)
  by_cases q3 : (s_X2_read u p1 0) = 5
  · have hR := hR.trans (if_pos q3)
    refine lv_lookup (tgt := 57) (off := 38) hx hb dX0_endVersine_19 rfl (by rw [q3]; rfl) rfl ?_
    refine lv_iload_n hx hb dX0_endVersine_57 rfl (lv_at hl 0 rfl) ?_
    refine lv_iconst (v := 2) hx hb dX0_endVersine_58 rfl ?_
    refine lv_idiv hx hb dX0_endVersine_59 (by first | assumption | decide) ?_
    have hR : s_X0_endVersine u p1 = (s_X2_read u p1 2) / 2 := hR
    exact W.iret (v := (s_X2_read u p1 2) / 2) hx hb hr (fun t ht _ => ⟨congrArg (fun z => Outcome.returned (some (Value.int z))) hR.symm, ht⟩) (fun _ h => by cases h) dX0_endVersine_60
  have hR := hR.trans (if_neg q3)
  refine lv_lookup (tgt := 61) (off := 42) hx hb dX0_endVersine_19 rfl ((if_neg (fun h => q1 (Int32.toInt_inj.mp h.symm))).trans ((if_neg (fun h => q2 (Int32.toInt_inj.mp h.symm))).trans ((if_neg (fun h => q3 (Int32.toInt_inj.mp h.symm))).trans rfl))) rfl ?_
  refine lv_iload_n hx hb dX0_endVersine_61 rfl (lv_at hl 0 rfl) ?_
  have hR : s_X0_endVersine u p1 = s_X2_read u p1 2 := hR
  exact W.iret (v := s_X2_read u p1 2) hx hb hr (fun t ht _ => ⟨congrArg (fun z => Outcome.returned (some (Value.int z))) hR.symm, ht⟩) (fun _ h => by cases h) dX0_endVersine_62
theorem s_X5_cell_lt {n : Nat} {f : Nat → Int32} (hn : n < 2 ^ 31) (h : ∀ i, i < n → (f i).toInt < 2147483647) (i : Int32) : (s_X5_cell n f i).toInt < 2147483647 := by
  unfold s_X5_cell
  split
  · decide
  · split
    · decide
    · rename_i h1 h2
      rcases pk_ix i hn with q | q | ⟨j, hj, rfl⟩
      · exact absurd q h1
      · exact absurd q h2
      · rw [nI_clamp (by omega)]
        exact h j hj
theorem xrd {u : xU} (h : ∀ i, i < 40 → (u.1 2 i).toInt < 2147483647) (p f : Int32) : (s_X2_read u p f).toInt < 2147483647 := by
  unfold s_X2_read
  split
  · decide
  · split
    · exact s_X5_cell_lt (f := u.1 2) (by decide) h _
    · decide
def s_X0_turnOf_L55 : Nat → xU → Int32 → Int32 → Int32 → Int32 → Int32 → Int32 → Int32 → Int32
  | 0, _, _, _, _, _, _, _, _ => 0
  | n + 1, u, x1, x2, x3, x4, x5, x6, x7 =>
    if x3 < x7 then
      x6
    else
      s_X0_turnOf_L55 n u x1 x2 x3 x4 x5 (x6 + (s_X5_along x2 x5 x4 x7 x3)) (x7 + 1)
def s_X0_turnOf (u : xU) (p1 : Int32) : Int32 :=
  if (s_X5_isUnder (s_X2_read u p1 0) 2) = 0 then
    (s_X2_read u p1 1) * (s_X0_endVersine u p1)
  else
    s_X0_turnOf_L55 (((s_X2_read u p1 1).toInt + 1 - (1 : Int32).toInt).toNat + 1) u p1 (s_X2_read u p1 0) (s_X2_read u p1 1) (s_X0_endVersine u p1) (s_X0_endVersine u (p1 - 1)) 0 1
abbrev rm_X0_turnOf : Room := { frames := 3, cells := 0, slots := 0, locals := 65 }
set_option maxHeartbeats 8000000 in
set_option maxRecDepth 100000 in
theorem c_X0_turnOf (l : Launch) (E : xG) (a : Nat → Nat) (u : xU) (p1 : Int32) (hp0 : ∀ i, i < 40 → (u.1 2 i).toInt < 2147483647) : xRo l E yX0_turnOf wsX0_turnOf rm_X0_turnOf [.ref (a 7), .int p1] (wX E a u) (some (.int (s_X0_turnOf u p1))) := by
  refine xRo.of (cc := cX0_turnOf) (maxL := 8) (ret := (some .int)) (by decide) rfl (Nat.le_of_ble_eq_true rfl) ?_
  intro p e s m below meth c ls hAt hF hP hS hl
  obtain ⟨hx, hb, hr, hml, hown, hts, hlocks, -⟩ := hAt
  have hown : s.vm.findClass RX0 = some m.cls := hown
  have hl : lv_has ls 8 [(0, .ref (a 7)), (1, .int p1)] := hl
  have hK := hF.1
  have hA : ∀ q : Nat, (fun _ => False) q → xA0 E q := fun _ h => h.elim
  change W p l e rm_X0_turnOf s m ([.ref (a 7), .int p1] : List Value).toArray below meth c s.heap [] 0 0 (xQro below (some (.int (s_X0_turnOf u p1))) ([.ref (a 7), .int p1] : List Value).toArray s) _
  have hR : s_X0_turnOf u p1 = s_X0_turnOf u p1 := rfl
  refine lv_aload_n hx hb dX0_turnOf_0 rfl (lv_at hl 0 rfl) ?_
  refine va_get (D := xD E) (ci := 0) (v := .ref (a 1)) (C := RX0) (T := TX0) (N := 8) hx hb hts (by decide +kernel) hown hK hP 7 rfl rfl 0 (by decide) (hts (.fieldLink RX0 9 "RailOffsets$Line" "pieces" "LRailOffsets$Pieces;") (by decide +kernel)) (fun _ h => h) rfl dX0_turnOf_1 ?_
  refine lv_iload_n hx hb dX0_turnOf_4 rfl (lv_at hl 1 rfl) ?_
  refine lv_iconst (v := 0) hx hb dX0_turnOf_5 rfl ?_
  refine xRoV (nL := 8) ⟨hx, hb, hml, hown, hts⟩ (c_X2_read l E a u p1 0) (cwV 2 hts gX0_turnOf_X2_read rfl rfl rfl ⟨rfl, hd_X2_read⟩ ⟨(Nat.le_of_ble_eq_true rfl), (Nat.le_of_ble_eq_true rfl)⟩) hF hS hA hP (va_recv (q := (RX2, TX2, 2)) hK hP (ci := 2) rfl (q0 := 1) rfl) rfl hl.1 rfl (Nat.le_of_ble_eq_true rfl) ⟨(Nat.le_of_ble_eq_true rfl), (Nat.le_of_ble_eq_true rfl)⟩ dX0_turnOf_6 ?_
  refine W.eq (g2 := F0 m 9 ls [.int (s_X2_read u p1 0)]) rfl ?_
  refine lv_istore_n (lv' := [(2, .int (s_X2_read u p1 0)), (0, .ref (a 7)), (1, .int p1)]) hx hb dX0_turnOf_9 rfl hl (by decide) rfl (fun ls hl => ?_)
  refine lv_aload_n hx hb dX0_turnOf_10 rfl (lv_at hl 1 rfl) ?_
  refine va_get (D := xD E) (ci := 0) (v := .ref (a 1)) (C := RX0) (T := TX0) (N := 8) hx hb hts (by decide +kernel) hown hK hP 7 rfl rfl 0 (by decide) (hts (.fieldLink RX0 9 "RailOffsets$Line" "pieces" "LRailOffsets$Pieces;") (by decide +kernel)) (fun _ h => h) rfl dX0_turnOf_11 ?_
  refine lv_iload_n hx hb dX0_turnOf_14 rfl (lv_at hl 2 rfl) ?_
  refine lv_iconst (v := 1) hx hb dX0_turnOf_15 rfl ?_
  refine xRoV (nL := 8) ⟨hx, hb, hml, hown, hts⟩ (c_X2_read l E a u p1 1) (cwV 2 hts gX0_turnOf_X2_read rfl rfl rfl ⟨rfl, hd_X2_read⟩ ⟨(Nat.le_of_ble_eq_true rfl), (Nat.le_of_ble_eq_true rfl)⟩) hF hS hA hP (va_recv (q := (RX2, TX2, 2)) hK hP (ci := 2) rfl (q0 := 1) rfl) rfl hl.1 rfl (Nat.le_of_ble_eq_true rfl) ⟨(Nat.le_of_ble_eq_true rfl), (Nat.le_of_ble_eq_true rfl)⟩ dX0_turnOf_16 ?_
  refine W.eq (g2 := F0 m 19 ls [.int (s_X2_read u p1 1)]) rfl ?_
  refine lv_istore_n (lv' := [(3, .int (s_X2_read u p1 1)), (2, .int (s_X2_read u p1 0)), (0, .ref (a 7)), (1, .int p1)]) hx hb dX0_turnOf_19 rfl hl (by decide) rfl (fun ls hl => ?_)
  refine lv_aload_n hx hb dX0_turnOf_20 rfl (lv_at hl 2 rfl) ?_
  refine lv_iload_n hx hb dX0_turnOf_21 rfl (lv_at hl 3 rfl) ?_
  refine xRoV (nL := 8) ⟨hx, hb, hml, hown, hts⟩ (c_X0_endVersine l E a u p1) (cwV 1 hts gX0_turnOf_X0_endVersine rfl rfl rfl ⟨rfl, hd_X0_endVersine⟩ ⟨(Nat.le_of_ble_eq_true rfl), (Nat.le_of_ble_eq_true rfl)⟩) hF hS hA hP (va_recv (q := (RX0, TX0, 8)) hK hP (ci := 0) rfl (q0 := 7) rfl) rfl hl.1 rfl (Nat.le_of_ble_eq_true rfl) ⟨(Nat.le_of_ble_eq_true rfl), (Nat.le_of_ble_eq_true rfl)⟩ dX0_turnOf_22 ?_
  refine W.eq (g2 := F0 m 25 ls [.int (s_X0_endVersine u p1)]) rfl ?_
  refine lv_istore (lv' := [(4, .int (s_X0_endVersine u p1)), (3, .int (s_X2_read u p1 1)), (2, .int (s_X2_read u p1 0)), (0, .ref (a 7)), (1, .int p1)]) hx hb dX0_turnOf_25 hl (by decide) rfl (fun ls hl => ?_)
  refine lv_iload_n hx hb dX0_turnOf_27 rfl (lv_at hl 2 rfl) ?_
  refine lv_iconst (v := 2) hx hb dX0_turnOf_28 rfl ?_
  refine xRoSN (nL := 8) ⟨hx, hb, hml, hown, hts⟩ (c_X5_isUnder l E (s_X2_read u p1 0) 2) ⟨va_cnB (own := RX0) (host := RX5) (index := 78) (y := yX5_isUnder) 2 hts gX0_turnOf_X5_isUnder_n78 rfl rfl rfl (hF.2.1.1 (RX0, 78, yX5_isUnder) (List.mem_of_getElem? (i := 5) rfl)) (hts (.initialized RX5) (by decide +kernel)) hd_X5_isUnder ⟨(Nat.le_of_ble_eq_true rfl), (Nat.le_of_ble_eq_true rfl)⟩, hts (.static yX5_isUnder) (by decide +kernel), trivial⟩ hF hS hA (hP.sub [] rfl) rfl hl.1 rfl (Nat.le_of_ble_eq_true rfl) ⟨(Nat.le_of_ble_eq_true rfl), (Nat.le_of_ble_eq_true rfl)⟩ dX0_turnOf_29 ?_
  refine W.eq (g2 := F0 m 32 ls [.int (s_X5_isUnder (s_X2_read u p1 0) 2)]) rfl ?_
  refine lv_if_ne (tgt := 40) hx hb dX0_turnOf_32 rfl (fun q1 => ?_) (fun q1 => ?_)
  · have hR := hR.trans (if_neg q1)
    refine lv_aload_n hx hb dX0_turnOf_40 rfl (lv_at hl 3 rfl) ?_
    refine lv_iload_n hx hb dX0_turnOf_41 rfl (lv_at hl 4 rfl) ?_
    refine lv_iconst (v := 1) hx hb dX0_turnOf_42 rfl ?_
    refine lv_isub hx hb dX0_turnOf_43 ?_
    refine xRoV (nL := 8) ⟨hx, hb, hml, hown, hts⟩ (c_X0_endVersine l E a u (p1 - 1)) (cwV 1 hts gX0_turnOf_X0_endVersine rfl rfl rfl ⟨rfl, hd_X0_endVersine⟩ ⟨(Nat.le_of_ble_eq_true rfl), (Nat.le_of_ble_eq_true rfl)⟩) hF hS hA hP (va_recv (q := (RX0, TX0, 8)) hK hP (ci := 0) rfl (q0 := 7) rfl) rfl hl.1 rfl (Nat.le_of_ble_eq_true rfl) ⟨(Nat.le_of_ble_eq_true rfl), (Nat.le_of_ble_eq_true rfl)⟩ dX0_turnOf_44 ?_
    refine W.eq (g2 := F0 m 47 ls [.int (s_X0_endVersine u (p1 - 1))]) rfl ?_
    refine lv_istore (lv' := [(5, .int (s_X0_endVersine u (p1 - 1))), (4, .int (s_X0_endVersine u p1)), (3, .int (s_X2_read u p1 1)), (2, .int (s_X2_read u p1 0)), (0, .ref (a 7)), (1, .int p1)]) hx hb dX0_turnOf_47 hl (by decide) rfl (fun ls hl => ?_)
    refine lv_iconst (v := 0) hx hb dX0_turnOf_49 rfl ?_
    refine lv_istore (lv' := [(6, .int 0), (5, .int (s_X0_endVersine u (p1 - 1))), (4, .int (s_X0_endVersine u p1)), (3, .int (s_X2_read u p1 1)), (2, .int (s_X2_read u p1 0)), (0, .ref (a 7)), (1, .int p1)]) hx hb dX0_turnOf_50 hl (by decide) rfl (fun ls hl => ?_)
    refine lv_iconst (v := 1) hx hb dX0_turnOf_52 rfl ?_
    refine lv_istore (lv' := [(7, .int 1), (6, .int 0), (5, .int (s_X0_endVersine u (p1 - 1))), (4, .int (s_X0_endVersine u p1)), (3, .int (s_X2_read u p1 1)), (2, .int (s_X2_read u p1 0)), (0, .ref (a 7)), (1, .int p1)]) hx hb dX0_turnOf_53 hl (by decide) rfl (fun ls hl => ?_)
    have L55 : ∀ (n55 : Nat) (x6 : Int32) (x7 : Int32) (ls : Array Slot), ((s_X2_read u p1 1).toInt + 1 - x7.toInt).toNat < n55 → s_X0_turnOf u p1 = s_X0_turnOf_L55 n55 u p1 (s_X2_read u p1 0) (s_X2_read u p1 1) (s_X0_endVersine u p1) (s_X0_endVersine u (p1 - 1)) x6 x7 → lv_has ls 8 [(7, .int x7), (6, .int x6), (5, .int (s_X0_endVersine u (p1 - 1))), (4, .int (s_X0_endVersine u p1)), (3, .int (s_X2_read u p1 1)), (2, .int (s_X2_read u p1 0)), (0, .ref (a 7)), (1, .int p1)] → W p l e rm_X0_turnOf s m ([.ref (a 7), .int p1] : List Value).toArray below meth c s.heap [] 0 0 (xQro below (some (.int (s_X0_turnOf u p1))) ([.ref (a 7), .int p1] : List Value).toArray s) (F0 m 55 ls []) := by
      intro n55
      induction n55 with
      | zero => intro x6 x7 ls hM55 hR hl; exact absurd hM55 (Nat.not_lt_zero _)
      | succ n55 ih55 =>
        intro x6 x7 ls hM55 hR hl
        refine lv_iload hx hb dX0_turnOf_55 (lv_at hl 0 rfl) ?_
        refine lv_iload_n hx hb dX0_turnOf_57 rfl (lv_at hl 4 rfl) ?_
        refine lv_icmp_gt (tgt := 83) hx hb dX0_turnOf_58 rfl (fun q2 => ?_) (fun q2 => ?_)
        · have hR := hR.trans (if_pos q2)
          refine lv_iload hx hb dX0_turnOf_83 (lv_at hl 1 rfl) ?_
          have hR : s_X0_turnOf u p1 = x6 := hR
          exact W.iret (v := x6) hx hb hr (fun t ht _ => ⟨congrArg (fun z => Outcome.returned (some (Value.int z))) hR.symm, ht⟩) (fun _ h => by cases h) dX0_turnOf_85
        · have hR := hR.trans (if_neg q2)
          refine lv_iload hx hb dX0_turnOf_61 (lv_at hl 1 rfl) ?_
          refine lv_iload_n hx hb dX0_turnOf_63 rfl (lv_at hl 5 rfl) ?_
          refine lv_iload hx hb dX0_turnOf_64 (lv_at hl 2 rfl) ?_
          refine lv_iload hx hb dX0_turnOf_66 (lv_at hl 3 rfl) ?_
          refine lv_iload hx hb dX0_turnOf_68 (lv_at hl 0 rfl) ?_
          refine lv_iload_n hx hb dX0_turnOf_70 rfl (lv_at hl 4 rfl) ?_
          refine xRoSN (nL := 8) ⟨hx, hb, hml, hown, hts⟩ (c_X5_along l E (s_X2_read u p1 0) (s_X0_endVersine u (p1 - 1)) (s_X0_endVersine u p1) x7 (s_X2_read u p1 1)) ⟨va_cnB (own := RX0) (host := RX5) (index := 70) (y := yX5_along) 5 hts gX0_turnOf_X5_along_n70 rfl rfl rfl (hF.2.1.1 (RX0, 70, yX5_along) (List.mem_of_getElem? (i := 4) rfl)) (hts (.initialized RX5) (by decide +kernel)) hd_X5_along ⟨(Nat.le_of_ble_eq_true rfl), (Nat.le_of_ble_eq_true rfl)⟩, hts (.static yX5_along) (by decide +kernel), trivial⟩ hF hS hA (hP.sub [] rfl) rfl hl.1 rfl (Nat.le_of_ble_eq_true rfl) ⟨(Nat.le_of_ble_eq_true rfl), (Nat.le_of_ble_eq_true rfl)⟩ dX0_turnOf_71 ?_
          refine W.eq (g2 := F0 m 74 ls [.int (s_X5_along (s_X2_read u p1 0) (s_X0_endVersine u (p1 - 1)) (s_X0_endVersine u p1) x7 (s_X2_read u p1 1)), .int x6]) rfl ?_
          refine lv_iadd hx hb dX0_turnOf_74 ?_
          refine lv_istore (lv' := [(6, .int (x6 + (s_X5_along (s_X2_read u p1 0) (s_X0_endVersine u (p1 - 1)) (s_X0_endVersine u p1) x7 (s_X2_read u p1 1)))), (7, .int x7), (5, .int (s_X0_endVersine u (p1 - 1))), (4, .int (s_X0_endVersine u p1)), (3, .int (s_X2_read u p1 1)), (2, .int (s_X2_read u p1 0)), (0, .ref (a 7)), (1, .int p1)]) hx hb dX0_turnOf_75 hl (by decide) rfl (fun ls hl => ?_)
          refine lv_iinc (k := 1) (v := x7 + 1) (lv' := [(7, .int (x7 + 1)), (6, .int (x6 + (s_X5_along (s_X2_read u p1 0) (s_X0_endVersine u (p1 - 1)) (s_X0_endVersine u p1) x7 (s_X2_read u p1 1)))), (5, .int (s_X0_endVersine u (p1 - 1))), (4, .int (s_X0_endVersine u p1)), (3, .int (s_X2_read u p1 1)), (2, .int (s_X2_read u p1 0)), (0, .ref (a 7)), (1, .int p1)]) hx hb dX0_turnOf_77 hl rfl rfl (by decide) rfl (fun ls hl => ?_)
          refine lv_goto (tgt := 55) hx hb dX0_turnOf_80 rfl ?_
          exact ih55 (x6 + (s_X5_along (s_X2_read u p1 0) (s_X0_endVersine u (p1 - 1)) (s_X0_endVersine u p1) x7 (s_X2_read u p1 1))) (x7 + 1) _ (Nat.lt_of_lt_of_le (xupl q2 (xrd hp0 _ _)) (Nat.le_of_lt_succ hM55)) hR (lv_sub hl [0, 1, 2, 3, 4, 5, 6, 7] rfl)
    exact L55 (((s_X2_read u p1 1).toInt + 1 - (1 : Int32).toInt).toNat + 1) 0 1 ls (Nat.lt_succ_self _) hR hl
  · have hR := hR.trans (if_pos q1)
    refine lv_iload_n hx hb dX0_turnOf_35 rfl (lv_at hl 1 rfl) ?_
    refine lv_iload hx hb dX0_turnOf_36 (lv_at hl 0 rfl) ?_
    refine lv_imul hx hb dX0_turnOf_38 ?_
    have hR : s_X0_turnOf u p1 = (s_X2_read u p1 1) * (s_X0_endVersine u p1) := hR
    exact W.iret (v := (s_X2_read u p1 1) * (s_X0_endVersine u p1)) hx hb hr (fun t ht _ => ⟨congrArg (fun z => Outcome.returned (some (Value.int z))) hR.symm, ht⟩) (fun _ h => by cases h) dX0_turnOf_39
def s_X0_offsetOf_L56 : Nat → xU → Int32 → Int32 → Int32 → Int32 → Int32 → Int32 → Int32 → Int32 → Int32
  | 0, _, _, _, _, _, _, _, _, _ => 0
  | n + 1, u, x1, x2, x3, x4, x5, x6, x7, x8 =>
    if x3 < x8 then
      x7
    else
      s_X0_offsetOf_L56 n u x1 x2 x3 x4 x5 x6 (x7 + ((s_X5_along x2 x4 x5 x8 x3) * (x6 - x8))) (x8 + 1)
def s_X0_offsetOf (u : xU) (p1 : Int32) : Int32 :=
  s_X0_offsetOf_L56 (((s_X2_read u p1 1).toInt + 1 - (1 : Int32).toInt).toNat + 1) u p1 (s_X2_read u p1 0) (s_X2_read u p1 1) (s_X0_endVersine u (p1 - 1)) (s_X0_endVersine u p1) (((u.2 3) - (s_X0_firstOf u p1)) + 2) 0 1
abbrev rm_X0_offsetOf : Room := { frames := 3, cells := 0, slots := 0, locals := 65 }
set_option maxHeartbeats 8000000 in
set_option maxRecDepth 100000 in
theorem c_X0_offsetOf (l : Launch) (E : xG) (a : Nat → Nat) (u : xU) (p1 : Int32) (hp0 : ∀ i, i < 40 → (u.1 2 i).toInt < 2147483647) : xRo l E yX0_offsetOf wsX0_offsetOf rm_X0_offsetOf [.ref (a 7), .int p1] (wX E a u) (some (.int (s_X0_offsetOf u p1))) := by
  refine xRo.of (cc := cX0_offsetOf) (maxL := 9) (ret := (some .int)) (by decide) rfl (Nat.le_of_ble_eq_true rfl) ?_
  intro p e s m below meth c ls hAt hF hP hS hl
  obtain ⟨hx, hb, hr, hml, hown, hts, hlocks, -⟩ := hAt
  have hown : s.vm.findClass RX0 = some m.cls := hown
  have hl : lv_has ls 9 [(0, .ref (a 7)), (1, .int p1)] := hl
  have hK := hF.1
  have hA : ∀ q : Nat, (fun _ => False) q → xA0 E q := fun _ h => h.elim
  change W p l e rm_X0_offsetOf s m ([.ref (a 7), .int p1] : List Value).toArray below meth c s.heap [] 0 0 (xQro below (some (.int (s_X0_offsetOf u p1))) ([.ref (a 7), .int p1] : List Value).toArray s) _
  have hR : s_X0_offsetOf u p1 = s_X0_offsetOf u p1 := rfl
  refine lv_aload_n hx hb dX0_offsetOf_0 rfl (lv_at hl 0 rfl) ?_
  refine va_get (D := xD E) (ci := 0) (v := .ref (a 1)) (C := RX0) (T := TX0) (N := 8) hx hb hts (by decide +kernel) hown hK hP 7 rfl rfl 0 (by decide) (hts (.fieldLink RX0 9 "RailOffsets$Line" "pieces" "LRailOffsets$Pieces;") (by decide +kernel)) (fun _ h => h) rfl dX0_offsetOf_1 ?_
  refine lv_iload_n hx hb dX0_offsetOf_4 rfl (lv_at hl 1 rfl) ?_
  refine lv_iconst (v := 0) hx hb dX0_offsetOf_5 rfl ?_
  refine xRoV (nL := 9) ⟨hx, hb, hml, hown, hts⟩ (c_X2_read l E a u p1 0) (cwV 2 hts gX0_offsetOf_X2_read rfl rfl rfl ⟨rfl, hd_X2_read⟩ ⟨(Nat.le_of_ble_eq_true rfl), (Nat.le_of_ble_eq_true rfl)⟩) hF hS hA hP (va_recv (q := (RX2, TX2, 2)) hK hP (ci := 2) rfl (q0 := 1) rfl) rfl hl.1 rfl (Nat.le_of_ble_eq_true rfl) ⟨(Nat.le_of_ble_eq_true rfl), (Nat.le_of_ble_eq_true rfl)⟩ dX0_offsetOf_6 ?_
  refine W.eq (g2 := F0 m 9 ls [.int (s_X2_read u p1 0)]) rfl ?_
  refine lv_istore_n (lv' := [(2, .int (s_X2_read u p1 0)), (0, .ref (a 7)), (1, .int p1)]) hx hb dX0_offsetOf_9 rfl hl (by decide) rfl (fun ls hl => ?_)
  refine lv_aload_n hx hb dX0_offsetOf_10 rfl (lv_at hl 1 rfl) ?_
  refine va_get (D := xD E) (ci := 0) (v := .ref (a 1)) (C := RX0) (T := TX0) (N := 8) hx hb hts (by decide +kernel) hown hK hP 7 rfl rfl 0 (by decide) (hts (.fieldLink RX0 9 "RailOffsets$Line" "pieces" "LRailOffsets$Pieces;") (by decide +kernel)) (fun _ h => h) rfl dX0_offsetOf_11 ?_
  refine lv_iload_n hx hb dX0_offsetOf_14 rfl (lv_at hl 2 rfl) ?_
  refine lv_iconst (v := 1) hx hb dX0_offsetOf_15 rfl ?_
  refine xRoV (nL := 9) ⟨hx, hb, hml, hown, hts⟩ (c_X2_read l E a u p1 1) (cwV 2 hts gX0_offsetOf_X2_read rfl rfl rfl ⟨rfl, hd_X2_read⟩ ⟨(Nat.le_of_ble_eq_true rfl), (Nat.le_of_ble_eq_true rfl)⟩) hF hS hA hP (va_recv (q := (RX2, TX2, 2)) hK hP (ci := 2) rfl (q0 := 1) rfl) rfl hl.1 rfl (Nat.le_of_ble_eq_true rfl) ⟨(Nat.le_of_ble_eq_true rfl), (Nat.le_of_ble_eq_true rfl)⟩ dX0_offsetOf_16 ?_
  refine W.eq (g2 := F0 m 19 ls [.int (s_X2_read u p1 1)]) rfl ?_
  refine lv_istore_n (lv' := [(3, .int (s_X2_read u p1 1)), (2, .int (s_X2_read u p1 0)), (0, .ref (a 7)), (1, .int p1)]) hx hb dX0_offsetOf_19 rfl hl (by decide) rfl (fun ls hl => ?_)
  refine lv_aload_n hx hb dX0_offsetOf_20 rfl (lv_at hl 2 rfl) ?_
  refine lv_iload_n hx hb dX0_offsetOf_21 rfl (lv_at hl 3 rfl) ?_
  refine lv_iconst (v := 1) hx hb dX0_offsetOf_22 rfl ?_
  refine lv_isub hx hb dX0_offsetOf_23 ?_
  refine xRoV (nL := 9) ⟨hx, hb, hml, hown, hts⟩ (c_X0_endVersine l E a u (p1 - 1)) (cwV 1 hts gX0_offsetOf_X0_endVersine rfl rfl rfl ⟨rfl, hd_X0_endVersine⟩ ⟨(Nat.le_of_ble_eq_true rfl), (Nat.le_of_ble_eq_true rfl)⟩) hF hS hA hP (va_recv (q := (RX0, TX0, 8)) hK hP (ci := 0) rfl (q0 := 7) rfl) rfl hl.1 rfl (Nat.le_of_ble_eq_true rfl) ⟨(Nat.le_of_ble_eq_true rfl), (Nat.le_of_ble_eq_true rfl)⟩ dX0_offsetOf_24 ?_
  refine W.eq (g2 := F0 m 27 ls [.int (s_X0_endVersine u (p1 - 1))]) rfl ?_
  refine lv_istore (lv' := [(4, .int (s_X0_endVersine u (p1 - 1))), (3, .int (s_X2_read u p1 1)), (2, .int (s_X2_read u p1 0)), (0, .ref (a 7)), (1, .int p1)]) hx hb dX0_offsetOf_27 hl (by decide) rfl (fun ls hl => ?_)
  refine lv_aload_n hx hb dX0_offsetOf_29 rfl (lv_at hl 3 rfl) ?_
  refine lv_iload_n hx hb dX0_offsetOf_30 rfl (lv_at hl 4 rfl) ?_
  refine xRoV (nL := 9) ⟨hx, hb, hml, hown, hts⟩ (c_X0_endVersine l E a u p1) (cwV 1 hts gX0_offsetOf_X0_endVersine rfl rfl rfl ⟨rfl, hd_X0_endVersine⟩ ⟨(Nat.le_of_ble_eq_true rfl), (Nat.le_of_ble_eq_true rfl)⟩) hF hS hA hP (va_recv (q := (RX0, TX0, 8)) hK hP (ci := 0) rfl (q0 := 7) rfl) rfl hl.1 rfl (Nat.le_of_ble_eq_true rfl) ⟨(Nat.le_of_ble_eq_true rfl), (Nat.le_of_ble_eq_true rfl)⟩ dX0_offsetOf_31 ?_
  refine W.eq (g2 := F0 m 34 ls [.int (s_X0_endVersine u p1)]) rfl ?_
  refine lv_istore (lv' := [(5, .int (s_X0_endVersine u p1)), (4, .int (s_X0_endVersine u (p1 - 1))), (3, .int (s_X2_read u p1 1)), (2, .int (s_X2_read u p1 0)), (0, .ref (a 7)), (1, .int p1)]) hx hb dX0_offsetOf_34 hl (by decide) rfl (fun ls hl => ?_)
  refine lv_aload_n hx hb dX0_offsetOf_36 rfl (lv_at hl 4 rfl) ?_
  refine va_get (D := xD E) (ci := 0) (v := .int (u.2 3)) (C := RX0) (T := TX0) (N := 8) hx hb hts (by decide +kernel) hown hK hP 7 rfl rfl 7 (by decide) (hts (.fieldLink RX0 34 "RailOffsets$Line" "stations" "I") (by decide +kernel)) (fun _ h => h) rfl dX0_offsetOf_37 ?_
  refine lv_aload_n hx hb dX0_offsetOf_40 rfl (lv_at hl 4 rfl) ?_
  refine lv_iload_n hx hb dX0_offsetOf_41 rfl (lv_at hl 5 rfl) ?_
  refine xRoV (nL := 9) ⟨hx, hb, hml, hown, hts⟩ (c_X0_firstOf l E a u p1) (cwV 1 hts gX0_offsetOf_X0_firstOf rfl rfl rfl ⟨rfl, hd_X0_firstOf⟩ ⟨(Nat.le_of_ble_eq_true rfl), (Nat.le_of_ble_eq_true rfl)⟩) hF hS hA hP (va_recv (q := (RX0, TX0, 8)) hK hP (ci := 0) rfl (q0 := 7) rfl) rfl hl.1 rfl (Nat.le_of_ble_eq_true rfl) ⟨(Nat.le_of_ble_eq_true rfl), (Nat.le_of_ble_eq_true rfl)⟩ dX0_offsetOf_42 ?_
  refine W.eq (g2 := F0 m 45 ls [.int (s_X0_firstOf u p1), .int (u.2 3)]) rfl ?_
  refine lv_isub hx hb dX0_offsetOf_45 ?_
  refine lv_iconst (v := 2) hx hb dX0_offsetOf_46 rfl ?_
  refine lv_iadd hx hb dX0_offsetOf_47 ?_
  refine lv_istore (lv' := [(6, .int (((u.2 3) - (s_X0_firstOf u p1)) + 2)), (5, .int (s_X0_endVersine u p1)), (4, .int (s_X0_endVersine u (p1 - 1))), (3, .int (s_X2_read u p1 1)), (2, .int (s_X2_read u p1 0)), (0, .ref (a 7)), (1, .int p1)]) hx hb dX0_offsetOf_48 hl (by decide) rfl (fun ls hl => ?_)
  refine lv_iconst (v := 0) hx hb dX0_offsetOf_50 rfl ?_
  refine lv_istore (lv' := [(7, .int 0), (6, .int (((u.2 3) - (s_X0_firstOf u p1)) + 2)), (5, .int (s_X0_endVersine u p1)), (4, .int (s_X0_endVersine u (p1 - 1))), (3, .int (s_X2_read u p1 1)), (2, .int (s_X2_read u p1 0)), (0, .ref (a 7)), (1, .int p1)]) hx hb dX0_offsetOf_51 hl (by decide) rfl (fun ls hl => ?_)
  refine lv_iconst (v := 1) hx hb dX0_offsetOf_53 rfl ?_
  refine lv_istore (lv' := [(8, .int 1), (7, .int 0), (6, .int (((u.2 3) - (s_X0_firstOf u p1)) + 2)), (5, .int (s_X0_endVersine u p1)), (4, .int (s_X0_endVersine u (p1 - 1))), (3, .int (s_X2_read u p1 1)), (2, .int (s_X2_read u p1 0)), (0, .ref (a 7)), (1, .int p1)]) hx hb dX0_offsetOf_54 hl (by decide) rfl (fun ls hl => ?_)
  have L56 : ∀ (n56 : Nat) (x7 : Int32) (x8 : Int32) (ls : Array Slot), ((s_X2_read u p1 1).toInt + 1 - x8.toInt).toNat < n56 → s_X0_offsetOf u p1 = s_X0_offsetOf_L56 n56 u p1 (s_X2_read u p1 0) (s_X2_read u p1 1) (s_X0_endVersine u (p1 - 1)) (s_X0_endVersine u p1) (((u.2 3) - (s_X0_firstOf u p1)) + 2) x7 x8 → lv_has ls 9 [(8, .int x8), (7, .int x7), (6, .int (((u.2 3) - (s_X0_firstOf u p1)) + 2)), (5, .int (s_X0_endVersine u p1)), (4, .int (s_X0_endVersine u (p1 - 1))), (3, .int (s_X2_read u p1 1)), (2, .int (s_X2_read u p1 0)), (0, .ref (a 7)), (1, .int p1)] → W p l e rm_X0_offsetOf s m ([.ref (a 7), .int p1] : List Value).toArray below meth c s.heap [] 0 0 (xQro below (some (.int (s_X0_offsetOf u p1))) ([.ref (a 7), .int p1] : List Value).toArray s) (F0 m 56 ls []) := by
    intro n56
    induction n56 with
    | zero => intro x7 x8 ls hM56 hR hl; exact absurd hM56 (Nat.not_lt_zero _)
    | succ n56 ih56 =>
      intro x7 x8 ls hM56 hR hl
      refine lv_iload hx hb dX0_offsetOf_56 (lv_at hl 0 rfl) ?_
      refine lv_iload_n hx hb dX0_offsetOf_58 rfl (lv_at hl 5 rfl) ?_
      refine lv_icmp_gt (tgt := 90) hx hb dX0_offsetOf_59 rfl (fun q1 => ?_) (fun q1 => ?_)
      · have hR := hR.trans (if_pos q1)
        refine lv_iload hx hb dX0_offsetOf_90 (lv_at hl 1 rfl) ?_
        have hR : s_X0_offsetOf u p1 = x7 := hR
        exact W.iret (v := x7) hx hb hr (fun t ht _ => ⟨congrArg (fun z => Outcome.returned (some (Value.int z))) hR.symm, ht⟩) (fun _ h => by cases h) dX0_offsetOf_92
      · have hR := hR.trans (if_neg q1)
        refine lv_iload hx hb dX0_offsetOf_62 (lv_at hl 1 rfl) ?_
        refine lv_iload_n hx hb dX0_offsetOf_64 rfl (lv_at hl 6 rfl) ?_
        refine lv_iload hx hb dX0_offsetOf_65 (lv_at hl 4 rfl) ?_
        refine lv_iload hx hb dX0_offsetOf_67 (lv_at hl 3 rfl) ?_
        refine lv_iload hx hb dX0_offsetOf_69 (lv_at hl 0 rfl) ?_
        refine lv_iload_n hx hb dX0_offsetOf_71 rfl (lv_at hl 5 rfl) ?_
        refine xRoSN (nL := 9) ⟨hx, hb, hml, hown, hts⟩ (c_X5_along l E (s_X2_read u p1 0) (s_X0_endVersine u (p1 - 1)) (s_X0_endVersine u p1) x8 (s_X2_read u p1 1)) ⟨va_cnB (own := RX0) (host := RX5) (index := 70) (y := yX5_along) 5 hts gX0_offsetOf_X5_along_n70 rfl rfl rfl (hF.2.1.1 (RX0, 70, yX5_along) (List.mem_of_getElem? (i := 4) rfl)) (hts (.initialized RX5) (by decide +kernel)) hd_X5_along ⟨(Nat.le_of_ble_eq_true rfl), (Nat.le_of_ble_eq_true rfl)⟩, hts (.static yX5_along) (by decide +kernel), trivial⟩ hF hS hA (hP.sub [] rfl) rfl hl.1 rfl (Nat.le_of_ble_eq_true rfl) ⟨(Nat.le_of_ble_eq_true rfl), (Nat.le_of_ble_eq_true rfl)⟩ dX0_offsetOf_72 ?_
        refine W.eq (g2 := F0 m 75 ls [.int (s_X5_along (s_X2_read u p1 0) (s_X0_endVersine u (p1 - 1)) (s_X0_endVersine u p1) x8 (s_X2_read u p1 1)), .int x7]) rfl ?_
        refine lv_iload hx hb dX0_offsetOf_75 (lv_at hl 2 rfl) ?_
        refine lv_iload hx hb dX0_offsetOf_77 (lv_at hl 0 rfl) ?_
        refine lv_isub hx hb dX0_offsetOf_79 ?_
        refine lv_imul hx hb dX0_offsetOf_80 ?_
        refine lv_iadd hx hb dX0_offsetOf_81 ?_
        refine lv_istore (lv' := [(7, .int (x7 + ((s_X5_along (s_X2_read u p1 0) (s_X0_endVersine u (p1 - 1)) (s_X0_endVersine u p1) x8 (s_X2_read u p1 1)) * ((((u.2 3) - (s_X0_firstOf u p1)) + 2) - x8)))), (8, .int x8), (6, .int (((u.2 3) - (s_X0_firstOf u p1)) + 2)), (5, .int (s_X0_endVersine u p1)), (4, .int (s_X0_endVersine u (p1 - 1))), (3, .int (s_X2_read u p1 1)), (2, .int (s_X2_read u p1 0)), (0, .ref (a 7)), (1, .int p1)]) hx hb dX0_offsetOf_82 hl (by decide) rfl (fun ls hl => ?_)
        refine lv_iinc (k := 1) (v := x8 + 1) (lv' := [(8, .int (x8 + 1)), (7, .int (x7 + ((s_X5_along (s_X2_read u p1 0) (s_X0_endVersine u (p1 - 1)) (s_X0_endVersine u p1) x8 (s_X2_read u p1 1)) * ((((u.2 3) - (s_X0_firstOf u p1)) + 2) - x8)))), (6, .int (((u.2 3) - (s_X0_firstOf u p1)) + 2)), (5, .int (s_X0_endVersine u p1)), (4, .int (s_X0_endVersine u (p1 - 1))), (3, .int (s_X2_read u p1 1)), (2, .int (s_X2_read u p1 0)), (0, .ref (a 7)), (1, .int p1)]) hx hb dX0_offsetOf_84 hl rfl rfl (by decide) rfl (fun ls hl => ?_)
        refine lv_goto (tgt := 56) hx hb dX0_offsetOf_87 rfl ?_
        exact ih56 (x7 + ((s_X5_along (s_X2_read u p1 0) (s_X0_endVersine u (p1 - 1)) (s_X0_endVersine u p1) x8 (s_X2_read u p1 1)) * ((((u.2 3) - (s_X0_firstOf u p1)) + 2) - x8))) (x8 + 1) _ (Nat.lt_of_lt_of_le (xupl q1 (xrd hp0 _ _)) (Nat.le_of_lt_succ hM56)) hR (lv_sub hl [0, 1, 2, 3, 4, 5, 6, 7, 8] rfl)
  exact L56 (((s_X2_read u p1 1).toInt + 1 - (1 : Int32).toInt).toNat + 1) 0 1 ls (Nat.lt_succ_self _) hR hl
def s_X0_turnBut_L4 : Nat → xU → Int32 → Int32 → Int32 → Int32
  | 0, _, _, _, _ => 0
  | n + 1, u, x1, x2, x3 =>
    if (u.2 1) ≤ x3 then
      x2
    else
      if x3 = x1 then
        s_X0_turnBut_L4 n u x1 x2 (x3 + 1)
      else
        if x3 = (x1 + 1) then
          s_X0_turnBut_L4 n u x1 x2 (x3 + 1)
        else
          s_X0_turnBut_L4 n u x1 (x2 + (s_X0_turnOf u x3)) (x3 + 1)
def s_X0_turnBut (u : xU) (p1 : Int32) : Int32 :=
  s_X0_turnBut_L4 (((u.2 1).toInt - (0 : Int32).toInt).toNat + 1) u p1 0 0
abbrev rm_X0_turnBut : Room := { frames := 4, cells := 0, slots := 0, locals := 92 }
set_option maxHeartbeats 8000000 in
set_option maxRecDepth 100000 in
theorem c_X0_turnBut (l : Launch) (E : xG) (a : Nat → Nat) (u : xU) (p1 : Int32) (hp0 : ∀ i, i < 40 → (u.1 2 i).toInt < 2147483647) : xRo l E yX0_turnBut wsX0_turnBut rm_X0_turnBut [.ref (a 7), .int p1] (wX E a u) (some (.int (s_X0_turnBut u p1))) := by
  refine xRo.of (cc := cX0_turnBut) (maxL := 4) (ret := (some .int)) (by decide) rfl (Nat.le_of_ble_eq_true rfl) ?_
  intro p e s m below meth c ls hAt hF hP hS hl
  obtain ⟨hx, hb, hr, hml, hown, hts, hlocks, -⟩ := hAt
  have hown : s.vm.findClass RX0 = some m.cls := hown
  have hl : lv_has ls 4 [(0, .ref (a 7)), (1, .int p1)] := hl
  have hK := hF.1
  have hA : ∀ q : Nat, (fun _ => False) q → xA0 E q := fun _ h => h.elim
  change W p l e rm_X0_turnBut s m ([.ref (a 7), .int p1] : List Value).toArray below meth c s.heap [] 0 0 (xQro below (some (.int (s_X0_turnBut u p1))) ([.ref (a 7), .int p1] : List Value).toArray s) _
  have hR : s_X0_turnBut u p1 = s_X0_turnBut u p1 := rfl
  refine lv_iconst (v := 0) hx hb dX0_turnBut_0 rfl ?_
  refine lv_istore_n (lv' := [(2, .int 0), (0, .ref (a 7)), (1, .int p1)]) hx hb dX0_turnBut_1 rfl hl (by decide) rfl (fun ls hl => ?_)
  refine lv_iconst (v := 0) hx hb dX0_turnBut_2 rfl ?_
  refine lv_istore_n (lv' := [(3, .int 0), (2, .int 0), (0, .ref (a 7)), (1, .int p1)]) hx hb dX0_turnBut_3 rfl hl (by decide) rfl (fun ls hl => ?_)
  have L4 : ∀ (n4 : Nat) (x2 : Int32) (x3 : Int32) (ls : Array Slot), ((u.2 1).toInt - x3.toInt).toNat < n4 → s_X0_turnBut u p1 = s_X0_turnBut_L4 n4 u p1 x2 x3 → lv_has ls 4 [(3, .int x3), (2, .int x2), (0, .ref (a 7)), (1, .int p1)] → W p l e rm_X0_turnBut s m ([.ref (a 7), .int p1] : List Value).toArray below meth c s.heap [] 0 0 (xQro below (some (.int (s_X0_turnBut u p1))) ([.ref (a 7), .int p1] : List Value).toArray s) (F0 m 4 ls []) := by
    intro n4
    induction n4 with
    | zero => intro x2 x3 ls hM4 hR hl; exact absurd hM4 (Nat.not_lt_zero _)
    | succ n4 ih4 =>
      intro x2 x3 ls hM4 hR hl
      refine lv_iload_n hx hb dX0_turnBut_4 rfl (lv_at hl 0 rfl) ?_
      refine lv_aload_n hx hb dX0_turnBut_5 rfl (lv_at hl 2 rfl) ?_
      refine va_get (D := xD E) (ci := 0) (v := .ref (a 1)) (C := RX0) (T := TX0) (N := 8) hx hb hts (by decide +kernel) hown hK hP 7 rfl rfl 0 (by decide) (hts (.fieldLink RX0 9 "RailOffsets$Line" "pieces" "LRailOffsets$Pieces;") (by decide +kernel)) (fun _ h => h) rfl dX0_turnBut_6 ?_
      refine va_get (D := xD E) (ci := 2) (v := .int (u.2 1)) (C := RX2) (T := TX2) (N := 2) hx hb hts (by decide +kernel) hown hK hP 1 rfl rfl 1 (by decide) (hts (.fieldLink RX0 38 "RailOffsets$Pieces" "size" "I") (by decide +kernel)) (fun _ h => h) rfl dX0_turnBut_9 ?_
      refine lv_icmp_ge (tgt := 41) hx hb dX0_turnBut_12 rfl (fun q1 => ?_) (fun q1 => ?_)
      · have hR := hR.trans (if_pos q1)
        refine lv_iload_n hx hb dX0_turnBut_41 rfl (lv_at hl 1 rfl) ?_
        have hR : s_X0_turnBut u p1 = x2 := hR
        exact W.iret (v := x2) hx hb hr (fun t ht _ => ⟨congrArg (fun z => Outcome.returned (some (Value.int z))) hR.symm, ht⟩) (fun _ h => by cases h) dX0_turnBut_42
      · have hR := hR.trans (if_neg q1)
        refine lv_iload_n hx hb dX0_turnBut_15 rfl (lv_at hl 0 rfl) ?_
        refine lv_iload_n hx hb dX0_turnBut_16 rfl (lv_at hl 3 rfl) ?_
        refine lv_icmp_eq (tgt := 35) hx hb dX0_turnBut_17 rfl (fun q2 => ?_) (fun q2 => ?_)
        · have hR := hR.trans (if_pos q2)
          refine lv_iinc (k := 0) (v := x3 + 1) (lv' := [(3, .int (x3 + 1)), (2, .int x2), (0, .ref (a 7)), (1, .int p1)]) hx hb dX0_turnBut_35 hl rfl rfl (by decide) rfl (fun ls hl => ?_)
          refine lv_goto (tgt := 4) hx hb dX0_turnBut_38 rfl ?_
          exact ih4 x2 (x3 + 1) _ (Nat.lt_of_lt_of_le (xupc q1) (Nat.le_of_lt_succ hM4)) hR (lv_sub hl [0, 1, 2, 3] rfl)
        · have hR := hR.trans (if_neg q2)
          refine lv_iload_n hx hb dX0_turnBut_20 rfl (lv_at hl 0 rfl) ?_
          refine lv_iload_n hx hb dX0_turnBut_21 rfl (lv_at hl 3 rfl) ?_
          refine lv_iconst (v := 1) hx hb dX0_turnBut_22 rfl ?_
          refine lv_iadd hx hb dX0_turnBut_23 ?_
          refine lv_icmp_eq (tgt := 35) hx hb dX0_turnBut_24 rfl (fun q3 => ?_) (fun q3 => ?_)
          · have hR := hR.trans (if_pos q3)
            refine lv_iinc (k := 0) (v := x3 + 1) (lv' := [(3, .int (x3 + 1)), (2, .int x2), (0, .ref (a 7)), (1, .int p1)]) hx hb dX0_turnBut_35 hl rfl rfl (by decide) rfl (fun ls hl => ?_)
            refine lv_goto (tgt := 4) hx hb dX0_turnBut_38 rfl ?_
            exact ih4 x2 (x3 + 1) _ (Nat.lt_of_lt_of_le (xupc q1) (Nat.le_of_lt_succ hM4)) hR (lv_sub hl [0, 1, 2, 3] rfl)
          · have hR := hR.trans (if_neg q3)
            refine lv_iload_n hx hb dX0_turnBut_27 rfl (lv_at hl 1 rfl) ?_
            refine lv_aload_n hx hb dX0_turnBut_28 rfl (lv_at hl 2 rfl) ?_
            refine lv_iload_n hx hb dX0_turnBut_29 rfl (lv_at hl 0 rfl) ?_
            refine xRoV (nL := 4) ⟨hx, hb, hml, hown, hts⟩ (c_X0_turnOf l E a u x3 (by first | assumption | omega | decide)) (cwV 1 hts gX0_turnBut_X0_turnOf rfl rfl rfl ⟨rfl, hd_X0_turnOf⟩ ⟨(Nat.le_of_ble_eq_true rfl), (Nat.le_of_ble_eq_true rfl)⟩) hF hS hA hP (va_recv (q := (RX0, TX0, 8)) hK hP (ci := 0) rfl (q0 := 7) rfl) rfl hl.1 rfl (Nat.le_of_ble_eq_true rfl) ⟨(Nat.le_of_ble_eq_true rfl), (Nat.le_of_ble_eq_true rfl)⟩ dX0_turnBut_30 ?_
            refine W.eq (g2 := F0 m 33 ls [.int (s_X0_turnOf u x3), .int x2]) rfl ?_
            refine lv_iadd hx hb dX0_turnBut_33 ?_
            refine lv_istore_n (lv' := [(2, .int (x2 + (s_X0_turnOf u x3))), (3, .int x3), (0, .ref (a 7)), (1, .int p1)]) hx hb dX0_turnBut_34 rfl hl (by decide) rfl (fun ls hl => ?_)
            refine lv_iinc (k := 1) (v := x3 + 1) (lv' := [(3, .int (x3 + 1)), (2, .int (x2 + (s_X0_turnOf u x3))), (0, .ref (a 7)), (1, .int p1)]) hx hb dX0_turnBut_35 hl rfl rfl (by decide) rfl (fun ls hl => ?_)
            refine lv_goto (tgt := 4) hx hb dX0_turnBut_38 rfl ?_
            exact ih4 (x2 + (s_X0_turnOf u x3)) (x3 + 1) _ (Nat.lt_of_lt_of_le (xupc q1) (Nat.le_of_lt_succ hM4)) hR (lv_sub hl [0, 1, 2, 3] rfl)
  exact L4 (((u.2 1).toInt - (0 : Int32).toInt).toNat + 1) 0 0 ls (Nat.lt_succ_self _) hR hl
def s_X0_offsetBut_L4 : Nat → xU → Int32 → Int32 → Int32 → Int32
  | 0, _, _, _, _ => 0
  | n + 1, u, x1, x2, x3 =>
    if (u.2 1) ≤ x3 then
      x2
    else
      if x3 = x1 then
        s_X0_offsetBut_L4 n u x1 x2 (x3 + 1)
      else
        if x3 = (x1 + 1) then
          s_X0_offsetBut_L4 n u x1 x2 (x3 + 1)
        else
          s_X0_offsetBut_L4 n u x1 (x2 + (s_X0_offsetOf u x3)) (x3 + 1)
def s_X0_offsetBut (u : xU) (p1 : Int32) : Int32 :=
  s_X0_offsetBut_L4 (((u.2 1).toInt - (0 : Int32).toInt).toNat + 1) u p1 0 0
abbrev rm_X0_offsetBut : Room := { frames := 4, cells := 0, slots := 0, locals := 93 }
set_option maxHeartbeats 8000000 in
set_option maxRecDepth 100000 in
theorem c_X0_offsetBut (l : Launch) (E : xG) (a : Nat → Nat) (u : xU) (p1 : Int32) (hp0 : ∀ i, i < 40 → (u.1 2 i).toInt < 2147483647) : xRo l E yX0_offsetBut wsX0_offsetBut rm_X0_offsetBut [.ref (a 7), .int p1] (wX E a u) (some (.int (s_X0_offsetBut u p1))) := by
  refine xRo.of (cc := cX0_offsetBut) (maxL := 4) (ret := (some .int)) (by decide) rfl (Nat.le_of_ble_eq_true rfl) ?_
  intro p e s m below meth c ls hAt hF hP hS hl
  obtain ⟨hx, hb, hr, hml, hown, hts, hlocks, -⟩ := hAt
  have hown : s.vm.findClass RX0 = some m.cls := hown
  have hl : lv_has ls 4 [(0, .ref (a 7)), (1, .int p1)] := hl
  have hK := hF.1
  have hA : ∀ q : Nat, (fun _ => False) q → xA0 E q := fun _ h => h.elim
  change W p l e rm_X0_offsetBut s m ([.ref (a 7), .int p1] : List Value).toArray below meth c s.heap [] 0 0 (xQro below (some (.int (s_X0_offsetBut u p1))) ([.ref (a 7), .int p1] : List Value).toArray s) _
  have hR : s_X0_offsetBut u p1 = s_X0_offsetBut u p1 := rfl
  refine lv_iconst (v := 0) hx hb dX0_offsetBut_0 rfl ?_
  refine lv_istore_n (lv' := [(2, .int 0), (0, .ref (a 7)), (1, .int p1)]) hx hb dX0_offsetBut_1 rfl hl (by decide) rfl (fun ls hl => ?_)
  refine lv_iconst (v := 0) hx hb dX0_offsetBut_2 rfl ?_
  refine lv_istore_n (lv' := [(3, .int 0), (2, .int 0), (0, .ref (a 7)), (1, .int p1)]) hx hb dX0_offsetBut_3 rfl hl (by decide) rfl (fun ls hl => ?_)
  have L4 : ∀ (n4 : Nat) (x2 : Int32) (x3 : Int32) (ls : Array Slot), ((u.2 1).toInt - x3.toInt).toNat < n4 → s_X0_offsetBut u p1 = s_X0_offsetBut_L4 n4 u p1 x2 x3 → lv_has ls 4 [(3, .int x3), (2, .int x2), (0, .ref (a 7)), (1, .int p1)] → W p l e rm_X0_offsetBut s m ([.ref (a 7), .int p1] : List Value).toArray below meth c s.heap [] 0 0 (xQro below (some (.int (s_X0_offsetBut u p1))) ([.ref (a 7), .int p1] : List Value).toArray s) (F0 m 4 ls []) := by
    intro n4
    induction n4 with
    | zero => intro x2 x3 ls hM4 hR hl; exact absurd hM4 (Nat.not_lt_zero _)
    | succ n4 ih4 =>
      intro x2 x3 ls hM4 hR hl
      refine lv_iload_n hx hb dX0_offsetBut_4 rfl (lv_at hl 0 rfl) ?_
      refine lv_aload_n hx hb dX0_offsetBut_5 rfl (lv_at hl 2 rfl) ?_
      refine va_get (D := xD E) (ci := 0) (v := .ref (a 1)) (C := RX0) (T := TX0) (N := 8) hx hb hts (by decide +kernel) hown hK hP 7 rfl rfl 0 (by decide) (hts (.fieldLink RX0 9 "RailOffsets$Line" "pieces" "LRailOffsets$Pieces;") (by decide +kernel)) (fun _ h => h) rfl dX0_offsetBut_6 ?_
      refine va_get (D := xD E) (ci := 2) (v := .int (u.2 1)) (C := RX2) (T := TX2) (N := 2) hx hb hts (by decide +kernel) hown hK hP 1 rfl rfl 1 (by decide) (hts (.fieldLink RX0 38 "RailOffsets$Pieces" "size" "I") (by decide +kernel)) (fun _ h => h) rfl dX0_offsetBut_9 ?_
      refine lv_icmp_ge (tgt := 41) hx hb dX0_offsetBut_12 rfl (fun q1 => ?_) (fun q1 => ?_)
      · have hR := hR.trans (if_pos q1)
        refine lv_iload_n hx hb dX0_offsetBut_41 rfl (lv_at hl 1 rfl) ?_
        have hR : s_X0_offsetBut u p1 = x2 := hR
        exact W.iret (v := x2) hx hb hr (fun t ht _ => ⟨congrArg (fun z => Outcome.returned (some (Value.int z))) hR.symm, ht⟩) (fun _ h => by cases h) dX0_offsetBut_42
      · have hR := hR.trans (if_neg q1)
        refine lv_iload_n hx hb dX0_offsetBut_15 rfl (lv_at hl 0 rfl) ?_
        refine lv_iload_n hx hb dX0_offsetBut_16 rfl (lv_at hl 3 rfl) ?_
        refine lv_icmp_eq (tgt := 35) hx hb dX0_offsetBut_17 rfl (fun q2 => ?_) (fun q2 => ?_)
        · have hR := hR.trans (if_pos q2)
          refine lv_iinc (k := 0) (v := x3 + 1) (lv' := [(3, .int (x3 + 1)), (2, .int x2), (0, .ref (a 7)), (1, .int p1)]) hx hb dX0_offsetBut_35 hl rfl rfl (by decide) rfl (fun ls hl => ?_)
          refine lv_goto (tgt := 4) hx hb dX0_offsetBut_38 rfl ?_
          exact ih4 x2 (x3 + 1) _ (Nat.lt_of_lt_of_le (xupc q1) (Nat.le_of_lt_succ hM4)) hR (lv_sub hl [0, 1, 2, 3] rfl)
        · have hR := hR.trans (if_neg q2)
          refine lv_iload_n hx hb dX0_offsetBut_20 rfl (lv_at hl 0 rfl) ?_
          refine lv_iload_n hx hb dX0_offsetBut_21 rfl (lv_at hl 3 rfl) ?_
          refine lv_iconst (v := 1) hx hb dX0_offsetBut_22 rfl ?_
          refine lv_iadd hx hb dX0_offsetBut_23 ?_
          refine lv_icmp_eq (tgt := 35) hx hb dX0_offsetBut_24 rfl (fun q3 => ?_) (fun q3 => ?_)
          · have hR := hR.trans (if_pos q3)
            refine lv_iinc (k := 0) (v := x3 + 1) (lv' := [(3, .int (x3 + 1)), (2, .int x2), (0, .ref (a 7)), (1, .int p1)]) hx hb dX0_offsetBut_35 hl rfl rfl (by decide) rfl (fun ls hl => ?_)
            refine lv_goto (tgt := 4) hx hb dX0_offsetBut_38 rfl ?_
            exact ih4 x2 (x3 + 1) _ (Nat.lt_of_lt_of_le (xupc q1) (Nat.le_of_lt_succ hM4)) hR (lv_sub hl [0, 1, 2, 3] rfl)
          · have hR := hR.trans (if_neg q3)
            refine lv_iload_n hx hb dX0_offsetBut_27 rfl (lv_at hl 1 rfl) ?_
            refine lv_aload_n hx hb dX0_offsetBut_28 rfl (lv_at hl 2 rfl) ?_
            refine lv_iload_n hx hb dX0_offsetBut_29 rfl (lv_at hl 0 rfl) ?_
            refine xRoV (nL := 4) ⟨hx, hb, hml, hown, hts⟩ (c_X0_offsetOf l E a u x3 (by first | assumption | omega | decide)) (cwV 1 hts gX0_offsetBut_X0_offsetOf rfl rfl rfl ⟨rfl, hd_X0_offsetOf⟩ ⟨(Nat.le_of_ble_eq_true rfl), (Nat.le_of_ble_eq_true rfl)⟩) hF hS hA hP (va_recv (q := (RX0, TX0, 8)) hK hP (ci := 0) rfl (q0 := 7) rfl) rfl hl.1 rfl (Nat.le_of_ble_eq_true rfl) ⟨(Nat.le_of_ble_eq_true rfl), (Nat.le_of_ble_eq_true rfl)⟩ dX0_offsetBut_30 ?_
            refine W.eq (g2 := F0 m 33 ls [.int (s_X0_offsetOf u x3), .int x2]) rfl ?_
            refine lv_iadd hx hb dX0_offsetBut_33 ?_
            refine lv_istore_n (lv' := [(2, .int (x2 + (s_X0_offsetOf u x3))), (3, .int x3), (0, .ref (a 7)), (1, .int p1)]) hx hb dX0_offsetBut_34 rfl hl (by decide) rfl (fun ls hl => ?_)
            refine lv_iinc (k := 1) (v := x3 + 1) (lv' := [(3, .int (x3 + 1)), (2, .int (x2 + (s_X0_offsetOf u x3))), (0, .ref (a 7)), (1, .int p1)]) hx hb dX0_offsetBut_35 hl rfl rfl (by decide) rfl (fun ls hl => ?_)
            refine lv_goto (tgt := 4) hx hb dX0_offsetBut_38 rfl ?_
            exact ih4 (x2 + (s_X0_offsetOf u x3)) (x3 + 1) _ (Nat.lt_of_lt_of_le (xupc q1) (Nat.le_of_lt_succ hM4)) hR (lv_sub hl [0, 1, 2, 3] rfl)
  exact L4 (((u.2 1).toInt - (0 : Int32).toInt).toNat + 1) 0 0 ls (Nat.lt_succ_self _) hR hl
def s_X0_turnReached (u : xU) (p1 : Int32) : Int32 :=
  (s_X0_turnOf u p1) + (s_X0_turnOf u (p1 + 1))
abbrev rm_X0_turnReached : Room := { frames := 4, cells := 0, slots := 0, locals := 92 }
set_option maxHeartbeats 8000000 in
set_option maxRecDepth 100000 in
theorem c_X0_turnReached (l : Launch) (E : xG) (a : Nat → Nat) (u : xU) (p1 : Int32) (hp0 : ∀ i, i < 40 → (u.1 2 i).toInt < 2147483647) : xRo l E yX0_turnReached wsX0_turnReached rm_X0_turnReached [.ref (a 7), .int p1] (wX E a u) (some (.int (s_X0_turnReached u p1))) := by
  refine xRo.of (cc := cX0_turnReached) (maxL := 2) (ret := (some .int)) (by decide) rfl (Nat.le_of_ble_eq_true rfl) ?_
  intro p e s m below meth c ls hAt hF hP hS hl
  obtain ⟨hx, hb, hr, hml, hown, hts, hlocks, -⟩ := hAt
  have hown : s.vm.findClass RX0 = some m.cls := hown
  have hl : lv_has ls 2 [(0, .ref (a 7)), (1, .int p1)] := hl
  have hK := hF.1
  have hA : ∀ q : Nat, (fun _ => False) q → xA0 E q := fun _ h => h.elim
  change W p l e rm_X0_turnReached s m ([.ref (a 7), .int p1] : List Value).toArray below meth c s.heap [] 0 0 (xQro below (some (.int (s_X0_turnReached u p1))) ([.ref (a 7), .int p1] : List Value).toArray s) _
  have hR : s_X0_turnReached u p1 = s_X0_turnReached u p1 := rfl
  refine lv_aload_n hx hb dX0_turnReached_0 rfl (lv_at hl 0 rfl) ?_
  refine lv_iload_n hx hb dX0_turnReached_1 rfl (lv_at hl 1 rfl) ?_
  refine xRoV (nL := 2) ⟨hx, hb, hml, hown, hts⟩ (c_X0_turnOf l E a u p1 (by first | assumption | omega | decide)) (cwV 1 hts gX0_turnReached_X0_turnOf rfl rfl rfl ⟨rfl, hd_X0_turnOf⟩ ⟨(Nat.le_of_ble_eq_true rfl), (Nat.le_of_ble_eq_true rfl)⟩) hF hS hA hP (va_recv (q := (RX0, TX0, 8)) hK hP (ci := 0) rfl (q0 := 7) rfl) rfl hl.1 rfl (Nat.le_of_ble_eq_true rfl) ⟨(Nat.le_of_ble_eq_true rfl), (Nat.le_of_ble_eq_true rfl)⟩ dX0_turnReached_2 ?_
  refine W.eq (g2 := F0 m 5 ls [.int (s_X0_turnOf u p1)]) rfl ?_
  refine lv_aload_n hx hb dX0_turnReached_5 rfl (lv_at hl 0 rfl) ?_
  refine lv_iload_n hx hb dX0_turnReached_6 rfl (lv_at hl 1 rfl) ?_
  refine lv_iconst (v := 1) hx hb dX0_turnReached_7 rfl ?_
  refine lv_iadd hx hb dX0_turnReached_8 ?_
  refine xRoV (nL := 2) ⟨hx, hb, hml, hown, hts⟩ (c_X0_turnOf l E a u (p1 + 1) (by first | assumption | omega | decide)) (cwV 1 hts gX0_turnReached_X0_turnOf rfl rfl rfl ⟨rfl, hd_X0_turnOf⟩ ⟨(Nat.le_of_ble_eq_true rfl), (Nat.le_of_ble_eq_true rfl)⟩) hF hS hA hP (va_recv (q := (RX0, TX0, 8)) hK hP (ci := 0) rfl (q0 := 7) rfl) rfl hl.1 rfl (Nat.le_of_ble_eq_true rfl) ⟨(Nat.le_of_ble_eq_true rfl), (Nat.le_of_ble_eq_true rfl)⟩ dX0_turnReached_9 ?_
  refine W.eq (g2 := F0 m 12 ls [.int (s_X0_turnOf u (p1 + 1)), .int (s_X0_turnOf u p1)]) rfl ?_
  refine lv_iadd hx hb dX0_turnReached_12 ?_
  have hR : s_X0_turnReached u p1 = (s_X0_turnOf u p1) + (s_X0_turnOf u (p1 + 1)) := hR
  exact W.iret (v := (s_X0_turnOf u p1) + (s_X0_turnOf u (p1 + 1))) hx hb hr (fun t ht _ => ⟨congrArg (fun z => Outcome.returned (some (Value.int z))) hR.symm, ht⟩) (fun _ h => by cases h) dX0_turnReached_13
def s_X0_offsetReached (u : xU) (p1 : Int32) : Int32 :=
  (s_X0_offsetOf u p1) + (s_X0_offsetOf u (p1 + 1))
abbrev rm_X0_offsetReached : Room := { frames := 4, cells := 0, slots := 0, locals := 93 }
set_option maxHeartbeats 8000000 in
set_option maxRecDepth 100000 in
theorem c_X0_offsetReached (l : Launch) (E : xG) (a : Nat → Nat) (u : xU) (p1 : Int32) (hp0 : ∀ i, i < 40 → (u.1 2 i).toInt < 2147483647) : xRo l E yX0_offsetReached wsX0_offsetReached rm_X0_offsetReached [.ref (a 7), .int p1] (wX E a u) (some (.int (s_X0_offsetReached u p1))) := by
  refine xRo.of (cc := cX0_offsetReached) (maxL := 2) (ret := (some .int)) (by decide) rfl (Nat.le_of_ble_eq_true rfl) ?_
  intro p e s m below meth c ls hAt hF hP hS hl
  obtain ⟨hx, hb, hr, hml, hown, hts, hlocks, -⟩ := hAt
  have hown : s.vm.findClass RX0 = some m.cls := hown
  have hl : lv_has ls 2 [(0, .ref (a 7)), (1, .int p1)] := hl
  have hK := hF.1
  have hA : ∀ q : Nat, (fun _ => False) q → xA0 E q := fun _ h => h.elim
  change W p l e rm_X0_offsetReached s m ([.ref (a 7), .int p1] : List Value).toArray below meth c s.heap [] 0 0 (xQro below (some (.int (s_X0_offsetReached u p1))) ([.ref (a 7), .int p1] : List Value).toArray s) _
  have hR : s_X0_offsetReached u p1 = s_X0_offsetReached u p1 := rfl
  refine lv_aload_n hx hb dX0_offsetReached_0 rfl (lv_at hl 0 rfl) ?_
  refine lv_iload_n hx hb dX0_offsetReached_1 rfl (lv_at hl 1 rfl) ?_
  refine xRoV (nL := 2) ⟨hx, hb, hml, hown, hts⟩ (c_X0_offsetOf l E a u p1 (by first | assumption | omega | decide)) (cwV 1 hts gX0_offsetReached_X0_offsetOf rfl rfl rfl ⟨rfl, hd_X0_offsetOf⟩ ⟨(Nat.le_of_ble_eq_true rfl), (Nat.le_of_ble_eq_true rfl)⟩) hF hS hA hP (va_recv (q := (RX0, TX0, 8)) hK hP (ci := 0) rfl (q0 := 7) rfl) rfl hl.1 rfl (Nat.le_of_ble_eq_true rfl) ⟨(Nat.le_of_ble_eq_true rfl), (Nat.le_of_ble_eq_true rfl)⟩ dX0_offsetReached_2 ?_
  refine W.eq (g2 := F0 m 5 ls [.int (s_X0_offsetOf u p1)]) rfl ?_
  refine lv_aload_n hx hb dX0_offsetReached_5 rfl (lv_at hl 0 rfl) ?_
  refine lv_iload_n hx hb dX0_offsetReached_6 rfl (lv_at hl 1 rfl) ?_
  refine lv_iconst (v := 1) hx hb dX0_offsetReached_7 rfl ?_
  refine lv_iadd hx hb dX0_offsetReached_8 ?_
  refine xRoV (nL := 2) ⟨hx, hb, hml, hown, hts⟩ (c_X0_offsetOf l E a u (p1 + 1) (by first | assumption | omega | decide)) (cwV 1 hts gX0_offsetReached_X0_offsetOf rfl rfl rfl ⟨rfl, hd_X0_offsetOf⟩ ⟨(Nat.le_of_ble_eq_true rfl), (Nat.le_of_ble_eq_true rfl)⟩) hF hS hA hP (va_recv (q := (RX0, TX0, 8)) hK hP (ci := 0) rfl (q0 := 7) rfl) rfl hl.1 rfl (Nat.le_of_ble_eq_true rfl) ⟨(Nat.le_of_ble_eq_true rfl), (Nat.le_of_ble_eq_true rfl)⟩ dX0_offsetReached_9 ?_
  refine W.eq (g2 := F0 m 12 ls [.int (s_X0_offsetOf u (p1 + 1)), .int (s_X0_offsetOf u p1)]) rfl ?_
  refine lv_iadd hx hb dX0_offsetReached_12 ?_
  have hR : s_X0_offsetReached u p1 = (s_X0_offsetOf u p1) + (s_X0_offsetOf u (p1 + 1)) := hR
  exact W.iret (v := (s_X0_offsetOf u p1) + (s_X0_offsetOf u (p1 + 1))) hx hb hr (fun t ht _ => ⟨congrArg (fun z => Outcome.returned (some (Value.int z))) hR.symm, ht⟩) (fun _ h => by cases h) dX0_offsetReached_13
def s_X0_fill_L87 : Nat → xU → Int32 → Int32 → Int32 → Int32 → Int32 → Int32 → Int32 → Int32 → Int32 → xU
  | 0, u, _, _, _, _, _, _, _, _, _ => u
  | n + 1, u, x1, x2, x3, x4, x5, x6, x7, x8, x9 =>
    if x4 < x9 then
      u
    else
      s_X0_fill_L87 n (uR (uR (uR u 9 (s_X5_mark 201 (u.1 9) (((s_X0_firstOf u x1) + x9) - 1) x1)) 10 (s_X5_mark 201 ((uR u 9 (s_X5_mark 201 (u.1 9) (((s_X0_firstOf u x1) + x9) - 1) x1)).1 10) (((s_X0_firstOf u x1) + x9) - 1) (s_X5_along x2 x5 x6 x9 x4))) 11 (s_X5_mark 201 ((uR (uR u 9 (s_X5_mark 201 (u.1 9) (((s_X0_firstOf u x1) + x9) - 1) x1)) 10 (s_X5_mark 201 ((uR u 9 (s_X5_mark 201 (u.1 9) (((s_X0_firstOf u x1) + x9) - 1) x1)).1 10) (((s_X0_firstOf u x1) + x9) - 1) (s_X5_along x2 x5 x6 x9 x4))).1 11) (((s_X0_firstOf u x1) + x9) - 1) (s_X5_along x3 x7 x8 x9 x4))) x1 x2 x3 x4 x5 x6 x7 x8 (x9 + 1)
def s_X0_fill (u : xU) (p1 : Int32) : xU :=
  if (s_X2_has u p1) = 0 then
    u
  else
    if (s_X2_read u p1 0) = 4 then
      s_X0_fill_L87 (((s_X2_read u p1 1).toInt + 1 - (1 : Int32).toInt).toNat + 1) u p1 (s_X2_read u p1 0) 2 (s_X2_read u p1 1) (s_X0_endVersine u (p1 - 1)) (s_X0_endVersine u p1) (s_X2_read u (p1 - 1) 3) (s_X2_read u p1 3) 1
    else
      s_X0_fill_L87 (((s_X2_read u p1 1).toInt + 1 - (1 : Int32).toInt).toNat + 1) u p1 (s_X2_read u p1 0) (s_X2_read u p1 0) (s_X2_read u p1 1) (s_X0_endVersine u (p1 - 1)) (s_X0_endVersine u p1) (s_X2_read u (p1 - 1) 3) (s_X2_read u p1 3) 1
abbrev rm_X0_fill : Room := { frames := 3, cells := 0, slots := 0, locals := 65 }
set_option maxHeartbeats 8000000 in
set_option maxRecDepth 100000 in
theorem c_X0_fill (l : Launch) (E : xG) (a : Nat → Nat) (u : xU) (p1 : Int32) (hp0 : ∀ i, i < 40 → (u.1 2 i).toInt < 2147483647) (hL : xOK E (LX a)) : xMd l E yX0_fill wsX0_fill rm_X0_fill (LX a) [.ref (a 7), .int p1] (wX E a u) (none) (wX E a (s_X0_fill u p1)) := by
  refine xMd.of (cc := cX0_fill) (maxL := 11) (ret := none) (by decide) rfl (Nat.le_of_ble_eq_true rfl) ?_
  intro p e s m below meth c ls hAt hF hP hS hl
  obtain ⟨hx, hb, hr, hml, hown, hts, hlocks, -⟩ := hAt
  have hown : s.vm.findClass RX0 = some m.cls := hown
  have hl : lv_has ls 11 [(0, .ref (a 7)), (1, .int p1)] := hl
  have hK := hF.1
  have hA := hL.2
  change W p l e rm_X0_fill s m ([.ref (a 7), .int p1] : List Value).toArray below meth c s.heap [] 0 0 (xQmd E below (LX a) (none) (wX E a (s_X0_fill u p1)) ([.ref (a 7), .int p1] : List Value).toArray s) _
  have hS : va_S (· ∈ LX a) s.heap s.heap [] := hS
  have hR : s_X0_fill u p1 = s_X0_fill u p1 := rfl
  refine lv_aload_n hx hb dX0_fill_0 rfl (lv_at hl 0 rfl) ?_
  refine va_get (D := xD E) (ci := 0) (v := .ref (a 1)) (C := RX0) (T := TX0) (N := 8) hx hb hts (by decide +kernel) hown hK hP 7 rfl rfl 0 (by decide) (hts (.fieldLink RX0 9 "RailOffsets$Line" "pieces" "LRailOffsets$Pieces;") (by decide +kernel)) (fun _ h => h) rfl dX0_fill_1 ?_
  refine lv_iload_n hx hb dX0_fill_4 rfl (lv_at hl 1 rfl) ?_
  refine xRoV (nL := 11) ⟨hx, hb, hml, hown, hts⟩ (c_X2_has l E a u p1) (cwV 1 hts gX0_fill_X2_has rfl rfl rfl ⟨rfl, hd_X2_has⟩ ⟨(Nat.le_of_ble_eq_true rfl), (Nat.le_of_ble_eq_true rfl)⟩) hF hS hA hP (va_recv (q := (RX2, TX2, 2)) hK hP (ci := 2) rfl (q0 := 1) rfl) rfl hl.1 rfl (Nat.le_of_ble_eq_true rfl) ⟨(Nat.le_of_ble_eq_true rfl), (Nat.le_of_ble_eq_true rfl)⟩ dX0_fill_5 ?_
  refine W.eq (g2 := F0 m 8 ls [.int (s_X2_has u p1)]) rfl ?_
  refine lv_if_ne (tgt := 12) hx hb dX0_fill_8 rfl (fun q1 => ?_) (fun q1 => ?_)
  · have hR := hR.trans (if_neg q1)
    refine lv_aload_n hx hb dX0_fill_12 rfl (lv_at hl 0 rfl) ?_
    refine va_get (D := xD E) (ci := 0) (v := .ref (a 1)) (C := RX0) (T := TX0) (N := 8) hx hb hts (by decide +kernel) hown hK hP 7 rfl rfl 0 (by decide) (hts (.fieldLink RX0 9 "RailOffsets$Line" "pieces" "LRailOffsets$Pieces;") (by decide +kernel)) (fun _ h => h) rfl dX0_fill_13 ?_
    refine lv_iload_n hx hb dX0_fill_16 rfl (lv_at hl 1 rfl) ?_
    refine lv_iconst (v := 0) hx hb dX0_fill_17 rfl ?_
    refine xRoV (nL := 11) ⟨hx, hb, hml, hown, hts⟩ (c_X2_read l E a u p1 0) (cwV 2 hts gX0_fill_X2_read rfl rfl rfl ⟨rfl, hd_X2_read⟩ ⟨(Nat.le_of_ble_eq_true rfl), (Nat.le_of_ble_eq_true rfl)⟩) hF hS hA hP (va_recv (q := (RX2, TX2, 2)) hK hP (ci := 2) rfl (q0 := 1) rfl) rfl hl.1 rfl (Nat.le_of_ble_eq_true rfl) ⟨(Nat.le_of_ble_eq_true rfl), (Nat.le_of_ble_eq_true rfl)⟩ dX0_fill_18 ?_
    refine W.eq (g2 := F0 m 21 ls [.int (s_X2_read u p1 0)]) rfl ?_
    refine lv_istore_n (lv' := [(2, .int (s_X2_read u p1 0)), (0, .ref (a 7)), (1, .int p1)]) hx hb dX0_fill_21 rfl hl (by decide) rfl (fun ls hl => ?_)
    refine lv_iload_n hx hb dX0_fill_22 rfl (lv_at hl 0 rfl) ?_
    refine lv_iconst (v := 4) hx hb dX0_fill_23 rfl ?_
    refine lv_icmp_ne (tgt := 31) hx hb dX0_fill_24 rfl (fun q2 => ?_) (fun q2 => ?_)
    · have hR := hR.trans (if_neg q2)
      refine lv_iload_n hx hb dX0_fill_31 rfl (lv_at hl 0 rfl) ?_
      refine lv_istore_n (lv' := [(3, .int (s_X2_read u p1 0)), (2, .int (s_X2_read u p1 0)), (0, .ref (a 7)), (1, .int p1)]) hx hb dX0_fill_32 rfl hl (by decide) rfl (fun ls hl => ?_)
      refine lv_aload_n hx hb dX0_fill_33 rfl (lv_at hl 2 rfl) ?_
      refine va_get (D := xD E) (ci := 0) (v := .ref (a 1)) (C := RX0) (T := TX0) (N := 8) hx hb hts (by decide +kernel) hown hK hP 7 rfl rfl 0 (by decide) (hts (.fieldLink RX0 9 "RailOffsets$Line" "pieces" "LRailOffsets$Pieces;") (by decide +kernel)) (fun _ h => h) rfl dX0_fill_34 ?_
      refine lv_iload_n hx hb dX0_fill_37 rfl (lv_at hl 3 rfl) ?_
      refine lv_iconst (v := 1) hx hb dX0_fill_38 rfl ?_
      refine xRoV (nL := 11) ⟨hx, hb, hml, hown, hts⟩ (c_X2_read l E a u p1 1) (cwV 2 hts gX0_fill_X2_read rfl rfl rfl ⟨rfl, hd_X2_read⟩ ⟨(Nat.le_of_ble_eq_true rfl), (Nat.le_of_ble_eq_true rfl)⟩) hF hS hA hP (va_recv (q := (RX2, TX2, 2)) hK hP (ci := 2) rfl (q0 := 1) rfl) rfl hl.1 rfl (Nat.le_of_ble_eq_true rfl) ⟨(Nat.le_of_ble_eq_true rfl), (Nat.le_of_ble_eq_true rfl)⟩ dX0_fill_39 ?_
      refine W.eq (g2 := F0 m 42 ls [.int (s_X2_read u p1 1)]) rfl ?_
      refine lv_istore (lv' := [(4, .int (s_X2_read u p1 1)), (3, .int (s_X2_read u p1 0)), (2, .int (s_X2_read u p1 0)), (0, .ref (a 7)), (1, .int p1)]) hx hb dX0_fill_42 hl (by decide) rfl (fun ls hl => ?_)
      refine lv_aload_n hx hb dX0_fill_44 rfl (lv_at hl 3 rfl) ?_
      refine lv_iload_n hx hb dX0_fill_45 rfl (lv_at hl 4 rfl) ?_
      refine lv_iconst (v := 1) hx hb dX0_fill_46 rfl ?_
      refine lv_isub hx hb dX0_fill_47 ?_
      refine xRoV (nL := 11) ⟨hx, hb, hml, hown, hts⟩ (c_X0_endVersine l E a u (p1 - 1)) (cwV 1 hts gX0_fill_X0_endVersine rfl rfl rfl ⟨rfl, hd_X0_endVersine⟩ ⟨(Nat.le_of_ble_eq_true rfl), (Nat.le_of_ble_eq_true rfl)⟩) hF hS hA hP (va_recv (q := (RX0, TX0, 8)) hK hP (ci := 0) rfl (q0 := 7) rfl) rfl hl.1 rfl (Nat.le_of_ble_eq_true rfl) ⟨(Nat.le_of_ble_eq_true rfl), (Nat.le_of_ble_eq_true rfl)⟩ dX0_fill_48 ?_
      refine W.eq (g2 := F0 m 51 ls [.int (s_X0_endVersine u (p1 - 1))]) rfl ?_
      refine lv_istore (lv' := [(5, .int (s_X0_endVersine u (p1 - 1))), (4, .int (s_X2_read u p1 1)), (3, .int (s_X2_read u p1 0)), (2, .int (s_X2_read u p1 0)), (0, .ref (a 7)), (1, .int p1)]) hx hb dX0_fill_51 hl (by decide) rfl (fun ls hl => ?_)
      refine lv_aload_n hx hb dX0_fill_53 rfl (lv_at hl 4 rfl) ?_
      refine lv_iload_n hx hb dX0_fill_54 rfl (lv_at hl 5 rfl) ?_
      refine xRoV (nL := 11) ⟨hx, hb, hml, hown, hts⟩ (c_X0_endVersine l E a u p1) (cwV 1 hts gX0_fill_X0_endVersine rfl rfl rfl ⟨rfl, hd_X0_endVersine⟩ ⟨(Nat.le_of_ble_eq_true rfl), (Nat.le_of_ble_eq_true rfl)⟩) hF hS hA hP (va_recv (q := (RX0, TX0, 8)) hK hP (ci := 0) rfl (q0 := 7) rfl) rfl hl.1 rfl (Nat.le_of_ble_eq_true rfl) ⟨(Nat.le_of_ble_eq_true rfl), (Nat.le_of_ble_eq_true rfl)⟩ dX0_fill_55 ?_
      refine W.eq (g2 := F0 m 58 ls [.int (s_X0_endVersine u p1)]) rfl ?_
      refine lv_istore (lv' := [(6, .int (s_X0_endVersine u p1)), (5, .int (s_X0_endVersine u (p1 - 1))), (4, .int (s_X2_read u p1 1)), (3, .int (s_X2_read u p1 0)), (2, .int (s_X2_read u p1 0)), (0, .ref (a 7)), (1, .int p1)]) hx hb dX0_fill_58 hl (by decide) rfl (fun ls hl => ?_)
      refine lv_aload_n hx hb dX0_fill_60 rfl (lv_at hl 5 rfl) ?_
      refine va_get (D := xD E) (ci := 0) (v := .ref (a 1)) (C := RX0) (T := TX0) (N := 8) hx hb hts (by decide +kernel) hown hK hP 7 rfl rfl 0 (by decide) (hts (.fieldLink RX0 9 "RailOffsets$Line" "pieces" "LRailOffsets$Pieces;") (by decide +kernel)) (fun _ h => h) rfl dX0_fill_61 ?_
      refine lv_iload_n hx hb dX0_fill_64 rfl (lv_at hl 6 rfl) ?_
      refine lv_iconst (v := 1) hx hb dX0_fill_65 rfl ?_
      refine lv_isub hx hb dX0_fill_66 ?_
      refine lv_iconst (v := 3) hx hb dX0_fill_67 rfl ?_
      refine xRoV (nL := 11) ⟨hx, hb, hml, hown, hts⟩ (c_X2_read l E a u (p1 - 1) 3) (cwV 2 hts gX0_fill_X2_read rfl rfl rfl ⟨rfl, hd_X2_read⟩ ⟨(Nat.le_of_ble_eq_true rfl), (Nat.le_of_ble_eq_true rfl)⟩) hF hS hA hP (va_recv (q := (RX2, TX2, 2)) hK hP (ci := 2) rfl (q0 := 1) rfl) rfl hl.1 rfl (Nat.le_of_ble_eq_true rfl) ⟨(Nat.le_of_ble_eq_true rfl), (Nat.le_of_ble_eq_true rfl)⟩ dX0_fill_68 ?_
      refine W.eq (g2 := F0 m 71 ls [.int (s_X2_read u (p1 - 1) 3)]) rfl ?_
      refine lv_istore (lv' := [(7, .int (s_X2_read u (p1 - 1) 3)), (6, .int (s_X0_endVersine u p1)), (5, .int (s_X0_endVersine u (p1 - 1))), (4, .int (s_X2_read u p1 1)), (3, .int (s_X2_read u p1 0)), (2, .int (s_X2_read u p1 0)), (0, .ref (a 7)), (1, .int p1)]) hx hb dX0_fill_71 hl (by decide) rfl (fun ls hl => ?_)
      refine lv_aload_n hx hb dX0_fill_73 rfl (lv_at hl 6 rfl) ?_
      refine va_get (D := xD E) (ci := 0) (v := .ref (a 1)) (C := RX0) (T := TX0) (N := 8) hx hb hts (by decide +kernel) hown hK hP 7 rfl rfl 0 (by decide) (hts (.fieldLink RX0 9 "RailOffsets$Line" "pieces" "LRailOffsets$Pieces;") (by decide +kernel)) (fun _ h => h) rfl dX0_fill_74 ?_
      refine lv_iload_n hx hb dX0_fill_77 rfl (lv_at hl 7 rfl) ?_
      refine lv_iconst (v := 3) hx hb dX0_fill_78 rfl ?_
      refine xRoV (nL := 11) ⟨hx, hb, hml, hown, hts⟩ (c_X2_read l E a u p1 3) (cwV 2 hts gX0_fill_X2_read rfl rfl rfl ⟨rfl, hd_X2_read⟩ ⟨(Nat.le_of_ble_eq_true rfl), (Nat.le_of_ble_eq_true rfl)⟩) hF hS hA hP (va_recv (q := (RX2, TX2, 2)) hK hP (ci := 2) rfl (q0 := 1) rfl) rfl hl.1 rfl (Nat.le_of_ble_eq_true rfl) ⟨(Nat.le_of_ble_eq_true rfl), (Nat.le_of_ble_eq_true rfl)⟩ dX0_fill_79 ?_
      refine W.eq (g2 := F0 m 82 ls [.int (s_X2_read u p1 3)]) rfl ?_
      refine lv_istore (lv' := [(8, .int (s_X2_read u p1 3)), (7, .int (s_X2_read u (p1 - 1) 3)), (6, .int (s_X0_endVersine u p1)), (5, .int (s_X0_endVersine u (p1 - 1))), (4, .int (s_X2_read u p1 1)), (3, .int (s_X2_read u p1 0)), (2, .int (s_X2_read u p1 0)), (0, .ref (a 7)), (1, .int p1)]) hx hb dX0_fill_82 hl (by decide) rfl (fun ls hl => ?_)
      refine lv_iconst (v := 1) hx hb dX0_fill_84 rfl ?_
      refine lv_istore (lv' := [(9, .int 1), (8, .int (s_X2_read u p1 3)), (7, .int (s_X2_read u (p1 - 1) 3)), (6, .int (s_X0_endVersine u p1)), (5, .int (s_X0_endVersine u (p1 - 1))), (4, .int (s_X2_read u p1 1)), (3, .int (s_X2_read u p1 0)), (2, .int (s_X2_read u p1 0)), (0, .ref (a 7)), (1, .int p1)]) hx hb dX0_fill_85 hl (by decide) rfl (fun ls hl => ?_)
      have L87 : ∀ (n87 : Nat) (u87 : xU) (x9 : Int32) (H : Heap) (locs : List Loc) (ls : Array Slot), ((s_X2_read u p1 1).toInt + 1 - x9.toInt).toNat < n87 → s_X0_fill u p1 = s_X0_fill_L87 n87 u87 p1 (s_X2_read u p1 0) (s_X2_read u p1 0) (s_X2_read u p1 1) (s_X0_endVersine u (p1 - 1)) (s_X0_endVersine u p1) (s_X2_read u (p1 - 1) 3) (s_X2_read u p1 3) x9 → lv_has ls 11 [(9, .int x9), (8, .int (s_X2_read u p1 3)), (7, .int (s_X2_read u (p1 - 1) 3)), (6, .int (s_X0_endVersine u p1)), (5, .int (s_X0_endVersine u (p1 - 1))), (4, .int (s_X2_read u p1 1)), (3, .int (s_X2_read u p1 0)), (2, .int (s_X2_read u p1 0)), (0, .ref (a 7)), (1, .int p1)] → va_P (xD E) vwCl (wX E a u87) H → va_S (· ∈ LX a) s.heap H locs → W p l e rm_X0_fill s m ([.ref (a 7), .int p1] : List Value).toArray below meth c H locs 0 0 (xQmd E below (LX a) (none) (wX E a (s_X0_fill u p1)) ([.ref (a 7), .int p1] : List Value).toArray s) (F0 m 87 ls []) := by
        intro n87
        induction n87 with
        | zero => intro u87 x9 H locs ls hM87 hR hl hP hS; exact absurd hM87 (Nat.not_lt_zero _)
        | succ n87 ih87 =>
          intro u87 x9 H locs ls hM87 hR hl hP hS
          refine lv_iload hx hb dX0_fill_87 (lv_at hl 0 rfl) ?_
          refine lv_iload hx hb dX0_fill_89 (lv_at hl 5 rfl) ?_
          refine lv_icmp_gt (tgt := 164) hx hb dX0_fill_91 rfl (fun q3 => ?_) (fun q3 => ?_)
          · have hR := hR.trans (if_pos q3)
            have hR : s_X0_fill u p1 = u87 := hR
            exact W.vret hx hb hr (fun t ht _ => by rw [hR]; exact ⟨⟨rfl, by rw [ht]; exact hP⟩, hS.F ht⟩) hS.2.2 dX0_fill_164
          · have hR := hR.trans (if_neg q3)
            refine lv_aload_n hx hb dX0_fill_94 rfl (lv_at hl 8 rfl) ?_
            refine lv_iload_n hx hb dX0_fill_95 rfl (lv_at hl 9 rfl) ?_
            refine xRoV (nL := 11) ⟨hx, hb, hml, hown, hts⟩ (c_X0_firstOf l E a u87 p1) (cwV 1 hts gX0_fill_X0_firstOf rfl rfl rfl ⟨rfl, hd_X0_firstOf⟩ ⟨(Nat.le_of_ble_eq_true rfl), (Nat.le_of_ble_eq_true rfl)⟩) hF hS hA hP (va_recv (q := (RX0, TX0, 8)) hK hP (ci := 0) rfl (q0 := 7) rfl) rfl hl.1 rfl (Nat.le_of_ble_eq_true rfl) ⟨(Nat.le_of_ble_eq_true rfl), (Nat.le_of_ble_eq_true rfl)⟩ dX0_fill_96 ?_
            refine W.eq (g2 := F0 m 99 ls [.int (s_X0_firstOf u87 p1)]) rfl ?_
            refine lv_iload hx hb dX0_fill_99 (lv_at hl 0 rfl) ?_
            refine lv_iadd hx hb dX0_fill_101 ?_
            refine lv_iconst (v := 1) hx hb dX0_fill_102 rfl ?_
            refine lv_isub hx hb dX0_fill_103 ?_
            refine lv_istore (lv' := [(10, .int (((s_X0_firstOf u87 p1) + x9) - 1)), (9, .int x9), (8, .int (s_X2_read u p1 3)), (7, .int (s_X2_read u (p1 - 1) 3)), (6, .int (s_X0_endVersine u p1)), (5, .int (s_X0_endVersine u (p1 - 1))), (4, .int (s_X2_read u p1 1)), (3, .int (s_X2_read u p1 0)), (2, .int (s_X2_read u p1 0)), (0, .ref (a 7)), (1, .int p1)]) hx hb dX0_fill_104 hl (by decide) rfl (fun ls hl => ?_)
            refine lv_aload_n hx hb dX0_fill_106 rfl (lv_at hl 9 rfl) ?_
            refine va_get (D := xD E) (ci := 0) (v := .ref (a 9)) (C := RX0) (T := TX0) (N := 8) hx hb hts (by decide +kernel) hown hK hP 7 rfl rfl 2 (by decide) (hts (.fieldLink RX0 19 "RailOffsets$Line" "owners" "[I") (by decide +kernel)) (fun _ h => h) rfl dX0_fill_107 ?_
            refine lv_iload hx hb dX0_fill_110 (lv_at hl 0 rfl) ?_
            refine lv_iload_n hx hb dX0_fill_112 rfl (lv_at hl 10 rfl) ?_
            refine xMdSN (nL := 11) ⟨hx, hb, hml, hown, hts⟩ (c_X5_mark l E (a 9) 201 (u87.1 9) (((s_X0_firstOf u87 p1) + x9) - 1) p1 (hL.2 _ (List.mem_of_getElem? (i := 9) rfl))) ⟨va_cnB (own := RX0) (host := RX5) (index := 43) (y := yX5_mark) 3 hts gX0_fill_X5_mark_n43 rfl rfl rfl (hF.2.1.1 (RX0, 43, yX5_mark) (List.mem_of_getElem? (i := 1) rfl)) (hts (.initialized RX5) (by decide +kernel)) hd_X5_mark ⟨(Nat.le_of_ble_eq_true rfl), (Nat.le_of_ble_eq_true rfl)⟩, hts (.static yX5_mark) (by decide +kernel), trivial⟩ hF hS hL.2 (xsub1 (List.mem_of_getElem? (i := 9) rfl)) (hP.sub [9] rfl) rfl hl.1 rfl (Nat.le_of_ble_eq_true rfl) ⟨(Nat.le_of_ble_eq_true rfl), (Nat.le_of_ble_eq_true rfl)⟩ dX0_fill_113 (fun H1 locs hP1 hk hS => ?_)
            have hP : va_P (xD E) vwCl (wX E a (uR u87 9 (s_X5_mark 201 (u87.1 9) (((s_X0_firstOf u87 p1) + x9) - 1) p1))) H1 := xset1 hP (xD_of (ws := wX E a u87) (A := (· ∈ LX a)) hL.1 (fun _ h => h)) (p := 9) rfl hP1 hk
            generalize H1 = H at hP hS ⊢
            refine W.eq (g2 := F0 m 116 ls []) rfl ?_
            refine lv_aload_n hx hb dX0_fill_116 rfl (lv_at hl 9 rfl) ?_
            refine va_get (D := xD E) (ci := 0) (v := .ref (a 10)) (C := RX0) (T := TX0) (N := 8) hx hb hts (by decide +kernel) hown hK hP 7 rfl rfl 3 (by decide) (hts (.fieldLink RX0 22 "RailOffsets$Line" "versines" "[I") (by decide +kernel)) (fun _ h => h) rfl dX0_fill_117 ?_
            refine lv_iload hx hb dX0_fill_120 (lv_at hl 0 rfl) ?_
            refine lv_iload_n hx hb dX0_fill_122 rfl (lv_at hl 8 rfl) ?_
            refine lv_iload hx hb dX0_fill_123 (lv_at hl 5 rfl) ?_
            refine lv_iload hx hb dX0_fill_125 (lv_at hl 4 rfl) ?_
            refine lv_iload hx hb dX0_fill_127 (lv_at hl 1 rfl) ?_
            refine lv_iload hx hb dX0_fill_129 (lv_at hl 6 rfl) ?_
            refine xRoSN (nL := 11) ⟨hx, hb, hml, hown, hts⟩ (c_X5_along l E (s_X2_read u p1 0) (s_X0_endVersine u (p1 - 1)) (s_X0_endVersine u p1) x9 (s_X2_read u p1 1)) ⟨va_cnB (own := RX0) (host := RX5) (index := 70) (y := yX5_along) 5 hts gX0_fill_X5_along_n70 rfl rfl rfl (hF.2.1.1 (RX0, 70, yX5_along) (List.mem_of_getElem? (i := 4) rfl)) (hts (.initialized RX5) (by decide +kernel)) hd_X5_along ⟨(Nat.le_of_ble_eq_true rfl), (Nat.le_of_ble_eq_true rfl)⟩, hts (.static yX5_along) (by decide +kernel), trivial⟩ hF hS hA (hP.sub [] rfl) rfl hl.1 rfl (Nat.le_of_ble_eq_true rfl) ⟨(Nat.le_of_ble_eq_true rfl), (Nat.le_of_ble_eq_true rfl)⟩ dX0_fill_131 ?_
            refine W.eq (g2 := F0 m 134 ls [.int (s_X5_along (s_X2_read u p1 0) (s_X0_endVersine u (p1 - 1)) (s_X0_endVersine u p1) x9 (s_X2_read u p1 1)), .int (((s_X0_firstOf u87 p1) + x9) - 1), .ref (a 10)]) rfl ?_
            refine xMdSN (nL := 11) ⟨hx, hb, hml, hown, hts⟩ (c_X5_mark l E (a 10) 201 ((uR u87 9 (s_X5_mark 201 (u87.1 9) (((s_X0_firstOf u87 p1) + x9) - 1) p1)).1 10) (((s_X0_firstOf u87 p1) + x9) - 1) (s_X5_along (s_X2_read u p1 0) (s_X0_endVersine u (p1 - 1)) (s_X0_endVersine u p1) x9 (s_X2_read u p1 1)) (hL.2 _ (List.mem_of_getElem? (i := 10) rfl))) ⟨va_cnB (own := RX0) (host := RX5) (index := 43) (y := yX5_mark) 3 hts gX0_fill_X5_mark_n43 rfl rfl rfl (hF.2.1.1 (RX0, 43, yX5_mark) (List.mem_of_getElem? (i := 1) rfl)) (hts (.initialized RX5) (by decide +kernel)) hd_X5_mark ⟨(Nat.le_of_ble_eq_true rfl), (Nat.le_of_ble_eq_true rfl)⟩, hts (.static yX5_mark) (by decide +kernel), trivial⟩ hF hS hL.2 (xsub1 (List.mem_of_getElem? (i := 10) rfl)) (hP.sub [10] rfl) rfl hl.1 rfl (Nat.le_of_ble_eq_true rfl) ⟨(Nat.le_of_ble_eq_true rfl), (Nat.le_of_ble_eq_true rfl)⟩ dX0_fill_134 (fun H1 locs hP1 hk hS => ?_)
            have hP : va_P (xD E) vwCl (wX E a (uR (uR u87 9 (s_X5_mark 201 (u87.1 9) (((s_X0_firstOf u87 p1) + x9) - 1) p1)) 10 (s_X5_mark 201 ((uR u87 9 (s_X5_mark 201 (u87.1 9) (((s_X0_firstOf u87 p1) + x9) - 1) p1)).1 10) (((s_X0_firstOf u87 p1) + x9) - 1) (s_X5_along (s_X2_read u p1 0) (s_X0_endVersine u (p1 - 1)) (s_X0_endVersine u p1) x9 (s_X2_read u p1 1))))) H1 := xset1 hP (xD_of (ws := wX E a (uR u87 9 (s_X5_mark 201 (u87.1 9) (((s_X0_firstOf u87 p1) + x9) - 1) p1))) (A := (· ∈ LX a)) hL.1 (fun _ h => h)) (p := 10) rfl hP1 hk
            generalize H1 = H at hP hS ⊢
            refine W.eq (g2 := F0 m 137 ls []) rfl ?_
            refine lv_aload_n hx hb dX0_fill_137 rfl (lv_at hl 9 rfl) ?_
            refine va_get (D := xD E) (ci := 0) (v := .ref (a 11)) (C := RX0) (T := TX0) (N := 8) hx hb hts (by decide +kernel) hown hK hP 7 rfl rfl 4 (by decide) (hts (.fieldLink RX0 25 "RailOffsets$Line" "heights" "[I") (by decide +kernel)) (fun _ h => h) rfl dX0_fill_138 ?_
            refine lv_iload hx hb dX0_fill_141 (lv_at hl 0 rfl) ?_
            refine lv_iload_n hx hb dX0_fill_143 rfl (lv_at hl 7 rfl) ?_
            refine lv_iload hx hb dX0_fill_144 (lv_at hl 3 rfl) ?_
            refine lv_iload hx hb dX0_fill_146 (lv_at hl 2 rfl) ?_
            refine lv_iload hx hb dX0_fill_148 (lv_at hl 1 rfl) ?_
            refine lv_iload hx hb dX0_fill_150 (lv_at hl 6 rfl) ?_
            refine xRoSN (nL := 11) ⟨hx, hb, hml, hown, hts⟩ (c_X5_along l E (s_X2_read u p1 0) (s_X2_read u (p1 - 1) 3) (s_X2_read u p1 3) x9 (s_X2_read u p1 1)) ⟨va_cnB (own := RX0) (host := RX5) (index := 70) (y := yX5_along) 5 hts gX0_fill_X5_along_n70 rfl rfl rfl (hF.2.1.1 (RX0, 70, yX5_along) (List.mem_of_getElem? (i := 4) rfl)) (hts (.initialized RX5) (by decide +kernel)) hd_X5_along ⟨(Nat.le_of_ble_eq_true rfl), (Nat.le_of_ble_eq_true rfl)⟩, hts (.static yX5_along) (by decide +kernel), trivial⟩ hF hS hA (hP.sub [] rfl) rfl hl.1 rfl (Nat.le_of_ble_eq_true rfl) ⟨(Nat.le_of_ble_eq_true rfl), (Nat.le_of_ble_eq_true rfl)⟩ dX0_fill_152 ?_
            refine W.eq (g2 := F0 m 155 ls [.int (s_X5_along (s_X2_read u p1 0) (s_X2_read u (p1 - 1) 3) (s_X2_read u p1 3) x9 (s_X2_read u p1 1)), .int (((s_X0_firstOf u87 p1) + x9) - 1), .ref (a 11)]) rfl ?_
            refine xMdSN (nL := 11) ⟨hx, hb, hml, hown, hts⟩ (c_X5_mark l E (a 11) 201 ((uR (uR u87 9 (s_X5_mark 201 (u87.1 9) (((s_X0_firstOf u87 p1) + x9) - 1) p1)) 10 (s_X5_mark 201 ((uR u87 9 (s_X5_mark 201 (u87.1 9) (((s_X0_firstOf u87 p1) + x9) - 1) p1)).1 10) (((s_X0_firstOf u87 p1) + x9) - 1) (s_X5_along (s_X2_read u p1 0) (s_X0_endVersine u (p1 - 1)) (s_X0_endVersine u p1) x9 (s_X2_read u p1 1)))).1 11) (((s_X0_firstOf u87 p1) + x9) - 1) (s_X5_along (s_X2_read u p1 0) (s_X2_read u (p1 - 1) 3) (s_X2_read u p1 3) x9 (s_X2_read u p1 1)) (hL.2 _ (List.mem_of_getElem? (i := 11) rfl))) ⟨va_cnB (own := RX0) (host := RX5) (index := 43) (y := yX5_mark) 3 hts gX0_fill_X5_mark_n43 rfl rfl rfl (hF.2.1.1 (RX0, 43, yX5_mark) (List.mem_of_getElem? (i := 1) rfl)) (hts (.initialized RX5) (by decide +kernel)) hd_X5_mark ⟨(Nat.le_of_ble_eq_true rfl), (Nat.le_of_ble_eq_true rfl)⟩, hts (.static yX5_mark) (by decide +kernel), trivial⟩ hF hS hL.2 (xsub1 (List.mem_of_getElem? (i := 11) rfl)) (hP.sub [11] rfl) rfl hl.1 rfl (Nat.le_of_ble_eq_true rfl) ⟨(Nat.le_of_ble_eq_true rfl), (Nat.le_of_ble_eq_true rfl)⟩ dX0_fill_155 (fun H1 locs hP1 hk hS => ?_)
            have hP : va_P (xD E) vwCl (wX E a (uR (uR (uR u87 9 (s_X5_mark 201 (u87.1 9) (((s_X0_firstOf u87 p1) + x9) - 1) p1)) 10 (s_X5_mark 201 ((uR u87 9 (s_X5_mark 201 (u87.1 9) (((s_X0_firstOf u87 p1) + x9) - 1) p1)).1 10) (((s_X0_firstOf u87 p1) + x9) - 1) (s_X5_along (s_X2_read u p1 0) (s_X0_endVersine u (p1 - 1)) (s_X0_endVersine u p1) x9 (s_X2_read u p1 1)))) 11 (s_X5_mark 201 ((uR (uR u87 9 (s_X5_mark 201 (u87.1 9) (((s_X0_firstOf u87 p1) + x9) - 1) p1)) 10 (s_X5_mark 201 ((uR u87 9 (s_X5_mark 201 (u87.1 9) (((s_X0_firstOf u87 p1) + x9) - 1) p1)).1 10) (((s_X0_firstOf u87 p1) + x9) - 1) (s_X5_along (s_X2_read u p1 0) (s_X0_endVersine u (p1 - 1)) (s_X0_endVersine u p1) x9 (s_X2_read u p1 1)))).1 11) (((s_X0_firstOf u87 p1) + x9) - 1) (s_X5_along (s_X2_read u p1 0) (s_X2_read u (p1 - 1) 3) (s_X2_read u p1 3) x9 (s_X2_read u p1 1))))) H1 := xset1 hP (xD_of (ws := wX E a (uR (uR u87 9 (s_X5_mark 201 (u87.1 9) (((s_X0_firstOf u87 p1) + x9) - 1) p1)) 10 (s_X5_mark 201 ((uR u87 9 (s_X5_mark 201 (u87.1 9) (((s_X0_firstOf u87 p1) + x9) - 1) p1)).1 10) (((s_X0_firstOf u87 p1) + x9) - 1) (s_X5_along (s_X2_read u p1 0) (s_X0_endVersine u (p1 - 1)) (s_X0_endVersine u p1) x9 (s_X2_read u p1 1))))) (A := (· ∈ LX a)) hL.1 (fun _ h => h)) (p := 11) rfl hP1 hk
            generalize H1 = H at hP hS ⊢
            refine W.eq (g2 := F0 m 158 ls []) rfl ?_
            refine lv_iinc (k := 1) (v := x9 + 1) (lv' := [(9, .int (x9 + 1)), (10, .int (((s_X0_firstOf u87 p1) + x9) - 1)), (8, .int (s_X2_read u p1 3)), (7, .int (s_X2_read u (p1 - 1) 3)), (6, .int (s_X0_endVersine u p1)), (5, .int (s_X0_endVersine u (p1 - 1))), (4, .int (s_X2_read u p1 1)), (3, .int (s_X2_read u p1 0)), (2, .int (s_X2_read u p1 0)), (0, .ref (a 7)), (1, .int p1)]) hx hb dX0_fill_158 hl rfl rfl (by decide) rfl (fun ls hl => ?_)
            refine lv_goto (tgt := 87) hx hb dX0_fill_161 rfl ?_
            exact ih87 (uR (uR (uR u87 9 (s_X5_mark 201 (u87.1 9) (((s_X0_firstOf u87 p1) + x9) - 1) p1)) 10 (s_X5_mark 201 ((uR u87 9 (s_X5_mark 201 (u87.1 9) (((s_X0_firstOf u87 p1) + x9) - 1) p1)).1 10) (((s_X0_firstOf u87 p1) + x9) - 1) (s_X5_along (s_X2_read u p1 0) (s_X0_endVersine u (p1 - 1)) (s_X0_endVersine u p1) x9 (s_X2_read u p1 1)))) 11 (s_X5_mark 201 ((uR (uR u87 9 (s_X5_mark 201 (u87.1 9) (((s_X0_firstOf u87 p1) + x9) - 1) p1)) 10 (s_X5_mark 201 ((uR u87 9 (s_X5_mark 201 (u87.1 9) (((s_X0_firstOf u87 p1) + x9) - 1) p1)).1 10) (((s_X0_firstOf u87 p1) + x9) - 1) (s_X5_along (s_X2_read u p1 0) (s_X0_endVersine u (p1 - 1)) (s_X0_endVersine u p1) x9 (s_X2_read u p1 1)))).1 11) (((s_X0_firstOf u87 p1) + x9) - 1) (s_X5_along (s_X2_read u p1 0) (s_X2_read u (p1 - 1) 3) (s_X2_read u p1 3) x9 (s_X2_read u p1 1)))) (x9 + 1) _ _ _ (Nat.lt_of_lt_of_le (xupl q3 (xrd hp0 _ _)) (Nat.le_of_lt_succ hM87)) hR (lv_sub hl [0, 2, 3, 4, 5, 6, 7, 8, 9, 10] rfl) hP hS
      exact L87 (((s_X2_read u p1 1).toInt + 1 - (1 : Int32).toInt).toNat + 1) u 1 _ _ ls (Nat.lt_succ_self _) hR hl hP hS
    · have hR := hR.trans (if_pos q2)
      refine lv_iconst (v := 2) hx hb dX0_fill_27 rfl ?_
      refine lv_goto (tgt := 32) hx hb dX0_fill_28 rfl ?_
      refine lv_istore_n (lv' := [(3, .int 2), (2, .int (s_X2_read u p1 0)), (0, .ref (a 7)), (1, .int p1)]) hx hb dX0_fill_32 rfl hl (by decide) rfl (fun ls hl => ?_)
      refine lv_aload_n hx hb dX0_fill_33 rfl (lv_at hl 2 rfl) ?_
      refine va_get (D := xD E) (ci := 0) (v := .ref (a 1)) (C := RX0) (T := TX0) (N := 8) hx hb hts (by decide +kernel) hown hK hP 7 rfl rfl 0 (by decide) (hts (.fieldLink RX0 9 "RailOffsets$Line" "pieces" "LRailOffsets$Pieces;") (by decide +kernel)) (fun _ h => h) rfl dX0_fill_34 ?_
      refine lv_iload_n hx hb dX0_fill_37 rfl (lv_at hl 3 rfl) ?_
      refine lv_iconst (v := 1) hx hb dX0_fill_38 rfl ?_
      refine xRoV (nL := 11) ⟨hx, hb, hml, hown, hts⟩ (c_X2_read l E a u p1 1) (cwV 2 hts gX0_fill_X2_read rfl rfl rfl ⟨rfl, hd_X2_read⟩ ⟨(Nat.le_of_ble_eq_true rfl), (Nat.le_of_ble_eq_true rfl)⟩) hF hS hA hP (va_recv (q := (RX2, TX2, 2)) hK hP (ci := 2) rfl (q0 := 1) rfl) rfl hl.1 rfl (Nat.le_of_ble_eq_true rfl) ⟨(Nat.le_of_ble_eq_true rfl), (Nat.le_of_ble_eq_true rfl)⟩ dX0_fill_39 ?_
      refine W.eq (g2 := F0 m 42 ls [.int (s_X2_read u p1 1)]) rfl ?_
      refine lv_istore (lv' := [(4, .int (s_X2_read u p1 1)), (3, .int 2), (2, .int (s_X2_read u p1 0)), (0, .ref (a 7)), (1, .int p1)]) hx hb dX0_fill_42 hl (by decide) rfl (fun ls hl => ?_)
      refine lv_aload_n hx hb dX0_fill_44 rfl (lv_at hl 3 rfl) ?_
      refine lv_iload_n hx hb dX0_fill_45 rfl (lv_at hl 4 rfl) ?_
      refine lv_iconst (v := 1) hx hb dX0_fill_46 rfl ?_
      refine lv_isub hx hb dX0_fill_47 ?_
      refine xRoV (nL := 11) ⟨hx, hb, hml, hown, hts⟩ (c_X0_endVersine l E a u (p1 - 1)) (cwV 1 hts gX0_fill_X0_endVersine rfl rfl rfl ⟨rfl, hd_X0_endVersine⟩ ⟨(Nat.le_of_ble_eq_true rfl), (Nat.le_of_ble_eq_true rfl)⟩) hF hS hA hP (va_recv (q := (RX0, TX0, 8)) hK hP (ci := 0) rfl (q0 := 7) rfl) rfl hl.1 rfl (Nat.le_of_ble_eq_true rfl) ⟨(Nat.le_of_ble_eq_true rfl), (Nat.le_of_ble_eq_true rfl)⟩ dX0_fill_48 ?_
      refine W.eq (g2 := F0 m 51 ls [.int (s_X0_endVersine u (p1 - 1))]) rfl ?_
      refine lv_istore (lv' := [(5, .int (s_X0_endVersine u (p1 - 1))), (4, .int (s_X2_read u p1 1)), (3, .int 2), (2, .int (s_X2_read u p1 0)), (0, .ref (a 7)), (1, .int p1)]) hx hb dX0_fill_51 hl (by decide) rfl (fun ls hl => ?_)
      refine lv_aload_n hx hb dX0_fill_53 rfl (lv_at hl 4 rfl) ?_
      refine lv_iload_n hx hb dX0_fill_54 rfl (lv_at hl 5 rfl) ?_
      refine xRoV (nL := 11) ⟨hx, hb, hml, hown, hts⟩ (c_X0_endVersine l E a u p1) (cwV 1 hts gX0_fill_X0_endVersine rfl rfl rfl ⟨rfl, hd_X0_endVersine⟩ ⟨(Nat.le_of_ble_eq_true rfl), (Nat.le_of_ble_eq_true rfl)⟩) hF hS hA hP (va_recv (q := (RX0, TX0, 8)) hK hP (ci := 0) rfl (q0 := 7) rfl) rfl hl.1 rfl (Nat.le_of_ble_eq_true rfl) ⟨(Nat.le_of_ble_eq_true rfl), (Nat.le_of_ble_eq_true rfl)⟩ dX0_fill_55 ?_
      refine W.eq (g2 := F0 m 58 ls [.int (s_X0_endVersine u p1)]) rfl ?_
      refine lv_istore (lv' := [(6, .int (s_X0_endVersine u p1)), (5, .int (s_X0_endVersine u (p1 - 1))), (4, .int (s_X2_read u p1 1)), (3, .int 2), (2, .int (s_X2_read u p1 0)), (0, .ref (a 7)), (1, .int p1)]) hx hb dX0_fill_58 hl (by decide) rfl (fun ls hl => ?_)
      refine lv_aload_n hx hb dX0_fill_60 rfl (lv_at hl 5 rfl) ?_
      refine va_get (D := xD E) (ci := 0) (v := .ref (a 1)) (C := RX0) (T := TX0) (N := 8) hx hb hts (by decide +kernel) hown hK hP 7 rfl rfl 0 (by decide) (hts (.fieldLink RX0 9 "RailOffsets$Line" "pieces" "LRailOffsets$Pieces;") (by decide +kernel)) (fun _ h => h) rfl dX0_fill_61 ?_
      refine lv_iload_n hx hb dX0_fill_64 rfl (lv_at hl 6 rfl) ?_
      refine lv_iconst (v := 1) hx hb dX0_fill_65 rfl ?_
      refine lv_isub hx hb dX0_fill_66 ?_
      refine lv_iconst (v := 3) hx hb dX0_fill_67 rfl ?_
      refine xRoV (nL := 11) ⟨hx, hb, hml, hown, hts⟩ (c_X2_read l E a u (p1 - 1) 3) (cwV 2 hts gX0_fill_X2_read rfl rfl rfl ⟨rfl, hd_X2_read⟩ ⟨(Nat.le_of_ble_eq_true rfl), (Nat.le_of_ble_eq_true rfl)⟩) hF hS hA hP (va_recv (q := (RX2, TX2, 2)) hK hP (ci := 2) rfl (q0 := 1) rfl) rfl hl.1 rfl (Nat.le_of_ble_eq_true rfl) ⟨(Nat.le_of_ble_eq_true rfl), (Nat.le_of_ble_eq_true rfl)⟩ dX0_fill_68 ?_
      refine W.eq (g2 := F0 m 71 ls [.int (s_X2_read u (p1 - 1) 3)]) rfl ?_
      refine lv_istore (lv' := [(7, .int (s_X2_read u (p1 - 1) 3)), (6, .int (s_X0_endVersine u p1)), (5, .int (s_X0_endVersine u (p1 - 1))), (4, .int (s_X2_read u p1 1)), (3, .int 2), (2, .int (s_X2_read u p1 0)), (0, .ref (a 7)), (1, .int p1)]) hx hb dX0_fill_71 hl (by decide) rfl (fun ls hl => ?_)
      refine lv_aload_n hx hb dX0_fill_73 rfl (lv_at hl 6 rfl) ?_
      refine va_get (D := xD E) (ci := 0) (v := .ref (a 1)) (C := RX0) (T := TX0) (N := 8) hx hb hts (by decide +kernel) hown hK hP 7 rfl rfl 0 (by decide) (hts (.fieldLink RX0 9 "RailOffsets$Line" "pieces" "LRailOffsets$Pieces;") (by decide +kernel)) (fun _ h => h) rfl dX0_fill_74 ?_
      refine lv_iload_n hx hb dX0_fill_77 rfl (lv_at hl 7 rfl) ?_
      refine lv_iconst (v := 3) hx hb dX0_fill_78 rfl ?_
      refine xRoV (nL := 11) ⟨hx, hb, hml, hown, hts⟩ (c_X2_read l E a u p1 3) (cwV 2 hts gX0_fill_X2_read rfl rfl rfl ⟨rfl, hd_X2_read⟩ ⟨(Nat.le_of_ble_eq_true rfl), (Nat.le_of_ble_eq_true rfl)⟩) hF hS hA hP (va_recv (q := (RX2, TX2, 2)) hK hP (ci := 2) rfl (q0 := 1) rfl) rfl hl.1 rfl (Nat.le_of_ble_eq_true rfl) ⟨(Nat.le_of_ble_eq_true rfl), (Nat.le_of_ble_eq_true rfl)⟩ dX0_fill_79 ?_
      refine W.eq (g2 := F0 m 82 ls [.int (s_X2_read u p1 3)]) rfl ?_
      refine lv_istore (lv' := [(8, .int (s_X2_read u p1 3)), (7, .int (s_X2_read u (p1 - 1) 3)), (6, .int (s_X0_endVersine u p1)), (5, .int (s_X0_endVersine u (p1 - 1))), (4, .int (s_X2_read u p1 1)), (3, .int 2), (2, .int (s_X2_read u p1 0)), (0, .ref (a 7)), (1, .int p1)]) hx hb dX0_fill_82 hl (by decide) rfl (fun ls hl => ?_)
      refine lv_iconst (v := 1) hx hb dX0_fill_84 rfl ?_
      refine lv_istore (lv' := [(9, .int 1), (8, .int (s_X2_read u p1 3)), (7, .int (s_X2_read u (p1 - 1) 3)), (6, .int (s_X0_endVersine u p1)), (5, .int (s_X0_endVersine u (p1 - 1))), (4, .int (s_X2_read u p1 1)), (3, .int 2), (2, .int (s_X2_read u p1 0)), (0, .ref (a 7)), (1, .int p1)]) hx hb dX0_fill_85 hl (by decide) rfl (fun ls hl => ?_)
      have L87 : ∀ (n87 : Nat) (u87 : xU) (x9 : Int32) (H : Heap) (locs : List Loc) (ls : Array Slot), ((s_X2_read u p1 1).toInt + 1 - x9.toInt).toNat < n87 → s_X0_fill u p1 = s_X0_fill_L87 n87 u87 p1 (s_X2_read u p1 0) 2 (s_X2_read u p1 1) (s_X0_endVersine u (p1 - 1)) (s_X0_endVersine u p1) (s_X2_read u (p1 - 1) 3) (s_X2_read u p1 3) x9 → lv_has ls 11 [(9, .int x9), (8, .int (s_X2_read u p1 3)), (7, .int (s_X2_read u (p1 - 1) 3)), (6, .int (s_X0_endVersine u p1)), (5, .int (s_X0_endVersine u (p1 - 1))), (4, .int (s_X2_read u p1 1)), (3, .int 2), (2, .int (s_X2_read u p1 0)), (0, .ref (a 7)), (1, .int p1)] → va_P (xD E) vwCl (wX E a u87) H → va_S (· ∈ LX a) s.heap H locs → W p l e rm_X0_fill s m ([.ref (a 7), .int p1] : List Value).toArray below meth c H locs 0 0 (xQmd E below (LX a) (none) (wX E a (s_X0_fill u p1)) ([.ref (a 7), .int p1] : List Value).toArray s) (F0 m 87 ls []) := by
        intro n87
        induction n87 with
        | zero => intro u87 x9 H locs ls hM87 hR hl hP hS; exact absurd hM87 (Nat.not_lt_zero _)
        | succ n87 ih87 =>
          intro u87 x9 H locs ls hM87 hR hl hP hS
          refine lv_iload hx hb dX0_fill_87 (lv_at hl 0 rfl) ?_
          refine lv_iload hx hb dX0_fill_89 (lv_at hl 5 rfl) ?_
          refine lv_icmp_gt (tgt := 164) hx hb dX0_fill_91 rfl (fun q4 => ?_) (fun q4 => ?_)
          · have hR := hR.trans (if_pos q4)
            have hR : s_X0_fill u p1 = u87 := hR
            exact W.vret hx hb hr (fun t ht _ => by rw [hR]; exact ⟨⟨rfl, by rw [ht]; exact hP⟩, hS.F ht⟩) hS.2.2 dX0_fill_164
          · have hR := hR.trans (if_neg q4)
            refine lv_aload_n hx hb dX0_fill_94 rfl (lv_at hl 8 rfl) ?_
            refine lv_iload_n hx hb dX0_fill_95 rfl (lv_at hl 9 rfl) ?_
            refine xRoV (nL := 11) ⟨hx, hb, hml, hown, hts⟩ (c_X0_firstOf l E a u87 p1) (cwV 1 hts gX0_fill_X0_firstOf rfl rfl rfl ⟨rfl, hd_X0_firstOf⟩ ⟨(Nat.le_of_ble_eq_true rfl), (Nat.le_of_ble_eq_true rfl)⟩) hF hS hA hP (va_recv (q := (RX0, TX0, 8)) hK hP (ci := 0) rfl (q0 := 7) rfl) rfl hl.1 rfl (Nat.le_of_ble_eq_true rfl) ⟨(Nat.le_of_ble_eq_true rfl), (Nat.le_of_ble_eq_true rfl)⟩ dX0_fill_96 ?_
            refine W.eq (g2 := F0 m 99 ls [.int (s_X0_firstOf u87 p1)]) rfl ?_
            refine lv_iload hx hb dX0_fill_99 (lv_at hl 0 rfl) ?_
            refine lv_iadd hx hb dX0_fill_101 ?_
            refine lv_iconst (v := 1) hx hb dX0_fill_102 rfl ?_
            refine lv_isub hx hb dX0_fill_103 ?_
            refine lv_istore (lv' := [(10, .int (((s_X0_firstOf u87 p1) + x9) - 1)), (9, .int x9), (8, .int (s_X2_read u p1 3)), (7, .int (s_X2_read u (p1 - 1) 3)), (6, .int (s_X0_endVersine u p1)), (5, .int (s_X0_endVersine u (p1 - 1))), (4, .int (s_X2_read u p1 1)), (3, .int 2), (2, .int (s_X2_read u p1 0)), (0, .ref (a 7)), (1, .int p1)]) hx hb dX0_fill_104 hl (by decide) rfl (fun ls hl => ?_)
            refine lv_aload_n hx hb dX0_fill_106 rfl (lv_at hl 9 rfl) ?_
            refine va_get (D := xD E) (ci := 0) (v := .ref (a 9)) (C := RX0) (T := TX0) (N := 8) hx hb hts (by decide +kernel) hown hK hP 7 rfl rfl 2 (by decide) (hts (.fieldLink RX0 19 "RailOffsets$Line" "owners" "[I") (by decide +kernel)) (fun _ h => h) rfl dX0_fill_107 ?_
            refine lv_iload hx hb dX0_fill_110 (lv_at hl 0 rfl) ?_
            refine lv_iload_n hx hb dX0_fill_112 rfl (lv_at hl 10 rfl) ?_
            refine xMdSN (nL := 11) ⟨hx, hb, hml, hown, hts⟩ (c_X5_mark l E (a 9) 201 (u87.1 9) (((s_X0_firstOf u87 p1) + x9) - 1) p1 (hL.2 _ (List.mem_of_getElem? (i := 9) rfl))) ⟨va_cnB (own := RX0) (host := RX5) (index := 43) (y := yX5_mark) 3 hts gX0_fill_X5_mark_n43 rfl rfl rfl (hF.2.1.1 (RX0, 43, yX5_mark) (List.mem_of_getElem? (i := 1) rfl)) (hts (.initialized RX5) (by decide +kernel)) hd_X5_mark ⟨(Nat.le_of_ble_eq_true rfl), (Nat.le_of_ble_eq_true rfl)⟩, hts (.static yX5_mark) (by decide +kernel), trivial⟩ hF hS hL.2 (xsub1 (List.mem_of_getElem? (i := 9) rfl)) (hP.sub [9] rfl) rfl hl.1 rfl (Nat.le_of_ble_eq_true rfl) ⟨(Nat.le_of_ble_eq_true rfl), (Nat.le_of_ble_eq_true rfl)⟩ dX0_fill_113 (fun H1 locs hP1 hk hS => ?_)
            have hP : va_P (xD E) vwCl (wX E a (uR u87 9 (s_X5_mark 201 (u87.1 9) (((s_X0_firstOf u87 p1) + x9) - 1) p1))) H1 := xset1 hP (xD_of (ws := wX E a u87) (A := (· ∈ LX a)) hL.1 (fun _ h => h)) (p := 9) rfl hP1 hk
            generalize H1 = H at hP hS ⊢
            refine W.eq (g2 := F0 m 116 ls []) rfl ?_
            refine lv_aload_n hx hb dX0_fill_116 rfl (lv_at hl 9 rfl) ?_
            refine va_get (D := xD E) (ci := 0) (v := .ref (a 10)) (C := RX0) (T := TX0) (N := 8) hx hb hts (by decide +kernel) hown hK hP 7 rfl rfl 3 (by decide) (hts (.fieldLink RX0 22 "RailOffsets$Line" "versines" "[I") (by decide +kernel)) (fun _ h => h) rfl dX0_fill_117 ?_
            refine lv_iload hx hb dX0_fill_120 (lv_at hl 0 rfl) ?_
            refine lv_iload_n hx hb dX0_fill_122 rfl (lv_at hl 8 rfl) ?_
            refine lv_iload hx hb dX0_fill_123 (lv_at hl 5 rfl) ?_
            refine lv_iload hx hb dX0_fill_125 (lv_at hl 4 rfl) ?_
            refine lv_iload hx hb dX0_fill_127 (lv_at hl 1 rfl) ?_
            refine lv_iload hx hb dX0_fill_129 (lv_at hl 6 rfl) ?_
            refine xRoSN (nL := 11) ⟨hx, hb, hml, hown, hts⟩ (c_X5_along l E (s_X2_read u p1 0) (s_X0_endVersine u (p1 - 1)) (s_X0_endVersine u p1) x9 (s_X2_read u p1 1)) ⟨va_cnB (own := RX0) (host := RX5) (index := 70) (y := yX5_along) 5 hts gX0_fill_X5_along_n70 rfl rfl rfl (hF.2.1.1 (RX0, 70, yX5_along) (List.mem_of_getElem? (i := 4) rfl)) (hts (.initialized RX5) (by decide +kernel)) hd_X5_along ⟨(Nat.le_of_ble_eq_true rfl), (Nat.le_of_ble_eq_true rfl)⟩, hts (.static yX5_along) (by decide +kernel), trivial⟩ hF hS hA (hP.sub [] rfl) rfl hl.1 rfl (Nat.le_of_ble_eq_true rfl) ⟨(Nat.le_of_ble_eq_true rfl), (Nat.le_of_ble_eq_true rfl)⟩ dX0_fill_131 ?_
            refine W.eq (g2 := F0 m 134 ls [.int (s_X5_along (s_X2_read u p1 0) (s_X0_endVersine u (p1 - 1)) (s_X0_endVersine u p1) x9 (s_X2_read u p1 1)), .int (((s_X0_firstOf u87 p1) + x9) - 1), .ref (a 10)]) rfl ?_
            refine xMdSN (nL := 11) ⟨hx, hb, hml, hown, hts⟩ (c_X5_mark l E (a 10) 201 ((uR u87 9 (s_X5_mark 201 (u87.1 9) (((s_X0_firstOf u87 p1) + x9) - 1) p1)).1 10) (((s_X0_firstOf u87 p1) + x9) - 1) (s_X5_along (s_X2_read u p1 0) (s_X0_endVersine u (p1 - 1)) (s_X0_endVersine u p1) x9 (s_X2_read u p1 1)) (hL.2 _ (List.mem_of_getElem? (i := 10) rfl))) ⟨va_cnB (own := RX0) (host := RX5) (index := 43) (y := yX5_mark) 3 hts gX0_fill_X5_mark_n43 rfl rfl rfl (hF.2.1.1 (RX0, 43, yX5_mark) (List.mem_of_getElem? (i := 1) rfl)) (hts (.initialized RX5) (by decide +kernel)) hd_X5_mark ⟨(Nat.le_of_ble_eq_true rfl), (Nat.le_of_ble_eq_true rfl)⟩, hts (.static yX5_mark) (by decide +kernel), trivial⟩ hF hS hL.2 (xsub1 (List.mem_of_getElem? (i := 10) rfl)) (hP.sub [10] rfl) rfl hl.1 rfl (Nat.le_of_ble_eq_true rfl) ⟨(Nat.le_of_ble_eq_true rfl), (Nat.le_of_ble_eq_true rfl)⟩ dX0_fill_134 (fun H1 locs hP1 hk hS => ?_)
            have hP : va_P (xD E) vwCl (wX E a (uR (uR u87 9 (s_X5_mark 201 (u87.1 9) (((s_X0_firstOf u87 p1) + x9) - 1) p1)) 10 (s_X5_mark 201 ((uR u87 9 (s_X5_mark 201 (u87.1 9) (((s_X0_firstOf u87 p1) + x9) - 1) p1)).1 10) (((s_X0_firstOf u87 p1) + x9) - 1) (s_X5_along (s_X2_read u p1 0) (s_X0_endVersine u (p1 - 1)) (s_X0_endVersine u p1) x9 (s_X2_read u p1 1))))) H1 := xset1 hP (xD_of (ws := wX E a (uR u87 9 (s_X5_mark 201 (u87.1 9) (((s_X0_firstOf u87 p1) + x9) - 1) p1))) (A := (· ∈ LX a)) hL.1 (fun _ h => h)) (p := 10) rfl hP1 hk
            generalize H1 = H at hP hS ⊢
            refine W.eq (g2 := F0 m 137 ls []) rfl ?_
            refine lv_aload_n hx hb dX0_fill_137 rfl (lv_at hl 9 rfl) ?_
            refine va_get (D := xD E) (ci := 0) (v := .ref (a 11)) (C := RX0) (T := TX0) (N := 8) hx hb hts (by decide +kernel) hown hK hP 7 rfl rfl 4 (by decide) (hts (.fieldLink RX0 25 "RailOffsets$Line" "heights" "[I") (by decide +kernel)) (fun _ h => h) rfl dX0_fill_138 ?_
            refine lv_iload hx hb dX0_fill_141 (lv_at hl 0 rfl) ?_
            refine lv_iload_n hx hb dX0_fill_143 rfl (lv_at hl 7 rfl) ?_
            refine lv_iload hx hb dX0_fill_144 (lv_at hl 3 rfl) ?_
            refine lv_iload hx hb dX0_fill_146 (lv_at hl 2 rfl) ?_
            refine lv_iload hx hb dX0_fill_148 (lv_at hl 1 rfl) ?_
            refine lv_iload hx hb dX0_fill_150 (lv_at hl 6 rfl) ?_
            refine xRoSN (nL := 11) ⟨hx, hb, hml, hown, hts⟩ (c_X5_along l E 2 (s_X2_read u (p1 - 1) 3) (s_X2_read u p1 3) x9 (s_X2_read u p1 1)) ⟨va_cnB (own := RX0) (host := RX5) (index := 70) (y := yX5_along) 5 hts gX0_fill_X5_along_n70 rfl rfl rfl (hF.2.1.1 (RX0, 70, yX5_along) (List.mem_of_getElem? (i := 4) rfl)) (hts (.initialized RX5) (by decide +kernel)) hd_X5_along ⟨(Nat.le_of_ble_eq_true rfl), (Nat.le_of_ble_eq_true rfl)⟩, hts (.static yX5_along) (by decide +kernel), trivial⟩ hF hS hA (hP.sub [] rfl) rfl hl.1 rfl (Nat.le_of_ble_eq_true rfl) ⟨(Nat.le_of_ble_eq_true rfl), (Nat.le_of_ble_eq_true rfl)⟩ dX0_fill_152 ?_
            refine W.eq (g2 := F0 m 155 ls [.int (s_X5_along 2 (s_X2_read u (p1 - 1) 3) (s_X2_read u p1 3) x9 (s_X2_read u p1 1)), .int (((s_X0_firstOf u87 p1) + x9) - 1), .ref (a 11)]) rfl ?_
            refine xMdSN (nL := 11) ⟨hx, hb, hml, hown, hts⟩ (c_X5_mark l E (a 11) 201 ((uR (uR u87 9 (s_X5_mark 201 (u87.1 9) (((s_X0_firstOf u87 p1) + x9) - 1) p1)) 10 (s_X5_mark 201 ((uR u87 9 (s_X5_mark 201 (u87.1 9) (((s_X0_firstOf u87 p1) + x9) - 1) p1)).1 10) (((s_X0_firstOf u87 p1) + x9) - 1) (s_X5_along (s_X2_read u p1 0) (s_X0_endVersine u (p1 - 1)) (s_X0_endVersine u p1) x9 (s_X2_read u p1 1)))).1 11) (((s_X0_firstOf u87 p1) + x9) - 1) (s_X5_along 2 (s_X2_read u (p1 - 1) 3) (s_X2_read u p1 3) x9 (s_X2_read u p1 1)) (hL.2 _ (List.mem_of_getElem? (i := 11) rfl))) ⟨va_cnB (own := RX0) (host := RX5) (index := 43) (y := yX5_mark) 3 hts gX0_fill_X5_mark_n43 rfl rfl rfl (hF.2.1.1 (RX0, 43, yX5_mark) (List.mem_of_getElem? (i := 1) rfl)) (hts (.initialized RX5) (by decide +kernel)) hd_X5_mark ⟨(Nat.le_of_ble_eq_true rfl), (Nat.le_of_ble_eq_true rfl)⟩, hts (.static yX5_mark) (by decide +kernel), trivial⟩ hF hS hL.2 (xsub1 (List.mem_of_getElem? (i := 11) rfl)) (hP.sub [11] rfl) rfl hl.1 rfl (Nat.le_of_ble_eq_true rfl) ⟨(Nat.le_of_ble_eq_true rfl), (Nat.le_of_ble_eq_true rfl)⟩ dX0_fill_155 (fun H1 locs hP1 hk hS => ?_)
            have hP : va_P (xD E) vwCl (wX E a (uR (uR (uR u87 9 (s_X5_mark 201 (u87.1 9) (((s_X0_firstOf u87 p1) + x9) - 1) p1)) 10 (s_X5_mark 201 ((uR u87 9 (s_X5_mark 201 (u87.1 9) (((s_X0_firstOf u87 p1) + x9) - 1) p1)).1 10) (((s_X0_firstOf u87 p1) + x9) - 1) (s_X5_along (s_X2_read u p1 0) (s_X0_endVersine u (p1 - 1)) (s_X0_endVersine u p1) x9 (s_X2_read u p1 1)))) 11 (s_X5_mark 201 ((uR (uR u87 9 (s_X5_mark 201 (u87.1 9) (((s_X0_firstOf u87 p1) + x9) - 1) p1)) 10 (s_X5_mark 201 ((uR u87 9 (s_X5_mark 201 (u87.1 9) (((s_X0_firstOf u87 p1) + x9) - 1) p1)).1 10) (((s_X0_firstOf u87 p1) + x9) - 1) (s_X5_along (s_X2_read u p1 0) (s_X0_endVersine u (p1 - 1)) (s_X0_endVersine u p1) x9 (s_X2_read u p1 1)))).1 11) (((s_X0_firstOf u87 p1) + x9) - 1) (s_X5_along 2 (s_X2_read u (p1 - 1) 3) (s_X2_read u p1 3) x9 (s_X2_read u p1 1))))) H1 := xset1 hP (xD_of (ws := wX E a (uR (uR u87 9 (s_X5_mark 201 (u87.1 9) (((s_X0_firstOf u87 p1) + x9) - 1) p1)) 10 (s_X5_mark 201 ((uR u87 9 (s_X5_mark 201 (u87.1 9) (((s_X0_firstOf u87 p1) + x9) - 1) p1)).1 10) (((s_X0_firstOf u87 p1) + x9) - 1) (s_X5_along (s_X2_read u p1 0) (s_X0_endVersine u (p1 - 1)) (s_X0_endVersine u p1) x9 (s_X2_read u p1 1))))) (A := (· ∈ LX a)) hL.1 (fun _ h => h)) (p := 11) rfl hP1 hk
            generalize H1 = H at hP hS ⊢
            refine W.eq (g2 := F0 m 158 ls []) rfl ?_
            refine lv_iinc (k := 1) (v := x9 + 1) (lv' := [(9, .int (x9 + 1)), (10, .int (((s_X0_firstOf u87 p1) + x9) - 1)), (8, .int (s_X2_read u p1 3)), (7, .int (s_X2_read u (p1 - 1) 3)), (6, .int (s_X0_endVersine u p1)), (5, .int (s_X0_endVersine u (p1 - 1))), (4, .int (s_X2_read u p1 1)), (3, .int 2), (2, .int (s_X2_read u p1 0)), (0, .ref (a 7)), (1, .int p1)]) hx hb dX0_fill_158 hl rfl rfl (by decide) rfl (fun ls hl => ?_)
            refine lv_goto (tgt := 87) hx hb dX0_fill_161 rfl ?_
            exact ih87 (uR (uR (uR u87 9 (s_X5_mark 201 (u87.1 9) (((s_X0_firstOf u87 p1) + x9) - 1) p1)) 10 (s_X5_mark 201 ((uR u87 9 (s_X5_mark 201 (u87.1 9) (((s_X0_firstOf u87 p1) + x9) - 1) p1)).1 10) (((s_X0_firstOf u87 p1) + x9) - 1) (s_X5_along (s_X2_read u p1 0) (s_X0_endVersine u (p1 - 1)) (s_X0_endVersine u p1) x9 (s_X2_read u p1 1)))) 11 (s_X5_mark 201 ((uR (uR u87 9 (s_X5_mark 201 (u87.1 9) (((s_X0_firstOf u87 p1) + x9) - 1) p1)) 10 (s_X5_mark 201 ((uR u87 9 (s_X5_mark 201 (u87.1 9) (((s_X0_firstOf u87 p1) + x9) - 1) p1)).1 10) (((s_X0_firstOf u87 p1) + x9) - 1) (s_X5_along (s_X2_read u p1 0) (s_X0_endVersine u (p1 - 1)) (s_X0_endVersine u p1) x9 (s_X2_read u p1 1)))).1 11) (((s_X0_firstOf u87 p1) + x9) - 1) (s_X5_along 2 (s_X2_read u (p1 - 1) 3) (s_X2_read u p1 3) x9 (s_X2_read u p1 1)))) (x9 + 1) _ _ _ (Nat.lt_of_lt_of_le (xupl q4 (xrd hp0 _ _)) (Nat.le_of_lt_succ hM87)) hR (lv_sub hl [0, 2, 3, 4, 5, 6, 7, 8, 9, 10] rfl) hP hS
      exact L87 (((s_X2_read u p1 1).toInt + 1 - (1 : Int32).toInt).toNat + 1) u 1 _ _ ls (Nat.lt_succ_self _) hR hl hP hS
  · have hR := hR.trans (if_pos q1)
    have hR : s_X0_fill u p1 = u := hR
    exact W.vret hx hb hr (fun t ht _ => by rw [hR]; exact ⟨⟨rfl, by rw [ht]; exact hP⟩, hS.F ht⟩) hS.2.2 dX0_fill_11
