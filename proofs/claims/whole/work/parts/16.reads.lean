def s_X5_of (u : xU) (p1 : Int32) (p2 : Int32) : Int32 :=
  if (s_X2_has u p1) = 0 then
    (-1000)
  else
    if (s_X5_within p2 0 6) = 0 then
      (-1000)
    else
      if p2 = 4 then
        s_X5_made (s_X2_read u p1 0) (s_X2_read u p1 1)
      else
        if p2 = 5 then
          s_X0_firstOf u p1
        else
          if p2 = 6 then
            s_X0_lastOf u p1
          else
            s_X2_read u p1 p2
abbrev rm_X5_of : Room := { frames := 3, cells := 0, slots := 0, locals := 67 }
set_option maxHeartbeats 8000000 in
set_option maxRecDepth 100000 in
theorem c_X5_of (l : Launch) (E : xG) (a : Nat → Nat) (u : xU) (p1 : Int32) (p2 : Int32) : xRo l E yX5_of wsX5_of rm_X5_of [.ref (a 0), .int p1, .int p2] (wX E a u) (some (.int (s_X5_of u p1 p2))) := by
  refine xRo.of (cc := cX5_of) (maxL := 3) (ret := (some .int)) (by decide) rfl (Nat.le_of_ble_eq_true rfl) ?_
  intro p e s m below meth c ls hAt hF hP hS hl
  obtain ⟨hx, hb, hr, hml, hown, hts, hlocks, -⟩ := hAt
  have hown : s.vm.findClass RX5 = some m.cls := hown
  have hl : lv_has ls 3 [(0, .ref (a 0)), (1, .int p1), (2, .int p2)] := hl
  have hK := hF.1
  have hA : ∀ q : Nat, (fun _ => False) q → xA0 E q := fun _ h => h.elim
  change W p l e rm_X5_of s m ([.ref (a 0), .int p1, .int p2] : List Value).toArray below meth c s.heap [] 0 0 (xQro below (some (.int (s_X5_of u p1 p2))) ([.ref (a 0), .int p1, .int p2] : List Value).toArray s) _
  have hR : s_X5_of u p1 p2 = s_X5_of u p1 p2 := rfl
  refine lv_aload_n hx hb dX5_of_0 rfl (lv_at hl 0 rfl) ?_
  refine va_get (D := xD E) (ci := 5) (v := .ref (a 1)) (C := RX5) (T := TX5) (N := 9) hx hb hts (by decide +kernel) hown hK hP 0 rfl rfl 0 (by decide) (hts (.fieldLink RX5 12 "RailOffsets" "pieces" "LRailOffsets$Pieces;") (by decide +kernel)) (fun _ h => h) rfl dX5_of_1 ?_
  refine lv_iload_n hx hb dX5_of_4 rfl (lv_at hl 1 rfl) ?_
  refine xRoV (nL := 3) ⟨hx, hb, hml, hown, hts⟩ (c_X2_has l E a u p1) (cwV 1 hts gX5_of_X2_has rfl rfl rfl ⟨rfl, hd_X2_has⟩ ⟨(Nat.le_of_ble_eq_true rfl), (Nat.le_of_ble_eq_true rfl)⟩) hF hS hA hP (va_recv (q := (RX2, TX2, 2)) hK hP (ci := 2) rfl (q0 := 1) rfl) rfl hl.1 rfl (Nat.le_of_ble_eq_true rfl) ⟨(Nat.le_of_ble_eq_true rfl), (Nat.le_of_ble_eq_true rfl)⟩ dX5_of_5 ?_
  refine W.eq (g2 := F0 m 8 ls [.int (s_X2_has u p1)]) rfl ?_
  refine lv_if_eq (tgt := 21) hx hb dX5_of_8 rfl (fun q1 => ?_) (fun q1 => ?_)
  · have hR := hR.trans (if_pos q1)
    refine lv_sipush (v := (-1000)) hx hb dX5_of_21 rfl ?_
    have hR : s_X5_of u p1 p2 = (-1000) := hR
    exact W.iret (v := (-1000)) hx hb hr (fun t ht _ => ⟨congrArg (fun z => Outcome.returned (some (Value.int z))) hR.symm, ht⟩) (fun _ h => by cases h) dX5_of_24
  · have hR := hR.trans (if_neg q1)
    refine lv_iload_n hx hb dX5_of_11 rfl (lv_at hl 2 rfl) ?_
    refine lv_iconst (v := 0) hx hb dX5_of_12 rfl ?_
    refine lv_bipush (v := 6) hx hb dX5_of_13 rfl ?_
    refine xRoS (nL := 3) ⟨hx, hb, hml, hown, hts⟩ (c_X5_within l E p2 0 6) (va_cwS 3 hts gX5_of_X5_within rfl rfl rfl hd_X5_within ⟨(Nat.le_of_ble_eq_true rfl), (Nat.le_of_ble_eq_true rfl)⟩) hF hS hA (hP.sub [] rfl) rfl hl.1 rfl (Nat.le_of_ble_eq_true rfl) ⟨(Nat.le_of_ble_eq_true rfl), (Nat.le_of_ble_eq_true rfl)⟩ dX5_of_15 ?_
    refine W.eq (g2 := F0 m 18 ls [.int (s_X5_within p2 0 6)]) rfl ?_
    refine lv_if_ne (tgt := 25) hx hb dX5_of_18 rfl (fun q2 => ?_) (fun q2 => ?_)
    · have hR := hR.trans (if_neg q2)
      refine lv_iload_n hx hb dX5_of_25 rfl (lv_at hl 2 rfl) ?_
      by_cases q3 : p2 = 4
      · have hR := hR.trans (if_pos q3)
        refine lv_tableIn (tgt := 52) (off := 26) hx hb dX5_of_26 (by rw [q3]; decide) (by rw [q3]; decide) (by rw [q3]; rfl) rfl ?_
        refine lv_aload_n hx hb dX5_of_52 rfl (lv_at hl 0 rfl) ?_
        refine va_get (D := xD E) (ci := 5) (v := .ref (a 1)) (C := RX5) (T := TX5) (N := 9) hx hb hts (by decide +kernel) hown hK hP 0 rfl rfl 0 (by decide) (hts (.fieldLink RX5 12 "RailOffsets" "pieces" "LRailOffsets$Pieces;") (by decide +kernel)) (fun _ h => h) rfl dX5_of_53 ?_
        refine lv_iload_n hx hb dX5_of_56 rfl (lv_at hl 1 rfl) ?_
        refine lv_iconst (v := 0) hx hb dX5_of_57 rfl ?_
        refine xRoV (nL := 3) ⟨hx, hb, hml, hown, hts⟩ (c_X2_read l E a u p1 0) (cwV 2 hts gX5_of_X2_read rfl rfl rfl ⟨rfl, hd_X2_read⟩ ⟨(Nat.le_of_ble_eq_true rfl), (Nat.le_of_ble_eq_true rfl)⟩) hF hS hA hP (va_recv (q := (RX2, TX2, 2)) hK hP (ci := 2) rfl (q0 := 1) rfl) rfl hl.1 rfl (Nat.le_of_ble_eq_true rfl) ⟨(Nat.le_of_ble_eq_true rfl), (Nat.le_of_ble_eq_true rfl)⟩ dX5_of_58 ?_
        refine W.eq (g2 := F0 m 61 ls [.int (s_X2_read u p1 0)]) rfl ?_
        refine lv_aload_n hx hb dX5_of_61 rfl (lv_at hl 0 rfl) ?_
        refine va_get (D := xD E) (ci := 5) (v := .ref (a 1)) (C := RX5) (T := TX5) (N := 9) hx hb hts (by decide +kernel) hown hK hP 0 rfl rfl 0 (by decide) (hts (.fieldLink RX5 12 "RailOffsets" "pieces" "LRailOffsets$Pieces;") (by decide +kernel)) (fun _ h => h) rfl dX5_of_62 ?_
        refine lv_iload_n hx hb dX5_of_65 rfl (lv_at hl 1 rfl) ?_
        refine lv_iconst (v := 1) hx hb dX5_of_66 rfl ?_
        refine xRoV (nL := 3) ⟨hx, hb, hml, hown, hts⟩ (c_X2_read l E a u p1 1) (cwV 2 hts gX5_of_X2_read rfl rfl rfl ⟨rfl, hd_X2_read⟩ ⟨(Nat.le_of_ble_eq_true rfl), (Nat.le_of_ble_eq_true rfl)⟩) hF hS hA hP (va_recv (q := (RX2, TX2, 2)) hK hP (ci := 2) rfl (q0 := 1) rfl) rfl hl.1 rfl (Nat.le_of_ble_eq_true rfl) ⟨(Nat.le_of_ble_eq_true rfl), (Nat.le_of_ble_eq_true rfl)⟩ dX5_of_67 ?_
        refine W.eq (g2 := F0 m 70 ls [.int (s_X2_read u p1 1), .int (s_X2_read u p1 0)]) rfl ?_
        refine xRoS (nL := 3) ⟨hx, hb, hml, hown, hts⟩ (c_X5_made l E (s_X2_read u p1 0) (s_X2_read u p1 1)) (va_cwS 2 hts gX5_of_X5_made rfl rfl rfl hd_X5_made ⟨(Nat.le_of_ble_eq_true rfl), (Nat.le_of_ble_eq_true rfl)⟩) hF hS hA (hP.sub [] rfl) rfl hl.1 rfl (Nat.le_of_ble_eq_true rfl) ⟨(Nat.le_of_ble_eq_true rfl), (Nat.le_of_ble_eq_true rfl)⟩ dX5_of_70 ?_
        refine W.eq (g2 := F0 m 73 ls [.int (s_X5_made (s_X2_read u p1 0) (s_X2_read u p1 1))]) rfl ?_
        have hR : s_X5_of u p1 p2 = s_X5_made (s_X2_read u p1 0) (s_X2_read u p1 1) := hR
        exact W.iret (v := s_X5_made (s_X2_read u p1 0) (s_X2_read u p1 1)) hx hb hr (fun t ht _ => ⟨congrArg (fun z => Outcome.returned (some (Value.int z))) hR.symm, ht⟩) (fun _ h => by cases h) dX5_of_73
      have hR := hR.trans (if_neg q3)
      by_cases q4 : p2 = 5
      · have hR := hR.trans (if_pos q4)
        refine lv_tableIn (tgt := 74) (off := 48) hx hb dX5_of_26 (by rw [q4]; decide) (by rw [q4]; decide) (by rw [q4]; rfl) rfl ?_
        refine lv_aload_n hx hb dX5_of_74 rfl (lv_at hl 0 rfl) ?_
        refine va_get (D := xD E) (ci := 5) (v := .ref (a 7)) (C := RX5) (T := TX5) (N := 9) hx hb hts (by decide +kernel) hown hK hP 0 rfl rfl 4 (by decide) (hts (.fieldLink RX5 41 "RailOffsets" "line" "LRailOffsets$Line;") (by decide +kernel)) (fun _ h => h) rfl dX5_of_75 ?_
        refine lv_iload_n hx hb dX5_of_78 rfl (lv_at hl 1 rfl) ?_
        refine xRoV (nL := 3) ⟨hx, hb, hml, hown, hts⟩ (c_X0_firstOf l E a u p1) (cwV 1 hts gX5_of_X0_firstOf rfl rfl rfl ⟨rfl, hd_X0_firstOf⟩ ⟨(Nat.le_of_ble_eq_true rfl), (Nat.le_of_ble_eq_true rfl)⟩) hF hS hA hP (va_recv (q := (RX0, TX0, 8)) hK hP (ci := 0) rfl (q0 := 7) rfl) rfl hl.1 rfl (Nat.le_of_ble_eq_true rfl) ⟨(Nat.le_of_ble_eq_true rfl), (Nat.le_of_ble_eq_true rfl)⟩ dX5_of_79 ?_
        refine W.eq (g2 := F0 m 82 ls [.int (s_X0_firstOf u p1)]) rfl ?_
        have hR : s_X5_of u p1 p2 = s_X0_firstOf u p1 := hR
        exact W.iret (v := s_X0_firstOf u p1) hx hb hr (fun t ht _ => ⟨congrArg (fun z => Outcome.returned (some (Value.int z))) hR.symm, ht⟩) (fun _ h => by cases h) dX5_of_82
      have hR := hR.trans (if_neg q4)
      by_cases q5 : p2 = 6
      · have hR := hR.trans (if_pos q5)
        refine lv_tableIn (tgt := 83) (off := 57) hx hb dX5_of_26 (by rw [q5]; decide) (by rw [q5]; decide) (by rw [q5]; rfl) rfl ?_
        refine lv_aload_n hx hb dX5_of_83 rfl (lv_at hl 0 rfl) ?_
        refine va_get (D := xD E) (ci := 5) (v := .ref (a 7)) (C := RX5) (T := TX5) (N := 9) hx hb hts (by decide +kernel) hown hK hP 0 rfl rfl 4 (by decide) (hts (.fieldLink RX5 41 "RailOffsets" "line" "LRailOffsets$Line;") (by decide +kernel)) (fun _ h => h) rfl dX5_of_84 ?_
        refine lv_iload_n hx hb dX5_of_87 rfl (lv_at hl 1 rfl) ?_
        refine xRoV (nL := 3) ⟨hx, hb, hml, hown, hts⟩ (c_X0_lastOf l E a u p1) (cwV 1 hts gX5_of_X0_lastOf rfl rfl rfl ⟨rfl, hd_X0_lastOf⟩ ⟨(Nat.le_of_ble_eq_true rfl), (Nat.le_of_ble_eq_true rfl)⟩) hF hS hA hP (va_recv (q := (RX0, TX0, 8)) hK hP (ci := 0) rfl (q0 := 7) rfl) rfl hl.1 rfl (Nat.le_of_ble_eq_true rfl) ⟨(Nat.le_of_ble_eq_true rfl), (Nat.le_of_ble_eq_true rfl)⟩ dX5_of_88 ?_
        refine W.eq (g2 := F0 m 91 ls [.int (s_X0_lastOf u p1)]) rfl ?_
        have hR : s_X5_of u p1 p2 = s_X0_lastOf u p1 := hR
        exact W.iret (v := s_X0_lastOf u p1) hx hb hr (fun t ht _ => ⟨congrArg (fun z => Outcome.returned (some (Value.int z))) hR.symm, ht⟩) (fun _ h => by cases h) dX5_of_91
      have hR := hR.trans (if_neg q5)
      refine lv_tableOut (tgt := 92) hx hb dX5_of_26 (xsw p2 (fun j h1 h2 h3 => by
        have h9 : j = 4 ∨ j = 5 ∨ j = 6 ∨ False := by omega
        rcases h9 with rfl | rfl | rfl | h9
        · exact q3 (Int32.toInt_inj.mp h3)
        · exact q4 (Int32.toInt_inj.mp h3)
        · exact q5 (Int32.toInt_inj.mp h3)
        · exact h9)) rfl ?_
      refine lv_aload_n hx hb dX5_of_92 rfl (lv_at hl 0 rfl) ?_
      refine va_get (D := xD E) (ci := 5) (v := .ref (a 1)) (C := RX5) (T := TX5) (N := 9) hx hb hts (by decide +kernel) hown hK hP 0 rfl rfl 0 (by decide) (hts (.fieldLink RX5 12 "RailOffsets" "pieces" "LRailOffsets$Pieces;") (by decide +kernel)) (fun _ h => h) rfl dX5_of_93 ?_
      refine lv_iload_n hx hb dX5_of_96 rfl (lv_at hl 1 rfl) ?_
      refine lv_iload_n hx hb dX5_of_97 rfl (lv_at hl 2 rfl) ?_
      refine xRoV (nL := 3) ⟨hx, hb, hml, hown, hts⟩ (c_X2_read l E a u p1 p2) (cwV 2 hts gX5_of_X2_read rfl rfl rfl ⟨rfl, hd_X2_read⟩ ⟨(Nat.le_of_ble_eq_true rfl), (Nat.le_of_ble_eq_true rfl)⟩) hF hS hA hP (va_recv (q := (RX2, TX2, 2)) hK hP (ci := 2) rfl (q0 := 1) rfl) rfl hl.1 rfl (Nat.le_of_ble_eq_true rfl) ⟨(Nat.le_of_ble_eq_true rfl), (Nat.le_of_ble_eq_true rfl)⟩ dX5_of_98 ?_
      refine W.eq (g2 := F0 m 101 ls [.int (s_X2_read u p1 p2)]) rfl ?_
      have hR : s_X5_of u p1 p2 = s_X2_read u p1 p2 := hR
      exact W.iret (v := s_X2_read u p1 p2) hx hb hr (fun t ht _ => ⟨congrArg (fun z => Outcome.returned (some (Value.int z))) hR.symm, ht⟩) (fun _ h => by cases h) dX5_of_101
    · have hR := hR.trans (if_pos q2)
      refine lv_sipush (v := (-1000)) hx hb dX5_of_21 rfl ?_
      have hR : s_X5_of u p1 p2 = (-1000) := hR
      exact W.iret (v := (-1000)) hx hb hr (fun t ht _ => ⟨congrArg (fun z => Outcome.returned (some (Value.int z))) hR.symm, ht⟩) (fun _ h => by cases h) dX5_of_24
def s_X5_taken (u : xU) (p1 : Int32) (p2 : Int32) : Int32 :=
  if (s_X2_has u p1) = 0 then
    (-2)
  else
    if (s_X5_fits 0 p2) = 0 then
      (-2)
    else
      if (s_X5_isUnder (s_X2_read u p1 0) p2) = 0 then
        (-13)
      else
        s_X2_read u p1 1
abbrev rm_X5_taken : Room := { frames := 2, cells := 0, slots := 0, locals := 44 }
set_option maxHeartbeats 8000000 in
set_option maxRecDepth 100000 in
theorem c_X5_taken (l : Launch) (E : xG) (a : Nat → Nat) (u : xU) (p1 : Int32) (p2 : Int32) : xRo l E yX5_taken wsX5_taken rm_X5_taken [.ref (a 0), .int p1, .int p2] (wX E a u) (some (.int (s_X5_taken u p1 p2))) := by
  refine xRo.of (cc := cX5_taken) (maxL := 3) (ret := (some .int)) (by decide) rfl (Nat.le_of_ble_eq_true rfl) ?_
  intro p e s m below meth c ls hAt hF hP hS hl
  obtain ⟨hx, hb, hr, hml, hown, hts, hlocks, -⟩ := hAt
  have hown : s.vm.findClass RX5 = some m.cls := hown
  have hl : lv_has ls 3 [(0, .ref (a 0)), (1, .int p1), (2, .int p2)] := hl
  have hK := hF.1
  have hA : ∀ q : Nat, (fun _ => False) q → xA0 E q := fun _ h => h.elim
  change W p l e rm_X5_taken s m ([.ref (a 0), .int p1, .int p2] : List Value).toArray below meth c s.heap [] 0 0 (xQro below (some (.int (s_X5_taken u p1 p2))) ([.ref (a 0), .int p1, .int p2] : List Value).toArray s) _
  have hR : s_X5_taken u p1 p2 = s_X5_taken u p1 p2 := rfl
  refine lv_aload_n hx hb dX5_taken_0 rfl (lv_at hl 0 rfl) ?_
  refine va_get (D := xD E) (ci := 5) (v := .ref (a 1)) (C := RX5) (T := TX5) (N := 9) hx hb hts (by decide +kernel) hown hK hP 0 rfl rfl 0 (by decide) (hts (.fieldLink RX5 12 "RailOffsets" "pieces" "LRailOffsets$Pieces;") (by decide +kernel)) (fun _ h => h) rfl dX5_taken_1 ?_
  refine lv_iload_n hx hb dX5_taken_4 rfl (lv_at hl 1 rfl) ?_
  refine xRoV (nL := 3) ⟨hx, hb, hml, hown, hts⟩ (c_X2_has l E a u p1) (cwV 1 hts gX5_taken_X2_has rfl rfl rfl ⟨rfl, hd_X2_has⟩ ⟨(Nat.le_of_ble_eq_true rfl), (Nat.le_of_ble_eq_true rfl)⟩) hF hS hA hP (va_recv (q := (RX2, TX2, 2)) hK hP (ci := 2) rfl (q0 := 1) rfl) rfl hl.1 rfl (Nat.le_of_ble_eq_true rfl) ⟨(Nat.le_of_ble_eq_true rfl), (Nat.le_of_ble_eq_true rfl)⟩ dX5_taken_5 ?_
  refine W.eq (g2 := F0 m 8 ls [.int (s_X2_has u p1)]) rfl ?_
  refine lv_if_eq (tgt := 19) hx hb dX5_taken_8 rfl (fun q1 => ?_) (fun q1 => ?_)
  · have hR := hR.trans (if_pos q1)
    refine lv_bipush (v := (-2)) hx hb dX5_taken_19 rfl ?_
    have hR : s_X5_taken u p1 p2 = (-2) := hR
    exact W.iret (v := (-2)) hx hb hr (fun t ht _ => ⟨congrArg (fun z => Outcome.returned (some (Value.int z))) hR.symm, ht⟩) (fun _ h => by cases h) dX5_taken_21
  · have hR := hR.trans (if_neg q1)
    refine lv_iconst (v := 0) hx hb dX5_taken_11 rfl ?_
    refine lv_iload_n hx hb dX5_taken_12 rfl (lv_at hl 2 rfl) ?_
    refine xRoS (nL := 3) ⟨hx, hb, hml, hown, hts⟩ (c_X5_fits l E 0 p2) (va_cwS 2 hts gX5_taken_X5_fits rfl rfl rfl hd_X5_fits ⟨(Nat.le_of_ble_eq_true rfl), (Nat.le_of_ble_eq_true rfl)⟩) hF hS hA (hP.sub [] rfl) rfl hl.1 rfl (Nat.le_of_ble_eq_true rfl) ⟨(Nat.le_of_ble_eq_true rfl), (Nat.le_of_ble_eq_true rfl)⟩ dX5_taken_13 ?_
    refine W.eq (g2 := F0 m 16 ls [.int (s_X5_fits 0 p2)]) rfl ?_
    refine lv_if_ne (tgt := 22) hx hb dX5_taken_16 rfl (fun q2 => ?_) (fun q2 => ?_)
    · have hR := hR.trans (if_neg q2)
      refine lv_aload_n hx hb dX5_taken_22 rfl (lv_at hl 0 rfl) ?_
      refine va_get (D := xD E) (ci := 5) (v := .ref (a 1)) (C := RX5) (T := TX5) (N := 9) hx hb hts (by decide +kernel) hown hK hP 0 rfl rfl 0 (by decide) (hts (.fieldLink RX5 12 "RailOffsets" "pieces" "LRailOffsets$Pieces;") (by decide +kernel)) (fun _ h => h) rfl dX5_taken_23 ?_
      refine lv_iload_n hx hb dX5_taken_26 rfl (lv_at hl 1 rfl) ?_
      refine lv_iconst (v := 0) hx hb dX5_taken_27 rfl ?_
      refine xRoV (nL := 3) ⟨hx, hb, hml, hown, hts⟩ (c_X2_read l E a u p1 0) (cwV 2 hts gX5_taken_X2_read rfl rfl rfl ⟨rfl, hd_X2_read⟩ ⟨(Nat.le_of_ble_eq_true rfl), (Nat.le_of_ble_eq_true rfl)⟩) hF hS hA hP (va_recv (q := (RX2, TX2, 2)) hK hP (ci := 2) rfl (q0 := 1) rfl) rfl hl.1 rfl (Nat.le_of_ble_eq_true rfl) ⟨(Nat.le_of_ble_eq_true rfl), (Nat.le_of_ble_eq_true rfl)⟩ dX5_taken_28 ?_
      refine W.eq (g2 := F0 m 31 ls [.int (s_X2_read u p1 0)]) rfl ?_
      refine lv_iload_n hx hb dX5_taken_31 rfl (lv_at hl 2 rfl) ?_
      refine xRoS (nL := 3) ⟨hx, hb, hml, hown, hts⟩ (c_X5_isUnder l E (s_X2_read u p1 0) p2) (va_cwS 2 hts gX5_taken_X5_isUnder rfl rfl rfl hd_X5_isUnder ⟨(Nat.le_of_ble_eq_true rfl), (Nat.le_of_ble_eq_true rfl)⟩) hF hS hA (hP.sub [] rfl) rfl hl.1 rfl (Nat.le_of_ble_eq_true rfl) ⟨(Nat.le_of_ble_eq_true rfl), (Nat.le_of_ble_eq_true rfl)⟩ dX5_taken_32 ?_
      refine W.eq (g2 := F0 m 35 ls [.int (s_X5_isUnder (s_X2_read u p1 0) p2)]) rfl ?_
      refine lv_if_eq (tgt := 50) hx hb dX5_taken_35 rfl (fun q3 => ?_) (fun q3 => ?_)
      · have hR := hR.trans (if_pos q3)
        refine lv_bipush (v := (-13)) hx hb dX5_taken_50 rfl ?_
        have hR : s_X5_taken u p1 p2 = (-13) := hR
        exact W.iret (v := (-13)) hx hb hr (fun t ht _ => ⟨congrArg (fun z => Outcome.returned (some (Value.int z))) hR.symm, ht⟩) (fun _ h => by cases h) dX5_taken_52
      · have hR := hR.trans (if_neg q3)
        refine lv_aload_n hx hb dX5_taken_38 rfl (lv_at hl 0 rfl) ?_
        refine va_get (D := xD E) (ci := 5) (v := .ref (a 1)) (C := RX5) (T := TX5) (N := 9) hx hb hts (by decide +kernel) hown hK hP 0 rfl rfl 0 (by decide) (hts (.fieldLink RX5 12 "RailOffsets" "pieces" "LRailOffsets$Pieces;") (by decide +kernel)) (fun _ h => h) rfl dX5_taken_39 ?_
        refine lv_iload_n hx hb dX5_taken_42 rfl (lv_at hl 1 rfl) ?_
        refine lv_iconst (v := 1) hx hb dX5_taken_43 rfl ?_
        refine xRoV (nL := 3) ⟨hx, hb, hml, hown, hts⟩ (c_X2_read l E a u p1 1) (cwV 2 hts gX5_taken_X2_read rfl rfl rfl ⟨rfl, hd_X2_read⟩ ⟨(Nat.le_of_ble_eq_true rfl), (Nat.le_of_ble_eq_true rfl)⟩) hF hS hA hP (va_recv (q := (RX2, TX2, 2)) hK hP (ci := 2) rfl (q0 := 1) rfl) rfl hl.1 rfl (Nat.le_of_ble_eq_true rfl) ⟨(Nat.le_of_ble_eq_true rfl), (Nat.le_of_ble_eq_true rfl)⟩ dX5_taken_44 ?_
        refine W.eq (g2 := F0 m 47 ls [.int (s_X2_read u p1 1)]) rfl ?_
        refine lv_goto (tgt := 52) hx hb dX5_taken_47 rfl ?_
        have hR : s_X5_taken u p1 p2 = s_X2_read u p1 1 := hR
        exact W.iret (v := s_X2_read u p1 1) hx hb hr (fun t ht _ => ⟨congrArg (fun z => Outcome.returned (some (Value.int z))) hR.symm, ht⟩) (fun _ h => by cases h) dX5_taken_52
    · have hR := hR.trans (if_pos q2)
      refine lv_bipush (v := (-2)) hx hb dX5_taken_19 rfl ?_
      have hR : s_X5_taken u p1 p2 = (-2) := hR
      exact W.iret (v := (-2)) hx hb hr (fun t ht _ => ⟨congrArg (fun z => Outcome.returned (some (Value.int z))) hR.symm, ht⟩) (fun _ h => by cases h) dX5_taken_21
def s_X5_at (u : xU) (p1 : Int32) (p2 : Int32) : Int64 :=
  if (s_X5_within p1 0 (u.2 3)) = 0 then
    xNO
  else
    if p2 = 0 then
      (s_X5_cell 201 (u.1 10) p1).toInt64
    else
      if p2 = 1 then
        (s_X5_cell 201 (u.1 11) p1).toInt64
      else
        if p2 = 2 then
          (s_X5_cell 201 (u.1 12) p1).toInt64
        else
          if p2 = 3 then
            (s_X5_cell 201 (u.1 13) p1).toInt64
          else
            if p2 = 4 then
              if p1 = 0 then
                xNO
              else
                (s_X5_cell 201 (u.1 9) p1).toInt64
            else
              xNO
abbrev rm_X5_at : Room := { frames := 1, cells := 0, slots := 0, locals := 22 }
set_option maxHeartbeats 8000000 in
set_option maxRecDepth 100000 in
theorem c_X5_at (l : Launch) (E : xG) (a : Nat → Nat) (u : xU) (p1 : Int32) (p2 : Int32) : xRo l E yX5_at wsX5_at rm_X5_at [.ref (a 0), .int p1, .int p2] (wX E a u) (some (.long (s_X5_at u p1 p2))) := by
  refine xRo.of (cc := cX5_at) (maxL := 3) (ret := (some .long)) (by decide) rfl (Nat.le_of_ble_eq_true rfl) ?_
  intro p e s m below meth c ls hAt hF hP hS hl
  obtain ⟨hx, hb, hr, hml, hown, hts, hlocks, -⟩ := hAt
  have hown : s.vm.findClass RX5 = some m.cls := hown
  have hl : lv_has ls 3 [(0, .ref (a 0)), (1, .int p1), (2, .int p2)] := hl
  have hK := hF.1
  have hA : ∀ q : Nat, (fun _ => False) q → xA0 E q := fun _ h => h.elim
  change W p l e rm_X5_at s m ([.ref (a 0), .int p1, .int p2] : List Value).toArray below meth c s.heap [] 0 0 (xQro below (some (.long (s_X5_at u p1 p2))) ([.ref (a 0), .int p1, .int p2] : List Value).toArray s) _
  have hR : s_X5_at u p1 p2 = s_X5_at u p1 p2 := rfl
  refine lv_iload_n hx hb dX5_at_0 rfl (lv_at hl 1 rfl) ?_
  refine lv_iconst (v := 0) hx hb dX5_at_1 rfl ?_
  refine lv_aload_n hx hb dX5_at_2 rfl (lv_at hl 0 rfl) ?_
  refine va_get (D := xD E) (ci := 5) (v := .ref (a 7)) (C := RX5) (T := TX5) (N := 9) hx hb hts (by decide +kernel) hown hK hP 0 rfl rfl 4 (by decide) (hts (.fieldLink RX5 41 "RailOffsets" "line" "LRailOffsets$Line;") (by decide +kernel)) (fun _ h => h) rfl dX5_at_3 ?_
  refine va_get (D := xD E) (ci := 0) (v := .int (u.2 3)) (C := RX0) (T := TX0) (N := 8) hx hb hts (by decide +kernel) hown hK hP 7 rfl rfl 7 (by decide) (hts (.fieldLink RX5 128 "RailOffsets$Line" "stations" "I") (by decide +kernel)) (fun _ h => h) rfl dX5_at_6 ?_
  refine xRoS (nL := 3) ⟨hx, hb, hml, hown, hts⟩ (c_X5_within l E p1 0 (u.2 3)) (va_cwS 3 hts gX5_at_X5_within rfl rfl rfl hd_X5_within ⟨(Nat.le_of_ble_eq_true rfl), (Nat.le_of_ble_eq_true rfl)⟩) hF hS hA (hP.sub [] rfl) rfl hl.1 rfl (Nat.le_of_ble_eq_true rfl) ⟨(Nat.le_of_ble_eq_true rfl), (Nat.le_of_ble_eq_true rfl)⟩ dX5_at_9 ?_
  refine W.eq (g2 := F0 m 12 ls [.int (s_X5_within p1 0 (u.2 3))]) rfl ?_
  refine lv_if_ne (tgt := 19) hx hb dX5_at_12 rfl (fun q1 => ?_) (fun q1 => ?_)
  · have hR := hR.trans (if_neg q1)
    refine lv_iload_n hx hb dX5_at_19 rfl (lv_at hl 2 rfl) ?_
    by_cases q2 : p2 = 0
    · have hR := hR.trans (if_pos q2)
      refine lv_tableIn (tgt := 56) (off := 36) hx hb dX5_at_20 (by rw [q2]; decide) (by rw [q2]; decide) (by rw [q2]; rfl) rfl ?_
      refine lv_aload_n hx hb dX5_at_56 rfl (lv_at hl 0 rfl) ?_
      refine va_get (D := xD E) (ci := 5) (v := .ref (a 7)) (C := RX5) (T := TX5) (N := 9) hx hb hts (by decide +kernel) hown hK hP 0 rfl rfl 4 (by decide) (hts (.fieldLink RX5 41 "RailOffsets" "line" "LRailOffsets$Line;") (by decide +kernel)) (fun _ h => h) rfl dX5_at_57 ?_
      refine va_get (D := xD E) (ci := 0) (v := .ref (a 10)) (C := RX0) (T := TX0) (N := 8) hx hb hts (by decide +kernel) hown hK hP 7 rfl rfl 3 (by decide) (hts (.fieldLink RX5 131 "RailOffsets$Line" "versines" "[I") (by decide +kernel)) (fun _ h => h) rfl dX5_at_60 ?_
      refine lv_iload_n hx hb dX5_at_63 rfl (lv_at hl 1 rfl) ?_
      refine xRoS (nL := 3) ⟨hx, hb, hml, hown, hts⟩ (c_X5_cell l E (a 10) 201 (u.1 10) p1) (va_cwS 2 hts gX5_at_X5_cell rfl rfl rfl hd_X5_cell ⟨(Nat.le_of_ble_eq_true rfl), (Nat.le_of_ble_eq_true rfl)⟩) hF hS hA (hP.sub [10] rfl) rfl hl.1 rfl (Nat.le_of_ble_eq_true rfl) ⟨(Nat.le_of_ble_eq_true rfl), (Nat.le_of_ble_eq_true rfl)⟩ dX5_at_64 ?_
      refine W.eq (g2 := F0 m 67 ls [.int (s_X5_cell 201 (u.1 10) p1)]) rfl ?_
      refine lv_i2l hx hb dX5_at_67 rfl ?_
      have hR : s_X5_at u p1 p2 = (s_X5_cell 201 (u.1 10) p1).toInt64 := hR
      exact W.lret (v := (s_X5_cell 201 (u.1 10) p1).toInt64) hx hb hr (fun t ht _ => ⟨congrArg (fun z => Outcome.returned (some (Value.long z))) hR.symm, ht⟩) (fun _ h => by cases h) dX5_at_68
    have hR := hR.trans (if_neg q2)
    by_cases q3 : p2 = 1
    · have hR := hR.trans (if_pos q3)
      refine lv_tableIn (tgt := 69) (off := 49) hx hb dX5_at_20 (by rw [q3]; decide) (by rw [q3]; decide) (by rw [q3]; rfl) rfl ?_
      refine lv_aload_n hx hb dX5_at_69 rfl (lv_at hl 0 rfl) ?_
      refine va_get (D := xD E) (ci := 5) (v := .ref (a 7)) (C := RX5) (T := TX5) (N := 9) hx hb hts (by decide +kernel) hown hK hP 0 rfl rfl 4 (by decide) (hts (.fieldLink RX5 41 "RailOffsets" "line" "LRailOffsets$Line;") (by decide +kernel)) (fun _ h => h) rfl dX5_at_70 ?_
      refine va_get (D := xD E) (ci := 0) (v := .ref (a 11)) (C := RX0) (T := TX0) (N := 8) hx hb hts (by decide +kernel) hown hK hP 7 rfl rfl 4 (by decide) (hts (.fieldLink RX5 134 "RailOffsets$Line" "heights" "[I") (by decide +kernel)) (fun _ h => h) rfl dX5_at_73 ?_
      refine lv_iload_n hx hb dX5_at_76 rfl (lv_at hl 1 rfl) ?_
      refine xRoS (nL := 3) ⟨hx, hb, hml, hown, hts⟩ (c_X5_cell l E (a 11) 201 (u.1 11) p1) (va_cwS 2 hts gX5_at_X5_cell rfl rfl rfl hd_X5_cell ⟨(Nat.le_of_ble_eq_true rfl), (Nat.le_of_ble_eq_true rfl)⟩) hF hS hA (hP.sub [11] rfl) rfl hl.1 rfl (Nat.le_of_ble_eq_true rfl) ⟨(Nat.le_of_ble_eq_true rfl), (Nat.le_of_ble_eq_true rfl)⟩ dX5_at_77 ?_
      refine W.eq (g2 := F0 m 80 ls [.int (s_X5_cell 201 (u.1 11) p1)]) rfl ?_
      refine lv_i2l hx hb dX5_at_80 rfl ?_
      have hR : s_X5_at u p1 p2 = (s_X5_cell 201 (u.1 11) p1).toInt64 := hR
      exact W.lret (v := (s_X5_cell 201 (u.1 11) p1).toInt64) hx hb hr (fun t ht _ => ⟨congrArg (fun z => Outcome.returned (some (Value.long z))) hR.symm, ht⟩) (fun _ h => by cases h) dX5_at_81
    have hR := hR.trans (if_neg q3)
    by_cases q4 : p2 = 2
    · have hR := hR.trans (if_pos q4)
      refine lv_tableIn (tgt := 82) (off := 62) hx hb dX5_at_20 (by rw [q4]; decide) (by rw [q4]; decide) (by rw [q4]; rfl) rfl ?_
      refine lv_aload_n hx hb dX5_at_82 rfl (lv_at hl 0 rfl) ?_
      refine va_get (D := xD E) (ci := 5) (v := .ref (a 7)) (C := RX5) (T := TX5) (N := 9) hx hb hts (by decide +kernel) hown hK hP 0 rfl rfl 4 (by decide) (hts (.fieldLink RX5 41 "RailOffsets" "line" "LRailOffsets$Line;") (by decide +kernel)) (fun _ h => h) rfl dX5_at_83 ?_
      refine va_get (D := xD E) (ci := 0) (v := .ref (a 12)) (C := RX0) (T := TX0) (N := 8) hx hb hts (by decide +kernel) hown hK hP 7 rfl rfl 5 (by decide) (hts (.fieldLink RX5 137 "RailOffsets$Line" "turns" "[I") (by decide +kernel)) (fun _ h => h) rfl dX5_at_86 ?_
      refine lv_iload_n hx hb dX5_at_89 rfl (lv_at hl 1 rfl) ?_
      refine xRoS (nL := 3) ⟨hx, hb, hml, hown, hts⟩ (c_X5_cell l E (a 12) 201 (u.1 12) p1) (va_cwS 2 hts gX5_at_X5_cell rfl rfl rfl hd_X5_cell ⟨(Nat.le_of_ble_eq_true rfl), (Nat.le_of_ble_eq_true rfl)⟩) hF hS hA (hP.sub [12] rfl) rfl hl.1 rfl (Nat.le_of_ble_eq_true rfl) ⟨(Nat.le_of_ble_eq_true rfl), (Nat.le_of_ble_eq_true rfl)⟩ dX5_at_90 ?_
      refine W.eq (g2 := F0 m 93 ls [.int (s_X5_cell 201 (u.1 12) p1)]) rfl ?_
      refine lv_i2l hx hb dX5_at_93 rfl ?_
      have hR : s_X5_at u p1 p2 = (s_X5_cell 201 (u.1 12) p1).toInt64 := hR
      exact W.lret (v := (s_X5_cell 201 (u.1 12) p1).toInt64) hx hb hr (fun t ht _ => ⟨congrArg (fun z => Outcome.returned (some (Value.long z))) hR.symm, ht⟩) (fun _ h => by cases h) dX5_at_94
    have hR := hR.trans (if_neg q4)
    by_cases q5 : p2 = 3
    · have hR := hR.trans (if_pos q5)
      refine lv_tableIn (tgt := 95) (off := 75) hx hb dX5_at_20 (by rw [q5]; decide) (by rw [q5]; decide) (by rw [q5]; rfl) rfl ?_
      refine lv_aload_n hx hb dX5_at_95 rfl (lv_at hl 0 rfl) ?_
      refine va_get (D := xD E) (ci := 5) (v := .ref (a 7)) (C := RX5) (T := TX5) (N := 9) hx hb hts (by decide +kernel) hown hK hP 0 rfl rfl 4 (by decide) (hts (.fieldLink RX5 41 "RailOffsets" "line" "LRailOffsets$Line;") (by decide +kernel)) (fun _ h => h) rfl dX5_at_96 ?_
      refine va_get (D := xD E) (ci := 0) (v := .ref (a 13)) (C := RX0) (T := TX0) (N := 8) hx hb hts (by decide +kernel) hown hK hP 7 rfl rfl 6 (by decide) (hts (.fieldLink RX5 140 "RailOffsets$Line" "offsets" "[I") (by decide +kernel)) (fun _ h => h) rfl dX5_at_99 ?_
      refine lv_iload_n hx hb dX5_at_102 rfl (lv_at hl 1 rfl) ?_
      refine xRoS (nL := 3) ⟨hx, hb, hml, hown, hts⟩ (c_X5_cell l E (a 13) 201 (u.1 13) p1) (va_cwS 2 hts gX5_at_X5_cell rfl rfl rfl hd_X5_cell ⟨(Nat.le_of_ble_eq_true rfl), (Nat.le_of_ble_eq_true rfl)⟩) hF hS hA (hP.sub [13] rfl) rfl hl.1 rfl (Nat.le_of_ble_eq_true rfl) ⟨(Nat.le_of_ble_eq_true rfl), (Nat.le_of_ble_eq_true rfl)⟩ dX5_at_103 ?_
      refine W.eq (g2 := F0 m 106 ls [.int (s_X5_cell 201 (u.1 13) p1)]) rfl ?_
      refine lv_i2l hx hb dX5_at_106 rfl ?_
      have hR : s_X5_at u p1 p2 = (s_X5_cell 201 (u.1 13) p1).toInt64 := hR
      exact W.lret (v := (s_X5_cell 201 (u.1 13) p1).toInt64) hx hb hr (fun t ht _ => ⟨congrArg (fun z => Outcome.returned (some (Value.long z))) hR.symm, ht⟩) (fun _ h => by cases h) dX5_at_107
    have hR := hR.trans (if_neg q5)
    by_cases q6 : p2 = 4
    · have hR := hR.trans (if_pos q6)
      refine lv_tableIn (tgt := 108) (off := 88) hx hb dX5_at_20 (by rw [q6]; decide) (by rw [q6]; decide) (by rw [q6]; rfl) rfl ?_
      refine lv_iload_n hx hb dX5_at_108 rfl (lv_at hl 1 rfl) ?_
      refine lv_if_ne (tgt := 118) hx hb dX5_at_109 rfl (fun q7 => ?_) (fun q7 => ?_)
      · have hR := hR.trans (if_neg q7)
        refine lv_aload_n hx hb dX5_at_118 rfl (lv_at hl 0 rfl) ?_
        refine va_get (D := xD E) (ci := 5) (v := .ref (a 7)) (C := RX5) (T := TX5) (N := 9) hx hb hts (by decide +kernel) hown hK hP 0 rfl rfl 4 (by decide) (hts (.fieldLink RX5 41 "RailOffsets" "line" "LRailOffsets$Line;") (by decide +kernel)) (fun _ h => h) rfl dX5_at_119 ?_
        refine va_get (D := xD E) (ci := 0) (v := .ref (a 9)) (C := RX0) (T := TX0) (N := 8) hx hb hts (by decide +kernel) hown hK hP 7 rfl rfl 2 (by decide) (hts (.fieldLink RX5 143 "RailOffsets$Line" "owners" "[I") (by decide +kernel)) (fun _ h => h) rfl dX5_at_122 ?_
        refine lv_iload_n hx hb dX5_at_125 rfl (lv_at hl 1 rfl) ?_
        refine xRoS (nL := 3) ⟨hx, hb, hml, hown, hts⟩ (c_X5_cell l E (a 9) 201 (u.1 9) p1) (va_cwS 2 hts gX5_at_X5_cell rfl rfl rfl hd_X5_cell ⟨(Nat.le_of_ble_eq_true rfl), (Nat.le_of_ble_eq_true rfl)⟩) hF hS hA (hP.sub [9] rfl) rfl hl.1 rfl (Nat.le_of_ble_eq_true rfl) ⟨(Nat.le_of_ble_eq_true rfl), (Nat.le_of_ble_eq_true rfl)⟩ dX5_at_126 ?_
        refine W.eq (g2 := F0 m 129 ls [.int (s_X5_cell 201 (u.1 9) p1)]) rfl ?_
        refine lv_i2l hx hb dX5_at_129 rfl ?_
        have hR : s_X5_at u p1 p2 = (s_X5_cell 201 (u.1 9) p1).toInt64 := hR
        exact W.lret (v := (s_X5_cell 201 (u.1 9) p1).toInt64) hx hb hr (fun t ht _ => ⟨congrArg (fun z => Outcome.returned (some (Value.long z))) hR.symm, ht⟩) (fun _ h => by cases h) dX5_at_130
      · have hR := hR.trans (if_pos q7)
        refine lv_ldc2 (v := xNO) hx hb hown (hts (.constantLong RX5 112 (-9223372036854775808)) (by decide +kernel)) dX5_at_112 ?_
        refine lv_goto (tgt := 130) hx hb dX5_at_115 rfl ?_
        have hR : s_X5_at u p1 p2 = xNO := hR
        exact W.lret (v := xNO) hx hb hr (fun t ht _ => ⟨congrArg (fun z => Outcome.returned (some (Value.long z))) hR.symm, ht⟩) (fun _ h => by cases h) dX5_at_130
    have hR := hR.trans (if_neg q6)
    refine lv_tableOut (tgt := 131) hx hb dX5_at_20 (xsw p2 (fun j h1 h2 h3 => by
      have h9 : j = 0 ∨ j = 1 ∨ j = 2 ∨ j = 3 ∨ j = 4 ∨ False := by omega
      rcases h9 with rfl | rfl | rfl | rfl | rfl | h9
      · exact q2 (Int32.toInt_inj.mp h3)
      · exact q3 (Int32.toInt_inj.mp h3)
      · exact q4 (Int32.toInt_inj.mp h3)
      · exact q5 (Int32.toInt_inj.mp h3)
      · exact q6 (Int32.toInt_inj.mp h3)
      · exact h9)) rfl ?_
    refine lv_ldc2 (v := xNO) hx hb hown (hts (.constantLong RX5 112 (-9223372036854775808)) (by decide +kernel)) dX5_at_131 ?_
    have hR : s_X5_at u p1 p2 = xNO := hR
    exact W.lret (v := xNO) hx hb hr (fun t ht _ => ⟨congrArg (fun z => Outcome.returned (some (Value.long z))) hR.symm, ht⟩) (fun _ h => by cases h) dX5_at_134
  · have hR := hR.trans (if_pos q1)
    refine lv_ldc2 (v := xNO) hx hb hown (hts (.constantLong RX5 112 (-9223372036854775808)) (by decide +kernel)) dX5_at_15 ?_
    have hR : s_X5_at u p1 p2 = xNO := hR
    exact W.lret (v := xNO) hx hb hr (fun t ht _ => ⟨congrArg (fun z => Outcome.returned (some (Value.long z))) hR.symm, ht⟩) (fun _ h => by cases h) dX5_at_18
def s_X5_scaled (u : xU) (p1 : Int32) : Int64 :=
  if (s_X5_within p1 0 (u.2 3)) = 0 then
    xNO
  else
    if (lg_cmp (((s_X5_cell 201 (u.1 13) p1).toInt64) * ((s_X5_cell 8 (u.1 5) 0).toInt64)) (((((s_X5_cell 201 (u.1 13) p1).toInt64) * ((s_X5_cell 8 (u.1 5) 0).toInt64)).toInt32).toInt64)) = 0 then
      ((s_X5_cell 201 (u.1 13) p1).toInt64) * ((s_X5_cell 8 (u.1 5) 0).toInt64)
    else
      xNO
abbrev rm_X5_scaled : Room := { frames := 1, cells := 0, slots := 0, locals := 22 }
set_option maxHeartbeats 8000000 in
set_option maxRecDepth 100000 in
theorem c_X5_scaled (l : Launch) (E : xG) (a : Nat → Nat) (u : xU) (p1 : Int32) : xRo l E yX5_scaled wsX5_scaled rm_X5_scaled [.ref (a 0), .int p1] (wX E a u) (some (.long (s_X5_scaled u p1))) := by
  refine xRo.of (cc := cX5_scaled) (maxL := 4) (ret := (some .long)) (by decide) rfl (Nat.le_of_ble_eq_true rfl) ?_
  intro p e s m below meth c ls hAt hF hP hS hl
  obtain ⟨hx, hb, hr, hml, hown, hts, hlocks, -⟩ := hAt
  have hown : s.vm.findClass RX5 = some m.cls := hown
  have hl : lv_has ls 4 [(0, .ref (a 0)), (1, .int p1)] := hl
  have hK := hF.1
  have hA : ∀ q : Nat, (fun _ => False) q → xA0 E q := fun _ h => h.elim
  change W p l e rm_X5_scaled s m ([.ref (a 0), .int p1] : List Value).toArray below meth c s.heap [] 0 0 (xQro below (some (.long (s_X5_scaled u p1))) ([.ref (a 0), .int p1] : List Value).toArray s) _
  have hR : s_X5_scaled u p1 = s_X5_scaled u p1 := rfl
  refine lv_iload_n hx hb dX5_scaled_0 rfl (lv_at hl 1 rfl) ?_
  refine lv_iconst (v := 0) hx hb dX5_scaled_1 rfl ?_
  refine lv_aload_n hx hb dX5_scaled_2 rfl (lv_at hl 0 rfl) ?_
  refine va_get (D := xD E) (ci := 5) (v := .ref (a 7)) (C := RX5) (T := TX5) (N := 9) hx hb hts (by decide +kernel) hown hK hP 0 rfl rfl 4 (by decide) (hts (.fieldLink RX5 41 "RailOffsets" "line" "LRailOffsets$Line;") (by decide +kernel)) (fun _ h => h) rfl dX5_scaled_3 ?_
  refine va_get (D := xD E) (ci := 0) (v := .int (u.2 3)) (C := RX0) (T := TX0) (N := 8) hx hb hts (by decide +kernel) hown hK hP 7 rfl rfl 7 (by decide) (hts (.fieldLink RX5 128 "RailOffsets$Line" "stations" "I") (by decide +kernel)) (fun _ h => h) rfl dX5_scaled_6 ?_
  refine xRoS (nL := 4) ⟨hx, hb, hml, hown, hts⟩ (c_X5_within l E p1 0 (u.2 3)) (va_cwS 3 hts gX5_scaled_X5_within rfl rfl rfl hd_X5_within ⟨(Nat.le_of_ble_eq_true rfl), (Nat.le_of_ble_eq_true rfl)⟩) hF hS hA (hP.sub [] rfl) rfl hl.1 rfl (Nat.le_of_ble_eq_true rfl) ⟨(Nat.le_of_ble_eq_true rfl), (Nat.le_of_ble_eq_true rfl)⟩ dX5_scaled_9 ?_
  refine W.eq (g2 := F0 m 12 ls [.int (s_X5_within p1 0 (u.2 3))]) rfl ?_
  refine lv_if_ne (tgt := 19) hx hb dX5_scaled_12 rfl (fun q1 => ?_) (fun q1 => ?_)
  · have hR := hR.trans (if_neg q1)
    refine lv_aload_n hx hb dX5_scaled_19 rfl (lv_at hl 0 rfl) ?_
    refine va_get (D := xD E) (ci := 5) (v := .ref (a 7)) (C := RX5) (T := TX5) (N := 9) hx hb hts (by decide +kernel) hown hK hP 0 rfl rfl 4 (by decide) (hts (.fieldLink RX5 41 "RailOffsets" "line" "LRailOffsets$Line;") (by decide +kernel)) (fun _ h => h) rfl dX5_scaled_20 ?_
    refine va_get (D := xD E) (ci := 0) (v := .ref (a 13)) (C := RX0) (T := TX0) (N := 8) hx hb hts (by decide +kernel) hown hK hP 7 rfl rfl 6 (by decide) (hts (.fieldLink RX5 140 "RailOffsets$Line" "offsets" "[I") (by decide +kernel)) (fun _ h => h) rfl dX5_scaled_23 ?_
    refine lv_iload_n hx hb dX5_scaled_26 rfl (lv_at hl 1 rfl) ?_
    refine xRoS (nL := 4) ⟨hx, hb, hml, hown, hts⟩ (c_X5_cell l E (a 13) 201 (u.1 13) p1) (va_cwS 2 hts gX5_scaled_X5_cell rfl rfl rfl hd_X5_cell ⟨(Nat.le_of_ble_eq_true rfl), (Nat.le_of_ble_eq_true rfl)⟩) hF hS hA (hP.sub [13] rfl) rfl hl.1 rfl (Nat.le_of_ble_eq_true rfl) ⟨(Nat.le_of_ble_eq_true rfl), (Nat.le_of_ble_eq_true rfl)⟩ dX5_scaled_27 ?_
    refine W.eq (g2 := F0 m 30 ls [.int (s_X5_cell 201 (u.1 13) p1)]) rfl ?_
    refine lv_i2l hx hb dX5_scaled_30 rfl ?_
    refine lv_aload_n hx hb dX5_scaled_31 rfl (lv_at hl 0 rfl) ?_
    refine va_get (D := xD E) (ci := 5) (v := .ref (a 5)) (C := RX5) (T := TX5) (N := 9) hx hb hts (by decide +kernel) hown hK hP 0 rfl rfl 2 (by decide) (hts (.fieldLink RX5 30 "RailOffsets" "rules" "[I") (by decide +kernel)) (fun _ h => h) rfl dX5_scaled_32 ?_
    refine lv_iconst (v := 0) hx hb dX5_scaled_35 rfl ?_
    refine xRoS (nL := 4) ⟨hx, hb, hml, hown, hts⟩ (c_X5_cell l E (a 5) 8 (u.1 5) 0) (va_cwS 2 hts gX5_scaled_X5_cell rfl rfl rfl hd_X5_cell ⟨(Nat.le_of_ble_eq_true rfl), (Nat.le_of_ble_eq_true rfl)⟩) hF hS hA (hP.sub [5] rfl) rfl hl.1 rfl (Nat.le_of_ble_eq_true rfl) ⟨(Nat.le_of_ble_eq_true rfl), (Nat.le_of_ble_eq_true rfl)⟩ dX5_scaled_36 ?_
    refine W.eq (g2 := F0 m 39 ls [.int (s_X5_cell 8 (u.1 5) 0), .long ((s_X5_cell 201 (u.1 13) p1).toInt64)]) rfl ?_
    refine lv_i2l hx hb dX5_scaled_39 rfl ?_
    refine lv_lmul hx hb dX5_scaled_40 ?_
    refine lv_lstore_n (lv' := [(2, .long (((s_X5_cell 201 (u.1 13) p1).toInt64) * ((s_X5_cell 8 (u.1 5) 0).toInt64))), (0, .ref (a 0)), (1, .int p1)]) hx hb dX5_scaled_41 rfl hl (by decide) rfl (fun ls hl => ?_)
    refine lv_lload_n hx hb dX5_scaled_42 rfl (lv_at hl 0 rfl) ?_
    refine lv_lload_n hx hb dX5_scaled_43 rfl (lv_at hl 0 rfl) ?_
    refine lv_l2i hx hb dX5_scaled_44 rfl ?_
    refine lv_i2l hx hb dX5_scaled_45 rfl ?_
    refine W.lcmp hx hb dX5_scaled_46 ?_
    refine lv_if_ne (tgt := 54) hx hb dX5_scaled_47 rfl (fun q2 => ?_) (fun q2 => ?_)
    · have hR := hR.trans (if_neg q2)
      refine lv_ldc2 (v := xNO) hx hb hown (hts (.constantLong RX5 112 (-9223372036854775808)) (by decide +kernel)) dX5_scaled_54 ?_
      have hR : s_X5_scaled u p1 = xNO := hR
      exact W.lret (v := xNO) hx hb hr (fun t ht _ => ⟨congrArg (fun z => Outcome.returned (some (Value.long z))) hR.symm, ht⟩) (fun _ h => by cases h) dX5_scaled_57
    · have hR := hR.trans (if_pos q2)
      refine lv_lload_n hx hb dX5_scaled_50 rfl (lv_at hl 0 rfl) ?_
      refine lv_goto (tgt := 57) hx hb dX5_scaled_51 rfl ?_
      have hR : s_X5_scaled u p1 = ((s_X5_cell 201 (u.1 13) p1).toInt64) * ((s_X5_cell 8 (u.1 5) 0).toInt64) := hR
      exact W.lret (v := ((s_X5_cell 201 (u.1 13) p1).toInt64) * ((s_X5_cell 8 (u.1 5) 0).toInt64)) hx hb hr (fun t ht _ => ⟨congrArg (fun z => Outcome.returned (some (Value.long z))) hR.symm, ht⟩) (fun _ h => by cases h) dX5_scaled_57
  · have hR := hR.trans (if_pos q1)
    refine lv_ldc2 (v := xNO) hx hb hown (hts (.constantLong RX5 112 (-9223372036854775808)) (by decide +kernel)) dX5_scaled_15 ?_
    have hR : s_X5_scaled u p1 = xNO := hR
    exact W.lret (v := xNO) hx hb hr (fun t ht _ => ⟨congrArg (fun z => Outcome.returned (some (Value.long z))) hR.symm, ht⟩) (fun _ h => by cases h) dX5_scaled_18
def s_X5_apartAhead_10 (u : xU) (p2 : Int32) : Int32 :=
  iAbs ((s_X5_cell 201 (u.1 10) (s_X0_firstOf u p2)) - (s_X5_cell 201 (u.1 10) ((s_X0_firstOf u p2) - 1)))
abbrev rm_X5_apartAhead_10 : Room := { frames := 2, cells := 0, slots := 0, locals := 42 }
set_option maxHeartbeats 8000000 in
set_option maxRecDepth 100000 in
theorem c_X5_apartAhead_10 (l : Launch) (E : xG) (a : Nat → Nat) (u : xU) (p2 : Int32) : xRo l E yX5_apartAhead wsX5_apartAhead rm_X5_apartAhead_10 [.ref (a 0), .ref (a 10), .int p2] (wX E a u) (some (.int (s_X5_apartAhead_10 u p2))) := by
  refine xRo.of (cc := cX5_apartAhead) (maxL := 4) (ret := (some .int)) (by decide) rfl (Nat.le_of_ble_eq_true rfl) ?_
  intro p e s m below meth c ls hAt hF hP hS hl
  obtain ⟨hx, hb, hr, hml, hown, hts, hlocks, -⟩ := hAt
  have hown : s.vm.findClass RX5 = some m.cls := hown
  have hl : lv_has ls 4 [(0, .ref (a 0)), (1, .ref (a 10)), (2, .int p2)] := hl
  have hK := hF.1
  have hA : ∀ q : Nat, (fun _ => False) q → xA0 E q := fun _ h => h.elim
  change W p l e rm_X5_apartAhead_10 s m ([.ref (a 0), .ref (a 10), .int p2] : List Value).toArray below meth c s.heap [] 0 0 (xQro below (some (.int (s_X5_apartAhead_10 u p2))) ([.ref (a 0), .ref (a 10), .int p2] : List Value).toArray s) _
  have hR : s_X5_apartAhead_10 u p2 = s_X5_apartAhead_10 u p2 := rfl
  refine lv_aload_n hx hb dX5_apartAhead_0 rfl (lv_at hl 0 rfl) ?_
  refine va_get (D := xD E) (ci := 5) (v := .ref (a 7)) (C := RX5) (T := TX5) (N := 9) hx hb hts (by decide +kernel) hown hK hP 0 rfl rfl 4 (by decide) (hts (.fieldLink RX5 41 "RailOffsets" "line" "LRailOffsets$Line;") (by decide +kernel)) (fun _ h => h) rfl dX5_apartAhead_1 ?_
  refine lv_iload_n hx hb dX5_apartAhead_4 rfl (lv_at hl 2 rfl) ?_
  refine xRoV (nL := 4) ⟨hx, hb, hml, hown, hts⟩ (c_X0_firstOf l E a u p2) (cwV 1 hts gX5_apartAhead_X0_firstOf rfl rfl rfl ⟨rfl, hd_X0_firstOf⟩ ⟨(Nat.le_of_ble_eq_true rfl), (Nat.le_of_ble_eq_true rfl)⟩) hF hS hA hP (va_recv (q := (RX0, TX0, 8)) hK hP (ci := 0) rfl (q0 := 7) rfl) rfl hl.1 rfl (Nat.le_of_ble_eq_true rfl) ⟨(Nat.le_of_ble_eq_true rfl), (Nat.le_of_ble_eq_true rfl)⟩ dX5_apartAhead_5 ?_
  refine W.eq (g2 := F0 m 8 ls [.int (s_X0_firstOf u p2)]) rfl ?_
  refine lv_istore_n (lv' := [(3, .int (s_X0_firstOf u p2)), (0, .ref (a 0)), (1, .ref (a 10)), (2, .int p2)]) hx hb dX5_apartAhead_8 rfl hl (by decide) rfl (fun ls hl => ?_)
  refine lv_aload_n hx hb dX5_apartAhead_9 rfl (lv_at hl 2 rfl) ?_
  refine lv_iload_n hx hb dX5_apartAhead_10 rfl (lv_at hl 0 rfl) ?_
  refine xRoS (nL := 4) ⟨hx, hb, hml, hown, hts⟩ (c_X5_cell l E (a 10) 201 (u.1 10) (s_X0_firstOf u p2)) (va_cwS 2 hts gX5_apartAhead_X5_cell rfl rfl rfl hd_X5_cell ⟨(Nat.le_of_ble_eq_true rfl), (Nat.le_of_ble_eq_true rfl)⟩) hF hS hA (hP.sub [10] rfl) rfl hl.1 rfl (Nat.le_of_ble_eq_true rfl) ⟨(Nat.le_of_ble_eq_true rfl), (Nat.le_of_ble_eq_true rfl)⟩ dX5_apartAhead_11 ?_
  refine W.eq (g2 := F0 m 14 ls [.int (s_X5_cell 201 (u.1 10) (s_X0_firstOf u p2))]) rfl ?_
  refine lv_aload_n hx hb dX5_apartAhead_14 rfl (lv_at hl 2 rfl) ?_
  refine lv_iload_n hx hb dX5_apartAhead_15 rfl (lv_at hl 0 rfl) ?_
  refine lv_iconst (v := 1) hx hb dX5_apartAhead_16 rfl ?_
  refine lv_isub hx hb dX5_apartAhead_17 ?_
  refine xRoS (nL := 4) ⟨hx, hb, hml, hown, hts⟩ (c_X5_cell l E (a 10) 201 (u.1 10) ((s_X0_firstOf u p2) - 1)) (va_cwS 2 hts gX5_apartAhead_X5_cell rfl rfl rfl hd_X5_cell ⟨(Nat.le_of_ble_eq_true rfl), (Nat.le_of_ble_eq_true rfl)⟩) hF hS hA (hP.sub [10] rfl) rfl hl.1 rfl (Nat.le_of_ble_eq_true rfl) ⟨(Nat.le_of_ble_eq_true rfl), (Nat.le_of_ble_eq_true rfl)⟩ dX5_apartAhead_18 ?_
  refine W.eq (g2 := F0 m 21 ls [.int (s_X5_cell 201 (u.1 10) ((s_X0_firstOf u p2) - 1)), .int (s_X5_cell 201 (u.1 10) (s_X0_firstOf u p2))]) rfl ?_
  refine lv_isub hx hb dX5_apartAhead_21 ?_
  refine va_mabs hx hb (hml.trans hl.1.symm) hown (hts (.methodLink RX5 152 Lib.Math.abs.name) (by decide +kernel)) (hts (.static Lib.Math.abs.name) (by decide +kernel)) (hts (.initialized "java/lang/Math") (by decide +kernel)) (hts (.code Lib.Math.abs.name Lib.Math.abs.code 1 (some .int)) (by decide +kernel)) (Nat.le_of_ble_eq_true rfl) (Nat.le_of_ble_eq_true rfl) (Nat.le_of_ble_eq_true rfl) (Nat.le_of_ble_eq_true rfl) dX5_apartAhead_22 ?_
  refine W.eq (g2 := F0 m 25 ls [.int (iAbs ((s_X5_cell 201 (u.1 10) (s_X0_firstOf u p2)) - (s_X5_cell 201 (u.1 10) ((s_X0_firstOf u p2) - 1))))]) rfl ?_
  have hR : s_X5_apartAhead_10 u p2 = iAbs ((s_X5_cell 201 (u.1 10) (s_X0_firstOf u p2)) - (s_X5_cell 201 (u.1 10) ((s_X0_firstOf u p2) - 1))) := hR
  exact W.iret (v := iAbs ((s_X5_cell 201 (u.1 10) (s_X0_firstOf u p2)) - (s_X5_cell 201 (u.1 10) ((s_X0_firstOf u p2) - 1)))) hx hb hr (fun t ht _ => ⟨congrArg (fun z => Outcome.returned (some (Value.int z))) hR.symm, ht⟩) (fun _ h => by cases h) dX5_apartAhead_25
def s_X5_apartAhead_11 (u : xU) (p2 : Int32) : Int32 :=
  iAbs ((s_X5_cell 201 (u.1 11) (s_X0_firstOf u p2)) - (s_X5_cell 201 (u.1 11) ((s_X0_firstOf u p2) - 1)))
abbrev rm_X5_apartAhead_11 : Room := { frames := 2, cells := 0, slots := 0, locals := 42 }
set_option maxHeartbeats 8000000 in
set_option maxRecDepth 100000 in
theorem c_X5_apartAhead_11 (l : Launch) (E : xG) (a : Nat → Nat) (u : xU) (p2 : Int32) : xRo l E yX5_apartAhead wsX5_apartAhead rm_X5_apartAhead_11 [.ref (a 0), .ref (a 11), .int p2] (wX E a u) (some (.int (s_X5_apartAhead_11 u p2))) := by
  refine xRo.of (cc := cX5_apartAhead) (maxL := 4) (ret := (some .int)) (by decide) rfl (Nat.le_of_ble_eq_true rfl) ?_
  intro p e s m below meth c ls hAt hF hP hS hl
  obtain ⟨hx, hb, hr, hml, hown, hts, hlocks, -⟩ := hAt
  have hown : s.vm.findClass RX5 = some m.cls := hown
  have hl : lv_has ls 4 [(0, .ref (a 0)), (1, .ref (a 11)), (2, .int p2)] := hl
  have hK := hF.1
  have hA : ∀ q : Nat, (fun _ => False) q → xA0 E q := fun _ h => h.elim
  change W p l e rm_X5_apartAhead_11 s m ([.ref (a 0), .ref (a 11), .int p2] : List Value).toArray below meth c s.heap [] 0 0 (xQro below (some (.int (s_X5_apartAhead_11 u p2))) ([.ref (a 0), .ref (a 11), .int p2] : List Value).toArray s) _
  have hR : s_X5_apartAhead_11 u p2 = s_X5_apartAhead_11 u p2 := rfl
  refine lv_aload_n hx hb dX5_apartAhead_0 rfl (lv_at hl 0 rfl) ?_
  refine va_get (D := xD E) (ci := 5) (v := .ref (a 7)) (C := RX5) (T := TX5) (N := 9) hx hb hts (by decide +kernel) hown hK hP 0 rfl rfl 4 (by decide) (hts (.fieldLink RX5 41 "RailOffsets" "line" "LRailOffsets$Line;") (by decide +kernel)) (fun _ h => h) rfl dX5_apartAhead_1 ?_
  refine lv_iload_n hx hb dX5_apartAhead_4 rfl (lv_at hl 2 rfl) ?_
  refine xRoV (nL := 4) ⟨hx, hb, hml, hown, hts⟩ (c_X0_firstOf l E a u p2) (cwV 1 hts gX5_apartAhead_X0_firstOf rfl rfl rfl ⟨rfl, hd_X0_firstOf⟩ ⟨(Nat.le_of_ble_eq_true rfl), (Nat.le_of_ble_eq_true rfl)⟩) hF hS hA hP (va_recv (q := (RX0, TX0, 8)) hK hP (ci := 0) rfl (q0 := 7) rfl) rfl hl.1 rfl (Nat.le_of_ble_eq_true rfl) ⟨(Nat.le_of_ble_eq_true rfl), (Nat.le_of_ble_eq_true rfl)⟩ dX5_apartAhead_5 ?_
  refine W.eq (g2 := F0 m 8 ls [.int (s_X0_firstOf u p2)]) rfl ?_
  refine lv_istore_n (lv' := [(3, .int (s_X0_firstOf u p2)), (0, .ref (a 0)), (1, .ref (a 11)), (2, .int p2)]) hx hb dX5_apartAhead_8 rfl hl (by decide) rfl (fun ls hl => ?_)
  refine lv_aload_n hx hb dX5_apartAhead_9 rfl (lv_at hl 2 rfl) ?_
  refine lv_iload_n hx hb dX5_apartAhead_10 rfl (lv_at hl 0 rfl) ?_
  refine xRoS (nL := 4) ⟨hx, hb, hml, hown, hts⟩ (c_X5_cell l E (a 11) 201 (u.1 11) (s_X0_firstOf u p2)) (va_cwS 2 hts gX5_apartAhead_X5_cell rfl rfl rfl hd_X5_cell ⟨(Nat.le_of_ble_eq_true rfl), (Nat.le_of_ble_eq_true rfl)⟩) hF hS hA (hP.sub [11] rfl) rfl hl.1 rfl (Nat.le_of_ble_eq_true rfl) ⟨(Nat.le_of_ble_eq_true rfl), (Nat.le_of_ble_eq_true rfl)⟩ dX5_apartAhead_11 ?_
  refine W.eq (g2 := F0 m 14 ls [.int (s_X5_cell 201 (u.1 11) (s_X0_firstOf u p2))]) rfl ?_
  refine lv_aload_n hx hb dX5_apartAhead_14 rfl (lv_at hl 2 rfl) ?_
  refine lv_iload_n hx hb dX5_apartAhead_15 rfl (lv_at hl 0 rfl) ?_
  refine lv_iconst (v := 1) hx hb dX5_apartAhead_16 rfl ?_
  refine lv_isub hx hb dX5_apartAhead_17 ?_
  refine xRoS (nL := 4) ⟨hx, hb, hml, hown, hts⟩ (c_X5_cell l E (a 11) 201 (u.1 11) ((s_X0_firstOf u p2) - 1)) (va_cwS 2 hts gX5_apartAhead_X5_cell rfl rfl rfl hd_X5_cell ⟨(Nat.le_of_ble_eq_true rfl), (Nat.le_of_ble_eq_true rfl)⟩) hF hS hA (hP.sub [11] rfl) rfl hl.1 rfl (Nat.le_of_ble_eq_true rfl) ⟨(Nat.le_of_ble_eq_true rfl), (Nat.le_of_ble_eq_true rfl)⟩ dX5_apartAhead_18 ?_
  refine W.eq (g2 := F0 m 21 ls [.int (s_X5_cell 201 (u.1 11) ((s_X0_firstOf u p2) - 1)), .int (s_X5_cell 201 (u.1 11) (s_X0_firstOf u p2))]) rfl ?_
  refine lv_isub hx hb dX5_apartAhead_21 ?_
  refine va_mabs hx hb (hml.trans hl.1.symm) hown (hts (.methodLink RX5 152 Lib.Math.abs.name) (by decide +kernel)) (hts (.static Lib.Math.abs.name) (by decide +kernel)) (hts (.initialized "java/lang/Math") (by decide +kernel)) (hts (.code Lib.Math.abs.name Lib.Math.abs.code 1 (some .int)) (by decide +kernel)) (Nat.le_of_ble_eq_true rfl) (Nat.le_of_ble_eq_true rfl) (Nat.le_of_ble_eq_true rfl) (Nat.le_of_ble_eq_true rfl) dX5_apartAhead_22 ?_
  refine W.eq (g2 := F0 m 25 ls [.int (iAbs ((s_X5_cell 201 (u.1 11) (s_X0_firstOf u p2)) - (s_X5_cell 201 (u.1 11) ((s_X0_firstOf u p2) - 1))))]) rfl ?_
  have hR : s_X5_apartAhead_11 u p2 = iAbs ((s_X5_cell 201 (u.1 11) (s_X0_firstOf u p2)) - (s_X5_cell 201 (u.1 11) ((s_X0_firstOf u p2) - 1))) := hR
  exact W.iret (v := iAbs ((s_X5_cell 201 (u.1 11) (s_X0_firstOf u p2)) - (s_X5_cell 201 (u.1 11) ((s_X0_firstOf u p2) - 1)))) hx hb hr (fun t ht _ => ⟨congrArg (fun z => Outcome.returned (some (Value.int z))) hR.symm, ht⟩) (fun _ h => by cases h) dX5_apartAhead_25
def s_X5_jumps (u : xU) (p1 : Int32) : Int32 :=
  if (s_X5_cell 8 (u.1 5) 4) < (s_X5_apartAhead_10 u (p1 + 1)) then
    1
  else
    if (s_X5_apartAhead_11 u (p1 + 1)) ≤ (s_X5_cell 8 (u.1 5) 3) then
      0
    else
      1
abbrev rm_X5_jumps : Room := { frames := 3, cells := 0, slots := 0, locals := 65 }
set_option maxHeartbeats 8000000 in
set_option maxRecDepth 100000 in
theorem c_X5_jumps (l : Launch) (E : xG) (a : Nat → Nat) (u : xU) (p1 : Int32) : xRo l E yX5_jumps wsX5_jumps rm_X5_jumps [.ref (a 0), .int p1] (wX E a u) (some (.int (s_X5_jumps u p1))) := by
  refine xRo.of (cc := cX5_jumps) (maxL := 2) (ret := (some .boolean)) (by decide) rfl (Nat.le_of_ble_eq_true rfl) ?_
  intro p e s m below meth c ls hAt hF hP hS hl
  obtain ⟨hx, hb, hr, hml, hown, hts, hlocks, -⟩ := hAt
  have hown : s.vm.findClass RX5 = some m.cls := hown
  have hl : lv_has ls 2 [(0, .ref (a 0)), (1, .int p1)] := hl
  have hK := hF.1
  have hA : ∀ q : Nat, (fun _ => False) q → xA0 E q := fun _ h => h.elim
  change W p l e rm_X5_jumps s m ([.ref (a 0), .int p1] : List Value).toArray below meth c s.heap [] 0 0 (xQro below (some (.int (s_X5_jumps u p1))) ([.ref (a 0), .int p1] : List Value).toArray s) _
  have hR : s_X5_jumps u p1 = s_X5_jumps u p1 := rfl
  refine lv_aload_n hx hb dX5_jumps_0 rfl (lv_at hl 0 rfl) ?_
  refine lv_aload_n hx hb dX5_jumps_1 rfl (lv_at hl 0 rfl) ?_
  refine va_get (D := xD E) (ci := 5) (v := .ref (a 7)) (C := RX5) (T := TX5) (N := 9) hx hb hts (by decide +kernel) hown hK hP 0 rfl rfl 4 (by decide) (hts (.fieldLink RX5 41 "RailOffsets" "line" "LRailOffsets$Line;") (by decide +kernel)) (fun _ h => h) rfl dX5_jumps_2 ?_
  refine va_get (D := xD E) (ci := 0) (v := .ref (a 10)) (C := RX0) (T := TX0) (N := 8) hx hb hts (by decide +kernel) hown hK hP 7 rfl rfl 3 (by decide) (hts (.fieldLink RX5 131 "RailOffsets$Line" "versines" "[I") (by decide +kernel)) (fun _ h => h) rfl dX5_jumps_5 ?_
  refine lv_iload_n hx hb dX5_jumps_8 rfl (lv_at hl 1 rfl) ?_
  refine lv_iconst (v := 1) hx hb dX5_jumps_9 rfl ?_
  refine lv_iadd hx hb dX5_jumps_10 ?_
  refine xRoV (nL := 2) ⟨hx, hb, hml, hown, hts⟩ (c_X5_apartAhead_10 l E a u (p1 + 1)) (cwV 2 hts gX5_jumps_X5_apartAhead rfl rfl rfl ⟨rfl, hd_X5_apartAhead⟩ ⟨(Nat.le_of_ble_eq_true rfl), (Nat.le_of_ble_eq_true rfl)⟩) hF hS hA hP (va_recv (q := (RX5, TX5, 9)) hK hP (ci := 5) rfl (q0 := 0) rfl) rfl hl.1 rfl (Nat.le_of_ble_eq_true rfl) ⟨(Nat.le_of_ble_eq_true rfl), (Nat.le_of_ble_eq_true rfl)⟩ dX5_jumps_11 ?_
  refine W.eq (g2 := F0 m 14 ls [.int (s_X5_apartAhead_10 u (p1 + 1))]) rfl ?_
  refine lv_aload_n hx hb dX5_jumps_14 rfl (lv_at hl 0 rfl) ?_
  refine va_get (D := xD E) (ci := 5) (v := .ref (a 5)) (C := RX5) (T := TX5) (N := 9) hx hb hts (by decide +kernel) hown hK hP 0 rfl rfl 2 (by decide) (hts (.fieldLink RX5 30 "RailOffsets" "rules" "[I") (by decide +kernel)) (fun _ h => h) rfl dX5_jumps_15 ?_
  refine lv_iconst (v := 4) hx hb dX5_jumps_18 rfl ?_
  refine xRoS (nL := 2) ⟨hx, hb, hml, hown, hts⟩ (c_X5_cell l E (a 5) 8 (u.1 5) 4) (va_cwS 2 hts gX5_jumps_X5_cell rfl rfl rfl hd_X5_cell ⟨(Nat.le_of_ble_eq_true rfl), (Nat.le_of_ble_eq_true rfl)⟩) hF hS hA (hP.sub [5] rfl) rfl hl.1 rfl (Nat.le_of_ble_eq_true rfl) ⟨(Nat.le_of_ble_eq_true rfl), (Nat.le_of_ble_eq_true rfl)⟩ dX5_jumps_19 ?_
  refine W.eq (g2 := F0 m 22 ls [.int (s_X5_cell 8 (u.1 5) 4), .int (s_X5_apartAhead_10 u (p1 + 1))]) rfl ?_
  refine lv_icmp_gt (tgt := 50) hx hb dX5_jumps_22 rfl (fun q1 => ?_) (fun q1 => ?_)
  · have hR := hR.trans (if_pos q1)
    refine lv_iconst (v := 1) hx hb dX5_jumps_50 rfl ?_
    refine lv_goto (tgt := 55) hx hb dX5_jumps_51 rfl ?_
    have hR : s_X5_jumps u p1 = 1 := hR
    exact W.zret (v := 1) (ty := .boolean) hx hb hr (xnb (Or.inr rfl)) (fun t ht _ => ⟨congrArg (fun z => Outcome.returned (some (Value.int z))) hR.symm, ht⟩) (fun _ h => by cases h) dX5_jumps_55
  · have hR := hR.trans (if_neg q1)
    refine lv_aload_n hx hb dX5_jumps_25 rfl (lv_at hl 0 rfl) ?_
    refine lv_aload_n hx hb dX5_jumps_26 rfl (lv_at hl 0 rfl) ?_
    refine va_get (D := xD E) (ci := 5) (v := .ref (a 7)) (C := RX5) (T := TX5) (N := 9) hx hb hts (by decide +kernel) hown hK hP 0 rfl rfl 4 (by decide) (hts (.fieldLink RX5 41 "RailOffsets" "line" "LRailOffsets$Line;") (by decide +kernel)) (fun _ h => h) rfl dX5_jumps_27 ?_
    refine va_get (D := xD E) (ci := 0) (v := .ref (a 11)) (C := RX0) (T := TX0) (N := 8) hx hb hts (by decide +kernel) hown hK hP 7 rfl rfl 4 (by decide) (hts (.fieldLink RX5 134 "RailOffsets$Line" "heights" "[I") (by decide +kernel)) (fun _ h => h) rfl dX5_jumps_30 ?_
    refine lv_iload_n hx hb dX5_jumps_33 rfl (lv_at hl 1 rfl) ?_
    refine lv_iconst (v := 1) hx hb dX5_jumps_34 rfl ?_
    refine lv_iadd hx hb dX5_jumps_35 ?_
    refine xRoV (nL := 2) ⟨hx, hb, hml, hown, hts⟩ (c_X5_apartAhead_11 l E a u (p1 + 1)) (cwV 2 hts gX5_jumps_X5_apartAhead rfl rfl rfl ⟨rfl, hd_X5_apartAhead⟩ ⟨(Nat.le_of_ble_eq_true rfl), (Nat.le_of_ble_eq_true rfl)⟩) hF hS hA hP (va_recv (q := (RX5, TX5, 9)) hK hP (ci := 5) rfl (q0 := 0) rfl) rfl hl.1 rfl (Nat.le_of_ble_eq_true rfl) ⟨(Nat.le_of_ble_eq_true rfl), (Nat.le_of_ble_eq_true rfl)⟩ dX5_jumps_36 ?_
    refine W.eq (g2 := F0 m 39 ls [.int (s_X5_apartAhead_11 u (p1 + 1))]) rfl ?_
    refine lv_aload_n hx hb dX5_jumps_39 rfl (lv_at hl 0 rfl) ?_
    refine va_get (D := xD E) (ci := 5) (v := .ref (a 5)) (C := RX5) (T := TX5) (N := 9) hx hb hts (by decide +kernel) hown hK hP 0 rfl rfl 2 (by decide) (hts (.fieldLink RX5 30 "RailOffsets" "rules" "[I") (by decide +kernel)) (fun _ h => h) rfl dX5_jumps_40 ?_
    refine lv_iconst (v := 3) hx hb dX5_jumps_43 rfl ?_
    refine xRoS (nL := 2) ⟨hx, hb, hml, hown, hts⟩ (c_X5_cell l E (a 5) 8 (u.1 5) 3) (va_cwS 2 hts gX5_jumps_X5_cell rfl rfl rfl hd_X5_cell ⟨(Nat.le_of_ble_eq_true rfl), (Nat.le_of_ble_eq_true rfl)⟩) hF hS hA (hP.sub [5] rfl) rfl hl.1 rfl (Nat.le_of_ble_eq_true rfl) ⟨(Nat.le_of_ble_eq_true rfl), (Nat.le_of_ble_eq_true rfl)⟩ dX5_jumps_44 ?_
    refine W.eq (g2 := F0 m 47 ls [.int (s_X5_cell 8 (u.1 5) 3), .int (s_X5_apartAhead_11 u (p1 + 1))]) rfl ?_
    refine lv_icmp_le (tgt := 54) hx hb dX5_jumps_47 rfl (fun q2 => ?_) (fun q2 => ?_)
    · have hR := hR.trans (if_pos q2)
      refine lv_iconst (v := 0) hx hb dX5_jumps_54 rfl ?_
      have hR : s_X5_jumps u p1 = 0 := hR
      exact W.zret (v := 0) (ty := .boolean) hx hb hr (xnb (Or.inl rfl)) (fun t ht _ => ⟨congrArg (fun z => Outcome.returned (some (Value.int z))) hR.symm, ht⟩) (fun _ h => by cases h) dX5_jumps_55
    · have hR := hR.trans (if_neg q2)
      refine lv_iconst (v := 1) hx hb dX5_jumps_50 rfl ?_
      refine lv_goto (tgt := 55) hx hb dX5_jumps_51 rfl ?_
      have hR : s_X5_jumps u p1 = 1 := hR
      exact W.zret (v := 1) (ty := .boolean) hx hb hr (xnb (Or.inr rfl)) (fun t ht _ => ⟨congrArg (fun z => Outcome.returned (some (Value.int z))) hR.symm, ht⟩) (fun _ h => by cases h) dX5_jumps_55
def s_X5_join (u : xU) (p1 : Int32) (p2 : Int32) : Int32 :=
  if (s_X5_within p1 0 ((u.2 1) - 2)) = 0 then
    (-2)
  else
    if p2 = 0 then
      s_X5_apartAhead_10 u (p1 + 1)
    else
      if p2 = 1 then
        s_X5_apartAhead_11 u (p1 + 1)
      else
        if p2 = 2 then
          if (s_X5_jumps u p1) = 0 then
            0
          else
            1
        else
          (-2)
abbrev rm_X5_join : Room := { frames := 4, cells := 0, slots := 0, locals := 86 }
set_option maxHeartbeats 8000000 in
set_option maxRecDepth 100000 in
theorem c_X5_join (l : Launch) (E : xG) (a : Nat → Nat) (u : xU) (p1 : Int32) (p2 : Int32) : xRo l E yX5_join wsX5_join rm_X5_join [.ref (a 0), .int p1, .int p2] (wX E a u) (some (.int (s_X5_join u p1 p2))) := by
  refine xRo.of (cc := cX5_join) (maxL := 3) (ret := (some .int)) (by decide) rfl (Nat.le_of_ble_eq_true rfl) ?_
  intro p e s m below meth c ls hAt hF hP hS hl
  obtain ⟨hx, hb, hr, hml, hown, hts, hlocks, -⟩ := hAt
  have hown : s.vm.findClass RX5 = some m.cls := hown
  have hl : lv_has ls 3 [(0, .ref (a 0)), (1, .int p1), (2, .int p2)] := hl
  have hK := hF.1
  have hA : ∀ q : Nat, (fun _ => False) q → xA0 E q := fun _ h => h.elim
  change W p l e rm_X5_join s m ([.ref (a 0), .int p1, .int p2] : List Value).toArray below meth c s.heap [] 0 0 (xQro below (some (.int (s_X5_join u p1 p2))) ([.ref (a 0), .int p1, .int p2] : List Value).toArray s) _
  have hR : s_X5_join u p1 p2 = s_X5_join u p1 p2 := rfl
  refine lv_iload_n hx hb dX5_join_0 rfl (lv_at hl 1 rfl) ?_
  refine lv_iconst (v := 0) hx hb dX5_join_1 rfl ?_
  refine lv_aload_n hx hb dX5_join_2 rfl (lv_at hl 0 rfl) ?_
  refine va_get (D := xD E) (ci := 5) (v := .ref (a 1)) (C := RX5) (T := TX5) (N := 9) hx hb hts (by decide +kernel) hown hK hP 0 rfl rfl 0 (by decide) (hts (.fieldLink RX5 12 "RailOffsets" "pieces" "LRailOffsets$Pieces;") (by decide +kernel)) (fun _ h => h) rfl dX5_join_3 ?_
  refine va_get (D := xD E) (ci := 2) (v := .int (u.2 1)) (C := RX2) (T := TX2) (N := 2) hx hb hts (by decide +kernel) hown hK hP 1 rfl rfl 1 (by decide) (hts (.fieldLink RX5 76 "RailOffsets$Pieces" "size" "I") (by decide +kernel)) (fun _ h => h) rfl dX5_join_6 ?_
  refine lv_iconst (v := 2) hx hb dX5_join_9 rfl ?_
  refine lv_isub hx hb dX5_join_10 ?_
  refine xRoS (nL := 3) ⟨hx, hb, hml, hown, hts⟩ (c_X5_within l E p1 0 ((u.2 1) - 2)) (va_cwS 3 hts gX5_join_X5_within rfl rfl rfl hd_X5_within ⟨(Nat.le_of_ble_eq_true rfl), (Nat.le_of_ble_eq_true rfl)⟩) hF hS hA (hP.sub [] rfl) rfl hl.1 rfl (Nat.le_of_ble_eq_true rfl) ⟨(Nat.le_of_ble_eq_true rfl), (Nat.le_of_ble_eq_true rfl)⟩ dX5_join_11 ?_
  refine W.eq (g2 := F0 m 14 ls [.int (s_X5_within p1 0 ((u.2 1) - 2))]) rfl ?_
  refine lv_if_ne (tgt := 20) hx hb dX5_join_14 rfl (fun q1 => ?_) (fun q1 => ?_)
  · have hR := hR.trans (if_neg q1)
    refine lv_iload_n hx hb dX5_join_20 rfl (lv_at hl 2 rfl) ?_
    by_cases q2 : p2 = 0
    · have hR := hR.trans (if_pos q2)
      refine lv_tableIn (tgt := 48) (off := 27) hx hb dX5_join_21 (by rw [q2]; decide) (by rw [q2]; decide) (by rw [q2]; rfl) rfl ?_
      refine lv_aload_n hx hb dX5_join_48 rfl (lv_at hl 0 rfl) ?_
      refine lv_aload_n hx hb dX5_join_49 rfl (lv_at hl 0 rfl) ?_
      refine va_get (D := xD E) (ci := 5) (v := .ref (a 7)) (C := RX5) (T := TX5) (N := 9) hx hb hts (by decide +kernel) hown hK hP 0 rfl rfl 4 (by decide) (hts (.fieldLink RX5 41 "RailOffsets" "line" "LRailOffsets$Line;") (by decide +kernel)) (fun _ h => h) rfl dX5_join_50 ?_
      refine va_get (D := xD E) (ci := 0) (v := .ref (a 10)) (C := RX0) (T := TX0) (N := 8) hx hb hts (by decide +kernel) hown hK hP 7 rfl rfl 3 (by decide) (hts (.fieldLink RX5 131 "RailOffsets$Line" "versines" "[I") (by decide +kernel)) (fun _ h => h) rfl dX5_join_53 ?_
      refine lv_iload_n hx hb dX5_join_56 rfl (lv_at hl 1 rfl) ?_
      refine lv_iconst (v := 1) hx hb dX5_join_57 rfl ?_
      refine lv_iadd hx hb dX5_join_58 ?_
      refine xRoV (nL := 3) ⟨hx, hb, hml, hown, hts⟩ (c_X5_apartAhead_10 l E a u (p1 + 1)) (cwV 2 hts gX5_join_X5_apartAhead rfl rfl rfl ⟨rfl, hd_X5_apartAhead⟩ ⟨(Nat.le_of_ble_eq_true rfl), (Nat.le_of_ble_eq_true rfl)⟩) hF hS hA hP (va_recv (q := (RX5, TX5, 9)) hK hP (ci := 5) rfl (q0 := 0) rfl) rfl hl.1 rfl (Nat.le_of_ble_eq_true rfl) ⟨(Nat.le_of_ble_eq_true rfl), (Nat.le_of_ble_eq_true rfl)⟩ dX5_join_59 ?_
      refine W.eq (g2 := F0 m 62 ls [.int (s_X5_apartAhead_10 u (p1 + 1))]) rfl ?_
      have hR : s_X5_join u p1 p2 = s_X5_apartAhead_10 u (p1 + 1) := hR
      exact W.iret (v := s_X5_apartAhead_10 u (p1 + 1)) hx hb hr (fun t ht _ => ⟨congrArg (fun z => Outcome.returned (some (Value.int z))) hR.symm, ht⟩) (fun _ h => by cases h) dX5_join_62
    have hR := hR.trans (if_neg q2)
    by_cases q3 : p2 = 1
    · have hR := hR.trans (if_pos q3)
      refine lv_tableIn (tgt := 63) (off := 42) hx hb dX5_join_21 (by rw [q3]; decide) (by rw [q3]; decide) (by rw [q3]; rfl) rfl ?_
      refine lv_aload_n hx hb dX5_join_63 rfl (lv_at hl 0 rfl) ?_
      refine lv_aload_n hx hb dX5_join_64 rfl (lv_at hl 0 rfl) ?_
      refine va_get (D := xD E) (ci := 5) (v := .ref (a 7)) (C := RX5) (T := TX5) (N := 9) hx hb hts (by decide +kernel) hown hK hP 0 rfl rfl 4 (by decide) (hts (.fieldLink RX5 41 "RailOffsets" "line" "LRailOffsets$Line;") (by decide +kernel)) (fun _ h => h) rfl dX5_join_65 ?_
      refine va_get (D := xD E) (ci := 0) (v := .ref (a 11)) (C := RX0) (T := TX0) (N := 8) hx hb hts (by decide +kernel) hown hK hP 7 rfl rfl 4 (by decide) (hts (.fieldLink RX5 134 "RailOffsets$Line" "heights" "[I") (by decide +kernel)) (fun _ h => h) rfl dX5_join_68 ?_
      refine lv_iload_n hx hb dX5_join_71 rfl (lv_at hl 1 rfl) ?_
      refine lv_iconst (v := 1) hx hb dX5_join_72 rfl ?_
      refine lv_iadd hx hb dX5_join_73 ?_
      refine xRoV (nL := 3) ⟨hx, hb, hml, hown, hts⟩ (c_X5_apartAhead_11 l E a u (p1 + 1)) (cwV 2 hts gX5_join_X5_apartAhead rfl rfl rfl ⟨rfl, hd_X5_apartAhead⟩ ⟨(Nat.le_of_ble_eq_true rfl), (Nat.le_of_ble_eq_true rfl)⟩) hF hS hA hP (va_recv (q := (RX5, TX5, 9)) hK hP (ci := 5) rfl (q0 := 0) rfl) rfl hl.1 rfl (Nat.le_of_ble_eq_true rfl) ⟨(Nat.le_of_ble_eq_true rfl), (Nat.le_of_ble_eq_true rfl)⟩ dX5_join_74 ?_
      refine W.eq (g2 := F0 m 77 ls [.int (s_X5_apartAhead_11 u (p1 + 1))]) rfl ?_
      have hR : s_X5_join u p1 p2 = s_X5_apartAhead_11 u (p1 + 1) := hR
      exact W.iret (v := s_X5_apartAhead_11 u (p1 + 1)) hx hb hr (fun t ht _ => ⟨congrArg (fun z => Outcome.returned (some (Value.int z))) hR.symm, ht⟩) (fun _ h => by cases h) dX5_join_77
    have hR := hR.trans (if_neg q3)
    by_cases q4 : p2 = 2
    · have hR := hR.trans (if_pos q4)
      refine lv_tableIn (tgt := 78) (off := 57) hx hb dX5_join_21 (by rw [q4]; decide) (by rw [q4]; decide) (by rw [q4]; rfl) rfl ?_
      refine lv_aload_n hx hb dX5_join_78 rfl (lv_at hl 0 rfl) ?_
      refine lv_iload_n hx hb dX5_join_79 rfl (lv_at hl 1 rfl) ?_
      refine xRoV (nL := 3) ⟨hx, hb, hml, hown, hts⟩ (c_X5_jumps l E a u p1) (cwV 1 hts gX5_join_X5_jumps rfl rfl rfl ⟨rfl, hd_X5_jumps⟩ ⟨(Nat.le_of_ble_eq_true rfl), (Nat.le_of_ble_eq_true rfl)⟩) hF hS hA hP (va_recv (q := (RX5, TX5, 9)) hK hP (ci := 5) rfl (q0 := 0) rfl) rfl hl.1 rfl (Nat.le_of_ble_eq_true rfl) ⟨(Nat.le_of_ble_eq_true rfl), (Nat.le_of_ble_eq_true rfl)⟩ dX5_join_80 ?_
      refine W.eq (g2 := F0 m 83 ls [.int (s_X5_jumps u p1)]) rfl ?_
      refine lv_if_eq (tgt := 90) hx hb dX5_join_83 rfl (fun q5 => ?_) (fun q5 => ?_)
      · have hR := hR.trans (if_pos q5)
        refine lv_iconst (v := 0) hx hb dX5_join_90 rfl ?_
        have hR : s_X5_join u p1 p2 = 0 := hR
        exact W.iret (v := 0) hx hb hr (fun t ht _ => ⟨congrArg (fun z => Outcome.returned (some (Value.int z))) hR.symm, ht⟩) (fun _ h => by cases h) dX5_join_91
      · have hR := hR.trans (if_neg q5)
        refine lv_iconst (v := 1) hx hb dX5_join_86 rfl ?_
        refine lv_goto (tgt := 91) hx hb dX5_join_87 rfl ?_
        have hR : s_X5_join u p1 p2 = 1 := hR
        exact W.iret (v := 1) hx hb hr (fun t ht _ => ⟨congrArg (fun z => Outcome.returned (some (Value.int z))) hR.symm, ht⟩) (fun _ h => by cases h) dX5_join_91
    have hR := hR.trans (if_neg q4)
    refine lv_tableOut (tgt := 92) hx hb dX5_join_21 (xsw p2 (fun j h1 h2 h3 => by
      have h9 : j = 0 ∨ j = 1 ∨ j = 2 ∨ False := by omega
      rcases h9 with rfl | rfl | rfl | h9
      · exact q2 (Int32.toInt_inj.mp h3)
      · exact q3 (Int32.toInt_inj.mp h3)
      · exact q4 (Int32.toInt_inj.mp h3)
      · exact h9)) rfl ?_
    refine lv_bipush (v := (-2)) hx hb dX5_join_92 rfl ?_
    have hR : s_X5_join u p1 p2 = (-2) := hR
    exact W.iret (v := (-2)) hx hb hr (fun t ht _ => ⟨congrArg (fun z => Outcome.returned (some (Value.int z))) hR.symm, ht⟩) (fun _ h => by cases h) dX5_join_94
  · have hR := hR.trans (if_pos q1)
    refine lv_bipush (v := (-2)) hx hb dX5_join_17 rfl ?_
    have hR : s_X5_join u p1 p2 = (-2) := hR
    exact W.iret (v := (-2)) hx hb hr (fun t ht _ => ⟨congrArg (fun z => Outcome.returned (some (Value.int z))) hR.symm, ht⟩) (fun _ h => by cases h) dX5_join_19
def s_X5_joins_L4 : Nat → xU → Int32 → Int32 → Int32
  | 0, _, _, _ => 0
  | n + 1, u, x1, x2 =>
    if ((u.2 1) - 1) ≤ x2 then
      x1
    else
      if (s_X5_jumps u x2) = 0 then
        s_X5_joins_L4 n u x1 (x2 + 1)
      else
        s_X5_joins_L4 n u (x1 ||| (1 <<< (x2 &&& 31))) (x2 + 1)
def s_X5_joins (u : xU) : Int32 :=
  s_X5_joins_L4 ((((u.2 1) - 1).toInt - (0 : Int32).toInt).toNat + 1) u 0 0
abbrev rm_X5_joins : Room := { frames := 4, cells := 0, slots := 0, locals := 86 }
set_option maxHeartbeats 8000000 in
set_option maxRecDepth 100000 in
theorem c_X5_joins (l : Launch) (E : xG) (a : Nat → Nat) (u : xU)  : xRo l E yX5_joins wsX5_joins rm_X5_joins [.ref (a 0)] (wX E a u) (some (.int (s_X5_joins u))) := by
  refine xRo.of (cc := cX5_joins) (maxL := 3) (ret := (some .int)) (by decide) rfl (Nat.le_of_ble_eq_true rfl) ?_
  intro p e s m below meth c ls hAt hF hP hS hl
  obtain ⟨hx, hb, hr, hml, hown, hts, hlocks, -⟩ := hAt
  have hown : s.vm.findClass RX5 = some m.cls := hown
  have hl : lv_has ls 3 [(0, .ref (a 0))] := hl
  have hK := hF.1
  have hA : ∀ q : Nat, (fun _ => False) q → xA0 E q := fun _ h => h.elim
  change W p l e rm_X5_joins s m ([.ref (a 0)] : List Value).toArray below meth c s.heap [] 0 0 (xQro below (some (.int (s_X5_joins u))) ([.ref (a 0)] : List Value).toArray s) _
  have hR : s_X5_joins u = s_X5_joins u := rfl
  refine lv_iconst (v := 0) hx hb dX5_joins_0 rfl ?_
  refine lv_istore_n (lv' := [(1, .int 0), (0, .ref (a 0))]) hx hb dX5_joins_1 rfl hl (by decide) rfl (fun ls hl => ?_)
  refine lv_iconst (v := 0) hx hb dX5_joins_2 rfl ?_
  refine lv_istore_n (lv' := [(2, .int 0), (1, .int 0), (0, .ref (a 0))]) hx hb dX5_joins_3 rfl hl (by decide) rfl (fun ls hl => ?_)
  have L4 : ∀ (n4 : Nat) (x1 : Int32) (x2 : Int32) (ls : Array Slot), (((u.2 1) - 1).toInt - x2.toInt).toNat < n4 → s_X5_joins u = s_X5_joins_L4 n4 u x1 x2 → lv_has ls 3 [(2, .int x2), (1, .int x1), (0, .ref (a 0))] → W p l e rm_X5_joins s m ([.ref (a 0)] : List Value).toArray below meth c s.heap [] 0 0 (xQro below (some (.int (s_X5_joins u))) ([.ref (a 0)] : List Value).toArray s) (F0 m 4 ls []) := by
    intro n4
    induction n4 with
    | zero => intro x1 x2 ls hM4 hR hl; exact absurd hM4 (Nat.not_lt_zero _)
    | succ n4 ih4 =>
      intro x1 x2 ls hM4 hR hl
      refine lv_iload_n hx hb dX5_joins_4 rfl (lv_at hl 0 rfl) ?_
      refine lv_aload_n hx hb dX5_joins_5 rfl (lv_at hl 2 rfl) ?_
      refine va_get (D := xD E) (ci := 5) (v := .ref (a 1)) (C := RX5) (T := TX5) (N := 9) hx hb hts (by decide +kernel) hown hK hP 0 rfl rfl 0 (by decide) (hts (.fieldLink RX5 12 "RailOffsets" "pieces" "LRailOffsets$Pieces;") (by decide +kernel)) (fun _ h => h) rfl dX5_joins_6 ?_
      refine va_get (D := xD E) (ci := 2) (v := .int (u.2 1)) (C := RX2) (T := TX2) (N := 2) hx hb hts (by decide +kernel) hown hK hP 1 rfl rfl 1 (by decide) (hts (.fieldLink RX5 76 "RailOffsets$Pieces" "size" "I") (by decide +kernel)) (fun _ h => h) rfl dX5_joins_9 ?_
      refine lv_iconst (v := 1) hx hb dX5_joins_12 rfl ?_
      refine lv_isub hx hb dX5_joins_13 ?_
      refine lv_icmp_ge (tgt := 37) hx hb dX5_joins_14 rfl (fun q1 => ?_) (fun q1 => ?_)
      · have hR := hR.trans (if_pos q1)
        refine lv_iload_n hx hb dX5_joins_37 rfl (lv_at hl 1 rfl) ?_
        have hR : s_X5_joins u = x1 := hR
        exact W.iret (v := x1) hx hb hr (fun t ht _ => ⟨congrArg (fun z => Outcome.returned (some (Value.int z))) hR.symm, ht⟩) (fun _ h => by cases h) dX5_joins_38
      · have hR := hR.trans (if_neg q1)
        refine lv_aload_n hx hb dX5_joins_17 rfl (lv_at hl 2 rfl) ?_
        refine lv_iload_n hx hb dX5_joins_18 rfl (lv_at hl 0 rfl) ?_
        refine xRoV (nL := 3) ⟨hx, hb, hml, hown, hts⟩ (c_X5_jumps l E a u x2) (cwV 1 hts gX5_joins_X5_jumps rfl rfl rfl ⟨rfl, hd_X5_jumps⟩ ⟨(Nat.le_of_ble_eq_true rfl), (Nat.le_of_ble_eq_true rfl)⟩) hF hS hA hP (va_recv (q := (RX5, TX5, 9)) hK hP (ci := 5) rfl (q0 := 0) rfl) rfl hl.1 rfl (Nat.le_of_ble_eq_true rfl) ⟨(Nat.le_of_ble_eq_true rfl), (Nat.le_of_ble_eq_true rfl)⟩ dX5_joins_19 ?_
        refine W.eq (g2 := F0 m 22 ls [.int (s_X5_jumps u x2)]) rfl ?_
        refine lv_if_eq (tgt := 31) hx hb dX5_joins_22 rfl (fun q2 => ?_) (fun q2 => ?_)
        · have hR := hR.trans (if_pos q2)
          refine lv_iinc (k := 0) (v := x2 + 1) (lv' := [(2, .int (x2 + 1)), (1, .int x1), (0, .ref (a 0))]) hx hb dX5_joins_31 hl rfl rfl (by decide) rfl (fun ls hl => ?_)
          refine lv_goto (tgt := 4) hx hb dX5_joins_34 rfl ?_
          exact ih4 x1 (x2 + 1) _ (Nat.lt_of_lt_of_le (xupc q1) (Nat.le_of_lt_succ hM4)) hR (lv_sub hl [0, 1, 2] rfl)
        · have hR := hR.trans (if_neg q2)
          refine lv_iload_n hx hb dX5_joins_25 rfl (lv_at hl 1 rfl) ?_
          refine lv_iconst (v := 1) hx hb dX5_joins_26 rfl ?_
          refine lv_iload_n hx hb dX5_joins_27 rfl (lv_at hl 0 rfl) ?_
          refine lv_ishl hx hb dX5_joins_28 ?_
          refine lv_ior hx hb dX5_joins_29 ?_
          refine lv_istore_n (lv' := [(1, .int (x1 ||| (1 <<< (x2 &&& 31)))), (2, .int x2), (0, .ref (a 0))]) hx hb dX5_joins_30 rfl hl (by decide) rfl (fun ls hl => ?_)
          refine lv_iinc (k := 1) (v := x2 + 1) (lv' := [(2, .int (x2 + 1)), (1, .int (x1 ||| (1 <<< (x2 &&& 31)))), (0, .ref (a 0))]) hx hb dX5_joins_31 hl rfl rfl (by decide) rfl (fun ls hl => ?_)
          refine lv_goto (tgt := 4) hx hb dX5_joins_34 rfl ?_
          exact ih4 (x1 ||| (1 <<< (x2 &&& 31))) (x2 + 1) _ (Nat.lt_of_lt_of_le (xupc q1) (Nat.le_of_lt_succ hM4)) hR (lv_sub hl [0, 1, 2] rfl)
  exact L4 ((((u.2 1) - 1).toInt - (0 : Int32).toInt).toNat + 1) 0 0 ls (Nat.lt_succ_self _) hR hl
def s_X5_needBy (u : xU) (p1 : Int32) (p2 : Int32) : Int32 :=
  ((p2 * p2) * (iAbs (s_X5_cell 201 (u.1 10) p1))) / 1000
abbrev rm_X5_needBy : Room := { frames := 1, cells := 0, slots := 0, locals := 21 }
set_option maxHeartbeats 8000000 in
set_option maxRecDepth 100000 in
theorem c_X5_needBy (l : Launch) (E : xG) (a : Nat → Nat) (u : xU) (p1 : Int32) (p2 : Int32) : xRo l E yX5_needBy wsX5_needBy rm_X5_needBy [.ref (a 0), .int p1, .int p2] (wX E a u) (some (.int (s_X5_needBy u p1 p2))) := by
  refine xRo.of (cc := cX5_needBy) (maxL := 3) (ret := (some .int)) (by decide) rfl (Nat.le_of_ble_eq_true rfl) ?_
  intro p e s m below meth c ls hAt hF hP hS hl
  obtain ⟨hx, hb, hr, hml, hown, hts, hlocks, -⟩ := hAt
  have hown : s.vm.findClass RX5 = some m.cls := hown
  have hl : lv_has ls 3 [(0, .ref (a 0)), (1, .int p1), (2, .int p2)] := hl
  have hK := hF.1
  have hA : ∀ q : Nat, (fun _ => False) q → xA0 E q := fun _ h => h.elim
  change W p l e rm_X5_needBy s m ([.ref (a 0), .int p1, .int p2] : List Value).toArray below meth c s.heap [] 0 0 (xQro below (some (.int (s_X5_needBy u p1 p2))) ([.ref (a 0), .int p1, .int p2] : List Value).toArray s) _
  have hR : s_X5_needBy u p1 p2 = s_X5_needBy u p1 p2 := rfl
  refine lv_iload_n hx hb dX5_needBy_0 rfl (lv_at hl 2 rfl) ?_
  refine lv_iload_n hx hb dX5_needBy_1 rfl (lv_at hl 2 rfl) ?_
  refine lv_imul hx hb dX5_needBy_2 ?_
  refine lv_aload_n hx hb dX5_needBy_3 rfl (lv_at hl 0 rfl) ?_
  refine va_get (D := xD E) (ci := 5) (v := .ref (a 7)) (C := RX5) (T := TX5) (N := 9) hx hb hts (by decide +kernel) hown hK hP 0 rfl rfl 4 (by decide) (hts (.fieldLink RX5 41 "RailOffsets" "line" "LRailOffsets$Line;") (by decide +kernel)) (fun _ h => h) rfl dX5_needBy_4 ?_
  refine va_get (D := xD E) (ci := 0) (v := .ref (a 10)) (C := RX0) (T := TX0) (N := 8) hx hb hts (by decide +kernel) hown hK hP 7 rfl rfl 3 (by decide) (hts (.fieldLink RX5 131 "RailOffsets$Line" "versines" "[I") (by decide +kernel)) (fun _ h => h) rfl dX5_needBy_7 ?_
  refine lv_iload_n hx hb dX5_needBy_10 rfl (lv_at hl 1 rfl) ?_
  refine xRoS (nL := 3) ⟨hx, hb, hml, hown, hts⟩ (c_X5_cell l E (a 10) 201 (u.1 10) p1) (va_cwS 2 hts gX5_needBy_X5_cell rfl rfl rfl hd_X5_cell ⟨(Nat.le_of_ble_eq_true rfl), (Nat.le_of_ble_eq_true rfl)⟩) hF hS hA (hP.sub [10] rfl) rfl hl.1 rfl (Nat.le_of_ble_eq_true rfl) ⟨(Nat.le_of_ble_eq_true rfl), (Nat.le_of_ble_eq_true rfl)⟩ dX5_needBy_11 ?_
  refine W.eq (g2 := F0 m 14 ls [.int (s_X5_cell 201 (u.1 10) p1), .int (p2 * p2)]) rfl ?_
  refine va_mabs hx hb (hml.trans hl.1.symm) hown (hts (.methodLink RX5 152 Lib.Math.abs.name) (by decide +kernel)) (hts (.static Lib.Math.abs.name) (by decide +kernel)) (hts (.initialized "java/lang/Math") (by decide +kernel)) (hts (.code Lib.Math.abs.name Lib.Math.abs.code 1 (some .int)) (by decide +kernel)) (Nat.le_of_ble_eq_true rfl) (Nat.le_of_ble_eq_true rfl) (Nat.le_of_ble_eq_true rfl) (Nat.le_of_ble_eq_true rfl) dX5_needBy_14 ?_
  refine W.eq (g2 := F0 m 17 ls [.int (iAbs (s_X5_cell 201 (u.1 10) p1)), .int (p2 * p2)]) rfl ?_
  refine lv_imul hx hb dX5_needBy_17 ?_
  refine lv_sipush (v := 1000) hx hb dX5_needBy_18 rfl ?_
  refine lv_idiv hx hb dX5_needBy_21 (by first | assumption | decide) ?_
  have hR : s_X5_needBy u p1 p2 = ((p2 * p2) * (iAbs (s_X5_cell 201 (u.1 10) p1))) / 1000 := hR
  exact W.iret (v := ((p2 * p2) * (iAbs (s_X5_cell 201 (u.1 10) p1))) / 1000) hx hb hr (fun t ht _ => ⟨congrArg (fun z => Outcome.returned (some (Value.int z))) hR.symm, ht⟩) (fun _ h => by cases h) dX5_needBy_22
def s_X5_lacks (u : xU) (p1 : Int32) (p2 : Int32) : Int32 :=
  if ((s_X5_needBy u p1 p2) - (s_X5_cell 201 (u.1 11) p1)) ≤ (s_X5_cell 8 (u.1 5) 1) then
    0
  else
    1
abbrev rm_X5_lacks : Room := { frames := 2, cells := 0, slots := 0, locals := 43 }
set_option maxHeartbeats 8000000 in
set_option maxRecDepth 100000 in
theorem c_X5_lacks (l : Launch) (E : xG) (a : Nat → Nat) (u : xU) (p1 : Int32) (p2 : Int32) : xRo l E yX5_lacks wsX5_lacks rm_X5_lacks [.ref (a 0), .int p1, .int p2] (wX E a u) (some (.int (s_X5_lacks u p1 p2))) := by
  refine xRo.of (cc := cX5_lacks) (maxL := 3) (ret := (some .boolean)) (by decide) rfl (Nat.le_of_ble_eq_true rfl) ?_
  intro p e s m below meth c ls hAt hF hP hS hl
  obtain ⟨hx, hb, hr, hml, hown, hts, hlocks, -⟩ := hAt
  have hown : s.vm.findClass RX5 = some m.cls := hown
  have hl : lv_has ls 3 [(0, .ref (a 0)), (1, .int p1), (2, .int p2)] := hl
  have hK := hF.1
  have hA : ∀ q : Nat, (fun _ => False) q → xA0 E q := fun _ h => h.elim
  change W p l e rm_X5_lacks s m ([.ref (a 0), .int p1, .int p2] : List Value).toArray below meth c s.heap [] 0 0 (xQro below (some (.int (s_X5_lacks u p1 p2))) ([.ref (a 0), .int p1, .int p2] : List Value).toArray s) _
  have hR : s_X5_lacks u p1 p2 = s_X5_lacks u p1 p2 := rfl
  refine lv_aload_n hx hb dX5_lacks_0 rfl (lv_at hl 0 rfl) ?_
  refine lv_iload_n hx hb dX5_lacks_1 rfl (lv_at hl 1 rfl) ?_
  refine lv_iload_n hx hb dX5_lacks_2 rfl (lv_at hl 2 rfl) ?_
  refine xRoV (nL := 3) ⟨hx, hb, hml, hown, hts⟩ (c_X5_needBy l E a u p1 p2) (cwV 2 hts gX5_lacks_X5_needBy rfl rfl rfl ⟨rfl, hd_X5_needBy⟩ ⟨(Nat.le_of_ble_eq_true rfl), (Nat.le_of_ble_eq_true rfl)⟩) hF hS hA hP (va_recv (q := (RX5, TX5, 9)) hK hP (ci := 5) rfl (q0 := 0) rfl) rfl hl.1 rfl (Nat.le_of_ble_eq_true rfl) ⟨(Nat.le_of_ble_eq_true rfl), (Nat.le_of_ble_eq_true rfl)⟩ dX5_lacks_3 ?_
  refine W.eq (g2 := F0 m 6 ls [.int (s_X5_needBy u p1 p2)]) rfl ?_
  refine lv_aload_n hx hb dX5_lacks_6 rfl (lv_at hl 0 rfl) ?_
  refine va_get (D := xD E) (ci := 5) (v := .ref (a 7)) (C := RX5) (T := TX5) (N := 9) hx hb hts (by decide +kernel) hown hK hP 0 rfl rfl 4 (by decide) (hts (.fieldLink RX5 41 "RailOffsets" "line" "LRailOffsets$Line;") (by decide +kernel)) (fun _ h => h) rfl dX5_lacks_7 ?_
  refine va_get (D := xD E) (ci := 0) (v := .ref (a 11)) (C := RX0) (T := TX0) (N := 8) hx hb hts (by decide +kernel) hown hK hP 7 rfl rfl 4 (by decide) (hts (.fieldLink RX5 134 "RailOffsets$Line" "heights" "[I") (by decide +kernel)) (fun _ h => h) rfl dX5_lacks_10 ?_
  refine lv_iload_n hx hb dX5_lacks_13 rfl (lv_at hl 1 rfl) ?_
  refine xRoS (nL := 3) ⟨hx, hb, hml, hown, hts⟩ (c_X5_cell l E (a 11) 201 (u.1 11) p1) (va_cwS 2 hts gX5_lacks_X5_cell rfl rfl rfl hd_X5_cell ⟨(Nat.le_of_ble_eq_true rfl), (Nat.le_of_ble_eq_true rfl)⟩) hF hS hA (hP.sub [11] rfl) rfl hl.1 rfl (Nat.le_of_ble_eq_true rfl) ⟨(Nat.le_of_ble_eq_true rfl), (Nat.le_of_ble_eq_true rfl)⟩ dX5_lacks_14 ?_
  refine W.eq (g2 := F0 m 17 ls [.int (s_X5_cell 201 (u.1 11) p1), .int (s_X5_needBy u p1 p2)]) rfl ?_
  refine lv_isub hx hb dX5_lacks_17 ?_
  refine lv_aload_n hx hb dX5_lacks_18 rfl (lv_at hl 0 rfl) ?_
  refine va_get (D := xD E) (ci := 5) (v := .ref (a 5)) (C := RX5) (T := TX5) (N := 9) hx hb hts (by decide +kernel) hown hK hP 0 rfl rfl 2 (by decide) (hts (.fieldLink RX5 30 "RailOffsets" "rules" "[I") (by decide +kernel)) (fun _ h => h) rfl dX5_lacks_19 ?_
  refine lv_iconst (v := 1) hx hb dX5_lacks_22 rfl ?_
  refine xRoS (nL := 3) ⟨hx, hb, hml, hown, hts⟩ (c_X5_cell l E (a 5) 8 (u.1 5) 1) (va_cwS 2 hts gX5_lacks_X5_cell rfl rfl rfl hd_X5_cell ⟨(Nat.le_of_ble_eq_true rfl), (Nat.le_of_ble_eq_true rfl)⟩) hF hS hA (hP.sub [5] rfl) rfl hl.1 rfl (Nat.le_of_ble_eq_true rfl) ⟨(Nat.le_of_ble_eq_true rfl), (Nat.le_of_ble_eq_true rfl)⟩ dX5_lacks_23 ?_
  refine W.eq (g2 := F0 m 26 ls [.int (s_X5_cell 8 (u.1 5) 1), .int ((s_X5_needBy u p1 p2) - (s_X5_cell 201 (u.1 11) p1))]) rfl ?_
  refine lv_icmp_le (tgt := 33) hx hb dX5_lacks_26 rfl (fun q1 => ?_) (fun q1 => ?_)
  · have hR := hR.trans (if_pos q1)
    refine lv_iconst (v := 0) hx hb dX5_lacks_33 rfl ?_
    have hR : s_X5_lacks u p1 p2 = 0 := hR
    exact W.zret (v := 0) (ty := .boolean) hx hb hr (xnb (Or.inl rfl)) (fun t ht _ => ⟨congrArg (fun z => Outcome.returned (some (Value.int z))) hR.symm, ht⟩) (fun _ h => by cases h) dX5_lacks_34
  · have hR := hR.trans (if_neg q1)
    refine lv_iconst (v := 1) hx hb dX5_lacks_29 rfl ?_
    refine lv_goto (tgt := 34) hx hb dX5_lacks_30 rfl ?_
    have hR : s_X5_lacks u p1 p2 = 1 := hR
    exact W.zret (v := 1) (ty := .boolean) hx hb hr (xnb (Or.inr rfl)) (fun t ht _ => ⟨congrArg (fun z => Outcome.returned (some (Value.int z))) hR.symm, ht⟩) (fun _ h => by cases h) dX5_lacks_34
def s_X5_tooHigh (u : xU) (p1 : Int32) (p2 : Int32) : Int32 :=
  if ((s_X5_cell 201 (u.1 11) p1) - (s_X5_needBy u p1 p2)) ≤ (s_X5_cell 8 (u.1 5) 2) then
    0
  else
    1
abbrev rm_X5_tooHigh : Room := { frames := 2, cells := 0, slots := 0, locals := 43 }
set_option maxHeartbeats 8000000 in
set_option maxRecDepth 100000 in
theorem c_X5_tooHigh (l : Launch) (E : xG) (a : Nat → Nat) (u : xU) (p1 : Int32) (p2 : Int32) : xRo l E yX5_tooHigh wsX5_tooHigh rm_X5_tooHigh [.ref (a 0), .int p1, .int p2] (wX E a u) (some (.int (s_X5_tooHigh u p1 p2))) := by
  refine xRo.of (cc := cX5_tooHigh) (maxL := 3) (ret := (some .boolean)) (by decide) rfl (Nat.le_of_ble_eq_true rfl) ?_
  intro p e s m below meth c ls hAt hF hP hS hl
  obtain ⟨hx, hb, hr, hml, hown, hts, hlocks, -⟩ := hAt
  have hown : s.vm.findClass RX5 = some m.cls := hown
  have hl : lv_has ls 3 [(0, .ref (a 0)), (1, .int p1), (2, .int p2)] := hl
  have hK := hF.1
  have hA : ∀ q : Nat, (fun _ => False) q → xA0 E q := fun _ h => h.elim
  change W p l e rm_X5_tooHigh s m ([.ref (a 0), .int p1, .int p2] : List Value).toArray below meth c s.heap [] 0 0 (xQro below (some (.int (s_X5_tooHigh u p1 p2))) ([.ref (a 0), .int p1, .int p2] : List Value).toArray s) _
  have hR : s_X5_tooHigh u p1 p2 = s_X5_tooHigh u p1 p2 := rfl
  refine lv_aload_n hx hb dX5_tooHigh_0 rfl (lv_at hl 0 rfl) ?_
  refine va_get (D := xD E) (ci := 5) (v := .ref (a 7)) (C := RX5) (T := TX5) (N := 9) hx hb hts (by decide +kernel) hown hK hP 0 rfl rfl 4 (by decide) (hts (.fieldLink RX5 41 "RailOffsets" "line" "LRailOffsets$Line;") (by decide +kernel)) (fun _ h => h) rfl dX5_tooHigh_1 ?_
  refine va_get (D := xD E) (ci := 0) (v := .ref (a 11)) (C := RX0) (T := TX0) (N := 8) hx hb hts (by decide +kernel) hown hK hP 7 rfl rfl 4 (by decide) (hts (.fieldLink RX5 134 "RailOffsets$Line" "heights" "[I") (by decide +kernel)) (fun _ h => h) rfl dX5_tooHigh_4 ?_
  refine lv_iload_n hx hb dX5_tooHigh_7 rfl (lv_at hl 1 rfl) ?_
  refine xRoS (nL := 3) ⟨hx, hb, hml, hown, hts⟩ (c_X5_cell l E (a 11) 201 (u.1 11) p1) (va_cwS 2 hts gX5_tooHigh_X5_cell rfl rfl rfl hd_X5_cell ⟨(Nat.le_of_ble_eq_true rfl), (Nat.le_of_ble_eq_true rfl)⟩) hF hS hA (hP.sub [11] rfl) rfl hl.1 rfl (Nat.le_of_ble_eq_true rfl) ⟨(Nat.le_of_ble_eq_true rfl), (Nat.le_of_ble_eq_true rfl)⟩ dX5_tooHigh_8 ?_
  refine W.eq (g2 := F0 m 11 ls [.int (s_X5_cell 201 (u.1 11) p1)]) rfl ?_
  refine lv_aload_n hx hb dX5_tooHigh_11 rfl (lv_at hl 0 rfl) ?_
  refine lv_iload_n hx hb dX5_tooHigh_12 rfl (lv_at hl 1 rfl) ?_
  refine lv_iload_n hx hb dX5_tooHigh_13 rfl (lv_at hl 2 rfl) ?_
  refine xRoV (nL := 3) ⟨hx, hb, hml, hown, hts⟩ (c_X5_needBy l E a u p1 p2) (cwV 2 hts gX5_tooHigh_X5_needBy rfl rfl rfl ⟨rfl, hd_X5_needBy⟩ ⟨(Nat.le_of_ble_eq_true rfl), (Nat.le_of_ble_eq_true rfl)⟩) hF hS hA hP (va_recv (q := (RX5, TX5, 9)) hK hP (ci := 5) rfl (q0 := 0) rfl) rfl hl.1 rfl (Nat.le_of_ble_eq_true rfl) ⟨(Nat.le_of_ble_eq_true rfl), (Nat.le_of_ble_eq_true rfl)⟩ dX5_tooHigh_14 ?_
  refine W.eq (g2 := F0 m 17 ls [.int (s_X5_needBy u p1 p2), .int (s_X5_cell 201 (u.1 11) p1)]) rfl ?_
  refine lv_isub hx hb dX5_tooHigh_17 ?_
  refine lv_aload_n hx hb dX5_tooHigh_18 rfl (lv_at hl 0 rfl) ?_
  refine va_get (D := xD E) (ci := 5) (v := .ref (a 5)) (C := RX5) (T := TX5) (N := 9) hx hb hts (by decide +kernel) hown hK hP 0 rfl rfl 2 (by decide) (hts (.fieldLink RX5 30 "RailOffsets" "rules" "[I") (by decide +kernel)) (fun _ h => h) rfl dX5_tooHigh_19 ?_
  refine lv_iconst (v := 2) hx hb dX5_tooHigh_22 rfl ?_
  refine xRoS (nL := 3) ⟨hx, hb, hml, hown, hts⟩ (c_X5_cell l E (a 5) 8 (u.1 5) 2) (va_cwS 2 hts gX5_tooHigh_X5_cell rfl rfl rfl hd_X5_cell ⟨(Nat.le_of_ble_eq_true rfl), (Nat.le_of_ble_eq_true rfl)⟩) hF hS hA (hP.sub [5] rfl) rfl hl.1 rfl (Nat.le_of_ble_eq_true rfl) ⟨(Nat.le_of_ble_eq_true rfl), (Nat.le_of_ble_eq_true rfl)⟩ dX5_tooHigh_23 ?_
  refine W.eq (g2 := F0 m 26 ls [.int (s_X5_cell 8 (u.1 5) 2), .int ((s_X5_cell 201 (u.1 11) p1) - (s_X5_needBy u p1 p2))]) rfl ?_
  refine lv_icmp_le (tgt := 33) hx hb dX5_tooHigh_26 rfl (fun q1 => ?_) (fun q1 => ?_)
  · have hR := hR.trans (if_pos q1)
    refine lv_iconst (v := 0) hx hb dX5_tooHigh_33 rfl ?_
    have hR : s_X5_tooHigh u p1 p2 = 0 := hR
    exact W.zret (v := 0) (ty := .boolean) hx hb hr (xnb (Or.inl rfl)) (fun t ht _ => ⟨congrArg (fun z => Outcome.returned (some (Value.int z))) hR.symm, ht⟩) (fun _ h => by cases h) dX5_tooHigh_34
  · have hR := hR.trans (if_neg q1)
    refine lv_iconst (v := 1) hx hb dX5_tooHigh_29 rfl ?_
    refine lv_goto (tgt := 34) hx hb dX5_tooHigh_30 rfl ?_
    have hR : s_X5_tooHigh u p1 p2 = 1 := hR
    exact W.zret (v := 1) (ty := .boolean) hx hb hr (xnb (Or.inr rfl)) (fun t ht _ => ⟨congrArg (fun z => Outcome.returned (some (Value.int z))) hR.symm, ht⟩) (fun _ h => by cases h) dX5_tooHigh_34
def s_X5_steep (u : xU) (p1 : Int32) : Int32 :=
  if (iAbs ((s_X5_cell 201 (u.1 11) p1) - (s_X5_cell 201 (u.1 11) (p1 - 1)))) ≤ (s_X5_cell 8 (u.1 5) 3) then
    0
  else
    1
abbrev rm_X5_steep : Room := { frames := 1, cells := 0, slots := 0, locals := 21 }
set_option maxHeartbeats 8000000 in
set_option maxRecDepth 100000 in
theorem c_X5_steep (l : Launch) (E : xG) (a : Nat → Nat) (u : xU) (p1 : Int32) : xRo l E yX5_steep wsX5_steep rm_X5_steep [.ref (a 0), .int p1] (wX E a u) (some (.int (s_X5_steep u p1))) := by
  refine xRo.of (cc := cX5_steep) (maxL := 2) (ret := (some .boolean)) (by decide) rfl (Nat.le_of_ble_eq_true rfl) ?_
  intro p e s m below meth c ls hAt hF hP hS hl
  obtain ⟨hx, hb, hr, hml, hown, hts, hlocks, -⟩ := hAt
  have hown : s.vm.findClass RX5 = some m.cls := hown
  have hl : lv_has ls 2 [(0, .ref (a 0)), (1, .int p1)] := hl
  have hK := hF.1
  have hA : ∀ q : Nat, (fun _ => False) q → xA0 E q := fun _ h => h.elim
  change W p l e rm_X5_steep s m ([.ref (a 0), .int p1] : List Value).toArray below meth c s.heap [] 0 0 (xQro below (some (.int (s_X5_steep u p1))) ([.ref (a 0), .int p1] : List Value).toArray s) _
  have hR : s_X5_steep u p1 = s_X5_steep u p1 := rfl
  refine lv_aload_n hx hb dX5_steep_0 rfl (lv_at hl 0 rfl) ?_
  refine va_get (D := xD E) (ci := 5) (v := .ref (a 7)) (C := RX5) (T := TX5) (N := 9) hx hb hts (by decide +kernel) hown hK hP 0 rfl rfl 4 (by decide) (hts (.fieldLink RX5 41 "RailOffsets" "line" "LRailOffsets$Line;") (by decide +kernel)) (fun _ h => h) rfl dX5_steep_1 ?_
  refine va_get (D := xD E) (ci := 0) (v := .ref (a 11)) (C := RX0) (T := TX0) (N := 8) hx hb hts (by decide +kernel) hown hK hP 7 rfl rfl 4 (by decide) (hts (.fieldLink RX5 134 "RailOffsets$Line" "heights" "[I") (by decide +kernel)) (fun _ h => h) rfl dX5_steep_4 ?_
  refine lv_iload_n hx hb dX5_steep_7 rfl (lv_at hl 1 rfl) ?_
  refine xRoS (nL := 2) ⟨hx, hb, hml, hown, hts⟩ (c_X5_cell l E (a 11) 201 (u.1 11) p1) (va_cwS 2 hts gX5_steep_X5_cell rfl rfl rfl hd_X5_cell ⟨(Nat.le_of_ble_eq_true rfl), (Nat.le_of_ble_eq_true rfl)⟩) hF hS hA (hP.sub [11] rfl) rfl hl.1 rfl (Nat.le_of_ble_eq_true rfl) ⟨(Nat.le_of_ble_eq_true rfl), (Nat.le_of_ble_eq_true rfl)⟩ dX5_steep_8 ?_
  refine W.eq (g2 := F0 m 11 ls [.int (s_X5_cell 201 (u.1 11) p1)]) rfl ?_
  refine lv_aload_n hx hb dX5_steep_11 rfl (lv_at hl 0 rfl) ?_
  refine va_get (D := xD E) (ci := 5) (v := .ref (a 7)) (C := RX5) (T := TX5) (N := 9) hx hb hts (by decide +kernel) hown hK hP 0 rfl rfl 4 (by decide) (hts (.fieldLink RX5 41 "RailOffsets" "line" "LRailOffsets$Line;") (by decide +kernel)) (fun _ h => h) rfl dX5_steep_12 ?_
  refine va_get (D := xD E) (ci := 0) (v := .ref (a 11)) (C := RX0) (T := TX0) (N := 8) hx hb hts (by decide +kernel) hown hK hP 7 rfl rfl 4 (by decide) (hts (.fieldLink RX5 134 "RailOffsets$Line" "heights" "[I") (by decide +kernel)) (fun _ h => h) rfl dX5_steep_15 ?_
  refine lv_iload_n hx hb dX5_steep_18 rfl (lv_at hl 1 rfl) ?_
  refine lv_iconst (v := 1) hx hb dX5_steep_19 rfl ?_
  refine lv_isub hx hb dX5_steep_20 ?_
  refine xRoS (nL := 2) ⟨hx, hb, hml, hown, hts⟩ (c_X5_cell l E (a 11) 201 (u.1 11) (p1 - 1)) (va_cwS 2 hts gX5_steep_X5_cell rfl rfl rfl hd_X5_cell ⟨(Nat.le_of_ble_eq_true rfl), (Nat.le_of_ble_eq_true rfl)⟩) hF hS hA (hP.sub [11] rfl) rfl hl.1 rfl (Nat.le_of_ble_eq_true rfl) ⟨(Nat.le_of_ble_eq_true rfl), (Nat.le_of_ble_eq_true rfl)⟩ dX5_steep_21 ?_
  refine W.eq (g2 := F0 m 24 ls [.int (s_X5_cell 201 (u.1 11) (p1 - 1)), .int (s_X5_cell 201 (u.1 11) p1)]) rfl ?_
  refine lv_isub hx hb dX5_steep_24 ?_
  refine va_mabs hx hb (hml.trans hl.1.symm) hown (hts (.methodLink RX5 152 Lib.Math.abs.name) (by decide +kernel)) (hts (.static Lib.Math.abs.name) (by decide +kernel)) (hts (.initialized "java/lang/Math") (by decide +kernel)) (hts (.code Lib.Math.abs.name Lib.Math.abs.code 1 (some .int)) (by decide +kernel)) (Nat.le_of_ble_eq_true rfl) (Nat.le_of_ble_eq_true rfl) (Nat.le_of_ble_eq_true rfl) (Nat.le_of_ble_eq_true rfl) dX5_steep_25 ?_
  refine W.eq (g2 := F0 m 28 ls [.int (iAbs ((s_X5_cell 201 (u.1 11) p1) - (s_X5_cell 201 (u.1 11) (p1 - 1))))]) rfl ?_
  refine lv_aload_n hx hb dX5_steep_28 rfl (lv_at hl 0 rfl) ?_
  refine va_get (D := xD E) (ci := 5) (v := .ref (a 5)) (C := RX5) (T := TX5) (N := 9) hx hb hts (by decide +kernel) hown hK hP 0 rfl rfl 2 (by decide) (hts (.fieldLink RX5 30 "RailOffsets" "rules" "[I") (by decide +kernel)) (fun _ h => h) rfl dX5_steep_29 ?_
  refine lv_iconst (v := 3) hx hb dX5_steep_32 rfl ?_
  refine xRoS (nL := 2) ⟨hx, hb, hml, hown, hts⟩ (c_X5_cell l E (a 5) 8 (u.1 5) 3) (va_cwS 2 hts gX5_steep_X5_cell rfl rfl rfl hd_X5_cell ⟨(Nat.le_of_ble_eq_true rfl), (Nat.le_of_ble_eq_true rfl)⟩) hF hS hA (hP.sub [5] rfl) rfl hl.1 rfl (Nat.le_of_ble_eq_true rfl) ⟨(Nat.le_of_ble_eq_true rfl), (Nat.le_of_ble_eq_true rfl)⟩ dX5_steep_33 ?_
  refine W.eq (g2 := F0 m 36 ls [.int (s_X5_cell 8 (u.1 5) 3), .int (iAbs ((s_X5_cell 201 (u.1 11) p1) - (s_X5_cell 201 (u.1 11) (p1 - 1))))]) rfl ?_
  refine lv_icmp_le (tgt := 43) hx hb dX5_steep_36 rfl (fun q1 => ?_) (fun q1 => ?_)
  · have hR := hR.trans (if_pos q1)
    refine lv_iconst (v := 0) hx hb dX5_steep_43 rfl ?_
    have hR : s_X5_steep u p1 = 0 := hR
    exact W.zret (v := 0) (ty := .boolean) hx hb hr (xnb (Or.inl rfl)) (fun t ht _ => ⟨congrArg (fun z => Outcome.returned (some (Value.int z))) hR.symm, ht⟩) (fun _ h => by cases h) dX5_steep_44
  · have hR := hR.trans (if_neg q1)
    refine lv_iconst (v := 1) hx hb dX5_steep_39 rfl ?_
    refine lv_goto (tgt := 44) hx hb dX5_steep_40 rfl ?_
    have hR : s_X5_steep u p1 = 1 := hR
    exact W.zret (v := 1) (ty := .boolean) hx hb hr (xnb (Or.inr rfl)) (fun t ht _ => ⟨congrArg (fun z => Outcome.returned (some (Value.int z))) hR.symm, ht⟩) (fun _ h => by cases h) dX5_steep_44
def s_X5_need (u : xU) (p1 : Int32) (p2 : Int32) : Int32 :=
  if (s_X5_within p1 1 (u.2 3)) = 0 then
    (-2)
  else
    if p2 = 0 then
      s_X5_needBy u p1 (s_X5_cell 8 (u.1 5) 5)
    else
      if p2 = 1 then
        if (s_X5_lacks u p1 (s_X5_cell 8 (u.1 5) 5)) = 0 then
          0
        else
          1
      else
        if p2 = 2 then
          if (s_X5_tooHigh u p1 (s_X5_cell 8 (u.1 5) 5)) = 0 then
            0
          else
            1
        else
          if p2 = 3 then
            if (s_X5_steep u p1) = 0 then
              0
            else
              1
          else
            (-2)
abbrev rm_X5_need : Room := { frames := 3, cells := 0, slots := 0, locals := 65 }
set_option maxHeartbeats 8000000 in
set_option maxRecDepth 100000 in
theorem c_X5_need (l : Launch) (E : xG) (a : Nat → Nat) (u : xU) (p1 : Int32) (p2 : Int32) : xRo l E yX5_need wsX5_need rm_X5_need [.ref (a 0), .int p1, .int p2] (wX E a u) (some (.int (s_X5_need u p1 p2))) := by
  refine xRo.of (cc := cX5_need) (maxL := 4) (ret := (some .int)) (by decide) rfl (Nat.le_of_ble_eq_true rfl) ?_
  intro p e s m below meth c ls hAt hF hP hS hl
  obtain ⟨hx, hb, hr, hml, hown, hts, hlocks, -⟩ := hAt
  have hown : s.vm.findClass RX5 = some m.cls := hown
  have hl : lv_has ls 4 [(0, .ref (a 0)), (1, .int p1), (2, .int p2)] := hl
  have hK := hF.1
  have hA : ∀ q : Nat, (fun _ => False) q → xA0 E q := fun _ h => h.elim
  change W p l e rm_X5_need s m ([.ref (a 0), .int p1, .int p2] : List Value).toArray below meth c s.heap [] 0 0 (xQro below (some (.int (s_X5_need u p1 p2))) ([.ref (a 0), .int p1, .int p2] : List Value).toArray s) _
  have hR : s_X5_need u p1 p2 = s_X5_need u p1 p2 := rfl
  refine lv_iload_n hx hb dX5_need_0 rfl (lv_at hl 1 rfl) ?_
  refine lv_iconst (v := 1) hx hb dX5_need_1 rfl ?_
  refine lv_aload_n hx hb dX5_need_2 rfl (lv_at hl 0 rfl) ?_
  refine va_get (D := xD E) (ci := 5) (v := .ref (a 7)) (C := RX5) (T := TX5) (N := 9) hx hb hts (by decide +kernel) hown hK hP 0 rfl rfl 4 (by decide) (hts (.fieldLink RX5 41 "RailOffsets" "line" "LRailOffsets$Line;") (by decide +kernel)) (fun _ h => h) rfl dX5_need_3 ?_
  refine va_get (D := xD E) (ci := 0) (v := .int (u.2 3)) (C := RX0) (T := TX0) (N := 8) hx hb hts (by decide +kernel) hown hK hP 7 rfl rfl 7 (by decide) (hts (.fieldLink RX5 128 "RailOffsets$Line" "stations" "I") (by decide +kernel)) (fun _ h => h) rfl dX5_need_6 ?_
  refine xRoS (nL := 4) ⟨hx, hb, hml, hown, hts⟩ (c_X5_within l E p1 1 (u.2 3)) (va_cwS 3 hts gX5_need_X5_within rfl rfl rfl hd_X5_within ⟨(Nat.le_of_ble_eq_true rfl), (Nat.le_of_ble_eq_true rfl)⟩) hF hS hA (hP.sub [] rfl) rfl hl.1 rfl (Nat.le_of_ble_eq_true rfl) ⟨(Nat.le_of_ble_eq_true rfl), (Nat.le_of_ble_eq_true rfl)⟩ dX5_need_9 ?_
  refine W.eq (g2 := F0 m 12 ls [.int (s_X5_within p1 1 (u.2 3))]) rfl ?_
  refine lv_if_ne (tgt := 18) hx hb dX5_need_12 rfl (fun q1 => ?_) (fun q1 => ?_)
  · have hR := hR.trans (if_neg q1)
    refine lv_aload_n hx hb dX5_need_18 rfl (lv_at hl 0 rfl) ?_
    refine va_get (D := xD E) (ci := 5) (v := .ref (a 5)) (C := RX5) (T := TX5) (N := 9) hx hb hts (by decide +kernel) hown hK hP 0 rfl rfl 2 (by decide) (hts (.fieldLink RX5 30 "RailOffsets" "rules" "[I") (by decide +kernel)) (fun _ h => h) rfl dX5_need_19 ?_
    refine lv_iconst (v := 5) hx hb dX5_need_22 rfl ?_
    refine xRoS (nL := 4) ⟨hx, hb, hml, hown, hts⟩ (c_X5_cell l E (a 5) 8 (u.1 5) 5) (va_cwS 2 hts gX5_need_X5_cell rfl rfl rfl hd_X5_cell ⟨(Nat.le_of_ble_eq_true rfl), (Nat.le_of_ble_eq_true rfl)⟩) hF hS hA (hP.sub [5] rfl) rfl hl.1 rfl (Nat.le_of_ble_eq_true rfl) ⟨(Nat.le_of_ble_eq_true rfl), (Nat.le_of_ble_eq_true rfl)⟩ dX5_need_23 ?_
    refine W.eq (g2 := F0 m 26 ls [.int (s_X5_cell 8 (u.1 5) 5)]) rfl ?_
    refine lv_istore_n (lv' := [(3, .int (s_X5_cell 8 (u.1 5) 5)), (0, .ref (a 0)), (1, .int p1), (2, .int p2)]) hx hb dX5_need_26 rfl hl (by decide) rfl (fun ls hl => ?_)
    refine lv_iload_n hx hb dX5_need_27 rfl (lv_at hl 3 rfl) ?_
    by_cases q2 : p2 = 0
    · have hR := hR.trans (if_pos q2)
      refine lv_tableIn (tgt := 60) (off := 32) hx hb dX5_need_28 (by rw [q2]; decide) (by rw [q2]; decide) (by rw [q2]; rfl) rfl ?_
      refine lv_aload_n hx hb dX5_need_60 rfl (lv_at hl 1 rfl) ?_
      refine lv_iload_n hx hb dX5_need_61 rfl (lv_at hl 2 rfl) ?_
      refine lv_iload_n hx hb dX5_need_62 rfl (lv_at hl 0 rfl) ?_
      refine xRoV (nL := 4) ⟨hx, hb, hml, hown, hts⟩ (c_X5_needBy l E a u p1 (s_X5_cell 8 (u.1 5) 5)) (cwV 2 hts gX5_need_X5_needBy rfl rfl rfl ⟨rfl, hd_X5_needBy⟩ ⟨(Nat.le_of_ble_eq_true rfl), (Nat.le_of_ble_eq_true rfl)⟩) hF hS hA hP (va_recv (q := (RX5, TX5, 9)) hK hP (ci := 5) rfl (q0 := 0) rfl) rfl hl.1 rfl (Nat.le_of_ble_eq_true rfl) ⟨(Nat.le_of_ble_eq_true rfl), (Nat.le_of_ble_eq_true rfl)⟩ dX5_need_63 ?_
      refine W.eq (g2 := F0 m 66 ls [.int (s_X5_needBy u p1 (s_X5_cell 8 (u.1 5) 5))]) rfl ?_
      have hR : s_X5_need u p1 p2 = s_X5_needBy u p1 (s_X5_cell 8 (u.1 5) 5) := hR
      exact W.iret (v := s_X5_needBy u p1 (s_X5_cell 8 (u.1 5) 5)) hx hb hr (fun t ht _ => ⟨congrArg (fun z => Outcome.returned (some (Value.int z))) hR.symm, ht⟩) (fun _ h => by cases h) dX5_need_66
    have hR := hR.trans (if_neg q2)
    by_cases q3 : p2 = 1
    · have hR := hR.trans (if_pos q3)
      refine lv_tableIn (tgt := 67) (off := 39) hx hb dX5_need_28 (by rw [q3]; decide) (by rw [q3]; decide) (by rw [q3]; rfl) rfl ?_
      refine lv_aload_n hx hb dX5_need_67 rfl (lv_at hl 1 rfl) ?_
      refine lv_iload_n hx hb dX5_need_68 rfl (lv_at hl 2 rfl) ?_
      refine lv_iload_n hx hb dX5_need_69 rfl (lv_at hl 0 rfl) ?_
      refine xRoV (nL := 4) ⟨hx, hb, hml, hown, hts⟩ (c_X5_lacks l E a u p1 (s_X5_cell 8 (u.1 5) 5)) (cwV 2 hts gX5_need_X5_lacks rfl rfl rfl ⟨rfl, hd_X5_lacks⟩ ⟨(Nat.le_of_ble_eq_true rfl), (Nat.le_of_ble_eq_true rfl)⟩) hF hS hA hP (va_recv (q := (RX5, TX5, 9)) hK hP (ci := 5) rfl (q0 := 0) rfl) rfl hl.1 rfl (Nat.le_of_ble_eq_true rfl) ⟨(Nat.le_of_ble_eq_true rfl), (Nat.le_of_ble_eq_true rfl)⟩ dX5_need_70 ?_
      refine W.eq (g2 := F0 m 73 ls [.int (s_X5_lacks u p1 (s_X5_cell 8 (u.1 5) 5))]) rfl ?_
      refine lv_if_eq (tgt := 80) hx hb dX5_need_73 rfl (fun q4 => ?_) (fun q4 => ?_)
      · have hR := hR.trans (if_pos q4)
        refine lv_iconst (v := 0) hx hb dX5_need_80 rfl ?_
        have hR : s_X5_need u p1 p2 = 0 := hR
        exact W.iret (v := 0) hx hb hr (fun t ht _ => ⟨congrArg (fun z => Outcome.returned (some (Value.int z))) hR.symm, ht⟩) (fun _ h => by cases h) dX5_need_81
      · have hR := hR.trans (if_neg q4)
        refine lv_iconst (v := 1) hx hb dX5_need_76 rfl ?_
        refine lv_goto (tgt := 81) hx hb dX5_need_77 rfl ?_
        have hR : s_X5_need u p1 p2 = 1 := hR
        exact W.iret (v := 1) hx hb hr (fun t ht _ => ⟨congrArg (fun z => Outcome.returned (some (Value.int z))) hR.symm, ht⟩) (fun _ h => by cases h) dX5_need_81
    have hR := hR.trans (if_neg q3)
    by_cases q5 : p2 = 2
    · have hR := hR.trans (if_pos q5)
      refine lv_tableIn (tgt := 82) (off := 54) hx hb dX5_need_28 (by rw [q5]; decide) (by rw [q5]; decide) (by rw [q5]; rfl) rfl ?_
      refine lv_aload_n hx hb dX5_need_82 rfl (lv_at hl 1 rfl) ?_
      refine lv_iload_n hx hb dX5_need_83 rfl (lv_at hl 2 rfl) ?_
      refine lv_iload_n hx hb dX5_need_84 rfl (lv_at hl 0 rfl) ?_
      refine xRoV (nL := 4) ⟨hx, hb, hml, hown, hts⟩ (c_X5_tooHigh l E a u p1 (s_X5_cell 8 (u.1 5) 5)) (cwV 2 hts gX5_need_X5_tooHigh rfl rfl rfl ⟨rfl, hd_X5_tooHigh⟩ ⟨(Nat.le_of_ble_eq_true rfl), (Nat.le_of_ble_eq_true rfl)⟩) hF hS hA hP (va_recv (q := (RX5, TX5, 9)) hK hP (ci := 5) rfl (q0 := 0) rfl) rfl hl.1 rfl (Nat.le_of_ble_eq_true rfl) ⟨(Nat.le_of_ble_eq_true rfl), (Nat.le_of_ble_eq_true rfl)⟩ dX5_need_85 ?_
      refine W.eq (g2 := F0 m 88 ls [.int (s_X5_tooHigh u p1 (s_X5_cell 8 (u.1 5) 5))]) rfl ?_
      refine lv_if_eq (tgt := 95) hx hb dX5_need_88 rfl (fun q6 => ?_) (fun q6 => ?_)
      · have hR := hR.trans (if_pos q6)
        refine lv_iconst (v := 0) hx hb dX5_need_95 rfl ?_
        have hR : s_X5_need u p1 p2 = 0 := hR
        exact W.iret (v := 0) hx hb hr (fun t ht _ => ⟨congrArg (fun z => Outcome.returned (some (Value.int z))) hR.symm, ht⟩) (fun _ h => by cases h) dX5_need_96
      · have hR := hR.trans (if_neg q6)
        refine lv_iconst (v := 1) hx hb dX5_need_91 rfl ?_
        refine lv_goto (tgt := 96) hx hb dX5_need_92 rfl ?_
        have hR : s_X5_need u p1 p2 = 1 := hR
        exact W.iret (v := 1) hx hb hr (fun t ht _ => ⟨congrArg (fun z => Outcome.returned (some (Value.int z))) hR.symm, ht⟩) (fun _ h => by cases h) dX5_need_96
    have hR := hR.trans (if_neg q5)
    by_cases q7 : p2 = 3
    · have hR := hR.trans (if_pos q7)
      refine lv_tableIn (tgt := 97) (off := 69) hx hb dX5_need_28 (by rw [q7]; decide) (by rw [q7]; decide) (by rw [q7]; rfl) rfl ?_
      refine lv_aload_n hx hb dX5_need_97 rfl (lv_at hl 1 rfl) ?_
      refine lv_iload_n hx hb dX5_need_98 rfl (lv_at hl 2 rfl) ?_
      refine xRoV (nL := 4) ⟨hx, hb, hml, hown, hts⟩ (c_X5_steep l E a u p1) (cwV 1 hts gX5_need_X5_steep rfl rfl rfl ⟨rfl, hd_X5_steep⟩ ⟨(Nat.le_of_ble_eq_true rfl), (Nat.le_of_ble_eq_true rfl)⟩) hF hS hA hP (va_recv (q := (RX5, TX5, 9)) hK hP (ci := 5) rfl (q0 := 0) rfl) rfl hl.1 rfl (Nat.le_of_ble_eq_true rfl) ⟨(Nat.le_of_ble_eq_true rfl), (Nat.le_of_ble_eq_true rfl)⟩ dX5_need_99 ?_
      refine W.eq (g2 := F0 m 102 ls [.int (s_X5_steep u p1)]) rfl ?_
      refine lv_if_eq (tgt := 109) hx hb dX5_need_102 rfl (fun q8 => ?_) (fun q8 => ?_)
      · have hR := hR.trans (if_pos q8)
        refine lv_iconst (v := 0) hx hb dX5_need_109 rfl ?_
        have hR : s_X5_need u p1 p2 = 0 := hR
        exact W.iret (v := 0) hx hb hr (fun t ht _ => ⟨congrArg (fun z => Outcome.returned (some (Value.int z))) hR.symm, ht⟩) (fun _ h => by cases h) dX5_need_110
      · have hR := hR.trans (if_neg q8)
        refine lv_iconst (v := 1) hx hb dX5_need_105 rfl ?_
        refine lv_goto (tgt := 110) hx hb dX5_need_106 rfl ?_
        have hR : s_X5_need u p1 p2 = 1 := hR
        exact W.iret (v := 1) hx hb hr (fun t ht _ => ⟨congrArg (fun z => Outcome.returned (some (Value.int z))) hR.symm, ht⟩) (fun _ h => by cases h) dX5_need_110
    have hR := hR.trans (if_neg q7)
    refine lv_tableOut (tgt := 111) hx hb dX5_need_28 (xsw p2 (fun j h1 h2 h3 => by
      have h9 : j = 0 ∨ j = 1 ∨ j = 2 ∨ j = 3 ∨ False := by omega
      rcases h9 with rfl | rfl | rfl | rfl | h9
      · exact q2 (Int32.toInt_inj.mp h3)
      · exact q3 (Int32.toInt_inj.mp h3)
      · exact q5 (Int32.toInt_inj.mp h3)
      · exact q7 (Int32.toInt_inj.mp h3)
      · exact h9)) rfl ?_
    refine lv_bipush (v := (-2)) hx hb dX5_need_111 rfl ?_
    have hR : s_X5_need u p1 p2 = (-2) := hR
    exact W.iret (v := (-2)) hx hb hr (fun t ht _ => ⟨congrArg (fun z => Outcome.returned (some (Value.int z))) hR.symm, ht⟩) (fun _ h => by cases h) dX5_need_113
  · have hR := hR.trans (if_pos q1)
    refine lv_bipush (v := (-2)) hx hb dX5_need_15 rfl ?_
    have hR : s_X5_need u p1 p2 = (-2) := hR
    exact W.iret (v := (-2)) hx hb hr (fun t ht _ => ⟨congrArg (fun z => Outcome.returned (some (Value.int z))) hR.symm, ht⟩) (fun _ h => by cases h) dX5_need_17
def s_X5_whyAt (u : xU) (p1 : Int32) : Int32 :=
  if (s_X5_lacks u p1 (s_X5_cell 8 (u.1 5) 5)) = 0 then
    if (s_X5_tooHigh u p1 (s_X5_cell 8 (u.1 5) 5)) = 0 then
      if (s_X5_steep u p1) = 0 then
        0
      else
        3
    else
      2
  else
    1
abbrev rm_X5_whyAt : Room := { frames := 3, cells := 0, slots := 0, locals := 65 }
set_option maxHeartbeats 8000000 in
set_option maxRecDepth 100000 in
theorem c_X5_whyAt (l : Launch) (E : xG) (a : Nat → Nat) (u : xU) (p1 : Int32) : xRo l E yX5_whyAt wsX5_whyAt rm_X5_whyAt [.ref (a 0), .int p1] (wX E a u) (some (.int (s_X5_whyAt u p1))) := by
  refine xRo.of (cc := cX5_whyAt) (maxL := 3) (ret := (some .int)) (by decide) rfl (Nat.le_of_ble_eq_true rfl) ?_
  intro p e s m below meth c ls hAt hF hP hS hl
  obtain ⟨hx, hb, hr, hml, hown, hts, hlocks, -⟩ := hAt
  have hown : s.vm.findClass RX5 = some m.cls := hown
  have hl : lv_has ls 3 [(0, .ref (a 0)), (1, .int p1)] := hl
  have hK := hF.1
  have hA : ∀ q : Nat, (fun _ => False) q → xA0 E q := fun _ h => h.elim
  change W p l e rm_X5_whyAt s m ([.ref (a 0), .int p1] : List Value).toArray below meth c s.heap [] 0 0 (xQro below (some (.int (s_X5_whyAt u p1))) ([.ref (a 0), .int p1] : List Value).toArray s) _
  have hR : s_X5_whyAt u p1 = s_X5_whyAt u p1 := rfl
  refine lv_aload_n hx hb dX5_whyAt_0 rfl (lv_at hl 0 rfl) ?_
  refine va_get (D := xD E) (ci := 5) (v := .ref (a 5)) (C := RX5) (T := TX5) (N := 9) hx hb hts (by decide +kernel) hown hK hP 0 rfl rfl 2 (by decide) (hts (.fieldLink RX5 30 "RailOffsets" "rules" "[I") (by decide +kernel)) (fun _ h => h) rfl dX5_whyAt_1 ?_
  refine lv_iconst (v := 5) hx hb dX5_whyAt_4 rfl ?_
  refine xRoS (nL := 3) ⟨hx, hb, hml, hown, hts⟩ (c_X5_cell l E (a 5) 8 (u.1 5) 5) (va_cwS 2 hts gX5_whyAt_X5_cell rfl rfl rfl hd_X5_cell ⟨(Nat.le_of_ble_eq_true rfl), (Nat.le_of_ble_eq_true rfl)⟩) hF hS hA (hP.sub [5] rfl) rfl hl.1 rfl (Nat.le_of_ble_eq_true rfl) ⟨(Nat.le_of_ble_eq_true rfl), (Nat.le_of_ble_eq_true rfl)⟩ dX5_whyAt_5 ?_
  refine W.eq (g2 := F0 m 8 ls [.int (s_X5_cell 8 (u.1 5) 5)]) rfl ?_
  refine lv_istore_n (lv' := [(2, .int (s_X5_cell 8 (u.1 5) 5)), (0, .ref (a 0)), (1, .int p1)]) hx hb dX5_whyAt_8 rfl hl (by decide) rfl (fun ls hl => ?_)
  refine lv_aload_n hx hb dX5_whyAt_9 rfl (lv_at hl 1 rfl) ?_
  refine lv_iload_n hx hb dX5_whyAt_10 rfl (lv_at hl 2 rfl) ?_
  refine lv_iload_n hx hb dX5_whyAt_11 rfl (lv_at hl 0 rfl) ?_
  refine xRoV (nL := 3) ⟨hx, hb, hml, hown, hts⟩ (c_X5_lacks l E a u p1 (s_X5_cell 8 (u.1 5) 5)) (cwV 2 hts gX5_whyAt_X5_lacks rfl rfl rfl ⟨rfl, hd_X5_lacks⟩ ⟨(Nat.le_of_ble_eq_true rfl), (Nat.le_of_ble_eq_true rfl)⟩) hF hS hA hP (va_recv (q := (RX5, TX5, 9)) hK hP (ci := 5) rfl (q0 := 0) rfl) rfl hl.1 rfl (Nat.le_of_ble_eq_true rfl) ⟨(Nat.le_of_ble_eq_true rfl), (Nat.le_of_ble_eq_true rfl)⟩ dX5_whyAt_12 ?_
  refine W.eq (g2 := F0 m 15 ls [.int (s_X5_lacks u p1 (s_X5_cell 8 (u.1 5) 5))]) rfl ?_
  refine lv_if_eq (tgt := 20) hx hb dX5_whyAt_15 rfl (fun q1 => ?_) (fun q1 => ?_)
  · have hR := hR.trans (if_pos q1)
    refine lv_aload_n hx hb dX5_whyAt_20 rfl (lv_at hl 1 rfl) ?_
    refine lv_iload_n hx hb dX5_whyAt_21 rfl (lv_at hl 2 rfl) ?_
    refine lv_iload_n hx hb dX5_whyAt_22 rfl (lv_at hl 0 rfl) ?_
    refine xRoV (nL := 3) ⟨hx, hb, hml, hown, hts⟩ (c_X5_tooHigh l E a u p1 (s_X5_cell 8 (u.1 5) 5)) (cwV 2 hts gX5_whyAt_X5_tooHigh rfl rfl rfl ⟨rfl, hd_X5_tooHigh⟩ ⟨(Nat.le_of_ble_eq_true rfl), (Nat.le_of_ble_eq_true rfl)⟩) hF hS hA hP (va_recv (q := (RX5, TX5, 9)) hK hP (ci := 5) rfl (q0 := 0) rfl) rfl hl.1 rfl (Nat.le_of_ble_eq_true rfl) ⟨(Nat.le_of_ble_eq_true rfl), (Nat.le_of_ble_eq_true rfl)⟩ dX5_whyAt_23 ?_
    refine W.eq (g2 := F0 m 26 ls [.int (s_X5_tooHigh u p1 (s_X5_cell 8 (u.1 5) 5))]) rfl ?_
    refine lv_if_eq (tgt := 31) hx hb dX5_whyAt_26 rfl (fun q2 => ?_) (fun q2 => ?_)
    · have hR := hR.trans (if_pos q2)
      refine lv_aload_n hx hb dX5_whyAt_31 rfl (lv_at hl 1 rfl) ?_
      refine lv_iload_n hx hb dX5_whyAt_32 rfl (lv_at hl 2 rfl) ?_
      refine xRoV (nL := 3) ⟨hx, hb, hml, hown, hts⟩ (c_X5_steep l E a u p1) (cwV 1 hts gX5_whyAt_X5_steep rfl rfl rfl ⟨rfl, hd_X5_steep⟩ ⟨(Nat.le_of_ble_eq_true rfl), (Nat.le_of_ble_eq_true rfl)⟩) hF hS hA hP (va_recv (q := (RX5, TX5, 9)) hK hP (ci := 5) rfl (q0 := 0) rfl) rfl hl.1 rfl (Nat.le_of_ble_eq_true rfl) ⟨(Nat.le_of_ble_eq_true rfl), (Nat.le_of_ble_eq_true rfl)⟩ dX5_whyAt_33 ?_
      refine W.eq (g2 := F0 m 36 ls [.int (s_X5_steep u p1)]) rfl ?_
      refine lv_if_eq (tgt := 43) hx hb dX5_whyAt_36 rfl (fun q3 => ?_) (fun q3 => ?_)
      · have hR := hR.trans (if_pos q3)
        refine lv_iconst (v := 0) hx hb dX5_whyAt_43 rfl ?_
        have hR : s_X5_whyAt u p1 = 0 := hR
        exact W.iret (v := 0) hx hb hr (fun t ht _ => ⟨congrArg (fun z => Outcome.returned (some (Value.int z))) hR.symm, ht⟩) (fun _ h => by cases h) dX5_whyAt_44
      · have hR := hR.trans (if_neg q3)
        refine lv_iconst (v := 3) hx hb dX5_whyAt_39 rfl ?_
        refine lv_goto (tgt := 44) hx hb dX5_whyAt_40 rfl ?_
        have hR : s_X5_whyAt u p1 = 3 := hR
        exact W.iret (v := 3) hx hb hr (fun t ht _ => ⟨congrArg (fun z => Outcome.returned (some (Value.int z))) hR.symm, ht⟩) (fun _ h => by cases h) dX5_whyAt_44
    · have hR := hR.trans (if_neg q2)
      refine lv_iconst (v := 2) hx hb dX5_whyAt_29 rfl ?_
      have hR : s_X5_whyAt u p1 = 2 := hR
      exact W.iret (v := 2) hx hb hr (fun t ht _ => ⟨congrArg (fun z => Outcome.returned (some (Value.int z))) hR.symm, ht⟩) (fun _ h => by cases h) dX5_whyAt_30
  · have hR := hR.trans (if_neg q1)
    refine lv_iconst (v := 1) hx hb dX5_whyAt_18 rfl ?_
    have hR : s_X5_whyAt u p1 = 1 := hR
    exact W.iret (v := 1) hx hb hr (fun t ht _ => ⟨congrArg (fun z => Outcome.returned (some (Value.int z))) hR.symm, ht⟩) (fun _ h => by cases h) dX5_whyAt_19
def s_X5_firstFault_L2 : Nat → xU → Int32 → Int32
  | 0, _, _ => 0
  | n + 1, u, x1 =>
    if (u.2 3) < x1 then
      (-1)
    else
      if (s_X5_whyAt u x1) = 0 then
        s_X5_firstFault_L2 n u (x1 + 1)
      else
        x1
def s_X5_firstFault (u : xU) : Int32 :=
  s_X5_firstFault_L2 (((u.2 3).toInt + 1 - (1 : Int32).toInt).toNat + 1) u 1
abbrev rm_X5_firstFault : Room := { frames := 4, cells := 0, slots := 0, locals := 87 }
set_option maxHeartbeats 8000000 in
set_option maxRecDepth 100000 in
theorem c_X5_firstFault (l : Launch) (E : xG) (a : Nat → Nat) (u : xU)  (hp0 : (u.2 3).toInt < 2147483647) : xRo l E yX5_firstFault wsX5_firstFault rm_X5_firstFault [.ref (a 0)] (wX E a u) (some (.int (s_X5_firstFault u))) := by
  refine xRo.of (cc := cX5_firstFault) (maxL := 2) (ret := (some .int)) (by decide) rfl (Nat.le_of_ble_eq_true rfl) ?_
  intro p e s m below meth c ls hAt hF hP hS hl
  obtain ⟨hx, hb, hr, hml, hown, hts, hlocks, -⟩ := hAt
  have hown : s.vm.findClass RX5 = some m.cls := hown
  have hl : lv_has ls 2 [(0, .ref (a 0))] := hl
  have hK := hF.1
  have hA : ∀ q : Nat, (fun _ => False) q → xA0 E q := fun _ h => h.elim
  change W p l e rm_X5_firstFault s m ([.ref (a 0)] : List Value).toArray below meth c s.heap [] 0 0 (xQro below (some (.int (s_X5_firstFault u))) ([.ref (a 0)] : List Value).toArray s) _
  have hR : s_X5_firstFault u = s_X5_firstFault u := rfl
  refine lv_iconst (v := 1) hx hb dX5_firstFault_0 rfl ?_
  refine lv_istore_n (lv' := [(1, .int 1), (0, .ref (a 0))]) hx hb dX5_firstFault_1 rfl hl (by decide) rfl (fun ls hl => ?_)
  have L2 : ∀ (n2 : Nat) (x1 : Int32) (ls : Array Slot), ((u.2 3).toInt + 1 - x1.toInt).toNat < n2 → s_X5_firstFault u = s_X5_firstFault_L2 n2 u x1 → lv_has ls 2 [(1, .int x1), (0, .ref (a 0))] → W p l e rm_X5_firstFault s m ([.ref (a 0)] : List Value).toArray below meth c s.heap [] 0 0 (xQro below (some (.int (s_X5_firstFault u))) ([.ref (a 0)] : List Value).toArray s) (F0 m 2 ls []) := by
    intro n2
    induction n2 with
    | zero => intro x1 ls hM2 hR hl; exact absurd hM2 (Nat.not_lt_zero _)
    | succ n2 ih2 =>
      intro x1 ls hM2 hR hl
      refine lv_iload_n hx hb dX5_firstFault_2 rfl (lv_at hl 0 rfl) ?_
      refine lv_aload_n hx hb dX5_firstFault_3 rfl (lv_at hl 1 rfl) ?_
      refine va_get (D := xD E) (ci := 5) (v := .ref (a 7)) (C := RX5) (T := TX5) (N := 9) hx hb hts (by decide +kernel) hown hK hP 0 rfl rfl 4 (by decide) (hts (.fieldLink RX5 41 "RailOffsets" "line" "LRailOffsets$Line;") (by decide +kernel)) (fun _ h => h) rfl dX5_firstFault_4 ?_
      refine va_get (D := xD E) (ci := 0) (v := .int (u.2 3)) (C := RX0) (T := TX0) (N := 8) hx hb hts (by decide +kernel) hown hK hP 7 rfl rfl 7 (by decide) (hts (.fieldLink RX5 128 "RailOffsets$Line" "stations" "I") (by decide +kernel)) (fun _ h => h) rfl dX5_firstFault_7 ?_
      refine lv_icmp_gt (tgt := 29) hx hb dX5_firstFault_10 rfl (fun q1 => ?_) (fun q1 => ?_)
      · have hR := hR.trans (if_pos q1)
        refine lv_iconst (v := (-1)) hx hb dX5_firstFault_29 rfl ?_
        have hR : s_X5_firstFault u = (-1) := hR
        exact W.iret (v := (-1)) hx hb hr (fun t ht _ => ⟨congrArg (fun z => Outcome.returned (some (Value.int z))) hR.symm, ht⟩) (fun _ h => by cases h) dX5_firstFault_30
      · have hR := hR.trans (if_neg q1)
        refine lv_aload_n hx hb dX5_firstFault_13 rfl (lv_at hl 1 rfl) ?_
        refine lv_iload_n hx hb dX5_firstFault_14 rfl (lv_at hl 0 rfl) ?_
        refine xRoV (nL := 2) ⟨hx, hb, hml, hown, hts⟩ (c_X5_whyAt l E a u x1) (cwV 1 hts gX5_firstFault_X5_whyAt rfl rfl rfl ⟨rfl, hd_X5_whyAt⟩ ⟨(Nat.le_of_ble_eq_true rfl), (Nat.le_of_ble_eq_true rfl)⟩) hF hS hA hP (va_recv (q := (RX5, TX5, 9)) hK hP (ci := 5) rfl (q0 := 0) rfl) rfl hl.1 rfl (Nat.le_of_ble_eq_true rfl) ⟨(Nat.le_of_ble_eq_true rfl), (Nat.le_of_ble_eq_true rfl)⟩ dX5_firstFault_15 ?_
        refine W.eq (g2 := F0 m 18 ls [.int (s_X5_whyAt u x1)]) rfl ?_
        refine lv_if_eq (tgt := 23) hx hb dX5_firstFault_18 rfl (fun q2 => ?_) (fun q2 => ?_)
        · have hR := hR.trans (if_pos q2)
          refine lv_iinc (k := 0) (v := x1 + 1) (lv' := [(1, .int (x1 + 1)), (0, .ref (a 0))]) hx hb dX5_firstFault_23 hl rfl rfl (by decide) rfl (fun ls hl => ?_)
          refine lv_goto (tgt := 2) hx hb dX5_firstFault_26 rfl ?_
          exact ih2 (x1 + 1) _ (Nat.lt_of_lt_of_le (xupl q1 (hp0)) (Nat.le_of_lt_succ hM2)) hR (lv_sub hl [0, 1] rfl)
        · have hR := hR.trans (if_neg q2)
          refine lv_iload_n hx hb dX5_firstFault_21 rfl (lv_at hl 0 rfl) ?_
          have hR : s_X5_firstFault u = x1 := hR
          exact W.iret (v := x1) hx hb hr (fun t ht _ => ⟨congrArg (fun z => Outcome.returned (some (Value.int z))) hR.symm, ht⟩) (fun _ h => by cases h) dX5_firstFault_22
  exact L2 (((u.2 3).toInt + 1 - (1 : Int32).toInt).toNat + 1) 1 ls (Nat.lt_succ_self _) hR hl
def s_X5_rootOf (u : xU) (p1 : Int32) (p2 : Int32) : Int32 :=
  if p2 = 1 then
    if (iAbs (s_X2_read u (s_X5_cell 201 (u.1 9) p1) 2)) ≤ 50 then
      1
    else
      2
  else
    if p2 = 2 then
      3
    else
      if (s_X5_cell 201 (u.1 9) p1) < 1 then
        1
      else
        if p1 = (s_X0_firstOf u (s_X5_cell 201 (u.1 9) p1)) then
          if (s_X5_apartAhead_10 u (s_X5_cell 201 (u.1 9) p1)) ≤ (s_X5_cell 8 (u.1 5) 4) then
            4
          else
            5
        else
          1
abbrev rm_X5_rootOf : Room := { frames := 3, cells := 0, slots := 0, locals := 65 }
set_option maxHeartbeats 8000000 in
set_option maxRecDepth 100000 in
theorem c_X5_rootOf (l : Launch) (E : xG) (a : Nat → Nat) (u : xU) (p1 : Int32) (p2 : Int32) : xRo l E yX5_rootOf wsX5_rootOf rm_X5_rootOf [.ref (a 0), .int p1, .int p2] (wX E a u) (some (.int (s_X5_rootOf u p1 p2))) := by
  refine xRo.of (cc := cX5_rootOf) (maxL := 4) (ret := (some .int)) (by decide) rfl (Nat.le_of_ble_eq_true rfl) ?_
  intro p e s m below meth c ls hAt hF hP hS hl
  obtain ⟨hx, hb, hr, hml, hown, hts, hlocks, -⟩ := hAt
  have hown : s.vm.findClass RX5 = some m.cls := hown
  have hl : lv_has ls 4 [(0, .ref (a 0)), (1, .int p1), (2, .int p2)] := hl
  have hK := hF.1
  have hA : ∀ q : Nat, (fun _ => False) q → xA0 E q := fun _ h => h.elim
  change W p l e rm_X5_rootOf s m ([.ref (a 0), .int p1, .int p2] : List Value).toArray below meth c s.heap [] 0 0 (xQro below (some (.int (s_X5_rootOf u p1 p2))) ([.ref (a 0), .int p1, .int p2] : List Value).toArray s) _
  have hR : s_X5_rootOf u p1 p2 = s_X5_rootOf u p1 p2 := rfl
  refine lv_aload_n hx hb dX5_rootOf_0 rfl (lv_at hl 0 rfl) ?_
  refine va_get (D := xD E) (ci := 5) (v := .ref (a 7)) (C := RX5) (T := TX5) (N := 9) hx hb hts (by decide +kernel) hown hK hP 0 rfl rfl 4 (by decide) (hts (.fieldLink RX5 41 "RailOffsets" "line" "LRailOffsets$Line;") (by decide +kernel)) (fun _ h => h) rfl dX5_rootOf_1 ?_
  refine va_get (D := xD E) (ci := 0) (v := .ref (a 9)) (C := RX0) (T := TX0) (N := 8) hx hb hts (by decide +kernel) hown hK hP 7 rfl rfl 2 (by decide) (hts (.fieldLink RX5 143 "RailOffsets$Line" "owners" "[I") (by decide +kernel)) (fun _ h => h) rfl dX5_rootOf_4 ?_
  refine lv_iload_n hx hb dX5_rootOf_7 rfl (lv_at hl 1 rfl) ?_
  refine xRoS (nL := 4) ⟨hx, hb, hml, hown, hts⟩ (c_X5_cell l E (a 9) 201 (u.1 9) p1) (va_cwS 2 hts gX5_rootOf_X5_cell rfl rfl rfl hd_X5_cell ⟨(Nat.le_of_ble_eq_true rfl), (Nat.le_of_ble_eq_true rfl)⟩) hF hS hA (hP.sub [9] rfl) rfl hl.1 rfl (Nat.le_of_ble_eq_true rfl) ⟨(Nat.le_of_ble_eq_true rfl), (Nat.le_of_ble_eq_true rfl)⟩ dX5_rootOf_8 ?_
  refine W.eq (g2 := F0 m 11 ls [.int (s_X5_cell 201 (u.1 9) p1)]) rfl ?_
  refine lv_istore_n (lv' := [(3, .int (s_X5_cell 201 (u.1 9) p1)), (0, .ref (a 0)), (1, .int p1), (2, .int p2)]) hx hb dX5_rootOf_11 rfl hl (by decide) rfl (fun ls hl => ?_)
  refine lv_iload_n hx hb dX5_rootOf_12 rfl (lv_at hl 3 rfl) ?_
  refine lv_iconst (v := 1) hx hb dX5_rootOf_13 rfl ?_
  refine lv_icmp_ne (tgt := 40) hx hb dX5_rootOf_14 rfl (fun q1 => ?_) (fun q1 => ?_)
  · have hR := hR.trans (if_neg q1)
    refine lv_iload_n hx hb dX5_rootOf_40 rfl (lv_at hl 3 rfl) ?_
    refine lv_iconst (v := 2) hx hb dX5_rootOf_41 rfl ?_
    refine lv_icmp_ne (tgt := 47) hx hb dX5_rootOf_42 rfl (fun q2 => ?_) (fun q2 => ?_)
    · have hR := hR.trans (if_neg q2)
      refine lv_iload_n hx hb dX5_rootOf_47 rfl (lv_at hl 0 rfl) ?_
      refine lv_iconst (v := 1) hx hb dX5_rootOf_48 rfl ?_
      refine lv_icmp_lt (tgt := 64) hx hb dX5_rootOf_49 rfl (fun q3 => ?_) (fun q3 => ?_)
      · have hR := hR.trans (if_pos q3)
        refine lv_iconst (v := 1) hx hb dX5_rootOf_64 rfl ?_
        have hR : s_X5_rootOf u p1 p2 = 1 := hR
        exact W.iret (v := 1) hx hb hr (fun t ht _ => ⟨congrArg (fun z => Outcome.returned (some (Value.int z))) hR.symm, ht⟩) (fun _ h => by cases h) dX5_rootOf_65
      · have hR := hR.trans (if_neg q3)
        refine lv_iload_n hx hb dX5_rootOf_52 rfl (lv_at hl 2 rfl) ?_
        refine lv_aload_n hx hb dX5_rootOf_53 rfl (lv_at hl 1 rfl) ?_
        refine va_get (D := xD E) (ci := 5) (v := .ref (a 7)) (C := RX5) (T := TX5) (N := 9) hx hb hts (by decide +kernel) hown hK hP 0 rfl rfl 4 (by decide) (hts (.fieldLink RX5 41 "RailOffsets" "line" "LRailOffsets$Line;") (by decide +kernel)) (fun _ h => h) rfl dX5_rootOf_54 ?_
        refine lv_iload_n hx hb dX5_rootOf_57 rfl (lv_at hl 0 rfl) ?_
        refine xRoV (nL := 4) ⟨hx, hb, hml, hown, hts⟩ (c_X0_firstOf l E a u (s_X5_cell 201 (u.1 9) p1)) (cwV 1 hts gX5_rootOf_X0_firstOf rfl rfl rfl ⟨rfl, hd_X0_firstOf⟩ ⟨(Nat.le_of_ble_eq_true rfl), (Nat.le_of_ble_eq_true rfl)⟩) hF hS hA hP (va_recv (q := (RX0, TX0, 8)) hK hP (ci := 0) rfl (q0 := 7) rfl) rfl hl.1 rfl (Nat.le_of_ble_eq_true rfl) ⟨(Nat.le_of_ble_eq_true rfl), (Nat.le_of_ble_eq_true rfl)⟩ dX5_rootOf_58 ?_
        refine W.eq (g2 := F0 m 61 ls [.int (s_X0_firstOf u (s_X5_cell 201 (u.1 9) p1)), .int p1]) rfl ?_
        refine lv_icmp_eq (tgt := 66) hx hb dX5_rootOf_61 rfl (fun q4 => ?_) (fun q4 => ?_)
        · have hR := hR.trans (if_pos q4)
          refine lv_aload_n hx hb dX5_rootOf_66 rfl (lv_at hl 1 rfl) ?_
          refine lv_aload_n hx hb dX5_rootOf_67 rfl (lv_at hl 1 rfl) ?_
          refine va_get (D := xD E) (ci := 5) (v := .ref (a 7)) (C := RX5) (T := TX5) (N := 9) hx hb hts (by decide +kernel) hown hK hP 0 rfl rfl 4 (by decide) (hts (.fieldLink RX5 41 "RailOffsets" "line" "LRailOffsets$Line;") (by decide +kernel)) (fun _ h => h) rfl dX5_rootOf_68 ?_
          refine va_get (D := xD E) (ci := 0) (v := .ref (a 10)) (C := RX0) (T := TX0) (N := 8) hx hb hts (by decide +kernel) hown hK hP 7 rfl rfl 3 (by decide) (hts (.fieldLink RX5 131 "RailOffsets$Line" "versines" "[I") (by decide +kernel)) (fun _ h => h) rfl dX5_rootOf_71 ?_
          refine lv_iload_n hx hb dX5_rootOf_74 rfl (lv_at hl 0 rfl) ?_
          refine xRoV (nL := 4) ⟨hx, hb, hml, hown, hts⟩ (c_X5_apartAhead_10 l E a u (s_X5_cell 201 (u.1 9) p1)) (cwV 2 hts gX5_rootOf_X5_apartAhead rfl rfl rfl ⟨rfl, hd_X5_apartAhead⟩ ⟨(Nat.le_of_ble_eq_true rfl), (Nat.le_of_ble_eq_true rfl)⟩) hF hS hA hP (va_recv (q := (RX5, TX5, 9)) hK hP (ci := 5) rfl (q0 := 0) rfl) rfl hl.1 rfl (Nat.le_of_ble_eq_true rfl) ⟨(Nat.le_of_ble_eq_true rfl), (Nat.le_of_ble_eq_true rfl)⟩ dX5_rootOf_75 ?_
          refine W.eq (g2 := F0 m 78 ls [.int (s_X5_apartAhead_10 u (s_X5_cell 201 (u.1 9) p1))]) rfl ?_
          refine lv_aload_n hx hb dX5_rootOf_78 rfl (lv_at hl 1 rfl) ?_
          refine va_get (D := xD E) (ci := 5) (v := .ref (a 5)) (C := RX5) (T := TX5) (N := 9) hx hb hts (by decide +kernel) hown hK hP 0 rfl rfl 2 (by decide) (hts (.fieldLink RX5 30 "RailOffsets" "rules" "[I") (by decide +kernel)) (fun _ h => h) rfl dX5_rootOf_79 ?_
          refine lv_iconst (v := 4) hx hb dX5_rootOf_82 rfl ?_
          refine xRoS (nL := 4) ⟨hx, hb, hml, hown, hts⟩ (c_X5_cell l E (a 5) 8 (u.1 5) 4) (va_cwS 2 hts gX5_rootOf_X5_cell rfl rfl rfl hd_X5_cell ⟨(Nat.le_of_ble_eq_true rfl), (Nat.le_of_ble_eq_true rfl)⟩) hF hS hA (hP.sub [5] rfl) rfl hl.1 rfl (Nat.le_of_ble_eq_true rfl) ⟨(Nat.le_of_ble_eq_true rfl), (Nat.le_of_ble_eq_true rfl)⟩ dX5_rootOf_83 ?_
          refine W.eq (g2 := F0 m 86 ls [.int (s_X5_cell 8 (u.1 5) 4), .int (s_X5_apartAhead_10 u (s_X5_cell 201 (u.1 9) p1))]) rfl ?_
          refine lv_icmp_le (tgt := 93) hx hb dX5_rootOf_86 rfl (fun q5 => ?_) (fun q5 => ?_)
          · have hR := hR.trans (if_pos q5)
            refine lv_iconst (v := 4) hx hb dX5_rootOf_93 rfl ?_
            have hR : s_X5_rootOf u p1 p2 = 4 := hR
            exact W.iret (v := 4) hx hb hr (fun t ht _ => ⟨congrArg (fun z => Outcome.returned (some (Value.int z))) hR.symm, ht⟩) (fun _ h => by cases h) dX5_rootOf_94
          · have hR := hR.trans (if_neg q5)
            refine lv_iconst (v := 5) hx hb dX5_rootOf_89 rfl ?_
            refine lv_goto (tgt := 94) hx hb dX5_rootOf_90 rfl ?_
            have hR : s_X5_rootOf u p1 p2 = 5 := hR
            exact W.iret (v := 5) hx hb hr (fun t ht _ => ⟨congrArg (fun z => Outcome.returned (some (Value.int z))) hR.symm, ht⟩) (fun _ h => by cases h) dX5_rootOf_94
        · have hR := hR.trans (if_neg q4)
          refine lv_iconst (v := 1) hx hb dX5_rootOf_64 rfl ?_
          have hR : s_X5_rootOf u p1 p2 = 1 := hR
          exact W.iret (v := 1) hx hb hr (fun t ht _ => ⟨congrArg (fun z => Outcome.returned (some (Value.int z))) hR.symm, ht⟩) (fun _ h => by cases h) dX5_rootOf_65
    · have hR := hR.trans (if_pos q2)
      refine lv_iconst (v := 3) hx hb dX5_rootOf_45 rfl ?_
      have hR : s_X5_rootOf u p1 p2 = 3 := hR
      exact W.iret (v := 3) hx hb hr (fun t ht _ => ⟨congrArg (fun z => Outcome.returned (some (Value.int z))) hR.symm, ht⟩) (fun _ h => by cases h) dX5_rootOf_46
  · have hR := hR.trans (if_pos q1)
    refine lv_aload_n hx hb dX5_rootOf_17 rfl (lv_at hl 1 rfl) ?_
    refine va_get (D := xD E) (ci := 5) (v := .ref (a 1)) (C := RX5) (T := TX5) (N := 9) hx hb hts (by decide +kernel) hown hK hP 0 rfl rfl 0 (by decide) (hts (.fieldLink RX5 12 "RailOffsets" "pieces" "LRailOffsets$Pieces;") (by decide +kernel)) (fun _ h => h) rfl dX5_rootOf_18 ?_
    refine lv_iload_n hx hb dX5_rootOf_21 rfl (lv_at hl 0 rfl) ?_
    refine lv_iconst (v := 2) hx hb dX5_rootOf_22 rfl ?_
    refine xRoV (nL := 4) ⟨hx, hb, hml, hown, hts⟩ (c_X2_read l E a u (s_X5_cell 201 (u.1 9) p1) 2) (cwV 2 hts gX5_rootOf_X2_read rfl rfl rfl ⟨rfl, hd_X2_read⟩ ⟨(Nat.le_of_ble_eq_true rfl), (Nat.le_of_ble_eq_true rfl)⟩) hF hS hA hP (va_recv (q := (RX2, TX2, 2)) hK hP (ci := 2) rfl (q0 := 1) rfl) rfl hl.1 rfl (Nat.le_of_ble_eq_true rfl) ⟨(Nat.le_of_ble_eq_true rfl), (Nat.le_of_ble_eq_true rfl)⟩ dX5_rootOf_23 ?_
    refine W.eq (g2 := F0 m 26 ls [.int (s_X2_read u (s_X5_cell 201 (u.1 9) p1) 2)]) rfl ?_
    refine va_mabs hx hb (hml.trans hl.1.symm) hown (hts (.methodLink RX5 152 Lib.Math.abs.name) (by decide +kernel)) (hts (.static Lib.Math.abs.name) (by decide +kernel)) (hts (.initialized "java/lang/Math") (by decide +kernel)) (hts (.code Lib.Math.abs.name Lib.Math.abs.code 1 (some .int)) (by decide +kernel)) (Nat.le_of_ble_eq_true rfl) (Nat.le_of_ble_eq_true rfl) (Nat.le_of_ble_eq_true rfl) (Nat.le_of_ble_eq_true rfl) dX5_rootOf_26 ?_
    refine W.eq (g2 := F0 m 29 ls [.int (iAbs (s_X2_read u (s_X5_cell 201 (u.1 9) p1) 2))]) rfl ?_
    refine lv_bipush (v := 50) hx hb dX5_rootOf_29 rfl ?_
    refine lv_icmp_le (tgt := 38) hx hb dX5_rootOf_31 rfl (fun q6 => ?_) (fun q6 => ?_)
    · have hR := hR.trans (if_pos q6)
      refine lv_iconst (v := 1) hx hb dX5_rootOf_38 rfl ?_
      have hR : s_X5_rootOf u p1 p2 = 1 := hR
      exact W.iret (v := 1) hx hb hr (fun t ht _ => ⟨congrArg (fun z => Outcome.returned (some (Value.int z))) hR.symm, ht⟩) (fun _ h => by cases h) dX5_rootOf_39
    · have hR := hR.trans (if_neg q6)
      refine lv_iconst (v := 2) hx hb dX5_rootOf_34 rfl ?_
      refine lv_goto (tgt := 39) hx hb dX5_rootOf_35 rfl ?_
      have hR : s_X5_rootOf u p1 p2 = 2 := hR
      exact W.iret (v := 2) hx hb hr (fun t ht _ => ⟨congrArg (fun z => Outcome.returned (some (Value.int z))) hR.symm, ht⟩) (fun _ h => by cases h) dX5_rootOf_39
def s_X5_fault (u : xU) (p1 : Int32) : Int32 :=
  if (s_X5_firstFault u) = (-1) then
    if (s_X5_firstFault u) = (-1) then
      if p1 = 0 then
        s_X5_firstFault u
      else
        if p1 = 1 then
          0
        else
          if p1 = 2 then
            s_X5_cell (xStL 6) (xStV 6) 0
          else
            if p1 = 3 then
              0
            else
              (-2)
    else
      if p1 = 0 then
        s_X5_firstFault u
      else
        if p1 = 1 then
          0
        else
          if p1 = 2 then
            s_X5_cell (xStL 6) (xStV 6) (s_X5_rootOf u (s_X5_firstFault u) 0)
          else
            if p1 = 3 then
              s_X5_rootOf u (s_X5_firstFault u) 0
            else
              (-2)
  else
    if (s_X5_firstFault u) = (-1) then
      if p1 = 0 then
        s_X5_firstFault u
      else
        if p1 = 1 then
          s_X5_whyAt u (s_X5_firstFault u)
        else
          if p1 = 2 then
            s_X5_cell (xStL 6) (xStV 6) 0
          else
            if p1 = 3 then
              0
            else
              (-2)
    else
      if p1 = 0 then
        s_X5_firstFault u
      else
        if p1 = 1 then
          s_X5_whyAt u (s_X5_firstFault u)
        else
          if p1 = 2 then
            s_X5_cell (xStL 6) (xStV 6) (s_X5_rootOf u (s_X5_firstFault u) (s_X5_whyAt u (s_X5_firstFault u)))
          else
            if p1 = 3 then
              s_X5_rootOf u (s_X5_firstFault u) (s_X5_whyAt u (s_X5_firstFault u))
            else
              (-2)
abbrev rm_X5_fault : Room := { frames := 5, cells := 0, slots := 0, locals := 108 }
set_option maxHeartbeats 8000000 in
set_option maxRecDepth 100000 in
theorem c_X5_fault (l : Launch) (E : xG) (a : Nat → Nat) (u : xU) (p1 : Int32) (hp0 : (u.2 3).toInt < 2147483647) : xRo l E yX5_fault wsX5_fault rm_X5_fault [.ref (a 0), .int p1] (wX E a u) (some (.int (s_X5_fault u p1))) := by
  refine xRo.of (cc := cX5_fault) (maxL := 5) (ret := (some .int)) (by decide) rfl (Nat.le_of_ble_eq_true rfl) ?_
  intro p e s m below meth c ls hAt hF hP hS hl
  obtain ⟨hx, hb, hr, hml, hown, hts, hlocks, -⟩ := hAt
  have hown : s.vm.findClass RX5 = some m.cls := hown
  have hl : lv_has ls 5 [(0, .ref (a 0)), (1, .int p1)] := hl
  have hK := hF.1
  have hA : ∀ q : Nat, (fun _ => False) q → xA0 E q := fun _ h => h.elim
  change W p l e rm_X5_fault s m ([.ref (a 0), .int p1] : List Value).toArray below meth c s.heap [] 0 0 (xQro below (some (.int (s_X5_fault u p1))) ([.ref (a 0), .int p1] : List Value).toArray s) _
  have hR : s_X5_fault u p1 = s_X5_fault u p1 := rfl
  refine lv_aload_n hx hb dX5_fault_0 rfl (lv_at hl 0 rfl) ?_
  refine xRoV (nL := 5) ⟨hx, hb, hml, hown, hts⟩ (c_X5_firstFault l E a u  (by first | assumption | omega | decide)) (cwV 0 hts gX5_fault_X5_firstFault rfl rfl rfl ⟨rfl, hd_X5_firstFault⟩ ⟨(Nat.le_of_ble_eq_true rfl), (Nat.le_of_ble_eq_true rfl)⟩) hF hS hA hP (va_recv (q := (RX5, TX5, 9)) hK hP (ci := 5) rfl (q0 := 0) rfl) rfl hl.1 rfl (Nat.le_of_ble_eq_true rfl) ⟨(Nat.le_of_ble_eq_true rfl), (Nat.le_of_ble_eq_true rfl)⟩ dX5_fault_1 ?_
  refine W.eq (g2 := F0 m 4 ls [.int (s_X5_firstFault u)]) rfl ?_
  refine lv_istore_n (lv' := [(2, .int (s_X5_firstFault u)), (0, .ref (a 0)), (1, .int p1)]) hx hb dX5_fault_4 rfl hl (by decide) rfl (fun ls hl => ?_)
  refine lv_iload_n hx hb dX5_fault_5 rfl (lv_at hl 0 rfl) ?_
  refine lv_iconst (v := (-1)) hx hb dX5_fault_6 rfl ?_
  refine lv_icmp_ne (tgt := 14) hx hb dX5_fault_7 rfl (fun q1 => ?_) (fun q1 => ?_)
  · have hR := hR.trans (if_neg q1)
    refine lv_aload_n hx hb dX5_fault_14 rfl (lv_at hl 1 rfl) ?_
    refine lv_iload_n hx hb dX5_fault_15 rfl (lv_at hl 0 rfl) ?_
    refine xRoV (nL := 5) ⟨hx, hb, hml, hown, hts⟩ (c_X5_whyAt l E a u (s_X5_firstFault u)) (cwV 1 hts gX5_fault_X5_whyAt rfl rfl rfl ⟨rfl, hd_X5_whyAt⟩ ⟨(Nat.le_of_ble_eq_true rfl), (Nat.le_of_ble_eq_true rfl)⟩) hF hS hA hP (va_recv (q := (RX5, TX5, 9)) hK hP (ci := 5) rfl (q0 := 0) rfl) rfl hl.1 rfl (Nat.le_of_ble_eq_true rfl) ⟨(Nat.le_of_ble_eq_true rfl), (Nat.le_of_ble_eq_true rfl)⟩ dX5_fault_16 ?_
    refine W.eq (g2 := F0 m 19 ls [.int (s_X5_whyAt u (s_X5_firstFault u))]) rfl ?_
    refine lv_istore_n (lv' := [(3, .int (s_X5_whyAt u (s_X5_firstFault u))), (2, .int (s_X5_firstFault u)), (0, .ref (a 0)), (1, .int p1)]) hx hb dX5_fault_19 rfl hl (by decide) rfl (fun ls hl => ?_)
    refine lv_iload_n hx hb dX5_fault_20 rfl (lv_at hl 1 rfl) ?_
    refine lv_iconst (v := (-1)) hx hb dX5_fault_21 rfl ?_
    refine lv_icmp_ne (tgt := 29) hx hb dX5_fault_22 rfl (fun q2 => ?_) (fun q2 => ?_)
    · have hR := hR.trans (if_neg q2)
      refine lv_aload_n hx hb dX5_fault_29 rfl (lv_at hl 2 rfl) ?_
      refine lv_iload_n hx hb dX5_fault_30 rfl (lv_at hl 1 rfl) ?_
      refine lv_iload_n hx hb dX5_fault_31 rfl (lv_at hl 0 rfl) ?_
      refine xRoV (nL := 5) ⟨hx, hb, hml, hown, hts⟩ (c_X5_rootOf l E a u (s_X5_firstFault u) (s_X5_whyAt u (s_X5_firstFault u))) (cwV 2 hts gX5_fault_X5_rootOf rfl rfl rfl ⟨rfl, hd_X5_rootOf⟩ ⟨(Nat.le_of_ble_eq_true rfl), (Nat.le_of_ble_eq_true rfl)⟩) hF hS hA hP (va_recv (q := (RX5, TX5, 9)) hK hP (ci := 5) rfl (q0 := 0) rfl) rfl hl.1 rfl (Nat.le_of_ble_eq_true rfl) ⟨(Nat.le_of_ble_eq_true rfl), (Nat.le_of_ble_eq_true rfl)⟩ dX5_fault_32 ?_
      refine W.eq (g2 := F0 m 35 ls [.int (s_X5_rootOf u (s_X5_firstFault u) (s_X5_whyAt u (s_X5_firstFault u)))]) rfl ?_
      refine lv_istore (lv' := [(4, .int (s_X5_rootOf u (s_X5_firstFault u) (s_X5_whyAt u (s_X5_firstFault u)))), (3, .int (s_X5_whyAt u (s_X5_firstFault u))), (2, .int (s_X5_firstFault u)), (0, .ref (a 0)), (1, .int p1)]) hx hb dX5_fault_35 hl (by decide) rfl (fun ls hl => ?_)
      refine lv_iload_n hx hb dX5_fault_37 rfl (lv_at hl 4 rfl) ?_
      by_cases q3 : p1 = 0
      · have hR := hR.trans (if_pos q3)
        refine lv_tableIn (tgt := 68) (off := 30) hx hb dX5_fault_38 (by rw [q3]; decide) (by rw [q3]; decide) (by rw [q3]; rfl) rfl ?_
        refine lv_iload_n hx hb dX5_fault_68 rfl (lv_at hl 2 rfl) ?_
        have hR : s_X5_fault u p1 = s_X5_firstFault u := hR
        exact W.iret (v := s_X5_firstFault u) hx hb hr (fun t ht _ => ⟨congrArg (fun z => Outcome.returned (some (Value.int z))) hR.symm, ht⟩) (fun _ h => by cases h) dX5_fault_69
      have hR := hR.trans (if_neg q3)
      by_cases q4 : p1 = 1
      · have hR := hR.trans (if_pos q4)
        refine lv_tableIn (tgt := 70) (off := 32) hx hb dX5_fault_38 (by rw [q4]; decide) (by rw [q4]; decide) (by rw [q4]; rfl) rfl ?_
        refine lv_iload_n hx hb dX5_fault_70 rfl (lv_at hl 1 rfl) ?_
        have hR : s_X5_fault u p1 = s_X5_whyAt u (s_X5_firstFault u) := hR
        exact W.iret (v := s_X5_whyAt u (s_X5_firstFault u)) hx hb hr (fun t ht _ => ⟨congrArg (fun z => Outcome.returned (some (Value.int z))) hR.symm, ht⟩) (fun _ h => by cases h) dX5_fault_71
      have hR := hR.trans (if_neg q4)
      by_cases q5 : p1 = 2
      · have hR := hR.trans (if_pos q5)
        refine lv_tableIn (tgt := 72) (off := 34) hx hb dX5_fault_38 (by rw [q5]; decide) (by rw [q5]; decide) (by rw [q5]; rfl) rfl ?_
        refine va_gets (C := RX5) hx hb ((hF.2.2.1 6 (by decide)).1.narrow hA) hS hown (hts (.fieldLink RX5 179 "RailOffsets" "CAUSES_BY_ROOT" "[I") (by decide +kernel)) (fun _ h => h) dX5_fault_72 ?_
        refine lv_iload hx hb dX5_fault_75 (lv_at hl 0 rfl) ?_
        refine xRoS (nL := 5) ⟨hx, hb, hml, hown, hts⟩ (c_X5_cell_st l E 6 (by decide) (s_X5_rootOf u (s_X5_firstFault u) (s_X5_whyAt u (s_X5_firstFault u)))) (va_cwS 2 hts gX5_fault_X5_cell rfl rfl rfl hd_X5_cell ⟨(Nat.le_of_ble_eq_true rfl), (Nat.le_of_ble_eq_true rfl)⟩) hF hS hA (hP.sub [] rfl) rfl hl.1 rfl (Nat.le_of_ble_eq_true rfl) ⟨(Nat.le_of_ble_eq_true rfl), (Nat.le_of_ble_eq_true rfl)⟩ dX5_fault_77 ?_
        refine W.eq (g2 := F0 m 80 ls [.int (s_X5_cell (xStL 6) (xStV 6) (s_X5_rootOf u (s_X5_firstFault u) (s_X5_whyAt u (s_X5_firstFault u))))]) rfl ?_
        have hR : s_X5_fault u p1 = s_X5_cell (xStL 6) (xStV 6) (s_X5_rootOf u (s_X5_firstFault u) (s_X5_whyAt u (s_X5_firstFault u))) := hR
        exact W.iret (v := s_X5_cell (xStL 6) (xStV 6) (s_X5_rootOf u (s_X5_firstFault u) (s_X5_whyAt u (s_X5_firstFault u)))) hx hb hr (fun t ht _ => ⟨congrArg (fun z => Outcome.returned (some (Value.int z))) hR.symm, ht⟩) (fun _ h => by cases h) dX5_fault_80
      have hR := hR.trans (if_neg q5)
      by_cases q6 : p1 = 3
      · have hR := hR.trans (if_pos q6)
        refine lv_tableIn (tgt := 81) (off := 43) hx hb dX5_fault_38 (by rw [q6]; decide) (by rw [q6]; decide) (by rw [q6]; rfl) rfl ?_
        refine lv_iload hx hb dX5_fault_81 (lv_at hl 0 rfl) ?_
        have hR : s_X5_fault u p1 = s_X5_rootOf u (s_X5_firstFault u) (s_X5_whyAt u (s_X5_firstFault u)) := hR
        exact W.iret (v := s_X5_rootOf u (s_X5_firstFault u) (s_X5_whyAt u (s_X5_firstFault u))) hx hb hr (fun t ht _ => ⟨congrArg (fun z => Outcome.returned (some (Value.int z))) hR.symm, ht⟩) (fun _ h => by cases h) dX5_fault_83
      have hR := hR.trans (if_neg q6)
      refine lv_tableOut (tgt := 84) hx hb dX5_fault_38 (xsw p1 (fun j h1 h2 h3 => by
        have h9 : j = 0 ∨ j = 1 ∨ j = 2 ∨ j = 3 ∨ False := by omega
        rcases h9 with rfl | rfl | rfl | rfl | h9
        · exact q3 (Int32.toInt_inj.mp h3)
        · exact q4 (Int32.toInt_inj.mp h3)
        · exact q5 (Int32.toInt_inj.mp h3)
        · exact q6 (Int32.toInt_inj.mp h3)
        · exact h9)) rfl ?_
      refine lv_bipush (v := (-2)) hx hb dX5_fault_84 rfl ?_
      have hR : s_X5_fault u p1 = (-2) := hR
      exact W.iret (v := (-2)) hx hb hr (fun t ht _ => ⟨congrArg (fun z => Outcome.returned (some (Value.int z))) hR.symm, ht⟩) (fun _ h => by cases h) dX5_fault_86
    · have hR := hR.trans (if_pos q2)
      refine lv_iconst (v := 0) hx hb dX5_fault_25 rfl ?_
      refine lv_goto (tgt := 35) hx hb dX5_fault_26 rfl ?_
      refine lv_istore (lv' := [(4, .int 0), (3, .int (s_X5_whyAt u (s_X5_firstFault u))), (2, .int (s_X5_firstFault u)), (0, .ref (a 0)), (1, .int p1)]) hx hb dX5_fault_35 hl (by decide) rfl (fun ls hl => ?_)
      refine lv_iload_n hx hb dX5_fault_37 rfl (lv_at hl 4 rfl) ?_
      by_cases q7 : p1 = 0
      · have hR := hR.trans (if_pos q7)
        refine lv_tableIn (tgt := 68) (off := 30) hx hb dX5_fault_38 (by rw [q7]; decide) (by rw [q7]; decide) (by rw [q7]; rfl) rfl ?_
        refine lv_iload_n hx hb dX5_fault_68 rfl (lv_at hl 2 rfl) ?_
        have hR : s_X5_fault u p1 = s_X5_firstFault u := hR
        exact W.iret (v := s_X5_firstFault u) hx hb hr (fun t ht _ => ⟨congrArg (fun z => Outcome.returned (some (Value.int z))) hR.symm, ht⟩) (fun _ h => by cases h) dX5_fault_69
      have hR := hR.trans (if_neg q7)
      by_cases q8 : p1 = 1
      · have hR := hR.trans (if_pos q8)
        refine lv_tableIn (tgt := 70) (off := 32) hx hb dX5_fault_38 (by rw [q8]; decide) (by rw [q8]; decide) (by rw [q8]; rfl) rfl ?_
        refine lv_iload_n hx hb dX5_fault_70 rfl (lv_at hl 1 rfl) ?_
        have hR : s_X5_fault u p1 = s_X5_whyAt u (s_X5_firstFault u) := hR
        exact W.iret (v := s_X5_whyAt u (s_X5_firstFault u)) hx hb hr (fun t ht _ => ⟨congrArg (fun z => Outcome.returned (some (Value.int z))) hR.symm, ht⟩) (fun _ h => by cases h) dX5_fault_71
      have hR := hR.trans (if_neg q8)
      by_cases q9 : p1 = 2
      · have hR := hR.trans (if_pos q9)
        refine lv_tableIn (tgt := 72) (off := 34) hx hb dX5_fault_38 (by rw [q9]; decide) (by rw [q9]; decide) (by rw [q9]; rfl) rfl ?_
        refine va_gets (C := RX5) hx hb ((hF.2.2.1 6 (by decide)).1.narrow hA) hS hown (hts (.fieldLink RX5 179 "RailOffsets" "CAUSES_BY_ROOT" "[I") (by decide +kernel)) (fun _ h => h) dX5_fault_72 ?_
        refine lv_iload hx hb dX5_fault_75 (lv_at hl 0 rfl) ?_
        refine xRoS (nL := 5) ⟨hx, hb, hml, hown, hts⟩ (c_X5_cell_st l E 6 (by decide) 0) (va_cwS 2 hts gX5_fault_X5_cell rfl rfl rfl hd_X5_cell ⟨(Nat.le_of_ble_eq_true rfl), (Nat.le_of_ble_eq_true rfl)⟩) hF hS hA (hP.sub [] rfl) rfl hl.1 rfl (Nat.le_of_ble_eq_true rfl) ⟨(Nat.le_of_ble_eq_true rfl), (Nat.le_of_ble_eq_true rfl)⟩ dX5_fault_77 ?_
        refine W.eq (g2 := F0 m 80 ls [.int (s_X5_cell (xStL 6) (xStV 6) 0)]) rfl ?_
        have hR : s_X5_fault u p1 = s_X5_cell (xStL 6) (xStV 6) 0 := hR
        exact W.iret (v := s_X5_cell (xStL 6) (xStV 6) 0) hx hb hr (fun t ht _ => ⟨congrArg (fun z => Outcome.returned (some (Value.int z))) hR.symm, ht⟩) (fun _ h => by cases h) dX5_fault_80
      have hR := hR.trans (if_neg q9)
      by_cases q10 : p1 = 3
      · have hR := hR.trans (if_pos q10)
        refine lv_tableIn (tgt := 81) (off := 43) hx hb dX5_fault_38 (by rw [q10]; decide) (by rw [q10]; decide) (by rw [q10]; rfl) rfl ?_
        refine lv_iload hx hb dX5_fault_81 (lv_at hl 0 rfl) ?_
        have hR : s_X5_fault u p1 = 0 := hR
        exact W.iret (v := 0) hx hb hr (fun t ht _ => ⟨congrArg (fun z => Outcome.returned (some (Value.int z))) hR.symm, ht⟩) (fun _ h => by cases h) dX5_fault_83
      have hR := hR.trans (if_neg q10)
      refine lv_tableOut (tgt := 84) hx hb dX5_fault_38 (xsw p1 (fun j h1 h2 h3 => by
        have h9 : j = 0 ∨ j = 1 ∨ j = 2 ∨ j = 3 ∨ False := by omega
        rcases h9 with rfl | rfl | rfl | rfl | h9
        · exact q7 (Int32.toInt_inj.mp h3)
        · exact q8 (Int32.toInt_inj.mp h3)
        · exact q9 (Int32.toInt_inj.mp h3)
        · exact q10 (Int32.toInt_inj.mp h3)
        · exact h9)) rfl ?_
      refine lv_bipush (v := (-2)) hx hb dX5_fault_84 rfl ?_
      have hR : s_X5_fault u p1 = (-2) := hR
      exact W.iret (v := (-2)) hx hb hr (fun t ht _ => ⟨congrArg (fun z => Outcome.returned (some (Value.int z))) hR.symm, ht⟩) (fun _ h => by cases h) dX5_fault_86
  · have hR := hR.trans (if_pos q1)
    refine lv_iconst (v := 0) hx hb dX5_fault_10 rfl ?_
    refine lv_goto (tgt := 19) hx hb dX5_fault_11 rfl ?_
    refine lv_istore_n (lv' := [(3, .int 0), (2, .int (s_X5_firstFault u)), (0, .ref (a 0)), (1, .int p1)]) hx hb dX5_fault_19 rfl hl (by decide) rfl (fun ls hl => ?_)
    refine lv_iload_n hx hb dX5_fault_20 rfl (lv_at hl 1 rfl) ?_
    refine lv_iconst (v := (-1)) hx hb dX5_fault_21 rfl ?_
    refine lv_icmp_ne (tgt := 29) hx hb dX5_fault_22 rfl (fun q11 => ?_) (fun q11 => ?_)
    · have hR := hR.trans (if_neg q11)
      refine lv_aload_n hx hb dX5_fault_29 rfl (lv_at hl 2 rfl) ?_
      refine lv_iload_n hx hb dX5_fault_30 rfl (lv_at hl 1 rfl) ?_
      refine lv_iload_n hx hb dX5_fault_31 rfl (lv_at hl 0 rfl) ?_
      refine xRoV (nL := 5) ⟨hx, hb, hml, hown, hts⟩ (c_X5_rootOf l E a u (s_X5_firstFault u) 0) (cwV 2 hts gX5_fault_X5_rootOf rfl rfl rfl ⟨rfl, hd_X5_rootOf⟩ ⟨(Nat.le_of_ble_eq_true rfl), (Nat.le_of_ble_eq_true rfl)⟩) hF hS hA hP (va_recv (q := (RX5, TX5, 9)) hK hP (ci := 5) rfl (q0 := 0) rfl) rfl hl.1 rfl (Nat.le_of_ble_eq_true rfl) ⟨(Nat.le_of_ble_eq_true rfl), (Nat.le_of_ble_eq_true rfl)⟩ dX5_fault_32 ?_
      refine W.eq (g2 := F0 m 35 ls [.int (s_X5_rootOf u (s_X5_firstFault u) 0)]) rfl ?_
      refine lv_istore (lv' := [(4, .int (s_X5_rootOf u (s_X5_firstFault u) 0)), (3, .int 0), (2, .int (s_X5_firstFault u)), (0, .ref (a 0)), (1, .int p1)]) hx hb dX5_fault_35 hl (by decide) rfl (fun ls hl => ?_)
      refine lv_iload_n hx hb dX5_fault_37 rfl (lv_at hl 4 rfl) ?_
      by_cases q12 : p1 = 0
      · have hR := hR.trans (if_pos q12)
        refine lv_tableIn (tgt := 68) (off := 30) hx hb dX5_fault_38 (by rw [q12]; decide) (by rw [q12]; decide) (by rw [q12]; rfl) rfl ?_
        refine lv_iload_n hx hb dX5_fault_68 rfl (lv_at hl 2 rfl) ?_
        have hR : s_X5_fault u p1 = s_X5_firstFault u := hR
        exact W.iret (v := s_X5_firstFault u) hx hb hr (fun t ht _ => ⟨congrArg (fun z => Outcome.returned (some (Value.int z))) hR.symm, ht⟩) (fun _ h => by cases h) dX5_fault_69
      have hR := hR.trans (if_neg q12)
      by_cases q13 : p1 = 1
      · have hR := hR.trans (if_pos q13)
        refine lv_tableIn (tgt := 70) (off := 32) hx hb dX5_fault_38 (by rw [q13]; decide) (by rw [q13]; decide) (by rw [q13]; rfl) rfl ?_
        refine lv_iload_n hx hb dX5_fault_70 rfl (lv_at hl 1 rfl) ?_
        have hR : s_X5_fault u p1 = 0 := hR
        exact W.iret (v := 0) hx hb hr (fun t ht _ => ⟨congrArg (fun z => Outcome.returned (some (Value.int z))) hR.symm, ht⟩) (fun _ h => by cases h) dX5_fault_71
      have hR := hR.trans (if_neg q13)
      by_cases q14 : p1 = 2
      · have hR := hR.trans (if_pos q14)
        refine lv_tableIn (tgt := 72) (off := 34) hx hb dX5_fault_38 (by rw [q14]; decide) (by rw [q14]; decide) (by rw [q14]; rfl) rfl ?_
        refine va_gets (C := RX5) hx hb ((hF.2.2.1 6 (by decide)).1.narrow hA) hS hown (hts (.fieldLink RX5 179 "RailOffsets" "CAUSES_BY_ROOT" "[I") (by decide +kernel)) (fun _ h => h) dX5_fault_72 ?_
        refine lv_iload hx hb dX5_fault_75 (lv_at hl 0 rfl) ?_
        refine xRoS (nL := 5) ⟨hx, hb, hml, hown, hts⟩ (c_X5_cell_st l E 6 (by decide) (s_X5_rootOf u (s_X5_firstFault u) 0)) (va_cwS 2 hts gX5_fault_X5_cell rfl rfl rfl hd_X5_cell ⟨(Nat.le_of_ble_eq_true rfl), (Nat.le_of_ble_eq_true rfl)⟩) hF hS hA (hP.sub [] rfl) rfl hl.1 rfl (Nat.le_of_ble_eq_true rfl) ⟨(Nat.le_of_ble_eq_true rfl), (Nat.le_of_ble_eq_true rfl)⟩ dX5_fault_77 ?_
        refine W.eq (g2 := F0 m 80 ls [.int (s_X5_cell (xStL 6) (xStV 6) (s_X5_rootOf u (s_X5_firstFault u) 0))]) rfl ?_
        have hR : s_X5_fault u p1 = s_X5_cell (xStL 6) (xStV 6) (s_X5_rootOf u (s_X5_firstFault u) 0) := hR
        exact W.iret (v := s_X5_cell (xStL 6) (xStV 6) (s_X5_rootOf u (s_X5_firstFault u) 0)) hx hb hr (fun t ht _ => ⟨congrArg (fun z => Outcome.returned (some (Value.int z))) hR.symm, ht⟩) (fun _ h => by cases h) dX5_fault_80
      have hR := hR.trans (if_neg q14)
      by_cases q15 : p1 = 3
      · have hR := hR.trans (if_pos q15)
        refine lv_tableIn (tgt := 81) (off := 43) hx hb dX5_fault_38 (by rw [q15]; decide) (by rw [q15]; decide) (by rw [q15]; rfl) rfl ?_
        refine lv_iload hx hb dX5_fault_81 (lv_at hl 0 rfl) ?_
        have hR : s_X5_fault u p1 = s_X5_rootOf u (s_X5_firstFault u) 0 := hR
        exact W.iret (v := s_X5_rootOf u (s_X5_firstFault u) 0) hx hb hr (fun t ht _ => ⟨congrArg (fun z => Outcome.returned (some (Value.int z))) hR.symm, ht⟩) (fun _ h => by cases h) dX5_fault_83
      have hR := hR.trans (if_neg q15)
      refine lv_tableOut (tgt := 84) hx hb dX5_fault_38 (xsw p1 (fun j h1 h2 h3 => by
        have h9 : j = 0 ∨ j = 1 ∨ j = 2 ∨ j = 3 ∨ False := by omega
        rcases h9 with rfl | rfl | rfl | rfl | h9
        · exact q12 (Int32.toInt_inj.mp h3)
        · exact q13 (Int32.toInt_inj.mp h3)
        · exact q14 (Int32.toInt_inj.mp h3)
        · exact q15 (Int32.toInt_inj.mp h3)
        · exact h9)) rfl ?_
      refine lv_bipush (v := (-2)) hx hb dX5_fault_84 rfl ?_
      have hR : s_X5_fault u p1 = (-2) := hR
      exact W.iret (v := (-2)) hx hb hr (fun t ht _ => ⟨congrArg (fun z => Outcome.returned (some (Value.int z))) hR.symm, ht⟩) (fun _ h => by cases h) dX5_fault_86
    · have hR := hR.trans (if_pos q11)
      refine lv_iconst (v := 0) hx hb dX5_fault_25 rfl ?_
      refine lv_goto (tgt := 35) hx hb dX5_fault_26 rfl ?_
      refine lv_istore (lv' := [(4, .int 0), (3, .int 0), (2, .int (s_X5_firstFault u)), (0, .ref (a 0)), (1, .int p1)]) hx hb dX5_fault_35 hl (by decide) rfl (fun ls hl => ?_)
      refine lv_iload_n hx hb dX5_fault_37 rfl (lv_at hl 4 rfl) ?_
      by_cases q16 : p1 = 0
      · have hR := hR.trans (if_pos q16)
        refine lv_tableIn (tgt := 68) (off := 30) hx hb dX5_fault_38 (by rw [q16]; decide) (by rw [q16]; decide) (by rw [q16]; rfl) rfl ?_
        refine lv_iload_n hx hb dX5_fault_68 rfl (lv_at hl 2 rfl) ?_
        have hR : s_X5_fault u p1 = s_X5_firstFault u := hR
        exact W.iret (v := s_X5_firstFault u) hx hb hr (fun t ht _ => ⟨congrArg (fun z => Outcome.returned (some (Value.int z))) hR.symm, ht⟩) (fun _ h => by cases h) dX5_fault_69
      have hR := hR.trans (if_neg q16)
      by_cases q17 : p1 = 1
      · have hR := hR.trans (if_pos q17)
        refine lv_tableIn (tgt := 70) (off := 32) hx hb dX5_fault_38 (by rw [q17]; decide) (by rw [q17]; decide) (by rw [q17]; rfl) rfl ?_
        refine lv_iload_n hx hb dX5_fault_70 rfl (lv_at hl 1 rfl) ?_
        have hR : s_X5_fault u p1 = 0 := hR
        exact W.iret (v := 0) hx hb hr (fun t ht _ => ⟨congrArg (fun z => Outcome.returned (some (Value.int z))) hR.symm, ht⟩) (fun _ h => by cases h) dX5_fault_71
      have hR := hR.trans (if_neg q17)
      by_cases q18 : p1 = 2
      · have hR := hR.trans (if_pos q18)
        refine lv_tableIn (tgt := 72) (off := 34) hx hb dX5_fault_38 (by rw [q18]; decide) (by rw [q18]; decide) (by rw [q18]; rfl) rfl ?_
        refine va_gets (C := RX5) hx hb ((hF.2.2.1 6 (by decide)).1.narrow hA) hS hown (hts (.fieldLink RX5 179 "RailOffsets" "CAUSES_BY_ROOT" "[I") (by decide +kernel)) (fun _ h => h) dX5_fault_72 ?_
        refine lv_iload hx hb dX5_fault_75 (lv_at hl 0 rfl) ?_
        refine xRoS (nL := 5) ⟨hx, hb, hml, hown, hts⟩ (c_X5_cell_st l E 6 (by decide) 0) (va_cwS 2 hts gX5_fault_X5_cell rfl rfl rfl hd_X5_cell ⟨(Nat.le_of_ble_eq_true rfl), (Nat.le_of_ble_eq_true rfl)⟩) hF hS hA (hP.sub [] rfl) rfl hl.1 rfl (Nat.le_of_ble_eq_true rfl) ⟨(Nat.le_of_ble_eq_true rfl), (Nat.le_of_ble_eq_true rfl)⟩ dX5_fault_77 ?_
        refine W.eq (g2 := F0 m 80 ls [.int (s_X5_cell (xStL 6) (xStV 6) 0)]) rfl ?_
        have hR : s_X5_fault u p1 = s_X5_cell (xStL 6) (xStV 6) 0 := hR
        exact W.iret (v := s_X5_cell (xStL 6) (xStV 6) 0) hx hb hr (fun t ht _ => ⟨congrArg (fun z => Outcome.returned (some (Value.int z))) hR.symm, ht⟩) (fun _ h => by cases h) dX5_fault_80
      have hR := hR.trans (if_neg q18)
      by_cases q19 : p1 = 3
      · have hR := hR.trans (if_pos q19)
        refine lv_tableIn (tgt := 81) (off := 43) hx hb dX5_fault_38 (by rw [q19]; decide) (by rw [q19]; decide) (by rw [q19]; rfl) rfl ?_
        refine lv_iload hx hb dX5_fault_81 (lv_at hl 0 rfl) ?_
        have hR : s_X5_fault u p1 = 0 := hR
        exact W.iret (v := 0) hx hb hr (fun t ht _ => ⟨congrArg (fun z => Outcome.returned (some (Value.int z))) hR.symm, ht⟩) (fun _ h => by cases h) dX5_fault_83
      have hR := hR.trans (if_neg q19)
      refine lv_tableOut (tgt := 84) hx hb dX5_fault_38 (xsw p1 (fun j h1 h2 h3 => by
        have h9 : j = 0 ∨ j = 1 ∨ j = 2 ∨ j = 3 ∨ False := by omega
        rcases h9 with rfl | rfl | rfl | rfl | h9
        · exact q16 (Int32.toInt_inj.mp h3)
        · exact q17 (Int32.toInt_inj.mp h3)
        · exact q18 (Int32.toInt_inj.mp h3)
        · exact q19 (Int32.toInt_inj.mp h3)
        · exact h9)) rfl ?_
      refine lv_bipush (v := (-2)) hx hb dX5_fault_84 rfl ?_
      have hR : s_X5_fault u p1 = (-2) := hR
      exact W.iret (v := (-2)) hx hb hr (fun t ht _ => ⟨congrArg (fun z => Outcome.returned (some (Value.int z))) hR.symm, ht⟩) (fun _ h => by cases h) dX5_fault_86
def s_X5_runs (u : xU) (p1 : Int32) (p2 : Int32) : Int32 :=
  if (s_X5_lacks u p1 p2) = 0 then
    if (s_X5_tooHigh u p1 p2) = 0 then
      1
    else
      0
  else
    0
abbrev rm_X5_runs : Room := { frames := 3, cells := 0, slots := 0, locals := 65 }
set_option maxHeartbeats 8000000 in
set_option maxRecDepth 100000 in
theorem c_X5_runs (l : Launch) (E : xG) (a : Nat → Nat) (u : xU) (p1 : Int32) (p2 : Int32) : xRo l E yX5_runs wsX5_runs rm_X5_runs [.ref (a 0), .int p1, .int p2] (wX E a u) (some (.int (s_X5_runs u p1 p2))) := by
  refine xRo.of (cc := cX5_runs) (maxL := 3) (ret := (some .boolean)) (by decide) rfl (Nat.le_of_ble_eq_true rfl) ?_
  intro p e s m below meth c ls hAt hF hP hS hl
  obtain ⟨hx, hb, hr, hml, hown, hts, hlocks, -⟩ := hAt
  have hown : s.vm.findClass RX5 = some m.cls := hown
  have hl : lv_has ls 3 [(0, .ref (a 0)), (1, .int p1), (2, .int p2)] := hl
  have hK := hF.1
  have hA : ∀ q : Nat, (fun _ => False) q → xA0 E q := fun _ h => h.elim
  change W p l e rm_X5_runs s m ([.ref (a 0), .int p1, .int p2] : List Value).toArray below meth c s.heap [] 0 0 (xQro below (some (.int (s_X5_runs u p1 p2))) ([.ref (a 0), .int p1, .int p2] : List Value).toArray s) _
  have hR : s_X5_runs u p1 p2 = s_X5_runs u p1 p2 := rfl
  refine lv_aload_n hx hb dX5_runs_0 rfl (lv_at hl 0 rfl) ?_
  refine lv_iload_n hx hb dX5_runs_1 rfl (lv_at hl 1 rfl) ?_
  refine lv_iload_n hx hb dX5_runs_2 rfl (lv_at hl 2 rfl) ?_
  refine xRoV (nL := 3) ⟨hx, hb, hml, hown, hts⟩ (c_X5_lacks l E a u p1 p2) (cwV 2 hts gX5_runs_X5_lacks rfl rfl rfl ⟨rfl, hd_X5_lacks⟩ ⟨(Nat.le_of_ble_eq_true rfl), (Nat.le_of_ble_eq_true rfl)⟩) hF hS hA hP (va_recv (q := (RX5, TX5, 9)) hK hP (ci := 5) rfl (q0 := 0) rfl) rfl hl.1 rfl (Nat.le_of_ble_eq_true rfl) ⟨(Nat.le_of_ble_eq_true rfl), (Nat.le_of_ble_eq_true rfl)⟩ dX5_runs_3 ?_
  refine W.eq (g2 := F0 m 6 ls [.int (s_X5_lacks u p1 p2)]) rfl ?_
  refine lv_if_ne (tgt := 22) hx hb dX5_runs_6 rfl (fun q1 => ?_) (fun q1 => ?_)
  · have hR := hR.trans (if_neg q1)
    refine lv_iconst (v := 0) hx hb dX5_runs_22 rfl ?_
    have hR : s_X5_runs u p1 p2 = 0 := hR
    exact W.zret (v := 0) (ty := .boolean) hx hb hr (xnb (Or.inl rfl)) (fun t ht _ => ⟨congrArg (fun z => Outcome.returned (some (Value.int z))) hR.symm, ht⟩) (fun _ h => by cases h) dX5_runs_23
  · have hR := hR.trans (if_pos q1)
    refine lv_aload_n hx hb dX5_runs_9 rfl (lv_at hl 0 rfl) ?_
    refine lv_iload_n hx hb dX5_runs_10 rfl (lv_at hl 1 rfl) ?_
    refine lv_iload_n hx hb dX5_runs_11 rfl (lv_at hl 2 rfl) ?_
    refine xRoV (nL := 3) ⟨hx, hb, hml, hown, hts⟩ (c_X5_tooHigh l E a u p1 p2) (cwV 2 hts gX5_runs_X5_tooHigh rfl rfl rfl ⟨rfl, hd_X5_tooHigh⟩ ⟨(Nat.le_of_ble_eq_true rfl), (Nat.le_of_ble_eq_true rfl)⟩) hF hS hA hP (va_recv (q := (RX5, TX5, 9)) hK hP (ci := 5) rfl (q0 := 0) rfl) rfl hl.1 rfl (Nat.le_of_ble_eq_true rfl) ⟨(Nat.le_of_ble_eq_true rfl), (Nat.le_of_ble_eq_true rfl)⟩ dX5_runs_12 ?_
    refine W.eq (g2 := F0 m 15 ls [.int (s_X5_tooHigh u p1 p2)]) rfl ?_
    refine lv_if_ne (tgt := 22) hx hb dX5_runs_15 rfl (fun q2 => ?_) (fun q2 => ?_)
    · have hR := hR.trans (if_neg q2)
      refine lv_iconst (v := 0) hx hb dX5_runs_22 rfl ?_
      have hR : s_X5_runs u p1 p2 = 0 := hR
      exact W.zret (v := 0) (ty := .boolean) hx hb hr (xnb (Or.inl rfl)) (fun t ht _ => ⟨congrArg (fun z => Outcome.returned (some (Value.int z))) hR.symm, ht⟩) (fun _ h => by cases h) dX5_runs_23
    · have hR := hR.trans (if_pos q2)
      refine lv_iconst (v := 1) hx hb dX5_runs_18 rfl ?_
      refine lv_goto (tgt := 23) hx hb dX5_runs_19 rfl ?_
      have hR : s_X5_runs u p1 p2 = 1 := hR
      exact W.zret (v := 1) (ty := .boolean) hx hb hr (xnb (Or.inr rfl)) (fun t ht _ => ⟨congrArg (fun z => Outcome.returned (some (Value.int z))) hR.symm, ht⟩) (fun _ h => by cases h) dX5_runs_23
def s_X5_may_L22 : Nat → xU → Int32 → Int32 → Int32
  | 0, _, _, _ => 0
  | n + 1, u, x1, x2 =>
    if x2 < 0 then
      (-1)
    else
      if (s_X5_runs u x1 x2) = 0 then
        s_X5_may_L22 n u x1 (x2 + (-5))
      else
        x2
def s_X5_may (u : xU) (p1 : Int32) : Int32 :=
  if (s_X5_within p1 1 (u.2 3)) = 0 then
    (-2)
  else
    s_X5_may_L22 (((200 : Int32).toInt + 5).toNat + 1) u p1 200
abbrev rm_X5_may : Room := { frames := 4, cells := 0, slots := 0, locals := 87 }
set_option maxHeartbeats 8000000 in
set_option maxRecDepth 100000 in
theorem c_X5_may (l : Launch) (E : xG) (a : Nat → Nat) (u : xU) (p1 : Int32) : xRo l E yX5_may wsX5_may rm_X5_may [.ref (a 0), .int p1] (wX E a u) (some (.int (s_X5_may u p1))) := by
  refine xRo.of (cc := cX5_may) (maxL := 3) (ret := (some .int)) (by decide) rfl (Nat.le_of_ble_eq_true rfl) ?_
  intro p e s m below meth c ls hAt hF hP hS hl
  obtain ⟨hx, hb, hr, hml, hown, hts, hlocks, -⟩ := hAt
  have hown : s.vm.findClass RX5 = some m.cls := hown
  have hl : lv_has ls 3 [(0, .ref (a 0)), (1, .int p1)] := hl
  have hK := hF.1
  have hA : ∀ q : Nat, (fun _ => False) q → xA0 E q := fun _ h => h.elim
  change W p l e rm_X5_may s m ([.ref (a 0), .int p1] : List Value).toArray below meth c s.heap [] 0 0 (xQro below (some (.int (s_X5_may u p1))) ([.ref (a 0), .int p1] : List Value).toArray s) _
  have hR : s_X5_may u p1 = s_X5_may u p1 := rfl
  refine lv_iload_n hx hb dX5_may_0 rfl (lv_at hl 1 rfl) ?_
  refine lv_iconst (v := 1) hx hb dX5_may_1 rfl ?_
  refine lv_aload_n hx hb dX5_may_2 rfl (lv_at hl 0 rfl) ?_
  refine va_get (D := xD E) (ci := 5) (v := .ref (a 7)) (C := RX5) (T := TX5) (N := 9) hx hb hts (by decide +kernel) hown hK hP 0 rfl rfl 4 (by decide) (hts (.fieldLink RX5 41 "RailOffsets" "line" "LRailOffsets$Line;") (by decide +kernel)) (fun _ h => h) rfl dX5_may_3 ?_
  refine va_get (D := xD E) (ci := 0) (v := .int (u.2 3)) (C := RX0) (T := TX0) (N := 8) hx hb hts (by decide +kernel) hown hK hP 7 rfl rfl 7 (by decide) (hts (.fieldLink RX5 128 "RailOffsets$Line" "stations" "I") (by decide +kernel)) (fun _ h => h) rfl dX5_may_6 ?_
  refine xRoS (nL := 3) ⟨hx, hb, hml, hown, hts⟩ (c_X5_within l E p1 1 (u.2 3)) (va_cwS 3 hts gX5_may_X5_within rfl rfl rfl hd_X5_within ⟨(Nat.le_of_ble_eq_true rfl), (Nat.le_of_ble_eq_true rfl)⟩) hF hS hA (hP.sub [] rfl) rfl hl.1 rfl (Nat.le_of_ble_eq_true rfl) ⟨(Nat.le_of_ble_eq_true rfl), (Nat.le_of_ble_eq_true rfl)⟩ dX5_may_9 ?_
  refine W.eq (g2 := F0 m 12 ls [.int (s_X5_within p1 1 (u.2 3))]) rfl ?_
  refine lv_if_ne (tgt := 18) hx hb dX5_may_12 rfl (fun q1 => ?_) (fun q1 => ?_)
  · have hR := hR.trans (if_neg q1)
    refine lv_sipush (v := 200) hx hb dX5_may_18 rfl ?_
    refine lv_istore_n (lv' := [(2, .int 200), (0, .ref (a 0)), (1, .int p1)]) hx hb dX5_may_21 rfl hl (by decide) rfl (fun ls hl => ?_)
    have L22 : ∀ (n22 : Nat) (x2 : Int32) (ls : Array Slot), (x2.toInt + 5).toNat < n22 → s_X5_may u p1 = s_X5_may_L22 n22 u p1 x2 → lv_has ls 3 [(2, .int x2), (0, .ref (a 0)), (1, .int p1)] → W p l e rm_X5_may s m ([.ref (a 0), .int p1] : List Value).toArray below meth c s.heap [] 0 0 (xQro below (some (.int (s_X5_may u p1))) ([.ref (a 0), .int p1] : List Value).toArray s) (F0 m 22 ls []) := by
      intro n22
      induction n22 with
      | zero => intro x2 ls hM22 hR hl; exact absurd hM22 (Nat.not_lt_zero _)
      | succ n22 ih22 =>
        intro x2 ls hM22 hR hl
        refine lv_iload_n hx hb dX5_may_22 rfl (lv_at hl 0 rfl) ?_
        refine lv_if_lt (tgt := 43) hx hb dX5_may_23 rfl (fun q2 => ?_) (fun q2 => ?_)
        · have hR := hR.trans (if_pos q2)
          refine lv_iconst (v := (-1)) hx hb dX5_may_43 rfl ?_
          have hR : s_X5_may u p1 = (-1) := hR
          exact W.iret (v := (-1)) hx hb hr (fun t ht _ => ⟨congrArg (fun z => Outcome.returned (some (Value.int z))) hR.symm, ht⟩) (fun _ h => by cases h) dX5_may_44
        · have hR := hR.trans (if_neg q2)
          refine lv_aload_n hx hb dX5_may_26 rfl (lv_at hl 1 rfl) ?_
          refine lv_iload_n hx hb dX5_may_27 rfl (lv_at hl 2 rfl) ?_
          refine lv_iload_n hx hb dX5_may_28 rfl (lv_at hl 0 rfl) ?_
          refine xRoV (nL := 3) ⟨hx, hb, hml, hown, hts⟩ (c_X5_runs l E a u p1 x2) (cwV 2 hts gX5_may_X5_runs rfl rfl rfl ⟨rfl, hd_X5_runs⟩ ⟨(Nat.le_of_ble_eq_true rfl), (Nat.le_of_ble_eq_true rfl)⟩) hF hS hA hP (va_recv (q := (RX5, TX5, 9)) hK hP (ci := 5) rfl (q0 := 0) rfl) rfl hl.1 rfl (Nat.le_of_ble_eq_true rfl) ⟨(Nat.le_of_ble_eq_true rfl), (Nat.le_of_ble_eq_true rfl)⟩ dX5_may_29 ?_
          refine W.eq (g2 := F0 m 32 ls [.int (s_X5_runs u p1 x2)]) rfl ?_
          refine lv_if_eq (tgt := 37) hx hb dX5_may_32 rfl (fun q3 => ?_) (fun q3 => ?_)
          · have hR := hR.trans (if_pos q3)
            refine lv_iinc (k := 0) (v := x2 + (-5)) (lv' := [(2, .int (x2 + (-5))), (0, .ref (a 0)), (1, .int p1)]) hx hb dX5_may_37 hl rfl rfl (by decide) rfl (fun ls hl => ?_)
            refine lv_goto (tgt := 22) hx hb dX5_may_40 rfl ?_
            exact ih22 (x2 + (-5)) _ (Nat.lt_of_lt_of_le (xdn5 q2) (Nat.le_of_lt_succ hM22)) hR (lv_sub hl [0, 1, 2] rfl)
          · have hR := hR.trans (if_neg q3)
            refine lv_iload_n hx hb dX5_may_35 rfl (lv_at hl 0 rfl) ?_
            have hR : s_X5_may u p1 = x2 := hR
            exact W.iret (v := x2) hx hb hr (fun t ht _ => ⟨congrArg (fun z => Outcome.returned (some (Value.int z))) hR.symm, ht⟩) (fun _ h => by cases h) dX5_may_36
    exact L22 (((200 : Int32).toInt + 5).toNat + 1) 200 ls (Nat.lt_succ_self _) hR hl
  · have hR := hR.trans (if_pos q1)
    refine lv_bipush (v := (-2)) hx hb dX5_may_15 rfl ?_
    have hR : s_X5_may u p1 = (-2) := hR
    exact W.iret (v := (-2)) hx hb hr (fun t ht _ => ⟨congrArg (fun z => Outcome.returned (some (Value.int z))) hR.symm, ht⟩) (fun _ h => by cases h) dX5_may_17
def s_X5_runsAll_L2 : Nat → xU → Int32 → Int32 → Int32
  | 0, _, _, _ => 0
  | n + 1, u, x1, x2 =>
    if (u.2 3) < x2 then
      1
    else
      if (s_X5_runs u x2 x1) = 0 then
        0
      else
        s_X5_runsAll_L2 n u x1 (x2 + 1)
def s_X5_runsAll (u : xU) (p1 : Int32) : Int32 :=
  s_X5_runsAll_L2 (((u.2 3).toInt + 1 - (1 : Int32).toInt).toNat + 1) u p1 1
abbrev rm_X5_runsAll : Room := { frames := 4, cells := 0, slots := 0, locals := 87 }
set_option maxHeartbeats 8000000 in
set_option maxRecDepth 100000 in
theorem c_X5_runsAll (l : Launch) (E : xG) (a : Nat → Nat) (u : xU) (p1 : Int32) (hp0 : (u.2 3).toInt < 2147483647) : xRo l E yX5_runsAll wsX5_runsAll rm_X5_runsAll [.ref (a 0), .int p1] (wX E a u) (some (.int (s_X5_runsAll u p1))) := by
  refine xRo.of (cc := cX5_runsAll) (maxL := 3) (ret := (some .boolean)) (by decide) rfl (Nat.le_of_ble_eq_true rfl) ?_
  intro p e s m below meth c ls hAt hF hP hS hl
  obtain ⟨hx, hb, hr, hml, hown, hts, hlocks, -⟩ := hAt
  have hown : s.vm.findClass RX5 = some m.cls := hown
  have hl : lv_has ls 3 [(0, .ref (a 0)), (1, .int p1)] := hl
  have hK := hF.1
  have hA : ∀ q : Nat, (fun _ => False) q → xA0 E q := fun _ h => h.elim
  change W p l e rm_X5_runsAll s m ([.ref (a 0), .int p1] : List Value).toArray below meth c s.heap [] 0 0 (xQro below (some (.int (s_X5_runsAll u p1))) ([.ref (a 0), .int p1] : List Value).toArray s) _
  have hR : s_X5_runsAll u p1 = s_X5_runsAll u p1 := rfl
  refine lv_iconst (v := 1) hx hb dX5_runsAll_0 rfl ?_
  refine lv_istore_n (lv' := [(2, .int 1), (0, .ref (a 0)), (1, .int p1)]) hx hb dX5_runsAll_1 rfl hl (by decide) rfl (fun ls hl => ?_)
  have L2 : ∀ (n2 : Nat) (x2 : Int32) (ls : Array Slot), ((u.2 3).toInt + 1 - x2.toInt).toNat < n2 → s_X5_runsAll u p1 = s_X5_runsAll_L2 n2 u p1 x2 → lv_has ls 3 [(2, .int x2), (0, .ref (a 0)), (1, .int p1)] → W p l e rm_X5_runsAll s m ([.ref (a 0), .int p1] : List Value).toArray below meth c s.heap [] 0 0 (xQro below (some (.int (s_X5_runsAll u p1))) ([.ref (a 0), .int p1] : List Value).toArray s) (F0 m 2 ls []) := by
    intro n2
    induction n2 with
    | zero => intro x2 ls hM2 hR hl; exact absurd hM2 (Nat.not_lt_zero _)
    | succ n2 ih2 =>
      intro x2 ls hM2 hR hl
      refine lv_iload_n hx hb dX5_runsAll_2 rfl (lv_at hl 0 rfl) ?_
      refine lv_aload_n hx hb dX5_runsAll_3 rfl (lv_at hl 1 rfl) ?_
      refine va_get (D := xD E) (ci := 5) (v := .ref (a 7)) (C := RX5) (T := TX5) (N := 9) hx hb hts (by decide +kernel) hown hK hP 0 rfl rfl 4 (by decide) (hts (.fieldLink RX5 41 "RailOffsets" "line" "LRailOffsets$Line;") (by decide +kernel)) (fun _ h => h) rfl dX5_runsAll_4 ?_
      refine va_get (D := xD E) (ci := 0) (v := .int (u.2 3)) (C := RX0) (T := TX0) (N := 8) hx hb hts (by decide +kernel) hown hK hP 7 rfl rfl 7 (by decide) (hts (.fieldLink RX5 128 "RailOffsets$Line" "stations" "I") (by decide +kernel)) (fun _ h => h) rfl dX5_runsAll_7 ?_
      refine lv_icmp_gt (tgt := 30) hx hb dX5_runsAll_10 rfl (fun q1 => ?_) (fun q1 => ?_)
      · have hR := hR.trans (if_pos q1)
        refine lv_iconst (v := 1) hx hb dX5_runsAll_30 rfl ?_
        have hR : s_X5_runsAll u p1 = 1 := hR
        exact W.zret (v := 1) (ty := .boolean) hx hb hr (xnb (Or.inr rfl)) (fun t ht _ => ⟨congrArg (fun z => Outcome.returned (some (Value.int z))) hR.symm, ht⟩) (fun _ h => by cases h) dX5_runsAll_31
      · have hR := hR.trans (if_neg q1)
        refine lv_aload_n hx hb dX5_runsAll_13 rfl (lv_at hl 1 rfl) ?_
        refine lv_iload_n hx hb dX5_runsAll_14 rfl (lv_at hl 0 rfl) ?_
        refine lv_iload_n hx hb dX5_runsAll_15 rfl (lv_at hl 2 rfl) ?_
        refine xRoV (nL := 3) ⟨hx, hb, hml, hown, hts⟩ (c_X5_runs l E a u x2 p1) (cwV 2 hts gX5_runsAll_X5_runs rfl rfl rfl ⟨rfl, hd_X5_runs⟩ ⟨(Nat.le_of_ble_eq_true rfl), (Nat.le_of_ble_eq_true rfl)⟩) hF hS hA hP (va_recv (q := (RX5, TX5, 9)) hK hP (ci := 5) rfl (q0 := 0) rfl) rfl hl.1 rfl (Nat.le_of_ble_eq_true rfl) ⟨(Nat.le_of_ble_eq_true rfl), (Nat.le_of_ble_eq_true rfl)⟩ dX5_runsAll_16 ?_
        refine W.eq (g2 := F0 m 19 ls [.int (s_X5_runs u x2 p1)]) rfl ?_
        refine lv_if_ne (tgt := 24) hx hb dX5_runsAll_19 rfl (fun q2 => ?_) (fun q2 => ?_)
        · have hR := hR.trans (if_neg q2)
          refine lv_iinc (k := 0) (v := x2 + 1) (lv' := [(2, .int (x2 + 1)), (0, .ref (a 0)), (1, .int p1)]) hx hb dX5_runsAll_24 hl rfl rfl (by decide) rfl (fun ls hl => ?_)
          refine lv_goto (tgt := 2) hx hb dX5_runsAll_27 rfl ?_
          exact ih2 (x2 + 1) _ (Nat.lt_of_lt_of_le (xupl q1 (hp0)) (Nat.le_of_lt_succ hM2)) hR (lv_sub hl [0, 1, 2] rfl)
        · have hR := hR.trans (if_pos q2)
          refine lv_iconst (v := 0) hx hb dX5_runsAll_22 rfl ?_
          have hR : s_X5_runsAll u p1 = 0 := hR
          exact W.zret (v := 0) (ty := .boolean) hx hb hr (xnb (Or.inl rfl)) (fun t ht _ => ⟨congrArg (fun z => Outcome.returned (some (Value.int z))) hR.symm, ht⟩) (fun _ h => by cases h) dX5_runsAll_23
  exact L2 (((u.2 3).toInt + 1 - (1 : Int32).toInt).toNat + 1) 1 ls (Nat.lt_succ_self _) hR hl
def s_X5_limit_L4 : Nat → xU → Int32 → Int32
  | 0, _, _ => 0
  | n + 1, u, x1 =>
    if x1 < 0 then
      (-1)
    else
      if (s_X5_runsAll u x1) = 0 then
        s_X5_limit_L4 n u (x1 + (-5))
      else
        x1
def s_X5_limit (u : xU) : Int32 :=
  s_X5_limit_L4 (((200 : Int32).toInt + 5).toNat + 1) u 200
abbrev rm_X5_limit : Room := { frames := 5, cells := 0, slots := 0, locals := 109 }
set_option maxHeartbeats 8000000 in
set_option maxRecDepth 100000 in
theorem c_X5_limit (l : Launch) (E : xG) (a : Nat → Nat) (u : xU)  (hp0 : (u.2 3).toInt < 2147483647) : xRo l E yX5_limit wsX5_limit rm_X5_limit [.ref (a 0)] (wX E a u) (some (.int (s_X5_limit u))) := by
  refine xRo.of (cc := cX5_limit) (maxL := 2) (ret := (some .int)) (by decide) rfl (Nat.le_of_ble_eq_true rfl) ?_
  intro p e s m below meth c ls hAt hF hP hS hl
  obtain ⟨hx, hb, hr, hml, hown, hts, hlocks, -⟩ := hAt
  have hown : s.vm.findClass RX5 = some m.cls := hown
  have hl : lv_has ls 2 [(0, .ref (a 0))] := hl
  have hK := hF.1
  have hA : ∀ q : Nat, (fun _ => False) q → xA0 E q := fun _ h => h.elim
  change W p l e rm_X5_limit s m ([.ref (a 0)] : List Value).toArray below meth c s.heap [] 0 0 (xQro below (some (.int (s_X5_limit u))) ([.ref (a 0)] : List Value).toArray s) _
  have hR : s_X5_limit u = s_X5_limit u := rfl
  refine lv_sipush (v := 200) hx hb dX5_limit_0 rfl ?_
  refine lv_istore_n (lv' := [(1, .int 200), (0, .ref (a 0))]) hx hb dX5_limit_3 rfl hl (by decide) rfl (fun ls hl => ?_)
  have L4 : ∀ (n4 : Nat) (x1 : Int32) (ls : Array Slot), (x1.toInt + 5).toNat < n4 → s_X5_limit u = s_X5_limit_L4 n4 u x1 → lv_has ls 2 [(1, .int x1), (0, .ref (a 0))] → W p l e rm_X5_limit s m ([.ref (a 0)] : List Value).toArray below meth c s.heap [] 0 0 (xQro below (some (.int (s_X5_limit u))) ([.ref (a 0)] : List Value).toArray s) (F0 m 4 ls []) := by
    intro n4
    induction n4 with
    | zero => intro x1 ls hM4 hR hl; exact absurd hM4 (Nat.not_lt_zero _)
    | succ n4 ih4 =>
      intro x1 ls hM4 hR hl
      refine lv_iload_n hx hb dX5_limit_4 rfl (lv_at hl 0 rfl) ?_
      refine lv_if_lt (tgt := 24) hx hb dX5_limit_5 rfl (fun q1 => ?_) (fun q1 => ?_)
      · have hR := hR.trans (if_pos q1)
        refine lv_iconst (v := (-1)) hx hb dX5_limit_24 rfl ?_
        have hR : s_X5_limit u = (-1) := hR
        exact W.iret (v := (-1)) hx hb hr (fun t ht _ => ⟨congrArg (fun z => Outcome.returned (some (Value.int z))) hR.symm, ht⟩) (fun _ h => by cases h) dX5_limit_25
      · have hR := hR.trans (if_neg q1)
        refine lv_aload_n hx hb dX5_limit_8 rfl (lv_at hl 1 rfl) ?_
        refine lv_iload_n hx hb dX5_limit_9 rfl (lv_at hl 0 rfl) ?_
        refine xRoV (nL := 2) ⟨hx, hb, hml, hown, hts⟩ (c_X5_runsAll l E a u x1 (by first | assumption | omega | decide)) (cwV 1 hts gX5_limit_X5_runsAll rfl rfl rfl ⟨rfl, hd_X5_runsAll⟩ ⟨(Nat.le_of_ble_eq_true rfl), (Nat.le_of_ble_eq_true rfl)⟩) hF hS hA hP (va_recv (q := (RX5, TX5, 9)) hK hP (ci := 5) rfl (q0 := 0) rfl) rfl hl.1 rfl (Nat.le_of_ble_eq_true rfl) ⟨(Nat.le_of_ble_eq_true rfl), (Nat.le_of_ble_eq_true rfl)⟩ dX5_limit_10 ?_
        refine W.eq (g2 := F0 m 13 ls [.int (s_X5_runsAll u x1)]) rfl ?_
        refine lv_if_eq (tgt := 18) hx hb dX5_limit_13 rfl (fun q2 => ?_) (fun q2 => ?_)
        · have hR := hR.trans (if_pos q2)
          refine lv_iinc (k := 0) (v := x1 + (-5)) (lv' := [(1, .int (x1 + (-5))), (0, .ref (a 0))]) hx hb dX5_limit_18 hl rfl rfl (by decide) rfl (fun ls hl => ?_)
          refine lv_goto (tgt := 4) hx hb dX5_limit_21 rfl ?_
          exact ih4 (x1 + (-5)) _ (Nat.lt_of_lt_of_le (xdn5 q1) (Nat.le_of_lt_succ hM4)) hR (lv_sub hl [0, 1] rfl)
        · have hR := hR.trans (if_neg q2)
          refine lv_iload_n hx hb dX5_limit_16 rfl (lv_at hl 0 rfl) ?_
          have hR : s_X5_limit u = x1 := hR
          exact W.iret (v := x1) hx hb hr (fun t ht _ => ⟨congrArg (fun z => Outcome.returned (some (Value.int z))) hR.symm, ht⟩) (fun _ h => by cases h) dX5_limit_17
  exact L4 (((200 : Int32).toInt + 5).toNat + 1) 200 ls (Nat.lt_succ_self _) hR hl
def s_X5_lacksWithin_L28 : Nat → xU → Int32 → Int32 → Int32 → Int32 → Int32
  | 0, _, _, _, _, _ => 0
  | n + 1, u, x1, x2, x3, x4 =>
    if x3 < x4 then
      0
    else
      if (s_X5_lacks u x4 x2) = 0 then
        s_X5_lacksWithin_L28 n u x1 x2 x3 (x4 + 1)
      else
        1
def s_X5_lacksWithin (u : xU) (p1 : Int32) : Int32 :=
  s_X5_lacksWithin_L28 (((s_X0_lastOf u p1).toInt + 1 - (s_X0_firstOf u p1).toInt).toNat + 1) u p1 (s_X5_cell 8 (u.1 5) 5) (s_X0_lastOf u p1) (s_X0_firstOf u p1)
abbrev rm_X5_lacksWithin : Room := { frames := 3, cells := 0, slots := 0, locals := 65 }
set_option maxHeartbeats 8000000 in
set_option maxRecDepth 100000 in
theorem c_X5_lacksWithin (l : Launch) (E : xG) (a : Nat → Nat) (u : xU) (p1 : Int32) (hp0 : (s_X0_lastOf u p1).toInt < 2147483647) : xRo l E yX5_lacksWithin wsX5_lacksWithin rm_X5_lacksWithin [.ref (a 0), .int p1] (wX E a u) (some (.int (s_X5_lacksWithin u p1))) := by
  refine xRo.of (cc := cX5_lacksWithin) (maxL := 5) (ret := (some .boolean)) (by decide) rfl (Nat.le_of_ble_eq_true rfl) ?_
  intro p e s m below meth c ls hAt hF hP hS hl
  obtain ⟨hx, hb, hr, hml, hown, hts, hlocks, -⟩ := hAt
  have hown : s.vm.findClass RX5 = some m.cls := hown
  have hl : lv_has ls 5 [(0, .ref (a 0)), (1, .int p1)] := hl
  have hK := hF.1
  have hA : ∀ q : Nat, (fun _ => False) q → xA0 E q := fun _ h => h.elim
  change W p l e rm_X5_lacksWithin s m ([.ref (a 0), .int p1] : List Value).toArray below meth c s.heap [] 0 0 (xQro below (some (.int (s_X5_lacksWithin u p1))) ([.ref (a 0), .int p1] : List Value).toArray s) _
  have hR : s_X5_lacksWithin u p1 = s_X5_lacksWithin u p1 := rfl
  refine lv_aload_n hx hb dX5_lacksWithin_0 rfl (lv_at hl 0 rfl) ?_
  refine va_get (D := xD E) (ci := 5) (v := .ref (a 5)) (C := RX5) (T := TX5) (N := 9) hx hb hts (by decide +kernel) hown hK hP 0 rfl rfl 2 (by decide) (hts (.fieldLink RX5 30 "RailOffsets" "rules" "[I") (by decide +kernel)) (fun _ h => h) rfl dX5_lacksWithin_1 ?_
  refine lv_iconst (v := 5) hx hb dX5_lacksWithin_4 rfl ?_
  refine xRoS (nL := 5) ⟨hx, hb, hml, hown, hts⟩ (c_X5_cell l E (a 5) 8 (u.1 5) 5) (va_cwS 2 hts gX5_lacksWithin_X5_cell rfl rfl rfl hd_X5_cell ⟨(Nat.le_of_ble_eq_true rfl), (Nat.le_of_ble_eq_true rfl)⟩) hF hS hA (hP.sub [5] rfl) rfl hl.1 rfl (Nat.le_of_ble_eq_true rfl) ⟨(Nat.le_of_ble_eq_true rfl), (Nat.le_of_ble_eq_true rfl)⟩ dX5_lacksWithin_5 ?_
  refine W.eq (g2 := F0 m 8 ls [.int (s_X5_cell 8 (u.1 5) 5)]) rfl ?_
  refine lv_istore_n (lv' := [(2, .int (s_X5_cell 8 (u.1 5) 5)), (0, .ref (a 0)), (1, .int p1)]) hx hb dX5_lacksWithin_8 rfl hl (by decide) rfl (fun ls hl => ?_)
  refine lv_aload_n hx hb dX5_lacksWithin_9 rfl (lv_at hl 1 rfl) ?_
  refine va_get (D := xD E) (ci := 5) (v := .ref (a 7)) (C := RX5) (T := TX5) (N := 9) hx hb hts (by decide +kernel) hown hK hP 0 rfl rfl 4 (by decide) (hts (.fieldLink RX5 41 "RailOffsets" "line" "LRailOffsets$Line;") (by decide +kernel)) (fun _ h => h) rfl dX5_lacksWithin_10 ?_
  refine lv_iload_n hx hb dX5_lacksWithin_13 rfl (lv_at hl 2 rfl) ?_
  refine xRoV (nL := 5) ⟨hx, hb, hml, hown, hts⟩ (c_X0_lastOf l E a u p1) (cwV 1 hts gX5_lacksWithin_X0_lastOf rfl rfl rfl ⟨rfl, hd_X0_lastOf⟩ ⟨(Nat.le_of_ble_eq_true rfl), (Nat.le_of_ble_eq_true rfl)⟩) hF hS hA hP (va_recv (q := (RX0, TX0, 8)) hK hP (ci := 0) rfl (q0 := 7) rfl) rfl hl.1 rfl (Nat.le_of_ble_eq_true rfl) ⟨(Nat.le_of_ble_eq_true rfl), (Nat.le_of_ble_eq_true rfl)⟩ dX5_lacksWithin_14 ?_
  refine W.eq (g2 := F0 m 17 ls [.int (s_X0_lastOf u p1)]) rfl ?_
  refine lv_istore_n (lv' := [(3, .int (s_X0_lastOf u p1)), (2, .int (s_X5_cell 8 (u.1 5) 5)), (0, .ref (a 0)), (1, .int p1)]) hx hb dX5_lacksWithin_17 rfl hl (by decide) rfl (fun ls hl => ?_)
  refine lv_aload_n hx hb dX5_lacksWithin_18 rfl (lv_at hl 2 rfl) ?_
  refine va_get (D := xD E) (ci := 5) (v := .ref (a 7)) (C := RX5) (T := TX5) (N := 9) hx hb hts (by decide +kernel) hown hK hP 0 rfl rfl 4 (by decide) (hts (.fieldLink RX5 41 "RailOffsets" "line" "LRailOffsets$Line;") (by decide +kernel)) (fun _ h => h) rfl dX5_lacksWithin_19 ?_
  refine lv_iload_n hx hb dX5_lacksWithin_22 rfl (lv_at hl 3 rfl) ?_
  refine xRoV (nL := 5) ⟨hx, hb, hml, hown, hts⟩ (c_X0_firstOf l E a u p1) (cwV 1 hts gX5_lacksWithin_X0_firstOf rfl rfl rfl ⟨rfl, hd_X0_firstOf⟩ ⟨(Nat.le_of_ble_eq_true rfl), (Nat.le_of_ble_eq_true rfl)⟩) hF hS hA hP (va_recv (q := (RX0, TX0, 8)) hK hP (ci := 0) rfl (q0 := 7) rfl) rfl hl.1 rfl (Nat.le_of_ble_eq_true rfl) ⟨(Nat.le_of_ble_eq_true rfl), (Nat.le_of_ble_eq_true rfl)⟩ dX5_lacksWithin_23 ?_
  refine W.eq (g2 := F0 m 26 ls [.int (s_X0_firstOf u p1)]) rfl ?_
  refine lv_istore (lv' := [(4, .int (s_X0_firstOf u p1)), (3, .int (s_X0_lastOf u p1)), (2, .int (s_X5_cell 8 (u.1 5) 5)), (0, .ref (a 0)), (1, .int p1)]) hx hb dX5_lacksWithin_26 hl (by decide) rfl (fun ls hl => ?_)
  have L28 : ∀ (n28 : Nat) (x4 : Int32) (ls : Array Slot), ((s_X0_lastOf u p1).toInt + 1 - x4.toInt).toNat < n28 → s_X5_lacksWithin u p1 = s_X5_lacksWithin_L28 n28 u p1 (s_X5_cell 8 (u.1 5) 5) (s_X0_lastOf u p1) x4 → lv_has ls 5 [(4, .int x4), (3, .int (s_X0_lastOf u p1)), (2, .int (s_X5_cell 8 (u.1 5) 5)), (0, .ref (a 0)), (1, .int p1)] → W p l e rm_X5_lacksWithin s m ([.ref (a 0), .int p1] : List Value).toArray below meth c s.heap [] 0 0 (xQro below (some (.int (s_X5_lacksWithin u p1))) ([.ref (a 0), .int p1] : List Value).toArray s) (F0 m 28 ls []) := by
    intro n28
    induction n28 with
    | zero => intro x4 ls hM28 hR hl; exact absurd hM28 (Nat.not_lt_zero _)
    | succ n28 ih28 =>
      intro x4 ls hM28 hR hl
      refine lv_iload hx hb dX5_lacksWithin_28 (lv_at hl 0 rfl) ?_
      refine lv_iload_n hx hb dX5_lacksWithin_30 rfl (lv_at hl 1 rfl) ?_
      refine lv_icmp_gt (tgt := 52) hx hb dX5_lacksWithin_31 rfl (fun q1 => ?_) (fun q1 => ?_)
      · have hR := hR.trans (if_pos q1)
        refine lv_iconst (v := 0) hx hb dX5_lacksWithin_52 rfl ?_
        have hR : s_X5_lacksWithin u p1 = 0 := hR
        exact W.zret (v := 0) (ty := .boolean) hx hb hr (xnb (Or.inl rfl)) (fun t ht _ => ⟨congrArg (fun z => Outcome.returned (some (Value.int z))) hR.symm, ht⟩) (fun _ h => by cases h) dX5_lacksWithin_53
      · have hR := hR.trans (if_neg q1)
        refine lv_aload_n hx hb dX5_lacksWithin_34 rfl (lv_at hl 3 rfl) ?_
        refine lv_iload hx hb dX5_lacksWithin_35 (lv_at hl 0 rfl) ?_
        refine lv_iload_n hx hb dX5_lacksWithin_37 rfl (lv_at hl 2 rfl) ?_
        refine xRoV (nL := 5) ⟨hx, hb, hml, hown, hts⟩ (c_X5_lacks l E a u x4 (s_X5_cell 8 (u.1 5) 5)) (cwV 2 hts gX5_lacksWithin_X5_lacks rfl rfl rfl ⟨rfl, hd_X5_lacks⟩ ⟨(Nat.le_of_ble_eq_true rfl), (Nat.le_of_ble_eq_true rfl)⟩) hF hS hA hP (va_recv (q := (RX5, TX5, 9)) hK hP (ci := 5) rfl (q0 := 0) rfl) rfl hl.1 rfl (Nat.le_of_ble_eq_true rfl) ⟨(Nat.le_of_ble_eq_true rfl), (Nat.le_of_ble_eq_true rfl)⟩ dX5_lacksWithin_38 ?_
        refine W.eq (g2 := F0 m 41 ls [.int (s_X5_lacks u x4 (s_X5_cell 8 (u.1 5) 5))]) rfl ?_
        refine lv_if_eq (tgt := 46) hx hb dX5_lacksWithin_41 rfl (fun q2 => ?_) (fun q2 => ?_)
        · have hR := hR.trans (if_pos q2)
          refine lv_iinc (k := 0) (v := x4 + 1) (lv' := [(4, .int (x4 + 1)), (3, .int (s_X0_lastOf u p1)), (2, .int (s_X5_cell 8 (u.1 5) 5)), (0, .ref (a 0)), (1, .int p1)]) hx hb dX5_lacksWithin_46 hl rfl rfl (by decide) rfl (fun ls hl => ?_)
          refine lv_goto (tgt := 28) hx hb dX5_lacksWithin_49 rfl ?_
          exact ih28 (x4 + 1) _ (Nat.lt_of_lt_of_le (xupl q1 (hp0)) (Nat.le_of_lt_succ hM28)) hR (lv_sub hl [0, 1, 2, 3, 4] rfl)
        · have hR := hR.trans (if_neg q2)
          refine lv_iconst (v := 1) hx hb dX5_lacksWithin_44 rfl ?_
          have hR : s_X5_lacksWithin u p1 = 1 := hR
          exact W.zret (v := 1) (ty := .boolean) hx hb hr (xnb (Or.inr rfl)) (fun t ht _ => ⟨congrArg (fun z => Outcome.returned (some (Value.int z))) hR.symm, ht⟩) (fun _ h => by cases h) dX5_lacksWithin_45
  exact L28 (((s_X0_lastOf u p1).toInt + 1 - (s_X0_firstOf u p1).toInt).toNat + 1) (s_X0_firstOf u p1) ls (Nat.lt_succ_self _) hR hl
def s_X5_miss (u : xU) (p1 : Int32) : Int64 :=
  if p1 = 0 then
    ((s_X5_cell 201 (u.1 13) (u.2 3)).toInt64) - ((s_X5_cell 8 (u.1 5) 6).toInt64)
  else
    if p1 = 1 then
      ((s_X5_cell 201 (u.1 12) (u.2 3)).toInt64) - ((s_X5_cell 8 (u.1 5) 7).toInt64)
    else
      xNO
abbrev rm_X5_miss : Room := { frames := 1, cells := 0, slots := 0, locals := 21 }
set_option maxHeartbeats 8000000 in
set_option maxRecDepth 100000 in
theorem c_X5_miss (l : Launch) (E : xG) (a : Nat → Nat) (u : xU) (p1 : Int32) : xRo l E yX5_miss wsX5_miss rm_X5_miss [.ref (a 0), .int p1] (wX E a u) (some (.long (s_X5_miss u p1))) := by
  refine xRo.of (cc := cX5_miss) (maxL := 2) (ret := (some .long)) (by decide) rfl (Nat.le_of_ble_eq_true rfl) ?_
  intro p e s m below meth c ls hAt hF hP hS hl
  obtain ⟨hx, hb, hr, hml, hown, hts, hlocks, -⟩ := hAt
  have hown : s.vm.findClass RX5 = some m.cls := hown
  have hl : lv_has ls 2 [(0, .ref (a 0)), (1, .int p1)] := hl
  have hK := hF.1
  have hA : ∀ q : Nat, (fun _ => False) q → xA0 E q := fun _ h => h.elim
  change W p l e rm_X5_miss s m ([.ref (a 0), .int p1] : List Value).toArray below meth c s.heap [] 0 0 (xQro below (some (.long (s_X5_miss u p1))) ([.ref (a 0), .int p1] : List Value).toArray s) _
  have hR : s_X5_miss u p1 = s_X5_miss u p1 := rfl
  refine lv_iload_n hx hb dX5_miss_0 rfl (lv_at hl 1 rfl) ?_
  refine lv_if_ne (tgt := 34) hx hb dX5_miss_1 rfl (fun q1 => ?_) (fun q1 => ?_)
  · have hR := hR.trans (if_neg q1)
    refine lv_iload_n hx hb dX5_miss_34 rfl (lv_at hl 1 rfl) ?_
    refine lv_iconst (v := 1) hx hb dX5_miss_35 rfl ?_
    refine lv_icmp_ne (tgt := 69) hx hb dX5_miss_36 rfl (fun q2 => ?_) (fun q2 => ?_)
    · have hR := hR.trans (if_neg q2)
      refine lv_ldc2 (v := xNO) hx hb hown (hts (.constantLong RX5 112 (-9223372036854775808)) (by decide +kernel)) dX5_miss_69 ?_
      have hR : s_X5_miss u p1 = xNO := hR
      exact W.lret (v := xNO) hx hb hr (fun t ht _ => ⟨congrArg (fun z => Outcome.returned (some (Value.long z))) hR.symm, ht⟩) (fun _ h => by cases h) dX5_miss_72
    · have hR := hR.trans (if_pos q2)
      refine lv_aload_n hx hb dX5_miss_39 rfl (lv_at hl 0 rfl) ?_
      refine va_get (D := xD E) (ci := 5) (v := .ref (a 7)) (C := RX5) (T := TX5) (N := 9) hx hb hts (by decide +kernel) hown hK hP 0 rfl rfl 4 (by decide) (hts (.fieldLink RX5 41 "RailOffsets" "line" "LRailOffsets$Line;") (by decide +kernel)) (fun _ h => h) rfl dX5_miss_40 ?_
      refine va_get (D := xD E) (ci := 0) (v := .ref (a 12)) (C := RX0) (T := TX0) (N := 8) hx hb hts (by decide +kernel) hown hK hP 7 rfl rfl 5 (by decide) (hts (.fieldLink RX5 137 "RailOffsets$Line" "turns" "[I") (by decide +kernel)) (fun _ h => h) rfl dX5_miss_43 ?_
      refine lv_aload_n hx hb dX5_miss_46 rfl (lv_at hl 0 rfl) ?_
      refine va_get (D := xD E) (ci := 5) (v := .ref (a 7)) (C := RX5) (T := TX5) (N := 9) hx hb hts (by decide +kernel) hown hK hP 0 rfl rfl 4 (by decide) (hts (.fieldLink RX5 41 "RailOffsets" "line" "LRailOffsets$Line;") (by decide +kernel)) (fun _ h => h) rfl dX5_miss_47 ?_
      refine va_get (D := xD E) (ci := 0) (v := .int (u.2 3)) (C := RX0) (T := TX0) (N := 8) hx hb hts (by decide +kernel) hown hK hP 7 rfl rfl 7 (by decide) (hts (.fieldLink RX5 128 "RailOffsets$Line" "stations" "I") (by decide +kernel)) (fun _ h => h) rfl dX5_miss_50 ?_
      refine xRoS (nL := 2) ⟨hx, hb, hml, hown, hts⟩ (c_X5_cell l E (a 12) 201 (u.1 12) (u.2 3)) (va_cwS 2 hts gX5_miss_X5_cell rfl rfl rfl hd_X5_cell ⟨(Nat.le_of_ble_eq_true rfl), (Nat.le_of_ble_eq_true rfl)⟩) hF hS hA (hP.sub [12] rfl) rfl hl.1 rfl (Nat.le_of_ble_eq_true rfl) ⟨(Nat.le_of_ble_eq_true rfl), (Nat.le_of_ble_eq_true rfl)⟩ dX5_miss_53 ?_
      refine W.eq (g2 := F0 m 56 ls [.int (s_X5_cell 201 (u.1 12) (u.2 3))]) rfl ?_
      refine lv_i2l hx hb dX5_miss_56 rfl ?_
      refine lv_aload_n hx hb dX5_miss_57 rfl (lv_at hl 0 rfl) ?_
      refine va_get (D := xD E) (ci := 5) (v := .ref (a 5)) (C := RX5) (T := TX5) (N := 9) hx hb hts (by decide +kernel) hown hK hP 0 rfl rfl 2 (by decide) (hts (.fieldLink RX5 30 "RailOffsets" "rules" "[I") (by decide +kernel)) (fun _ h => h) rfl dX5_miss_58 ?_
      refine lv_bipush (v := 7) hx hb dX5_miss_61 rfl ?_
      refine xRoS (nL := 2) ⟨hx, hb, hml, hown, hts⟩ (c_X5_cell l E (a 5) 8 (u.1 5) 7) (va_cwS 2 hts gX5_miss_X5_cell rfl rfl rfl hd_X5_cell ⟨(Nat.le_of_ble_eq_true rfl), (Nat.le_of_ble_eq_true rfl)⟩) hF hS hA (hP.sub [5] rfl) rfl hl.1 rfl (Nat.le_of_ble_eq_true rfl) ⟨(Nat.le_of_ble_eq_true rfl), (Nat.le_of_ble_eq_true rfl)⟩ dX5_miss_63 ?_
      refine W.eq (g2 := F0 m 66 ls [.int (s_X5_cell 8 (u.1 5) 7), .long ((s_X5_cell 201 (u.1 12) (u.2 3)).toInt64)]) rfl ?_
      refine lv_i2l hx hb dX5_miss_66 rfl ?_
      refine lv_lsub hx hb dX5_miss_67 ?_
      have hR : s_X5_miss u p1 = ((s_X5_cell 201 (u.1 12) (u.2 3)).toInt64) - ((s_X5_cell 8 (u.1 5) 7).toInt64) := hR
      exact W.lret (v := ((s_X5_cell 201 (u.1 12) (u.2 3)).toInt64) - ((s_X5_cell 8 (u.1 5) 7).toInt64)) hx hb hr (fun t ht _ => ⟨congrArg (fun z => Outcome.returned (some (Value.long z))) hR.symm, ht⟩) (fun _ h => by cases h) dX5_miss_68
  · have hR := hR.trans (if_pos q1)
    refine lv_aload_n hx hb dX5_miss_4 rfl (lv_at hl 0 rfl) ?_
    refine va_get (D := xD E) (ci := 5) (v := .ref (a 7)) (C := RX5) (T := TX5) (N := 9) hx hb hts (by decide +kernel) hown hK hP 0 rfl rfl 4 (by decide) (hts (.fieldLink RX5 41 "RailOffsets" "line" "LRailOffsets$Line;") (by decide +kernel)) (fun _ h => h) rfl dX5_miss_5 ?_
    refine va_get (D := xD E) (ci := 0) (v := .ref (a 13)) (C := RX0) (T := TX0) (N := 8) hx hb hts (by decide +kernel) hown hK hP 7 rfl rfl 6 (by decide) (hts (.fieldLink RX5 140 "RailOffsets$Line" "offsets" "[I") (by decide +kernel)) (fun _ h => h) rfl dX5_miss_8 ?_
    refine lv_aload_n hx hb dX5_miss_11 rfl (lv_at hl 0 rfl) ?_
    refine va_get (D := xD E) (ci := 5) (v := .ref (a 7)) (C := RX5) (T := TX5) (N := 9) hx hb hts (by decide +kernel) hown hK hP 0 rfl rfl 4 (by decide) (hts (.fieldLink RX5 41 "RailOffsets" "line" "LRailOffsets$Line;") (by decide +kernel)) (fun _ h => h) rfl dX5_miss_12 ?_
    refine va_get (D := xD E) (ci := 0) (v := .int (u.2 3)) (C := RX0) (T := TX0) (N := 8) hx hb hts (by decide +kernel) hown hK hP 7 rfl rfl 7 (by decide) (hts (.fieldLink RX5 128 "RailOffsets$Line" "stations" "I") (by decide +kernel)) (fun _ h => h) rfl dX5_miss_15 ?_
    refine xRoS (nL := 2) ⟨hx, hb, hml, hown, hts⟩ (c_X5_cell l E (a 13) 201 (u.1 13) (u.2 3)) (va_cwS 2 hts gX5_miss_X5_cell rfl rfl rfl hd_X5_cell ⟨(Nat.le_of_ble_eq_true rfl), (Nat.le_of_ble_eq_true rfl)⟩) hF hS hA (hP.sub [13] rfl) rfl hl.1 rfl (Nat.le_of_ble_eq_true rfl) ⟨(Nat.le_of_ble_eq_true rfl), (Nat.le_of_ble_eq_true rfl)⟩ dX5_miss_18 ?_
    refine W.eq (g2 := F0 m 21 ls [.int (s_X5_cell 201 (u.1 13) (u.2 3))]) rfl ?_
    refine lv_i2l hx hb dX5_miss_21 rfl ?_
    refine lv_aload_n hx hb dX5_miss_22 rfl (lv_at hl 0 rfl) ?_
    refine va_get (D := xD E) (ci := 5) (v := .ref (a 5)) (C := RX5) (T := TX5) (N := 9) hx hb hts (by decide +kernel) hown hK hP 0 rfl rfl 2 (by decide) (hts (.fieldLink RX5 30 "RailOffsets" "rules" "[I") (by decide +kernel)) (fun _ h => h) rfl dX5_miss_23 ?_
    refine lv_bipush (v := 6) hx hb dX5_miss_26 rfl ?_
    refine xRoS (nL := 2) ⟨hx, hb, hml, hown, hts⟩ (c_X5_cell l E (a 5) 8 (u.1 5) 6) (va_cwS 2 hts gX5_miss_X5_cell rfl rfl rfl hd_X5_cell ⟨(Nat.le_of_ble_eq_true rfl), (Nat.le_of_ble_eq_true rfl)⟩) hF hS hA (hP.sub [5] rfl) rfl hl.1 rfl (Nat.le_of_ble_eq_true rfl) ⟨(Nat.le_of_ble_eq_true rfl), (Nat.le_of_ble_eq_true rfl)⟩ dX5_miss_28 ?_
    refine W.eq (g2 := F0 m 31 ls [.int (s_X5_cell 8 (u.1 5) 6), .long ((s_X5_cell 201 (u.1 13) (u.2 3)).toInt64)]) rfl ?_
    refine lv_i2l hx hb dX5_miss_31 rfl ?_
    refine lv_lsub hx hb dX5_miss_32 ?_
    have hR : s_X5_miss u p1 = ((s_X5_cell 201 (u.1 13) (u.2 3)).toInt64) - ((s_X5_cell 8 (u.1 5) 6).toInt64) := hR
    exact W.lret (v := ((s_X5_cell 201 (u.1 13) (u.2 3)).toInt64) - ((s_X5_cell 8 (u.1 5) 6).toInt64)) hx hb hr (fun t ht _ => ⟨congrArg (fun z => Outcome.returned (some (Value.long z))) hR.symm, ht⟩) (fun _ h => by cases h) dX5_miss_33
def s_X5_alikeTo_L4 : Nat → xU → Int32 → Int32 → Int32 → Int32
  | 0, _, _, _, _ => 0
  | n + 1, u, x1, x2, x3 =>
    if (u.2 1) ≤ x3 then
      x2
    else
      if (s_X2_same u x1 x3) = 0 then
        s_X5_alikeTo_L4 n u x1 x2 (x3 + 1)
      else
        s_X5_alikeTo_L4 n u x1 (x2 ||| (1 <<< (x3 &&& 31))) (x3 + 1)
def s_X5_alikeTo (u : xU) (p1 : Int32) : Int32 :=
  s_X5_alikeTo_L4 (((u.2 1).toInt - (0 : Int32).toInt).toNat + 1) u p1 0 0
abbrev rm_X5_alikeTo : Room := { frames := 3, cells := 0, slots := 0, locals := 66 }
set_option maxHeartbeats 8000000 in
set_option maxRecDepth 100000 in
theorem c_X5_alikeTo (l : Launch) (E : xG) (a : Nat → Nat) (u : xU) (p1 : Int32) : xRo l E yX5_alikeTo wsX5_alikeTo rm_X5_alikeTo [.ref (a 0), .int p1] (wX E a u) (some (.int (s_X5_alikeTo u p1))) := by
  refine xRo.of (cc := cX5_alikeTo) (maxL := 4) (ret := (some .int)) (by decide) rfl (Nat.le_of_ble_eq_true rfl) ?_
  intro p e s m below meth c ls hAt hF hP hS hl
  obtain ⟨hx, hb, hr, hml, hown, hts, hlocks, -⟩ := hAt
  have hown : s.vm.findClass RX5 = some m.cls := hown
  have hl : lv_has ls 4 [(0, .ref (a 0)), (1, .int p1)] := hl
  have hK := hF.1
  have hA : ∀ q : Nat, (fun _ => False) q → xA0 E q := fun _ h => h.elim
  change W p l e rm_X5_alikeTo s m ([.ref (a 0), .int p1] : List Value).toArray below meth c s.heap [] 0 0 (xQro below (some (.int (s_X5_alikeTo u p1))) ([.ref (a 0), .int p1] : List Value).toArray s) _
  have hR : s_X5_alikeTo u p1 = s_X5_alikeTo u p1 := rfl
  refine lv_iconst (v := 0) hx hb dX5_alikeTo_0 rfl ?_
  refine lv_istore_n (lv' := [(2, .int 0), (0, .ref (a 0)), (1, .int p1)]) hx hb dX5_alikeTo_1 rfl hl (by decide) rfl (fun ls hl => ?_)
  refine lv_iconst (v := 0) hx hb dX5_alikeTo_2 rfl ?_
  refine lv_istore_n (lv' := [(3, .int 0), (2, .int 0), (0, .ref (a 0)), (1, .int p1)]) hx hb dX5_alikeTo_3 rfl hl (by decide) rfl (fun ls hl => ?_)
  have L4 : ∀ (n4 : Nat) (x2 : Int32) (x3 : Int32) (ls : Array Slot), ((u.2 1).toInt - x3.toInt).toNat < n4 → s_X5_alikeTo u p1 = s_X5_alikeTo_L4 n4 u p1 x2 x3 → lv_has ls 4 [(3, .int x3), (2, .int x2), (0, .ref (a 0)), (1, .int p1)] → W p l e rm_X5_alikeTo s m ([.ref (a 0), .int p1] : List Value).toArray below meth c s.heap [] 0 0 (xQro below (some (.int (s_X5_alikeTo u p1))) ([.ref (a 0), .int p1] : List Value).toArray s) (F0 m 4 ls []) := by
    intro n4
    induction n4 with
    | zero => intro x2 x3 ls hM4 hR hl; exact absurd hM4 (Nat.not_lt_zero _)
    | succ n4 ih4 =>
      intro x2 x3 ls hM4 hR hl
      refine lv_iload_n hx hb dX5_alikeTo_4 rfl (lv_at hl 0 rfl) ?_
      refine lv_aload_n hx hb dX5_alikeTo_5 rfl (lv_at hl 2 rfl) ?_
      refine va_get (D := xD E) (ci := 5) (v := .ref (a 1)) (C := RX5) (T := TX5) (N := 9) hx hb hts (by decide +kernel) hown hK hP 0 rfl rfl 0 (by decide) (hts (.fieldLink RX5 12 "RailOffsets" "pieces" "LRailOffsets$Pieces;") (by decide +kernel)) (fun _ h => h) rfl dX5_alikeTo_6 ?_
      refine va_get (D := xD E) (ci := 2) (v := .int (u.2 1)) (C := RX2) (T := TX2) (N := 2) hx hb hts (by decide +kernel) hown hK hP 1 rfl rfl 1 (by decide) (hts (.fieldLink RX5 76 "RailOffsets$Pieces" "size" "I") (by decide +kernel)) (fun _ h => h) rfl dX5_alikeTo_9 ?_
      refine lv_icmp_ge (tgt := 39) hx hb dX5_alikeTo_12 rfl (fun q1 => ?_) (fun q1 => ?_)
      · have hR := hR.trans (if_pos q1)
        refine lv_iload_n hx hb dX5_alikeTo_39 rfl (lv_at hl 1 rfl) ?_
        have hR : s_X5_alikeTo u p1 = x2 := hR
        exact W.iret (v := x2) hx hb hr (fun t ht _ => ⟨congrArg (fun z => Outcome.returned (some (Value.int z))) hR.symm, ht⟩) (fun _ h => by cases h) dX5_alikeTo_40
      · have hR := hR.trans (if_neg q1)
        refine lv_aload_n hx hb dX5_alikeTo_15 rfl (lv_at hl 2 rfl) ?_
        refine va_get (D := xD E) (ci := 5) (v := .ref (a 1)) (C := RX5) (T := TX5) (N := 9) hx hb hts (by decide +kernel) hown hK hP 0 rfl rfl 0 (by decide) (hts (.fieldLink RX5 12 "RailOffsets" "pieces" "LRailOffsets$Pieces;") (by decide +kernel)) (fun _ h => h) rfl dX5_alikeTo_16 ?_
        refine lv_iload_n hx hb dX5_alikeTo_19 rfl (lv_at hl 3 rfl) ?_
        refine lv_iload_n hx hb dX5_alikeTo_20 rfl (lv_at hl 0 rfl) ?_
        refine xRoV (nL := 4) ⟨hx, hb, hml, hown, hts⟩ (c_X2_same l E a u p1 x3) (cwV 2 hts gX5_alikeTo_X2_same rfl rfl rfl ⟨rfl, hd_X2_same⟩ ⟨(Nat.le_of_ble_eq_true rfl), (Nat.le_of_ble_eq_true rfl)⟩) hF hS hA hP (va_recv (q := (RX2, TX2, 2)) hK hP (ci := 2) rfl (q0 := 1) rfl) rfl hl.1 rfl (Nat.le_of_ble_eq_true rfl) ⟨(Nat.le_of_ble_eq_true rfl), (Nat.le_of_ble_eq_true rfl)⟩ dX5_alikeTo_21 ?_
        refine W.eq (g2 := F0 m 24 ls [.int (s_X2_same u p1 x3)]) rfl ?_
        refine lv_if_eq (tgt := 33) hx hb dX5_alikeTo_24 rfl (fun q2 => ?_) (fun q2 => ?_)
        · have hR := hR.trans (if_pos q2)
          refine lv_iinc (k := 0) (v := x3 + 1) (lv' := [(3, .int (x3 + 1)), (2, .int x2), (0, .ref (a 0)), (1, .int p1)]) hx hb dX5_alikeTo_33 hl rfl rfl (by decide) rfl (fun ls hl => ?_)
          refine lv_goto (tgt := 4) hx hb dX5_alikeTo_36 rfl ?_
          exact ih4 x2 (x3 + 1) _ (Nat.lt_of_lt_of_le (xupc q1) (Nat.le_of_lt_succ hM4)) hR (lv_sub hl [0, 1, 2, 3] rfl)
        · have hR := hR.trans (if_neg q2)
          refine lv_iload_n hx hb dX5_alikeTo_27 rfl (lv_at hl 1 rfl) ?_
          refine lv_iconst (v := 1) hx hb dX5_alikeTo_28 rfl ?_
          refine lv_iload_n hx hb dX5_alikeTo_29 rfl (lv_at hl 0 rfl) ?_
          refine lv_ishl hx hb dX5_alikeTo_30 ?_
          refine lv_ior hx hb dX5_alikeTo_31 ?_
          refine lv_istore_n (lv' := [(2, .int (x2 ||| (1 <<< (x3 &&& 31)))), (3, .int x3), (0, .ref (a 0)), (1, .int p1)]) hx hb dX5_alikeTo_32 rfl hl (by decide) rfl (fun ls hl => ?_)
          refine lv_iinc (k := 1) (v := x3 + 1) (lv' := [(3, .int (x3 + 1)), (2, .int (x2 ||| (1 <<< (x3 &&& 31)))), (0, .ref (a 0)), (1, .int p1)]) hx hb dX5_alikeTo_33 hl rfl rfl (by decide) rfl (fun ls hl => ?_)
          refine lv_goto (tgt := 4) hx hb dX5_alikeTo_36 rfl ?_
          exact ih4 (x2 ||| (1 <<< (x3 &&& 31))) (x3 + 1) _ (Nat.lt_of_lt_of_le (xupc q1) (Nat.le_of_lt_succ hM4)) hR (lv_sub hl [0, 1, 2, 3] rfl)
  exact L4 (((u.2 1).toInt - (0 : Int32).toInt).toNat + 1) 0 0 ls (Nat.lt_succ_self _) hR hl
def s_X5_unlike_L4 : Nat → xU → Int32 → Int32 → Int32
  | 0, _, _, _ => 0
  | n + 1, u, x1, x2 =>
    if (u.2 1) ≤ x2 then
      x1
    else
      if ((s_X5_alikeTo u x2) &&& ((1 <<< (x2 &&& 31)) - 1)) = 0 then
        s_X5_unlike_L4 n u (x1 + 1) (x2 + 1)
      else
        s_X5_unlike_L4 n u x1 (x2 + 1)
def s_X5_unlike (u : xU) : Int32 :=
  s_X5_unlike_L4 (((u.2 1).toInt - (0 : Int32).toInt).toNat + 1) u 0 0
abbrev rm_X5_unlike : Room := { frames := 4, cells := 0, slots := 0, locals := 89 }
set_option maxHeartbeats 8000000 in
set_option maxRecDepth 100000 in
theorem c_X5_unlike (l : Launch) (E : xG) (a : Nat → Nat) (u : xU)  : xRo l E yX5_unlike wsX5_unlike rm_X5_unlike [.ref (a 0)] (wX E a u) (some (.int (s_X5_unlike u))) := by
  refine xRo.of (cc := cX5_unlike) (maxL := 4) (ret := (some .int)) (by decide) rfl (Nat.le_of_ble_eq_true rfl) ?_
  intro p e s m below meth c ls hAt hF hP hS hl
  obtain ⟨hx, hb, hr, hml, hown, hts, hlocks, -⟩ := hAt
  have hown : s.vm.findClass RX5 = some m.cls := hown
  have hl : lv_has ls 4 [(0, .ref (a 0))] := hl
  have hK := hF.1
  have hA : ∀ q : Nat, (fun _ => False) q → xA0 E q := fun _ h => h.elim
  change W p l e rm_X5_unlike s m ([.ref (a 0)] : List Value).toArray below meth c s.heap [] 0 0 (xQro below (some (.int (s_X5_unlike u))) ([.ref (a 0)] : List Value).toArray s) _
  have hR : s_X5_unlike u = s_X5_unlike u := rfl
  refine lv_iconst (v := 0) hx hb dX5_unlike_0 rfl ?_
  refine lv_istore_n (lv' := [(1, .int 0), (0, .ref (a 0))]) hx hb dX5_unlike_1 rfl hl (by decide) rfl (fun ls hl => ?_)
  refine lv_iconst (v := 0) hx hb dX5_unlike_2 rfl ?_
  refine lv_istore_n (lv' := [(2, .int 0), (1, .int 0), (0, .ref (a 0))]) hx hb dX5_unlike_3 rfl hl (by decide) rfl (fun ls hl => ?_)
  have L4 : ∀ (n4 : Nat) (x1 : Int32) (x2 : Int32) (ls : Array Slot), ((u.2 1).toInt - x2.toInt).toNat < n4 → s_X5_unlike u = s_X5_unlike_L4 n4 u x1 x2 → lv_has ls 4 [(2, .int x2), (1, .int x1), (0, .ref (a 0))] → W p l e rm_X5_unlike s m ([.ref (a 0)] : List Value).toArray below meth c s.heap [] 0 0 (xQro below (some (.int (s_X5_unlike u))) ([.ref (a 0)] : List Value).toArray s) (F0 m 4 ls []) := by
    intro n4
    induction n4 with
    | zero => intro x1 x2 ls hM4 hR hl; exact absurd hM4 (Nat.not_lt_zero _)
    | succ n4 ih4 =>
      intro x1 x2 ls hM4 hR hl
      refine lv_iload_n hx hb dX5_unlike_4 rfl (lv_at hl 0 rfl) ?_
      refine lv_aload_n hx hb dX5_unlike_5 rfl (lv_at hl 2 rfl) ?_
      refine va_get (D := xD E) (ci := 5) (v := .ref (a 1)) (C := RX5) (T := TX5) (N := 9) hx hb hts (by decide +kernel) hown hK hP 0 rfl rfl 0 (by decide) (hts (.fieldLink RX5 12 "RailOffsets" "pieces" "LRailOffsets$Pieces;") (by decide +kernel)) (fun _ h => h) rfl dX5_unlike_6 ?_
      refine va_get (D := xD E) (ci := 2) (v := .int (u.2 1)) (C := RX2) (T := TX2) (N := 2) hx hb hts (by decide +kernel) hown hK hP 1 rfl rfl 1 (by decide) (hts (.fieldLink RX5 76 "RailOffsets$Pieces" "size" "I") (by decide +kernel)) (fun _ h => h) rfl dX5_unlike_9 ?_
      refine lv_icmp_ge (tgt := 40) hx hb dX5_unlike_12 rfl (fun q1 => ?_) (fun q1 => ?_)
      · have hR := hR.trans (if_pos q1)
        refine lv_iload_n hx hb dX5_unlike_40 rfl (lv_at hl 1 rfl) ?_
        have hR : s_X5_unlike u = x1 := hR
        exact W.iret (v := x1) hx hb hr (fun t ht _ => ⟨congrArg (fun z => Outcome.returned (some (Value.int z))) hR.symm, ht⟩) (fun _ h => by cases h) dX5_unlike_41
      · have hR := hR.trans (if_neg q1)
        refine lv_iconst (v := 1) hx hb dX5_unlike_15 rfl ?_
        refine lv_iload_n hx hb dX5_unlike_16 rfl (lv_at hl 0 rfl) ?_
        refine lv_ishl hx hb dX5_unlike_17 ?_
        refine lv_iconst (v := 1) hx hb dX5_unlike_18 rfl ?_
        refine lv_isub hx hb dX5_unlike_19 ?_
        refine lv_istore_n (lv' := [(3, .int ((1 <<< (x2 &&& 31)) - 1)), (2, .int x2), (1, .int x1), (0, .ref (a 0))]) hx hb dX5_unlike_20 rfl hl (by decide) rfl (fun ls hl => ?_)
        refine lv_aload_n hx hb dX5_unlike_21 rfl (lv_at hl 3 rfl) ?_
        refine lv_iload_n hx hb dX5_unlike_22 rfl (lv_at hl 1 rfl) ?_
        refine xRoV (nL := 4) ⟨hx, hb, hml, hown, hts⟩ (c_X5_alikeTo l E a u x2) (cwV 1 hts gX5_unlike_X5_alikeTo rfl rfl rfl ⟨rfl, hd_X5_alikeTo⟩ ⟨(Nat.le_of_ble_eq_true rfl), (Nat.le_of_ble_eq_true rfl)⟩) hF hS hA hP (va_recv (q := (RX5, TX5, 9)) hK hP (ci := 5) rfl (q0 := 0) rfl) rfl hl.1 rfl (Nat.le_of_ble_eq_true rfl) ⟨(Nat.le_of_ble_eq_true rfl), (Nat.le_of_ble_eq_true rfl)⟩ dX5_unlike_23 ?_
        refine W.eq (g2 := F0 m 26 ls [.int (s_X5_alikeTo u x2)]) rfl ?_
        refine lv_iload_n hx hb dX5_unlike_26 rfl (lv_at hl 0 rfl) ?_
        refine lv_iand hx hb dX5_unlike_27 ?_
        refine lv_if_ne (tgt := 34) hx hb dX5_unlike_28 rfl (fun q2 => ?_) (fun q2 => ?_)
        · have hR := hR.trans (if_neg q2)
          refine lv_iinc (k := 1) (v := x2 + 1) (lv' := [(2, .int (x2 + 1)), (3, .int ((1 <<< (x2 &&& 31)) - 1)), (1, .int x1), (0, .ref (a 0))]) hx hb dX5_unlike_34 hl rfl rfl (by decide) rfl (fun ls hl => ?_)
          refine lv_goto (tgt := 4) hx hb dX5_unlike_37 rfl ?_
          exact ih4 x1 (x2 + 1) _ (Nat.lt_of_lt_of_le (xupc q1) (Nat.le_of_lt_succ hM4)) hR (lv_sub hl [0, 2, 3] rfl)
        · have hR := hR.trans (if_pos q2)
          refine lv_iinc (k := 2) (v := x1 + 1) (lv' := [(1, .int (x1 + 1)), (3, .int ((1 <<< (x2 &&& 31)) - 1)), (2, .int x2), (0, .ref (a 0))]) hx hb dX5_unlike_31 hl rfl rfl (by decide) rfl (fun ls hl => ?_)
          refine lv_iinc (k := 2) (v := x2 + 1) (lv' := [(2, .int (x2 + 1)), (1, .int (x1 + 1)), (3, .int ((1 <<< (x2 &&& 31)) - 1)), (0, .ref (a 0))]) hx hb dX5_unlike_34 hl rfl rfl (by decide) rfl (fun ls hl => ?_)
          refine lv_goto (tgt := 4) hx hb dX5_unlike_37 rfl ?_
          exact ih4 (x1 + 1) (x2 + 1) _ (Nat.lt_of_lt_of_le (xupc q1) (Nat.le_of_lt_succ hM4)) hR (lv_sub hl [0, 1, 3] rfl)
  exact L4 (((u.2 1).toInt - (0 : Int32).toInt).toNat + 1) 0 0 ls (Nat.lt_succ_self _) hR hl
def s_X5_alike (u : xU) (p1 : Int32) : Int32 :=
  if p1 = (-1) then
    s_X5_unlike u
  else
    if (s_X2_has u p1) = 0 then
      (-2)
    else
      s_X5_alikeTo u p1
abbrev rm_X5_alike : Room := { frames := 5, cells := 0, slots := 0, locals := 112 }
set_option maxHeartbeats 8000000 in
set_option maxRecDepth 100000 in
theorem c_X5_alike (l : Launch) (E : xG) (a : Nat → Nat) (u : xU) (p1 : Int32) : xRo l E yX5_alike wsX5_alike rm_X5_alike [.ref (a 0), .int p1] (wX E a u) (some (.int (s_X5_alike u p1))) := by
  refine xRo.of (cc := cX5_alike) (maxL := 2) (ret := (some .int)) (by decide) rfl (Nat.le_of_ble_eq_true rfl) ?_
  intro p e s m below meth c ls hAt hF hP hS hl
  obtain ⟨hx, hb, hr, hml, hown, hts, hlocks, -⟩ := hAt
  have hown : s.vm.findClass RX5 = some m.cls := hown
  have hl : lv_has ls 2 [(0, .ref (a 0)), (1, .int p1)] := hl
  have hK := hF.1
  have hA : ∀ q : Nat, (fun _ => False) q → xA0 E q := fun _ h => h.elim
  change W p l e rm_X5_alike s m ([.ref (a 0), .int p1] : List Value).toArray below meth c s.heap [] 0 0 (xQro below (some (.int (s_X5_alike u p1))) ([.ref (a 0), .int p1] : List Value).toArray s) _
  have hR : s_X5_alike u p1 = s_X5_alike u p1 := rfl
  refine lv_iload_n hx hb dX5_alike_0 rfl (lv_at hl 1 rfl) ?_
  refine lv_iconst (v := (-1)) hx hb dX5_alike_1 rfl ?_
  refine lv_icmp_ne (tgt := 10) hx hb dX5_alike_2 rfl (fun q1 => ?_) (fun q1 => ?_)
  · have hR := hR.trans (if_neg q1)
    refine lv_aload_n hx hb dX5_alike_10 rfl (lv_at hl 0 rfl) ?_
    refine va_get (D := xD E) (ci := 5) (v := .ref (a 1)) (C := RX5) (T := TX5) (N := 9) hx hb hts (by decide +kernel) hown hK hP 0 rfl rfl 0 (by decide) (hts (.fieldLink RX5 12 "RailOffsets" "pieces" "LRailOffsets$Pieces;") (by decide +kernel)) (fun _ h => h) rfl dX5_alike_11 ?_
    refine lv_iload_n hx hb dX5_alike_14 rfl (lv_at hl 1 rfl) ?_
    refine xRoV (nL := 2) ⟨hx, hb, hml, hown, hts⟩ (c_X2_has l E a u p1) (cwV 1 hts gX5_alike_X2_has rfl rfl rfl ⟨rfl, hd_X2_has⟩ ⟨(Nat.le_of_ble_eq_true rfl), (Nat.le_of_ble_eq_true rfl)⟩) hF hS hA hP (va_recv (q := (RX2, TX2, 2)) hK hP (ci := 2) rfl (q0 := 1) rfl) rfl hl.1 rfl (Nat.le_of_ble_eq_true rfl) ⟨(Nat.le_of_ble_eq_true rfl), (Nat.le_of_ble_eq_true rfl)⟩ dX5_alike_15 ?_
    refine W.eq (g2 := F0 m 18 ls [.int (s_X2_has u p1)]) rfl ?_
    refine lv_if_eq (tgt := 29) hx hb dX5_alike_18 rfl (fun q2 => ?_) (fun q2 => ?_)
    · have hR := hR.trans (if_pos q2)
      refine lv_bipush (v := (-2)) hx hb dX5_alike_29 rfl ?_
      have hR : s_X5_alike u p1 = (-2) := hR
      exact W.iret (v := (-2)) hx hb hr (fun t ht _ => ⟨congrArg (fun z => Outcome.returned (some (Value.int z))) hR.symm, ht⟩) (fun _ h => by cases h) dX5_alike_31
    · have hR := hR.trans (if_neg q2)
      refine lv_aload_n hx hb dX5_alike_21 rfl (lv_at hl 0 rfl) ?_
      refine lv_iload_n hx hb dX5_alike_22 rfl (lv_at hl 1 rfl) ?_
      refine xRoV (nL := 2) ⟨hx, hb, hml, hown, hts⟩ (c_X5_alikeTo l E a u p1) (cwV 1 hts gX5_alike_X5_alikeTo rfl rfl rfl ⟨rfl, hd_X5_alikeTo⟩ ⟨(Nat.le_of_ble_eq_true rfl), (Nat.le_of_ble_eq_true rfl)⟩) hF hS hA hP (va_recv (q := (RX5, TX5, 9)) hK hP (ci := 5) rfl (q0 := 0) rfl) rfl hl.1 rfl (Nat.le_of_ble_eq_true rfl) ⟨(Nat.le_of_ble_eq_true rfl), (Nat.le_of_ble_eq_true rfl)⟩ dX5_alike_23 ?_
      refine W.eq (g2 := F0 m 26 ls [.int (s_X5_alikeTo u p1)]) rfl ?_
      refine lv_goto (tgt := 31) hx hb dX5_alike_26 rfl ?_
      have hR : s_X5_alike u p1 = s_X5_alikeTo u p1 := hR
      exact W.iret (v := s_X5_alikeTo u p1) hx hb hr (fun t ht _ => ⟨congrArg (fun z => Outcome.returned (some (Value.int z))) hR.symm, ht⟩) (fun _ h => by cases h) dX5_alike_31
  · have hR := hR.trans (if_pos q1)
    refine lv_aload_n hx hb dX5_alike_5 rfl (lv_at hl 0 rfl) ?_
    refine xRoV (nL := 2) ⟨hx, hb, hml, hown, hts⟩ (c_X5_unlike l E a u ) (cwV 0 hts gX5_alike_X5_unlike rfl rfl rfl ⟨rfl, hd_X5_unlike⟩ ⟨(Nat.le_of_ble_eq_true rfl), (Nat.le_of_ble_eq_true rfl)⟩) hF hS hA hP (va_recv (q := (RX5, TX5, 9)) hK hP (ci := 5) rfl (q0 := 0) rfl) rfl hl.1 rfl (Nat.le_of_ble_eq_true rfl) ⟨(Nat.le_of_ble_eq_true rfl), (Nat.le_of_ble_eq_true rfl)⟩ dX5_alike_6 ?_
    refine W.eq (g2 := F0 m 9 ls [.int (s_X5_unlike u)]) rfl ?_
    have hR : s_X5_alike u p1 = s_X5_unlike u := hR
    exact W.iret (v := s_X5_unlike u) hx hb hr (fun t ht _ => ⟨congrArg (fun z => Outcome.returned (some (Value.int z))) hR.symm, ht⟩) (fun _ h => by cases h) dX5_alike_9
def s_X5_reversed_L4 : Nat → xU → Int32 → Int32 → Int32
  | 0, _, _, _ => 0
  | n + 1, u, x1, x2 =>
    if (u.2 1) ≤ x2 then
      x1
    else
      if (s_X2_read u x2 0) = 3 then
        s_X5_reversed_L4 n u (x1 + (s_X2_read u x2 1)) (x2 + 1)
      else
        s_X5_reversed_L4 n u x1 (x2 + 1)
def s_X5_reversed (u : xU) : Int32 :=
  s_X5_reversed_L4 (((u.2 1).toInt - (0 : Int32).toInt).toNat + 1) u 0 0
abbrev rm_X5_reversed : Room := { frames := 2, cells := 0, slots := 0, locals := 43 }
set_option maxHeartbeats 8000000 in
set_option maxRecDepth 100000 in
theorem c_X5_reversed (l : Launch) (E : xG) (a : Nat → Nat) (u : xU)  : xRo l E yX5_reversed wsX5_reversed rm_X5_reversed [.ref (a 0)] (wX E a u) (some (.int (s_X5_reversed u))) := by
  refine xRo.of (cc := cX5_reversed) (maxL := 3) (ret := (some .int)) (by decide) rfl (Nat.le_of_ble_eq_true rfl) ?_
  intro p e s m below meth c ls hAt hF hP hS hl
  obtain ⟨hx, hb, hr, hml, hown, hts, hlocks, -⟩ := hAt
  have hown : s.vm.findClass RX5 = some m.cls := hown
  have hl : lv_has ls 3 [(0, .ref (a 0))] := hl
  have hK := hF.1
  have hA : ∀ q : Nat, (fun _ => False) q → xA0 E q := fun _ h => h.elim
  change W p l e rm_X5_reversed s m ([.ref (a 0)] : List Value).toArray below meth c s.heap [] 0 0 (xQro below (some (.int (s_X5_reversed u))) ([.ref (a 0)] : List Value).toArray s) _
  have hR : s_X5_reversed u = s_X5_reversed u := rfl
  refine lv_iconst (v := 0) hx hb dX5_reversed_0 rfl ?_
  refine lv_istore_n (lv' := [(1, .int 0), (0, .ref (a 0))]) hx hb dX5_reversed_1 rfl hl (by decide) rfl (fun ls hl => ?_)
  refine lv_iconst (v := 0) hx hb dX5_reversed_2 rfl ?_
  refine lv_istore_n (lv' := [(2, .int 0), (1, .int 0), (0, .ref (a 0))]) hx hb dX5_reversed_3 rfl hl (by decide) rfl (fun ls hl => ?_)
  have L4 : ∀ (n4 : Nat) (x1 : Int32) (x2 : Int32) (ls : Array Slot), ((u.2 1).toInt - x2.toInt).toNat < n4 → s_X5_reversed u = s_X5_reversed_L4 n4 u x1 x2 → lv_has ls 3 [(2, .int x2), (1, .int x1), (0, .ref (a 0))] → W p l e rm_X5_reversed s m ([.ref (a 0)] : List Value).toArray below meth c s.heap [] 0 0 (xQro below (some (.int (s_X5_reversed u))) ([.ref (a 0)] : List Value).toArray s) (F0 m 4 ls []) := by
    intro n4
    induction n4 with
    | zero => intro x1 x2 ls hM4 hR hl; exact absurd hM4 (Nat.not_lt_zero _)
    | succ n4 ih4 =>
      intro x1 x2 ls hM4 hR hl
      refine lv_iload_n hx hb dX5_reversed_4 rfl (lv_at hl 0 rfl) ?_
      refine lv_aload_n hx hb dX5_reversed_5 rfl (lv_at hl 2 rfl) ?_
      refine va_get (D := xD E) (ci := 5) (v := .ref (a 1)) (C := RX5) (T := TX5) (N := 9) hx hb hts (by decide +kernel) hown hK hP 0 rfl rfl 0 (by decide) (hts (.fieldLink RX5 12 "RailOffsets" "pieces" "LRailOffsets$Pieces;") (by decide +kernel)) (fun _ h => h) rfl dX5_reversed_6 ?_
      refine va_get (D := xD E) (ci := 2) (v := .int (u.2 1)) (C := RX2) (T := TX2) (N := 2) hx hb hts (by decide +kernel) hown hK hP 1 rfl rfl 1 (by decide) (hts (.fieldLink RX5 76 "RailOffsets$Pieces" "size" "I") (by decide +kernel)) (fun _ h => h) rfl dX5_reversed_9 ?_
      refine lv_icmp_ge (tgt := 46) hx hb dX5_reversed_12 rfl (fun q1 => ?_) (fun q1 => ?_)
      · have hR := hR.trans (if_pos q1)
        refine lv_iload_n hx hb dX5_reversed_46 rfl (lv_at hl 1 rfl) ?_
        have hR : s_X5_reversed u = x1 := hR
        exact W.iret (v := x1) hx hb hr (fun t ht _ => ⟨congrArg (fun z => Outcome.returned (some (Value.int z))) hR.symm, ht⟩) (fun _ h => by cases h) dX5_reversed_47
      · have hR := hR.trans (if_neg q1)
        refine lv_aload_n hx hb dX5_reversed_15 rfl (lv_at hl 2 rfl) ?_
        refine va_get (D := xD E) (ci := 5) (v := .ref (a 1)) (C := RX5) (T := TX5) (N := 9) hx hb hts (by decide +kernel) hown hK hP 0 rfl rfl 0 (by decide) (hts (.fieldLink RX5 12 "RailOffsets" "pieces" "LRailOffsets$Pieces;") (by decide +kernel)) (fun _ h => h) rfl dX5_reversed_16 ?_
        refine lv_iload_n hx hb dX5_reversed_19 rfl (lv_at hl 0 rfl) ?_
        refine lv_iconst (v := 0) hx hb dX5_reversed_20 rfl ?_
        refine xRoV (nL := 3) ⟨hx, hb, hml, hown, hts⟩ (c_X2_read l E a u x2 0) (cwV 2 hts gX5_reversed_X2_read rfl rfl rfl ⟨rfl, hd_X2_read⟩ ⟨(Nat.le_of_ble_eq_true rfl), (Nat.le_of_ble_eq_true rfl)⟩) hF hS hA hP (va_recv (q := (RX2, TX2, 2)) hK hP (ci := 2) rfl (q0 := 1) rfl) rfl hl.1 rfl (Nat.le_of_ble_eq_true rfl) ⟨(Nat.le_of_ble_eq_true rfl), (Nat.le_of_ble_eq_true rfl)⟩ dX5_reversed_21 ?_
        refine W.eq (g2 := F0 m 24 ls [.int (s_X2_read u x2 0)]) rfl ?_
        refine lv_iconst (v := 3) hx hb dX5_reversed_24 rfl ?_
        refine lv_icmp_ne (tgt := 40) hx hb dX5_reversed_25 rfl (fun q2 => ?_) (fun q2 => ?_)
        · have hR := hR.trans (if_neg q2)
          refine lv_iinc (k := 0) (v := x2 + 1) (lv' := [(2, .int (x2 + 1)), (1, .int x1), (0, .ref (a 0))]) hx hb dX5_reversed_40 hl rfl rfl (by decide) rfl (fun ls hl => ?_)
          refine lv_goto (tgt := 4) hx hb dX5_reversed_43 rfl ?_
          exact ih4 x1 (x2 + 1) _ (Nat.lt_of_lt_of_le (xupc q1) (Nat.le_of_lt_succ hM4)) hR (lv_sub hl [0, 1, 2] rfl)
        · have hR := hR.trans (if_pos q2)
          refine lv_iload_n hx hb dX5_reversed_28 rfl (lv_at hl 1 rfl) ?_
          refine lv_aload_n hx hb dX5_reversed_29 rfl (lv_at hl 2 rfl) ?_
          refine va_get (D := xD E) (ci := 5) (v := .ref (a 1)) (C := RX5) (T := TX5) (N := 9) hx hb hts (by decide +kernel) hown hK hP 0 rfl rfl 0 (by decide) (hts (.fieldLink RX5 12 "RailOffsets" "pieces" "LRailOffsets$Pieces;") (by decide +kernel)) (fun _ h => h) rfl dX5_reversed_30 ?_
          refine lv_iload_n hx hb dX5_reversed_33 rfl (lv_at hl 0 rfl) ?_
          refine lv_iconst (v := 1) hx hb dX5_reversed_34 rfl ?_
          refine xRoV (nL := 3) ⟨hx, hb, hml, hown, hts⟩ (c_X2_read l E a u x2 1) (cwV 2 hts gX5_reversed_X2_read rfl rfl rfl ⟨rfl, hd_X2_read⟩ ⟨(Nat.le_of_ble_eq_true rfl), (Nat.le_of_ble_eq_true rfl)⟩) hF hS hA hP (va_recv (q := (RX2, TX2, 2)) hK hP (ci := 2) rfl (q0 := 1) rfl) rfl hl.1 rfl (Nat.le_of_ble_eq_true rfl) ⟨(Nat.le_of_ble_eq_true rfl), (Nat.le_of_ble_eq_true rfl)⟩ dX5_reversed_35 ?_
          refine W.eq (g2 := F0 m 38 ls [.int (s_X2_read u x2 1), .int x1]) rfl ?_
          refine lv_iadd hx hb dX5_reversed_38 ?_
          refine lv_istore_n (lv' := [(1, .int (x1 + (s_X2_read u x2 1))), (2, .int x2), (0, .ref (a 0))]) hx hb dX5_reversed_39 rfl hl (by decide) rfl (fun ls hl => ?_)
          refine lv_iinc (k := 1) (v := x2 + 1) (lv' := [(2, .int (x2 + 1)), (1, .int (x1 + (s_X2_read u x2 1))), (0, .ref (a 0))]) hx hb dX5_reversed_40 hl rfl rfl (by decide) rfl (fun ls hl => ?_)
          refine lv_goto (tgt := 4) hx hb dX5_reversed_43 rfl ?_
          exact ih4 (x1 + (s_X2_read u x2 1)) (x2 + 1) _ (Nat.lt_of_lt_of_le (xupc q1) (Nat.le_of_lt_succ hM4)) hR (lv_sub hl [0, 1, 2] rfl)
  exact L4 (((u.2 1).toInt - (0 : Int32).toInt).toNat + 1) 0 0 ls (Nat.lt_succ_self _) hR hl
def s_X5_raised_L4 : Nat → xU → Int32 → Int32 → Int32
  | 0, _, _, _ => 0
  | n + 1, u, x1, x2 =>
    if (u.2 3) < x2 then
      x1
    else
      if (s_X5_cell 201 (u.1 11) x2) ≤ 0 then
        s_X5_raised_L4 n u x1 (x2 + 1)
      else
        s_X5_raised_L4 n u (x1 + 1) (x2 + 1)
def s_X5_raised (u : xU) : Int32 :=
  s_X5_raised_L4 (((u.2 3).toInt + 1 - (1 : Int32).toInt).toNat + 1) u 0 1
abbrev rm_X5_raised : Room := { frames := 1, cells := 0, slots := 0, locals := 21 }
set_option maxHeartbeats 8000000 in
set_option maxRecDepth 100000 in
theorem c_X5_raised (l : Launch) (E : xG) (a : Nat → Nat) (u : xU)  (hp0 : (u.2 3).toInt < 2147483647) : xRo l E yX5_raised wsX5_raised rm_X5_raised [.ref (a 0)] (wX E a u) (some (.int (s_X5_raised u))) := by
  refine xRo.of (cc := cX5_raised) (maxL := 3) (ret := (some .int)) (by decide) rfl (Nat.le_of_ble_eq_true rfl) ?_
  intro p e s m below meth c ls hAt hF hP hS hl
  obtain ⟨hx, hb, hr, hml, hown, hts, hlocks, -⟩ := hAt
  have hown : s.vm.findClass RX5 = some m.cls := hown
  have hl : lv_has ls 3 [(0, .ref (a 0))] := hl
  have hK := hF.1
  have hA : ∀ q : Nat, (fun _ => False) q → xA0 E q := fun _ h => h.elim
  change W p l e rm_X5_raised s m ([.ref (a 0)] : List Value).toArray below meth c s.heap [] 0 0 (xQro below (some (.int (s_X5_raised u))) ([.ref (a 0)] : List Value).toArray s) _
  have hR : s_X5_raised u = s_X5_raised u := rfl
  refine lv_iconst (v := 0) hx hb dX5_raised_0 rfl ?_
  refine lv_istore_n (lv' := [(1, .int 0), (0, .ref (a 0))]) hx hb dX5_raised_1 rfl hl (by decide) rfl (fun ls hl => ?_)
  refine lv_iconst (v := 1) hx hb dX5_raised_2 rfl ?_
  refine lv_istore_n (lv' := [(2, .int 1), (1, .int 0), (0, .ref (a 0))]) hx hb dX5_raised_3 rfl hl (by decide) rfl (fun ls hl => ?_)
  have L4 : ∀ (n4 : Nat) (x1 : Int32) (x2 : Int32) (ls : Array Slot), ((u.2 3).toInt + 1 - x2.toInt).toNat < n4 → s_X5_raised u = s_X5_raised_L4 n4 u x1 x2 → lv_has ls 3 [(2, .int x2), (1, .int x1), (0, .ref (a 0))] → W p l e rm_X5_raised s m ([.ref (a 0)] : List Value).toArray below meth c s.heap [] 0 0 (xQro below (some (.int (s_X5_raised u))) ([.ref (a 0)] : List Value).toArray s) (F0 m 4 ls []) := by
    intro n4
    induction n4 with
    | zero => intro x1 x2 ls hM4 hR hl; exact absurd hM4 (Nat.not_lt_zero _)
    | succ n4 ih4 =>
      intro x1 x2 ls hM4 hR hl
      refine lv_iload_n hx hb dX5_raised_4 rfl (lv_at hl 0 rfl) ?_
      refine lv_aload_n hx hb dX5_raised_5 rfl (lv_at hl 2 rfl) ?_
      refine va_get (D := xD E) (ci := 5) (v := .ref (a 7)) (C := RX5) (T := TX5) (N := 9) hx hb hts (by decide +kernel) hown hK hP 0 rfl rfl 4 (by decide) (hts (.fieldLink RX5 41 "RailOffsets" "line" "LRailOffsets$Line;") (by decide +kernel)) (fun _ h => h) rfl dX5_raised_6 ?_
      refine va_get (D := xD E) (ci := 0) (v := .int (u.2 3)) (C := RX0) (T := TX0) (N := 8) hx hb hts (by decide +kernel) hown hK hP 7 rfl rfl 7 (by decide) (hts (.fieldLink RX5 128 "RailOffsets$Line" "stations" "I") (by decide +kernel)) (fun _ h => h) rfl dX5_raised_9 ?_
      refine lv_icmp_gt (tgt := 38) hx hb dX5_raised_12 rfl (fun q1 => ?_) (fun q1 => ?_)
      · have hR := hR.trans (if_pos q1)
        refine lv_iload_n hx hb dX5_raised_38 rfl (lv_at hl 1 rfl) ?_
        have hR : s_X5_raised u = x1 := hR
        exact W.iret (v := x1) hx hb hr (fun t ht _ => ⟨congrArg (fun z => Outcome.returned (some (Value.int z))) hR.symm, ht⟩) (fun _ h => by cases h) dX5_raised_39
      · have hR := hR.trans (if_neg q1)
        refine lv_aload_n hx hb dX5_raised_15 rfl (lv_at hl 2 rfl) ?_
        refine va_get (D := xD E) (ci := 5) (v := .ref (a 7)) (C := RX5) (T := TX5) (N := 9) hx hb hts (by decide +kernel) hown hK hP 0 rfl rfl 4 (by decide) (hts (.fieldLink RX5 41 "RailOffsets" "line" "LRailOffsets$Line;") (by decide +kernel)) (fun _ h => h) rfl dX5_raised_16 ?_
        refine va_get (D := xD E) (ci := 0) (v := .ref (a 11)) (C := RX0) (T := TX0) (N := 8) hx hb hts (by decide +kernel) hown hK hP 7 rfl rfl 4 (by decide) (hts (.fieldLink RX5 134 "RailOffsets$Line" "heights" "[I") (by decide +kernel)) (fun _ h => h) rfl dX5_raised_19 ?_
        refine lv_iload_n hx hb dX5_raised_22 rfl (lv_at hl 0 rfl) ?_
        refine xRoS (nL := 3) ⟨hx, hb, hml, hown, hts⟩ (c_X5_cell l E (a 11) 201 (u.1 11) x2) (va_cwS 2 hts gX5_raised_X5_cell rfl rfl rfl hd_X5_cell ⟨(Nat.le_of_ble_eq_true rfl), (Nat.le_of_ble_eq_true rfl)⟩) hF hS hA (hP.sub [11] rfl) rfl hl.1 rfl (Nat.le_of_ble_eq_true rfl) ⟨(Nat.le_of_ble_eq_true rfl), (Nat.le_of_ble_eq_true rfl)⟩ dX5_raised_23 ?_
        refine W.eq (g2 := F0 m 26 ls [.int (s_X5_cell 201 (u.1 11) x2)]) rfl ?_
        refine lv_if_le (tgt := 32) hx hb dX5_raised_26 rfl (fun q2 => ?_) (fun q2 => ?_)
        · have hR := hR.trans (if_pos q2)
          refine lv_iinc (k := 0) (v := x2 + 1) (lv' := [(2, .int (x2 + 1)), (1, .int x1), (0, .ref (a 0))]) hx hb dX5_raised_32 hl rfl rfl (by decide) rfl (fun ls hl => ?_)
          refine lv_goto (tgt := 4) hx hb dX5_raised_35 rfl ?_
          exact ih4 x1 (x2 + 1) _ (Nat.lt_of_lt_of_le (xupl q1 (hp0)) (Nat.le_of_lt_succ hM4)) hR (lv_sub hl [0, 1, 2] rfl)
        · have hR := hR.trans (if_neg q2)
          refine lv_iinc (k := 1) (v := x1 + 1) (lv' := [(1, .int (x1 + 1)), (2, .int x2), (0, .ref (a 0))]) hx hb dX5_raised_29 hl rfl rfl (by decide) rfl (fun ls hl => ?_)
          refine lv_iinc (k := 1) (v := x2 + 1) (lv' := [(2, .int (x2 + 1)), (1, .int (x1 + 1)), (0, .ref (a 0))]) hx hb dX5_raised_32 hl rfl rfl (by decide) rfl (fun ls hl => ?_)
          refine lv_goto (tgt := 4) hx hb dX5_raised_35 rfl ?_
          exact ih4 (x1 + 1) (x2 + 1) _ (Nat.lt_of_lt_of_le (xupl q1 (hp0)) (Nat.le_of_lt_succ hM4)) hR (lv_sub hl [0, 1, 2] rfl)
  exact L4 (((u.2 3).toInt + 1 - (1 : Int32).toInt).toNat + 1) 0 1 ls (Nat.lt_succ_self _) hR hl
def s_X5_count (u : xU) (p1 : Int32) : Int32 :=
  if p1 = 0 then
    u.2 1
  else
    if p1 = 1 then
      u.2 3
    else
      if p1 = 2 then
        u.2 12
      else
        if p1 = 3 then
          s_X5_reversed u
        else
          if p1 = 4 then
            s_X5_raised u
          else
            (-2)
abbrev rm_X5_count : Room := { frames := 3, cells := 0, slots := 0, locals := 65 }
set_option maxHeartbeats 8000000 in
set_option maxRecDepth 100000 in
theorem c_X5_count (l : Launch) (E : xG) (a : Nat → Nat) (u : xU) (p1 : Int32) (hp0 : (u.2 3).toInt < 2147483647) : xRo l E yX5_count wsX5_count rm_X5_count [.ref (a 0), .int p1] (wX E a u) (some (.int (s_X5_count u p1))) := by
  refine xRo.of (cc := cX5_count) (maxL := 2) (ret := (some .int)) (by decide) rfl (Nat.le_of_ble_eq_true rfl) ?_
  intro p e s m below meth c ls hAt hF hP hS hl
  obtain ⟨hx, hb, hr, hml, hown, hts, hlocks, -⟩ := hAt
  have hown : s.vm.findClass RX5 = some m.cls := hown
  have hl : lv_has ls 2 [(0, .ref (a 0)), (1, .int p1)] := hl
  have hK := hF.1
  have hA : ∀ q : Nat, (fun _ => False) q → xA0 E q := fun _ h => h.elim
  change W p l e rm_X5_count s m ([.ref (a 0), .int p1] : List Value).toArray below meth c s.heap [] 0 0 (xQro below (some (.int (s_X5_count u p1))) ([.ref (a 0), .int p1] : List Value).toArray s) _
  have hR : s_X5_count u p1 = s_X5_count u p1 := rfl
  refine lv_iload_n hx hb dX5_count_0 rfl (lv_at hl 1 rfl) ?_
  by_cases q1 : p1 = 0
  · have hR := hR.trans (if_pos q1)
    refine lv_tableIn (tgt := 36) (off := 35) hx hb dX5_count_1 (by rw [q1]; decide) (by rw [q1]; decide) (by rw [q1]; rfl) rfl ?_
    refine lv_aload_n hx hb dX5_count_36 rfl (lv_at hl 0 rfl) ?_
    refine va_get (D := xD E) (ci := 5) (v := .ref (a 1)) (C := RX5) (T := TX5) (N := 9) hx hb hts (by decide +kernel) hown hK hP 0 rfl rfl 0 (by decide) (hts (.fieldLink RX5 12 "RailOffsets" "pieces" "LRailOffsets$Pieces;") (by decide +kernel)) (fun _ h => h) rfl dX5_count_37 ?_
    refine va_get (D := xD E) (ci := 2) (v := .int (u.2 1)) (C := RX2) (T := TX2) (N := 2) hx hb hts (by decide +kernel) hown hK hP 1 rfl rfl 1 (by decide) (hts (.fieldLink RX5 76 "RailOffsets$Pieces" "size" "I") (by decide +kernel)) (fun _ h => h) rfl dX5_count_40 ?_
    have hR : s_X5_count u p1 = u.2 1 := hR
    exact W.iret (v := u.2 1) hx hb hr (fun t ht _ => ⟨congrArg (fun z => Outcome.returned (some (Value.int z))) hR.symm, ht⟩) (fun _ h => by cases h) dX5_count_43
  have hR := hR.trans (if_neg q1)
  by_cases q2 : p1 = 1
  · have hR := hR.trans (if_pos q2)
    refine lv_tableIn (tgt := 44) (off := 43) hx hb dX5_count_1 (by rw [q2]; decide) (by rw [q2]; decide) (by rw [q2]; rfl) rfl ?_
    refine lv_aload_n hx hb dX5_count_44 rfl (lv_at hl 0 rfl) ?_
    refine va_get (D := xD E) (ci := 5) (v := .ref (a 7)) (C := RX5) (T := TX5) (N := 9) hx hb hts (by decide +kernel) hown hK hP 0 rfl rfl 4 (by decide) (hts (.fieldLink RX5 41 "RailOffsets" "line" "LRailOffsets$Line;") (by decide +kernel)) (fun _ h => h) rfl dX5_count_45 ?_
    refine va_get (D := xD E) (ci := 0) (v := .int (u.2 3)) (C := RX0) (T := TX0) (N := 8) hx hb hts (by decide +kernel) hown hK hP 7 rfl rfl 7 (by decide) (hts (.fieldLink RX5 128 "RailOffsets$Line" "stations" "I") (by decide +kernel)) (fun _ h => h) rfl dX5_count_48 ?_
    have hR : s_X5_count u p1 = u.2 3 := hR
    exact W.iret (v := u.2 3) hx hb hr (fun t ht _ => ⟨congrArg (fun z => Outcome.returned (some (Value.int z))) hR.symm, ht⟩) (fun _ h => by cases h) dX5_count_51
  have hR := hR.trans (if_neg q2)
  by_cases q3 : p1 = 2
  · have hR := hR.trans (if_pos q3)
    refine lv_tableIn (tgt := 52) (off := 51) hx hb dX5_count_1 (by rw [q3]; decide) (by rw [q3]; decide) (by rw [q3]; rfl) rfl ?_
    refine lv_aload_n hx hb dX5_count_52 rfl (lv_at hl 0 rfl) ?_
    refine va_get (D := xD E) (ci := 5) (v := .ref (a 25)) (C := RX5) (T := TX5) (N := 9) hx hb hts (by decide +kernel) hown hK hP 0 rfl rfl 7 (by decide) (hts (.fieldLink RX5 64 "RailOffsets" "tape" "LRailOffsets$Tape;") (by decide +kernel)) (fun _ h => h) rfl dX5_count_53 ?_
    refine va_get (D := xD E) (ci := 4) (v := .int (u.2 12)) (C := RX4) (T := TX4) (N := 9) hx hb hts (by decide +kernel) hown hK hP 25 rfl rfl 3 (by decide) (hts (.fieldLink RX5 281 "RailOffsets$Tape" "size" "I") (by decide +kernel)) (fun _ h => h) rfl dX5_count_56 ?_
    have hR : s_X5_count u p1 = u.2 12 := hR
    exact W.iret (v := u.2 12) hx hb hr (fun t ht _ => ⟨congrArg (fun z => Outcome.returned (some (Value.int z))) hR.symm, ht⟩) (fun _ h => by cases h) dX5_count_59
  have hR := hR.trans (if_neg q3)
  by_cases q4 : p1 = 3
  · have hR := hR.trans (if_pos q4)
    refine lv_tableIn (tgt := 60) (off := 59) hx hb dX5_count_1 (by rw [q4]; decide) (by rw [q4]; decide) (by rw [q4]; rfl) rfl ?_
    refine lv_aload_n hx hb dX5_count_60 rfl (lv_at hl 0 rfl) ?_
    refine xRoV (nL := 2) ⟨hx, hb, hml, hown, hts⟩ (c_X5_reversed l E a u ) (cwV 0 hts gX5_count_X5_reversed rfl rfl rfl ⟨rfl, hd_X5_reversed⟩ ⟨(Nat.le_of_ble_eq_true rfl), (Nat.le_of_ble_eq_true rfl)⟩) hF hS hA hP (va_recv (q := (RX5, TX5, 9)) hK hP (ci := 5) rfl (q0 := 0) rfl) rfl hl.1 rfl (Nat.le_of_ble_eq_true rfl) ⟨(Nat.le_of_ble_eq_true rfl), (Nat.le_of_ble_eq_true rfl)⟩ dX5_count_61 ?_
    refine W.eq (g2 := F0 m 64 ls [.int (s_X5_reversed u)]) rfl ?_
    have hR : s_X5_count u p1 = s_X5_reversed u := hR
    exact W.iret (v := s_X5_reversed u) hx hb hr (fun t ht _ => ⟨congrArg (fun z => Outcome.returned (some (Value.int z))) hR.symm, ht⟩) (fun _ h => by cases h) dX5_count_64
  have hR := hR.trans (if_neg q4)
  by_cases q5 : p1 = 4
  · have hR := hR.trans (if_pos q5)
    refine lv_tableIn (tgt := 65) (off := 64) hx hb dX5_count_1 (by rw [q5]; decide) (by rw [q5]; decide) (by rw [q5]; rfl) rfl ?_
    refine lv_aload_n hx hb dX5_count_65 rfl (lv_at hl 0 rfl) ?_
    refine xRoV (nL := 2) ⟨hx, hb, hml, hown, hts⟩ (c_X5_raised l E a u  (by first | assumption | omega | decide)) (cwV 0 hts gX5_count_X5_raised rfl rfl rfl ⟨rfl, hd_X5_raised⟩ ⟨(Nat.le_of_ble_eq_true rfl), (Nat.le_of_ble_eq_true rfl)⟩) hF hS hA hP (va_recv (q := (RX5, TX5, 9)) hK hP (ci := 5) rfl (q0 := 0) rfl) rfl hl.1 rfl (Nat.le_of_ble_eq_true rfl) ⟨(Nat.le_of_ble_eq_true rfl), (Nat.le_of_ble_eq_true rfl)⟩ dX5_count_66 ?_
    refine W.eq (g2 := F0 m 69 ls [.int (s_X5_raised u)]) rfl ?_
    have hR : s_X5_count u p1 = s_X5_raised u := hR
    exact W.iret (v := s_X5_raised u) hx hb hr (fun t ht _ => ⟨congrArg (fun z => Outcome.returned (some (Value.int z))) hR.symm, ht⟩) (fun _ h => by cases h) dX5_count_69
  have hR := hR.trans (if_neg q5)
  refine lv_tableOut (tgt := 70) hx hb dX5_count_1 (xsw p1 (fun j h1 h2 h3 => by
    have h9 : j = 0 ∨ j = 1 ∨ j = 2 ∨ j = 3 ∨ j = 4 ∨ False := by omega
    rcases h9 with rfl | rfl | rfl | rfl | rfl | h9
    · exact q1 (Int32.toInt_inj.mp h3)
    · exact q2 (Int32.toInt_inj.mp h3)
    · exact q3 (Int32.toInt_inj.mp h3)
    · exact q4 (Int32.toInt_inj.mp h3)
    · exact q5 (Int32.toInt_inj.mp h3)
    · exact h9)) rfl ?_
  refine lv_bipush (v := (-2)) hx hb dX5_count_70 rfl ?_
  have hR : s_X5_count u p1 = (-2) := hR
  exact W.iret (v := (-2)) hx hb hr (fun t ht _ => ⟨congrArg (fun z => Outcome.returned (some (Value.int z))) hR.symm, ht⟩) (fun _ h => by cases h) dX5_count_72
def s_X5_firstOtherwise_L2 (k : Nat) : Nat → xU → Int32 → Int32 → Int32
  | 0, _, _, _ => 0
  | n + 1, u, x2, x3 =>
    if (u.2 (8 + k)) ≤ x3 then
      (-1)
    else
      if (u.2 3) < (x2 + x3) then
        x3
      else
        if (s_X3_read (uS u k) x3) = (s_X5_cell 201 (u.1 10) (x2 + x3)) then
          s_X5_firstOtherwise_L2 k n u x2 (x3 + 1)
        else
          x3
def s_X5_firstOtherwise (k : Nat) (u : xU) (p2 : Int32) : Int32 :=
  s_X5_firstOtherwise_L2 k (((u.2 (8 + k)).toInt - (0 : Int32).toInt).toNat + 1) u p2 0
abbrev rm_X5_firstOtherwise : Room := { frames := 2, cells := 0, slots := 0, locals := 42 }
set_option maxHeartbeats 8000000 in
set_option maxRecDepth 100000 in
theorem c_X5_firstOtherwise (l : Launch) (E : xG) (a : Nat → Nat) (u : xU) (k : Nat) (hk : k < 4) (p2 : Int32) : xRo l E yX5_firstOtherwise wsX5_firstOtherwise rm_X5_firstOtherwise [.ref (a 0), .ref (a (17 + k)), .int p2] (wX E a u) (some (.int (s_X5_firstOtherwise k u p2))) := by
  have hk4 : k = 0 ∨ k = 1 ∨ k = 2 ∨ k = 3 := by omega
  rcases hk4 with rfl | rfl | rfl | rfl
  · refine xRo.of (cc := cX5_firstOtherwise) (maxL := 4) (ret := (some .int)) (by decide) rfl (Nat.le_of_ble_eq_true rfl) ?_
    intro p e s m below meth c ls hAt hF hP hS hl
    obtain ⟨hx, hb, hr, hml, hown, hts, hlocks, -⟩ := hAt
    have hown : s.vm.findClass RX5 = some m.cls := hown
    have hl : lv_has ls 4 [(0, .ref (a 0)), (1, .ref (a 17)), (2, .int p2)] := hl
    have hK := hF.1
    have hA : ∀ q : Nat, (fun _ => False) q → xA0 E q := fun _ h => h.elim
    change W p l e rm_X5_firstOtherwise s m ([.ref (a 0), .ref (a 17), .int p2] : List Value).toArray below meth c s.heap [] 0 0 (xQro below (some (.int (s_X5_firstOtherwise 0 u p2))) ([.ref (a 0), .ref (a 17), .int p2] : List Value).toArray s) _
    have hR : s_X5_firstOtherwise 0 u p2 = s_X5_firstOtherwise 0 u p2 := rfl
    refine lv_iconst (v := 0) hx hb dX5_firstOtherwise_0 rfl ?_
    refine lv_istore_n (lv' := [(3, .int 0), (0, .ref (a 0)), (1, .ref (a 17)), (2, .int p2)]) hx hb dX5_firstOtherwise_1 rfl hl (by decide) rfl (fun ls hl => ?_)
    have L2 : ∀ (n2 : Nat) (x3 : Int32) (ls : Array Slot), ((u.2 (8 + 0)).toInt - x3.toInt).toNat < n2 → s_X5_firstOtherwise 0 u p2 = s_X5_firstOtherwise_L2 0 n2 u p2 x3 → lv_has ls 4 [(3, .int x3), (0, .ref (a 0)), (1, .ref (a 17)), (2, .int p2)] → W p l e rm_X5_firstOtherwise s m ([.ref (a 0), .ref (a 17), .int p2] : List Value).toArray below meth c s.heap [] 0 0 (xQro below (some (.int (s_X5_firstOtherwise 0 u p2))) ([.ref (a 0), .ref (a 17), .int p2] : List Value).toArray s) (F0 m 2 ls []) := by
      intro n2
      induction n2 with
      | zero => intro x3 ls hM2 hR hl; exact absurd hM2 (Nat.not_lt_zero _)
      | succ n2 ih2 =>
        intro x3 ls hM2 hR hl
        refine lv_iload_n hx hb dX5_firstOtherwise_2 rfl (lv_at hl 0 rfl) ?_
        refine lv_aload_n hx hb dX5_firstOtherwise_3 rfl (lv_at hl 2 rfl) ?_
        refine va_get (D := xD E) (ci := 3) (v := .int (u.2 8)) (C := RX3) (T := TX3) (N := 3) hx hb hts (by decide +kernel) hown hK hP 17 rfl rfl 2 (by decide) (hts (.fieldLink RX5 264 "RailOffsets$Sheet" "size" "I") (by decide +kernel)) (fun _ h => h) rfl dX5_firstOtherwise_4 ?_
        refine lv_icmp_ge (tgt := 52) hx hb dX5_firstOtherwise_7 rfl (fun q1 => ?_) (fun q1 => ?_)
        · have hR := hR.trans (if_pos q1)
          refine lv_iconst (v := (-1)) hx hb dX5_firstOtherwise_52 rfl ?_
          have hR : s_X5_firstOtherwise 0 u p2 = (-1) := hR
          exact W.iret (v := (-1)) hx hb hr (fun t ht _ => ⟨congrArg (fun z => Outcome.returned (some (Value.int z))) hR.symm, ht⟩) (fun _ h => by cases h) dX5_firstOtherwise_53
        · have hR := hR.trans (if_neg q1)
          refine lv_iload_n hx hb dX5_firstOtherwise_10 rfl (lv_at hl 3 rfl) ?_
          refine lv_iload_n hx hb dX5_firstOtherwise_11 rfl (lv_at hl 0 rfl) ?_
          refine lv_iadd hx hb dX5_firstOtherwise_12 ?_
          refine lv_aload_n hx hb dX5_firstOtherwise_13 rfl (lv_at hl 1 rfl) ?_
          refine va_get (D := xD E) (ci := 5) (v := .ref (a 7)) (C := RX5) (T := TX5) (N := 9) hx hb hts (by decide +kernel) hown hK hP 0 rfl rfl 4 (by decide) (hts (.fieldLink RX5 41 "RailOffsets" "line" "LRailOffsets$Line;") (by decide +kernel)) (fun _ h => h) rfl dX5_firstOtherwise_14 ?_
          refine va_get (D := xD E) (ci := 0) (v := .int (u.2 3)) (C := RX0) (T := TX0) (N := 8) hx hb hts (by decide +kernel) hown hK hP 7 rfl rfl 7 (by decide) (hts (.fieldLink RX5 128 "RailOffsets$Line" "stations" "I") (by decide +kernel)) (fun _ h => h) rfl dX5_firstOtherwise_17 ?_
          refine lv_icmp_gt (tgt := 44) hx hb dX5_firstOtherwise_20 rfl (fun q2 => ?_) (fun q2 => ?_)
          · have hR := hR.trans (if_pos q2)
            refine lv_iload_n hx hb dX5_firstOtherwise_44 rfl (lv_at hl 0 rfl) ?_
            have hR : s_X5_firstOtherwise 0 u p2 = x3 := hR
            exact W.iret (v := x3) hx hb hr (fun t ht _ => ⟨congrArg (fun z => Outcome.returned (some (Value.int z))) hR.symm, ht⟩) (fun _ h => by cases h) dX5_firstOtherwise_45
          · have hR := hR.trans (if_neg q2)
            refine lv_aload_n hx hb dX5_firstOtherwise_23 rfl (lv_at hl 2 rfl) ?_
            refine lv_iload_n hx hb dX5_firstOtherwise_24 rfl (lv_at hl 0 rfl) ?_
            refine xRoV (nL := 4) ⟨hx, hb, hml, hown, hts⟩ (c_X3_read l E (a 17) (a 21) (uS u 0) x3) (cwV 1 hts gX5_firstOtherwise_X3_read rfl rfl rfl ⟨rfl, hd_X3_read⟩ ⟨(Nat.le_of_ble_eq_true rfl), (Nat.le_of_ble_eq_true rfl)⟩) hF hS hA (hP.sub [17, 21] rfl) (va_recv (q := (RX3, TX3, 3)) hK hP (ci := 3) rfl (q0 := 17) rfl) rfl hl.1 rfl (Nat.le_of_ble_eq_true rfl) ⟨(Nat.le_of_ble_eq_true rfl), (Nat.le_of_ble_eq_true rfl)⟩ dX5_firstOtherwise_25 ?_
            refine W.eq (g2 := F0 m 28 ls [.int (s_X3_read (uS u 0) x3)]) rfl ?_
            refine lv_aload_n hx hb dX5_firstOtherwise_28 rfl (lv_at hl 1 rfl) ?_
            refine va_get (D := xD E) (ci := 5) (v := .ref (a 7)) (C := RX5) (T := TX5) (N := 9) hx hb hts (by decide +kernel) hown hK hP 0 rfl rfl 4 (by decide) (hts (.fieldLink RX5 41 "RailOffsets" "line" "LRailOffsets$Line;") (by decide +kernel)) (fun _ h => h) rfl dX5_firstOtherwise_29 ?_
            refine va_get (D := xD E) (ci := 0) (v := .ref (a 10)) (C := RX0) (T := TX0) (N := 8) hx hb hts (by decide +kernel) hown hK hP 7 rfl rfl 3 (by decide) (hts (.fieldLink RX5 131 "RailOffsets$Line" "versines" "[I") (by decide +kernel)) (fun _ h => h) rfl dX5_firstOtherwise_32 ?_
            refine lv_iload_n hx hb dX5_firstOtherwise_35 rfl (lv_at hl 3 rfl) ?_
            refine lv_iload_n hx hb dX5_firstOtherwise_36 rfl (lv_at hl 0 rfl) ?_
            refine lv_iadd hx hb dX5_firstOtherwise_37 ?_
            refine xRoS (nL := 4) ⟨hx, hb, hml, hown, hts⟩ (c_X5_cell l E (a 10) 201 (u.1 10) (p2 + x3)) (va_cwS 2 hts gX5_firstOtherwise_X5_cell rfl rfl rfl hd_X5_cell ⟨(Nat.le_of_ble_eq_true rfl), (Nat.le_of_ble_eq_true rfl)⟩) hF hS hA (hP.sub [10] rfl) rfl hl.1 rfl (Nat.le_of_ble_eq_true rfl) ⟨(Nat.le_of_ble_eq_true rfl), (Nat.le_of_ble_eq_true rfl)⟩ dX5_firstOtherwise_38 ?_
            refine W.eq (g2 := F0 m 41 ls [.int (s_X5_cell 201 (u.1 10) (p2 + x3)), .int (s_X3_read (uS u 0) x3)]) rfl ?_
            refine lv_icmp_eq (tgt := 46) hx hb dX5_firstOtherwise_41 rfl (fun q3 => ?_) (fun q3 => ?_)
            · have hR := hR.trans (if_pos q3)
              refine lv_iinc (k := 0) (v := x3 + 1) (lv' := [(3, .int (x3 + 1)), (0, .ref (a 0)), (1, .ref (a 17)), (2, .int p2)]) hx hb dX5_firstOtherwise_46 hl rfl rfl (by decide) rfl (fun ls hl => ?_)
              refine lv_goto (tgt := 2) hx hb dX5_firstOtherwise_49 rfl ?_
              exact ih2 (x3 + 1) _ (Nat.lt_of_lt_of_le (xupc q1) (Nat.le_of_lt_succ hM2)) hR (lv_sub hl [0, 1, 2, 3] rfl)
            · have hR := hR.trans (if_neg q3)
              refine lv_iload_n hx hb dX5_firstOtherwise_44 rfl (lv_at hl 0 rfl) ?_
              have hR : s_X5_firstOtherwise 0 u p2 = x3 := hR
              exact W.iret (v := x3) hx hb hr (fun t ht _ => ⟨congrArg (fun z => Outcome.returned (some (Value.int z))) hR.symm, ht⟩) (fun _ h => by cases h) dX5_firstOtherwise_45
    exact L2 (((u.2 (8 + 0)).toInt - (0 : Int32).toInt).toNat + 1) 0 ls (Nat.lt_succ_self _) hR hl
  · refine xRo.of (cc := cX5_firstOtherwise) (maxL := 4) (ret := (some .int)) (by decide) rfl (Nat.le_of_ble_eq_true rfl) ?_
    intro p e s m below meth c ls hAt hF hP hS hl
    obtain ⟨hx, hb, hr, hml, hown, hts, hlocks, -⟩ := hAt
    have hown : s.vm.findClass RX5 = some m.cls := hown
    have hl : lv_has ls 4 [(0, .ref (a 0)), (1, .ref (a 18)), (2, .int p2)] := hl
    have hK := hF.1
    have hA : ∀ q : Nat, (fun _ => False) q → xA0 E q := fun _ h => h.elim
    change W p l e rm_X5_firstOtherwise s m ([.ref (a 0), .ref (a 18), .int p2] : List Value).toArray below meth c s.heap [] 0 0 (xQro below (some (.int (s_X5_firstOtherwise 1 u p2))) ([.ref (a 0), .ref (a 18), .int p2] : List Value).toArray s) _
    have hR : s_X5_firstOtherwise 1 u p2 = s_X5_firstOtherwise 1 u p2 := rfl
    refine lv_iconst (v := 0) hx hb dX5_firstOtherwise_0 rfl ?_
    refine lv_istore_n (lv' := [(3, .int 0), (0, .ref (a 0)), (1, .ref (a 18)), (2, .int p2)]) hx hb dX5_firstOtherwise_1 rfl hl (by decide) rfl (fun ls hl => ?_)
    have L2 : ∀ (n2 : Nat) (x3 : Int32) (ls : Array Slot), ((u.2 (8 + 1)).toInt - x3.toInt).toNat < n2 → s_X5_firstOtherwise 1 u p2 = s_X5_firstOtherwise_L2 1 n2 u p2 x3 → lv_has ls 4 [(3, .int x3), (0, .ref (a 0)), (1, .ref (a 18)), (2, .int p2)] → W p l e rm_X5_firstOtherwise s m ([.ref (a 0), .ref (a 18), .int p2] : List Value).toArray below meth c s.heap [] 0 0 (xQro below (some (.int (s_X5_firstOtherwise 1 u p2))) ([.ref (a 0), .ref (a 18), .int p2] : List Value).toArray s) (F0 m 2 ls []) := by
      intro n2
      induction n2 with
      | zero => intro x3 ls hM2 hR hl; exact absurd hM2 (Nat.not_lt_zero _)
      | succ n2 ih2 =>
        intro x3 ls hM2 hR hl
        refine lv_iload_n hx hb dX5_firstOtherwise_2 rfl (lv_at hl 0 rfl) ?_
        refine lv_aload_n hx hb dX5_firstOtherwise_3 rfl (lv_at hl 2 rfl) ?_
        refine va_get (D := xD E) (ci := 3) (v := .int (u.2 9)) (C := RX3) (T := TX3) (N := 3) hx hb hts (by decide +kernel) hown hK hP 18 rfl rfl 2 (by decide) (hts (.fieldLink RX5 264 "RailOffsets$Sheet" "size" "I") (by decide +kernel)) (fun _ h => h) rfl dX5_firstOtherwise_4 ?_
        refine lv_icmp_ge (tgt := 52) hx hb dX5_firstOtherwise_7 rfl (fun q1 => ?_) (fun q1 => ?_)
        · have hR := hR.trans (if_pos q1)
          refine lv_iconst (v := (-1)) hx hb dX5_firstOtherwise_52 rfl ?_
          have hR : s_X5_firstOtherwise 1 u p2 = (-1) := hR
          exact W.iret (v := (-1)) hx hb hr (fun t ht _ => ⟨congrArg (fun z => Outcome.returned (some (Value.int z))) hR.symm, ht⟩) (fun _ h => by cases h) dX5_firstOtherwise_53
        · have hR := hR.trans (if_neg q1)
          refine lv_iload_n hx hb dX5_firstOtherwise_10 rfl (lv_at hl 3 rfl) ?_
          refine lv_iload_n hx hb dX5_firstOtherwise_11 rfl (lv_at hl 0 rfl) ?_
          refine lv_iadd hx hb dX5_firstOtherwise_12 ?_
          refine lv_aload_n hx hb dX5_firstOtherwise_13 rfl (lv_at hl 1 rfl) ?_
          refine va_get (D := xD E) (ci := 5) (v := .ref (a 7)) (C := RX5) (T := TX5) (N := 9) hx hb hts (by decide +kernel) hown hK hP 0 rfl rfl 4 (by decide) (hts (.fieldLink RX5 41 "RailOffsets" "line" "LRailOffsets$Line;") (by decide +kernel)) (fun _ h => h) rfl dX5_firstOtherwise_14 ?_
          refine va_get (D := xD E) (ci := 0) (v := .int (u.2 3)) (C := RX0) (T := TX0) (N := 8) hx hb hts (by decide +kernel) hown hK hP 7 rfl rfl 7 (by decide) (hts (.fieldLink RX5 128 "RailOffsets$Line" "stations" "I") (by decide +kernel)) (fun _ h => h) rfl dX5_firstOtherwise_17 ?_
          refine lv_icmp_gt (tgt := 44) hx hb dX5_firstOtherwise_20 rfl (fun q2 => ?_) (fun q2 => ?_)
          · have hR := hR.trans (if_pos q2)
            refine lv_iload_n hx hb dX5_firstOtherwise_44 rfl (lv_at hl 0 rfl) ?_
            have hR : s_X5_firstOtherwise 1 u p2 = x3 := hR
            exact W.iret (v := x3) hx hb hr (fun t ht _ => ⟨congrArg (fun z => Outcome.returned (some (Value.int z))) hR.symm, ht⟩) (fun _ h => by cases h) dX5_firstOtherwise_45
          · have hR := hR.trans (if_neg q2)
            refine lv_aload_n hx hb dX5_firstOtherwise_23 rfl (lv_at hl 2 rfl) ?_
            refine lv_iload_n hx hb dX5_firstOtherwise_24 rfl (lv_at hl 0 rfl) ?_
            refine xRoV (nL := 4) ⟨hx, hb, hml, hown, hts⟩ (c_X3_read l E (a 18) (a 22) (uS u 1) x3) (cwV 1 hts gX5_firstOtherwise_X3_read rfl rfl rfl ⟨rfl, hd_X3_read⟩ ⟨(Nat.le_of_ble_eq_true rfl), (Nat.le_of_ble_eq_true rfl)⟩) hF hS hA (hP.sub [18, 22] rfl) (va_recv (q := (RX3, TX3, 3)) hK hP (ci := 3) rfl (q0 := 18) rfl) rfl hl.1 rfl (Nat.le_of_ble_eq_true rfl) ⟨(Nat.le_of_ble_eq_true rfl), (Nat.le_of_ble_eq_true rfl)⟩ dX5_firstOtherwise_25 ?_
            refine W.eq (g2 := F0 m 28 ls [.int (s_X3_read (uS u 1) x3)]) rfl ?_
            refine lv_aload_n hx hb dX5_firstOtherwise_28 rfl (lv_at hl 1 rfl) ?_
            refine va_get (D := xD E) (ci := 5) (v := .ref (a 7)) (C := RX5) (T := TX5) (N := 9) hx hb hts (by decide +kernel) hown hK hP 0 rfl rfl 4 (by decide) (hts (.fieldLink RX5 41 "RailOffsets" "line" "LRailOffsets$Line;") (by decide +kernel)) (fun _ h => h) rfl dX5_firstOtherwise_29 ?_
            refine va_get (D := xD E) (ci := 0) (v := .ref (a 10)) (C := RX0) (T := TX0) (N := 8) hx hb hts (by decide +kernel) hown hK hP 7 rfl rfl 3 (by decide) (hts (.fieldLink RX5 131 "RailOffsets$Line" "versines" "[I") (by decide +kernel)) (fun _ h => h) rfl dX5_firstOtherwise_32 ?_
            refine lv_iload_n hx hb dX5_firstOtherwise_35 rfl (lv_at hl 3 rfl) ?_
            refine lv_iload_n hx hb dX5_firstOtherwise_36 rfl (lv_at hl 0 rfl) ?_
            refine lv_iadd hx hb dX5_firstOtherwise_37 ?_
            refine xRoS (nL := 4) ⟨hx, hb, hml, hown, hts⟩ (c_X5_cell l E (a 10) 201 (u.1 10) (p2 + x3)) (va_cwS 2 hts gX5_firstOtherwise_X5_cell rfl rfl rfl hd_X5_cell ⟨(Nat.le_of_ble_eq_true rfl), (Nat.le_of_ble_eq_true rfl)⟩) hF hS hA (hP.sub [10] rfl) rfl hl.1 rfl (Nat.le_of_ble_eq_true rfl) ⟨(Nat.le_of_ble_eq_true rfl), (Nat.le_of_ble_eq_true rfl)⟩ dX5_firstOtherwise_38 ?_
            refine W.eq (g2 := F0 m 41 ls [.int (s_X5_cell 201 (u.1 10) (p2 + x3)), .int (s_X3_read (uS u 1) x3)]) rfl ?_
            refine lv_icmp_eq (tgt := 46) hx hb dX5_firstOtherwise_41 rfl (fun q3 => ?_) (fun q3 => ?_)
            · have hR := hR.trans (if_pos q3)
              refine lv_iinc (k := 0) (v := x3 + 1) (lv' := [(3, .int (x3 + 1)), (0, .ref (a 0)), (1, .ref (a 18)), (2, .int p2)]) hx hb dX5_firstOtherwise_46 hl rfl rfl (by decide) rfl (fun ls hl => ?_)
              refine lv_goto (tgt := 2) hx hb dX5_firstOtherwise_49 rfl ?_
              exact ih2 (x3 + 1) _ (Nat.lt_of_lt_of_le (xupc q1) (Nat.le_of_lt_succ hM2)) hR (lv_sub hl [0, 1, 2, 3] rfl)
            · have hR := hR.trans (if_neg q3)
              refine lv_iload_n hx hb dX5_firstOtherwise_44 rfl (lv_at hl 0 rfl) ?_
              have hR : s_X5_firstOtherwise 1 u p2 = x3 := hR
              exact W.iret (v := x3) hx hb hr (fun t ht _ => ⟨congrArg (fun z => Outcome.returned (some (Value.int z))) hR.symm, ht⟩) (fun _ h => by cases h) dX5_firstOtherwise_45
    exact L2 (((u.2 (8 + 1)).toInt - (0 : Int32).toInt).toNat + 1) 0 ls (Nat.lt_succ_self _) hR hl
  · refine xRo.of (cc := cX5_firstOtherwise) (maxL := 4) (ret := (some .int)) (by decide) rfl (Nat.le_of_ble_eq_true rfl) ?_
    intro p e s m below meth c ls hAt hF hP hS hl
    obtain ⟨hx, hb, hr, hml, hown, hts, hlocks, -⟩ := hAt
    have hown : s.vm.findClass RX5 = some m.cls := hown
    have hl : lv_has ls 4 [(0, .ref (a 0)), (1, .ref (a 19)), (2, .int p2)] := hl
    have hK := hF.1
    have hA : ∀ q : Nat, (fun _ => False) q → xA0 E q := fun _ h => h.elim
    change W p l e rm_X5_firstOtherwise s m ([.ref (a 0), .ref (a 19), .int p2] : List Value).toArray below meth c s.heap [] 0 0 (xQro below (some (.int (s_X5_firstOtherwise 2 u p2))) ([.ref (a 0), .ref (a 19), .int p2] : List Value).toArray s) _
    have hR : s_X5_firstOtherwise 2 u p2 = s_X5_firstOtherwise 2 u p2 := rfl
    refine lv_iconst (v := 0) hx hb dX5_firstOtherwise_0 rfl ?_
    refine lv_istore_n (lv' := [(3, .int 0), (0, .ref (a 0)), (1, .ref (a 19)), (2, .int p2)]) hx hb dX5_firstOtherwise_1 rfl hl (by decide) rfl (fun ls hl => ?_)
    have L2 : ∀ (n2 : Nat) (x3 : Int32) (ls : Array Slot), ((u.2 (8 + 2)).toInt - x3.toInt).toNat < n2 → s_X5_firstOtherwise 2 u p2 = s_X5_firstOtherwise_L2 2 n2 u p2 x3 → lv_has ls 4 [(3, .int x3), (0, .ref (a 0)), (1, .ref (a 19)), (2, .int p2)] → W p l e rm_X5_firstOtherwise s m ([.ref (a 0), .ref (a 19), .int p2] : List Value).toArray below meth c s.heap [] 0 0 (xQro below (some (.int (s_X5_firstOtherwise 2 u p2))) ([.ref (a 0), .ref (a 19), .int p2] : List Value).toArray s) (F0 m 2 ls []) := by
      intro n2
      induction n2 with
      | zero => intro x3 ls hM2 hR hl; exact absurd hM2 (Nat.not_lt_zero _)
      | succ n2 ih2 =>
        intro x3 ls hM2 hR hl
        refine lv_iload_n hx hb dX5_firstOtherwise_2 rfl (lv_at hl 0 rfl) ?_
        refine lv_aload_n hx hb dX5_firstOtherwise_3 rfl (lv_at hl 2 rfl) ?_
        refine va_get (D := xD E) (ci := 3) (v := .int (u.2 10)) (C := RX3) (T := TX3) (N := 3) hx hb hts (by decide +kernel) hown hK hP 19 rfl rfl 2 (by decide) (hts (.fieldLink RX5 264 "RailOffsets$Sheet" "size" "I") (by decide +kernel)) (fun _ h => h) rfl dX5_firstOtherwise_4 ?_
        refine lv_icmp_ge (tgt := 52) hx hb dX5_firstOtherwise_7 rfl (fun q1 => ?_) (fun q1 => ?_)
        · have hR := hR.trans (if_pos q1)
          refine lv_iconst (v := (-1)) hx hb dX5_firstOtherwise_52 rfl ?_
          have hR : s_X5_firstOtherwise 2 u p2 = (-1) := hR
          exact W.iret (v := (-1)) hx hb hr (fun t ht _ => ⟨congrArg (fun z => Outcome.returned (some (Value.int z))) hR.symm, ht⟩) (fun _ h => by cases h) dX5_firstOtherwise_53
        · have hR := hR.trans (if_neg q1)
          refine lv_iload_n hx hb dX5_firstOtherwise_10 rfl (lv_at hl 3 rfl) ?_
          refine lv_iload_n hx hb dX5_firstOtherwise_11 rfl (lv_at hl 0 rfl) ?_
          refine lv_iadd hx hb dX5_firstOtherwise_12 ?_
          refine lv_aload_n hx hb dX5_firstOtherwise_13 rfl (lv_at hl 1 rfl) ?_
          refine va_get (D := xD E) (ci := 5) (v := .ref (a 7)) (C := RX5) (T := TX5) (N := 9) hx hb hts (by decide +kernel) hown hK hP 0 rfl rfl 4 (by decide) (hts (.fieldLink RX5 41 "RailOffsets" "line" "LRailOffsets$Line;") (by decide +kernel)) (fun _ h => h) rfl dX5_firstOtherwise_14 ?_
          refine va_get (D := xD E) (ci := 0) (v := .int (u.2 3)) (C := RX0) (T := TX0) (N := 8) hx hb hts (by decide +kernel) hown hK hP 7 rfl rfl 7 (by decide) (hts (.fieldLink RX5 128 "RailOffsets$Line" "stations" "I") (by decide +kernel)) (fun _ h => h) rfl dX5_firstOtherwise_17 ?_
          refine lv_icmp_gt (tgt := 44) hx hb dX5_firstOtherwise_20 rfl (fun q2 => ?_) (fun q2 => ?_)
          · have hR := hR.trans (if_pos q2)
            refine lv_iload_n hx hb dX5_firstOtherwise_44 rfl (lv_at hl 0 rfl) ?_
            have hR : s_X5_firstOtherwise 2 u p2 = x3 := hR
            exact W.iret (v := x3) hx hb hr (fun t ht _ => ⟨congrArg (fun z => Outcome.returned (some (Value.int z))) hR.symm, ht⟩) (fun _ h => by cases h) dX5_firstOtherwise_45
          · have hR := hR.trans (if_neg q2)
            refine lv_aload_n hx hb dX5_firstOtherwise_23 rfl (lv_at hl 2 rfl) ?_
            refine lv_iload_n hx hb dX5_firstOtherwise_24 rfl (lv_at hl 0 rfl) ?_
            refine xRoV (nL := 4) ⟨hx, hb, hml, hown, hts⟩ (c_X3_read l E (a 19) (a 23) (uS u 2) x3) (cwV 1 hts gX5_firstOtherwise_X3_read rfl rfl rfl ⟨rfl, hd_X3_read⟩ ⟨(Nat.le_of_ble_eq_true rfl), (Nat.le_of_ble_eq_true rfl)⟩) hF hS hA (hP.sub [19, 23] rfl) (va_recv (q := (RX3, TX3, 3)) hK hP (ci := 3) rfl (q0 := 19) rfl) rfl hl.1 rfl (Nat.le_of_ble_eq_true rfl) ⟨(Nat.le_of_ble_eq_true rfl), (Nat.le_of_ble_eq_true rfl)⟩ dX5_firstOtherwise_25 ?_
            refine W.eq (g2 := F0 m 28 ls [.int (s_X3_read (uS u 2) x3)]) rfl ?_
            refine lv_aload_n hx hb dX5_firstOtherwise_28 rfl (lv_at hl 1 rfl) ?_
            refine va_get (D := xD E) (ci := 5) (v := .ref (a 7)) (C := RX5) (T := TX5) (N := 9) hx hb hts (by decide +kernel) hown hK hP 0 rfl rfl 4 (by decide) (hts (.fieldLink RX5 41 "RailOffsets" "line" "LRailOffsets$Line;") (by decide +kernel)) (fun _ h => h) rfl dX5_firstOtherwise_29 ?_
            refine va_get (D := xD E) (ci := 0) (v := .ref (a 10)) (C := RX0) (T := TX0) (N := 8) hx hb hts (by decide +kernel) hown hK hP 7 rfl rfl 3 (by decide) (hts (.fieldLink RX5 131 "RailOffsets$Line" "versines" "[I") (by decide +kernel)) (fun _ h => h) rfl dX5_firstOtherwise_32 ?_
            refine lv_iload_n hx hb dX5_firstOtherwise_35 rfl (lv_at hl 3 rfl) ?_
            refine lv_iload_n hx hb dX5_firstOtherwise_36 rfl (lv_at hl 0 rfl) ?_
            refine lv_iadd hx hb dX5_firstOtherwise_37 ?_
            refine xRoS (nL := 4) ⟨hx, hb, hml, hown, hts⟩ (c_X5_cell l E (a 10) 201 (u.1 10) (p2 + x3)) (va_cwS 2 hts gX5_firstOtherwise_X5_cell rfl rfl rfl hd_X5_cell ⟨(Nat.le_of_ble_eq_true rfl), (Nat.le_of_ble_eq_true rfl)⟩) hF hS hA (hP.sub [10] rfl) rfl hl.1 rfl (Nat.le_of_ble_eq_true rfl) ⟨(Nat.le_of_ble_eq_true rfl), (Nat.le_of_ble_eq_true rfl)⟩ dX5_firstOtherwise_38 ?_
            refine W.eq (g2 := F0 m 41 ls [.int (s_X5_cell 201 (u.1 10) (p2 + x3)), .int (s_X3_read (uS u 2) x3)]) rfl ?_
            refine lv_icmp_eq (tgt := 46) hx hb dX5_firstOtherwise_41 rfl (fun q3 => ?_) (fun q3 => ?_)
            · have hR := hR.trans (if_pos q3)
              refine lv_iinc (k := 0) (v := x3 + 1) (lv' := [(3, .int (x3 + 1)), (0, .ref (a 0)), (1, .ref (a 19)), (2, .int p2)]) hx hb dX5_firstOtherwise_46 hl rfl rfl (by decide) rfl (fun ls hl => ?_)
              refine lv_goto (tgt := 2) hx hb dX5_firstOtherwise_49 rfl ?_
              exact ih2 (x3 + 1) _ (Nat.lt_of_lt_of_le (xupc q1) (Nat.le_of_lt_succ hM2)) hR (lv_sub hl [0, 1, 2, 3] rfl)
            · have hR := hR.trans (if_neg q3)
              refine lv_iload_n hx hb dX5_firstOtherwise_44 rfl (lv_at hl 0 rfl) ?_
              have hR : s_X5_firstOtherwise 2 u p2 = x3 := hR
              exact W.iret (v := x3) hx hb hr (fun t ht _ => ⟨congrArg (fun z => Outcome.returned (some (Value.int z))) hR.symm, ht⟩) (fun _ h => by cases h) dX5_firstOtherwise_45
    exact L2 (((u.2 (8 + 2)).toInt - (0 : Int32).toInt).toNat + 1) 0 ls (Nat.lt_succ_self _) hR hl
  · refine xRo.of (cc := cX5_firstOtherwise) (maxL := 4) (ret := (some .int)) (by decide) rfl (Nat.le_of_ble_eq_true rfl) ?_
    intro p e s m below meth c ls hAt hF hP hS hl
    obtain ⟨hx, hb, hr, hml, hown, hts, hlocks, -⟩ := hAt
    have hown : s.vm.findClass RX5 = some m.cls := hown
    have hl : lv_has ls 4 [(0, .ref (a 0)), (1, .ref (a 20)), (2, .int p2)] := hl
    have hK := hF.1
    have hA : ∀ q : Nat, (fun _ => False) q → xA0 E q := fun _ h => h.elim
    change W p l e rm_X5_firstOtherwise s m ([.ref (a 0), .ref (a 20), .int p2] : List Value).toArray below meth c s.heap [] 0 0 (xQro below (some (.int (s_X5_firstOtherwise 3 u p2))) ([.ref (a 0), .ref (a 20), .int p2] : List Value).toArray s) _
    have hR : s_X5_firstOtherwise 3 u p2 = s_X5_firstOtherwise 3 u p2 := rfl
    refine lv_iconst (v := 0) hx hb dX5_firstOtherwise_0 rfl ?_
    refine lv_istore_n (lv' := [(3, .int 0), (0, .ref (a 0)), (1, .ref (a 20)), (2, .int p2)]) hx hb dX5_firstOtherwise_1 rfl hl (by decide) rfl (fun ls hl => ?_)
    have L2 : ∀ (n2 : Nat) (x3 : Int32) (ls : Array Slot), ((u.2 (8 + 3)).toInt - x3.toInt).toNat < n2 → s_X5_firstOtherwise 3 u p2 = s_X5_firstOtherwise_L2 3 n2 u p2 x3 → lv_has ls 4 [(3, .int x3), (0, .ref (a 0)), (1, .ref (a 20)), (2, .int p2)] → W p l e rm_X5_firstOtherwise s m ([.ref (a 0), .ref (a 20), .int p2] : List Value).toArray below meth c s.heap [] 0 0 (xQro below (some (.int (s_X5_firstOtherwise 3 u p2))) ([.ref (a 0), .ref (a 20), .int p2] : List Value).toArray s) (F0 m 2 ls []) := by
      intro n2
      induction n2 with
      | zero => intro x3 ls hM2 hR hl; exact absurd hM2 (Nat.not_lt_zero _)
      | succ n2 ih2 =>
        intro x3 ls hM2 hR hl
        refine lv_iload_n hx hb dX5_firstOtherwise_2 rfl (lv_at hl 0 rfl) ?_
        refine lv_aload_n hx hb dX5_firstOtherwise_3 rfl (lv_at hl 2 rfl) ?_
        refine va_get (D := xD E) (ci := 3) (v := .int (u.2 11)) (C := RX3) (T := TX3) (N := 3) hx hb hts (by decide +kernel) hown hK hP 20 rfl rfl 2 (by decide) (hts (.fieldLink RX5 264 "RailOffsets$Sheet" "size" "I") (by decide +kernel)) (fun _ h => h) rfl dX5_firstOtherwise_4 ?_
        refine lv_icmp_ge (tgt := 52) hx hb dX5_firstOtherwise_7 rfl (fun q1 => ?_) (fun q1 => ?_)
        · have hR := hR.trans (if_pos q1)
          refine lv_iconst (v := (-1)) hx hb dX5_firstOtherwise_52 rfl ?_
          have hR : s_X5_firstOtherwise 3 u p2 = (-1) := hR
          exact W.iret (v := (-1)) hx hb hr (fun t ht _ => ⟨congrArg (fun z => Outcome.returned (some (Value.int z))) hR.symm, ht⟩) (fun _ h => by cases h) dX5_firstOtherwise_53
        · have hR := hR.trans (if_neg q1)
          refine lv_iload_n hx hb dX5_firstOtherwise_10 rfl (lv_at hl 3 rfl) ?_
          refine lv_iload_n hx hb dX5_firstOtherwise_11 rfl (lv_at hl 0 rfl) ?_
          refine lv_iadd hx hb dX5_firstOtherwise_12 ?_
          refine lv_aload_n hx hb dX5_firstOtherwise_13 rfl (lv_at hl 1 rfl) ?_
          refine va_get (D := xD E) (ci := 5) (v := .ref (a 7)) (C := RX5) (T := TX5) (N := 9) hx hb hts (by decide +kernel) hown hK hP 0 rfl rfl 4 (by decide) (hts (.fieldLink RX5 41 "RailOffsets" "line" "LRailOffsets$Line;") (by decide +kernel)) (fun _ h => h) rfl dX5_firstOtherwise_14 ?_
          refine va_get (D := xD E) (ci := 0) (v := .int (u.2 3)) (C := RX0) (T := TX0) (N := 8) hx hb hts (by decide +kernel) hown hK hP 7 rfl rfl 7 (by decide) (hts (.fieldLink RX5 128 "RailOffsets$Line" "stations" "I") (by decide +kernel)) (fun _ h => h) rfl dX5_firstOtherwise_17 ?_
          refine lv_icmp_gt (tgt := 44) hx hb dX5_firstOtherwise_20 rfl (fun q2 => ?_) (fun q2 => ?_)
          · have hR := hR.trans (if_pos q2)
            refine lv_iload_n hx hb dX5_firstOtherwise_44 rfl (lv_at hl 0 rfl) ?_
            have hR : s_X5_firstOtherwise 3 u p2 = x3 := hR
            exact W.iret (v := x3) hx hb hr (fun t ht _ => ⟨congrArg (fun z => Outcome.returned (some (Value.int z))) hR.symm, ht⟩) (fun _ h => by cases h) dX5_firstOtherwise_45
          · have hR := hR.trans (if_neg q2)
            refine lv_aload_n hx hb dX5_firstOtherwise_23 rfl (lv_at hl 2 rfl) ?_
            refine lv_iload_n hx hb dX5_firstOtherwise_24 rfl (lv_at hl 0 rfl) ?_
            refine xRoV (nL := 4) ⟨hx, hb, hml, hown, hts⟩ (c_X3_read l E (a 20) (a 24) (uS u 3) x3) (cwV 1 hts gX5_firstOtherwise_X3_read rfl rfl rfl ⟨rfl, hd_X3_read⟩ ⟨(Nat.le_of_ble_eq_true rfl), (Nat.le_of_ble_eq_true rfl)⟩) hF hS hA (hP.sub [20, 24] rfl) (va_recv (q := (RX3, TX3, 3)) hK hP (ci := 3) rfl (q0 := 20) rfl) rfl hl.1 rfl (Nat.le_of_ble_eq_true rfl) ⟨(Nat.le_of_ble_eq_true rfl), (Nat.le_of_ble_eq_true rfl)⟩ dX5_firstOtherwise_25 ?_
            refine W.eq (g2 := F0 m 28 ls [.int (s_X3_read (uS u 3) x3)]) rfl ?_
            refine lv_aload_n hx hb dX5_firstOtherwise_28 rfl (lv_at hl 1 rfl) ?_
            refine va_get (D := xD E) (ci := 5) (v := .ref (a 7)) (C := RX5) (T := TX5) (N := 9) hx hb hts (by decide +kernel) hown hK hP 0 rfl rfl 4 (by decide) (hts (.fieldLink RX5 41 "RailOffsets" "line" "LRailOffsets$Line;") (by decide +kernel)) (fun _ h => h) rfl dX5_firstOtherwise_29 ?_
            refine va_get (D := xD E) (ci := 0) (v := .ref (a 10)) (C := RX0) (T := TX0) (N := 8) hx hb hts (by decide +kernel) hown hK hP 7 rfl rfl 3 (by decide) (hts (.fieldLink RX5 131 "RailOffsets$Line" "versines" "[I") (by decide +kernel)) (fun _ h => h) rfl dX5_firstOtherwise_32 ?_
            refine lv_iload_n hx hb dX5_firstOtherwise_35 rfl (lv_at hl 3 rfl) ?_
            refine lv_iload_n hx hb dX5_firstOtherwise_36 rfl (lv_at hl 0 rfl) ?_
            refine lv_iadd hx hb dX5_firstOtherwise_37 ?_
            refine xRoS (nL := 4) ⟨hx, hb, hml, hown, hts⟩ (c_X5_cell l E (a 10) 201 (u.1 10) (p2 + x3)) (va_cwS 2 hts gX5_firstOtherwise_X5_cell rfl rfl rfl hd_X5_cell ⟨(Nat.le_of_ble_eq_true rfl), (Nat.le_of_ble_eq_true rfl)⟩) hF hS hA (hP.sub [10] rfl) rfl hl.1 rfl (Nat.le_of_ble_eq_true rfl) ⟨(Nat.le_of_ble_eq_true rfl), (Nat.le_of_ble_eq_true rfl)⟩ dX5_firstOtherwise_38 ?_
            refine W.eq (g2 := F0 m 41 ls [.int (s_X5_cell 201 (u.1 10) (p2 + x3)), .int (s_X3_read (uS u 3) x3)]) rfl ?_
            refine lv_icmp_eq (tgt := 46) hx hb dX5_firstOtherwise_41 rfl (fun q3 => ?_) (fun q3 => ?_)
            · have hR := hR.trans (if_pos q3)
              refine lv_iinc (k := 0) (v := x3 + 1) (lv' := [(3, .int (x3 + 1)), (0, .ref (a 0)), (1, .ref (a 20)), (2, .int p2)]) hx hb dX5_firstOtherwise_46 hl rfl rfl (by decide) rfl (fun ls hl => ?_)
              refine lv_goto (tgt := 2) hx hb dX5_firstOtherwise_49 rfl ?_
              exact ih2 (x3 + 1) _ (Nat.lt_of_lt_of_le (xupc q1) (Nat.le_of_lt_succ hM2)) hR (lv_sub hl [0, 1, 2, 3] rfl)
            · have hR := hR.trans (if_neg q3)
              refine lv_iload_n hx hb dX5_firstOtherwise_44 rfl (lv_at hl 0 rfl) ?_
              have hR : s_X5_firstOtherwise 3 u p2 = x3 := hR
              exact W.iret (v := x3) hx hb hr (fun t ht _ => ⟨congrArg (fun z => Outcome.returned (some (Value.int z))) hR.symm, ht⟩) (fun _ h => by cases h) dX5_firstOtherwise_45
    exact L2 (((u.2 (8 + 3)).toInt - (0 : Int32).toInt).toNat + 1) 0 ls (Nat.lt_succ_self _) hR hl
