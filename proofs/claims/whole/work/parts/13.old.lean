def s_X1_slewAt_L8 : Nat → xU → Int32 → Int64 → Int64 → Int32 → Int64
  | 0, _, _, _, _, _ => 0
  | n + 1, u, x2, x3, x5, x7 =>
    if x2 < x7 then
      x5
    else
      s_X1_slewAt_L8 n u x2 (x3 + (((s_X5_cell 201 (u.1 15) x7) - (s_X5_cell 201 (u.1 10) x7)).toInt64)) (x5 + (x3 + (((s_X5_cell 201 (u.1 15) x7) - (s_X5_cell 201 (u.1 10) x7)).toInt64))) (x7 + 1)
def s_X1_slewAt (u : xU) (p2 : Int32) : Int64 :=
  s_X1_slewAt_L8 ((p2.toInt + 1 - (1 : Int32).toInt).toNat + 1) u p2 0 0 1
abbrev rm_X1_slewAt : Room := { frames := 1, cells := 0, slots := 0, locals := 21 }
set_option maxHeartbeats 8000000 in
set_option maxRecDepth 100000 in
theorem c_X1_slewAt (l : Launch) (E : xG) (a : Nat → Nat) (u : xU) (p2 : Int32) (hp0 : p2.toInt < 2147483647) : xRo l E yX1_slewAt wsX1_slewAt rm_X1_slewAt [.ref (a 14), .ref (a 7), .int p2] (wX E a u) (some (.long (s_X1_slewAt u p2))) := by
  refine xRo.of (cc := cX1_slewAt) (maxL := 8) (ret := (some .long)) (by decide) rfl (Nat.le_of_ble_eq_true rfl) ?_
  intro p e s m below meth c ls hAt hF hP hS hl
  obtain ⟨hx, hb, hr, hml, hown, hts, hlocks, -⟩ := hAt
  have hown : s.vm.findClass RX1 = some m.cls := hown
  have hl : lv_has ls 8 [(0, .ref (a 14)), (1, .ref (a 7)), (2, .int p2)] := hl
  have hK := hF.1
  have hA : ∀ q : Nat, (fun _ => False) q → xA0 E q := fun _ h => h.elim
  change W p l e rm_X1_slewAt s m ([.ref (a 14), .ref (a 7), .int p2] : List Value).toArray below meth c s.heap [] 0 0 (xQro below (some (.long (s_X1_slewAt u p2))) ([.ref (a 14), .ref (a 7), .int p2] : List Value).toArray s) _
  have hR : s_X1_slewAt u p2 = s_X1_slewAt u p2 := rfl
  refine lv_lconst (v := 0) hx hb dX1_slewAt_0 rfl ?_
  refine lv_lstore_n (lv' := [(3, .long 0), (0, .ref (a 14)), (1, .ref (a 7)), (2, .int p2)]) hx hb dX1_slewAt_1 rfl hl (by decide) rfl (fun ls hl => ?_)
  refine lv_lconst (v := 0) hx hb dX1_slewAt_2 rfl ?_
  refine lv_lstore (lv' := [(5, .long 0), (3, .long 0), (0, .ref (a 14)), (1, .ref (a 7)), (2, .int p2)]) hx hb dX1_slewAt_3 hl (by decide) rfl (fun ls hl => ?_)
  refine lv_iconst (v := 1) hx hb dX1_slewAt_5 rfl ?_
  refine lv_istore (lv' := [(7, .int 1), (5, .long 0), (3, .long 0), (0, .ref (a 14)), (1, .ref (a 7)), (2, .int p2)]) hx hb dX1_slewAt_6 hl (by decide) rfl (fun ls hl => ?_)
  have L8 : ∀ (n8 : Nat) (x3 : Int64) (x5 : Int64) (x7 : Int32) (ls : Array Slot), (p2.toInt + 1 - x7.toInt).toNat < n8 → s_X1_slewAt u p2 = s_X1_slewAt_L8 n8 u p2 x3 x5 x7 → lv_has ls 8 [(7, .int x7), (5, .long x5), (3, .long x3), (0, .ref (a 14)), (1, .ref (a 7)), (2, .int p2)] → W p l e rm_X1_slewAt s m ([.ref (a 14), .ref (a 7), .int p2] : List Value).toArray below meth c s.heap [] 0 0 (xQro below (some (.long (s_X1_slewAt u p2))) ([.ref (a 14), .ref (a 7), .int p2] : List Value).toArray s) (F0 m 8 ls []) := by
    intro n8
    induction n8 with
    | zero => intro x3 x5 x7 ls hM hR hl; exact absurd hM (Nat.not_lt_zero _)
    | succ n8 ih8 =>
      intro x3 x5 x7 ls hM hR hl
      refine lv_iload hx hb dX1_slewAt_8 (lv_at hl 0 rfl) ?_
      refine lv_iload_n hx hb dX1_slewAt_10 rfl (lv_at hl 5 rfl) ?_
      refine lv_icmp_gt (tgt := 49) hx hb dX1_slewAt_11 rfl (fun q1 => ?_) (fun q1 => ?_)
      · have hR := hR.trans (if_pos q1)
        refine lv_lload hx hb dX1_slewAt_49 (lv_at hl 1 rfl) ?_
        have hR : s_X1_slewAt u p2 = x5 := hR
        exact W.lret (v := x5) hx hb hr (fun t ht _ => ⟨congrArg (fun z => Outcome.returned (some (Value.long z))) hR.symm, ht⟩) (fun _ h => by cases h) dX1_slewAt_51
      · have hR := hR.trans (if_neg q1)
        refine lv_lload_n hx hb dX1_slewAt_14 rfl (lv_at hl 2 rfl) ?_
        refine lv_aload_n hx hb dX1_slewAt_15 rfl (lv_at hl 3 rfl) ?_
        refine va_get (D := xD E) (ci := 1) (v := .ref (a 15)) (C := RX1) (T := TX1) (N := 1) hx hb hts (by decide +kernel) hown hK hP 14 rfl rfl 0 (by decide) (hts (.fieldLink RX1 9 "RailOffsets$OldLine" "versines" "[I") (by decide +kernel)) (fun _ h => h) rfl dX1_slewAt_16 ?_
        refine lv_iload hx hb dX1_slewAt_19 (lv_at hl 0 rfl) ?_
        refine xRoSN (nL := 8) ⟨hx, hb, hml, hown, hts⟩ (c_X5_cell l E (a 15) 201 (u.1 15) x7) ⟨va_cnB (own := RX1) (host := RX5) (index := 42) (y := yX5_cell) 2 hts gX1_slewAt_X5_cell_n42 rfl rfl rfl (hF.2.1.1 (RX1, 42, yX5_cell) (List.mem_of_getElem? (i := 8) rfl)) (hts (.initialized RX5) (by decide +kernel)) hd_X5_cell ⟨(Nat.le_of_ble_eq_true rfl), (Nat.le_of_ble_eq_true rfl)⟩, hts (.static yX5_cell) (by decide +kernel), trivial⟩ hF hS hA (hP.sub [15] rfl) rfl hl.1 rfl (Nat.le_of_ble_eq_true rfl) ⟨(Nat.le_of_ble_eq_true rfl), (Nat.le_of_ble_eq_true rfl)⟩ dX1_slewAt_21 ?_
        refine W.eq (g2 := F0 m 24 ls [.int (s_X5_cell 201 (u.1 15) x7), .long x3]) rfl ?_
        refine lv_aload_n hx hb dX1_slewAt_24 rfl (lv_at hl 4 rfl) ?_
        refine va_get (D := xD E) (ci := 0) (v := .ref (a 10)) (C := RX0) (T := TX0) (N := 8) hx hb hts (by decide +kernel) hown hK hP 7 rfl rfl 3 (by decide) (hts (.fieldLink RX1 41 "RailOffsets$Line" "versines" "[I") (by decide +kernel)) (fun _ h => h) rfl dX1_slewAt_25 ?_
        refine lv_iload hx hb dX1_slewAt_28 (lv_at hl 0 rfl) ?_
        refine xRoSN (nL := 8) ⟨hx, hb, hml, hown, hts⟩ (c_X5_cell l E (a 10) 201 (u.1 10) x7) ⟨va_cnB (own := RX1) (host := RX5) (index := 42) (y := yX5_cell) 2 hts gX1_slewAt_X5_cell_n42 rfl rfl rfl (hF.2.1.1 (RX1, 42, yX5_cell) (List.mem_of_getElem? (i := 8) rfl)) (hts (.initialized RX5) (by decide +kernel)) hd_X5_cell ⟨(Nat.le_of_ble_eq_true rfl), (Nat.le_of_ble_eq_true rfl)⟩, hts (.static yX5_cell) (by decide +kernel), trivial⟩ hF hS hA (hP.sub [10] rfl) rfl hl.1 rfl (Nat.le_of_ble_eq_true rfl) ⟨(Nat.le_of_ble_eq_true rfl), (Nat.le_of_ble_eq_true rfl)⟩ dX1_slewAt_30 ?_
        refine W.eq (g2 := F0 m 33 ls [.int (s_X5_cell 201 (u.1 10) x7), .int (s_X5_cell 201 (u.1 15) x7), .long x3]) rfl ?_
        refine lv_isub hx hb dX1_slewAt_33 ?_
        refine lv_i2l hx hb dX1_slewAt_34 rfl ?_
        refine lv_ladd hx hb dX1_slewAt_35 ?_
        refine lv_lstore_n (lv' := [(3, .long (x3 + (((s_X5_cell 201 (u.1 15) x7) - (s_X5_cell 201 (u.1 10) x7)).toInt64))), (7, .int x7), (5, .long x5), (0, .ref (a 14)), (1, .ref (a 7)), (2, .int p2)]) hx hb dX1_slewAt_36 rfl hl (by decide) rfl (fun ls hl => ?_)
        refine lv_lload hx hb dX1_slewAt_37 (lv_at hl 2 rfl) ?_
        refine lv_lload_n hx hb dX1_slewAt_39 rfl (lv_at hl 0 rfl) ?_
        refine lv_ladd hx hb dX1_slewAt_40 ?_
        refine lv_lstore (lv' := [(5, .long (x5 + (x3 + (((s_X5_cell 201 (u.1 15) x7) - (s_X5_cell 201 (u.1 10) x7)).toInt64)))), (3, .long (x3 + (((s_X5_cell 201 (u.1 15) x7) - (s_X5_cell 201 (u.1 10) x7)).toInt64))), (7, .int x7), (0, .ref (a 14)), (1, .ref (a 7)), (2, .int p2)]) hx hb dX1_slewAt_41 hl (by decide) rfl (fun ls hl => ?_)
        refine lv_iinc (k := 2) (v := x7 + 1) (lv' := [(7, .int (x7 + 1)), (5, .long (x5 + (x3 + (((s_X5_cell 201 (u.1 15) x7) - (s_X5_cell 201 (u.1 10) x7)).toInt64)))), (3, .long (x3 + (((s_X5_cell 201 (u.1 15) x7) - (s_X5_cell 201 (u.1 10) x7)).toInt64))), (0, .ref (a 14)), (1, .ref (a 7)), (2, .int p2)]) hx hb dX1_slewAt_43 hl rfl rfl (by decide) rfl (fun ls hl => ?_)
        refine lv_goto (tgt := 8) hx hb dX1_slewAt_46 rfl ?_
        exact ih8 (x3 + (((s_X5_cell 201 (u.1 15) x7) - (s_X5_cell 201 (u.1 10) x7)).toInt64)) (x5 + (x3 + (((s_X5_cell 201 (u.1 15) x7) - (s_X5_cell 201 (u.1 10) x7)).toInt64))) (x7 + 1) _ (Nat.lt_of_lt_of_le (xupl q1 (hp0)) (Nat.le_of_lt_succ hM)) hR (lv_sub hl [0, 1, 2, 3, 4, 5] rfl)
  exact L8 ((p2.toInt + 1 - (1 : Int32).toInt).toNat + 1) 0 0 1 ls (Nat.lt_succ_self _) hR hl
def s_X1_greatest_L11 : Nat → xU → Int64 → Int64 → Int64 → Int32 → Int64
  | 0, _, _, _, _, _ => 0
  | n + 1, u, x2, x4, x6, x8 =>
    if (u.2 3) < x8 then
      x6
    else
      s_X1_greatest_L11 n u (x2 + (((s_X5_cell 201 (u.1 15) x8) - (s_X5_cell 201 (u.1 10) x8)).toInt64)) (x4 + (x2 + (((s_X5_cell 201 (u.1 15) x8) - (s_X5_cell 201 (u.1 10) x8)).toInt64))) (lMax x6 (lAbs (x4 + (x2 + (((s_X5_cell 201 (u.1 15) x8) - (s_X5_cell 201 (u.1 10) x8)).toInt64))))) (x8 + 1)
def s_X1_greatest (u : xU) : Int64 :=
  s_X1_greatest_L11 (((u.2 3).toInt + 1 - (1 : Int32).toInt).toNat + 1) u 0 0 0 1
abbrev rm_X1_greatest : Room := { frames := 1, cells := 0, slots := 0, locals := 23 }
set_option maxHeartbeats 8000000 in
set_option maxRecDepth 100000 in
theorem c_X1_greatest (l : Launch) (E : xG) (a : Nat → Nat) (u : xU)  (hp0 : (u.2 3).toInt < 2147483647) : xRo l E yX1_greatest wsX1_greatest rm_X1_greatest [.ref (a 14), .ref (a 7)] (wX E a u) (some (.long (s_X1_greatest u))) := by
  refine xRo.of (cc := cX1_greatest) (maxL := 9) (ret := (some .long)) (by decide) rfl (Nat.le_of_ble_eq_true rfl) ?_
  intro p e s m below meth c ls hAt hF hP hS hl
  obtain ⟨hx, hb, hr, hml, hown, hts, hlocks, -⟩ := hAt
  have hown : s.vm.findClass RX1 = some m.cls := hown
  have hl : lv_has ls 9 [(0, .ref (a 14)), (1, .ref (a 7))] := hl
  have hK := hF.1
  have hA : ∀ q : Nat, (fun _ => False) q → xA0 E q := fun _ h => h.elim
  change W p l e rm_X1_greatest s m ([.ref (a 14), .ref (a 7)] : List Value).toArray below meth c s.heap [] 0 0 (xQro below (some (.long (s_X1_greatest u))) ([.ref (a 14), .ref (a 7)] : List Value).toArray s) _
  have hR : s_X1_greatest u = s_X1_greatest u := rfl
  refine lv_lconst (v := 0) hx hb dX1_greatest_0 rfl ?_
  refine lv_lstore_n (lv' := [(2, .long 0), (0, .ref (a 14)), (1, .ref (a 7))]) hx hb dX1_greatest_1 rfl hl (by decide) rfl (fun ls hl => ?_)
  refine lv_lconst (v := 0) hx hb dX1_greatest_2 rfl ?_
  refine lv_lstore (lv' := [(4, .long 0), (2, .long 0), (0, .ref (a 14)), (1, .ref (a 7))]) hx hb dX1_greatest_3 hl (by decide) rfl (fun ls hl => ?_)
  refine lv_lconst (v := 0) hx hb dX1_greatest_5 rfl ?_
  refine lv_lstore (lv' := [(6, .long 0), (4, .long 0), (2, .long 0), (0, .ref (a 14)), (1, .ref (a 7))]) hx hb dX1_greatest_6 hl (by decide) rfl (fun ls hl => ?_)
  refine lv_iconst (v := 1) hx hb dX1_greatest_8 rfl ?_
  refine lv_istore (lv' := [(8, .int 1), (6, .long 0), (4, .long 0), (2, .long 0), (0, .ref (a 14)), (1, .ref (a 7))]) hx hb dX1_greatest_9 hl (by decide) rfl (fun ls hl => ?_)
  have L11 : ∀ (n11 : Nat) (x2 : Int64) (x4 : Int64) (x6 : Int64) (x8 : Int32) (ls : Array Slot), ((u.2 3).toInt + 1 - x8.toInt).toNat < n11 → s_X1_greatest u = s_X1_greatest_L11 n11 u x2 x4 x6 x8 → lv_has ls 9 [(8, .int x8), (6, .long x6), (4, .long x4), (2, .long x2), (0, .ref (a 14)), (1, .ref (a 7))] → W p l e rm_X1_greatest s m ([.ref (a 14), .ref (a 7)] : List Value).toArray below meth c s.heap [] 0 0 (xQro below (some (.long (s_X1_greatest u))) ([.ref (a 14), .ref (a 7)] : List Value).toArray s) (F0 m 11 ls []) := by
    intro n11
    induction n11 with
    | zero => intro x2 x4 x6 x8 ls hM hR hl; exact absurd hM (Nat.not_lt_zero _)
    | succ n11 ih11 =>
      intro x2 x4 x6 x8 ls hM hR hl
      refine lv_iload hx hb dX1_greatest_11 (lv_at hl 0 rfl) ?_
      refine lv_aload_n hx hb dX1_greatest_13 rfl (lv_at hl 5 rfl) ?_
      refine va_get (D := xD E) (ci := 0) (v := .int (u.2 3)) (C := RX0) (T := TX0) (N := 8) hx hb hts (by decide +kernel) hown hK hP 7 rfl rfl 7 (by decide) (hts (.fieldLink RX1 34 "RailOffsets$Line" "stations" "I") (by decide +kernel)) (fun _ h => h) rfl dX1_greatest_14 ?_
      refine lv_icmp_gt (tgt := 67) hx hb dX1_greatest_17 rfl (fun q1 => ?_) (fun q1 => ?_)
      · have hR := hR.trans (if_pos q1)
        refine lv_lload hx hb dX1_greatest_67 (lv_at hl 1 rfl) ?_
        have hR : s_X1_greatest u = x6 := hR
        exact W.lret (v := x6) hx hb hr (fun t ht _ => ⟨congrArg (fun z => Outcome.returned (some (Value.long z))) hR.symm, ht⟩) (fun _ h => by cases h) dX1_greatest_69
      · have hR := hR.trans (if_neg q1)
        refine lv_lload_n hx hb dX1_greatest_20 rfl (lv_at hl 3 rfl) ?_
        refine lv_aload_n hx hb dX1_greatest_21 rfl (lv_at hl 4 rfl) ?_
        refine va_get (D := xD E) (ci := 1) (v := .ref (a 15)) (C := RX1) (T := TX1) (N := 1) hx hb hts (by decide +kernel) hown hK hP 14 rfl rfl 0 (by decide) (hts (.fieldLink RX1 9 "RailOffsets$OldLine" "versines" "[I") (by decide +kernel)) (fun _ h => h) rfl dX1_greatest_22 ?_
        refine lv_iload hx hb dX1_greatest_25 (lv_at hl 0 rfl) ?_
        refine xRoSN (nL := 9) ⟨hx, hb, hml, hown, hts⟩ (c_X5_cell l E (a 15) 201 (u.1 15) x8) ⟨va_cnB (own := RX1) (host := RX5) (index := 42) (y := yX5_cell) 2 hts gX1_greatest_X5_cell_n42 rfl rfl rfl (hF.2.1.1 (RX1, 42, yX5_cell) (List.mem_of_getElem? (i := 8) rfl)) (hts (.initialized RX5) (by decide +kernel)) hd_X5_cell ⟨(Nat.le_of_ble_eq_true rfl), (Nat.le_of_ble_eq_true rfl)⟩, hts (.static yX5_cell) (by decide +kernel), trivial⟩ hF hS hA (hP.sub [15] rfl) rfl hl.1 rfl (Nat.le_of_ble_eq_true rfl) ⟨(Nat.le_of_ble_eq_true rfl), (Nat.le_of_ble_eq_true rfl)⟩ dX1_greatest_27 ?_
        refine W.eq (g2 := F0 m 30 ls [.int (s_X5_cell 201 (u.1 15) x8), .long x2]) rfl ?_
        refine lv_aload_n hx hb dX1_greatest_30 rfl (lv_at hl 5 rfl) ?_
        refine va_get (D := xD E) (ci := 0) (v := .ref (a 10)) (C := RX0) (T := TX0) (N := 8) hx hb hts (by decide +kernel) hown hK hP 7 rfl rfl 3 (by decide) (hts (.fieldLink RX1 41 "RailOffsets$Line" "versines" "[I") (by decide +kernel)) (fun _ h => h) rfl dX1_greatest_31 ?_
        refine lv_iload hx hb dX1_greatest_34 (lv_at hl 0 rfl) ?_
        refine xRoSN (nL := 9) ⟨hx, hb, hml, hown, hts⟩ (c_X5_cell l E (a 10) 201 (u.1 10) x8) ⟨va_cnB (own := RX1) (host := RX5) (index := 42) (y := yX5_cell) 2 hts gX1_greatest_X5_cell_n42 rfl rfl rfl (hF.2.1.1 (RX1, 42, yX5_cell) (List.mem_of_getElem? (i := 8) rfl)) (hts (.initialized RX5) (by decide +kernel)) hd_X5_cell ⟨(Nat.le_of_ble_eq_true rfl), (Nat.le_of_ble_eq_true rfl)⟩, hts (.static yX5_cell) (by decide +kernel), trivial⟩ hF hS hA (hP.sub [10] rfl) rfl hl.1 rfl (Nat.le_of_ble_eq_true rfl) ⟨(Nat.le_of_ble_eq_true rfl), (Nat.le_of_ble_eq_true rfl)⟩ dX1_greatest_36 ?_
        refine W.eq (g2 := F0 m 39 ls [.int (s_X5_cell 201 (u.1 10) x8), .int (s_X5_cell 201 (u.1 15) x8), .long x2]) rfl ?_
        refine lv_isub hx hb dX1_greatest_39 ?_
        refine lv_i2l hx hb dX1_greatest_40 rfl ?_
        refine lv_ladd hx hb dX1_greatest_41 ?_
        refine lv_lstore_n (lv' := [(2, .long (x2 + (((s_X5_cell 201 (u.1 15) x8) - (s_X5_cell 201 (u.1 10) x8)).toInt64))), (8, .int x8), (6, .long x6), (4, .long x4), (0, .ref (a 14)), (1, .ref (a 7))]) hx hb dX1_greatest_42 rfl hl (by decide) rfl (fun ls hl => ?_)
        refine lv_lload hx hb dX1_greatest_43 (lv_at hl 3 rfl) ?_
        refine lv_lload_n hx hb dX1_greatest_45 rfl (lv_at hl 0 rfl) ?_
        refine lv_ladd hx hb dX1_greatest_46 ?_
        refine lv_lstore (lv' := [(4, .long (x4 + (x2 + (((s_X5_cell 201 (u.1 15) x8) - (s_X5_cell 201 (u.1 10) x8)).toInt64)))), (2, .long (x2 + (((s_X5_cell 201 (u.1 15) x8) - (s_X5_cell 201 (u.1 10) x8)).toInt64))), (8, .int x8), (6, .long x6), (0, .ref (a 14)), (1, .ref (a 7))]) hx hb dX1_greatest_47 hl (by decide) rfl (fun ls hl => ?_)
        refine lv_lload hx hb dX1_greatest_49 (lv_at hl 3 rfl) ?_
        refine lv_lload hx hb dX1_greatest_51 (lv_at hl 0 rfl) ?_
        refine va_mabs_long hx hb (hml.trans hl.1.symm) hown (hts (.methodLink RX1 46 Lib.MathLoose.abs_long.x) (by decide +kernel)) (hts (.static Lib.MathLoose.abs_long.x) (by decide +kernel)) (hts (.initialized "java/lang/Math") (by decide +kernel)) (hts (.code Lib.MathLoose.abs_long.x Lib.MathLoose.abs_long.code 2 (some .long)) (by decide +kernel)) (Nat.le_of_ble_eq_true rfl) (Nat.le_of_ble_eq_true rfl) (Nat.le_of_ble_eq_true rfl) (Nat.le_of_ble_eq_true rfl) dX1_greatest_53 ?_
        refine W.eq (g2 := F0 m 56 ls [.long (lAbs (x4 + (x2 + (((s_X5_cell 201 (u.1 15) x8) - (s_X5_cell 201 (u.1 10) x8)).toInt64)))), .long x6]) rfl ?_
        refine va_mmax_long hx hb (hml.trans hl.1.symm) hown (hts (.methodLink RX1 50 Lib.MathLoose.max_long.x) (by decide +kernel)) (hts (.static Lib.MathLoose.max_long.x) (by decide +kernel)) (hts (.initialized "java/lang/Math") (by decide +kernel)) (hts (.code Lib.MathLoose.max_long.x Lib.MathLoose.max_long.code 4 (some .long)) (by decide +kernel)) (Nat.le_of_ble_eq_true rfl) (Nat.le_of_ble_eq_true rfl) (Nat.le_of_ble_eq_true rfl) (Nat.le_of_ble_eq_true rfl) dX1_greatest_56 ?_
        refine W.eq (g2 := F0 m 59 ls [.long (lMax x6 (lAbs (x4 + (x2 + (((s_X5_cell 201 (u.1 15) x8) - (s_X5_cell 201 (u.1 10) x8)).toInt64)))))]) rfl ?_
        refine lv_lstore (lv' := [(6, .long (lMax x6 (lAbs (x4 + (x2 + (((s_X5_cell 201 (u.1 15) x8) - (s_X5_cell 201 (u.1 10) x8)).toInt64)))))), (4, .long (x4 + (x2 + (((s_X5_cell 201 (u.1 15) x8) - (s_X5_cell 201 (u.1 10) x8)).toInt64)))), (2, .long (x2 + (((s_X5_cell 201 (u.1 15) x8) - (s_X5_cell 201 (u.1 10) x8)).toInt64))), (8, .int x8), (0, .ref (a 14)), (1, .ref (a 7))]) hx hb dX1_greatest_59 hl (by decide) rfl (fun ls hl => ?_)
        refine lv_iinc (k := 3) (v := x8 + 1) (lv' := [(8, .int (x8 + 1)), (6, .long (lMax x6 (lAbs (x4 + (x2 + (((s_X5_cell 201 (u.1 15) x8) - (s_X5_cell 201 (u.1 10) x8)).toInt64)))))), (4, .long (x4 + (x2 + (((s_X5_cell 201 (u.1 15) x8) - (s_X5_cell 201 (u.1 10) x8)).toInt64)))), (2, .long (x2 + (((s_X5_cell 201 (u.1 15) x8) - (s_X5_cell 201 (u.1 10) x8)).toInt64))), (0, .ref (a 14)), (1, .ref (a 7))]) hx hb dX1_greatest_61 hl rfl rfl (by decide) rfl (fun ls hl => ?_)
        refine lv_goto (tgt := 11) hx hb dX1_greatest_64 rfl ?_
        exact ih11 (x2 + (((s_X5_cell 201 (u.1 15) x8) - (s_X5_cell 201 (u.1 10) x8)).toInt64)) (x4 + (x2 + (((s_X5_cell 201 (u.1 15) x8) - (s_X5_cell 201 (u.1 10) x8)).toInt64))) (lMax x6 (lAbs (x4 + (x2 + (((s_X5_cell 201 (u.1 15) x8) - (s_X5_cell 201 (u.1 10) x8)).toInt64))))) (x8 + 1) _ (Nat.lt_of_lt_of_le (xupl q1 (hp0)) (Nat.le_of_lt_succ hM)) hR (lv_sub hl [0, 1, 2, 3, 4, 5] rfl)
  exact L11 (((u.2 3).toInt + 1 - (1 : Int32).toInt).toNat + 1) 0 0 0 1 ls (Nat.lt_succ_self _) hR hl
def s_X1_widest_L16 : Nat → xU → Int64 → Int64 → Int64 → Int32 → Int32 → Int32
  | 0, _, _, _, _, _, _ => 0
  | n + 1, u, x2, x4, x6, x8, x9 =>
    if (u.2 3) < x9 then
      x8
    else
      if (lg_cmp (lAbs (x4 + (x2 + (((s_X5_cell 201 (u.1 15) x9) - (s_X5_cell 201 (u.1 10) x9)).toInt64)))) x6) ≤ 0 then
        s_X1_widest_L16 n u (x2 + (((s_X5_cell 201 (u.1 15) x9) - (s_X5_cell 201 (u.1 10) x9)).toInt64)) (x4 + (x2 + (((s_X5_cell 201 (u.1 15) x9) - (s_X5_cell 201 (u.1 10) x9)).toInt64))) x6 x8 (x9 + 1)
      else
        s_X1_widest_L16 n u (x2 + (((s_X5_cell 201 (u.1 15) x9) - (s_X5_cell 201 (u.1 10) x9)).toInt64)) (x4 + (x2 + (((s_X5_cell 201 (u.1 15) x9) - (s_X5_cell 201 (u.1 10) x9)).toInt64))) (lAbs (x4 + (x2 + (((s_X5_cell 201 (u.1 15) x9) - (s_X5_cell 201 (u.1 10) x9)).toInt64)))) x9 (x9 + 1)
def s_X1_widest (u : xU) : Int32 :=
  s_X1_widest_L16 (((u.2 3).toInt + 1 - (1 : Int32).toInt).toNat + 1) u 0 0 (-1) (-1) 1
abbrev rm_X1_widest : Room := { frames := 1, cells := 0, slots := 0, locals := 21 }
set_option maxHeartbeats 8000000 in
set_option maxRecDepth 100000 in
theorem c_X1_widest (l : Launch) (E : xG) (a : Nat → Nat) (u : xU)  (hp0 : (u.2 3).toInt < 2147483647) : xRo l E yX1_widest wsX1_widest rm_X1_widest [.ref (a 14), .ref (a 7)] (wX E a u) (some (.int (s_X1_widest u))) := by
  refine xRo.of (cc := cX1_widest) (maxL := 10) (ret := (some .int)) (by decide) rfl (Nat.le_of_ble_eq_true rfl) ?_
  intro p e s m below meth c ls hAt hF hP hS hl
  obtain ⟨hx, hb, hr, hml, hown, hts, hlocks, -⟩ := hAt
  have hown : s.vm.findClass RX1 = some m.cls := hown
  have hl : lv_has ls 10 [(0, .ref (a 14)), (1, .ref (a 7))] := hl
  have hK := hF.1
  have hA : ∀ q : Nat, (fun _ => False) q → xA0 E q := fun _ h => h.elim
  change W p l e rm_X1_widest s m ([.ref (a 14), .ref (a 7)] : List Value).toArray below meth c s.heap [] 0 0 (xQro below (some (.int (s_X1_widest u))) ([.ref (a 14), .ref (a 7)] : List Value).toArray s) _
  have hR : s_X1_widest u = s_X1_widest u := rfl
  refine lv_lconst (v := 0) hx hb dX1_widest_0 rfl ?_
  refine lv_lstore_n (lv' := [(2, .long 0), (0, .ref (a 14)), (1, .ref (a 7))]) hx hb dX1_widest_1 rfl hl (by decide) rfl (fun ls hl => ?_)
  refine lv_lconst (v := 0) hx hb dX1_widest_2 rfl ?_
  refine lv_lstore (lv' := [(4, .long 0), (2, .long 0), (0, .ref (a 14)), (1, .ref (a 7))]) hx hb dX1_widest_3 hl (by decide) rfl (fun ls hl => ?_)
  refine lv_ldc2 (v := (-1)) hx hb hown (hts (.constantLong RX1 53 (-1)) (by decide +kernel)) dX1_widest_5 ?_
  refine lv_lstore (lv' := [(6, .long (-1)), (4, .long 0), (2, .long 0), (0, .ref (a 14)), (1, .ref (a 7))]) hx hb dX1_widest_8 hl (by decide) rfl (fun ls hl => ?_)
  refine lv_iconst (v := (-1)) hx hb dX1_widest_10 rfl ?_
  refine lv_istore (lv' := [(8, .int (-1)), (6, .long (-1)), (4, .long 0), (2, .long 0), (0, .ref (a 14)), (1, .ref (a 7))]) hx hb dX1_widest_11 hl (by decide) rfl (fun ls hl => ?_)
  refine lv_iconst (v := 1) hx hb dX1_widest_13 rfl ?_
  refine lv_istore (lv' := [(9, .int 1), (8, .int (-1)), (6, .long (-1)), (4, .long 0), (2, .long 0), (0, .ref (a 14)), (1, .ref (a 7))]) hx hb dX1_widest_14 hl (by decide) rfl (fun ls hl => ?_)
  have L16 : ∀ (n16 : Nat) (x2 : Int64) (x4 : Int64) (x6 : Int64) (x8 : Int32) (x9 : Int32) (ls : Array Slot), ((u.2 3).toInt + 1 - x9.toInt).toNat < n16 → s_X1_widest u = s_X1_widest_L16 n16 u x2 x4 x6 x8 x9 → lv_has ls 10 [(9, .int x9), (8, .int x8), (6, .long x6), (4, .long x4), (2, .long x2), (0, .ref (a 14)), (1, .ref (a 7))] → W p l e rm_X1_widest s m ([.ref (a 14), .ref (a 7)] : List Value).toArray below meth c s.heap [] 0 0 (xQro below (some (.int (s_X1_widest u))) ([.ref (a 14), .ref (a 7)] : List Value).toArray s) (F0 m 16 ls []) := by
    intro n16
    induction n16 with
    | zero => intro x2 x4 x6 x8 x9 ls hM hR hl; exact absurd hM (Nat.not_lt_zero _)
    | succ n16 ih16 =>
      intro x2 x4 x6 x8 x9 ls hM hR hl
      refine lv_iload hx hb dX1_widest_16 (lv_at hl 0 rfl) ?_
      refine lv_aload_n hx hb dX1_widest_18 rfl (lv_at hl 6 rfl) ?_
      refine va_get (D := xD E) (ci := 0) (v := .int (u.2 3)) (C := RX0) (T := TX0) (N := 8) hx hb hts (by decide +kernel) hown hK hP 7 rfl rfl 7 (by decide) (hts (.fieldLink RX1 34 "RailOffsets$Line" "stations" "I") (by decide +kernel)) (fun _ h => h) rfl dX1_widest_19 ?_
      refine lv_icmp_gt (tgt := 82) hx hb dX1_widest_22 rfl (fun q1 => ?_) (fun q1 => ?_)
      · have hR := hR.trans (if_pos q1)
        refine lv_iload hx hb dX1_widest_82 (lv_at hl 1 rfl) ?_
        have hR : s_X1_widest u = x8 := hR
        exact W.iret (v := x8) hx hb hr (fun t ht _ => ⟨congrArg (fun z => Outcome.returned (some (Value.int z))) hR.symm, ht⟩) (fun _ h => by cases h) dX1_widest_84
      · have hR := hR.trans (if_neg q1)
        refine lv_lload_n hx hb dX1_widest_25 rfl (lv_at hl 4 rfl) ?_
        refine lv_aload_n hx hb dX1_widest_26 rfl (lv_at hl 5 rfl) ?_
        refine va_get (D := xD E) (ci := 1) (v := .ref (a 15)) (C := RX1) (T := TX1) (N := 1) hx hb hts (by decide +kernel) hown hK hP 14 rfl rfl 0 (by decide) (hts (.fieldLink RX1 9 "RailOffsets$OldLine" "versines" "[I") (by decide +kernel)) (fun _ h => h) rfl dX1_widest_27 ?_
        refine lv_iload hx hb dX1_widest_30 (lv_at hl 0 rfl) ?_
        refine xRoSN (nL := 10) ⟨hx, hb, hml, hown, hts⟩ (c_X5_cell l E (a 15) 201 (u.1 15) x9) ⟨va_cnB (own := RX1) (host := RX5) (index := 42) (y := yX5_cell) 2 hts gX1_widest_X5_cell_n42 rfl rfl rfl (hF.2.1.1 (RX1, 42, yX5_cell) (List.mem_of_getElem? (i := 8) rfl)) (hts (.initialized RX5) (by decide +kernel)) hd_X5_cell ⟨(Nat.le_of_ble_eq_true rfl), (Nat.le_of_ble_eq_true rfl)⟩, hts (.static yX5_cell) (by decide +kernel), trivial⟩ hF hS hA (hP.sub [15] rfl) rfl hl.1 rfl (Nat.le_of_ble_eq_true rfl) ⟨(Nat.le_of_ble_eq_true rfl), (Nat.le_of_ble_eq_true rfl)⟩ dX1_widest_32 ?_
        refine W.eq (g2 := F0 m 35 ls [.int (s_X5_cell 201 (u.1 15) x9), .long x2]) rfl ?_
        refine lv_aload_n hx hb dX1_widest_35 rfl (lv_at hl 6 rfl) ?_
        refine va_get (D := xD E) (ci := 0) (v := .ref (a 10)) (C := RX0) (T := TX0) (N := 8) hx hb hts (by decide +kernel) hown hK hP 7 rfl rfl 3 (by decide) (hts (.fieldLink RX1 41 "RailOffsets$Line" "versines" "[I") (by decide +kernel)) (fun _ h => h) rfl dX1_widest_36 ?_
        refine lv_iload hx hb dX1_widest_39 (lv_at hl 0 rfl) ?_
        refine xRoSN (nL := 10) ⟨hx, hb, hml, hown, hts⟩ (c_X5_cell l E (a 10) 201 (u.1 10) x9) ⟨va_cnB (own := RX1) (host := RX5) (index := 42) (y := yX5_cell) 2 hts gX1_widest_X5_cell_n42 rfl rfl rfl (hF.2.1.1 (RX1, 42, yX5_cell) (List.mem_of_getElem? (i := 8) rfl)) (hts (.initialized RX5) (by decide +kernel)) hd_X5_cell ⟨(Nat.le_of_ble_eq_true rfl), (Nat.le_of_ble_eq_true rfl)⟩, hts (.static yX5_cell) (by decide +kernel), trivial⟩ hF hS hA (hP.sub [10] rfl) rfl hl.1 rfl (Nat.le_of_ble_eq_true rfl) ⟨(Nat.le_of_ble_eq_true rfl), (Nat.le_of_ble_eq_true rfl)⟩ dX1_widest_41 ?_
        refine W.eq (g2 := F0 m 44 ls [.int (s_X5_cell 201 (u.1 10) x9), .int (s_X5_cell 201 (u.1 15) x9), .long x2]) rfl ?_
        refine lv_isub hx hb dX1_widest_44 ?_
        refine lv_i2l hx hb dX1_widest_45 rfl ?_
        refine lv_ladd hx hb dX1_widest_46 ?_
        refine lv_lstore_n (lv' := [(2, .long (x2 + (((s_X5_cell 201 (u.1 15) x9) - (s_X5_cell 201 (u.1 10) x9)).toInt64))), (9, .int x9), (8, .int x8), (6, .long x6), (4, .long x4), (0, .ref (a 14)), (1, .ref (a 7))]) hx hb dX1_widest_47 rfl hl (by decide) rfl (fun ls hl => ?_)
        refine lv_lload hx hb dX1_widest_48 (lv_at hl 4 rfl) ?_
        refine lv_lload_n hx hb dX1_widest_50 rfl (lv_at hl 0 rfl) ?_
        refine lv_ladd hx hb dX1_widest_51 ?_
        refine lv_lstore (lv' := [(4, .long (x4 + (x2 + (((s_X5_cell 201 (u.1 15) x9) - (s_X5_cell 201 (u.1 10) x9)).toInt64)))), (2, .long (x2 + (((s_X5_cell 201 (u.1 15) x9) - (s_X5_cell 201 (u.1 10) x9)).toInt64))), (9, .int x9), (8, .int x8), (6, .long x6), (0, .ref (a 14)), (1, .ref (a 7))]) hx hb dX1_widest_52 hl (by decide) rfl (fun ls hl => ?_)
        refine lv_lload hx hb dX1_widest_54 (lv_at hl 0 rfl) ?_
        refine va_mabs_long hx hb (hml.trans hl.1.symm) hown (hts (.methodLink RX1 46 Lib.MathLoose.abs_long.x) (by decide +kernel)) (hts (.static Lib.MathLoose.abs_long.x) (by decide +kernel)) (hts (.initialized "java/lang/Math") (by decide +kernel)) (hts (.code Lib.MathLoose.abs_long.x Lib.MathLoose.abs_long.code 2 (some .long)) (by decide +kernel)) (Nat.le_of_ble_eq_true rfl) (Nat.le_of_ble_eq_true rfl) (Nat.le_of_ble_eq_true rfl) (Nat.le_of_ble_eq_true rfl) dX1_widest_56 ?_
        refine W.eq (g2 := F0 m 59 ls [.long (lAbs (x4 + (x2 + (((s_X5_cell 201 (u.1 15) x9) - (s_X5_cell 201 (u.1 10) x9)).toInt64))))]) rfl ?_
        refine lv_lload hx hb dX1_widest_59 (lv_at hl 4 rfl) ?_
        refine W.lcmp hx hb dX1_widest_61 ?_
        refine lv_if_le (tgt := 76) hx hb dX1_widest_62 rfl (fun q2 => ?_) (fun q2 => ?_)
        · have hR := hR.trans (if_pos q2)
          refine lv_iinc (k := 2) (v := x9 + 1) (lv' := [(9, .int (x9 + 1)), (4, .long (x4 + (x2 + (((s_X5_cell 201 (u.1 15) x9) - (s_X5_cell 201 (u.1 10) x9)).toInt64)))), (2, .long (x2 + (((s_X5_cell 201 (u.1 15) x9) - (s_X5_cell 201 (u.1 10) x9)).toInt64))), (8, .int x8), (6, .long x6), (0, .ref (a 14)), (1, .ref (a 7))]) hx hb dX1_widest_76 hl rfl rfl (by decide) rfl (fun ls hl => ?_)
          refine lv_goto (tgt := 16) hx hb dX1_widest_79 rfl ?_
          exact ih16 (x2 + (((s_X5_cell 201 (u.1 15) x9) - (s_X5_cell 201 (u.1 10) x9)).toInt64)) (x4 + (x2 + (((s_X5_cell 201 (u.1 15) x9) - (s_X5_cell 201 (u.1 10) x9)).toInt64))) x6 x8 (x9 + 1) _ (Nat.lt_of_lt_of_le (xupl q1 (hp0)) (Nat.le_of_lt_succ hM)) hR (lv_sub hl [0, 3, 4, 1, 2, 5, 6] rfl)
        · have hR := hR.trans (if_neg q2)
          refine lv_lload hx hb dX1_widest_65 (lv_at hl 0 rfl) ?_
          refine va_mabs_long hx hb (hml.trans hl.1.symm) hown (hts (.methodLink RX1 46 Lib.MathLoose.abs_long.x) (by decide +kernel)) (hts (.static Lib.MathLoose.abs_long.x) (by decide +kernel)) (hts (.initialized "java/lang/Math") (by decide +kernel)) (hts (.code Lib.MathLoose.abs_long.x Lib.MathLoose.abs_long.code 2 (some .long)) (by decide +kernel)) (Nat.le_of_ble_eq_true rfl) (Nat.le_of_ble_eq_true rfl) (Nat.le_of_ble_eq_true rfl) (Nat.le_of_ble_eq_true rfl) dX1_widest_67 ?_
          refine W.eq (g2 := F0 m 70 ls [.long (lAbs (x4 + (x2 + (((s_X5_cell 201 (u.1 15) x9) - (s_X5_cell 201 (u.1 10) x9)).toInt64))))]) rfl ?_
          refine lv_lstore (lv' := [(6, .long (lAbs (x4 + (x2 + (((s_X5_cell 201 (u.1 15) x9) - (s_X5_cell 201 (u.1 10) x9)).toInt64))))), (4, .long (x4 + (x2 + (((s_X5_cell 201 (u.1 15) x9) - (s_X5_cell 201 (u.1 10) x9)).toInt64)))), (2, .long (x2 + (((s_X5_cell 201 (u.1 15) x9) - (s_X5_cell 201 (u.1 10) x9)).toInt64))), (9, .int x9), (8, .int x8), (0, .ref (a 14)), (1, .ref (a 7))]) hx hb dX1_widest_70 hl (by decide) rfl (fun ls hl => ?_)
          refine lv_iload hx hb dX1_widest_72 (lv_at hl 3 rfl) ?_
          refine lv_istore (lv' := [(8, .int x9), (6, .long (lAbs (x4 + (x2 + (((s_X5_cell 201 (u.1 15) x9) - (s_X5_cell 201 (u.1 10) x9)).toInt64))))), (4, .long (x4 + (x2 + (((s_X5_cell 201 (u.1 15) x9) - (s_X5_cell 201 (u.1 10) x9)).toInt64)))), (2, .long (x2 + (((s_X5_cell 201 (u.1 15) x9) - (s_X5_cell 201 (u.1 10) x9)).toInt64))), (9, .int x9), (0, .ref (a 14)), (1, .ref (a 7))]) hx hb dX1_widest_74 hl (by decide) rfl (fun ls hl => ?_)
          refine lv_iinc (k := 4) (v := x9 + 1) (lv' := [(9, .int (x9 + 1)), (8, .int x9), (6, .long (lAbs (x4 + (x2 + (((s_X5_cell 201 (u.1 15) x9) - (s_X5_cell 201 (u.1 10) x9)).toInt64))))), (4, .long (x4 + (x2 + (((s_X5_cell 201 (u.1 15) x9) - (s_X5_cell 201 (u.1 10) x9)).toInt64)))), (2, .long (x2 + (((s_X5_cell 201 (u.1 15) x9) - (s_X5_cell 201 (u.1 10) x9)).toInt64))), (0, .ref (a 14)), (1, .ref (a 7))]) hx hb dX1_widest_76 hl rfl rfl (by decide) rfl (fun ls hl => ?_)
          refine lv_goto (tgt := 16) hx hb dX1_widest_79 rfl ?_
          exact ih16 (x2 + (((s_X5_cell 201 (u.1 15) x9) - (s_X5_cell 201 (u.1 10) x9)).toInt64)) (x4 + (x2 + (((s_X5_cell 201 (u.1 15) x9) - (s_X5_cell 201 (u.1 10) x9)).toInt64))) (lAbs (x4 + (x2 + (((s_X5_cell 201 (u.1 15) x9) - (s_X5_cell 201 (u.1 10) x9)).toInt64)))) x9 (x9 + 1) _ (Nat.lt_of_lt_of_le (xupl q1 (hp0)) (Nat.le_of_lt_succ hM)) hR (lv_sub hl [0, 1, 2, 3, 4, 5, 6] rfl)
  exact L16 (((u.2 3).toInt + 1 - (1 : Int32).toInt).toNat + 1) 0 0 (-1) (-1) 1 ls (Nat.lt_succ_self _) hR hl
def s_X1_together_L11 : Nat → xU → Int64 → Int64 → Int64 → Int32 → Int64
  | 0, _, _, _, _, _ => 0
  | n + 1, u, x2, x4, x6, x8 =>
    if (u.2 3) < x8 then
      x6
    else
      s_X1_together_L11 n u (x2 + (((s_X5_cell 201 (u.1 15) x8) - (s_X5_cell 201 (u.1 10) x8)).toInt64)) (x4 + (x2 + (((s_X5_cell 201 (u.1 15) x8) - (s_X5_cell 201 (u.1 10) x8)).toInt64))) (x6 + (lAbs (x4 + (x2 + (((s_X5_cell 201 (u.1 15) x8) - (s_X5_cell 201 (u.1 10) x8)).toInt64))))) (x8 + 1)
def s_X1_together (u : xU) : Int64 :=
  s_X1_together_L11 (((u.2 3).toInt + 1 - (1 : Int32).toInt).toNat + 1) u 0 0 0 1
abbrev rm_X1_together : Room := { frames := 1, cells := 0, slots := 0, locals := 21 }
set_option maxHeartbeats 8000000 in
set_option maxRecDepth 100000 in
theorem c_X1_together (l : Launch) (E : xG) (a : Nat → Nat) (u : xU)  (hp0 : (u.2 3).toInt < 2147483647) : xRo l E yX1_together wsX1_together rm_X1_together [.ref (a 14), .ref (a 7)] (wX E a u) (some (.long (s_X1_together u))) := by
  refine xRo.of (cc := cX1_together) (maxL := 9) (ret := (some .long)) (by decide) rfl (Nat.le_of_ble_eq_true rfl) ?_
  intro p e s m below meth c ls hAt hF hP hS hl
  obtain ⟨hx, hb, hr, hml, hown, hts, hlocks, -⟩ := hAt
  have hown : s.vm.findClass RX1 = some m.cls := hown
  have hl : lv_has ls 9 [(0, .ref (a 14)), (1, .ref (a 7))] := hl
  have hK := hF.1
  have hA : ∀ q : Nat, (fun _ => False) q → xA0 E q := fun _ h => h.elim
  change W p l e rm_X1_together s m ([.ref (a 14), .ref (a 7)] : List Value).toArray below meth c s.heap [] 0 0 (xQro below (some (.long (s_X1_together u))) ([.ref (a 14), .ref (a 7)] : List Value).toArray s) _
  have hR : s_X1_together u = s_X1_together u := rfl
  refine lv_lconst (v := 0) hx hb dX1_together_0 rfl ?_
  refine lv_lstore_n (lv' := [(2, .long 0), (0, .ref (a 14)), (1, .ref (a 7))]) hx hb dX1_together_1 rfl hl (by decide) rfl (fun ls hl => ?_)
  refine lv_lconst (v := 0) hx hb dX1_together_2 rfl ?_
  refine lv_lstore (lv' := [(4, .long 0), (2, .long 0), (0, .ref (a 14)), (1, .ref (a 7))]) hx hb dX1_together_3 hl (by decide) rfl (fun ls hl => ?_)
  refine lv_lconst (v := 0) hx hb dX1_together_5 rfl ?_
  refine lv_lstore (lv' := [(6, .long 0), (4, .long 0), (2, .long 0), (0, .ref (a 14)), (1, .ref (a 7))]) hx hb dX1_together_6 hl (by decide) rfl (fun ls hl => ?_)
  refine lv_iconst (v := 1) hx hb dX1_together_8 rfl ?_
  refine lv_istore (lv' := [(8, .int 1), (6, .long 0), (4, .long 0), (2, .long 0), (0, .ref (a 14)), (1, .ref (a 7))]) hx hb dX1_together_9 hl (by decide) rfl (fun ls hl => ?_)
  have L11 : ∀ (n11 : Nat) (x2 : Int64) (x4 : Int64) (x6 : Int64) (x8 : Int32) (ls : Array Slot), ((u.2 3).toInt + 1 - x8.toInt).toNat < n11 → s_X1_together u = s_X1_together_L11 n11 u x2 x4 x6 x8 → lv_has ls 9 [(8, .int x8), (6, .long x6), (4, .long x4), (2, .long x2), (0, .ref (a 14)), (1, .ref (a 7))] → W p l e rm_X1_together s m ([.ref (a 14), .ref (a 7)] : List Value).toArray below meth c s.heap [] 0 0 (xQro below (some (.long (s_X1_together u))) ([.ref (a 14), .ref (a 7)] : List Value).toArray s) (F0 m 11 ls []) := by
    intro n11
    induction n11 with
    | zero => intro x2 x4 x6 x8 ls hM hR hl; exact absurd hM (Nat.not_lt_zero _)
    | succ n11 ih11 =>
      intro x2 x4 x6 x8 ls hM hR hl
      refine lv_iload hx hb dX1_together_11 (lv_at hl 0 rfl) ?_
      refine lv_aload_n hx hb dX1_together_13 rfl (lv_at hl 5 rfl) ?_
      refine va_get (D := xD E) (ci := 0) (v := .int (u.2 3)) (C := RX0) (T := TX0) (N := 8) hx hb hts (by decide +kernel) hown hK hP 7 rfl rfl 7 (by decide) (hts (.fieldLink RX1 34 "RailOffsets$Line" "stations" "I") (by decide +kernel)) (fun _ h => h) rfl dX1_together_14 ?_
      refine lv_icmp_gt (tgt := 65) hx hb dX1_together_17 rfl (fun q1 => ?_) (fun q1 => ?_)
      · have hR := hR.trans (if_pos q1)
        refine lv_lload hx hb dX1_together_65 (lv_at hl 1 rfl) ?_
        have hR : s_X1_together u = x6 := hR
        exact W.lret (v := x6) hx hb hr (fun t ht _ => ⟨congrArg (fun z => Outcome.returned (some (Value.long z))) hR.symm, ht⟩) (fun _ h => by cases h) dX1_together_67
      · have hR := hR.trans (if_neg q1)
        refine lv_lload_n hx hb dX1_together_20 rfl (lv_at hl 3 rfl) ?_
        refine lv_aload_n hx hb dX1_together_21 rfl (lv_at hl 4 rfl) ?_
        refine va_get (D := xD E) (ci := 1) (v := .ref (a 15)) (C := RX1) (T := TX1) (N := 1) hx hb hts (by decide +kernel) hown hK hP 14 rfl rfl 0 (by decide) (hts (.fieldLink RX1 9 "RailOffsets$OldLine" "versines" "[I") (by decide +kernel)) (fun _ h => h) rfl dX1_together_22 ?_
        refine lv_iload hx hb dX1_together_25 (lv_at hl 0 rfl) ?_
        refine xRoSN (nL := 9) ⟨hx, hb, hml, hown, hts⟩ (c_X5_cell l E (a 15) 201 (u.1 15) x8) ⟨va_cnB (own := RX1) (host := RX5) (index := 42) (y := yX5_cell) 2 hts gX1_together_X5_cell_n42 rfl rfl rfl (hF.2.1.1 (RX1, 42, yX5_cell) (List.mem_of_getElem? (i := 8) rfl)) (hts (.initialized RX5) (by decide +kernel)) hd_X5_cell ⟨(Nat.le_of_ble_eq_true rfl), (Nat.le_of_ble_eq_true rfl)⟩, hts (.static yX5_cell) (by decide +kernel), trivial⟩ hF hS hA (hP.sub [15] rfl) rfl hl.1 rfl (Nat.le_of_ble_eq_true rfl) ⟨(Nat.le_of_ble_eq_true rfl), (Nat.le_of_ble_eq_true rfl)⟩ dX1_together_27 ?_
        refine W.eq (g2 := F0 m 30 ls [.int (s_X5_cell 201 (u.1 15) x8), .long x2]) rfl ?_
        refine lv_aload_n hx hb dX1_together_30 rfl (lv_at hl 5 rfl) ?_
        refine va_get (D := xD E) (ci := 0) (v := .ref (a 10)) (C := RX0) (T := TX0) (N := 8) hx hb hts (by decide +kernel) hown hK hP 7 rfl rfl 3 (by decide) (hts (.fieldLink RX1 41 "RailOffsets$Line" "versines" "[I") (by decide +kernel)) (fun _ h => h) rfl dX1_together_31 ?_
        refine lv_iload hx hb dX1_together_34 (lv_at hl 0 rfl) ?_
        refine xRoSN (nL := 9) ⟨hx, hb, hml, hown, hts⟩ (c_X5_cell l E (a 10) 201 (u.1 10) x8) ⟨va_cnB (own := RX1) (host := RX5) (index := 42) (y := yX5_cell) 2 hts gX1_together_X5_cell_n42 rfl rfl rfl (hF.2.1.1 (RX1, 42, yX5_cell) (List.mem_of_getElem? (i := 8) rfl)) (hts (.initialized RX5) (by decide +kernel)) hd_X5_cell ⟨(Nat.le_of_ble_eq_true rfl), (Nat.le_of_ble_eq_true rfl)⟩, hts (.static yX5_cell) (by decide +kernel), trivial⟩ hF hS hA (hP.sub [10] rfl) rfl hl.1 rfl (Nat.le_of_ble_eq_true rfl) ⟨(Nat.le_of_ble_eq_true rfl), (Nat.le_of_ble_eq_true rfl)⟩ dX1_together_36 ?_
        refine W.eq (g2 := F0 m 39 ls [.int (s_X5_cell 201 (u.1 10) x8), .int (s_X5_cell 201 (u.1 15) x8), .long x2]) rfl ?_
        refine lv_isub hx hb dX1_together_39 ?_
        refine lv_i2l hx hb dX1_together_40 rfl ?_
        refine lv_ladd hx hb dX1_together_41 ?_
        refine lv_lstore_n (lv' := [(2, .long (x2 + (((s_X5_cell 201 (u.1 15) x8) - (s_X5_cell 201 (u.1 10) x8)).toInt64))), (8, .int x8), (6, .long x6), (4, .long x4), (0, .ref (a 14)), (1, .ref (a 7))]) hx hb dX1_together_42 rfl hl (by decide) rfl (fun ls hl => ?_)
        refine lv_lload hx hb dX1_together_43 (lv_at hl 3 rfl) ?_
        refine lv_lload_n hx hb dX1_together_45 rfl (lv_at hl 0 rfl) ?_
        refine lv_ladd hx hb dX1_together_46 ?_
        refine lv_lstore (lv' := [(4, .long (x4 + (x2 + (((s_X5_cell 201 (u.1 15) x8) - (s_X5_cell 201 (u.1 10) x8)).toInt64)))), (2, .long (x2 + (((s_X5_cell 201 (u.1 15) x8) - (s_X5_cell 201 (u.1 10) x8)).toInt64))), (8, .int x8), (6, .long x6), (0, .ref (a 14)), (1, .ref (a 7))]) hx hb dX1_together_47 hl (by decide) rfl (fun ls hl => ?_)
        refine lv_lload hx hb dX1_together_49 (lv_at hl 3 rfl) ?_
        refine lv_lload hx hb dX1_together_51 (lv_at hl 0 rfl) ?_
        refine va_mabs_long hx hb (hml.trans hl.1.symm) hown (hts (.methodLink RX1 46 Lib.MathLoose.abs_long.x) (by decide +kernel)) (hts (.static Lib.MathLoose.abs_long.x) (by decide +kernel)) (hts (.initialized "java/lang/Math") (by decide +kernel)) (hts (.code Lib.MathLoose.abs_long.x Lib.MathLoose.abs_long.code 2 (some .long)) (by decide +kernel)) (Nat.le_of_ble_eq_true rfl) (Nat.le_of_ble_eq_true rfl) (Nat.le_of_ble_eq_true rfl) (Nat.le_of_ble_eq_true rfl) dX1_together_53 ?_
        refine W.eq (g2 := F0 m 56 ls [.long (lAbs (x4 + (x2 + (((s_X5_cell 201 (u.1 15) x8) - (s_X5_cell 201 (u.1 10) x8)).toInt64)))), .long x6]) rfl ?_
        refine lv_ladd hx hb dX1_together_56 ?_
        refine lv_lstore (lv' := [(6, .long (x6 + (lAbs (x4 + (x2 + (((s_X5_cell 201 (u.1 15) x8) - (s_X5_cell 201 (u.1 10) x8)).toInt64)))))), (4, .long (x4 + (x2 + (((s_X5_cell 201 (u.1 15) x8) - (s_X5_cell 201 (u.1 10) x8)).toInt64)))), (2, .long (x2 + (((s_X5_cell 201 (u.1 15) x8) - (s_X5_cell 201 (u.1 10) x8)).toInt64))), (8, .int x8), (0, .ref (a 14)), (1, .ref (a 7))]) hx hb dX1_together_57 hl (by decide) rfl (fun ls hl => ?_)
        refine lv_iinc (k := 3) (v := x8 + 1) (lv' := [(8, .int (x8 + 1)), (6, .long (x6 + (lAbs (x4 + (x2 + (((s_X5_cell 201 (u.1 15) x8) - (s_X5_cell 201 (u.1 10) x8)).toInt64)))))), (4, .long (x4 + (x2 + (((s_X5_cell 201 (u.1 15) x8) - (s_X5_cell 201 (u.1 10) x8)).toInt64)))), (2, .long (x2 + (((s_X5_cell 201 (u.1 15) x8) - (s_X5_cell 201 (u.1 10) x8)).toInt64))), (0, .ref (a 14)), (1, .ref (a 7))]) hx hb dX1_together_59 hl rfl rfl (by decide) rfl (fun ls hl => ?_)
        refine lv_goto (tgt := 11) hx hb dX1_together_62 rfl ?_
        exact ih11 (x2 + (((s_X5_cell 201 (u.1 15) x8) - (s_X5_cell 201 (u.1 10) x8)).toInt64)) (x4 + (x2 + (((s_X5_cell 201 (u.1 15) x8) - (s_X5_cell 201 (u.1 10) x8)).toInt64))) (x6 + (lAbs (x4 + (x2 + (((s_X5_cell 201 (u.1 15) x8) - (s_X5_cell 201 (u.1 10) x8)).toInt64))))) (x8 + 1) _ (Nat.lt_of_lt_of_le (xupl q1 (hp0)) (Nat.le_of_lt_succ hM)) hR (lv_sub hl [0, 1, 2, 3, 4, 5] rfl)
  exact L11 (((u.2 3).toInt + 1 - (1 : Int32).toInt).toNat + 1) 0 0 0 1 ls (Nat.lt_succ_self _) hR hl
def s_X1_tell_L2 (k : Nat) : Nat → xU → Int32 → xU
  | 0, u, _ => u
  | n + 1, u, x2 =>
    if 201 ≤ x2 then
      u
    else
      s_X1_tell_L2 k n (uR u 15 (s_X5_mark 201 (u.1 15) x2 (iMax (-999) (iMin 999 (s_X3_read (uS u k) (x2 - 1)))))) (x2 + 1)
def s_X1_tell (k : Nat) (u : xU) : xU :=
  s_X1_tell_L2 k (((201 : Int32).toInt - (1 : Int32).toInt).toNat + 1) u 1
abbrev rm_X1_tell : Room := { frames := 2, cells := 0, slots := 0, locals := 42 }
set_option maxHeartbeats 8000000 in
set_option maxRecDepth 100000 in
theorem c_X1_tell (l : Launch) (E : xG) (a : Nat → Nat) (u : xU) (k : Nat) (hk : k < 4)  (hL : xOK E (LX a)) : xMd l E yX1_tell wsX1_tell rm_X1_tell (LX a) [.ref (a 14), .ref (a (17 + k))] (wX E a u) (none) (wX E a (s_X1_tell k u)) := by
  have hk4 : k = 0 ∨ k = 1 ∨ k = 2 ∨ k = 3 := by omega
  rcases hk4 with rfl | rfl | rfl | rfl
  · refine xMd.of (cc := cX1_tell) (maxL := 4) (ret := none) (by decide) rfl (Nat.le_of_ble_eq_true rfl) ?_
    intro p e s m below meth c ls hAt hF hP hS hl
    obtain ⟨hx, hb, hr, hml, hown, hts, hlocks, -⟩ := hAt
    have hown : s.vm.findClass RX1 = some m.cls := hown
    have hl : lv_has ls 4 [(0, .ref (a 14)), (1, .ref (a 17))] := hl
    have hK := hF.1
    have hA := hL.2
    change W p l e rm_X1_tell s m ([.ref (a 14), .ref (a 17)] : List Value).toArray below meth c s.heap [] 0 0 (xQmd E below (LX a) (none) (wX E a (s_X1_tell 0 u)) ([.ref (a 14), .ref (a 17)] : List Value).toArray s) _
    have hS : va_S (· ∈ LX a) s.heap s.heap [] := hS
    have hR : s_X1_tell 0 u = s_X1_tell 0 u := rfl
    refine lv_iconst (v := 1) hx hb dX1_tell_0 rfl ?_
    refine lv_istore_n (lv' := [(2, .int 1), (0, .ref (a 14)), (1, .ref (a 17))]) hx hb dX1_tell_1 rfl hl (by decide) rfl (fun ls hl => ?_)
    have L2 : ∀ (n2 : Nat) (u2 : xU) (x2 : Int32) (H : Heap) (locs : List Loc) (ls : Array Slot), ((201 : Int32).toInt - x2.toInt).toNat < n2 → s_X1_tell 0 u = s_X1_tell_L2 0 n2 u2 x2 → lv_has ls 4 [(2, .int x2), (0, .ref (a 14)), (1, .ref (a 17))] → va_P (xD E) vwCl (wX E a u2) H → va_S (· ∈ LX a) s.heap H locs → W p l e rm_X1_tell s m ([.ref (a 14), .ref (a 17)] : List Value).toArray below meth c H locs 0 0 (xQmd E below (LX a) (none) (wX E a (s_X1_tell 0 u)) ([.ref (a 14), .ref (a 17)] : List Value).toArray s) (F0 m 2 ls []) := by
      intro n2
      induction n2 with
      | zero => intro u2 x2 H locs ls hM hR hl hP hS; exact absurd hM (Nat.not_lt_zero _)
      | succ n2 ih2 =>
        intro u2 x2 H locs ls hM hR hl hP hS
        refine lv_iload_n hx hb dX1_tell_2 rfl (lv_at hl 0 rfl) ?_
        refine lv_aload_n hx hb dX1_tell_3 rfl (lv_at hl 1 rfl) ?_
        refine va_get (D := xD E) (ci := 1) (v := .ref (a 15)) (C := RX1) (T := TX1) (N := 1) hx hb hts (by decide +kernel) hown hK hP 14 rfl rfl 0 (by decide) (hts (.fieldLink RX1 9 "RailOffsets$OldLine" "versines" "[I") (by decide +kernel)) (fun _ h => h) rfl dX1_tell_4 ?_
        refine va_alen (v := 201) hx hb hK hP 15 0 rfl rfl rfl dX1_tell_7 ?_
        refine lv_icmp_ge (tgt := 46) hx hb dX1_tell_8 rfl (fun q1 => ?_) (fun q1 => ?_)
        · have hR := hR.trans (if_pos q1)
          have hR : s_X1_tell 0 u = u2 := hR
          exact W.vret hx hb hr (fun t ht _ => by rw [hR]; exact ⟨⟨rfl, by rw [ht]; exact hP⟩, hS.F ht⟩) hS.2.2 dX1_tell_46
        · have hR := hR.trans (if_neg q1)
          refine lv_aload_n hx hb dX1_tell_11 rfl (lv_at hl 2 rfl) ?_
          refine lv_iload_n hx hb dX1_tell_12 rfl (lv_at hl 0 rfl) ?_
          refine lv_iconst (v := 1) hx hb dX1_tell_13 rfl ?_
          refine lv_isub hx hb dX1_tell_14 ?_
          refine xRoV (nL := 4) ⟨hx, hb, hml, hown, hts⟩ (c_X3_read l E (a 17) (a 21) (uS u2 0) (x2 - 1)) (cwV 1 hts gX1_tell_X3_read rfl rfl rfl ⟨rfl, hd_X3_read⟩ ⟨(Nat.le_of_ble_eq_true rfl), (Nat.le_of_ble_eq_true rfl)⟩) hF hS hA (hP.sub [17, 21] rfl) (va_recv (q := (RX3, TX3, 3)) hK hP (ci := 3) rfl (q0 := 17) rfl) rfl hl.1 rfl (Nat.le_of_ble_eq_true rfl) ⟨(Nat.le_of_ble_eq_true rfl), (Nat.le_of_ble_eq_true rfl)⟩ dX1_tell_15 ?_
          refine W.eq (g2 := F0 m 18 ls [.int (s_X3_read (uS u2 0) (x2 - 1))]) rfl ?_
          refine lv_istore_n (lv' := [(3, .int (s_X3_read (uS u2 0) (x2 - 1))), (2, .int x2), (0, .ref (a 14)), (1, .ref (a 17))]) hx hb dX1_tell_18 rfl hl (by decide) rfl (fun ls hl => ?_)
          refine lv_aload_n hx hb dX1_tell_19 rfl (lv_at hl 2 rfl) ?_
          refine va_get (D := xD E) (ci := 1) (v := .ref (a 15)) (C := RX1) (T := TX1) (N := 1) hx hb hts (by decide +kernel) hown hK hP 14 rfl rfl 0 (by decide) (hts (.fieldLink RX1 9 "RailOffsets$OldLine" "versines" "[I") (by decide +kernel)) (fun _ h => h) rfl dX1_tell_20 ?_
          refine lv_iload_n hx hb dX1_tell_23 rfl (lv_at hl 1 rfl) ?_
          refine lv_sipush (v := (-999)) hx hb dX1_tell_24 rfl ?_
          refine lv_sipush (v := 999) hx hb dX1_tell_27 rfl ?_
          refine lv_iload_n hx hb dX1_tell_30 rfl (lv_at hl 0 rfl) ?_
          refine va_mmin hx hb (hml.trans hl.1.symm) hown (hts (.methodLink RX1 21 Lib.Math.min.name) (by decide +kernel)) (hts (.static Lib.Math.min.name) (by decide +kernel)) (hts (.initialized "java/lang/Math") (by decide +kernel)) (hts (.code Lib.Math.min.name Lib.Math.min.code 2 (some .int)) (by decide +kernel)) (Nat.le_of_ble_eq_true rfl) (Nat.le_of_ble_eq_true rfl) (Nat.le_of_ble_eq_true rfl) (Nat.le_of_ble_eq_true rfl) dX1_tell_31 ?_
          refine W.eq (g2 := F0 m 34 ls [.int (iMin 999 (s_X3_read (uS u2 0) (x2 - 1))), .int (-999), .int x2, .ref (a 15)]) rfl ?_
          refine va_mmax hx hb (hml.trans hl.1.symm) hown (hts (.methodLink RX1 27 Lib.Math.max.name) (by decide +kernel)) (hts (.static Lib.Math.max.name) (by decide +kernel)) (hts (.initialized "java/lang/Math") (by decide +kernel)) (hts (.code Lib.Math.max.name Lib.Math.max.code 2 (some .int)) (by decide +kernel)) (Nat.le_of_ble_eq_true rfl) (Nat.le_of_ble_eq_true rfl) (Nat.le_of_ble_eq_true rfl) (Nat.le_of_ble_eq_true rfl) dX1_tell_34 ?_
          refine W.eq (g2 := F0 m 37 ls [.int (iMax (-999) (iMin 999 (s_X3_read (uS u2 0) (x2 - 1)))), .int x2, .ref (a 15)]) rfl ?_
          refine xMdSN (nL := 4) ⟨hx, hb, hml, hown, hts⟩ (c_X5_mark l E (a 15) 201 (u2.1 15) x2 (iMax (-999) (iMin 999 (s_X3_read (uS u2 0) (x2 - 1)))) (hL.2 _ (List.mem_of_getElem? (i := 15) rfl))) ⟨va_cnB (own := RX1) (host := RX5) (index := 30) (y := yX5_mark) 3 hts gX1_tell_X5_mark_n30 rfl rfl rfl (hF.2.1.1 (RX1, 30, yX5_mark) (List.mem_of_getElem? (i := 7) rfl)) (hts (.initialized RX5) (by decide +kernel)) hd_X5_mark ⟨(Nat.le_of_ble_eq_true rfl), (Nat.le_of_ble_eq_true rfl)⟩, hts (.static yX5_mark) (by decide +kernel), trivial⟩ hF hS hL.2 (xsub1 (List.mem_of_getElem? (i := 15) rfl)) (hP.sub [15] rfl) rfl hl.1 rfl (Nat.le_of_ble_eq_true rfl) ⟨(Nat.le_of_ble_eq_true rfl), (Nat.le_of_ble_eq_true rfl)⟩ dX1_tell_37 (fun H1 locs hP1 hk hS => ?_)
          have hP : va_P (xD E) vwCl (wX E a (uR u2 15 (s_X5_mark 201 (u2.1 15) x2 (iMax (-999) (iMin 999 (s_X3_read (uS u2 0) (x2 - 1))))))) H1 := xset1 hP (xD_of (ws := wX E a u2) (A := (· ∈ LX a)) hL.1 (fun _ h => h)) (p := 15) rfl hP1 hk
          generalize H1 = H at hP hS ⊢
          refine W.eq (g2 := F0 m 40 ls []) rfl ?_
          refine lv_iinc (k := 1) (v := x2 + 1) (lv' := [(2, .int (x2 + 1)), (3, .int (s_X3_read (uS u2 0) (x2 - 1))), (0, .ref (a 14)), (1, .ref (a 17))]) hx hb dX1_tell_40 hl rfl rfl (by decide) rfl (fun ls hl => ?_)
          refine lv_goto (tgt := 2) hx hb dX1_tell_43 rfl ?_
          exact ih2 (uR u2 15 (s_X5_mark 201 (u2.1 15) x2 (iMax (-999) (iMin 999 (s_X3_read (uS u2 0) (x2 - 1)))))) (x2 + 1) _ _ _ (Nat.lt_of_lt_of_le (xupc q1) (Nat.le_of_lt_succ hM)) hR (lv_sub hl [0, 2, 3] rfl) hP hS
    exact L2 (((201 : Int32).toInt - (1 : Int32).toInt).toNat + 1) u 1 _ _ ls (Nat.lt_succ_self _) hR hl hP hS
  · refine xMd.of (cc := cX1_tell) (maxL := 4) (ret := none) (by decide) rfl (Nat.le_of_ble_eq_true rfl) ?_
    intro p e s m below meth c ls hAt hF hP hS hl
    obtain ⟨hx, hb, hr, hml, hown, hts, hlocks, -⟩ := hAt
    have hown : s.vm.findClass RX1 = some m.cls := hown
    have hl : lv_has ls 4 [(0, .ref (a 14)), (1, .ref (a 18))] := hl
    have hK := hF.1
    have hA := hL.2
    change W p l e rm_X1_tell s m ([.ref (a 14), .ref (a 18)] : List Value).toArray below meth c s.heap [] 0 0 (xQmd E below (LX a) (none) (wX E a (s_X1_tell 1 u)) ([.ref (a 14), .ref (a 18)] : List Value).toArray s) _
    have hS : va_S (· ∈ LX a) s.heap s.heap [] := hS
    have hR : s_X1_tell 1 u = s_X1_tell 1 u := rfl
    refine lv_iconst (v := 1) hx hb dX1_tell_0 rfl ?_
    refine lv_istore_n (lv' := [(2, .int 1), (0, .ref (a 14)), (1, .ref (a 18))]) hx hb dX1_tell_1 rfl hl (by decide) rfl (fun ls hl => ?_)
    have L2 : ∀ (n2 : Nat) (u2 : xU) (x2 : Int32) (H : Heap) (locs : List Loc) (ls : Array Slot), ((201 : Int32).toInt - x2.toInt).toNat < n2 → s_X1_tell 1 u = s_X1_tell_L2 1 n2 u2 x2 → lv_has ls 4 [(2, .int x2), (0, .ref (a 14)), (1, .ref (a 18))] → va_P (xD E) vwCl (wX E a u2) H → va_S (· ∈ LX a) s.heap H locs → W p l e rm_X1_tell s m ([.ref (a 14), .ref (a 18)] : List Value).toArray below meth c H locs 0 0 (xQmd E below (LX a) (none) (wX E a (s_X1_tell 1 u)) ([.ref (a 14), .ref (a 18)] : List Value).toArray s) (F0 m 2 ls []) := by
      intro n2
      induction n2 with
      | zero => intro u2 x2 H locs ls hM hR hl hP hS; exact absurd hM (Nat.not_lt_zero _)
      | succ n2 ih2 =>
        intro u2 x2 H locs ls hM hR hl hP hS
        refine lv_iload_n hx hb dX1_tell_2 rfl (lv_at hl 0 rfl) ?_
        refine lv_aload_n hx hb dX1_tell_3 rfl (lv_at hl 1 rfl) ?_
        refine va_get (D := xD E) (ci := 1) (v := .ref (a 15)) (C := RX1) (T := TX1) (N := 1) hx hb hts (by decide +kernel) hown hK hP 14 rfl rfl 0 (by decide) (hts (.fieldLink RX1 9 "RailOffsets$OldLine" "versines" "[I") (by decide +kernel)) (fun _ h => h) rfl dX1_tell_4 ?_
        refine va_alen (v := 201) hx hb hK hP 15 0 rfl rfl rfl dX1_tell_7 ?_
        refine lv_icmp_ge (tgt := 46) hx hb dX1_tell_8 rfl (fun q1 => ?_) (fun q1 => ?_)
        · have hR := hR.trans (if_pos q1)
          have hR : s_X1_tell 1 u = u2 := hR
          exact W.vret hx hb hr (fun t ht _ => by rw [hR]; exact ⟨⟨rfl, by rw [ht]; exact hP⟩, hS.F ht⟩) hS.2.2 dX1_tell_46
        · have hR := hR.trans (if_neg q1)
          refine lv_aload_n hx hb dX1_tell_11 rfl (lv_at hl 2 rfl) ?_
          refine lv_iload_n hx hb dX1_tell_12 rfl (lv_at hl 0 rfl) ?_
          refine lv_iconst (v := 1) hx hb dX1_tell_13 rfl ?_
          refine lv_isub hx hb dX1_tell_14 ?_
          refine xRoV (nL := 4) ⟨hx, hb, hml, hown, hts⟩ (c_X3_read l E (a 18) (a 22) (uS u2 1) (x2 - 1)) (cwV 1 hts gX1_tell_X3_read rfl rfl rfl ⟨rfl, hd_X3_read⟩ ⟨(Nat.le_of_ble_eq_true rfl), (Nat.le_of_ble_eq_true rfl)⟩) hF hS hA (hP.sub [18, 22] rfl) (va_recv (q := (RX3, TX3, 3)) hK hP (ci := 3) rfl (q0 := 18) rfl) rfl hl.1 rfl (Nat.le_of_ble_eq_true rfl) ⟨(Nat.le_of_ble_eq_true rfl), (Nat.le_of_ble_eq_true rfl)⟩ dX1_tell_15 ?_
          refine W.eq (g2 := F0 m 18 ls [.int (s_X3_read (uS u2 1) (x2 - 1))]) rfl ?_
          refine lv_istore_n (lv' := [(3, .int (s_X3_read (uS u2 1) (x2 - 1))), (2, .int x2), (0, .ref (a 14)), (1, .ref (a 18))]) hx hb dX1_tell_18 rfl hl (by decide) rfl (fun ls hl => ?_)
          refine lv_aload_n hx hb dX1_tell_19 rfl (lv_at hl 2 rfl) ?_
          refine va_get (D := xD E) (ci := 1) (v := .ref (a 15)) (C := RX1) (T := TX1) (N := 1) hx hb hts (by decide +kernel) hown hK hP 14 rfl rfl 0 (by decide) (hts (.fieldLink RX1 9 "RailOffsets$OldLine" "versines" "[I") (by decide +kernel)) (fun _ h => h) rfl dX1_tell_20 ?_
          refine lv_iload_n hx hb dX1_tell_23 rfl (lv_at hl 1 rfl) ?_
          refine lv_sipush (v := (-999)) hx hb dX1_tell_24 rfl ?_
          refine lv_sipush (v := 999) hx hb dX1_tell_27 rfl ?_
          refine lv_iload_n hx hb dX1_tell_30 rfl (lv_at hl 0 rfl) ?_
          refine va_mmin hx hb (hml.trans hl.1.symm) hown (hts (.methodLink RX1 21 Lib.Math.min.name) (by decide +kernel)) (hts (.static Lib.Math.min.name) (by decide +kernel)) (hts (.initialized "java/lang/Math") (by decide +kernel)) (hts (.code Lib.Math.min.name Lib.Math.min.code 2 (some .int)) (by decide +kernel)) (Nat.le_of_ble_eq_true rfl) (Nat.le_of_ble_eq_true rfl) (Nat.le_of_ble_eq_true rfl) (Nat.le_of_ble_eq_true rfl) dX1_tell_31 ?_
          refine W.eq (g2 := F0 m 34 ls [.int (iMin 999 (s_X3_read (uS u2 1) (x2 - 1))), .int (-999), .int x2, .ref (a 15)]) rfl ?_
          refine va_mmax hx hb (hml.trans hl.1.symm) hown (hts (.methodLink RX1 27 Lib.Math.max.name) (by decide +kernel)) (hts (.static Lib.Math.max.name) (by decide +kernel)) (hts (.initialized "java/lang/Math") (by decide +kernel)) (hts (.code Lib.Math.max.name Lib.Math.max.code 2 (some .int)) (by decide +kernel)) (Nat.le_of_ble_eq_true rfl) (Nat.le_of_ble_eq_true rfl) (Nat.le_of_ble_eq_true rfl) (Nat.le_of_ble_eq_true rfl) dX1_tell_34 ?_
          refine W.eq (g2 := F0 m 37 ls [.int (iMax (-999) (iMin 999 (s_X3_read (uS u2 1) (x2 - 1)))), .int x2, .ref (a 15)]) rfl ?_
          refine xMdSN (nL := 4) ⟨hx, hb, hml, hown, hts⟩ (c_X5_mark l E (a 15) 201 (u2.1 15) x2 (iMax (-999) (iMin 999 (s_X3_read (uS u2 1) (x2 - 1)))) (hL.2 _ (List.mem_of_getElem? (i := 15) rfl))) ⟨va_cnB (own := RX1) (host := RX5) (index := 30) (y := yX5_mark) 3 hts gX1_tell_X5_mark_n30 rfl rfl rfl (hF.2.1.1 (RX1, 30, yX5_mark) (List.mem_of_getElem? (i := 7) rfl)) (hts (.initialized RX5) (by decide +kernel)) hd_X5_mark ⟨(Nat.le_of_ble_eq_true rfl), (Nat.le_of_ble_eq_true rfl)⟩, hts (.static yX5_mark) (by decide +kernel), trivial⟩ hF hS hL.2 (xsub1 (List.mem_of_getElem? (i := 15) rfl)) (hP.sub [15] rfl) rfl hl.1 rfl (Nat.le_of_ble_eq_true rfl) ⟨(Nat.le_of_ble_eq_true rfl), (Nat.le_of_ble_eq_true rfl)⟩ dX1_tell_37 (fun H1 locs hP1 hk hS => ?_)
          have hP : va_P (xD E) vwCl (wX E a (uR u2 15 (s_X5_mark 201 (u2.1 15) x2 (iMax (-999) (iMin 999 (s_X3_read (uS u2 1) (x2 - 1))))))) H1 := xset1 hP (xD_of (ws := wX E a u2) (A := (· ∈ LX a)) hL.1 (fun _ h => h)) (p := 15) rfl hP1 hk
          generalize H1 = H at hP hS ⊢
          refine W.eq (g2 := F0 m 40 ls []) rfl ?_
          refine lv_iinc (k := 1) (v := x2 + 1) (lv' := [(2, .int (x2 + 1)), (3, .int (s_X3_read (uS u2 1) (x2 - 1))), (0, .ref (a 14)), (1, .ref (a 18))]) hx hb dX1_tell_40 hl rfl rfl (by decide) rfl (fun ls hl => ?_)
          refine lv_goto (tgt := 2) hx hb dX1_tell_43 rfl ?_
          exact ih2 (uR u2 15 (s_X5_mark 201 (u2.1 15) x2 (iMax (-999) (iMin 999 (s_X3_read (uS u2 1) (x2 - 1)))))) (x2 + 1) _ _ _ (Nat.lt_of_lt_of_le (xupc q1) (Nat.le_of_lt_succ hM)) hR (lv_sub hl [0, 2, 3] rfl) hP hS
    exact L2 (((201 : Int32).toInt - (1 : Int32).toInt).toNat + 1) u 1 _ _ ls (Nat.lt_succ_self _) hR hl hP hS
  · refine xMd.of (cc := cX1_tell) (maxL := 4) (ret := none) (by decide) rfl (Nat.le_of_ble_eq_true rfl) ?_
    intro p e s m below meth c ls hAt hF hP hS hl
    obtain ⟨hx, hb, hr, hml, hown, hts, hlocks, -⟩ := hAt
    have hown : s.vm.findClass RX1 = some m.cls := hown
    have hl : lv_has ls 4 [(0, .ref (a 14)), (1, .ref (a 19))] := hl
    have hK := hF.1
    have hA := hL.2
    change W p l e rm_X1_tell s m ([.ref (a 14), .ref (a 19)] : List Value).toArray below meth c s.heap [] 0 0 (xQmd E below (LX a) (none) (wX E a (s_X1_tell 2 u)) ([.ref (a 14), .ref (a 19)] : List Value).toArray s) _
    have hS : va_S (· ∈ LX a) s.heap s.heap [] := hS
    have hR : s_X1_tell 2 u = s_X1_tell 2 u := rfl
    refine lv_iconst (v := 1) hx hb dX1_tell_0 rfl ?_
    refine lv_istore_n (lv' := [(2, .int 1), (0, .ref (a 14)), (1, .ref (a 19))]) hx hb dX1_tell_1 rfl hl (by decide) rfl (fun ls hl => ?_)
    have L2 : ∀ (n2 : Nat) (u2 : xU) (x2 : Int32) (H : Heap) (locs : List Loc) (ls : Array Slot), ((201 : Int32).toInt - x2.toInt).toNat < n2 → s_X1_tell 2 u = s_X1_tell_L2 2 n2 u2 x2 → lv_has ls 4 [(2, .int x2), (0, .ref (a 14)), (1, .ref (a 19))] → va_P (xD E) vwCl (wX E a u2) H → va_S (· ∈ LX a) s.heap H locs → W p l e rm_X1_tell s m ([.ref (a 14), .ref (a 19)] : List Value).toArray below meth c H locs 0 0 (xQmd E below (LX a) (none) (wX E a (s_X1_tell 2 u)) ([.ref (a 14), .ref (a 19)] : List Value).toArray s) (F0 m 2 ls []) := by
      intro n2
      induction n2 with
      | zero => intro u2 x2 H locs ls hM hR hl hP hS; exact absurd hM (Nat.not_lt_zero _)
      | succ n2 ih2 =>
        intro u2 x2 H locs ls hM hR hl hP hS
        refine lv_iload_n hx hb dX1_tell_2 rfl (lv_at hl 0 rfl) ?_
        refine lv_aload_n hx hb dX1_tell_3 rfl (lv_at hl 1 rfl) ?_
        refine va_get (D := xD E) (ci := 1) (v := .ref (a 15)) (C := RX1) (T := TX1) (N := 1) hx hb hts (by decide +kernel) hown hK hP 14 rfl rfl 0 (by decide) (hts (.fieldLink RX1 9 "RailOffsets$OldLine" "versines" "[I") (by decide +kernel)) (fun _ h => h) rfl dX1_tell_4 ?_
        refine va_alen (v := 201) hx hb hK hP 15 0 rfl rfl rfl dX1_tell_7 ?_
        refine lv_icmp_ge (tgt := 46) hx hb dX1_tell_8 rfl (fun q1 => ?_) (fun q1 => ?_)
        · have hR := hR.trans (if_pos q1)
          have hR : s_X1_tell 2 u = u2 := hR
          exact W.vret hx hb hr (fun t ht _ => by rw [hR]; exact ⟨⟨rfl, by rw [ht]; exact hP⟩, hS.F ht⟩) hS.2.2 dX1_tell_46
        · have hR := hR.trans (if_neg q1)
          refine lv_aload_n hx hb dX1_tell_11 rfl (lv_at hl 2 rfl) ?_
          refine lv_iload_n hx hb dX1_tell_12 rfl (lv_at hl 0 rfl) ?_
          refine lv_iconst (v := 1) hx hb dX1_tell_13 rfl ?_
          refine lv_isub hx hb dX1_tell_14 ?_
          refine xRoV (nL := 4) ⟨hx, hb, hml, hown, hts⟩ (c_X3_read l E (a 19) (a 23) (uS u2 2) (x2 - 1)) (cwV 1 hts gX1_tell_X3_read rfl rfl rfl ⟨rfl, hd_X3_read⟩ ⟨(Nat.le_of_ble_eq_true rfl), (Nat.le_of_ble_eq_true rfl)⟩) hF hS hA (hP.sub [19, 23] rfl) (va_recv (q := (RX3, TX3, 3)) hK hP (ci := 3) rfl (q0 := 19) rfl) rfl hl.1 rfl (Nat.le_of_ble_eq_true rfl) ⟨(Nat.le_of_ble_eq_true rfl), (Nat.le_of_ble_eq_true rfl)⟩ dX1_tell_15 ?_
          refine W.eq (g2 := F0 m 18 ls [.int (s_X3_read (uS u2 2) (x2 - 1))]) rfl ?_
          refine lv_istore_n (lv' := [(3, .int (s_X3_read (uS u2 2) (x2 - 1))), (2, .int x2), (0, .ref (a 14)), (1, .ref (a 19))]) hx hb dX1_tell_18 rfl hl (by decide) rfl (fun ls hl => ?_)
          refine lv_aload_n hx hb dX1_tell_19 rfl (lv_at hl 2 rfl) ?_
          refine va_get (D := xD E) (ci := 1) (v := .ref (a 15)) (C := RX1) (T := TX1) (N := 1) hx hb hts (by decide +kernel) hown hK hP 14 rfl rfl 0 (by decide) (hts (.fieldLink RX1 9 "RailOffsets$OldLine" "versines" "[I") (by decide +kernel)) (fun _ h => h) rfl dX1_tell_20 ?_
          refine lv_iload_n hx hb dX1_tell_23 rfl (lv_at hl 1 rfl) ?_
          refine lv_sipush (v := (-999)) hx hb dX1_tell_24 rfl ?_
          refine lv_sipush (v := 999) hx hb dX1_tell_27 rfl ?_
          refine lv_iload_n hx hb dX1_tell_30 rfl (lv_at hl 0 rfl) ?_
          refine va_mmin hx hb (hml.trans hl.1.symm) hown (hts (.methodLink RX1 21 Lib.Math.min.name) (by decide +kernel)) (hts (.static Lib.Math.min.name) (by decide +kernel)) (hts (.initialized "java/lang/Math") (by decide +kernel)) (hts (.code Lib.Math.min.name Lib.Math.min.code 2 (some .int)) (by decide +kernel)) (Nat.le_of_ble_eq_true rfl) (Nat.le_of_ble_eq_true rfl) (Nat.le_of_ble_eq_true rfl) (Nat.le_of_ble_eq_true rfl) dX1_tell_31 ?_
          refine W.eq (g2 := F0 m 34 ls [.int (iMin 999 (s_X3_read (uS u2 2) (x2 - 1))), .int (-999), .int x2, .ref (a 15)]) rfl ?_
          refine va_mmax hx hb (hml.trans hl.1.symm) hown (hts (.methodLink RX1 27 Lib.Math.max.name) (by decide +kernel)) (hts (.static Lib.Math.max.name) (by decide +kernel)) (hts (.initialized "java/lang/Math") (by decide +kernel)) (hts (.code Lib.Math.max.name Lib.Math.max.code 2 (some .int)) (by decide +kernel)) (Nat.le_of_ble_eq_true rfl) (Nat.le_of_ble_eq_true rfl) (Nat.le_of_ble_eq_true rfl) (Nat.le_of_ble_eq_true rfl) dX1_tell_34 ?_
          refine W.eq (g2 := F0 m 37 ls [.int (iMax (-999) (iMin 999 (s_X3_read (uS u2 2) (x2 - 1)))), .int x2, .ref (a 15)]) rfl ?_
          refine xMdSN (nL := 4) ⟨hx, hb, hml, hown, hts⟩ (c_X5_mark l E (a 15) 201 (u2.1 15) x2 (iMax (-999) (iMin 999 (s_X3_read (uS u2 2) (x2 - 1)))) (hL.2 _ (List.mem_of_getElem? (i := 15) rfl))) ⟨va_cnB (own := RX1) (host := RX5) (index := 30) (y := yX5_mark) 3 hts gX1_tell_X5_mark_n30 rfl rfl rfl (hF.2.1.1 (RX1, 30, yX5_mark) (List.mem_of_getElem? (i := 7) rfl)) (hts (.initialized RX5) (by decide +kernel)) hd_X5_mark ⟨(Nat.le_of_ble_eq_true rfl), (Nat.le_of_ble_eq_true rfl)⟩, hts (.static yX5_mark) (by decide +kernel), trivial⟩ hF hS hL.2 (xsub1 (List.mem_of_getElem? (i := 15) rfl)) (hP.sub [15] rfl) rfl hl.1 rfl (Nat.le_of_ble_eq_true rfl) ⟨(Nat.le_of_ble_eq_true rfl), (Nat.le_of_ble_eq_true rfl)⟩ dX1_tell_37 (fun H1 locs hP1 hk hS => ?_)
          have hP : va_P (xD E) vwCl (wX E a (uR u2 15 (s_X5_mark 201 (u2.1 15) x2 (iMax (-999) (iMin 999 (s_X3_read (uS u2 2) (x2 - 1))))))) H1 := xset1 hP (xD_of (ws := wX E a u2) (A := (· ∈ LX a)) hL.1 (fun _ h => h)) (p := 15) rfl hP1 hk
          generalize H1 = H at hP hS ⊢
          refine W.eq (g2 := F0 m 40 ls []) rfl ?_
          refine lv_iinc (k := 1) (v := x2 + 1) (lv' := [(2, .int (x2 + 1)), (3, .int (s_X3_read (uS u2 2) (x2 - 1))), (0, .ref (a 14)), (1, .ref (a 19))]) hx hb dX1_tell_40 hl rfl rfl (by decide) rfl (fun ls hl => ?_)
          refine lv_goto (tgt := 2) hx hb dX1_tell_43 rfl ?_
          exact ih2 (uR u2 15 (s_X5_mark 201 (u2.1 15) x2 (iMax (-999) (iMin 999 (s_X3_read (uS u2 2) (x2 - 1)))))) (x2 + 1) _ _ _ (Nat.lt_of_lt_of_le (xupc q1) (Nat.le_of_lt_succ hM)) hR (lv_sub hl [0, 2, 3] rfl) hP hS
    exact L2 (((201 : Int32).toInt - (1 : Int32).toInt).toNat + 1) u 1 _ _ ls (Nat.lt_succ_self _) hR hl hP hS
  · refine xMd.of (cc := cX1_tell) (maxL := 4) (ret := none) (by decide) rfl (Nat.le_of_ble_eq_true rfl) ?_
    intro p e s m below meth c ls hAt hF hP hS hl
    obtain ⟨hx, hb, hr, hml, hown, hts, hlocks, -⟩ := hAt
    have hown : s.vm.findClass RX1 = some m.cls := hown
    have hl : lv_has ls 4 [(0, .ref (a 14)), (1, .ref (a 20))] := hl
    have hK := hF.1
    have hA := hL.2
    change W p l e rm_X1_tell s m ([.ref (a 14), .ref (a 20)] : List Value).toArray below meth c s.heap [] 0 0 (xQmd E below (LX a) (none) (wX E a (s_X1_tell 3 u)) ([.ref (a 14), .ref (a 20)] : List Value).toArray s) _
    have hS : va_S (· ∈ LX a) s.heap s.heap [] := hS
    have hR : s_X1_tell 3 u = s_X1_tell 3 u := rfl
    refine lv_iconst (v := 1) hx hb dX1_tell_0 rfl ?_
    refine lv_istore_n (lv' := [(2, .int 1), (0, .ref (a 14)), (1, .ref (a 20))]) hx hb dX1_tell_1 rfl hl (by decide) rfl (fun ls hl => ?_)
    have L2 : ∀ (n2 : Nat) (u2 : xU) (x2 : Int32) (H : Heap) (locs : List Loc) (ls : Array Slot), ((201 : Int32).toInt - x2.toInt).toNat < n2 → s_X1_tell 3 u = s_X1_tell_L2 3 n2 u2 x2 → lv_has ls 4 [(2, .int x2), (0, .ref (a 14)), (1, .ref (a 20))] → va_P (xD E) vwCl (wX E a u2) H → va_S (· ∈ LX a) s.heap H locs → W p l e rm_X1_tell s m ([.ref (a 14), .ref (a 20)] : List Value).toArray below meth c H locs 0 0 (xQmd E below (LX a) (none) (wX E a (s_X1_tell 3 u)) ([.ref (a 14), .ref (a 20)] : List Value).toArray s) (F0 m 2 ls []) := by
      intro n2
      induction n2 with
      | zero => intro u2 x2 H locs ls hM hR hl hP hS; exact absurd hM (Nat.not_lt_zero _)
      | succ n2 ih2 =>
        intro u2 x2 H locs ls hM hR hl hP hS
        refine lv_iload_n hx hb dX1_tell_2 rfl (lv_at hl 0 rfl) ?_
        refine lv_aload_n hx hb dX1_tell_3 rfl (lv_at hl 1 rfl) ?_
        refine va_get (D := xD E) (ci := 1) (v := .ref (a 15)) (C := RX1) (T := TX1) (N := 1) hx hb hts (by decide +kernel) hown hK hP 14 rfl rfl 0 (by decide) (hts (.fieldLink RX1 9 "RailOffsets$OldLine" "versines" "[I") (by decide +kernel)) (fun _ h => h) rfl dX1_tell_4 ?_
        refine va_alen (v := 201) hx hb hK hP 15 0 rfl rfl rfl dX1_tell_7 ?_
        refine lv_icmp_ge (tgt := 46) hx hb dX1_tell_8 rfl (fun q1 => ?_) (fun q1 => ?_)
        · have hR := hR.trans (if_pos q1)
          have hR : s_X1_tell 3 u = u2 := hR
          exact W.vret hx hb hr (fun t ht _ => by rw [hR]; exact ⟨⟨rfl, by rw [ht]; exact hP⟩, hS.F ht⟩) hS.2.2 dX1_tell_46
        · have hR := hR.trans (if_neg q1)
          refine lv_aload_n hx hb dX1_tell_11 rfl (lv_at hl 2 rfl) ?_
          refine lv_iload_n hx hb dX1_tell_12 rfl (lv_at hl 0 rfl) ?_
          refine lv_iconst (v := 1) hx hb dX1_tell_13 rfl ?_
          refine lv_isub hx hb dX1_tell_14 ?_
          refine xRoV (nL := 4) ⟨hx, hb, hml, hown, hts⟩ (c_X3_read l E (a 20) (a 24) (uS u2 3) (x2 - 1)) (cwV 1 hts gX1_tell_X3_read rfl rfl rfl ⟨rfl, hd_X3_read⟩ ⟨(Nat.le_of_ble_eq_true rfl), (Nat.le_of_ble_eq_true rfl)⟩) hF hS hA (hP.sub [20, 24] rfl) (va_recv (q := (RX3, TX3, 3)) hK hP (ci := 3) rfl (q0 := 20) rfl) rfl hl.1 rfl (Nat.le_of_ble_eq_true rfl) ⟨(Nat.le_of_ble_eq_true rfl), (Nat.le_of_ble_eq_true rfl)⟩ dX1_tell_15 ?_
          refine W.eq (g2 := F0 m 18 ls [.int (s_X3_read (uS u2 3) (x2 - 1))]) rfl ?_
          refine lv_istore_n (lv' := [(3, .int (s_X3_read (uS u2 3) (x2 - 1))), (2, .int x2), (0, .ref (a 14)), (1, .ref (a 20))]) hx hb dX1_tell_18 rfl hl (by decide) rfl (fun ls hl => ?_)
          refine lv_aload_n hx hb dX1_tell_19 rfl (lv_at hl 2 rfl) ?_
          refine va_get (D := xD E) (ci := 1) (v := .ref (a 15)) (C := RX1) (T := TX1) (N := 1) hx hb hts (by decide +kernel) hown hK hP 14 rfl rfl 0 (by decide) (hts (.fieldLink RX1 9 "RailOffsets$OldLine" "versines" "[I") (by decide +kernel)) (fun _ h => h) rfl dX1_tell_20 ?_
          refine lv_iload_n hx hb dX1_tell_23 rfl (lv_at hl 1 rfl) ?_
          refine lv_sipush (v := (-999)) hx hb dX1_tell_24 rfl ?_
          refine lv_sipush (v := 999) hx hb dX1_tell_27 rfl ?_
          refine lv_iload_n hx hb dX1_tell_30 rfl (lv_at hl 0 rfl) ?_
          refine va_mmin hx hb (hml.trans hl.1.symm) hown (hts (.methodLink RX1 21 Lib.Math.min.name) (by decide +kernel)) (hts (.static Lib.Math.min.name) (by decide +kernel)) (hts (.initialized "java/lang/Math") (by decide +kernel)) (hts (.code Lib.Math.min.name Lib.Math.min.code 2 (some .int)) (by decide +kernel)) (Nat.le_of_ble_eq_true rfl) (Nat.le_of_ble_eq_true rfl) (Nat.le_of_ble_eq_true rfl) (Nat.le_of_ble_eq_true rfl) dX1_tell_31 ?_
          refine W.eq (g2 := F0 m 34 ls [.int (iMin 999 (s_X3_read (uS u2 3) (x2 - 1))), .int (-999), .int x2, .ref (a 15)]) rfl ?_
          refine va_mmax hx hb (hml.trans hl.1.symm) hown (hts (.methodLink RX1 27 Lib.Math.max.name) (by decide +kernel)) (hts (.static Lib.Math.max.name) (by decide +kernel)) (hts (.initialized "java/lang/Math") (by decide +kernel)) (hts (.code Lib.Math.max.name Lib.Math.max.code 2 (some .int)) (by decide +kernel)) (Nat.le_of_ble_eq_true rfl) (Nat.le_of_ble_eq_true rfl) (Nat.le_of_ble_eq_true rfl) (Nat.le_of_ble_eq_true rfl) dX1_tell_34 ?_
          refine W.eq (g2 := F0 m 37 ls [.int (iMax (-999) (iMin 999 (s_X3_read (uS u2 3) (x2 - 1)))), .int x2, .ref (a 15)]) rfl ?_
          refine xMdSN (nL := 4) ⟨hx, hb, hml, hown, hts⟩ (c_X5_mark l E (a 15) 201 (u2.1 15) x2 (iMax (-999) (iMin 999 (s_X3_read (uS u2 3) (x2 - 1)))) (hL.2 _ (List.mem_of_getElem? (i := 15) rfl))) ⟨va_cnB (own := RX1) (host := RX5) (index := 30) (y := yX5_mark) 3 hts gX1_tell_X5_mark_n30 rfl rfl rfl (hF.2.1.1 (RX1, 30, yX5_mark) (List.mem_of_getElem? (i := 7) rfl)) (hts (.initialized RX5) (by decide +kernel)) hd_X5_mark ⟨(Nat.le_of_ble_eq_true rfl), (Nat.le_of_ble_eq_true rfl)⟩, hts (.static yX5_mark) (by decide +kernel), trivial⟩ hF hS hL.2 (xsub1 (List.mem_of_getElem? (i := 15) rfl)) (hP.sub [15] rfl) rfl hl.1 rfl (Nat.le_of_ble_eq_true rfl) ⟨(Nat.le_of_ble_eq_true rfl), (Nat.le_of_ble_eq_true rfl)⟩ dX1_tell_37 (fun H1 locs hP1 hk hS => ?_)
          have hP : va_P (xD E) vwCl (wX E a (uR u2 15 (s_X5_mark 201 (u2.1 15) x2 (iMax (-999) (iMin 999 (s_X3_read (uS u2 3) (x2 - 1))))))) H1 := xset1 hP (xD_of (ws := wX E a u2) (A := (· ∈ LX a)) hL.1 (fun _ h => h)) (p := 15) rfl hP1 hk
          generalize H1 = H at hP hS ⊢
          refine W.eq (g2 := F0 m 40 ls []) rfl ?_
          refine lv_iinc (k := 1) (v := x2 + 1) (lv' := [(2, .int (x2 + 1)), (3, .int (s_X3_read (uS u2 3) (x2 - 1))), (0, .ref (a 14)), (1, .ref (a 20))]) hx hb dX1_tell_40 hl rfl rfl (by decide) rfl (fun ls hl => ?_)
          refine lv_goto (tgt := 2) hx hb dX1_tell_43 rfl ?_
          exact ih2 (uR u2 15 (s_X5_mark 201 (u2.1 15) x2 (iMax (-999) (iMin 999 (s_X3_read (uS u2 3) (x2 - 1)))))) (x2 + 1) _ _ _ (Nat.lt_of_lt_of_le (xupc q1) (Nat.le_of_lt_succ hM)) hR (lv_sub hl [0, 2, 3] rfl) hP hS
    exact L2 (((201 : Int32).toInt - (1 : Int32).toInt).toNat + 1) u 1 _ _ ls (Nat.lt_succ_self _) hR hl hP hS
def s_X1_err_L13 : Nat → xU → Int32 → Int32 → Int32 → Int32 → Int32 → xU
  | 0, u, _, _, _, _, _ => u
  | n + 1, u, x2, x3, x4, x5, x6 =>
    if (u.2 3) < x6 then
      u
    else
      if x5 ≤ 0 then
        s_X1_err_L13 n (uR u 15 (s_X5_mark 201 (u.1 15) x6 ((s_X5_cell 201 (u.1 10) x6) + 0))) x2 x3 ((x4 * 1103515245) + 12345) x5 (x6 + 1)
      else
        s_X1_err_L13 n (uR u 15 (s_X5_mark 201 (u.1 15) x6 ((s_X5_cell 201 (u.1 10) x6) + ((iRem (iUshr ((x4 * 1103515245) + 12345) 9) x5) - x3)))) x2 x3 ((x4 * 1103515245) + 12345) x5 (x6 + 1)
def s_X1_err (u : xU) (p2 : Int32) (p3 : Int32) : xU :=
  s_X1_err_L13 (((u.2 3).toInt + 1 - (1 : Int32).toInt).toNat + 1) u p2 p3 p2 ((2 * p3) + 1) 1
abbrev rm_X1_err : Room := { frames := 1, cells := 0, slots := 0, locals := 22 }
set_option maxHeartbeats 8000000 in
set_option maxRecDepth 100000 in
theorem c_X1_err (l : Launch) (E : xG) (a : Nat → Nat) (u : xU) (p2 : Int32) (p3 : Int32) (hp0 : (u.2 3).toInt < 2147483647) (hL : xOK E (LX a)) : xMd l E yX1_err wsX1_err rm_X1_err (LX a) [.ref (a 14), .ref (a 7), .int p2, .int p3] (wX E a u) (none) (wX E a (s_X1_err u p2 p3)) := by
  refine xMd.of (cc := cX1_err) (maxL := 8) (ret := none) (by decide) rfl (Nat.le_of_ble_eq_true rfl) ?_
  intro p e s m below meth c ls hAt hF hP hS hl
  obtain ⟨hx, hb, hr, hml, hown, hts, hlocks, -⟩ := hAt
  have hown : s.vm.findClass RX1 = some m.cls := hown
  have hl : lv_has ls 8 [(0, .ref (a 14)), (1, .ref (a 7)), (2, .int p2), (3, .int p3)] := hl
  have hK := hF.1
  have hA := hL.2
  change W p l e rm_X1_err s m ([.ref (a 14), .ref (a 7), .int p2, .int p3] : List Value).toArray below meth c s.heap [] 0 0 (xQmd E below (LX a) (none) (wX E a (s_X1_err u p2 p3)) ([.ref (a 14), .ref (a 7), .int p2, .int p3] : List Value).toArray s) _
  have hS : va_S (· ∈ LX a) s.heap s.heap [] := hS
  have hR : s_X1_err u p2 p3 = s_X1_err u p2 p3 := rfl
  refine lv_iload_n hx hb dX1_err_0 rfl (lv_at hl 2 rfl) ?_
  refine lv_istore (lv' := [(4, .int p2), (0, .ref (a 14)), (1, .ref (a 7)), (2, .int p2), (3, .int p3)]) hx hb dX1_err_1 hl (by decide) rfl (fun ls hl => ?_)
  refine lv_iconst (v := 2) hx hb dX1_err_3 rfl ?_
  refine lv_iload_n hx hb dX1_err_4 rfl (lv_at hl 4 rfl) ?_
  refine lv_imul hx hb dX1_err_5 ?_
  refine lv_iconst (v := 1) hx hb dX1_err_6 rfl ?_
  refine lv_iadd hx hb dX1_err_7 ?_
  refine lv_istore (lv' := [(5, .int ((2 * p3) + 1)), (4, .int p2), (0, .ref (a 14)), (1, .ref (a 7)), (2, .int p2), (3, .int p3)]) hx hb dX1_err_8 hl (by decide) rfl (fun ls hl => ?_)
  refine lv_iconst (v := 1) hx hb dX1_err_10 rfl ?_
  refine lv_istore (lv' := [(6, .int 1), (5, .int ((2 * p3) + 1)), (4, .int p2), (0, .ref (a 14)), (1, .ref (a 7)), (2, .int p2), (3, .int p3)]) hx hb dX1_err_11 hl (by decide) rfl (fun ls hl => ?_)
  have L13 : ∀ (n13 : Nat) (u13 : xU) (x4 : Int32) (x6 : Int32) (H : Heap) (locs : List Loc) (ls : Array Slot), ((u13.2 3).toInt < 2147483647) → ((u13.2 3).toInt + 1 - x6.toInt).toNat < n13 → s_X1_err u p2 p3 = s_X1_err_L13 n13 u13 p2 p3 x4 ((2 * p3) + 1) x6 → lv_has ls 8 [(6, .int x6), (5, .int ((2 * p3) + 1)), (4, .int x4), (0, .ref (a 14)), (1, .ref (a 7)), (2, .int p2), (3, .int p3)] → va_P (xD E) vwCl (wX E a u13) H → va_S (· ∈ LX a) s.heap H locs → W p l e rm_X1_err s m ([.ref (a 14), .ref (a 7), .int p2, .int p3] : List Value).toArray below meth c H locs 0 0 (xQmd E below (LX a) (none) (wX E a (s_X1_err u p2 p3)) ([.ref (a 14), .ref (a 7), .int p2, .int p3] : List Value).toArray s) (F0 m 13 ls []) := by
    intro n13
    induction n13 with
    | zero => intro u13 x4 x6 H locs ls hI0 hM hR hl hP hS; exact absurd hM (Nat.not_lt_zero _)
    | succ n13 ih13 =>
      intro u13 x4 x6 H locs ls hI0 hM hR hl hP hS
      refine lv_iload hx hb dX1_err_13 (lv_at hl 0 rfl) ?_
      refine lv_aload_n hx hb dX1_err_15 rfl (lv_at hl 4 rfl) ?_
      refine va_get (D := xD E) (ci := 0) (v := .int (u13.2 3)) (C := RX0) (T := TX0) (N := 8) hx hb hts (by decide +kernel) hown hK hP 7 rfl rfl 7 (by decide) (hts (.fieldLink RX1 34 "RailOffsets$Line" "stations" "I") (by decide +kernel)) (fun _ h => h) rfl dX1_err_16 ?_
      refine lv_icmp_gt (tgt := 81) hx hb dX1_err_19 rfl (fun q1 => ?_) (fun q1 => ?_)
      · have hR := hR.trans (if_pos q1)
        have hR : s_X1_err u p2 p3 = u13 := hR
        exact W.vret hx hb hr (fun t ht _ => by rw [hR]; exact ⟨⟨rfl, by rw [ht]; exact hP⟩, hS.F ht⟩) hS.2.2 dX1_err_81
      · have hR := hR.trans (if_neg q1)
        refine lv_iload hx hb dX1_err_22 (lv_at hl 2 rfl) ?_
        refine lv_ldc (v := 1103515245) hx hb hown (hts (.constant RX1 40 (1103515245)) (by decide +kernel)) dX1_err_24 ?_
        refine lv_imul hx hb dX1_err_26 ?_
        refine lv_sipush (v := 12345) hx hb dX1_err_27 rfl ?_
        refine lv_iadd hx hb dX1_err_30 ?_
        refine lv_istore (lv' := [(4, .int ((x4 * 1103515245) + 12345)), (6, .int x6), (5, .int ((2 * p3) + 1)), (0, .ref (a 14)), (1, .ref (a 7)), (2, .int p2), (3, .int p3)]) hx hb dX1_err_31 hl (by decide) rfl (fun ls hl => ?_)
        refine lv_iload hx hb dX1_err_33 (lv_at hl 2 rfl) ?_
        refine lv_if_le (tgt := 51) hx hb dX1_err_35 rfl (fun q2 => ?_) (fun q2 => ?_)
        · have hR := hR.trans (if_pos q2)
          refine lv_iconst (v := 0) hx hb dX1_err_51 rfl ?_
          refine lv_istore (lv' := [(7, .int 0), (4, .int ((x4 * 1103515245) + 12345)), (6, .int x6), (5, .int ((2 * p3) + 1)), (0, .ref (a 14)), (1, .ref (a 7)), (2, .int p2), (3, .int p3)]) hx hb dX1_err_52 hl (by decide) rfl (fun ls hl => ?_)
          refine lv_aload_n hx hb dX1_err_54 rfl (lv_at hl 4 rfl) ?_
          refine va_get (D := xD E) (ci := 1) (v := .ref (a 15)) (C := RX1) (T := TX1) (N := 1) hx hb hts (by decide +kernel) hown hK hP 14 rfl rfl 0 (by decide) (hts (.fieldLink RX1 9 "RailOffsets$OldLine" "versines" "[I") (by decide +kernel)) (fun _ h => h) rfl dX1_err_55 ?_
          refine lv_iload hx hb dX1_err_58 (lv_at hl 2 rfl) ?_
          refine lv_aload_n hx hb dX1_err_60 rfl (lv_at hl 5 rfl) ?_
          refine va_get (D := xD E) (ci := 0) (v := .ref (a 10)) (C := RX0) (T := TX0) (N := 8) hx hb hts (by decide +kernel) hown hK hP 7 rfl rfl 3 (by decide) (hts (.fieldLink RX1 41 "RailOffsets$Line" "versines" "[I") (by decide +kernel)) (fun _ h => h) rfl dX1_err_61 ?_
          refine lv_iload hx hb dX1_err_64 (lv_at hl 2 rfl) ?_
          refine xRoSN (nL := 8) ⟨hx, hb, hml, hown, hts⟩ (c_X5_cell l E (a 10) 201 (u13.1 10) x6) ⟨va_cnB (own := RX1) (host := RX5) (index := 42) (y := yX5_cell) 2 hts gX1_err_X5_cell_n42 rfl rfl rfl (hF.2.1.1 (RX1, 42, yX5_cell) (List.mem_of_getElem? (i := 8) rfl)) (hts (.initialized RX5) (by decide +kernel)) hd_X5_cell ⟨(Nat.le_of_ble_eq_true rfl), (Nat.le_of_ble_eq_true rfl)⟩, hts (.static yX5_cell) (by decide +kernel), trivial⟩ hF hS hA (hP.sub [10] rfl) rfl hl.1 rfl (Nat.le_of_ble_eq_true rfl) ⟨(Nat.le_of_ble_eq_true rfl), (Nat.le_of_ble_eq_true rfl)⟩ dX1_err_66 ?_
          refine W.eq (g2 := F0 m 69 ls [.int (s_X5_cell 201 (u13.1 10) x6), .int x6, .ref (a 15)]) rfl ?_
          refine lv_iload hx hb dX1_err_69 (lv_at hl 0 rfl) ?_
          refine lv_iadd hx hb dX1_err_71 ?_
          refine xMdSN (nL := 8) ⟨hx, hb, hml, hown, hts⟩ (c_X5_mark l E (a 15) 201 (u13.1 15) x6 ((s_X5_cell 201 (u13.1 10) x6) + 0) (hL.2 _ (List.mem_of_getElem? (i := 15) rfl))) ⟨va_cnB (own := RX1) (host := RX5) (index := 30) (y := yX5_mark) 3 hts gX1_err_X5_mark_n30 rfl rfl rfl (hF.2.1.1 (RX1, 30, yX5_mark) (List.mem_of_getElem? (i := 7) rfl)) (hts (.initialized RX5) (by decide +kernel)) hd_X5_mark ⟨(Nat.le_of_ble_eq_true rfl), (Nat.le_of_ble_eq_true rfl)⟩, hts (.static yX5_mark) (by decide +kernel), trivial⟩ hF hS hL.2 (xsub1 (List.mem_of_getElem? (i := 15) rfl)) (hP.sub [15] rfl) rfl hl.1 rfl (Nat.le_of_ble_eq_true rfl) ⟨(Nat.le_of_ble_eq_true rfl), (Nat.le_of_ble_eq_true rfl)⟩ dX1_err_72 (fun H1 locs hP1 hk hS => ?_)
          have hP : va_P (xD E) vwCl (wX E a (uR u13 15 (s_X5_mark 201 (u13.1 15) x6 ((s_X5_cell 201 (u13.1 10) x6) + 0)))) H1 := xset1 hP (xD_of (ws := wX E a u13) (A := (· ∈ LX a)) hL.1 (fun _ h => h)) (p := 15) rfl hP1 hk
          generalize H1 = H at hP hS ⊢
          refine W.eq (g2 := F0 m 75 ls []) rfl ?_
          refine lv_iinc (k := 2) (v := x6 + 1) (lv' := [(6, .int (x6 + 1)), (7, .int 0), (4, .int ((x4 * 1103515245) + 12345)), (5, .int ((2 * p3) + 1)), (0, .ref (a 14)), (1, .ref (a 7)), (2, .int p2), (3, .int p3)]) hx hb dX1_err_75 hl rfl rfl (by decide) rfl (fun ls hl => ?_)
          refine lv_goto (tgt := 13) hx hb dX1_err_78 rfl ?_
          exact ih13 (uR u13 15 (s_X5_mark 201 (u13.1 15) x6 ((s_X5_cell 201 (u13.1 10) x6) + 0))) ((x4 * 1103515245) + 12345) (x6 + 1) _ _ _ (hI0) (Nat.lt_of_lt_of_le (xupl q1 (hI0)) (Nat.le_of_lt_succ hM)) hR (lv_sub hl [0, 3, 2, 4, 5, 6, 7] rfl) hP hS
        · have hR := hR.trans (if_neg q2)
          refine lv_iload hx hb dX1_err_38 (lv_at hl 0 rfl) ?_
          refine lv_bipush (v := 9) hx hb dX1_err_40 rfl ?_
          refine lv_iushr (v := iUshr ((x4 * 1103515245) + 12345) 9) hx hb dX1_err_42 rfl ?_
          refine lv_iload hx hb dX1_err_43 (lv_at hl 2 rfl) ?_
          refine lv_irem hx hb dX1_err_45 (xne0 (by assumption)) ?_
          refine W.eq (g2 := F0 m 46 ls [.int (iRem (iUshr ((x4 * 1103515245) + 12345) 9) ((2 * p3) + 1))]) rfl ?_
          refine lv_iload_n hx hb dX1_err_46 rfl (lv_at hl 6 rfl) ?_
          refine lv_isub hx hb dX1_err_47 ?_
          refine lv_goto (tgt := 52) hx hb dX1_err_48 rfl ?_
          refine lv_istore (lv' := [(7, .int ((iRem (iUshr ((x4 * 1103515245) + 12345) 9) ((2 * p3) + 1)) - p3)), (4, .int ((x4 * 1103515245) + 12345)), (6, .int x6), (5, .int ((2 * p3) + 1)), (0, .ref (a 14)), (1, .ref (a 7)), (2, .int p2), (3, .int p3)]) hx hb dX1_err_52 hl (by decide) rfl (fun ls hl => ?_)
          refine lv_aload_n hx hb dX1_err_54 rfl (lv_at hl 4 rfl) ?_
          refine va_get (D := xD E) (ci := 1) (v := .ref (a 15)) (C := RX1) (T := TX1) (N := 1) hx hb hts (by decide +kernel) hown hK hP 14 rfl rfl 0 (by decide) (hts (.fieldLink RX1 9 "RailOffsets$OldLine" "versines" "[I") (by decide +kernel)) (fun _ h => h) rfl dX1_err_55 ?_
          refine lv_iload hx hb dX1_err_58 (lv_at hl 2 rfl) ?_
          refine lv_aload_n hx hb dX1_err_60 rfl (lv_at hl 5 rfl) ?_
          refine va_get (D := xD E) (ci := 0) (v := .ref (a 10)) (C := RX0) (T := TX0) (N := 8) hx hb hts (by decide +kernel) hown hK hP 7 rfl rfl 3 (by decide) (hts (.fieldLink RX1 41 "RailOffsets$Line" "versines" "[I") (by decide +kernel)) (fun _ h => h) rfl dX1_err_61 ?_
          refine lv_iload hx hb dX1_err_64 (lv_at hl 2 rfl) ?_
          refine xRoSN (nL := 8) ⟨hx, hb, hml, hown, hts⟩ (c_X5_cell l E (a 10) 201 (u13.1 10) x6) ⟨va_cnB (own := RX1) (host := RX5) (index := 42) (y := yX5_cell) 2 hts gX1_err_X5_cell_n42 rfl rfl rfl (hF.2.1.1 (RX1, 42, yX5_cell) (List.mem_of_getElem? (i := 8) rfl)) (hts (.initialized RX5) (by decide +kernel)) hd_X5_cell ⟨(Nat.le_of_ble_eq_true rfl), (Nat.le_of_ble_eq_true rfl)⟩, hts (.static yX5_cell) (by decide +kernel), trivial⟩ hF hS hA (hP.sub [10] rfl) rfl hl.1 rfl (Nat.le_of_ble_eq_true rfl) ⟨(Nat.le_of_ble_eq_true rfl), (Nat.le_of_ble_eq_true rfl)⟩ dX1_err_66 ?_
          refine W.eq (g2 := F0 m 69 ls [.int (s_X5_cell 201 (u13.1 10) x6), .int x6, .ref (a 15)]) rfl ?_
          refine lv_iload hx hb dX1_err_69 (lv_at hl 0 rfl) ?_
          refine lv_iadd hx hb dX1_err_71 ?_
          refine xMdSN (nL := 8) ⟨hx, hb, hml, hown, hts⟩ (c_X5_mark l E (a 15) 201 (u13.1 15) x6 ((s_X5_cell 201 (u13.1 10) x6) + ((iRem (iUshr ((x4 * 1103515245) + 12345) 9) ((2 * p3) + 1)) - p3)) (hL.2 _ (List.mem_of_getElem? (i := 15) rfl))) ⟨va_cnB (own := RX1) (host := RX5) (index := 30) (y := yX5_mark) 3 hts gX1_err_X5_mark_n30 rfl rfl rfl (hF.2.1.1 (RX1, 30, yX5_mark) (List.mem_of_getElem? (i := 7) rfl)) (hts (.initialized RX5) (by decide +kernel)) hd_X5_mark ⟨(Nat.le_of_ble_eq_true rfl), (Nat.le_of_ble_eq_true rfl)⟩, hts (.static yX5_mark) (by decide +kernel), trivial⟩ hF hS hL.2 (xsub1 (List.mem_of_getElem? (i := 15) rfl)) (hP.sub [15] rfl) rfl hl.1 rfl (Nat.le_of_ble_eq_true rfl) ⟨(Nat.le_of_ble_eq_true rfl), (Nat.le_of_ble_eq_true rfl)⟩ dX1_err_72 (fun H1 locs hP1 hk hS => ?_)
          have hP : va_P (xD E) vwCl (wX E a (uR u13 15 (s_X5_mark 201 (u13.1 15) x6 ((s_X5_cell 201 (u13.1 10) x6) + ((iRem (iUshr ((x4 * 1103515245) + 12345) 9) ((2 * p3) + 1)) - p3))))) H1 := xset1 hP (xD_of (ws := wX E a u13) (A := (· ∈ LX a)) hL.1 (fun _ h => h)) (p := 15) rfl hP1 hk
          generalize H1 = H at hP hS ⊢
          refine W.eq (g2 := F0 m 75 ls []) rfl ?_
          refine lv_iinc (k := 2) (v := x6 + 1) (lv' := [(6, .int (x6 + 1)), (7, .int ((iRem (iUshr ((x4 * 1103515245) + 12345) 9) ((2 * p3) + 1)) - p3)), (4, .int ((x4 * 1103515245) + 12345)), (5, .int ((2 * p3) + 1)), (0, .ref (a 14)), (1, .ref (a 7)), (2, .int p2), (3, .int p3)]) hx hb dX1_err_75 hl rfl rfl (by decide) rfl (fun ls hl => ?_)
          refine lv_goto (tgt := 13) hx hb dX1_err_78 rfl ?_
          exact ih13 (uR u13 15 (s_X5_mark 201 (u13.1 15) x6 ((s_X5_cell 201 (u13.1 10) x6) + ((iRem (iUshr ((x4 * 1103515245) + 12345) 9) ((2 * p3) + 1)) - p3)))) ((x4 * 1103515245) + 12345) (x6 + 1) _ _ _ (hI0) (Nat.lt_of_lt_of_le (xupl q1 (hI0)) (Nat.le_of_lt_succ hM)) hR (lv_sub hl [0, 3, 2, 4, 5, 6, 7] rfl) hP hS
  exact L13 (((u.2 3).toInt + 1 - (1 : Int32).toInt).toNat + 1) u p2 1 _ _ ls (hp0) (Nat.lt_succ_self _) hR hl hP hS
