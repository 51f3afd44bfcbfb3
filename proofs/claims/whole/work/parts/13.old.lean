def s_X1_sum_L4 : Nat → xU → Int32 → Int32 → xU
  | 0, u, _, _ => u
  | n + 1, u, x1, x2 =>
    if (u.2 3) < x2 then
      u
    else
      s_X1_sum_L4 n (uR u 29 (s_X5_mark 201 (u.1 29) x2 ((s_X5_cell 201 (u.1 29) (x2 - 1)) + (x1 + ((s_X5_cell 201 (u.1 15) x2) - (s_X5_cell 201 (u.1 10) x2)))))) (x1 + ((s_X5_cell 201 (u.1 15) x2) - (s_X5_cell 201 (u.1 10) x2))) (x2 + 1)
def s_X1_sum (u : xU) : xU :=
  s_X1_sum_L4 (((u.2 3).toInt + 1 - (1 : Int32).toInt).toNat + 1) u 0 1
abbrev rm_X1_sum : Room := { frames := 1, cells := 0, slots := 0, locals := 22 }
set_option maxHeartbeats 8000000 in
set_option maxRecDepth 100000 in
theorem c_X1_sum (l : Launch) (E : xG) (a : Nat → Nat) (u : xU)  (hp0 : (u.2 3).toInt < 2147483647) (hL : xOK E (LX a)) : xMd l E yX1_sum wsX1_sum rm_X1_sum (LX a) [.ref (a 14)] (wX E a u) (none) (wX E a (s_X1_sum u)) := by
  refine xMd.of (cc := cX1_sum) (maxL := 3) (ret := none) (by decide) rfl (Nat.le_of_ble_eq_true rfl) ?_
  intro p e s m below meth c ls hAt hF hP hS hl
  obtain ⟨hx, hb, hr, hml, hown, hts, hlocks, -⟩ := hAt
  have hown : s.vm.findClass RX1 = some m.cls := hown
  have hl : lv_has ls 3 [(0, .ref (a 14))] := hl
  have hK := hF.1
  have hA := hL.2
  change W p l e rm_X1_sum s m ([.ref (a 14)] : List Value).toArray below meth c s.heap [] 0 0 (xQmd E below (LX a) (none) (wX E a (s_X1_sum u)) ([.ref (a 14)] : List Value).toArray s) _
  have hS : va_S (· ∈ LX a) s.heap s.heap [] := hS
  have hR : s_X1_sum u = s_X1_sum u := rfl
  refine lv_iconst (v := 0) hx hb dX1_sum_0 rfl ?_
  refine lv_istore_n (lv' := [(1, .int 0), (0, .ref (a 14))]) hx hb dX1_sum_1 rfl hl (by decide) rfl (fun ls hl => ?_)
  refine lv_iconst (v := 1) hx hb dX1_sum_2 rfl ?_
  refine lv_istore_n (lv' := [(2, .int 1), (1, .int 0), (0, .ref (a 14))]) hx hb dX1_sum_3 rfl hl (by decide) rfl (fun ls hl => ?_)
  have L4 : ∀ (n4 : Nat) (u4 : xU) (x1 : Int32) (x2 : Int32) (H : Heap) (locs : List Loc) (ls : Array Slot), ((u4.2 3).toInt < 2147483647) → ((u4.2 3).toInt + 1 - x2.toInt).toNat < n4 → s_X1_sum u = s_X1_sum_L4 n4 u4 x1 x2 → lv_has ls 3 [(2, .int x2), (1, .int x1), (0, .ref (a 14))] → va_P (xD E) vwCl (wX E a u4) H → va_S (· ∈ LX a) s.heap H locs → W p l e rm_X1_sum s m ([.ref (a 14)] : List Value).toArray below meth c H locs 0 0 (xQmd E below (LX a) (none) (wX E a (s_X1_sum u)) ([.ref (a 14)] : List Value).toArray s) (F0 m 4 ls []) := by
    intro n4
    induction n4 with
    | zero => intro u4 x1 x2 H locs ls hI0 hM4 hR hl hP hS; exact absurd hM4 (Nat.not_lt_zero _)
    | succ n4 ih4 =>
      intro u4 x1 x2 H locs ls hI0 hM4 hR hl hP hS
      refine lv_iload_n hx hb dX1_sum_4 rfl (lv_at hl 0 rfl) ?_
      refine lv_aload_n hx hb dX1_sum_5 rfl (lv_at hl 2 rfl) ?_
      refine va_get (D := xD E) (ci := 1) (v := .ref (a 7)) (C := RX1) (T := TX1) (N := 3) hx hb hts (by decide +kernel) hown hK hP 14 rfl rfl 0 (by decide) (hts (.fieldLink RX1 9 "RailOffsets$OldLine" "line" "LRailOffsets$Line;") (by decide +kernel)) (fun _ h => h) rfl dX1_sum_6 ?_
      refine va_get (D := xD E) (ci := 0) (v := .int (u4.2 3)) (C := RX0) (T := TX0) (N := 8) hx hb hts (by decide +kernel) hown hK hP 7 rfl rfl 7 (by decide) (hts (.fieldLink RX1 44 "RailOffsets$Line" "stations" "I") (by decide +kernel)) (fun _ h => h) rfl dX1_sum_9 ?_
      refine lv_icmp_gt (tgt := 64) hx hb dX1_sum_12 rfl (fun q1 => ?_) (fun q1 => ?_)
      · have hR := hR.trans (if_pos q1)
        have hR : s_X1_sum u = u4 := hR
        exact W.vret hx hb hr (fun t ht _ => by rw [hR]; exact ⟨⟨rfl, by rw [ht]; exact hP⟩, hS.F ht⟩) hS.2.2 dX1_sum_64
      · have hR := hR.trans (if_neg q1)
        refine lv_iload_n hx hb dX1_sum_15 rfl (lv_at hl 1 rfl) ?_
        refine lv_aload_n hx hb dX1_sum_16 rfl (lv_at hl 2 rfl) ?_
        refine va_get (D := xD E) (ci := 1) (v := .ref (a 15)) (C := RX1) (T := TX1) (N := 3) hx hb hts (by decide +kernel) hown hK hP 14 rfl rfl 1 (by decide) (hts (.fieldLink RX1 15 "RailOffsets$OldLine" "versines" "[I") (by decide +kernel)) (fun _ h => h) rfl dX1_sum_17 ?_
        refine lv_iload_n hx hb dX1_sum_20 rfl (lv_at hl 0 rfl) ?_
        refine xRoSN (nL := 3) ⟨hx, hb, hml, hown, hts⟩ (c_X5_cell l E (a 15) 201 (u4.1 15) x2) ⟨va_cnB (own := RX1) (host := RX5) (index := 52) (y := yX5_cell) 2 hts gX1_sum_X5_cell_n52 rfl rfl rfl (hF.2.1.1 (RX1, 52, yX5_cell) (List.mem_of_getElem? (i := 8) rfl)) (hts (.initialized RX5) (by decide +kernel)) hd_X5_cell ⟨(Nat.le_of_ble_eq_true rfl), (Nat.le_of_ble_eq_true rfl)⟩, hts (.static yX5_cell) (by decide +kernel), trivial⟩ hF hS hA (hP.sub [15] rfl) rfl hl.1 rfl (Nat.le_of_ble_eq_true rfl) ⟨(Nat.le_of_ble_eq_true rfl), (Nat.le_of_ble_eq_true rfl)⟩ dX1_sum_21 ?_
        refine W.eq (g2 := F0 m 24 ls [.int (s_X5_cell 201 (u4.1 15) x2), .int x1]) rfl ?_
        refine lv_aload_n hx hb dX1_sum_24 rfl (lv_at hl 2 rfl) ?_
        refine va_get (D := xD E) (ci := 1) (v := .ref (a 7)) (C := RX1) (T := TX1) (N := 3) hx hb hts (by decide +kernel) hown hK hP 14 rfl rfl 0 (by decide) (hts (.fieldLink RX1 9 "RailOffsets$OldLine" "line" "LRailOffsets$Line;") (by decide +kernel)) (fun _ h => h) rfl dX1_sum_25 ?_
        refine va_get (D := xD E) (ci := 0) (v := .ref (a 10)) (C := RX0) (T := TX0) (N := 8) hx hb hts (by decide +kernel) hown hK hP 7 rfl rfl 3 (by decide) (hts (.fieldLink RX1 51 "RailOffsets$Line" "versines" "[I") (by decide +kernel)) (fun _ h => h) rfl dX1_sum_28 ?_
        refine lv_iload_n hx hb dX1_sum_31 rfl (lv_at hl 0 rfl) ?_
        refine xRoSN (nL := 3) ⟨hx, hb, hml, hown, hts⟩ (c_X5_cell l E (a 10) 201 (u4.1 10) x2) ⟨va_cnB (own := RX1) (host := RX5) (index := 52) (y := yX5_cell) 2 hts gX1_sum_X5_cell_n52 rfl rfl rfl (hF.2.1.1 (RX1, 52, yX5_cell) (List.mem_of_getElem? (i := 8) rfl)) (hts (.initialized RX5) (by decide +kernel)) hd_X5_cell ⟨(Nat.le_of_ble_eq_true rfl), (Nat.le_of_ble_eq_true rfl)⟩, hts (.static yX5_cell) (by decide +kernel), trivial⟩ hF hS hA (hP.sub [10] rfl) rfl hl.1 rfl (Nat.le_of_ble_eq_true rfl) ⟨(Nat.le_of_ble_eq_true rfl), (Nat.le_of_ble_eq_true rfl)⟩ dX1_sum_32 ?_
        refine W.eq (g2 := F0 m 35 ls [.int (s_X5_cell 201 (u4.1 10) x2), .int (s_X5_cell 201 (u4.1 15) x2), .int x1]) rfl ?_
        refine lv_isub hx hb dX1_sum_35 ?_
        refine lv_iadd hx hb dX1_sum_36 ?_
        refine lv_istore_n (lv' := [(1, .int (x1 + ((s_X5_cell 201 (u4.1 15) x2) - (s_X5_cell 201 (u4.1 10) x2)))), (2, .int x2), (0, .ref (a 14))]) hx hb dX1_sum_37 rfl hl (by decide) rfl (fun ls hl => ?_)
        refine lv_aload_n hx hb dX1_sum_38 rfl (lv_at hl 2 rfl) ?_
        refine va_get (D := xD E) (ci := 1) (v := .ref (a 29)) (C := RX1) (T := TX1) (N := 3) hx hb hts (by decide +kernel) hown hK hP 14 rfl rfl 2 (by decide) (hts (.fieldLink RX1 19 "RailOffsets$OldLine" "slews" "[I") (by decide +kernel)) (fun _ h => h) rfl dX1_sum_39 ?_
        refine lv_iload_n hx hb dX1_sum_42 rfl (lv_at hl 1 rfl) ?_
        refine lv_aload_n hx hb dX1_sum_43 rfl (lv_at hl 2 rfl) ?_
        refine va_get (D := xD E) (ci := 1) (v := .ref (a 29)) (C := RX1) (T := TX1) (N := 3) hx hb hts (by decide +kernel) hown hK hP 14 rfl rfl 2 (by decide) (hts (.fieldLink RX1 19 "RailOffsets$OldLine" "slews" "[I") (by decide +kernel)) (fun _ h => h) rfl dX1_sum_44 ?_
        refine lv_iload_n hx hb dX1_sum_47 rfl (lv_at hl 1 rfl) ?_
        refine lv_iconst (v := 1) hx hb dX1_sum_48 rfl ?_
        refine lv_isub hx hb dX1_sum_49 ?_
        refine xRoSN (nL := 3) ⟨hx, hb, hml, hown, hts⟩ (c_X5_cell l E (a 29) 201 (u4.1 29) (x2 - 1)) ⟨va_cnB (own := RX1) (host := RX5) (index := 52) (y := yX5_cell) 2 hts gX1_sum_X5_cell_n52 rfl rfl rfl (hF.2.1.1 (RX1, 52, yX5_cell) (List.mem_of_getElem? (i := 8) rfl)) (hts (.initialized RX5) (by decide +kernel)) hd_X5_cell ⟨(Nat.le_of_ble_eq_true rfl), (Nat.le_of_ble_eq_true rfl)⟩, hts (.static yX5_cell) (by decide +kernel), trivial⟩ hF hS hA (hP.sub [29] rfl) rfl hl.1 rfl (Nat.le_of_ble_eq_true rfl) ⟨(Nat.le_of_ble_eq_true rfl), (Nat.le_of_ble_eq_true rfl)⟩ dX1_sum_50 ?_
        refine W.eq (g2 := F0 m 53 ls [.int (s_X5_cell 201 (u4.1 29) (x2 - 1)), .int x2, .ref (a 29)]) rfl ?_
        refine lv_iload_n hx hb dX1_sum_53 rfl (lv_at hl 0 rfl) ?_
        refine lv_iadd hx hb dX1_sum_54 ?_
        refine xMdSN (nL := 3) ⟨hx, hb, hml, hown, hts⟩ (c_X5_mark l E (a 29) 201 (u4.1 29) x2 ((s_X5_cell 201 (u4.1 29) (x2 - 1)) + (x1 + ((s_X5_cell 201 (u4.1 15) x2) - (s_X5_cell 201 (u4.1 10) x2)))) (hL.2 _ (List.mem_of_getElem? (i := 29) rfl))) ⟨va_cnB (own := RX1) (host := RX5) (index := 37) (y := yX5_mark) 3 hts gX1_sum_X5_mark_n37 rfl rfl rfl (hF.2.1.1 (RX1, 37, yX5_mark) (List.mem_of_getElem? (i := 7) rfl)) (hts (.initialized RX5) (by decide +kernel)) hd_X5_mark ⟨(Nat.le_of_ble_eq_true rfl), (Nat.le_of_ble_eq_true rfl)⟩, hts (.static yX5_mark) (by decide +kernel), trivial⟩ hF hS hL.2 (xsub1 (List.mem_of_getElem? (i := 29) rfl)) (hP.sub [29] rfl) rfl hl.1 rfl (Nat.le_of_ble_eq_true rfl) ⟨(Nat.le_of_ble_eq_true rfl), (Nat.le_of_ble_eq_true rfl)⟩ dX1_sum_55 (fun H1 locs hP1 hk hS => ?_)
        have hP : va_P (xD E) vwCl (wX E a (uR u4 29 (s_X5_mark 201 (u4.1 29) x2 ((s_X5_cell 201 (u4.1 29) (x2 - 1)) + (x1 + ((s_X5_cell 201 (u4.1 15) x2) - (s_X5_cell 201 (u4.1 10) x2))))))) H1 := xset1 hP (xD_of (ws := wX E a u4) (A := (· ∈ LX a)) hL.1 (fun _ h => h)) (p := 29) rfl hP1 hk
        generalize H1 = H at hP hS ⊢
        refine W.eq (g2 := F0 m 58 ls []) rfl ?_
        refine lv_iinc (k := 1) (v := x2 + 1) (lv' := [(2, .int (x2 + 1)), (1, .int (x1 + ((s_X5_cell 201 (u4.1 15) x2) - (s_X5_cell 201 (u4.1 10) x2)))), (0, .ref (a 14))]) hx hb dX1_sum_58 hl rfl rfl (by decide) rfl (fun ls hl => ?_)
        refine lv_goto (tgt := 4) hx hb dX1_sum_61 rfl ?_
        exact ih4 (uR u4 29 (s_X5_mark 201 (u4.1 29) x2 ((s_X5_cell 201 (u4.1 29) (x2 - 1)) + (x1 + ((s_X5_cell 201 (u4.1 15) x2) - (s_X5_cell 201 (u4.1 10) x2)))))) (x1 + ((s_X5_cell 201 (u4.1 15) x2) - (s_X5_cell 201 (u4.1 10) x2))) (x2 + 1) _ _ _ (hI0) (Nat.lt_of_lt_of_le (xupl q1 (hI0)) (Nat.le_of_lt_succ hM4)) hR (lv_sub hl [0, 1, 2] rfl) hP hS
  exact L4 (((u.2 3).toInt + 1 - (1 : Int32).toInt).toNat + 1) u 0 1 _ _ ls (hp0) (Nat.lt_succ_self _) hR hl hP hS
def s_X1_slewAt (u : xU) (p1 : Int32) : Int32 :=
  s_X5_cell 201 (u.1 29) p1
abbrev rm_X1_slewAt : Room := { frames := 1, cells := 0, slots := 0, locals := 21 }
set_option maxHeartbeats 8000000 in
set_option maxRecDepth 100000 in
theorem c_X1_slewAt (l : Launch) (E : xG) (a : Nat → Nat) (u : xU) (p1 : Int32) : xRo l E yX1_slewAt wsX1_slewAt rm_X1_slewAt [.ref (a 14), .int p1] (wX E a u) (some (.int (s_X1_slewAt u p1))) := by
  refine xRo.of (cc := cX1_slewAt) (maxL := 2) (ret := (some .int)) (by decide) rfl (Nat.le_of_ble_eq_true rfl) ?_
  intro p e s m below meth c ls hAt hF hP hS hl
  obtain ⟨hx, hb, hr, hml, hown, hts, hlocks, -⟩ := hAt
  have hown : s.vm.findClass RX1 = some m.cls := hown
  have hl : lv_has ls 2 [(0, .ref (a 14)), (1, .int p1)] := hl
  have hK := hF.1
  have hA : ∀ q : Nat, (fun _ => False) q → xA0 E q := fun _ h => h.elim
  change W p l e rm_X1_slewAt s m ([.ref (a 14), .int p1] : List Value).toArray below meth c s.heap [] 0 0 (xQro below (some (.int (s_X1_slewAt u p1))) ([.ref (a 14), .int p1] : List Value).toArray s) _
  have hR : s_X1_slewAt u p1 = s_X1_slewAt u p1 := rfl
  refine lv_aload_n hx hb dX1_slewAt_0 rfl (lv_at hl 0 rfl) ?_
  refine va_get (D := xD E) (ci := 1) (v := .ref (a 29)) (C := RX1) (T := TX1) (N := 3) hx hb hts (by decide +kernel) hown hK hP 14 rfl rfl 2 (by decide) (hts (.fieldLink RX1 19 "RailOffsets$OldLine" "slews" "[I") (by decide +kernel)) (fun _ h => h) rfl dX1_slewAt_1 ?_
  refine lv_iload_n hx hb dX1_slewAt_4 rfl (lv_at hl 1 rfl) ?_
  refine xRoSN (nL := 2) ⟨hx, hb, hml, hown, hts⟩ (c_X5_cell l E (a 29) 201 (u.1 29) p1) ⟨va_cnB (own := RX1) (host := RX5) (index := 52) (y := yX5_cell) 2 hts gX1_slewAt_X5_cell_n52 rfl rfl rfl (hF.2.1.1 (RX1, 52, yX5_cell) (List.mem_of_getElem? (i := 8) rfl)) (hts (.initialized RX5) (by decide +kernel)) hd_X5_cell ⟨(Nat.le_of_ble_eq_true rfl), (Nat.le_of_ble_eq_true rfl)⟩, hts (.static yX5_cell) (by decide +kernel), trivial⟩ hF hS hA (hP.sub [29] rfl) rfl hl.1 rfl (Nat.le_of_ble_eq_true rfl) ⟨(Nat.le_of_ble_eq_true rfl), (Nat.le_of_ble_eq_true rfl)⟩ dX1_slewAt_5 ?_
  refine W.eq (g2 := F0 m 8 ls [.int (s_X5_cell 201 (u.1 29) p1)]) rfl ?_
  have hR : s_X1_slewAt u p1 = s_X5_cell 201 (u.1 29) p1 := hR
  exact W.iret (v := s_X5_cell 201 (u.1 29) p1) hx hb hr (fun t ht _ => ⟨congrArg (fun z => Outcome.returned (some (Value.int z))) hR.symm, ht⟩) (fun _ h => by cases h) dX1_slewAt_8
def s_X1_greatest_L4 : Nat → xU → Int32 → Int32 → Int32
  | 0, _, _, _ => 0
  | n + 1, u, x1, x2 =>
    if (u.2 3) < x2 then
      x1
    else
      s_X1_greatest_L4 n u (iMax x1 (iAbs (s_X1_slewAt u x2))) (x2 + 1)
def s_X1_greatest (u : xU) : Int32 :=
  s_X1_greatest_L4 (((u.2 3).toInt + 1 - (1 : Int32).toInt).toNat + 1) u 0 1
abbrev rm_X1_greatest : Room := { frames := 2, cells := 0, slots := 0, locals := 42 }
set_option maxHeartbeats 8000000 in
set_option maxRecDepth 100000 in
theorem c_X1_greatest (l : Launch) (E : xG) (a : Nat → Nat) (u : xU)  (hp0 : (u.2 3).toInt < 2147483647) : xRo l E yX1_greatest wsX1_greatest rm_X1_greatest [.ref (a 14)] (wX E a u) (some (.int (s_X1_greatest u))) := by
  refine xRo.of (cc := cX1_greatest) (maxL := 3) (ret := (some .int)) (by decide) rfl (Nat.le_of_ble_eq_true rfl) ?_
  intro p e s m below meth c ls hAt hF hP hS hl
  obtain ⟨hx, hb, hr, hml, hown, hts, hlocks, -⟩ := hAt
  have hown : s.vm.findClass RX1 = some m.cls := hown
  have hl : lv_has ls 3 [(0, .ref (a 14))] := hl
  have hK := hF.1
  have hA : ∀ q : Nat, (fun _ => False) q → xA0 E q := fun _ h => h.elim
  change W p l e rm_X1_greatest s m ([.ref (a 14)] : List Value).toArray below meth c s.heap [] 0 0 (xQro below (some (.int (s_X1_greatest u))) ([.ref (a 14)] : List Value).toArray s) _
  have hR : s_X1_greatest u = s_X1_greatest u := rfl
  refine lv_iconst (v := 0) hx hb dX1_greatest_0 rfl ?_
  refine lv_istore_n (lv' := [(1, .int 0), (0, .ref (a 14))]) hx hb dX1_greatest_1 rfl hl (by decide) rfl (fun ls hl => ?_)
  refine lv_iconst (v := 1) hx hb dX1_greatest_2 rfl ?_
  refine lv_istore_n (lv' := [(2, .int 1), (1, .int 0), (0, .ref (a 14))]) hx hb dX1_greatest_3 rfl hl (by decide) rfl (fun ls hl => ?_)
  have L4 : ∀ (n4 : Nat) (x1 : Int32) (x2 : Int32) (ls : Array Slot), ((u.2 3).toInt + 1 - x2.toInt).toNat < n4 → s_X1_greatest u = s_X1_greatest_L4 n4 u x1 x2 → lv_has ls 3 [(2, .int x2), (1, .int x1), (0, .ref (a 14))] → W p l e rm_X1_greatest s m ([.ref (a 14)] : List Value).toArray below meth c s.heap [] 0 0 (xQro below (some (.int (s_X1_greatest u))) ([.ref (a 14)] : List Value).toArray s) (F0 m 4 ls []) := by
    intro n4
    induction n4 with
    | zero => intro x1 x2 ls hM4 hR hl; exact absurd hM4 (Nat.not_lt_zero _)
    | succ n4 ih4 =>
      intro x1 x2 ls hM4 hR hl
      refine lv_iload_n hx hb dX1_greatest_4 rfl (lv_at hl 0 rfl) ?_
      refine lv_aload_n hx hb dX1_greatest_5 rfl (lv_at hl 2 rfl) ?_
      refine va_get (D := xD E) (ci := 1) (v := .ref (a 7)) (C := RX1) (T := TX1) (N := 3) hx hb hts (by decide +kernel) hown hK hP 14 rfl rfl 0 (by decide) (hts (.fieldLink RX1 9 "RailOffsets$OldLine" "line" "LRailOffsets$Line;") (by decide +kernel)) (fun _ h => h) rfl dX1_greatest_6 ?_
      refine va_get (D := xD E) (ci := 0) (v := .int (u.2 3)) (C := RX0) (T := TX0) (N := 8) hx hb hts (by decide +kernel) hown hK hP 7 rfl rfl 7 (by decide) (hts (.fieldLink RX1 44 "RailOffsets$Line" "stations" "I") (by decide +kernel)) (fun _ h => h) rfl dX1_greatest_9 ?_
      refine lv_icmp_gt (tgt := 34) hx hb dX1_greatest_12 rfl (fun q1 => ?_) (fun q1 => ?_)
      · have hR := hR.trans (if_pos q1)
        refine lv_iload_n hx hb dX1_greatest_34 rfl (lv_at hl 1 rfl) ?_
        have hR : s_X1_greatest u = x1 := hR
        exact W.iret (v := x1) hx hb hr (fun t ht _ => ⟨congrArg (fun z => Outcome.returned (some (Value.int z))) hR.symm, ht⟩) (fun _ h => by cases h) dX1_greatest_35
      · have hR := hR.trans (if_neg q1)
        refine lv_iload_n hx hb dX1_greatest_15 rfl (lv_at hl 1 rfl) ?_
        refine lv_aload_n hx hb dX1_greatest_16 rfl (lv_at hl 2 rfl) ?_
        refine lv_iload_n hx hb dX1_greatest_17 rfl (lv_at hl 0 rfl) ?_
        refine xRoV (nL := 3) ⟨hx, hb, hml, hown, hts⟩ (c_X1_slewAt l E a u x2) (cwV 1 hts gX1_greatest_X1_slewAt rfl rfl rfl ⟨rfl, hd_X1_slewAt⟩ ⟨(Nat.le_of_ble_eq_true rfl), (Nat.le_of_ble_eq_true rfl)⟩) hF hS hA hP (va_recv (q := (RX1, TX1, 3)) hK hP (ci := 1) rfl (q0 := 14) rfl) rfl hl.1 rfl (Nat.le_of_ble_eq_true rfl) ⟨(Nat.le_of_ble_eq_true rfl), (Nat.le_of_ble_eq_true rfl)⟩ dX1_greatest_18 ?_
        refine W.eq (g2 := F0 m 21 ls [.int (s_X1_slewAt u x2), .int x1]) rfl ?_
        refine va_mabs hx hb (hml.trans hl.1.symm) hown (hts (.methodLink RX1 59 Lib.Math.abs.name) (by decide +kernel)) (hts (.static Lib.Math.abs.name) (by decide +kernel)) (hts (.initialized "java/lang/Math") (by decide +kernel)) (hts (.code Lib.Math.abs.name Lib.Math.abs.code 1 (some .int)) (by decide +kernel)) (Nat.le_of_ble_eq_true rfl) (Nat.le_of_ble_eq_true rfl) (Nat.le_of_ble_eq_true rfl) (Nat.le_of_ble_eq_true rfl) dX1_greatest_21 ?_
        refine W.eq (g2 := F0 m 24 ls [.int (iAbs (s_X1_slewAt u x2)), .int x1]) rfl ?_
        refine va_mmax hx hb (hml.trans hl.1.symm) hown (hts (.methodLink RX1 34 Lib.Math.max.name) (by decide +kernel)) (hts (.static Lib.Math.max.name) (by decide +kernel)) (hts (.initialized "java/lang/Math") (by decide +kernel)) (hts (.code Lib.Math.max.name Lib.Math.max.code 2 (some .int)) (by decide +kernel)) (Nat.le_of_ble_eq_true rfl) (Nat.le_of_ble_eq_true rfl) (Nat.le_of_ble_eq_true rfl) (Nat.le_of_ble_eq_true rfl) dX1_greatest_24 ?_
        refine W.eq (g2 := F0 m 27 ls [.int (iMax x1 (iAbs (s_X1_slewAt u x2)))]) rfl ?_
        refine lv_istore_n (lv' := [(1, .int (iMax x1 (iAbs (s_X1_slewAt u x2)))), (2, .int x2), (0, .ref (a 14))]) hx hb dX1_greatest_27 rfl hl (by decide) rfl (fun ls hl => ?_)
        refine lv_iinc (k := 1) (v := x2 + 1) (lv' := [(2, .int (x2 + 1)), (1, .int (iMax x1 (iAbs (s_X1_slewAt u x2)))), (0, .ref (a 14))]) hx hb dX1_greatest_28 hl rfl rfl (by decide) rfl (fun ls hl => ?_)
        refine lv_goto (tgt := 4) hx hb dX1_greatest_31 rfl ?_
        exact ih4 (iMax x1 (iAbs (s_X1_slewAt u x2))) (x2 + 1) _ (Nat.lt_of_lt_of_le (xupl q1 (hp0)) (Nat.le_of_lt_succ hM4)) hR (lv_sub hl [0, 1, 2] rfl)
  exact L4 (((u.2 3).toInt + 1 - (1 : Int32).toInt).toNat + 1) 0 1 ls (Nat.lt_succ_self _) hR hl
def s_X1_widest_L7 : Nat → xU → Int32 → Int32 → Int32
  | 0, _, _, _ => 0
  | n + 1, u, x1, x2 =>
    if (u.2 3) < x2 then
      (-1)
    else
      if (iAbs (s_X1_slewAt u x2)) = x1 then
        x2
      else
        s_X1_widest_L7 n u x1 (x2 + 1)
def s_X1_widest (u : xU) : Int32 :=
  s_X1_widest_L7 (((u.2 3).toInt + 1 - (1 : Int32).toInt).toNat + 1) u (s_X1_greatest u) 1
abbrev rm_X1_widest : Room := { frames := 3, cells := 0, slots := 0, locals := 64 }
set_option maxHeartbeats 8000000 in
set_option maxRecDepth 100000 in
theorem c_X1_widest (l : Launch) (E : xG) (a : Nat → Nat) (u : xU)  (hp0 : (u.2 3).toInt < 2147483647) : xRo l E yX1_widest wsX1_widest rm_X1_widest [.ref (a 14)] (wX E a u) (some (.int (s_X1_widest u))) := by
  refine xRo.of (cc := cX1_widest) (maxL := 3) (ret := (some .int)) (by decide) rfl (Nat.le_of_ble_eq_true rfl) ?_
  intro p e s m below meth c ls hAt hF hP hS hl
  obtain ⟨hx, hb, hr, hml, hown, hts, hlocks, -⟩ := hAt
  have hown : s.vm.findClass RX1 = some m.cls := hown
  have hl : lv_has ls 3 [(0, .ref (a 14))] := hl
  have hK := hF.1
  have hA : ∀ q : Nat, (fun _ => False) q → xA0 E q := fun _ h => h.elim
  change W p l e rm_X1_widest s m ([.ref (a 14)] : List Value).toArray below meth c s.heap [] 0 0 (xQro below (some (.int (s_X1_widest u))) ([.ref (a 14)] : List Value).toArray s) _
  have hR : s_X1_widest u = s_X1_widest u := rfl
  refine lv_aload_n hx hb dX1_widest_0 rfl (lv_at hl 0 rfl) ?_
  refine xRoV (nL := 3) ⟨hx, hb, hml, hown, hts⟩ (c_X1_greatest l E a u  (hp0)) (cwV 0 hts gX1_widest_X1_greatest rfl rfl rfl ⟨rfl, hd_X1_greatest⟩ ⟨(Nat.le_of_ble_eq_true rfl), (Nat.le_of_ble_eq_true rfl)⟩) hF hS hA hP (va_recv (q := (RX1, TX1, 3)) hK hP (ci := 1) rfl (q0 := 14) rfl) rfl hl.1 rfl (Nat.le_of_ble_eq_true rfl) ⟨(Nat.le_of_ble_eq_true rfl), (Nat.le_of_ble_eq_true rfl)⟩ dX1_widest_1 ?_
  refine W.eq (g2 := F0 m 4 ls [.int (s_X1_greatest u)]) rfl ?_
  refine lv_istore_n (lv' := [(1, .int (s_X1_greatest u)), (0, .ref (a 14))]) hx hb dX1_widest_4 rfl hl (by decide) rfl (fun ls hl => ?_)
  refine lv_iconst (v := 1) hx hb dX1_widest_5 rfl ?_
  refine lv_istore_n (lv' := [(2, .int 1), (1, .int (s_X1_greatest u)), (0, .ref (a 14))]) hx hb dX1_widest_6 rfl hl (by decide) rfl (fun ls hl => ?_)
  have L7 : ∀ (n7 : Nat) (x2 : Int32) (ls : Array Slot), ((u.2 3).toInt + 1 - x2.toInt).toNat < n7 → s_X1_widest u = s_X1_widest_L7 n7 u (s_X1_greatest u) x2 → lv_has ls 3 [(2, .int x2), (1, .int (s_X1_greatest u)), (0, .ref (a 14))] → W p l e rm_X1_widest s m ([.ref (a 14)] : List Value).toArray below meth c s.heap [] 0 0 (xQro below (some (.int (s_X1_widest u))) ([.ref (a 14)] : List Value).toArray s) (F0 m 7 ls []) := by
    intro n7
    induction n7 with
    | zero => intro x2 ls hM7 hR hl; exact absurd hM7 (Nat.not_lt_zero _)
    | succ n7 ih7 =>
      intro x2 ls hM7 hR hl
      refine lv_iload_n hx hb dX1_widest_7 rfl (lv_at hl 0 rfl) ?_
      refine lv_aload_n hx hb dX1_widest_8 rfl (lv_at hl 2 rfl) ?_
      refine va_get (D := xD E) (ci := 1) (v := .ref (a 7)) (C := RX1) (T := TX1) (N := 3) hx hb hts (by decide +kernel) hown hK hP 14 rfl rfl 0 (by decide) (hts (.fieldLink RX1 9 "RailOffsets$OldLine" "line" "LRailOffsets$Line;") (by decide +kernel)) (fun _ h => h) rfl dX1_widest_9 ?_
      refine va_get (D := xD E) (ci := 0) (v := .int (u.2 3)) (C := RX0) (T := TX0) (N := 8) hx hb hts (by decide +kernel) hown hK hP 7 rfl rfl 7 (by decide) (hts (.fieldLink RX1 44 "RailOffsets$Line" "stations" "I") (by decide +kernel)) (fun _ h => h) rfl dX1_widest_12 ?_
      refine lv_icmp_gt (tgt := 38) hx hb dX1_widest_15 rfl (fun q1 => ?_) (fun q1 => ?_)
      · have hR := hR.trans (if_pos q1)
        refine lv_iconst (v := (-1)) hx hb dX1_widest_38 rfl ?_
        have hR : s_X1_widest u = (-1) := hR
        exact W.iret (v := (-1)) hx hb hr (fun t ht _ => ⟨congrArg (fun z => Outcome.returned (some (Value.int z))) hR.symm, ht⟩) (fun _ h => by cases h) dX1_widest_39
      · have hR := hR.trans (if_neg q1)
        refine lv_aload_n hx hb dX1_widest_18 rfl (lv_at hl 2 rfl) ?_
        refine lv_iload_n hx hb dX1_widest_19 rfl (lv_at hl 0 rfl) ?_
        refine xRoV (nL := 3) ⟨hx, hb, hml, hown, hts⟩ (c_X1_slewAt l E a u x2) (cwV 1 hts gX1_widest_X1_slewAt rfl rfl rfl ⟨rfl, hd_X1_slewAt⟩ ⟨(Nat.le_of_ble_eq_true rfl), (Nat.le_of_ble_eq_true rfl)⟩) hF hS hA hP (va_recv (q := (RX1, TX1, 3)) hK hP (ci := 1) rfl (q0 := 14) rfl) rfl hl.1 rfl (Nat.le_of_ble_eq_true rfl) ⟨(Nat.le_of_ble_eq_true rfl), (Nat.le_of_ble_eq_true rfl)⟩ dX1_widest_20 ?_
        refine W.eq (g2 := F0 m 23 ls [.int (s_X1_slewAt u x2)]) rfl ?_
        refine va_mabs hx hb (hml.trans hl.1.symm) hown (hts (.methodLink RX1 59 Lib.Math.abs.name) (by decide +kernel)) (hts (.static Lib.Math.abs.name) (by decide +kernel)) (hts (.initialized "java/lang/Math") (by decide +kernel)) (hts (.code Lib.Math.abs.name Lib.Math.abs.code 1 (some .int)) (by decide +kernel)) (Nat.le_of_ble_eq_true rfl) (Nat.le_of_ble_eq_true rfl) (Nat.le_of_ble_eq_true rfl) (Nat.le_of_ble_eq_true rfl) dX1_widest_23 ?_
        refine W.eq (g2 := F0 m 26 ls [.int (iAbs (s_X1_slewAt u x2))]) rfl ?_
        refine lv_iload_n hx hb dX1_widest_26 rfl (lv_at hl 1 rfl) ?_
        refine lv_icmp_ne (tgt := 32) hx hb dX1_widest_27 rfl (fun q2 => ?_) (fun q2 => ?_)
        · have hR := hR.trans (if_neg q2)
          refine lv_iinc (k := 0) (v := x2 + 1) (lv' := [(2, .int (x2 + 1)), (1, .int (s_X1_greatest u)), (0, .ref (a 14))]) hx hb dX1_widest_32 hl rfl rfl (by decide) rfl (fun ls hl => ?_)
          refine lv_goto (tgt := 7) hx hb dX1_widest_35 rfl ?_
          exact ih7 (x2 + 1) _ (Nat.lt_of_lt_of_le (xupl q1 (hp0)) (Nat.le_of_lt_succ hM7)) hR (lv_sub hl [0, 1, 2] rfl)
        · have hR := hR.trans (if_pos q2)
          refine lv_iload_n hx hb dX1_widest_30 rfl (lv_at hl 0 rfl) ?_
          have hR : s_X1_widest u = x2 := hR
          exact W.iret (v := x2) hx hb hr (fun t ht _ => ⟨congrArg (fun z => Outcome.returned (some (Value.int z))) hR.symm, ht⟩) (fun _ h => by cases h) dX1_widest_31
  exact L7 (((u.2 3).toInt + 1 - (1 : Int32).toInt).toNat + 1) 1 ls (Nat.lt_succ_self _) hR hl
def s_X1_together_L4 : Nat → xU → Int64 → Int32 → Int64
  | 0, _, _, _ => 0
  | n + 1, u, x1, x3 =>
    if (u.2 3) < x3 then
      x1
    else
      s_X1_together_L4 n u (x1 + ((iAbs (s_X1_slewAt u x3)).toInt64)) (x3 + 1)
def s_X1_together (u : xU) : Int64 :=
  s_X1_together_L4 (((u.2 3).toInt + 1 - (1 : Int32).toInt).toNat + 1) u 0 1
abbrev rm_X1_together : Room := { frames := 2, cells := 0, slots := 0, locals := 42 }
set_option maxHeartbeats 8000000 in
set_option maxRecDepth 100000 in
theorem c_X1_together (l : Launch) (E : xG) (a : Nat → Nat) (u : xU)  (hp0 : (u.2 3).toInt < 2147483647) : xRo l E yX1_together wsX1_together rm_X1_together [.ref (a 14)] (wX E a u) (some (.long (s_X1_together u))) := by
  refine xRo.of (cc := cX1_together) (maxL := 4) (ret := (some .long)) (by decide) rfl (Nat.le_of_ble_eq_true rfl) ?_
  intro p e s m below meth c ls hAt hF hP hS hl
  obtain ⟨hx, hb, hr, hml, hown, hts, hlocks, -⟩ := hAt
  have hown : s.vm.findClass RX1 = some m.cls := hown
  have hl : lv_has ls 4 [(0, .ref (a 14))] := hl
  have hK := hF.1
  have hA : ∀ q : Nat, (fun _ => False) q → xA0 E q := fun _ h => h.elim
  change W p l e rm_X1_together s m ([.ref (a 14)] : List Value).toArray below meth c s.heap [] 0 0 (xQro below (some (.long (s_X1_together u))) ([.ref (a 14)] : List Value).toArray s) _
  have hR : s_X1_together u = s_X1_together u := rfl
  refine lv_lconst (v := 0) hx hb dX1_together_0 rfl ?_
  refine lv_lstore_n (lv' := [(1, .long 0), (0, .ref (a 14))]) hx hb dX1_together_1 rfl hl (by decide) rfl (fun ls hl => ?_)
  refine lv_iconst (v := 1) hx hb dX1_together_2 rfl ?_
  refine lv_istore_n (lv' := [(3, .int 1), (1, .long 0), (0, .ref (a 14))]) hx hb dX1_together_3 rfl hl (by decide) rfl (fun ls hl => ?_)
  have L4 : ∀ (n4 : Nat) (x1 : Int64) (x3 : Int32) (ls : Array Slot), ((u.2 3).toInt + 1 - x3.toInt).toNat < n4 → s_X1_together u = s_X1_together_L4 n4 u x1 x3 → lv_has ls 4 [(3, .int x3), (1, .long x1), (0, .ref (a 14))] → W p l e rm_X1_together s m ([.ref (a 14)] : List Value).toArray below meth c s.heap [] 0 0 (xQro below (some (.long (s_X1_together u))) ([.ref (a 14)] : List Value).toArray s) (F0 m 4 ls []) := by
    intro n4
    induction n4 with
    | zero => intro x1 x3 ls hM4 hR hl; exact absurd hM4 (Nat.not_lt_zero _)
    | succ n4 ih4 =>
      intro x1 x3 ls hM4 hR hl
      refine lv_iload_n hx hb dX1_together_4 rfl (lv_at hl 0 rfl) ?_
      refine lv_aload_n hx hb dX1_together_5 rfl (lv_at hl 2 rfl) ?_
      refine va_get (D := xD E) (ci := 1) (v := .ref (a 7)) (C := RX1) (T := TX1) (N := 3) hx hb hts (by decide +kernel) hown hK hP 14 rfl rfl 0 (by decide) (hts (.fieldLink RX1 9 "RailOffsets$OldLine" "line" "LRailOffsets$Line;") (by decide +kernel)) (fun _ h => h) rfl dX1_together_6 ?_
      refine va_get (D := xD E) (ci := 0) (v := .int (u.2 3)) (C := RX0) (T := TX0) (N := 8) hx hb hts (by decide +kernel) hown hK hP 7 rfl rfl 7 (by decide) (hts (.fieldLink RX1 44 "RailOffsets$Line" "stations" "I") (by decide +kernel)) (fun _ h => h) rfl dX1_together_9 ?_
      refine lv_icmp_gt (tgt := 33) hx hb dX1_together_12 rfl (fun q1 => ?_) (fun q1 => ?_)
      · have hR := hR.trans (if_pos q1)
        refine lv_lload_n hx hb dX1_together_33 rfl (lv_at hl 1 rfl) ?_
        have hR : s_X1_together u = x1 := hR
        exact W.lret (v := x1) hx hb hr (fun t ht _ => ⟨congrArg (fun z => Outcome.returned (some (Value.long z))) hR.symm, ht⟩) (fun _ h => by cases h) dX1_together_34
      · have hR := hR.trans (if_neg q1)
        refine lv_lload_n hx hb dX1_together_15 rfl (lv_at hl 1 rfl) ?_
        refine lv_aload_n hx hb dX1_together_16 rfl (lv_at hl 2 rfl) ?_
        refine lv_iload_n hx hb dX1_together_17 rfl (lv_at hl 0 rfl) ?_
        refine xRoV (nL := 4) ⟨hx, hb, hml, hown, hts⟩ (c_X1_slewAt l E a u x3) (cwV 1 hts gX1_together_X1_slewAt rfl rfl rfl ⟨rfl, hd_X1_slewAt⟩ ⟨(Nat.le_of_ble_eq_true rfl), (Nat.le_of_ble_eq_true rfl)⟩) hF hS hA hP (va_recv (q := (RX1, TX1, 3)) hK hP (ci := 1) rfl (q0 := 14) rfl) rfl hl.1 rfl (Nat.le_of_ble_eq_true rfl) ⟨(Nat.le_of_ble_eq_true rfl), (Nat.le_of_ble_eq_true rfl)⟩ dX1_together_18 ?_
        refine W.eq (g2 := F0 m 21 ls [.int (s_X1_slewAt u x3), .long x1]) rfl ?_
        refine va_mabs hx hb (hml.trans hl.1.symm) hown (hts (.methodLink RX1 59 Lib.Math.abs.name) (by decide +kernel)) (hts (.static Lib.Math.abs.name) (by decide +kernel)) (hts (.initialized "java/lang/Math") (by decide +kernel)) (hts (.code Lib.Math.abs.name Lib.Math.abs.code 1 (some .int)) (by decide +kernel)) (Nat.le_of_ble_eq_true rfl) (Nat.le_of_ble_eq_true rfl) (Nat.le_of_ble_eq_true rfl) (Nat.le_of_ble_eq_true rfl) dX1_together_21 ?_
        refine W.eq (g2 := F0 m 24 ls [.int (iAbs (s_X1_slewAt u x3)), .long x1]) rfl ?_
        refine lv_i2l hx hb dX1_together_24 rfl ?_
        refine lv_ladd hx hb dX1_together_25 ?_
        refine lv_lstore_n (lv' := [(1, .long (x1 + ((iAbs (s_X1_slewAt u x3)).toInt64))), (3, .int x3), (0, .ref (a 14))]) hx hb dX1_together_26 rfl hl (by decide) rfl (fun ls hl => ?_)
        refine lv_iinc (k := 1) (v := x3 + 1) (lv' := [(3, .int (x3 + 1)), (1, .long (x1 + ((iAbs (s_X1_slewAt u x3)).toInt64))), (0, .ref (a 14))]) hx hb dX1_together_27 hl rfl rfl (by decide) rfl (fun ls hl => ?_)
        refine lv_goto (tgt := 4) hx hb dX1_together_30 rfl ?_
        exact ih4 (x1 + ((iAbs (s_X1_slewAt u x3)).toInt64)) (x3 + 1) _ (Nat.lt_of_lt_of_le (xupl q1 (hp0)) (Nat.le_of_lt_succ hM4)) hR (lv_sub hl [0, 1, 2] rfl)
  exact L4 (((u.2 3).toInt + 1 - (1 : Int32).toInt).toNat + 1) 0 1 ls (Nat.lt_succ_self _) hR hl
def s_X1_tell_L2 (k : Nat) : Nat → xU → Int32 → xU
  | 0, u, _ => u
  | n + 1, u, x2 =>
    if 201 ≤ x2 then
      s_X1_sum u
    else
      s_X1_tell_L2 k n (uR u 15 (s_X5_mark 201 (u.1 15) x2 (iMax (-999) (iMin 999 (s_X3_read (uS u k) (x2 - 1)))))) (x2 + 1)
def s_X1_tell (k : Nat) (u : xU) : xU :=
  s_X1_tell_L2 k (((201 : Int32).toInt - (1 : Int32).toInt).toNat + 1) u 1
abbrev rm_X1_tell : Room := { frames := 2, cells := 0, slots := 0, locals := 44 }
set_option maxHeartbeats 8000000 in
set_option maxRecDepth 100000 in
theorem c_X1_tell (l : Launch) (E : xG) (a : Nat → Nat) (u : xU) (k : Nat) (hk : k < 4)  (hp0 : (u.2 3).toInt < 2147483647) (hL : xOK E (LX a)) : xMd l E yX1_tell wsX1_tell rm_X1_tell (LX a) [.ref (a 14), .ref (a (17 + k))] (wX E a u) (none) (wX E a (s_X1_tell k u)) := by
  have hk4 : k = 0 ∨ k = 1 ∨ k = 2 ∨ k = 3 := by omega
  rcases hk4 with rfl | rfl | rfl | rfl
  · refine xMd.of (cc := cX1_tell) (maxL := 4) (ret := none) (by decide) rfl (Nat.le_of_ble_eq_true rfl) ?_
    intro p e s m below meth c ls hAt hF hP hS hl
    obtain ⟨hx, hb, hr, hml, hown, hts, hlocks, -⟩ := hAt
    have hown : s.vm.findClass RX1 = some m.cls := hown
    have hl : lv_has ls 4 [(0, .ref (a 14)), (1, .ref (a 17))] := hl
    have hK := hF.1
    have hA := hL.2
    change W p l e rm_X1_tell s m ([.ref (a 14), .ref (a 17)] : List Value).toArray below meth c s.heap [] 0 0 (xQmd E below (LX a) (none) (wX E a (s_X1_tell 0 u)) ([.ref (a 14), .ref (a 17)] : List Value).toArray s) _
    have hS : va_S (· ∈ LX a) s.heap s.heap [] := hS
    have hR : s_X1_tell 0 u = s_X1_tell 0 u := rfl
    refine lv_iconst (v := 1) hx hb dX1_tell_0 rfl ?_
    refine lv_istore_n (lv' := [(2, .int 1), (0, .ref (a 14)), (1, .ref (a 17))]) hx hb dX1_tell_1 rfl hl (by decide) rfl (fun ls hl => ?_)
    have L2 : ∀ (n2 : Nat) (u2 : xU) (x2 : Int32) (H : Heap) (locs : List Loc) (ls : Array Slot), ((u2.2 3).toInt < 2147483647) → ((201 : Int32).toInt - x2.toInt).toNat < n2 → s_X1_tell 0 u = s_X1_tell_L2 0 n2 u2 x2 → lv_has ls 4 [(2, .int x2), (0, .ref (a 14)), (1, .ref (a 17))] → va_P (xD E) vwCl (wX E a u2) H → va_S (· ∈ LX a) s.heap H locs → W p l e rm_X1_tell s m ([.ref (a 14), .ref (a 17)] : List Value).toArray below meth c H locs 0 0 (xQmd E below (LX a) (none) (wX E a (s_X1_tell 0 u)) ([.ref (a 14), .ref (a 17)] : List Value).toArray s) (F0 m 2 ls []) := by
      intro n2
      induction n2 with
      | zero => intro u2 x2 H locs ls hI0 hM2 hR hl hP hS; exact absurd hM2 (Nat.not_lt_zero _)
      | succ n2 ih2 =>
        intro u2 x2 H locs ls hI0 hM2 hR hl hP hS
        refine lv_iload_n hx hb dX1_tell_2 rfl (lv_at hl 0 rfl) ?_
        refine lv_aload_n hx hb dX1_tell_3 rfl (lv_at hl 1 rfl) ?_
        refine va_get (D := xD E) (ci := 1) (v := .ref (a 15)) (C := RX1) (T := TX1) (N := 3) hx hb hts (by decide +kernel) hown hK hP 14 rfl rfl 1 (by decide) (hts (.fieldLink RX1 15 "RailOffsets$OldLine" "versines" "[I") (by decide +kernel)) (fun _ h => h) rfl dX1_tell_4 ?_
        refine va_alen (v := 201) hx hb hK hP 15 0 rfl rfl rfl dX1_tell_7 ?_
        refine lv_icmp_ge (tgt := 46) hx hb dX1_tell_8 rfl (fun q1 => ?_) (fun q1 => ?_)
        · have hR := hR.trans (if_pos q1)
          refine lv_aload_n hx hb dX1_tell_46 rfl (lv_at hl 1 rfl) ?_
          refine xMdV (nL := 4) ⟨hx, hb, hml, hown, hts⟩ (c_X1_sum l E a u2  (hI0) hL) (cwV 0 hts gX1_tell_X1_sum rfl rfl rfl ⟨rfl, hd_X1_sum⟩ ⟨(Nat.le_of_ble_eq_true rfl), (Nat.le_of_ble_eq_true rfl)⟩) hF hS hL.2 (fun _ h => h) hP (va_recv (q := (RX1, TX1, 3)) hK hP (ci := 1) rfl (q0 := 14) rfl) rfl hl.1 rfl (Nat.le_of_ble_eq_true rfl) ⟨(Nat.le_of_ble_eq_true rfl), (Nat.le_of_ble_eq_true rfl)⟩ dX1_tell_47 (fun H locs hP _ hS => ?_)
          refine W.eq (g2 := F0 m 50 ls []) rfl ?_
          have hR : s_X1_tell 0 u = s_X1_sum u2 := hR
          exact W.vret hx hb hr (fun t ht _ => by rw [hR]; exact ⟨⟨rfl, by rw [ht]; exact hP⟩, hS.F ht⟩) hS.2.2 dX1_tell_50
        · have hR := hR.trans (if_neg q1)
          refine lv_aload_n hx hb dX1_tell_11 rfl (lv_at hl 2 rfl) ?_
          refine lv_iload_n hx hb dX1_tell_12 rfl (lv_at hl 0 rfl) ?_
          refine lv_iconst (v := 1) hx hb dX1_tell_13 rfl ?_
          refine lv_isub hx hb dX1_tell_14 ?_
          refine xRoV (nL := 4) ⟨hx, hb, hml, hown, hts⟩ (c_X3_read l E (a 17) (a 21) (uS u2 0) (x2 - 1)) (cwV 1 hts gX1_tell_X3_read rfl rfl rfl ⟨rfl, hd_X3_read⟩ ⟨(Nat.le_of_ble_eq_true rfl), (Nat.le_of_ble_eq_true rfl)⟩) hF hS hA (hP.sub [17, 21] rfl) (va_recv (q := (RX3, TX3, 3)) hK hP (ci := 3) rfl (q0 := 17) rfl) rfl hl.1 rfl (Nat.le_of_ble_eq_true rfl) ⟨(Nat.le_of_ble_eq_true rfl), (Nat.le_of_ble_eq_true rfl)⟩ dX1_tell_15 ?_
          refine W.eq (g2 := F0 m 18 ls [.int (s_X3_read (uS u2 0) (x2 - 1))]) rfl ?_
          refine lv_istore_n (lv' := [(3, .int (s_X3_read (uS u2 0) (x2 - 1))), (2, .int x2), (0, .ref (a 14)), (1, .ref (a 17))]) hx hb dX1_tell_18 rfl hl (by decide) rfl (fun ls hl => ?_)
          refine lv_aload_n hx hb dX1_tell_19 rfl (lv_at hl 2 rfl) ?_
          refine va_get (D := xD E) (ci := 1) (v := .ref (a 15)) (C := RX1) (T := TX1) (N := 3) hx hb hts (by decide +kernel) hown hK hP 14 rfl rfl 1 (by decide) (hts (.fieldLink RX1 15 "RailOffsets$OldLine" "versines" "[I") (by decide +kernel)) (fun _ h => h) rfl dX1_tell_20 ?_
          refine lv_iload_n hx hb dX1_tell_23 rfl (lv_at hl 1 rfl) ?_
          refine lv_sipush (v := (-999)) hx hb dX1_tell_24 rfl ?_
          refine lv_sipush (v := 999) hx hb dX1_tell_27 rfl ?_
          refine lv_iload_n hx hb dX1_tell_30 rfl (lv_at hl 0 rfl) ?_
          refine va_mmin hx hb (hml.trans hl.1.symm) hown (hts (.methodLink RX1 28 Lib.Math.min.name) (by decide +kernel)) (hts (.static Lib.Math.min.name) (by decide +kernel)) (hts (.initialized "java/lang/Math") (by decide +kernel)) (hts (.code Lib.Math.min.name Lib.Math.min.code 2 (some .int)) (by decide +kernel)) (Nat.le_of_ble_eq_true rfl) (Nat.le_of_ble_eq_true rfl) (Nat.le_of_ble_eq_true rfl) (Nat.le_of_ble_eq_true rfl) dX1_tell_31 ?_
          refine W.eq (g2 := F0 m 34 ls [.int (iMin 999 (s_X3_read (uS u2 0) (x2 - 1))), .int (-999), .int x2, .ref (a 15)]) rfl ?_
          refine va_mmax hx hb (hml.trans hl.1.symm) hown (hts (.methodLink RX1 34 Lib.Math.max.name) (by decide +kernel)) (hts (.static Lib.Math.max.name) (by decide +kernel)) (hts (.initialized "java/lang/Math") (by decide +kernel)) (hts (.code Lib.Math.max.name Lib.Math.max.code 2 (some .int)) (by decide +kernel)) (Nat.le_of_ble_eq_true rfl) (Nat.le_of_ble_eq_true rfl) (Nat.le_of_ble_eq_true rfl) (Nat.le_of_ble_eq_true rfl) dX1_tell_34 ?_
          refine W.eq (g2 := F0 m 37 ls [.int (iMax (-999) (iMin 999 (s_X3_read (uS u2 0) (x2 - 1)))), .int x2, .ref (a 15)]) rfl ?_
          refine xMdSN (nL := 4) ⟨hx, hb, hml, hown, hts⟩ (c_X5_mark l E (a 15) 201 (u2.1 15) x2 (iMax (-999) (iMin 999 (s_X3_read (uS u2 0) (x2 - 1)))) (hL.2 _ (List.mem_of_getElem? (i := 15) rfl))) ⟨va_cnB (own := RX1) (host := RX5) (index := 37) (y := yX5_mark) 3 hts gX1_tell_X5_mark_n37 rfl rfl rfl (hF.2.1.1 (RX1, 37, yX5_mark) (List.mem_of_getElem? (i := 7) rfl)) (hts (.initialized RX5) (by decide +kernel)) hd_X5_mark ⟨(Nat.le_of_ble_eq_true rfl), (Nat.le_of_ble_eq_true rfl)⟩, hts (.static yX5_mark) (by decide +kernel), trivial⟩ hF hS hL.2 (xsub1 (List.mem_of_getElem? (i := 15) rfl)) (hP.sub [15] rfl) rfl hl.1 rfl (Nat.le_of_ble_eq_true rfl) ⟨(Nat.le_of_ble_eq_true rfl), (Nat.le_of_ble_eq_true rfl)⟩ dX1_tell_37 (fun H1 locs hP1 hk hS => ?_)
          have hP : va_P (xD E) vwCl (wX E a (uR u2 15 (s_X5_mark 201 (u2.1 15) x2 (iMax (-999) (iMin 999 (s_X3_read (uS u2 0) (x2 - 1))))))) H1 := xset1 hP (xD_of (ws := wX E a u2) (A := (· ∈ LX a)) hL.1 (fun _ h => h)) (p := 15) rfl hP1 hk
          generalize H1 = H at hP hS ⊢
          refine W.eq (g2 := F0 m 40 ls []) rfl ?_
          refine lv_iinc (k := 1) (v := x2 + 1) (lv' := [(2, .int (x2 + 1)), (3, .int (s_X3_read (uS u2 0) (x2 - 1))), (0, .ref (a 14)), (1, .ref (a 17))]) hx hb dX1_tell_40 hl rfl rfl (by decide) rfl (fun ls hl => ?_)
          refine lv_goto (tgt := 2) hx hb dX1_tell_43 rfl ?_
          exact ih2 (uR u2 15 (s_X5_mark 201 (u2.1 15) x2 (iMax (-999) (iMin 999 (s_X3_read (uS u2 0) (x2 - 1)))))) (x2 + 1) _ _ _ (hI0) (Nat.lt_of_lt_of_le (xupc q1) (Nat.le_of_lt_succ hM2)) hR (lv_sub hl [0, 2, 3] rfl) hP hS
    exact L2 (((201 : Int32).toInt - (1 : Int32).toInt).toNat + 1) u 1 _ _ ls (hp0) (Nat.lt_succ_self _) hR hl hP hS
  · refine xMd.of (cc := cX1_tell) (maxL := 4) (ret := none) (by decide) rfl (Nat.le_of_ble_eq_true rfl) ?_
    intro p e s m below meth c ls hAt hF hP hS hl
    obtain ⟨hx, hb, hr, hml, hown, hts, hlocks, -⟩ := hAt
    have hown : s.vm.findClass RX1 = some m.cls := hown
    have hl : lv_has ls 4 [(0, .ref (a 14)), (1, .ref (a 18))] := hl
    have hK := hF.1
    have hA := hL.2
    change W p l e rm_X1_tell s m ([.ref (a 14), .ref (a 18)] : List Value).toArray below meth c s.heap [] 0 0 (xQmd E below (LX a) (none) (wX E a (s_X1_tell 1 u)) ([.ref (a 14), .ref (a 18)] : List Value).toArray s) _
    have hS : va_S (· ∈ LX a) s.heap s.heap [] := hS
    have hR : s_X1_tell 1 u = s_X1_tell 1 u := rfl
    refine lv_iconst (v := 1) hx hb dX1_tell_0 rfl ?_
    refine lv_istore_n (lv' := [(2, .int 1), (0, .ref (a 14)), (1, .ref (a 18))]) hx hb dX1_tell_1 rfl hl (by decide) rfl (fun ls hl => ?_)
    have L2 : ∀ (n2 : Nat) (u2 : xU) (x2 : Int32) (H : Heap) (locs : List Loc) (ls : Array Slot), ((u2.2 3).toInt < 2147483647) → ((201 : Int32).toInt - x2.toInt).toNat < n2 → s_X1_tell 1 u = s_X1_tell_L2 1 n2 u2 x2 → lv_has ls 4 [(2, .int x2), (0, .ref (a 14)), (1, .ref (a 18))] → va_P (xD E) vwCl (wX E a u2) H → va_S (· ∈ LX a) s.heap H locs → W p l e rm_X1_tell s m ([.ref (a 14), .ref (a 18)] : List Value).toArray below meth c H locs 0 0 (xQmd E below (LX a) (none) (wX E a (s_X1_tell 1 u)) ([.ref (a 14), .ref (a 18)] : List Value).toArray s) (F0 m 2 ls []) := by
      intro n2
      induction n2 with
      | zero => intro u2 x2 H locs ls hI0 hM2 hR hl hP hS; exact absurd hM2 (Nat.not_lt_zero _)
      | succ n2 ih2 =>
        intro u2 x2 H locs ls hI0 hM2 hR hl hP hS
        refine lv_iload_n hx hb dX1_tell_2 rfl (lv_at hl 0 rfl) ?_
        refine lv_aload_n hx hb dX1_tell_3 rfl (lv_at hl 1 rfl) ?_
        refine va_get (D := xD E) (ci := 1) (v := .ref (a 15)) (C := RX1) (T := TX1) (N := 3) hx hb hts (by decide +kernel) hown hK hP 14 rfl rfl 1 (by decide) (hts (.fieldLink RX1 15 "RailOffsets$OldLine" "versines" "[I") (by decide +kernel)) (fun _ h => h) rfl dX1_tell_4 ?_
        refine va_alen (v := 201) hx hb hK hP 15 0 rfl rfl rfl dX1_tell_7 ?_
        refine lv_icmp_ge (tgt := 46) hx hb dX1_tell_8 rfl (fun q1 => ?_) (fun q1 => ?_)
        · have hR := hR.trans (if_pos q1)
          refine lv_aload_n hx hb dX1_tell_46 rfl (lv_at hl 1 rfl) ?_
          refine xMdV (nL := 4) ⟨hx, hb, hml, hown, hts⟩ (c_X1_sum l E a u2  (hI0) hL) (cwV 0 hts gX1_tell_X1_sum rfl rfl rfl ⟨rfl, hd_X1_sum⟩ ⟨(Nat.le_of_ble_eq_true rfl), (Nat.le_of_ble_eq_true rfl)⟩) hF hS hL.2 (fun _ h => h) hP (va_recv (q := (RX1, TX1, 3)) hK hP (ci := 1) rfl (q0 := 14) rfl) rfl hl.1 rfl (Nat.le_of_ble_eq_true rfl) ⟨(Nat.le_of_ble_eq_true rfl), (Nat.le_of_ble_eq_true rfl)⟩ dX1_tell_47 (fun H locs hP _ hS => ?_)
          refine W.eq (g2 := F0 m 50 ls []) rfl ?_
          have hR : s_X1_tell 1 u = s_X1_sum u2 := hR
          exact W.vret hx hb hr (fun t ht _ => by rw [hR]; exact ⟨⟨rfl, by rw [ht]; exact hP⟩, hS.F ht⟩) hS.2.2 dX1_tell_50
        · have hR := hR.trans (if_neg q1)
          refine lv_aload_n hx hb dX1_tell_11 rfl (lv_at hl 2 rfl) ?_
          refine lv_iload_n hx hb dX1_tell_12 rfl (lv_at hl 0 rfl) ?_
          refine lv_iconst (v := 1) hx hb dX1_tell_13 rfl ?_
          refine lv_isub hx hb dX1_tell_14 ?_
          refine xRoV (nL := 4) ⟨hx, hb, hml, hown, hts⟩ (c_X3_read l E (a 18) (a 22) (uS u2 1) (x2 - 1)) (cwV 1 hts gX1_tell_X3_read rfl rfl rfl ⟨rfl, hd_X3_read⟩ ⟨(Nat.le_of_ble_eq_true rfl), (Nat.le_of_ble_eq_true rfl)⟩) hF hS hA (hP.sub [18, 22] rfl) (va_recv (q := (RX3, TX3, 3)) hK hP (ci := 3) rfl (q0 := 18) rfl) rfl hl.1 rfl (Nat.le_of_ble_eq_true rfl) ⟨(Nat.le_of_ble_eq_true rfl), (Nat.le_of_ble_eq_true rfl)⟩ dX1_tell_15 ?_
          refine W.eq (g2 := F0 m 18 ls [.int (s_X3_read (uS u2 1) (x2 - 1))]) rfl ?_
          refine lv_istore_n (lv' := [(3, .int (s_X3_read (uS u2 1) (x2 - 1))), (2, .int x2), (0, .ref (a 14)), (1, .ref (a 18))]) hx hb dX1_tell_18 rfl hl (by decide) rfl (fun ls hl => ?_)
          refine lv_aload_n hx hb dX1_tell_19 rfl (lv_at hl 2 rfl) ?_
          refine va_get (D := xD E) (ci := 1) (v := .ref (a 15)) (C := RX1) (T := TX1) (N := 3) hx hb hts (by decide +kernel) hown hK hP 14 rfl rfl 1 (by decide) (hts (.fieldLink RX1 15 "RailOffsets$OldLine" "versines" "[I") (by decide +kernel)) (fun _ h => h) rfl dX1_tell_20 ?_
          refine lv_iload_n hx hb dX1_tell_23 rfl (lv_at hl 1 rfl) ?_
          refine lv_sipush (v := (-999)) hx hb dX1_tell_24 rfl ?_
          refine lv_sipush (v := 999) hx hb dX1_tell_27 rfl ?_
          refine lv_iload_n hx hb dX1_tell_30 rfl (lv_at hl 0 rfl) ?_
          refine va_mmin hx hb (hml.trans hl.1.symm) hown (hts (.methodLink RX1 28 Lib.Math.min.name) (by decide +kernel)) (hts (.static Lib.Math.min.name) (by decide +kernel)) (hts (.initialized "java/lang/Math") (by decide +kernel)) (hts (.code Lib.Math.min.name Lib.Math.min.code 2 (some .int)) (by decide +kernel)) (Nat.le_of_ble_eq_true rfl) (Nat.le_of_ble_eq_true rfl) (Nat.le_of_ble_eq_true rfl) (Nat.le_of_ble_eq_true rfl) dX1_tell_31 ?_
          refine W.eq (g2 := F0 m 34 ls [.int (iMin 999 (s_X3_read (uS u2 1) (x2 - 1))), .int (-999), .int x2, .ref (a 15)]) rfl ?_
          refine va_mmax hx hb (hml.trans hl.1.symm) hown (hts (.methodLink RX1 34 Lib.Math.max.name) (by decide +kernel)) (hts (.static Lib.Math.max.name) (by decide +kernel)) (hts (.initialized "java/lang/Math") (by decide +kernel)) (hts (.code Lib.Math.max.name Lib.Math.max.code 2 (some .int)) (by decide +kernel)) (Nat.le_of_ble_eq_true rfl) (Nat.le_of_ble_eq_true rfl) (Nat.le_of_ble_eq_true rfl) (Nat.le_of_ble_eq_true rfl) dX1_tell_34 ?_
          refine W.eq (g2 := F0 m 37 ls [.int (iMax (-999) (iMin 999 (s_X3_read (uS u2 1) (x2 - 1)))), .int x2, .ref (a 15)]) rfl ?_
          refine xMdSN (nL := 4) ⟨hx, hb, hml, hown, hts⟩ (c_X5_mark l E (a 15) 201 (u2.1 15) x2 (iMax (-999) (iMin 999 (s_X3_read (uS u2 1) (x2 - 1)))) (hL.2 _ (List.mem_of_getElem? (i := 15) rfl))) ⟨va_cnB (own := RX1) (host := RX5) (index := 37) (y := yX5_mark) 3 hts gX1_tell_X5_mark_n37 rfl rfl rfl (hF.2.1.1 (RX1, 37, yX5_mark) (List.mem_of_getElem? (i := 7) rfl)) (hts (.initialized RX5) (by decide +kernel)) hd_X5_mark ⟨(Nat.le_of_ble_eq_true rfl), (Nat.le_of_ble_eq_true rfl)⟩, hts (.static yX5_mark) (by decide +kernel), trivial⟩ hF hS hL.2 (xsub1 (List.mem_of_getElem? (i := 15) rfl)) (hP.sub [15] rfl) rfl hl.1 rfl (Nat.le_of_ble_eq_true rfl) ⟨(Nat.le_of_ble_eq_true rfl), (Nat.le_of_ble_eq_true rfl)⟩ dX1_tell_37 (fun H1 locs hP1 hk hS => ?_)
          have hP : va_P (xD E) vwCl (wX E a (uR u2 15 (s_X5_mark 201 (u2.1 15) x2 (iMax (-999) (iMin 999 (s_X3_read (uS u2 1) (x2 - 1))))))) H1 := xset1 hP (xD_of (ws := wX E a u2) (A := (· ∈ LX a)) hL.1 (fun _ h => h)) (p := 15) rfl hP1 hk
          generalize H1 = H at hP hS ⊢
          refine W.eq (g2 := F0 m 40 ls []) rfl ?_
          refine lv_iinc (k := 1) (v := x2 + 1) (lv' := [(2, .int (x2 + 1)), (3, .int (s_X3_read (uS u2 1) (x2 - 1))), (0, .ref (a 14)), (1, .ref (a 18))]) hx hb dX1_tell_40 hl rfl rfl (by decide) rfl (fun ls hl => ?_)
          refine lv_goto (tgt := 2) hx hb dX1_tell_43 rfl ?_
          exact ih2 (uR u2 15 (s_X5_mark 201 (u2.1 15) x2 (iMax (-999) (iMin 999 (s_X3_read (uS u2 1) (x2 - 1)))))) (x2 + 1) _ _ _ (hI0) (Nat.lt_of_lt_of_le (xupc q1) (Nat.le_of_lt_succ hM2)) hR (lv_sub hl [0, 2, 3] rfl) hP hS
    exact L2 (((201 : Int32).toInt - (1 : Int32).toInt).toNat + 1) u 1 _ _ ls (hp0) (Nat.lt_succ_self _) hR hl hP hS
  · refine xMd.of (cc := cX1_tell) (maxL := 4) (ret := none) (by decide) rfl (Nat.le_of_ble_eq_true rfl) ?_
    intro p e s m below meth c ls hAt hF hP hS hl
    obtain ⟨hx, hb, hr, hml, hown, hts, hlocks, -⟩ := hAt
    have hown : s.vm.findClass RX1 = some m.cls := hown
    have hl : lv_has ls 4 [(0, .ref (a 14)), (1, .ref (a 19))] := hl
    have hK := hF.1
    have hA := hL.2
    change W p l e rm_X1_tell s m ([.ref (a 14), .ref (a 19)] : List Value).toArray below meth c s.heap [] 0 0 (xQmd E below (LX a) (none) (wX E a (s_X1_tell 2 u)) ([.ref (a 14), .ref (a 19)] : List Value).toArray s) _
    have hS : va_S (· ∈ LX a) s.heap s.heap [] := hS
    have hR : s_X1_tell 2 u = s_X1_tell 2 u := rfl
    refine lv_iconst (v := 1) hx hb dX1_tell_0 rfl ?_
    refine lv_istore_n (lv' := [(2, .int 1), (0, .ref (a 14)), (1, .ref (a 19))]) hx hb dX1_tell_1 rfl hl (by decide) rfl (fun ls hl => ?_)
    have L2 : ∀ (n2 : Nat) (u2 : xU) (x2 : Int32) (H : Heap) (locs : List Loc) (ls : Array Slot), ((u2.2 3).toInt < 2147483647) → ((201 : Int32).toInt - x2.toInt).toNat < n2 → s_X1_tell 2 u = s_X1_tell_L2 2 n2 u2 x2 → lv_has ls 4 [(2, .int x2), (0, .ref (a 14)), (1, .ref (a 19))] → va_P (xD E) vwCl (wX E a u2) H → va_S (· ∈ LX a) s.heap H locs → W p l e rm_X1_tell s m ([.ref (a 14), .ref (a 19)] : List Value).toArray below meth c H locs 0 0 (xQmd E below (LX a) (none) (wX E a (s_X1_tell 2 u)) ([.ref (a 14), .ref (a 19)] : List Value).toArray s) (F0 m 2 ls []) := by
      intro n2
      induction n2 with
      | zero => intro u2 x2 H locs ls hI0 hM2 hR hl hP hS; exact absurd hM2 (Nat.not_lt_zero _)
      | succ n2 ih2 =>
        intro u2 x2 H locs ls hI0 hM2 hR hl hP hS
        refine lv_iload_n hx hb dX1_tell_2 rfl (lv_at hl 0 rfl) ?_
        refine lv_aload_n hx hb dX1_tell_3 rfl (lv_at hl 1 rfl) ?_
        refine va_get (D := xD E) (ci := 1) (v := .ref (a 15)) (C := RX1) (T := TX1) (N := 3) hx hb hts (by decide +kernel) hown hK hP 14 rfl rfl 1 (by decide) (hts (.fieldLink RX1 15 "RailOffsets$OldLine" "versines" "[I") (by decide +kernel)) (fun _ h => h) rfl dX1_tell_4 ?_
        refine va_alen (v := 201) hx hb hK hP 15 0 rfl rfl rfl dX1_tell_7 ?_
        refine lv_icmp_ge (tgt := 46) hx hb dX1_tell_8 rfl (fun q1 => ?_) (fun q1 => ?_)
        · have hR := hR.trans (if_pos q1)
          refine lv_aload_n hx hb dX1_tell_46 rfl (lv_at hl 1 rfl) ?_
          refine xMdV (nL := 4) ⟨hx, hb, hml, hown, hts⟩ (c_X1_sum l E a u2  (hI0) hL) (cwV 0 hts gX1_tell_X1_sum rfl rfl rfl ⟨rfl, hd_X1_sum⟩ ⟨(Nat.le_of_ble_eq_true rfl), (Nat.le_of_ble_eq_true rfl)⟩) hF hS hL.2 (fun _ h => h) hP (va_recv (q := (RX1, TX1, 3)) hK hP (ci := 1) rfl (q0 := 14) rfl) rfl hl.1 rfl (Nat.le_of_ble_eq_true rfl) ⟨(Nat.le_of_ble_eq_true rfl), (Nat.le_of_ble_eq_true rfl)⟩ dX1_tell_47 (fun H locs hP _ hS => ?_)
          refine W.eq (g2 := F0 m 50 ls []) rfl ?_
          have hR : s_X1_tell 2 u = s_X1_sum u2 := hR
          exact W.vret hx hb hr (fun t ht _ => by rw [hR]; exact ⟨⟨rfl, by rw [ht]; exact hP⟩, hS.F ht⟩) hS.2.2 dX1_tell_50
        · have hR := hR.trans (if_neg q1)
          refine lv_aload_n hx hb dX1_tell_11 rfl (lv_at hl 2 rfl) ?_
          refine lv_iload_n hx hb dX1_tell_12 rfl (lv_at hl 0 rfl) ?_
          refine lv_iconst (v := 1) hx hb dX1_tell_13 rfl ?_
          refine lv_isub hx hb dX1_tell_14 ?_
          refine xRoV (nL := 4) ⟨hx, hb, hml, hown, hts⟩ (c_X3_read l E (a 19) (a 23) (uS u2 2) (x2 - 1)) (cwV 1 hts gX1_tell_X3_read rfl rfl rfl ⟨rfl, hd_X3_read⟩ ⟨(Nat.le_of_ble_eq_true rfl), (Nat.le_of_ble_eq_true rfl)⟩) hF hS hA (hP.sub [19, 23] rfl) (va_recv (q := (RX3, TX3, 3)) hK hP (ci := 3) rfl (q0 := 19) rfl) rfl hl.1 rfl (Nat.le_of_ble_eq_true rfl) ⟨(Nat.le_of_ble_eq_true rfl), (Nat.le_of_ble_eq_true rfl)⟩ dX1_tell_15 ?_
          refine W.eq (g2 := F0 m 18 ls [.int (s_X3_read (uS u2 2) (x2 - 1))]) rfl ?_
          refine lv_istore_n (lv' := [(3, .int (s_X3_read (uS u2 2) (x2 - 1))), (2, .int x2), (0, .ref (a 14)), (1, .ref (a 19))]) hx hb dX1_tell_18 rfl hl (by decide) rfl (fun ls hl => ?_)
          refine lv_aload_n hx hb dX1_tell_19 rfl (lv_at hl 2 rfl) ?_
          refine va_get (D := xD E) (ci := 1) (v := .ref (a 15)) (C := RX1) (T := TX1) (N := 3) hx hb hts (by decide +kernel) hown hK hP 14 rfl rfl 1 (by decide) (hts (.fieldLink RX1 15 "RailOffsets$OldLine" "versines" "[I") (by decide +kernel)) (fun _ h => h) rfl dX1_tell_20 ?_
          refine lv_iload_n hx hb dX1_tell_23 rfl (lv_at hl 1 rfl) ?_
          refine lv_sipush (v := (-999)) hx hb dX1_tell_24 rfl ?_
          refine lv_sipush (v := 999) hx hb dX1_tell_27 rfl ?_
          refine lv_iload_n hx hb dX1_tell_30 rfl (lv_at hl 0 rfl) ?_
          refine va_mmin hx hb (hml.trans hl.1.symm) hown (hts (.methodLink RX1 28 Lib.Math.min.name) (by decide +kernel)) (hts (.static Lib.Math.min.name) (by decide +kernel)) (hts (.initialized "java/lang/Math") (by decide +kernel)) (hts (.code Lib.Math.min.name Lib.Math.min.code 2 (some .int)) (by decide +kernel)) (Nat.le_of_ble_eq_true rfl) (Nat.le_of_ble_eq_true rfl) (Nat.le_of_ble_eq_true rfl) (Nat.le_of_ble_eq_true rfl) dX1_tell_31 ?_
          refine W.eq (g2 := F0 m 34 ls [.int (iMin 999 (s_X3_read (uS u2 2) (x2 - 1))), .int (-999), .int x2, .ref (a 15)]) rfl ?_
          refine va_mmax hx hb (hml.trans hl.1.symm) hown (hts (.methodLink RX1 34 Lib.Math.max.name) (by decide +kernel)) (hts (.static Lib.Math.max.name) (by decide +kernel)) (hts (.initialized "java/lang/Math") (by decide +kernel)) (hts (.code Lib.Math.max.name Lib.Math.max.code 2 (some .int)) (by decide +kernel)) (Nat.le_of_ble_eq_true rfl) (Nat.le_of_ble_eq_true rfl) (Nat.le_of_ble_eq_true rfl) (Nat.le_of_ble_eq_true rfl) dX1_tell_34 ?_
          refine W.eq (g2 := F0 m 37 ls [.int (iMax (-999) (iMin 999 (s_X3_read (uS u2 2) (x2 - 1)))), .int x2, .ref (a 15)]) rfl ?_
          refine xMdSN (nL := 4) ⟨hx, hb, hml, hown, hts⟩ (c_X5_mark l E (a 15) 201 (u2.1 15) x2 (iMax (-999) (iMin 999 (s_X3_read (uS u2 2) (x2 - 1)))) (hL.2 _ (List.mem_of_getElem? (i := 15) rfl))) ⟨va_cnB (own := RX1) (host := RX5) (index := 37) (y := yX5_mark) 3 hts gX1_tell_X5_mark_n37 rfl rfl rfl (hF.2.1.1 (RX1, 37, yX5_mark) (List.mem_of_getElem? (i := 7) rfl)) (hts (.initialized RX5) (by decide +kernel)) hd_X5_mark ⟨(Nat.le_of_ble_eq_true rfl), (Nat.le_of_ble_eq_true rfl)⟩, hts (.static yX5_mark) (by decide +kernel), trivial⟩ hF hS hL.2 (xsub1 (List.mem_of_getElem? (i := 15) rfl)) (hP.sub [15] rfl) rfl hl.1 rfl (Nat.le_of_ble_eq_true rfl) ⟨(Nat.le_of_ble_eq_true rfl), (Nat.le_of_ble_eq_true rfl)⟩ dX1_tell_37 (fun H1 locs hP1 hk hS => ?_)
          have hP : va_P (xD E) vwCl (wX E a (uR u2 15 (s_X5_mark 201 (u2.1 15) x2 (iMax (-999) (iMin 999 (s_X3_read (uS u2 2) (x2 - 1))))))) H1 := xset1 hP (xD_of (ws := wX E a u2) (A := (· ∈ LX a)) hL.1 (fun _ h => h)) (p := 15) rfl hP1 hk
          generalize H1 = H at hP hS ⊢
          refine W.eq (g2 := F0 m 40 ls []) rfl ?_
          refine lv_iinc (k := 1) (v := x2 + 1) (lv' := [(2, .int (x2 + 1)), (3, .int (s_X3_read (uS u2 2) (x2 - 1))), (0, .ref (a 14)), (1, .ref (a 19))]) hx hb dX1_tell_40 hl rfl rfl (by decide) rfl (fun ls hl => ?_)
          refine lv_goto (tgt := 2) hx hb dX1_tell_43 rfl ?_
          exact ih2 (uR u2 15 (s_X5_mark 201 (u2.1 15) x2 (iMax (-999) (iMin 999 (s_X3_read (uS u2 2) (x2 - 1)))))) (x2 + 1) _ _ _ (hI0) (Nat.lt_of_lt_of_le (xupc q1) (Nat.le_of_lt_succ hM2)) hR (lv_sub hl [0, 2, 3] rfl) hP hS
    exact L2 (((201 : Int32).toInt - (1 : Int32).toInt).toNat + 1) u 1 _ _ ls (hp0) (Nat.lt_succ_self _) hR hl hP hS
  · refine xMd.of (cc := cX1_tell) (maxL := 4) (ret := none) (by decide) rfl (Nat.le_of_ble_eq_true rfl) ?_
    intro p e s m below meth c ls hAt hF hP hS hl
    obtain ⟨hx, hb, hr, hml, hown, hts, hlocks, -⟩ := hAt
    have hown : s.vm.findClass RX1 = some m.cls := hown
    have hl : lv_has ls 4 [(0, .ref (a 14)), (1, .ref (a 20))] := hl
    have hK := hF.1
    have hA := hL.2
    change W p l e rm_X1_tell s m ([.ref (a 14), .ref (a 20)] : List Value).toArray below meth c s.heap [] 0 0 (xQmd E below (LX a) (none) (wX E a (s_X1_tell 3 u)) ([.ref (a 14), .ref (a 20)] : List Value).toArray s) _
    have hS : va_S (· ∈ LX a) s.heap s.heap [] := hS
    have hR : s_X1_tell 3 u = s_X1_tell 3 u := rfl
    refine lv_iconst (v := 1) hx hb dX1_tell_0 rfl ?_
    refine lv_istore_n (lv' := [(2, .int 1), (0, .ref (a 14)), (1, .ref (a 20))]) hx hb dX1_tell_1 rfl hl (by decide) rfl (fun ls hl => ?_)
    have L2 : ∀ (n2 : Nat) (u2 : xU) (x2 : Int32) (H : Heap) (locs : List Loc) (ls : Array Slot), ((u2.2 3).toInt < 2147483647) → ((201 : Int32).toInt - x2.toInt).toNat < n2 → s_X1_tell 3 u = s_X1_tell_L2 3 n2 u2 x2 → lv_has ls 4 [(2, .int x2), (0, .ref (a 14)), (1, .ref (a 20))] → va_P (xD E) vwCl (wX E a u2) H → va_S (· ∈ LX a) s.heap H locs → W p l e rm_X1_tell s m ([.ref (a 14), .ref (a 20)] : List Value).toArray below meth c H locs 0 0 (xQmd E below (LX a) (none) (wX E a (s_X1_tell 3 u)) ([.ref (a 14), .ref (a 20)] : List Value).toArray s) (F0 m 2 ls []) := by
      intro n2
      induction n2 with
      | zero => intro u2 x2 H locs ls hI0 hM2 hR hl hP hS; exact absurd hM2 (Nat.not_lt_zero _)
      | succ n2 ih2 =>
        intro u2 x2 H locs ls hI0 hM2 hR hl hP hS
        refine lv_iload_n hx hb dX1_tell_2 rfl (lv_at hl 0 rfl) ?_
        refine lv_aload_n hx hb dX1_tell_3 rfl (lv_at hl 1 rfl) ?_
        refine va_get (D := xD E) (ci := 1) (v := .ref (a 15)) (C := RX1) (T := TX1) (N := 3) hx hb hts (by decide +kernel) hown hK hP 14 rfl rfl 1 (by decide) (hts (.fieldLink RX1 15 "RailOffsets$OldLine" "versines" "[I") (by decide +kernel)) (fun _ h => h) rfl dX1_tell_4 ?_
        refine va_alen (v := 201) hx hb hK hP 15 0 rfl rfl rfl dX1_tell_7 ?_
        refine lv_icmp_ge (tgt := 46) hx hb dX1_tell_8 rfl (fun q1 => ?_) (fun q1 => ?_)
        · have hR := hR.trans (if_pos q1)
          refine lv_aload_n hx hb dX1_tell_46 rfl (lv_at hl 1 rfl) ?_
          refine xMdV (nL := 4) ⟨hx, hb, hml, hown, hts⟩ (c_X1_sum l E a u2  (hI0) hL) (cwV 0 hts gX1_tell_X1_sum rfl rfl rfl ⟨rfl, hd_X1_sum⟩ ⟨(Nat.le_of_ble_eq_true rfl), (Nat.le_of_ble_eq_true rfl)⟩) hF hS hL.2 (fun _ h => h) hP (va_recv (q := (RX1, TX1, 3)) hK hP (ci := 1) rfl (q0 := 14) rfl) rfl hl.1 rfl (Nat.le_of_ble_eq_true rfl) ⟨(Nat.le_of_ble_eq_true rfl), (Nat.le_of_ble_eq_true rfl)⟩ dX1_tell_47 (fun H locs hP _ hS => ?_)
          refine W.eq (g2 := F0 m 50 ls []) rfl ?_
          have hR : s_X1_tell 3 u = s_X1_sum u2 := hR
          exact W.vret hx hb hr (fun t ht _ => by rw [hR]; exact ⟨⟨rfl, by rw [ht]; exact hP⟩, hS.F ht⟩) hS.2.2 dX1_tell_50
        · have hR := hR.trans (if_neg q1)
          refine lv_aload_n hx hb dX1_tell_11 rfl (lv_at hl 2 rfl) ?_
          refine lv_iload_n hx hb dX1_tell_12 rfl (lv_at hl 0 rfl) ?_
          refine lv_iconst (v := 1) hx hb dX1_tell_13 rfl ?_
          refine lv_isub hx hb dX1_tell_14 ?_
          refine xRoV (nL := 4) ⟨hx, hb, hml, hown, hts⟩ (c_X3_read l E (a 20) (a 24) (uS u2 3) (x2 - 1)) (cwV 1 hts gX1_tell_X3_read rfl rfl rfl ⟨rfl, hd_X3_read⟩ ⟨(Nat.le_of_ble_eq_true rfl), (Nat.le_of_ble_eq_true rfl)⟩) hF hS hA (hP.sub [20, 24] rfl) (va_recv (q := (RX3, TX3, 3)) hK hP (ci := 3) rfl (q0 := 20) rfl) rfl hl.1 rfl (Nat.le_of_ble_eq_true rfl) ⟨(Nat.le_of_ble_eq_true rfl), (Nat.le_of_ble_eq_true rfl)⟩ dX1_tell_15 ?_
          refine W.eq (g2 := F0 m 18 ls [.int (s_X3_read (uS u2 3) (x2 - 1))]) rfl ?_
          refine lv_istore_n (lv' := [(3, .int (s_X3_read (uS u2 3) (x2 - 1))), (2, .int x2), (0, .ref (a 14)), (1, .ref (a 20))]) hx hb dX1_tell_18 rfl hl (by decide) rfl (fun ls hl => ?_)
          refine lv_aload_n hx hb dX1_tell_19 rfl (lv_at hl 2 rfl) ?_
          refine va_get (D := xD E) (ci := 1) (v := .ref (a 15)) (C := RX1) (T := TX1) (N := 3) hx hb hts (by decide +kernel) hown hK hP 14 rfl rfl 1 (by decide) (hts (.fieldLink RX1 15 "RailOffsets$OldLine" "versines" "[I") (by decide +kernel)) (fun _ h => h) rfl dX1_tell_20 ?_
          refine lv_iload_n hx hb dX1_tell_23 rfl (lv_at hl 1 rfl) ?_
          refine lv_sipush (v := (-999)) hx hb dX1_tell_24 rfl ?_
          refine lv_sipush (v := 999) hx hb dX1_tell_27 rfl ?_
          refine lv_iload_n hx hb dX1_tell_30 rfl (lv_at hl 0 rfl) ?_
          refine va_mmin hx hb (hml.trans hl.1.symm) hown (hts (.methodLink RX1 28 Lib.Math.min.name) (by decide +kernel)) (hts (.static Lib.Math.min.name) (by decide +kernel)) (hts (.initialized "java/lang/Math") (by decide +kernel)) (hts (.code Lib.Math.min.name Lib.Math.min.code 2 (some .int)) (by decide +kernel)) (Nat.le_of_ble_eq_true rfl) (Nat.le_of_ble_eq_true rfl) (Nat.le_of_ble_eq_true rfl) (Nat.le_of_ble_eq_true rfl) dX1_tell_31 ?_
          refine W.eq (g2 := F0 m 34 ls [.int (iMin 999 (s_X3_read (uS u2 3) (x2 - 1))), .int (-999), .int x2, .ref (a 15)]) rfl ?_
          refine va_mmax hx hb (hml.trans hl.1.symm) hown (hts (.methodLink RX1 34 Lib.Math.max.name) (by decide +kernel)) (hts (.static Lib.Math.max.name) (by decide +kernel)) (hts (.initialized "java/lang/Math") (by decide +kernel)) (hts (.code Lib.Math.max.name Lib.Math.max.code 2 (some .int)) (by decide +kernel)) (Nat.le_of_ble_eq_true rfl) (Nat.le_of_ble_eq_true rfl) (Nat.le_of_ble_eq_true rfl) (Nat.le_of_ble_eq_true rfl) dX1_tell_34 ?_
          refine W.eq (g2 := F0 m 37 ls [.int (iMax (-999) (iMin 999 (s_X3_read (uS u2 3) (x2 - 1)))), .int x2, .ref (a 15)]) rfl ?_
          refine xMdSN (nL := 4) ⟨hx, hb, hml, hown, hts⟩ (c_X5_mark l E (a 15) 201 (u2.1 15) x2 (iMax (-999) (iMin 999 (s_X3_read (uS u2 3) (x2 - 1)))) (hL.2 _ (List.mem_of_getElem? (i := 15) rfl))) ⟨va_cnB (own := RX1) (host := RX5) (index := 37) (y := yX5_mark) 3 hts gX1_tell_X5_mark_n37 rfl rfl rfl (hF.2.1.1 (RX1, 37, yX5_mark) (List.mem_of_getElem? (i := 7) rfl)) (hts (.initialized RX5) (by decide +kernel)) hd_X5_mark ⟨(Nat.le_of_ble_eq_true rfl), (Nat.le_of_ble_eq_true rfl)⟩, hts (.static yX5_mark) (by decide +kernel), trivial⟩ hF hS hL.2 (xsub1 (List.mem_of_getElem? (i := 15) rfl)) (hP.sub [15] rfl) rfl hl.1 rfl (Nat.le_of_ble_eq_true rfl) ⟨(Nat.le_of_ble_eq_true rfl), (Nat.le_of_ble_eq_true rfl)⟩ dX1_tell_37 (fun H1 locs hP1 hk hS => ?_)
          have hP : va_P (xD E) vwCl (wX E a (uR u2 15 (s_X5_mark 201 (u2.1 15) x2 (iMax (-999) (iMin 999 (s_X3_read (uS u2 3) (x2 - 1))))))) H1 := xset1 hP (xD_of (ws := wX E a u2) (A := (· ∈ LX a)) hL.1 (fun _ h => h)) (p := 15) rfl hP1 hk
          generalize H1 = H at hP hS ⊢
          refine W.eq (g2 := F0 m 40 ls []) rfl ?_
          refine lv_iinc (k := 1) (v := x2 + 1) (lv' := [(2, .int (x2 + 1)), (3, .int (s_X3_read (uS u2 3) (x2 - 1))), (0, .ref (a 14)), (1, .ref (a 20))]) hx hb dX1_tell_40 hl rfl rfl (by decide) rfl (fun ls hl => ?_)
          refine lv_goto (tgt := 2) hx hb dX1_tell_43 rfl ?_
          exact ih2 (uR u2 15 (s_X5_mark 201 (u2.1 15) x2 (iMax (-999) (iMin 999 (s_X3_read (uS u2 3) (x2 - 1)))))) (x2 + 1) _ _ _ (hI0) (Nat.lt_of_lt_of_le (xupc q1) (Nat.le_of_lt_succ hM2)) hR (lv_sub hl [0, 2, 3] rfl) hP hS
    exact L2 (((201 : Int32).toInt - (1 : Int32).toInt).toNat + 1) u 1 _ _ ls (hp0) (Nat.lt_succ_self _) hR hl hP hS
def s_X1_err_L12 : Nat → xU → Int32 → Int32 → Int32 → Int32 → Int32 → xU
  | 0, u, _, _, _, _, _ => u
  | n + 1, u, x1, x2, x3, x4, x5 =>
    if (u.2 3) < x5 then
      s_X1_sum u
    else
      if x4 ≤ 0 then
        s_X1_err_L12 n (uR u 15 (s_X5_mark 201 (u.1 15) x5 ((s_X5_cell 201 (u.1 10) x5) + 0))) x1 x2 ((x3 * 1103515245) + 12345) x4 (x5 + 1)
      else
        s_X1_err_L12 n (uR u 15 (s_X5_mark 201 (u.1 15) x5 ((s_X5_cell 201 (u.1 10) x5) + ((iRem (iUshr ((x3 * 1103515245) + 12345) 9) x4) - x2)))) x1 x2 ((x3 * 1103515245) + 12345) x4 (x5 + 1)
def s_X1_err (u : xU) (p1 : Int32) (p2 : Int32) : xU :=
  s_X1_err_L12 (((u.2 3).toInt + 1 - (1 : Int32).toInt).toNat + 1) u p1 p2 p1 ((2 * p2) + 1) 1
abbrev rm_X1_err : Room := { frames := 2, cells := 0, slots := 0, locals := 44 }
set_option maxHeartbeats 8000000 in
set_option maxRecDepth 100000 in
theorem c_X1_err (l : Launch) (E : xG) (a : Nat → Nat) (u : xU) (p1 : Int32) (p2 : Int32) (hp0 : (u.2 3).toInt < 2147483647) (hL : xOK E (LX a)) : xMd l E yX1_err wsX1_err rm_X1_err (LX a) [.ref (a 14), .int p1, .int p2] (wX E a u) (none) (wX E a (s_X1_err u p1 p2)) := by
  refine xMd.of (cc := cX1_err) (maxL := 7) (ret := none) (by decide) rfl (Nat.le_of_ble_eq_true rfl) ?_
  intro p e s m below meth c ls hAt hF hP hS hl
  obtain ⟨hx, hb, hr, hml, hown, hts, hlocks, -⟩ := hAt
  have hown : s.vm.findClass RX1 = some m.cls := hown
  have hl : lv_has ls 7 [(0, .ref (a 14)), (1, .int p1), (2, .int p2)] := hl
  have hK := hF.1
  have hA := hL.2
  change W p l e rm_X1_err s m ([.ref (a 14), .int p1, .int p2] : List Value).toArray below meth c s.heap [] 0 0 (xQmd E below (LX a) (none) (wX E a (s_X1_err u p1 p2)) ([.ref (a 14), .int p1, .int p2] : List Value).toArray s) _
  have hS : va_S (· ∈ LX a) s.heap s.heap [] := hS
  have hR : s_X1_err u p1 p2 = s_X1_err u p1 p2 := rfl
  refine lv_iload_n hx hb dX1_err_0 rfl (lv_at hl 1 rfl) ?_
  refine lv_istore_n (lv' := [(3, .int p1), (0, .ref (a 14)), (1, .int p1), (2, .int p2)]) hx hb dX1_err_1 rfl hl (by decide) rfl (fun ls hl => ?_)
  refine lv_iconst (v := 2) hx hb dX1_err_2 rfl ?_
  refine lv_iload_n hx hb dX1_err_3 rfl (lv_at hl 3 rfl) ?_
  refine lv_imul hx hb dX1_err_4 ?_
  refine lv_iconst (v := 1) hx hb dX1_err_5 rfl ?_
  refine lv_iadd hx hb dX1_err_6 ?_
  refine lv_istore (lv' := [(4, .int ((2 * p2) + 1)), (3, .int p1), (0, .ref (a 14)), (1, .int p1), (2, .int p2)]) hx hb dX1_err_7 hl (by decide) rfl (fun ls hl => ?_)
  refine lv_iconst (v := 1) hx hb dX1_err_9 rfl ?_
  refine lv_istore (lv' := [(5, .int 1), (4, .int ((2 * p2) + 1)), (3, .int p1), (0, .ref (a 14)), (1, .int p1), (2, .int p2)]) hx hb dX1_err_10 hl (by decide) rfl (fun ls hl => ?_)
  have L12 : ∀ (n12 : Nat) (u12 : xU) (x3 : Int32) (x5 : Int32) (H : Heap) (locs : List Loc) (ls : Array Slot), ((u12.2 3).toInt < 2147483647) → ((u12.2 3).toInt + 1 - x5.toInt).toNat < n12 → s_X1_err u p1 p2 = s_X1_err_L12 n12 u12 p1 p2 x3 ((2 * p2) + 1) x5 → lv_has ls 7 [(5, .int x5), (4, .int ((2 * p2) + 1)), (3, .int x3), (0, .ref (a 14)), (1, .int p1), (2, .int p2)] → va_P (xD E) vwCl (wX E a u12) H → va_S (· ∈ LX a) s.heap H locs → W p l e rm_X1_err s m ([.ref (a 14), .int p1, .int p2] : List Value).toArray below meth c H locs 0 0 (xQmd E below (LX a) (none) (wX E a (s_X1_err u p1 p2)) ([.ref (a 14), .int p1, .int p2] : List Value).toArray s) (F0 m 12 ls []) := by
    intro n12
    induction n12 with
    | zero => intro u12 x3 x5 H locs ls hI0 hM12 hR hl hP hS; exact absurd hM12 (Nat.not_lt_zero _)
    | succ n12 ih12 =>
      intro u12 x3 x5 H locs ls hI0 hM12 hR hl hP hS
      refine lv_iload hx hb dX1_err_12 (lv_at hl 0 rfl) ?_
      refine lv_aload_n hx hb dX1_err_14 rfl (lv_at hl 3 rfl) ?_
      refine va_get (D := xD E) (ci := 1) (v := .ref (a 7)) (C := RX1) (T := TX1) (N := 3) hx hb hts (by decide +kernel) hown hK hP 14 rfl rfl 0 (by decide) (hts (.fieldLink RX1 9 "RailOffsets$OldLine" "line" "LRailOffsets$Line;") (by decide +kernel)) (fun _ h => h) rfl dX1_err_15 ?_
      refine va_get (D := xD E) (ci := 0) (v := .int (u12.2 3)) (C := RX0) (T := TX0) (N := 8) hx hb hts (by decide +kernel) hown hK hP 7 rfl rfl 7 (by decide) (hts (.fieldLink RX1 44 "RailOffsets$Line" "stations" "I") (by decide +kernel)) (fun _ h => h) rfl dX1_err_18 ?_
      refine lv_icmp_gt (tgt := 83) hx hb dX1_err_21 rfl (fun q1 => ?_) (fun q1 => ?_)
      · have hR := hR.trans (if_pos q1)
        refine lv_aload_n hx hb dX1_err_83 rfl (lv_at hl 3 rfl) ?_
        refine xMdV (nL := 7) ⟨hx, hb, hml, hown, hts⟩ (c_X1_sum l E a u12  (hI0) hL) (cwV 0 hts gX1_err_X1_sum rfl rfl rfl ⟨rfl, hd_X1_sum⟩ ⟨(Nat.le_of_ble_eq_true rfl), (Nat.le_of_ble_eq_true rfl)⟩) hF hS hL.2 (fun _ h => h) hP (va_recv (q := (RX1, TX1, 3)) hK hP (ci := 1) rfl (q0 := 14) rfl) rfl hl.1 rfl (Nat.le_of_ble_eq_true rfl) ⟨(Nat.le_of_ble_eq_true rfl), (Nat.le_of_ble_eq_true rfl)⟩ dX1_err_84 (fun H locs hP _ hS => ?_)
        refine W.eq (g2 := F0 m 87 ls []) rfl ?_
        have hR : s_X1_err u p1 p2 = s_X1_sum u12 := hR
        exact W.vret hx hb hr (fun t ht _ => by rw [hR]; exact ⟨⟨rfl, by rw [ht]; exact hP⟩, hS.F ht⟩) hS.2.2 dX1_err_87
      · have hR := hR.trans (if_neg q1)
        refine lv_iload_n hx hb dX1_err_24 rfl (lv_at hl 2 rfl) ?_
        refine lv_ldc (v := 1103515245) hx hb hown (hts (.constant RX1 50 (1103515245)) (by decide +kernel)) dX1_err_25 ?_
        refine lv_imul hx hb dX1_err_27 ?_
        refine lv_sipush (v := 12345) hx hb dX1_err_28 rfl ?_
        refine lv_iadd hx hb dX1_err_31 ?_
        refine lv_istore_n (lv' := [(3, .int ((x3 * 1103515245) + 12345)), (5, .int x5), (4, .int ((2 * p2) + 1)), (0, .ref (a 14)), (1, .int p1), (2, .int p2)]) hx hb dX1_err_32 rfl hl (by decide) rfl (fun ls hl => ?_)
        refine lv_iload hx hb dX1_err_33 (lv_at hl 2 rfl) ?_
        refine lv_if_le (tgt := 50) hx hb dX1_err_35 rfl (fun q2 => ?_) (fun q2 => ?_)
        · have hR := hR.trans (if_pos q2)
          refine lv_iconst (v := 0) hx hb dX1_err_50 rfl ?_
          refine lv_istore (lv' := [(6, .int 0), (3, .int ((x3 * 1103515245) + 12345)), (5, .int x5), (4, .int ((2 * p2) + 1)), (0, .ref (a 14)), (1, .int p1), (2, .int p2)]) hx hb dX1_err_51 hl (by decide) rfl (fun ls hl => ?_)
          refine lv_aload_n hx hb dX1_err_53 rfl (lv_at hl 4 rfl) ?_
          refine va_get (D := xD E) (ci := 1) (v := .ref (a 15)) (C := RX1) (T := TX1) (N := 3) hx hb hts (by decide +kernel) hown hK hP 14 rfl rfl 1 (by decide) (hts (.fieldLink RX1 15 "RailOffsets$OldLine" "versines" "[I") (by decide +kernel)) (fun _ h => h) rfl dX1_err_54 ?_
          refine lv_iload hx hb dX1_err_57 (lv_at hl 2 rfl) ?_
          refine lv_aload_n hx hb dX1_err_59 rfl (lv_at hl 4 rfl) ?_
          refine va_get (D := xD E) (ci := 1) (v := .ref (a 7)) (C := RX1) (T := TX1) (N := 3) hx hb hts (by decide +kernel) hown hK hP 14 rfl rfl 0 (by decide) (hts (.fieldLink RX1 9 "RailOffsets$OldLine" "line" "LRailOffsets$Line;") (by decide +kernel)) (fun _ h => h) rfl dX1_err_60 ?_
          refine va_get (D := xD E) (ci := 0) (v := .ref (a 10)) (C := RX0) (T := TX0) (N := 8) hx hb hts (by decide +kernel) hown hK hP 7 rfl rfl 3 (by decide) (hts (.fieldLink RX1 51 "RailOffsets$Line" "versines" "[I") (by decide +kernel)) (fun _ h => h) rfl dX1_err_63 ?_
          refine lv_iload hx hb dX1_err_66 (lv_at hl 2 rfl) ?_
          refine xRoSN (nL := 7) ⟨hx, hb, hml, hown, hts⟩ (c_X5_cell l E (a 10) 201 (u12.1 10) x5) ⟨va_cnB (own := RX1) (host := RX5) (index := 52) (y := yX5_cell) 2 hts gX1_err_X5_cell_n52 rfl rfl rfl (hF.2.1.1 (RX1, 52, yX5_cell) (List.mem_of_getElem? (i := 8) rfl)) (hts (.initialized RX5) (by decide +kernel)) hd_X5_cell ⟨(Nat.le_of_ble_eq_true rfl), (Nat.le_of_ble_eq_true rfl)⟩, hts (.static yX5_cell) (by decide +kernel), trivial⟩ hF hS hA (hP.sub [10] rfl) rfl hl.1 rfl (Nat.le_of_ble_eq_true rfl) ⟨(Nat.le_of_ble_eq_true rfl), (Nat.le_of_ble_eq_true rfl)⟩ dX1_err_68 ?_
          refine W.eq (g2 := F0 m 71 ls [.int (s_X5_cell 201 (u12.1 10) x5), .int x5, .ref (a 15)]) rfl ?_
          refine lv_iload hx hb dX1_err_71 (lv_at hl 0 rfl) ?_
          refine lv_iadd hx hb dX1_err_73 ?_
          refine xMdSN (nL := 7) ⟨hx, hb, hml, hown, hts⟩ (c_X5_mark l E (a 15) 201 (u12.1 15) x5 ((s_X5_cell 201 (u12.1 10) x5) + 0) (hL.2 _ (List.mem_of_getElem? (i := 15) rfl))) ⟨va_cnB (own := RX1) (host := RX5) (index := 37) (y := yX5_mark) 3 hts gX1_err_X5_mark_n37 rfl rfl rfl (hF.2.1.1 (RX1, 37, yX5_mark) (List.mem_of_getElem? (i := 7) rfl)) (hts (.initialized RX5) (by decide +kernel)) hd_X5_mark ⟨(Nat.le_of_ble_eq_true rfl), (Nat.le_of_ble_eq_true rfl)⟩, hts (.static yX5_mark) (by decide +kernel), trivial⟩ hF hS hL.2 (xsub1 (List.mem_of_getElem? (i := 15) rfl)) (hP.sub [15] rfl) rfl hl.1 rfl (Nat.le_of_ble_eq_true rfl) ⟨(Nat.le_of_ble_eq_true rfl), (Nat.le_of_ble_eq_true rfl)⟩ dX1_err_74 (fun H1 locs hP1 hk hS => ?_)
          have hP : va_P (xD E) vwCl (wX E a (uR u12 15 (s_X5_mark 201 (u12.1 15) x5 ((s_X5_cell 201 (u12.1 10) x5) + 0)))) H1 := xset1 hP (xD_of (ws := wX E a u12) (A := (· ∈ LX a)) hL.1 (fun _ h => h)) (p := 15) rfl hP1 hk
          generalize H1 = H at hP hS ⊢
          refine W.eq (g2 := F0 m 77 ls []) rfl ?_
          refine lv_iinc (k := 2) (v := x5 + 1) (lv' := [(5, .int (x5 + 1)), (6, .int 0), (3, .int ((x3 * 1103515245) + 12345)), (4, .int ((2 * p2) + 1)), (0, .ref (a 14)), (1, .int p1), (2, .int p2)]) hx hb dX1_err_77 hl rfl rfl (by decide) rfl (fun ls hl => ?_)
          refine lv_goto (tgt := 12) hx hb dX1_err_80 rfl ?_
          exact ih12 (uR u12 15 (s_X5_mark 201 (u12.1 15) x5 ((s_X5_cell 201 (u12.1 10) x5) + 0))) ((x3 * 1103515245) + 12345) (x5 + 1) _ _ _ (hI0) (Nat.lt_of_lt_of_le (xupl q1 (hI0)) (Nat.le_of_lt_succ hM12)) hR (lv_sub hl [0, 3, 2, 4, 5, 6] rfl) hP hS
        · have hR := hR.trans (if_neg q2)
          refine lv_iload_n hx hb dX1_err_38 rfl (lv_at hl 0 rfl) ?_
          refine lv_bipush (v := 9) hx hb dX1_err_39 rfl ?_
          refine lv_iushr (v := iUshr ((x3 * 1103515245) + 12345) 9) hx hb dX1_err_41 rfl ?_
          refine lv_iload hx hb dX1_err_42 (lv_at hl 2 rfl) ?_
          refine lv_irem hx hb dX1_err_44 (xne0 (by assumption)) ?_
          refine W.eq (g2 := F0 m 45 ls [.int (iRem (iUshr ((x3 * 1103515245) + 12345) 9) ((2 * p2) + 1))]) rfl ?_
          refine lv_iload_n hx hb dX1_err_45 rfl (lv_at hl 5 rfl) ?_
          refine lv_isub hx hb dX1_err_46 ?_
          refine lv_goto (tgt := 51) hx hb dX1_err_47 rfl ?_
          refine lv_istore (lv' := [(6, .int ((iRem (iUshr ((x3 * 1103515245) + 12345) 9) ((2 * p2) + 1)) - p2)), (3, .int ((x3 * 1103515245) + 12345)), (5, .int x5), (4, .int ((2 * p2) + 1)), (0, .ref (a 14)), (1, .int p1), (2, .int p2)]) hx hb dX1_err_51 hl (by decide) rfl (fun ls hl => ?_)
          refine lv_aload_n hx hb dX1_err_53 rfl (lv_at hl 4 rfl) ?_
          refine va_get (D := xD E) (ci := 1) (v := .ref (a 15)) (C := RX1) (T := TX1) (N := 3) hx hb hts (by decide +kernel) hown hK hP 14 rfl rfl 1 (by decide) (hts (.fieldLink RX1 15 "RailOffsets$OldLine" "versines" "[I") (by decide +kernel)) (fun _ h => h) rfl dX1_err_54 ?_
          refine lv_iload hx hb dX1_err_57 (lv_at hl 2 rfl) ?_
          refine lv_aload_n hx hb dX1_err_59 rfl (lv_at hl 4 rfl) ?_
          refine va_get (D := xD E) (ci := 1) (v := .ref (a 7)) (C := RX1) (T := TX1) (N := 3) hx hb hts (by decide +kernel) hown hK hP 14 rfl rfl 0 (by decide) (hts (.fieldLink RX1 9 "RailOffsets$OldLine" "line" "LRailOffsets$Line;") (by decide +kernel)) (fun _ h => h) rfl dX1_err_60 ?_
          refine va_get (D := xD E) (ci := 0) (v := .ref (a 10)) (C := RX0) (T := TX0) (N := 8) hx hb hts (by decide +kernel) hown hK hP 7 rfl rfl 3 (by decide) (hts (.fieldLink RX1 51 "RailOffsets$Line" "versines" "[I") (by decide +kernel)) (fun _ h => h) rfl dX1_err_63 ?_
          refine lv_iload hx hb dX1_err_66 (lv_at hl 2 rfl) ?_
          refine xRoSN (nL := 7) ⟨hx, hb, hml, hown, hts⟩ (c_X5_cell l E (a 10) 201 (u12.1 10) x5) ⟨va_cnB (own := RX1) (host := RX5) (index := 52) (y := yX5_cell) 2 hts gX1_err_X5_cell_n52 rfl rfl rfl (hF.2.1.1 (RX1, 52, yX5_cell) (List.mem_of_getElem? (i := 8) rfl)) (hts (.initialized RX5) (by decide +kernel)) hd_X5_cell ⟨(Nat.le_of_ble_eq_true rfl), (Nat.le_of_ble_eq_true rfl)⟩, hts (.static yX5_cell) (by decide +kernel), trivial⟩ hF hS hA (hP.sub [10] rfl) rfl hl.1 rfl (Nat.le_of_ble_eq_true rfl) ⟨(Nat.le_of_ble_eq_true rfl), (Nat.le_of_ble_eq_true rfl)⟩ dX1_err_68 ?_
          refine W.eq (g2 := F0 m 71 ls [.int (s_X5_cell 201 (u12.1 10) x5), .int x5, .ref (a 15)]) rfl ?_
          refine lv_iload hx hb dX1_err_71 (lv_at hl 0 rfl) ?_
          refine lv_iadd hx hb dX1_err_73 ?_
          refine xMdSN (nL := 7) ⟨hx, hb, hml, hown, hts⟩ (c_X5_mark l E (a 15) 201 (u12.1 15) x5 ((s_X5_cell 201 (u12.1 10) x5) + ((iRem (iUshr ((x3 * 1103515245) + 12345) 9) ((2 * p2) + 1)) - p2)) (hL.2 _ (List.mem_of_getElem? (i := 15) rfl))) ⟨va_cnB (own := RX1) (host := RX5) (index := 37) (y := yX5_mark) 3 hts gX1_err_X5_mark_n37 rfl rfl rfl (hF.2.1.1 (RX1, 37, yX5_mark) (List.mem_of_getElem? (i := 7) rfl)) (hts (.initialized RX5) (by decide +kernel)) hd_X5_mark ⟨(Nat.le_of_ble_eq_true rfl), (Nat.le_of_ble_eq_true rfl)⟩, hts (.static yX5_mark) (by decide +kernel), trivial⟩ hF hS hL.2 (xsub1 (List.mem_of_getElem? (i := 15) rfl)) (hP.sub [15] rfl) rfl hl.1 rfl (Nat.le_of_ble_eq_true rfl) ⟨(Nat.le_of_ble_eq_true rfl), (Nat.le_of_ble_eq_true rfl)⟩ dX1_err_74 (fun H1 locs hP1 hk hS => ?_)
          have hP : va_P (xD E) vwCl (wX E a (uR u12 15 (s_X5_mark 201 (u12.1 15) x5 ((s_X5_cell 201 (u12.1 10) x5) + ((iRem (iUshr ((x3 * 1103515245) + 12345) 9) ((2 * p2) + 1)) - p2))))) H1 := xset1 hP (xD_of (ws := wX E a u12) (A := (· ∈ LX a)) hL.1 (fun _ h => h)) (p := 15) rfl hP1 hk
          generalize H1 = H at hP hS ⊢
          refine W.eq (g2 := F0 m 77 ls []) rfl ?_
          refine lv_iinc (k := 2) (v := x5 + 1) (lv' := [(5, .int (x5 + 1)), (6, .int ((iRem (iUshr ((x3 * 1103515245) + 12345) 9) ((2 * p2) + 1)) - p2)), (3, .int ((x3 * 1103515245) + 12345)), (4, .int ((2 * p2) + 1)), (0, .ref (a 14)), (1, .int p1), (2, .int p2)]) hx hb dX1_err_77 hl rfl rfl (by decide) rfl (fun ls hl => ?_)
          refine lv_goto (tgt := 12) hx hb dX1_err_80 rfl ?_
          exact ih12 (uR u12 15 (s_X5_mark 201 (u12.1 15) x5 ((s_X5_cell 201 (u12.1 10) x5) + ((iRem (iUshr ((x3 * 1103515245) + 12345) 9) ((2 * p2) + 1)) - p2)))) ((x3 * 1103515245) + 12345) (x5 + 1) _ _ _ (hI0) (Nat.lt_of_lt_of_le (xupl q1 (hI0)) (Nat.le_of_lt_succ hM12)) hR (lv_sub hl [0, 3, 2, 4, 5, 6] rfl) hP hS
  exact L12 (((u.2 3).toInt + 1 - (1 : Int32).toInt).toNat + 1) u p1 1 _ _ ls (hp0) (Nat.lt_succ_self _) hR hl hP hS
