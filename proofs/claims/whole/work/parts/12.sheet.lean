def s_X3_isMissing (u : xU) : Int32 :=
  if (u.2 0) = (-1) then
    1
  else
    0
abbrev rm_X3_isMissing : Room := { frames := 0, cells := 0, slots := 0, locals := 0 }
set_option maxHeartbeats 8000000 in
set_option maxRecDepth 100000 in
theorem c_X3_isMissing (l : Launch) (E : xG) (h i : Nat) (u : xU)  : xRo l E yX3_isMissing wsX3_isMissing rm_X3_isMissing [.ref h] (wS E h i u) (some (.int (s_X3_isMissing u))) := by
  refine xRo.of (cc := cX3_isMissing) (maxL := 1) (ret := (some .boolean)) (by decide) rfl (Nat.le_of_ble_eq_true rfl) ?_
  intro p e s m below meth c ls hAt hF hP hS hl
  obtain ⟨hx, hb, hr, hml, hown, hts, hlocks, -⟩ := hAt
  have hown : s.vm.findClass RX3 = some m.cls := hown
  have hl : lv_has ls 1 [(0, .ref h)] := hl
  have hK := hF.1
  have hA : ∀ q : Nat, (fun _ => False) q → xA0 E q := fun _ h => h.elim
  change W p l e rm_X3_isMissing s m ([.ref h] : List Value).toArray below meth c s.heap [] 0 0 (xQro below (some (.int (s_X3_isMissing u))) ([.ref h] : List Value).toArray s) _
  have hR : s_X3_isMissing u = s_X3_isMissing u := rfl
  refine lv_aload_n hx hb dX3_isMissing_0 rfl (lv_at hl 0 rfl) ?_
  refine va_get (D := xD E) (ci := 3) (v := .int (u.2 0)) (C := RX3) (T := TX3) (N := 3) hx hb hts (by decide +kernel) hown hK hP 0 rfl rfl 1 (by decide) (hts (.fieldLink RX3 15 "RailOffsets$Sheet" "sort" "I") (by decide +kernel)) (fun _ h => h) rfl dX3_isMissing_1 ?_
  refine lv_iconst (v := (-1)) hx hb dX3_isMissing_4 rfl ?_
  refine lv_icmp_ne (tgt := 12) hx hb dX3_isMissing_5 rfl (fun q1 => ?_) (fun q1 => ?_)
  · have hR := hR.trans (if_neg q1)
    refine lv_iconst (v := 0) hx hb dX3_isMissing_12 rfl ?_
    have hR : s_X3_isMissing u = 0 := hR
    exact W.zret (v := 0) (ty := .boolean) hx hb hr (xnb (Or.inl rfl)) (fun t ht _ => ⟨congrArg (fun z => Outcome.returned (some (Value.int z))) hR.symm, ht⟩) (fun _ h => by cases h) dX3_isMissing_13
  · have hR := hR.trans (if_pos q1)
    refine lv_iconst (v := 1) hx hb dX3_isMissing_8 rfl ?_
    refine lv_goto (tgt := 13) hx hb dX3_isMissing_9 rfl ?_
    have hR : s_X3_isMissing u = 1 := hR
    exact W.zret (v := 1) (ty := .boolean) hx hb hr (xnb (Or.inr rfl)) (fun t ht _ => ⟨congrArg (fun z => Outcome.returned (some (Value.int z))) hR.symm, ht⟩) (fun _ h => by cases h) dX3_isMissing_13
def s_X3_read (u : xU) (p1 : Int32) : Int32 :=
  if (u.2 1) ≤ p1 then
    0
  else
    s_X5_cell 40 (u.1 0) p1
abbrev rm_X3_read : Room := { frames := 1, cells := 0, slots := 0, locals := 21 }
set_option maxHeartbeats 8000000 in
set_option maxRecDepth 100000 in
theorem c_X3_read (l : Launch) (E : xG) (h i : Nat) (u : xU) (p1 : Int32) : xRo l E yX3_read wsX3_read rm_X3_read [.ref h, .int p1] (wS E h i u) (some (.int (s_X3_read u p1))) := by
  refine xRo.of (cc := cX3_read) (maxL := 2) (ret := (some .int)) (by decide) rfl (Nat.le_of_ble_eq_true rfl) ?_
  intro p e s m below meth c ls hAt hF hP hS hl
  obtain ⟨hx, hb, hr, hml, hown, hts, hlocks, -⟩ := hAt
  have hown : s.vm.findClass RX3 = some m.cls := hown
  have hl : lv_has ls 2 [(0, .ref h), (1, .int p1)] := hl
  have hK := hF.1
  have hA : ∀ q : Nat, (fun _ => False) q → xA0 E q := fun _ h => h.elim
  change W p l e rm_X3_read s m ([.ref h, .int p1] : List Value).toArray below meth c s.heap [] 0 0 (xQro below (some (.int (s_X3_read u p1))) ([.ref h, .int p1] : List Value).toArray s) _
  have hR : s_X3_read u p1 = s_X3_read u p1 := rfl
  refine lv_iload_n hx hb dX3_read_0 rfl (lv_at hl 1 rfl) ?_
  refine lv_aload_n hx hb dX3_read_1 rfl (lv_at hl 0 rfl) ?_
  refine va_get (D := xD E) (ci := 3) (v := .int (u.2 1)) (C := RX3) (T := TX3) (N := 3) hx hb hts (by decide +kernel) hown hK hP 0 rfl rfl 2 (by decide) (hts (.fieldLink RX3 19 "RailOffsets$Sheet" "size" "I") (by decide +kernel)) (fun _ h => h) rfl dX3_read_2 ?_
  refine lv_icmp_ge (tgt := 19) hx hb dX3_read_5 rfl (fun q1 => ?_) (fun q1 => ?_)
  · have hR := hR.trans (if_pos q1)
    refine lv_iconst (v := 0) hx hb dX3_read_19 rfl ?_
    have hR : s_X3_read u p1 = 0 := hR
    exact W.iret (v := 0) hx hb hr (fun t ht _ => ⟨congrArg (fun z => Outcome.returned (some (Value.int z))) hR.symm, ht⟩) (fun _ h => by cases h) dX3_read_20
  · have hR := hR.trans (if_neg q1)
    refine lv_aload_n hx hb dX3_read_8 rfl (lv_at hl 0 rfl) ?_
    refine va_get (D := xD E) (ci := 3) (v := .ref i) (C := RX3) (T := TX3) (N := 3) hx hb hts (by decide +kernel) hown hK hP 0 rfl rfl 0 (by decide) (hts (.fieldLink RX3 9 "RailOffsets$Sheet" "items" "[I") (by decide +kernel)) (fun _ h => h) rfl dX3_read_9 ?_
    refine lv_iload_n hx hb dX3_read_12 rfl (lv_at hl 1 rfl) ?_
    refine xRoSN (nL := 2) ⟨hx, hb, hml, hown, hts⟩ (c_X5_cell l E (i) 40 (u.1 0) p1) ⟨va_cnB (own := RX3) (host := RX5) (index := 28) (y := yX5_cell) 2 hts gX3_read_X5_cell_n28 rfl rfl rfl (hF.2.1.1 (RX3, 28, yX5_cell) (List.mem_of_getElem? (i := 6) rfl)) (hts (.initialized RX5) (by decide +kernel)) hd_X5_cell ⟨(Nat.le_of_ble_eq_true rfl), (Nat.le_of_ble_eq_true rfl)⟩, hts (.static yX5_cell) (by decide +kernel), trivial⟩ hF hS hA (hP.sub [1] rfl) rfl hl.1 rfl (Nat.le_of_ble_eq_true rfl) ⟨(Nat.le_of_ble_eq_true rfl), (Nat.le_of_ble_eq_true rfl)⟩ dX3_read_13 ?_
    refine W.eq (g2 := F0 m 16 ls [.int (s_X5_cell 40 (u.1 0) p1)]) rfl ?_
    refine lv_goto (tgt := 20) hx hb dX3_read_16 rfl ?_
    have hR : s_X3_read u p1 = s_X5_cell 40 (u.1 0) p1 := hR
    exact W.iret (v := s_X5_cell 40 (u.1 0) p1) hx hb hr (fun t ht _ => ⟨congrArg (fun z => Outcome.returned (some (Value.int z))) hR.symm, ht⟩) (fun _ h => by cases h) dX3_read_20
def s_X3_write (u : xU) (p1 : Int32) (p2 : Int32) : xU :=
  if (u.2 1) ≤ p1 then
    u
  else
    if (u.2 0) = 0 then
      uR u 0 (s_X5_mark 40 (u.1 0) p1 p2.toInt16.toInt32)
    else
      uR u 0 (s_X5_mark 40 (u.1 0) p1 p2)
abbrev rm_X3_write : Room := { frames := 1, cells := 0, slots := 0, locals := 22 }
set_option maxHeartbeats 8000000 in
set_option maxRecDepth 100000 in
theorem c_X3_write (l : Launch) (E : xG) (h i : Nat) (u : xU) (p1 : Int32) (p2 : Int32) (hL : xOK E ([h, i])) : xMd l E yX3_write wsX3_write rm_X3_write ([h, i]) [.ref h, .int p1, .int p2] (wS E h i u) (none) (wS E h i (s_X3_write u p1 p2)) := by
  refine xMd.of (cc := cX3_write) (maxL := 3) (ret := none) (by decide) rfl (Nat.le_of_ble_eq_true rfl) ?_
  intro p e s m below meth c ls hAt hF hP hS hl
  obtain ⟨hx, hb, hr, hml, hown, hts, hlocks, -⟩ := hAt
  have hown : s.vm.findClass RX3 = some m.cls := hown
  have hl : lv_has ls 3 [(0, .ref h), (1, .int p1), (2, .int p2)] := hl
  have hK := hF.1
  have hA := hL.2
  change W p l e rm_X3_write s m ([.ref h, .int p1, .int p2] : List Value).toArray below meth c s.heap [] 0 0 (xQmd E below ([h, i]) (none) (wS E h i (s_X3_write u p1 p2)) ([.ref h, .int p1, .int p2] : List Value).toArray s) _
  have hS : va_S (· ∈ [h, i]) s.heap s.heap [] := hS
  have hR : s_X3_write u p1 p2 = s_X3_write u p1 p2 := rfl
  refine lv_iload_n hx hb dX3_write_0 rfl (lv_at hl 1 rfl) ?_
  refine lv_aload_n hx hb dX3_write_1 rfl (lv_at hl 0 rfl) ?_
  refine va_get (D := xD E) (ci := 3) (v := .int (u.2 1)) (C := RX3) (T := TX3) (N := 3) hx hb hts (by decide +kernel) hown hK hP 0 rfl rfl 2 (by decide) (hts (.fieldLink RX3 19 "RailOffsets$Sheet" "size" "I") (by decide +kernel)) (fun _ h => h) rfl dX3_write_2 ?_
  refine lv_icmp_ge (tgt := 29) hx hb dX3_write_5 rfl (fun q1 => ?_) (fun q1 => ?_)
  · have hR := hR.trans (if_pos q1)
    have hR : s_X3_write u p1 p2 = u := hR
    exact W.vret hx hb hr (fun t ht _ => by rw [hR]; exact ⟨⟨rfl, by rw [ht]; exact hP⟩, hS.F ht⟩) hS.2.2 dX3_write_29
  · have hR := hR.trans (if_neg q1)
    refine lv_aload_n hx hb dX3_write_8 rfl (lv_at hl 0 rfl) ?_
    refine va_get (D := xD E) (ci := 3) (v := .ref i) (C := RX3) (T := TX3) (N := 3) hx hb hts (by decide +kernel) hown hK hP 0 rfl rfl 0 (by decide) (hts (.fieldLink RX3 9 "RailOffsets$Sheet" "items" "[I") (by decide +kernel)) (fun _ h => h) rfl dX3_write_9 ?_
    refine lv_iload_n hx hb dX3_write_12 rfl (lv_at hl 1 rfl) ?_
    refine lv_aload_n hx hb dX3_write_13 rfl (lv_at hl 0 rfl) ?_
    refine va_get (D := xD E) (ci := 3) (v := .int (u.2 0)) (C := RX3) (T := TX3) (N := 3) hx hb hts (by decide +kernel) hown hK hP 0 rfl rfl 1 (by decide) (hts (.fieldLink RX3 15 "RailOffsets$Sheet" "sort" "I") (by decide +kernel)) (fun _ h => h) rfl dX3_write_14 ?_
    refine lv_if_ne (tgt := 25) hx hb dX3_write_17 rfl (fun q2 => ?_) (fun q2 => ?_)
    · have hR := hR.trans (if_neg q2)
      refine lv_iload_n hx hb dX3_write_25 rfl (lv_at hl 2 rfl) ?_
      refine xMdSN (nL := 3) ⟨hx, hb, hml, hown, hts⟩ (c_X5_mark l E (i) 40 (u.1 0) p1 p2 (hL.2 _ (List.mem_of_getElem? (i := 1) rfl))) ⟨va_cnB (own := RX3) (host := RX5) (index := 32) (y := yX5_mark) 3 hts gX3_write_X5_mark_n32 rfl rfl rfl (hF.2.1.1 (RX3, 32, yX5_mark) (List.mem_of_getElem? (i := 9) rfl)) (hts (.initialized RX5) (by decide +kernel)) hd_X5_mark ⟨(Nat.le_of_ble_eq_true rfl), (Nat.le_of_ble_eq_true rfl)⟩, hts (.static yX5_mark) (by decide +kernel), trivial⟩ hF hS hL.2 (xsub1 (List.mem_of_getElem? (i := 1) rfl)) (hP.sub [1] rfl) rfl hl.1 rfl (Nat.le_of_ble_eq_true rfl) ⟨(Nat.le_of_ble_eq_true rfl), (Nat.le_of_ble_eq_true rfl)⟩ dX3_write_26 (fun H1 locs hP1 hk hS => ?_)
      have hP : va_P (xD E) vwCl (wS E h i (uR u 0 (s_X5_mark 40 (u.1 0) p1 p2))) H1 := xset1 hP (xD_of (ws := wS E h i u) (A := (· ∈ [h, i])) hL.1 (fun _ h => h)) (p := 1) rfl hP1 hk
      generalize H1 = H at hP hS ⊢
      refine W.eq (g2 := F0 m 29 ls []) rfl ?_
      have hR : s_X3_write u p1 p2 = uR u 0 (s_X5_mark 40 (u.1 0) p1 p2) := hR
      exact W.vret hx hb hr (fun t ht _ => by rw [hR]; exact ⟨⟨rfl, by rw [ht]; exact hP⟩, hS.F ht⟩) hS.2.2 dX3_write_29
    · have hR := hR.trans (if_pos q2)
      refine lv_iload_n hx hb dX3_write_20 rfl (lv_at hl 2 rfl) ?_
      refine lv_i2s hx hb dX3_write_21 rfl ?_
      refine lv_goto (tgt := 26) hx hb dX3_write_22 rfl ?_
      refine xMdSN (nL := 3) ⟨hx, hb, hml, hown, hts⟩ (c_X5_mark l E (i) 40 (u.1 0) p1 p2.toInt16.toInt32 (hL.2 _ (List.mem_of_getElem? (i := 1) rfl))) ⟨va_cnB (own := RX3) (host := RX5) (index := 32) (y := yX5_mark) 3 hts gX3_write_X5_mark_n32 rfl rfl rfl (hF.2.1.1 (RX3, 32, yX5_mark) (List.mem_of_getElem? (i := 9) rfl)) (hts (.initialized RX5) (by decide +kernel)) hd_X5_mark ⟨(Nat.le_of_ble_eq_true rfl), (Nat.le_of_ble_eq_true rfl)⟩, hts (.static yX5_mark) (by decide +kernel), trivial⟩ hF hS hL.2 (xsub1 (List.mem_of_getElem? (i := 1) rfl)) (hP.sub [1] rfl) rfl hl.1 rfl (Nat.le_of_ble_eq_true rfl) ⟨(Nat.le_of_ble_eq_true rfl), (Nat.le_of_ble_eq_true rfl)⟩ dX3_write_26 (fun H1 locs hP1 hk hS => ?_)
      have hP : va_P (xD E) vwCl (wS E h i (uR u 0 (s_X5_mark 40 (u.1 0) p1 p2.toInt16.toInt32))) H1 := xset1 hP (xD_of (ws := wS E h i u) (A := (· ∈ [h, i])) hL.1 (fun _ h => h)) (p := 1) rfl hP1 hk
      generalize H1 = H at hP hS ⊢
      refine W.eq (g2 := F0 m 29 ls []) rfl ?_
      have hR : s_X3_write u p1 p2 = uR u 0 (s_X5_mark 40 (u.1 0) p1 p2.toInt16.toInt32) := hR
      exact W.vret hx hb hr (fun t ht _ => by rw [hR]; exact ⟨⟨rfl, by rw [ht]; exact hP⟩, hS.F ht⟩) hS.2.2 dX3_write_29
def s_X3_become_L2 : Nat → xU → Int32 → Int32 → Int32 → xU
  | 0, u, _, _, _ => u
  | n + 1, u, x1, x2, x3 =>
    if 40 ≤ x3 then
      uZ (uZ u 0 x1) 1 (iMin x2 40)
    else
      s_X3_become_L2 n (uA u 0 x3.toNatClampNeg 0) x1 x2 (x3 + 1)
def s_X3_become (u : xU) (p1 : Int32) (p2 : Int32) : xU :=
  s_X3_become_L2 (((40 : Int32).toInt - (0 : Int32).toInt).toNat + 1) u p1 p2 0
abbrev rm_X3_become : Room := { frames := 1, cells := 0, slots := 0, locals := 21 }
set_option maxHeartbeats 8000000 in
set_option maxRecDepth 100000 in
theorem c_X3_become (l : Launch) (E : xG) (h i : Nat) (u : xU) (p1 : Int32) (p2 : Int32) (hL : xOK E ([h, i])) : xMd l E yX3_become wsX3_become rm_X3_become ([h, i]) [.ref h, .int p1, .int p2] (wS E h i u) (none) (wS E h i (s_X3_become u p1 p2)) := by
  refine xMd.of (cc := cX3_become) (maxL := 4) (ret := none) (by decide) rfl (Nat.le_of_ble_eq_true rfl) ?_
  intro p e s m below meth c ls hAt hF hP hS hl
  obtain ⟨hx, hb, hr, hml, hown, hts, hlocks, -⟩ := hAt
  have hown : s.vm.findClass RX3 = some m.cls := hown
  have hl : lv_has ls 4 [(0, .ref h), (1, .int p1), (2, .int p2)] := hl
  have hK := hF.1
  have hA := hL.2
  change W p l e rm_X3_become s m ([.ref h, .int p1, .int p2] : List Value).toArray below meth c s.heap [] 0 0 (xQmd E below ([h, i]) (none) (wS E h i (s_X3_become u p1 p2)) ([.ref h, .int p1, .int p2] : List Value).toArray s) _
  have hS : va_S (· ∈ [h, i]) s.heap s.heap [] := hS
  have hR : s_X3_become u p1 p2 = s_X3_become u p1 p2 := rfl
  refine lv_iconst (v := 0) hx hb dX3_become_0 rfl ?_
  refine lv_istore_n (lv' := [(3, .int 0), (0, .ref h), (1, .int p1), (2, .int p2)]) hx hb dX3_become_1 rfl hl (by decide) rfl (fun ls hl => ?_)
  have L2 : ∀ (n2 : Nat) (u2 : xU) (x3 : Int32) (H : Heap) (locs : List Loc) (ls : Array Slot), (¬ x3 < 0) → ((40 : Int32).toInt - x3.toInt).toNat < n2 → s_X3_become u p1 p2 = s_X3_become_L2 n2 u2 p1 p2 x3 → lv_has ls 4 [(3, .int x3), (0, .ref h), (1, .int p1), (2, .int p2)] → va_P (xD E) vwCl (wS E h i u2) H → va_S (· ∈ [h, i]) s.heap H locs → W p l e rm_X3_become s m ([.ref h, .int p1, .int p2] : List Value).toArray below meth c H locs 0 0 (xQmd E below ([h, i]) (none) (wS E h i (s_X3_become u p1 p2)) ([.ref h, .int p1, .int p2] : List Value).toArray s) (F0 m 2 ls []) := by
    intro n2
    induction n2 with
    | zero => intro u2 x3 H locs ls hI0 hM2 hR hl hP hS; exact absurd hM2 (Nat.not_lt_zero _)
    | succ n2 ih2 =>
      intro u2 x3 H locs ls hI0 hM2 hR hl hP hS
      refine lv_iload_n hx hb dX3_become_2 rfl (lv_at hl 0 rfl) ?_
      refine lv_aload_n hx hb dX3_become_3 rfl (lv_at hl 1 rfl) ?_
      refine va_get (D := xD E) (ci := 3) (v := .ref i) (C := RX3) (T := TX3) (N := 3) hx hb hts (by decide +kernel) hown hK hP 0 rfl rfl 0 (by decide) (hts (.fieldLink RX3 9 "RailOffsets$Sheet" "items" "[I") (by decide +kernel)) (fun _ h => h) rfl dX3_become_4 ?_
      refine va_alen (v := 40) hx hb hK hP 1 0 rfl rfl rfl dX3_become_7 ?_
      refine lv_icmp_ge (tgt := 24) hx hb dX3_become_8 rfl (fun q1 => ?_) (fun q1 => ?_)
      · have hR := hR.trans (if_pos q1)
        refine lv_aload_n hx hb dX3_become_24 rfl (lv_at hl 1 rfl) ?_
        refine lv_iload_n hx hb dX3_become_25 rfl (lv_at hl 2 rfl) ?_
        refine va_put (D := xD E) (ci := 3) (v := .int p1) (ty := .int) (C := RX3) (T := TX3) (N := 3) hx hb hts (by decide +kernel) tyX3 tyX3_ok nmX3 hown hK hP (xD_of (ws := wS E h i u2) (A := (· ∈ [h, i])) hL.1 (fun _ h => h)) hS 0 rfl rfl 1 (by decide) (hts (.fieldLink RX3 15 "RailOffsets$Sheet" "sort" "I") (by decide +kernel)) (fun _ h => h) rfl (by decide +kernel) rfl rfl (Nat.le_of_ble_eq_true rfl) dX3_become_26 (fun H locs hP _ hS => ?_)
        have hP : va_P (xD E) vwCl (wS E h i (uZ u2 0 p1)) H := hP
        refine lv_aload_n hx hb dX3_become_29 rfl (lv_at hl 1 rfl) ?_
        refine lv_iload_n hx hb dX3_become_30 rfl (lv_at hl 3 rfl) ?_
        refine lv_aload_n hx hb dX3_become_31 rfl (lv_at hl 1 rfl) ?_
        refine va_get (D := xD E) (ci := 3) (v := .ref i) (C := RX3) (T := TX3) (N := 3) hx hb hts (by decide +kernel) hown hK hP 0 rfl rfl 0 (by decide) (hts (.fieldLink RX3 9 "RailOffsets$Sheet" "items" "[I") (by decide +kernel)) (fun _ h => h) rfl dX3_become_32 ?_
        refine va_alen (v := 40) hx hb hK hP 1 0 rfl rfl rfl dX3_become_35 ?_
        refine va_mmin hx hb (hml.trans hl.1.symm) hown (hts (.methodLink RX3 22 Lib.Math.min.name) (by decide +kernel)) (hts (.static Lib.Math.min.name) (by decide +kernel)) (hts (.initialized "java/lang/Math") (by decide +kernel)) (hts (.code Lib.Math.min.name Lib.Math.min.code 2 (some .int)) (by decide +kernel)) (Nat.le_of_ble_eq_true rfl) (Nat.le_of_ble_eq_true rfl) (Nat.le_of_ble_eq_true rfl) (Nat.le_of_ble_eq_true rfl) dX3_become_36 ?_
        refine W.eq (g2 := F0 m 39 ls [.int (iMin p2 40), .ref h]) rfl ?_
        refine va_put (D := xD E) (ci := 3) (v := .int (iMin p2 40)) (ty := .int) (C := RX3) (T := TX3) (N := 3) hx hb hts (by decide +kernel) tyX3 tyX3_ok nmX3 hown hK hP (xD_of (ws := wS E h i (uZ u2 0 p1)) (A := (· ∈ [h, i])) hL.1 (fun _ h => h)) hS 0 rfl rfl 2 (by decide) (hts (.fieldLink RX3 19 "RailOffsets$Sheet" "size" "I") (by decide +kernel)) (fun _ h => h) rfl (by decide +kernel) rfl rfl (Nat.le_of_ble_eq_true rfl) dX3_become_39 (fun H locs hP _ hS => ?_)
        have hP : va_P (xD E) vwCl (wS E h i (uZ (uZ u2 0 p1) 1 (iMin p2 40))) H := hP
        have hR : s_X3_become u p1 p2 = uZ (uZ u2 0 p1) 1 (iMin p2 40) := hR
        exact W.vret hx hb hr (fun t ht _ => by rw [hR]; exact ⟨⟨rfl, by rw [ht]; exact hP⟩, hS.F ht⟩) hS.2.2 dX3_become_42
      · have hR := hR.trans (if_neg q1)
        refine lv_aload_n hx hb dX3_become_11 rfl (lv_at hl 1 rfl) ?_
        refine va_get (D := xD E) (ci := 3) (v := .ref i) (C := RX3) (T := TX3) (N := 3) hx hb hts (by decide +kernel) hown hK hP 0 rfl rfl 0 (by decide) (hts (.fieldLink RX3 9 "RailOffsets$Sheet" "items" "[I") (by decide +kernel)) (fun _ h => h) rfl dX3_become_12 ?_
        refine lv_iload_n hx hb dX3_become_15 rfl (lv_at hl 0 rfl) ?_
        refine lv_iconst (v := 0) hx hb dX3_become_16 rfl ?_
        refine va_iast hx hb hK hP (xD_of (ws := wS E h i u2) (A := (· ∈ [h, i])) hL.1 (fun _ h => h)) hS 1 0 rfl rfl (xin_of (n := 40) (by decide) hI0 q1) dX3_become_17 (fun H locs hP _ hS => ?_)
        have hP : va_P (xD E) vwCl (wS E h i (uA u2 0 x3.toNatClampNeg 0)) H := hP
        refine lv_iinc (k := 0) (v := x3 + 1) (lv' := [(3, .int (x3 + 1)), (0, .ref h), (1, .int p1), (2, .int p2)]) hx hb dX3_become_18 hl rfl rfl (by decide) rfl (fun ls hl => ?_)
        refine lv_goto (tgt := 2) hx hb dX3_become_21 rfl ?_
        exact ih2 (uA u2 0 x3.toNatClampNeg 0) (x3 + 1) _ _ _ (xup0 hI0 q1) (Nat.lt_of_lt_of_le (xupc q1) (Nat.le_of_lt_succ hM2)) hR (lv_sub hl [0, 1, 2, 3] rfl) hP hS
  exact L2 (((40 : Int32).toInt - (0 : Int32).toInt).toNat + 1) u 0 _ _ ls (by decide) (Nat.lt_succ_self _) hR hl hP hS
/-! ===== which sheet ===== -/
abbrev rm_X5_sheetOf : Room := { frames := 1, cells := 0, slots := 0, locals := 22 }
set_option maxHeartbeats 8000000 in
set_option maxRecDepth 100000 in
theorem c_X5_sheetOf (l : Launch) (E : xG) (a : Nat → Nat) (u : xU) (p1 : Int32) (k : Nat) (hk : k < 4) (hq : p1 = nI k) : xRo l E yX5_sheetOf wsX5_sheetOf rm_X5_sheetOf [.ref (a 0), .int p1] (wX E a u) (some (.ref (a (17 + k)))) := by
  refine xRo.of (cc := cX5_sheetOf) (maxL := 2) (ret := (some (.object "RailOffsets$Sheet"))) (by decide) rfl (Nat.le_of_ble_eq_true rfl) ?_
  intro p e s m below meth c ls hAt hF hP hS hl
  obtain ⟨hx, hb, hr, hml, hown, hts, hlocks, -⟩ := hAt
  have hown : s.vm.findClass RX5 = some m.cls := hown
  have hl : lv_has ls 2 [(0, .ref (a 0)), (1, .int p1)] := hl
  have hK := hF.1
  have hA : ∀ q : Nat, (fun _ => False) q → xA0 E q := fun _ h => h.elim
  have hw : s_X5_within p1 0 (4 - 1) = 1 := by
    have h4 : k = 0 ∨ k = 1 ∨ k = 2 ∨ k = 3 := by omega
    rw [hq]
    rcases h4 with rfl | rfl | rfl | rfl <;> decide
  refine lv_iload_n hx hb dX5_sheetOf_0 rfl (lv_at hl 1 rfl) ?_
  refine lv_iconst (v := 0) hx hb dX5_sheetOf_1 rfl ?_
  refine lv_aload_n hx hb dX5_sheetOf_2 rfl (lv_at hl 0 rfl) ?_
  refine va_get (D := xD E) (ci := 5) (v := .ref (a 16)) (C := RX5) (T := TX5) (N := 9) hx hb hts (by decide +kernel) hown hK hP 0 rfl rfl 6 (by decide) (hts (.fieldLink RX5 56 "RailOffsets" "sheets" "[LRailOffsets$Sheet;") (by decide +kernel)) (fun _ h => h) rfl dX5_sheetOf_3 ?_
  refine va_alen (v := 4) hx hb hK hP 16 1 rfl rfl rfl dX5_sheetOf_6 ?_
  refine lv_iconst (v := 1) hx hb dX5_sheetOf_7 rfl ?_
  refine lv_isub hx hb dX5_sheetOf_8 ?_
  refine xRoS (nL := 2) ⟨hx, hb, hml, hown, hts⟩ (c_X5_within l E p1 0 (4 - 1)) (va_cwS 3 hts gX5_sheetOf_X5_within rfl rfl rfl hd_X5_within ⟨(Nat.le_of_ble_eq_true rfl), (Nat.le_of_ble_eq_true rfl)⟩) hF hS hA (hP.sub [] rfl) rfl hl.1 rfl (Nat.le_of_ble_eq_true rfl) ⟨(Nat.le_of_ble_eq_true rfl), (Nat.le_of_ble_eq_true rfl)⟩ dX5_sheetOf_9 ?_
  refine W.eq (g2 := F0 m 12 ls [.int (s_X5_within p1 0 (4 - 1))]) rfl ?_
  refine lv_if_eq (tgt := 24) hx hb dX5_sheetOf_12 rfl (fun q => absurd (hw.symm.trans q) (by decide)) (fun _ => ?_)
  refine lv_aload_n hx hb dX5_sheetOf_15 rfl (lv_at hl 0 rfl) ?_
  refine va_get (D := xD E) (ci := 5) (v := .ref (a 16)) (C := RX5) (T := TX5) (N := 9) hx hb hts (by decide +kernel) hown hK hP 0 rfl rfl 6 (by decide) (hts (.fieldLink RX5 56 "RailOffsets" "sheets" "[LRailOffsets$Sheet;") (by decide +kernel)) (fun _ h => h) rfl dX5_sheetOf_16 ?_
  refine lv_iload_n hx hb dX5_sheetOf_19 rfl (lv_at hl 1 rfl) ?_
  refine va_aldq (C := RX3) hx hb hK hP 16 1 rfl rfl (by rw [hq]; exact vp_in_nI hk (by decide)) dX5_sheetOf_20 ?_
  have e : va_rf (some (a (17 + p1.toNatClampNeg))) = .ref (a (17 + k)) := by
    rw [hq, nI_clamp (by omega)]
    rfl
  refine W.eq (g2 := F0 m 21 ls [.ref (a (17 + k))]) (congrArg (fun z => F0 m 21 ls [z]) e) ?_
  refine lv_goto (tgt := 25) hx hb dX5_sheetOf_21 rfl ?_
  exact W.aret (v := .ref (a (17 + k))) hx hb hr (Or.inl ⟨_, rfl⟩) (Or.inr ⟨_, rfl⟩) (fun t ht _ => ⟨rfl, ht⟩) (fun _ h => by cases h) dX5_sheetOf_25
theorem xsheet_out {p1 : Int32} (h0 : ¬ p1 = 0) (h1 : ¬ p1 = 1) (h2 : ¬ p1 = 2) (h3 : ¬ p1 = 3) : s_X5_within p1 0 (4 - 1) = 0 := by
  unfold s_X5_within
  split
  · rfl
  · split
    · rfl
    · rename_i q1 q2
      exfalso
      rw [fa_lt] at q1 q2
      rw [fa_eq] at h0 h1 h2 h3
      rw [show (0 : Int32).toInt = 0 from rfl] at q1 h0
      rw [show (1 : Int32).toInt = 1 from rfl] at h1
      rw [show (2 : Int32).toInt = 2 from rfl] at h2
      rw [show (3 : Int32).toInt = 3 from rfl] at h3
      rw [show ((4 : Int32) - 1).toInt = 3 from rfl] at q2
      omega
set_option maxHeartbeats 8000000 in
set_option maxRecDepth 100000 in
theorem c_X5_sheetOf_n (l : Launch) (E : xG) (a : Nat → Nat) (u : xU) (p1 : Int32) (h0 : ¬ p1 = 0) (h1 : ¬ p1 = 1) (h2 : ¬ p1 = 2) (h3 : ¬ p1 = 3) : xRo l E yX5_sheetOf wsX5_sheetOf rm_X5_sheetOf [.ref (a 0), .int p1] (wX E a u) (some .null) := by
  refine xRo.of (cc := cX5_sheetOf) (maxL := 2) (ret := (some (.object "RailOffsets$Sheet"))) (by decide) rfl (Nat.le_of_ble_eq_true rfl) ?_
  intro p e s m below meth c ls hAt hF hP hS hl
  obtain ⟨hx, hb, hr, hml, hown, hts, hlocks, -⟩ := hAt
  have hown : s.vm.findClass RX5 = some m.cls := hown
  have hl : lv_has ls 2 [(0, .ref (a 0)), (1, .int p1)] := hl
  have hK := hF.1
  have hA : ∀ q : Nat, (fun _ => False) q → xA0 E q := fun _ h => h.elim
  have hw := xsheet_out h0 h1 h2 h3
  refine lv_iload_n hx hb dX5_sheetOf_0 rfl (lv_at hl 1 rfl) ?_
  refine lv_iconst (v := 0) hx hb dX5_sheetOf_1 rfl ?_
  refine lv_aload_n hx hb dX5_sheetOf_2 rfl (lv_at hl 0 rfl) ?_
  refine va_get (D := xD E) (ci := 5) (v := .ref (a 16)) (C := RX5) (T := TX5) (N := 9) hx hb hts (by decide +kernel) hown hK hP 0 rfl rfl 6 (by decide) (hts (.fieldLink RX5 56 "RailOffsets" "sheets" "[LRailOffsets$Sheet;") (by decide +kernel)) (fun _ h => h) rfl dX5_sheetOf_3 ?_
  refine va_alen (v := 4) hx hb hK hP 16 1 rfl rfl rfl dX5_sheetOf_6 ?_
  refine lv_iconst (v := 1) hx hb dX5_sheetOf_7 rfl ?_
  refine lv_isub hx hb dX5_sheetOf_8 ?_
  refine xRoS (nL := 2) ⟨hx, hb, hml, hown, hts⟩ (c_X5_within l E p1 0 (4 - 1)) (va_cwS 3 hts gX5_sheetOf_X5_within rfl rfl rfl hd_X5_within ⟨(Nat.le_of_ble_eq_true rfl), (Nat.le_of_ble_eq_true rfl)⟩) hF hS hA (hP.sub [] rfl) rfl hl.1 rfl (Nat.le_of_ble_eq_true rfl) ⟨(Nat.le_of_ble_eq_true rfl), (Nat.le_of_ble_eq_true rfl)⟩ dX5_sheetOf_9 ?_
  refine W.eq (g2 := F0 m 12 ls [.int (s_X5_within p1 0 (4 - 1))]) rfl ?_
  refine lv_if_eq (tgt := 24) hx hb dX5_sheetOf_12 rfl (fun _ => ?_) (fun q => absurd hw q)
  refine lv_null hx hb dX5_sheetOf_24 ?_
  exact W.aret (v := .null) hx hb hr (Or.inl ⟨_, rfl⟩) (Or.inl rfl) (fun t ht _ => ⟨rfl, ht⟩) (fun _ h => by cases h) dX5_sheetOf_25
