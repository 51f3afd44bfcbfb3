/-! ===== stations: why ===== -/
def XS1 (s : Int32) : Prop := 1 ≤ s.toInt ∧ s.toInt ≤ 200
theorem XS1.st {s : Int32} (h : XS1 s) : XSt s := ⟨by have := h.1; omega, h.2⟩
theorem xvs1 {s : Int32} (h : XS1 s) : vp_in (s - 1) 201 := by
  obtain ⟨h1, h2⟩ := h
  rw [vp_in_iff, fb_subI (x := s) (y := 1) (by rw [show (1 : Int32).toInt = 1 from rfl]; omega) (by rw [show (1 : Int32).toInt = 1 from rfl]; omega), show (1 : Int32).toInt = 1 from rfl]
  omega
theorem xisS {u w : xU} {s : Int32} (h : XSt (u.2 1)) (q : ¬ s_X6_in w s.toInt64 1 (u.2 1).toInt64 = 0) : XS1 s := by
  have q2 := xin32 q
  rw [Int32.toInt_toInt64] at q2
  exact ⟨q2.1, Int.le_trans q2.2 h.2⟩
theorem xisSt {u : xU} {s : Int32} (h : XSt (u.2 1)) (q : ¬ s_X6_isStation u s = 0) : XS1 s := xisS (u := u) (w := u) h q
theorem xsup {s N : Int32} (h : 1 ≤ s.toInt) (hN : XSt N) (q : ¬ N < s) : XS1 s := by
  rw [fa_lt] at q
  exact ⟨h, by have := hN.2; omega⟩
theorem xs1u {s N : Int32} (h : 1 ≤ s.toInt) (hN : XSt N) (q : ¬ N < s) : 1 ≤ (s + 1).toInt := by
  rw [fa_lt] at q
  have := hN.2
  rw [xinc (by omega)]
  omega
theorem xstl {N : Int32} (h : XSt N) : N.toInt < 2147483647 := by
  have := h.2
  omega
def s_X6_needAt (u : xU) (p1 : Int32) (p2 : Int32) : Int32 :=
  ((p2 * p2) * (s_X6_abs u (u.1 3 p1.toNatClampNeg))) / 1000
abbrev rm_X6_needAt : Room := { frames := 1, cells := 0, slots := 0, locals := 20 }
set_option maxHeartbeats 8000000 in
set_option maxRecDepth 100000 in
theorem c_X6_needAt (l : Launch) (E : xG) (a : Nat → Nat) (u : xU) (p1 : Int32) (p2 : Int32) (hp0 : XSt p1) : xRo l E yX6_needAt wsX6_needAt rm_X6_needAt [.ref (a 0), .int p1, .int p2] (wM E a u) (some (.int (s_X6_needAt u p1 p2))) := by
  refine xRo.of (cc := cX6_needAt) (maxL := 3) (ret := (some .int)) (by decide) rfl (Nat.le_of_ble_eq_true rfl) ?_
  intro p e s m below meth c ls hAt hF hP hS hl
  obtain ⟨hx, hb, hr, hml, hown, hts, hlocks, -⟩ := hAt
  have hown : s.vm.findClass RX6 = some m.cls := hown
  have hl : lv_has ls 3 [(0, .ref (a 0)), (1, .int p1), (2, .int p2)] := hl
  have hK := hF.1
  have hA : ∀ q : Nat, (fun _ => False) q → xA0 E q := fun _ h => h.elim
  change W p l e rm_X6_needAt s m ([.ref (a 0), .int p1, .int p2] : List Value).toArray below meth c s.heap [] 0 0 (xQro below (some (.int (s_X6_needAt u p1 p2))) ([.ref (a 0), .int p1, .int p2] : List Value).toArray s) _
  have hR : s_X6_needAt u p1 p2 = s_X6_needAt u p1 p2 := rfl
  refine lv_iload_n hx hb dX6_needAt_0 rfl (lv_at hl 2 rfl) ?_
  refine lv_iload_n hx hb dX6_needAt_1 rfl (lv_at hl 2 rfl) ?_
  refine lv_imul hx hb dX6_needAt_2 ?_
  refine lv_aload_n hx hb dX6_needAt_3 rfl (lv_at hl 0 rfl) ?_
  refine va_get (D := xD E) (ci := 6) (v := .ref (a 3)) (C := RX6) (T := TX6) (N := 28) hx hb hts (by decide +kernel) hown hK hP 0 rfl rfl 3 (by decide) (hts (.fieldLink RX6 18 "RailOffsetsModel" "versine" "[I") (by decide +kernel)) (fun _ h => h) rfl dX6_needAt_4 ?_
  refine lv_iload_n hx hb dX6_needAt_7 rfl (lv_at hl 1 rfl) ?_
  refine va_iald hx hb hK hP 3 0 rfl rfl (xvst hp0) dX6_needAt_8 ?_
  refine xRoS (nL := 3) ⟨hx, hb, hml, hown, hts⟩ (c_X6_abs l E a u (u.1 3 p1.toNatClampNeg)) (va_cwS 1 hts gX6_needAt_X6_abs rfl rfl rfl hd_X6_abs ⟨(Nat.le_of_ble_eq_true rfl), (Nat.le_of_ble_eq_true rfl)⟩) hF hS hA hP rfl hl.1 rfl (Nat.le_of_ble_eq_true rfl) ⟨(Nat.le_of_ble_eq_true rfl), (Nat.le_of_ble_eq_true rfl)⟩ dX6_needAt_9 ?_
  refine W.eq (g2 := F0 m 12 ls [.int (s_X6_abs u (u.1 3 p1.toNatClampNeg)), .int (p2 * p2)]) rfl ?_
  refine lv_imul hx hb dX6_needAt_12 ?_
  refine lv_sipush (v := 1000) hx hb dX6_needAt_13 rfl ?_
  refine lv_idiv hx hb dX6_needAt_16 (by decide) ?_
  have hR : s_X6_needAt u p1 p2 = ((p2 * p2) * (s_X6_abs u (u.1 3 p1.toNatClampNeg))) / 1000 := hR
  exact W.iret (v := ((p2 * p2) * (s_X6_abs u (u.1 3 p1.toNatClampNeg))) / 1000) hx hb hr (fun t ht _ => ⟨congrArg (fun z => Outcome.returned (some (Value.int z))) hR.symm, ht⟩) (fun _ h => by cases h) dX6_needAt_17
def s_X6_lacks (u : xU) (p1 : Int32) (p2 : Int32) : Int32 :=
  if ((s_X6_needAt u p1 p2) - (u.1 4 p1.toNatClampNeg)) ≤ (s_X6_rule u 1) then
    0
  else
    1
abbrev rm_X6_lacks : Room := { frames := 2, cells := 0, slots := 0, locals := 42 }
set_option maxHeartbeats 8000000 in
set_option maxRecDepth 100000 in
theorem c_X6_lacks (l : Launch) (E : xG) (a : Nat → Nat) (u : xU) (p1 : Int32) (p2 : Int32) (hp0 : XSt p1) : xRo l E yX6_lacks wsX6_lacks rm_X6_lacks [.ref (a 0), .int p1, .int p2] (wM E a u) (some (.int (s_X6_lacks u p1 p2))) := by
  refine xRo.of (cc := cX6_lacks) (maxL := 3) (ret := (some .boolean)) (by decide) rfl (Nat.le_of_ble_eq_true rfl) ?_
  intro p e s m below meth c ls hAt hF hP hS hl
  obtain ⟨hx, hb, hr, hml, hown, hts, hlocks, -⟩ := hAt
  have hown : s.vm.findClass RX6 = some m.cls := hown
  have hl : lv_has ls 3 [(0, .ref (a 0)), (1, .int p1), (2, .int p2)] := hl
  have hK := hF.1
  have hA : ∀ q : Nat, (fun _ => False) q → xA0 E q := fun _ h => h.elim
  change W p l e rm_X6_lacks s m ([.ref (a 0), .int p1, .int p2] : List Value).toArray below meth c s.heap [] 0 0 (xQro below (some (.int (s_X6_lacks u p1 p2))) ([.ref (a 0), .int p1, .int p2] : List Value).toArray s) _
  have hR : s_X6_lacks u p1 p2 = s_X6_lacks u p1 p2 := rfl
  refine lv_aload_n hx hb dX6_lacks_0 rfl (lv_at hl 0 rfl) ?_
  refine lv_iload_n hx hb dX6_lacks_1 rfl (lv_at hl 1 rfl) ?_
  refine lv_iload_n hx hb dX6_lacks_2 rfl (lv_at hl 2 rfl) ?_
  refine xRoV (nL := 3) ⟨hx, hb, hml, hown, hts⟩ (c_X6_needAt l E a u p1 p2 (hp0)) (cwV 2 hts gX6_lacks_X6_needAt rfl rfl rfl ⟨rfl, hd_X6_needAt⟩ ⟨(Nat.le_of_ble_eq_true rfl), (Nat.le_of_ble_eq_true rfl)⟩) hF hS hA hP (va_recv (q := (RX6, TX6, 28)) hK hP (ci := 6) rfl (q0 := 0) rfl) rfl hl.1 rfl (Nat.le_of_ble_eq_true rfl) ⟨(Nat.le_of_ble_eq_true rfl), (Nat.le_of_ble_eq_true rfl)⟩ dX6_lacks_3 ?_
  refine W.eq (g2 := F0 m 6 ls [.int (s_X6_needAt u p1 p2)]) rfl ?_
  refine lv_aload_n hx hb dX6_lacks_6 rfl (lv_at hl 0 rfl) ?_
  refine va_get (D := xD E) (ci := 6) (v := .ref (a 4)) (C := RX6) (T := TX6) (N := 28) hx hb hts (by decide +kernel) hown hK hP 0 rfl rfl 4 (by decide) (hts (.fieldLink RX6 21 "RailOffsetsModel" "height" "[I") (by decide +kernel)) (fun _ h => h) rfl dX6_lacks_7 ?_
  refine lv_iload_n hx hb dX6_lacks_10 rfl (lv_at hl 1 rfl) ?_
  refine va_iald hx hb hK hP 4 0 rfl rfl (xvst hp0) dX6_lacks_11 ?_
  refine lv_isub hx hb dX6_lacks_12 ?_
  refine lv_aload_n hx hb dX6_lacks_13 rfl (lv_at hl 0 rfl) ?_
  refine lv_iconst (v := 1) hx hb dX6_lacks_14 rfl ?_
  refine xRoV (nL := 3) ⟨hx, hb, hml, hown, hts⟩ (c_X6_rule l E a u 1 (xrul (by decide) (by decide))) (cwV 1 hts gX6_lacks_X6_rule rfl rfl rfl ⟨rfl, hd_X6_rule⟩ ⟨(Nat.le_of_ble_eq_true rfl), (Nat.le_of_ble_eq_true rfl)⟩) hF hS hA hP (va_recv (q := (RX6, TX6, 28)) hK hP (ci := 6) rfl (q0 := 0) rfl) rfl hl.1 rfl (Nat.le_of_ble_eq_true rfl) ⟨(Nat.le_of_ble_eq_true rfl), (Nat.le_of_ble_eq_true rfl)⟩ dX6_lacks_15 ?_
  refine W.eq (g2 := F0 m 18 ls [.int (s_X6_rule u 1), .int ((s_X6_needAt u p1 p2) - (u.1 4 p1.toNatClampNeg))]) rfl ?_
  refine lv_icmp_le (tgt := 25) hx hb dX6_lacks_18 rfl (fun q1 => ?_) (fun q1 => ?_)
  · have hR := hR.trans (if_pos q1)
    refine lv_iconst (v := 0) hx hb dX6_lacks_25 rfl ?_
    have hR : s_X6_lacks u p1 p2 = 0 := hR
    exact W.zret (v := 0) (ty := .boolean) hx hb hr (xnb (Or.inl rfl)) (fun t ht _ => ⟨congrArg (fun z => Outcome.returned (some (Value.int z))) hR.symm, ht⟩) (fun _ h => by cases h) dX6_lacks_26
  · have hR := hR.trans (if_neg q1)
    refine lv_iconst (v := 1) hx hb dX6_lacks_21 rfl ?_
    refine lv_goto (tgt := 26) hx hb dX6_lacks_22 rfl ?_
    have hR : s_X6_lacks u p1 p2 = 1 := hR
    exact W.zret (v := 1) (ty := .boolean) hx hb hr (xnb (Or.inr rfl)) (fun t ht _ => ⟨congrArg (fun z => Outcome.returned (some (Value.int z))) hR.symm, ht⟩) (fun _ h => by cases h) dX6_lacks_26
def s_X6_isHigh (u : xU) (p1 : Int32) (p2 : Int32) : Int32 :=
  if ((u.1 4 p1.toNatClampNeg) - (s_X6_needAt u p1 p2)) ≤ (s_X6_rule u 2) then
    0
  else
    1
abbrev rm_X6_isHigh : Room := { frames := 2, cells := 0, slots := 0, locals := 42 }
set_option maxHeartbeats 8000000 in
set_option maxRecDepth 100000 in
theorem c_X6_isHigh (l : Launch) (E : xG) (a : Nat → Nat) (u : xU) (p1 : Int32) (p2 : Int32) (hp0 : XSt p1) : xRo l E yX6_isHigh wsX6_isHigh rm_X6_isHigh [.ref (a 0), .int p1, .int p2] (wM E a u) (some (.int (s_X6_isHigh u p1 p2))) := by
  refine xRo.of (cc := cX6_isHigh) (maxL := 3) (ret := (some .boolean)) (by decide) rfl (Nat.le_of_ble_eq_true rfl) ?_
  intro p e s m below meth c ls hAt hF hP hS hl
  obtain ⟨hx, hb, hr, hml, hown, hts, hlocks, -⟩ := hAt
  have hown : s.vm.findClass RX6 = some m.cls := hown
  have hl : lv_has ls 3 [(0, .ref (a 0)), (1, .int p1), (2, .int p2)] := hl
  have hK := hF.1
  have hA : ∀ q : Nat, (fun _ => False) q → xA0 E q := fun _ h => h.elim
  change W p l e rm_X6_isHigh s m ([.ref (a 0), .int p1, .int p2] : List Value).toArray below meth c s.heap [] 0 0 (xQro below (some (.int (s_X6_isHigh u p1 p2))) ([.ref (a 0), .int p1, .int p2] : List Value).toArray s) _
  have hR : s_X6_isHigh u p1 p2 = s_X6_isHigh u p1 p2 := rfl
  refine lv_aload_n hx hb dX6_isHigh_0 rfl (lv_at hl 0 rfl) ?_
  refine va_get (D := xD E) (ci := 6) (v := .ref (a 4)) (C := RX6) (T := TX6) (N := 28) hx hb hts (by decide +kernel) hown hK hP 0 rfl rfl 4 (by decide) (hts (.fieldLink RX6 21 "RailOffsetsModel" "height" "[I") (by decide +kernel)) (fun _ h => h) rfl dX6_isHigh_1 ?_
  refine lv_iload_n hx hb dX6_isHigh_4 rfl (lv_at hl 1 rfl) ?_
  refine va_iald hx hb hK hP 4 0 rfl rfl (xvst hp0) dX6_isHigh_5 ?_
  refine lv_aload_n hx hb dX6_isHigh_6 rfl (lv_at hl 0 rfl) ?_
  refine lv_iload_n hx hb dX6_isHigh_7 rfl (lv_at hl 1 rfl) ?_
  refine lv_iload_n hx hb dX6_isHigh_8 rfl (lv_at hl 2 rfl) ?_
  refine xRoV (nL := 3) ⟨hx, hb, hml, hown, hts⟩ (c_X6_needAt l E a u p1 p2 (hp0)) (cwV 2 hts gX6_isHigh_X6_needAt rfl rfl rfl ⟨rfl, hd_X6_needAt⟩ ⟨(Nat.le_of_ble_eq_true rfl), (Nat.le_of_ble_eq_true rfl)⟩) hF hS hA hP (va_recv (q := (RX6, TX6, 28)) hK hP (ci := 6) rfl (q0 := 0) rfl) rfl hl.1 rfl (Nat.le_of_ble_eq_true rfl) ⟨(Nat.le_of_ble_eq_true rfl), (Nat.le_of_ble_eq_true rfl)⟩ dX6_isHigh_9 ?_
  refine W.eq (g2 := F0 m 12 ls [.int (s_X6_needAt u p1 p2), .int (u.1 4 p1.toNatClampNeg)]) rfl ?_
  refine lv_isub hx hb dX6_isHigh_12 ?_
  refine lv_aload_n hx hb dX6_isHigh_13 rfl (lv_at hl 0 rfl) ?_
  refine lv_iconst (v := 2) hx hb dX6_isHigh_14 rfl ?_
  refine xRoV (nL := 3) ⟨hx, hb, hml, hown, hts⟩ (c_X6_rule l E a u 2 (xrul (by decide) (by decide))) (cwV 1 hts gX6_isHigh_X6_rule rfl rfl rfl ⟨rfl, hd_X6_rule⟩ ⟨(Nat.le_of_ble_eq_true rfl), (Nat.le_of_ble_eq_true rfl)⟩) hF hS hA hP (va_recv (q := (RX6, TX6, 28)) hK hP (ci := 6) rfl (q0 := 0) rfl) rfl hl.1 rfl (Nat.le_of_ble_eq_true rfl) ⟨(Nat.le_of_ble_eq_true rfl), (Nat.le_of_ble_eq_true rfl)⟩ dX6_isHigh_15 ?_
  refine W.eq (g2 := F0 m 18 ls [.int (s_X6_rule u 2), .int ((u.1 4 p1.toNatClampNeg) - (s_X6_needAt u p1 p2))]) rfl ?_
  refine lv_icmp_le (tgt := 25) hx hb dX6_isHigh_18 rfl (fun q1 => ?_) (fun q1 => ?_)
  · have hR := hR.trans (if_pos q1)
    refine lv_iconst (v := 0) hx hb dX6_isHigh_25 rfl ?_
    have hR : s_X6_isHigh u p1 p2 = 0 := hR
    exact W.zret (v := 0) (ty := .boolean) hx hb hr (xnb (Or.inl rfl)) (fun t ht _ => ⟨congrArg (fun z => Outcome.returned (some (Value.int z))) hR.symm, ht⟩) (fun _ h => by cases h) dX6_isHigh_26
  · have hR := hR.trans (if_neg q1)
    refine lv_iconst (v := 1) hx hb dX6_isHigh_21 rfl ?_
    refine lv_goto (tgt := 26) hx hb dX6_isHigh_22 rfl ?_
    have hR : s_X6_isHigh u p1 p2 = 1 := hR
    exact W.zret (v := 1) (ty := .boolean) hx hb hr (xnb (Or.inr rfl)) (fun t ht _ => ⟨congrArg (fun z => Outcome.returned (some (Value.int z))) hR.symm, ht⟩) (fun _ h => by cases h) dX6_isHigh_26
def s_X6_isSteep (u : xU) (p1 : Int32) : Int32 :=
  if (s_X6_abs u ((u.1 4 p1.toNatClampNeg) - (u.1 4 (p1 - 1).toNatClampNeg))) ≤ (s_X6_rule u 3) then
    0
  else
    1
abbrev rm_X6_isSteep : Room := { frames := 1, cells := 0, slots := 0, locals := 21 }
set_option maxHeartbeats 8000000 in
set_option maxRecDepth 100000 in
theorem c_X6_isSteep (l : Launch) (E : xG) (a : Nat → Nat) (u : xU) (p1 : Int32) (hp0 : XS1 p1) : xRo l E yX6_isSteep wsX6_isSteep rm_X6_isSteep [.ref (a 0), .int p1] (wM E a u) (some (.int (s_X6_isSteep u p1))) := by
  refine xRo.of (cc := cX6_isSteep) (maxL := 2) (ret := (some .boolean)) (by decide) rfl (Nat.le_of_ble_eq_true rfl) ?_
  intro p e s m below meth c ls hAt hF hP hS hl
  obtain ⟨hx, hb, hr, hml, hown, hts, hlocks, -⟩ := hAt
  have hown : s.vm.findClass RX6 = some m.cls := hown
  have hl : lv_has ls 2 [(0, .ref (a 0)), (1, .int p1)] := hl
  have hK := hF.1
  have hA : ∀ q : Nat, (fun _ => False) q → xA0 E q := fun _ h => h.elim
  change W p l e rm_X6_isSteep s m ([.ref (a 0), .int p1] : List Value).toArray below meth c s.heap [] 0 0 (xQro below (some (.int (s_X6_isSteep u p1))) ([.ref (a 0), .int p1] : List Value).toArray s) _
  have hR : s_X6_isSteep u p1 = s_X6_isSteep u p1 := rfl
  refine lv_aload_n hx hb dX6_isSteep_0 rfl (lv_at hl 0 rfl) ?_
  refine va_get (D := xD E) (ci := 6) (v := .ref (a 4)) (C := RX6) (T := TX6) (N := 28) hx hb hts (by decide +kernel) hown hK hP 0 rfl rfl 4 (by decide) (hts (.fieldLink RX6 21 "RailOffsetsModel" "height" "[I") (by decide +kernel)) (fun _ h => h) rfl dX6_isSteep_1 ?_
  refine lv_iload_n hx hb dX6_isSteep_4 rfl (lv_at hl 1 rfl) ?_
  refine va_iald hx hb hK hP 4 0 rfl rfl (xvst hp0.st) dX6_isSteep_5 ?_
  refine lv_aload_n hx hb dX6_isSteep_6 rfl (lv_at hl 0 rfl) ?_
  refine va_get (D := xD E) (ci := 6) (v := .ref (a 4)) (C := RX6) (T := TX6) (N := 28) hx hb hts (by decide +kernel) hown hK hP 0 rfl rfl 4 (by decide) (hts (.fieldLink RX6 21 "RailOffsetsModel" "height" "[I") (by decide +kernel)) (fun _ h => h) rfl dX6_isSteep_7 ?_
  refine lv_iload_n hx hb dX6_isSteep_10 rfl (lv_at hl 1 rfl) ?_
  refine lv_iconst (v := 1) hx hb dX6_isSteep_11 rfl ?_
  refine lv_isub hx hb dX6_isSteep_12 ?_
  refine va_iald hx hb hK hP 4 0 rfl rfl (xvs1 hp0) dX6_isSteep_13 ?_
  refine lv_isub hx hb dX6_isSteep_14 ?_
  refine xRoS (nL := 2) ⟨hx, hb, hml, hown, hts⟩ (c_X6_abs l E a u ((u.1 4 p1.toNatClampNeg) - (u.1 4 (p1 - 1).toNatClampNeg))) (va_cwS 1 hts gX6_isSteep_X6_abs rfl rfl rfl hd_X6_abs ⟨(Nat.le_of_ble_eq_true rfl), (Nat.le_of_ble_eq_true rfl)⟩) hF hS hA hP rfl hl.1 rfl (Nat.le_of_ble_eq_true rfl) ⟨(Nat.le_of_ble_eq_true rfl), (Nat.le_of_ble_eq_true rfl)⟩ dX6_isSteep_15 ?_
  refine W.eq (g2 := F0 m 18 ls [.int (s_X6_abs u ((u.1 4 p1.toNatClampNeg) - (u.1 4 (p1 - 1).toNatClampNeg)))]) rfl ?_
  refine lv_aload_n hx hb dX6_isSteep_18 rfl (lv_at hl 0 rfl) ?_
  refine lv_iconst (v := 3) hx hb dX6_isSteep_19 rfl ?_
  refine xRoV (nL := 2) ⟨hx, hb, hml, hown, hts⟩ (c_X6_rule l E a u 3 (xrul (by decide) (by decide))) (cwV 1 hts gX6_isSteep_X6_rule rfl rfl rfl ⟨rfl, hd_X6_rule⟩ ⟨(Nat.le_of_ble_eq_true rfl), (Nat.le_of_ble_eq_true rfl)⟩) hF hS hA hP (va_recv (q := (RX6, TX6, 28)) hK hP (ci := 6) rfl (q0 := 0) rfl) rfl hl.1 rfl (Nat.le_of_ble_eq_true rfl) ⟨(Nat.le_of_ble_eq_true rfl), (Nat.le_of_ble_eq_true rfl)⟩ dX6_isSteep_20 ?_
  refine W.eq (g2 := F0 m 23 ls [.int (s_X6_rule u 3), .int (s_X6_abs u ((u.1 4 p1.toNatClampNeg) - (u.1 4 (p1 - 1).toNatClampNeg)))]) rfl ?_
  refine lv_icmp_le (tgt := 30) hx hb dX6_isSteep_23 rfl (fun q1 => ?_) (fun q1 => ?_)
  · have hR := hR.trans (if_pos q1)
    refine lv_iconst (v := 0) hx hb dX6_isSteep_30 rfl ?_
    have hR : s_X6_isSteep u p1 = 0 := hR
    exact W.zret (v := 0) (ty := .boolean) hx hb hr (xnb (Or.inl rfl)) (fun t ht _ => ⟨congrArg (fun z => Outcome.returned (some (Value.int z))) hR.symm, ht⟩) (fun _ h => by cases h) dX6_isSteep_31
  · have hR := hR.trans (if_neg q1)
    refine lv_iconst (v := 1) hx hb dX6_isSteep_26 rfl ?_
    refine lv_goto (tgt := 31) hx hb dX6_isSteep_27 rfl ?_
    have hR : s_X6_isSteep u p1 = 1 := hR
    exact W.zret (v := 1) (ty := .boolean) hx hb hr (xnb (Or.inr rfl)) (fun t ht _ => ⟨congrArg (fun z => Outcome.returned (some (Value.int z))) hR.symm, ht⟩) (fun _ h => by cases h) dX6_isSteep_31
def s_X6_need (u : xU) (p1 : Int32) (p2 : Int32) : Int32 × xU :=
  if (s_X6_isStation (s_X6_lays u) p1) = 0 then
    ((-2), s_X6_lays u)
  else
    if (s_X6_in (s_X6_lays u) p2.toInt64 0 3) = 0 then
      ((-2), s_X6_lays u)
    else
      if p2 = 0 then
        (s_X6_needAt (s_X6_lays u) p1 (s_X6_rule (s_X6_lays u) 5), s_X6_lays u)
      else
        if p2 = 1 then
          (s_X6_bit (s_X6_lays u) (s_X6_lacks (s_X6_lays u) p1 (s_X6_rule (s_X6_lays u) 5)), s_X6_lays u)
        else
          if p2 = 2 then
            (s_X6_bit (s_X6_lays u) (s_X6_isHigh (s_X6_lays u) p1 (s_X6_rule (s_X6_lays u) 5)), s_X6_lays u)
          else
            (s_X6_bit (s_X6_lays u) (s_X6_isSteep (s_X6_lays u) p1), s_X6_lays u)
abbrev rm_X6_need : Room := { frames := 3, cells := 0, slots := 0, locals := 64 }
set_option maxHeartbeats 8000000 in
set_option maxRecDepth 100000 in
theorem c_X6_need (l : Launch) (E : xG) (a : Nat → Nat) (u : xU) (p1 : Int32) (p2 : Int32) (hp0 : XW u) (hL : xOK E (LM a)) : xMd l E yX6_need wsX6_need rm_X6_need (LM a) [.ref (a 0), .int p1, .int p2] (wM E a u) (some (.int ((s_X6_need u p1 p2).1))) (wM E a ((s_X6_need u p1 p2).2)) := by
  refine xMd.of (cc := cX6_need) (maxL := 4) (ret := (some .int)) (by decide) rfl (Nat.le_of_ble_eq_true rfl) ?_
  intro p e s m below meth c ls hAt hF hP hS hl
  obtain ⟨hx, hb, hr, hml, hown, hts, hlocks, -⟩ := hAt
  have hown : s.vm.findClass RX6 = some m.cls := hown
  have hl : lv_has ls 4 [(0, .ref (a 0)), (1, .int p1), (2, .int p2)] := hl
  have hK := hF.1
  have hA := hL.2
  change W p l e rm_X6_need s m ([.ref (a 0), .int p1, .int p2] : List Value).toArray below meth c s.heap [] 0 0 (xQmd E below (LM a) (some (.int ((s_X6_need u p1 p2).1))) (wM E a ((s_X6_need u p1 p2).2)) ([.ref (a 0), .int p1, .int p2] : List Value).toArray s) _
  have hS : va_S (· ∈ LM a) s.heap s.heap [] := hS
  have hR : s_X6_need u p1 p2 = s_X6_need u p1 p2 := rfl
  refine lv_aload_n hx hb dX6_need_0 rfl (lv_at hl 0 rfl) ?_
  refine xMdV (nL := 4) ⟨hx, hb, hml, hown, hts⟩ (c_X6_lays l E a u  (hp0) hL) (cwV 0 hts gX6_need_X6_lays rfl rfl rfl ⟨rfl, hd_X6_lays⟩ ⟨(Nat.le_of_ble_eq_true rfl), (Nat.le_of_ble_eq_true rfl)⟩) hF hS hL.2 (fun _ h => h) hP (va_recv (q := (RX6, TX6, 28)) hK hP (ci := 6) rfl (q0 := 0) rfl) rfl hl.1 rfl (Nat.le_of_ble_eq_true rfl) ⟨(Nat.le_of_ble_eq_true rfl), (Nat.le_of_ble_eq_true rfl)⟩ dX6_need_1 (fun H locs hP _ hS => ?_)
  refine W.eq (g2 := F0 m 4 ls []) rfl ?_
  refine lv_aload_n hx hb dX6_need_4 rfl (lv_at hl 0 rfl) ?_
  refine lv_iload_n hx hb dX6_need_5 rfl (lv_at hl 1 rfl) ?_
  refine xRoV (nL := 4) ⟨hx, hb, hml, hown, hts⟩ (c_X6_isStation l E a (s_X6_lays u) p1) (cwV 1 hts gX6_need_X6_isStation rfl rfl rfl ⟨rfl, hd_X6_isStation⟩ ⟨(Nat.le_of_ble_eq_true rfl), (Nat.le_of_ble_eq_true rfl)⟩) hF hS hA hP (va_recv (q := (RX6, TX6, 28)) hK hP (ci := 6) rfl (q0 := 0) rfl) rfl hl.1 rfl (Nat.le_of_ble_eq_true rfl) ⟨(Nat.le_of_ble_eq_true rfl), (Nat.le_of_ble_eq_true rfl)⟩ dX6_need_6 ?_
  refine W.eq (g2 := F0 m 9 ls [.int (s_X6_isStation (s_X6_lays u) p1)]) rfl ?_
  refine lv_if_eq (tgt := 24) hx hb dX6_need_9 rfl (fun q1 => ?_) (fun q1 => ?_)
  · have hR := hR.trans (if_pos q1)
    refine lv_bipush (v := (-2)) hx hb dX6_need_24 rfl ?_
    have hR : s_X6_need u p1 p2 = ((-2), s_X6_lays u) := hR
    exact W.iret (v := (-2)) hx hb hr (fun t ht _ => by rw [hR]; dsimp only; exact ⟨⟨rfl, by rw [ht]; exact hP⟩, hS.F ht⟩) hS.2.2 dX6_need_26
  · have hR := hR.trans (if_neg q1)
    refine lv_iload_n hx hb dX6_need_12 rfl (lv_at hl 2 rfl) ?_
    refine lv_i2l hx hb dX6_need_13 rfl ?_
    refine lv_lconst (v := 0) hx hb dX6_need_14 rfl ?_
    refine lv_ldc2 (v := 3) hx hb hown (hts (.constantLong RX6 89 (3)) (by decide +kernel)) dX6_need_15 ?_
    refine xRoS (nL := 4) ⟨hx, hb, hml, hown, hts⟩ (c_X6_in l E a (s_X6_lays u) p2.toInt64 0 3) (va_cwS 3 hts gX6_need_X6_in rfl rfl rfl hd_X6_in ⟨(Nat.le_of_ble_eq_true rfl), (Nat.le_of_ble_eq_true rfl)⟩) hF hS hA hP rfl hl.1 rfl (Nat.le_of_ble_eq_true rfl) ⟨(Nat.le_of_ble_eq_true rfl), (Nat.le_of_ble_eq_true rfl)⟩ dX6_need_18 ?_
    refine W.eq (g2 := F0 m 21 ls [.int (s_X6_in (s_X6_lays u) p2.toInt64 0 3)]) rfl ?_
    refine lv_if_ne (tgt := 27) hx hb dX6_need_21 rfl (fun q2 => ?_) (fun q2 => ?_)
    · have hR := hR.trans (if_neg q2)
      refine lv_aload_n hx hb dX6_need_27 rfl (lv_at hl 0 rfl) ?_
      refine lv_iconst (v := 5) hx hb dX6_need_28 rfl ?_
      refine xRoV (nL := 4) ⟨hx, hb, hml, hown, hts⟩ (c_X6_rule l E a (s_X6_lays u) 5 (xrul (by decide) (by decide))) (cwV 1 hts gX6_need_X6_rule rfl rfl rfl ⟨rfl, hd_X6_rule⟩ ⟨(Nat.le_of_ble_eq_true rfl), (Nat.le_of_ble_eq_true rfl)⟩) hF hS hA hP (va_recv (q := (RX6, TX6, 28)) hK hP (ci := 6) rfl (q0 := 0) rfl) rfl hl.1 rfl (Nat.le_of_ble_eq_true rfl) ⟨(Nat.le_of_ble_eq_true rfl), (Nat.le_of_ble_eq_true rfl)⟩ dX6_need_29 ?_
      refine W.eq (g2 := F0 m 32 ls [.int (s_X6_rule (s_X6_lays u) 5)]) rfl ?_
      refine lv_istore_n (lv' := [(3, .int (s_X6_rule (s_X6_lays u) 5)), (0, .ref (a 0)), (1, .int p1), (2, .int p2)]) hx hb dX6_need_32 rfl hl (by decide) rfl (fun ls hl => ?_)
      refine lv_iload_n hx hb dX6_need_33 rfl (lv_at hl 3 rfl) ?_
      refine lv_if_ne (tgt := 46) hx hb dX6_need_34 rfl (fun q3 => ?_) (fun q3 => ?_)
      · have hR := hR.trans (if_neg q3)
        refine lv_iload_n hx hb dX6_need_46 rfl (lv_at hl 3 rfl) ?_
        refine lv_iconst (v := 1) hx hb dX6_need_47 rfl ?_
        refine lv_icmp_ne (tgt := 63) hx hb dX6_need_48 rfl (fun q4 => ?_) (fun q4 => ?_)
        · have hR := hR.trans (if_neg q4)
          refine lv_iload_n hx hb dX6_need_63 rfl (lv_at hl 3 rfl) ?_
          refine lv_iconst (v := 2) hx hb dX6_need_64 rfl ?_
          refine lv_icmp_ne (tgt := 80) hx hb dX6_need_65 rfl (fun q5 => ?_) (fun q5 => ?_)
          · have hR := hR.trans (if_neg q5)
            refine lv_aload_n hx hb dX6_need_80 rfl (lv_at hl 1 rfl) ?_
            refine lv_iload_n hx hb dX6_need_81 rfl (lv_at hl 2 rfl) ?_
            refine xRoV (nL := 4) ⟨hx, hb, hml, hown, hts⟩ (c_X6_isSteep l E a (s_X6_lays u) p1 (xisSt (xlays_st hp0) q1)) (cwV 1 hts gX6_need_X6_isSteep rfl rfl rfl ⟨rfl, hd_X6_isSteep⟩ ⟨(Nat.le_of_ble_eq_true rfl), (Nat.le_of_ble_eq_true rfl)⟩) hF hS hA hP (va_recv (q := (RX6, TX6, 28)) hK hP (ci := 6) rfl (q0 := 0) rfl) rfl hl.1 rfl (Nat.le_of_ble_eq_true rfl) ⟨(Nat.le_of_ble_eq_true rfl), (Nat.le_of_ble_eq_true rfl)⟩ dX6_need_82 ?_
            refine W.eq (g2 := F0 m 85 ls [.int (s_X6_isSteep (s_X6_lays u) p1)]) rfl ?_
            refine xRoS (nL := 4) ⟨hx, hb, hml, hown, hts⟩ (c_X6_bit l E a (s_X6_lays u) (s_X6_isSteep (s_X6_lays u) p1)) (va_cwS 1 hts gX6_need_X6_bit rfl rfl rfl hd_X6_bit ⟨(Nat.le_of_ble_eq_true rfl), (Nat.le_of_ble_eq_true rfl)⟩) hF hS hA hP rfl hl.1 rfl (Nat.le_of_ble_eq_true rfl) ⟨(Nat.le_of_ble_eq_true rfl), (Nat.le_of_ble_eq_true rfl)⟩ dX6_need_85 ?_
            refine W.eq (g2 := F0 m 88 ls [.int (s_X6_bit (s_X6_lays u) (s_X6_isSteep (s_X6_lays u) p1))]) rfl ?_
            have hR : s_X6_need u p1 p2 = (s_X6_bit (s_X6_lays u) (s_X6_isSteep (s_X6_lays u) p1), s_X6_lays u) := hR
            exact W.iret (v := s_X6_bit (s_X6_lays u) (s_X6_isSteep (s_X6_lays u) p1)) hx hb hr (fun t ht _ => by rw [hR]; dsimp only; exact ⟨⟨rfl, by rw [ht]; exact hP⟩, hS.F ht⟩) hS.2.2 dX6_need_88
          · have hR := hR.trans (if_pos q5)
            refine lv_aload_n hx hb dX6_need_68 rfl (lv_at hl 1 rfl) ?_
            refine lv_iload_n hx hb dX6_need_69 rfl (lv_at hl 2 rfl) ?_
            refine lv_iload_n hx hb dX6_need_70 rfl (lv_at hl 0 rfl) ?_
            refine xRoV (nL := 4) ⟨hx, hb, hml, hown, hts⟩ (c_X6_isHigh l E a (s_X6_lays u) p1 (s_X6_rule (s_X6_lays u) 5) ((xisSt (xlays_st hp0) q1).st)) (cwV 2 hts gX6_need_X6_isHigh rfl rfl rfl ⟨rfl, hd_X6_isHigh⟩ ⟨(Nat.le_of_ble_eq_true rfl), (Nat.le_of_ble_eq_true rfl)⟩) hF hS hA hP (va_recv (q := (RX6, TX6, 28)) hK hP (ci := 6) rfl (q0 := 0) rfl) rfl hl.1 rfl (Nat.le_of_ble_eq_true rfl) ⟨(Nat.le_of_ble_eq_true rfl), (Nat.le_of_ble_eq_true rfl)⟩ dX6_need_71 ?_
            refine W.eq (g2 := F0 m 74 ls [.int (s_X6_isHigh (s_X6_lays u) p1 (s_X6_rule (s_X6_lays u) 5))]) rfl ?_
            refine xRoS (nL := 4) ⟨hx, hb, hml, hown, hts⟩ (c_X6_bit l E a (s_X6_lays u) (s_X6_isHigh (s_X6_lays u) p1 (s_X6_rule (s_X6_lays u) 5))) (va_cwS 1 hts gX6_need_X6_bit rfl rfl rfl hd_X6_bit ⟨(Nat.le_of_ble_eq_true rfl), (Nat.le_of_ble_eq_true rfl)⟩) hF hS hA hP rfl hl.1 rfl (Nat.le_of_ble_eq_true rfl) ⟨(Nat.le_of_ble_eq_true rfl), (Nat.le_of_ble_eq_true rfl)⟩ dX6_need_74 ?_
            refine W.eq (g2 := F0 m 77 ls [.int (s_X6_bit (s_X6_lays u) (s_X6_isHigh (s_X6_lays u) p1 (s_X6_rule (s_X6_lays u) 5)))]) rfl ?_
            refine lv_goto (tgt := 88) hx hb dX6_need_77 rfl ?_
            have hR : s_X6_need u p1 p2 = (s_X6_bit (s_X6_lays u) (s_X6_isHigh (s_X6_lays u) p1 (s_X6_rule (s_X6_lays u) 5)), s_X6_lays u) := hR
            exact W.iret (v := s_X6_bit (s_X6_lays u) (s_X6_isHigh (s_X6_lays u) p1 (s_X6_rule (s_X6_lays u) 5))) hx hb hr (fun t ht _ => by rw [hR]; dsimp only; exact ⟨⟨rfl, by rw [ht]; exact hP⟩, hS.F ht⟩) hS.2.2 dX6_need_88
        · have hR := hR.trans (if_pos q4)
          refine lv_aload_n hx hb dX6_need_51 rfl (lv_at hl 1 rfl) ?_
          refine lv_iload_n hx hb dX6_need_52 rfl (lv_at hl 2 rfl) ?_
          refine lv_iload_n hx hb dX6_need_53 rfl (lv_at hl 0 rfl) ?_
          refine xRoV (nL := 4) ⟨hx, hb, hml, hown, hts⟩ (c_X6_lacks l E a (s_X6_lays u) p1 (s_X6_rule (s_X6_lays u) 5) ((xisSt (xlays_st hp0) q1).st)) (cwV 2 hts gX6_need_X6_lacks rfl rfl rfl ⟨rfl, hd_X6_lacks⟩ ⟨(Nat.le_of_ble_eq_true rfl), (Nat.le_of_ble_eq_true rfl)⟩) hF hS hA hP (va_recv (q := (RX6, TX6, 28)) hK hP (ci := 6) rfl (q0 := 0) rfl) rfl hl.1 rfl (Nat.le_of_ble_eq_true rfl) ⟨(Nat.le_of_ble_eq_true rfl), (Nat.le_of_ble_eq_true rfl)⟩ dX6_need_54 ?_
          refine W.eq (g2 := F0 m 57 ls [.int (s_X6_lacks (s_X6_lays u) p1 (s_X6_rule (s_X6_lays u) 5))]) rfl ?_
          refine xRoS (nL := 4) ⟨hx, hb, hml, hown, hts⟩ (c_X6_bit l E a (s_X6_lays u) (s_X6_lacks (s_X6_lays u) p1 (s_X6_rule (s_X6_lays u) 5))) (va_cwS 1 hts gX6_need_X6_bit rfl rfl rfl hd_X6_bit ⟨(Nat.le_of_ble_eq_true rfl), (Nat.le_of_ble_eq_true rfl)⟩) hF hS hA hP rfl hl.1 rfl (Nat.le_of_ble_eq_true rfl) ⟨(Nat.le_of_ble_eq_true rfl), (Nat.le_of_ble_eq_true rfl)⟩ dX6_need_57 ?_
          refine W.eq (g2 := F0 m 60 ls [.int (s_X6_bit (s_X6_lays u) (s_X6_lacks (s_X6_lays u) p1 (s_X6_rule (s_X6_lays u) 5)))]) rfl ?_
          refine lv_goto (tgt := 88) hx hb dX6_need_60 rfl ?_
          have hR : s_X6_need u p1 p2 = (s_X6_bit (s_X6_lays u) (s_X6_lacks (s_X6_lays u) p1 (s_X6_rule (s_X6_lays u) 5)), s_X6_lays u) := hR
          exact W.iret (v := s_X6_bit (s_X6_lays u) (s_X6_lacks (s_X6_lays u) p1 (s_X6_rule (s_X6_lays u) 5))) hx hb hr (fun t ht _ => by rw [hR]; dsimp only; exact ⟨⟨rfl, by rw [ht]; exact hP⟩, hS.F ht⟩) hS.2.2 dX6_need_88
      · have hR := hR.trans (if_pos q3)
        refine lv_aload_n hx hb dX6_need_37 rfl (lv_at hl 1 rfl) ?_
        refine lv_iload_n hx hb dX6_need_38 rfl (lv_at hl 2 rfl) ?_
        refine lv_iload_n hx hb dX6_need_39 rfl (lv_at hl 0 rfl) ?_
        refine xRoV (nL := 4) ⟨hx, hb, hml, hown, hts⟩ (c_X6_needAt l E a (s_X6_lays u) p1 (s_X6_rule (s_X6_lays u) 5) ((xisSt (xlays_st hp0) q1).st)) (cwV 2 hts gX6_need_X6_needAt rfl rfl rfl ⟨rfl, hd_X6_needAt⟩ ⟨(Nat.le_of_ble_eq_true rfl), (Nat.le_of_ble_eq_true rfl)⟩) hF hS hA hP (va_recv (q := (RX6, TX6, 28)) hK hP (ci := 6) rfl (q0 := 0) rfl) rfl hl.1 rfl (Nat.le_of_ble_eq_true rfl) ⟨(Nat.le_of_ble_eq_true rfl), (Nat.le_of_ble_eq_true rfl)⟩ dX6_need_40 ?_
        refine W.eq (g2 := F0 m 43 ls [.int (s_X6_needAt (s_X6_lays u) p1 (s_X6_rule (s_X6_lays u) 5))]) rfl ?_
        refine lv_goto (tgt := 88) hx hb dX6_need_43 rfl ?_
        have hR : s_X6_need u p1 p2 = (s_X6_needAt (s_X6_lays u) p1 (s_X6_rule (s_X6_lays u) 5), s_X6_lays u) := hR
        exact W.iret (v := s_X6_needAt (s_X6_lays u) p1 (s_X6_rule (s_X6_lays u) 5)) hx hb hr (fun t ht _ => by rw [hR]; dsimp only; exact ⟨⟨rfl, by rw [ht]; exact hP⟩, hS.F ht⟩) hS.2.2 dX6_need_88
    · have hR := hR.trans (if_pos q2)
      refine lv_bipush (v := (-2)) hx hb dX6_need_24 rfl ?_
      have hR : s_X6_need u p1 p2 = ((-2), s_X6_lays u) := hR
      exact W.iret (v := (-2)) hx hb hr (fun t ht _ => by rw [hR]; dsimp only; exact ⟨⟨rfl, by rw [ht]; exact hP⟩, hS.F ht⟩) hS.2.2 dX6_need_26
def s_X6_why (u : xU) (p1 : Int32) : Int32 :=
  if (s_X6_lacks u p1 (s_X6_rule u 5)) = 0 then
    if (s_X6_isHigh u p1 (s_X6_rule u 5)) = 0 then
      if (s_X6_isSteep u p1) = 0 then
        0
      else
        3
    else
      2
  else
    1
abbrev rm_X6_why : Room := { frames := 3, cells := 0, slots := 0, locals := 64 }
set_option maxHeartbeats 8000000 in
set_option maxRecDepth 100000 in
theorem c_X6_why (l : Launch) (E : xG) (a : Nat → Nat) (u : xU) (p1 : Int32) (hp0 : XS1 p1) : xRo l E yX6_why wsX6_why rm_X6_why [.ref (a 0), .int p1] (wM E a u) (some (.int (s_X6_why u p1))) := by
  refine xRo.of (cc := cX6_why) (maxL := 3) (ret := (some .int)) (by decide) rfl (Nat.le_of_ble_eq_true rfl) ?_
  intro p e s m below meth c ls hAt hF hP hS hl
  obtain ⟨hx, hb, hr, hml, hown, hts, hlocks, -⟩ := hAt
  have hown : s.vm.findClass RX6 = some m.cls := hown
  have hl : lv_has ls 3 [(0, .ref (a 0)), (1, .int p1)] := hl
  have hK := hF.1
  have hA : ∀ q : Nat, (fun _ => False) q → xA0 E q := fun _ h => h.elim
  change W p l e rm_X6_why s m ([.ref (a 0), .int p1] : List Value).toArray below meth c s.heap [] 0 0 (xQro below (some (.int (s_X6_why u p1))) ([.ref (a 0), .int p1] : List Value).toArray s) _
  have hR : s_X6_why u p1 = s_X6_why u p1 := rfl
  refine lv_aload_n hx hb dX6_why_0 rfl (lv_at hl 0 rfl) ?_
  refine lv_iconst (v := 5) hx hb dX6_why_1 rfl ?_
  refine xRoV (nL := 3) ⟨hx, hb, hml, hown, hts⟩ (c_X6_rule l E a u 5 (xrul (by decide) (by decide))) (cwV 1 hts gX6_why_X6_rule rfl rfl rfl ⟨rfl, hd_X6_rule⟩ ⟨(Nat.le_of_ble_eq_true rfl), (Nat.le_of_ble_eq_true rfl)⟩) hF hS hA hP (va_recv (q := (RX6, TX6, 28)) hK hP (ci := 6) rfl (q0 := 0) rfl) rfl hl.1 rfl (Nat.le_of_ble_eq_true rfl) ⟨(Nat.le_of_ble_eq_true rfl), (Nat.le_of_ble_eq_true rfl)⟩ dX6_why_2 ?_
  refine W.eq (g2 := F0 m 5 ls [.int (s_X6_rule u 5)]) rfl ?_
  refine lv_istore_n (lv' := [(2, .int (s_X6_rule u 5)), (0, .ref (a 0)), (1, .int p1)]) hx hb dX6_why_5 rfl hl (by decide) rfl (fun ls hl => ?_)
  refine lv_aload_n hx hb dX6_why_6 rfl (lv_at hl 1 rfl) ?_
  refine lv_iload_n hx hb dX6_why_7 rfl (lv_at hl 2 rfl) ?_
  refine lv_iload_n hx hb dX6_why_8 rfl (lv_at hl 0 rfl) ?_
  refine xRoV (nL := 3) ⟨hx, hb, hml, hown, hts⟩ (c_X6_lacks l E a u p1 (s_X6_rule u 5) (hp0.st)) (cwV 2 hts gX6_why_X6_lacks rfl rfl rfl ⟨rfl, hd_X6_lacks⟩ ⟨(Nat.le_of_ble_eq_true rfl), (Nat.le_of_ble_eq_true rfl)⟩) hF hS hA hP (va_recv (q := (RX6, TX6, 28)) hK hP (ci := 6) rfl (q0 := 0) rfl) rfl hl.1 rfl (Nat.le_of_ble_eq_true rfl) ⟨(Nat.le_of_ble_eq_true rfl), (Nat.le_of_ble_eq_true rfl)⟩ dX6_why_9 ?_
  refine W.eq (g2 := F0 m 12 ls [.int (s_X6_lacks u p1 (s_X6_rule u 5))]) rfl ?_
  refine lv_if_eq (tgt := 19) hx hb dX6_why_12 rfl (fun q1 => ?_) (fun q1 => ?_)
  · have hR := hR.trans (if_pos q1)
    refine lv_aload_n hx hb dX6_why_19 rfl (lv_at hl 1 rfl) ?_
    refine lv_iload_n hx hb dX6_why_20 rfl (lv_at hl 2 rfl) ?_
    refine lv_iload_n hx hb dX6_why_21 rfl (lv_at hl 0 rfl) ?_
    refine xRoV (nL := 3) ⟨hx, hb, hml, hown, hts⟩ (c_X6_isHigh l E a u p1 (s_X6_rule u 5) (hp0.st)) (cwV 2 hts gX6_why_X6_isHigh rfl rfl rfl ⟨rfl, hd_X6_isHigh⟩ ⟨(Nat.le_of_ble_eq_true rfl), (Nat.le_of_ble_eq_true rfl)⟩) hF hS hA hP (va_recv (q := (RX6, TX6, 28)) hK hP (ci := 6) rfl (q0 := 0) rfl) rfl hl.1 rfl (Nat.le_of_ble_eq_true rfl) ⟨(Nat.le_of_ble_eq_true rfl), (Nat.le_of_ble_eq_true rfl)⟩ dX6_why_22 ?_
    refine W.eq (g2 := F0 m 25 ls [.int (s_X6_isHigh u p1 (s_X6_rule u 5))]) rfl ?_
    refine lv_if_eq (tgt := 32) hx hb dX6_why_25 rfl (fun q2 => ?_) (fun q2 => ?_)
    · have hR := hR.trans (if_pos q2)
      refine lv_aload_n hx hb dX6_why_32 rfl (lv_at hl 1 rfl) ?_
      refine lv_iload_n hx hb dX6_why_33 rfl (lv_at hl 2 rfl) ?_
      refine xRoV (nL := 3) ⟨hx, hb, hml, hown, hts⟩ (c_X6_isSteep l E a u p1 (hp0)) (cwV 1 hts gX6_why_X6_isSteep rfl rfl rfl ⟨rfl, hd_X6_isSteep⟩ ⟨(Nat.le_of_ble_eq_true rfl), (Nat.le_of_ble_eq_true rfl)⟩) hF hS hA hP (va_recv (q := (RX6, TX6, 28)) hK hP (ci := 6) rfl (q0 := 0) rfl) rfl hl.1 rfl (Nat.le_of_ble_eq_true rfl) ⟨(Nat.le_of_ble_eq_true rfl), (Nat.le_of_ble_eq_true rfl)⟩ dX6_why_34 ?_
      refine W.eq (g2 := F0 m 37 ls [.int (s_X6_isSteep u p1)]) rfl ?_
      refine lv_if_eq (tgt := 44) hx hb dX6_why_37 rfl (fun q3 => ?_) (fun q3 => ?_)
      · have hR := hR.trans (if_pos q3)
        refine lv_iconst (v := 0) hx hb dX6_why_44 rfl ?_
        have hR : s_X6_why u p1 = 0 := hR
        exact W.iret (v := 0) hx hb hr (fun t ht _ => ⟨congrArg (fun z => Outcome.returned (some (Value.int z))) hR.symm, ht⟩) (fun _ h => by cases h) dX6_why_45
      · have hR := hR.trans (if_neg q3)
        refine lv_iconst (v := 3) hx hb dX6_why_40 rfl ?_
        refine lv_goto (tgt := 45) hx hb dX6_why_41 rfl ?_
        have hR : s_X6_why u p1 = 3 := hR
        exact W.iret (v := 3) hx hb hr (fun t ht _ => ⟨congrArg (fun z => Outcome.returned (some (Value.int z))) hR.symm, ht⟩) (fun _ h => by cases h) dX6_why_45
    · have hR := hR.trans (if_neg q2)
      refine lv_iconst (v := 2) hx hb dX6_why_28 rfl ?_
      refine lv_goto (tgt := 45) hx hb dX6_why_29 rfl ?_
      have hR : s_X6_why u p1 = 2 := hR
      exact W.iret (v := 2) hx hb hr (fun t ht _ => ⟨congrArg (fun z => Outcome.returned (some (Value.int z))) hR.symm, ht⟩) (fun _ h => by cases h) dX6_why_45
  · have hR := hR.trans (if_neg q1)
    refine lv_iconst (v := 1) hx hb dX6_why_15 rfl ?_
    refine lv_goto (tgt := 45) hx hb dX6_why_16 rfl ?_
    have hR : s_X6_why u p1 = 1 := hR
    exact W.iret (v := 1) hx hb hr (fun t ht _ => ⟨congrArg (fun z => Outcome.returned (some (Value.int z))) hR.symm, ht⟩) (fun _ h => by cases h) dX6_why_45
def s_X6_may (u : xU) (p1 : Int32) (p2 : Int32) : Int32 :=
  if (s_X6_lacks u p1 p2) = 0 then
    if (s_X6_isHigh u p1 p2) = 0 then
      1
    else
      0
  else
    0
abbrev rm_X6_may : Room := { frames := 3, cells := 0, slots := 0, locals := 64 }
set_option maxHeartbeats 8000000 in
set_option maxRecDepth 100000 in
theorem c_X6_may (l : Launch) (E : xG) (a : Nat → Nat) (u : xU) (p1 : Int32) (p2 : Int32) (hp0 : XSt p1) : xRo l E yX6_may wsX6_may rm_X6_may [.ref (a 0), .int p1, .int p2] (wM E a u) (some (.int (s_X6_may u p1 p2))) := by
  refine xRo.of (cc := cX6_may) (maxL := 3) (ret := (some .boolean)) (by decide) rfl (Nat.le_of_ble_eq_true rfl) ?_
  intro p e s m below meth c ls hAt hF hP hS hl
  obtain ⟨hx, hb, hr, hml, hown, hts, hlocks, -⟩ := hAt
  have hown : s.vm.findClass RX6 = some m.cls := hown
  have hl : lv_has ls 3 [(0, .ref (a 0)), (1, .int p1), (2, .int p2)] := hl
  have hK := hF.1
  have hA : ∀ q : Nat, (fun _ => False) q → xA0 E q := fun _ h => h.elim
  change W p l e rm_X6_may s m ([.ref (a 0), .int p1, .int p2] : List Value).toArray below meth c s.heap [] 0 0 (xQro below (some (.int (s_X6_may u p1 p2))) ([.ref (a 0), .int p1, .int p2] : List Value).toArray s) _
  have hR : s_X6_may u p1 p2 = s_X6_may u p1 p2 := rfl
  refine lv_aload_n hx hb dX6_may_0 rfl (lv_at hl 0 rfl) ?_
  refine lv_iload_n hx hb dX6_may_1 rfl (lv_at hl 1 rfl) ?_
  refine lv_iload_n hx hb dX6_may_2 rfl (lv_at hl 2 rfl) ?_
  refine xRoV (nL := 3) ⟨hx, hb, hml, hown, hts⟩ (c_X6_lacks l E a u p1 p2 (hp0)) (cwV 2 hts gX6_may_X6_lacks rfl rfl rfl ⟨rfl, hd_X6_lacks⟩ ⟨(Nat.le_of_ble_eq_true rfl), (Nat.le_of_ble_eq_true rfl)⟩) hF hS hA hP (va_recv (q := (RX6, TX6, 28)) hK hP (ci := 6) rfl (q0 := 0) rfl) rfl hl.1 rfl (Nat.le_of_ble_eq_true rfl) ⟨(Nat.le_of_ble_eq_true rfl), (Nat.le_of_ble_eq_true rfl)⟩ dX6_may_3 ?_
  refine W.eq (g2 := F0 m 6 ls [.int (s_X6_lacks u p1 p2)]) rfl ?_
  refine lv_if_ne (tgt := 22) hx hb dX6_may_6 rfl (fun q1 => ?_) (fun q1 => ?_)
  · have hR := hR.trans (if_neg q1)
    refine lv_iconst (v := 0) hx hb dX6_may_22 rfl ?_
    have hR : s_X6_may u p1 p2 = 0 := hR
    exact W.zret (v := 0) (ty := .boolean) hx hb hr (xnb (Or.inl rfl)) (fun t ht _ => ⟨congrArg (fun z => Outcome.returned (some (Value.int z))) hR.symm, ht⟩) (fun _ h => by cases h) dX6_may_23
  · have hR := hR.trans (if_pos q1)
    refine lv_aload_n hx hb dX6_may_9 rfl (lv_at hl 0 rfl) ?_
    refine lv_iload_n hx hb dX6_may_10 rfl (lv_at hl 1 rfl) ?_
    refine lv_iload_n hx hb dX6_may_11 rfl (lv_at hl 2 rfl) ?_
    refine xRoV (nL := 3) ⟨hx, hb, hml, hown, hts⟩ (c_X6_isHigh l E a u p1 p2 (hp0)) (cwV 2 hts gX6_may_X6_isHigh rfl rfl rfl ⟨rfl, hd_X6_isHigh⟩ ⟨(Nat.le_of_ble_eq_true rfl), (Nat.le_of_ble_eq_true rfl)⟩) hF hS hA hP (va_recv (q := (RX6, TX6, 28)) hK hP (ci := 6) rfl (q0 := 0) rfl) rfl hl.1 rfl (Nat.le_of_ble_eq_true rfl) ⟨(Nat.le_of_ble_eq_true rfl), (Nat.le_of_ble_eq_true rfl)⟩ dX6_may_12 ?_
    refine W.eq (g2 := F0 m 15 ls [.int (s_X6_isHigh u p1 p2)]) rfl ?_
    refine lv_if_ne (tgt := 22) hx hb dX6_may_15 rfl (fun q2 => ?_) (fun q2 => ?_)
    · have hR := hR.trans (if_neg q2)
      refine lv_iconst (v := 0) hx hb dX6_may_22 rfl ?_
      have hR : s_X6_may u p1 p2 = 0 := hR
      exact W.zret (v := 0) (ty := .boolean) hx hb hr (xnb (Or.inl rfl)) (fun t ht _ => ⟨congrArg (fun z => Outcome.returned (some (Value.int z))) hR.symm, ht⟩) (fun _ h => by cases h) dX6_may_23
    · have hR := hR.trans (if_pos q2)
      refine lv_iconst (v := 1) hx hb dX6_may_18 rfl ?_
      refine lv_goto (tgt := 23) hx hb dX6_may_19 rfl ?_
      have hR : s_X6_may u p1 p2 = 1 := hR
      exact W.zret (v := 1) (ty := .boolean) hx hb hr (xnb (Or.inr rfl)) (fun t ht _ => ⟨congrArg (fun z => Outcome.returned (some (Value.int z))) hR.symm, ht⟩) (fun _ h => by cases h) dX6_may_23
