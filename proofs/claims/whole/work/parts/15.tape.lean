def s_X4_append (u : xU) (p1 : Int32) : xU :=
  uZ (uR u 26 (s_X5_mark 60 (u.1 26) (u.2 12) p1)) 12 (((uR u 26 (s_X5_mark 60 (u.1 26) (u.2 12) p1)).2 12) + 1)
abbrev rm_X4_append : Room := { frames := 1, cells := 0, slots := 0, locals := 22 }
set_option maxHeartbeats 8000000 in
set_option maxRecDepth 100000 in
theorem c_X4_append (l : Launch) (E : xG) (a : Nat → Nat) (u : xU) (p1 : Int32) (hL : xOK E (LX a)) : xMd l E yX4_append wsX4_append rm_X4_append (LX a) [.ref (a 25), .int p1] (wX E a u) (none) (wX E a (s_X4_append u p1)) := by
  refine xMd.of (cc := cX4_append) (maxL := 2) (ret := none) (by decide) rfl (Nat.le_of_ble_eq_true rfl) ?_
  intro p e s m below meth c ls hAt hF hP hS hl
  obtain ⟨hx, hb, hr, hml, hown, hts, hlocks, -⟩ := hAt
  have hown : s.vm.findClass RX4 = some m.cls := hown
  have hl : lv_has ls 2 [(0, .ref (a 25)), (1, .int p1)] := hl
  have hK := hF.1
  have hA := hL.2
  change W p l e rm_X4_append s m ([.ref (a 25), .int p1] : List Value).toArray below meth c s.heap [] 0 0 (xQmd E below (LX a) (none) (wX E a (s_X4_append u p1)) ([.ref (a 25), .int p1] : List Value).toArray s) _
  have hS : va_S (· ∈ LX a) s.heap s.heap [] := hS
  have hR : s_X4_append u p1 = s_X4_append u p1 := rfl
  refine lv_aload_n hx hb dX4_append_0 rfl (lv_at hl 0 rfl) ?_
  refine va_get (D := xD E) (ci := 4) (v := .ref (a 26)) (C := RX4) (T := TX4) (N := 9) hx hb hts (by decide +kernel) hown hK hP 25 rfl rfl 0 (by decide) (hts (.fieldLink RX4 9 "RailOffsets$Tape" "bytes" "[I") (by decide +kernel)) (fun _ h => h) rfl dX4_append_1 ?_
  refine lv_aload_n hx hb dX4_append_4 rfl (lv_at hl 0 rfl) ?_
  refine va_get (D := xD E) (ci := 4) (v := .int (u.2 12)) (C := RX4) (T := TX4) (N := 9) hx hb hts (by decide +kernel) hown hK hP 25 rfl rfl 3 (by decide) (hts (.fieldLink RX4 21 "RailOffsets$Tape" "size" "I") (by decide +kernel)) (fun _ h => h) rfl dX4_append_5 ?_
  refine lv_iload_n hx hb dX4_append_8 rfl (lv_at hl 1 rfl) ?_
  refine xMdSN (nL := 2) ⟨hx, hb, hml, hown, hts⟩ (c_X5_mark l E (a 26) 60 (u.1 26) (u.2 12) p1 (hL.2 _ (List.mem_of_getElem? (i := 26) rfl))) ⟨va_cnB (own := RX4) (host := RX5) (index := 40) (y := yX5_mark) 3 hts gX4_append_X5_mark_n40 rfl rfl rfl (hF.2.1.1 (RX4, 40, yX5_mark) (List.mem_of_getElem? (i := 10) rfl)) (hts (.initialized RX5) (by decide +kernel)) hd_X5_mark ⟨(Nat.le_of_ble_eq_true rfl), (Nat.le_of_ble_eq_true rfl)⟩, hts (.static yX5_mark) (by decide +kernel), trivial⟩ hF hS hL.2 (xsub1 (List.mem_of_getElem? (i := 26) rfl)) (hP.sub [26] rfl) rfl hl.1 rfl (Nat.le_of_ble_eq_true rfl) ⟨(Nat.le_of_ble_eq_true rfl), (Nat.le_of_ble_eq_true rfl)⟩ dX4_append_9 (fun H1 locs hP1 hk hS => ?_)
  have hP : va_P (xD E) vwCl (wX E a (uR u 26 (s_X5_mark 60 (u.1 26) (u.2 12) p1))) H1 := xset1 hP (xD_of (ws := wX E a u) (A := (· ∈ LX a)) hL.1 (fun _ h => h)) (p := 26) rfl hP1 hk
  generalize H1 = H at hP hS ⊢
  refine W.eq (g2 := F0 m 12 ls []) rfl ?_
  refine lv_aload_n hx hb dX4_append_12 rfl (lv_at hl 0 rfl) ?_
  refine lv_dup hx hb dX4_append_13 rfl ?_
  refine va_get (D := xD E) (ci := 4) (v := .int ((uR u 26 (s_X5_mark 60 (u.1 26) (u.2 12) p1)).2 12)) (C := RX4) (T := TX4) (N := 9) hx hb hts (by decide +kernel) hown hK hP 25 rfl rfl 3 (by decide) (hts (.fieldLink RX4 21 "RailOffsets$Tape" "size" "I") (by decide +kernel)) (fun _ h => h) rfl dX4_append_14 ?_
  refine lv_iconst (v := 1) hx hb dX4_append_17 rfl ?_
  refine lv_iadd hx hb dX4_append_18 ?_
  refine va_put (D := xD E) (ci := 4) (v := .int (((uR u 26 (s_X5_mark 60 (u.1 26) (u.2 12) p1)).2 12) + 1)) (ty := .int) (C := RX4) (T := TX4) (N := 9) hx hb hts (by decide +kernel) tyX4 tyX4_ok nmX4 hown hK hP (xD_of (ws := wX E a (uR u 26 (s_X5_mark 60 (u.1 26) (u.2 12) p1))) (A := (· ∈ LX a)) hL.1 (fun _ h => h)) hS 25 rfl rfl 3 (by decide) (hts (.fieldLink RX4 21 "RailOffsets$Tape" "size" "I") (by decide +kernel)) (fun _ h => h) rfl (by decide +kernel) rfl rfl (Nat.le_of_ble_eq_true rfl) dX4_append_19 (fun H locs hP _ hS => ?_)
  have hP : va_P (xD E) vwCl (wX E a (uZ (uR u 26 (s_X5_mark 60 (u.1 26) (u.2 12) p1)) 12 (((uR u 26 (s_X5_mark 60 (u.1 26) (u.2 12) p1)).2 12) + 1))) H := hP
  have hR : s_X4_append u p1 = uZ (uR u 26 (s_X5_mark 60 (u.1 26) (u.2 12) p1)) 12 (((uR u 26 (s_X5_mark 60 (u.1 26) (u.2 12) p1)).2 12) + 1) := hR
  exact W.vret hx hb hr (fun t ht _ => by rw [hR]; exact ⟨⟨rfl, by rw [ht]; exact hP⟩, hS.F ht⟩) hS.2.2 dX4_append_22
def s_X4_wordOf (u : xU) (p1 : Int32) : Int32 :=
  s_X5_cell 12 (u.1 27) p1
abbrev rm_X4_wordOf : Room := { frames := 1, cells := 0, slots := 0, locals := 21 }
set_option maxHeartbeats 8000000 in
set_option maxRecDepth 100000 in
theorem c_X4_wordOf (l : Launch) (E : xG) (a : Nat → Nat) (u : xU) (p1 : Int32) : xRo l E yX4_wordOf wsX4_wordOf rm_X4_wordOf [.ref (a 25), .int p1] (wX E a u) (some (.int (s_X4_wordOf u p1))) := by
  refine xRo.of (cc := cX4_wordOf) (maxL := 2) (ret := (some .int)) (by decide) rfl (Nat.le_of_ble_eq_true rfl) ?_
  intro p e s m below meth c ls hAt hF hP hS hl
  obtain ⟨hx, hb, hr, hml, hown, hts, hlocks, -⟩ := hAt
  have hown : s.vm.findClass RX4 = some m.cls := hown
  have hl : lv_has ls 2 [(0, .ref (a 25)), (1, .int p1)] := hl
  have hK := hF.1
  have hA : ∀ q : Nat, (fun _ => False) q → xA0 E q := fun _ h => h.elim
  change W p l e rm_X4_wordOf s m ([.ref (a 25), .int p1] : List Value).toArray below meth c s.heap [] 0 0 (xQro below (some (.int (s_X4_wordOf u p1))) ([.ref (a 25), .int p1] : List Value).toArray s) _
  have hR : s_X4_wordOf u p1 = s_X4_wordOf u p1 := rfl
  refine lv_aload_n hx hb dX4_wordOf_0 rfl (lv_at hl 0 rfl) ?_
  refine va_get (D := xD E) (ci := 4) (v := .ref (a 27)) (C := RX4) (T := TX4) (N := 9) hx hb hts (by decide +kernel) hown hK hP 25 rfl rfl 1 (by decide) (hts (.fieldLink RX4 15 "RailOffsets$Tape" "words" "[I") (by decide +kernel)) (fun _ h => h) rfl dX4_wordOf_1 ?_
  refine lv_iload_n hx hb dX4_wordOf_4 rfl (lv_at hl 1 rfl) ?_
  refine xRoSN (nL := 2) ⟨hx, hb, hml, hown, hts⟩ (c_X5_cell l E (a 27) 12 (u.1 27) p1) ⟨va_cnB (own := RX4) (host := RX5) (index := 44) (y := yX5_cell) 2 hts gX4_wordOf_X5_cell_n44 rfl rfl rfl (hF.2.1.1 (RX4, 44, yX5_cell) (List.mem_of_getElem? (i := 11) rfl)) (hts (.initialized RX5) (by decide +kernel)) hd_X5_cell ⟨(Nat.le_of_ble_eq_true rfl), (Nat.le_of_ble_eq_true rfl)⟩, hts (.static yX5_cell) (by decide +kernel), trivial⟩ hF hS hA (hP.sub [27] rfl) rfl hl.1 rfl (Nat.le_of_ble_eq_true rfl) ⟨(Nat.le_of_ble_eq_true rfl), (Nat.le_of_ble_eq_true rfl)⟩ dX4_wordOf_5 ?_
  refine W.eq (g2 := F0 m 8 ls [.int (s_X5_cell 12 (u.1 27) p1)]) rfl ?_
  have hR : s_X4_wordOf u p1 = s_X5_cell 12 (u.1 27) p1 := hR
  exact W.iret (v := s_X5_cell 12 (u.1 27) p1) hx hb hr (fun t ht _ => ⟨congrArg (fun z => Outcome.returned (some (Value.int z))) hR.symm, ht⟩) (fun _ h => by cases h) dX4_wordOf_8
def s_X4_numberOf (u : xU) (p1 : Int32) (p2 : Int32) : Int32 :=
  s_X5_cell 48 (u.1 28) ((p1 * 4) + p2)
abbrev rm_X4_numberOf : Room := { frames := 1, cells := 0, slots := 0, locals := 21 }
set_option maxHeartbeats 8000000 in
set_option maxRecDepth 100000 in
theorem c_X4_numberOf (l : Launch) (E : xG) (a : Nat → Nat) (u : xU) (p1 : Int32) (p2 : Int32) : xRo l E yX4_numberOf wsX4_numberOf rm_X4_numberOf [.ref (a 25), .int p1, .int p2] (wX E a u) (some (.int (s_X4_numberOf u p1 p2))) := by
  refine xRo.of (cc := cX4_numberOf) (maxL := 3) (ret := (some .int)) (by decide) rfl (Nat.le_of_ble_eq_true rfl) ?_
  intro p e s m below meth c ls hAt hF hP hS hl
  obtain ⟨hx, hb, hr, hml, hown, hts, hlocks, -⟩ := hAt
  have hown : s.vm.findClass RX4 = some m.cls := hown
  have hl : lv_has ls 3 [(0, .ref (a 25)), (1, .int p1), (2, .int p2)] := hl
  have hK := hF.1
  have hA : ∀ q : Nat, (fun _ => False) q → xA0 E q := fun _ h => h.elim
  change W p l e rm_X4_numberOf s m ([.ref (a 25), .int p1, .int p2] : List Value).toArray below meth c s.heap [] 0 0 (xQro below (some (.int (s_X4_numberOf u p1 p2))) ([.ref (a 25), .int p1, .int p2] : List Value).toArray s) _
  have hR : s_X4_numberOf u p1 p2 = s_X4_numberOf u p1 p2 := rfl
  refine lv_aload_n hx hb dX4_numberOf_0 rfl (lv_at hl 0 rfl) ?_
  refine va_get (D := xD E) (ci := 4) (v := .ref (a 28)) (C := RX4) (T := TX4) (N := 9) hx hb hts (by decide +kernel) hown hK hP 25 rfl rfl 2 (by decide) (hts (.fieldLink RX4 18 "RailOffsets$Tape" "numbers" "[I") (by decide +kernel)) (fun _ h => h) rfl dX4_numberOf_1 ?_
  refine lv_iload_n hx hb dX4_numberOf_4 rfl (lv_at hl 1 rfl) ?_
  refine lv_iconst (v := 4) hx hb dX4_numberOf_5 rfl ?_
  refine lv_imul hx hb dX4_numberOf_6 ?_
  refine lv_iload_n hx hb dX4_numberOf_7 rfl (lv_at hl 2 rfl) ?_
  refine lv_iadd hx hb dX4_numberOf_8 ?_
  refine xRoSN (nL := 3) ⟨hx, hb, hml, hown, hts⟩ (c_X5_cell l E (a 28) 48 (u.1 28) ((p1 * 4) + p2)) ⟨va_cnB (own := RX4) (host := RX5) (index := 44) (y := yX5_cell) 2 hts gX4_numberOf_X5_cell_n44 rfl rfl rfl (hF.2.1.1 (RX4, 44, yX5_cell) (List.mem_of_getElem? (i := 11) rfl)) (hts (.initialized RX5) (by decide +kernel)) hd_X5_cell ⟨(Nat.le_of_ble_eq_true rfl), (Nat.le_of_ble_eq_true rfl)⟩, hts (.static yX5_cell) (by decide +kernel), trivial⟩ hF hS hA (hP.sub [28] rfl) rfl hl.1 rfl (Nat.le_of_ble_eq_true rfl) ⟨(Nat.le_of_ble_eq_true rfl), (Nat.le_of_ble_eq_true rfl)⟩ dX4_numberOf_9 ?_
  refine W.eq (g2 := F0 m 12 ls [.int (s_X5_cell 48 (u.1 28) ((p1 * 4) + p2))]) rfl ?_
  have hR : s_X4_numberOf u p1 p2 = s_X5_cell 48 (u.1 28) ((p1 * 4) + p2) := hR
  exact W.iret (v := s_X5_cell 48 (u.1 28) ((p1 * 4) + p2)) hx hb hr (fun t ht _ => ⟨congrArg (fun z => Outcome.returned (some (Value.int z))) hR.symm, ht⟩) (fun _ h => by cases h) dX4_numberOf_12
def s_X4_isBlank  (p0 : Int32) : Int32 :=
  if p0 = 32 then
    1
  else
    if p0 = 10 then
      1
    else
      0
abbrev rm_X4_isBlank : Room := { frames := 0, cells := 0, slots := 0, locals := 0 }
set_option maxHeartbeats 8000000 in
set_option maxRecDepth 100000 in
theorem c_X4_isBlank (l : Launch) (E : xG) (p0 : Int32) : xRo l E yX4_isBlank wsX4_isBlank rm_X4_isBlank [.int p0] [] (some (.int (s_X4_isBlank p0))) := by
  refine xRo.of (cc := cX4_isBlank) (maxL := 1) (ret := (some .boolean)) (by decide) rfl (Nat.le_of_ble_eq_true rfl) ?_
  intro p e s m below meth c ls hAt hF hP hS hl
  obtain ⟨hx, hb, hr, hml, hown, hts, hlocks, -⟩ := hAt
  have hown : s.vm.findClass RX4 = some m.cls := hown
  have hl : lv_has ls 1 [(0, .int p0)] := hl
  have hK := hF.1
  have hA : ∀ q : Nat, (fun _ => False) q → xA0 E q := fun _ h => h.elim
  change W p l e rm_X4_isBlank s m ([.int p0] : List Value).toArray below meth c s.heap [] 0 0 (xQro below (some (.int (s_X4_isBlank p0))) ([.int p0] : List Value).toArray s) _
  have hR : s_X4_isBlank p0 = s_X4_isBlank p0 := rfl
  refine lv_iload_n hx hb dX4_isBlank_0 rfl (lv_at hl 0 rfl) ?_
  refine lv_bipush (v := 32) hx hb dX4_isBlank_1 rfl ?_
  refine lv_icmp_eq (tgt := 12) hx hb dX4_isBlank_3 rfl (fun q1 => ?_) (fun q1 => ?_)
  · have hR := hR.trans (if_pos q1)
    refine lv_iconst (v := 1) hx hb dX4_isBlank_12 rfl ?_
    refine lv_goto (tgt := 17) hx hb dX4_isBlank_13 rfl ?_
    have hR : s_X4_isBlank p0 = 1 := hR
    exact W.zret (v := 1) (ty := .boolean) hx hb hr (xnb (Or.inr rfl)) (fun t ht _ => ⟨congrArg (fun z => Outcome.returned (some (Value.int z))) hR.symm, ht⟩) (fun _ h => by cases h) dX4_isBlank_17
  · have hR := hR.trans (if_neg q1)
    refine lv_iload_n hx hb dX4_isBlank_6 rfl (lv_at hl 0 rfl) ?_
    refine lv_bipush (v := 10) hx hb dX4_isBlank_7 rfl ?_
    refine lv_icmp_ne (tgt := 16) hx hb dX4_isBlank_9 rfl (fun q2 => ?_) (fun q2 => ?_)
    · have hR := hR.trans (if_neg q2)
      refine lv_iconst (v := 0) hx hb dX4_isBlank_16 rfl ?_
      have hR : s_X4_isBlank p0 = 0 := hR
      exact W.zret (v := 0) (ty := .boolean) hx hb hr (xnb (Or.inl rfl)) (fun t ht _ => ⟨congrArg (fun z => Outcome.returned (some (Value.int z))) hR.symm, ht⟩) (fun _ h => by cases h) dX4_isBlank_17
    · have hR := hR.trans (if_pos q2)
      refine lv_iconst (v := 1) hx hb dX4_isBlank_12 rfl ?_
      refine lv_goto (tgt := 17) hx hb dX4_isBlank_13 rfl ?_
      have hR : s_X4_isBlank p0 = 1 := hR
      exact W.zret (v := 1) (ty := .boolean) hx hb hr (xnb (Or.inr rfl)) (fun t ht _ => ⟨congrArg (fun z => Outcome.returned (some (Value.int z))) hR.symm, ht⟩) (fun _ h => by cases h) dX4_isBlank_17
def s_X4_isLetter  (p0 : Int32) : Int32 :=
  s_X5_within p0 97 122
abbrev rm_X4_isLetter : Room := { frames := 1, cells := 0, slots := 0, locals := 22 }
set_option maxHeartbeats 8000000 in
set_option maxRecDepth 100000 in
theorem c_X4_isLetter (l : Launch) (E : xG) (p0 : Int32) : xRo l E yX4_isLetter wsX4_isLetter rm_X4_isLetter [.int p0] [] (some (.int (s_X4_isLetter p0))) := by
  refine xRo.of (cc := cX4_isLetter) (maxL := 1) (ret := (some .boolean)) (by decide) rfl (Nat.le_of_ble_eq_true rfl) ?_
  intro p e s m below meth c ls hAt hF hP hS hl
  obtain ⟨hx, hb, hr, hml, hown, hts, hlocks, -⟩ := hAt
  have hown : s.vm.findClass RX4 = some m.cls := hown
  have hl : lv_has ls 1 [(0, .int p0)] := hl
  have hK := hF.1
  have hA : ∀ q : Nat, (fun _ => False) q → xA0 E q := fun _ h => h.elim
  change W p l e rm_X4_isLetter s m ([.int p0] : List Value).toArray below meth c s.heap [] 0 0 (xQro below (some (.int (s_X4_isLetter p0))) ([.int p0] : List Value).toArray s) _
  have hR : s_X4_isLetter p0 = s_X4_isLetter p0 := rfl
  refine lv_iload_n hx hb dX4_isLetter_0 rfl (lv_at hl 0 rfl) ?_
  refine lv_bipush (v := 97) hx hb dX4_isLetter_1 rfl ?_
  refine lv_bipush (v := 122) hx hb dX4_isLetter_3 rfl ?_
  refine xRoSN (nL := 1) ⟨hx, hb, hml, hown, hts⟩ (c_X5_within l E p0 97 122) ⟨va_cnB (own := RX4) (host := RX5) (index := 82) (y := yX5_within) 3 hts gX4_isLetter_X5_within_n82 rfl rfl rfl (hF.2.1.1 (RX4, 82, yX5_within) (List.mem_of_getElem? (i := 12) rfl)) (hts (.initialized RX5) (by decide +kernel)) hd_X5_within ⟨(Nat.le_of_ble_eq_true rfl), (Nat.le_of_ble_eq_true rfl)⟩, hts (.static yX5_within) (by decide +kernel), trivial⟩ hF hS hA (hP.sub [] rfl) rfl hl.1 rfl (Nat.le_of_ble_eq_true rfl) ⟨(Nat.le_of_ble_eq_true rfl), (Nat.le_of_ble_eq_true rfl)⟩ dX4_isLetter_5 ?_
  refine W.eq (g2 := F0 m 8 ls [.int (s_X5_within p0 97 122)]) rfl ?_
  have hR : s_X4_isLetter p0 = s_X5_within p0 97 122 := hR
  exact W.zret (v := s_X5_within p0 97 122) (ty := .boolean) hx hb hr (xnb (bs_X5_within ..)) (fun t ht _ => ⟨congrArg (fun z => Outcome.returned (some (Value.int z))) hR.symm, ht⟩) (fun _ h => by cases h) dX4_isLetter_8
def s_X4_isDigit  (p0 : Int32) : Int32 :=
  s_X5_within p0 48 57
abbrev rm_X4_isDigit : Room := { frames := 1, cells := 0, slots := 0, locals := 22 }
set_option maxHeartbeats 8000000 in
set_option maxRecDepth 100000 in
theorem c_X4_isDigit (l : Launch) (E : xG) (p0 : Int32) : xRo l E yX4_isDigit wsX4_isDigit rm_X4_isDigit [.int p0] [] (some (.int (s_X4_isDigit p0))) := by
  refine xRo.of (cc := cX4_isDigit) (maxL := 1) (ret := (some .boolean)) (by decide) rfl (Nat.le_of_ble_eq_true rfl) ?_
  intro p e s m below meth c ls hAt hF hP hS hl
  obtain ⟨hx, hb, hr, hml, hown, hts, hlocks, -⟩ := hAt
  have hown : s.vm.findClass RX4 = some m.cls := hown
  have hl : lv_has ls 1 [(0, .int p0)] := hl
  have hK := hF.1
  have hA : ∀ q : Nat, (fun _ => False) q → xA0 E q := fun _ h => h.elim
  change W p l e rm_X4_isDigit s m ([.int p0] : List Value).toArray below meth c s.heap [] 0 0 (xQro below (some (.int (s_X4_isDigit p0))) ([.int p0] : List Value).toArray s) _
  have hR : s_X4_isDigit p0 = s_X4_isDigit p0 := rfl
  refine lv_iload_n hx hb dX4_isDigit_0 rfl (lv_at hl 0 rfl) ?_
  refine lv_bipush (v := 48) hx hb dX4_isDigit_1 rfl ?_
  refine lv_bipush (v := 57) hx hb dX4_isDigit_3 rfl ?_
  refine xRoSN (nL := 1) ⟨hx, hb, hml, hown, hts⟩ (c_X5_within l E p0 48 57) ⟨va_cnB (own := RX4) (host := RX5) (index := 82) (y := yX5_within) 3 hts gX4_isDigit_X5_within_n82 rfl rfl rfl (hF.2.1.1 (RX4, 82, yX5_within) (List.mem_of_getElem? (i := 12) rfl)) (hts (.initialized RX5) (by decide +kernel)) hd_X5_within ⟨(Nat.le_of_ble_eq_true rfl), (Nat.le_of_ble_eq_true rfl)⟩, hts (.static yX5_within) (by decide +kernel), trivial⟩ hF hS hA (hP.sub [] rfl) rfl hl.1 rfl (Nat.le_of_ble_eq_true rfl) ⟨(Nat.le_of_ble_eq_true rfl), (Nat.le_of_ble_eq_true rfl)⟩ dX4_isDigit_5 ?_
  refine W.eq (g2 := F0 m 8 ls [.int (s_X5_within p0 48 57)]) rfl ?_
  have hR : s_X4_isDigit p0 = s_X5_within p0 48 57 := hR
  exact W.zret (v := s_X5_within p0 48 57) (ty := .boolean) hx hb hr (xnb (bs_X5_within ..)) (fun t ht _ => ⟨congrArg (fun z => Outcome.returned (some (Value.int z))) hR.symm, ht⟩) (fun _ h => by cases h) dX4_isDigit_8
def s_X4_spells_L20 (k : Nat) : Nat → xU → Int32 → Int32
  | 0, _, _ => 0
  | n + 1, u, x2 =>
    if (s_str_length k) ≤ x2 then
      1
    else
      if (s_X5_cell 60 (u.1 26) ((u.2 15) + x2)) = (s_str_charAt k x2) then
        s_X4_spells_L20 k n u (x2 + 1)
      else
        0
def s_X4_spells (k : Nat) (u : xU) : Int32 :=
  if ((u.2 14) - (u.2 15)) = (s_str_length k) then
    s_X4_spells_L20 k (((s_str_length k).toInt - (0 : Int32).toInt).toNat + 1) u 0
  else
    0
abbrev rm_X4_spells : Room := { frames := 5, cells := 0, slots := 0, locals := 150 }
set_option maxHeartbeats 8000000 in
set_option maxRecDepth 100000 in
theorem c_X4_spells (l : Launch) (E : xG) (a : Nat → Nat) (u : xU) (k : Nat) (hk : k < 5)  : xRo l E yX4_spells wsX4_spells rm_X4_spells [.ref (a 25), .ref (xaK E k)] (wX E a u) (some (.int (s_X4_spells k u))) := by
  refine xRo.of (cc := cX4_spells) (maxL := 3) (ret := (some .boolean)) (by decide) rfl (Nat.le_of_ble_eq_true rfl) ?_
  intro p e s m below meth c ls hAt hF hP hS hl
  obtain ⟨hx, hb, hr, hml, hown, hts, hlocks, -⟩ := hAt
  have hown : s.vm.findClass RX4 = some m.cls := hown
  have hl : lv_has ls 3 [(0, .ref (a 25)), (1, .ref (xaK E k))] := hl
  have hK := hF.1
  have hA : ∀ q : Nat, (fun _ => False) q → xA0 E q := fun _ h => h.elim
  change W p l e rm_X4_spells s m ([.ref (a 25), .ref (xaK E k)] : List Value).toArray below meth c s.heap [] 0 0 (xQro below (some (.int (s_X4_spells k u))) ([.ref (a 25), .ref (xaK E k)] : List Value).toArray s) _
  have hR : s_X4_spells k u = s_X4_spells k u := rfl
  refine lv_aload_n hx hb dX4_spells_0 rfl (lv_at hl 0 rfl) ?_
  refine va_get (D := xD E) (ci := 4) (v := .int (u.2 14)) (C := RX4) (T := TX4) (N := 9) hx hb hts (by decide +kernel) hown hK hP 25 rfl rfl 5 (by decide) (hts (.fieldLink RX4 28 "RailOffsets$Tape" "here" "I") (by decide +kernel)) (fun _ h => h) rfl dX4_spells_1 ?_
  refine lv_aload_n hx hb dX4_spells_4 rfl (lv_at hl 0 rfl) ?_
  refine va_get (D := xD E) (ci := 4) (v := .int (u.2 15)) (C := RX4) (T := TX4) (N := 9) hx hb hts (by decide +kernel) hown hK hP 25 rfl rfl 6 (by decide) (hts (.fieldLink RX4 31 "RailOffsets$Tape" "start" "I") (by decide +kernel)) (fun _ h => h) rfl dX4_spells_5 ?_
  refine lv_isub hx hb dX4_spells_8 ?_
  refine lv_aload_n hx hb dX4_spells_9 rfl (lv_at hl 1 rfl) ?_
  refine xRoV (nL := 3) ⟨hx, hb, hml, hown, hts⟩ (c_str_length l E k hk) (cwV 0 hts gX4_spells_J0_length_8abf5 rfl rfl rfl ⟨rfl, hd_J0_length_8abf5⟩ ⟨(Nat.le_of_ble_eq_true rfl), (Nat.le_of_ble_eq_true rfl)⟩) hF hS hA (hP.sub [] rfl) (xstrRecv hF hS hA hk) rfl hl.1 rfl (Nat.le_of_ble_eq_true rfl) ⟨(Nat.le_of_ble_eq_true rfl), (Nat.le_of_ble_eq_true rfl)⟩ dX4_spells_10 ?_
  refine W.eq (g2 := F0 m 13 ls [.int (s_str_length k), .int ((u.2 14) - (u.2 15))]) rfl ?_
  refine lv_icmp_eq (tgt := 18) hx hb dX4_spells_13 rfl (fun q1 => ?_) (fun q1 => ?_)
  · have hR := hR.trans (if_pos q1)
    refine lv_iconst (v := 0) hx hb dX4_spells_18 rfl ?_
    refine lv_istore_n (lv' := [(2, .int 0), (0, .ref (a 25)), (1, .ref (xaK E k))]) hx hb dX4_spells_19 rfl hl (by decide) rfl (fun ls hl => ?_)
    have L20 : ∀ (n20 : Nat) (x2 : Int32) (ls : Array Slot), (¬ x2 < 0) → ((s_str_length k).toInt - x2.toInt).toNat < n20 → s_X4_spells k u = s_X4_spells_L20 k n20 u x2 → lv_has ls 3 [(2, .int x2), (0, .ref (a 25)), (1, .ref (xaK E k))] → W p l e rm_X4_spells s m ([.ref (a 25), .ref (xaK E k)] : List Value).toArray below meth c s.heap [] 0 0 (xQro below (some (.int (s_X4_spells k u))) ([.ref (a 25), .ref (xaK E k)] : List Value).toArray s) (F0 m 20 ls []) := by
      intro n20
      induction n20 with
      | zero => intro x2 ls hI0 hM20 hR hl; exact absurd hM20 (Nat.not_lt_zero _)
      | succ n20 ih20 =>
        intro x2 ls hI0 hM20 hR hl
        refine lv_iload_n hx hb dX4_spells_20 rfl (lv_at hl 0 rfl) ?_
        refine lv_aload_n hx hb dX4_spells_21 rfl (lv_at hl 2 rfl) ?_
        refine xRoV (nL := 3) ⟨hx, hb, hml, hown, hts⟩ (c_str_length l E k hk) (cwV 0 hts gX4_spells_J0_length_8abf5 rfl rfl rfl ⟨rfl, hd_J0_length_8abf5⟩ ⟨(Nat.le_of_ble_eq_true rfl), (Nat.le_of_ble_eq_true rfl)⟩) hF hS hA (hP.sub [] rfl) (xstrRecv hF hS hA hk) rfl hl.1 rfl (Nat.le_of_ble_eq_true rfl) ⟨(Nat.le_of_ble_eq_true rfl), (Nat.le_of_ble_eq_true rfl)⟩ dX4_spells_22 ?_
        refine W.eq (g2 := F0 m 25 ls [.int (s_str_length k), .int x2]) rfl ?_
        refine lv_icmp_ge (tgt := 57) hx hb dX4_spells_25 rfl (fun q2 => ?_) (fun q2 => ?_)
        · have hR := hR.trans (if_pos q2)
          refine lv_iconst (v := 1) hx hb dX4_spells_57 rfl ?_
          have hR : s_X4_spells k u = 1 := hR
          exact W.zret (v := 1) (ty := .boolean) hx hb hr (xnb (Or.inr rfl)) (fun t ht _ => ⟨congrArg (fun z => Outcome.returned (some (Value.int z))) hR.symm, ht⟩) (fun _ h => by cases h) dX4_spells_58
        · have hR := hR.trans (if_neg q2)
          refine lv_aload_n hx hb dX4_spells_28 rfl (lv_at hl 1 rfl) ?_
          refine va_get (D := xD E) (ci := 4) (v := .ref (a 26)) (C := RX4) (T := TX4) (N := 9) hx hb hts (by decide +kernel) hown hK hP 25 rfl rfl 0 (by decide) (hts (.fieldLink RX4 9 "RailOffsets$Tape" "bytes" "[I") (by decide +kernel)) (fun _ h => h) rfl dX4_spells_29 ?_
          refine lv_aload_n hx hb dX4_spells_32 rfl (lv_at hl 1 rfl) ?_
          refine va_get (D := xD E) (ci := 4) (v := .int (u.2 15)) (C := RX4) (T := TX4) (N := 9) hx hb hts (by decide +kernel) hown hK hP 25 rfl rfl 6 (by decide) (hts (.fieldLink RX4 31 "RailOffsets$Tape" "start" "I") (by decide +kernel)) (fun _ h => h) rfl dX4_spells_33 ?_
          refine lv_iload_n hx hb dX4_spells_36 rfl (lv_at hl 0 rfl) ?_
          refine lv_iadd hx hb dX4_spells_37 ?_
          refine xRoSN (nL := 3) ⟨hx, hb, hml, hown, hts⟩ (c_X5_cell l E (a 26) 60 (u.1 26) ((u.2 15) + x2)) ⟨va_cnB (own := RX4) (host := RX5) (index := 44) (y := yX5_cell) 2 hts gX4_spells_X5_cell_n44 rfl rfl rfl (hF.2.1.1 (RX4, 44, yX5_cell) (List.mem_of_getElem? (i := 11) rfl)) (hts (.initialized RX5) (by decide +kernel)) hd_X5_cell ⟨(Nat.le_of_ble_eq_true rfl), (Nat.le_of_ble_eq_true rfl)⟩, hts (.static yX5_cell) (by decide +kernel), trivial⟩ hF hS hA (hP.sub [26] rfl) rfl hl.1 rfl (Nat.le_of_ble_eq_true rfl) ⟨(Nat.le_of_ble_eq_true rfl), (Nat.le_of_ble_eq_true rfl)⟩ dX4_spells_38 ?_
          refine W.eq (g2 := F0 m 41 ls [.int (s_X5_cell 60 (u.1 26) ((u.2 15) + x2))]) rfl ?_
          refine lv_aload_n hx hb dX4_spells_41 rfl (lv_at hl 2 rfl) ?_
          refine lv_iload_n hx hb dX4_spells_42 rfl (lv_at hl 0 rfl) ?_
          refine xRoV (nL := 3) ⟨hx, hb, hml, hown, hts⟩ (c_str_charAt l E k hk x2 (⟨hI0, q2⟩)) (cwV 1 hts gX4_spells_J0_charAt_5068e rfl rfl rfl ⟨rfl, hd_J0_charAt_5068e⟩ ⟨(Nat.le_of_ble_eq_true rfl), (Nat.le_of_ble_eq_true rfl)⟩) hF hS hA (hP.sub [] rfl) (xstrRecv hF hS hA hk) rfl hl.1 rfl (Nat.le_of_ble_eq_true rfl) ⟨(Nat.le_of_ble_eq_true rfl), (Nat.le_of_ble_eq_true rfl)⟩ dX4_spells_43 ?_
          refine W.eq (g2 := F0 m 46 ls [.int (s_str_charAt k x2), .int (s_X5_cell 60 (u.1 26) ((u.2 15) + x2))]) rfl ?_
          refine lv_icmp_eq (tgt := 51) hx hb dX4_spells_46 rfl (fun q3 => ?_) (fun q3 => ?_)
          · have hR := hR.trans (if_pos q3)
            refine lv_iinc (k := 0) (v := x2 + 1) (lv' := [(2, .int (x2 + 1)), (0, .ref (a 25)), (1, .ref (xaK E k))]) hx hb dX4_spells_51 hl rfl rfl (by decide) rfl (fun ls hl => ?_)
            refine lv_goto (tgt := 20) hx hb dX4_spells_54 rfl ?_
            exact ih20 (x2 + 1) _ (xup0 hI0 q2) (Nat.lt_of_lt_of_le (xupc q2) (Nat.le_of_lt_succ hM20)) hR (lv_sub hl [0, 1, 2] rfl)
          · have hR := hR.trans (if_neg q3)
            refine lv_iconst (v := 0) hx hb dX4_spells_49 rfl ?_
            have hR : s_X4_spells k u = 0 := hR
            exact W.zret (v := 0) (ty := .boolean) hx hb hr (xnb (Or.inl rfl)) (fun t ht _ => ⟨congrArg (fun z => Outcome.returned (some (Value.int z))) hR.symm, ht⟩) (fun _ h => by cases h) dX4_spells_50
    exact L20 (((s_str_length k).toInt - (0 : Int32).toInt).toNat + 1) 0 ls (by decide) (Nat.lt_succ_self _) hR hl
  · have hR := hR.trans (if_neg q1)
    refine lv_iconst (v := 0) hx hb dX4_spells_16 rfl ?_
    have hR : s_X4_spells k u = 0 := hR
    exact W.zret (v := 0) (ty := .boolean) hx hb hr (xnb (Or.inl rfl)) (fun t ht _ => ⟨congrArg (fun z => Outcome.returned (some (Value.int z))) hR.symm, ht⟩) (fun _ h => by cases h) dX4_spells_17
def s_X4_readWord_L48 : Nat → xU → Int32 → xU
  | 0, u, _ => u
  | n + 1, u, x1 =>
    if (Int32.ofNat (xStL 7)) ≤ x1 then
      u
    else
      if (s_X4_spells (s_X4_nameOf x1) u) = 0 then
        s_X4_readWord_L48 n u (x1 + 1)
      else
        s_X4_readWord_L48 n (uZ (uZ u 16 0) 17 x1) (x1 + 1)
def s_X4_readWord_L0 : Nat → xU → xU
  | 0, u => u
  | n + 1, u =>
    if (u.2 12) ≤ (u.2 14) then
      s_X4_readWord_L48 (((Int32.ofNat (xStL 7)).toInt - (0 : Int32).toInt).toNat + 1) (uZ u 16 4) 0
    else
      if (s_X4_isLetter (s_X5_cell 60 (u.1 26) (u.2 14))) = 0 then
        s_X4_readWord_L48 (((Int32.ofNat (xStL 7)).toInt - (0 : Int32).toInt).toNat + 1) (uZ u 16 4) 0
      else
        s_X4_readWord_L0 n (uZ u 14 ((u.2 14) + 1))
def s_X4_readWord (u : xU) : xU :=
  s_X4_readWord_L0 (((u.2 12).toInt - (u.2 14).toInt).toNat + 1) u
abbrev rm_X4_readWord : Room := { frames := 6, cells := 0, slots := 0, locals := 172 }
set_option maxHeartbeats 8000000 in
set_option maxRecDepth 100000 in
theorem c_X4_readWord (l : Launch) (E : xG) (a : Nat → Nat) (u : xU)  (hL : xOK E (LX a)) : xMd l E yX4_readWord wsX4_readWord rm_X4_readWord (LX a) [.ref (a 25)] (wX E a u) (none) (wX E a (s_X4_readWord u)) := by
  refine xMd.of (cc := cX4_readWord) (maxL := 2) (ret := none) (by decide) rfl (Nat.le_of_ble_eq_true rfl) ?_
  intro p e s m below meth c ls hAt hF hP hS hl
  obtain ⟨hx, hb, hr, hml, hown, hts, hlocks, -⟩ := hAt
  have hown : s.vm.findClass RX4 = some m.cls := hown
  have hl : lv_has ls 2 [(0, .ref (a 25))] := hl
  have hK := hF.1
  have hA := hL.2
  change W p l e rm_X4_readWord s m ([.ref (a 25)] : List Value).toArray below meth c s.heap [] 0 0 (xQmd E below (LX a) (none) (wX E a (s_X4_readWord u)) ([.ref (a 25)] : List Value).toArray s) _
  have hS : va_S (· ∈ LX a) s.heap s.heap [] := hS
  have hR : s_X4_readWord u = s_X4_readWord u := rfl
  have L0 : ∀ (n0 : Nat) (u0 : xU) (H : Heap) (locs : List Loc) (ls : Array Slot), ((u0.2 12).toInt - (u0.2 14).toInt).toNat < n0 → s_X4_readWord u = s_X4_readWord_L0 n0 u0 → lv_has ls 2 [(0, .ref (a 25))] → va_P (xD E) vwCl (wX E a u0) H → va_S (· ∈ LX a) s.heap H locs → W p l e rm_X4_readWord s m ([.ref (a 25)] : List Value).toArray below meth c H locs 0 0 (xQmd E below (LX a) (none) (wX E a (s_X4_readWord u)) ([.ref (a 25)] : List Value).toArray s) (F0 m 0 ls []) := by
    intro n0
    induction n0 with
    | zero => intro u0 H locs ls hM0 hR hl hP hS; exact absurd hM0 (Nat.not_lt_zero _)
    | succ n0 ih0 =>
      intro u0 H locs ls hM0 hR hl hP hS
      refine lv_aload_n hx hb dX4_readWord_0 rfl (lv_at hl 0 rfl) ?_
      refine va_get (D := xD E) (ci := 4) (v := .int (u0.2 14)) (C := RX4) (T := TX4) (N := 9) hx hb hts (by decide +kernel) hown hK hP 25 rfl rfl 5 (by decide) (hts (.fieldLink RX4 28 "RailOffsets$Tape" "here" "I") (by decide +kernel)) (fun _ h => h) rfl dX4_readWord_1 ?_
      refine lv_aload_n hx hb dX4_readWord_4 rfl (lv_at hl 0 rfl) ?_
      refine va_get (D := xD E) (ci := 4) (v := .int (u0.2 12)) (C := RX4) (T := TX4) (N := 9) hx hb hts (by decide +kernel) hown hK hP 25 rfl rfl 3 (by decide) (hts (.fieldLink RX4 21 "RailOffsets$Tape" "size" "I") (by decide +kernel)) (fun _ h => h) rfl dX4_readWord_5 ?_
      refine lv_icmp_ge (tgt := 41) hx hb dX4_readWord_8 rfl (fun q1 => ?_) (fun q1 => ?_)
      · have hR := hR.trans (if_pos q1)
        refine lv_aload_n hx hb dX4_readWord_41 rfl (lv_at hl 0 rfl) ?_
        refine lv_iconst (v := 4) hx hb dX4_readWord_42 rfl ?_
        refine va_put (D := xD E) (ci := 4) (v := .int 4) (ty := .int) (C := RX4) (T := TX4) (N := 9) hx hb hts (by decide +kernel) tyX4 tyX4_ok nmX4 hown hK hP (xD_of (ws := wX E a u0) (A := (· ∈ LX a)) hL.1 (fun _ h => h)) hS 25 rfl rfl 7 (by decide) (hts (.fieldLink RX4 34 "RailOffsets$Tape" "sort" "I") (by decide +kernel)) (fun _ h => h) rfl (by decide +kernel) rfl rfl (Nat.le_of_ble_eq_true rfl) dX4_readWord_43 (fun H locs hP _ hS => ?_)
        have hP : va_P (xD E) vwCl (wX E a (uZ u0 16 4)) H := hP
        refine lv_iconst (v := 0) hx hb dX4_readWord_46 rfl ?_
        refine lv_istore_n (lv' := [(1, .int 0), (0, .ref (a 25))]) hx hb dX4_readWord_47 rfl hl (by decide) rfl (fun ls hl => ?_)
        have L48 : ∀ (n48 : Nat) (u48 : xU) (x1 : Int32) (H : Heap) (locs : List Loc) (ls : Array Slot), ((Int32.ofNat (xStL 7)).toInt - x1.toInt).toNat < n48 → s_X4_readWord u = s_X4_readWord_L48 n48 u48 x1 → lv_has ls 2 [(1, .int x1), (0, .ref (a 25))] → va_P (xD E) vwCl (wX E a u48) H → va_S (· ∈ LX a) s.heap H locs → W p l e rm_X4_readWord s m ([.ref (a 25)] : List Value).toArray below meth c H locs 0 0 (xQmd E below (LX a) (none) (wX E a (s_X4_readWord u)) ([.ref (a 25)] : List Value).toArray s) (F0 m 48 ls []) := by
          intro n48
          induction n48 with
          | zero => intro u48 x1 H locs ls hM48 hR hl hP hS; exact absurd hM48 (Nat.not_lt_zero _)
          | succ n48 ih48 =>
            intro u48 x1 H locs ls hM48 hR hl hP hS
            refine lv_iload_n hx hb dX4_readWord_48 rfl (lv_at hl 0 rfl) ?_
            refine va_getsN (C := RX5) (host := RX5) (ref := "RailOffsets") hx hb ((hF.2.2.1 7 (by decide)).1.narrow hA) hS hown (va_Nw.use rfl hF.2.1.2) (fun _ h => h) dX4_readWord_49 ?_
            refine va_slen hx hb (hF.2.2.1 7 (by decide)).2.1 (hF.2.2.1 7 (by decide)).2.2.1 (fun h => (hF.2.2.1 7 (by decide)).2.2.2 (hA _ h)) hS dX4_readWord_52 ?_
            refine lv_icmp_ge (tgt := 83) hx hb dX4_readWord_53 rfl (fun q2 => ?_) (fun q2 => ?_)
            · have hR := hR.trans (if_pos q2)
              have hR : s_X4_readWord u = u48 := hR
              exact W.vret hx hb hr (fun t ht _ => by rw [hR]; exact ⟨⟨rfl, by rw [ht]; exact hP⟩, hS.F ht⟩) hS.2.2 dX4_readWord_83
            · have hR := hR.trans (if_neg q2)
              refine lv_aload_n hx hb dX4_readWord_56 rfl (lv_at hl 1 rfl) ?_
              refine lv_iload_n hx hb dX4_readWord_57 rfl (lv_at hl 0 rfl) ?_
              refine xRoS (nL := 2) ⟨hx, hb, hml, hown, hts⟩ (c_X4_nameOf l E x1) (va_cwS 1 hts gX4_readWord_X4_nameOf rfl rfl rfl hd_X4_nameOf ⟨(Nat.le_of_ble_eq_true rfl), (Nat.le_of_ble_eq_true rfl)⟩) hF hS hA (hP.sub [] rfl) rfl hl.1 rfl (Nat.le_of_ble_eq_true rfl) ⟨(Nat.le_of_ble_eq_true rfl), (Nat.le_of_ble_eq_true rfl)⟩ dX4_readWord_58 ?_
              refine W.eq (g2 := F0 m 61 ls [.ref (xaK E (s_X4_nameOf x1)), .ref (a 25)]) rfl ?_
              refine xRoV (nL := 2) ⟨hx, hb, hml, hown, hts⟩ (c_X4_spells l E a u48 (s_X4_nameOf x1) (s_X4_nameOf_lt _) ) (cwV 1 hts gX4_readWord_X4_spells rfl rfl rfl ⟨rfl, hd_X4_spells⟩ ⟨(Nat.le_of_ble_eq_true rfl), (Nat.le_of_ble_eq_true rfl)⟩) hF hS hA hP (va_recv (q := (RX4, TX4, 9)) hK hP (ci := 4) rfl (q0 := 25) rfl) rfl hl.1 rfl (Nat.le_of_ble_eq_true rfl) ⟨(Nat.le_of_ble_eq_true rfl), (Nat.le_of_ble_eq_true rfl)⟩ dX4_readWord_61 ?_
              refine W.eq (g2 := F0 m 64 ls [.int (s_X4_spells (s_X4_nameOf x1) u48)]) rfl ?_
              refine lv_if_eq (tgt := 77) hx hb dX4_readWord_64 rfl (fun q3 => ?_) (fun q3 => ?_)
              · have hR := hR.trans (if_pos q3)
                refine lv_iinc (k := 0) (v := x1 + 1) (lv' := [(1, .int (x1 + 1)), (0, .ref (a 25))]) hx hb dX4_readWord_77 hl rfl rfl (by decide) rfl (fun ls hl => ?_)
                refine lv_goto (tgt := 48) hx hb dX4_readWord_80 rfl ?_
                exact ih48 u48 (x1 + 1) _ _ _ (Nat.lt_of_lt_of_le (xupc q2) (Nat.le_of_lt_succ hM48)) hR (lv_sub hl [0, 1] rfl) hP hS
              · have hR := hR.trans (if_neg q3)
                refine lv_aload_n hx hb dX4_readWord_67 rfl (lv_at hl 1 rfl) ?_
                refine lv_iconst (v := 0) hx hb dX4_readWord_68 rfl ?_
                refine va_put (D := xD E) (ci := 4) (v := .int 0) (ty := .int) (C := RX4) (T := TX4) (N := 9) hx hb hts (by decide +kernel) tyX4 tyX4_ok nmX4 hown hK hP (xD_of (ws := wX E a u48) (A := (· ∈ LX a)) hL.1 (fun _ h => h)) hS 25 rfl rfl 7 (by decide) (hts (.fieldLink RX4 34 "RailOffsets$Tape" "sort" "I") (by decide +kernel)) (fun _ h => h) rfl (by decide +kernel) rfl rfl (Nat.le_of_ble_eq_true rfl) dX4_readWord_69 (fun H locs hP _ hS => ?_)
                have hP : va_P (xD E) vwCl (wX E a (uZ u48 16 0)) H := hP
                refine lv_aload_n hx hb dX4_readWord_72 rfl (lv_at hl 1 rfl) ?_
                refine lv_iload_n hx hb dX4_readWord_73 rfl (lv_at hl 0 rfl) ?_
                refine va_put (D := xD E) (ci := 4) (v := .int x1) (ty := .int) (C := RX4) (T := TX4) (N := 9) hx hb hts (by decide +kernel) tyX4 tyX4_ok nmX4 hown hK hP (xD_of (ws := wX E a (uZ u48 16 0)) (A := (· ∈ LX a)) hL.1 (fun _ h => h)) hS 25 rfl rfl 8 (by decide) (hts (.fieldLink RX4 37 "RailOffsets$Tape" "value" "I") (by decide +kernel)) (fun _ h => h) rfl (by decide +kernel) rfl rfl (Nat.le_of_ble_eq_true rfl) dX4_readWord_74 (fun H locs hP _ hS => ?_)
                have hP : va_P (xD E) vwCl (wX E a (uZ (uZ u48 16 0) 17 x1)) H := hP
                refine lv_iinc (k := 0) (v := x1 + 1) (lv' := [(1, .int (x1 + 1)), (0, .ref (a 25))]) hx hb dX4_readWord_77 hl rfl rfl (by decide) rfl (fun ls hl => ?_)
                refine lv_goto (tgt := 48) hx hb dX4_readWord_80 rfl ?_
                exact ih48 (uZ (uZ u48 16 0) 17 x1) (x1 + 1) _ _ _ (Nat.lt_of_lt_of_le (xupc q2) (Nat.le_of_lt_succ hM48)) hR (lv_sub hl [0, 1] rfl) hP hS
        exact L48 (((Int32.ofNat (xStL 7)).toInt - (0 : Int32).toInt).toNat + 1) (uZ u0 16 4) 0 _ _ ls (Nat.lt_succ_self _) hR hl hP hS
      · have hR := hR.trans (if_neg q1)
        refine lv_aload_n hx hb dX4_readWord_11 rfl (lv_at hl 0 rfl) ?_
        refine va_get (D := xD E) (ci := 4) (v := .ref (a 26)) (C := RX4) (T := TX4) (N := 9) hx hb hts (by decide +kernel) hown hK hP 25 rfl rfl 0 (by decide) (hts (.fieldLink RX4 9 "RailOffsets$Tape" "bytes" "[I") (by decide +kernel)) (fun _ h => h) rfl dX4_readWord_12 ?_
        refine lv_aload_n hx hb dX4_readWord_15 rfl (lv_at hl 0 rfl) ?_
        refine va_get (D := xD E) (ci := 4) (v := .int (u0.2 14)) (C := RX4) (T := TX4) (N := 9) hx hb hts (by decide +kernel) hown hK hP 25 rfl rfl 5 (by decide) (hts (.fieldLink RX4 28 "RailOffsets$Tape" "here" "I") (by decide +kernel)) (fun _ h => h) rfl dX4_readWord_16 ?_
        refine xRoSN (nL := 2) ⟨hx, hb, hml, hown, hts⟩ (c_X5_cell l E (a 26) 60 (u0.1 26) (u0.2 14)) ⟨va_cnB (own := RX4) (host := RX5) (index := 44) (y := yX5_cell) 2 hts gX4_readWord_X5_cell_n44 rfl rfl rfl (hF.2.1.1 (RX4, 44, yX5_cell) (List.mem_of_getElem? (i := 11) rfl)) (hts (.initialized RX5) (by decide +kernel)) hd_X5_cell ⟨(Nat.le_of_ble_eq_true rfl), (Nat.le_of_ble_eq_true rfl)⟩, hts (.static yX5_cell) (by decide +kernel), trivial⟩ hF hS hA (hP.sub [26] rfl) rfl hl.1 rfl (Nat.le_of_ble_eq_true rfl) ⟨(Nat.le_of_ble_eq_true rfl), (Nat.le_of_ble_eq_true rfl)⟩ dX4_readWord_19 ?_
        refine W.eq (g2 := F0 m 22 ls [.int (s_X5_cell 60 (u0.1 26) (u0.2 14))]) rfl ?_
        refine xRoS (nL := 2) ⟨hx, hb, hml, hown, hts⟩ (c_X4_isLetter l E (s_X5_cell 60 (u0.1 26) (u0.2 14))) (va_cwS 1 hts gX4_readWord_X4_isLetter rfl rfl rfl hd_X4_isLetter ⟨(Nat.le_of_ble_eq_true rfl), (Nat.le_of_ble_eq_true rfl)⟩) hF hS hA (hP.sub [] rfl) rfl hl.1 rfl (Nat.le_of_ble_eq_true rfl) ⟨(Nat.le_of_ble_eq_true rfl), (Nat.le_of_ble_eq_true rfl)⟩ dX4_readWord_22 ?_
        refine W.eq (g2 := F0 m 25 ls [.int (s_X4_isLetter (s_X5_cell 60 (u0.1 26) (u0.2 14)))]) rfl ?_
        refine lv_if_eq (tgt := 41) hx hb dX4_readWord_25 rfl (fun q4 => ?_) (fun q4 => ?_)
        · have hR := hR.trans (if_pos q4)
          refine lv_aload_n hx hb dX4_readWord_41 rfl (lv_at hl 0 rfl) ?_
          refine lv_iconst (v := 4) hx hb dX4_readWord_42 rfl ?_
          refine va_put (D := xD E) (ci := 4) (v := .int 4) (ty := .int) (C := RX4) (T := TX4) (N := 9) hx hb hts (by decide +kernel) tyX4 tyX4_ok nmX4 hown hK hP (xD_of (ws := wX E a u0) (A := (· ∈ LX a)) hL.1 (fun _ h => h)) hS 25 rfl rfl 7 (by decide) (hts (.fieldLink RX4 34 "RailOffsets$Tape" "sort" "I") (by decide +kernel)) (fun _ h => h) rfl (by decide +kernel) rfl rfl (Nat.le_of_ble_eq_true rfl) dX4_readWord_43 (fun H locs hP _ hS => ?_)
          have hP : va_P (xD E) vwCl (wX E a (uZ u0 16 4)) H := hP
          refine lv_iconst (v := 0) hx hb dX4_readWord_46 rfl ?_
          refine lv_istore_n (lv' := [(1, .int 0), (0, .ref (a 25))]) hx hb dX4_readWord_47 rfl hl (by decide) rfl (fun ls hl => ?_)
          have L48 : ∀ (n48 : Nat) (u48 : xU) (x1 : Int32) (H : Heap) (locs : List Loc) (ls : Array Slot), ((Int32.ofNat (xStL 7)).toInt - x1.toInt).toNat < n48 → s_X4_readWord u = s_X4_readWord_L48 n48 u48 x1 → lv_has ls 2 [(1, .int x1), (0, .ref (a 25))] → va_P (xD E) vwCl (wX E a u48) H → va_S (· ∈ LX a) s.heap H locs → W p l e rm_X4_readWord s m ([.ref (a 25)] : List Value).toArray below meth c H locs 0 0 (xQmd E below (LX a) (none) (wX E a (s_X4_readWord u)) ([.ref (a 25)] : List Value).toArray s) (F0 m 48 ls []) := by
            intro n48
            induction n48 with
            | zero => intro u48 x1 H locs ls hM48 hR hl hP hS; exact absurd hM48 (Nat.not_lt_zero _)
            | succ n48 ih48 =>
              intro u48 x1 H locs ls hM48 hR hl hP hS
              refine lv_iload_n hx hb dX4_readWord_48 rfl (lv_at hl 0 rfl) ?_
              refine va_getsN (C := RX5) (host := RX5) (ref := "RailOffsets") hx hb ((hF.2.2.1 7 (by decide)).1.narrow hA) hS hown (va_Nw.use rfl hF.2.1.2) (fun _ h => h) dX4_readWord_49 ?_
              refine va_slen hx hb (hF.2.2.1 7 (by decide)).2.1 (hF.2.2.1 7 (by decide)).2.2.1 (fun h => (hF.2.2.1 7 (by decide)).2.2.2 (hA _ h)) hS dX4_readWord_52 ?_
              refine lv_icmp_ge (tgt := 83) hx hb dX4_readWord_53 rfl (fun q5 => ?_) (fun q5 => ?_)
              · have hR := hR.trans (if_pos q5)
                have hR : s_X4_readWord u = u48 := hR
                exact W.vret hx hb hr (fun t ht _ => by rw [hR]; exact ⟨⟨rfl, by rw [ht]; exact hP⟩, hS.F ht⟩) hS.2.2 dX4_readWord_83
              · have hR := hR.trans (if_neg q5)
                refine lv_aload_n hx hb dX4_readWord_56 rfl (lv_at hl 1 rfl) ?_
                refine lv_iload_n hx hb dX4_readWord_57 rfl (lv_at hl 0 rfl) ?_
                refine xRoS (nL := 2) ⟨hx, hb, hml, hown, hts⟩ (c_X4_nameOf l E x1) (va_cwS 1 hts gX4_readWord_X4_nameOf rfl rfl rfl hd_X4_nameOf ⟨(Nat.le_of_ble_eq_true rfl), (Nat.le_of_ble_eq_true rfl)⟩) hF hS hA (hP.sub [] rfl) rfl hl.1 rfl (Nat.le_of_ble_eq_true rfl) ⟨(Nat.le_of_ble_eq_true rfl), (Nat.le_of_ble_eq_true rfl)⟩ dX4_readWord_58 ?_
                refine W.eq (g2 := F0 m 61 ls [.ref (xaK E (s_X4_nameOf x1)), .ref (a 25)]) rfl ?_
                refine xRoV (nL := 2) ⟨hx, hb, hml, hown, hts⟩ (c_X4_spells l E a u48 (s_X4_nameOf x1) (s_X4_nameOf_lt _) ) (cwV 1 hts gX4_readWord_X4_spells rfl rfl rfl ⟨rfl, hd_X4_spells⟩ ⟨(Nat.le_of_ble_eq_true rfl), (Nat.le_of_ble_eq_true rfl)⟩) hF hS hA hP (va_recv (q := (RX4, TX4, 9)) hK hP (ci := 4) rfl (q0 := 25) rfl) rfl hl.1 rfl (Nat.le_of_ble_eq_true rfl) ⟨(Nat.le_of_ble_eq_true rfl), (Nat.le_of_ble_eq_true rfl)⟩ dX4_readWord_61 ?_
                refine W.eq (g2 := F0 m 64 ls [.int (s_X4_spells (s_X4_nameOf x1) u48)]) rfl ?_
                refine lv_if_eq (tgt := 77) hx hb dX4_readWord_64 rfl (fun q6 => ?_) (fun q6 => ?_)
                · have hR := hR.trans (if_pos q6)
                  refine lv_iinc (k := 0) (v := x1 + 1) (lv' := [(1, .int (x1 + 1)), (0, .ref (a 25))]) hx hb dX4_readWord_77 hl rfl rfl (by decide) rfl (fun ls hl => ?_)
                  refine lv_goto (tgt := 48) hx hb dX4_readWord_80 rfl ?_
                  exact ih48 u48 (x1 + 1) _ _ _ (Nat.lt_of_lt_of_le (xupc q5) (Nat.le_of_lt_succ hM48)) hR (lv_sub hl [0, 1] rfl) hP hS
                · have hR := hR.trans (if_neg q6)
                  refine lv_aload_n hx hb dX4_readWord_67 rfl (lv_at hl 1 rfl) ?_
                  refine lv_iconst (v := 0) hx hb dX4_readWord_68 rfl ?_
                  refine va_put (D := xD E) (ci := 4) (v := .int 0) (ty := .int) (C := RX4) (T := TX4) (N := 9) hx hb hts (by decide +kernel) tyX4 tyX4_ok nmX4 hown hK hP (xD_of (ws := wX E a u48) (A := (· ∈ LX a)) hL.1 (fun _ h => h)) hS 25 rfl rfl 7 (by decide) (hts (.fieldLink RX4 34 "RailOffsets$Tape" "sort" "I") (by decide +kernel)) (fun _ h => h) rfl (by decide +kernel) rfl rfl (Nat.le_of_ble_eq_true rfl) dX4_readWord_69 (fun H locs hP _ hS => ?_)
                  have hP : va_P (xD E) vwCl (wX E a (uZ u48 16 0)) H := hP
                  refine lv_aload_n hx hb dX4_readWord_72 rfl (lv_at hl 1 rfl) ?_
                  refine lv_iload_n hx hb dX4_readWord_73 rfl (lv_at hl 0 rfl) ?_
                  refine va_put (D := xD E) (ci := 4) (v := .int x1) (ty := .int) (C := RX4) (T := TX4) (N := 9) hx hb hts (by decide +kernel) tyX4 tyX4_ok nmX4 hown hK hP (xD_of (ws := wX E a (uZ u48 16 0)) (A := (· ∈ LX a)) hL.1 (fun _ h => h)) hS 25 rfl rfl 8 (by decide) (hts (.fieldLink RX4 37 "RailOffsets$Tape" "value" "I") (by decide +kernel)) (fun _ h => h) rfl (by decide +kernel) rfl rfl (Nat.le_of_ble_eq_true rfl) dX4_readWord_74 (fun H locs hP _ hS => ?_)
                  have hP : va_P (xD E) vwCl (wX E a (uZ (uZ u48 16 0) 17 x1)) H := hP
                  refine lv_iinc (k := 0) (v := x1 + 1) (lv' := [(1, .int (x1 + 1)), (0, .ref (a 25))]) hx hb dX4_readWord_77 hl rfl rfl (by decide) rfl (fun ls hl => ?_)
                  refine lv_goto (tgt := 48) hx hb dX4_readWord_80 rfl ?_
                  exact ih48 (uZ (uZ u48 16 0) 17 x1) (x1 + 1) _ _ _ (Nat.lt_of_lt_of_le (xupc q5) (Nat.le_of_lt_succ hM48)) hR (lv_sub hl [0, 1] rfl) hP hS
          exact L48 (((Int32.ofNat (xStL 7)).toInt - (0 : Int32).toInt).toNat + 1) (uZ u0 16 4) 0 _ _ ls (Nat.lt_succ_self _) hR hl hP hS
        · have hR := hR.trans (if_neg q4)
          refine lv_aload_n hx hb dX4_readWord_28 rfl (lv_at hl 0 rfl) ?_
          refine lv_dup hx hb dX4_readWord_29 rfl ?_
          refine va_get (D := xD E) (ci := 4) (v := .int (u0.2 14)) (C := RX4) (T := TX4) (N := 9) hx hb hts (by decide +kernel) hown hK hP 25 rfl rfl 5 (by decide) (hts (.fieldLink RX4 28 "RailOffsets$Tape" "here" "I") (by decide +kernel)) (fun _ h => h) rfl dX4_readWord_30 ?_
          refine lv_iconst (v := 1) hx hb dX4_readWord_33 rfl ?_
          refine lv_iadd hx hb dX4_readWord_34 ?_
          refine va_put (D := xD E) (ci := 4) (v := .int ((u0.2 14) + 1)) (ty := .int) (C := RX4) (T := TX4) (N := 9) hx hb hts (by decide +kernel) tyX4 tyX4_ok nmX4 hown hK hP (xD_of (ws := wX E a u0) (A := (· ∈ LX a)) hL.1 (fun _ h => h)) hS 25 rfl rfl 5 (by decide) (hts (.fieldLink RX4 28 "RailOffsets$Tape" "here" "I") (by decide +kernel)) (fun _ h => h) rfl (by decide +kernel) rfl rfl (Nat.le_of_ble_eq_true rfl) dX4_readWord_35 (fun H locs hP _ hS => ?_)
          have hP : va_P (xD E) vwCl (wX E a (uZ u0 14 ((u0.2 14) + 1))) H := hP
          refine lv_goto (tgt := 0) hx hb dX4_readWord_38 rfl ?_
          exact ih0 (uZ u0 14 ((u0.2 14) + 1)) _ _ _ (Nat.lt_of_lt_of_le (xupc (N := u0.2 12) (i := u0.2 14) q1) (Nat.le_of_lt_succ hM0)) hR (lv_sub hl [0] rfl) hP hS
  exact L0 (((u.2 12).toInt - (u.2 14).toInt).toNat + 1) u _ _ ls (Nat.lt_succ_self _) hR hl hP hS
def s_X4_readNumber_L43 : Nat → xU → Int32 → Int32 → Int32 → xU
  | 0, u, _, _, _ => u
  | n + 1, u, x1, x2, x3 =>
    if (u.2 12) ≤ (u.2 14) then
      if (s_X5_within ((u.2 14) - x2) 1 3) = 0 then
        if x1 = 0 then
          uZ (uZ u 16 4) 17 x3
        else
          uZ (uZ u 16 4) 17 (-x3)
      else
        if x1 = 0 then
          uZ (uZ u 16 1) 17 x3
        else
          uZ (uZ u 16 1) 17 (-x3)
    else
      if (s_X4_isDigit (s_X5_cell 60 (u.1 26) (u.2 14))) = 0 then
        if (s_X5_within ((u.2 14) - x2) 1 3) = 0 then
          if x1 = 0 then
            uZ (uZ u 16 4) 17 x3
          else
            uZ (uZ u 16 4) 17 (-x3)
        else
          if x1 = 0 then
            uZ (uZ u 16 1) 17 x3
          else
            uZ (uZ u 16 1) 17 (-x3)
      else
        s_X4_readNumber_L43 n (uZ u 14 ((u.2 14) + 1)) x1 x2 (((x3 * 10) + (s_X5_cell 60 (u.1 26) (u.2 14))) - 48)
def s_X4_readNumber (u : xU) : xU :=
  if (s_X5_cell 60 (u.1 26) (u.2 14)) = 45 then
    s_X4_readNumber_L43 ((((uZ u 14 ((u.2 14) + 1)).2 12).toInt - ((uZ u 14 ((u.2 14) + 1)).2 14).toInt).toNat + 1) (uZ u 14 ((u.2 14) + 1)) 1 ((uZ u 14 ((u.2 14) + 1)).2 14) 0
  else
    s_X4_readNumber_L43 (((u.2 12).toInt - (u.2 14).toInt).toNat + 1) u 0 (u.2 14) 0
abbrev rm_X4_readNumber : Room := { frames := 2, cells := 0, slots := 0, locals := 42 }
set_option maxHeartbeats 8000000 in
set_option maxRecDepth 100000 in
theorem c_X4_readNumber (l : Launch) (E : xG) (a : Nat → Nat) (u : xU)  (hL : xOK E (LX a)) : xMd l E yX4_readNumber wsX4_readNumber rm_X4_readNumber (LX a) [.ref (a 25)] (wX E a u) (none) (wX E a (s_X4_readNumber u)) := by
  refine xMd.of (cc := cX4_readNumber) (maxL := 5) (ret := none) (by decide) rfl (Nat.le_of_ble_eq_true rfl) ?_
  intro p e s m below meth c ls hAt hF hP hS hl
  obtain ⟨hx, hb, hr, hml, hown, hts, hlocks, -⟩ := hAt
  have hown : s.vm.findClass RX4 = some m.cls := hown
  have hl : lv_has ls 5 [(0, .ref (a 25))] := hl
  have hK := hF.1
  have hA := hL.2
  change W p l e rm_X4_readNumber s m ([.ref (a 25)] : List Value).toArray below meth c s.heap [] 0 0 (xQmd E below (LX a) (none) (wX E a (s_X4_readNumber u)) ([.ref (a 25)] : List Value).toArray s) _
  have hS : va_S (· ∈ LX a) s.heap s.heap [] := hS
  have hR : s_X4_readNumber u = s_X4_readNumber u := rfl
  refine lv_aload_n hx hb dX4_readNumber_0 rfl (lv_at hl 0 rfl) ?_
  refine va_get (D := xD E) (ci := 4) (v := .ref (a 26)) (C := RX4) (T := TX4) (N := 9) hx hb hts (by decide +kernel) hown hK hP 25 rfl rfl 0 (by decide) (hts (.fieldLink RX4 9 "RailOffsets$Tape" "bytes" "[I") (by decide +kernel)) (fun _ h => h) rfl dX4_readNumber_1 ?_
  refine lv_aload_n hx hb dX4_readNumber_4 rfl (lv_at hl 0 rfl) ?_
  refine va_get (D := xD E) (ci := 4) (v := .int (u.2 14)) (C := RX4) (T := TX4) (N := 9) hx hb hts (by decide +kernel) hown hK hP 25 rfl rfl 5 (by decide) (hts (.fieldLink RX4 28 "RailOffsets$Tape" "here" "I") (by decide +kernel)) (fun _ h => h) rfl dX4_readNumber_5 ?_
  refine xRoSN (nL := 5) ⟨hx, hb, hml, hown, hts⟩ (c_X5_cell l E (a 26) 60 (u.1 26) (u.2 14)) ⟨va_cnB (own := RX4) (host := RX5) (index := 44) (y := yX5_cell) 2 hts gX4_readNumber_X5_cell_n44 rfl rfl rfl (hF.2.1.1 (RX4, 44, yX5_cell) (List.mem_of_getElem? (i := 11) rfl)) (hts (.initialized RX5) (by decide +kernel)) hd_X5_cell ⟨(Nat.le_of_ble_eq_true rfl), (Nat.le_of_ble_eq_true rfl)⟩, hts (.static yX5_cell) (by decide +kernel), trivial⟩ hF hS hA (hP.sub [26] rfl) rfl hl.1 rfl (Nat.le_of_ble_eq_true rfl) ⟨(Nat.le_of_ble_eq_true rfl), (Nat.le_of_ble_eq_true rfl)⟩ dX4_readNumber_8 ?_
  refine W.eq (g2 := F0 m 11 ls [.int (s_X5_cell 60 (u.1 26) (u.2 14))]) rfl ?_
  refine lv_bipush (v := 45) hx hb dX4_readNumber_11 rfl ?_
  refine lv_icmp_ne (tgt := 20) hx hb dX4_readNumber_13 rfl (fun q1 => ?_) (fun q1 => ?_)
  · have hR := hR.trans (if_neg q1)
    refine lv_iconst (v := 0) hx hb dX4_readNumber_20 rfl ?_
    refine lv_istore_n (lv' := [(1, .int 0), (0, .ref (a 25))]) hx hb dX4_readNumber_21 rfl hl (by decide) rfl (fun ls hl => ?_)
    refine lv_iload_n hx hb dX4_readNumber_22 rfl (lv_at hl 0 rfl) ?_
    refine lv_if_eq (tgt := 36) hx hb dX4_readNumber_23 rfl (fun q => ?_) (fun q => absurd (by decide) q)
    refine lv_aload_n hx hb dX4_readNumber_36 rfl (lv_at hl 1 rfl) ?_
    refine va_get (D := xD E) (ci := 4) (v := .int (u.2 14)) (C := RX4) (T := TX4) (N := 9) hx hb hts (by decide +kernel) hown hK hP 25 rfl rfl 5 (by decide) (hts (.fieldLink RX4 28 "RailOffsets$Tape" "here" "I") (by decide +kernel)) (fun _ h => h) rfl dX4_readNumber_37 ?_
    refine lv_istore_n (lv' := [(2, .int (u.2 14)), (1, .int 0), (0, .ref (a 25))]) hx hb dX4_readNumber_40 rfl hl (by decide) rfl (fun ls hl => ?_)
    refine lv_iconst (v := 0) hx hb dX4_readNumber_41 rfl ?_
    refine lv_istore_n (lv' := [(3, .int 0), (2, .int (u.2 14)), (1, .int 0), (0, .ref (a 25))]) hx hb dX4_readNumber_42 rfl hl (by decide) rfl (fun ls hl => ?_)
    have L43 : ∀ (n43 : Nat) (u43 : xU) (x3 : Int32) (H : Heap) (locs : List Loc) (ls : Array Slot), ((u43.2 12).toInt - (u43.2 14).toInt).toNat < n43 → s_X4_readNumber u = s_X4_readNumber_L43 n43 u43 0 (u.2 14) x3 → lv_has ls 5 [(3, .int x3), (2, .int (u.2 14)), (1, .int 0), (0, .ref (a 25))] → va_P (xD E) vwCl (wX E a u43) H → va_S (· ∈ LX a) s.heap H locs → W p l e rm_X4_readNumber s m ([.ref (a 25)] : List Value).toArray below meth c H locs 0 0 (xQmd E below (LX a) (none) (wX E a (s_X4_readNumber u)) ([.ref (a 25)] : List Value).toArray s) (F0 m 43 ls []) := by
      intro n43
      induction n43 with
      | zero => intro u43 x3 H locs ls hM43 hR hl hP hS; exact absurd hM43 (Nat.not_lt_zero _)
      | succ n43 ih43 =>
        intro u43 x3 H locs ls hM43 hR hl hP hS
        refine lv_aload_n hx hb dX4_readNumber_43 rfl (lv_at hl 3 rfl) ?_
        refine va_get (D := xD E) (ci := 4) (v := .int (u43.2 14)) (C := RX4) (T := TX4) (N := 9) hx hb hts (by decide +kernel) hown hK hP 25 rfl rfl 5 (by decide) (hts (.fieldLink RX4 28 "RailOffsets$Tape" "here" "I") (by decide +kernel)) (fun _ h => h) rfl dX4_readNumber_44 ?_
        refine lv_aload_n hx hb dX4_readNumber_47 rfl (lv_at hl 3 rfl) ?_
        refine va_get (D := xD E) (ci := 4) (v := .int (u43.2 12)) (C := RX4) (T := TX4) (N := 9) hx hb hts (by decide +kernel) hown hK hP 25 rfl rfl 3 (by decide) (hts (.fieldLink RX4 21 "RailOffsets$Tape" "size" "I") (by decide +kernel)) (fun _ h => h) rfl dX4_readNumber_48 ?_
        refine lv_icmp_ge (tgt := 104) hx hb dX4_readNumber_51 rfl (fun q2 => ?_) (fun q2 => ?_)
        · have hR := hR.trans (if_pos q2)
          refine lv_aload_n hx hb dX4_readNumber_104 rfl (lv_at hl 3 rfl) ?_
          refine va_get (D := xD E) (ci := 4) (v := .int (u43.2 14)) (C := RX4) (T := TX4) (N := 9) hx hb hts (by decide +kernel) hown hK hP 25 rfl rfl 5 (by decide) (hts (.fieldLink RX4 28 "RailOffsets$Tape" "here" "I") (by decide +kernel)) (fun _ h => h) rfl dX4_readNumber_105 ?_
          refine lv_iload_n hx hb dX4_readNumber_108 rfl (lv_at hl 1 rfl) ?_
          refine lv_isub hx hb dX4_readNumber_109 ?_
          refine lv_istore (lv' := [(4, .int ((u43.2 14) - (u.2 14))), (3, .int x3), (2, .int (u.2 14)), (1, .int 0), (0, .ref (a 25))]) hx hb dX4_readNumber_110 hl (by decide) rfl (fun ls hl => ?_)
          refine lv_aload_n hx hb dX4_readNumber_112 rfl (lv_at hl 4 rfl) ?_
          refine lv_iload hx hb dX4_readNumber_113 (lv_at hl 0 rfl) ?_
          refine lv_iconst (v := 1) hx hb dX4_readNumber_115 rfl ?_
          refine lv_iconst (v := 3) hx hb dX4_readNumber_116 rfl ?_
          refine xRoSN (nL := 5) ⟨hx, hb, hml, hown, hts⟩ (c_X5_within l E ((u43.2 14) - (u.2 14)) 1 3) ⟨va_cnB (own := RX4) (host := RX5) (index := 82) (y := yX5_within) 3 hts gX4_readNumber_X5_within_n82 rfl rfl rfl (hF.2.1.1 (RX4, 82, yX5_within) (List.mem_of_getElem? (i := 12) rfl)) (hts (.initialized RX5) (by decide +kernel)) hd_X5_within ⟨(Nat.le_of_ble_eq_true rfl), (Nat.le_of_ble_eq_true rfl)⟩, hts (.static yX5_within) (by decide +kernel), trivial⟩ hF hS hA (hP.sub [] rfl) rfl hl.1 rfl (Nat.le_of_ble_eq_true rfl) ⟨(Nat.le_of_ble_eq_true rfl), (Nat.le_of_ble_eq_true rfl)⟩ dX4_readNumber_117 ?_
          refine W.eq (g2 := F0 m 120 ls [.int (s_X5_within ((u43.2 14) - (u.2 14)) 1 3), .ref (a 25)]) rfl ?_
          refine lv_if_eq (tgt := 127) hx hb dX4_readNumber_120 rfl (fun q3 => ?_) (fun q3 => ?_)
          · have hR := hR.trans (if_pos q3)
            refine lv_iconst (v := 4) hx hb dX4_readNumber_127 rfl ?_
            refine va_put (D := xD E) (ci := 4) (v := .int 4) (ty := .int) (C := RX4) (T := TX4) (N := 9) hx hb hts (by decide +kernel) tyX4 tyX4_ok nmX4 hown hK hP (xD_of (ws := wX E a u43) (A := (· ∈ LX a)) hL.1 (fun _ h => h)) hS 25 rfl rfl 7 (by decide) (hts (.fieldLink RX4 34 "RailOffsets$Tape" "sort" "I") (by decide +kernel)) (fun _ h => h) rfl (by decide +kernel) rfl rfl (Nat.le_of_ble_eq_true rfl) dX4_readNumber_128 (fun H locs hP _ hS => ?_)
            have hP : va_P (xD E) vwCl (wX E a (uZ u43 16 4)) H := hP
            refine lv_aload_n hx hb dX4_readNumber_131 rfl (lv_at hl 4 rfl) ?_
            refine lv_iload_n hx hb dX4_readNumber_132 rfl (lv_at hl 3 rfl) ?_
            refine lv_if_eq (tgt := 141) hx hb dX4_readNumber_133 rfl (fun q => ?_) (fun q => absurd (by decide) q)
            refine lv_iload_n hx hb dX4_readNumber_141 rfl (lv_at hl 1 rfl) ?_
            refine va_put (D := xD E) (ci := 4) (v := .int x3) (ty := .int) (C := RX4) (T := TX4) (N := 9) hx hb hts (by decide +kernel) tyX4 tyX4_ok nmX4 hown hK hP (xD_of (ws := wX E a (uZ u43 16 4)) (A := (· ∈ LX a)) hL.1 (fun _ h => h)) hS 25 rfl rfl 8 (by decide) (hts (.fieldLink RX4 37 "RailOffsets$Tape" "value" "I") (by decide +kernel)) (fun _ h => h) rfl (by decide +kernel) rfl rfl (Nat.le_of_ble_eq_true rfl) dX4_readNumber_142 (fun H locs hP _ hS => ?_)
            have hP : va_P (xD E) vwCl (wX E a (uZ (uZ u43 16 4) 17 x3)) H := hP
            have hR : s_X4_readNumber u = uZ (uZ u43 16 4) 17 x3 := hR
            exact W.vret hx hb hr (fun t ht _ => by rw [hR]; exact ⟨⟨rfl, by rw [ht]; exact hP⟩, hS.F ht⟩) hS.2.2 dX4_readNumber_145
          · have hR := hR.trans (if_neg q3)
            refine lv_iconst (v := 1) hx hb dX4_readNumber_123 rfl ?_
            refine lv_goto (tgt := 128) hx hb dX4_readNumber_124 rfl ?_
            refine va_put (D := xD E) (ci := 4) (v := .int 1) (ty := .int) (C := RX4) (T := TX4) (N := 9) hx hb hts (by decide +kernel) tyX4 tyX4_ok nmX4 hown hK hP (xD_of (ws := wX E a u43) (A := (· ∈ LX a)) hL.1 (fun _ h => h)) hS 25 rfl rfl 7 (by decide) (hts (.fieldLink RX4 34 "RailOffsets$Tape" "sort" "I") (by decide +kernel)) (fun _ h => h) rfl (by decide +kernel) rfl rfl (Nat.le_of_ble_eq_true rfl) dX4_readNumber_128 (fun H locs hP _ hS => ?_)
            have hP : va_P (xD E) vwCl (wX E a (uZ u43 16 1)) H := hP
            refine lv_aload_n hx hb dX4_readNumber_131 rfl (lv_at hl 4 rfl) ?_
            refine lv_iload_n hx hb dX4_readNumber_132 rfl (lv_at hl 3 rfl) ?_
            refine lv_if_eq (tgt := 141) hx hb dX4_readNumber_133 rfl (fun q => ?_) (fun q => absurd (by decide) q)
            refine lv_iload_n hx hb dX4_readNumber_141 rfl (lv_at hl 1 rfl) ?_
            refine va_put (D := xD E) (ci := 4) (v := .int x3) (ty := .int) (C := RX4) (T := TX4) (N := 9) hx hb hts (by decide +kernel) tyX4 tyX4_ok nmX4 hown hK hP (xD_of (ws := wX E a (uZ u43 16 1)) (A := (· ∈ LX a)) hL.1 (fun _ h => h)) hS 25 rfl rfl 8 (by decide) (hts (.fieldLink RX4 37 "RailOffsets$Tape" "value" "I") (by decide +kernel)) (fun _ h => h) rfl (by decide +kernel) rfl rfl (Nat.le_of_ble_eq_true rfl) dX4_readNumber_142 (fun H locs hP _ hS => ?_)
            have hP : va_P (xD E) vwCl (wX E a (uZ (uZ u43 16 1) 17 x3)) H := hP
            have hR : s_X4_readNumber u = uZ (uZ u43 16 1) 17 x3 := hR
            exact W.vret hx hb hr (fun t ht _ => by rw [hR]; exact ⟨⟨rfl, by rw [ht]; exact hP⟩, hS.F ht⟩) hS.2.2 dX4_readNumber_145
        · have hR := hR.trans (if_neg q2)
          refine lv_aload_n hx hb dX4_readNumber_54 rfl (lv_at hl 3 rfl) ?_
          refine va_get (D := xD E) (ci := 4) (v := .ref (a 26)) (C := RX4) (T := TX4) (N := 9) hx hb hts (by decide +kernel) hown hK hP 25 rfl rfl 0 (by decide) (hts (.fieldLink RX4 9 "RailOffsets$Tape" "bytes" "[I") (by decide +kernel)) (fun _ h => h) rfl dX4_readNumber_55 ?_
          refine lv_aload_n hx hb dX4_readNumber_58 rfl (lv_at hl 3 rfl) ?_
          refine va_get (D := xD E) (ci := 4) (v := .int (u43.2 14)) (C := RX4) (T := TX4) (N := 9) hx hb hts (by decide +kernel) hown hK hP 25 rfl rfl 5 (by decide) (hts (.fieldLink RX4 28 "RailOffsets$Tape" "here" "I") (by decide +kernel)) (fun _ h => h) rfl dX4_readNumber_59 ?_
          refine xRoSN (nL := 5) ⟨hx, hb, hml, hown, hts⟩ (c_X5_cell l E (a 26) 60 (u43.1 26) (u43.2 14)) ⟨va_cnB (own := RX4) (host := RX5) (index := 44) (y := yX5_cell) 2 hts gX4_readNumber_X5_cell_n44 rfl rfl rfl (hF.2.1.1 (RX4, 44, yX5_cell) (List.mem_of_getElem? (i := 11) rfl)) (hts (.initialized RX5) (by decide +kernel)) hd_X5_cell ⟨(Nat.le_of_ble_eq_true rfl), (Nat.le_of_ble_eq_true rfl)⟩, hts (.static yX5_cell) (by decide +kernel), trivial⟩ hF hS hA (hP.sub [26] rfl) rfl hl.1 rfl (Nat.le_of_ble_eq_true rfl) ⟨(Nat.le_of_ble_eq_true rfl), (Nat.le_of_ble_eq_true rfl)⟩ dX4_readNumber_62 ?_
          refine W.eq (g2 := F0 m 65 ls [.int (s_X5_cell 60 (u43.1 26) (u43.2 14))]) rfl ?_
          refine xRoS (nL := 5) ⟨hx, hb, hml, hown, hts⟩ (c_X4_isDigit l E (s_X5_cell 60 (u43.1 26) (u43.2 14))) (va_cwS 1 hts gX4_readNumber_X4_isDigit rfl rfl rfl hd_X4_isDigit ⟨(Nat.le_of_ble_eq_true rfl), (Nat.le_of_ble_eq_true rfl)⟩) hF hS hA (hP.sub [] rfl) rfl hl.1 rfl (Nat.le_of_ble_eq_true rfl) ⟨(Nat.le_of_ble_eq_true rfl), (Nat.le_of_ble_eq_true rfl)⟩ dX4_readNumber_65 ?_
          refine W.eq (g2 := F0 m 68 ls [.int (s_X4_isDigit (s_X5_cell 60 (u43.1 26) (u43.2 14)))]) rfl ?_
          refine lv_if_eq (tgt := 104) hx hb dX4_readNumber_68 rfl (fun q4 => ?_) (fun q4 => ?_)
          · have hR := hR.trans (if_pos q4)
            refine lv_aload_n hx hb dX4_readNumber_104 rfl (lv_at hl 3 rfl) ?_
            refine va_get (D := xD E) (ci := 4) (v := .int (u43.2 14)) (C := RX4) (T := TX4) (N := 9) hx hb hts (by decide +kernel) hown hK hP 25 rfl rfl 5 (by decide) (hts (.fieldLink RX4 28 "RailOffsets$Tape" "here" "I") (by decide +kernel)) (fun _ h => h) rfl dX4_readNumber_105 ?_
            refine lv_iload_n hx hb dX4_readNumber_108 rfl (lv_at hl 1 rfl) ?_
            refine lv_isub hx hb dX4_readNumber_109 ?_
            refine lv_istore (lv' := [(4, .int ((u43.2 14) - (u.2 14))), (3, .int x3), (2, .int (u.2 14)), (1, .int 0), (0, .ref (a 25))]) hx hb dX4_readNumber_110 hl (by decide) rfl (fun ls hl => ?_)
            refine lv_aload_n hx hb dX4_readNumber_112 rfl (lv_at hl 4 rfl) ?_
            refine lv_iload hx hb dX4_readNumber_113 (lv_at hl 0 rfl) ?_
            refine lv_iconst (v := 1) hx hb dX4_readNumber_115 rfl ?_
            refine lv_iconst (v := 3) hx hb dX4_readNumber_116 rfl ?_
            refine xRoSN (nL := 5) ⟨hx, hb, hml, hown, hts⟩ (c_X5_within l E ((u43.2 14) - (u.2 14)) 1 3) ⟨va_cnB (own := RX4) (host := RX5) (index := 82) (y := yX5_within) 3 hts gX4_readNumber_X5_within_n82 rfl rfl rfl (hF.2.1.1 (RX4, 82, yX5_within) (List.mem_of_getElem? (i := 12) rfl)) (hts (.initialized RX5) (by decide +kernel)) hd_X5_within ⟨(Nat.le_of_ble_eq_true rfl), (Nat.le_of_ble_eq_true rfl)⟩, hts (.static yX5_within) (by decide +kernel), trivial⟩ hF hS hA (hP.sub [] rfl) rfl hl.1 rfl (Nat.le_of_ble_eq_true rfl) ⟨(Nat.le_of_ble_eq_true rfl), (Nat.le_of_ble_eq_true rfl)⟩ dX4_readNumber_117 ?_
            refine W.eq (g2 := F0 m 120 ls [.int (s_X5_within ((u43.2 14) - (u.2 14)) 1 3), .ref (a 25)]) rfl ?_
            refine lv_if_eq (tgt := 127) hx hb dX4_readNumber_120 rfl (fun q5 => ?_) (fun q5 => ?_)
            · have hR := hR.trans (if_pos q5)
              refine lv_iconst (v := 4) hx hb dX4_readNumber_127 rfl ?_
              refine va_put (D := xD E) (ci := 4) (v := .int 4) (ty := .int) (C := RX4) (T := TX4) (N := 9) hx hb hts (by decide +kernel) tyX4 tyX4_ok nmX4 hown hK hP (xD_of (ws := wX E a u43) (A := (· ∈ LX a)) hL.1 (fun _ h => h)) hS 25 rfl rfl 7 (by decide) (hts (.fieldLink RX4 34 "RailOffsets$Tape" "sort" "I") (by decide +kernel)) (fun _ h => h) rfl (by decide +kernel) rfl rfl (Nat.le_of_ble_eq_true rfl) dX4_readNumber_128 (fun H locs hP _ hS => ?_)
              have hP : va_P (xD E) vwCl (wX E a (uZ u43 16 4)) H := hP
              refine lv_aload_n hx hb dX4_readNumber_131 rfl (lv_at hl 4 rfl) ?_
              refine lv_iload_n hx hb dX4_readNumber_132 rfl (lv_at hl 3 rfl) ?_
              refine lv_if_eq (tgt := 141) hx hb dX4_readNumber_133 rfl (fun q => ?_) (fun q => absurd (by decide) q)
              refine lv_iload_n hx hb dX4_readNumber_141 rfl (lv_at hl 1 rfl) ?_
              refine va_put (D := xD E) (ci := 4) (v := .int x3) (ty := .int) (C := RX4) (T := TX4) (N := 9) hx hb hts (by decide +kernel) tyX4 tyX4_ok nmX4 hown hK hP (xD_of (ws := wX E a (uZ u43 16 4)) (A := (· ∈ LX a)) hL.1 (fun _ h => h)) hS 25 rfl rfl 8 (by decide) (hts (.fieldLink RX4 37 "RailOffsets$Tape" "value" "I") (by decide +kernel)) (fun _ h => h) rfl (by decide +kernel) rfl rfl (Nat.le_of_ble_eq_true rfl) dX4_readNumber_142 (fun H locs hP _ hS => ?_)
              have hP : va_P (xD E) vwCl (wX E a (uZ (uZ u43 16 4) 17 x3)) H := hP
              have hR : s_X4_readNumber u = uZ (uZ u43 16 4) 17 x3 := hR
              exact W.vret hx hb hr (fun t ht _ => by rw [hR]; exact ⟨⟨rfl, by rw [ht]; exact hP⟩, hS.F ht⟩) hS.2.2 dX4_readNumber_145
            · have hR := hR.trans (if_neg q5)
              refine lv_iconst (v := 1) hx hb dX4_readNumber_123 rfl ?_
              refine lv_goto (tgt := 128) hx hb dX4_readNumber_124 rfl ?_
              refine va_put (D := xD E) (ci := 4) (v := .int 1) (ty := .int) (C := RX4) (T := TX4) (N := 9) hx hb hts (by decide +kernel) tyX4 tyX4_ok nmX4 hown hK hP (xD_of (ws := wX E a u43) (A := (· ∈ LX a)) hL.1 (fun _ h => h)) hS 25 rfl rfl 7 (by decide) (hts (.fieldLink RX4 34 "RailOffsets$Tape" "sort" "I") (by decide +kernel)) (fun _ h => h) rfl (by decide +kernel) rfl rfl (Nat.le_of_ble_eq_true rfl) dX4_readNumber_128 (fun H locs hP _ hS => ?_)
              have hP : va_P (xD E) vwCl (wX E a (uZ u43 16 1)) H := hP
              refine lv_aload_n hx hb dX4_readNumber_131 rfl (lv_at hl 4 rfl) ?_
              refine lv_iload_n hx hb dX4_readNumber_132 rfl (lv_at hl 3 rfl) ?_
              refine lv_if_eq (tgt := 141) hx hb dX4_readNumber_133 rfl (fun q => ?_) (fun q => absurd (by decide) q)
              refine lv_iload_n hx hb dX4_readNumber_141 rfl (lv_at hl 1 rfl) ?_
              refine va_put (D := xD E) (ci := 4) (v := .int x3) (ty := .int) (C := RX4) (T := TX4) (N := 9) hx hb hts (by decide +kernel) tyX4 tyX4_ok nmX4 hown hK hP (xD_of (ws := wX E a (uZ u43 16 1)) (A := (· ∈ LX a)) hL.1 (fun _ h => h)) hS 25 rfl rfl 8 (by decide) (hts (.fieldLink RX4 37 "RailOffsets$Tape" "value" "I") (by decide +kernel)) (fun _ h => h) rfl (by decide +kernel) rfl rfl (Nat.le_of_ble_eq_true rfl) dX4_readNumber_142 (fun H locs hP _ hS => ?_)
              have hP : va_P (xD E) vwCl (wX E a (uZ (uZ u43 16 1) 17 x3)) H := hP
              have hR : s_X4_readNumber u = uZ (uZ u43 16 1) 17 x3 := hR
              exact W.vret hx hb hr (fun t ht _ => by rw [hR]; exact ⟨⟨rfl, by rw [ht]; exact hP⟩, hS.F ht⟩) hS.2.2 dX4_readNumber_145
          · have hR := hR.trans (if_neg q4)
            refine lv_iload_n hx hb dX4_readNumber_71 rfl (lv_at hl 0 rfl) ?_
            refine lv_bipush (v := 10) hx hb dX4_readNumber_72 rfl ?_
            refine lv_imul hx hb dX4_readNumber_74 ?_
            refine lv_aload_n hx hb dX4_readNumber_75 rfl (lv_at hl 3 rfl) ?_
            refine va_get (D := xD E) (ci := 4) (v := .ref (a 26)) (C := RX4) (T := TX4) (N := 9) hx hb hts (by decide +kernel) hown hK hP 25 rfl rfl 0 (by decide) (hts (.fieldLink RX4 9 "RailOffsets$Tape" "bytes" "[I") (by decide +kernel)) (fun _ h => h) rfl dX4_readNumber_76 ?_
            refine lv_aload_n hx hb dX4_readNumber_79 rfl (lv_at hl 3 rfl) ?_
            refine va_get (D := xD E) (ci := 4) (v := .int (u43.2 14)) (C := RX4) (T := TX4) (N := 9) hx hb hts (by decide +kernel) hown hK hP 25 rfl rfl 5 (by decide) (hts (.fieldLink RX4 28 "RailOffsets$Tape" "here" "I") (by decide +kernel)) (fun _ h => h) rfl dX4_readNumber_80 ?_
            refine xRoSN (nL := 5) ⟨hx, hb, hml, hown, hts⟩ (c_X5_cell l E (a 26) 60 (u43.1 26) (u43.2 14)) ⟨va_cnB (own := RX4) (host := RX5) (index := 44) (y := yX5_cell) 2 hts gX4_readNumber_X5_cell_n44 rfl rfl rfl (hF.2.1.1 (RX4, 44, yX5_cell) (List.mem_of_getElem? (i := 11) rfl)) (hts (.initialized RX5) (by decide +kernel)) hd_X5_cell ⟨(Nat.le_of_ble_eq_true rfl), (Nat.le_of_ble_eq_true rfl)⟩, hts (.static yX5_cell) (by decide +kernel), trivial⟩ hF hS hA (hP.sub [26] rfl) rfl hl.1 rfl (Nat.le_of_ble_eq_true rfl) ⟨(Nat.le_of_ble_eq_true rfl), (Nat.le_of_ble_eq_true rfl)⟩ dX4_readNumber_83 ?_
            refine W.eq (g2 := F0 m 86 ls [.int (s_X5_cell 60 (u43.1 26) (u43.2 14)), .int (x3 * 10)]) rfl ?_
            refine lv_iadd hx hb dX4_readNumber_86 ?_
            refine lv_bipush (v := 48) hx hb dX4_readNumber_87 rfl ?_
            refine lv_isub hx hb dX4_readNumber_89 ?_
            refine lv_istore_n (lv' := [(3, .int (((x3 * 10) + (s_X5_cell 60 (u43.1 26) (u43.2 14))) - 48)), (2, .int (u.2 14)), (1, .int 0), (0, .ref (a 25))]) hx hb dX4_readNumber_90 rfl hl (by decide) rfl (fun ls hl => ?_)
            refine lv_aload_n hx hb dX4_readNumber_91 rfl (lv_at hl 3 rfl) ?_
            refine lv_dup hx hb dX4_readNumber_92 rfl ?_
            refine va_get (D := xD E) (ci := 4) (v := .int (u43.2 14)) (C := RX4) (T := TX4) (N := 9) hx hb hts (by decide +kernel) hown hK hP 25 rfl rfl 5 (by decide) (hts (.fieldLink RX4 28 "RailOffsets$Tape" "here" "I") (by decide +kernel)) (fun _ h => h) rfl dX4_readNumber_93 ?_
            refine lv_iconst (v := 1) hx hb dX4_readNumber_96 rfl ?_
            refine lv_iadd hx hb dX4_readNumber_97 ?_
            refine va_put (D := xD E) (ci := 4) (v := .int ((u43.2 14) + 1)) (ty := .int) (C := RX4) (T := TX4) (N := 9) hx hb hts (by decide +kernel) tyX4 tyX4_ok nmX4 hown hK hP (xD_of (ws := wX E a u43) (A := (· ∈ LX a)) hL.1 (fun _ h => h)) hS 25 rfl rfl 5 (by decide) (hts (.fieldLink RX4 28 "RailOffsets$Tape" "here" "I") (by decide +kernel)) (fun _ h => h) rfl (by decide +kernel) rfl rfl (Nat.le_of_ble_eq_true rfl) dX4_readNumber_98 (fun H locs hP _ hS => ?_)
            have hP : va_P (xD E) vwCl (wX E a (uZ u43 14 ((u43.2 14) + 1))) H := hP
            refine lv_goto (tgt := 43) hx hb dX4_readNumber_101 rfl ?_
            exact ih43 (uZ u43 14 ((u43.2 14) + 1)) (((x3 * 10) + (s_X5_cell 60 (u43.1 26) (u43.2 14))) - 48) _ _ _ (Nat.lt_of_lt_of_le (xupc (N := u43.2 12) (i := u43.2 14) q2) (Nat.le_of_lt_succ hM43)) hR (lv_sub hl [0, 1, 2, 3] rfl) hP hS
    exact L43 (((u.2 12).toInt - (u.2 14).toInt).toNat + 1) u 0 _ _ ls (Nat.lt_succ_self _) hR hl hP hS
  · have hR := hR.trans (if_pos q1)
    refine lv_iconst (v := 1) hx hb dX4_readNumber_16 rfl ?_
    refine lv_goto (tgt := 21) hx hb dX4_readNumber_17 rfl ?_
    refine lv_istore_n (lv' := [(1, .int 1), (0, .ref (a 25))]) hx hb dX4_readNumber_21 rfl hl (by decide) rfl (fun ls hl => ?_)
    refine lv_iload_n hx hb dX4_readNumber_22 rfl (lv_at hl 0 rfl) ?_
    refine lv_if_eq (tgt := 36) hx hb dX4_readNumber_23 rfl (fun q => absurd q (by decide)) (fun q => ?_)
    refine lv_aload_n hx hb dX4_readNumber_26 rfl (lv_at hl 1 rfl) ?_
    refine lv_dup hx hb dX4_readNumber_27 rfl ?_
    refine va_get (D := xD E) (ci := 4) (v := .int (u.2 14)) (C := RX4) (T := TX4) (N := 9) hx hb hts (by decide +kernel) hown hK hP 25 rfl rfl 5 (by decide) (hts (.fieldLink RX4 28 "RailOffsets$Tape" "here" "I") (by decide +kernel)) (fun _ h => h) rfl dX4_readNumber_28 ?_
    refine lv_iconst (v := 1) hx hb dX4_readNumber_31 rfl ?_
    refine lv_iadd hx hb dX4_readNumber_32 ?_
    refine va_put (D := xD E) (ci := 4) (v := .int ((u.2 14) + 1)) (ty := .int) (C := RX4) (T := TX4) (N := 9) hx hb hts (by decide +kernel) tyX4 tyX4_ok nmX4 hown hK hP (xD_of (ws := wX E a u) (A := (· ∈ LX a)) hL.1 (fun _ h => h)) hS 25 rfl rfl 5 (by decide) (hts (.fieldLink RX4 28 "RailOffsets$Tape" "here" "I") (by decide +kernel)) (fun _ h => h) rfl (by decide +kernel) rfl rfl (Nat.le_of_ble_eq_true rfl) dX4_readNumber_33 (fun H locs hP _ hS => ?_)
    have hP : va_P (xD E) vwCl (wX E a (uZ u 14 ((u.2 14) + 1))) H := hP
    refine lv_aload_n hx hb dX4_readNumber_36 rfl (lv_at hl 1 rfl) ?_
    refine va_get (D := xD E) (ci := 4) (v := .int ((uZ u 14 ((u.2 14) + 1)).2 14)) (C := RX4) (T := TX4) (N := 9) hx hb hts (by decide +kernel) hown hK hP 25 rfl rfl 5 (by decide) (hts (.fieldLink RX4 28 "RailOffsets$Tape" "here" "I") (by decide +kernel)) (fun _ h => h) rfl dX4_readNumber_37 ?_
    refine lv_istore_n (lv' := [(2, .int ((uZ u 14 ((u.2 14) + 1)).2 14)), (1, .int 1), (0, .ref (a 25))]) hx hb dX4_readNumber_40 rfl hl (by decide) rfl (fun ls hl => ?_)
    refine lv_iconst (v := 0) hx hb dX4_readNumber_41 rfl ?_
    refine lv_istore_n (lv' := [(3, .int 0), (2, .int ((uZ u 14 ((u.2 14) + 1)).2 14)), (1, .int 1), (0, .ref (a 25))]) hx hb dX4_readNumber_42 rfl hl (by decide) rfl (fun ls hl => ?_)
    have L43 : ∀ (n43 : Nat) (u43 : xU) (x3 : Int32) (H : Heap) (locs : List Loc) (ls : Array Slot), ((u43.2 12).toInt - (u43.2 14).toInt).toNat < n43 → s_X4_readNumber u = s_X4_readNumber_L43 n43 u43 1 ((uZ u 14 ((u.2 14) + 1)).2 14) x3 → lv_has ls 5 [(3, .int x3), (2, .int ((uZ u 14 ((u.2 14) + 1)).2 14)), (1, .int 1), (0, .ref (a 25))] → va_P (xD E) vwCl (wX E a u43) H → va_S (· ∈ LX a) s.heap H locs → W p l e rm_X4_readNumber s m ([.ref (a 25)] : List Value).toArray below meth c H locs 0 0 (xQmd E below (LX a) (none) (wX E a (s_X4_readNumber u)) ([.ref (a 25)] : List Value).toArray s) (F0 m 43 ls []) := by
      intro n43
      induction n43 with
      | zero => intro u43 x3 H locs ls hM43 hR hl hP hS; exact absurd hM43 (Nat.not_lt_zero _)
      | succ n43 ih43 =>
        intro u43 x3 H locs ls hM43 hR hl hP hS
        refine lv_aload_n hx hb dX4_readNumber_43 rfl (lv_at hl 3 rfl) ?_
        refine va_get (D := xD E) (ci := 4) (v := .int (u43.2 14)) (C := RX4) (T := TX4) (N := 9) hx hb hts (by decide +kernel) hown hK hP 25 rfl rfl 5 (by decide) (hts (.fieldLink RX4 28 "RailOffsets$Tape" "here" "I") (by decide +kernel)) (fun _ h => h) rfl dX4_readNumber_44 ?_
        refine lv_aload_n hx hb dX4_readNumber_47 rfl (lv_at hl 3 rfl) ?_
        refine va_get (D := xD E) (ci := 4) (v := .int (u43.2 12)) (C := RX4) (T := TX4) (N := 9) hx hb hts (by decide +kernel) hown hK hP 25 rfl rfl 3 (by decide) (hts (.fieldLink RX4 21 "RailOffsets$Tape" "size" "I") (by decide +kernel)) (fun _ h => h) rfl dX4_readNumber_48 ?_
        refine lv_icmp_ge (tgt := 104) hx hb dX4_readNumber_51 rfl (fun q6 => ?_) (fun q6 => ?_)
        · have hR := hR.trans (if_pos q6)
          refine lv_aload_n hx hb dX4_readNumber_104 rfl (lv_at hl 3 rfl) ?_
          refine va_get (D := xD E) (ci := 4) (v := .int (u43.2 14)) (C := RX4) (T := TX4) (N := 9) hx hb hts (by decide +kernel) hown hK hP 25 rfl rfl 5 (by decide) (hts (.fieldLink RX4 28 "RailOffsets$Tape" "here" "I") (by decide +kernel)) (fun _ h => h) rfl dX4_readNumber_105 ?_
          refine lv_iload_n hx hb dX4_readNumber_108 rfl (lv_at hl 1 rfl) ?_
          refine lv_isub hx hb dX4_readNumber_109 ?_
          refine lv_istore (lv' := [(4, .int ((u43.2 14) - ((uZ u 14 ((u.2 14) + 1)).2 14))), (3, .int x3), (2, .int ((uZ u 14 ((u.2 14) + 1)).2 14)), (1, .int 1), (0, .ref (a 25))]) hx hb dX4_readNumber_110 hl (by decide) rfl (fun ls hl => ?_)
          refine lv_aload_n hx hb dX4_readNumber_112 rfl (lv_at hl 4 rfl) ?_
          refine lv_iload hx hb dX4_readNumber_113 (lv_at hl 0 rfl) ?_
          refine lv_iconst (v := 1) hx hb dX4_readNumber_115 rfl ?_
          refine lv_iconst (v := 3) hx hb dX4_readNumber_116 rfl ?_
          refine xRoSN (nL := 5) ⟨hx, hb, hml, hown, hts⟩ (c_X5_within l E ((u43.2 14) - ((uZ u 14 ((u.2 14) + 1)).2 14)) 1 3) ⟨va_cnB (own := RX4) (host := RX5) (index := 82) (y := yX5_within) 3 hts gX4_readNumber_X5_within_n82 rfl rfl rfl (hF.2.1.1 (RX4, 82, yX5_within) (List.mem_of_getElem? (i := 12) rfl)) (hts (.initialized RX5) (by decide +kernel)) hd_X5_within ⟨(Nat.le_of_ble_eq_true rfl), (Nat.le_of_ble_eq_true rfl)⟩, hts (.static yX5_within) (by decide +kernel), trivial⟩ hF hS hA (hP.sub [] rfl) rfl hl.1 rfl (Nat.le_of_ble_eq_true rfl) ⟨(Nat.le_of_ble_eq_true rfl), (Nat.le_of_ble_eq_true rfl)⟩ dX4_readNumber_117 ?_
          refine W.eq (g2 := F0 m 120 ls [.int (s_X5_within ((u43.2 14) - ((uZ u 14 ((u.2 14) + 1)).2 14)) 1 3), .ref (a 25)]) rfl ?_
          refine lv_if_eq (tgt := 127) hx hb dX4_readNumber_120 rfl (fun q7 => ?_) (fun q7 => ?_)
          · have hR := hR.trans (if_pos q7)
            refine lv_iconst (v := 4) hx hb dX4_readNumber_127 rfl ?_
            refine va_put (D := xD E) (ci := 4) (v := .int 4) (ty := .int) (C := RX4) (T := TX4) (N := 9) hx hb hts (by decide +kernel) tyX4 tyX4_ok nmX4 hown hK hP (xD_of (ws := wX E a u43) (A := (· ∈ LX a)) hL.1 (fun _ h => h)) hS 25 rfl rfl 7 (by decide) (hts (.fieldLink RX4 34 "RailOffsets$Tape" "sort" "I") (by decide +kernel)) (fun _ h => h) rfl (by decide +kernel) rfl rfl (Nat.le_of_ble_eq_true rfl) dX4_readNumber_128 (fun H locs hP _ hS => ?_)
            have hP : va_P (xD E) vwCl (wX E a (uZ u43 16 4)) H := hP
            refine lv_aload_n hx hb dX4_readNumber_131 rfl (lv_at hl 4 rfl) ?_
            refine lv_iload_n hx hb dX4_readNumber_132 rfl (lv_at hl 3 rfl) ?_
            refine lv_if_eq (tgt := 141) hx hb dX4_readNumber_133 rfl (fun q => absurd q (by decide)) (fun q => ?_)
            refine lv_iload_n hx hb dX4_readNumber_136 rfl (lv_at hl 1 rfl) ?_
            refine lv_ineg hx hb dX4_readNumber_137 ?_
            refine lv_goto (tgt := 142) hx hb dX4_readNumber_138 rfl ?_
            refine va_put (D := xD E) (ci := 4) (v := .int (-x3)) (ty := .int) (C := RX4) (T := TX4) (N := 9) hx hb hts (by decide +kernel) tyX4 tyX4_ok nmX4 hown hK hP (xD_of (ws := wX E a (uZ u43 16 4)) (A := (· ∈ LX a)) hL.1 (fun _ h => h)) hS 25 rfl rfl 8 (by decide) (hts (.fieldLink RX4 37 "RailOffsets$Tape" "value" "I") (by decide +kernel)) (fun _ h => h) rfl (by decide +kernel) rfl rfl (Nat.le_of_ble_eq_true rfl) dX4_readNumber_142 (fun H locs hP _ hS => ?_)
            have hP : va_P (xD E) vwCl (wX E a (uZ (uZ u43 16 4) 17 (-x3))) H := hP
            have hR : s_X4_readNumber u = uZ (uZ u43 16 4) 17 (-x3) := hR
            exact W.vret hx hb hr (fun t ht _ => by rw [hR]; exact ⟨⟨rfl, by rw [ht]; exact hP⟩, hS.F ht⟩) hS.2.2 dX4_readNumber_145
          · have hR := hR.trans (if_neg q7)
            refine lv_iconst (v := 1) hx hb dX4_readNumber_123 rfl ?_
            refine lv_goto (tgt := 128) hx hb dX4_readNumber_124 rfl ?_
            refine va_put (D := xD E) (ci := 4) (v := .int 1) (ty := .int) (C := RX4) (T := TX4) (N := 9) hx hb hts (by decide +kernel) tyX4 tyX4_ok nmX4 hown hK hP (xD_of (ws := wX E a u43) (A := (· ∈ LX a)) hL.1 (fun _ h => h)) hS 25 rfl rfl 7 (by decide) (hts (.fieldLink RX4 34 "RailOffsets$Tape" "sort" "I") (by decide +kernel)) (fun _ h => h) rfl (by decide +kernel) rfl rfl (Nat.le_of_ble_eq_true rfl) dX4_readNumber_128 (fun H locs hP _ hS => ?_)
            have hP : va_P (xD E) vwCl (wX E a (uZ u43 16 1)) H := hP
            refine lv_aload_n hx hb dX4_readNumber_131 rfl (lv_at hl 4 rfl) ?_
            refine lv_iload_n hx hb dX4_readNumber_132 rfl (lv_at hl 3 rfl) ?_
            refine lv_if_eq (tgt := 141) hx hb dX4_readNumber_133 rfl (fun q => absurd q (by decide)) (fun q => ?_)
            refine lv_iload_n hx hb dX4_readNumber_136 rfl (lv_at hl 1 rfl) ?_
            refine lv_ineg hx hb dX4_readNumber_137 ?_
            refine lv_goto (tgt := 142) hx hb dX4_readNumber_138 rfl ?_
            refine va_put (D := xD E) (ci := 4) (v := .int (-x3)) (ty := .int) (C := RX4) (T := TX4) (N := 9) hx hb hts (by decide +kernel) tyX4 tyX4_ok nmX4 hown hK hP (xD_of (ws := wX E a (uZ u43 16 1)) (A := (· ∈ LX a)) hL.1 (fun _ h => h)) hS 25 rfl rfl 8 (by decide) (hts (.fieldLink RX4 37 "RailOffsets$Tape" "value" "I") (by decide +kernel)) (fun _ h => h) rfl (by decide +kernel) rfl rfl (Nat.le_of_ble_eq_true rfl) dX4_readNumber_142 (fun H locs hP _ hS => ?_)
            have hP : va_P (xD E) vwCl (wX E a (uZ (uZ u43 16 1) 17 (-x3))) H := hP
            have hR : s_X4_readNumber u = uZ (uZ u43 16 1) 17 (-x3) := hR
            exact W.vret hx hb hr (fun t ht _ => by rw [hR]; exact ⟨⟨rfl, by rw [ht]; exact hP⟩, hS.F ht⟩) hS.2.2 dX4_readNumber_145
        · have hR := hR.trans (if_neg q6)
          refine lv_aload_n hx hb dX4_readNumber_54 rfl (lv_at hl 3 rfl) ?_
          refine va_get (D := xD E) (ci := 4) (v := .ref (a 26)) (C := RX4) (T := TX4) (N := 9) hx hb hts (by decide +kernel) hown hK hP 25 rfl rfl 0 (by decide) (hts (.fieldLink RX4 9 "RailOffsets$Tape" "bytes" "[I") (by decide +kernel)) (fun _ h => h) rfl dX4_readNumber_55 ?_
          refine lv_aload_n hx hb dX4_readNumber_58 rfl (lv_at hl 3 rfl) ?_
          refine va_get (D := xD E) (ci := 4) (v := .int (u43.2 14)) (C := RX4) (T := TX4) (N := 9) hx hb hts (by decide +kernel) hown hK hP 25 rfl rfl 5 (by decide) (hts (.fieldLink RX4 28 "RailOffsets$Tape" "here" "I") (by decide +kernel)) (fun _ h => h) rfl dX4_readNumber_59 ?_
          refine xRoSN (nL := 5) ⟨hx, hb, hml, hown, hts⟩ (c_X5_cell l E (a 26) 60 (u43.1 26) (u43.2 14)) ⟨va_cnB (own := RX4) (host := RX5) (index := 44) (y := yX5_cell) 2 hts gX4_readNumber_X5_cell_n44 rfl rfl rfl (hF.2.1.1 (RX4, 44, yX5_cell) (List.mem_of_getElem? (i := 11) rfl)) (hts (.initialized RX5) (by decide +kernel)) hd_X5_cell ⟨(Nat.le_of_ble_eq_true rfl), (Nat.le_of_ble_eq_true rfl)⟩, hts (.static yX5_cell) (by decide +kernel), trivial⟩ hF hS hA (hP.sub [26] rfl) rfl hl.1 rfl (Nat.le_of_ble_eq_true rfl) ⟨(Nat.le_of_ble_eq_true rfl), (Nat.le_of_ble_eq_true rfl)⟩ dX4_readNumber_62 ?_
          refine W.eq (g2 := F0 m 65 ls [.int (s_X5_cell 60 (u43.1 26) (u43.2 14))]) rfl ?_
          refine xRoS (nL := 5) ⟨hx, hb, hml, hown, hts⟩ (c_X4_isDigit l E (s_X5_cell 60 (u43.1 26) (u43.2 14))) (va_cwS 1 hts gX4_readNumber_X4_isDigit rfl rfl rfl hd_X4_isDigit ⟨(Nat.le_of_ble_eq_true rfl), (Nat.le_of_ble_eq_true rfl)⟩) hF hS hA (hP.sub [] rfl) rfl hl.1 rfl (Nat.le_of_ble_eq_true rfl) ⟨(Nat.le_of_ble_eq_true rfl), (Nat.le_of_ble_eq_true rfl)⟩ dX4_readNumber_65 ?_
          refine W.eq (g2 := F0 m 68 ls [.int (s_X4_isDigit (s_X5_cell 60 (u43.1 26) (u43.2 14)))]) rfl ?_
          refine lv_if_eq (tgt := 104) hx hb dX4_readNumber_68 rfl (fun q8 => ?_) (fun q8 => ?_)
          · have hR := hR.trans (if_pos q8)
            refine lv_aload_n hx hb dX4_readNumber_104 rfl (lv_at hl 3 rfl) ?_
            refine va_get (D := xD E) (ci := 4) (v := .int (u43.2 14)) (C := RX4) (T := TX4) (N := 9) hx hb hts (by decide +kernel) hown hK hP 25 rfl rfl 5 (by decide) (hts (.fieldLink RX4 28 "RailOffsets$Tape" "here" "I") (by decide +kernel)) (fun _ h => h) rfl dX4_readNumber_105 ?_
            refine lv_iload_n hx hb dX4_readNumber_108 rfl (lv_at hl 1 rfl) ?_
            refine lv_isub hx hb dX4_readNumber_109 ?_
            refine lv_istore (lv' := [(4, .int ((u43.2 14) - ((uZ u 14 ((u.2 14) + 1)).2 14))), (3, .int x3), (2, .int ((uZ u 14 ((u.2 14) + 1)).2 14)), (1, .int 1), (0, .ref (a 25))]) hx hb dX4_readNumber_110 hl (by decide) rfl (fun ls hl => ?_)
            refine lv_aload_n hx hb dX4_readNumber_112 rfl (lv_at hl 4 rfl) ?_
            refine lv_iload hx hb dX4_readNumber_113 (lv_at hl 0 rfl) ?_
            refine lv_iconst (v := 1) hx hb dX4_readNumber_115 rfl ?_
            refine lv_iconst (v := 3) hx hb dX4_readNumber_116 rfl ?_
            refine xRoSN (nL := 5) ⟨hx, hb, hml, hown, hts⟩ (c_X5_within l E ((u43.2 14) - ((uZ u 14 ((u.2 14) + 1)).2 14)) 1 3) ⟨va_cnB (own := RX4) (host := RX5) (index := 82) (y := yX5_within) 3 hts gX4_readNumber_X5_within_n82 rfl rfl rfl (hF.2.1.1 (RX4, 82, yX5_within) (List.mem_of_getElem? (i := 12) rfl)) (hts (.initialized RX5) (by decide +kernel)) hd_X5_within ⟨(Nat.le_of_ble_eq_true rfl), (Nat.le_of_ble_eq_true rfl)⟩, hts (.static yX5_within) (by decide +kernel), trivial⟩ hF hS hA (hP.sub [] rfl) rfl hl.1 rfl (Nat.le_of_ble_eq_true rfl) ⟨(Nat.le_of_ble_eq_true rfl), (Nat.le_of_ble_eq_true rfl)⟩ dX4_readNumber_117 ?_
            refine W.eq (g2 := F0 m 120 ls [.int (s_X5_within ((u43.2 14) - ((uZ u 14 ((u.2 14) + 1)).2 14)) 1 3), .ref (a 25)]) rfl ?_
            refine lv_if_eq (tgt := 127) hx hb dX4_readNumber_120 rfl (fun q9 => ?_) (fun q9 => ?_)
            · have hR := hR.trans (if_pos q9)
              refine lv_iconst (v := 4) hx hb dX4_readNumber_127 rfl ?_
              refine va_put (D := xD E) (ci := 4) (v := .int 4) (ty := .int) (C := RX4) (T := TX4) (N := 9) hx hb hts (by decide +kernel) tyX4 tyX4_ok nmX4 hown hK hP (xD_of (ws := wX E a u43) (A := (· ∈ LX a)) hL.1 (fun _ h => h)) hS 25 rfl rfl 7 (by decide) (hts (.fieldLink RX4 34 "RailOffsets$Tape" "sort" "I") (by decide +kernel)) (fun _ h => h) rfl (by decide +kernel) rfl rfl (Nat.le_of_ble_eq_true rfl) dX4_readNumber_128 (fun H locs hP _ hS => ?_)
              have hP : va_P (xD E) vwCl (wX E a (uZ u43 16 4)) H := hP
              refine lv_aload_n hx hb dX4_readNumber_131 rfl (lv_at hl 4 rfl) ?_
              refine lv_iload_n hx hb dX4_readNumber_132 rfl (lv_at hl 3 rfl) ?_
              refine lv_if_eq (tgt := 141) hx hb dX4_readNumber_133 rfl (fun q => absurd q (by decide)) (fun q => ?_)
              refine lv_iload_n hx hb dX4_readNumber_136 rfl (lv_at hl 1 rfl) ?_
              refine lv_ineg hx hb dX4_readNumber_137 ?_
              refine lv_goto (tgt := 142) hx hb dX4_readNumber_138 rfl ?_
              refine va_put (D := xD E) (ci := 4) (v := .int (-x3)) (ty := .int) (C := RX4) (T := TX4) (N := 9) hx hb hts (by decide +kernel) tyX4 tyX4_ok nmX4 hown hK hP (xD_of (ws := wX E a (uZ u43 16 4)) (A := (· ∈ LX a)) hL.1 (fun _ h => h)) hS 25 rfl rfl 8 (by decide) (hts (.fieldLink RX4 37 "RailOffsets$Tape" "value" "I") (by decide +kernel)) (fun _ h => h) rfl (by decide +kernel) rfl rfl (Nat.le_of_ble_eq_true rfl) dX4_readNumber_142 (fun H locs hP _ hS => ?_)
              have hP : va_P (xD E) vwCl (wX E a (uZ (uZ u43 16 4) 17 (-x3))) H := hP
              have hR : s_X4_readNumber u = uZ (uZ u43 16 4) 17 (-x3) := hR
              exact W.vret hx hb hr (fun t ht _ => by rw [hR]; exact ⟨⟨rfl, by rw [ht]; exact hP⟩, hS.F ht⟩) hS.2.2 dX4_readNumber_145
            · have hR := hR.trans (if_neg q9)
              refine lv_iconst (v := 1) hx hb dX4_readNumber_123 rfl ?_
              refine lv_goto (tgt := 128) hx hb dX4_readNumber_124 rfl ?_
              refine va_put (D := xD E) (ci := 4) (v := .int 1) (ty := .int) (C := RX4) (T := TX4) (N := 9) hx hb hts (by decide +kernel) tyX4 tyX4_ok nmX4 hown hK hP (xD_of (ws := wX E a u43) (A := (· ∈ LX a)) hL.1 (fun _ h => h)) hS 25 rfl rfl 7 (by decide) (hts (.fieldLink RX4 34 "RailOffsets$Tape" "sort" "I") (by decide +kernel)) (fun _ h => h) rfl (by decide +kernel) rfl rfl (Nat.le_of_ble_eq_true rfl) dX4_readNumber_128 (fun H locs hP _ hS => ?_)
              have hP : va_P (xD E) vwCl (wX E a (uZ u43 16 1)) H := hP
              refine lv_aload_n hx hb dX4_readNumber_131 rfl (lv_at hl 4 rfl) ?_
              refine lv_iload_n hx hb dX4_readNumber_132 rfl (lv_at hl 3 rfl) ?_
              refine lv_if_eq (tgt := 141) hx hb dX4_readNumber_133 rfl (fun q => absurd q (by decide)) (fun q => ?_)
              refine lv_iload_n hx hb dX4_readNumber_136 rfl (lv_at hl 1 rfl) ?_
              refine lv_ineg hx hb dX4_readNumber_137 ?_
              refine lv_goto (tgt := 142) hx hb dX4_readNumber_138 rfl ?_
              refine va_put (D := xD E) (ci := 4) (v := .int (-x3)) (ty := .int) (C := RX4) (T := TX4) (N := 9) hx hb hts (by decide +kernel) tyX4 tyX4_ok nmX4 hown hK hP (xD_of (ws := wX E a (uZ u43 16 1)) (A := (· ∈ LX a)) hL.1 (fun _ h => h)) hS 25 rfl rfl 8 (by decide) (hts (.fieldLink RX4 37 "RailOffsets$Tape" "value" "I") (by decide +kernel)) (fun _ h => h) rfl (by decide +kernel) rfl rfl (Nat.le_of_ble_eq_true rfl) dX4_readNumber_142 (fun H locs hP _ hS => ?_)
              have hP : va_P (xD E) vwCl (wX E a (uZ (uZ u43 16 1) 17 (-x3))) H := hP
              have hR : s_X4_readNumber u = uZ (uZ u43 16 1) 17 (-x3) := hR
              exact W.vret hx hb hr (fun t ht _ => by rw [hR]; exact ⟨⟨rfl, by rw [ht]; exact hP⟩, hS.F ht⟩) hS.2.2 dX4_readNumber_145
          · have hR := hR.trans (if_neg q8)
            refine lv_iload_n hx hb dX4_readNumber_71 rfl (lv_at hl 0 rfl) ?_
            refine lv_bipush (v := 10) hx hb dX4_readNumber_72 rfl ?_
            refine lv_imul hx hb dX4_readNumber_74 ?_
            refine lv_aload_n hx hb dX4_readNumber_75 rfl (lv_at hl 3 rfl) ?_
            refine va_get (D := xD E) (ci := 4) (v := .ref (a 26)) (C := RX4) (T := TX4) (N := 9) hx hb hts (by decide +kernel) hown hK hP 25 rfl rfl 0 (by decide) (hts (.fieldLink RX4 9 "RailOffsets$Tape" "bytes" "[I") (by decide +kernel)) (fun _ h => h) rfl dX4_readNumber_76 ?_
            refine lv_aload_n hx hb dX4_readNumber_79 rfl (lv_at hl 3 rfl) ?_
            refine va_get (D := xD E) (ci := 4) (v := .int (u43.2 14)) (C := RX4) (T := TX4) (N := 9) hx hb hts (by decide +kernel) hown hK hP 25 rfl rfl 5 (by decide) (hts (.fieldLink RX4 28 "RailOffsets$Tape" "here" "I") (by decide +kernel)) (fun _ h => h) rfl dX4_readNumber_80 ?_
            refine xRoSN (nL := 5) ⟨hx, hb, hml, hown, hts⟩ (c_X5_cell l E (a 26) 60 (u43.1 26) (u43.2 14)) ⟨va_cnB (own := RX4) (host := RX5) (index := 44) (y := yX5_cell) 2 hts gX4_readNumber_X5_cell_n44 rfl rfl rfl (hF.2.1.1 (RX4, 44, yX5_cell) (List.mem_of_getElem? (i := 11) rfl)) (hts (.initialized RX5) (by decide +kernel)) hd_X5_cell ⟨(Nat.le_of_ble_eq_true rfl), (Nat.le_of_ble_eq_true rfl)⟩, hts (.static yX5_cell) (by decide +kernel), trivial⟩ hF hS hA (hP.sub [26] rfl) rfl hl.1 rfl (Nat.le_of_ble_eq_true rfl) ⟨(Nat.le_of_ble_eq_true rfl), (Nat.le_of_ble_eq_true rfl)⟩ dX4_readNumber_83 ?_
            refine W.eq (g2 := F0 m 86 ls [.int (s_X5_cell 60 (u43.1 26) (u43.2 14)), .int (x3 * 10)]) rfl ?_
            refine lv_iadd hx hb dX4_readNumber_86 ?_
            refine lv_bipush (v := 48) hx hb dX4_readNumber_87 rfl ?_
            refine lv_isub hx hb dX4_readNumber_89 ?_
            refine lv_istore_n (lv' := [(3, .int (((x3 * 10) + (s_X5_cell 60 (u43.1 26) (u43.2 14))) - 48)), (2, .int ((uZ u 14 ((u.2 14) + 1)).2 14)), (1, .int 1), (0, .ref (a 25))]) hx hb dX4_readNumber_90 rfl hl (by decide) rfl (fun ls hl => ?_)
            refine lv_aload_n hx hb dX4_readNumber_91 rfl (lv_at hl 3 rfl) ?_
            refine lv_dup hx hb dX4_readNumber_92 rfl ?_
            refine va_get (D := xD E) (ci := 4) (v := .int (u43.2 14)) (C := RX4) (T := TX4) (N := 9) hx hb hts (by decide +kernel) hown hK hP 25 rfl rfl 5 (by decide) (hts (.fieldLink RX4 28 "RailOffsets$Tape" "here" "I") (by decide +kernel)) (fun _ h => h) rfl dX4_readNumber_93 ?_
            refine lv_iconst (v := 1) hx hb dX4_readNumber_96 rfl ?_
            refine lv_iadd hx hb dX4_readNumber_97 ?_
            refine va_put (D := xD E) (ci := 4) (v := .int ((u43.2 14) + 1)) (ty := .int) (C := RX4) (T := TX4) (N := 9) hx hb hts (by decide +kernel) tyX4 tyX4_ok nmX4 hown hK hP (xD_of (ws := wX E a u43) (A := (· ∈ LX a)) hL.1 (fun _ h => h)) hS 25 rfl rfl 5 (by decide) (hts (.fieldLink RX4 28 "RailOffsets$Tape" "here" "I") (by decide +kernel)) (fun _ h => h) rfl (by decide +kernel) rfl rfl (Nat.le_of_ble_eq_true rfl) dX4_readNumber_98 (fun H locs hP _ hS => ?_)
            have hP : va_P (xD E) vwCl (wX E a (uZ u43 14 ((u43.2 14) + 1))) H := hP
            refine lv_goto (tgt := 43) hx hb dX4_readNumber_101 rfl ?_
            exact ih43 (uZ u43 14 ((u43.2 14) + 1)) (((x3 * 10) + (s_X5_cell 60 (u43.1 26) (u43.2 14))) - 48) _ _ _ (Nat.lt_of_lt_of_le (xupc (N := u43.2 12) (i := u43.2 14) q6) (Nat.le_of_lt_succ hM43)) hR (lv_sub hl [0, 1, 2, 3] rfl) hP hS
    exact L43 ((((uZ u 14 ((u.2 14) + 1)).2 12).toInt - ((uZ u 14 ((u.2 14) + 1)).2 14).toInt).toNat + 1) (uZ u 14 ((u.2 14) + 1)) 0 _ _ ls (Nat.lt_succ_self _) hR hl hP hS
def s_X4_nextToken_L0 : Nat → xU → xU
  | 0, u => u
  | n + 1, u =>
    if (u.2 12) ≤ (u.2 14) then
      if ((uZ u 15 (u.2 14)).2 14) < ((uZ u 15 (u.2 14)).2 12) then
        if (s_X4_isLetter (s_X5_cell 60 ((uZ u 15 (u.2 14)).1 26) ((uZ u 15 (u.2 14)).2 14))) = 0 then
          if (s_X5_cell 60 ((uZ u 15 (u.2 14)).1 26) ((uZ u 15 (u.2 14)).2 14)) = 45 then
            s_X4_readNumber (uZ u 15 (u.2 14))
          else
            if (s_X4_isDigit (s_X5_cell 60 ((uZ u 15 (u.2 14)).1 26) ((uZ u 15 (u.2 14)).2 14))) = 0 then
              if (s_X5_cell 60 ((uZ u 15 (u.2 14)).1 26) ((uZ u 15 (u.2 14)).2 14)) = 59 then
                uZ (uZ (uZ u 15 (u.2 14)) 16 2) 14 (((uZ (uZ u 15 (u.2 14)) 16 2).2 14) + 1)
              else
                uZ (uZ (uZ u 15 (u.2 14)) 16 4) 14 (((uZ (uZ u 15 (u.2 14)) 16 4).2 14) + 1)
            else
              s_X4_readNumber (uZ u 15 (u.2 14))
        else
          s_X4_readWord (uZ u 15 (u.2 14))
      else
        uZ (uZ u 15 (u.2 14)) 16 3
    else
      if (s_X4_isBlank (s_X5_cell 60 (u.1 26) (u.2 14))) = 0 then
        if ((uZ u 15 (u.2 14)).2 14) < ((uZ u 15 (u.2 14)).2 12) then
          if (s_X4_isLetter (s_X5_cell 60 ((uZ u 15 (u.2 14)).1 26) ((uZ u 15 (u.2 14)).2 14))) = 0 then
            if (s_X5_cell 60 ((uZ u 15 (u.2 14)).1 26) ((uZ u 15 (u.2 14)).2 14)) = 45 then
              s_X4_readNumber (uZ u 15 (u.2 14))
            else
              if (s_X4_isDigit (s_X5_cell 60 ((uZ u 15 (u.2 14)).1 26) ((uZ u 15 (u.2 14)).2 14))) = 0 then
                if (s_X5_cell 60 ((uZ u 15 (u.2 14)).1 26) ((uZ u 15 (u.2 14)).2 14)) = 59 then
                  uZ (uZ (uZ u 15 (u.2 14)) 16 2) 14 (((uZ (uZ u 15 (u.2 14)) 16 2).2 14) + 1)
                else
                  uZ (uZ (uZ u 15 (u.2 14)) 16 4) 14 (((uZ (uZ u 15 (u.2 14)) 16 4).2 14) + 1)
              else
                s_X4_readNumber (uZ u 15 (u.2 14))
          else
            s_X4_readWord (uZ u 15 (u.2 14))
        else
          uZ (uZ u 15 (u.2 14)) 16 3
      else
        s_X4_nextToken_L0 n (uZ u 14 ((u.2 14) + 1))
def s_X4_nextToken (u : xU) : xU :=
  s_X4_nextToken_L0 (((u.2 12).toInt - (u.2 14).toInt).toNat + 1) u
abbrev rm_X4_nextToken : Room := { frames := 7, cells := 0, slots := 0, locals := 193 }
set_option maxHeartbeats 8000000 in
set_option maxRecDepth 100000 in
theorem c_X4_nextToken (l : Launch) (E : xG) (a : Nat → Nat) (u : xU)  (hL : xOK E (LX a)) : xMd l E yX4_nextToken wsX4_nextToken rm_X4_nextToken (LX a) [.ref (a 25)] (wX E a u) (none) (wX E a (s_X4_nextToken u)) := by
  refine xMd.of (cc := cX4_nextToken) (maxL := 2) (ret := none) (by decide) rfl (Nat.le_of_ble_eq_true rfl) ?_
  intro p e s m below meth c ls hAt hF hP hS hl
  obtain ⟨hx, hb, hr, hml, hown, hts, hlocks, -⟩ := hAt
  have hown : s.vm.findClass RX4 = some m.cls := hown
  have hl : lv_has ls 2 [(0, .ref (a 25))] := hl
  have hK := hF.1
  have hA := hL.2
  change W p l e rm_X4_nextToken s m ([.ref (a 25)] : List Value).toArray below meth c s.heap [] 0 0 (xQmd E below (LX a) (none) (wX E a (s_X4_nextToken u)) ([.ref (a 25)] : List Value).toArray s) _
  have hS : va_S (· ∈ LX a) s.heap s.heap [] := hS
  have hR : s_X4_nextToken u = s_X4_nextToken u := rfl
  have L0 : ∀ (n0 : Nat) (u0 : xU) (H : Heap) (locs : List Loc) (ls : Array Slot), ((u0.2 12).toInt - (u0.2 14).toInt).toNat < n0 → s_X4_nextToken u = s_X4_nextToken_L0 n0 u0 → lv_has ls 2 [(0, .ref (a 25))] → va_P (xD E) vwCl (wX E a u0) H → va_S (· ∈ LX a) s.heap H locs → W p l e rm_X4_nextToken s m ([.ref (a 25)] : List Value).toArray below meth c H locs 0 0 (xQmd E below (LX a) (none) (wX E a (s_X4_nextToken u)) ([.ref (a 25)] : List Value).toArray s) (F0 m 0 ls []) := by
    intro n0
    induction n0 with
    | zero => intro u0 H locs ls hM0 hR hl hP hS; exact absurd hM0 (Nat.not_lt_zero _)
    | succ n0 ih0 =>
      intro u0 H locs ls hM0 hR hl hP hS
      refine lv_aload_n hx hb dX4_nextToken_0 rfl (lv_at hl 0 rfl) ?_
      refine va_get (D := xD E) (ci := 4) (v := .int (u0.2 14)) (C := RX4) (T := TX4) (N := 9) hx hb hts (by decide +kernel) hown hK hP 25 rfl rfl 5 (by decide) (hts (.fieldLink RX4 28 "RailOffsets$Tape" "here" "I") (by decide +kernel)) (fun _ h => h) rfl dX4_nextToken_1 ?_
      refine lv_aload_n hx hb dX4_nextToken_4 rfl (lv_at hl 0 rfl) ?_
      refine va_get (D := xD E) (ci := 4) (v := .int (u0.2 12)) (C := RX4) (T := TX4) (N := 9) hx hb hts (by decide +kernel) hown hK hP 25 rfl rfl 3 (by decide) (hts (.fieldLink RX4 21 "RailOffsets$Tape" "size" "I") (by decide +kernel)) (fun _ h => h) rfl dX4_nextToken_5 ?_
      refine lv_icmp_ge (tgt := 41) hx hb dX4_nextToken_8 rfl (fun q1 => ?_) (fun q1 => ?_)
      · have hR := hR.trans (if_pos q1)
        refine lv_aload_n hx hb dX4_nextToken_41 rfl (lv_at hl 0 rfl) ?_
        refine lv_aload_n hx hb dX4_nextToken_42 rfl (lv_at hl 0 rfl) ?_
        refine va_get (D := xD E) (ci := 4) (v := .int (u0.2 14)) (C := RX4) (T := TX4) (N := 9) hx hb hts (by decide +kernel) hown hK hP 25 rfl rfl 5 (by decide) (hts (.fieldLink RX4 28 "RailOffsets$Tape" "here" "I") (by decide +kernel)) (fun _ h => h) rfl dX4_nextToken_43 ?_
        refine va_put (D := xD E) (ci := 4) (v := .int (u0.2 14)) (ty := .int) (C := RX4) (T := TX4) (N := 9) hx hb hts (by decide +kernel) tyX4 tyX4_ok nmX4 hown hK hP (xD_of (ws := wX E a u0) (A := (· ∈ LX a)) hL.1 (fun _ h => h)) hS 25 rfl rfl 6 (by decide) (hts (.fieldLink RX4 31 "RailOffsets$Tape" "start" "I") (by decide +kernel)) (fun _ h => h) rfl (by decide +kernel) rfl rfl (Nat.le_of_ble_eq_true rfl) dX4_nextToken_46 (fun H locs hP _ hS => ?_)
        have hP : va_P (xD E) vwCl (wX E a (uZ u0 15 (u0.2 14))) H := hP
        refine lv_aload_n hx hb dX4_nextToken_49 rfl (lv_at hl 0 rfl) ?_
        refine va_get (D := xD E) (ci := 4) (v := .int ((uZ u0 15 (u0.2 14)).2 14)) (C := RX4) (T := TX4) (N := 9) hx hb hts (by decide +kernel) hown hK hP 25 rfl rfl 5 (by decide) (hts (.fieldLink RX4 28 "RailOffsets$Tape" "here" "I") (by decide +kernel)) (fun _ h => h) rfl dX4_nextToken_50 ?_
        refine lv_aload_n hx hb dX4_nextToken_53 rfl (lv_at hl 0 rfl) ?_
        refine va_get (D := xD E) (ci := 4) (v := .int ((uZ u0 15 (u0.2 14)).2 12)) (C := RX4) (T := TX4) (N := 9) hx hb hts (by decide +kernel) hown hK hP 25 rfl rfl 3 (by decide) (hts (.fieldLink RX4 21 "RailOffsets$Tape" "size" "I") (by decide +kernel)) (fun _ h => h) rfl dX4_nextToken_54 ?_
        refine lv_icmp_lt (tgt := 66) hx hb dX4_nextToken_57 rfl (fun q2 => ?_) (fun q2 => ?_)
        · have hR := hR.trans (if_pos q2)
          refine lv_aload_n hx hb dX4_nextToken_66 rfl (lv_at hl 0 rfl) ?_
          refine va_get (D := xD E) (ci := 4) (v := .ref (a 26)) (C := RX4) (T := TX4) (N := 9) hx hb hts (by decide +kernel) hown hK hP 25 rfl rfl 0 (by decide) (hts (.fieldLink RX4 9 "RailOffsets$Tape" "bytes" "[I") (by decide +kernel)) (fun _ h => h) rfl dX4_nextToken_67 ?_
          refine lv_aload_n hx hb dX4_nextToken_70 rfl (lv_at hl 0 rfl) ?_
          refine va_get (D := xD E) (ci := 4) (v := .int ((uZ u0 15 (u0.2 14)).2 14)) (C := RX4) (T := TX4) (N := 9) hx hb hts (by decide +kernel) hown hK hP 25 rfl rfl 5 (by decide) (hts (.fieldLink RX4 28 "RailOffsets$Tape" "here" "I") (by decide +kernel)) (fun _ h => h) rfl dX4_nextToken_71 ?_
          refine xRoSN (nL := 2) ⟨hx, hb, hml, hown, hts⟩ (c_X5_cell l E (a 26) 60 ((uZ u0 15 (u0.2 14)).1 26) ((uZ u0 15 (u0.2 14)).2 14)) ⟨va_cnB (own := RX4) (host := RX5) (index := 44) (y := yX5_cell) 2 hts gX4_nextToken_X5_cell_n44 rfl rfl rfl (hF.2.1.1 (RX4, 44, yX5_cell) (List.mem_of_getElem? (i := 11) rfl)) (hts (.initialized RX5) (by decide +kernel)) hd_X5_cell ⟨(Nat.le_of_ble_eq_true rfl), (Nat.le_of_ble_eq_true rfl)⟩, hts (.static yX5_cell) (by decide +kernel), trivial⟩ hF hS hA (hP.sub [26] rfl) rfl hl.1 rfl (Nat.le_of_ble_eq_true rfl) ⟨(Nat.le_of_ble_eq_true rfl), (Nat.le_of_ble_eq_true rfl)⟩ dX4_nextToken_74 ?_
          refine W.eq (g2 := F0 m 77 ls [.int (s_X5_cell 60 ((uZ u0 15 (u0.2 14)).1 26) ((uZ u0 15 (u0.2 14)).2 14))]) rfl ?_
          refine lv_istore_n (lv' := [(1, .int (s_X5_cell 60 ((uZ u0 15 (u0.2 14)).1 26) ((uZ u0 15 (u0.2 14)).2 14))), (0, .ref (a 25))]) hx hb dX4_nextToken_77 rfl hl (by decide) rfl (fun ls hl => ?_)
          refine lv_iload_n hx hb dX4_nextToken_78 rfl (lv_at hl 0 rfl) ?_
          refine xRoS (nL := 2) ⟨hx, hb, hml, hown, hts⟩ (c_X4_isLetter l E (s_X5_cell 60 ((uZ u0 15 (u0.2 14)).1 26) ((uZ u0 15 (u0.2 14)).2 14))) (va_cwS 1 hts gX4_nextToken_X4_isLetter rfl rfl rfl hd_X4_isLetter ⟨(Nat.le_of_ble_eq_true rfl), (Nat.le_of_ble_eq_true rfl)⟩) hF hS hA (hP.sub [] rfl) rfl hl.1 rfl (Nat.le_of_ble_eq_true rfl) ⟨(Nat.le_of_ble_eq_true rfl), (Nat.le_of_ble_eq_true rfl)⟩ dX4_nextToken_79 ?_
          refine W.eq (g2 := F0 m 82 ls [.int (s_X4_isLetter (s_X5_cell 60 ((uZ u0 15 (u0.2 14)).1 26) ((uZ u0 15 (u0.2 14)).2 14)))]) rfl ?_
          refine lv_if_eq (tgt := 92) hx hb dX4_nextToken_82 rfl (fun q3 => ?_) (fun q3 => ?_)
          · have hR := hR.trans (if_pos q3)
            refine lv_iload_n hx hb dX4_nextToken_92 rfl (lv_at hl 0 rfl) ?_
            refine lv_bipush (v := 45) hx hb dX4_nextToken_93 rfl ?_
            refine lv_icmp_eq (tgt := 105) hx hb dX4_nextToken_95 rfl (fun q4 => ?_) (fun q4 => ?_)
            · have hR := hR.trans (if_pos q4)
              refine lv_aload_n hx hb dX4_nextToken_105 rfl (lv_at hl 1 rfl) ?_
              refine xMdV (nL := 2) ⟨hx, hb, hml, hown, hts⟩ (c_X4_readNumber l E a (uZ u0 15 (u0.2 14))  hL) (cwV 0 hts gX4_nextToken_X4_readNumber rfl rfl rfl ⟨rfl, hd_X4_readNumber⟩ ⟨(Nat.le_of_ble_eq_true rfl), (Nat.le_of_ble_eq_true rfl)⟩) hF hS hL.2 (fun _ h => h) hP (va_recv (q := (RX4, TX4, 9)) hK hP (ci := 4) rfl (q0 := 25) rfl) rfl hl.1 rfl (Nat.le_of_ble_eq_true rfl) ⟨(Nat.le_of_ble_eq_true rfl), (Nat.le_of_ble_eq_true rfl)⟩ dX4_nextToken_106 (fun H locs hP _ hS => ?_)
              refine W.eq (g2 := F0 m 109 ls []) rfl ?_
              refine lv_goto (tgt := 137) hx hb dX4_nextToken_109 rfl ?_
              have hR : s_X4_nextToken u = s_X4_readNumber (uZ u0 15 (u0.2 14)) := hR
              exact W.vret hx hb hr (fun t ht _ => by rw [hR]; exact ⟨⟨rfl, by rw [ht]; exact hP⟩, hS.F ht⟩) hS.2.2 dX4_nextToken_137
            · have hR := hR.trans (if_neg q4)
              refine lv_iload_n hx hb dX4_nextToken_98 rfl (lv_at hl 0 rfl) ?_
              refine xRoS (nL := 2) ⟨hx, hb, hml, hown, hts⟩ (c_X4_isDigit l E (s_X5_cell 60 ((uZ u0 15 (u0.2 14)).1 26) ((uZ u0 15 (u0.2 14)).2 14))) (va_cwS 1 hts gX4_nextToken_X4_isDigit rfl rfl rfl hd_X4_isDigit ⟨(Nat.le_of_ble_eq_true rfl), (Nat.le_of_ble_eq_true rfl)⟩) hF hS hA (hP.sub [] rfl) rfl hl.1 rfl (Nat.le_of_ble_eq_true rfl) ⟨(Nat.le_of_ble_eq_true rfl), (Nat.le_of_ble_eq_true rfl)⟩ dX4_nextToken_99 ?_
              refine W.eq (g2 := F0 m 102 ls [.int (s_X4_isDigit (s_X5_cell 60 ((uZ u0 15 (u0.2 14)).1 26) ((uZ u0 15 (u0.2 14)).2 14)))]) rfl ?_
              refine lv_if_eq (tgt := 112) hx hb dX4_nextToken_102 rfl (fun q5 => ?_) (fun q5 => ?_)
              · have hR := hR.trans (if_pos q5)
                refine lv_aload_n hx hb dX4_nextToken_112 rfl (lv_at hl 1 rfl) ?_
                refine lv_iload_n hx hb dX4_nextToken_113 rfl (lv_at hl 0 rfl) ?_
                refine lv_bipush (v := 59) hx hb dX4_nextToken_114 rfl ?_
                refine lv_icmp_ne (tgt := 123) hx hb dX4_nextToken_116 rfl (fun q6 => ?_) (fun q6 => ?_)
                · have hR := hR.trans (if_neg q6)
                  refine lv_iconst (v := 4) hx hb dX4_nextToken_123 rfl ?_
                  refine va_put (D := xD E) (ci := 4) (v := .int 4) (ty := .int) (C := RX4) (T := TX4) (N := 9) hx hb hts (by decide +kernel) tyX4 tyX4_ok nmX4 hown hK hP (xD_of (ws := wX E a (uZ u0 15 (u0.2 14))) (A := (· ∈ LX a)) hL.1 (fun _ h => h)) hS 25 rfl rfl 7 (by decide) (hts (.fieldLink RX4 34 "RailOffsets$Tape" "sort" "I") (by decide +kernel)) (fun _ h => h) rfl (by decide +kernel) rfl rfl (Nat.le_of_ble_eq_true rfl) dX4_nextToken_124 (fun H locs hP _ hS => ?_)
                  have hP : va_P (xD E) vwCl (wX E a (uZ (uZ u0 15 (u0.2 14)) 16 4)) H := hP
                  refine lv_aload_n hx hb dX4_nextToken_127 rfl (lv_at hl 1 rfl) ?_
                  refine lv_dup hx hb dX4_nextToken_128 rfl ?_
                  refine va_get (D := xD E) (ci := 4) (v := .int ((uZ (uZ u0 15 (u0.2 14)) 16 4).2 14)) (C := RX4) (T := TX4) (N := 9) hx hb hts (by decide +kernel) hown hK hP 25 rfl rfl 5 (by decide) (hts (.fieldLink RX4 28 "RailOffsets$Tape" "here" "I") (by decide +kernel)) (fun _ h => h) rfl dX4_nextToken_129 ?_
                  refine lv_iconst (v := 1) hx hb dX4_nextToken_132 rfl ?_
                  refine lv_iadd hx hb dX4_nextToken_133 ?_
                  refine va_put (D := xD E) (ci := 4) (v := .int (((uZ (uZ u0 15 (u0.2 14)) 16 4).2 14) + 1)) (ty := .int) (C := RX4) (T := TX4) (N := 9) hx hb hts (by decide +kernel) tyX4 tyX4_ok nmX4 hown hK hP (xD_of (ws := wX E a (uZ (uZ u0 15 (u0.2 14)) 16 4)) (A := (· ∈ LX a)) hL.1 (fun _ h => h)) hS 25 rfl rfl 5 (by decide) (hts (.fieldLink RX4 28 "RailOffsets$Tape" "here" "I") (by decide +kernel)) (fun _ h => h) rfl (by decide +kernel) rfl rfl (Nat.le_of_ble_eq_true rfl) dX4_nextToken_134 (fun H locs hP _ hS => ?_)
                  have hP : va_P (xD E) vwCl (wX E a (uZ (uZ (uZ u0 15 (u0.2 14)) 16 4) 14 (((uZ (uZ u0 15 (u0.2 14)) 16 4).2 14) + 1))) H := hP
                  have hR : s_X4_nextToken u = uZ (uZ (uZ u0 15 (u0.2 14)) 16 4) 14 (((uZ (uZ u0 15 (u0.2 14)) 16 4).2 14) + 1) := hR
                  exact W.vret hx hb hr (fun t ht _ => by rw [hR]; exact ⟨⟨rfl, by rw [ht]; exact hP⟩, hS.F ht⟩) hS.2.2 dX4_nextToken_137
                · have hR := hR.trans (if_pos q6)
                  refine lv_iconst (v := 2) hx hb dX4_nextToken_119 rfl ?_
                  refine lv_goto (tgt := 124) hx hb dX4_nextToken_120 rfl ?_
                  refine va_put (D := xD E) (ci := 4) (v := .int 2) (ty := .int) (C := RX4) (T := TX4) (N := 9) hx hb hts (by decide +kernel) tyX4 tyX4_ok nmX4 hown hK hP (xD_of (ws := wX E a (uZ u0 15 (u0.2 14))) (A := (· ∈ LX a)) hL.1 (fun _ h => h)) hS 25 rfl rfl 7 (by decide) (hts (.fieldLink RX4 34 "RailOffsets$Tape" "sort" "I") (by decide +kernel)) (fun _ h => h) rfl (by decide +kernel) rfl rfl (Nat.le_of_ble_eq_true rfl) dX4_nextToken_124 (fun H locs hP _ hS => ?_)
                  have hP : va_P (xD E) vwCl (wX E a (uZ (uZ u0 15 (u0.2 14)) 16 2)) H := hP
                  refine lv_aload_n hx hb dX4_nextToken_127 rfl (lv_at hl 1 rfl) ?_
                  refine lv_dup hx hb dX4_nextToken_128 rfl ?_
                  refine va_get (D := xD E) (ci := 4) (v := .int ((uZ (uZ u0 15 (u0.2 14)) 16 2).2 14)) (C := RX4) (T := TX4) (N := 9) hx hb hts (by decide +kernel) hown hK hP 25 rfl rfl 5 (by decide) (hts (.fieldLink RX4 28 "RailOffsets$Tape" "here" "I") (by decide +kernel)) (fun _ h => h) rfl dX4_nextToken_129 ?_
                  refine lv_iconst (v := 1) hx hb dX4_nextToken_132 rfl ?_
                  refine lv_iadd hx hb dX4_nextToken_133 ?_
                  refine va_put (D := xD E) (ci := 4) (v := .int (((uZ (uZ u0 15 (u0.2 14)) 16 2).2 14) + 1)) (ty := .int) (C := RX4) (T := TX4) (N := 9) hx hb hts (by decide +kernel) tyX4 tyX4_ok nmX4 hown hK hP (xD_of (ws := wX E a (uZ (uZ u0 15 (u0.2 14)) 16 2)) (A := (· ∈ LX a)) hL.1 (fun _ h => h)) hS 25 rfl rfl 5 (by decide) (hts (.fieldLink RX4 28 "RailOffsets$Tape" "here" "I") (by decide +kernel)) (fun _ h => h) rfl (by decide +kernel) rfl rfl (Nat.le_of_ble_eq_true rfl) dX4_nextToken_134 (fun H locs hP _ hS => ?_)
                  have hP : va_P (xD E) vwCl (wX E a (uZ (uZ (uZ u0 15 (u0.2 14)) 16 2) 14 (((uZ (uZ u0 15 (u0.2 14)) 16 2).2 14) + 1))) H := hP
                  have hR : s_X4_nextToken u = uZ (uZ (uZ u0 15 (u0.2 14)) 16 2) 14 (((uZ (uZ u0 15 (u0.2 14)) 16 2).2 14) + 1) := hR
                  exact W.vret hx hb hr (fun t ht _ => by rw [hR]; exact ⟨⟨rfl, by rw [ht]; exact hP⟩, hS.F ht⟩) hS.2.2 dX4_nextToken_137
              · have hR := hR.trans (if_neg q5)
                refine lv_aload_n hx hb dX4_nextToken_105 rfl (lv_at hl 1 rfl) ?_
                refine xMdV (nL := 2) ⟨hx, hb, hml, hown, hts⟩ (c_X4_readNumber l E a (uZ u0 15 (u0.2 14))  hL) (cwV 0 hts gX4_nextToken_X4_readNumber rfl rfl rfl ⟨rfl, hd_X4_readNumber⟩ ⟨(Nat.le_of_ble_eq_true rfl), (Nat.le_of_ble_eq_true rfl)⟩) hF hS hL.2 (fun _ h => h) hP (va_recv (q := (RX4, TX4, 9)) hK hP (ci := 4) rfl (q0 := 25) rfl) rfl hl.1 rfl (Nat.le_of_ble_eq_true rfl) ⟨(Nat.le_of_ble_eq_true rfl), (Nat.le_of_ble_eq_true rfl)⟩ dX4_nextToken_106 (fun H locs hP _ hS => ?_)
                refine W.eq (g2 := F0 m 109 ls []) rfl ?_
                refine lv_goto (tgt := 137) hx hb dX4_nextToken_109 rfl ?_
                have hR : s_X4_nextToken u = s_X4_readNumber (uZ u0 15 (u0.2 14)) := hR
                exact W.vret hx hb hr (fun t ht _ => by rw [hR]; exact ⟨⟨rfl, by rw [ht]; exact hP⟩, hS.F ht⟩) hS.2.2 dX4_nextToken_137
          · have hR := hR.trans (if_neg q3)
            refine lv_aload_n hx hb dX4_nextToken_85 rfl (lv_at hl 1 rfl) ?_
            refine xMdV (nL := 2) ⟨hx, hb, hml, hown, hts⟩ (c_X4_readWord l E a (uZ u0 15 (u0.2 14))  hL) (cwV 0 hts gX4_nextToken_X4_readWord rfl rfl rfl ⟨rfl, hd_X4_readWord⟩ ⟨(Nat.le_of_ble_eq_true rfl), (Nat.le_of_ble_eq_true rfl)⟩) hF hS hL.2 (fun _ h => h) hP (va_recv (q := (RX4, TX4, 9)) hK hP (ci := 4) rfl (q0 := 25) rfl) rfl hl.1 rfl (Nat.le_of_ble_eq_true rfl) ⟨(Nat.le_of_ble_eq_true rfl), (Nat.le_of_ble_eq_true rfl)⟩ dX4_nextToken_86 (fun H locs hP _ hS => ?_)
            refine W.eq (g2 := F0 m 89 ls []) rfl ?_
            refine lv_goto (tgt := 137) hx hb dX4_nextToken_89 rfl ?_
            have hR : s_X4_nextToken u = s_X4_readWord (uZ u0 15 (u0.2 14)) := hR
            exact W.vret hx hb hr (fun t ht _ => by rw [hR]; exact ⟨⟨rfl, by rw [ht]; exact hP⟩, hS.F ht⟩) hS.2.2 dX4_nextToken_137
        · have hR := hR.trans (if_neg q2)
          refine lv_aload_n hx hb dX4_nextToken_60 rfl (lv_at hl 0 rfl) ?_
          refine lv_iconst (v := 3) hx hb dX4_nextToken_61 rfl ?_
          refine va_put (D := xD E) (ci := 4) (v := .int 3) (ty := .int) (C := RX4) (T := TX4) (N := 9) hx hb hts (by decide +kernel) tyX4 tyX4_ok nmX4 hown hK hP (xD_of (ws := wX E a (uZ u0 15 (u0.2 14))) (A := (· ∈ LX a)) hL.1 (fun _ h => h)) hS 25 rfl rfl 7 (by decide) (hts (.fieldLink RX4 34 "RailOffsets$Tape" "sort" "I") (by decide +kernel)) (fun _ h => h) rfl (by decide +kernel) rfl rfl (Nat.le_of_ble_eq_true rfl) dX4_nextToken_62 (fun H locs hP _ hS => ?_)
          have hP : va_P (xD E) vwCl (wX E a (uZ (uZ u0 15 (u0.2 14)) 16 3)) H := hP
          have hR : s_X4_nextToken u = uZ (uZ u0 15 (u0.2 14)) 16 3 := hR
          exact W.vret hx hb hr (fun t ht _ => by rw [hR]; exact ⟨⟨rfl, by rw [ht]; exact hP⟩, hS.F ht⟩) hS.2.2 dX4_nextToken_65
      · have hR := hR.trans (if_neg q1)
        refine lv_aload_n hx hb dX4_nextToken_11 rfl (lv_at hl 0 rfl) ?_
        refine va_get (D := xD E) (ci := 4) (v := .ref (a 26)) (C := RX4) (T := TX4) (N := 9) hx hb hts (by decide +kernel) hown hK hP 25 rfl rfl 0 (by decide) (hts (.fieldLink RX4 9 "RailOffsets$Tape" "bytes" "[I") (by decide +kernel)) (fun _ h => h) rfl dX4_nextToken_12 ?_
        refine lv_aload_n hx hb dX4_nextToken_15 rfl (lv_at hl 0 rfl) ?_
        refine va_get (D := xD E) (ci := 4) (v := .int (u0.2 14)) (C := RX4) (T := TX4) (N := 9) hx hb hts (by decide +kernel) hown hK hP 25 rfl rfl 5 (by decide) (hts (.fieldLink RX4 28 "RailOffsets$Tape" "here" "I") (by decide +kernel)) (fun _ h => h) rfl dX4_nextToken_16 ?_
        refine xRoSN (nL := 2) ⟨hx, hb, hml, hown, hts⟩ (c_X5_cell l E (a 26) 60 (u0.1 26) (u0.2 14)) ⟨va_cnB (own := RX4) (host := RX5) (index := 44) (y := yX5_cell) 2 hts gX4_nextToken_X5_cell_n44 rfl rfl rfl (hF.2.1.1 (RX4, 44, yX5_cell) (List.mem_of_getElem? (i := 11) rfl)) (hts (.initialized RX5) (by decide +kernel)) hd_X5_cell ⟨(Nat.le_of_ble_eq_true rfl), (Nat.le_of_ble_eq_true rfl)⟩, hts (.static yX5_cell) (by decide +kernel), trivial⟩ hF hS hA (hP.sub [26] rfl) rfl hl.1 rfl (Nat.le_of_ble_eq_true rfl) ⟨(Nat.le_of_ble_eq_true rfl), (Nat.le_of_ble_eq_true rfl)⟩ dX4_nextToken_19 ?_
        refine W.eq (g2 := F0 m 22 ls [.int (s_X5_cell 60 (u0.1 26) (u0.2 14))]) rfl ?_
        refine xRoS (nL := 2) ⟨hx, hb, hml, hown, hts⟩ (c_X4_isBlank l E (s_X5_cell 60 (u0.1 26) (u0.2 14))) (va_cwS 1 hts gX4_nextToken_X4_isBlank rfl rfl rfl hd_X4_isBlank ⟨(Nat.le_of_ble_eq_true rfl), (Nat.le_of_ble_eq_true rfl)⟩) hF hS hA (hP.sub [] rfl) rfl hl.1 rfl (Nat.le_of_ble_eq_true rfl) ⟨(Nat.le_of_ble_eq_true rfl), (Nat.le_of_ble_eq_true rfl)⟩ dX4_nextToken_22 ?_
        refine W.eq (g2 := F0 m 25 ls [.int (s_X4_isBlank (s_X5_cell 60 (u0.1 26) (u0.2 14)))]) rfl ?_
        refine lv_if_eq (tgt := 41) hx hb dX4_nextToken_25 rfl (fun q7 => ?_) (fun q7 => ?_)
        · have hR := hR.trans (if_pos q7)
          refine lv_aload_n hx hb dX4_nextToken_41 rfl (lv_at hl 0 rfl) ?_
          refine lv_aload_n hx hb dX4_nextToken_42 rfl (lv_at hl 0 rfl) ?_
          refine va_get (D := xD E) (ci := 4) (v := .int (u0.2 14)) (C := RX4) (T := TX4) (N := 9) hx hb hts (by decide +kernel) hown hK hP 25 rfl rfl 5 (by decide) (hts (.fieldLink RX4 28 "RailOffsets$Tape" "here" "I") (by decide +kernel)) (fun _ h => h) rfl dX4_nextToken_43 ?_
          refine va_put (D := xD E) (ci := 4) (v := .int (u0.2 14)) (ty := .int) (C := RX4) (T := TX4) (N := 9) hx hb hts (by decide +kernel) tyX4 tyX4_ok nmX4 hown hK hP (xD_of (ws := wX E a u0) (A := (· ∈ LX a)) hL.1 (fun _ h => h)) hS 25 rfl rfl 6 (by decide) (hts (.fieldLink RX4 31 "RailOffsets$Tape" "start" "I") (by decide +kernel)) (fun _ h => h) rfl (by decide +kernel) rfl rfl (Nat.le_of_ble_eq_true rfl) dX4_nextToken_46 (fun H locs hP _ hS => ?_)
          have hP : va_P (xD E) vwCl (wX E a (uZ u0 15 (u0.2 14))) H := hP
          refine lv_aload_n hx hb dX4_nextToken_49 rfl (lv_at hl 0 rfl) ?_
          refine va_get (D := xD E) (ci := 4) (v := .int ((uZ u0 15 (u0.2 14)).2 14)) (C := RX4) (T := TX4) (N := 9) hx hb hts (by decide +kernel) hown hK hP 25 rfl rfl 5 (by decide) (hts (.fieldLink RX4 28 "RailOffsets$Tape" "here" "I") (by decide +kernel)) (fun _ h => h) rfl dX4_nextToken_50 ?_
          refine lv_aload_n hx hb dX4_nextToken_53 rfl (lv_at hl 0 rfl) ?_
          refine va_get (D := xD E) (ci := 4) (v := .int ((uZ u0 15 (u0.2 14)).2 12)) (C := RX4) (T := TX4) (N := 9) hx hb hts (by decide +kernel) hown hK hP 25 rfl rfl 3 (by decide) (hts (.fieldLink RX4 21 "RailOffsets$Tape" "size" "I") (by decide +kernel)) (fun _ h => h) rfl dX4_nextToken_54 ?_
          refine lv_icmp_lt (tgt := 66) hx hb dX4_nextToken_57 rfl (fun q8 => ?_) (fun q8 => ?_)
          · have hR := hR.trans (if_pos q8)
            refine lv_aload_n hx hb dX4_nextToken_66 rfl (lv_at hl 0 rfl) ?_
            refine va_get (D := xD E) (ci := 4) (v := .ref (a 26)) (C := RX4) (T := TX4) (N := 9) hx hb hts (by decide +kernel) hown hK hP 25 rfl rfl 0 (by decide) (hts (.fieldLink RX4 9 "RailOffsets$Tape" "bytes" "[I") (by decide +kernel)) (fun _ h => h) rfl dX4_nextToken_67 ?_
            refine lv_aload_n hx hb dX4_nextToken_70 rfl (lv_at hl 0 rfl) ?_
            refine va_get (D := xD E) (ci := 4) (v := .int ((uZ u0 15 (u0.2 14)).2 14)) (C := RX4) (T := TX4) (N := 9) hx hb hts (by decide +kernel) hown hK hP 25 rfl rfl 5 (by decide) (hts (.fieldLink RX4 28 "RailOffsets$Tape" "here" "I") (by decide +kernel)) (fun _ h => h) rfl dX4_nextToken_71 ?_
            refine xRoSN (nL := 2) ⟨hx, hb, hml, hown, hts⟩ (c_X5_cell l E (a 26) 60 ((uZ u0 15 (u0.2 14)).1 26) ((uZ u0 15 (u0.2 14)).2 14)) ⟨va_cnB (own := RX4) (host := RX5) (index := 44) (y := yX5_cell) 2 hts gX4_nextToken_X5_cell_n44 rfl rfl rfl (hF.2.1.1 (RX4, 44, yX5_cell) (List.mem_of_getElem? (i := 11) rfl)) (hts (.initialized RX5) (by decide +kernel)) hd_X5_cell ⟨(Nat.le_of_ble_eq_true rfl), (Nat.le_of_ble_eq_true rfl)⟩, hts (.static yX5_cell) (by decide +kernel), trivial⟩ hF hS hA (hP.sub [26] rfl) rfl hl.1 rfl (Nat.le_of_ble_eq_true rfl) ⟨(Nat.le_of_ble_eq_true rfl), (Nat.le_of_ble_eq_true rfl)⟩ dX4_nextToken_74 ?_
            refine W.eq (g2 := F0 m 77 ls [.int (s_X5_cell 60 ((uZ u0 15 (u0.2 14)).1 26) ((uZ u0 15 (u0.2 14)).2 14))]) rfl ?_
            refine lv_istore_n (lv' := [(1, .int (s_X5_cell 60 ((uZ u0 15 (u0.2 14)).1 26) ((uZ u0 15 (u0.2 14)).2 14))), (0, .ref (a 25))]) hx hb dX4_nextToken_77 rfl hl (by decide) rfl (fun ls hl => ?_)
            refine lv_iload_n hx hb dX4_nextToken_78 rfl (lv_at hl 0 rfl) ?_
            refine xRoS (nL := 2) ⟨hx, hb, hml, hown, hts⟩ (c_X4_isLetter l E (s_X5_cell 60 ((uZ u0 15 (u0.2 14)).1 26) ((uZ u0 15 (u0.2 14)).2 14))) (va_cwS 1 hts gX4_nextToken_X4_isLetter rfl rfl rfl hd_X4_isLetter ⟨(Nat.le_of_ble_eq_true rfl), (Nat.le_of_ble_eq_true rfl)⟩) hF hS hA (hP.sub [] rfl) rfl hl.1 rfl (Nat.le_of_ble_eq_true rfl) ⟨(Nat.le_of_ble_eq_true rfl), (Nat.le_of_ble_eq_true rfl)⟩ dX4_nextToken_79 ?_
            refine W.eq (g2 := F0 m 82 ls [.int (s_X4_isLetter (s_X5_cell 60 ((uZ u0 15 (u0.2 14)).1 26) ((uZ u0 15 (u0.2 14)).2 14)))]) rfl ?_
            refine lv_if_eq (tgt := 92) hx hb dX4_nextToken_82 rfl (fun q9 => ?_) (fun q9 => ?_)
            · have hR := hR.trans (if_pos q9)
              refine lv_iload_n hx hb dX4_nextToken_92 rfl (lv_at hl 0 rfl) ?_
              refine lv_bipush (v := 45) hx hb dX4_nextToken_93 rfl ?_
              refine lv_icmp_eq (tgt := 105) hx hb dX4_nextToken_95 rfl (fun q10 => ?_) (fun q10 => ?_)
              · have hR := hR.trans (if_pos q10)
                refine lv_aload_n hx hb dX4_nextToken_105 rfl (lv_at hl 1 rfl) ?_
                refine xMdV (nL := 2) ⟨hx, hb, hml, hown, hts⟩ (c_X4_readNumber l E a (uZ u0 15 (u0.2 14))  hL) (cwV 0 hts gX4_nextToken_X4_readNumber rfl rfl rfl ⟨rfl, hd_X4_readNumber⟩ ⟨(Nat.le_of_ble_eq_true rfl), (Nat.le_of_ble_eq_true rfl)⟩) hF hS hL.2 (fun _ h => h) hP (va_recv (q := (RX4, TX4, 9)) hK hP (ci := 4) rfl (q0 := 25) rfl) rfl hl.1 rfl (Nat.le_of_ble_eq_true rfl) ⟨(Nat.le_of_ble_eq_true rfl), (Nat.le_of_ble_eq_true rfl)⟩ dX4_nextToken_106 (fun H locs hP _ hS => ?_)
                refine W.eq (g2 := F0 m 109 ls []) rfl ?_
                refine lv_goto (tgt := 137) hx hb dX4_nextToken_109 rfl ?_
                have hR : s_X4_nextToken u = s_X4_readNumber (uZ u0 15 (u0.2 14)) := hR
                exact W.vret hx hb hr (fun t ht _ => by rw [hR]; exact ⟨⟨rfl, by rw [ht]; exact hP⟩, hS.F ht⟩) hS.2.2 dX4_nextToken_137
              · have hR := hR.trans (if_neg q10)
                refine lv_iload_n hx hb dX4_nextToken_98 rfl (lv_at hl 0 rfl) ?_
                refine xRoS (nL := 2) ⟨hx, hb, hml, hown, hts⟩ (c_X4_isDigit l E (s_X5_cell 60 ((uZ u0 15 (u0.2 14)).1 26) ((uZ u0 15 (u0.2 14)).2 14))) (va_cwS 1 hts gX4_nextToken_X4_isDigit rfl rfl rfl hd_X4_isDigit ⟨(Nat.le_of_ble_eq_true rfl), (Nat.le_of_ble_eq_true rfl)⟩) hF hS hA (hP.sub [] rfl) rfl hl.1 rfl (Nat.le_of_ble_eq_true rfl) ⟨(Nat.le_of_ble_eq_true rfl), (Nat.le_of_ble_eq_true rfl)⟩ dX4_nextToken_99 ?_
                refine W.eq (g2 := F0 m 102 ls [.int (s_X4_isDigit (s_X5_cell 60 ((uZ u0 15 (u0.2 14)).1 26) ((uZ u0 15 (u0.2 14)).2 14)))]) rfl ?_
                refine lv_if_eq (tgt := 112) hx hb dX4_nextToken_102 rfl (fun q11 => ?_) (fun q11 => ?_)
                · have hR := hR.trans (if_pos q11)
                  refine lv_aload_n hx hb dX4_nextToken_112 rfl (lv_at hl 1 rfl) ?_
                  refine lv_iload_n hx hb dX4_nextToken_113 rfl (lv_at hl 0 rfl) ?_
                  refine lv_bipush (v := 59) hx hb dX4_nextToken_114 rfl ?_
                  refine lv_icmp_ne (tgt := 123) hx hb dX4_nextToken_116 rfl (fun q12 => ?_) (fun q12 => ?_)
                  · have hR := hR.trans (if_neg q12)
                    refine lv_iconst (v := 4) hx hb dX4_nextToken_123 rfl ?_
                    refine va_put (D := xD E) (ci := 4) (v := .int 4) (ty := .int) (C := RX4) (T := TX4) (N := 9) hx hb hts (by decide +kernel) tyX4 tyX4_ok nmX4 hown hK hP (xD_of (ws := wX E a (uZ u0 15 (u0.2 14))) (A := (· ∈ LX a)) hL.1 (fun _ h => h)) hS 25 rfl rfl 7 (by decide) (hts (.fieldLink RX4 34 "RailOffsets$Tape" "sort" "I") (by decide +kernel)) (fun _ h => h) rfl (by decide +kernel) rfl rfl (Nat.le_of_ble_eq_true rfl) dX4_nextToken_124 (fun H locs hP _ hS => ?_)
                    have hP : va_P (xD E) vwCl (wX E a (uZ (uZ u0 15 (u0.2 14)) 16 4)) H := hP
                    refine lv_aload_n hx hb dX4_nextToken_127 rfl (lv_at hl 1 rfl) ?_
                    refine lv_dup hx hb dX4_nextToken_128 rfl ?_
                    refine va_get (D := xD E) (ci := 4) (v := .int ((uZ (uZ u0 15 (u0.2 14)) 16 4).2 14)) (C := RX4) (T := TX4) (N := 9) hx hb hts (by decide +kernel) hown hK hP 25 rfl rfl 5 (by decide) (hts (.fieldLink RX4 28 "RailOffsets$Tape" "here" "I") (by decide +kernel)) (fun _ h => h) rfl dX4_nextToken_129 ?_
                    refine lv_iconst (v := 1) hx hb dX4_nextToken_132 rfl ?_
                    refine lv_iadd hx hb dX4_nextToken_133 ?_
                    refine va_put (D := xD E) (ci := 4) (v := .int (((uZ (uZ u0 15 (u0.2 14)) 16 4).2 14) + 1)) (ty := .int) (C := RX4) (T := TX4) (N := 9) hx hb hts (by decide +kernel) tyX4 tyX4_ok nmX4 hown hK hP (xD_of (ws := wX E a (uZ (uZ u0 15 (u0.2 14)) 16 4)) (A := (· ∈ LX a)) hL.1 (fun _ h => h)) hS 25 rfl rfl 5 (by decide) (hts (.fieldLink RX4 28 "RailOffsets$Tape" "here" "I") (by decide +kernel)) (fun _ h => h) rfl (by decide +kernel) rfl rfl (Nat.le_of_ble_eq_true rfl) dX4_nextToken_134 (fun H locs hP _ hS => ?_)
                    have hP : va_P (xD E) vwCl (wX E a (uZ (uZ (uZ u0 15 (u0.2 14)) 16 4) 14 (((uZ (uZ u0 15 (u0.2 14)) 16 4).2 14) + 1))) H := hP
                    have hR : s_X4_nextToken u = uZ (uZ (uZ u0 15 (u0.2 14)) 16 4) 14 (((uZ (uZ u0 15 (u0.2 14)) 16 4).2 14) + 1) := hR
                    exact W.vret hx hb hr (fun t ht _ => by rw [hR]; exact ⟨⟨rfl, by rw [ht]; exact hP⟩, hS.F ht⟩) hS.2.2 dX4_nextToken_137
                  · have hR := hR.trans (if_pos q12)
                    refine lv_iconst (v := 2) hx hb dX4_nextToken_119 rfl ?_
                    refine lv_goto (tgt := 124) hx hb dX4_nextToken_120 rfl ?_
                    refine va_put (D := xD E) (ci := 4) (v := .int 2) (ty := .int) (C := RX4) (T := TX4) (N := 9) hx hb hts (by decide +kernel) tyX4 tyX4_ok nmX4 hown hK hP (xD_of (ws := wX E a (uZ u0 15 (u0.2 14))) (A := (· ∈ LX a)) hL.1 (fun _ h => h)) hS 25 rfl rfl 7 (by decide) (hts (.fieldLink RX4 34 "RailOffsets$Tape" "sort" "I") (by decide +kernel)) (fun _ h => h) rfl (by decide +kernel) rfl rfl (Nat.le_of_ble_eq_true rfl) dX4_nextToken_124 (fun H locs hP _ hS => ?_)
                    have hP : va_P (xD E) vwCl (wX E a (uZ (uZ u0 15 (u0.2 14)) 16 2)) H := hP
                    refine lv_aload_n hx hb dX4_nextToken_127 rfl (lv_at hl 1 rfl) ?_
                    refine lv_dup hx hb dX4_nextToken_128 rfl ?_
                    refine va_get (D := xD E) (ci := 4) (v := .int ((uZ (uZ u0 15 (u0.2 14)) 16 2).2 14)) (C := RX4) (T := TX4) (N := 9) hx hb hts (by decide +kernel) hown hK hP 25 rfl rfl 5 (by decide) (hts (.fieldLink RX4 28 "RailOffsets$Tape" "here" "I") (by decide +kernel)) (fun _ h => h) rfl dX4_nextToken_129 ?_
                    refine lv_iconst (v := 1) hx hb dX4_nextToken_132 rfl ?_
                    refine lv_iadd hx hb dX4_nextToken_133 ?_
                    refine va_put (D := xD E) (ci := 4) (v := .int (((uZ (uZ u0 15 (u0.2 14)) 16 2).2 14) + 1)) (ty := .int) (C := RX4) (T := TX4) (N := 9) hx hb hts (by decide +kernel) tyX4 tyX4_ok nmX4 hown hK hP (xD_of (ws := wX E a (uZ (uZ u0 15 (u0.2 14)) 16 2)) (A := (· ∈ LX a)) hL.1 (fun _ h => h)) hS 25 rfl rfl 5 (by decide) (hts (.fieldLink RX4 28 "RailOffsets$Tape" "here" "I") (by decide +kernel)) (fun _ h => h) rfl (by decide +kernel) rfl rfl (Nat.le_of_ble_eq_true rfl) dX4_nextToken_134 (fun H locs hP _ hS => ?_)
                    have hP : va_P (xD E) vwCl (wX E a (uZ (uZ (uZ u0 15 (u0.2 14)) 16 2) 14 (((uZ (uZ u0 15 (u0.2 14)) 16 2).2 14) + 1))) H := hP
                    have hR : s_X4_nextToken u = uZ (uZ (uZ u0 15 (u0.2 14)) 16 2) 14 (((uZ (uZ u0 15 (u0.2 14)) 16 2).2 14) + 1) := hR
                    exact W.vret hx hb hr (fun t ht _ => by rw [hR]; exact ⟨⟨rfl, by rw [ht]; exact hP⟩, hS.F ht⟩) hS.2.2 dX4_nextToken_137
                · have hR := hR.trans (if_neg q11)
                  refine lv_aload_n hx hb dX4_nextToken_105 rfl (lv_at hl 1 rfl) ?_
                  refine xMdV (nL := 2) ⟨hx, hb, hml, hown, hts⟩ (c_X4_readNumber l E a (uZ u0 15 (u0.2 14))  hL) (cwV 0 hts gX4_nextToken_X4_readNumber rfl rfl rfl ⟨rfl, hd_X4_readNumber⟩ ⟨(Nat.le_of_ble_eq_true rfl), (Nat.le_of_ble_eq_true rfl)⟩) hF hS hL.2 (fun _ h => h) hP (va_recv (q := (RX4, TX4, 9)) hK hP (ci := 4) rfl (q0 := 25) rfl) rfl hl.1 rfl (Nat.le_of_ble_eq_true rfl) ⟨(Nat.le_of_ble_eq_true rfl), (Nat.le_of_ble_eq_true rfl)⟩ dX4_nextToken_106 (fun H locs hP _ hS => ?_)
                  refine W.eq (g2 := F0 m 109 ls []) rfl ?_
                  refine lv_goto (tgt := 137) hx hb dX4_nextToken_109 rfl ?_
                  have hR : s_X4_nextToken u = s_X4_readNumber (uZ u0 15 (u0.2 14)) := hR
                  exact W.vret hx hb hr (fun t ht _ => by rw [hR]; exact ⟨⟨rfl, by rw [ht]; exact hP⟩, hS.F ht⟩) hS.2.2 dX4_nextToken_137
            · have hR := hR.trans (if_neg q9)
              refine lv_aload_n hx hb dX4_nextToken_85 rfl (lv_at hl 1 rfl) ?_
              refine xMdV (nL := 2) ⟨hx, hb, hml, hown, hts⟩ (c_X4_readWord l E a (uZ u0 15 (u0.2 14))  hL) (cwV 0 hts gX4_nextToken_X4_readWord rfl rfl rfl ⟨rfl, hd_X4_readWord⟩ ⟨(Nat.le_of_ble_eq_true rfl), (Nat.le_of_ble_eq_true rfl)⟩) hF hS hL.2 (fun _ h => h) hP (va_recv (q := (RX4, TX4, 9)) hK hP (ci := 4) rfl (q0 := 25) rfl) rfl hl.1 rfl (Nat.le_of_ble_eq_true rfl) ⟨(Nat.le_of_ble_eq_true rfl), (Nat.le_of_ble_eq_true rfl)⟩ dX4_nextToken_86 (fun H locs hP _ hS => ?_)
              refine W.eq (g2 := F0 m 89 ls []) rfl ?_
              refine lv_goto (tgt := 137) hx hb dX4_nextToken_89 rfl ?_
              have hR : s_X4_nextToken u = s_X4_readWord (uZ u0 15 (u0.2 14)) := hR
              exact W.vret hx hb hr (fun t ht _ => by rw [hR]; exact ⟨⟨rfl, by rw [ht]; exact hP⟩, hS.F ht⟩) hS.2.2 dX4_nextToken_137
          · have hR := hR.trans (if_neg q8)
            refine lv_aload_n hx hb dX4_nextToken_60 rfl (lv_at hl 0 rfl) ?_
            refine lv_iconst (v := 3) hx hb dX4_nextToken_61 rfl ?_
            refine va_put (D := xD E) (ci := 4) (v := .int 3) (ty := .int) (C := RX4) (T := TX4) (N := 9) hx hb hts (by decide +kernel) tyX4 tyX4_ok nmX4 hown hK hP (xD_of (ws := wX E a (uZ u0 15 (u0.2 14))) (A := (· ∈ LX a)) hL.1 (fun _ h => h)) hS 25 rfl rfl 7 (by decide) (hts (.fieldLink RX4 34 "RailOffsets$Tape" "sort" "I") (by decide +kernel)) (fun _ h => h) rfl (by decide +kernel) rfl rfl (Nat.le_of_ble_eq_true rfl) dX4_nextToken_62 (fun H locs hP _ hS => ?_)
            have hP : va_P (xD E) vwCl (wX E a (uZ (uZ u0 15 (u0.2 14)) 16 3)) H := hP
            have hR : s_X4_nextToken u = uZ (uZ u0 15 (u0.2 14)) 16 3 := hR
            exact W.vret hx hb hr (fun t ht _ => by rw [hR]; exact ⟨⟨rfl, by rw [ht]; exact hP⟩, hS.F ht⟩) hS.2.2 dX4_nextToken_65
        · have hR := hR.trans (if_neg q7)
          refine lv_aload_n hx hb dX4_nextToken_28 rfl (lv_at hl 0 rfl) ?_
          refine lv_dup hx hb dX4_nextToken_29 rfl ?_
          refine va_get (D := xD E) (ci := 4) (v := .int (u0.2 14)) (C := RX4) (T := TX4) (N := 9) hx hb hts (by decide +kernel) hown hK hP 25 rfl rfl 5 (by decide) (hts (.fieldLink RX4 28 "RailOffsets$Tape" "here" "I") (by decide +kernel)) (fun _ h => h) rfl dX4_nextToken_30 ?_
          refine lv_iconst (v := 1) hx hb dX4_nextToken_33 rfl ?_
          refine lv_iadd hx hb dX4_nextToken_34 ?_
          refine va_put (D := xD E) (ci := 4) (v := .int ((u0.2 14) + 1)) (ty := .int) (C := RX4) (T := TX4) (N := 9) hx hb hts (by decide +kernel) tyX4 tyX4_ok nmX4 hown hK hP (xD_of (ws := wX E a u0) (A := (· ∈ LX a)) hL.1 (fun _ h => h)) hS 25 rfl rfl 5 (by decide) (hts (.fieldLink RX4 28 "RailOffsets$Tape" "here" "I") (by decide +kernel)) (fun _ h => h) rfl (by decide +kernel) rfl rfl (Nat.le_of_ble_eq_true rfl) dX4_nextToken_35 (fun H locs hP _ hS => ?_)
          have hP : va_P (xD E) vwCl (wX E a (uZ u0 14 ((u0.2 14) + 1))) H := hP
          refine lv_goto (tgt := 0) hx hb dX4_nextToken_38 rfl ?_
          exact ih0 (uZ u0 14 ((u0.2 14) + 1)) _ _ _ (Nat.lt_of_lt_of_le (xupc (N := u0.2 12) (i := u0.2 14) q1) (Nat.le_of_lt_succ hM0)) hR (lv_sub hl [0] rfl) hP hS
  exact L0 (((u.2 12).toInt - (u.2 14).toInt).toNat + 1) u _ _ ls (Nat.lt_succ_self _) hR hl hP hS
def s_X4_readClause_L40 : Nat → xU → Int32 → Int32 → Int32 → Int32 × xU
  | 0, u, _, _, _ => (0, u)
  | n + 1, u, x1, x2, x3 =>
    if x2 ≤ x3 then
      (1, uZ u 13 ((u.2 13) + 1))
    else
      if ((s_X4_nextToken u).2 16) = 1 then
        s_X4_readClause_L40 n (uR (s_X4_nextToken u) 28 (s_X5_mark 48 ((s_X4_nextToken u).1 28) ((((s_X4_nextToken u).2 13) * 4) + x3) ((s_X4_nextToken u).2 17))) x1 x2 (x3 + 1)
      else
        (0, s_X4_nextToken u)
def s_X4_readClause (u : xU) : Int32 × xU :=
  if ((s_X4_nextToken u).2 16) = 0 then
    s_X4_readClause_L40 (((s_X5_cell (xStL 7) (xStV 7) ((s_X4_nextToken u).2 17)).toInt - (0 : Int32).toInt).toNat + 1) (uR (s_X4_nextToken u) 27 (s_X5_mark 12 ((s_X4_nextToken u).1 27) ((s_X4_nextToken u).2 13) ((s_X4_nextToken u).2 17))) ((s_X4_nextToken u).2 17) (s_X5_cell (xStL 7) (xStV 7) ((s_X4_nextToken u).2 17)) 0
  else
    (0, s_X4_nextToken u)
abbrev rm_X4_readClause : Room := { frames := 8, cells := 0, slots := 0, locals := 214 }
set_option maxHeartbeats 8000000 in
set_option maxRecDepth 100000 in
theorem c_X4_readClause (l : Launch) (E : xG) (a : Nat → Nat) (u : xU)  (hL : xOK E (LX a)) : xMd l E yX4_readClause wsX4_readClause rm_X4_readClause (LX a) [.ref (a 25)] (wX E a u) (some (.int ((s_X4_readClause u).1))) (wX E a ((s_X4_readClause u).2)) := by
  refine xMd.of (cc := cX4_readClause) (maxL := 4) (ret := (some .boolean)) (by decide) rfl (Nat.le_of_ble_eq_true rfl) ?_
  intro p e s m below meth c ls hAt hF hP hS hl
  obtain ⟨hx, hb, hr, hml, hown, hts, hlocks, -⟩ := hAt
  have hown : s.vm.findClass RX4 = some m.cls := hown
  have hl : lv_has ls 4 [(0, .ref (a 25))] := hl
  have hK := hF.1
  have hA := hL.2
  change W p l e rm_X4_readClause s m ([.ref (a 25)] : List Value).toArray below meth c s.heap [] 0 0 (xQmd E below (LX a) (some (.int ((s_X4_readClause u).1))) (wX E a ((s_X4_readClause u).2)) ([.ref (a 25)] : List Value).toArray s) _
  have hS : va_S (· ∈ LX a) s.heap s.heap [] := hS
  have hR : s_X4_readClause u = s_X4_readClause u := rfl
  refine lv_aload_n hx hb dX4_readClause_0 rfl (lv_at hl 0 rfl) ?_
  refine xMdV (nL := 4) ⟨hx, hb, hml, hown, hts⟩ (c_X4_nextToken l E a u  hL) (cwV 0 hts gX4_readClause_X4_nextToken rfl rfl rfl ⟨rfl, hd_X4_nextToken⟩ ⟨(Nat.le_of_ble_eq_true rfl), (Nat.le_of_ble_eq_true rfl)⟩) hF hS hL.2 (fun _ h => h) hP (va_recv (q := (RX4, TX4, 9)) hK hP (ci := 4) rfl (q0 := 25) rfl) rfl hl.1 rfl (Nat.le_of_ble_eq_true rfl) ⟨(Nat.le_of_ble_eq_true rfl), (Nat.le_of_ble_eq_true rfl)⟩ dX4_readClause_1 (fun H locs hP _ hS => ?_)
  refine W.eq (g2 := F0 m 4 ls []) rfl ?_
  refine lv_aload_n hx hb dX4_readClause_4 rfl (lv_at hl 0 rfl) ?_
  refine va_get (D := xD E) (ci := 4) (v := .int ((s_X4_nextToken u).2 16)) (C := RX4) (T := TX4) (N := 9) hx hb hts (by decide +kernel) hown hK hP 25 rfl rfl 7 (by decide) (hts (.fieldLink RX4 34 "RailOffsets$Tape" "sort" "I") (by decide +kernel)) (fun _ h => h) rfl dX4_readClause_5 ?_
  refine lv_if_eq (tgt := 13) hx hb dX4_readClause_8 rfl (fun q1 => ?_) (fun q1 => ?_)
  · have hR := hR.trans (if_pos q1)
    refine lv_aload_n hx hb dX4_readClause_13 rfl (lv_at hl 0 rfl) ?_
    refine va_get (D := xD E) (ci := 4) (v := .int ((s_X4_nextToken u).2 17)) (C := RX4) (T := TX4) (N := 9) hx hb hts (by decide +kernel) hown hK hP 25 rfl rfl 8 (by decide) (hts (.fieldLink RX4 37 "RailOffsets$Tape" "value" "I") (by decide +kernel)) (fun _ h => h) rfl dX4_readClause_14 ?_
    refine lv_istore_n (lv' := [(1, .int ((s_X4_nextToken u).2 17)), (0, .ref (a 25))]) hx hb dX4_readClause_17 rfl hl (by decide) rfl (fun ls hl => ?_)
    refine lv_aload_n hx hb dX4_readClause_18 rfl (lv_at hl 1 rfl) ?_
    refine va_get (D := xD E) (ci := 4) (v := .ref (a 27)) (C := RX4) (T := TX4) (N := 9) hx hb hts (by decide +kernel) hown hK hP 25 rfl rfl 1 (by decide) (hts (.fieldLink RX4 15 "RailOffsets$Tape" "words" "[I") (by decide +kernel)) (fun _ h => h) rfl dX4_readClause_19 ?_
    refine lv_aload_n hx hb dX4_readClause_22 rfl (lv_at hl 1 rfl) ?_
    refine va_get (D := xD E) (ci := 4) (v := .int ((s_X4_nextToken u).2 13)) (C := RX4) (T := TX4) (N := 9) hx hb hts (by decide +kernel) hown hK hP 25 rfl rfl 4 (by decide) (hts (.fieldLink RX4 25 "RailOffsets$Tape" "clauses" "I") (by decide +kernel)) (fun _ h => h) rfl dX4_readClause_23 ?_
    refine lv_iload_n hx hb dX4_readClause_26 rfl (lv_at hl 0 rfl) ?_
    refine xMdSN (nL := 4) ⟨hx, hb, hml, hown, hts⟩ (c_X5_mark l E (a 27) 12 ((s_X4_nextToken u).1 27) ((s_X4_nextToken u).2 13) ((s_X4_nextToken u).2 17) (hL.2 _ (List.mem_of_getElem? (i := 27) rfl))) ⟨va_cnB (own := RX4) (host := RX5) (index := 40) (y := yX5_mark) 3 hts gX4_readClause_X5_mark_n40 rfl rfl rfl (hF.2.1.1 (RX4, 40, yX5_mark) (List.mem_of_getElem? (i := 10) rfl)) (hts (.initialized RX5) (by decide +kernel)) hd_X5_mark ⟨(Nat.le_of_ble_eq_true rfl), (Nat.le_of_ble_eq_true rfl)⟩, hts (.static yX5_mark) (by decide +kernel), trivial⟩ hF hS hL.2 (xsub1 (List.mem_of_getElem? (i := 27) rfl)) (hP.sub [27] rfl) rfl hl.1 rfl (Nat.le_of_ble_eq_true rfl) ⟨(Nat.le_of_ble_eq_true rfl), (Nat.le_of_ble_eq_true rfl)⟩ dX4_readClause_27 (fun H1 locs hP1 hk hS => ?_)
    have hP : va_P (xD E) vwCl (wX E a (uR (s_X4_nextToken u) 27 (s_X5_mark 12 ((s_X4_nextToken u).1 27) ((s_X4_nextToken u).2 13) ((s_X4_nextToken u).2 17)))) H1 := xset1 hP (xD_of (ws := wX E a (s_X4_nextToken u)) (A := (· ∈ LX a)) hL.1 (fun _ h => h)) (p := 27) rfl hP1 hk
    generalize H1 = H at hP hS ⊢
    refine W.eq (g2 := F0 m 30 ls []) rfl ?_
    refine va_getsN (C := RX5) (host := RX5) (ref := "RailOffsets") hx hb ((hF.2.2.1 7 (by decide)).1.narrow hA) hS hown (va_Nw.use rfl hF.2.1.2) (fun _ h => h) dX4_readClause_30 ?_
    refine lv_iload_n hx hb dX4_readClause_33 rfl (lv_at hl 0 rfl) ?_
    refine xRoSN (nL := 4) ⟨hx, hb, hml, hown, hts⟩ (c_X5_cell_st l E 7 (by decide) ((s_X4_nextToken u).2 17)) ⟨va_cnB (own := RX4) (host := RX5) (index := 44) (y := yX5_cell) 2 hts gX4_readClause_X5_cell_n44 rfl rfl rfl (hF.2.1.1 (RX4, 44, yX5_cell) (List.mem_of_getElem? (i := 11) rfl)) (hts (.initialized RX5) (by decide +kernel)) hd_X5_cell ⟨(Nat.le_of_ble_eq_true rfl), (Nat.le_of_ble_eq_true rfl)⟩, hts (.static yX5_cell) (by decide +kernel), trivial⟩ hF hS hA (hP.sub [] rfl) rfl hl.1 rfl (Nat.le_of_ble_eq_true rfl) ⟨(Nat.le_of_ble_eq_true rfl), (Nat.le_of_ble_eq_true rfl)⟩ dX4_readClause_34 ?_
    refine W.eq (g2 := F0 m 37 ls [.int (s_X5_cell (xStL 7) (xStV 7) ((s_X4_nextToken u).2 17))]) rfl ?_
    refine lv_istore_n (lv' := [(2, .int (s_X5_cell (xStL 7) (xStV 7) ((s_X4_nextToken u).2 17))), (1, .int ((s_X4_nextToken u).2 17)), (0, .ref (a 25))]) hx hb dX4_readClause_37 rfl hl (by decide) rfl (fun ls hl => ?_)
    refine lv_iconst (v := 0) hx hb dX4_readClause_38 rfl ?_
    refine lv_istore_n (lv' := [(3, .int 0), (2, .int (s_X5_cell (xStL 7) (xStV 7) ((s_X4_nextToken u).2 17))), (1, .int ((s_X4_nextToken u).2 17)), (0, .ref (a 25))]) hx hb dX4_readClause_39 rfl hl (by decide) rfl (fun ls hl => ?_)
    have L40 : ∀ (n40 : Nat) (u40 : xU) (x3 : Int32) (H : Heap) (locs : List Loc) (ls : Array Slot), ((s_X5_cell (xStL 7) (xStV 7) ((s_X4_nextToken u).2 17)).toInt - x3.toInt).toNat < n40 → s_X4_readClause u = s_X4_readClause_L40 n40 u40 ((s_X4_nextToken u).2 17) (s_X5_cell (xStL 7) (xStV 7) ((s_X4_nextToken u).2 17)) x3 → lv_has ls 4 [(3, .int x3), (2, .int (s_X5_cell (xStL 7) (xStV 7) ((s_X4_nextToken u).2 17))), (1, .int ((s_X4_nextToken u).2 17)), (0, .ref (a 25))] → va_P (xD E) vwCl (wX E a u40) H → va_S (· ∈ LX a) s.heap H locs → W p l e rm_X4_readClause s m ([.ref (a 25)] : List Value).toArray below meth c H locs 0 0 (xQmd E below (LX a) (some (.int ((s_X4_readClause u).1))) (wX E a ((s_X4_readClause u).2)) ([.ref (a 25)] : List Value).toArray s) (F0 m 40 ls []) := by
      intro n40
      induction n40 with
      | zero => intro u40 x3 H locs ls hM40 hR hl hP hS; exact absurd hM40 (Nat.not_lt_zero _)
      | succ n40 ih40 =>
        intro u40 x3 H locs ls hM40 hR hl hP hS
        refine lv_iload_n hx hb dX4_readClause_40 rfl (lv_at hl 0 rfl) ?_
        refine lv_iload_n hx hb dX4_readClause_41 rfl (lv_at hl 1 rfl) ?_
        refine lv_icmp_ge (tgt := 84) hx hb dX4_readClause_42 rfl (fun q2 => ?_) (fun q2 => ?_)
        · have hR := hR.trans (if_pos q2)
          refine lv_aload_n hx hb dX4_readClause_84 rfl (lv_at hl 3 rfl) ?_
          refine lv_dup hx hb dX4_readClause_85 rfl ?_
          refine va_get (D := xD E) (ci := 4) (v := .int (u40.2 13)) (C := RX4) (T := TX4) (N := 9) hx hb hts (by decide +kernel) hown hK hP 25 rfl rfl 4 (by decide) (hts (.fieldLink RX4 25 "RailOffsets$Tape" "clauses" "I") (by decide +kernel)) (fun _ h => h) rfl dX4_readClause_86 ?_
          refine lv_iconst (v := 1) hx hb dX4_readClause_89 rfl ?_
          refine lv_iadd hx hb dX4_readClause_90 ?_
          refine va_put (D := xD E) (ci := 4) (v := .int ((u40.2 13) + 1)) (ty := .int) (C := RX4) (T := TX4) (N := 9) hx hb hts (by decide +kernel) tyX4 tyX4_ok nmX4 hown hK hP (xD_of (ws := wX E a u40) (A := (· ∈ LX a)) hL.1 (fun _ h => h)) hS 25 rfl rfl 4 (by decide) (hts (.fieldLink RX4 25 "RailOffsets$Tape" "clauses" "I") (by decide +kernel)) (fun _ h => h) rfl (by decide +kernel) rfl rfl (Nat.le_of_ble_eq_true rfl) dX4_readClause_91 (fun H locs hP _ hS => ?_)
          have hP : va_P (xD E) vwCl (wX E a (uZ u40 13 ((u40.2 13) + 1))) H := hP
          refine lv_iconst (v := 1) hx hb dX4_readClause_94 rfl ?_
          have hR : s_X4_readClause u = (1, uZ u40 13 ((u40.2 13) + 1)) := hR
          exact W.zret (v := 1) (ty := .boolean) hx hb hr (xnb (Or.inr rfl)) (fun t ht _ => by rw [hR]; dsimp only; exact ⟨⟨rfl, by rw [ht]; exact hP⟩, hS.F ht⟩) hS.2.2 dX4_readClause_95
        · have hR := hR.trans (if_neg q2)
          refine lv_aload_n hx hb dX4_readClause_45 rfl (lv_at hl 3 rfl) ?_
          refine xMdV (nL := 4) ⟨hx, hb, hml, hown, hts⟩ (c_X4_nextToken l E a u40  hL) (cwV 0 hts gX4_readClause_X4_nextToken rfl rfl rfl ⟨rfl, hd_X4_nextToken⟩ ⟨(Nat.le_of_ble_eq_true rfl), (Nat.le_of_ble_eq_true rfl)⟩) hF hS hL.2 (fun _ h => h) hP (va_recv (q := (RX4, TX4, 9)) hK hP (ci := 4) rfl (q0 := 25) rfl) rfl hl.1 rfl (Nat.le_of_ble_eq_true rfl) ⟨(Nat.le_of_ble_eq_true rfl), (Nat.le_of_ble_eq_true rfl)⟩ dX4_readClause_46 (fun H locs hP _ hS => ?_)
          refine W.eq (g2 := F0 m 49 ls []) rfl ?_
          refine lv_aload_n hx hb dX4_readClause_49 rfl (lv_at hl 3 rfl) ?_
          refine va_get (D := xD E) (ci := 4) (v := .int ((s_X4_nextToken u40).2 16)) (C := RX4) (T := TX4) (N := 9) hx hb hts (by decide +kernel) hown hK hP 25 rfl rfl 7 (by decide) (hts (.fieldLink RX4 34 "RailOffsets$Tape" "sort" "I") (by decide +kernel)) (fun _ h => h) rfl dX4_readClause_50 ?_
          refine lv_iconst (v := 1) hx hb dX4_readClause_53 rfl ?_
          refine lv_icmp_eq (tgt := 59) hx hb dX4_readClause_54 rfl (fun q3 => ?_) (fun q3 => ?_)
          · have hR := hR.trans (if_pos q3)
            refine lv_aload_n hx hb dX4_readClause_59 rfl (lv_at hl 3 rfl) ?_
            refine va_get (D := xD E) (ci := 4) (v := .ref (a 28)) (C := RX4) (T := TX4) (N := 9) hx hb hts (by decide +kernel) hown hK hP 25 rfl rfl 2 (by decide) (hts (.fieldLink RX4 18 "RailOffsets$Tape" "numbers" "[I") (by decide +kernel)) (fun _ h => h) rfl dX4_readClause_60 ?_
            refine lv_aload_n hx hb dX4_readClause_63 rfl (lv_at hl 3 rfl) ?_
            refine va_get (D := xD E) (ci := 4) (v := .int ((s_X4_nextToken u40).2 13)) (C := RX4) (T := TX4) (N := 9) hx hb hts (by decide +kernel) hown hK hP 25 rfl rfl 4 (by decide) (hts (.fieldLink RX4 25 "RailOffsets$Tape" "clauses" "I") (by decide +kernel)) (fun _ h => h) rfl dX4_readClause_64 ?_
            refine lv_iconst (v := 4) hx hb dX4_readClause_67 rfl ?_
            refine lv_imul hx hb dX4_readClause_68 ?_
            refine lv_iload_n hx hb dX4_readClause_69 rfl (lv_at hl 0 rfl) ?_
            refine lv_iadd hx hb dX4_readClause_70 ?_
            refine lv_aload_n hx hb dX4_readClause_71 rfl (lv_at hl 3 rfl) ?_
            refine va_get (D := xD E) (ci := 4) (v := .int ((s_X4_nextToken u40).2 17)) (C := RX4) (T := TX4) (N := 9) hx hb hts (by decide +kernel) hown hK hP 25 rfl rfl 8 (by decide) (hts (.fieldLink RX4 37 "RailOffsets$Tape" "value" "I") (by decide +kernel)) (fun _ h => h) rfl dX4_readClause_72 ?_
            refine xMdSN (nL := 4) ⟨hx, hb, hml, hown, hts⟩ (c_X5_mark l E (a 28) 48 ((s_X4_nextToken u40).1 28) ((((s_X4_nextToken u40).2 13) * 4) + x3) ((s_X4_nextToken u40).2 17) (hL.2 _ (List.mem_of_getElem? (i := 28) rfl))) ⟨va_cnB (own := RX4) (host := RX5) (index := 40) (y := yX5_mark) 3 hts gX4_readClause_X5_mark_n40 rfl rfl rfl (hF.2.1.1 (RX4, 40, yX5_mark) (List.mem_of_getElem? (i := 10) rfl)) (hts (.initialized RX5) (by decide +kernel)) hd_X5_mark ⟨(Nat.le_of_ble_eq_true rfl), (Nat.le_of_ble_eq_true rfl)⟩, hts (.static yX5_mark) (by decide +kernel), trivial⟩ hF hS hL.2 (xsub1 (List.mem_of_getElem? (i := 28) rfl)) (hP.sub [28] rfl) rfl hl.1 rfl (Nat.le_of_ble_eq_true rfl) ⟨(Nat.le_of_ble_eq_true rfl), (Nat.le_of_ble_eq_true rfl)⟩ dX4_readClause_75 (fun H1 locs hP1 hk hS => ?_)
            have hP : va_P (xD E) vwCl (wX E a (uR (s_X4_nextToken u40) 28 (s_X5_mark 48 ((s_X4_nextToken u40).1 28) ((((s_X4_nextToken u40).2 13) * 4) + x3) ((s_X4_nextToken u40).2 17)))) H1 := xset1 hP (xD_of (ws := wX E a (s_X4_nextToken u40)) (A := (· ∈ LX a)) hL.1 (fun _ h => h)) (p := 28) rfl hP1 hk
            generalize H1 = H at hP hS ⊢
            refine W.eq (g2 := F0 m 78 ls []) rfl ?_
            refine lv_iinc (k := 0) (v := x3 + 1) (lv' := [(3, .int (x3 + 1)), (2, .int (s_X5_cell (xStL 7) (xStV 7) ((s_X4_nextToken u).2 17))), (1, .int ((s_X4_nextToken u).2 17)), (0, .ref (a 25))]) hx hb dX4_readClause_78 hl rfl rfl (by decide) rfl (fun ls hl => ?_)
            refine lv_goto (tgt := 40) hx hb dX4_readClause_81 rfl ?_
            exact ih40 (uR (s_X4_nextToken u40) 28 (s_X5_mark 48 ((s_X4_nextToken u40).1 28) ((((s_X4_nextToken u40).2 13) * 4) + x3) ((s_X4_nextToken u40).2 17))) (x3 + 1) _ _ _ (Nat.lt_of_lt_of_le (xupc q2) (Nat.le_of_lt_succ hM40)) hR (lv_sub hl [0, 1, 2, 3] rfl) hP hS
          · have hR := hR.trans (if_neg q3)
            refine lv_iconst (v := 0) hx hb dX4_readClause_57 rfl ?_
            have hR : s_X4_readClause u = (0, s_X4_nextToken u40) := hR
            exact W.zret (v := 0) (ty := .boolean) hx hb hr (xnb (Or.inl rfl)) (fun t ht _ => by rw [hR]; dsimp only; exact ⟨⟨rfl, by rw [ht]; exact hP⟩, hS.F ht⟩) hS.2.2 dX4_readClause_58
    exact L40 (((s_X5_cell (xStL 7) (xStV 7) ((s_X4_nextToken u).2 17)).toInt - (0 : Int32).toInt).toNat + 1) (uR (s_X4_nextToken u) 27 (s_X5_mark 12 ((s_X4_nextToken u).1 27) ((s_X4_nextToken u).2 13) ((s_X4_nextToken u).2 17))) 0 _ _ ls (Nat.lt_succ_self _) hR hl hP hS
  · have hR := hR.trans (if_neg q1)
    refine lv_iconst (v := 0) hx hb dX4_readClause_11 rfl ?_
    have hR : s_X4_readClause u = (0, s_X4_nextToken u) := hR
    exact W.zret (v := 0) (ty := .boolean) hx hb hr (xnb (Or.inl rfl)) (fun t ht _ => by rw [hR]; dsimp only; exact ⟨⟨rfl, by rw [ht]; exact hP⟩, hS.F ht⟩) hS.2.2 dX4_readClause_12
def s_X4_faultOf_L12 : Nat → xU → Int32 → Int32 × xU
  | 0, u, _ => (0, u)
  | n + 1, u, x1 =>
    if 60 ≤ x1 then
      (u.2 15, u)
    else
      if ((s_X4_readClause u).1) = 0 then
        (((s_X4_readClause u).2).2 15, (s_X4_readClause u).2)
      else
        if ((s_X4_nextToken ((s_X4_readClause u).2)).2 16) = 3 then
          ((-1), s_X4_nextToken ((s_X4_readClause u).2))
        else
          if ((s_X4_nextToken ((s_X4_readClause u).2)).2 16) = 2 then
            s_X4_faultOf_L12 n (s_X4_nextToken ((s_X4_readClause u).2)) (x1 + 1)
          else
            ((s_X4_nextToken ((s_X4_readClause u).2)).2 15, s_X4_nextToken ((s_X4_readClause u).2))
def s_X4_faultOf (u : xU) : Int32 × xU :=
  s_X4_faultOf_L12 (((60 : Int32).toInt - (0 : Int32).toInt).toNat + 1) (uZ (uZ u 14 0) 13 0) 0
abbrev rm_X4_faultOf : Room := { frames := 9, cells := 0, slots := 0, locals := 237 }
set_option maxHeartbeats 8000000 in
set_option maxRecDepth 100000 in
theorem c_X4_faultOf (l : Launch) (E : xG) (a : Nat → Nat) (u : xU)  (hL : xOK E (LX a)) : xMd l E yX4_faultOf wsX4_faultOf rm_X4_faultOf (LX a) [.ref (a 25)] (wX E a u) (some (.int ((s_X4_faultOf u).1))) (wX E a ((s_X4_faultOf u).2)) := by
  refine xMd.of (cc := cX4_faultOf) (maxL := 2) (ret := (some .int)) (by decide) rfl (Nat.le_of_ble_eq_true rfl) ?_
  intro p e s m below meth c ls hAt hF hP hS hl
  obtain ⟨hx, hb, hr, hml, hown, hts, hlocks, -⟩ := hAt
  have hown : s.vm.findClass RX4 = some m.cls := hown
  have hl : lv_has ls 2 [(0, .ref (a 25))] := hl
  have hK := hF.1
  have hA := hL.2
  change W p l e rm_X4_faultOf s m ([.ref (a 25)] : List Value).toArray below meth c s.heap [] 0 0 (xQmd E below (LX a) (some (.int ((s_X4_faultOf u).1))) (wX E a ((s_X4_faultOf u).2)) ([.ref (a 25)] : List Value).toArray s) _
  have hS : va_S (· ∈ LX a) s.heap s.heap [] := hS
  have hR : s_X4_faultOf u = s_X4_faultOf u := rfl
  refine lv_aload_n hx hb dX4_faultOf_0 rfl (lv_at hl 0 rfl) ?_
  refine lv_iconst (v := 0) hx hb dX4_faultOf_1 rfl ?_
  refine va_put (D := xD E) (ci := 4) (v := .int 0) (ty := .int) (C := RX4) (T := TX4) (N := 9) hx hb hts (by decide +kernel) tyX4 tyX4_ok nmX4 hown hK hP (xD_of (ws := wX E a u) (A := (· ∈ LX a)) hL.1 (fun _ h => h)) hS 25 rfl rfl 5 (by decide) (hts (.fieldLink RX4 28 "RailOffsets$Tape" "here" "I") (by decide +kernel)) (fun _ h => h) rfl (by decide +kernel) rfl rfl (Nat.le_of_ble_eq_true rfl) dX4_faultOf_2 (fun H locs hP _ hS => ?_)
  have hP : va_P (xD E) vwCl (wX E a (uZ u 14 0)) H := hP
  refine lv_aload_n hx hb dX4_faultOf_5 rfl (lv_at hl 0 rfl) ?_
  refine lv_iconst (v := 0) hx hb dX4_faultOf_6 rfl ?_
  refine va_put (D := xD E) (ci := 4) (v := .int 0) (ty := .int) (C := RX4) (T := TX4) (N := 9) hx hb hts (by decide +kernel) tyX4 tyX4_ok nmX4 hown hK hP (xD_of (ws := wX E a (uZ u 14 0)) (A := (· ∈ LX a)) hL.1 (fun _ h => h)) hS 25 rfl rfl 4 (by decide) (hts (.fieldLink RX4 25 "RailOffsets$Tape" "clauses" "I") (by decide +kernel)) (fun _ h => h) rfl (by decide +kernel) rfl rfl (Nat.le_of_ble_eq_true rfl) dX4_faultOf_7 (fun H locs hP _ hS => ?_)
  have hP : va_P (xD E) vwCl (wX E a (uZ (uZ u 14 0) 13 0)) H := hP
  refine lv_iconst (v := 0) hx hb dX4_faultOf_10 rfl ?_
  refine lv_istore_n (lv' := [(1, .int 0), (0, .ref (a 25))]) hx hb dX4_faultOf_11 rfl hl (by decide) rfl (fun ls hl => ?_)
  have L12 : ∀ (n12 : Nat) (u12 : xU) (x1 : Int32) (H : Heap) (locs : List Loc) (ls : Array Slot), ((60 : Int32).toInt - x1.toInt).toNat < n12 → s_X4_faultOf u = s_X4_faultOf_L12 n12 u12 x1 → lv_has ls 2 [(1, .int x1), (0, .ref (a 25))] → va_P (xD E) vwCl (wX E a u12) H → va_S (· ∈ LX a) s.heap H locs → W p l e rm_X4_faultOf s m ([.ref (a 25)] : List Value).toArray below meth c H locs 0 0 (xQmd E below (LX a) (some (.int ((s_X4_faultOf u).1))) (wX E a ((s_X4_faultOf u).2)) ([.ref (a 25)] : List Value).toArray s) (F0 m 12 ls []) := by
    intro n12
    induction n12 with
    | zero => intro u12 x1 H locs ls hM12 hR hl hP hS; exact absurd hM12 (Nat.not_lt_zero _)
    | succ n12 ih12 =>
      intro u12 x1 H locs ls hM12 hR hl hP hS
      refine lv_iload_n hx hb dX4_faultOf_12 rfl (lv_at hl 0 rfl) ?_
      refine lv_bipush (v := 60) hx hb dX4_faultOf_13 rfl ?_
      refine lv_icmp_ge (tgt := 63) hx hb dX4_faultOf_15 rfl (fun q1 => ?_) (fun q1 => ?_)
      · have hR := hR.trans (if_pos q1)
        refine lv_aload_n hx hb dX4_faultOf_63 rfl (lv_at hl 1 rfl) ?_
        refine va_get (D := xD E) (ci := 4) (v := .int (u12.2 15)) (C := RX4) (T := TX4) (N := 9) hx hb hts (by decide +kernel) hown hK hP 25 rfl rfl 6 (by decide) (hts (.fieldLink RX4 31 "RailOffsets$Tape" "start" "I") (by decide +kernel)) (fun _ h => h) rfl dX4_faultOf_64 ?_
        have hR : s_X4_faultOf u = (u12.2 15, u12) := hR
        exact W.iret (v := u12.2 15) hx hb hr (fun t ht _ => by rw [hR]; dsimp only; exact ⟨⟨rfl, by rw [ht]; exact hP⟩, hS.F ht⟩) hS.2.2 dX4_faultOf_67
      · have hR := hR.trans (if_neg q1)
        refine lv_aload_n hx hb dX4_faultOf_18 rfl (lv_at hl 1 rfl) ?_
        refine xMdV (nL := 2) ⟨hx, hb, hml, hown, hts⟩ (c_X4_readClause l E a u12  hL) (cwV 0 hts gX4_faultOf_X4_readClause rfl rfl rfl ⟨rfl, hd_X4_readClause⟩ ⟨(Nat.le_of_ble_eq_true rfl), (Nat.le_of_ble_eq_true rfl)⟩) hF hS hL.2 (fun _ h => h) hP (va_recv (q := (RX4, TX4, 9)) hK hP (ci := 4) rfl (q0 := 25) rfl) rfl hl.1 rfl (Nat.le_of_ble_eq_true rfl) ⟨(Nat.le_of_ble_eq_true rfl), (Nat.le_of_ble_eq_true rfl)⟩ dX4_faultOf_19 (fun H locs hP _ hS => ?_)
        refine W.eq (g2 := F0 m 22 ls [.int ((s_X4_readClause u12).1)]) rfl ?_
        refine lv_if_ne (tgt := 30) hx hb dX4_faultOf_22 rfl (fun q2 => ?_) (fun q2 => ?_)
        · have hR := hR.trans (if_neg q2)
          refine lv_aload_n hx hb dX4_faultOf_30 rfl (lv_at hl 1 rfl) ?_
          refine xMdV (nL := 2) ⟨hx, hb, hml, hown, hts⟩ (c_X4_nextToken l E a ((s_X4_readClause u12).2)  hL) (cwV 0 hts gX4_faultOf_X4_nextToken rfl rfl rfl ⟨rfl, hd_X4_nextToken⟩ ⟨(Nat.le_of_ble_eq_true rfl), (Nat.le_of_ble_eq_true rfl)⟩) hF hS hL.2 (fun _ h => h) hP (va_recv (q := (RX4, TX4, 9)) hK hP (ci := 4) rfl (q0 := 25) rfl) rfl hl.1 rfl (Nat.le_of_ble_eq_true rfl) ⟨(Nat.le_of_ble_eq_true rfl), (Nat.le_of_ble_eq_true rfl)⟩ dX4_faultOf_31 (fun H locs hP _ hS => ?_)
          refine W.eq (g2 := F0 m 34 ls []) rfl ?_
          refine lv_aload_n hx hb dX4_faultOf_34 rfl (lv_at hl 1 rfl) ?_
          refine va_get (D := xD E) (ci := 4) (v := .int ((s_X4_nextToken ((s_X4_readClause u12).2)).2 16)) (C := RX4) (T := TX4) (N := 9) hx hb hts (by decide +kernel) hown hK hP 25 rfl rfl 7 (by decide) (hts (.fieldLink RX4 34 "RailOffsets$Tape" "sort" "I") (by decide +kernel)) (fun _ h => h) rfl dX4_faultOf_35 ?_
          refine lv_iconst (v := 3) hx hb dX4_faultOf_38 rfl ?_
          refine lv_icmp_ne (tgt := 44) hx hb dX4_faultOf_39 rfl (fun q3 => ?_) (fun q3 => ?_)
          · have hR := hR.trans (if_neg q3)
            refine lv_aload_n hx hb dX4_faultOf_44 rfl (lv_at hl 1 rfl) ?_
            refine va_get (D := xD E) (ci := 4) (v := .int ((s_X4_nextToken ((s_X4_readClause u12).2)).2 16)) (C := RX4) (T := TX4) (N := 9) hx hb hts (by decide +kernel) hown hK hP 25 rfl rfl 7 (by decide) (hts (.fieldLink RX4 34 "RailOffsets$Tape" "sort" "I") (by decide +kernel)) (fun _ h => h) rfl dX4_faultOf_45 ?_
            refine lv_iconst (v := 2) hx hb dX4_faultOf_48 rfl ?_
            refine lv_icmp_eq (tgt := 57) hx hb dX4_faultOf_49 rfl (fun q4 => ?_) (fun q4 => ?_)
            · have hR := hR.trans (if_pos q4)
              refine lv_iinc (k := 0) (v := x1 + 1) (lv' := [(1, .int (x1 + 1)), (0, .ref (a 25))]) hx hb dX4_faultOf_57 hl rfl rfl (by decide) rfl (fun ls hl => ?_)
              refine lv_goto (tgt := 12) hx hb dX4_faultOf_60 rfl ?_
              exact ih12 (s_X4_nextToken ((s_X4_readClause u12).2)) (x1 + 1) _ _ _ (Nat.lt_of_lt_of_le (xupc q1) (Nat.le_of_lt_succ hM12)) hR (lv_sub hl [0, 1] rfl) hP hS
            · have hR := hR.trans (if_neg q4)
              refine lv_aload_n hx hb dX4_faultOf_52 rfl (lv_at hl 1 rfl) ?_
              refine va_get (D := xD E) (ci := 4) (v := .int ((s_X4_nextToken ((s_X4_readClause u12).2)).2 15)) (C := RX4) (T := TX4) (N := 9) hx hb hts (by decide +kernel) hown hK hP 25 rfl rfl 6 (by decide) (hts (.fieldLink RX4 31 "RailOffsets$Tape" "start" "I") (by decide +kernel)) (fun _ h => h) rfl dX4_faultOf_53 ?_
              have hR : s_X4_faultOf u = ((s_X4_nextToken ((s_X4_readClause u12).2)).2 15, s_X4_nextToken ((s_X4_readClause u12).2)) := hR
              exact W.iret (v := (s_X4_nextToken ((s_X4_readClause u12).2)).2 15) hx hb hr (fun t ht _ => by rw [hR]; dsimp only; exact ⟨⟨rfl, by rw [ht]; exact hP⟩, hS.F ht⟩) hS.2.2 dX4_faultOf_56
          · have hR := hR.trans (if_pos q3)
            refine lv_iconst (v := (-1)) hx hb dX4_faultOf_42 rfl ?_
            have hR : s_X4_faultOf u = ((-1), s_X4_nextToken ((s_X4_readClause u12).2)) := hR
            exact W.iret (v := (-1)) hx hb hr (fun t ht _ => by rw [hR]; dsimp only; exact ⟨⟨rfl, by rw [ht]; exact hP⟩, hS.F ht⟩) hS.2.2 dX4_faultOf_43
        · have hR := hR.trans (if_pos q2)
          refine lv_aload_n hx hb dX4_faultOf_25 rfl (lv_at hl 1 rfl) ?_
          refine va_get (D := xD E) (ci := 4) (v := .int (((s_X4_readClause u12).2).2 15)) (C := RX4) (T := TX4) (N := 9) hx hb hts (by decide +kernel) hown hK hP 25 rfl rfl 6 (by decide) (hts (.fieldLink RX4 31 "RailOffsets$Tape" "start" "I") (by decide +kernel)) (fun _ h => h) rfl dX4_faultOf_26 ?_
          have hR : s_X4_faultOf u = (((s_X4_readClause u12).2).2 15, (s_X4_readClause u12).2) := hR
          exact W.iret (v := ((s_X4_readClause u12).2).2 15) hx hb hr (fun t ht _ => by rw [hR]; dsimp only; exact ⟨⟨rfl, by rw [ht]; exact hP⟩, hS.F ht⟩) hS.2.2 dX4_faultOf_29
  exact L12 (((60 : Int32).toInt - (0 : Int32).toInt).toNat + 1) (uZ (uZ u 14 0) 13 0) 0 _ _ ls (Nat.lt_succ_self _) hR hl hP hS
