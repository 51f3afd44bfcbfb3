def s_X6_in (u : xU) (p0 : Int64) (p2 : Int64) (p4 : Int64) : Int32 :=
  if (lg_cmp p0 p2) < 0 then
    0
  else
    if 0 < (lg_cmp p0 p4) then
      0
    else
      1
abbrev rm_X6_in : Room := { frames := 0, cells := 0, slots := 0, locals := 0 }
set_option maxHeartbeats 8000000 in
set_option maxRecDepth 100000 in
theorem c_X6_in (l : Launch) (E : xG) (a : Nat → Nat) (u : xU) (p0 : Int64) (p2 : Int64) (p4 : Int64) : xRo l E yX6_in wsX6_in rm_X6_in [.long p0, .long p2, .long p4] (wM E a u) (some (.int (s_X6_in u p0 p2 p4))) := by
  refine xRo.of (cc := cX6_in) (maxL := 6) (ret := (some .boolean)) (by decide) rfl (Nat.le_of_ble_eq_true rfl) ?_
  intro p e s m below meth c ls hAt hF hP hS hl
  obtain ⟨hx, hb, hr, hml, hown, hts, hlocks, -⟩ := hAt
  have hown : s.vm.findClass RX6 = some m.cls := hown
  have hl : lv_has ls 6 [(0, .long p0), (2, .long p2), (4, .long p4)] := hl
  have hK := hF.1
  have hA : ∀ q : Nat, (fun _ => False) q → xA0 E q := fun _ h => h.elim
  change W p l e rm_X6_in s m ([.long p0, .long p2, .long p4] : List Value).toArray below meth c s.heap [] 0 0 (xQro below (some (.int (s_X6_in u p0 p2 p4))) ([.long p0, .long p2, .long p4] : List Value).toArray s) _
  have hR : s_X6_in u p0 p2 p4 = s_X6_in u p0 p2 p4 := rfl
  refine lv_lload_n hx hb dX6_in_0 rfl (lv_at hl 0 rfl) ?_
  refine lv_lload_n hx hb dX6_in_1 rfl (lv_at hl 1 rfl) ?_
  refine W.lcmp hx hb dX6_in_2 ?_
  refine lv_if_lt (tgt := 17) hx hb dX6_in_3 rfl (fun q1 => ?_) (fun q1 => ?_)
  · have hR := hR.trans (if_pos q1)
    refine lv_iconst (v := 0) hx hb dX6_in_17 rfl ?_
    have hR : s_X6_in u p0 p2 p4 = 0 := hR
    exact W.zret (v := 0) (ty := .boolean) hx hb hr (xnb (Or.inl rfl)) (fun t ht _ => ⟨congrArg (fun z => Outcome.returned (some (Value.int z))) hR.symm, ht⟩) (fun _ h => by cases h) dX6_in_18
  · have hR := hR.trans (if_neg q1)
    refine lv_lload_n hx hb dX6_in_6 rfl (lv_at hl 0 rfl) ?_
    refine lv_lload hx hb dX6_in_7 (lv_at hl 2 rfl) ?_
    refine W.lcmp hx hb dX6_in_9 ?_
    refine lv_if_gt (tgt := 17) hx hb dX6_in_10 rfl (fun q2 => ?_) (fun q2 => ?_)
    · have hR := hR.trans (if_pos q2)
      refine lv_iconst (v := 0) hx hb dX6_in_17 rfl ?_
      have hR : s_X6_in u p0 p2 p4 = 0 := hR
      exact W.zret (v := 0) (ty := .boolean) hx hb hr (xnb (Or.inl rfl)) (fun t ht _ => ⟨congrArg (fun z => Outcome.returned (some (Value.int z))) hR.symm, ht⟩) (fun _ h => by cases h) dX6_in_18
    · have hR := hR.trans (if_neg q2)
      refine lv_iconst (v := 1) hx hb dX6_in_13 rfl ?_
      refine lv_goto (tgt := 18) hx hb dX6_in_14 rfl ?_
      have hR : s_X6_in u p0 p2 p4 = 1 := hR
      exact W.zret (v := 1) (ty := .boolean) hx hb hr (xnb (Or.inr rfl)) (fun t ht _ => ⟨congrArg (fun z => Outcome.returned (some (Value.int z))) hR.symm, ht⟩) (fun _ h => by cases h) dX6_in_18
theorem bs_X6_in (u : xU) (p0 : Int64) (p2 : Int64) (p4 : Int64) : s_X6_in u p0 p2 p4 = 0 ∨ s_X6_in u p0 p2 p4 = 1 := by
  unfold s_X6_in; repeat (first | exact Or.inl rfl | exact Or.inr rfl | split)
def s_X6_abs (u : xU) (p0 : Int32) : Int32 :=
  if 0 ≤ p0 then
    p0
  else
    -p0
abbrev rm_X6_abs : Room := { frames := 0, cells := 0, slots := 0, locals := 0 }
set_option maxHeartbeats 8000000 in
set_option maxRecDepth 100000 in
theorem c_X6_abs (l : Launch) (E : xG) (a : Nat → Nat) (u : xU) (p0 : Int32) : xRo l E yX6_abs wsX6_abs rm_X6_abs [.int p0] (wM E a u) (some (.int (s_X6_abs u p0))) := by
  refine xRo.of (cc := cX6_abs) (maxL := 1) (ret := (some .int)) (by decide) rfl (Nat.le_of_ble_eq_true rfl) ?_
  intro p e s m below meth c ls hAt hF hP hS hl
  obtain ⟨hx, hb, hr, hml, hown, hts, hlocks, -⟩ := hAt
  have hown : s.vm.findClass RX6 = some m.cls := hown
  have hl : lv_has ls 1 [(0, .int p0)] := hl
  have hK := hF.1
  have hA : ∀ q : Nat, (fun _ => False) q → xA0 E q := fun _ h => h.elim
  change W p l e rm_X6_abs s m ([.int p0] : List Value).toArray below meth c s.heap [] 0 0 (xQro below (some (.int (s_X6_abs u p0))) ([.int p0] : List Value).toArray s) _
  have hR : s_X6_abs u p0 = s_X6_abs u p0 := rfl
  refine lv_iload_n hx hb dX6_abs_0 rfl (lv_at hl 0 rfl) ?_
  refine lv_if_ge (tgt := 9) hx hb dX6_abs_1 rfl (fun q1 => ?_) (fun q1 => ?_)
  · have hR := hR.trans (if_pos q1)
    refine lv_iload_n hx hb dX6_abs_9 rfl (lv_at hl 0 rfl) ?_
    have hR : s_X6_abs u p0 = p0 := hR
    exact W.iret (v := p0) hx hb hr (fun t ht _ => ⟨congrArg (fun z => Outcome.returned (some (Value.int z))) hR.symm, ht⟩) (fun _ h => by cases h) dX6_abs_10
  · have hR := hR.trans (if_neg q1)
    refine lv_iload_n hx hb dX6_abs_4 rfl (lv_at hl 0 rfl) ?_
    refine lv_ineg hx hb dX6_abs_5 ?_
    refine lv_goto (tgt := 10) hx hb dX6_abs_6 rfl ?_
    have hR : s_X6_abs u p0 = -p0 := hR
    exact W.iret (v := -p0) hx hb hr (fun t ht _ => ⟨congrArg (fun z => Outcome.returned (some (Value.int z))) hR.symm, ht⟩) (fun _ h => by cases h) dX6_abs_10
def s_X6_mayBe (u : xU) (p0 : Int32) (p1 : Int32) : Int32 :=
  if p0 = 0 then
    s_X6_in u p1.toInt64 0 5
  else
    if p0 = 1 then
      s_X6_in u p1.toInt64 1 20
    else
      if p0 = 2 then
        s_X6_in u p1.toInt64 (-99) 99
      else
        s_X6_in u p1.toInt64 0 160
abbrev rm_X6_mayBe : Room := { frames := 1, cells := 0, slots := 0, locals := 25 }
set_option maxHeartbeats 8000000 in
set_option maxRecDepth 100000 in
theorem c_X6_mayBe (l : Launch) (E : xG) (a : Nat → Nat) (u : xU) (p0 : Int32) (p1 : Int32) : xRo l E yX6_mayBe wsX6_mayBe rm_X6_mayBe [.int p0, .int p1] (wM E a u) (some (.int (s_X6_mayBe u p0 p1))) := by
  refine xRo.of (cc := cX6_mayBe) (maxL := 2) (ret := (some .boolean)) (by decide) rfl (Nat.le_of_ble_eq_true rfl) ?_
  intro p e s m below meth c ls hAt hF hP hS hl
  obtain ⟨hx, hb, hr, hml, hown, hts, hlocks, -⟩ := hAt
  have hown : s.vm.findClass RX6 = some m.cls := hown
  have hl : lv_has ls 2 [(0, .int p0), (1, .int p1)] := hl
  have hK := hF.1
  have hA : ∀ q : Nat, (fun _ => False) q → xA0 E q := fun _ h => h.elim
  change W p l e rm_X6_mayBe s m ([.int p0, .int p1] : List Value).toArray below meth c s.heap [] 0 0 (xQro below (some (.int (s_X6_mayBe u p0 p1))) ([.int p0, .int p1] : List Value).toArray s) _
  have hR : s_X6_mayBe u p0 p1 = s_X6_mayBe u p0 p1 := rfl
  refine lv_iload_n hx hb dX6_mayBe_0 rfl (lv_at hl 0 rfl) ?_
  refine lv_if_ne (tgt := 16) hx hb dX6_mayBe_1 rfl (fun q1 => ?_) (fun q1 => ?_)
  · have hR := hR.trans (if_neg q1)
    refine lv_iload_n hx hb dX6_mayBe_16 rfl (lv_at hl 0 rfl) ?_
    refine lv_iconst (v := 1) hx hb dX6_mayBe_17 rfl ?_
    refine lv_icmp_ne (tgt := 33) hx hb dX6_mayBe_18 rfl (fun q2 => ?_) (fun q2 => ?_)
    · have hR := hR.trans (if_neg q2)
      refine lv_iload_n hx hb dX6_mayBe_33 rfl (lv_at hl 0 rfl) ?_
      refine lv_iconst (v := 2) hx hb dX6_mayBe_34 rfl ?_
      refine lv_icmp_ne (tgt := 52) hx hb dX6_mayBe_35 rfl (fun q3 => ?_) (fun q3 => ?_)
      · have hR := hR.trans (if_neg q3)
        refine lv_iload_n hx hb dX6_mayBe_52 rfl (lv_at hl 1 rfl) ?_
        refine lv_i2l hx hb dX6_mayBe_53 rfl ?_
        refine lv_lconst (v := 0) hx hb dX6_mayBe_54 rfl ?_
        refine lv_ldc2 (v := 160) hx hb hown (hts (.constantLong RX6 79 (160)) (by decide +kernel)) dX6_mayBe_55 ?_
        refine xRoS (nL := 2) ⟨hx, hb, hml, hown, hts⟩ (c_X6_in l E a u p1.toInt64 0 160) (va_cwS 3 hts gX6_mayBe_X6_in rfl rfl rfl hd_X6_in ⟨(Nat.le_of_ble_eq_true rfl), (Nat.le_of_ble_eq_true rfl)⟩) hF hS hA hP rfl hl.1 rfl (Nat.le_of_ble_eq_true rfl) ⟨(Nat.le_of_ble_eq_true rfl), (Nat.le_of_ble_eq_true rfl)⟩ dX6_mayBe_58 ?_
        refine W.eq (g2 := F0 m 61 ls [.int (s_X6_in u p1.toInt64 0 160)]) rfl ?_
        have hR : s_X6_mayBe u p0 p1 = s_X6_in u p1.toInt64 0 160 := hR
        exact W.zret (v := s_X6_in u p1.toInt64 0 160) (ty := .boolean) hx hb hr (xnb (bs_X6_in ..)) (fun t ht _ => ⟨congrArg (fun z => Outcome.returned (some (Value.int z))) hR.symm, ht⟩) (fun _ h => by cases h) dX6_mayBe_61
      · have hR := hR.trans (if_pos q3)
        refine lv_iload_n hx hb dX6_mayBe_38 rfl (lv_at hl 1 rfl) ?_
        refine lv_i2l hx hb dX6_mayBe_39 rfl ?_
        refine lv_ldc2 (v := (-99)) hx hb hown (hts (.constantLong RX6 75 (-99)) (by decide +kernel)) dX6_mayBe_40 ?_
        refine lv_ldc2 (v := 99) hx hb hown (hts (.constantLong RX6 77 (99)) (by decide +kernel)) dX6_mayBe_43 ?_
        refine xRoS (nL := 2) ⟨hx, hb, hml, hown, hts⟩ (c_X6_in l E a u p1.toInt64 (-99) 99) (va_cwS 3 hts gX6_mayBe_X6_in rfl rfl rfl hd_X6_in ⟨(Nat.le_of_ble_eq_true rfl), (Nat.le_of_ble_eq_true rfl)⟩) hF hS hA hP rfl hl.1 rfl (Nat.le_of_ble_eq_true rfl) ⟨(Nat.le_of_ble_eq_true rfl), (Nat.le_of_ble_eq_true rfl)⟩ dX6_mayBe_46 ?_
        refine W.eq (g2 := F0 m 49 ls [.int (s_X6_in u p1.toInt64 (-99) 99)]) rfl ?_
        refine lv_goto (tgt := 61) hx hb dX6_mayBe_49 rfl ?_
        have hR : s_X6_mayBe u p0 p1 = s_X6_in u p1.toInt64 (-99) 99 := hR
        exact W.zret (v := s_X6_in u p1.toInt64 (-99) 99) (ty := .boolean) hx hb hr (xnb (bs_X6_in ..)) (fun t ht _ => ⟨congrArg (fun z => Outcome.returned (some (Value.int z))) hR.symm, ht⟩) (fun _ h => by cases h) dX6_mayBe_61
    · have hR := hR.trans (if_pos q2)
      refine lv_iload_n hx hb dX6_mayBe_21 rfl (lv_at hl 1 rfl) ?_
      refine lv_i2l hx hb dX6_mayBe_22 rfl ?_
      refine lv_lconst (v := 1) hx hb dX6_mayBe_23 rfl ?_
      refine lv_ldc2 (v := 20) hx hb hown (hts (.constantLong RX6 73 (20)) (by decide +kernel)) dX6_mayBe_24 ?_
      refine xRoS (nL := 2) ⟨hx, hb, hml, hown, hts⟩ (c_X6_in l E a u p1.toInt64 1 20) (va_cwS 3 hts gX6_mayBe_X6_in rfl rfl rfl hd_X6_in ⟨(Nat.le_of_ble_eq_true rfl), (Nat.le_of_ble_eq_true rfl)⟩) hF hS hA hP rfl hl.1 rfl (Nat.le_of_ble_eq_true rfl) ⟨(Nat.le_of_ble_eq_true rfl), (Nat.le_of_ble_eq_true rfl)⟩ dX6_mayBe_27 ?_
      refine W.eq (g2 := F0 m 30 ls [.int (s_X6_in u p1.toInt64 1 20)]) rfl ?_
      refine lv_goto (tgt := 61) hx hb dX6_mayBe_30 rfl ?_
      have hR : s_X6_mayBe u p0 p1 = s_X6_in u p1.toInt64 1 20 := hR
      exact W.zret (v := s_X6_in u p1.toInt64 1 20) (ty := .boolean) hx hb hr (xnb (bs_X6_in ..)) (fun t ht _ => ⟨congrArg (fun z => Outcome.returned (some (Value.int z))) hR.symm, ht⟩) (fun _ h => by cases h) dX6_mayBe_61
  · have hR := hR.trans (if_pos q1)
    refine lv_iload_n hx hb dX6_mayBe_4 rfl (lv_at hl 1 rfl) ?_
    refine lv_i2l hx hb dX6_mayBe_5 rfl ?_
    refine lv_lconst (v := 0) hx hb dX6_mayBe_6 rfl ?_
    refine lv_ldc2 (v := 5) hx hb hown (hts (.constantLong RX6 71 (5)) (by decide +kernel)) dX6_mayBe_7 ?_
    refine xRoS (nL := 2) ⟨hx, hb, hml, hown, hts⟩ (c_X6_in l E a u p1.toInt64 0 5) (va_cwS 3 hts gX6_mayBe_X6_in rfl rfl rfl hd_X6_in ⟨(Nat.le_of_ble_eq_true rfl), (Nat.le_of_ble_eq_true rfl)⟩) hF hS hA hP rfl hl.1 rfl (Nat.le_of_ble_eq_true rfl) ⟨(Nat.le_of_ble_eq_true rfl), (Nat.le_of_ble_eq_true rfl)⟩ dX6_mayBe_10 ?_
    refine W.eq (g2 := F0 m 13 ls [.int (s_X6_in u p1.toInt64 0 5)]) rfl ?_
    refine lv_goto (tgt := 61) hx hb dX6_mayBe_13 rfl ?_
    have hR : s_X6_mayBe u p0 p1 = s_X6_in u p1.toInt64 0 5 := hR
    exact W.zret (v := s_X6_in u p1.toInt64 0 5) (ty := .boolean) hx hb hr (xnb (bs_X6_in ..)) (fun t ht _ => ⟨congrArg (fun z => Outcome.returned (some (Value.int z))) hR.symm, ht⟩) (fun _ h => by cases h) dX6_mayBe_61
def s_X6_isUnder (u : xU) (p0 : Int32) (p1 : Int32) : Int32 :=
  if p1 = 0 then
    1
  else
    if p0 = p1 then
      1
    else
      if p1 = 1 then
        if p0 = 3 then
          1
        else
          if p0 = 5 then
            1
          else
            if p1 = 2 then
              if p0 = 4 then
                1
              else
                0
            else
              0
      else
        if p1 = 2 then
          if p0 = 4 then
            1
          else
            0
        else
          0
abbrev rm_X6_isUnder : Room := { frames := 0, cells := 0, slots := 0, locals := 0 }
set_option maxHeartbeats 8000000 in
set_option maxRecDepth 100000 in
theorem c_X6_isUnder (l : Launch) (E : xG) (a : Nat → Nat) (u : xU) (p0 : Int32) (p1 : Int32) : xRo l E yX6_isUnder wsX6_isUnder rm_X6_isUnder [.int p0, .int p1] (wM E a u) (some (.int (s_X6_isUnder u p0 p1))) := by
  refine xRo.of (cc := cX6_isUnder) (maxL := 2) (ret := (some .boolean)) (by decide) rfl (Nat.le_of_ble_eq_true rfl) ?_
  intro p e s m below meth c ls hAt hF hP hS hl
  obtain ⟨hx, hb, hr, hml, hown, hts, hlocks, -⟩ := hAt
  have hown : s.vm.findClass RX6 = some m.cls := hown
  have hl : lv_has ls 2 [(0, .int p0), (1, .int p1)] := hl
  have hK := hF.1
  have hA : ∀ q : Nat, (fun _ => False) q → xA0 E q := fun _ h => h.elim
  change W p l e rm_X6_isUnder s m ([.int p0, .int p1] : List Value).toArray below meth c s.heap [] 0 0 (xQro below (some (.int (s_X6_isUnder u p0 p1))) ([.int p0, .int p1] : List Value).toArray s) _
  have hR : s_X6_isUnder u p0 p1 = s_X6_isUnder u p0 p1 := rfl
  refine lv_iload_n hx hb dX6_isUnder_0 rfl (lv_at hl 1 rfl) ?_
  refine lv_if_eq (tgt := 34) hx hb dX6_isUnder_1 rfl (fun q1 => ?_) (fun q1 => ?_)
  · have hR := hR.trans (if_pos q1)
    refine lv_iconst (v := 1) hx hb dX6_isUnder_34 rfl ?_
    refine lv_goto (tgt := 39) hx hb dX6_isUnder_35 rfl ?_
    have hR : s_X6_isUnder u p0 p1 = 1 := hR
    exact W.zret (v := 1) (ty := .boolean) hx hb hr (xnb (Or.inr rfl)) (fun t ht _ => ⟨congrArg (fun z => Outcome.returned (some (Value.int z))) hR.symm, ht⟩) (fun _ h => by cases h) dX6_isUnder_39
  · have hR := hR.trans (if_neg q1)
    refine lv_iload_n hx hb dX6_isUnder_4 rfl (lv_at hl 0 rfl) ?_
    refine lv_iload_n hx hb dX6_isUnder_5 rfl (lv_at hl 1 rfl) ?_
    refine lv_icmp_eq (tgt := 34) hx hb dX6_isUnder_6 rfl (fun q2 => ?_) (fun q2 => ?_)
    · have hR := hR.trans (if_pos q2)
      refine lv_iconst (v := 1) hx hb dX6_isUnder_34 rfl ?_
      refine lv_goto (tgt := 39) hx hb dX6_isUnder_35 rfl ?_
      have hR : s_X6_isUnder u p0 p1 = 1 := hR
      exact W.zret (v := 1) (ty := .boolean) hx hb hr (xnb (Or.inr rfl)) (fun t ht _ => ⟨congrArg (fun z => Outcome.returned (some (Value.int z))) hR.symm, ht⟩) (fun _ h => by cases h) dX6_isUnder_39
    · have hR := hR.trans (if_neg q2)
      refine lv_iload_n hx hb dX6_isUnder_9 rfl (lv_at hl 1 rfl) ?_
      refine lv_iconst (v := 1) hx hb dX6_isUnder_10 rfl ?_
      refine lv_icmp_ne (tgt := 24) hx hb dX6_isUnder_11 rfl (fun q3 => ?_) (fun q3 => ?_)
      · have hR := hR.trans (if_neg q3)
        refine lv_iload_n hx hb dX6_isUnder_24 rfl (lv_at hl 1 rfl) ?_
        refine lv_iconst (v := 2) hx hb dX6_isUnder_25 rfl ?_
        refine lv_icmp_ne (tgt := 38) hx hb dX6_isUnder_26 rfl (fun q4 => ?_) (fun q4 => ?_)
        · have hR := hR.trans (if_neg q4)
          refine lv_iconst (v := 0) hx hb dX6_isUnder_38 rfl ?_
          have hR : s_X6_isUnder u p0 p1 = 0 := hR
          exact W.zret (v := 0) (ty := .boolean) hx hb hr (xnb (Or.inl rfl)) (fun t ht _ => ⟨congrArg (fun z => Outcome.returned (some (Value.int z))) hR.symm, ht⟩) (fun _ h => by cases h) dX6_isUnder_39
        · have hR := hR.trans (if_pos q4)
          refine lv_iload_n hx hb dX6_isUnder_29 rfl (lv_at hl 0 rfl) ?_
          refine lv_iconst (v := 4) hx hb dX6_isUnder_30 rfl ?_
          refine lv_icmp_ne (tgt := 38) hx hb dX6_isUnder_31 rfl (fun q5 => ?_) (fun q5 => ?_)
          · have hR := hR.trans (if_neg q5)
            refine lv_iconst (v := 0) hx hb dX6_isUnder_38 rfl ?_
            have hR : s_X6_isUnder u p0 p1 = 0 := hR
            exact W.zret (v := 0) (ty := .boolean) hx hb hr (xnb (Or.inl rfl)) (fun t ht _ => ⟨congrArg (fun z => Outcome.returned (some (Value.int z))) hR.symm, ht⟩) (fun _ h => by cases h) dX6_isUnder_39
          · have hR := hR.trans (if_pos q5)
            refine lv_iconst (v := 1) hx hb dX6_isUnder_34 rfl ?_
            refine lv_goto (tgt := 39) hx hb dX6_isUnder_35 rfl ?_
            have hR : s_X6_isUnder u p0 p1 = 1 := hR
            exact W.zret (v := 1) (ty := .boolean) hx hb hr (xnb (Or.inr rfl)) (fun t ht _ => ⟨congrArg (fun z => Outcome.returned (some (Value.int z))) hR.symm, ht⟩) (fun _ h => by cases h) dX6_isUnder_39
      · have hR := hR.trans (if_pos q3)
        refine lv_iload_n hx hb dX6_isUnder_14 rfl (lv_at hl 0 rfl) ?_
        refine lv_iconst (v := 3) hx hb dX6_isUnder_15 rfl ?_
        refine lv_icmp_eq (tgt := 34) hx hb dX6_isUnder_16 rfl (fun q6 => ?_) (fun q6 => ?_)
        · have hR := hR.trans (if_pos q6)
          refine lv_iconst (v := 1) hx hb dX6_isUnder_34 rfl ?_
          refine lv_goto (tgt := 39) hx hb dX6_isUnder_35 rfl ?_
          have hR : s_X6_isUnder u p0 p1 = 1 := hR
          exact W.zret (v := 1) (ty := .boolean) hx hb hr (xnb (Or.inr rfl)) (fun t ht _ => ⟨congrArg (fun z => Outcome.returned (some (Value.int z))) hR.symm, ht⟩) (fun _ h => by cases h) dX6_isUnder_39
        · have hR := hR.trans (if_neg q6)
          refine lv_iload_n hx hb dX6_isUnder_19 rfl (lv_at hl 0 rfl) ?_
          refine lv_iconst (v := 5) hx hb dX6_isUnder_20 rfl ?_
          refine lv_icmp_eq (tgt := 34) hx hb dX6_isUnder_21 rfl (fun q7 => ?_) (fun q7 => ?_)
          · have hR := hR.trans (if_pos q7)
            refine lv_iconst (v := 1) hx hb dX6_isUnder_34 rfl ?_
            refine lv_goto (tgt := 39) hx hb dX6_isUnder_35 rfl ?_
            have hR : s_X6_isUnder u p0 p1 = 1 := hR
            exact W.zret (v := 1) (ty := .boolean) hx hb hr (xnb (Or.inr rfl)) (fun t ht _ => ⟨congrArg (fun z => Outcome.returned (some (Value.int z))) hR.symm, ht⟩) (fun _ h => by cases h) dX6_isUnder_39
          · have hR := hR.trans (if_neg q7)
            refine lv_iload_n hx hb dX6_isUnder_24 rfl (lv_at hl 1 rfl) ?_
            refine lv_iconst (v := 2) hx hb dX6_isUnder_25 rfl ?_
            refine lv_icmp_ne (tgt := 38) hx hb dX6_isUnder_26 rfl (fun q8 => ?_) (fun q8 => ?_)
            · have hR := hR.trans (if_neg q8)
              refine lv_iconst (v := 0) hx hb dX6_isUnder_38 rfl ?_
              have hR : s_X6_isUnder u p0 p1 = 0 := hR
              exact W.zret (v := 0) (ty := .boolean) hx hb hr (xnb (Or.inl rfl)) (fun t ht _ => ⟨congrArg (fun z => Outcome.returned (some (Value.int z))) hR.symm, ht⟩) (fun _ h => by cases h) dX6_isUnder_39
            · have hR := hR.trans (if_pos q8)
              refine lv_iload_n hx hb dX6_isUnder_29 rfl (lv_at hl 0 rfl) ?_
              refine lv_iconst (v := 4) hx hb dX6_isUnder_30 rfl ?_
              refine lv_icmp_ne (tgt := 38) hx hb dX6_isUnder_31 rfl (fun q9 => ?_) (fun q9 => ?_)
              · have hR := hR.trans (if_neg q9)
                refine lv_iconst (v := 0) hx hb dX6_isUnder_38 rfl ?_
                have hR : s_X6_isUnder u p0 p1 = 0 := hR
                exact W.zret (v := 0) (ty := .boolean) hx hb hr (xnb (Or.inl rfl)) (fun t ht _ => ⟨congrArg (fun z => Outcome.returned (some (Value.int z))) hR.symm, ht⟩) (fun _ h => by cases h) dX6_isUnder_39
              · have hR := hR.trans (if_pos q9)
                refine lv_iconst (v := 1) hx hb dX6_isUnder_34 rfl ?_
                refine lv_goto (tgt := 39) hx hb dX6_isUnder_35 rfl ?_
                have hR : s_X6_isUnder u p0 p1 = 1 := hR
                exact W.zret (v := 1) (ty := .boolean) hx hb hr (xnb (Or.inr rfl)) (fun t ht _ => ⟨congrArg (fun z => Outcome.returned (some (Value.int z))) hR.symm, ht⟩) (fun _ h => by cases h) dX6_isUnder_39
def s_X6_mayRule (u : xU) (p0 : Int32) (p1 : Int32) : Int32 :=
  if p0 = 0 then
    s_X6_in u p1.toInt64 1 1000000
  else
    if p0 = 4 then
      s_X6_in u p1.toInt64 0 99
    else
      if p0 = 5 then
        s_X6_in u p1.toInt64 0 200
      else
        if p0 = 6 then
          s_X6_in u p1.toInt64 (-1000000) 1000000
        else
          if p0 = 7 then
            s_X6_in u p1.toInt64 (-10000) 10000
          else
            s_X6_in u p1.toInt64 0 160
abbrev rm_X6_mayRule : Room := { frames := 1, cells := 0, slots := 0, locals := 25 }
set_option maxHeartbeats 8000000 in
set_option maxRecDepth 100000 in
theorem c_X6_mayRule (l : Launch) (E : xG) (a : Nat → Nat) (u : xU) (p0 : Int32) (p1 : Int32) : xRo l E yX6_mayRule wsX6_mayRule rm_X6_mayRule [.int p0, .int p1] (wM E a u) (some (.int (s_X6_mayRule u p0 p1))) := by
  refine xRo.of (cc := cX6_mayRule) (maxL := 2) (ret := (some .boolean)) (by decide) rfl (Nat.le_of_ble_eq_true rfl) ?_
  intro p e s m below meth c ls hAt hF hP hS hl
  obtain ⟨hx, hb, hr, hml, hown, hts, hlocks, -⟩ := hAt
  have hown : s.vm.findClass RX6 = some m.cls := hown
  have hl : lv_has ls 2 [(0, .int p0), (1, .int p1)] := hl
  have hK := hF.1
  have hA : ∀ q : Nat, (fun _ => False) q → xA0 E q := fun _ h => h.elim
  change W p l e rm_X6_mayRule s m ([.int p0, .int p1] : List Value).toArray below meth c s.heap [] 0 0 (xQro below (some (.int (s_X6_mayRule u p0 p1))) ([.int p0, .int p1] : List Value).toArray s) _
  have hR : s_X6_mayRule u p0 p1 = s_X6_mayRule u p0 p1 := rfl
  refine lv_iload_n hx hb dX6_mayRule_0 rfl (lv_at hl 0 rfl) ?_
  by_cases q1 : p0 = 0
  · have hR := hR.trans (if_pos q1)
    refine lv_tableIn (tgt := 48) (off := 47) hx hb dX6_mayRule_1 (by rw [q1]; decide) (by rw [q1]; decide) (by rw [q1]; rfl) rfl ?_
    refine lv_iload_n hx hb dX6_mayRule_48 rfl (lv_at hl 1 rfl) ?_
    refine lv_i2l hx hb dX6_mayRule_49 rfl ?_
    refine lv_lconst (v := 1) hx hb dX6_mayRule_50 rfl ?_
    refine lv_ldc2 (v := 1000000) hx hb hown (hts (.constantLong RX6 110 (1000000)) (by decide +kernel)) dX6_mayRule_51 ?_
    refine xRoS (nL := 2) ⟨hx, hb, hml, hown, hts⟩ (c_X6_in l E a u p1.toInt64 1 1000000) (va_cwS 3 hts gX6_mayRule_X6_in rfl rfl rfl hd_X6_in ⟨(Nat.le_of_ble_eq_true rfl), (Nat.le_of_ble_eq_true rfl)⟩) hF hS hA hP rfl hl.1 rfl (Nat.le_of_ble_eq_true rfl) ⟨(Nat.le_of_ble_eq_true rfl), (Nat.le_of_ble_eq_true rfl)⟩ dX6_mayRule_54 ?_
    refine W.eq (g2 := F0 m 57 ls [.int (s_X6_in u p1.toInt64 1 1000000)]) rfl ?_
    have hR : s_X6_mayRule u p0 p1 = s_X6_in u p1.toInt64 1 1000000 := hR
    exact W.zret (v := s_X6_in u p1.toInt64 1 1000000) (ty := .boolean) hx hb hr (xnb (bs_X6_in ..)) (fun t ht _ => ⟨congrArg (fun z => Outcome.returned (some (Value.int z))) hR.symm, ht⟩) (fun _ h => by cases h) dX6_mayRule_57
  have hR := hR.trans (if_neg q1)
  by_cases q2 : p0 = 4
  · have hR := hR.trans (if_pos q2)
    refine lv_tableIn (tgt := 58) (off := 57) hx hb dX6_mayRule_1 (by rw [q2]; decide) (by rw [q2]; decide) (by rw [q2]; rfl) rfl ?_
    refine lv_iload_n hx hb dX6_mayRule_58 rfl (lv_at hl 1 rfl) ?_
    refine lv_i2l hx hb dX6_mayRule_59 rfl ?_
    refine lv_lconst (v := 0) hx hb dX6_mayRule_60 rfl ?_
    refine lv_ldc2 (v := 99) hx hb hown (hts (.constantLong RX6 77 (99)) (by decide +kernel)) dX6_mayRule_61 ?_
    refine xRoS (nL := 2) ⟨hx, hb, hml, hown, hts⟩ (c_X6_in l E a u p1.toInt64 0 99) (va_cwS 3 hts gX6_mayRule_X6_in rfl rfl rfl hd_X6_in ⟨(Nat.le_of_ble_eq_true rfl), (Nat.le_of_ble_eq_true rfl)⟩) hF hS hA hP rfl hl.1 rfl (Nat.le_of_ble_eq_true rfl) ⟨(Nat.le_of_ble_eq_true rfl), (Nat.le_of_ble_eq_true rfl)⟩ dX6_mayRule_64 ?_
    refine W.eq (g2 := F0 m 67 ls [.int (s_X6_in u p1.toInt64 0 99)]) rfl ?_
    have hR : s_X6_mayRule u p0 p1 = s_X6_in u p1.toInt64 0 99 := hR
    exact W.zret (v := s_X6_in u p1.toInt64 0 99) (ty := .boolean) hx hb hr (xnb (bs_X6_in ..)) (fun t ht _ => ⟨congrArg (fun z => Outcome.returned (some (Value.int z))) hR.symm, ht⟩) (fun _ h => by cases h) dX6_mayRule_67
  have hR := hR.trans (if_neg q2)
  by_cases q3 : p0 = 5
  · have hR := hR.trans (if_pos q3)
    refine lv_tableIn (tgt := 68) (off := 67) hx hb dX6_mayRule_1 (by rw [q3]; decide) (by rw [q3]; decide) (by rw [q3]; rfl) rfl ?_
    refine lv_iload_n hx hb dX6_mayRule_68 rfl (lv_at hl 1 rfl) ?_
    refine lv_i2l hx hb dX6_mayRule_69 rfl ?_
    refine lv_lconst (v := 0) hx hb dX6_mayRule_70 rfl ?_
    refine lv_ldc2 (v := 200) hx hb hown (hts (.constantLong RX6 112 (200)) (by decide +kernel)) dX6_mayRule_71 ?_
    refine xRoS (nL := 2) ⟨hx, hb, hml, hown, hts⟩ (c_X6_in l E a u p1.toInt64 0 200) (va_cwS 3 hts gX6_mayRule_X6_in rfl rfl rfl hd_X6_in ⟨(Nat.le_of_ble_eq_true rfl), (Nat.le_of_ble_eq_true rfl)⟩) hF hS hA hP rfl hl.1 rfl (Nat.le_of_ble_eq_true rfl) ⟨(Nat.le_of_ble_eq_true rfl), (Nat.le_of_ble_eq_true rfl)⟩ dX6_mayRule_74 ?_
    refine W.eq (g2 := F0 m 77 ls [.int (s_X6_in u p1.toInt64 0 200)]) rfl ?_
    have hR : s_X6_mayRule u p0 p1 = s_X6_in u p1.toInt64 0 200 := hR
    exact W.zret (v := s_X6_in u p1.toInt64 0 200) (ty := .boolean) hx hb hr (xnb (bs_X6_in ..)) (fun t ht _ => ⟨congrArg (fun z => Outcome.returned (some (Value.int z))) hR.symm, ht⟩) (fun _ h => by cases h) dX6_mayRule_77
  have hR := hR.trans (if_neg q3)
  by_cases q4 : p0 = 6
  · have hR := hR.trans (if_pos q4)
    refine lv_tableIn (tgt := 78) (off := 77) hx hb dX6_mayRule_1 (by rw [q4]; decide) (by rw [q4]; decide) (by rw [q4]; rfl) rfl ?_
    refine lv_iload_n hx hb dX6_mayRule_78 rfl (lv_at hl 1 rfl) ?_
    refine lv_i2l hx hb dX6_mayRule_79 rfl ?_
    refine lv_ldc2 (v := (-1000000)) hx hb hown (hts (.constantLong RX6 114 (-1000000)) (by decide +kernel)) dX6_mayRule_80 ?_
    refine lv_ldc2 (v := 1000000) hx hb hown (hts (.constantLong RX6 110 (1000000)) (by decide +kernel)) dX6_mayRule_83 ?_
    refine xRoS (nL := 2) ⟨hx, hb, hml, hown, hts⟩ (c_X6_in l E a u p1.toInt64 (-1000000) 1000000) (va_cwS 3 hts gX6_mayRule_X6_in rfl rfl rfl hd_X6_in ⟨(Nat.le_of_ble_eq_true rfl), (Nat.le_of_ble_eq_true rfl)⟩) hF hS hA hP rfl hl.1 rfl (Nat.le_of_ble_eq_true rfl) ⟨(Nat.le_of_ble_eq_true rfl), (Nat.le_of_ble_eq_true rfl)⟩ dX6_mayRule_86 ?_
    refine W.eq (g2 := F0 m 89 ls [.int (s_X6_in u p1.toInt64 (-1000000) 1000000)]) rfl ?_
    have hR : s_X6_mayRule u p0 p1 = s_X6_in u p1.toInt64 (-1000000) 1000000 := hR
    exact W.zret (v := s_X6_in u p1.toInt64 (-1000000) 1000000) (ty := .boolean) hx hb hr (xnb (bs_X6_in ..)) (fun t ht _ => ⟨congrArg (fun z => Outcome.returned (some (Value.int z))) hR.symm, ht⟩) (fun _ h => by cases h) dX6_mayRule_89
  have hR := hR.trans (if_neg q4)
  by_cases q5 : p0 = 7
  · have hR := hR.trans (if_pos q5)
    refine lv_tableIn (tgt := 90) (off := 89) hx hb dX6_mayRule_1 (by rw [q5]; decide) (by rw [q5]; decide) (by rw [q5]; rfl) rfl ?_
    refine lv_iload_n hx hb dX6_mayRule_90 rfl (lv_at hl 1 rfl) ?_
    refine lv_i2l hx hb dX6_mayRule_91 rfl ?_
    refine lv_ldc2 (v := (-10000)) hx hb hown (hts (.constantLong RX6 116 (-10000)) (by decide +kernel)) dX6_mayRule_92 ?_
    refine lv_ldc2 (v := 10000) hx hb hown (hts (.constantLong RX6 118 (10000)) (by decide +kernel)) dX6_mayRule_95 ?_
    refine xRoS (nL := 2) ⟨hx, hb, hml, hown, hts⟩ (c_X6_in l E a u p1.toInt64 (-10000) 10000) (va_cwS 3 hts gX6_mayRule_X6_in rfl rfl rfl hd_X6_in ⟨(Nat.le_of_ble_eq_true rfl), (Nat.le_of_ble_eq_true rfl)⟩) hF hS hA hP rfl hl.1 rfl (Nat.le_of_ble_eq_true rfl) ⟨(Nat.le_of_ble_eq_true rfl), (Nat.le_of_ble_eq_true rfl)⟩ dX6_mayRule_98 ?_
    refine W.eq (g2 := F0 m 101 ls [.int (s_X6_in u p1.toInt64 (-10000) 10000)]) rfl ?_
    have hR : s_X6_mayRule u p0 p1 = s_X6_in u p1.toInt64 (-10000) 10000 := hR
    exact W.zret (v := s_X6_in u p1.toInt64 (-10000) 10000) (ty := .boolean) hx hb hr (xnb (bs_X6_in ..)) (fun t ht _ => ⟨congrArg (fun z => Outcome.returned (some (Value.int z))) hR.symm, ht⟩) (fun _ h => by cases h) dX6_mayRule_101
  have hR := hR.trans (if_neg q5)
  by_cases q6 : p0 = 1
  · refine lv_tableIn (tgt := 102) (off := 101) hx hb dX6_mayRule_1 (by rw [q6]; decide) (by rw [q6]; decide) (by rw [q6]; rfl) rfl ?_
    refine lv_iload_n hx hb dX6_mayRule_102 rfl (lv_at hl 1 rfl) ?_
    refine lv_i2l hx hb dX6_mayRule_103 rfl ?_
    refine lv_lconst (v := 0) hx hb dX6_mayRule_104 rfl ?_
    refine lv_ldc2 (v := 160) hx hb hown (hts (.constantLong RX6 79 (160)) (by decide +kernel)) dX6_mayRule_105 ?_
    refine xRoS (nL := 2) ⟨hx, hb, hml, hown, hts⟩ (c_X6_in l E a u p1.toInt64 0 160) (va_cwS 3 hts gX6_mayRule_X6_in rfl rfl rfl hd_X6_in ⟨(Nat.le_of_ble_eq_true rfl), (Nat.le_of_ble_eq_true rfl)⟩) hF hS hA hP rfl hl.1 rfl (Nat.le_of_ble_eq_true rfl) ⟨(Nat.le_of_ble_eq_true rfl), (Nat.le_of_ble_eq_true rfl)⟩ dX6_mayRule_108 ?_
    refine W.eq (g2 := F0 m 111 ls [.int (s_X6_in u p1.toInt64 0 160)]) rfl ?_
    have hR : s_X6_mayRule u p0 p1 = s_X6_in u p1.toInt64 0 160 := hR
    exact W.zret (v := s_X6_in u p1.toInt64 0 160) (ty := .boolean) hx hb hr (xnb (bs_X6_in ..)) (fun t ht _ => ⟨congrArg (fun z => Outcome.returned (some (Value.int z))) hR.symm, ht⟩) (fun _ h => by cases h) dX6_mayRule_111
  by_cases q7 : p0 = 2
  · refine lv_tableIn (tgt := 102) (off := 101) hx hb dX6_mayRule_1 (by rw [q7]; decide) (by rw [q7]; decide) (by rw [q7]; rfl) rfl ?_
    refine lv_iload_n hx hb dX6_mayRule_102 rfl (lv_at hl 1 rfl) ?_
    refine lv_i2l hx hb dX6_mayRule_103 rfl ?_
    refine lv_lconst (v := 0) hx hb dX6_mayRule_104 rfl ?_
    refine lv_ldc2 (v := 160) hx hb hown (hts (.constantLong RX6 79 (160)) (by decide +kernel)) dX6_mayRule_105 ?_
    refine xRoS (nL := 2) ⟨hx, hb, hml, hown, hts⟩ (c_X6_in l E a u p1.toInt64 0 160) (va_cwS 3 hts gX6_mayRule_X6_in rfl rfl rfl hd_X6_in ⟨(Nat.le_of_ble_eq_true rfl), (Nat.le_of_ble_eq_true rfl)⟩) hF hS hA hP rfl hl.1 rfl (Nat.le_of_ble_eq_true rfl) ⟨(Nat.le_of_ble_eq_true rfl), (Nat.le_of_ble_eq_true rfl)⟩ dX6_mayRule_108 ?_
    refine W.eq (g2 := F0 m 111 ls [.int (s_X6_in u p1.toInt64 0 160)]) rfl ?_
    have hR : s_X6_mayRule u p0 p1 = s_X6_in u p1.toInt64 0 160 := hR
    exact W.zret (v := s_X6_in u p1.toInt64 0 160) (ty := .boolean) hx hb hr (xnb (bs_X6_in ..)) (fun t ht _ => ⟨congrArg (fun z => Outcome.returned (some (Value.int z))) hR.symm, ht⟩) (fun _ h => by cases h) dX6_mayRule_111
  by_cases q8 : p0 = 3
  · refine lv_tableIn (tgt := 102) (off := 101) hx hb dX6_mayRule_1 (by rw [q8]; decide) (by rw [q8]; decide) (by rw [q8]; rfl) rfl ?_
    refine lv_iload_n hx hb dX6_mayRule_102 rfl (lv_at hl 1 rfl) ?_
    refine lv_i2l hx hb dX6_mayRule_103 rfl ?_
    refine lv_lconst (v := 0) hx hb dX6_mayRule_104 rfl ?_
    refine lv_ldc2 (v := 160) hx hb hown (hts (.constantLong RX6 79 (160)) (by decide +kernel)) dX6_mayRule_105 ?_
    refine xRoS (nL := 2) ⟨hx, hb, hml, hown, hts⟩ (c_X6_in l E a u p1.toInt64 0 160) (va_cwS 3 hts gX6_mayRule_X6_in rfl rfl rfl hd_X6_in ⟨(Nat.le_of_ble_eq_true rfl), (Nat.le_of_ble_eq_true rfl)⟩) hF hS hA hP rfl hl.1 rfl (Nat.le_of_ble_eq_true rfl) ⟨(Nat.le_of_ble_eq_true rfl), (Nat.le_of_ble_eq_true rfl)⟩ dX6_mayRule_108 ?_
    refine W.eq (g2 := F0 m 111 ls [.int (s_X6_in u p1.toInt64 0 160)]) rfl ?_
    have hR : s_X6_mayRule u p0 p1 = s_X6_in u p1.toInt64 0 160 := hR
    exact W.zret (v := s_X6_in u p1.toInt64 0 160) (ty := .boolean) hx hb hr (xnb (bs_X6_in ..)) (fun t ht _ => ⟨congrArg (fun z => Outcome.returned (some (Value.int z))) hR.symm, ht⟩) (fun _ h => by cases h) dX6_mayRule_111
  refine lv_tableOut (tgt := 102) hx hb dX6_mayRule_1 (xsw p0 (fun j h1 h2 h3 => by
    have h9 : j = 0 ∨ j = 4 ∨ j = 5 ∨ j = 6 ∨ j = 7 ∨ j = 1 ∨ j = 2 ∨ j = 3 ∨ False := by omega
    rcases h9 with rfl | rfl | rfl | rfl | rfl | rfl | rfl | rfl | h9
    · exact q1 (Int32.toInt_inj.mp h3)
    · exact q2 (Int32.toInt_inj.mp h3)
    · exact q3 (Int32.toInt_inj.mp h3)
    · exact q4 (Int32.toInt_inj.mp h3)
    · exact q5 (Int32.toInt_inj.mp h3)
    · exact q6 (Int32.toInt_inj.mp h3)
    · exact q7 (Int32.toInt_inj.mp h3)
    · exact q8 (Int32.toInt_inj.mp h3)
    · exact h9)) rfl ?_
  refine lv_iload_n hx hb dX6_mayRule_102 rfl (lv_at hl 1 rfl) ?_
  refine lv_i2l hx hb dX6_mayRule_103 rfl ?_
  refine lv_lconst (v := 0) hx hb dX6_mayRule_104 rfl ?_
  refine lv_ldc2 (v := 160) hx hb hown (hts (.constantLong RX6 79 (160)) (by decide +kernel)) dX6_mayRule_105 ?_
  refine xRoS (nL := 2) ⟨hx, hb, hml, hown, hts⟩ (c_X6_in l E a u p1.toInt64 0 160) (va_cwS 3 hts gX6_mayRule_X6_in rfl rfl rfl hd_X6_in ⟨(Nat.le_of_ble_eq_true rfl), (Nat.le_of_ble_eq_true rfl)⟩) hF hS hA hP rfl hl.1 rfl (Nat.le_of_ble_eq_true rfl) ⟨(Nat.le_of_ble_eq_true rfl), (Nat.le_of_ble_eq_true rfl)⟩ dX6_mayRule_108 ?_
  refine W.eq (g2 := F0 m 111 ls [.int (s_X6_in u p1.toInt64 0 160)]) rfl ?_
  have hR : s_X6_mayRule u p0 p1 = s_X6_in u p1.toInt64 0 160 := hR
  exact W.zret (v := s_X6_in u p1.toInt64 0 160) (ty := .boolean) hx hb hr (xnb (bs_X6_in ..)) (fun t ht _ => ⟨congrArg (fun z => Outcome.returned (some (Value.int z))) hR.symm, ht⟩) (fun _ h => by cases h) dX6_mayRule_111
def s_X6_bit (u : xU) (p0 : Int32) : Int32 :=
  if p0 = 0 then
    0
  else
    1
abbrev rm_X6_bit : Room := { frames := 0, cells := 0, slots := 0, locals := 0 }
set_option maxHeartbeats 8000000 in
set_option maxRecDepth 100000 in
theorem c_X6_bit (l : Launch) (E : xG) (a : Nat → Nat) (u : xU) (p0 : Int32) : xRo l E yX6_bit wsX6_bit rm_X6_bit [.int p0] (wM E a u) (some (.int (s_X6_bit u p0))) := by
  refine xRo.of (cc := cX6_bit) (maxL := 1) (ret := (some .int)) (by decide) rfl (Nat.le_of_ble_eq_true rfl) ?_
  intro p e s m below meth c ls hAt hF hP hS hl
  obtain ⟨hx, hb, hr, hml, hown, hts, hlocks, -⟩ := hAt
  have hown : s.vm.findClass RX6 = some m.cls := hown
  have hl : lv_has ls 1 [(0, .int p0)] := hl
  have hK := hF.1
  have hA : ∀ q : Nat, (fun _ => False) q → xA0 E q := fun _ h => h.elim
  change W p l e rm_X6_bit s m ([.int p0] : List Value).toArray below meth c s.heap [] 0 0 (xQro below (some (.int (s_X6_bit u p0))) ([.int p0] : List Value).toArray s) _
  have hR : s_X6_bit u p0 = s_X6_bit u p0 := rfl
  refine lv_iload_n hx hb dX6_bit_0 rfl (lv_at hl 0 rfl) ?_
  refine lv_if_eq (tgt := 8) hx hb dX6_bit_1 rfl (fun q1 => ?_) (fun q1 => ?_)
  · have hR := hR.trans (if_pos q1)
    refine lv_iconst (v := 0) hx hb dX6_bit_8 rfl ?_
    have hR : s_X6_bit u p0 = 0 := hR
    exact W.iret (v := 0) hx hb hr (fun t ht _ => ⟨congrArg (fun z => Outcome.returned (some (Value.int z))) hR.symm, ht⟩) (fun _ h => by cases h) dX6_bit_9
  · have hR := hR.trans (if_neg q1)
    refine lv_iconst (v := 1) hx hb dX6_bit_4 rfl ?_
    refine lv_goto (tgt := 9) hx hb dX6_bit_5 rfl ?_
    have hR : s_X6_bit u p0 = 1 := hR
    exact W.iret (v := 1) hx hb hr (fun t ht _ => ⟨congrArg (fun z => Outcome.returned (some (Value.int z))) hR.symm, ht⟩) (fun _ h => by cases h) dX6_bit_9
def s_X6_isSheet (u : xU) (p0 : Int32) : Int32 :=
  s_X6_in u p0.toInt64 0 3
abbrev rm_X6_isSheet : Room := { frames := 1, cells := 0, slots := 0, locals := 25 }
set_option maxHeartbeats 8000000 in
set_option maxRecDepth 100000 in
theorem c_X6_isSheet (l : Launch) (E : xG) (a : Nat → Nat) (u : xU) (p0 : Int32) : xRo l E yX6_isSheet wsX6_isSheet rm_X6_isSheet [.int p0] (wM E a u) (some (.int (s_X6_isSheet u p0))) := by
  refine xRo.of (cc := cX6_isSheet) (maxL := 1) (ret := (some .boolean)) (by decide) rfl (Nat.le_of_ble_eq_true rfl) ?_
  intro p e s m below meth c ls hAt hF hP hS hl
  obtain ⟨hx, hb, hr, hml, hown, hts, hlocks, -⟩ := hAt
  have hown : s.vm.findClass RX6 = some m.cls := hown
  have hl : lv_has ls 1 [(0, .int p0)] := hl
  have hK := hF.1
  have hA : ∀ q : Nat, (fun _ => False) q → xA0 E q := fun _ h => h.elim
  change W p l e rm_X6_isSheet s m ([.int p0] : List Value).toArray below meth c s.heap [] 0 0 (xQro below (some (.int (s_X6_isSheet u p0))) ([.int p0] : List Value).toArray s) _
  have hR : s_X6_isSheet u p0 = s_X6_isSheet u p0 := rfl
  refine lv_iload_n hx hb dX6_isSheet_0 rfl (lv_at hl 0 rfl) ?_
  refine lv_i2l hx hb dX6_isSheet_1 rfl ?_
  refine lv_lconst (v := 0) hx hb dX6_isSheet_2 rfl ?_
  refine lv_ldc2 (v := 3) hx hb hown (hts (.constantLong RX6 89 (3)) (by decide +kernel)) dX6_isSheet_3 ?_
  refine xRoS (nL := 1) ⟨hx, hb, hml, hown, hts⟩ (c_X6_in l E a u p0.toInt64 0 3) (va_cwS 3 hts gX6_isSheet_X6_in rfl rfl rfl hd_X6_in ⟨(Nat.le_of_ble_eq_true rfl), (Nat.le_of_ble_eq_true rfl)⟩) hF hS hA hP rfl hl.1 rfl (Nat.le_of_ble_eq_true rfl) ⟨(Nat.le_of_ble_eq_true rfl), (Nat.le_of_ble_eq_true rfl)⟩ dX6_isSheet_6 ?_
  refine W.eq (g2 := F0 m 9 ls [.int (s_X6_in u p0.toInt64 0 3)]) rfl ?_
  have hR : s_X6_isSheet u p0 = s_X6_in u p0.toInt64 0 3 := hR
  exact W.zret (v := s_X6_in u p0.toInt64 0 3) (ty := .boolean) hx hb hr (xnb (bs_X6_in ..)) (fun t ht _ => ⟨congrArg (fun z => Outcome.returned (some (Value.int z))) hR.symm, ht⟩) (fun _ h => by cases h) dX6_isSheet_9
def s_X6_of0 (u : xU) (p1 : Int32) (p2 : Int32) : Int32 :=
  u.1 1 ((4 * p1) + p2).toNatClampNeg
abbrev rm_X6_of0 : Room := { frames := 0, cells := 0, slots := 0, locals := 0 }
set_option maxHeartbeats 8000000 in
set_option maxRecDepth 100000 in
theorem c_X6_of0 (l : Launch) (E : xG) (a : Nat → Nat) (u : xU) (p1 : Int32) (p2 : Int32) (hp0 : vp_in ((4 * p1) + p2) 49) : xRo l E yX6_of0 wsX6_of0 rm_X6_of0 [.ref (a 0), .int p1, .int p2] (wM E a u) (some (.int (s_X6_of0 u p1 p2))) := by
  refine xRo.of (cc := cX6_of0) (maxL := 3) (ret := (some .int)) (by decide) rfl (Nat.le_of_ble_eq_true rfl) ?_
  intro p e s m below meth c ls hAt hF hP hS hl
  obtain ⟨hx, hb, hr, hml, hown, hts, hlocks, -⟩ := hAt
  have hown : s.vm.findClass RX6 = some m.cls := hown
  have hl : lv_has ls 3 [(0, .ref (a 0)), (1, .int p1), (2, .int p2)] := hl
  have hK := hF.1
  have hA : ∀ q : Nat, (fun _ => False) q → xA0 E q := fun _ h => h.elim
  change W p l e rm_X6_of0 s m ([.ref (a 0), .int p1, .int p2] : List Value).toArray below meth c s.heap [] 0 0 (xQro below (some (.int (s_X6_of0 u p1 p2))) ([.ref (a 0), .int p1, .int p2] : List Value).toArray s) _
  have hR : s_X6_of0 u p1 p2 = s_X6_of0 u p1 p2 := rfl
  refine lv_aload_n hx hb dX6_of0_0 rfl (lv_at hl 0 rfl) ?_
  refine va_get (D := xD E) (ci := 6) (v := .ref (a 1)) (C := RX6) (T := TX6) (N := 28) hx hb hts (by decide +kernel) hown hK hP 0 rfl rfl 0 (by decide) (hts (.fieldLink RX6 11 "RailOffsetsModel" "now" "[I") (by decide +kernel)) (fun _ h => h) rfl dX6_of0_1 ?_
  refine lv_iconst (v := 4) hx hb dX6_of0_4 rfl ?_
  refine lv_iload_n hx hb dX6_of0_5 rfl (lv_at hl 1 rfl) ?_
  refine lv_imul hx hb dX6_of0_6 ?_
  refine lv_iload_n hx hb dX6_of0_7 rfl (lv_at hl 2 rfl) ?_
  refine lv_iadd hx hb dX6_of0_8 ?_
  refine va_iald hx hb hK hP 1 0 rfl rfl (hp0) dX6_of0_9 ?_
  have hR : s_X6_of0 u p1 p2 = u.1 1 ((4 * p1) + p2).toNatClampNeg := hR
  exact W.iret (v := u.1 1 ((4 * p1) + p2).toNatClampNeg) hx hb hr (fun t ht _ => ⟨congrArg (fun z => Outcome.returned (some (Value.int z))) hR.symm, ht⟩) (fun _ h => by cases h) dX6_of0_10
def s_X6_rule (u : xU) (p1 : Int32) : Int32 :=
  u.1 1 (41 + p1).toNatClampNeg
abbrev rm_X6_rule : Room := { frames := 0, cells := 0, slots := 0, locals := 0 }
set_option maxHeartbeats 8000000 in
set_option maxRecDepth 100000 in
theorem c_X6_rule (l : Launch) (E : xG) (a : Nat → Nat) (u : xU) (p1 : Int32) (hp0 : vp_in (41 + p1) 49) : xRo l E yX6_rule wsX6_rule rm_X6_rule [.ref (a 0), .int p1] (wM E a u) (some (.int (s_X6_rule u p1))) := by
  refine xRo.of (cc := cX6_rule) (maxL := 2) (ret := (some .int)) (by decide) rfl (Nat.le_of_ble_eq_true rfl) ?_
  intro p e s m below meth c ls hAt hF hP hS hl
  obtain ⟨hx, hb, hr, hml, hown, hts, hlocks, -⟩ := hAt
  have hown : s.vm.findClass RX6 = some m.cls := hown
  have hl : lv_has ls 2 [(0, .ref (a 0)), (1, .int p1)] := hl
  have hK := hF.1
  have hA : ∀ q : Nat, (fun _ => False) q → xA0 E q := fun _ h => h.elim
  change W p l e rm_X6_rule s m ([.ref (a 0), .int p1] : List Value).toArray below meth c s.heap [] 0 0 (xQro below (some (.int (s_X6_rule u p1))) ([.ref (a 0), .int p1] : List Value).toArray s) _
  have hR : s_X6_rule u p1 = s_X6_rule u p1 := rfl
  refine lv_aload_n hx hb dX6_rule_0 rfl (lv_at hl 0 rfl) ?_
  refine va_get (D := xD E) (ci := 6) (v := .ref (a 1)) (C := RX6) (T := TX6) (N := 28) hx hb hts (by decide +kernel) hown hK hP 0 rfl rfl 0 (by decide) (hts (.fieldLink RX6 11 "RailOffsetsModel" "now" "[I") (by decide +kernel)) (fun _ h => h) rfl dX6_rule_1 ?_
  refine lv_bipush (v := 41) hx hb dX6_rule_4 rfl ?_
  refine lv_iload_n hx hb dX6_rule_6 rfl (lv_at hl 1 rfl) ?_
  refine lv_iadd hx hb dX6_rule_7 ?_
  refine va_iald hx hb hK hP 1 0 rfl rfl (hp0) dX6_rule_8 ?_
  have hR : s_X6_rule u p1 = u.1 1 (41 + p1).toNatClampNeg := hR
  exact W.iret (v := u.1 1 (41 + p1).toNatClampNeg) hx hb hr (fun t ht _ => ⟨congrArg (fun z => Outcome.returned (some (Value.int z))) hR.symm, ht⟩) (fun _ h => by cases h) dX6_rule_9
