def s_X6_piece (u : xU) (p1 : Int32) (p2 : Int32) (p3 : Int32) (p4 : Int32) : Int32 × xU :=
  if (s_X6_mayBe u 0 p1) = 0 then
    ((-2), u)
  else
    if (s_X6_mayBe u 1 p2) = 0 then
      ((-2), u)
    else
      if (s_X6_mayBe u 2 p3) = 0 then
        ((-2), u)
      else
        if (s_X6_mayBe u 3 p4) = 0 then
          ((-2), u)
        else
          if (u.1 1 (40 : Int32).toNatClampNeg) = 10 then
            ((-4), u)
          else
            (((uA (uA (uA (uA (uA u 1 (4 * (u.1 1 (40 : Int32).toNatClampNeg)).toNatClampNeg p1) 1 ((4 * (u.1 1 (40 : Int32).toNatClampNeg)) + 1).toNatClampNeg p2) 1 ((4 * (u.1 1 (40 : Int32).toNatClampNeg)) + 2).toNatClampNeg p3) 1 ((4 * (u.1 1 (40 : Int32).toNatClampNeg)) + 3).toNatClampNeg p4) 1 (40 : Int32).toNatClampNeg (((uA (uA (uA (uA u 1 (4 * (u.1 1 (40 : Int32).toNatClampNeg)).toNatClampNeg p1) 1 ((4 * (u.1 1 (40 : Int32).toNatClampNeg)) + 1).toNatClampNeg p2) 1 ((4 * (u.1 1 (40 : Int32).toNatClampNeg)) + 2).toNatClampNeg p3) 1 ((4 * (u.1 1 (40 : Int32).toNatClampNeg)) + 3).toNatClampNeg p4).1 1 (40 : Int32).toNatClampNeg) + 1)).1 1 (40 : Int32).toNatClampNeg) - 1, uA (uA (uA (uA (uA u 1 (4 * (u.1 1 (40 : Int32).toNatClampNeg)).toNatClampNeg p1) 1 ((4 * (u.1 1 (40 : Int32).toNatClampNeg)) + 1).toNatClampNeg p2) 1 ((4 * (u.1 1 (40 : Int32).toNatClampNeg)) + 2).toNatClampNeg p3) 1 ((4 * (u.1 1 (40 : Int32).toNatClampNeg)) + 3).toNatClampNeg p4) 1 (40 : Int32).toNatClampNeg (((uA (uA (uA (uA u 1 (4 * (u.1 1 (40 : Int32).toNatClampNeg)).toNatClampNeg p1) 1 ((4 * (u.1 1 (40 : Int32).toNatClampNeg)) + 1).toNatClampNeg p2) 1 ((4 * (u.1 1 (40 : Int32).toNatClampNeg)) + 2).toNatClampNeg p3) 1 ((4 * (u.1 1 (40 : Int32).toNatClampNeg)) + 3).toNatClampNeg p4).1 1 (40 : Int32).toNatClampNeg) + 1))
abbrev rm_X6_piece : Room := { frames := 2, cells := 0, slots := 0, locals := 46 }
set_option maxHeartbeats 8000000 in
set_option maxRecDepth 100000 in
theorem c_X6_piece (l : Launch) (E : xG) (a : Nat → Nat) (u : xU) (p1 : Int32) (p2 : Int32) (p3 : Int32) (p4 : Int32) (hp0 : XW u) (hL : xOK E (LM a)) : xMd l E yX6_piece wsX6_piece rm_X6_piece (LM a) [.ref (a 0), .int p1, .int p2, .int p3, .int p4] (wM E a u) (some (.int ((s_X6_piece u p1 p2 p3 p4).1))) (wM E a ((s_X6_piece u p1 p2 p3 p4).2)) := by
  refine xMd.of (cc := cX6_piece) (maxL := 6) (ret := (some .int)) (by decide) rfl (Nat.le_of_ble_eq_true rfl) ?_
  intro p e s m below meth c ls hAt hF hP hS hl
  obtain ⟨hx, hb, hr, hml, hown, hts, hlocks, -⟩ := hAt
  have hown : s.vm.findClass RX6 = some m.cls := hown
  have hl : lv_has ls 6 [(0, .ref (a 0)), (1, .int p1), (2, .int p2), (3, .int p3), (4, .int p4)] := hl
  have hK := hF.1
  have hA := hL.2
  change W p l e rm_X6_piece s m ([.ref (a 0), .int p1, .int p2, .int p3, .int p4] : List Value).toArray below meth c s.heap [] 0 0 (xQmd E below (LM a) (some (.int ((s_X6_piece u p1 p2 p3 p4).1))) (wM E a ((s_X6_piece u p1 p2 p3 p4).2)) ([.ref (a 0), .int p1, .int p2, .int p3, .int p4] : List Value).toArray s) _
  have hS : va_S (· ∈ LM a) s.heap s.heap [] := hS
  have hR : s_X6_piece u p1 p2 p3 p4 = s_X6_piece u p1 p2 p3 p4 := rfl
  refine lv_iconst (v := 0) hx hb dX6_piece_0 rfl ?_
  refine lv_iload_n hx hb dX6_piece_1 rfl (lv_at hl 1 rfl) ?_
  refine xRoS (nL := 6) ⟨hx, hb, hml, hown, hts⟩ (c_X6_mayBe l E a u 0 p1) (va_cwS 2 hts gX6_piece_X6_mayBe rfl rfl rfl hd_X6_mayBe ⟨(Nat.le_of_ble_eq_true rfl), (Nat.le_of_ble_eq_true rfl)⟩) hF hS hA hP rfl hl.1 rfl (Nat.le_of_ble_eq_true rfl) ⟨(Nat.le_of_ble_eq_true rfl), (Nat.le_of_ble_eq_true rfl)⟩ dX6_piece_2 ?_
  refine W.eq (g2 := F0 m 5 ls [.int (s_X6_mayBe u 0 p1)]) rfl ?_
  refine lv_if_eq (tgt := 33) hx hb dX6_piece_5 rfl (fun q1 => ?_) (fun q1 => ?_)
  · have hR := hR.trans (if_pos q1)
    refine lv_bipush (v := (-2)) hx hb dX6_piece_33 rfl ?_
    have hR : s_X6_piece u p1 p2 p3 p4 = ((-2), u) := hR
    exact W.iret (v := (-2)) hx hb hr (fun t ht _ => by rw [hR]; dsimp only; exact ⟨⟨rfl, by rw [ht]; exact hP⟩, hS.F ht⟩) hS.2.2 dX6_piece_35
  · have hR := hR.trans (if_neg q1)
    refine lv_iconst (v := 1) hx hb dX6_piece_8 rfl ?_
    refine lv_iload_n hx hb dX6_piece_9 rfl (lv_at hl 2 rfl) ?_
    refine xRoS (nL := 6) ⟨hx, hb, hml, hown, hts⟩ (c_X6_mayBe l E a u 1 p2) (va_cwS 2 hts gX6_piece_X6_mayBe rfl rfl rfl hd_X6_mayBe ⟨(Nat.le_of_ble_eq_true rfl), (Nat.le_of_ble_eq_true rfl)⟩) hF hS hA hP rfl hl.1 rfl (Nat.le_of_ble_eq_true rfl) ⟨(Nat.le_of_ble_eq_true rfl), (Nat.le_of_ble_eq_true rfl)⟩ dX6_piece_10 ?_
    refine W.eq (g2 := F0 m 13 ls [.int (s_X6_mayBe u 1 p2)]) rfl ?_
    refine lv_if_eq (tgt := 33) hx hb dX6_piece_13 rfl (fun q2 => ?_) (fun q2 => ?_)
    · have hR := hR.trans (if_pos q2)
      refine lv_bipush (v := (-2)) hx hb dX6_piece_33 rfl ?_
      have hR : s_X6_piece u p1 p2 p3 p4 = ((-2), u) := hR
      exact W.iret (v := (-2)) hx hb hr (fun t ht _ => by rw [hR]; dsimp only; exact ⟨⟨rfl, by rw [ht]; exact hP⟩, hS.F ht⟩) hS.2.2 dX6_piece_35
    · have hR := hR.trans (if_neg q2)
      refine lv_iconst (v := 2) hx hb dX6_piece_16 rfl ?_
      refine lv_iload_n hx hb dX6_piece_17 rfl (lv_at hl 3 rfl) ?_
      refine xRoS (nL := 6) ⟨hx, hb, hml, hown, hts⟩ (c_X6_mayBe l E a u 2 p3) (va_cwS 2 hts gX6_piece_X6_mayBe rfl rfl rfl hd_X6_mayBe ⟨(Nat.le_of_ble_eq_true rfl), (Nat.le_of_ble_eq_true rfl)⟩) hF hS hA hP rfl hl.1 rfl (Nat.le_of_ble_eq_true rfl) ⟨(Nat.le_of_ble_eq_true rfl), (Nat.le_of_ble_eq_true rfl)⟩ dX6_piece_18 ?_
      refine W.eq (g2 := F0 m 21 ls [.int (s_X6_mayBe u 2 p3)]) rfl ?_
      refine lv_if_eq (tgt := 33) hx hb dX6_piece_21 rfl (fun q3 => ?_) (fun q3 => ?_)
      · have hR := hR.trans (if_pos q3)
        refine lv_bipush (v := (-2)) hx hb dX6_piece_33 rfl ?_
        have hR : s_X6_piece u p1 p2 p3 p4 = ((-2), u) := hR
        exact W.iret (v := (-2)) hx hb hr (fun t ht _ => by rw [hR]; dsimp only; exact ⟨⟨rfl, by rw [ht]; exact hP⟩, hS.F ht⟩) hS.2.2 dX6_piece_35
      · have hR := hR.trans (if_neg q3)
        refine lv_iconst (v := 3) hx hb dX6_piece_24 rfl ?_
        refine lv_iload hx hb dX6_piece_25 (lv_at hl 4 rfl) ?_
        refine xRoS (nL := 6) ⟨hx, hb, hml, hown, hts⟩ (c_X6_mayBe l E a u 3 p4) (va_cwS 2 hts gX6_piece_X6_mayBe rfl rfl rfl hd_X6_mayBe ⟨(Nat.le_of_ble_eq_true rfl), (Nat.le_of_ble_eq_true rfl)⟩) hF hS hA hP rfl hl.1 rfl (Nat.le_of_ble_eq_true rfl) ⟨(Nat.le_of_ble_eq_true rfl), (Nat.le_of_ble_eq_true rfl)⟩ dX6_piece_27 ?_
        refine W.eq (g2 := F0 m 30 ls [.int (s_X6_mayBe u 3 p4)]) rfl ?_
        refine lv_if_ne (tgt := 36) hx hb dX6_piece_30 rfl (fun q4 => ?_) (fun q4 => ?_)
        · have hR := hR.trans (if_neg q4)
          refine lv_aload_n hx hb dX6_piece_36 rfl (lv_at hl 0 rfl) ?_
          refine va_get (D := xD E) (ci := 6) (v := .ref (a 1)) (C := RX6) (T := TX6) (N := 28) hx hb hts (by decide +kernel) hown hK hP 0 rfl rfl 0 (by decide) (hts (.fieldLink RX6 11 "RailOffsetsModel" "now" "[I") (by decide +kernel)) (fun _ h => h) rfl dX6_piece_37 ?_
          refine lv_bipush (v := 40) hx hb dX6_piece_40 rfl ?_
          refine va_iald hx hb hK hP 1 0 rfl rfl (v40) dX6_piece_42 ?_
          refine lv_bipush (v := 10) hx hb dX6_piece_43 rfl ?_
          refine lv_icmp_ne (tgt := 51) hx hb dX6_piece_45 rfl (fun q5 => ?_) (fun q5 => ?_)
          · have hR := hR.trans (if_neg q5)
            refine lv_iconst (v := 4) hx hb dX6_piece_51 rfl ?_
            refine lv_aload_n hx hb dX6_piece_52 rfl (lv_at hl 0 rfl) ?_
            refine va_get (D := xD E) (ci := 6) (v := .ref (a 1)) (C := RX6) (T := TX6) (N := 28) hx hb hts (by decide +kernel) hown hK hP 0 rfl rfl 0 (by decide) (hts (.fieldLink RX6 11 "RailOffsetsModel" "now" "[I") (by decide +kernel)) (fun _ h => h) rfl dX6_piece_53 ?_
            refine lv_bipush (v := 40) hx hb dX6_piece_56 rfl ?_
            refine va_iald hx hb hK hP 1 0 rfl rfl (v40) dX6_piece_58 ?_
            refine lv_imul hx hb dX6_piece_59 ?_
            refine lv_istore (lv' := [(5, .int (4 * (u.1 1 (40 : Int32).toNatClampNeg))), (0, .ref (a 0)), (1, .int p1), (2, .int p2), (3, .int p3), (4, .int p4)]) hx hb dX6_piece_60 hl (by decide) rfl (fun ls hl => ?_)
            refine lv_aload_n hx hb dX6_piece_62 rfl (lv_at hl 1 rfl) ?_
            refine va_get (D := xD E) (ci := 6) (v := .ref (a 1)) (C := RX6) (T := TX6) (N := 28) hx hb hts (by decide +kernel) hown hK hP 0 rfl rfl 0 (by decide) (hts (.fieldLink RX6 11 "RailOffsetsModel" "now" "[I") (by decide +kernel)) (fun _ h => h) rfl dX6_piece_63 ?_
            refine lv_iload hx hb dX6_piece_66 (lv_at hl 0 rfl) ?_
            refine lv_iload_n hx hb dX6_piece_68 rfl (lv_at hl 2 rfl) ?_
            refine va_iast hx hb hK hP (xD_of (ws := wM E a u) (A := (· ∈ LM a)) hL.1 (fun _ h => h)) hS 1 0 rfl rfl (xof0 (xwn hp0 q5)) dX6_piece_69 (fun H locs hP _ hS => ?_)
            have hP : va_P (xD E) vwCl (wM E a (uA u 1 (4 * (u.1 1 (40 : Int32).toNatClampNeg)).toNatClampNeg p1)) H := hP
            refine lv_aload_n hx hb dX6_piece_70 rfl (lv_at hl 1 rfl) ?_
            refine va_get (D := xD E) (ci := 6) (v := .ref (a 1)) (C := RX6) (T := TX6) (N := 28) hx hb hts (by decide +kernel) hown hK hP 0 rfl rfl 0 (by decide) (hts (.fieldLink RX6 11 "RailOffsetsModel" "now" "[I") (by decide +kernel)) (fun _ h => h) rfl dX6_piece_71 ?_
            refine lv_iload hx hb dX6_piece_74 (lv_at hl 0 rfl) ?_
            refine lv_iconst (v := 1) hx hb dX6_piece_76 rfl ?_
            refine lv_iadd hx hb dX6_piece_77 ?_
            refine lv_iload_n hx hb dX6_piece_78 rfl (lv_at hl 3 rfl) ?_
            refine va_iast hx hb hK hP (xD_of (ws := wM E a (uA u 1 (4 * (u.1 1 (40 : Int32).toNatClampNeg)).toNatClampNeg p1)) (A := (· ∈ LM a)) hL.1 (fun _ h => h)) hS 1 0 rfl rfl (xof (xwn hp0 q5) (by decide) (by decide)) dX6_piece_79 (fun H locs hP _ hS => ?_)
            have hP : va_P (xD E) vwCl (wM E a (uA (uA u 1 (4 * (u.1 1 (40 : Int32).toNatClampNeg)).toNatClampNeg p1) 1 ((4 * (u.1 1 (40 : Int32).toNatClampNeg)) + 1).toNatClampNeg p2)) H := xwA1 hP
            refine lv_aload_n hx hb dX6_piece_80 rfl (lv_at hl 1 rfl) ?_
            refine va_get (D := xD E) (ci := 6) (v := .ref (a 1)) (C := RX6) (T := TX6) (N := 28) hx hb hts (by decide +kernel) hown hK hP 0 rfl rfl 0 (by decide) (hts (.fieldLink RX6 11 "RailOffsetsModel" "now" "[I") (by decide +kernel)) (fun _ h => h) rfl dX6_piece_81 ?_
            refine lv_iload hx hb dX6_piece_84 (lv_at hl 0 rfl) ?_
            refine lv_iconst (v := 2) hx hb dX6_piece_86 rfl ?_
            refine lv_iadd hx hb dX6_piece_87 ?_
            refine lv_iload_n hx hb dX6_piece_88 rfl (lv_at hl 4 rfl) ?_
            refine va_iast hx hb hK hP (xD_of (ws := wM E a (uA (uA u 1 (4 * (u.1 1 (40 : Int32).toNatClampNeg)).toNatClampNeg p1) 1 ((4 * (u.1 1 (40 : Int32).toNatClampNeg)) + 1).toNatClampNeg p2)) (A := (· ∈ LM a)) hL.1 (fun _ h => h)) hS 1 0 rfl rfl (xof (xwn hp0 q5) (by decide) (by decide)) dX6_piece_89 (fun H locs hP _ hS => ?_)
            have hP : va_P (xD E) vwCl (wM E a (uA (uA (uA u 1 (4 * (u.1 1 (40 : Int32).toNatClampNeg)).toNatClampNeg p1) 1 ((4 * (u.1 1 (40 : Int32).toNatClampNeg)) + 1).toNatClampNeg p2) 1 ((4 * (u.1 1 (40 : Int32).toNatClampNeg)) + 2).toNatClampNeg p3)) H := xwA1 hP
            refine lv_aload_n hx hb dX6_piece_90 rfl (lv_at hl 1 rfl) ?_
            refine va_get (D := xD E) (ci := 6) (v := .ref (a 1)) (C := RX6) (T := TX6) (N := 28) hx hb hts (by decide +kernel) hown hK hP 0 rfl rfl 0 (by decide) (hts (.fieldLink RX6 11 "RailOffsetsModel" "now" "[I") (by decide +kernel)) (fun _ h => h) rfl dX6_piece_91 ?_
            refine lv_iload hx hb dX6_piece_94 (lv_at hl 0 rfl) ?_
            refine lv_iconst (v := 3) hx hb dX6_piece_96 rfl ?_
            refine lv_iadd hx hb dX6_piece_97 ?_
            refine lv_iload hx hb dX6_piece_98 (lv_at hl 5 rfl) ?_
            refine va_iast hx hb hK hP (xD_of (ws := wM E a (uA (uA (uA u 1 (4 * (u.1 1 (40 : Int32).toNatClampNeg)).toNatClampNeg p1) 1 ((4 * (u.1 1 (40 : Int32).toNatClampNeg)) + 1).toNatClampNeg p2) 1 ((4 * (u.1 1 (40 : Int32).toNatClampNeg)) + 2).toNatClampNeg p3)) (A := (· ∈ LM a)) hL.1 (fun _ h => h)) hS 1 0 rfl rfl (xof (xwn hp0 q5) (by decide) (by decide)) dX6_piece_100 (fun H locs hP _ hS => ?_)
            have hP : va_P (xD E) vwCl (wM E a (uA (uA (uA (uA u 1 (4 * (u.1 1 (40 : Int32).toNatClampNeg)).toNatClampNeg p1) 1 ((4 * (u.1 1 (40 : Int32).toNatClampNeg)) + 1).toNatClampNeg p2) 1 ((4 * (u.1 1 (40 : Int32).toNatClampNeg)) + 2).toNatClampNeg p3) 1 ((4 * (u.1 1 (40 : Int32).toNatClampNeg)) + 3).toNatClampNeg p4)) H := xwA1 hP
            refine lv_aload_n hx hb dX6_piece_101 rfl (lv_at hl 1 rfl) ?_
            refine va_get (D := xD E) (ci := 6) (v := .ref (a 1)) (C := RX6) (T := TX6) (N := 28) hx hb hts (by decide +kernel) hown hK hP 0 rfl rfl 0 (by decide) (hts (.fieldLink RX6 11 "RailOffsetsModel" "now" "[I") (by decide +kernel)) (fun _ h => h) rfl dX6_piece_102 ?_
            refine lv_bipush (v := 40) hx hb dX6_piece_105 rfl ?_
            refine lv_dup2_11 hx hb dX6_piece_107 rfl rfl ?_
            refine va_iald hx hb hK hP 1 0 rfl rfl (v40) dX6_piece_108 ?_
            refine lv_iconst (v := 1) hx hb dX6_piece_109 rfl ?_
            refine lv_iadd hx hb dX6_piece_110 ?_
            refine va_iast hx hb hK hP (xD_of (ws := wM E a (uA (uA (uA (uA u 1 (4 * (u.1 1 (40 : Int32).toNatClampNeg)).toNatClampNeg p1) 1 ((4 * (u.1 1 (40 : Int32).toNatClampNeg)) + 1).toNatClampNeg p2) 1 ((4 * (u.1 1 (40 : Int32).toNatClampNeg)) + 2).toNatClampNeg p3) 1 ((4 * (u.1 1 (40 : Int32).toNatClampNeg)) + 3).toNatClampNeg p4)) (A := (· ∈ LM a)) hL.1 (fun _ h => h)) hS 1 0 rfl rfl (v40) dX6_piece_111 (fun H locs hP _ hS => ?_)
            have hP : va_P (xD E) vwCl (wM E a (uA (uA (uA (uA (uA u 1 (4 * (u.1 1 (40 : Int32).toNatClampNeg)).toNatClampNeg p1) 1 ((4 * (u.1 1 (40 : Int32).toNatClampNeg)) + 1).toNatClampNeg p2) 1 ((4 * (u.1 1 (40 : Int32).toNatClampNeg)) + 2).toNatClampNeg p3) 1 ((4 * (u.1 1 (40 : Int32).toNatClampNeg)) + 3).toNatClampNeg p4) 1 (40 : Int32).toNatClampNeg (((uA (uA (uA (uA u 1 (4 * (u.1 1 (40 : Int32).toNatClampNeg)).toNatClampNeg p1) 1 ((4 * (u.1 1 (40 : Int32).toNatClampNeg)) + 1).toNatClampNeg p2) 1 ((4 * (u.1 1 (40 : Int32).toNatClampNeg)) + 2).toNatClampNeg p3) 1 ((4 * (u.1 1 (40 : Int32).toNatClampNeg)) + 3).toNatClampNeg p4).1 1 (40 : Int32).toNatClampNeg) + 1))) H := xwA1 hP
            refine lv_aload_n hx hb dX6_piece_112 rfl (lv_at hl 1 rfl) ?_
            refine va_get (D := xD E) (ci := 6) (v := .ref (a 1)) (C := RX6) (T := TX6) (N := 28) hx hb hts (by decide +kernel) hown hK hP 0 rfl rfl 0 (by decide) (hts (.fieldLink RX6 11 "RailOffsetsModel" "now" "[I") (by decide +kernel)) (fun _ h => h) rfl dX6_piece_113 ?_
            refine lv_bipush (v := 40) hx hb dX6_piece_116 rfl ?_
            refine va_iald hx hb hK hP 1 0 rfl rfl (v40) dX6_piece_118 ?_
            refine lv_iconst (v := 1) hx hb dX6_piece_119 rfl ?_
            refine lv_isub hx hb dX6_piece_120 ?_
            have hR : s_X6_piece u p1 p2 p3 p4 = (((uA (uA (uA (uA (uA u 1 (4 * (u.1 1 (40 : Int32).toNatClampNeg)).toNatClampNeg p1) 1 ((4 * (u.1 1 (40 : Int32).toNatClampNeg)) + 1).toNatClampNeg p2) 1 ((4 * (u.1 1 (40 : Int32).toNatClampNeg)) + 2).toNatClampNeg p3) 1 ((4 * (u.1 1 (40 : Int32).toNatClampNeg)) + 3).toNatClampNeg p4) 1 (40 : Int32).toNatClampNeg (((uA (uA (uA (uA u 1 (4 * (u.1 1 (40 : Int32).toNatClampNeg)).toNatClampNeg p1) 1 ((4 * (u.1 1 (40 : Int32).toNatClampNeg)) + 1).toNatClampNeg p2) 1 ((4 * (u.1 1 (40 : Int32).toNatClampNeg)) + 2).toNatClampNeg p3) 1 ((4 * (u.1 1 (40 : Int32).toNatClampNeg)) + 3).toNatClampNeg p4).1 1 (40 : Int32).toNatClampNeg) + 1)).1 1 (40 : Int32).toNatClampNeg) - 1, uA (uA (uA (uA (uA u 1 (4 * (u.1 1 (40 : Int32).toNatClampNeg)).toNatClampNeg p1) 1 ((4 * (u.1 1 (40 : Int32).toNatClampNeg)) + 1).toNatClampNeg p2) 1 ((4 * (u.1 1 (40 : Int32).toNatClampNeg)) + 2).toNatClampNeg p3) 1 ((4 * (u.1 1 (40 : Int32).toNatClampNeg)) + 3).toNatClampNeg p4) 1 (40 : Int32).toNatClampNeg (((uA (uA (uA (uA u 1 (4 * (u.1 1 (40 : Int32).toNatClampNeg)).toNatClampNeg p1) 1 ((4 * (u.1 1 (40 : Int32).toNatClampNeg)) + 1).toNatClampNeg p2) 1 ((4 * (u.1 1 (40 : Int32).toNatClampNeg)) + 2).toNatClampNeg p3) 1 ((4 * (u.1 1 (40 : Int32).toNatClampNeg)) + 3).toNatClampNeg p4).1 1 (40 : Int32).toNatClampNeg) + 1)) := hR
            exact W.iret (v := ((uA (uA (uA (uA (uA u 1 (4 * (u.1 1 (40 : Int32).toNatClampNeg)).toNatClampNeg p1) 1 ((4 * (u.1 1 (40 : Int32).toNatClampNeg)) + 1).toNatClampNeg p2) 1 ((4 * (u.1 1 (40 : Int32).toNatClampNeg)) + 2).toNatClampNeg p3) 1 ((4 * (u.1 1 (40 : Int32).toNatClampNeg)) + 3).toNatClampNeg p4) 1 (40 : Int32).toNatClampNeg (((uA (uA (uA (uA u 1 (4 * (u.1 1 (40 : Int32).toNatClampNeg)).toNatClampNeg p1) 1 ((4 * (u.1 1 (40 : Int32).toNatClampNeg)) + 1).toNatClampNeg p2) 1 ((4 * (u.1 1 (40 : Int32).toNatClampNeg)) + 2).toNatClampNeg p3) 1 ((4 * (u.1 1 (40 : Int32).toNatClampNeg)) + 3).toNatClampNeg p4).1 1 (40 : Int32).toNatClampNeg) + 1)).1 1 (40 : Int32).toNatClampNeg) - 1) hx hb hr (fun t ht _ => by rw [hR]; dsimp only; exact ⟨⟨rfl, by rw [ht]; exact hP⟩, hS.F ht⟩) hS.2.2 dX6_piece_121
          · have hR := hR.trans (if_pos q5)
            refine lv_bipush (v := (-4)) hx hb dX6_piece_48 rfl ?_
            have hR : s_X6_piece u p1 p2 p3 p4 = ((-4), u) := hR
            exact W.iret (v := (-4)) hx hb hr (fun t ht _ => by rw [hR]; dsimp only; exact ⟨⟨rfl, by rw [ht]; exact hP⟩, hS.F ht⟩) hS.2.2 dX6_piece_50
        · have hR := hR.trans (if_pos q4)
          refine lv_bipush (v := (-2)) hx hb dX6_piece_33 rfl ?_
          have hR : s_X6_piece u p1 p2 p3 p4 = ((-2), u) := hR
          exact W.iret (v := (-2)) hx hb hr (fun t ht _ => by rw [hR]; dsimp only; exact ⟨⟨rfl, by rw [ht]; exact hP⟩, hS.F ht⟩) hS.2.2 dX6_piece_35
