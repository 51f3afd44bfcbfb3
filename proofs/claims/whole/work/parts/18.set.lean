def s_X5_piece (u : xU) (p1 : Int32) (p2 : Int32) (p3 : Int32) (p4 : Int32) : Int32 × xU :=
  if (s_X5_fits 0 p1) = 0 then
    ((-2), u)
  else
    if (s_X5_fits 1 p2) = 0 then
      ((-2), u)
    else
      if (s_X5_fits 2 p3) = 0 then
        ((-2), u)
      else
        if (s_X5_fits 3 p4) = 0 then
          ((-2), u)
        else
          if (u.2 1) < 10 then
            (u.2 1, s_X0_lay (s_X2_write (s_X2_write (s_X2_write (s_X2_write (uZ u 1 ((u.2 1) + 1)) (u.2 1) 0 p1) (u.2 1) 1 p2) (u.2 1) 2 p3) (u.2 1) 3 p4))
          else
            ((-4), u)
abbrev rm_X5_piece : Room := { frames := 5, cells := 0, slots := 0, locals := 117 }
set_option maxHeartbeats 8000000 in
set_option maxRecDepth 100000 in
theorem c_X5_piece (l : Launch) (E : xG) (a : Nat → Nat) (u : xU) (p1 : Int32) (p2 : Int32) (p3 : Int32) (p4 : Int32) (hp0 : XV (u.1 2) (u.2 1)) (hL : xOK E (LX a)) : xMd l E yX5_piece wsX5_piece rm_X5_piece (LX a) [.ref (a 0), .int p1, .int p2, .int p3, .int p4] (wX E a u) (some (.int ((s_X5_piece u p1 p2 p3 p4).1))) (wX E a ((s_X5_piece u p1 p2 p3 p4).2)) := by
  refine xMd.of (cc := cX5_piece) (maxL := 6) (ret := (some .int)) (by decide) rfl (Nat.le_of_ble_eq_true rfl) ?_
  intro p e s m below meth c ls hAt hF hP hS hl
  obtain ⟨hx, hb, hr, hml, hown, hts, hlocks, -⟩ := hAt
  have hown : s.vm.findClass RX5 = some m.cls := hown
  have hl : lv_has ls 6 [(0, .ref (a 0)), (1, .int p1), (2, .int p2), (3, .int p3), (4, .int p4)] := hl
  have hK := hF.1
  have hA := hL.2
  change W p l e rm_X5_piece s m ([.ref (a 0), .int p1, .int p2, .int p3, .int p4] : List Value).toArray below meth c s.heap [] 0 0 (xQmd E below (LX a) (some (.int ((s_X5_piece u p1 p2 p3 p4).1))) (wX E a ((s_X5_piece u p1 p2 p3 p4).2)) ([.ref (a 0), .int p1, .int p2, .int p3, .int p4] : List Value).toArray s) _
  have hS : va_S (· ∈ LX a) s.heap s.heap [] := hS
  have hR : s_X5_piece u p1 p2 p3 p4 = s_X5_piece u p1 p2 p3 p4 := rfl
  refine lv_iconst (v := 0) hx hb dX5_piece_0 rfl ?_
  refine lv_iload_n hx hb dX5_piece_1 rfl (lv_at hl 1 rfl) ?_
  refine xRoS (nL := 6) ⟨hx, hb, hml, hown, hts⟩ (c_X5_fits l E 0 p1) (va_cwS 2 hts gX5_piece_X5_fits rfl rfl rfl hd_X5_fits ⟨(Nat.le_of_ble_eq_true rfl), (Nat.le_of_ble_eq_true rfl)⟩) hF hS hA (hP.sub [] rfl) rfl hl.1 rfl (Nat.le_of_ble_eq_true rfl) ⟨(Nat.le_of_ble_eq_true rfl), (Nat.le_of_ble_eq_true rfl)⟩ dX5_piece_2 ?_
  refine W.eq (g2 := F0 m 5 ls [.int (s_X5_fits 0 p1)]) rfl ?_
  refine lv_if_eq (tgt := 33) hx hb dX5_piece_5 rfl (fun q1 => ?_) (fun q1 => ?_)
  · have hR := hR.trans (if_pos q1)
    refine lv_bipush (v := (-2)) hx hb dX5_piece_33 rfl ?_
    have hR : s_X5_piece u p1 p2 p3 p4 = ((-2), u) := hR
    exact W.iret (v := (-2)) hx hb hr (fun t ht _ => by rw [hR]; dsimp only; exact ⟨⟨rfl, by rw [ht]; exact hP⟩, hS.F ht⟩) hS.2.2 dX5_piece_35
  · have hR := hR.trans (if_neg q1)
    refine lv_iconst (v := 1) hx hb dX5_piece_8 rfl ?_
    refine lv_iload_n hx hb dX5_piece_9 rfl (lv_at hl 2 rfl) ?_
    refine xRoS (nL := 6) ⟨hx, hb, hml, hown, hts⟩ (c_X5_fits l E 1 p2) (va_cwS 2 hts gX5_piece_X5_fits rfl rfl rfl hd_X5_fits ⟨(Nat.le_of_ble_eq_true rfl), (Nat.le_of_ble_eq_true rfl)⟩) hF hS hA (hP.sub [] rfl) rfl hl.1 rfl (Nat.le_of_ble_eq_true rfl) ⟨(Nat.le_of_ble_eq_true rfl), (Nat.le_of_ble_eq_true rfl)⟩ dX5_piece_10 ?_
    refine W.eq (g2 := F0 m 13 ls [.int (s_X5_fits 1 p2)]) rfl ?_
    refine lv_if_eq (tgt := 33) hx hb dX5_piece_13 rfl (fun q2 => ?_) (fun q2 => ?_)
    · have hR := hR.trans (if_pos q2)
      refine lv_bipush (v := (-2)) hx hb dX5_piece_33 rfl ?_
      have hR : s_X5_piece u p1 p2 p3 p4 = ((-2), u) := hR
      exact W.iret (v := (-2)) hx hb hr (fun t ht _ => by rw [hR]; dsimp only; exact ⟨⟨rfl, by rw [ht]; exact hP⟩, hS.F ht⟩) hS.2.2 dX5_piece_35
    · have hR := hR.trans (if_neg q2)
      refine lv_iconst (v := 2) hx hb dX5_piece_16 rfl ?_
      refine lv_iload_n hx hb dX5_piece_17 rfl (lv_at hl 3 rfl) ?_
      refine xRoS (nL := 6) ⟨hx, hb, hml, hown, hts⟩ (c_X5_fits l E 2 p3) (va_cwS 2 hts gX5_piece_X5_fits rfl rfl rfl hd_X5_fits ⟨(Nat.le_of_ble_eq_true rfl), (Nat.le_of_ble_eq_true rfl)⟩) hF hS hA (hP.sub [] rfl) rfl hl.1 rfl (Nat.le_of_ble_eq_true rfl) ⟨(Nat.le_of_ble_eq_true rfl), (Nat.le_of_ble_eq_true rfl)⟩ dX5_piece_18 ?_
      refine W.eq (g2 := F0 m 21 ls [.int (s_X5_fits 2 p3)]) rfl ?_
      refine lv_if_eq (tgt := 33) hx hb dX5_piece_21 rfl (fun q3 => ?_) (fun q3 => ?_)
      · have hR := hR.trans (if_pos q3)
        refine lv_bipush (v := (-2)) hx hb dX5_piece_33 rfl ?_
        have hR : s_X5_piece u p1 p2 p3 p4 = ((-2), u) := hR
        exact W.iret (v := (-2)) hx hb hr (fun t ht _ => by rw [hR]; dsimp only; exact ⟨⟨rfl, by rw [ht]; exact hP⟩, hS.F ht⟩) hS.2.2 dX5_piece_35
      · have hR := hR.trans (if_neg q3)
        refine lv_iconst (v := 3) hx hb dX5_piece_24 rfl ?_
        refine lv_iload hx hb dX5_piece_25 (lv_at hl 4 rfl) ?_
        refine xRoS (nL := 6) ⟨hx, hb, hml, hown, hts⟩ (c_X5_fits l E 3 p4) (va_cwS 2 hts gX5_piece_X5_fits rfl rfl rfl hd_X5_fits ⟨(Nat.le_of_ble_eq_true rfl), (Nat.le_of_ble_eq_true rfl)⟩) hF hS hA (hP.sub [] rfl) rfl hl.1 rfl (Nat.le_of_ble_eq_true rfl) ⟨(Nat.le_of_ble_eq_true rfl), (Nat.le_of_ble_eq_true rfl)⟩ dX5_piece_27 ?_
        refine W.eq (g2 := F0 m 30 ls [.int (s_X5_fits 3 p4)]) rfl ?_
        refine lv_if_ne (tgt := 36) hx hb dX5_piece_30 rfl (fun q4 => ?_) (fun q4 => ?_)
        · have hR := hR.trans (if_neg q4)
          refine lv_aload_n hx hb dX5_piece_36 rfl (lv_at hl 0 rfl) ?_
          refine va_get (D := xD E) (ci := 5) (v := .ref (a 1)) (C := RX5) (T := TX5) (N := 9) hx hb hts (by decide +kernel) hown hK hP 0 rfl rfl 0 (by decide) (hts (.fieldLink RX5 12 "RailOffsets" "pieces" "LRailOffsets$Pieces;") (by decide +kernel)) (fun _ h => h) rfl dX5_piece_37 ?_
          refine va_get (D := xD E) (ci := 2) (v := .int (u.2 1)) (C := RX2) (T := TX2) (N := 2) hx hb hts (by decide +kernel) hown hK hP 1 rfl rfl 1 (by decide) (hts (.fieldLink RX5 76 "RailOffsets$Pieces" "size" "I") (by decide +kernel)) (fun _ h => h) rfl dX5_piece_40 ?_
          refine lv_bipush (v := 10) hx hb dX5_piece_43 rfl ?_
          refine lv_icmp_lt (tgt := 51) hx hb dX5_piece_45 rfl (fun q5 => ?_) (fun q5 => ?_)
          · have hR := hR.trans (if_pos q5)
            refine lv_aload_n hx hb dX5_piece_51 rfl (lv_at hl 0 rfl) ?_
            refine va_get (D := xD E) (ci := 5) (v := .ref (a 1)) (C := RX5) (T := TX5) (N := 9) hx hb hts (by decide +kernel) hown hK hP 0 rfl rfl 0 (by decide) (hts (.fieldLink RX5 12 "RailOffsets" "pieces" "LRailOffsets$Pieces;") (by decide +kernel)) (fun _ h => h) rfl dX5_piece_52 ?_
            refine va_get (D := xD E) (ci := 2) (v := .int (u.2 1)) (C := RX2) (T := TX2) (N := 2) hx hb hts (by decide +kernel) hown hK hP 1 rfl rfl 1 (by decide) (hts (.fieldLink RX5 76 "RailOffsets$Pieces" "size" "I") (by decide +kernel)) (fun _ h => h) rfl dX5_piece_55 ?_
            refine lv_istore (lv' := [(5, .int (u.2 1)), (0, .ref (a 0)), (1, .int p1), (2, .int p2), (3, .int p3), (4, .int p4)]) hx hb dX5_piece_58 hl (by decide) rfl (fun ls hl => ?_)
            refine lv_aload_n hx hb dX5_piece_60 rfl (lv_at hl 1 rfl) ?_
            refine va_get (D := xD E) (ci := 5) (v := .ref (a 1)) (C := RX5) (T := TX5) (N := 9) hx hb hts (by decide +kernel) hown hK hP 0 rfl rfl 0 (by decide) (hts (.fieldLink RX5 12 "RailOffsets" "pieces" "LRailOffsets$Pieces;") (by decide +kernel)) (fun _ h => h) rfl dX5_piece_61 ?_
            refine lv_iload hx hb dX5_piece_64 (lv_at hl 0 rfl) ?_
            refine lv_iconst (v := 1) hx hb dX5_piece_66 rfl ?_
            refine lv_iadd hx hb dX5_piece_67 ?_
            refine va_put (D := xD E) (ci := 2) (v := .int ((u.2 1) + 1)) (ty := .int) (C := RX2) (T := TX2) (N := 2) hx hb hts (by decide +kernel) tyX2 tyX2_ok nmX2 hown hK hP (xD_of (ws := wX E a u) (A := (· ∈ LX a)) hL.1 (fun _ h => h)) hS 1 rfl rfl 1 (by decide) (hts (.fieldLink RX5 76 "RailOffsets$Pieces" "size" "I") (by decide +kernel)) (fun _ h => h) rfl (by decide +kernel) rfl rfl (Nat.le_of_ble_eq_true rfl) dX5_piece_68 (fun H locs hP _ hS => ?_)
            have hP : va_P (xD E) vwCl (wX E a (uZ u 1 ((u.2 1) + 1))) H := hP
            refine lv_aload_n hx hb dX5_piece_71 rfl (lv_at hl 1 rfl) ?_
            refine va_get (D := xD E) (ci := 5) (v := .ref (a 1)) (C := RX5) (T := TX5) (N := 9) hx hb hts (by decide +kernel) hown hK hP 0 rfl rfl 0 (by decide) (hts (.fieldLink RX5 12 "RailOffsets" "pieces" "LRailOffsets$Pieces;") (by decide +kernel)) (fun _ h => h) rfl dX5_piece_72 ?_
            refine lv_iload hx hb dX5_piece_75 (lv_at hl 0 rfl) ?_
            refine lv_iconst (v := 0) hx hb dX5_piece_77 rfl ?_
            refine lv_iload_n hx hb dX5_piece_78 rfl (lv_at hl 2 rfl) ?_
            refine xMdV (nL := 6) ⟨hx, hb, hml, hown, hts⟩ (c_X2_write l E a (uZ u 1 ((u.2 1) + 1)) (u.2 1) 0 p1 hL) (cwV 3 hts gX5_piece_X2_write rfl rfl rfl ⟨rfl, hd_X2_write⟩ ⟨(Nat.le_of_ble_eq_true rfl), (Nat.le_of_ble_eq_true rfl)⟩) hF hS hL.2 (fun _ h => h) hP (va_recv (q := (RX2, TX2, 2)) hK hP (ci := 2) rfl (q0 := 1) rfl) rfl hl.1 rfl (Nat.le_of_ble_eq_true rfl) ⟨(Nat.le_of_ble_eq_true rfl), (Nat.le_of_ble_eq_true rfl)⟩ dX5_piece_79 (fun H locs hP _ hS => ?_)
            refine W.eq (g2 := F0 m 82 ls []) rfl ?_
            refine lv_aload_n hx hb dX5_piece_82 rfl (lv_at hl 1 rfl) ?_
            refine va_get (D := xD E) (ci := 5) (v := .ref (a 1)) (C := RX5) (T := TX5) (N := 9) hx hb hts (by decide +kernel) hown hK hP 0 rfl rfl 0 (by decide) (hts (.fieldLink RX5 12 "RailOffsets" "pieces" "LRailOffsets$Pieces;") (by decide +kernel)) (fun _ h => h) rfl dX5_piece_83 ?_
            refine lv_iload hx hb dX5_piece_86 (lv_at hl 0 rfl) ?_
            refine lv_iconst (v := 1) hx hb dX5_piece_88 rfl ?_
            refine lv_iload_n hx hb dX5_piece_89 rfl (lv_at hl 3 rfl) ?_
            refine xMdV (nL := 6) ⟨hx, hb, hml, hown, hts⟩ (c_X2_write l E a (s_X2_write (uZ u 1 ((u.2 1) + 1)) (u.2 1) 0 p1) (u.2 1) 1 p2 hL) (cwV 3 hts gX5_piece_X2_write rfl rfl rfl ⟨rfl, hd_X2_write⟩ ⟨(Nat.le_of_ble_eq_true rfl), (Nat.le_of_ble_eq_true rfl)⟩) hF hS hL.2 (fun _ h => h) hP (va_recv (q := (RX2, TX2, 2)) hK hP (ci := 2) rfl (q0 := 1) rfl) rfl hl.1 rfl (Nat.le_of_ble_eq_true rfl) ⟨(Nat.le_of_ble_eq_true rfl), (Nat.le_of_ble_eq_true rfl)⟩ dX5_piece_90 (fun H locs hP _ hS => ?_)
            refine W.eq (g2 := F0 m 93 ls []) rfl ?_
            refine lv_aload_n hx hb dX5_piece_93 rfl (lv_at hl 1 rfl) ?_
            refine va_get (D := xD E) (ci := 5) (v := .ref (a 1)) (C := RX5) (T := TX5) (N := 9) hx hb hts (by decide +kernel) hown hK hP 0 rfl rfl 0 (by decide) (hts (.fieldLink RX5 12 "RailOffsets" "pieces" "LRailOffsets$Pieces;") (by decide +kernel)) (fun _ h => h) rfl dX5_piece_94 ?_
            refine lv_iload hx hb dX5_piece_97 (lv_at hl 0 rfl) ?_
            refine lv_iconst (v := 2) hx hb dX5_piece_99 rfl ?_
            refine lv_iload_n hx hb dX5_piece_100 rfl (lv_at hl 4 rfl) ?_
            refine xMdV (nL := 6) ⟨hx, hb, hml, hown, hts⟩ (c_X2_write l E a (s_X2_write (s_X2_write (uZ u 1 ((u.2 1) + 1)) (u.2 1) 0 p1) (u.2 1) 1 p2) (u.2 1) 2 p3 hL) (cwV 3 hts gX5_piece_X2_write rfl rfl rfl ⟨rfl, hd_X2_write⟩ ⟨(Nat.le_of_ble_eq_true rfl), (Nat.le_of_ble_eq_true rfl)⟩) hF hS hL.2 (fun _ h => h) hP (va_recv (q := (RX2, TX2, 2)) hK hP (ci := 2) rfl (q0 := 1) rfl) rfl hl.1 rfl (Nat.le_of_ble_eq_true rfl) ⟨(Nat.le_of_ble_eq_true rfl), (Nat.le_of_ble_eq_true rfl)⟩ dX5_piece_101 (fun H locs hP _ hS => ?_)
            refine W.eq (g2 := F0 m 104 ls []) rfl ?_
            refine lv_aload_n hx hb dX5_piece_104 rfl (lv_at hl 1 rfl) ?_
            refine va_get (D := xD E) (ci := 5) (v := .ref (a 1)) (C := RX5) (T := TX5) (N := 9) hx hb hts (by decide +kernel) hown hK hP 0 rfl rfl 0 (by decide) (hts (.fieldLink RX5 12 "RailOffsets" "pieces" "LRailOffsets$Pieces;") (by decide +kernel)) (fun _ h => h) rfl dX5_piece_105 ?_
            refine lv_iload hx hb dX5_piece_108 (lv_at hl 0 rfl) ?_
            refine lv_iconst (v := 3) hx hb dX5_piece_110 rfl ?_
            refine lv_iload hx hb dX5_piece_111 (lv_at hl 5 rfl) ?_
            refine xMdV (nL := 6) ⟨hx, hb, hml, hown, hts⟩ (c_X2_write l E a (s_X2_write (s_X2_write (s_X2_write (uZ u 1 ((u.2 1) + 1)) (u.2 1) 0 p1) (u.2 1) 1 p2) (u.2 1) 2 p3) (u.2 1) 3 p4 hL) (cwV 3 hts gX5_piece_X2_write rfl rfl rfl ⟨rfl, hd_X2_write⟩ ⟨(Nat.le_of_ble_eq_true rfl), (Nat.le_of_ble_eq_true rfl)⟩) hF hS hL.2 (fun _ h => h) hP (va_recv (q := (RX2, TX2, 2)) hK hP (ci := 2) rfl (q0 := 1) rfl) rfl hl.1 rfl (Nat.le_of_ble_eq_true rfl) ⟨(Nat.le_of_ble_eq_true rfl), (Nat.le_of_ble_eq_true rfl)⟩ dX5_piece_113 (fun H locs hP _ hS => ?_)
            refine W.eq (g2 := F0 m 116 ls []) rfl ?_
            refine lv_aload_n hx hb dX5_piece_116 rfl (lv_at hl 1 rfl) ?_
            refine va_get (D := xD E) (ci := 5) (v := .ref (a 7)) (C := RX5) (T := TX5) (N := 9) hx hb hts (by decide +kernel) hown hK hP 0 rfl rfl 4 (by decide) (hts (.fieldLink RX5 41 "RailOffsets" "line" "LRailOffsets$Line;") (by decide +kernel)) (fun _ h => h) rfl dX5_piece_117 ?_
            refine xMdV (nL := 6) ⟨hx, hb, hml, hown, hts⟩ (c_X0_lay l E a (s_X2_write (s_X2_write (s_X2_write (s_X2_write (uZ u 1 ((u.2 1) + 1)) (u.2 1) 0 p1) (u.2 1) 1 p2) (u.2 1) 2 p3) (u.2 1) 3 p4)  (xv_piece2 hp0 (Int32.not_le.mpr (by assumption)) (by assumption) (by assumption) (by assumption) (by assumption)) hL) (cwV 0 hts gX5_piece_X0_lay rfl rfl rfl ⟨rfl, hd_X0_lay⟩ ⟨(Nat.le_of_ble_eq_true rfl), (Nat.le_of_ble_eq_true rfl)⟩) hF hS hL.2 (fun _ h => h) hP (va_recv (q := (RX0, TX0, 8)) hK hP (ci := 0) rfl (q0 := 7) rfl) rfl hl.1 rfl (Nat.le_of_ble_eq_true rfl) ⟨(Nat.le_of_ble_eq_true rfl), (Nat.le_of_ble_eq_true rfl)⟩ dX5_piece_120 (fun H locs hP _ hS => ?_)
            refine W.eq (g2 := F0 m 123 ls []) rfl ?_
            refine lv_iload hx hb dX5_piece_123 (lv_at hl 0 rfl) ?_
            have hR : s_X5_piece u p1 p2 p3 p4 = (u.2 1, s_X0_lay (s_X2_write (s_X2_write (s_X2_write (s_X2_write (uZ u 1 ((u.2 1) + 1)) (u.2 1) 0 p1) (u.2 1) 1 p2) (u.2 1) 2 p3) (u.2 1) 3 p4)) := hR
            exact W.iret (v := u.2 1) hx hb hr (fun t ht _ => by rw [hR]; dsimp only; exact ⟨⟨rfl, by rw [ht]; exact hP⟩, hS.F ht⟩) hS.2.2 dX5_piece_125
          · have hR := hR.trans (if_neg q5)
            refine lv_bipush (v := (-4)) hx hb dX5_piece_48 rfl ?_
            have hR : s_X5_piece u p1 p2 p3 p4 = ((-4), u) := hR
            exact W.iret (v := (-4)) hx hb hr (fun t ht _ => by rw [hR]; dsimp only; exact ⟨⟨rfl, by rw [ht]; exact hP⟩, hS.F ht⟩) hS.2.2 dX5_piece_50
        · have hR := hR.trans (if_pos q4)
          refine lv_bipush (v := (-2)) hx hb dX5_piece_33 rfl ?_
          have hR : s_X5_piece u p1 p2 p3 p4 = ((-2), u) := hR
          exact W.iret (v := (-2)) hx hb hr (fun t ht _ => by rw [hR]; dsimp only; exact ⟨⟨rfl, by rw [ht]; exact hP⟩, hS.F ht⟩) hS.2.2 dX5_piece_35
def s_X5_drop (u : xU) : Int32 × xU :=
  if 1 ≤ (u.2 1) then
    ((s_X0_lay (uZ u 1 ((u.2 1) - 1))).2 1, s_X0_lay (uZ u 1 ((u.2 1) - 1)))
  else
    ((-3), u)
abbrev rm_X5_drop : Room := { frames := 5, cells := 0, slots := 0, locals := 117 }
set_option maxHeartbeats 8000000 in
set_option maxRecDepth 100000 in
theorem c_X5_drop (l : Launch) (E : xG) (a : Nat → Nat) (u : xU)  (hp0 : XV (u.1 2) (u.2 1)) (hL : xOK E (LX a)) : xMd l E yX5_drop wsX5_drop rm_X5_drop (LX a) [.ref (a 0)] (wX E a u) (some (.int ((s_X5_drop u).1))) (wX E a ((s_X5_drop u).2)) := by
  refine xMd.of (cc := cX5_drop) (maxL := 1) (ret := (some .int)) (by decide) rfl (Nat.le_of_ble_eq_true rfl) ?_
  intro p e s m below meth c ls hAt hF hP hS hl
  obtain ⟨hx, hb, hr, hml, hown, hts, hlocks, -⟩ := hAt
  have hown : s.vm.findClass RX5 = some m.cls := hown
  have hl : lv_has ls 1 [(0, .ref (a 0))] := hl
  have hK := hF.1
  have hA := hL.2
  change W p l e rm_X5_drop s m ([.ref (a 0)] : List Value).toArray below meth c s.heap [] 0 0 (xQmd E below (LX a) (some (.int ((s_X5_drop u).1))) (wX E a ((s_X5_drop u).2)) ([.ref (a 0)] : List Value).toArray s) _
  have hS : va_S (· ∈ LX a) s.heap s.heap [] := hS
  have hR : s_X5_drop u = s_X5_drop u := rfl
  refine lv_aload_n hx hb dX5_drop_0 rfl (lv_at hl 0 rfl) ?_
  refine va_get (D := xD E) (ci := 5) (v := .ref (a 1)) (C := RX5) (T := TX5) (N := 9) hx hb hts (by decide +kernel) hown hK hP 0 rfl rfl 0 (by decide) (hts (.fieldLink RX5 12 "RailOffsets" "pieces" "LRailOffsets$Pieces;") (by decide +kernel)) (fun _ h => h) rfl dX5_drop_1 ?_
  refine va_get (D := xD E) (ci := 2) (v := .int (u.2 1)) (C := RX2) (T := TX2) (N := 2) hx hb hts (by decide +kernel) hown hK hP 1 rfl rfl 1 (by decide) (hts (.fieldLink RX5 76 "RailOffsets$Pieces" "size" "I") (by decide +kernel)) (fun _ h => h) rfl dX5_drop_4 ?_
  refine lv_iconst (v := 1) hx hb dX5_drop_7 rfl ?_
  refine lv_icmp_ge (tgt := 14) hx hb dX5_drop_8 rfl (fun q1 => ?_) (fun q1 => ?_)
  · have hR := hR.trans (if_pos q1)
    refine lv_aload_n hx hb dX5_drop_14 rfl (lv_at hl 0 rfl) ?_
    refine va_get (D := xD E) (ci := 5) (v := .ref (a 1)) (C := RX5) (T := TX5) (N := 9) hx hb hts (by decide +kernel) hown hK hP 0 rfl rfl 0 (by decide) (hts (.fieldLink RX5 12 "RailOffsets" "pieces" "LRailOffsets$Pieces;") (by decide +kernel)) (fun _ h => h) rfl dX5_drop_15 ?_
    refine lv_aload_n hx hb dX5_drop_18 rfl (lv_at hl 0 rfl) ?_
    refine va_get (D := xD E) (ci := 5) (v := .ref (a 1)) (C := RX5) (T := TX5) (N := 9) hx hb hts (by decide +kernel) hown hK hP 0 rfl rfl 0 (by decide) (hts (.fieldLink RX5 12 "RailOffsets" "pieces" "LRailOffsets$Pieces;") (by decide +kernel)) (fun _ h => h) rfl dX5_drop_19 ?_
    refine va_get (D := xD E) (ci := 2) (v := .int (u.2 1)) (C := RX2) (T := TX2) (N := 2) hx hb hts (by decide +kernel) hown hK hP 1 rfl rfl 1 (by decide) (hts (.fieldLink RX5 76 "RailOffsets$Pieces" "size" "I") (by decide +kernel)) (fun _ h => h) rfl dX5_drop_22 ?_
    refine lv_iconst (v := 1) hx hb dX5_drop_25 rfl ?_
    refine lv_isub hx hb dX5_drop_26 ?_
    refine va_put (D := xD E) (ci := 2) (v := .int ((u.2 1) - 1)) (ty := .int) (C := RX2) (T := TX2) (N := 2) hx hb hts (by decide +kernel) tyX2 tyX2_ok nmX2 hown hK hP (xD_of (ws := wX E a u) (A := (· ∈ LX a)) hL.1 (fun _ h => h)) hS 1 rfl rfl 1 (by decide) (hts (.fieldLink RX5 76 "RailOffsets$Pieces" "size" "I") (by decide +kernel)) (fun _ h => h) rfl (by decide +kernel) rfl rfl (Nat.le_of_ble_eq_true rfl) dX5_drop_27 (fun H locs hP _ hS => ?_)
    have hP : va_P (xD E) vwCl (wX E a (uZ u 1 ((u.2 1) - 1))) H := hP
    refine lv_aload_n hx hb dX5_drop_30 rfl (lv_at hl 0 rfl) ?_
    refine va_get (D := xD E) (ci := 5) (v := .ref (a 7)) (C := RX5) (T := TX5) (N := 9) hx hb hts (by decide +kernel) hown hK hP 0 rfl rfl 4 (by decide) (hts (.fieldLink RX5 41 "RailOffsets" "line" "LRailOffsets$Line;") (by decide +kernel)) (fun _ h => h) rfl dX5_drop_31 ?_
    refine xMdV (nL := 1) ⟨hx, hb, hml, hown, hts⟩ (c_X0_lay l E a (uZ u 1 ((u.2 1) - 1))  (xv_drop hp0 (Int32.not_lt.mpr (by assumption))) hL) (cwV 0 hts gX5_drop_X0_lay rfl rfl rfl ⟨rfl, hd_X0_lay⟩ ⟨(Nat.le_of_ble_eq_true rfl), (Nat.le_of_ble_eq_true rfl)⟩) hF hS hL.2 (fun _ h => h) hP (va_recv (q := (RX0, TX0, 8)) hK hP (ci := 0) rfl (q0 := 7) rfl) rfl hl.1 rfl (Nat.le_of_ble_eq_true rfl) ⟨(Nat.le_of_ble_eq_true rfl), (Nat.le_of_ble_eq_true rfl)⟩ dX5_drop_34 (fun H locs hP _ hS => ?_)
    refine W.eq (g2 := F0 m 37 ls []) rfl ?_
    refine lv_aload_n hx hb dX5_drop_37 rfl (lv_at hl 0 rfl) ?_
    refine va_get (D := xD E) (ci := 5) (v := .ref (a 1)) (C := RX5) (T := TX5) (N := 9) hx hb hts (by decide +kernel) hown hK hP 0 rfl rfl 0 (by decide) (hts (.fieldLink RX5 12 "RailOffsets" "pieces" "LRailOffsets$Pieces;") (by decide +kernel)) (fun _ h => h) rfl dX5_drop_38 ?_
    refine va_get (D := xD E) (ci := 2) (v := .int ((s_X0_lay (uZ u 1 ((u.2 1) - 1))).2 1)) (C := RX2) (T := TX2) (N := 2) hx hb hts (by decide +kernel) hown hK hP 1 rfl rfl 1 (by decide) (hts (.fieldLink RX5 76 "RailOffsets$Pieces" "size" "I") (by decide +kernel)) (fun _ h => h) rfl dX5_drop_41 ?_
    have hR : s_X5_drop u = ((s_X0_lay (uZ u 1 ((u.2 1) - 1))).2 1, s_X0_lay (uZ u 1 ((u.2 1) - 1))) := hR
    exact W.iret (v := (s_X0_lay (uZ u 1 ((u.2 1) - 1))).2 1) hx hb hr (fun t ht _ => by rw [hR]; dsimp only; exact ⟨⟨rfl, by rw [ht]; exact hP⟩, hS.F ht⟩) hS.2.2 dX5_drop_44
  · have hR := hR.trans (if_neg q1)
    refine lv_bipush (v := (-3)) hx hb dX5_drop_11 rfl ?_
    have hR : s_X5_drop u = ((-3), u) := hR
    exact W.iret (v := (-3)) hx hb hr (fun t ht _ => by rw [hR]; dsimp only; exact ⟨⟨rfl, by rw [ht]; exact hP⟩, hS.F ht⟩) hS.2.2 dX5_drop_13
def s_X5_set (u : xU) (p1 : Int32) (p2 : Int32) (p3 : Int32) : Int32 × xU :=
  if (s_X2_has u p1) = 0 then
    ((-1000), u)
  else
    if (s_X5_within p2 0 3) = 0 then
      ((-1000), u)
    else
      if p2 = 3 then
        if (s_X5_fits 0 p3) = 0 then
          ((-1000), u)
        else
          (s_X2_read u p1 0, s_X0_lay (s_X2_write u p1 0 p3))
      else
        if (s_X5_fits (p2 + 1) p3) = 0 then
          ((-1000), u)
        else
          (s_X2_read u p1 (p2 + 1), s_X0_lay (s_X2_write u p1 (p2 + 1) p3))
abbrev rm_X5_set : Room := { frames := 5, cells := 0, slots := 0, locals := 117 }
set_option maxHeartbeats 8000000 in
set_option maxRecDepth 100000 in
theorem c_X5_set (l : Launch) (E : xG) (a : Nat → Nat) (u : xU) (p1 : Int32) (p2 : Int32) (p3 : Int32) (hp0 : XV (u.1 2) (u.2 1)) (hL : xOK E (LX a)) : xMd l E yX5_set wsX5_set rm_X5_set (LX a) [.ref (a 0), .int p1, .int p2, .int p3] (wX E a u) (some (.int ((s_X5_set u p1 p2 p3).1))) (wX E a ((s_X5_set u p1 p2 p3).2)) := by
  refine xMd.of (cc := cX5_set) (maxL := 6) (ret := (some .int)) (by decide) rfl (Nat.le_of_ble_eq_true rfl) ?_
  intro p e s m below meth c ls hAt hF hP hS hl
  obtain ⟨hx, hb, hr, hml, hown, hts, hlocks, -⟩ := hAt
  have hown : s.vm.findClass RX5 = some m.cls := hown
  have hl : lv_has ls 6 [(0, .ref (a 0)), (1, .int p1), (2, .int p2), (3, .int p3)] := hl
  have hK := hF.1
  have hA := hL.2
  change W p l e rm_X5_set s m ([.ref (a 0), .int p1, .int p2, .int p3] : List Value).toArray below meth c s.heap [] 0 0 (xQmd E below (LX a) (some (.int ((s_X5_set u p1 p2 p3).1))) (wX E a ((s_X5_set u p1 p2 p3).2)) ([.ref (a 0), .int p1, .int p2, .int p3] : List Value).toArray s) _
  have hS : va_S (· ∈ LX a) s.heap s.heap [] := hS
  have hR : s_X5_set u p1 p2 p3 = s_X5_set u p1 p2 p3 := rfl
  refine lv_aload_n hx hb dX5_set_0 rfl (lv_at hl 0 rfl) ?_
  refine va_get (D := xD E) (ci := 5) (v := .ref (a 1)) (C := RX5) (T := TX5) (N := 9) hx hb hts (by decide +kernel) hown hK hP 0 rfl rfl 0 (by decide) (hts (.fieldLink RX5 12 "RailOffsets" "pieces" "LRailOffsets$Pieces;") (by decide +kernel)) (fun _ h => h) rfl dX5_set_1 ?_
  refine lv_iload_n hx hb dX5_set_4 rfl (lv_at hl 1 rfl) ?_
  refine xRoV (nL := 6) ⟨hx, hb, hml, hown, hts⟩ (c_X2_has l E a u p1) (cwV 1 hts gX5_set_X2_has rfl rfl rfl ⟨rfl, hd_X2_has⟩ ⟨(Nat.le_of_ble_eq_true rfl), (Nat.le_of_ble_eq_true rfl)⟩) hF hS hA hP (va_recv (q := (RX2, TX2, 2)) hK hP (ci := 2) rfl (q0 := 1) rfl) rfl hl.1 rfl (Nat.le_of_ble_eq_true rfl) ⟨(Nat.le_of_ble_eq_true rfl), (Nat.le_of_ble_eq_true rfl)⟩ dX5_set_5 ?_
  refine W.eq (g2 := F0 m 8 ls [.int (s_X2_has u p1)]) rfl ?_
  refine lv_if_eq (tgt := 20) hx hb dX5_set_8 rfl (fun q1 => ?_) (fun q1 => ?_)
  · have hR := hR.trans (if_pos q1)
    refine lv_sipush (v := (-1000)) hx hb dX5_set_20 rfl ?_
    have hR : s_X5_set u p1 p2 p3 = ((-1000), u) := hR
    exact W.iret (v := (-1000)) hx hb hr (fun t ht _ => by rw [hR]; dsimp only; exact ⟨⟨rfl, by rw [ht]; exact hP⟩, hS.F ht⟩) hS.2.2 dX5_set_23
  · have hR := hR.trans (if_neg q1)
    refine lv_iload_n hx hb dX5_set_11 rfl (lv_at hl 2 rfl) ?_
    refine lv_iconst (v := 0) hx hb dX5_set_12 rfl ?_
    refine lv_iconst (v := 3) hx hb dX5_set_13 rfl ?_
    refine xRoS (nL := 6) ⟨hx, hb, hml, hown, hts⟩ (c_X5_within l E p2 0 3) (va_cwS 3 hts gX5_set_X5_within rfl rfl rfl hd_X5_within ⟨(Nat.le_of_ble_eq_true rfl), (Nat.le_of_ble_eq_true rfl)⟩) hF hS hA (hP.sub [] rfl) rfl hl.1 rfl (Nat.le_of_ble_eq_true rfl) ⟨(Nat.le_of_ble_eq_true rfl), (Nat.le_of_ble_eq_true rfl)⟩ dX5_set_14 ?_
    refine W.eq (g2 := F0 m 17 ls [.int (s_X5_within p2 0 3)]) rfl ?_
    refine lv_if_ne (tgt := 24) hx hb dX5_set_17 rfl (fun q2 => ?_) (fun q2 => ?_)
    · have hR := hR.trans (if_neg q2)
      refine lv_iload_n hx hb dX5_set_24 rfl (lv_at hl 2 rfl) ?_
      refine lv_iconst (v := 3) hx hb dX5_set_25 rfl ?_
      refine lv_icmp_ne (tgt := 33) hx hb dX5_set_26 rfl (fun q3 => ?_) (fun q3 => ?_)
      · have hR := hR.trans (if_neg q3)
        refine lv_iload_n hx hb dX5_set_33 rfl (lv_at hl 2 rfl) ?_
        refine lv_iconst (v := 1) hx hb dX5_set_34 rfl ?_
        refine lv_iadd hx hb dX5_set_35 ?_
        refine lv_istore (lv' := [(4, .int (p2 + 1)), (0, .ref (a 0)), (1, .int p1), (2, .int p2), (3, .int p3)]) hx hb dX5_set_36 hl (by decide) rfl (fun ls hl => ?_)
        refine lv_iload hx hb dX5_set_38 (lv_at hl 0 rfl) ?_
        refine lv_iload_n hx hb dX5_set_40 rfl (lv_at hl 4 rfl) ?_
        refine xRoS (nL := 6) ⟨hx, hb, hml, hown, hts⟩ (c_X5_fits l E (p2 + 1) p3) (va_cwS 2 hts gX5_set_X5_fits rfl rfl rfl hd_X5_fits ⟨(Nat.le_of_ble_eq_true rfl), (Nat.le_of_ble_eq_true rfl)⟩) hF hS hA (hP.sub [] rfl) rfl hl.1 rfl (Nat.le_of_ble_eq_true rfl) ⟨(Nat.le_of_ble_eq_true rfl), (Nat.le_of_ble_eq_true rfl)⟩ dX5_set_41 ?_
        refine W.eq (g2 := F0 m 44 ls [.int (s_X5_fits (p2 + 1) p3)]) rfl ?_
        refine lv_if_ne (tgt := 51) hx hb dX5_set_44 rfl (fun q4 => ?_) (fun q4 => ?_)
        · have hR := hR.trans (if_neg q4)
          refine lv_aload_n hx hb dX5_set_51 rfl (lv_at hl 1 rfl) ?_
          refine va_get (D := xD E) (ci := 5) (v := .ref (a 1)) (C := RX5) (T := TX5) (N := 9) hx hb hts (by decide +kernel) hown hK hP 0 rfl rfl 0 (by decide) (hts (.fieldLink RX5 12 "RailOffsets" "pieces" "LRailOffsets$Pieces;") (by decide +kernel)) (fun _ h => h) rfl dX5_set_52 ?_
          refine lv_iload_n hx hb dX5_set_55 rfl (lv_at hl 2 rfl) ?_
          refine lv_iload hx hb dX5_set_56 (lv_at hl 0 rfl) ?_
          refine xRoV (nL := 6) ⟨hx, hb, hml, hown, hts⟩ (c_X2_read l E a u p1 (p2 + 1)) (cwV 2 hts gX5_set_X2_read rfl rfl rfl ⟨rfl, hd_X2_read⟩ ⟨(Nat.le_of_ble_eq_true rfl), (Nat.le_of_ble_eq_true rfl)⟩) hF hS hA hP (va_recv (q := (RX2, TX2, 2)) hK hP (ci := 2) rfl (q0 := 1) rfl) rfl hl.1 rfl (Nat.le_of_ble_eq_true rfl) ⟨(Nat.le_of_ble_eq_true rfl), (Nat.le_of_ble_eq_true rfl)⟩ dX5_set_58 ?_
          refine W.eq (g2 := F0 m 61 ls [.int (s_X2_read u p1 (p2 + 1))]) rfl ?_
          refine lv_istore (lv' := [(5, .int (s_X2_read u p1 (p2 + 1))), (4, .int (p2 + 1)), (0, .ref (a 0)), (1, .int p1), (2, .int p2), (3, .int p3)]) hx hb dX5_set_61 hl (by decide) rfl (fun ls hl => ?_)
          refine lv_aload_n hx hb dX5_set_63 rfl (lv_at hl 2 rfl) ?_
          refine va_get (D := xD E) (ci := 5) (v := .ref (a 1)) (C := RX5) (T := TX5) (N := 9) hx hb hts (by decide +kernel) hown hK hP 0 rfl rfl 0 (by decide) (hts (.fieldLink RX5 12 "RailOffsets" "pieces" "LRailOffsets$Pieces;") (by decide +kernel)) (fun _ h => h) rfl dX5_set_64 ?_
          refine lv_iload_n hx hb dX5_set_67 rfl (lv_at hl 3 rfl) ?_
          refine lv_iload hx hb dX5_set_68 (lv_at hl 1 rfl) ?_
          refine lv_iload_n hx hb dX5_set_70 rfl (lv_at hl 5 rfl) ?_
          refine xMdV (nL := 6) ⟨hx, hb, hml, hown, hts⟩ (c_X2_write l E a u p1 (p2 + 1) p3 hL) (cwV 3 hts gX5_set_X2_write rfl rfl rfl ⟨rfl, hd_X2_write⟩ ⟨(Nat.le_of_ble_eq_true rfl), (Nat.le_of_ble_eq_true rfl)⟩) hF hS hL.2 (fun _ h => h) hP (va_recv (q := (RX2, TX2, 2)) hK hP (ci := 2) rfl (q0 := 1) rfl) rfl hl.1 rfl (Nat.le_of_ble_eq_true rfl) ⟨(Nat.le_of_ble_eq_true rfl), (Nat.le_of_ble_eq_true rfl)⟩ dX5_set_71 (fun H locs hP _ hS => ?_)
          refine W.eq (g2 := F0 m 74 ls []) rfl ?_
          refine lv_aload_n hx hb dX5_set_74 rfl (lv_at hl 2 rfl) ?_
          refine va_get (D := xD E) (ci := 5) (v := .ref (a 7)) (C := RX5) (T := TX5) (N := 9) hx hb hts (by decide +kernel) hown hK hP 0 rfl rfl 4 (by decide) (hts (.fieldLink RX5 41 "RailOffsets" "line" "LRailOffsets$Line;") (by decide +kernel)) (fun _ h => h) rfl dX5_set_75 ?_
          refine xMdV (nL := 6) ⟨hx, hb, hml, hown, hts⟩ (c_X0_lay l E a (s_X2_write u p1 (p2 + 1) p3)  (xv_set hp0 (by first | exact ⟨0, by decide, rfl⟩ | exact xv_what (by assumption) (by assumption)) (by assumption)) hL) (cwV 0 hts gX5_set_X0_lay rfl rfl rfl ⟨rfl, hd_X0_lay⟩ ⟨(Nat.le_of_ble_eq_true rfl), (Nat.le_of_ble_eq_true rfl)⟩) hF hS hL.2 (fun _ h => h) hP (va_recv (q := (RX0, TX0, 8)) hK hP (ci := 0) rfl (q0 := 7) rfl) rfl hl.1 rfl (Nat.le_of_ble_eq_true rfl) ⟨(Nat.le_of_ble_eq_true rfl), (Nat.le_of_ble_eq_true rfl)⟩ dX5_set_78 (fun H locs hP _ hS => ?_)
          refine W.eq (g2 := F0 m 81 ls []) rfl ?_
          refine lv_iload hx hb dX5_set_81 (lv_at hl 0 rfl) ?_
          have hR : s_X5_set u p1 p2 p3 = (s_X2_read u p1 (p2 + 1), s_X0_lay (s_X2_write u p1 (p2 + 1) p3)) := hR
          exact W.iret (v := s_X2_read u p1 (p2 + 1)) hx hb hr (fun t ht _ => by rw [hR]; dsimp only; exact ⟨⟨rfl, by rw [ht]; exact hP⟩, hS.F ht⟩) hS.2.2 dX5_set_83
        · have hR := hR.trans (if_pos q4)
          refine lv_sipush (v := (-1000)) hx hb dX5_set_47 rfl ?_
          have hR : s_X5_set u p1 p2 p3 = ((-1000), u) := hR
          exact W.iret (v := (-1000)) hx hb hr (fun t ht _ => by rw [hR]; dsimp only; exact ⟨⟨rfl, by rw [ht]; exact hP⟩, hS.F ht⟩) hS.2.2 dX5_set_50
      · have hR := hR.trans (if_pos q3)
        refine lv_iconst (v := 0) hx hb dX5_set_29 rfl ?_
        refine lv_goto (tgt := 36) hx hb dX5_set_30 rfl ?_
        refine lv_istore (lv' := [(4, .int 0), (0, .ref (a 0)), (1, .int p1), (2, .int p2), (3, .int p3)]) hx hb dX5_set_36 hl (by decide) rfl (fun ls hl => ?_)
        refine lv_iload hx hb dX5_set_38 (lv_at hl 0 rfl) ?_
        refine lv_iload_n hx hb dX5_set_40 rfl (lv_at hl 4 rfl) ?_
        refine xRoS (nL := 6) ⟨hx, hb, hml, hown, hts⟩ (c_X5_fits l E 0 p3) (va_cwS 2 hts gX5_set_X5_fits rfl rfl rfl hd_X5_fits ⟨(Nat.le_of_ble_eq_true rfl), (Nat.le_of_ble_eq_true rfl)⟩) hF hS hA (hP.sub [] rfl) rfl hl.1 rfl (Nat.le_of_ble_eq_true rfl) ⟨(Nat.le_of_ble_eq_true rfl), (Nat.le_of_ble_eq_true rfl)⟩ dX5_set_41 ?_
        refine W.eq (g2 := F0 m 44 ls [.int (s_X5_fits 0 p3)]) rfl ?_
        refine lv_if_ne (tgt := 51) hx hb dX5_set_44 rfl (fun q5 => ?_) (fun q5 => ?_)
        · have hR := hR.trans (if_neg q5)
          refine lv_aload_n hx hb dX5_set_51 rfl (lv_at hl 1 rfl) ?_
          refine va_get (D := xD E) (ci := 5) (v := .ref (a 1)) (C := RX5) (T := TX5) (N := 9) hx hb hts (by decide +kernel) hown hK hP 0 rfl rfl 0 (by decide) (hts (.fieldLink RX5 12 "RailOffsets" "pieces" "LRailOffsets$Pieces;") (by decide +kernel)) (fun _ h => h) rfl dX5_set_52 ?_
          refine lv_iload_n hx hb dX5_set_55 rfl (lv_at hl 2 rfl) ?_
          refine lv_iload hx hb dX5_set_56 (lv_at hl 0 rfl) ?_
          refine xRoV (nL := 6) ⟨hx, hb, hml, hown, hts⟩ (c_X2_read l E a u p1 0) (cwV 2 hts gX5_set_X2_read rfl rfl rfl ⟨rfl, hd_X2_read⟩ ⟨(Nat.le_of_ble_eq_true rfl), (Nat.le_of_ble_eq_true rfl)⟩) hF hS hA hP (va_recv (q := (RX2, TX2, 2)) hK hP (ci := 2) rfl (q0 := 1) rfl) rfl hl.1 rfl (Nat.le_of_ble_eq_true rfl) ⟨(Nat.le_of_ble_eq_true rfl), (Nat.le_of_ble_eq_true rfl)⟩ dX5_set_58 ?_
          refine W.eq (g2 := F0 m 61 ls [.int (s_X2_read u p1 0)]) rfl ?_
          refine lv_istore (lv' := [(5, .int (s_X2_read u p1 0)), (4, .int 0), (0, .ref (a 0)), (1, .int p1), (2, .int p2), (3, .int p3)]) hx hb dX5_set_61 hl (by decide) rfl (fun ls hl => ?_)
          refine lv_aload_n hx hb dX5_set_63 rfl (lv_at hl 2 rfl) ?_
          refine va_get (D := xD E) (ci := 5) (v := .ref (a 1)) (C := RX5) (T := TX5) (N := 9) hx hb hts (by decide +kernel) hown hK hP 0 rfl rfl 0 (by decide) (hts (.fieldLink RX5 12 "RailOffsets" "pieces" "LRailOffsets$Pieces;") (by decide +kernel)) (fun _ h => h) rfl dX5_set_64 ?_
          refine lv_iload_n hx hb dX5_set_67 rfl (lv_at hl 3 rfl) ?_
          refine lv_iload hx hb dX5_set_68 (lv_at hl 1 rfl) ?_
          refine lv_iload_n hx hb dX5_set_70 rfl (lv_at hl 5 rfl) ?_
          refine xMdV (nL := 6) ⟨hx, hb, hml, hown, hts⟩ (c_X2_write l E a u p1 0 p3 hL) (cwV 3 hts gX5_set_X2_write rfl rfl rfl ⟨rfl, hd_X2_write⟩ ⟨(Nat.le_of_ble_eq_true rfl), (Nat.le_of_ble_eq_true rfl)⟩) hF hS hL.2 (fun _ h => h) hP (va_recv (q := (RX2, TX2, 2)) hK hP (ci := 2) rfl (q0 := 1) rfl) rfl hl.1 rfl (Nat.le_of_ble_eq_true rfl) ⟨(Nat.le_of_ble_eq_true rfl), (Nat.le_of_ble_eq_true rfl)⟩ dX5_set_71 (fun H locs hP _ hS => ?_)
          refine W.eq (g2 := F0 m 74 ls []) rfl ?_
          refine lv_aload_n hx hb dX5_set_74 rfl (lv_at hl 2 rfl) ?_
          refine va_get (D := xD E) (ci := 5) (v := .ref (a 7)) (C := RX5) (T := TX5) (N := 9) hx hb hts (by decide +kernel) hown hK hP 0 rfl rfl 4 (by decide) (hts (.fieldLink RX5 41 "RailOffsets" "line" "LRailOffsets$Line;") (by decide +kernel)) (fun _ h => h) rfl dX5_set_75 ?_
          refine xMdV (nL := 6) ⟨hx, hb, hml, hown, hts⟩ (c_X0_lay l E a (s_X2_write u p1 0 p3)  (xv_set hp0 (by first | exact ⟨0, by decide, rfl⟩ | exact xv_what (by assumption) (by assumption)) (by assumption)) hL) (cwV 0 hts gX5_set_X0_lay rfl rfl rfl ⟨rfl, hd_X0_lay⟩ ⟨(Nat.le_of_ble_eq_true rfl), (Nat.le_of_ble_eq_true rfl)⟩) hF hS hL.2 (fun _ h => h) hP (va_recv (q := (RX0, TX0, 8)) hK hP (ci := 0) rfl (q0 := 7) rfl) rfl hl.1 rfl (Nat.le_of_ble_eq_true rfl) ⟨(Nat.le_of_ble_eq_true rfl), (Nat.le_of_ble_eq_true rfl)⟩ dX5_set_78 (fun H locs hP _ hS => ?_)
          refine W.eq (g2 := F0 m 81 ls []) rfl ?_
          refine lv_iload hx hb dX5_set_81 (lv_at hl 0 rfl) ?_
          have hR : s_X5_set u p1 p2 p3 = (s_X2_read u p1 0, s_X0_lay (s_X2_write u p1 0 p3)) := hR
          exact W.iret (v := s_X2_read u p1 0) hx hb hr (fun t ht _ => by rw [hR]; dsimp only; exact ⟨⟨rfl, by rw [ht]; exact hP⟩, hS.F ht⟩) hS.2.2 dX5_set_83
        · have hR := hR.trans (if_pos q5)
          refine lv_sipush (v := (-1000)) hx hb dX5_set_47 rfl ?_
          have hR : s_X5_set u p1 p2 p3 = ((-1000), u) := hR
          exact W.iret (v := (-1000)) hx hb hr (fun t ht _ => by rw [hR]; dsimp only; exact ⟨⟨rfl, by rw [ht]; exact hP⟩, hS.F ht⟩) hS.2.2 dX5_set_50
    · have hR := hR.trans (if_pos q2)
      refine lv_sipush (v := (-1000)) hx hb dX5_set_20 rfl ?_
      have hR : s_X5_set u p1 p2 p3 = ((-1000), u) := hR
      exact W.iret (v := (-1000)) hx hb hr (fun t ht _ => by rw [hR]; dsimp only; exact ⟨⟨rfl, by rw [ht]; exact hP⟩, hS.F ht⟩) hS.2.2 dX5_set_23
