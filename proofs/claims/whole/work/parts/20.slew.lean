theorem xwlt {x lo hi : Int32} (h : hi.toInt < 2147483647) (hw : ¬ s_X5_within x lo hi = 0) : x.toInt < 2147483647 := by
  have q := xwithin hw
  omega
theorem xcp1 {x hi : Int32} (hw : ¬ s_X5_within x 0 hi = 0) : ¬ x < 0 := by
  have q := xwithin hw
  rw [fa_lt]
  rw [show (0 : Int32).toInt = 0 from rfl] at q ⊢
  omega
theorem xcp2 {x s n : Int32} (hs : 0 ≤ s.toInt ∧ s.toInt ≤ 40) (hn : ¬ n < 0) (hw : ¬ s_X5_within x 0 (s - n) = 0) : x.toNatClampNeg + n.toNatClampNeg ≤ 40 := by
  have q := xwithin hw
  rw [show (0 : Int32).toInt = 0 from rfl] at q
  obtain ⟨i, hi, rfl⟩ := nI_of_toInt q.1
  obtain ⟨j, hj, rfl⟩ := nI_of hn
  rw [nI_clamp hi, nI_clamp hj]
  have r := fb_rng s
  rw [nI_toInt hi] at q
  rw [Int32.toInt_sub, nI_toInt hj] at q
  rw [fb_bmod (by omega) (by omega)] at q
  omega
theorem XV.cong {v w : Nat → Int32} {N : Int32} (h : XV v N) (e : ∀ i, i < 40 → w i = v i) : XV w N := by
  obtain ⟨n, h1, h2, h3, h4⟩ := h
  refine ⟨n, h1, h2, fun p j hp hj => ?_, fun p hp => ?_⟩
  · rw [e _ (by omega)]; exact h3 p j hp hj
  · rw [e _ (by omega)]; exact h4 p hp
theorem xv_back {u : xU} (h : XV (u.1 4) (u.2 2)) (g : Nat → Int32) : XV ((uR (s_X2_takeFrom_b u) 5 g).1 2) ((uR (s_X2_takeFrom_b u) 5 g).2 1) := by
  refine XV.cong (v := u.1 4) h (fun i hi => ?_)
  show va_cpy (u.1 4) (u.1 2) 0 0 40 i = u.1 4 i
  rw [pk_cpy_in (Nat.zero_le _) (by omega)]
  rw [Nat.sub_zero, Nat.zero_add]
def s_X5_slew (u : xU) (p1 : Int32) (p2 : Int32) : Int64 × xU :=
  if p1 = 0 then
    if (s_X3_isMissing (uS u 0)) = 0 then
      if (s_X5_within p2 0 (u.2 3)) = 0 then
        (xNO, u)
      else
        ((s_X1_slewAt (s_X1_tell 0 u) p2).toInt64, s_X1_tell 0 u)
    else
      (xNO, u)
  else
    if p1 = 1 then
      if (s_X3_isMissing (uS u 1)) = 0 then
        if (s_X5_within p2 0 (u.2 3)) = 0 then
          (xNO, u)
        else
          ((s_X1_slewAt (s_X1_tell 1 u) p2).toInt64, s_X1_tell 1 u)
      else
        (xNO, u)
    else
      if p1 = 2 then
        if (s_X3_isMissing (uS u 2)) = 0 then
          if (s_X5_within p2 0 (u.2 3)) = 0 then
            (xNO, u)
          else
            ((s_X1_slewAt (s_X1_tell 2 u) p2).toInt64, s_X1_tell 2 u)
        else
          (xNO, u)
      else
        if p1 = 3 then
          if (s_X3_isMissing (uS u 3)) = 0 then
            if (s_X5_within p2 0 (u.2 3)) = 0 then
              (xNO, u)
            else
              ((s_X1_slewAt (s_X1_tell 3 u) p2).toInt64, s_X1_tell 3 u)
          else
            (xNO, u)
        else
          (xNO, u)
abbrev rm_X5_slew : Room := { frames := 3, cells := 0, slots := 0, locals := 67 }
set_option maxHeartbeats 8000000 in
set_option maxRecDepth 100000 in
theorem c_X5_slew (l : Launch) (E : xG) (a : Nat → Nat) (u : xU) (p1 : Int32) (p2 : Int32) (hp0 : (u.2 3).toInt < 2147483647) (hL : xOK E (LX a)) : xMd l E yX5_slew wsX5_slew rm_X5_slew (LX a) [.ref (a 0), .int p1, .int p2] (wX E a u) (some (.long ((s_X5_slew u p1 p2).1))) (wX E a ((s_X5_slew u p1 p2).2)) := by
  refine xMd.of (cc := cX5_slew) (maxL := 4) (ret := (some .long)) (by decide) rfl (Nat.le_of_ble_eq_true rfl) ?_
  intro p e s m below meth c ls hAt hF hP hS hl
  obtain ⟨hx, hb, hr, hml, hown, hts, hlocks, -⟩ := hAt
  have hown : s.vm.findClass RX5 = some m.cls := hown
  have hl : lv_has ls 4 [(0, .ref (a 0)), (1, .int p1), (2, .int p2)] := hl
  have hK := hF.1
  have hA := hL.2
  change W p l e rm_X5_slew s m ([.ref (a 0), .int p1, .int p2] : List Value).toArray below meth c s.heap [] 0 0 (xQmd E below (LX a) (some (.long ((s_X5_slew u p1 p2).1))) (wX E a ((s_X5_slew u p1 p2).2)) ([.ref (a 0), .int p1, .int p2] : List Value).toArray s) _
  have hS : va_S (· ∈ LX a) s.heap s.heap [] := hS
  have hR : s_X5_slew u p1 p2 = s_X5_slew u p1 p2 := rfl
  refine lv_aload_n hx hb dX5_slew_0 rfl (lv_at hl 0 rfl) ?_
  refine lv_iload_n hx hb dX5_slew_1 rfl (lv_at hl 1 rfl) ?_
  by_cases t1_0 : p1 = 0
  · have hR := hR.trans (if_pos t1_0)
    refine xRoV (nL := 4) ⟨hx, hb, hml, hown, hts⟩ (c_X5_sheetOf l E a u p1 0 (by decide) t1_0) (cwV 1 hts gX5_slew_X5_sheetOf rfl rfl rfl ⟨rfl, hd_X5_sheetOf⟩ ⟨(Nat.le_of_ble_eq_true rfl), (Nat.le_of_ble_eq_true rfl)⟩) hF hS hA hP (va_recv (q := (RX5, TX5, 9)) hK hP (ci := 5) rfl (q0 := 0) rfl) rfl hl.1 rfl (Nat.le_of_ble_eq_true rfl) ⟨(Nat.le_of_ble_eq_true rfl), (Nat.le_of_ble_eq_true rfl)⟩ dX5_slew_2 ?_
    refine W.eq (g2 := F0 m 5 ls [.ref (a 17)]) rfl ?_
    refine lv_astore_n (lv' := [(3, .ref (a 17)), (0, .ref (a 0)), (1, .int p1), (2, .int p2)]) hx hb dX5_slew_5 rfl hl (by decide) rfl (fun ls hl => ?_)
    refine lv_aload_n hx hb dX5_slew_6 rfl (lv_at hl 0 rfl) ?_
    refine lv_ifnull hx hb dX5_slew_7 ?_
    refine lv_aload_n hx hb dX5_slew_10 rfl (lv_at hl 0 rfl) ?_
    refine xRoV (nL := 4) ⟨hx, hb, hml, hown, hts⟩ (c_X3_isMissing l E (a 17) (a 21) (uS u 0) ) (cwV 0 hts gX5_slew_X3_isMissing rfl rfl rfl ⟨rfl, hd_X3_isMissing⟩ ⟨(Nat.le_of_ble_eq_true rfl), (Nat.le_of_ble_eq_true rfl)⟩) hF hS hA (hP.sub [17, 21] rfl) (va_recv (q := (RX3, TX3, 3)) hK hP (ci := 3) rfl (q0 := 17) rfl) rfl hl.1 rfl (Nat.le_of_ble_eq_true rfl) ⟨(Nat.le_of_ble_eq_true rfl), (Nat.le_of_ble_eq_true rfl)⟩ dX5_slew_11 ?_
    refine W.eq (g2 := F0 m 14 ls [.int (s_X3_isMissing (uS u 0))]) rfl ?_
    refine lv_if_ne (tgt := 32) hx hb dX5_slew_14 rfl (fun q2 => ?_) (fun q2 => ?_)
    · have hR := hR.trans (if_neg q2)
      refine lv_ldc2 (v := xNO) hx hb hown (hts (.constantLong RX5 112 (-9223372036854775808)) (by decide +kernel)) dX5_slew_32 ?_
      have hR : s_X5_slew u p1 p2 = (xNO, u) := hR
      exact W.lret (v := xNO) hx hb hr (fun t ht _ => by rw [hR]; dsimp only; exact ⟨⟨rfl, by rw [ht]; exact hP⟩, hS.F ht⟩) hS.2.2 dX5_slew_35
    · have hR := hR.trans (if_pos q2)
      refine lv_iload_n hx hb dX5_slew_17 rfl (lv_at hl 3 rfl) ?_
      refine lv_iconst (v := 0) hx hb dX5_slew_18 rfl ?_
      refine lv_aload_n hx hb dX5_slew_19 rfl (lv_at hl 1 rfl) ?_
      refine va_get (D := xD E) (ci := 5) (v := .ref (a 7)) (C := RX5) (T := TX5) (N := 9) hx hb hts (by decide +kernel) hown hK hP 0 rfl rfl 4 (by decide) (hts (.fieldLink RX5 41 "RailOffsets" "line" "LRailOffsets$Line;") (by decide +kernel)) (fun _ h => h) rfl dX5_slew_20 ?_
      refine va_get (D := xD E) (ci := 0) (v := .int (u.2 3)) (C := RX0) (T := TX0) (N := 8) hx hb hts (by decide +kernel) hown hK hP 7 rfl rfl 7 (by decide) (hts (.fieldLink RX5 128 "RailOffsets$Line" "stations" "I") (by decide +kernel)) (fun _ h => h) rfl dX5_slew_23 ?_
      refine xRoS (nL := 4) ⟨hx, hb, hml, hown, hts⟩ (c_X5_within l E p2 0 (u.2 3)) (va_cwS 3 hts gX5_slew_X5_within rfl rfl rfl hd_X5_within ⟨(Nat.le_of_ble_eq_true rfl), (Nat.le_of_ble_eq_true rfl)⟩) hF hS hA (hP.sub [] rfl) rfl hl.1 rfl (Nat.le_of_ble_eq_true rfl) ⟨(Nat.le_of_ble_eq_true rfl), (Nat.le_of_ble_eq_true rfl)⟩ dX5_slew_26 ?_
      refine W.eq (g2 := F0 m 29 ls [.int (s_X5_within p2 0 (u.2 3))]) rfl ?_
      refine lv_if_ne (tgt := 36) hx hb dX5_slew_29 rfl (fun q3 => ?_) (fun q3 => ?_)
      · have hR := hR.trans (if_neg q3)
        refine lv_aload_n hx hb dX5_slew_36 rfl (lv_at hl 1 rfl) ?_
        refine va_get (D := xD E) (ci := 5) (v := .ref (a 14)) (C := RX5) (T := TX5) (N := 9) hx hb hts (by decide +kernel) hown hK hP 0 rfl rfl 5 (by decide) (hts (.fieldLink RX5 50 "RailOffsets" "old" "LRailOffsets$OldLine;") (by decide +kernel)) (fun _ h => h) rfl dX5_slew_37 ?_
        refine lv_aload_n hx hb dX5_slew_40 rfl (lv_at hl 0 rfl) ?_
        refine xMdV (nL := 4) ⟨hx, hb, hml, hown, hts⟩ (c_X1_tell l E a u 0 (by decide)  (hp0) hL) (cwV 1 hts gX5_slew_X1_tell rfl rfl rfl ⟨rfl, hd_X1_tell⟩ ⟨(Nat.le_of_ble_eq_true rfl), (Nat.le_of_ble_eq_true rfl)⟩) hF hS hL.2 (fun _ h => h) hP (va_recv (q := (RX1, TX1, 3)) hK hP (ci := 1) rfl (q0 := 14) rfl) rfl hl.1 rfl (Nat.le_of_ble_eq_true rfl) ⟨(Nat.le_of_ble_eq_true rfl), (Nat.le_of_ble_eq_true rfl)⟩ dX5_slew_41 (fun H locs hP _ hS => ?_)
        refine W.eq (g2 := F0 m 44 ls []) rfl ?_
        refine lv_aload_n hx hb dX5_slew_44 rfl (lv_at hl 1 rfl) ?_
        refine va_get (D := xD E) (ci := 5) (v := .ref (a 14)) (C := RX5) (T := TX5) (N := 9) hx hb hts (by decide +kernel) hown hK hP 0 rfl rfl 5 (by decide) (hts (.fieldLink RX5 50 "RailOffsets" "old" "LRailOffsets$OldLine;") (by decide +kernel)) (fun _ h => h) rfl dX5_slew_45 ?_
        refine lv_iload_n hx hb dX5_slew_48 rfl (lv_at hl 3 rfl) ?_
        refine xRoV (nL := 4) ⟨hx, hb, hml, hown, hts⟩ (c_X1_slewAt l E a (s_X1_tell 0 u) p2) (cwV 1 hts gX5_slew_X1_slewAt rfl rfl rfl ⟨rfl, hd_X1_slewAt⟩ ⟨(Nat.le_of_ble_eq_true rfl), (Nat.le_of_ble_eq_true rfl)⟩) hF hS hA hP (va_recv (q := (RX1, TX1, 3)) hK hP (ci := 1) rfl (q0 := 14) rfl) rfl hl.1 rfl (Nat.le_of_ble_eq_true rfl) ⟨(Nat.le_of_ble_eq_true rfl), (Nat.le_of_ble_eq_true rfl)⟩ dX5_slew_49 ?_
        refine W.eq (g2 := F0 m 52 ls [.int (s_X1_slewAt (s_X1_tell 0 u) p2)]) rfl ?_
        refine lv_i2l hx hb dX5_slew_52 rfl ?_
        have hR : s_X5_slew u p1 p2 = ((s_X1_slewAt (s_X1_tell 0 u) p2).toInt64, s_X1_tell 0 u) := hR
        exact W.lret (v := (s_X1_slewAt (s_X1_tell 0 u) p2).toInt64) hx hb hr (fun t ht _ => by rw [hR]; dsimp only; exact ⟨⟨rfl, by rw [ht]; exact hP⟩, hS.F ht⟩) hS.2.2 dX5_slew_53
      · have hR := hR.trans (if_pos q3)
        refine lv_ldc2 (v := xNO) hx hb hown (hts (.constantLong RX5 112 (-9223372036854775808)) (by decide +kernel)) dX5_slew_32 ?_
        have hR : s_X5_slew u p1 p2 = (xNO, u) := hR
        exact W.lret (v := xNO) hx hb hr (fun t ht _ => by rw [hR]; dsimp only; exact ⟨⟨rfl, by rw [ht]; exact hP⟩, hS.F ht⟩) hS.2.2 dX5_slew_35
  have hR := hR.trans (if_neg t1_0)
  by_cases t1_1 : p1 = 1
  · have hR := hR.trans (if_pos t1_1)
    refine xRoV (nL := 4) ⟨hx, hb, hml, hown, hts⟩ (c_X5_sheetOf l E a u p1 1 (by decide) t1_1) (cwV 1 hts gX5_slew_X5_sheetOf rfl rfl rfl ⟨rfl, hd_X5_sheetOf⟩ ⟨(Nat.le_of_ble_eq_true rfl), (Nat.le_of_ble_eq_true rfl)⟩) hF hS hA hP (va_recv (q := (RX5, TX5, 9)) hK hP (ci := 5) rfl (q0 := 0) rfl) rfl hl.1 rfl (Nat.le_of_ble_eq_true rfl) ⟨(Nat.le_of_ble_eq_true rfl), (Nat.le_of_ble_eq_true rfl)⟩ dX5_slew_2 ?_
    refine W.eq (g2 := F0 m 5 ls [.ref (a 18)]) rfl ?_
    refine lv_astore_n (lv' := [(3, .ref (a 18)), (0, .ref (a 0)), (1, .int p1), (2, .int p2)]) hx hb dX5_slew_5 rfl hl (by decide) rfl (fun ls hl => ?_)
    refine lv_aload_n hx hb dX5_slew_6 rfl (lv_at hl 0 rfl) ?_
    refine lv_ifnull hx hb dX5_slew_7 ?_
    refine lv_aload_n hx hb dX5_slew_10 rfl (lv_at hl 0 rfl) ?_
    refine xRoV (nL := 4) ⟨hx, hb, hml, hown, hts⟩ (c_X3_isMissing l E (a 18) (a 22) (uS u 1) ) (cwV 0 hts gX5_slew_X3_isMissing rfl rfl rfl ⟨rfl, hd_X3_isMissing⟩ ⟨(Nat.le_of_ble_eq_true rfl), (Nat.le_of_ble_eq_true rfl)⟩) hF hS hA (hP.sub [18, 22] rfl) (va_recv (q := (RX3, TX3, 3)) hK hP (ci := 3) rfl (q0 := 18) rfl) rfl hl.1 rfl (Nat.le_of_ble_eq_true rfl) ⟨(Nat.le_of_ble_eq_true rfl), (Nat.le_of_ble_eq_true rfl)⟩ dX5_slew_11 ?_
    refine W.eq (g2 := F0 m 14 ls [.int (s_X3_isMissing (uS u 1))]) rfl ?_
    refine lv_if_ne (tgt := 32) hx hb dX5_slew_14 rfl (fun q4 => ?_) (fun q4 => ?_)
    · have hR := hR.trans (if_neg q4)
      refine lv_ldc2 (v := xNO) hx hb hown (hts (.constantLong RX5 112 (-9223372036854775808)) (by decide +kernel)) dX5_slew_32 ?_
      have hR : s_X5_slew u p1 p2 = (xNO, u) := hR
      exact W.lret (v := xNO) hx hb hr (fun t ht _ => by rw [hR]; dsimp only; exact ⟨⟨rfl, by rw [ht]; exact hP⟩, hS.F ht⟩) hS.2.2 dX5_slew_35
    · have hR := hR.trans (if_pos q4)
      refine lv_iload_n hx hb dX5_slew_17 rfl (lv_at hl 3 rfl) ?_
      refine lv_iconst (v := 0) hx hb dX5_slew_18 rfl ?_
      refine lv_aload_n hx hb dX5_slew_19 rfl (lv_at hl 1 rfl) ?_
      refine va_get (D := xD E) (ci := 5) (v := .ref (a 7)) (C := RX5) (T := TX5) (N := 9) hx hb hts (by decide +kernel) hown hK hP 0 rfl rfl 4 (by decide) (hts (.fieldLink RX5 41 "RailOffsets" "line" "LRailOffsets$Line;") (by decide +kernel)) (fun _ h => h) rfl dX5_slew_20 ?_
      refine va_get (D := xD E) (ci := 0) (v := .int (u.2 3)) (C := RX0) (T := TX0) (N := 8) hx hb hts (by decide +kernel) hown hK hP 7 rfl rfl 7 (by decide) (hts (.fieldLink RX5 128 "RailOffsets$Line" "stations" "I") (by decide +kernel)) (fun _ h => h) rfl dX5_slew_23 ?_
      refine xRoS (nL := 4) ⟨hx, hb, hml, hown, hts⟩ (c_X5_within l E p2 0 (u.2 3)) (va_cwS 3 hts gX5_slew_X5_within rfl rfl rfl hd_X5_within ⟨(Nat.le_of_ble_eq_true rfl), (Nat.le_of_ble_eq_true rfl)⟩) hF hS hA (hP.sub [] rfl) rfl hl.1 rfl (Nat.le_of_ble_eq_true rfl) ⟨(Nat.le_of_ble_eq_true rfl), (Nat.le_of_ble_eq_true rfl)⟩ dX5_slew_26 ?_
      refine W.eq (g2 := F0 m 29 ls [.int (s_X5_within p2 0 (u.2 3))]) rfl ?_
      refine lv_if_ne (tgt := 36) hx hb dX5_slew_29 rfl (fun q5 => ?_) (fun q5 => ?_)
      · have hR := hR.trans (if_neg q5)
        refine lv_aload_n hx hb dX5_slew_36 rfl (lv_at hl 1 rfl) ?_
        refine va_get (D := xD E) (ci := 5) (v := .ref (a 14)) (C := RX5) (T := TX5) (N := 9) hx hb hts (by decide +kernel) hown hK hP 0 rfl rfl 5 (by decide) (hts (.fieldLink RX5 50 "RailOffsets" "old" "LRailOffsets$OldLine;") (by decide +kernel)) (fun _ h => h) rfl dX5_slew_37 ?_
        refine lv_aload_n hx hb dX5_slew_40 rfl (lv_at hl 0 rfl) ?_
        refine xMdV (nL := 4) ⟨hx, hb, hml, hown, hts⟩ (c_X1_tell l E a u 1 (by decide)  (hp0) hL) (cwV 1 hts gX5_slew_X1_tell rfl rfl rfl ⟨rfl, hd_X1_tell⟩ ⟨(Nat.le_of_ble_eq_true rfl), (Nat.le_of_ble_eq_true rfl)⟩) hF hS hL.2 (fun _ h => h) hP (va_recv (q := (RX1, TX1, 3)) hK hP (ci := 1) rfl (q0 := 14) rfl) rfl hl.1 rfl (Nat.le_of_ble_eq_true rfl) ⟨(Nat.le_of_ble_eq_true rfl), (Nat.le_of_ble_eq_true rfl)⟩ dX5_slew_41 (fun H locs hP _ hS => ?_)
        refine W.eq (g2 := F0 m 44 ls []) rfl ?_
        refine lv_aload_n hx hb dX5_slew_44 rfl (lv_at hl 1 rfl) ?_
        refine va_get (D := xD E) (ci := 5) (v := .ref (a 14)) (C := RX5) (T := TX5) (N := 9) hx hb hts (by decide +kernel) hown hK hP 0 rfl rfl 5 (by decide) (hts (.fieldLink RX5 50 "RailOffsets" "old" "LRailOffsets$OldLine;") (by decide +kernel)) (fun _ h => h) rfl dX5_slew_45 ?_
        refine lv_iload_n hx hb dX5_slew_48 rfl (lv_at hl 3 rfl) ?_
        refine xRoV (nL := 4) ⟨hx, hb, hml, hown, hts⟩ (c_X1_slewAt l E a (s_X1_tell 1 u) p2) (cwV 1 hts gX5_slew_X1_slewAt rfl rfl rfl ⟨rfl, hd_X1_slewAt⟩ ⟨(Nat.le_of_ble_eq_true rfl), (Nat.le_of_ble_eq_true rfl)⟩) hF hS hA hP (va_recv (q := (RX1, TX1, 3)) hK hP (ci := 1) rfl (q0 := 14) rfl) rfl hl.1 rfl (Nat.le_of_ble_eq_true rfl) ⟨(Nat.le_of_ble_eq_true rfl), (Nat.le_of_ble_eq_true rfl)⟩ dX5_slew_49 ?_
        refine W.eq (g2 := F0 m 52 ls [.int (s_X1_slewAt (s_X1_tell 1 u) p2)]) rfl ?_
        refine lv_i2l hx hb dX5_slew_52 rfl ?_
        have hR : s_X5_slew u p1 p2 = ((s_X1_slewAt (s_X1_tell 1 u) p2).toInt64, s_X1_tell 1 u) := hR
        exact W.lret (v := (s_X1_slewAt (s_X1_tell 1 u) p2).toInt64) hx hb hr (fun t ht _ => by rw [hR]; dsimp only; exact ⟨⟨rfl, by rw [ht]; exact hP⟩, hS.F ht⟩) hS.2.2 dX5_slew_53
      · have hR := hR.trans (if_pos q5)
        refine lv_ldc2 (v := xNO) hx hb hown (hts (.constantLong RX5 112 (-9223372036854775808)) (by decide +kernel)) dX5_slew_32 ?_
        have hR : s_X5_slew u p1 p2 = (xNO, u) := hR
        exact W.lret (v := xNO) hx hb hr (fun t ht _ => by rw [hR]; dsimp only; exact ⟨⟨rfl, by rw [ht]; exact hP⟩, hS.F ht⟩) hS.2.2 dX5_slew_35
  have hR := hR.trans (if_neg t1_1)
  by_cases t1_2 : p1 = 2
  · have hR := hR.trans (if_pos t1_2)
    refine xRoV (nL := 4) ⟨hx, hb, hml, hown, hts⟩ (c_X5_sheetOf l E a u p1 2 (by decide) t1_2) (cwV 1 hts gX5_slew_X5_sheetOf rfl rfl rfl ⟨rfl, hd_X5_sheetOf⟩ ⟨(Nat.le_of_ble_eq_true rfl), (Nat.le_of_ble_eq_true rfl)⟩) hF hS hA hP (va_recv (q := (RX5, TX5, 9)) hK hP (ci := 5) rfl (q0 := 0) rfl) rfl hl.1 rfl (Nat.le_of_ble_eq_true rfl) ⟨(Nat.le_of_ble_eq_true rfl), (Nat.le_of_ble_eq_true rfl)⟩ dX5_slew_2 ?_
    refine W.eq (g2 := F0 m 5 ls [.ref (a 19)]) rfl ?_
    refine lv_astore_n (lv' := [(3, .ref (a 19)), (0, .ref (a 0)), (1, .int p1), (2, .int p2)]) hx hb dX5_slew_5 rfl hl (by decide) rfl (fun ls hl => ?_)
    refine lv_aload_n hx hb dX5_slew_6 rfl (lv_at hl 0 rfl) ?_
    refine lv_ifnull hx hb dX5_slew_7 ?_
    refine lv_aload_n hx hb dX5_slew_10 rfl (lv_at hl 0 rfl) ?_
    refine xRoV (nL := 4) ⟨hx, hb, hml, hown, hts⟩ (c_X3_isMissing l E (a 19) (a 23) (uS u 2) ) (cwV 0 hts gX5_slew_X3_isMissing rfl rfl rfl ⟨rfl, hd_X3_isMissing⟩ ⟨(Nat.le_of_ble_eq_true rfl), (Nat.le_of_ble_eq_true rfl)⟩) hF hS hA (hP.sub [19, 23] rfl) (va_recv (q := (RX3, TX3, 3)) hK hP (ci := 3) rfl (q0 := 19) rfl) rfl hl.1 rfl (Nat.le_of_ble_eq_true rfl) ⟨(Nat.le_of_ble_eq_true rfl), (Nat.le_of_ble_eq_true rfl)⟩ dX5_slew_11 ?_
    refine W.eq (g2 := F0 m 14 ls [.int (s_X3_isMissing (uS u 2))]) rfl ?_
    refine lv_if_ne (tgt := 32) hx hb dX5_slew_14 rfl (fun q6 => ?_) (fun q6 => ?_)
    · have hR := hR.trans (if_neg q6)
      refine lv_ldc2 (v := xNO) hx hb hown (hts (.constantLong RX5 112 (-9223372036854775808)) (by decide +kernel)) dX5_slew_32 ?_
      have hR : s_X5_slew u p1 p2 = (xNO, u) := hR
      exact W.lret (v := xNO) hx hb hr (fun t ht _ => by rw [hR]; dsimp only; exact ⟨⟨rfl, by rw [ht]; exact hP⟩, hS.F ht⟩) hS.2.2 dX5_slew_35
    · have hR := hR.trans (if_pos q6)
      refine lv_iload_n hx hb dX5_slew_17 rfl (lv_at hl 3 rfl) ?_
      refine lv_iconst (v := 0) hx hb dX5_slew_18 rfl ?_
      refine lv_aload_n hx hb dX5_slew_19 rfl (lv_at hl 1 rfl) ?_
      refine va_get (D := xD E) (ci := 5) (v := .ref (a 7)) (C := RX5) (T := TX5) (N := 9) hx hb hts (by decide +kernel) hown hK hP 0 rfl rfl 4 (by decide) (hts (.fieldLink RX5 41 "RailOffsets" "line" "LRailOffsets$Line;") (by decide +kernel)) (fun _ h => h) rfl dX5_slew_20 ?_
      refine va_get (D := xD E) (ci := 0) (v := .int (u.2 3)) (C := RX0) (T := TX0) (N := 8) hx hb hts (by decide +kernel) hown hK hP 7 rfl rfl 7 (by decide) (hts (.fieldLink RX5 128 "RailOffsets$Line" "stations" "I") (by decide +kernel)) (fun _ h => h) rfl dX5_slew_23 ?_
      refine xRoS (nL := 4) ⟨hx, hb, hml, hown, hts⟩ (c_X5_within l E p2 0 (u.2 3)) (va_cwS 3 hts gX5_slew_X5_within rfl rfl rfl hd_X5_within ⟨(Nat.le_of_ble_eq_true rfl), (Nat.le_of_ble_eq_true rfl)⟩) hF hS hA (hP.sub [] rfl) rfl hl.1 rfl (Nat.le_of_ble_eq_true rfl) ⟨(Nat.le_of_ble_eq_true rfl), (Nat.le_of_ble_eq_true rfl)⟩ dX5_slew_26 ?_
      refine W.eq (g2 := F0 m 29 ls [.int (s_X5_within p2 0 (u.2 3))]) rfl ?_
      refine lv_if_ne (tgt := 36) hx hb dX5_slew_29 rfl (fun q7 => ?_) (fun q7 => ?_)
      · have hR := hR.trans (if_neg q7)
        refine lv_aload_n hx hb dX5_slew_36 rfl (lv_at hl 1 rfl) ?_
        refine va_get (D := xD E) (ci := 5) (v := .ref (a 14)) (C := RX5) (T := TX5) (N := 9) hx hb hts (by decide +kernel) hown hK hP 0 rfl rfl 5 (by decide) (hts (.fieldLink RX5 50 "RailOffsets" "old" "LRailOffsets$OldLine;") (by decide +kernel)) (fun _ h => h) rfl dX5_slew_37 ?_
        refine lv_aload_n hx hb dX5_slew_40 rfl (lv_at hl 0 rfl) ?_
        refine xMdV (nL := 4) ⟨hx, hb, hml, hown, hts⟩ (c_X1_tell l E a u 2 (by decide)  (hp0) hL) (cwV 1 hts gX5_slew_X1_tell rfl rfl rfl ⟨rfl, hd_X1_tell⟩ ⟨(Nat.le_of_ble_eq_true rfl), (Nat.le_of_ble_eq_true rfl)⟩) hF hS hL.2 (fun _ h => h) hP (va_recv (q := (RX1, TX1, 3)) hK hP (ci := 1) rfl (q0 := 14) rfl) rfl hl.1 rfl (Nat.le_of_ble_eq_true rfl) ⟨(Nat.le_of_ble_eq_true rfl), (Nat.le_of_ble_eq_true rfl)⟩ dX5_slew_41 (fun H locs hP _ hS => ?_)
        refine W.eq (g2 := F0 m 44 ls []) rfl ?_
        refine lv_aload_n hx hb dX5_slew_44 rfl (lv_at hl 1 rfl) ?_
        refine va_get (D := xD E) (ci := 5) (v := .ref (a 14)) (C := RX5) (T := TX5) (N := 9) hx hb hts (by decide +kernel) hown hK hP 0 rfl rfl 5 (by decide) (hts (.fieldLink RX5 50 "RailOffsets" "old" "LRailOffsets$OldLine;") (by decide +kernel)) (fun _ h => h) rfl dX5_slew_45 ?_
        refine lv_iload_n hx hb dX5_slew_48 rfl (lv_at hl 3 rfl) ?_
        refine xRoV (nL := 4) ⟨hx, hb, hml, hown, hts⟩ (c_X1_slewAt l E a (s_X1_tell 2 u) p2) (cwV 1 hts gX5_slew_X1_slewAt rfl rfl rfl ⟨rfl, hd_X1_slewAt⟩ ⟨(Nat.le_of_ble_eq_true rfl), (Nat.le_of_ble_eq_true rfl)⟩) hF hS hA hP (va_recv (q := (RX1, TX1, 3)) hK hP (ci := 1) rfl (q0 := 14) rfl) rfl hl.1 rfl (Nat.le_of_ble_eq_true rfl) ⟨(Nat.le_of_ble_eq_true rfl), (Nat.le_of_ble_eq_true rfl)⟩ dX5_slew_49 ?_
        refine W.eq (g2 := F0 m 52 ls [.int (s_X1_slewAt (s_X1_tell 2 u) p2)]) rfl ?_
        refine lv_i2l hx hb dX5_slew_52 rfl ?_
        have hR : s_X5_slew u p1 p2 = ((s_X1_slewAt (s_X1_tell 2 u) p2).toInt64, s_X1_tell 2 u) := hR
        exact W.lret (v := (s_X1_slewAt (s_X1_tell 2 u) p2).toInt64) hx hb hr (fun t ht _ => by rw [hR]; dsimp only; exact ⟨⟨rfl, by rw [ht]; exact hP⟩, hS.F ht⟩) hS.2.2 dX5_slew_53
      · have hR := hR.trans (if_pos q7)
        refine lv_ldc2 (v := xNO) hx hb hown (hts (.constantLong RX5 112 (-9223372036854775808)) (by decide +kernel)) dX5_slew_32 ?_
        have hR : s_X5_slew u p1 p2 = (xNO, u) := hR
        exact W.lret (v := xNO) hx hb hr (fun t ht _ => by rw [hR]; dsimp only; exact ⟨⟨rfl, by rw [ht]; exact hP⟩, hS.F ht⟩) hS.2.2 dX5_slew_35
  have hR := hR.trans (if_neg t1_2)
  by_cases t1_3 : p1 = 3
  · have hR := hR.trans (if_pos t1_3)
    refine xRoV (nL := 4) ⟨hx, hb, hml, hown, hts⟩ (c_X5_sheetOf l E a u p1 3 (by decide) t1_3) (cwV 1 hts gX5_slew_X5_sheetOf rfl rfl rfl ⟨rfl, hd_X5_sheetOf⟩ ⟨(Nat.le_of_ble_eq_true rfl), (Nat.le_of_ble_eq_true rfl)⟩) hF hS hA hP (va_recv (q := (RX5, TX5, 9)) hK hP (ci := 5) rfl (q0 := 0) rfl) rfl hl.1 rfl (Nat.le_of_ble_eq_true rfl) ⟨(Nat.le_of_ble_eq_true rfl), (Nat.le_of_ble_eq_true rfl)⟩ dX5_slew_2 ?_
    refine W.eq (g2 := F0 m 5 ls [.ref (a 20)]) rfl ?_
    refine lv_astore_n (lv' := [(3, .ref (a 20)), (0, .ref (a 0)), (1, .int p1), (2, .int p2)]) hx hb dX5_slew_5 rfl hl (by decide) rfl (fun ls hl => ?_)
    refine lv_aload_n hx hb dX5_slew_6 rfl (lv_at hl 0 rfl) ?_
    refine lv_ifnull hx hb dX5_slew_7 ?_
    refine lv_aload_n hx hb dX5_slew_10 rfl (lv_at hl 0 rfl) ?_
    refine xRoV (nL := 4) ⟨hx, hb, hml, hown, hts⟩ (c_X3_isMissing l E (a 20) (a 24) (uS u 3) ) (cwV 0 hts gX5_slew_X3_isMissing rfl rfl rfl ⟨rfl, hd_X3_isMissing⟩ ⟨(Nat.le_of_ble_eq_true rfl), (Nat.le_of_ble_eq_true rfl)⟩) hF hS hA (hP.sub [20, 24] rfl) (va_recv (q := (RX3, TX3, 3)) hK hP (ci := 3) rfl (q0 := 20) rfl) rfl hl.1 rfl (Nat.le_of_ble_eq_true rfl) ⟨(Nat.le_of_ble_eq_true rfl), (Nat.le_of_ble_eq_true rfl)⟩ dX5_slew_11 ?_
    refine W.eq (g2 := F0 m 14 ls [.int (s_X3_isMissing (uS u 3))]) rfl ?_
    refine lv_if_ne (tgt := 32) hx hb dX5_slew_14 rfl (fun q8 => ?_) (fun q8 => ?_)
    · have hR := hR.trans (if_neg q8)
      refine lv_ldc2 (v := xNO) hx hb hown (hts (.constantLong RX5 112 (-9223372036854775808)) (by decide +kernel)) dX5_slew_32 ?_
      have hR : s_X5_slew u p1 p2 = (xNO, u) := hR
      exact W.lret (v := xNO) hx hb hr (fun t ht _ => by rw [hR]; dsimp only; exact ⟨⟨rfl, by rw [ht]; exact hP⟩, hS.F ht⟩) hS.2.2 dX5_slew_35
    · have hR := hR.trans (if_pos q8)
      refine lv_iload_n hx hb dX5_slew_17 rfl (lv_at hl 3 rfl) ?_
      refine lv_iconst (v := 0) hx hb dX5_slew_18 rfl ?_
      refine lv_aload_n hx hb dX5_slew_19 rfl (lv_at hl 1 rfl) ?_
      refine va_get (D := xD E) (ci := 5) (v := .ref (a 7)) (C := RX5) (T := TX5) (N := 9) hx hb hts (by decide +kernel) hown hK hP 0 rfl rfl 4 (by decide) (hts (.fieldLink RX5 41 "RailOffsets" "line" "LRailOffsets$Line;") (by decide +kernel)) (fun _ h => h) rfl dX5_slew_20 ?_
      refine va_get (D := xD E) (ci := 0) (v := .int (u.2 3)) (C := RX0) (T := TX0) (N := 8) hx hb hts (by decide +kernel) hown hK hP 7 rfl rfl 7 (by decide) (hts (.fieldLink RX5 128 "RailOffsets$Line" "stations" "I") (by decide +kernel)) (fun _ h => h) rfl dX5_slew_23 ?_
      refine xRoS (nL := 4) ⟨hx, hb, hml, hown, hts⟩ (c_X5_within l E p2 0 (u.2 3)) (va_cwS 3 hts gX5_slew_X5_within rfl rfl rfl hd_X5_within ⟨(Nat.le_of_ble_eq_true rfl), (Nat.le_of_ble_eq_true rfl)⟩) hF hS hA (hP.sub [] rfl) rfl hl.1 rfl (Nat.le_of_ble_eq_true rfl) ⟨(Nat.le_of_ble_eq_true rfl), (Nat.le_of_ble_eq_true rfl)⟩ dX5_slew_26 ?_
      refine W.eq (g2 := F0 m 29 ls [.int (s_X5_within p2 0 (u.2 3))]) rfl ?_
      refine lv_if_ne (tgt := 36) hx hb dX5_slew_29 rfl (fun q9 => ?_) (fun q9 => ?_)
      · have hR := hR.trans (if_neg q9)
        refine lv_aload_n hx hb dX5_slew_36 rfl (lv_at hl 1 rfl) ?_
        refine va_get (D := xD E) (ci := 5) (v := .ref (a 14)) (C := RX5) (T := TX5) (N := 9) hx hb hts (by decide +kernel) hown hK hP 0 rfl rfl 5 (by decide) (hts (.fieldLink RX5 50 "RailOffsets" "old" "LRailOffsets$OldLine;") (by decide +kernel)) (fun _ h => h) rfl dX5_slew_37 ?_
        refine lv_aload_n hx hb dX5_slew_40 rfl (lv_at hl 0 rfl) ?_
        refine xMdV (nL := 4) ⟨hx, hb, hml, hown, hts⟩ (c_X1_tell l E a u 3 (by decide)  (hp0) hL) (cwV 1 hts gX5_slew_X1_tell rfl rfl rfl ⟨rfl, hd_X1_tell⟩ ⟨(Nat.le_of_ble_eq_true rfl), (Nat.le_of_ble_eq_true rfl)⟩) hF hS hL.2 (fun _ h => h) hP (va_recv (q := (RX1, TX1, 3)) hK hP (ci := 1) rfl (q0 := 14) rfl) rfl hl.1 rfl (Nat.le_of_ble_eq_true rfl) ⟨(Nat.le_of_ble_eq_true rfl), (Nat.le_of_ble_eq_true rfl)⟩ dX5_slew_41 (fun H locs hP _ hS => ?_)
        refine W.eq (g2 := F0 m 44 ls []) rfl ?_
        refine lv_aload_n hx hb dX5_slew_44 rfl (lv_at hl 1 rfl) ?_
        refine va_get (D := xD E) (ci := 5) (v := .ref (a 14)) (C := RX5) (T := TX5) (N := 9) hx hb hts (by decide +kernel) hown hK hP 0 rfl rfl 5 (by decide) (hts (.fieldLink RX5 50 "RailOffsets" "old" "LRailOffsets$OldLine;") (by decide +kernel)) (fun _ h => h) rfl dX5_slew_45 ?_
        refine lv_iload_n hx hb dX5_slew_48 rfl (lv_at hl 3 rfl) ?_
        refine xRoV (nL := 4) ⟨hx, hb, hml, hown, hts⟩ (c_X1_slewAt l E a (s_X1_tell 3 u) p2) (cwV 1 hts gX5_slew_X1_slewAt rfl rfl rfl ⟨rfl, hd_X1_slewAt⟩ ⟨(Nat.le_of_ble_eq_true rfl), (Nat.le_of_ble_eq_true rfl)⟩) hF hS hA hP (va_recv (q := (RX1, TX1, 3)) hK hP (ci := 1) rfl (q0 := 14) rfl) rfl hl.1 rfl (Nat.le_of_ble_eq_true rfl) ⟨(Nat.le_of_ble_eq_true rfl), (Nat.le_of_ble_eq_true rfl)⟩ dX5_slew_49 ?_
        refine W.eq (g2 := F0 m 52 ls [.int (s_X1_slewAt (s_X1_tell 3 u) p2)]) rfl ?_
        refine lv_i2l hx hb dX5_slew_52 rfl ?_
        have hR : s_X5_slew u p1 p2 = ((s_X1_slewAt (s_X1_tell 3 u) p2).toInt64, s_X1_tell 3 u) := hR
        exact W.lret (v := (s_X1_slewAt (s_X1_tell 3 u) p2).toInt64) hx hb hr (fun t ht _ => by rw [hR]; dsimp only; exact ⟨⟨rfl, by rw [ht]; exact hP⟩, hS.F ht⟩) hS.2.2 dX5_slew_53
      · have hR := hR.trans (if_pos q9)
        refine lv_ldc2 (v := xNO) hx hb hown (hts (.constantLong RX5 112 (-9223372036854775808)) (by decide +kernel)) dX5_slew_32 ?_
        have hR : s_X5_slew u p1 p2 = (xNO, u) := hR
        exact W.lret (v := xNO) hx hb hr (fun t ht _ => by rw [hR]; dsimp only; exact ⟨⟨rfl, by rw [ht]; exact hP⟩, hS.F ht⟩) hS.2.2 dX5_slew_35
  have hR := hR.trans (if_neg t1_3)
  refine xRoV (nL := 4) ⟨hx, hb, hml, hown, hts⟩ (c_X5_sheetOf_n l E a u p1 t1_0 t1_1 t1_2 t1_3) (cwV 1 hts gX5_slew_X5_sheetOf rfl rfl rfl ⟨rfl, hd_X5_sheetOf⟩ ⟨(Nat.le_of_ble_eq_true rfl), (Nat.le_of_ble_eq_true rfl)⟩) hF hS hA hP (va_recv (q := (RX5, TX5, 9)) hK hP (ci := 5) rfl (q0 := 0) rfl) rfl hl.1 rfl (Nat.le_of_ble_eq_true rfl) ⟨(Nat.le_of_ble_eq_true rfl), (Nat.le_of_ble_eq_true rfl)⟩ dX5_slew_2 ?_
  refine W.eq (g2 := F0 m 5 ls [.null]) rfl ?_
  refine lv_astore_nN (lv' := [(3, .null), (0, .ref (a 0)), (1, .int p1), (2, .int p2)]) hx hb dX5_slew_5 rfl hl (by decide) rfl (fun ls hl => ?_)
  refine lv_aload_nN hx hb dX5_slew_6 rfl (lv_at hl 0 rfl) ?_
  refine lv_ifnullN (tgt := 32) hx hb dX5_slew_7 rfl ?_
  refine lv_ldc2 (v := xNO) hx hb hown (hts (.constantLong RX5 112 (-9223372036854775808)) (by decide +kernel)) dX5_slew_32 ?_
  have hR : s_X5_slew u p1 p2 = (xNO, u) := hR
  exact W.lret (v := xNO) hx hb hr (fun t ht _ => by rw [hR]; dsimp only; exact ⟨⟨rfl, by rw [ht]; exact hP⟩, hS.F ht⟩) hS.2.2 dX5_slew_35
def s_X5_slews (u : xU) (p1 : Int32) (p2 : Int32) : Int64 × xU :=
  if p1 = 0 then
    if (s_X3_isMissing (uS u 0)) = 0 then
      if p2 = 0 then
        ((s_X1_widest (s_X1_tell 0 u)).toInt64, s_X1_tell 0 u)
      else
        if p2 = 1 then
          (s_X1_together (s_X1_tell 0 u), s_X1_tell 0 u)
        else
          if p2 = 2 then
            ((s_X1_slewAt (s_X1_tell 0 u) ((s_X1_tell 0 u).2 3)).toInt64, s_X1_tell 0 u)
          else
            (xNO, s_X1_tell 0 u)
    else
      (xNO, u)
  else
    if p1 = 1 then
      if (s_X3_isMissing (uS u 1)) = 0 then
        if p2 = 0 then
          ((s_X1_widest (s_X1_tell 1 u)).toInt64, s_X1_tell 1 u)
        else
          if p2 = 1 then
            (s_X1_together (s_X1_tell 1 u), s_X1_tell 1 u)
          else
            if p2 = 2 then
              ((s_X1_slewAt (s_X1_tell 1 u) ((s_X1_tell 1 u).2 3)).toInt64, s_X1_tell 1 u)
            else
              (xNO, s_X1_tell 1 u)
      else
        (xNO, u)
    else
      if p1 = 2 then
        if (s_X3_isMissing (uS u 2)) = 0 then
          if p2 = 0 then
            ((s_X1_widest (s_X1_tell 2 u)).toInt64, s_X1_tell 2 u)
          else
            if p2 = 1 then
              (s_X1_together (s_X1_tell 2 u), s_X1_tell 2 u)
            else
              if p2 = 2 then
                ((s_X1_slewAt (s_X1_tell 2 u) ((s_X1_tell 2 u).2 3)).toInt64, s_X1_tell 2 u)
              else
                (xNO, s_X1_tell 2 u)
        else
          (xNO, u)
      else
        if p1 = 3 then
          if (s_X3_isMissing (uS u 3)) = 0 then
            if p2 = 0 then
              ((s_X1_widest (s_X1_tell 3 u)).toInt64, s_X1_tell 3 u)
            else
              if p2 = 1 then
                (s_X1_together (s_X1_tell 3 u), s_X1_tell 3 u)
              else
                if p2 = 2 then
                  ((s_X1_slewAt (s_X1_tell 3 u) ((s_X1_tell 3 u).2 3)).toInt64, s_X1_tell 3 u)
                else
                  (xNO, s_X1_tell 3 u)
          else
            (xNO, u)
        else
          (xNO, u)
abbrev rm_X5_slews : Room := { frames := 4, cells := 0, slots := 0, locals := 86 }
set_option maxHeartbeats 8000000 in
set_option maxRecDepth 100000 in
theorem c_X5_slews (l : Launch) (E : xG) (a : Nat → Nat) (u : xU) (p1 : Int32) (p2 : Int32) (hp0 : (u.2 3).toInt < 2147483647) (hL : xOK E (LX a)) : xMd l E yX5_slews wsX5_slews rm_X5_slews (LX a) [.ref (a 0), .int p1, .int p2] (wX E a u) (some (.long ((s_X5_slews u p1 p2).1))) (wX E a ((s_X5_slews u p1 p2).2)) := by
  refine xMd.of (cc := cX5_slews) (maxL := 4) (ret := (some .long)) (by decide) rfl (Nat.le_of_ble_eq_true rfl) ?_
  intro p e s m below meth c ls hAt hF hP hS hl
  obtain ⟨hx, hb, hr, hml, hown, hts, hlocks, -⟩ := hAt
  have hown : s.vm.findClass RX5 = some m.cls := hown
  have hl : lv_has ls 4 [(0, .ref (a 0)), (1, .int p1), (2, .int p2)] := hl
  have hK := hF.1
  have hA := hL.2
  change W p l e rm_X5_slews s m ([.ref (a 0), .int p1, .int p2] : List Value).toArray below meth c s.heap [] 0 0 (xQmd E below (LX a) (some (.long ((s_X5_slews u p1 p2).1))) (wX E a ((s_X5_slews u p1 p2).2)) ([.ref (a 0), .int p1, .int p2] : List Value).toArray s) _
  have hS : va_S (· ∈ LX a) s.heap s.heap [] := hS
  have hR : s_X5_slews u p1 p2 = s_X5_slews u p1 p2 := rfl
  refine lv_aload_n hx hb dX5_slews_0 rfl (lv_at hl 0 rfl) ?_
  refine lv_iload_n hx hb dX5_slews_1 rfl (lv_at hl 1 rfl) ?_
  by_cases t1_0 : p1 = 0
  · have hR := hR.trans (if_pos t1_0)
    refine xRoV (nL := 4) ⟨hx, hb, hml, hown, hts⟩ (c_X5_sheetOf l E a u p1 0 (by decide) t1_0) (cwV 1 hts gX5_slews_X5_sheetOf rfl rfl rfl ⟨rfl, hd_X5_sheetOf⟩ ⟨(Nat.le_of_ble_eq_true rfl), (Nat.le_of_ble_eq_true rfl)⟩) hF hS hA hP (va_recv (q := (RX5, TX5, 9)) hK hP (ci := 5) rfl (q0 := 0) rfl) rfl hl.1 rfl (Nat.le_of_ble_eq_true rfl) ⟨(Nat.le_of_ble_eq_true rfl), (Nat.le_of_ble_eq_true rfl)⟩ dX5_slews_2 ?_
    refine W.eq (g2 := F0 m 5 ls [.ref (a 17)]) rfl ?_
    refine lv_astore_n (lv' := [(3, .ref (a 17)), (0, .ref (a 0)), (1, .int p1), (2, .int p2)]) hx hb dX5_slews_5 rfl hl (by decide) rfl (fun ls hl => ?_)
    refine lv_aload_n hx hb dX5_slews_6 rfl (lv_at hl 0 rfl) ?_
    refine lv_ifnull hx hb dX5_slews_7 ?_
    refine lv_aload_n hx hb dX5_slews_10 rfl (lv_at hl 0 rfl) ?_
    refine xRoV (nL := 4) ⟨hx, hb, hml, hown, hts⟩ (c_X3_isMissing l E (a 17) (a 21) (uS u 0) ) (cwV 0 hts gX5_slews_X3_isMissing rfl rfl rfl ⟨rfl, hd_X3_isMissing⟩ ⟨(Nat.le_of_ble_eq_true rfl), (Nat.le_of_ble_eq_true rfl)⟩) hF hS hA (hP.sub [17, 21] rfl) (va_recv (q := (RX3, TX3, 3)) hK hP (ci := 3) rfl (q0 := 17) rfl) rfl hl.1 rfl (Nat.le_of_ble_eq_true rfl) ⟨(Nat.le_of_ble_eq_true rfl), (Nat.le_of_ble_eq_true rfl)⟩ dX5_slews_11 ?_
    refine W.eq (g2 := F0 m 14 ls [.int (s_X3_isMissing (uS u 0))]) rfl ?_
    refine lv_if_eq (tgt := 21) hx hb dX5_slews_14 rfl (fun q2 => ?_) (fun q2 => ?_)
    · have hR := hR.trans (if_pos q2)
      refine lv_aload_n hx hb dX5_slews_21 rfl (lv_at hl 1 rfl) ?_
      refine va_get (D := xD E) (ci := 5) (v := .ref (a 14)) (C := RX5) (T := TX5) (N := 9) hx hb hts (by decide +kernel) hown hK hP 0 rfl rfl 5 (by decide) (hts (.fieldLink RX5 50 "RailOffsets" "old" "LRailOffsets$OldLine;") (by decide +kernel)) (fun _ h => h) rfl dX5_slews_22 ?_
      refine lv_aload_n hx hb dX5_slews_25 rfl (lv_at hl 0 rfl) ?_
      refine xMdV (nL := 4) ⟨hx, hb, hml, hown, hts⟩ (c_X1_tell l E a u 0 (by decide)  (hp0) hL) (cwV 1 hts gX5_slews_X1_tell rfl rfl rfl ⟨rfl, hd_X1_tell⟩ ⟨(Nat.le_of_ble_eq_true rfl), (Nat.le_of_ble_eq_true rfl)⟩) hF hS hL.2 (fun _ h => h) hP (va_recv (q := (RX1, TX1, 3)) hK hP (ci := 1) rfl (q0 := 14) rfl) rfl hl.1 rfl (Nat.le_of_ble_eq_true rfl) ⟨(Nat.le_of_ble_eq_true rfl), (Nat.le_of_ble_eq_true rfl)⟩ dX5_slews_26 (fun H locs hP _ hS => ?_)
      refine W.eq (g2 := F0 m 29 ls []) rfl ?_
      refine lv_iload_n hx hb dX5_slews_29 rfl (lv_at hl 3 rfl) ?_
      by_cases q3 : p2 = 0
      · have hR := hR.trans (if_pos q3)
        refine lv_tableIn (tgt := 56) (off := 26) hx hb dX5_slews_30 (by rw [q3]; decide) (by rw [q3]; decide) (by rw [q3]; rfl) rfl ?_
        refine lv_aload_n hx hb dX5_slews_56 rfl (lv_at hl 1 rfl) ?_
        refine va_get (D := xD E) (ci := 5) (v := .ref (a 14)) (C := RX5) (T := TX5) (N := 9) hx hb hts (by decide +kernel) hown hK hP 0 rfl rfl 5 (by decide) (hts (.fieldLink RX5 50 "RailOffsets" "old" "LRailOffsets$OldLine;") (by decide +kernel)) (fun _ h => h) rfl dX5_slews_57 ?_
        refine xRoV (nL := 4) ⟨hx, hb, hml, hown, hts⟩ (c_X1_widest l E a (s_X1_tell 0 u)  (by rw [(xtell _ u).1]; exact hp0)) (cwV 0 hts gX5_slews_X1_widest rfl rfl rfl ⟨rfl, hd_X1_widest⟩ ⟨(Nat.le_of_ble_eq_true rfl), (Nat.le_of_ble_eq_true rfl)⟩) hF hS hA hP (va_recv (q := (RX1, TX1, 3)) hK hP (ci := 1) rfl (q0 := 14) rfl) rfl hl.1 rfl (Nat.le_of_ble_eq_true rfl) ⟨(Nat.le_of_ble_eq_true rfl), (Nat.le_of_ble_eq_true rfl)⟩ dX5_slews_60 ?_
        refine W.eq (g2 := F0 m 63 ls [.int (s_X1_widest (s_X1_tell 0 u))]) rfl ?_
        refine lv_i2l hx hb dX5_slews_63 rfl ?_
        have hR : s_X5_slews u p1 p2 = ((s_X1_widest (s_X1_tell 0 u)).toInt64, s_X1_tell 0 u) := hR
        exact W.lret (v := (s_X1_widest (s_X1_tell 0 u)).toInt64) hx hb hr (fun t ht _ => by rw [hR]; dsimp only; exact ⟨⟨rfl, by rw [ht]; exact hP⟩, hS.F ht⟩) hS.2.2 dX5_slews_64
      have hR := hR.trans (if_neg q3)
      by_cases q4 : p2 = 1
      · have hR := hR.trans (if_pos q4)
        refine lv_tableIn (tgt := 65) (off := 35) hx hb dX5_slews_30 (by rw [q4]; decide) (by rw [q4]; decide) (by rw [q4]; rfl) rfl ?_
        refine lv_aload_n hx hb dX5_slews_65 rfl (lv_at hl 1 rfl) ?_
        refine va_get (D := xD E) (ci := 5) (v := .ref (a 14)) (C := RX5) (T := TX5) (N := 9) hx hb hts (by decide +kernel) hown hK hP 0 rfl rfl 5 (by decide) (hts (.fieldLink RX5 50 "RailOffsets" "old" "LRailOffsets$OldLine;") (by decide +kernel)) (fun _ h => h) rfl dX5_slews_66 ?_
        refine xRoV (nL := 4) ⟨hx, hb, hml, hown, hts⟩ (c_X1_together l E a (s_X1_tell 0 u)  (by rw [(xtell _ u).1]; exact hp0)) (cwV 0 hts gX5_slews_X1_together rfl rfl rfl ⟨rfl, hd_X1_together⟩ ⟨(Nat.le_of_ble_eq_true rfl), (Nat.le_of_ble_eq_true rfl)⟩) hF hS hA hP (va_recv (q := (RX1, TX1, 3)) hK hP (ci := 1) rfl (q0 := 14) rfl) rfl hl.1 rfl (Nat.le_of_ble_eq_true rfl) ⟨(Nat.le_of_ble_eq_true rfl), (Nat.le_of_ble_eq_true rfl)⟩ dX5_slews_69 ?_
        refine W.eq (g2 := F0 m 72 ls [.long (s_X1_together (s_X1_tell 0 u))]) rfl ?_
        have hR : s_X5_slews u p1 p2 = (s_X1_together (s_X1_tell 0 u), s_X1_tell 0 u) := hR
        exact W.lret (v := s_X1_together (s_X1_tell 0 u)) hx hb hr (fun t ht _ => by rw [hR]; dsimp only; exact ⟨⟨rfl, by rw [ht]; exact hP⟩, hS.F ht⟩) hS.2.2 dX5_slews_72
      have hR := hR.trans (if_neg q4)
      by_cases q5 : p2 = 2
      · have hR := hR.trans (if_pos q5)
        refine lv_tableIn (tgt := 73) (off := 43) hx hb dX5_slews_30 (by rw [q5]; decide) (by rw [q5]; decide) (by rw [q5]; rfl) rfl ?_
        refine lv_aload_n hx hb dX5_slews_73 rfl (lv_at hl 1 rfl) ?_
        refine va_get (D := xD E) (ci := 5) (v := .ref (a 14)) (C := RX5) (T := TX5) (N := 9) hx hb hts (by decide +kernel) hown hK hP 0 rfl rfl 5 (by decide) (hts (.fieldLink RX5 50 "RailOffsets" "old" "LRailOffsets$OldLine;") (by decide +kernel)) (fun _ h => h) rfl dX5_slews_74 ?_
        refine lv_aload_n hx hb dX5_slews_77 rfl (lv_at hl 1 rfl) ?_
        refine va_get (D := xD E) (ci := 5) (v := .ref (a 7)) (C := RX5) (T := TX5) (N := 9) hx hb hts (by decide +kernel) hown hK hP 0 rfl rfl 4 (by decide) (hts (.fieldLink RX5 41 "RailOffsets" "line" "LRailOffsets$Line;") (by decide +kernel)) (fun _ h => h) rfl dX5_slews_78 ?_
        refine va_get (D := xD E) (ci := 0) (v := .int ((s_X1_tell 0 u).2 3)) (C := RX0) (T := TX0) (N := 8) hx hb hts (by decide +kernel) hown hK hP 7 rfl rfl 7 (by decide) (hts (.fieldLink RX5 128 "RailOffsets$Line" "stations" "I") (by decide +kernel)) (fun _ h => h) rfl dX5_slews_81 ?_
        refine xRoV (nL := 4) ⟨hx, hb, hml, hown, hts⟩ (c_X1_slewAt l E a (s_X1_tell 0 u) ((s_X1_tell 0 u).2 3)) (cwV 1 hts gX5_slews_X1_slewAt rfl rfl rfl ⟨rfl, hd_X1_slewAt⟩ ⟨(Nat.le_of_ble_eq_true rfl), (Nat.le_of_ble_eq_true rfl)⟩) hF hS hA hP (va_recv (q := (RX1, TX1, 3)) hK hP (ci := 1) rfl (q0 := 14) rfl) rfl hl.1 rfl (Nat.le_of_ble_eq_true rfl) ⟨(Nat.le_of_ble_eq_true rfl), (Nat.le_of_ble_eq_true rfl)⟩ dX5_slews_84 ?_
        refine W.eq (g2 := F0 m 87 ls [.int (s_X1_slewAt (s_X1_tell 0 u) ((s_X1_tell 0 u).2 3))]) rfl ?_
        refine lv_i2l hx hb dX5_slews_87 rfl ?_
        have hR : s_X5_slews u p1 p2 = ((s_X1_slewAt (s_X1_tell 0 u) ((s_X1_tell 0 u).2 3)).toInt64, s_X1_tell 0 u) := hR
        exact W.lret (v := (s_X1_slewAt (s_X1_tell 0 u) ((s_X1_tell 0 u).2 3)).toInt64) hx hb hr (fun t ht _ => by rw [hR]; dsimp only; exact ⟨⟨rfl, by rw [ht]; exact hP⟩, hS.F ht⟩) hS.2.2 dX5_slews_88
      have hR := hR.trans (if_neg q5)
      refine lv_tableOut (tgt := 89) hx hb dX5_slews_30 (xsw p2 (fun j h1 h2 h3 => by
        have h9 : j = 0 ∨ j = 1 ∨ j = 2 ∨ False := by omega
        rcases h9 with rfl | rfl | rfl | h9
        · exact q3 (Int32.toInt_inj.mp h3)
        · exact q4 (Int32.toInt_inj.mp h3)
        · exact q5 (Int32.toInt_inj.mp h3)
        · exact h9)) rfl ?_
      refine lv_ldc2 (v := xNO) hx hb hown (hts (.constantLong RX5 112 (-9223372036854775808)) (by decide +kernel)) dX5_slews_89 ?_
      have hR : s_X5_slews u p1 p2 = (xNO, s_X1_tell 0 u) := hR
      exact W.lret (v := xNO) hx hb hr (fun t ht _ => by rw [hR]; dsimp only; exact ⟨⟨rfl, by rw [ht]; exact hP⟩, hS.F ht⟩) hS.2.2 dX5_slews_92
    · have hR := hR.trans (if_neg q2)
      refine lv_ldc2 (v := xNO) hx hb hown (hts (.constantLong RX5 112 (-9223372036854775808)) (by decide +kernel)) dX5_slews_17 ?_
      have hR : s_X5_slews u p1 p2 = (xNO, u) := hR
      exact W.lret (v := xNO) hx hb hr (fun t ht _ => by rw [hR]; dsimp only; exact ⟨⟨rfl, by rw [ht]; exact hP⟩, hS.F ht⟩) hS.2.2 dX5_slews_20
  have hR := hR.trans (if_neg t1_0)
  by_cases t1_1 : p1 = 1
  · have hR := hR.trans (if_pos t1_1)
    refine xRoV (nL := 4) ⟨hx, hb, hml, hown, hts⟩ (c_X5_sheetOf l E a u p1 1 (by decide) t1_1) (cwV 1 hts gX5_slews_X5_sheetOf rfl rfl rfl ⟨rfl, hd_X5_sheetOf⟩ ⟨(Nat.le_of_ble_eq_true rfl), (Nat.le_of_ble_eq_true rfl)⟩) hF hS hA hP (va_recv (q := (RX5, TX5, 9)) hK hP (ci := 5) rfl (q0 := 0) rfl) rfl hl.1 rfl (Nat.le_of_ble_eq_true rfl) ⟨(Nat.le_of_ble_eq_true rfl), (Nat.le_of_ble_eq_true rfl)⟩ dX5_slews_2 ?_
    refine W.eq (g2 := F0 m 5 ls [.ref (a 18)]) rfl ?_
    refine lv_astore_n (lv' := [(3, .ref (a 18)), (0, .ref (a 0)), (1, .int p1), (2, .int p2)]) hx hb dX5_slews_5 rfl hl (by decide) rfl (fun ls hl => ?_)
    refine lv_aload_n hx hb dX5_slews_6 rfl (lv_at hl 0 rfl) ?_
    refine lv_ifnull hx hb dX5_slews_7 ?_
    refine lv_aload_n hx hb dX5_slews_10 rfl (lv_at hl 0 rfl) ?_
    refine xRoV (nL := 4) ⟨hx, hb, hml, hown, hts⟩ (c_X3_isMissing l E (a 18) (a 22) (uS u 1) ) (cwV 0 hts gX5_slews_X3_isMissing rfl rfl rfl ⟨rfl, hd_X3_isMissing⟩ ⟨(Nat.le_of_ble_eq_true rfl), (Nat.le_of_ble_eq_true rfl)⟩) hF hS hA (hP.sub [18, 22] rfl) (va_recv (q := (RX3, TX3, 3)) hK hP (ci := 3) rfl (q0 := 18) rfl) rfl hl.1 rfl (Nat.le_of_ble_eq_true rfl) ⟨(Nat.le_of_ble_eq_true rfl), (Nat.le_of_ble_eq_true rfl)⟩ dX5_slews_11 ?_
    refine W.eq (g2 := F0 m 14 ls [.int (s_X3_isMissing (uS u 1))]) rfl ?_
    refine lv_if_eq (tgt := 21) hx hb dX5_slews_14 rfl (fun q6 => ?_) (fun q6 => ?_)
    · have hR := hR.trans (if_pos q6)
      refine lv_aload_n hx hb dX5_slews_21 rfl (lv_at hl 1 rfl) ?_
      refine va_get (D := xD E) (ci := 5) (v := .ref (a 14)) (C := RX5) (T := TX5) (N := 9) hx hb hts (by decide +kernel) hown hK hP 0 rfl rfl 5 (by decide) (hts (.fieldLink RX5 50 "RailOffsets" "old" "LRailOffsets$OldLine;") (by decide +kernel)) (fun _ h => h) rfl dX5_slews_22 ?_
      refine lv_aload_n hx hb dX5_slews_25 rfl (lv_at hl 0 rfl) ?_
      refine xMdV (nL := 4) ⟨hx, hb, hml, hown, hts⟩ (c_X1_tell l E a u 1 (by decide)  (hp0) hL) (cwV 1 hts gX5_slews_X1_tell rfl rfl rfl ⟨rfl, hd_X1_tell⟩ ⟨(Nat.le_of_ble_eq_true rfl), (Nat.le_of_ble_eq_true rfl)⟩) hF hS hL.2 (fun _ h => h) hP (va_recv (q := (RX1, TX1, 3)) hK hP (ci := 1) rfl (q0 := 14) rfl) rfl hl.1 rfl (Nat.le_of_ble_eq_true rfl) ⟨(Nat.le_of_ble_eq_true rfl), (Nat.le_of_ble_eq_true rfl)⟩ dX5_slews_26 (fun H locs hP _ hS => ?_)
      refine W.eq (g2 := F0 m 29 ls []) rfl ?_
      refine lv_iload_n hx hb dX5_slews_29 rfl (lv_at hl 3 rfl) ?_
      by_cases q7 : p2 = 0
      · have hR := hR.trans (if_pos q7)
        refine lv_tableIn (tgt := 56) (off := 26) hx hb dX5_slews_30 (by rw [q7]; decide) (by rw [q7]; decide) (by rw [q7]; rfl) rfl ?_
        refine lv_aload_n hx hb dX5_slews_56 rfl (lv_at hl 1 rfl) ?_
        refine va_get (D := xD E) (ci := 5) (v := .ref (a 14)) (C := RX5) (T := TX5) (N := 9) hx hb hts (by decide +kernel) hown hK hP 0 rfl rfl 5 (by decide) (hts (.fieldLink RX5 50 "RailOffsets" "old" "LRailOffsets$OldLine;") (by decide +kernel)) (fun _ h => h) rfl dX5_slews_57 ?_
        refine xRoV (nL := 4) ⟨hx, hb, hml, hown, hts⟩ (c_X1_widest l E a (s_X1_tell 1 u)  (by rw [(xtell _ u).1]; exact hp0)) (cwV 0 hts gX5_slews_X1_widest rfl rfl rfl ⟨rfl, hd_X1_widest⟩ ⟨(Nat.le_of_ble_eq_true rfl), (Nat.le_of_ble_eq_true rfl)⟩) hF hS hA hP (va_recv (q := (RX1, TX1, 3)) hK hP (ci := 1) rfl (q0 := 14) rfl) rfl hl.1 rfl (Nat.le_of_ble_eq_true rfl) ⟨(Nat.le_of_ble_eq_true rfl), (Nat.le_of_ble_eq_true rfl)⟩ dX5_slews_60 ?_
        refine W.eq (g2 := F0 m 63 ls [.int (s_X1_widest (s_X1_tell 1 u))]) rfl ?_
        refine lv_i2l hx hb dX5_slews_63 rfl ?_
        have hR : s_X5_slews u p1 p2 = ((s_X1_widest (s_X1_tell 1 u)).toInt64, s_X1_tell 1 u) := hR
        exact W.lret (v := (s_X1_widest (s_X1_tell 1 u)).toInt64) hx hb hr (fun t ht _ => by rw [hR]; dsimp only; exact ⟨⟨rfl, by rw [ht]; exact hP⟩, hS.F ht⟩) hS.2.2 dX5_slews_64
      have hR := hR.trans (if_neg q7)
      by_cases q8 : p2 = 1
      · have hR := hR.trans (if_pos q8)
        refine lv_tableIn (tgt := 65) (off := 35) hx hb dX5_slews_30 (by rw [q8]; decide) (by rw [q8]; decide) (by rw [q8]; rfl) rfl ?_
        refine lv_aload_n hx hb dX5_slews_65 rfl (lv_at hl 1 rfl) ?_
        refine va_get (D := xD E) (ci := 5) (v := .ref (a 14)) (C := RX5) (T := TX5) (N := 9) hx hb hts (by decide +kernel) hown hK hP 0 rfl rfl 5 (by decide) (hts (.fieldLink RX5 50 "RailOffsets" "old" "LRailOffsets$OldLine;") (by decide +kernel)) (fun _ h => h) rfl dX5_slews_66 ?_
        refine xRoV (nL := 4) ⟨hx, hb, hml, hown, hts⟩ (c_X1_together l E a (s_X1_tell 1 u)  (by rw [(xtell _ u).1]; exact hp0)) (cwV 0 hts gX5_slews_X1_together rfl rfl rfl ⟨rfl, hd_X1_together⟩ ⟨(Nat.le_of_ble_eq_true rfl), (Nat.le_of_ble_eq_true rfl)⟩) hF hS hA hP (va_recv (q := (RX1, TX1, 3)) hK hP (ci := 1) rfl (q0 := 14) rfl) rfl hl.1 rfl (Nat.le_of_ble_eq_true rfl) ⟨(Nat.le_of_ble_eq_true rfl), (Nat.le_of_ble_eq_true rfl)⟩ dX5_slews_69 ?_
        refine W.eq (g2 := F0 m 72 ls [.long (s_X1_together (s_X1_tell 1 u))]) rfl ?_
        have hR : s_X5_slews u p1 p2 = (s_X1_together (s_X1_tell 1 u), s_X1_tell 1 u) := hR
        exact W.lret (v := s_X1_together (s_X1_tell 1 u)) hx hb hr (fun t ht _ => by rw [hR]; dsimp only; exact ⟨⟨rfl, by rw [ht]; exact hP⟩, hS.F ht⟩) hS.2.2 dX5_slews_72
      have hR := hR.trans (if_neg q8)
      by_cases q9 : p2 = 2
      · have hR := hR.trans (if_pos q9)
        refine lv_tableIn (tgt := 73) (off := 43) hx hb dX5_slews_30 (by rw [q9]; decide) (by rw [q9]; decide) (by rw [q9]; rfl) rfl ?_
        refine lv_aload_n hx hb dX5_slews_73 rfl (lv_at hl 1 rfl) ?_
        refine va_get (D := xD E) (ci := 5) (v := .ref (a 14)) (C := RX5) (T := TX5) (N := 9) hx hb hts (by decide +kernel) hown hK hP 0 rfl rfl 5 (by decide) (hts (.fieldLink RX5 50 "RailOffsets" "old" "LRailOffsets$OldLine;") (by decide +kernel)) (fun _ h => h) rfl dX5_slews_74 ?_
        refine lv_aload_n hx hb dX5_slews_77 rfl (lv_at hl 1 rfl) ?_
        refine va_get (D := xD E) (ci := 5) (v := .ref (a 7)) (C := RX5) (T := TX5) (N := 9) hx hb hts (by decide +kernel) hown hK hP 0 rfl rfl 4 (by decide) (hts (.fieldLink RX5 41 "RailOffsets" "line" "LRailOffsets$Line;") (by decide +kernel)) (fun _ h => h) rfl dX5_slews_78 ?_
        refine va_get (D := xD E) (ci := 0) (v := .int ((s_X1_tell 1 u).2 3)) (C := RX0) (T := TX0) (N := 8) hx hb hts (by decide +kernel) hown hK hP 7 rfl rfl 7 (by decide) (hts (.fieldLink RX5 128 "RailOffsets$Line" "stations" "I") (by decide +kernel)) (fun _ h => h) rfl dX5_slews_81 ?_
        refine xRoV (nL := 4) ⟨hx, hb, hml, hown, hts⟩ (c_X1_slewAt l E a (s_X1_tell 1 u) ((s_X1_tell 1 u).2 3)) (cwV 1 hts gX5_slews_X1_slewAt rfl rfl rfl ⟨rfl, hd_X1_slewAt⟩ ⟨(Nat.le_of_ble_eq_true rfl), (Nat.le_of_ble_eq_true rfl)⟩) hF hS hA hP (va_recv (q := (RX1, TX1, 3)) hK hP (ci := 1) rfl (q0 := 14) rfl) rfl hl.1 rfl (Nat.le_of_ble_eq_true rfl) ⟨(Nat.le_of_ble_eq_true rfl), (Nat.le_of_ble_eq_true rfl)⟩ dX5_slews_84 ?_
        refine W.eq (g2 := F0 m 87 ls [.int (s_X1_slewAt (s_X1_tell 1 u) ((s_X1_tell 1 u).2 3))]) rfl ?_
        refine lv_i2l hx hb dX5_slews_87 rfl ?_
        have hR : s_X5_slews u p1 p2 = ((s_X1_slewAt (s_X1_tell 1 u) ((s_X1_tell 1 u).2 3)).toInt64, s_X1_tell 1 u) := hR
        exact W.lret (v := (s_X1_slewAt (s_X1_tell 1 u) ((s_X1_tell 1 u).2 3)).toInt64) hx hb hr (fun t ht _ => by rw [hR]; dsimp only; exact ⟨⟨rfl, by rw [ht]; exact hP⟩, hS.F ht⟩) hS.2.2 dX5_slews_88
      have hR := hR.trans (if_neg q9)
      refine lv_tableOut (tgt := 89) hx hb dX5_slews_30 (xsw p2 (fun j h1 h2 h3 => by
        have h9 : j = 0 ∨ j = 1 ∨ j = 2 ∨ False := by omega
        rcases h9 with rfl | rfl | rfl | h9
        · exact q7 (Int32.toInt_inj.mp h3)
        · exact q8 (Int32.toInt_inj.mp h3)
        · exact q9 (Int32.toInt_inj.mp h3)
        · exact h9)) rfl ?_
      refine lv_ldc2 (v := xNO) hx hb hown (hts (.constantLong RX5 112 (-9223372036854775808)) (by decide +kernel)) dX5_slews_89 ?_
      have hR : s_X5_slews u p1 p2 = (xNO, s_X1_tell 1 u) := hR
      exact W.lret (v := xNO) hx hb hr (fun t ht _ => by rw [hR]; dsimp only; exact ⟨⟨rfl, by rw [ht]; exact hP⟩, hS.F ht⟩) hS.2.2 dX5_slews_92
    · have hR := hR.trans (if_neg q6)
      refine lv_ldc2 (v := xNO) hx hb hown (hts (.constantLong RX5 112 (-9223372036854775808)) (by decide +kernel)) dX5_slews_17 ?_
      have hR : s_X5_slews u p1 p2 = (xNO, u) := hR
      exact W.lret (v := xNO) hx hb hr (fun t ht _ => by rw [hR]; dsimp only; exact ⟨⟨rfl, by rw [ht]; exact hP⟩, hS.F ht⟩) hS.2.2 dX5_slews_20
  have hR := hR.trans (if_neg t1_1)
  by_cases t1_2 : p1 = 2
  · have hR := hR.trans (if_pos t1_2)
    refine xRoV (nL := 4) ⟨hx, hb, hml, hown, hts⟩ (c_X5_sheetOf l E a u p1 2 (by decide) t1_2) (cwV 1 hts gX5_slews_X5_sheetOf rfl rfl rfl ⟨rfl, hd_X5_sheetOf⟩ ⟨(Nat.le_of_ble_eq_true rfl), (Nat.le_of_ble_eq_true rfl)⟩) hF hS hA hP (va_recv (q := (RX5, TX5, 9)) hK hP (ci := 5) rfl (q0 := 0) rfl) rfl hl.1 rfl (Nat.le_of_ble_eq_true rfl) ⟨(Nat.le_of_ble_eq_true rfl), (Nat.le_of_ble_eq_true rfl)⟩ dX5_slews_2 ?_
    refine W.eq (g2 := F0 m 5 ls [.ref (a 19)]) rfl ?_
    refine lv_astore_n (lv' := [(3, .ref (a 19)), (0, .ref (a 0)), (1, .int p1), (2, .int p2)]) hx hb dX5_slews_5 rfl hl (by decide) rfl (fun ls hl => ?_)
    refine lv_aload_n hx hb dX5_slews_6 rfl (lv_at hl 0 rfl) ?_
    refine lv_ifnull hx hb dX5_slews_7 ?_
    refine lv_aload_n hx hb dX5_slews_10 rfl (lv_at hl 0 rfl) ?_
    refine xRoV (nL := 4) ⟨hx, hb, hml, hown, hts⟩ (c_X3_isMissing l E (a 19) (a 23) (uS u 2) ) (cwV 0 hts gX5_slews_X3_isMissing rfl rfl rfl ⟨rfl, hd_X3_isMissing⟩ ⟨(Nat.le_of_ble_eq_true rfl), (Nat.le_of_ble_eq_true rfl)⟩) hF hS hA (hP.sub [19, 23] rfl) (va_recv (q := (RX3, TX3, 3)) hK hP (ci := 3) rfl (q0 := 19) rfl) rfl hl.1 rfl (Nat.le_of_ble_eq_true rfl) ⟨(Nat.le_of_ble_eq_true rfl), (Nat.le_of_ble_eq_true rfl)⟩ dX5_slews_11 ?_
    refine W.eq (g2 := F0 m 14 ls [.int (s_X3_isMissing (uS u 2))]) rfl ?_
    refine lv_if_eq (tgt := 21) hx hb dX5_slews_14 rfl (fun q10 => ?_) (fun q10 => ?_)
    · have hR := hR.trans (if_pos q10)
      refine lv_aload_n hx hb dX5_slews_21 rfl (lv_at hl 1 rfl) ?_
      refine va_get (D := xD E) (ci := 5) (v := .ref (a 14)) (C := RX5) (T := TX5) (N := 9) hx hb hts (by decide +kernel) hown hK hP 0 rfl rfl 5 (by decide) (hts (.fieldLink RX5 50 "RailOffsets" "old" "LRailOffsets$OldLine;") (by decide +kernel)) (fun _ h => h) rfl dX5_slews_22 ?_
      refine lv_aload_n hx hb dX5_slews_25 rfl (lv_at hl 0 rfl) ?_
      refine xMdV (nL := 4) ⟨hx, hb, hml, hown, hts⟩ (c_X1_tell l E a u 2 (by decide)  (hp0) hL) (cwV 1 hts gX5_slews_X1_tell rfl rfl rfl ⟨rfl, hd_X1_tell⟩ ⟨(Nat.le_of_ble_eq_true rfl), (Nat.le_of_ble_eq_true rfl)⟩) hF hS hL.2 (fun _ h => h) hP (va_recv (q := (RX1, TX1, 3)) hK hP (ci := 1) rfl (q0 := 14) rfl) rfl hl.1 rfl (Nat.le_of_ble_eq_true rfl) ⟨(Nat.le_of_ble_eq_true rfl), (Nat.le_of_ble_eq_true rfl)⟩ dX5_slews_26 (fun H locs hP _ hS => ?_)
      refine W.eq (g2 := F0 m 29 ls []) rfl ?_
      refine lv_iload_n hx hb dX5_slews_29 rfl (lv_at hl 3 rfl) ?_
      by_cases q11 : p2 = 0
      · have hR := hR.trans (if_pos q11)
        refine lv_tableIn (tgt := 56) (off := 26) hx hb dX5_slews_30 (by rw [q11]; decide) (by rw [q11]; decide) (by rw [q11]; rfl) rfl ?_
        refine lv_aload_n hx hb dX5_slews_56 rfl (lv_at hl 1 rfl) ?_
        refine va_get (D := xD E) (ci := 5) (v := .ref (a 14)) (C := RX5) (T := TX5) (N := 9) hx hb hts (by decide +kernel) hown hK hP 0 rfl rfl 5 (by decide) (hts (.fieldLink RX5 50 "RailOffsets" "old" "LRailOffsets$OldLine;") (by decide +kernel)) (fun _ h => h) rfl dX5_slews_57 ?_
        refine xRoV (nL := 4) ⟨hx, hb, hml, hown, hts⟩ (c_X1_widest l E a (s_X1_tell 2 u)  (by rw [(xtell _ u).1]; exact hp0)) (cwV 0 hts gX5_slews_X1_widest rfl rfl rfl ⟨rfl, hd_X1_widest⟩ ⟨(Nat.le_of_ble_eq_true rfl), (Nat.le_of_ble_eq_true rfl)⟩) hF hS hA hP (va_recv (q := (RX1, TX1, 3)) hK hP (ci := 1) rfl (q0 := 14) rfl) rfl hl.1 rfl (Nat.le_of_ble_eq_true rfl) ⟨(Nat.le_of_ble_eq_true rfl), (Nat.le_of_ble_eq_true rfl)⟩ dX5_slews_60 ?_
        refine W.eq (g2 := F0 m 63 ls [.int (s_X1_widest (s_X1_tell 2 u))]) rfl ?_
        refine lv_i2l hx hb dX5_slews_63 rfl ?_
        have hR : s_X5_slews u p1 p2 = ((s_X1_widest (s_X1_tell 2 u)).toInt64, s_X1_tell 2 u) := hR
        exact W.lret (v := (s_X1_widest (s_X1_tell 2 u)).toInt64) hx hb hr (fun t ht _ => by rw [hR]; dsimp only; exact ⟨⟨rfl, by rw [ht]; exact hP⟩, hS.F ht⟩) hS.2.2 dX5_slews_64
      have hR := hR.trans (if_neg q11)
      by_cases q12 : p2 = 1
      · have hR := hR.trans (if_pos q12)
        refine lv_tableIn (tgt := 65) (off := 35) hx hb dX5_slews_30 (by rw [q12]; decide) (by rw [q12]; decide) (by rw [q12]; rfl) rfl ?_
        refine lv_aload_n hx hb dX5_slews_65 rfl (lv_at hl 1 rfl) ?_
        refine va_get (D := xD E) (ci := 5) (v := .ref (a 14)) (C := RX5) (T := TX5) (N := 9) hx hb hts (by decide +kernel) hown hK hP 0 rfl rfl 5 (by decide) (hts (.fieldLink RX5 50 "RailOffsets" "old" "LRailOffsets$OldLine;") (by decide +kernel)) (fun _ h => h) rfl dX5_slews_66 ?_
        refine xRoV (nL := 4) ⟨hx, hb, hml, hown, hts⟩ (c_X1_together l E a (s_X1_tell 2 u)  (by rw [(xtell _ u).1]; exact hp0)) (cwV 0 hts gX5_slews_X1_together rfl rfl rfl ⟨rfl, hd_X1_together⟩ ⟨(Nat.le_of_ble_eq_true rfl), (Nat.le_of_ble_eq_true rfl)⟩) hF hS hA hP (va_recv (q := (RX1, TX1, 3)) hK hP (ci := 1) rfl (q0 := 14) rfl) rfl hl.1 rfl (Nat.le_of_ble_eq_true rfl) ⟨(Nat.le_of_ble_eq_true rfl), (Nat.le_of_ble_eq_true rfl)⟩ dX5_slews_69 ?_
        refine W.eq (g2 := F0 m 72 ls [.long (s_X1_together (s_X1_tell 2 u))]) rfl ?_
        have hR : s_X5_slews u p1 p2 = (s_X1_together (s_X1_tell 2 u), s_X1_tell 2 u) := hR
        exact W.lret (v := s_X1_together (s_X1_tell 2 u)) hx hb hr (fun t ht _ => by rw [hR]; dsimp only; exact ⟨⟨rfl, by rw [ht]; exact hP⟩, hS.F ht⟩) hS.2.2 dX5_slews_72
      have hR := hR.trans (if_neg q12)
      by_cases q13 : p2 = 2
      · have hR := hR.trans (if_pos q13)
        refine lv_tableIn (tgt := 73) (off := 43) hx hb dX5_slews_30 (by rw [q13]; decide) (by rw [q13]; decide) (by rw [q13]; rfl) rfl ?_
        refine lv_aload_n hx hb dX5_slews_73 rfl (lv_at hl 1 rfl) ?_
        refine va_get (D := xD E) (ci := 5) (v := .ref (a 14)) (C := RX5) (T := TX5) (N := 9) hx hb hts (by decide +kernel) hown hK hP 0 rfl rfl 5 (by decide) (hts (.fieldLink RX5 50 "RailOffsets" "old" "LRailOffsets$OldLine;") (by decide +kernel)) (fun _ h => h) rfl dX5_slews_74 ?_
        refine lv_aload_n hx hb dX5_slews_77 rfl (lv_at hl 1 rfl) ?_
        refine va_get (D := xD E) (ci := 5) (v := .ref (a 7)) (C := RX5) (T := TX5) (N := 9) hx hb hts (by decide +kernel) hown hK hP 0 rfl rfl 4 (by decide) (hts (.fieldLink RX5 41 "RailOffsets" "line" "LRailOffsets$Line;") (by decide +kernel)) (fun _ h => h) rfl dX5_slews_78 ?_
        refine va_get (D := xD E) (ci := 0) (v := .int ((s_X1_tell 2 u).2 3)) (C := RX0) (T := TX0) (N := 8) hx hb hts (by decide +kernel) hown hK hP 7 rfl rfl 7 (by decide) (hts (.fieldLink RX5 128 "RailOffsets$Line" "stations" "I") (by decide +kernel)) (fun _ h => h) rfl dX5_slews_81 ?_
        refine xRoV (nL := 4) ⟨hx, hb, hml, hown, hts⟩ (c_X1_slewAt l E a (s_X1_tell 2 u) ((s_X1_tell 2 u).2 3)) (cwV 1 hts gX5_slews_X1_slewAt rfl rfl rfl ⟨rfl, hd_X1_slewAt⟩ ⟨(Nat.le_of_ble_eq_true rfl), (Nat.le_of_ble_eq_true rfl)⟩) hF hS hA hP (va_recv (q := (RX1, TX1, 3)) hK hP (ci := 1) rfl (q0 := 14) rfl) rfl hl.1 rfl (Nat.le_of_ble_eq_true rfl) ⟨(Nat.le_of_ble_eq_true rfl), (Nat.le_of_ble_eq_true rfl)⟩ dX5_slews_84 ?_
        refine W.eq (g2 := F0 m 87 ls [.int (s_X1_slewAt (s_X1_tell 2 u) ((s_X1_tell 2 u).2 3))]) rfl ?_
        refine lv_i2l hx hb dX5_slews_87 rfl ?_
        have hR : s_X5_slews u p1 p2 = ((s_X1_slewAt (s_X1_tell 2 u) ((s_X1_tell 2 u).2 3)).toInt64, s_X1_tell 2 u) := hR
        exact W.lret (v := (s_X1_slewAt (s_X1_tell 2 u) ((s_X1_tell 2 u).2 3)).toInt64) hx hb hr (fun t ht _ => by rw [hR]; dsimp only; exact ⟨⟨rfl, by rw [ht]; exact hP⟩, hS.F ht⟩) hS.2.2 dX5_slews_88
      have hR := hR.trans (if_neg q13)
      refine lv_tableOut (tgt := 89) hx hb dX5_slews_30 (xsw p2 (fun j h1 h2 h3 => by
        have h9 : j = 0 ∨ j = 1 ∨ j = 2 ∨ False := by omega
        rcases h9 with rfl | rfl | rfl | h9
        · exact q11 (Int32.toInt_inj.mp h3)
        · exact q12 (Int32.toInt_inj.mp h3)
        · exact q13 (Int32.toInt_inj.mp h3)
        · exact h9)) rfl ?_
      refine lv_ldc2 (v := xNO) hx hb hown (hts (.constantLong RX5 112 (-9223372036854775808)) (by decide +kernel)) dX5_slews_89 ?_
      have hR : s_X5_slews u p1 p2 = (xNO, s_X1_tell 2 u) := hR
      exact W.lret (v := xNO) hx hb hr (fun t ht _ => by rw [hR]; dsimp only; exact ⟨⟨rfl, by rw [ht]; exact hP⟩, hS.F ht⟩) hS.2.2 dX5_slews_92
    · have hR := hR.trans (if_neg q10)
      refine lv_ldc2 (v := xNO) hx hb hown (hts (.constantLong RX5 112 (-9223372036854775808)) (by decide +kernel)) dX5_slews_17 ?_
      have hR : s_X5_slews u p1 p2 = (xNO, u) := hR
      exact W.lret (v := xNO) hx hb hr (fun t ht _ => by rw [hR]; dsimp only; exact ⟨⟨rfl, by rw [ht]; exact hP⟩, hS.F ht⟩) hS.2.2 dX5_slews_20
  have hR := hR.trans (if_neg t1_2)
  by_cases t1_3 : p1 = 3
  · have hR := hR.trans (if_pos t1_3)
    refine xRoV (nL := 4) ⟨hx, hb, hml, hown, hts⟩ (c_X5_sheetOf l E a u p1 3 (by decide) t1_3) (cwV 1 hts gX5_slews_X5_sheetOf rfl rfl rfl ⟨rfl, hd_X5_sheetOf⟩ ⟨(Nat.le_of_ble_eq_true rfl), (Nat.le_of_ble_eq_true rfl)⟩) hF hS hA hP (va_recv (q := (RX5, TX5, 9)) hK hP (ci := 5) rfl (q0 := 0) rfl) rfl hl.1 rfl (Nat.le_of_ble_eq_true rfl) ⟨(Nat.le_of_ble_eq_true rfl), (Nat.le_of_ble_eq_true rfl)⟩ dX5_slews_2 ?_
    refine W.eq (g2 := F0 m 5 ls [.ref (a 20)]) rfl ?_
    refine lv_astore_n (lv' := [(3, .ref (a 20)), (0, .ref (a 0)), (1, .int p1), (2, .int p2)]) hx hb dX5_slews_5 rfl hl (by decide) rfl (fun ls hl => ?_)
    refine lv_aload_n hx hb dX5_slews_6 rfl (lv_at hl 0 rfl) ?_
    refine lv_ifnull hx hb dX5_slews_7 ?_
    refine lv_aload_n hx hb dX5_slews_10 rfl (lv_at hl 0 rfl) ?_
    refine xRoV (nL := 4) ⟨hx, hb, hml, hown, hts⟩ (c_X3_isMissing l E (a 20) (a 24) (uS u 3) ) (cwV 0 hts gX5_slews_X3_isMissing rfl rfl rfl ⟨rfl, hd_X3_isMissing⟩ ⟨(Nat.le_of_ble_eq_true rfl), (Nat.le_of_ble_eq_true rfl)⟩) hF hS hA (hP.sub [20, 24] rfl) (va_recv (q := (RX3, TX3, 3)) hK hP (ci := 3) rfl (q0 := 20) rfl) rfl hl.1 rfl (Nat.le_of_ble_eq_true rfl) ⟨(Nat.le_of_ble_eq_true rfl), (Nat.le_of_ble_eq_true rfl)⟩ dX5_slews_11 ?_
    refine W.eq (g2 := F0 m 14 ls [.int (s_X3_isMissing (uS u 3))]) rfl ?_
    refine lv_if_eq (tgt := 21) hx hb dX5_slews_14 rfl (fun q14 => ?_) (fun q14 => ?_)
    · have hR := hR.trans (if_pos q14)
      refine lv_aload_n hx hb dX5_slews_21 rfl (lv_at hl 1 rfl) ?_
      refine va_get (D := xD E) (ci := 5) (v := .ref (a 14)) (C := RX5) (T := TX5) (N := 9) hx hb hts (by decide +kernel) hown hK hP 0 rfl rfl 5 (by decide) (hts (.fieldLink RX5 50 "RailOffsets" "old" "LRailOffsets$OldLine;") (by decide +kernel)) (fun _ h => h) rfl dX5_slews_22 ?_
      refine lv_aload_n hx hb dX5_slews_25 rfl (lv_at hl 0 rfl) ?_
      refine xMdV (nL := 4) ⟨hx, hb, hml, hown, hts⟩ (c_X1_tell l E a u 3 (by decide)  (hp0) hL) (cwV 1 hts gX5_slews_X1_tell rfl rfl rfl ⟨rfl, hd_X1_tell⟩ ⟨(Nat.le_of_ble_eq_true rfl), (Nat.le_of_ble_eq_true rfl)⟩) hF hS hL.2 (fun _ h => h) hP (va_recv (q := (RX1, TX1, 3)) hK hP (ci := 1) rfl (q0 := 14) rfl) rfl hl.1 rfl (Nat.le_of_ble_eq_true rfl) ⟨(Nat.le_of_ble_eq_true rfl), (Nat.le_of_ble_eq_true rfl)⟩ dX5_slews_26 (fun H locs hP _ hS => ?_)
      refine W.eq (g2 := F0 m 29 ls []) rfl ?_
      refine lv_iload_n hx hb dX5_slews_29 rfl (lv_at hl 3 rfl) ?_
      by_cases q15 : p2 = 0
      · have hR := hR.trans (if_pos q15)
        refine lv_tableIn (tgt := 56) (off := 26) hx hb dX5_slews_30 (by rw [q15]; decide) (by rw [q15]; decide) (by rw [q15]; rfl) rfl ?_
        refine lv_aload_n hx hb dX5_slews_56 rfl (lv_at hl 1 rfl) ?_
        refine va_get (D := xD E) (ci := 5) (v := .ref (a 14)) (C := RX5) (T := TX5) (N := 9) hx hb hts (by decide +kernel) hown hK hP 0 rfl rfl 5 (by decide) (hts (.fieldLink RX5 50 "RailOffsets" "old" "LRailOffsets$OldLine;") (by decide +kernel)) (fun _ h => h) rfl dX5_slews_57 ?_
        refine xRoV (nL := 4) ⟨hx, hb, hml, hown, hts⟩ (c_X1_widest l E a (s_X1_tell 3 u)  (by rw [(xtell _ u).1]; exact hp0)) (cwV 0 hts gX5_slews_X1_widest rfl rfl rfl ⟨rfl, hd_X1_widest⟩ ⟨(Nat.le_of_ble_eq_true rfl), (Nat.le_of_ble_eq_true rfl)⟩) hF hS hA hP (va_recv (q := (RX1, TX1, 3)) hK hP (ci := 1) rfl (q0 := 14) rfl) rfl hl.1 rfl (Nat.le_of_ble_eq_true rfl) ⟨(Nat.le_of_ble_eq_true rfl), (Nat.le_of_ble_eq_true rfl)⟩ dX5_slews_60 ?_
        refine W.eq (g2 := F0 m 63 ls [.int (s_X1_widest (s_X1_tell 3 u))]) rfl ?_
        refine lv_i2l hx hb dX5_slews_63 rfl ?_
        have hR : s_X5_slews u p1 p2 = ((s_X1_widest (s_X1_tell 3 u)).toInt64, s_X1_tell 3 u) := hR
        exact W.lret (v := (s_X1_widest (s_X1_tell 3 u)).toInt64) hx hb hr (fun t ht _ => by rw [hR]; dsimp only; exact ⟨⟨rfl, by rw [ht]; exact hP⟩, hS.F ht⟩) hS.2.2 dX5_slews_64
      have hR := hR.trans (if_neg q15)
      by_cases q16 : p2 = 1
      · have hR := hR.trans (if_pos q16)
        refine lv_tableIn (tgt := 65) (off := 35) hx hb dX5_slews_30 (by rw [q16]; decide) (by rw [q16]; decide) (by rw [q16]; rfl) rfl ?_
        refine lv_aload_n hx hb dX5_slews_65 rfl (lv_at hl 1 rfl) ?_
        refine va_get (D := xD E) (ci := 5) (v := .ref (a 14)) (C := RX5) (T := TX5) (N := 9) hx hb hts (by decide +kernel) hown hK hP 0 rfl rfl 5 (by decide) (hts (.fieldLink RX5 50 "RailOffsets" "old" "LRailOffsets$OldLine;") (by decide +kernel)) (fun _ h => h) rfl dX5_slews_66 ?_
        refine xRoV (nL := 4) ⟨hx, hb, hml, hown, hts⟩ (c_X1_together l E a (s_X1_tell 3 u)  (by rw [(xtell _ u).1]; exact hp0)) (cwV 0 hts gX5_slews_X1_together rfl rfl rfl ⟨rfl, hd_X1_together⟩ ⟨(Nat.le_of_ble_eq_true rfl), (Nat.le_of_ble_eq_true rfl)⟩) hF hS hA hP (va_recv (q := (RX1, TX1, 3)) hK hP (ci := 1) rfl (q0 := 14) rfl) rfl hl.1 rfl (Nat.le_of_ble_eq_true rfl) ⟨(Nat.le_of_ble_eq_true rfl), (Nat.le_of_ble_eq_true rfl)⟩ dX5_slews_69 ?_
        refine W.eq (g2 := F0 m 72 ls [.long (s_X1_together (s_X1_tell 3 u))]) rfl ?_
        have hR : s_X5_slews u p1 p2 = (s_X1_together (s_X1_tell 3 u), s_X1_tell 3 u) := hR
        exact W.lret (v := s_X1_together (s_X1_tell 3 u)) hx hb hr (fun t ht _ => by rw [hR]; dsimp only; exact ⟨⟨rfl, by rw [ht]; exact hP⟩, hS.F ht⟩) hS.2.2 dX5_slews_72
      have hR := hR.trans (if_neg q16)
      by_cases q17 : p2 = 2
      · have hR := hR.trans (if_pos q17)
        refine lv_tableIn (tgt := 73) (off := 43) hx hb dX5_slews_30 (by rw [q17]; decide) (by rw [q17]; decide) (by rw [q17]; rfl) rfl ?_
        refine lv_aload_n hx hb dX5_slews_73 rfl (lv_at hl 1 rfl) ?_
        refine va_get (D := xD E) (ci := 5) (v := .ref (a 14)) (C := RX5) (T := TX5) (N := 9) hx hb hts (by decide +kernel) hown hK hP 0 rfl rfl 5 (by decide) (hts (.fieldLink RX5 50 "RailOffsets" "old" "LRailOffsets$OldLine;") (by decide +kernel)) (fun _ h => h) rfl dX5_slews_74 ?_
        refine lv_aload_n hx hb dX5_slews_77 rfl (lv_at hl 1 rfl) ?_
        refine va_get (D := xD E) (ci := 5) (v := .ref (a 7)) (C := RX5) (T := TX5) (N := 9) hx hb hts (by decide +kernel) hown hK hP 0 rfl rfl 4 (by decide) (hts (.fieldLink RX5 41 "RailOffsets" "line" "LRailOffsets$Line;") (by decide +kernel)) (fun _ h => h) rfl dX5_slews_78 ?_
        refine va_get (D := xD E) (ci := 0) (v := .int ((s_X1_tell 3 u).2 3)) (C := RX0) (T := TX0) (N := 8) hx hb hts (by decide +kernel) hown hK hP 7 rfl rfl 7 (by decide) (hts (.fieldLink RX5 128 "RailOffsets$Line" "stations" "I") (by decide +kernel)) (fun _ h => h) rfl dX5_slews_81 ?_
        refine xRoV (nL := 4) ⟨hx, hb, hml, hown, hts⟩ (c_X1_slewAt l E a (s_X1_tell 3 u) ((s_X1_tell 3 u).2 3)) (cwV 1 hts gX5_slews_X1_slewAt rfl rfl rfl ⟨rfl, hd_X1_slewAt⟩ ⟨(Nat.le_of_ble_eq_true rfl), (Nat.le_of_ble_eq_true rfl)⟩) hF hS hA hP (va_recv (q := (RX1, TX1, 3)) hK hP (ci := 1) rfl (q0 := 14) rfl) rfl hl.1 rfl (Nat.le_of_ble_eq_true rfl) ⟨(Nat.le_of_ble_eq_true rfl), (Nat.le_of_ble_eq_true rfl)⟩ dX5_slews_84 ?_
        refine W.eq (g2 := F0 m 87 ls [.int (s_X1_slewAt (s_X1_tell 3 u) ((s_X1_tell 3 u).2 3))]) rfl ?_
        refine lv_i2l hx hb dX5_slews_87 rfl ?_
        have hR : s_X5_slews u p1 p2 = ((s_X1_slewAt (s_X1_tell 3 u) ((s_X1_tell 3 u).2 3)).toInt64, s_X1_tell 3 u) := hR
        exact W.lret (v := (s_X1_slewAt (s_X1_tell 3 u) ((s_X1_tell 3 u).2 3)).toInt64) hx hb hr (fun t ht _ => by rw [hR]; dsimp only; exact ⟨⟨rfl, by rw [ht]; exact hP⟩, hS.F ht⟩) hS.2.2 dX5_slews_88
      have hR := hR.trans (if_neg q17)
      refine lv_tableOut (tgt := 89) hx hb dX5_slews_30 (xsw p2 (fun j h1 h2 h3 => by
        have h9 : j = 0 ∨ j = 1 ∨ j = 2 ∨ False := by omega
        rcases h9 with rfl | rfl | rfl | h9
        · exact q15 (Int32.toInt_inj.mp h3)
        · exact q16 (Int32.toInt_inj.mp h3)
        · exact q17 (Int32.toInt_inj.mp h3)
        · exact h9)) rfl ?_
      refine lv_ldc2 (v := xNO) hx hb hown (hts (.constantLong RX5 112 (-9223372036854775808)) (by decide +kernel)) dX5_slews_89 ?_
      have hR : s_X5_slews u p1 p2 = (xNO, s_X1_tell 3 u) := hR
      exact W.lret (v := xNO) hx hb hr (fun t ht _ => by rw [hR]; dsimp only; exact ⟨⟨rfl, by rw [ht]; exact hP⟩, hS.F ht⟩) hS.2.2 dX5_slews_92
    · have hR := hR.trans (if_neg q14)
      refine lv_ldc2 (v := xNO) hx hb hown (hts (.constantLong RX5 112 (-9223372036854775808)) (by decide +kernel)) dX5_slews_17 ?_
      have hR : s_X5_slews u p1 p2 = (xNO, u) := hR
      exact W.lret (v := xNO) hx hb hr (fun t ht _ => by rw [hR]; dsimp only; exact ⟨⟨rfl, by rw [ht]; exact hP⟩, hS.F ht⟩) hS.2.2 dX5_slews_20
  have hR := hR.trans (if_neg t1_3)
  refine xRoV (nL := 4) ⟨hx, hb, hml, hown, hts⟩ (c_X5_sheetOf_n l E a u p1 t1_0 t1_1 t1_2 t1_3) (cwV 1 hts gX5_slews_X5_sheetOf rfl rfl rfl ⟨rfl, hd_X5_sheetOf⟩ ⟨(Nat.le_of_ble_eq_true rfl), (Nat.le_of_ble_eq_true rfl)⟩) hF hS hA hP (va_recv (q := (RX5, TX5, 9)) hK hP (ci := 5) rfl (q0 := 0) rfl) rfl hl.1 rfl (Nat.le_of_ble_eq_true rfl) ⟨(Nat.le_of_ble_eq_true rfl), (Nat.le_of_ble_eq_true rfl)⟩ dX5_slews_2 ?_
  refine W.eq (g2 := F0 m 5 ls [.null]) rfl ?_
  refine lv_astore_nN (lv' := [(3, .null), (0, .ref (a 0)), (1, .int p1), (2, .int p2)]) hx hb dX5_slews_5 rfl hl (by decide) rfl (fun ls hl => ?_)
  refine lv_aload_nN hx hb dX5_slews_6 rfl (lv_at hl 0 rfl) ?_
  refine lv_ifnullN (tgt := 17) hx hb dX5_slews_7 rfl ?_
  refine lv_ldc2 (v := xNO) hx hb hown (hts (.constantLong RX5 112 (-9223372036854775808)) (by decide +kernel)) dX5_slews_17 ?_
  have hR : s_X5_slews u p1 p2 = (xNO, u) := hR
  exact W.lret (v := xNO) hx hb hr (fun t ht _ => by rw [hR]; dsimp only; exact ⟨⟨rfl, by rw [ht]; exact hP⟩, hS.F ht⟩) hS.2.2 dX5_slews_20
def s_X5_by_L64_0 : Nat → xU → Int32 → Int32 → Int32 → Int32 → Int32 → Int32 → Int32 × xU
  | 0, u, _, _, _, _, _, _ => (0, u)
  | n + 1, u, x1, x2, x4, x5, x6, x7 =>
    if 99 < x7 then
      (1000 + x5, s_X0_attempt u x2 2 x4)
    else
      if x7 = (-99) then
        s_X5_by_L64_0 n (s_X1_sum (s_X0_attempt u x2 2 x7)) x1 x2 x4 x7 (s_X1_greatest (s_X1_sum (s_X0_attempt u x2 2 x7))) (x7 + 1)
      else
        if x6 ≤ (s_X1_greatest (s_X1_sum (s_X0_attempt u x2 2 x7))) then
          s_X5_by_L64_0 n (s_X1_sum (s_X0_attempt u x2 2 x7)) x1 x2 x4 x5 x6 (x7 + 1)
        else
          s_X5_by_L64_0 n (s_X1_sum (s_X0_attempt u x2 2 x7)) x1 x2 x4 x7 (s_X1_greatest (s_X1_sum (s_X0_attempt u x2 2 x7))) (x7 + 1)
def s_X5_by_L64_1 : Nat → xU → Int32 → Int32 → Int32 → Int32 → Int32 → Int32 → Int32 × xU
  | 0, u, _, _, _, _, _, _ => (0, u)
  | n + 1, u, x1, x2, x4, x5, x6, x7 =>
    if 99 < x7 then
      (1000 + x5, s_X0_attempt u x2 2 x4)
    else
      if x7 = (-99) then
        s_X5_by_L64_1 n (s_X1_sum (s_X0_attempt u x2 2 x7)) x1 x2 x4 x7 (s_X1_greatest (s_X1_sum (s_X0_attempt u x2 2 x7))) (x7 + 1)
      else
        if x6 ≤ (s_X1_greatest (s_X1_sum (s_X0_attempt u x2 2 x7))) then
          s_X5_by_L64_1 n (s_X1_sum (s_X0_attempt u x2 2 x7)) x1 x2 x4 x5 x6 (x7 + 1)
        else
          s_X5_by_L64_1 n (s_X1_sum (s_X0_attempt u x2 2 x7)) x1 x2 x4 x7 (s_X1_greatest (s_X1_sum (s_X0_attempt u x2 2 x7))) (x7 + 1)
def s_X5_by_L64_2 : Nat → xU → Int32 → Int32 → Int32 → Int32 → Int32 → Int32 → Int32 × xU
  | 0, u, _, _, _, _, _, _ => (0, u)
  | n + 1, u, x1, x2, x4, x5, x6, x7 =>
    if 99 < x7 then
      (1000 + x5, s_X0_attempt u x2 2 x4)
    else
      if x7 = (-99) then
        s_X5_by_L64_2 n (s_X1_sum (s_X0_attempt u x2 2 x7)) x1 x2 x4 x7 (s_X1_greatest (s_X1_sum (s_X0_attempt u x2 2 x7))) (x7 + 1)
      else
        if x6 ≤ (s_X1_greatest (s_X1_sum (s_X0_attempt u x2 2 x7))) then
          s_X5_by_L64_2 n (s_X1_sum (s_X0_attempt u x2 2 x7)) x1 x2 x4 x5 x6 (x7 + 1)
        else
          s_X5_by_L64_2 n (s_X1_sum (s_X0_attempt u x2 2 x7)) x1 x2 x4 x7 (s_X1_greatest (s_X1_sum (s_X0_attempt u x2 2 x7))) (x7 + 1)
def s_X5_by_L64_3 : Nat → xU → Int32 → Int32 → Int32 → Int32 → Int32 → Int32 → Int32 × xU
  | 0, u, _, _, _, _, _, _ => (0, u)
  | n + 1, u, x1, x2, x4, x5, x6, x7 =>
    if 99 < x7 then
      (1000 + x5, s_X0_attempt u x2 2 x4)
    else
      if x7 = (-99) then
        s_X5_by_L64_3 n (s_X1_sum (s_X0_attempt u x2 2 x7)) x1 x2 x4 x7 (s_X1_greatest (s_X1_sum (s_X0_attempt u x2 2 x7))) (x7 + 1)
      else
        if x6 ≤ (s_X1_greatest (s_X1_sum (s_X0_attempt u x2 2 x7))) then
          s_X5_by_L64_3 n (s_X1_sum (s_X0_attempt u x2 2 x7)) x1 x2 x4 x5 x6 (x7 + 1)
        else
          s_X5_by_L64_3 n (s_X1_sum (s_X0_attempt u x2 2 x7)) x1 x2 x4 x7 (s_X1_greatest (s_X1_sum (s_X0_attempt u x2 2 x7))) (x7 + 1)
def s_X5_by (u : xU) (p1 : Int32) (p2 : Int32) : Int32 × xU :=
  if p1 = 0 then
    if (s_X2_has u p2) = 0 then
      ((-2), u)
    else
      if (s_X3_isMissing (uS u 0)) = 0 then
        s_X5_by_L64_0 (((99 : Int32).toInt + 1 - ((-99) : Int32).toInt).toNat + 1) (s_X1_tell 0 u) p1 p2 (s_X2_read (s_X1_tell 0 u) p2 2) (-99) 0 (-99)
      else
        ((-11), u)
  else
    if p1 = 1 then
      if (s_X2_has u p2) = 0 then
        ((-2), u)
      else
        if (s_X3_isMissing (uS u 1)) = 0 then
          s_X5_by_L64_1 (((99 : Int32).toInt + 1 - ((-99) : Int32).toInt).toNat + 1) (s_X1_tell 1 u) p1 p2 (s_X2_read (s_X1_tell 1 u) p2 2) (-99) 0 (-99)
        else
          ((-11), u)
    else
      if p1 = 2 then
        if (s_X2_has u p2) = 0 then
          ((-2), u)
        else
          if (s_X3_isMissing (uS u 2)) = 0 then
            s_X5_by_L64_2 (((99 : Int32).toInt + 1 - ((-99) : Int32).toInt).toNat + 1) (s_X1_tell 2 u) p1 p2 (s_X2_read (s_X1_tell 2 u) p2 2) (-99) 0 (-99)
          else
            ((-11), u)
      else
        if p1 = 3 then
          if (s_X2_has u p2) = 0 then
            ((-2), u)
          else
            if (s_X3_isMissing (uS u 3)) = 0 then
              s_X5_by_L64_3 (((99 : Int32).toInt + 1 - ((-99) : Int32).toInt).toNat + 1) (s_X1_tell 3 u) p1 p2 (s_X2_read (s_X1_tell 3 u) p2 2) (-99) 0 (-99)
            else
              ((-11), u)
        else
          ((-2), u)
abbrev rm_X5_by : Room := { frames := 5, cells := 0, slots := 0, locals := 118 }
set_option maxHeartbeats 8000000 in
set_option maxRecDepth 100000 in
theorem c_X5_by (l : Launch) (E : xG) (a : Nat → Nat) (u : xU) (p1 : Int32) (p2 : Int32) (hp0 : XV (u.1 2) (u.2 1)) (hp1 : (u.2 3).toInt < 2147483647) (hL : xOK E (LX a)) : xMd l E yX5_by wsX5_by rm_X5_by (LX a) [.ref (a 0), .int p1, .int p2] (wX E a u) (some (.int ((s_X5_by u p1 p2).1))) (wX E a ((s_X5_by u p1 p2).2)) := by
  refine xMd.of (cc := cX5_by) (maxL := 9) (ret := (some .int)) (by decide) rfl (Nat.le_of_ble_eq_true rfl) ?_
  intro p e s m below meth c ls hAt hF hP hS hl
  obtain ⟨hx, hb, hr, hml, hown, hts, hlocks, -⟩ := hAt
  have hown : s.vm.findClass RX5 = some m.cls := hown
  have hl : lv_has ls 9 [(0, .ref (a 0)), (1, .int p1), (2, .int p2)] := hl
  have hK := hF.1
  have hA := hL.2
  change W p l e rm_X5_by s m ([.ref (a 0), .int p1, .int p2] : List Value).toArray below meth c s.heap [] 0 0 (xQmd E below (LX a) (some (.int ((s_X5_by u p1 p2).1))) (wX E a ((s_X5_by u p1 p2).2)) ([.ref (a 0), .int p1, .int p2] : List Value).toArray s) _
  have hS : va_S (· ∈ LX a) s.heap s.heap [] := hS
  have hR : s_X5_by u p1 p2 = s_X5_by u p1 p2 := rfl
  refine lv_aload_n hx hb dX5_by_0 rfl (lv_at hl 0 rfl) ?_
  refine lv_iload_n hx hb dX5_by_1 rfl (lv_at hl 1 rfl) ?_
  by_cases t1_0 : p1 = 0
  · have hR := hR.trans (if_pos t1_0)
    refine xRoV (nL := 9) ⟨hx, hb, hml, hown, hts⟩ (c_X5_sheetOf l E a u p1 0 (by decide) t1_0) (cwV 1 hts gX5_by_X5_sheetOf rfl rfl rfl ⟨rfl, hd_X5_sheetOf⟩ ⟨(Nat.le_of_ble_eq_true rfl), (Nat.le_of_ble_eq_true rfl)⟩) hF hS hA hP (va_recv (q := (RX5, TX5, 9)) hK hP (ci := 5) rfl (q0 := 0) rfl) rfl hl.1 rfl (Nat.le_of_ble_eq_true rfl) ⟨(Nat.le_of_ble_eq_true rfl), (Nat.le_of_ble_eq_true rfl)⟩ dX5_by_2 ?_
    refine W.eq (g2 := F0 m 5 ls [.ref (a 17)]) rfl ?_
    refine lv_astore_n (lv' := [(3, .ref (a 17)), (0, .ref (a 0)), (1, .int p1), (2, .int p2)]) hx hb dX5_by_5 rfl hl (by decide) rfl (fun ls hl => ?_)
    refine lv_aload_n hx hb dX5_by_6 rfl (lv_at hl 0 rfl) ?_
    refine lv_ifnull hx hb dX5_by_7 ?_
    refine lv_aload_n hx hb dX5_by_10 rfl (lv_at hl 1 rfl) ?_
    refine va_get (D := xD E) (ci := 5) (v := .ref (a 1)) (C := RX5) (T := TX5) (N := 9) hx hb hts (by decide +kernel) hown hK hP 0 rfl rfl 0 (by decide) (hts (.fieldLink RX5 12 "RailOffsets" "pieces" "LRailOffsets$Pieces;") (by decide +kernel)) (fun _ h => h) rfl dX5_by_11 ?_
    refine lv_iload_n hx hb dX5_by_14 rfl (lv_at hl 3 rfl) ?_
    refine xRoV (nL := 9) ⟨hx, hb, hml, hown, hts⟩ (c_X2_has l E a u p2) (cwV 1 hts gX5_by_X2_has rfl rfl rfl ⟨rfl, hd_X2_has⟩ ⟨(Nat.le_of_ble_eq_true rfl), (Nat.le_of_ble_eq_true rfl)⟩) hF hS hA hP (va_recv (q := (RX2, TX2, 2)) hK hP (ci := 2) rfl (q0 := 1) rfl) rfl hl.1 rfl (Nat.le_of_ble_eq_true rfl) ⟨(Nat.le_of_ble_eq_true rfl), (Nat.le_of_ble_eq_true rfl)⟩ dX5_by_15 ?_
    refine W.eq (g2 := F0 m 18 ls [.int (s_X2_has u p2)]) rfl ?_
    refine lv_if_ne (tgt := 24) hx hb dX5_by_18 rfl (fun q2 => ?_) (fun q2 => ?_)
    · have hR := hR.trans (if_neg q2)
      refine lv_aload_n hx hb dX5_by_24 rfl (lv_at hl 0 rfl) ?_
      refine xRoV (nL := 9) ⟨hx, hb, hml, hown, hts⟩ (c_X3_isMissing l E (a 17) (a 21) (uS u 0) ) (cwV 0 hts gX5_by_X3_isMissing rfl rfl rfl ⟨rfl, hd_X3_isMissing⟩ ⟨(Nat.le_of_ble_eq_true rfl), (Nat.le_of_ble_eq_true rfl)⟩) hF hS hA (hP.sub [17, 21] rfl) (va_recv (q := (RX3, TX3, 3)) hK hP (ci := 3) rfl (q0 := 17) rfl) rfl hl.1 rfl (Nat.le_of_ble_eq_true rfl) ⟨(Nat.le_of_ble_eq_true rfl), (Nat.le_of_ble_eq_true rfl)⟩ dX5_by_25 ?_
      refine W.eq (g2 := F0 m 28 ls [.int (s_X3_isMissing (uS u 0))]) rfl ?_
      refine lv_if_eq (tgt := 34) hx hb dX5_by_28 rfl (fun q3 => ?_) (fun q3 => ?_)
      · have hR := hR.trans (if_pos q3)
        refine lv_aload_n hx hb dX5_by_34 rfl (lv_at hl 1 rfl) ?_
        refine va_get (D := xD E) (ci := 5) (v := .ref (a 14)) (C := RX5) (T := TX5) (N := 9) hx hb hts (by decide +kernel) hown hK hP 0 rfl rfl 5 (by decide) (hts (.fieldLink RX5 50 "RailOffsets" "old" "LRailOffsets$OldLine;") (by decide +kernel)) (fun _ h => h) rfl dX5_by_35 ?_
        refine lv_aload_n hx hb dX5_by_38 rfl (lv_at hl 0 rfl) ?_
        refine xMdV (nL := 9) ⟨hx, hb, hml, hown, hts⟩ (c_X1_tell l E a u 0 (by decide)  (hp1) hL) (cwV 1 hts gX5_by_X1_tell rfl rfl rfl ⟨rfl, hd_X1_tell⟩ ⟨(Nat.le_of_ble_eq_true rfl), (Nat.le_of_ble_eq_true rfl)⟩) hF hS hL.2 (fun _ h => h) hP (va_recv (q := (RX1, TX1, 3)) hK hP (ci := 1) rfl (q0 := 14) rfl) rfl hl.1 rfl (Nat.le_of_ble_eq_true rfl) ⟨(Nat.le_of_ble_eq_true rfl), (Nat.le_of_ble_eq_true rfl)⟩ dX5_by_39 (fun H locs hP _ hS => ?_)
        refine W.eq (g2 := F0 m 42 ls []) rfl ?_
        refine lv_aload_n hx hb dX5_by_42 rfl (lv_at hl 1 rfl) ?_
        refine va_get (D := xD E) (ci := 5) (v := .ref (a 1)) (C := RX5) (T := TX5) (N := 9) hx hb hts (by decide +kernel) hown hK hP 0 rfl rfl 0 (by decide) (hts (.fieldLink RX5 12 "RailOffsets" "pieces" "LRailOffsets$Pieces;") (by decide +kernel)) (fun _ h => h) rfl dX5_by_43 ?_
        refine lv_iload_n hx hb dX5_by_46 rfl (lv_at hl 3 rfl) ?_
        refine lv_iconst (v := 2) hx hb dX5_by_47 rfl ?_
        refine xRoV (nL := 9) ⟨hx, hb, hml, hown, hts⟩ (c_X2_read l E a (s_X1_tell 0 u) p2 2) (cwV 2 hts gX5_by_X2_read rfl rfl rfl ⟨rfl, hd_X2_read⟩ ⟨(Nat.le_of_ble_eq_true rfl), (Nat.le_of_ble_eq_true rfl)⟩) hF hS hA hP (va_recv (q := (RX2, TX2, 2)) hK hP (ci := 2) rfl (q0 := 1) rfl) rfl hl.1 rfl (Nat.le_of_ble_eq_true rfl) ⟨(Nat.le_of_ble_eq_true rfl), (Nat.le_of_ble_eq_true rfl)⟩ dX5_by_48 ?_
        refine W.eq (g2 := F0 m 51 ls [.int (s_X2_read (s_X1_tell 0 u) p2 2)]) rfl ?_
        refine lv_istore (lv' := [(4, .int (s_X2_read (s_X1_tell 0 u) p2 2)), (3, .ref (a 17)), (0, .ref (a 0)), (1, .int p1), (2, .int p2)]) hx hb dX5_by_51 hl (by decide) rfl (fun ls hl => ?_)
        refine lv_bipush (v := (-99)) hx hb dX5_by_53 rfl ?_
        refine lv_istore (lv' := [(5, .int (-99)), (4, .int (s_X2_read (s_X1_tell 0 u) p2 2)), (3, .ref (a 17)), (0, .ref (a 0)), (1, .int p1), (2, .int p2)]) hx hb dX5_by_55 hl (by decide) rfl (fun ls hl => ?_)
        refine lv_iconst (v := 0) hx hb dX5_by_57 rfl ?_
        refine lv_istore (lv' := [(6, .int 0), (5, .int (-99)), (4, .int (s_X2_read (s_X1_tell 0 u) p2 2)), (3, .ref (a 17)), (0, .ref (a 0)), (1, .int p1), (2, .int p2)]) hx hb dX5_by_58 hl (by decide) rfl (fun ls hl => ?_)
        refine lv_bipush (v := (-99)) hx hb dX5_by_60 rfl ?_
        refine lv_istore (lv' := [(7, .int (-99)), (6, .int 0), (5, .int (-99)), (4, .int (s_X2_read (s_X1_tell 0 u) p2 2)), (3, .ref (a 17)), (0, .ref (a 0)), (1, .int p1), (2, .int p2)]) hx hb dX5_by_62 hl (by decide) rfl (fun ls hl => ?_)
        have L64 : ∀ (n64 : Nat) (u64 : xU) (x5 : Int32) (x6 : Int32) (x7 : Int32) (H : Heap) (locs : List Loc) (ls : Array Slot), (XV (u64.1 2) (u64.2 1)) → ((u64.2 3).toInt < 2147483647) → (¬ x7 < (-99)) → ((99 : Int32).toInt + 1 - x7.toInt).toNat < n64 → s_X5_by u p1 p2 = s_X5_by_L64_0 n64 u64 p1 p2 (s_X2_read (s_X1_tell 0 u) p2 2) x5 x6 x7 → lv_has ls 9 [(7, .int x7), (6, .int x6), (5, .int x5), (4, .int (s_X2_read (s_X1_tell 0 u) p2 2)), (3, .ref (a 17)), (0, .ref (a 0)), (1, .int p1), (2, .int p2)] → va_P (xD E) vwCl (wX E a u64) H → va_S (· ∈ LX a) s.heap H locs → W p l e rm_X5_by s m ([.ref (a 0), .int p1, .int p2] : List Value).toArray below meth c H locs 0 0 (xQmd E below (LX a) (some (.int ((s_X5_by u p1 p2).1))) (wX E a ((s_X5_by u p1 p2).2)) ([.ref (a 0), .int p1, .int p2] : List Value).toArray s) (F0 m 64 ls []) := by
          intro n64
          induction n64 with
          | zero => intro u64 x5 x6 x7 H locs ls hI0 hI1 hI2 hM64 hR hl hP hS; exact absurd hM64 (Nat.not_lt_zero _)
          | succ n64 ih64 =>
            intro u64 x5 x6 x7 H locs ls hI0 hI1 hI2 hM64 hR hl hP hS
            refine lv_iload hx hb dX5_by_64 (lv_at hl 0 rfl) ?_
            refine lv_bipush (v := 99) hx hb dX5_by_66 rfl ?_
            refine lv_icmp_gt (tgt := 126) hx hb dX5_by_68 rfl (fun q4 => ?_) (fun q4 => ?_)
            · have hR := hR.trans (if_pos q4)
              refine lv_aload_n hx hb dX5_by_126 rfl (lv_at hl 5 rfl) ?_
              refine va_get (D := xD E) (ci := 5) (v := .ref (a 7)) (C := RX5) (T := TX5) (N := 9) hx hb hts (by decide +kernel) hown hK hP 0 rfl rfl 4 (by decide) (hts (.fieldLink RX5 41 "RailOffsets" "line" "LRailOffsets$Line;") (by decide +kernel)) (fun _ h => h) rfl dX5_by_127 ?_
              refine lv_iload_n hx hb dX5_by_130 rfl (lv_at hl 7 rfl) ?_
              refine lv_iconst (v := 2) hx hb dX5_by_131 rfl ?_
              refine lv_iload hx hb dX5_by_132 (lv_at hl 3 rfl) ?_
              refine xMdV (nL := 9) ⟨hx, hb, hml, hown, hts⟩ (c_X0_attempt l E a u64 p2 2 (s_X2_read (s_X1_tell 0 u) p2 2) (xwm (u := u64) (p := p2) hI0 (j := 2) (by decide) (xro (by rw [(xtell _ u).1, (xtell _ u).2 2 (by decide)]; exact hp0) p2 (j := 2) (by decide)) (fun z => absurd z (by decide))) hL) (cwV 3 hts gX5_by_X0_attempt rfl rfl rfl ⟨rfl, hd_X0_attempt⟩ ⟨(Nat.le_of_ble_eq_true rfl), (Nat.le_of_ble_eq_true rfl)⟩) hF hS hL.2 (fun _ h => h) hP (va_recv (q := (RX0, TX0, 8)) hK hP (ci := 0) rfl (q0 := 7) rfl) rfl hl.1 rfl (Nat.le_of_ble_eq_true rfl) ⟨(Nat.le_of_ble_eq_true rfl), (Nat.le_of_ble_eq_true rfl)⟩ dX5_by_134 (fun H locs hP _ hS => ?_)
              refine W.eq (g2 := F0 m 137 ls []) rfl ?_
              refine lv_sipush (v := 1000) hx hb dX5_by_137 rfl ?_
              refine lv_iload hx hb dX5_by_140 (lv_at hl 2 rfl) ?_
              refine lv_iadd hx hb dX5_by_142 ?_
              have hR : s_X5_by u p1 p2 = (1000 + x5, s_X0_attempt u64 p2 2 (s_X2_read (s_X1_tell 0 u) p2 2)) := hR
              exact W.iret (v := 1000 + x5) hx hb hr (fun t ht _ => by rw [hR]; dsimp only; exact ⟨⟨rfl, by rw [ht]; exact hP⟩, hS.F ht⟩) hS.2.2 dX5_by_143
            · have hR := hR.trans (if_neg q4)
              refine lv_aload_n hx hb dX5_by_71 rfl (lv_at hl 5 rfl) ?_
              refine va_get (D := xD E) (ci := 5) (v := .ref (a 7)) (C := RX5) (T := TX5) (N := 9) hx hb hts (by decide +kernel) hown hK hP 0 rfl rfl 4 (by decide) (hts (.fieldLink RX5 41 "RailOffsets" "line" "LRailOffsets$Line;") (by decide +kernel)) (fun _ h => h) rfl dX5_by_72 ?_
              refine lv_iload_n hx hb dX5_by_75 rfl (lv_at hl 7 rfl) ?_
              refine lv_iconst (v := 2) hx hb dX5_by_76 rfl ?_
              refine lv_iload hx hb dX5_by_77 (lv_at hl 0 rfl) ?_
              refine xMdV (nL := 9) ⟨hx, hb, hml, hown, hts⟩ (c_X0_attempt l E a u64 p2 2 x7 (xwm (u := u64) (p := p2) (x := x7) hI0 (j := 2) (by decide) (xok_bend hI2 q4 (by decide) (by decide)) (fun z => absurd z (by decide))) hL) (cwV 3 hts gX5_by_X0_attempt rfl rfl rfl ⟨rfl, hd_X0_attempt⟩ ⟨(Nat.le_of_ble_eq_true rfl), (Nat.le_of_ble_eq_true rfl)⟩) hF hS hL.2 (fun _ h => h) hP (va_recv (q := (RX0, TX0, 8)) hK hP (ci := 0) rfl (q0 := 7) rfl) rfl hl.1 rfl (Nat.le_of_ble_eq_true rfl) ⟨(Nat.le_of_ble_eq_true rfl), (Nat.le_of_ble_eq_true rfl)⟩ dX5_by_79 (fun H locs hP _ hS => ?_)
              refine W.eq (g2 := F0 m 82 ls []) rfl ?_
              refine lv_aload_n hx hb dX5_by_82 rfl (lv_at hl 5 rfl) ?_
              refine va_get (D := xD E) (ci := 5) (v := .ref (a 14)) (C := RX5) (T := TX5) (N := 9) hx hb hts (by decide +kernel) hown hK hP 0 rfl rfl 5 (by decide) (hts (.fieldLink RX5 50 "RailOffsets" "old" "LRailOffsets$OldLine;") (by decide +kernel)) (fun _ h => h) rfl dX5_by_83 ?_
              refine xMdV (nL := 9) ⟨hx, hb, hml, hown, hts⟩ (c_X1_sum l E a (s_X0_attempt u64 p2 2 x7)  (by rw [s_X0_attempt_2]; exact hI1) hL) (cwV 0 hts gX5_by_X1_sum rfl rfl rfl ⟨rfl, hd_X1_sum⟩ ⟨(Nat.le_of_ble_eq_true rfl), (Nat.le_of_ble_eq_true rfl)⟩) hF hS hL.2 (fun _ h => h) hP (va_recv (q := (RX1, TX1, 3)) hK hP (ci := 1) rfl (q0 := 14) rfl) rfl hl.1 rfl (Nat.le_of_ble_eq_true rfl) ⟨(Nat.le_of_ble_eq_true rfl), (Nat.le_of_ble_eq_true rfl)⟩ dX5_by_86 (fun H locs hP _ hS => ?_)
              refine W.eq (g2 := F0 m 89 ls []) rfl ?_
              refine lv_aload_n hx hb dX5_by_89 rfl (lv_at hl 5 rfl) ?_
              refine va_get (D := xD E) (ci := 5) (v := .ref (a 14)) (C := RX5) (T := TX5) (N := 9) hx hb hts (by decide +kernel) hown hK hP 0 rfl rfl 5 (by decide) (hts (.fieldLink RX5 50 "RailOffsets" "old" "LRailOffsets$OldLine;") (by decide +kernel)) (fun _ h => h) rfl dX5_by_90 ?_
              refine xRoV (nL := 9) ⟨hx, hb, hml, hown, hts⟩ (c_X1_greatest l E a (s_X1_sum (s_X0_attempt u64 p2 2 x7))  (by rw [(xsum _).1, s_X0_attempt_2]; exact hI1)) (cwV 0 hts gX5_by_X1_greatest rfl rfl rfl ⟨rfl, hd_X1_greatest⟩ ⟨(Nat.le_of_ble_eq_true rfl), (Nat.le_of_ble_eq_true rfl)⟩) hF hS hA hP (va_recv (q := (RX1, TX1, 3)) hK hP (ci := 1) rfl (q0 := 14) rfl) rfl hl.1 rfl (Nat.le_of_ble_eq_true rfl) ⟨(Nat.le_of_ble_eq_true rfl), (Nat.le_of_ble_eq_true rfl)⟩ dX5_by_93 ?_
              refine W.eq (g2 := F0 m 96 ls [.int (s_X1_greatest (s_X1_sum (s_X0_attempt u64 p2 2 x7)))]) rfl ?_
              refine lv_istore (lv' := [(8, .int (s_X1_greatest (s_X1_sum (s_X0_attempt u64 p2 2 x7)))), (7, .int x7), (6, .int x6), (5, .int x5), (4, .int (s_X2_read (s_X1_tell 0 u) p2 2)), (3, .ref (a 17)), (0, .ref (a 0)), (1, .int p1), (2, .int p2)]) hx hb dX5_by_96 hl (by decide) rfl (fun ls hl => ?_)
              refine lv_iload hx hb dX5_by_98 (lv_at hl 1 rfl) ?_
              refine lv_bipush (v := (-99)) hx hb dX5_by_100 rfl ?_
              refine lv_icmp_eq (tgt := 112) hx hb dX5_by_102 rfl (fun q5 => ?_) (fun q5 => ?_)
              · have hR := hR.trans (if_pos q5)
                refine lv_iload hx hb dX5_by_112 (lv_at hl 0 rfl) ?_
                refine lv_istore (lv' := [(6, .int (s_X1_greatest (s_X1_sum (s_X0_attempt u64 p2 2 x7)))), (8, .int (s_X1_greatest (s_X1_sum (s_X0_attempt u64 p2 2 x7)))), (7, .int x7), (5, .int x5), (4, .int (s_X2_read (s_X1_tell 0 u) p2 2)), (3, .ref (a 17)), (0, .ref (a 0)), (1, .int p1), (2, .int p2)]) hx hb dX5_by_114 hl (by decide) rfl (fun ls hl => ?_)
                refine lv_iload hx hb dX5_by_116 (lv_at hl 2 rfl) ?_
                refine lv_istore (lv' := [(5, .int x7), (6, .int (s_X1_greatest (s_X1_sum (s_X0_attempt u64 p2 2 x7)))), (8, .int (s_X1_greatest (s_X1_sum (s_X0_attempt u64 p2 2 x7)))), (7, .int x7), (4, .int (s_X2_read (s_X1_tell 0 u) p2 2)), (3, .ref (a 17)), (0, .ref (a 0)), (1, .int p1), (2, .int p2)]) hx hb dX5_by_118 hl (by decide) rfl (fun ls hl => ?_)
                refine lv_iinc (k := 3) (v := x7 + 1) (lv' := [(7, .int (x7 + 1)), (5, .int x7), (6, .int (s_X1_greatest (s_X1_sum (s_X0_attempt u64 p2 2 x7)))), (8, .int (s_X1_greatest (s_X1_sum (s_X0_attempt u64 p2 2 x7)))), (4, .int (s_X2_read (s_X1_tell 0 u) p2 2)), (3, .ref (a 17)), (0, .ref (a 0)), (1, .int p1), (2, .int p2)]) hx hb dX5_by_120 hl rfl rfl (by decide) rfl (fun ls hl => ?_)
                refine lv_goto (tgt := 64) hx hb dX5_by_123 rfl ?_
                exact ih64 (s_X1_sum (s_X0_attempt u64 p2 2 x7)) x7 (s_X1_greatest (s_X1_sum (s_X0_attempt u64 p2 2 x7))) (x7 + 1) _ _ _ (xsumv (xav (u := u64) (p := p2) (x := x7) hI0 (j := 2) (by decide) (xok_bend hI2 q4 (by decide) (by decide)) (fun z => absurd z (by decide)))) (by rw [(xsum _).1, s_X0_attempt_2]; exact hI1) (xupge hI2 q4 (by decide)) (Nat.lt_of_lt_of_le (xupl q4 (by decide)) (Nat.le_of_lt_succ hM64)) hR (lv_sub hl [0, 2, 1, 4, 5, 6, 7, 8] rfl) hP hS
              · have hR := hR.trans (if_neg q5)
                refine lv_iload hx hb dX5_by_105 (lv_at hl 0 rfl) ?_
                refine lv_iload hx hb dX5_by_107 (lv_at hl 2 rfl) ?_
                refine lv_icmp_ge (tgt := 120) hx hb dX5_by_109 rfl (fun q6 => ?_) (fun q6 => ?_)
                · have hR := hR.trans (if_pos q6)
                  refine lv_iinc (k := 1) (v := x7 + 1) (lv' := [(7, .int (x7 + 1)), (8, .int (s_X1_greatest (s_X1_sum (s_X0_attempt u64 p2 2 x7)))), (6, .int x6), (5, .int x5), (4, .int (s_X2_read (s_X1_tell 0 u) p2 2)), (3, .ref (a 17)), (0, .ref (a 0)), (1, .int p1), (2, .int p2)]) hx hb dX5_by_120 hl rfl rfl (by decide) rfl (fun ls hl => ?_)
                  refine lv_goto (tgt := 64) hx hb dX5_by_123 rfl ?_
                  exact ih64 (s_X1_sum (s_X0_attempt u64 p2 2 x7)) x5 x6 (x7 + 1) _ _ _ (xsumv (xav (u := u64) (p := p2) (x := x7) hI0 (j := 2) (by decide) (xok_bend hI2 q4 (by decide) (by decide)) (fun z => absurd z (by decide)))) (by rw [(xsum _).1, s_X0_attempt_2]; exact hI1) (xupge hI2 q4 (by decide)) (Nat.lt_of_lt_of_le (xupl q4 (by decide)) (Nat.le_of_lt_succ hM64)) hR (lv_sub hl [0, 2, 3, 4, 5, 6, 7, 8] rfl) hP hS
                · have hR := hR.trans (if_neg q6)
                  refine lv_iload hx hb dX5_by_112 (lv_at hl 0 rfl) ?_
                  refine lv_istore (lv' := [(6, .int (s_X1_greatest (s_X1_sum (s_X0_attempt u64 p2 2 x7)))), (8, .int (s_X1_greatest (s_X1_sum (s_X0_attempt u64 p2 2 x7)))), (7, .int x7), (5, .int x5), (4, .int (s_X2_read (s_X1_tell 0 u) p2 2)), (3, .ref (a 17)), (0, .ref (a 0)), (1, .int p1), (2, .int p2)]) hx hb dX5_by_114 hl (by decide) rfl (fun ls hl => ?_)
                  refine lv_iload hx hb dX5_by_116 (lv_at hl 2 rfl) ?_
                  refine lv_istore (lv' := [(5, .int x7), (6, .int (s_X1_greatest (s_X1_sum (s_X0_attempt u64 p2 2 x7)))), (8, .int (s_X1_greatest (s_X1_sum (s_X0_attempt u64 p2 2 x7)))), (7, .int x7), (4, .int (s_X2_read (s_X1_tell 0 u) p2 2)), (3, .ref (a 17)), (0, .ref (a 0)), (1, .int p1), (2, .int p2)]) hx hb dX5_by_118 hl (by decide) rfl (fun ls hl => ?_)
                  refine lv_iinc (k := 3) (v := x7 + 1) (lv' := [(7, .int (x7 + 1)), (5, .int x7), (6, .int (s_X1_greatest (s_X1_sum (s_X0_attempt u64 p2 2 x7)))), (8, .int (s_X1_greatest (s_X1_sum (s_X0_attempt u64 p2 2 x7)))), (4, .int (s_X2_read (s_X1_tell 0 u) p2 2)), (3, .ref (a 17)), (0, .ref (a 0)), (1, .int p1), (2, .int p2)]) hx hb dX5_by_120 hl rfl rfl (by decide) rfl (fun ls hl => ?_)
                  refine lv_goto (tgt := 64) hx hb dX5_by_123 rfl ?_
                  exact ih64 (s_X1_sum (s_X0_attempt u64 p2 2 x7)) x7 (s_X1_greatest (s_X1_sum (s_X0_attempt u64 p2 2 x7))) (x7 + 1) _ _ _ (xsumv (xav (u := u64) (p := p2) (x := x7) hI0 (j := 2) (by decide) (xok_bend hI2 q4 (by decide) (by decide)) (fun z => absurd z (by decide)))) (by rw [(xsum _).1, s_X0_attempt_2]; exact hI1) (xupge hI2 q4 (by decide)) (Nat.lt_of_lt_of_le (xupl q4 (by decide)) (Nat.le_of_lt_succ hM64)) hR (lv_sub hl [0, 2, 1, 4, 5, 6, 7, 8] rfl) hP hS
        exact L64 (((99 : Int32).toInt + 1 - ((-99) : Int32).toInt).toNat + 1) (s_X1_tell 0 u) (-99) 0 (-99) _ _ ls (by rw [(xtell _ u).1, (xtell _ u).2 2 (by decide)]; exact hp0) (by rw [(xtell _ u).1]; exact hp1) (by decide) (Nat.lt_succ_self _) hR hl hP hS
      · have hR := hR.trans (if_neg q3)
        refine lv_bipush (v := (-11)) hx hb dX5_by_31 rfl ?_
        have hR : s_X5_by u p1 p2 = ((-11), u) := hR
        exact W.iret (v := (-11)) hx hb hr (fun t ht _ => by rw [hR]; dsimp only; exact ⟨⟨rfl, by rw [ht]; exact hP⟩, hS.F ht⟩) hS.2.2 dX5_by_33
    · have hR := hR.trans (if_pos q2)
      refine lv_bipush (v := (-2)) hx hb dX5_by_21 rfl ?_
      have hR : s_X5_by u p1 p2 = ((-2), u) := hR
      exact W.iret (v := (-2)) hx hb hr (fun t ht _ => by rw [hR]; dsimp only; exact ⟨⟨rfl, by rw [ht]; exact hP⟩, hS.F ht⟩) hS.2.2 dX5_by_23
  have hR := hR.trans (if_neg t1_0)
  by_cases t1_1 : p1 = 1
  · have hR := hR.trans (if_pos t1_1)
    refine xRoV (nL := 9) ⟨hx, hb, hml, hown, hts⟩ (c_X5_sheetOf l E a u p1 1 (by decide) t1_1) (cwV 1 hts gX5_by_X5_sheetOf rfl rfl rfl ⟨rfl, hd_X5_sheetOf⟩ ⟨(Nat.le_of_ble_eq_true rfl), (Nat.le_of_ble_eq_true rfl)⟩) hF hS hA hP (va_recv (q := (RX5, TX5, 9)) hK hP (ci := 5) rfl (q0 := 0) rfl) rfl hl.1 rfl (Nat.le_of_ble_eq_true rfl) ⟨(Nat.le_of_ble_eq_true rfl), (Nat.le_of_ble_eq_true rfl)⟩ dX5_by_2 ?_
    refine W.eq (g2 := F0 m 5 ls [.ref (a 18)]) rfl ?_
    refine lv_astore_n (lv' := [(3, .ref (a 18)), (0, .ref (a 0)), (1, .int p1), (2, .int p2)]) hx hb dX5_by_5 rfl hl (by decide) rfl (fun ls hl => ?_)
    refine lv_aload_n hx hb dX5_by_6 rfl (lv_at hl 0 rfl) ?_
    refine lv_ifnull hx hb dX5_by_7 ?_
    refine lv_aload_n hx hb dX5_by_10 rfl (lv_at hl 1 rfl) ?_
    refine va_get (D := xD E) (ci := 5) (v := .ref (a 1)) (C := RX5) (T := TX5) (N := 9) hx hb hts (by decide +kernel) hown hK hP 0 rfl rfl 0 (by decide) (hts (.fieldLink RX5 12 "RailOffsets" "pieces" "LRailOffsets$Pieces;") (by decide +kernel)) (fun _ h => h) rfl dX5_by_11 ?_
    refine lv_iload_n hx hb dX5_by_14 rfl (lv_at hl 3 rfl) ?_
    refine xRoV (nL := 9) ⟨hx, hb, hml, hown, hts⟩ (c_X2_has l E a u p2) (cwV 1 hts gX5_by_X2_has rfl rfl rfl ⟨rfl, hd_X2_has⟩ ⟨(Nat.le_of_ble_eq_true rfl), (Nat.le_of_ble_eq_true rfl)⟩) hF hS hA hP (va_recv (q := (RX2, TX2, 2)) hK hP (ci := 2) rfl (q0 := 1) rfl) rfl hl.1 rfl (Nat.le_of_ble_eq_true rfl) ⟨(Nat.le_of_ble_eq_true rfl), (Nat.le_of_ble_eq_true rfl)⟩ dX5_by_15 ?_
    refine W.eq (g2 := F0 m 18 ls [.int (s_X2_has u p2)]) rfl ?_
    refine lv_if_ne (tgt := 24) hx hb dX5_by_18 rfl (fun q7 => ?_) (fun q7 => ?_)
    · have hR := hR.trans (if_neg q7)
      refine lv_aload_n hx hb dX5_by_24 rfl (lv_at hl 0 rfl) ?_
      refine xRoV (nL := 9) ⟨hx, hb, hml, hown, hts⟩ (c_X3_isMissing l E (a 18) (a 22) (uS u 1) ) (cwV 0 hts gX5_by_X3_isMissing rfl rfl rfl ⟨rfl, hd_X3_isMissing⟩ ⟨(Nat.le_of_ble_eq_true rfl), (Nat.le_of_ble_eq_true rfl)⟩) hF hS hA (hP.sub [18, 22] rfl) (va_recv (q := (RX3, TX3, 3)) hK hP (ci := 3) rfl (q0 := 18) rfl) rfl hl.1 rfl (Nat.le_of_ble_eq_true rfl) ⟨(Nat.le_of_ble_eq_true rfl), (Nat.le_of_ble_eq_true rfl)⟩ dX5_by_25 ?_
      refine W.eq (g2 := F0 m 28 ls [.int (s_X3_isMissing (uS u 1))]) rfl ?_
      refine lv_if_eq (tgt := 34) hx hb dX5_by_28 rfl (fun q8 => ?_) (fun q8 => ?_)
      · have hR := hR.trans (if_pos q8)
        refine lv_aload_n hx hb dX5_by_34 rfl (lv_at hl 1 rfl) ?_
        refine va_get (D := xD E) (ci := 5) (v := .ref (a 14)) (C := RX5) (T := TX5) (N := 9) hx hb hts (by decide +kernel) hown hK hP 0 rfl rfl 5 (by decide) (hts (.fieldLink RX5 50 "RailOffsets" "old" "LRailOffsets$OldLine;") (by decide +kernel)) (fun _ h => h) rfl dX5_by_35 ?_
        refine lv_aload_n hx hb dX5_by_38 rfl (lv_at hl 0 rfl) ?_
        refine xMdV (nL := 9) ⟨hx, hb, hml, hown, hts⟩ (c_X1_tell l E a u 1 (by decide)  (hp1) hL) (cwV 1 hts gX5_by_X1_tell rfl rfl rfl ⟨rfl, hd_X1_tell⟩ ⟨(Nat.le_of_ble_eq_true rfl), (Nat.le_of_ble_eq_true rfl)⟩) hF hS hL.2 (fun _ h => h) hP (va_recv (q := (RX1, TX1, 3)) hK hP (ci := 1) rfl (q0 := 14) rfl) rfl hl.1 rfl (Nat.le_of_ble_eq_true rfl) ⟨(Nat.le_of_ble_eq_true rfl), (Nat.le_of_ble_eq_true rfl)⟩ dX5_by_39 (fun H locs hP _ hS => ?_)
        refine W.eq (g2 := F0 m 42 ls []) rfl ?_
        refine lv_aload_n hx hb dX5_by_42 rfl (lv_at hl 1 rfl) ?_
        refine va_get (D := xD E) (ci := 5) (v := .ref (a 1)) (C := RX5) (T := TX5) (N := 9) hx hb hts (by decide +kernel) hown hK hP 0 rfl rfl 0 (by decide) (hts (.fieldLink RX5 12 "RailOffsets" "pieces" "LRailOffsets$Pieces;") (by decide +kernel)) (fun _ h => h) rfl dX5_by_43 ?_
        refine lv_iload_n hx hb dX5_by_46 rfl (lv_at hl 3 rfl) ?_
        refine lv_iconst (v := 2) hx hb dX5_by_47 rfl ?_
        refine xRoV (nL := 9) ⟨hx, hb, hml, hown, hts⟩ (c_X2_read l E a (s_X1_tell 1 u) p2 2) (cwV 2 hts gX5_by_X2_read rfl rfl rfl ⟨rfl, hd_X2_read⟩ ⟨(Nat.le_of_ble_eq_true rfl), (Nat.le_of_ble_eq_true rfl)⟩) hF hS hA hP (va_recv (q := (RX2, TX2, 2)) hK hP (ci := 2) rfl (q0 := 1) rfl) rfl hl.1 rfl (Nat.le_of_ble_eq_true rfl) ⟨(Nat.le_of_ble_eq_true rfl), (Nat.le_of_ble_eq_true rfl)⟩ dX5_by_48 ?_
        refine W.eq (g2 := F0 m 51 ls [.int (s_X2_read (s_X1_tell 1 u) p2 2)]) rfl ?_
        refine lv_istore (lv' := [(4, .int (s_X2_read (s_X1_tell 1 u) p2 2)), (3, .ref (a 18)), (0, .ref (a 0)), (1, .int p1), (2, .int p2)]) hx hb dX5_by_51 hl (by decide) rfl (fun ls hl => ?_)
        refine lv_bipush (v := (-99)) hx hb dX5_by_53 rfl ?_
        refine lv_istore (lv' := [(5, .int (-99)), (4, .int (s_X2_read (s_X1_tell 1 u) p2 2)), (3, .ref (a 18)), (0, .ref (a 0)), (1, .int p1), (2, .int p2)]) hx hb dX5_by_55 hl (by decide) rfl (fun ls hl => ?_)
        refine lv_iconst (v := 0) hx hb dX5_by_57 rfl ?_
        refine lv_istore (lv' := [(6, .int 0), (5, .int (-99)), (4, .int (s_X2_read (s_X1_tell 1 u) p2 2)), (3, .ref (a 18)), (0, .ref (a 0)), (1, .int p1), (2, .int p2)]) hx hb dX5_by_58 hl (by decide) rfl (fun ls hl => ?_)
        refine lv_bipush (v := (-99)) hx hb dX5_by_60 rfl ?_
        refine lv_istore (lv' := [(7, .int (-99)), (6, .int 0), (5, .int (-99)), (4, .int (s_X2_read (s_X1_tell 1 u) p2 2)), (3, .ref (a 18)), (0, .ref (a 0)), (1, .int p1), (2, .int p2)]) hx hb dX5_by_62 hl (by decide) rfl (fun ls hl => ?_)
        have L64 : ∀ (n64 : Nat) (u64 : xU) (x5 : Int32) (x6 : Int32) (x7 : Int32) (H : Heap) (locs : List Loc) (ls : Array Slot), (XV (u64.1 2) (u64.2 1)) → ((u64.2 3).toInt < 2147483647) → (¬ x7 < (-99)) → ((99 : Int32).toInt + 1 - x7.toInt).toNat < n64 → s_X5_by u p1 p2 = s_X5_by_L64_1 n64 u64 p1 p2 (s_X2_read (s_X1_tell 1 u) p2 2) x5 x6 x7 → lv_has ls 9 [(7, .int x7), (6, .int x6), (5, .int x5), (4, .int (s_X2_read (s_X1_tell 1 u) p2 2)), (3, .ref (a 18)), (0, .ref (a 0)), (1, .int p1), (2, .int p2)] → va_P (xD E) vwCl (wX E a u64) H → va_S (· ∈ LX a) s.heap H locs → W p l e rm_X5_by s m ([.ref (a 0), .int p1, .int p2] : List Value).toArray below meth c H locs 0 0 (xQmd E below (LX a) (some (.int ((s_X5_by u p1 p2).1))) (wX E a ((s_X5_by u p1 p2).2)) ([.ref (a 0), .int p1, .int p2] : List Value).toArray s) (F0 m 64 ls []) := by
          intro n64
          induction n64 with
          | zero => intro u64 x5 x6 x7 H locs ls hI0 hI1 hI2 hM64 hR hl hP hS; exact absurd hM64 (Nat.not_lt_zero _)
          | succ n64 ih64 =>
            intro u64 x5 x6 x7 H locs ls hI0 hI1 hI2 hM64 hR hl hP hS
            refine lv_iload hx hb dX5_by_64 (lv_at hl 0 rfl) ?_
            refine lv_bipush (v := 99) hx hb dX5_by_66 rfl ?_
            refine lv_icmp_gt (tgt := 126) hx hb dX5_by_68 rfl (fun q9 => ?_) (fun q9 => ?_)
            · have hR := hR.trans (if_pos q9)
              refine lv_aload_n hx hb dX5_by_126 rfl (lv_at hl 5 rfl) ?_
              refine va_get (D := xD E) (ci := 5) (v := .ref (a 7)) (C := RX5) (T := TX5) (N := 9) hx hb hts (by decide +kernel) hown hK hP 0 rfl rfl 4 (by decide) (hts (.fieldLink RX5 41 "RailOffsets" "line" "LRailOffsets$Line;") (by decide +kernel)) (fun _ h => h) rfl dX5_by_127 ?_
              refine lv_iload_n hx hb dX5_by_130 rfl (lv_at hl 7 rfl) ?_
              refine lv_iconst (v := 2) hx hb dX5_by_131 rfl ?_
              refine lv_iload hx hb dX5_by_132 (lv_at hl 3 rfl) ?_
              refine xMdV (nL := 9) ⟨hx, hb, hml, hown, hts⟩ (c_X0_attempt l E a u64 p2 2 (s_X2_read (s_X1_tell 1 u) p2 2) (xwm (u := u64) (p := p2) hI0 (j := 2) (by decide) (xro (by rw [(xtell _ u).1, (xtell _ u).2 2 (by decide)]; exact hp0) p2 (j := 2) (by decide)) (fun z => absurd z (by decide))) hL) (cwV 3 hts gX5_by_X0_attempt rfl rfl rfl ⟨rfl, hd_X0_attempt⟩ ⟨(Nat.le_of_ble_eq_true rfl), (Nat.le_of_ble_eq_true rfl)⟩) hF hS hL.2 (fun _ h => h) hP (va_recv (q := (RX0, TX0, 8)) hK hP (ci := 0) rfl (q0 := 7) rfl) rfl hl.1 rfl (Nat.le_of_ble_eq_true rfl) ⟨(Nat.le_of_ble_eq_true rfl), (Nat.le_of_ble_eq_true rfl)⟩ dX5_by_134 (fun H locs hP _ hS => ?_)
              refine W.eq (g2 := F0 m 137 ls []) rfl ?_
              refine lv_sipush (v := 1000) hx hb dX5_by_137 rfl ?_
              refine lv_iload hx hb dX5_by_140 (lv_at hl 2 rfl) ?_
              refine lv_iadd hx hb dX5_by_142 ?_
              have hR : s_X5_by u p1 p2 = (1000 + x5, s_X0_attempt u64 p2 2 (s_X2_read (s_X1_tell 1 u) p2 2)) := hR
              exact W.iret (v := 1000 + x5) hx hb hr (fun t ht _ => by rw [hR]; dsimp only; exact ⟨⟨rfl, by rw [ht]; exact hP⟩, hS.F ht⟩) hS.2.2 dX5_by_143
            · have hR := hR.trans (if_neg q9)
              refine lv_aload_n hx hb dX5_by_71 rfl (lv_at hl 5 rfl) ?_
              refine va_get (D := xD E) (ci := 5) (v := .ref (a 7)) (C := RX5) (T := TX5) (N := 9) hx hb hts (by decide +kernel) hown hK hP 0 rfl rfl 4 (by decide) (hts (.fieldLink RX5 41 "RailOffsets" "line" "LRailOffsets$Line;") (by decide +kernel)) (fun _ h => h) rfl dX5_by_72 ?_
              refine lv_iload_n hx hb dX5_by_75 rfl (lv_at hl 7 rfl) ?_
              refine lv_iconst (v := 2) hx hb dX5_by_76 rfl ?_
              refine lv_iload hx hb dX5_by_77 (lv_at hl 0 rfl) ?_
              refine xMdV (nL := 9) ⟨hx, hb, hml, hown, hts⟩ (c_X0_attempt l E a u64 p2 2 x7 (xwm (u := u64) (p := p2) (x := x7) hI0 (j := 2) (by decide) (xok_bend hI2 q9 (by decide) (by decide)) (fun z => absurd z (by decide))) hL) (cwV 3 hts gX5_by_X0_attempt rfl rfl rfl ⟨rfl, hd_X0_attempt⟩ ⟨(Nat.le_of_ble_eq_true rfl), (Nat.le_of_ble_eq_true rfl)⟩) hF hS hL.2 (fun _ h => h) hP (va_recv (q := (RX0, TX0, 8)) hK hP (ci := 0) rfl (q0 := 7) rfl) rfl hl.1 rfl (Nat.le_of_ble_eq_true rfl) ⟨(Nat.le_of_ble_eq_true rfl), (Nat.le_of_ble_eq_true rfl)⟩ dX5_by_79 (fun H locs hP _ hS => ?_)
              refine W.eq (g2 := F0 m 82 ls []) rfl ?_
              refine lv_aload_n hx hb dX5_by_82 rfl (lv_at hl 5 rfl) ?_
              refine va_get (D := xD E) (ci := 5) (v := .ref (a 14)) (C := RX5) (T := TX5) (N := 9) hx hb hts (by decide +kernel) hown hK hP 0 rfl rfl 5 (by decide) (hts (.fieldLink RX5 50 "RailOffsets" "old" "LRailOffsets$OldLine;") (by decide +kernel)) (fun _ h => h) rfl dX5_by_83 ?_
              refine xMdV (nL := 9) ⟨hx, hb, hml, hown, hts⟩ (c_X1_sum l E a (s_X0_attempt u64 p2 2 x7)  (by rw [s_X0_attempt_2]; exact hI1) hL) (cwV 0 hts gX5_by_X1_sum rfl rfl rfl ⟨rfl, hd_X1_sum⟩ ⟨(Nat.le_of_ble_eq_true rfl), (Nat.le_of_ble_eq_true rfl)⟩) hF hS hL.2 (fun _ h => h) hP (va_recv (q := (RX1, TX1, 3)) hK hP (ci := 1) rfl (q0 := 14) rfl) rfl hl.1 rfl (Nat.le_of_ble_eq_true rfl) ⟨(Nat.le_of_ble_eq_true rfl), (Nat.le_of_ble_eq_true rfl)⟩ dX5_by_86 (fun H locs hP _ hS => ?_)
              refine W.eq (g2 := F0 m 89 ls []) rfl ?_
              refine lv_aload_n hx hb dX5_by_89 rfl (lv_at hl 5 rfl) ?_
              refine va_get (D := xD E) (ci := 5) (v := .ref (a 14)) (C := RX5) (T := TX5) (N := 9) hx hb hts (by decide +kernel) hown hK hP 0 rfl rfl 5 (by decide) (hts (.fieldLink RX5 50 "RailOffsets" "old" "LRailOffsets$OldLine;") (by decide +kernel)) (fun _ h => h) rfl dX5_by_90 ?_
              refine xRoV (nL := 9) ⟨hx, hb, hml, hown, hts⟩ (c_X1_greatest l E a (s_X1_sum (s_X0_attempt u64 p2 2 x7))  (by rw [(xsum _).1, s_X0_attempt_2]; exact hI1)) (cwV 0 hts gX5_by_X1_greatest rfl rfl rfl ⟨rfl, hd_X1_greatest⟩ ⟨(Nat.le_of_ble_eq_true rfl), (Nat.le_of_ble_eq_true rfl)⟩) hF hS hA hP (va_recv (q := (RX1, TX1, 3)) hK hP (ci := 1) rfl (q0 := 14) rfl) rfl hl.1 rfl (Nat.le_of_ble_eq_true rfl) ⟨(Nat.le_of_ble_eq_true rfl), (Nat.le_of_ble_eq_true rfl)⟩ dX5_by_93 ?_
              refine W.eq (g2 := F0 m 96 ls [.int (s_X1_greatest (s_X1_sum (s_X0_attempt u64 p2 2 x7)))]) rfl ?_
              refine lv_istore (lv' := [(8, .int (s_X1_greatest (s_X1_sum (s_X0_attempt u64 p2 2 x7)))), (7, .int x7), (6, .int x6), (5, .int x5), (4, .int (s_X2_read (s_X1_tell 1 u) p2 2)), (3, .ref (a 18)), (0, .ref (a 0)), (1, .int p1), (2, .int p2)]) hx hb dX5_by_96 hl (by decide) rfl (fun ls hl => ?_)
              refine lv_iload hx hb dX5_by_98 (lv_at hl 1 rfl) ?_
              refine lv_bipush (v := (-99)) hx hb dX5_by_100 rfl ?_
              refine lv_icmp_eq (tgt := 112) hx hb dX5_by_102 rfl (fun q10 => ?_) (fun q10 => ?_)
              · have hR := hR.trans (if_pos q10)
                refine lv_iload hx hb dX5_by_112 (lv_at hl 0 rfl) ?_
                refine lv_istore (lv' := [(6, .int (s_X1_greatest (s_X1_sum (s_X0_attempt u64 p2 2 x7)))), (8, .int (s_X1_greatest (s_X1_sum (s_X0_attempt u64 p2 2 x7)))), (7, .int x7), (5, .int x5), (4, .int (s_X2_read (s_X1_tell 1 u) p2 2)), (3, .ref (a 18)), (0, .ref (a 0)), (1, .int p1), (2, .int p2)]) hx hb dX5_by_114 hl (by decide) rfl (fun ls hl => ?_)
                refine lv_iload hx hb dX5_by_116 (lv_at hl 2 rfl) ?_
                refine lv_istore (lv' := [(5, .int x7), (6, .int (s_X1_greatest (s_X1_sum (s_X0_attempt u64 p2 2 x7)))), (8, .int (s_X1_greatest (s_X1_sum (s_X0_attempt u64 p2 2 x7)))), (7, .int x7), (4, .int (s_X2_read (s_X1_tell 1 u) p2 2)), (3, .ref (a 18)), (0, .ref (a 0)), (1, .int p1), (2, .int p2)]) hx hb dX5_by_118 hl (by decide) rfl (fun ls hl => ?_)
                refine lv_iinc (k := 3) (v := x7 + 1) (lv' := [(7, .int (x7 + 1)), (5, .int x7), (6, .int (s_X1_greatest (s_X1_sum (s_X0_attempt u64 p2 2 x7)))), (8, .int (s_X1_greatest (s_X1_sum (s_X0_attempt u64 p2 2 x7)))), (4, .int (s_X2_read (s_X1_tell 1 u) p2 2)), (3, .ref (a 18)), (0, .ref (a 0)), (1, .int p1), (2, .int p2)]) hx hb dX5_by_120 hl rfl rfl (by decide) rfl (fun ls hl => ?_)
                refine lv_goto (tgt := 64) hx hb dX5_by_123 rfl ?_
                exact ih64 (s_X1_sum (s_X0_attempt u64 p2 2 x7)) x7 (s_X1_greatest (s_X1_sum (s_X0_attempt u64 p2 2 x7))) (x7 + 1) _ _ _ (xsumv (xav (u := u64) (p := p2) (x := x7) hI0 (j := 2) (by decide) (xok_bend hI2 q9 (by decide) (by decide)) (fun z => absurd z (by decide)))) (by rw [(xsum _).1, s_X0_attempt_2]; exact hI1) (xupge hI2 q9 (by decide)) (Nat.lt_of_lt_of_le (xupl q9 (by decide)) (Nat.le_of_lt_succ hM64)) hR (lv_sub hl [0, 2, 1, 4, 5, 6, 7, 8] rfl) hP hS
              · have hR := hR.trans (if_neg q10)
                refine lv_iload hx hb dX5_by_105 (lv_at hl 0 rfl) ?_
                refine lv_iload hx hb dX5_by_107 (lv_at hl 2 rfl) ?_
                refine lv_icmp_ge (tgt := 120) hx hb dX5_by_109 rfl (fun q11 => ?_) (fun q11 => ?_)
                · have hR := hR.trans (if_pos q11)
                  refine lv_iinc (k := 1) (v := x7 + 1) (lv' := [(7, .int (x7 + 1)), (8, .int (s_X1_greatest (s_X1_sum (s_X0_attempt u64 p2 2 x7)))), (6, .int x6), (5, .int x5), (4, .int (s_X2_read (s_X1_tell 1 u) p2 2)), (3, .ref (a 18)), (0, .ref (a 0)), (1, .int p1), (2, .int p2)]) hx hb dX5_by_120 hl rfl rfl (by decide) rfl (fun ls hl => ?_)
                  refine lv_goto (tgt := 64) hx hb dX5_by_123 rfl ?_
                  exact ih64 (s_X1_sum (s_X0_attempt u64 p2 2 x7)) x5 x6 (x7 + 1) _ _ _ (xsumv (xav (u := u64) (p := p2) (x := x7) hI0 (j := 2) (by decide) (xok_bend hI2 q9 (by decide) (by decide)) (fun z => absurd z (by decide)))) (by rw [(xsum _).1, s_X0_attempt_2]; exact hI1) (xupge hI2 q9 (by decide)) (Nat.lt_of_lt_of_le (xupl q9 (by decide)) (Nat.le_of_lt_succ hM64)) hR (lv_sub hl [0, 2, 3, 4, 5, 6, 7, 8] rfl) hP hS
                · have hR := hR.trans (if_neg q11)
                  refine lv_iload hx hb dX5_by_112 (lv_at hl 0 rfl) ?_
                  refine lv_istore (lv' := [(6, .int (s_X1_greatest (s_X1_sum (s_X0_attempt u64 p2 2 x7)))), (8, .int (s_X1_greatest (s_X1_sum (s_X0_attempt u64 p2 2 x7)))), (7, .int x7), (5, .int x5), (4, .int (s_X2_read (s_X1_tell 1 u) p2 2)), (3, .ref (a 18)), (0, .ref (a 0)), (1, .int p1), (2, .int p2)]) hx hb dX5_by_114 hl (by decide) rfl (fun ls hl => ?_)
                  refine lv_iload hx hb dX5_by_116 (lv_at hl 2 rfl) ?_
                  refine lv_istore (lv' := [(5, .int x7), (6, .int (s_X1_greatest (s_X1_sum (s_X0_attempt u64 p2 2 x7)))), (8, .int (s_X1_greatest (s_X1_sum (s_X0_attempt u64 p2 2 x7)))), (7, .int x7), (4, .int (s_X2_read (s_X1_tell 1 u) p2 2)), (3, .ref (a 18)), (0, .ref (a 0)), (1, .int p1), (2, .int p2)]) hx hb dX5_by_118 hl (by decide) rfl (fun ls hl => ?_)
                  refine lv_iinc (k := 3) (v := x7 + 1) (lv' := [(7, .int (x7 + 1)), (5, .int x7), (6, .int (s_X1_greatest (s_X1_sum (s_X0_attempt u64 p2 2 x7)))), (8, .int (s_X1_greatest (s_X1_sum (s_X0_attempt u64 p2 2 x7)))), (4, .int (s_X2_read (s_X1_tell 1 u) p2 2)), (3, .ref (a 18)), (0, .ref (a 0)), (1, .int p1), (2, .int p2)]) hx hb dX5_by_120 hl rfl rfl (by decide) rfl (fun ls hl => ?_)
                  refine lv_goto (tgt := 64) hx hb dX5_by_123 rfl ?_
                  exact ih64 (s_X1_sum (s_X0_attempt u64 p2 2 x7)) x7 (s_X1_greatest (s_X1_sum (s_X0_attempt u64 p2 2 x7))) (x7 + 1) _ _ _ (xsumv (xav (u := u64) (p := p2) (x := x7) hI0 (j := 2) (by decide) (xok_bend hI2 q9 (by decide) (by decide)) (fun z => absurd z (by decide)))) (by rw [(xsum _).1, s_X0_attempt_2]; exact hI1) (xupge hI2 q9 (by decide)) (Nat.lt_of_lt_of_le (xupl q9 (by decide)) (Nat.le_of_lt_succ hM64)) hR (lv_sub hl [0, 2, 1, 4, 5, 6, 7, 8] rfl) hP hS
        exact L64 (((99 : Int32).toInt + 1 - ((-99) : Int32).toInt).toNat + 1) (s_X1_tell 1 u) (-99) 0 (-99) _ _ ls (by rw [(xtell _ u).1, (xtell _ u).2 2 (by decide)]; exact hp0) (by rw [(xtell _ u).1]; exact hp1) (by decide) (Nat.lt_succ_self _) hR hl hP hS
      · have hR := hR.trans (if_neg q8)
        refine lv_bipush (v := (-11)) hx hb dX5_by_31 rfl ?_
        have hR : s_X5_by u p1 p2 = ((-11), u) := hR
        exact W.iret (v := (-11)) hx hb hr (fun t ht _ => by rw [hR]; dsimp only; exact ⟨⟨rfl, by rw [ht]; exact hP⟩, hS.F ht⟩) hS.2.2 dX5_by_33
    · have hR := hR.trans (if_pos q7)
      refine lv_bipush (v := (-2)) hx hb dX5_by_21 rfl ?_
      have hR : s_X5_by u p1 p2 = ((-2), u) := hR
      exact W.iret (v := (-2)) hx hb hr (fun t ht _ => by rw [hR]; dsimp only; exact ⟨⟨rfl, by rw [ht]; exact hP⟩, hS.F ht⟩) hS.2.2 dX5_by_23
  have hR := hR.trans (if_neg t1_1)
  by_cases t1_2 : p1 = 2
  · have hR := hR.trans (if_pos t1_2)
    refine xRoV (nL := 9) ⟨hx, hb, hml, hown, hts⟩ (c_X5_sheetOf l E a u p1 2 (by decide) t1_2) (cwV 1 hts gX5_by_X5_sheetOf rfl rfl rfl ⟨rfl, hd_X5_sheetOf⟩ ⟨(Nat.le_of_ble_eq_true rfl), (Nat.le_of_ble_eq_true rfl)⟩) hF hS hA hP (va_recv (q := (RX5, TX5, 9)) hK hP (ci := 5) rfl (q0 := 0) rfl) rfl hl.1 rfl (Nat.le_of_ble_eq_true rfl) ⟨(Nat.le_of_ble_eq_true rfl), (Nat.le_of_ble_eq_true rfl)⟩ dX5_by_2 ?_
    refine W.eq (g2 := F0 m 5 ls [.ref (a 19)]) rfl ?_
    refine lv_astore_n (lv' := [(3, .ref (a 19)), (0, .ref (a 0)), (1, .int p1), (2, .int p2)]) hx hb dX5_by_5 rfl hl (by decide) rfl (fun ls hl => ?_)
    refine lv_aload_n hx hb dX5_by_6 rfl (lv_at hl 0 rfl) ?_
    refine lv_ifnull hx hb dX5_by_7 ?_
    refine lv_aload_n hx hb dX5_by_10 rfl (lv_at hl 1 rfl) ?_
    refine va_get (D := xD E) (ci := 5) (v := .ref (a 1)) (C := RX5) (T := TX5) (N := 9) hx hb hts (by decide +kernel) hown hK hP 0 rfl rfl 0 (by decide) (hts (.fieldLink RX5 12 "RailOffsets" "pieces" "LRailOffsets$Pieces;") (by decide +kernel)) (fun _ h => h) rfl dX5_by_11 ?_
    refine lv_iload_n hx hb dX5_by_14 rfl (lv_at hl 3 rfl) ?_
    refine xRoV (nL := 9) ⟨hx, hb, hml, hown, hts⟩ (c_X2_has l E a u p2) (cwV 1 hts gX5_by_X2_has rfl rfl rfl ⟨rfl, hd_X2_has⟩ ⟨(Nat.le_of_ble_eq_true rfl), (Nat.le_of_ble_eq_true rfl)⟩) hF hS hA hP (va_recv (q := (RX2, TX2, 2)) hK hP (ci := 2) rfl (q0 := 1) rfl) rfl hl.1 rfl (Nat.le_of_ble_eq_true rfl) ⟨(Nat.le_of_ble_eq_true rfl), (Nat.le_of_ble_eq_true rfl)⟩ dX5_by_15 ?_
    refine W.eq (g2 := F0 m 18 ls [.int (s_X2_has u p2)]) rfl ?_
    refine lv_if_ne (tgt := 24) hx hb dX5_by_18 rfl (fun q12 => ?_) (fun q12 => ?_)
    · have hR := hR.trans (if_neg q12)
      refine lv_aload_n hx hb dX5_by_24 rfl (lv_at hl 0 rfl) ?_
      refine xRoV (nL := 9) ⟨hx, hb, hml, hown, hts⟩ (c_X3_isMissing l E (a 19) (a 23) (uS u 2) ) (cwV 0 hts gX5_by_X3_isMissing rfl rfl rfl ⟨rfl, hd_X3_isMissing⟩ ⟨(Nat.le_of_ble_eq_true rfl), (Nat.le_of_ble_eq_true rfl)⟩) hF hS hA (hP.sub [19, 23] rfl) (va_recv (q := (RX3, TX3, 3)) hK hP (ci := 3) rfl (q0 := 19) rfl) rfl hl.1 rfl (Nat.le_of_ble_eq_true rfl) ⟨(Nat.le_of_ble_eq_true rfl), (Nat.le_of_ble_eq_true rfl)⟩ dX5_by_25 ?_
      refine W.eq (g2 := F0 m 28 ls [.int (s_X3_isMissing (uS u 2))]) rfl ?_
      refine lv_if_eq (tgt := 34) hx hb dX5_by_28 rfl (fun q13 => ?_) (fun q13 => ?_)
      · have hR := hR.trans (if_pos q13)
        refine lv_aload_n hx hb dX5_by_34 rfl (lv_at hl 1 rfl) ?_
        refine va_get (D := xD E) (ci := 5) (v := .ref (a 14)) (C := RX5) (T := TX5) (N := 9) hx hb hts (by decide +kernel) hown hK hP 0 rfl rfl 5 (by decide) (hts (.fieldLink RX5 50 "RailOffsets" "old" "LRailOffsets$OldLine;") (by decide +kernel)) (fun _ h => h) rfl dX5_by_35 ?_
        refine lv_aload_n hx hb dX5_by_38 rfl (lv_at hl 0 rfl) ?_
        refine xMdV (nL := 9) ⟨hx, hb, hml, hown, hts⟩ (c_X1_tell l E a u 2 (by decide)  (hp1) hL) (cwV 1 hts gX5_by_X1_tell rfl rfl rfl ⟨rfl, hd_X1_tell⟩ ⟨(Nat.le_of_ble_eq_true rfl), (Nat.le_of_ble_eq_true rfl)⟩) hF hS hL.2 (fun _ h => h) hP (va_recv (q := (RX1, TX1, 3)) hK hP (ci := 1) rfl (q0 := 14) rfl) rfl hl.1 rfl (Nat.le_of_ble_eq_true rfl) ⟨(Nat.le_of_ble_eq_true rfl), (Nat.le_of_ble_eq_true rfl)⟩ dX5_by_39 (fun H locs hP _ hS => ?_)
        refine W.eq (g2 := F0 m 42 ls []) rfl ?_
        refine lv_aload_n hx hb dX5_by_42 rfl (lv_at hl 1 rfl) ?_
        refine va_get (D := xD E) (ci := 5) (v := .ref (a 1)) (C := RX5) (T := TX5) (N := 9) hx hb hts (by decide +kernel) hown hK hP 0 rfl rfl 0 (by decide) (hts (.fieldLink RX5 12 "RailOffsets" "pieces" "LRailOffsets$Pieces;") (by decide +kernel)) (fun _ h => h) rfl dX5_by_43 ?_
        refine lv_iload_n hx hb dX5_by_46 rfl (lv_at hl 3 rfl) ?_
        refine lv_iconst (v := 2) hx hb dX5_by_47 rfl ?_
        refine xRoV (nL := 9) ⟨hx, hb, hml, hown, hts⟩ (c_X2_read l E a (s_X1_tell 2 u) p2 2) (cwV 2 hts gX5_by_X2_read rfl rfl rfl ⟨rfl, hd_X2_read⟩ ⟨(Nat.le_of_ble_eq_true rfl), (Nat.le_of_ble_eq_true rfl)⟩) hF hS hA hP (va_recv (q := (RX2, TX2, 2)) hK hP (ci := 2) rfl (q0 := 1) rfl) rfl hl.1 rfl (Nat.le_of_ble_eq_true rfl) ⟨(Nat.le_of_ble_eq_true rfl), (Nat.le_of_ble_eq_true rfl)⟩ dX5_by_48 ?_
        refine W.eq (g2 := F0 m 51 ls [.int (s_X2_read (s_X1_tell 2 u) p2 2)]) rfl ?_
        refine lv_istore (lv' := [(4, .int (s_X2_read (s_X1_tell 2 u) p2 2)), (3, .ref (a 19)), (0, .ref (a 0)), (1, .int p1), (2, .int p2)]) hx hb dX5_by_51 hl (by decide) rfl (fun ls hl => ?_)
        refine lv_bipush (v := (-99)) hx hb dX5_by_53 rfl ?_
        refine lv_istore (lv' := [(5, .int (-99)), (4, .int (s_X2_read (s_X1_tell 2 u) p2 2)), (3, .ref (a 19)), (0, .ref (a 0)), (1, .int p1), (2, .int p2)]) hx hb dX5_by_55 hl (by decide) rfl (fun ls hl => ?_)
        refine lv_iconst (v := 0) hx hb dX5_by_57 rfl ?_
        refine lv_istore (lv' := [(6, .int 0), (5, .int (-99)), (4, .int (s_X2_read (s_X1_tell 2 u) p2 2)), (3, .ref (a 19)), (0, .ref (a 0)), (1, .int p1), (2, .int p2)]) hx hb dX5_by_58 hl (by decide) rfl (fun ls hl => ?_)
        refine lv_bipush (v := (-99)) hx hb dX5_by_60 rfl ?_
        refine lv_istore (lv' := [(7, .int (-99)), (6, .int 0), (5, .int (-99)), (4, .int (s_X2_read (s_X1_tell 2 u) p2 2)), (3, .ref (a 19)), (0, .ref (a 0)), (1, .int p1), (2, .int p2)]) hx hb dX5_by_62 hl (by decide) rfl (fun ls hl => ?_)
        have L64 : ∀ (n64 : Nat) (u64 : xU) (x5 : Int32) (x6 : Int32) (x7 : Int32) (H : Heap) (locs : List Loc) (ls : Array Slot), (XV (u64.1 2) (u64.2 1)) → ((u64.2 3).toInt < 2147483647) → (¬ x7 < (-99)) → ((99 : Int32).toInt + 1 - x7.toInt).toNat < n64 → s_X5_by u p1 p2 = s_X5_by_L64_2 n64 u64 p1 p2 (s_X2_read (s_X1_tell 2 u) p2 2) x5 x6 x7 → lv_has ls 9 [(7, .int x7), (6, .int x6), (5, .int x5), (4, .int (s_X2_read (s_X1_tell 2 u) p2 2)), (3, .ref (a 19)), (0, .ref (a 0)), (1, .int p1), (2, .int p2)] → va_P (xD E) vwCl (wX E a u64) H → va_S (· ∈ LX a) s.heap H locs → W p l e rm_X5_by s m ([.ref (a 0), .int p1, .int p2] : List Value).toArray below meth c H locs 0 0 (xQmd E below (LX a) (some (.int ((s_X5_by u p1 p2).1))) (wX E a ((s_X5_by u p1 p2).2)) ([.ref (a 0), .int p1, .int p2] : List Value).toArray s) (F0 m 64 ls []) := by
          intro n64
          induction n64 with
          | zero => intro u64 x5 x6 x7 H locs ls hI0 hI1 hI2 hM64 hR hl hP hS; exact absurd hM64 (Nat.not_lt_zero _)
          | succ n64 ih64 =>
            intro u64 x5 x6 x7 H locs ls hI0 hI1 hI2 hM64 hR hl hP hS
            refine lv_iload hx hb dX5_by_64 (lv_at hl 0 rfl) ?_
            refine lv_bipush (v := 99) hx hb dX5_by_66 rfl ?_
            refine lv_icmp_gt (tgt := 126) hx hb dX5_by_68 rfl (fun q14 => ?_) (fun q14 => ?_)
            · have hR := hR.trans (if_pos q14)
              refine lv_aload_n hx hb dX5_by_126 rfl (lv_at hl 5 rfl) ?_
              refine va_get (D := xD E) (ci := 5) (v := .ref (a 7)) (C := RX5) (T := TX5) (N := 9) hx hb hts (by decide +kernel) hown hK hP 0 rfl rfl 4 (by decide) (hts (.fieldLink RX5 41 "RailOffsets" "line" "LRailOffsets$Line;") (by decide +kernel)) (fun _ h => h) rfl dX5_by_127 ?_
              refine lv_iload_n hx hb dX5_by_130 rfl (lv_at hl 7 rfl) ?_
              refine lv_iconst (v := 2) hx hb dX5_by_131 rfl ?_
              refine lv_iload hx hb dX5_by_132 (lv_at hl 3 rfl) ?_
              refine xMdV (nL := 9) ⟨hx, hb, hml, hown, hts⟩ (c_X0_attempt l E a u64 p2 2 (s_X2_read (s_X1_tell 2 u) p2 2) (xwm (u := u64) (p := p2) hI0 (j := 2) (by decide) (xro (by rw [(xtell _ u).1, (xtell _ u).2 2 (by decide)]; exact hp0) p2 (j := 2) (by decide)) (fun z => absurd z (by decide))) hL) (cwV 3 hts gX5_by_X0_attempt rfl rfl rfl ⟨rfl, hd_X0_attempt⟩ ⟨(Nat.le_of_ble_eq_true rfl), (Nat.le_of_ble_eq_true rfl)⟩) hF hS hL.2 (fun _ h => h) hP (va_recv (q := (RX0, TX0, 8)) hK hP (ci := 0) rfl (q0 := 7) rfl) rfl hl.1 rfl (Nat.le_of_ble_eq_true rfl) ⟨(Nat.le_of_ble_eq_true rfl), (Nat.le_of_ble_eq_true rfl)⟩ dX5_by_134 (fun H locs hP _ hS => ?_)
              refine W.eq (g2 := F0 m 137 ls []) rfl ?_
              refine lv_sipush (v := 1000) hx hb dX5_by_137 rfl ?_
              refine lv_iload hx hb dX5_by_140 (lv_at hl 2 rfl) ?_
              refine lv_iadd hx hb dX5_by_142 ?_
              have hR : s_X5_by u p1 p2 = (1000 + x5, s_X0_attempt u64 p2 2 (s_X2_read (s_X1_tell 2 u) p2 2)) := hR
              exact W.iret (v := 1000 + x5) hx hb hr (fun t ht _ => by rw [hR]; dsimp only; exact ⟨⟨rfl, by rw [ht]; exact hP⟩, hS.F ht⟩) hS.2.2 dX5_by_143
            · have hR := hR.trans (if_neg q14)
              refine lv_aload_n hx hb dX5_by_71 rfl (lv_at hl 5 rfl) ?_
              refine va_get (D := xD E) (ci := 5) (v := .ref (a 7)) (C := RX5) (T := TX5) (N := 9) hx hb hts (by decide +kernel) hown hK hP 0 rfl rfl 4 (by decide) (hts (.fieldLink RX5 41 "RailOffsets" "line" "LRailOffsets$Line;") (by decide +kernel)) (fun _ h => h) rfl dX5_by_72 ?_
              refine lv_iload_n hx hb dX5_by_75 rfl (lv_at hl 7 rfl) ?_
              refine lv_iconst (v := 2) hx hb dX5_by_76 rfl ?_
              refine lv_iload hx hb dX5_by_77 (lv_at hl 0 rfl) ?_
              refine xMdV (nL := 9) ⟨hx, hb, hml, hown, hts⟩ (c_X0_attempt l E a u64 p2 2 x7 (xwm (u := u64) (p := p2) (x := x7) hI0 (j := 2) (by decide) (xok_bend hI2 q14 (by decide) (by decide)) (fun z => absurd z (by decide))) hL) (cwV 3 hts gX5_by_X0_attempt rfl rfl rfl ⟨rfl, hd_X0_attempt⟩ ⟨(Nat.le_of_ble_eq_true rfl), (Nat.le_of_ble_eq_true rfl)⟩) hF hS hL.2 (fun _ h => h) hP (va_recv (q := (RX0, TX0, 8)) hK hP (ci := 0) rfl (q0 := 7) rfl) rfl hl.1 rfl (Nat.le_of_ble_eq_true rfl) ⟨(Nat.le_of_ble_eq_true rfl), (Nat.le_of_ble_eq_true rfl)⟩ dX5_by_79 (fun H locs hP _ hS => ?_)
              refine W.eq (g2 := F0 m 82 ls []) rfl ?_
              refine lv_aload_n hx hb dX5_by_82 rfl (lv_at hl 5 rfl) ?_
              refine va_get (D := xD E) (ci := 5) (v := .ref (a 14)) (C := RX5) (T := TX5) (N := 9) hx hb hts (by decide +kernel) hown hK hP 0 rfl rfl 5 (by decide) (hts (.fieldLink RX5 50 "RailOffsets" "old" "LRailOffsets$OldLine;") (by decide +kernel)) (fun _ h => h) rfl dX5_by_83 ?_
              refine xMdV (nL := 9) ⟨hx, hb, hml, hown, hts⟩ (c_X1_sum l E a (s_X0_attempt u64 p2 2 x7)  (by rw [s_X0_attempt_2]; exact hI1) hL) (cwV 0 hts gX5_by_X1_sum rfl rfl rfl ⟨rfl, hd_X1_sum⟩ ⟨(Nat.le_of_ble_eq_true rfl), (Nat.le_of_ble_eq_true rfl)⟩) hF hS hL.2 (fun _ h => h) hP (va_recv (q := (RX1, TX1, 3)) hK hP (ci := 1) rfl (q0 := 14) rfl) rfl hl.1 rfl (Nat.le_of_ble_eq_true rfl) ⟨(Nat.le_of_ble_eq_true rfl), (Nat.le_of_ble_eq_true rfl)⟩ dX5_by_86 (fun H locs hP _ hS => ?_)
              refine W.eq (g2 := F0 m 89 ls []) rfl ?_
              refine lv_aload_n hx hb dX5_by_89 rfl (lv_at hl 5 rfl) ?_
              refine va_get (D := xD E) (ci := 5) (v := .ref (a 14)) (C := RX5) (T := TX5) (N := 9) hx hb hts (by decide +kernel) hown hK hP 0 rfl rfl 5 (by decide) (hts (.fieldLink RX5 50 "RailOffsets" "old" "LRailOffsets$OldLine;") (by decide +kernel)) (fun _ h => h) rfl dX5_by_90 ?_
              refine xRoV (nL := 9) ⟨hx, hb, hml, hown, hts⟩ (c_X1_greatest l E a (s_X1_sum (s_X0_attempt u64 p2 2 x7))  (by rw [(xsum _).1, s_X0_attempt_2]; exact hI1)) (cwV 0 hts gX5_by_X1_greatest rfl rfl rfl ⟨rfl, hd_X1_greatest⟩ ⟨(Nat.le_of_ble_eq_true rfl), (Nat.le_of_ble_eq_true rfl)⟩) hF hS hA hP (va_recv (q := (RX1, TX1, 3)) hK hP (ci := 1) rfl (q0 := 14) rfl) rfl hl.1 rfl (Nat.le_of_ble_eq_true rfl) ⟨(Nat.le_of_ble_eq_true rfl), (Nat.le_of_ble_eq_true rfl)⟩ dX5_by_93 ?_
              refine W.eq (g2 := F0 m 96 ls [.int (s_X1_greatest (s_X1_sum (s_X0_attempt u64 p2 2 x7)))]) rfl ?_
              refine lv_istore (lv' := [(8, .int (s_X1_greatest (s_X1_sum (s_X0_attempt u64 p2 2 x7)))), (7, .int x7), (6, .int x6), (5, .int x5), (4, .int (s_X2_read (s_X1_tell 2 u) p2 2)), (3, .ref (a 19)), (0, .ref (a 0)), (1, .int p1), (2, .int p2)]) hx hb dX5_by_96 hl (by decide) rfl (fun ls hl => ?_)
              refine lv_iload hx hb dX5_by_98 (lv_at hl 1 rfl) ?_
              refine lv_bipush (v := (-99)) hx hb dX5_by_100 rfl ?_
              refine lv_icmp_eq (tgt := 112) hx hb dX5_by_102 rfl (fun q15 => ?_) (fun q15 => ?_)
              · have hR := hR.trans (if_pos q15)
                refine lv_iload hx hb dX5_by_112 (lv_at hl 0 rfl) ?_
                refine lv_istore (lv' := [(6, .int (s_X1_greatest (s_X1_sum (s_X0_attempt u64 p2 2 x7)))), (8, .int (s_X1_greatest (s_X1_sum (s_X0_attempt u64 p2 2 x7)))), (7, .int x7), (5, .int x5), (4, .int (s_X2_read (s_X1_tell 2 u) p2 2)), (3, .ref (a 19)), (0, .ref (a 0)), (1, .int p1), (2, .int p2)]) hx hb dX5_by_114 hl (by decide) rfl (fun ls hl => ?_)
                refine lv_iload hx hb dX5_by_116 (lv_at hl 2 rfl) ?_
                refine lv_istore (lv' := [(5, .int x7), (6, .int (s_X1_greatest (s_X1_sum (s_X0_attempt u64 p2 2 x7)))), (8, .int (s_X1_greatest (s_X1_sum (s_X0_attempt u64 p2 2 x7)))), (7, .int x7), (4, .int (s_X2_read (s_X1_tell 2 u) p2 2)), (3, .ref (a 19)), (0, .ref (a 0)), (1, .int p1), (2, .int p2)]) hx hb dX5_by_118 hl (by decide) rfl (fun ls hl => ?_)
                refine lv_iinc (k := 3) (v := x7 + 1) (lv' := [(7, .int (x7 + 1)), (5, .int x7), (6, .int (s_X1_greatest (s_X1_sum (s_X0_attempt u64 p2 2 x7)))), (8, .int (s_X1_greatest (s_X1_sum (s_X0_attempt u64 p2 2 x7)))), (4, .int (s_X2_read (s_X1_tell 2 u) p2 2)), (3, .ref (a 19)), (0, .ref (a 0)), (1, .int p1), (2, .int p2)]) hx hb dX5_by_120 hl rfl rfl (by decide) rfl (fun ls hl => ?_)
                refine lv_goto (tgt := 64) hx hb dX5_by_123 rfl ?_
                exact ih64 (s_X1_sum (s_X0_attempt u64 p2 2 x7)) x7 (s_X1_greatest (s_X1_sum (s_X0_attempt u64 p2 2 x7))) (x7 + 1) _ _ _ (xsumv (xav (u := u64) (p := p2) (x := x7) hI0 (j := 2) (by decide) (xok_bend hI2 q14 (by decide) (by decide)) (fun z => absurd z (by decide)))) (by rw [(xsum _).1, s_X0_attempt_2]; exact hI1) (xupge hI2 q14 (by decide)) (Nat.lt_of_lt_of_le (xupl q14 (by decide)) (Nat.le_of_lt_succ hM64)) hR (lv_sub hl [0, 2, 1, 4, 5, 6, 7, 8] rfl) hP hS
              · have hR := hR.trans (if_neg q15)
                refine lv_iload hx hb dX5_by_105 (lv_at hl 0 rfl) ?_
                refine lv_iload hx hb dX5_by_107 (lv_at hl 2 rfl) ?_
                refine lv_icmp_ge (tgt := 120) hx hb dX5_by_109 rfl (fun q16 => ?_) (fun q16 => ?_)
                · have hR := hR.trans (if_pos q16)
                  refine lv_iinc (k := 1) (v := x7 + 1) (lv' := [(7, .int (x7 + 1)), (8, .int (s_X1_greatest (s_X1_sum (s_X0_attempt u64 p2 2 x7)))), (6, .int x6), (5, .int x5), (4, .int (s_X2_read (s_X1_tell 2 u) p2 2)), (3, .ref (a 19)), (0, .ref (a 0)), (1, .int p1), (2, .int p2)]) hx hb dX5_by_120 hl rfl rfl (by decide) rfl (fun ls hl => ?_)
                  refine lv_goto (tgt := 64) hx hb dX5_by_123 rfl ?_
                  exact ih64 (s_X1_sum (s_X0_attempt u64 p2 2 x7)) x5 x6 (x7 + 1) _ _ _ (xsumv (xav (u := u64) (p := p2) (x := x7) hI0 (j := 2) (by decide) (xok_bend hI2 q14 (by decide) (by decide)) (fun z => absurd z (by decide)))) (by rw [(xsum _).1, s_X0_attempt_2]; exact hI1) (xupge hI2 q14 (by decide)) (Nat.lt_of_lt_of_le (xupl q14 (by decide)) (Nat.le_of_lt_succ hM64)) hR (lv_sub hl [0, 2, 3, 4, 5, 6, 7, 8] rfl) hP hS
                · have hR := hR.trans (if_neg q16)
                  refine lv_iload hx hb dX5_by_112 (lv_at hl 0 rfl) ?_
                  refine lv_istore (lv' := [(6, .int (s_X1_greatest (s_X1_sum (s_X0_attempt u64 p2 2 x7)))), (8, .int (s_X1_greatest (s_X1_sum (s_X0_attempt u64 p2 2 x7)))), (7, .int x7), (5, .int x5), (4, .int (s_X2_read (s_X1_tell 2 u) p2 2)), (3, .ref (a 19)), (0, .ref (a 0)), (1, .int p1), (2, .int p2)]) hx hb dX5_by_114 hl (by decide) rfl (fun ls hl => ?_)
                  refine lv_iload hx hb dX5_by_116 (lv_at hl 2 rfl) ?_
                  refine lv_istore (lv' := [(5, .int x7), (6, .int (s_X1_greatest (s_X1_sum (s_X0_attempt u64 p2 2 x7)))), (8, .int (s_X1_greatest (s_X1_sum (s_X0_attempt u64 p2 2 x7)))), (7, .int x7), (4, .int (s_X2_read (s_X1_tell 2 u) p2 2)), (3, .ref (a 19)), (0, .ref (a 0)), (1, .int p1), (2, .int p2)]) hx hb dX5_by_118 hl (by decide) rfl (fun ls hl => ?_)
                  refine lv_iinc (k := 3) (v := x7 + 1) (lv' := [(7, .int (x7 + 1)), (5, .int x7), (6, .int (s_X1_greatest (s_X1_sum (s_X0_attempt u64 p2 2 x7)))), (8, .int (s_X1_greatest (s_X1_sum (s_X0_attempt u64 p2 2 x7)))), (4, .int (s_X2_read (s_X1_tell 2 u) p2 2)), (3, .ref (a 19)), (0, .ref (a 0)), (1, .int p1), (2, .int p2)]) hx hb dX5_by_120 hl rfl rfl (by decide) rfl (fun ls hl => ?_)
                  refine lv_goto (tgt := 64) hx hb dX5_by_123 rfl ?_
                  exact ih64 (s_X1_sum (s_X0_attempt u64 p2 2 x7)) x7 (s_X1_greatest (s_X1_sum (s_X0_attempt u64 p2 2 x7))) (x7 + 1) _ _ _ (xsumv (xav (u := u64) (p := p2) (x := x7) hI0 (j := 2) (by decide) (xok_bend hI2 q14 (by decide) (by decide)) (fun z => absurd z (by decide)))) (by rw [(xsum _).1, s_X0_attempt_2]; exact hI1) (xupge hI2 q14 (by decide)) (Nat.lt_of_lt_of_le (xupl q14 (by decide)) (Nat.le_of_lt_succ hM64)) hR (lv_sub hl [0, 2, 1, 4, 5, 6, 7, 8] rfl) hP hS
        exact L64 (((99 : Int32).toInt + 1 - ((-99) : Int32).toInt).toNat + 1) (s_X1_tell 2 u) (-99) 0 (-99) _ _ ls (by rw [(xtell _ u).1, (xtell _ u).2 2 (by decide)]; exact hp0) (by rw [(xtell _ u).1]; exact hp1) (by decide) (Nat.lt_succ_self _) hR hl hP hS
      · have hR := hR.trans (if_neg q13)
        refine lv_bipush (v := (-11)) hx hb dX5_by_31 rfl ?_
        have hR : s_X5_by u p1 p2 = ((-11), u) := hR
        exact W.iret (v := (-11)) hx hb hr (fun t ht _ => by rw [hR]; dsimp only; exact ⟨⟨rfl, by rw [ht]; exact hP⟩, hS.F ht⟩) hS.2.2 dX5_by_33
    · have hR := hR.trans (if_pos q12)
      refine lv_bipush (v := (-2)) hx hb dX5_by_21 rfl ?_
      have hR : s_X5_by u p1 p2 = ((-2), u) := hR
      exact W.iret (v := (-2)) hx hb hr (fun t ht _ => by rw [hR]; dsimp only; exact ⟨⟨rfl, by rw [ht]; exact hP⟩, hS.F ht⟩) hS.2.2 dX5_by_23
  have hR := hR.trans (if_neg t1_2)
  by_cases t1_3 : p1 = 3
  · have hR := hR.trans (if_pos t1_3)
    refine xRoV (nL := 9) ⟨hx, hb, hml, hown, hts⟩ (c_X5_sheetOf l E a u p1 3 (by decide) t1_3) (cwV 1 hts gX5_by_X5_sheetOf rfl rfl rfl ⟨rfl, hd_X5_sheetOf⟩ ⟨(Nat.le_of_ble_eq_true rfl), (Nat.le_of_ble_eq_true rfl)⟩) hF hS hA hP (va_recv (q := (RX5, TX5, 9)) hK hP (ci := 5) rfl (q0 := 0) rfl) rfl hl.1 rfl (Nat.le_of_ble_eq_true rfl) ⟨(Nat.le_of_ble_eq_true rfl), (Nat.le_of_ble_eq_true rfl)⟩ dX5_by_2 ?_
    refine W.eq (g2 := F0 m 5 ls [.ref (a 20)]) rfl ?_
    refine lv_astore_n (lv' := [(3, .ref (a 20)), (0, .ref (a 0)), (1, .int p1), (2, .int p2)]) hx hb dX5_by_5 rfl hl (by decide) rfl (fun ls hl => ?_)
    refine lv_aload_n hx hb dX5_by_6 rfl (lv_at hl 0 rfl) ?_
    refine lv_ifnull hx hb dX5_by_7 ?_
    refine lv_aload_n hx hb dX5_by_10 rfl (lv_at hl 1 rfl) ?_
    refine va_get (D := xD E) (ci := 5) (v := .ref (a 1)) (C := RX5) (T := TX5) (N := 9) hx hb hts (by decide +kernel) hown hK hP 0 rfl rfl 0 (by decide) (hts (.fieldLink RX5 12 "RailOffsets" "pieces" "LRailOffsets$Pieces;") (by decide +kernel)) (fun _ h => h) rfl dX5_by_11 ?_
    refine lv_iload_n hx hb dX5_by_14 rfl (lv_at hl 3 rfl) ?_
    refine xRoV (nL := 9) ⟨hx, hb, hml, hown, hts⟩ (c_X2_has l E a u p2) (cwV 1 hts gX5_by_X2_has rfl rfl rfl ⟨rfl, hd_X2_has⟩ ⟨(Nat.le_of_ble_eq_true rfl), (Nat.le_of_ble_eq_true rfl)⟩) hF hS hA hP (va_recv (q := (RX2, TX2, 2)) hK hP (ci := 2) rfl (q0 := 1) rfl) rfl hl.1 rfl (Nat.le_of_ble_eq_true rfl) ⟨(Nat.le_of_ble_eq_true rfl), (Nat.le_of_ble_eq_true rfl)⟩ dX5_by_15 ?_
    refine W.eq (g2 := F0 m 18 ls [.int (s_X2_has u p2)]) rfl ?_
    refine lv_if_ne (tgt := 24) hx hb dX5_by_18 rfl (fun q17 => ?_) (fun q17 => ?_)
    · have hR := hR.trans (if_neg q17)
      refine lv_aload_n hx hb dX5_by_24 rfl (lv_at hl 0 rfl) ?_
      refine xRoV (nL := 9) ⟨hx, hb, hml, hown, hts⟩ (c_X3_isMissing l E (a 20) (a 24) (uS u 3) ) (cwV 0 hts gX5_by_X3_isMissing rfl rfl rfl ⟨rfl, hd_X3_isMissing⟩ ⟨(Nat.le_of_ble_eq_true rfl), (Nat.le_of_ble_eq_true rfl)⟩) hF hS hA (hP.sub [20, 24] rfl) (va_recv (q := (RX3, TX3, 3)) hK hP (ci := 3) rfl (q0 := 20) rfl) rfl hl.1 rfl (Nat.le_of_ble_eq_true rfl) ⟨(Nat.le_of_ble_eq_true rfl), (Nat.le_of_ble_eq_true rfl)⟩ dX5_by_25 ?_
      refine W.eq (g2 := F0 m 28 ls [.int (s_X3_isMissing (uS u 3))]) rfl ?_
      refine lv_if_eq (tgt := 34) hx hb dX5_by_28 rfl (fun q18 => ?_) (fun q18 => ?_)
      · have hR := hR.trans (if_pos q18)
        refine lv_aload_n hx hb dX5_by_34 rfl (lv_at hl 1 rfl) ?_
        refine va_get (D := xD E) (ci := 5) (v := .ref (a 14)) (C := RX5) (T := TX5) (N := 9) hx hb hts (by decide +kernel) hown hK hP 0 rfl rfl 5 (by decide) (hts (.fieldLink RX5 50 "RailOffsets" "old" "LRailOffsets$OldLine;") (by decide +kernel)) (fun _ h => h) rfl dX5_by_35 ?_
        refine lv_aload_n hx hb dX5_by_38 rfl (lv_at hl 0 rfl) ?_
        refine xMdV (nL := 9) ⟨hx, hb, hml, hown, hts⟩ (c_X1_tell l E a u 3 (by decide)  (hp1) hL) (cwV 1 hts gX5_by_X1_tell rfl rfl rfl ⟨rfl, hd_X1_tell⟩ ⟨(Nat.le_of_ble_eq_true rfl), (Nat.le_of_ble_eq_true rfl)⟩) hF hS hL.2 (fun _ h => h) hP (va_recv (q := (RX1, TX1, 3)) hK hP (ci := 1) rfl (q0 := 14) rfl) rfl hl.1 rfl (Nat.le_of_ble_eq_true rfl) ⟨(Nat.le_of_ble_eq_true rfl), (Nat.le_of_ble_eq_true rfl)⟩ dX5_by_39 (fun H locs hP _ hS => ?_)
        refine W.eq (g2 := F0 m 42 ls []) rfl ?_
        refine lv_aload_n hx hb dX5_by_42 rfl (lv_at hl 1 rfl) ?_
        refine va_get (D := xD E) (ci := 5) (v := .ref (a 1)) (C := RX5) (T := TX5) (N := 9) hx hb hts (by decide +kernel) hown hK hP 0 rfl rfl 0 (by decide) (hts (.fieldLink RX5 12 "RailOffsets" "pieces" "LRailOffsets$Pieces;") (by decide +kernel)) (fun _ h => h) rfl dX5_by_43 ?_
        refine lv_iload_n hx hb dX5_by_46 rfl (lv_at hl 3 rfl) ?_
        refine lv_iconst (v := 2) hx hb dX5_by_47 rfl ?_
        refine xRoV (nL := 9) ⟨hx, hb, hml, hown, hts⟩ (c_X2_read l E a (s_X1_tell 3 u) p2 2) (cwV 2 hts gX5_by_X2_read rfl rfl rfl ⟨rfl, hd_X2_read⟩ ⟨(Nat.le_of_ble_eq_true rfl), (Nat.le_of_ble_eq_true rfl)⟩) hF hS hA hP (va_recv (q := (RX2, TX2, 2)) hK hP (ci := 2) rfl (q0 := 1) rfl) rfl hl.1 rfl (Nat.le_of_ble_eq_true rfl) ⟨(Nat.le_of_ble_eq_true rfl), (Nat.le_of_ble_eq_true rfl)⟩ dX5_by_48 ?_
        refine W.eq (g2 := F0 m 51 ls [.int (s_X2_read (s_X1_tell 3 u) p2 2)]) rfl ?_
        refine lv_istore (lv' := [(4, .int (s_X2_read (s_X1_tell 3 u) p2 2)), (3, .ref (a 20)), (0, .ref (a 0)), (1, .int p1), (2, .int p2)]) hx hb dX5_by_51 hl (by decide) rfl (fun ls hl => ?_)
        refine lv_bipush (v := (-99)) hx hb dX5_by_53 rfl ?_
        refine lv_istore (lv' := [(5, .int (-99)), (4, .int (s_X2_read (s_X1_tell 3 u) p2 2)), (3, .ref (a 20)), (0, .ref (a 0)), (1, .int p1), (2, .int p2)]) hx hb dX5_by_55 hl (by decide) rfl (fun ls hl => ?_)
        refine lv_iconst (v := 0) hx hb dX5_by_57 rfl ?_
        refine lv_istore (lv' := [(6, .int 0), (5, .int (-99)), (4, .int (s_X2_read (s_X1_tell 3 u) p2 2)), (3, .ref (a 20)), (0, .ref (a 0)), (1, .int p1), (2, .int p2)]) hx hb dX5_by_58 hl (by decide) rfl (fun ls hl => ?_)
        refine lv_bipush (v := (-99)) hx hb dX5_by_60 rfl ?_
        refine lv_istore (lv' := [(7, .int (-99)), (6, .int 0), (5, .int (-99)), (4, .int (s_X2_read (s_X1_tell 3 u) p2 2)), (3, .ref (a 20)), (0, .ref (a 0)), (1, .int p1), (2, .int p2)]) hx hb dX5_by_62 hl (by decide) rfl (fun ls hl => ?_)
        have L64 : ∀ (n64 : Nat) (u64 : xU) (x5 : Int32) (x6 : Int32) (x7 : Int32) (H : Heap) (locs : List Loc) (ls : Array Slot), (XV (u64.1 2) (u64.2 1)) → ((u64.2 3).toInt < 2147483647) → (¬ x7 < (-99)) → ((99 : Int32).toInt + 1 - x7.toInt).toNat < n64 → s_X5_by u p1 p2 = s_X5_by_L64_3 n64 u64 p1 p2 (s_X2_read (s_X1_tell 3 u) p2 2) x5 x6 x7 → lv_has ls 9 [(7, .int x7), (6, .int x6), (5, .int x5), (4, .int (s_X2_read (s_X1_tell 3 u) p2 2)), (3, .ref (a 20)), (0, .ref (a 0)), (1, .int p1), (2, .int p2)] → va_P (xD E) vwCl (wX E a u64) H → va_S (· ∈ LX a) s.heap H locs → W p l e rm_X5_by s m ([.ref (a 0), .int p1, .int p2] : List Value).toArray below meth c H locs 0 0 (xQmd E below (LX a) (some (.int ((s_X5_by u p1 p2).1))) (wX E a ((s_X5_by u p1 p2).2)) ([.ref (a 0), .int p1, .int p2] : List Value).toArray s) (F0 m 64 ls []) := by
          intro n64
          induction n64 with
          | zero => intro u64 x5 x6 x7 H locs ls hI0 hI1 hI2 hM64 hR hl hP hS; exact absurd hM64 (Nat.not_lt_zero _)
          | succ n64 ih64 =>
            intro u64 x5 x6 x7 H locs ls hI0 hI1 hI2 hM64 hR hl hP hS
            refine lv_iload hx hb dX5_by_64 (lv_at hl 0 rfl) ?_
            refine lv_bipush (v := 99) hx hb dX5_by_66 rfl ?_
            refine lv_icmp_gt (tgt := 126) hx hb dX5_by_68 rfl (fun q19 => ?_) (fun q19 => ?_)
            · have hR := hR.trans (if_pos q19)
              refine lv_aload_n hx hb dX5_by_126 rfl (lv_at hl 5 rfl) ?_
              refine va_get (D := xD E) (ci := 5) (v := .ref (a 7)) (C := RX5) (T := TX5) (N := 9) hx hb hts (by decide +kernel) hown hK hP 0 rfl rfl 4 (by decide) (hts (.fieldLink RX5 41 "RailOffsets" "line" "LRailOffsets$Line;") (by decide +kernel)) (fun _ h => h) rfl dX5_by_127 ?_
              refine lv_iload_n hx hb dX5_by_130 rfl (lv_at hl 7 rfl) ?_
              refine lv_iconst (v := 2) hx hb dX5_by_131 rfl ?_
              refine lv_iload hx hb dX5_by_132 (lv_at hl 3 rfl) ?_
              refine xMdV (nL := 9) ⟨hx, hb, hml, hown, hts⟩ (c_X0_attempt l E a u64 p2 2 (s_X2_read (s_X1_tell 3 u) p2 2) (xwm (u := u64) (p := p2) hI0 (j := 2) (by decide) (xro (by rw [(xtell _ u).1, (xtell _ u).2 2 (by decide)]; exact hp0) p2 (j := 2) (by decide)) (fun z => absurd z (by decide))) hL) (cwV 3 hts gX5_by_X0_attempt rfl rfl rfl ⟨rfl, hd_X0_attempt⟩ ⟨(Nat.le_of_ble_eq_true rfl), (Nat.le_of_ble_eq_true rfl)⟩) hF hS hL.2 (fun _ h => h) hP (va_recv (q := (RX0, TX0, 8)) hK hP (ci := 0) rfl (q0 := 7) rfl) rfl hl.1 rfl (Nat.le_of_ble_eq_true rfl) ⟨(Nat.le_of_ble_eq_true rfl), (Nat.le_of_ble_eq_true rfl)⟩ dX5_by_134 (fun H locs hP _ hS => ?_)
              refine W.eq (g2 := F0 m 137 ls []) rfl ?_
              refine lv_sipush (v := 1000) hx hb dX5_by_137 rfl ?_
              refine lv_iload hx hb dX5_by_140 (lv_at hl 2 rfl) ?_
              refine lv_iadd hx hb dX5_by_142 ?_
              have hR : s_X5_by u p1 p2 = (1000 + x5, s_X0_attempt u64 p2 2 (s_X2_read (s_X1_tell 3 u) p2 2)) := hR
              exact W.iret (v := 1000 + x5) hx hb hr (fun t ht _ => by rw [hR]; dsimp only; exact ⟨⟨rfl, by rw [ht]; exact hP⟩, hS.F ht⟩) hS.2.2 dX5_by_143
            · have hR := hR.trans (if_neg q19)
              refine lv_aload_n hx hb dX5_by_71 rfl (lv_at hl 5 rfl) ?_
              refine va_get (D := xD E) (ci := 5) (v := .ref (a 7)) (C := RX5) (T := TX5) (N := 9) hx hb hts (by decide +kernel) hown hK hP 0 rfl rfl 4 (by decide) (hts (.fieldLink RX5 41 "RailOffsets" "line" "LRailOffsets$Line;") (by decide +kernel)) (fun _ h => h) rfl dX5_by_72 ?_
              refine lv_iload_n hx hb dX5_by_75 rfl (lv_at hl 7 rfl) ?_
              refine lv_iconst (v := 2) hx hb dX5_by_76 rfl ?_
              refine lv_iload hx hb dX5_by_77 (lv_at hl 0 rfl) ?_
              refine xMdV (nL := 9) ⟨hx, hb, hml, hown, hts⟩ (c_X0_attempt l E a u64 p2 2 x7 (xwm (u := u64) (p := p2) (x := x7) hI0 (j := 2) (by decide) (xok_bend hI2 q19 (by decide) (by decide)) (fun z => absurd z (by decide))) hL) (cwV 3 hts gX5_by_X0_attempt rfl rfl rfl ⟨rfl, hd_X0_attempt⟩ ⟨(Nat.le_of_ble_eq_true rfl), (Nat.le_of_ble_eq_true rfl)⟩) hF hS hL.2 (fun _ h => h) hP (va_recv (q := (RX0, TX0, 8)) hK hP (ci := 0) rfl (q0 := 7) rfl) rfl hl.1 rfl (Nat.le_of_ble_eq_true rfl) ⟨(Nat.le_of_ble_eq_true rfl), (Nat.le_of_ble_eq_true rfl)⟩ dX5_by_79 (fun H locs hP _ hS => ?_)
              refine W.eq (g2 := F0 m 82 ls []) rfl ?_
              refine lv_aload_n hx hb dX5_by_82 rfl (lv_at hl 5 rfl) ?_
              refine va_get (D := xD E) (ci := 5) (v := .ref (a 14)) (C := RX5) (T := TX5) (N := 9) hx hb hts (by decide +kernel) hown hK hP 0 rfl rfl 5 (by decide) (hts (.fieldLink RX5 50 "RailOffsets" "old" "LRailOffsets$OldLine;") (by decide +kernel)) (fun _ h => h) rfl dX5_by_83 ?_
              refine xMdV (nL := 9) ⟨hx, hb, hml, hown, hts⟩ (c_X1_sum l E a (s_X0_attempt u64 p2 2 x7)  (by rw [s_X0_attempt_2]; exact hI1) hL) (cwV 0 hts gX5_by_X1_sum rfl rfl rfl ⟨rfl, hd_X1_sum⟩ ⟨(Nat.le_of_ble_eq_true rfl), (Nat.le_of_ble_eq_true rfl)⟩) hF hS hL.2 (fun _ h => h) hP (va_recv (q := (RX1, TX1, 3)) hK hP (ci := 1) rfl (q0 := 14) rfl) rfl hl.1 rfl (Nat.le_of_ble_eq_true rfl) ⟨(Nat.le_of_ble_eq_true rfl), (Nat.le_of_ble_eq_true rfl)⟩ dX5_by_86 (fun H locs hP _ hS => ?_)
              refine W.eq (g2 := F0 m 89 ls []) rfl ?_
              refine lv_aload_n hx hb dX5_by_89 rfl (lv_at hl 5 rfl) ?_
              refine va_get (D := xD E) (ci := 5) (v := .ref (a 14)) (C := RX5) (T := TX5) (N := 9) hx hb hts (by decide +kernel) hown hK hP 0 rfl rfl 5 (by decide) (hts (.fieldLink RX5 50 "RailOffsets" "old" "LRailOffsets$OldLine;") (by decide +kernel)) (fun _ h => h) rfl dX5_by_90 ?_
              refine xRoV (nL := 9) ⟨hx, hb, hml, hown, hts⟩ (c_X1_greatest l E a (s_X1_sum (s_X0_attempt u64 p2 2 x7))  (by rw [(xsum _).1, s_X0_attempt_2]; exact hI1)) (cwV 0 hts gX5_by_X1_greatest rfl rfl rfl ⟨rfl, hd_X1_greatest⟩ ⟨(Nat.le_of_ble_eq_true rfl), (Nat.le_of_ble_eq_true rfl)⟩) hF hS hA hP (va_recv (q := (RX1, TX1, 3)) hK hP (ci := 1) rfl (q0 := 14) rfl) rfl hl.1 rfl (Nat.le_of_ble_eq_true rfl) ⟨(Nat.le_of_ble_eq_true rfl), (Nat.le_of_ble_eq_true rfl)⟩ dX5_by_93 ?_
              refine W.eq (g2 := F0 m 96 ls [.int (s_X1_greatest (s_X1_sum (s_X0_attempt u64 p2 2 x7)))]) rfl ?_
              refine lv_istore (lv' := [(8, .int (s_X1_greatest (s_X1_sum (s_X0_attempt u64 p2 2 x7)))), (7, .int x7), (6, .int x6), (5, .int x5), (4, .int (s_X2_read (s_X1_tell 3 u) p2 2)), (3, .ref (a 20)), (0, .ref (a 0)), (1, .int p1), (2, .int p2)]) hx hb dX5_by_96 hl (by decide) rfl (fun ls hl => ?_)
              refine lv_iload hx hb dX5_by_98 (lv_at hl 1 rfl) ?_
              refine lv_bipush (v := (-99)) hx hb dX5_by_100 rfl ?_
              refine lv_icmp_eq (tgt := 112) hx hb dX5_by_102 rfl (fun q20 => ?_) (fun q20 => ?_)
              · have hR := hR.trans (if_pos q20)
                refine lv_iload hx hb dX5_by_112 (lv_at hl 0 rfl) ?_
                refine lv_istore (lv' := [(6, .int (s_X1_greatest (s_X1_sum (s_X0_attempt u64 p2 2 x7)))), (8, .int (s_X1_greatest (s_X1_sum (s_X0_attempt u64 p2 2 x7)))), (7, .int x7), (5, .int x5), (4, .int (s_X2_read (s_X1_tell 3 u) p2 2)), (3, .ref (a 20)), (0, .ref (a 0)), (1, .int p1), (2, .int p2)]) hx hb dX5_by_114 hl (by decide) rfl (fun ls hl => ?_)
                refine lv_iload hx hb dX5_by_116 (lv_at hl 2 rfl) ?_
                refine lv_istore (lv' := [(5, .int x7), (6, .int (s_X1_greatest (s_X1_sum (s_X0_attempt u64 p2 2 x7)))), (8, .int (s_X1_greatest (s_X1_sum (s_X0_attempt u64 p2 2 x7)))), (7, .int x7), (4, .int (s_X2_read (s_X1_tell 3 u) p2 2)), (3, .ref (a 20)), (0, .ref (a 0)), (1, .int p1), (2, .int p2)]) hx hb dX5_by_118 hl (by decide) rfl (fun ls hl => ?_)
                refine lv_iinc (k := 3) (v := x7 + 1) (lv' := [(7, .int (x7 + 1)), (5, .int x7), (6, .int (s_X1_greatest (s_X1_sum (s_X0_attempt u64 p2 2 x7)))), (8, .int (s_X1_greatest (s_X1_sum (s_X0_attempt u64 p2 2 x7)))), (4, .int (s_X2_read (s_X1_tell 3 u) p2 2)), (3, .ref (a 20)), (0, .ref (a 0)), (1, .int p1), (2, .int p2)]) hx hb dX5_by_120 hl rfl rfl (by decide) rfl (fun ls hl => ?_)
                refine lv_goto (tgt := 64) hx hb dX5_by_123 rfl ?_
                exact ih64 (s_X1_sum (s_X0_attempt u64 p2 2 x7)) x7 (s_X1_greatest (s_X1_sum (s_X0_attempt u64 p2 2 x7))) (x7 + 1) _ _ _ (xsumv (xav (u := u64) (p := p2) (x := x7) hI0 (j := 2) (by decide) (xok_bend hI2 q19 (by decide) (by decide)) (fun z => absurd z (by decide)))) (by rw [(xsum _).1, s_X0_attempt_2]; exact hI1) (xupge hI2 q19 (by decide)) (Nat.lt_of_lt_of_le (xupl q19 (by decide)) (Nat.le_of_lt_succ hM64)) hR (lv_sub hl [0, 2, 1, 4, 5, 6, 7, 8] rfl) hP hS
              · have hR := hR.trans (if_neg q20)
                refine lv_iload hx hb dX5_by_105 (lv_at hl 0 rfl) ?_
                refine lv_iload hx hb dX5_by_107 (lv_at hl 2 rfl) ?_
                refine lv_icmp_ge (tgt := 120) hx hb dX5_by_109 rfl (fun q21 => ?_) (fun q21 => ?_)
                · have hR := hR.trans (if_pos q21)
                  refine lv_iinc (k := 1) (v := x7 + 1) (lv' := [(7, .int (x7 + 1)), (8, .int (s_X1_greatest (s_X1_sum (s_X0_attempt u64 p2 2 x7)))), (6, .int x6), (5, .int x5), (4, .int (s_X2_read (s_X1_tell 3 u) p2 2)), (3, .ref (a 20)), (0, .ref (a 0)), (1, .int p1), (2, .int p2)]) hx hb dX5_by_120 hl rfl rfl (by decide) rfl (fun ls hl => ?_)
                  refine lv_goto (tgt := 64) hx hb dX5_by_123 rfl ?_
                  exact ih64 (s_X1_sum (s_X0_attempt u64 p2 2 x7)) x5 x6 (x7 + 1) _ _ _ (xsumv (xav (u := u64) (p := p2) (x := x7) hI0 (j := 2) (by decide) (xok_bend hI2 q19 (by decide) (by decide)) (fun z => absurd z (by decide)))) (by rw [(xsum _).1, s_X0_attempt_2]; exact hI1) (xupge hI2 q19 (by decide)) (Nat.lt_of_lt_of_le (xupl q19 (by decide)) (Nat.le_of_lt_succ hM64)) hR (lv_sub hl [0, 2, 3, 4, 5, 6, 7, 8] rfl) hP hS
                · have hR := hR.trans (if_neg q21)
                  refine lv_iload hx hb dX5_by_112 (lv_at hl 0 rfl) ?_
                  refine lv_istore (lv' := [(6, .int (s_X1_greatest (s_X1_sum (s_X0_attempt u64 p2 2 x7)))), (8, .int (s_X1_greatest (s_X1_sum (s_X0_attempt u64 p2 2 x7)))), (7, .int x7), (5, .int x5), (4, .int (s_X2_read (s_X1_tell 3 u) p2 2)), (3, .ref (a 20)), (0, .ref (a 0)), (1, .int p1), (2, .int p2)]) hx hb dX5_by_114 hl (by decide) rfl (fun ls hl => ?_)
                  refine lv_iload hx hb dX5_by_116 (lv_at hl 2 rfl) ?_
                  refine lv_istore (lv' := [(5, .int x7), (6, .int (s_X1_greatest (s_X1_sum (s_X0_attempt u64 p2 2 x7)))), (8, .int (s_X1_greatest (s_X1_sum (s_X0_attempt u64 p2 2 x7)))), (7, .int x7), (4, .int (s_X2_read (s_X1_tell 3 u) p2 2)), (3, .ref (a 20)), (0, .ref (a 0)), (1, .int p1), (2, .int p2)]) hx hb dX5_by_118 hl (by decide) rfl (fun ls hl => ?_)
                  refine lv_iinc (k := 3) (v := x7 + 1) (lv' := [(7, .int (x7 + 1)), (5, .int x7), (6, .int (s_X1_greatest (s_X1_sum (s_X0_attempt u64 p2 2 x7)))), (8, .int (s_X1_greatest (s_X1_sum (s_X0_attempt u64 p2 2 x7)))), (4, .int (s_X2_read (s_X1_tell 3 u) p2 2)), (3, .ref (a 20)), (0, .ref (a 0)), (1, .int p1), (2, .int p2)]) hx hb dX5_by_120 hl rfl rfl (by decide) rfl (fun ls hl => ?_)
                  refine lv_goto (tgt := 64) hx hb dX5_by_123 rfl ?_
                  exact ih64 (s_X1_sum (s_X0_attempt u64 p2 2 x7)) x7 (s_X1_greatest (s_X1_sum (s_X0_attempt u64 p2 2 x7))) (x7 + 1) _ _ _ (xsumv (xav (u := u64) (p := p2) (x := x7) hI0 (j := 2) (by decide) (xok_bend hI2 q19 (by decide) (by decide)) (fun z => absurd z (by decide)))) (by rw [(xsum _).1, s_X0_attempt_2]; exact hI1) (xupge hI2 q19 (by decide)) (Nat.lt_of_lt_of_le (xupl q19 (by decide)) (Nat.le_of_lt_succ hM64)) hR (lv_sub hl [0, 2, 1, 4, 5, 6, 7, 8] rfl) hP hS
        exact L64 (((99 : Int32).toInt + 1 - ((-99) : Int32).toInt).toNat + 1) (s_X1_tell 3 u) (-99) 0 (-99) _ _ ls (by rw [(xtell _ u).1, (xtell _ u).2 2 (by decide)]; exact hp0) (by rw [(xtell _ u).1]; exact hp1) (by decide) (Nat.lt_succ_self _) hR hl hP hS
      · have hR := hR.trans (if_neg q18)
        refine lv_bipush (v := (-11)) hx hb dX5_by_31 rfl ?_
        have hR : s_X5_by u p1 p2 = ((-11), u) := hR
        exact W.iret (v := (-11)) hx hb hr (fun t ht _ => by rw [hR]; dsimp only; exact ⟨⟨rfl, by rw [ht]; exact hP⟩, hS.F ht⟩) hS.2.2 dX5_by_33
    · have hR := hR.trans (if_pos q17)
      refine lv_bipush (v := (-2)) hx hb dX5_by_21 rfl ?_
      have hR : s_X5_by u p1 p2 = ((-2), u) := hR
      exact W.iret (v := (-2)) hx hb hr (fun t ht _ => by rw [hR]; dsimp only; exact ⟨⟨rfl, by rw [ht]; exact hP⟩, hS.F ht⟩) hS.2.2 dX5_by_23
  have hR := hR.trans (if_neg t1_3)
  refine xRoV (nL := 9) ⟨hx, hb, hml, hown, hts⟩ (c_X5_sheetOf_n l E a u p1 t1_0 t1_1 t1_2 t1_3) (cwV 1 hts gX5_by_X5_sheetOf rfl rfl rfl ⟨rfl, hd_X5_sheetOf⟩ ⟨(Nat.le_of_ble_eq_true rfl), (Nat.le_of_ble_eq_true rfl)⟩) hF hS hA hP (va_recv (q := (RX5, TX5, 9)) hK hP (ci := 5) rfl (q0 := 0) rfl) rfl hl.1 rfl (Nat.le_of_ble_eq_true rfl) ⟨(Nat.le_of_ble_eq_true rfl), (Nat.le_of_ble_eq_true rfl)⟩ dX5_by_2 ?_
  refine W.eq (g2 := F0 m 5 ls [.null]) rfl ?_
  refine lv_astore_nN (lv' := [(3, .null), (0, .ref (a 0)), (1, .int p1), (2, .int p2)]) hx hb dX5_by_5 rfl hl (by decide) rfl (fun ls hl => ?_)
  refine lv_aload_nN hx hb dX5_by_6 rfl (lv_at hl 0 rfl) ?_
  refine lv_ifnullN (tgt := 21) hx hb dX5_by_7 rfl ?_
  refine lv_bipush (v := (-2)) hx hb dX5_by_21 rfl ?_
  have hR : s_X5_by u p1 p2 = ((-2), u) := hR
  exact W.iret (v := (-2)) hx hb hr (fun t ht _ => by rw [hR]; dsimp only; exact ⟨⟨rfl, by rw [ht]; exact hP⟩, hS.F ht⟩) hS.2.2 dX5_by_23
def s_X5_errors (u : xU) (p1 : Int32) (p2 : Int32) : Int64 × xU :=
  if (s_X5_within p2 0 9) = 0 then
    (xNO, u)
  else
    ((s_X1_greatest (s_X1_err u p1 p2)).toInt64, s_X1_err u p1 p2)
abbrev rm_X5_errors : Room := { frames := 3, cells := 0, slots := 0, locals := 70 }
set_option maxHeartbeats 8000000 in
set_option maxRecDepth 100000 in
theorem c_X5_errors (l : Launch) (E : xG) (a : Nat → Nat) (u : xU) (p1 : Int32) (p2 : Int32) (hp0 : (u.2 3).toInt < 2147483647) (hL : xOK E (LX a)) : xMd l E yX5_errors wsX5_errors rm_X5_errors (LX a) [.ref (a 0), .int p1, .int p2] (wX E a u) (some (.long ((s_X5_errors u p1 p2).1))) (wX E a ((s_X5_errors u p1 p2).2)) := by
  refine xMd.of (cc := cX5_errors) (maxL := 3) (ret := (some .long)) (by decide) rfl (Nat.le_of_ble_eq_true rfl) ?_
  intro p e s m below meth c ls hAt hF hP hS hl
  obtain ⟨hx, hb, hr, hml, hown, hts, hlocks, -⟩ := hAt
  have hown : s.vm.findClass RX5 = some m.cls := hown
  have hl : lv_has ls 3 [(0, .ref (a 0)), (1, .int p1), (2, .int p2)] := hl
  have hK := hF.1
  have hA := hL.2
  change W p l e rm_X5_errors s m ([.ref (a 0), .int p1, .int p2] : List Value).toArray below meth c s.heap [] 0 0 (xQmd E below (LX a) (some (.long ((s_X5_errors u p1 p2).1))) (wX E a ((s_X5_errors u p1 p2).2)) ([.ref (a 0), .int p1, .int p2] : List Value).toArray s) _
  have hS : va_S (· ∈ LX a) s.heap s.heap [] := hS
  have hR : s_X5_errors u p1 p2 = s_X5_errors u p1 p2 := rfl
  refine lv_iload_n hx hb dX5_errors_0 rfl (lv_at hl 2 rfl) ?_
  refine lv_iconst (v := 0) hx hb dX5_errors_1 rfl ?_
  refine lv_bipush (v := 9) hx hb dX5_errors_2 rfl ?_
  refine xRoS (nL := 3) ⟨hx, hb, hml, hown, hts⟩ (c_X5_within l E p2 0 9) (va_cwS 3 hts gX5_errors_X5_within rfl rfl rfl hd_X5_within ⟨(Nat.le_of_ble_eq_true rfl), (Nat.le_of_ble_eq_true rfl)⟩) hF hS hA (hP.sub [] rfl) rfl hl.1 rfl (Nat.le_of_ble_eq_true rfl) ⟨(Nat.le_of_ble_eq_true rfl), (Nat.le_of_ble_eq_true rfl)⟩ dX5_errors_4 ?_
  refine W.eq (g2 := F0 m 7 ls [.int (s_X5_within p2 0 9)]) rfl ?_
  refine lv_if_ne (tgt := 14) hx hb dX5_errors_7 rfl (fun q1 => ?_) (fun q1 => ?_)
  · have hR := hR.trans (if_neg q1)
    refine lv_aload_n hx hb dX5_errors_14 rfl (lv_at hl 0 rfl) ?_
    refine va_get (D := xD E) (ci := 5) (v := .ref (a 14)) (C := RX5) (T := TX5) (N := 9) hx hb hts (by decide +kernel) hown hK hP 0 rfl rfl 5 (by decide) (hts (.fieldLink RX5 50 "RailOffsets" "old" "LRailOffsets$OldLine;") (by decide +kernel)) (fun _ h => h) rfl dX5_errors_15 ?_
    refine lv_iload_n hx hb dX5_errors_18 rfl (lv_at hl 1 rfl) ?_
    refine lv_iload_n hx hb dX5_errors_19 rfl (lv_at hl 2 rfl) ?_
    refine xMdV (nL := 3) ⟨hx, hb, hml, hown, hts⟩ (c_X1_err l E a u p1 p2 (hp0) hL) (cwV 2 hts gX5_errors_X1_err rfl rfl rfl ⟨rfl, hd_X1_err⟩ ⟨(Nat.le_of_ble_eq_true rfl), (Nat.le_of_ble_eq_true rfl)⟩) hF hS hL.2 (fun _ h => h) hP (va_recv (q := (RX1, TX1, 3)) hK hP (ci := 1) rfl (q0 := 14) rfl) rfl hl.1 rfl (Nat.le_of_ble_eq_true rfl) ⟨(Nat.le_of_ble_eq_true rfl), (Nat.le_of_ble_eq_true rfl)⟩ dX5_errors_20 (fun H locs hP _ hS => ?_)
    refine W.eq (g2 := F0 m 23 ls []) rfl ?_
    refine lv_aload_n hx hb dX5_errors_23 rfl (lv_at hl 0 rfl) ?_
    refine va_get (D := xD E) (ci := 5) (v := .ref (a 14)) (C := RX5) (T := TX5) (N := 9) hx hb hts (by decide +kernel) hown hK hP 0 rfl rfl 5 (by decide) (hts (.fieldLink RX5 50 "RailOffsets" "old" "LRailOffsets$OldLine;") (by decide +kernel)) (fun _ h => h) rfl dX5_errors_24 ?_
    refine xRoV (nL := 3) ⟨hx, hb, hml, hown, hts⟩ (c_X1_greatest l E a (s_X1_err u p1 p2)  (by rw [(xerr _ _ _).1]; exact hp0)) (cwV 0 hts gX5_errors_X1_greatest rfl rfl rfl ⟨rfl, hd_X1_greatest⟩ ⟨(Nat.le_of_ble_eq_true rfl), (Nat.le_of_ble_eq_true rfl)⟩) hF hS hA hP (va_recv (q := (RX1, TX1, 3)) hK hP (ci := 1) rfl (q0 := 14) rfl) rfl hl.1 rfl (Nat.le_of_ble_eq_true rfl) ⟨(Nat.le_of_ble_eq_true rfl), (Nat.le_of_ble_eq_true rfl)⟩ dX5_errors_27 ?_
    refine W.eq (g2 := F0 m 30 ls [.int (s_X1_greatest (s_X1_err u p1 p2))]) rfl ?_
    refine lv_i2l hx hb dX5_errors_30 rfl ?_
    have hR : s_X5_errors u p1 p2 = ((s_X1_greatest (s_X1_err u p1 p2)).toInt64, s_X1_err u p1 p2) := hR
    exact W.lret (v := (s_X1_greatest (s_X1_err u p1 p2)).toInt64) hx hb hr (fun t ht _ => by rw [hR]; dsimp only; exact ⟨⟨rfl, by rw [ht]; exact hP⟩, hS.F ht⟩) hS.2.2 dX5_errors_31
  · have hR := hR.trans (if_pos q1)
    refine lv_ldc2 (v := xNO) hx hb hown (hts (.constantLong RX5 112 (-9223372036854775808)) (by decide +kernel)) dX5_errors_10 ?_
    have hR : s_X5_errors u p1 p2 = (xNO, u) := hR
    exact W.lret (v := xNO) hx hb hr (fun t ht _ => by rw [hR]; dsimp only; exact ⟨⟨rfl, by rw [ht]; exact hP⟩, hS.F ht⟩) hS.2.2 dX5_errors_13
def s_X5_chance_L44 : Nat → xU → Int32 → Int32 → Int32 → Int32 → Int32 → Int32 → Int32 → Int32 × xU
  | 0, u, _, _, _, _, _, _, _ => (0, u)
  | n + 1, u, x1, x2, x3, x4, x5, x6, x7 =>
    if x2 ≤ x7 then
      if x5 = 0 then
        (s_X5_share x6 (s_X5_commonDivisor x6 x2), u)
      else
        (s_X5_share x2 (s_X5_commonDivisor x6 x2), u)
    else
      if x4 < (s_X1_greatest (s_X1_err u (x1 + x7) x3)) then
        s_X5_chance_L44 n (s_X1_err u (x1 + x7) x3) x1 x2 x3 x4 x5 x6 (x7 + 1)
      else
        s_X5_chance_L44 n (s_X1_err u (x1 + x7) x3) x1 x2 x3 x4 x5 (x6 + 1) (x7 + 1)
def s_X5_chance (u : xU) (p1 : Int32) (p2 : Int32) (p3 : Int32) (p4 : Int32) (p5 : Int32) : Int32 × xU :=
  if (s_X5_within p2 1 20) = 0 then
    ((-2), u)
  else
    if (s_X5_within p3 0 9) = 0 then
      ((-2), u)
    else
      if p4 < 0 then
        ((-2), u)
      else
        if (s_X5_within p5 0 1) = 0 then
          ((-2), u)
        else
          s_X5_chance_L44 ((p2.toInt - (0 : Int32).toInt).toNat + 1) u p1 p2 p3 p4 p5 0 0
abbrev rm_X5_chance : Room := { frames := 3, cells := 0, slots := 0, locals := 70 }
set_option maxHeartbeats 8000000 in
set_option maxRecDepth 100000 in
theorem c_X5_chance (l : Launch) (E : xG) (a : Nat → Nat) (u : xU) (p1 : Int32) (p2 : Int32) (p3 : Int32) (p4 : Int32) (p5 : Int32) (hp0 : (u.2 3).toInt < 2147483647) (hL : xOK E (LX a)) : xMd l E yX5_chance wsX5_chance rm_X5_chance (LX a) [.ref (a 0), .int p1, .int p2, .int p3, .int p4, .int p5] (wX E a u) (some (.int ((s_X5_chance u p1 p2 p3 p4 p5).1))) (wX E a ((s_X5_chance u p1 p2 p3 p4 p5).2)) := by
  refine xMd.of (cc := cX5_chance) (maxL := 8) (ret := (some .int)) (by decide) rfl (Nat.le_of_ble_eq_true rfl) ?_
  intro p e s m below meth c ls hAt hF hP hS hl
  obtain ⟨hx, hb, hr, hml, hown, hts, hlocks, -⟩ := hAt
  have hown : s.vm.findClass RX5 = some m.cls := hown
  have hl : lv_has ls 8 [(0, .ref (a 0)), (1, .int p1), (2, .int p2), (3, .int p3), (4, .int p4), (5, .int p5)] := hl
  have hK := hF.1
  have hA := hL.2
  change W p l e rm_X5_chance s m ([.ref (a 0), .int p1, .int p2, .int p3, .int p4, .int p5] : List Value).toArray below meth c s.heap [] 0 0 (xQmd E below (LX a) (some (.int ((s_X5_chance u p1 p2 p3 p4 p5).1))) (wX E a ((s_X5_chance u p1 p2 p3 p4 p5).2)) ([.ref (a 0), .int p1, .int p2, .int p3, .int p4, .int p5] : List Value).toArray s) _
  have hS : va_S (· ∈ LX a) s.heap s.heap [] := hS
  have hR : s_X5_chance u p1 p2 p3 p4 p5 = s_X5_chance u p1 p2 p3 p4 p5 := rfl
  refine lv_iload_n hx hb dX5_chance_0 rfl (lv_at hl 2 rfl) ?_
  refine lv_iconst (v := 1) hx hb dX5_chance_1 rfl ?_
  refine lv_bipush (v := 20) hx hb dX5_chance_2 rfl ?_
  refine xRoS (nL := 8) ⟨hx, hb, hml, hown, hts⟩ (c_X5_within l E p2 1 20) (va_cwS 3 hts gX5_chance_X5_within rfl rfl rfl hd_X5_within ⟨(Nat.le_of_ble_eq_true rfl), (Nat.le_of_ble_eq_true rfl)⟩) hF hS hA (hP.sub [] rfl) rfl hl.1 rfl (Nat.le_of_ble_eq_true rfl) ⟨(Nat.le_of_ble_eq_true rfl), (Nat.le_of_ble_eq_true rfl)⟩ dX5_chance_4 ?_
  refine W.eq (g2 := F0 m 7 ls [.int (s_X5_within p2 1 20)]) rfl ?_
  refine lv_if_eq (tgt := 35) hx hb dX5_chance_7 rfl (fun q1 => ?_) (fun q1 => ?_)
  · have hR := hR.trans (if_pos q1)
    refine lv_bipush (v := (-2)) hx hb dX5_chance_35 rfl ?_
    have hR : s_X5_chance u p1 p2 p3 p4 p5 = ((-2), u) := hR
    exact W.iret (v := (-2)) hx hb hr (fun t ht _ => by rw [hR]; dsimp only; exact ⟨⟨rfl, by rw [ht]; exact hP⟩, hS.F ht⟩) hS.2.2 dX5_chance_37
  · have hR := hR.trans (if_neg q1)
    refine lv_iload_n hx hb dX5_chance_10 rfl (lv_at hl 3 rfl) ?_
    refine lv_iconst (v := 0) hx hb dX5_chance_11 rfl ?_
    refine lv_bipush (v := 9) hx hb dX5_chance_12 rfl ?_
    refine xRoS (nL := 8) ⟨hx, hb, hml, hown, hts⟩ (c_X5_within l E p3 0 9) (va_cwS 3 hts gX5_chance_X5_within rfl rfl rfl hd_X5_within ⟨(Nat.le_of_ble_eq_true rfl), (Nat.le_of_ble_eq_true rfl)⟩) hF hS hA (hP.sub [] rfl) rfl hl.1 rfl (Nat.le_of_ble_eq_true rfl) ⟨(Nat.le_of_ble_eq_true rfl), (Nat.le_of_ble_eq_true rfl)⟩ dX5_chance_14 ?_
    refine W.eq (g2 := F0 m 17 ls [.int (s_X5_within p3 0 9)]) rfl ?_
    refine lv_if_eq (tgt := 35) hx hb dX5_chance_17 rfl (fun q2 => ?_) (fun q2 => ?_)
    · have hR := hR.trans (if_pos q2)
      refine lv_bipush (v := (-2)) hx hb dX5_chance_35 rfl ?_
      have hR : s_X5_chance u p1 p2 p3 p4 p5 = ((-2), u) := hR
      exact W.iret (v := (-2)) hx hb hr (fun t ht _ => by rw [hR]; dsimp only; exact ⟨⟨rfl, by rw [ht]; exact hP⟩, hS.F ht⟩) hS.2.2 dX5_chance_37
    · have hR := hR.trans (if_neg q2)
      refine lv_iload hx hb dX5_chance_20 (lv_at hl 4 rfl) ?_
      refine lv_if_lt (tgt := 35) hx hb dX5_chance_22 rfl (fun q3 => ?_) (fun q3 => ?_)
      · have hR := hR.trans (if_pos q3)
        refine lv_bipush (v := (-2)) hx hb dX5_chance_35 rfl ?_
        have hR : s_X5_chance u p1 p2 p3 p4 p5 = ((-2), u) := hR
        exact W.iret (v := (-2)) hx hb hr (fun t ht _ => by rw [hR]; dsimp only; exact ⟨⟨rfl, by rw [ht]; exact hP⟩, hS.F ht⟩) hS.2.2 dX5_chance_37
      · have hR := hR.trans (if_neg q3)
        refine lv_iload hx hb dX5_chance_25 (lv_at hl 5 rfl) ?_
        refine lv_iconst (v := 0) hx hb dX5_chance_27 rfl ?_
        refine lv_iconst (v := 1) hx hb dX5_chance_28 rfl ?_
        refine xRoS (nL := 8) ⟨hx, hb, hml, hown, hts⟩ (c_X5_within l E p5 0 1) (va_cwS 3 hts gX5_chance_X5_within rfl rfl rfl hd_X5_within ⟨(Nat.le_of_ble_eq_true rfl), (Nat.le_of_ble_eq_true rfl)⟩) hF hS hA (hP.sub [] rfl) rfl hl.1 rfl (Nat.le_of_ble_eq_true rfl) ⟨(Nat.le_of_ble_eq_true rfl), (Nat.le_of_ble_eq_true rfl)⟩ dX5_chance_29 ?_
        refine W.eq (g2 := F0 m 32 ls [.int (s_X5_within p5 0 1)]) rfl ?_
        refine lv_if_ne (tgt := 38) hx hb dX5_chance_32 rfl (fun q4 => ?_) (fun q4 => ?_)
        · have hR := hR.trans (if_neg q4)
          refine lv_iconst (v := 0) hx hb dX5_chance_38 rfl ?_
          refine lv_istore (lv' := [(6, .int 0), (0, .ref (a 0)), (1, .int p1), (2, .int p2), (3, .int p3), (4, .int p4), (5, .int p5)]) hx hb dX5_chance_39 hl (by decide) rfl (fun ls hl => ?_)
          refine lv_iconst (v := 0) hx hb dX5_chance_41 rfl ?_
          refine lv_istore (lv' := [(7, .int 0), (6, .int 0), (0, .ref (a 0)), (1, .int p1), (2, .int p2), (3, .int p3), (4, .int p4), (5, .int p5)]) hx hb dX5_chance_42 hl (by decide) rfl (fun ls hl => ?_)
          have L44 : ∀ (n44 : Nat) (u44 : xU) (x6 : Int32) (x7 : Int32) (H : Heap) (locs : List Loc) (ls : Array Slot), ((u44.2 3).toInt < 2147483647) → (p2.toInt - x7.toInt).toNat < n44 → s_X5_chance u p1 p2 p3 p4 p5 = s_X5_chance_L44 n44 u44 p1 p2 p3 p4 p5 x6 x7 → lv_has ls 8 [(7, .int x7), (6, .int x6), (0, .ref (a 0)), (1, .int p1), (2, .int p2), (3, .int p3), (4, .int p4), (5, .int p5)] → va_P (xD E) vwCl (wX E a u44) H → va_S (· ∈ LX a) s.heap H locs → W p l e rm_X5_chance s m ([.ref (a 0), .int p1, .int p2, .int p3, .int p4, .int p5] : List Value).toArray below meth c H locs 0 0 (xQmd E below (LX a) (some (.int ((s_X5_chance u p1 p2 p3 p4 p5).1))) (wX E a ((s_X5_chance u p1 p2 p3 p4 p5).2)) ([.ref (a 0), .int p1, .int p2, .int p3, .int p4, .int p5] : List Value).toArray s) (F0 m 44 ls []) := by
            intro n44
            induction n44 with
            | zero => intro u44 x6 x7 H locs ls hI0 hM44 hR hl hP hS; exact absurd hM44 (Nat.not_lt_zero _)
            | succ n44 ih44 =>
              intro u44 x6 x7 H locs ls hI0 hM44 hR hl hP hS
              refine lv_iload hx hb dX5_chance_44 (lv_at hl 0 rfl) ?_
              refine lv_iload_n hx hb dX5_chance_46 rfl (lv_at hl 4 rfl) ?_
              refine lv_icmp_ge (tgt := 83) hx hb dX5_chance_47 rfl (fun q5 => ?_) (fun q5 => ?_)
              · have hR := hR.trans (if_pos q5)
                refine lv_iload hx hb dX5_chance_83 (lv_at hl 7 rfl) ?_
                refine lv_if_ne (tgt := 93) hx hb dX5_chance_85 rfl (fun q6 => ?_) (fun q6 => ?_)
                · have hR := hR.trans (if_neg q6)
                  refine lv_iload_n hx hb dX5_chance_93 rfl (lv_at hl 4 rfl) ?_
                  refine lv_iload hx hb dX5_chance_94 (lv_at hl 1 rfl) ?_
                  refine lv_iload_n hx hb dX5_chance_96 rfl (lv_at hl 4 rfl) ?_
                  refine xRoS (nL := 8) ⟨hx, hb, hml, hown, hts⟩ (c_X5_commonDivisor l E x6 p2) (va_cwS 2 hts gX5_chance_X5_commonDivisor rfl rfl rfl hd_X5_commonDivisor ⟨(Nat.le_of_ble_eq_true rfl), (Nat.le_of_ble_eq_true rfl)⟩) hF hS hA (hP.sub [] rfl) rfl hl.1 rfl (Nat.le_of_ble_eq_true rfl) ⟨(Nat.le_of_ble_eq_true rfl), (Nat.le_of_ble_eq_true rfl)⟩ dX5_chance_97 ?_
                  refine W.eq (g2 := F0 m 100 ls [.int (s_X5_commonDivisor x6 p2), .int p2]) rfl ?_
                  refine xRoS (nL := 8) ⟨hx, hb, hml, hown, hts⟩ (c_X5_share l E p2 (s_X5_commonDivisor x6 p2)) (va_cwS 2 hts gX5_chance_X5_share rfl rfl rfl hd_X5_share ⟨(Nat.le_of_ble_eq_true rfl), (Nat.le_of_ble_eq_true rfl)⟩) hF hS hA (hP.sub [] rfl) rfl hl.1 rfl (Nat.le_of_ble_eq_true rfl) ⟨(Nat.le_of_ble_eq_true rfl), (Nat.le_of_ble_eq_true rfl)⟩ dX5_chance_100 ?_
                  refine W.eq (g2 := F0 m 103 ls [.int (s_X5_share p2 (s_X5_commonDivisor x6 p2))]) rfl ?_
                  have hR : s_X5_chance u p1 p2 p3 p4 p5 = (s_X5_share p2 (s_X5_commonDivisor x6 p2), u44) := hR
                  exact W.iret (v := s_X5_share p2 (s_X5_commonDivisor x6 p2)) hx hb hr (fun t ht _ => by rw [hR]; dsimp only; exact ⟨⟨rfl, by rw [ht]; exact hP⟩, hS.F ht⟩) hS.2.2 dX5_chance_103
                · have hR := hR.trans (if_pos q6)
                  refine lv_iload hx hb dX5_chance_88 (lv_at hl 1 rfl) ?_
                  refine lv_goto (tgt := 94) hx hb dX5_chance_90 rfl ?_
                  refine lv_iload hx hb dX5_chance_94 (lv_at hl 1 rfl) ?_
                  refine lv_iload_n hx hb dX5_chance_96 rfl (lv_at hl 4 rfl) ?_
                  refine xRoS (nL := 8) ⟨hx, hb, hml, hown, hts⟩ (c_X5_commonDivisor l E x6 p2) (va_cwS 2 hts gX5_chance_X5_commonDivisor rfl rfl rfl hd_X5_commonDivisor ⟨(Nat.le_of_ble_eq_true rfl), (Nat.le_of_ble_eq_true rfl)⟩) hF hS hA (hP.sub [] rfl) rfl hl.1 rfl (Nat.le_of_ble_eq_true rfl) ⟨(Nat.le_of_ble_eq_true rfl), (Nat.le_of_ble_eq_true rfl)⟩ dX5_chance_97 ?_
                  refine W.eq (g2 := F0 m 100 ls [.int (s_X5_commonDivisor x6 p2), .int x6]) rfl ?_
                  refine xRoS (nL := 8) ⟨hx, hb, hml, hown, hts⟩ (c_X5_share l E x6 (s_X5_commonDivisor x6 p2)) (va_cwS 2 hts gX5_chance_X5_share rfl rfl rfl hd_X5_share ⟨(Nat.le_of_ble_eq_true rfl), (Nat.le_of_ble_eq_true rfl)⟩) hF hS hA (hP.sub [] rfl) rfl hl.1 rfl (Nat.le_of_ble_eq_true rfl) ⟨(Nat.le_of_ble_eq_true rfl), (Nat.le_of_ble_eq_true rfl)⟩ dX5_chance_100 ?_
                  refine W.eq (g2 := F0 m 103 ls [.int (s_X5_share x6 (s_X5_commonDivisor x6 p2))]) rfl ?_
                  have hR : s_X5_chance u p1 p2 p3 p4 p5 = (s_X5_share x6 (s_X5_commonDivisor x6 p2), u44) := hR
                  exact W.iret (v := s_X5_share x6 (s_X5_commonDivisor x6 p2)) hx hb hr (fun t ht _ => by rw [hR]; dsimp only; exact ⟨⟨rfl, by rw [ht]; exact hP⟩, hS.F ht⟩) hS.2.2 dX5_chance_103
              · have hR := hR.trans (if_neg q5)
                refine lv_aload_n hx hb dX5_chance_50 rfl (lv_at hl 2 rfl) ?_
                refine va_get (D := xD E) (ci := 5) (v := .ref (a 14)) (C := RX5) (T := TX5) (N := 9) hx hb hts (by decide +kernel) hown hK hP 0 rfl rfl 5 (by decide) (hts (.fieldLink RX5 50 "RailOffsets" "old" "LRailOffsets$OldLine;") (by decide +kernel)) (fun _ h => h) rfl dX5_chance_51 ?_
                refine lv_iload_n hx hb dX5_chance_54 rfl (lv_at hl 3 rfl) ?_
                refine lv_iload hx hb dX5_chance_55 (lv_at hl 0 rfl) ?_
                refine lv_iadd hx hb dX5_chance_57 ?_
                refine lv_iload_n hx hb dX5_chance_58 rfl (lv_at hl 5 rfl) ?_
                refine xMdV (nL := 8) ⟨hx, hb, hml, hown, hts⟩ (c_X1_err l E a u44 (p1 + x7) p3 (hI0) hL) (cwV 2 hts gX5_chance_X1_err rfl rfl rfl ⟨rfl, hd_X1_err⟩ ⟨(Nat.le_of_ble_eq_true rfl), (Nat.le_of_ble_eq_true rfl)⟩) hF hS hL.2 (fun _ h => h) hP (va_recv (q := (RX1, TX1, 3)) hK hP (ci := 1) rfl (q0 := 14) rfl) rfl hl.1 rfl (Nat.le_of_ble_eq_true rfl) ⟨(Nat.le_of_ble_eq_true rfl), (Nat.le_of_ble_eq_true rfl)⟩ dX5_chance_59 (fun H locs hP _ hS => ?_)
                refine W.eq (g2 := F0 m 62 ls []) rfl ?_
                refine lv_aload_n hx hb dX5_chance_62 rfl (lv_at hl 2 rfl) ?_
                refine va_get (D := xD E) (ci := 5) (v := .ref (a 14)) (C := RX5) (T := TX5) (N := 9) hx hb hts (by decide +kernel) hown hK hP 0 rfl rfl 5 (by decide) (hts (.fieldLink RX5 50 "RailOffsets" "old" "LRailOffsets$OldLine;") (by decide +kernel)) (fun _ h => h) rfl dX5_chance_63 ?_
                refine xRoV (nL := 8) ⟨hx, hb, hml, hown, hts⟩ (c_X1_greatest l E a (s_X1_err u44 (p1 + x7) p3)  (by rw [(xerr _ _ _).1]; exact hI0)) (cwV 0 hts gX5_chance_X1_greatest rfl rfl rfl ⟨rfl, hd_X1_greatest⟩ ⟨(Nat.le_of_ble_eq_true rfl), (Nat.le_of_ble_eq_true rfl)⟩) hF hS hA hP (va_recv (q := (RX1, TX1, 3)) hK hP (ci := 1) rfl (q0 := 14) rfl) rfl hl.1 rfl (Nat.le_of_ble_eq_true rfl) ⟨(Nat.le_of_ble_eq_true rfl), (Nat.le_of_ble_eq_true rfl)⟩ dX5_chance_66 ?_
                refine W.eq (g2 := F0 m 69 ls [.int (s_X1_greatest (s_X1_err u44 (p1 + x7) p3))]) rfl ?_
                refine lv_iload hx hb dX5_chance_69 (lv_at hl 6 rfl) ?_
                refine lv_icmp_gt (tgt := 77) hx hb dX5_chance_71 rfl (fun q7 => ?_) (fun q7 => ?_)
                · have hR := hR.trans (if_pos q7)
                  refine lv_iinc (k := 0) (v := x7 + 1) (lv' := [(7, .int (x7 + 1)), (6, .int x6), (0, .ref (a 0)), (1, .int p1), (2, .int p2), (3, .int p3), (4, .int p4), (5, .int p5)]) hx hb dX5_chance_77 hl rfl rfl (by decide) rfl (fun ls hl => ?_)
                  refine lv_goto (tgt := 44) hx hb dX5_chance_80 rfl ?_
                  exact ih44 (s_X1_err u44 (p1 + x7) p3) x6 (x7 + 1) _ _ _ (by rw [(xerr _ _ _).1]; exact hI0) (Nat.lt_of_lt_of_le (xupc q5) (Nat.le_of_lt_succ hM44)) hR (lv_sub hl [0, 1, 2, 3, 4, 5, 6, 7] rfl) hP hS
                · have hR := hR.trans (if_neg q7)
                  refine lv_iinc (k := 1) (v := x6 + 1) (lv' := [(6, .int (x6 + 1)), (7, .int x7), (0, .ref (a 0)), (1, .int p1), (2, .int p2), (3, .int p3), (4, .int p4), (5, .int p5)]) hx hb dX5_chance_74 hl rfl rfl (by decide) rfl (fun ls hl => ?_)
                  refine lv_iinc (k := 1) (v := x7 + 1) (lv' := [(7, .int (x7 + 1)), (6, .int (x6 + 1)), (0, .ref (a 0)), (1, .int p1), (2, .int p2), (3, .int p3), (4, .int p4), (5, .int p5)]) hx hb dX5_chance_77 hl rfl rfl (by decide) rfl (fun ls hl => ?_)
                  refine lv_goto (tgt := 44) hx hb dX5_chance_80 rfl ?_
                  exact ih44 (s_X1_err u44 (p1 + x7) p3) (x6 + 1) (x7 + 1) _ _ _ (by rw [(xerr _ _ _).1]; exact hI0) (Nat.lt_of_lt_of_le (xupc q5) (Nat.le_of_lt_succ hM44)) hR (lv_sub hl [0, 1, 2, 3, 4, 5, 6, 7] rfl) hP hS
          exact L44 ((p2.toInt - (0 : Int32).toInt).toNat + 1) u 0 0 _ _ ls (hp0) (Nat.lt_succ_self _) hR hl hP hS
        · have hR := hR.trans (if_pos q4)
          refine lv_bipush (v := (-2)) hx hb dX5_chance_35 rfl ?_
          have hR : s_X5_chance u p1 p2 p3 p4 p5 = ((-2), u) := hR
          exact W.iret (v := (-2)) hx hb hr (fun t ht _ => by rw [hR]; dsimp only; exact ⟨⟨rfl, by rw [ht]; exact hP⟩, hS.F ht⟩) hS.2.2 dX5_chance_37
def s_X5_kindsTold_L17 (k : Nat) : Nat → xU → Int32 → Int32 → Int32 → Int32 → Int32 → Int32 × xU
  | 0, u, _, _, _, _, _ => (0, u)
  | n + 1, u, x2, x3, x4, x5, x6 =>
    if 5 < x6 then
      (x5, s_X0_attempt u x3 0 x4)
    else
      if (s_X5_firstOtherwise k (s_X0_attempt u x3 0 x6) x2) = (-1) then
        s_X5_kindsTold_L17 k n (s_X0_attempt u x3 0 x6) x2 x3 x4 (x5 ||| (1 <<< (x6 &&& 31))) (x6 + 1)
      else
        s_X5_kindsTold_L17 k n (s_X0_attempt u x3 0 x6) x2 x3 x4 x5 (x6 + 1)
def s_X5_kindsTold (k : Nat) (u : xU) (p2 : Int32) (p3 : Int32) : Int32 × xU :=
  s_X5_kindsTold_L17 k (((5 : Int32).toInt + 1 - (0 : Int32).toInt).toNat + 1) u p2 p3 (s_X2_read u p3 0) 0 0
abbrev rm_X5_kindsTold : Room := { frames := 5, cells := 0, slots := 0, locals := 118 }
set_option maxHeartbeats 8000000 in
set_option maxRecDepth 100000 in
theorem c_X5_kindsTold (l : Launch) (E : xG) (a : Nat → Nat) (u : xU) (k : Nat) (hk : k < 4) (p2 : Int32) (p3 : Int32) (hp0 : XV (u.1 2) (u.2 1)) (hL : xOK E (LX a)) : xMd l E yX5_kindsTold wsX5_kindsTold rm_X5_kindsTold (LX a) [.ref (a 0), .ref (a (17 + k)), .int p2, .int p3] (wX E a u) (some (.int ((s_X5_kindsTold k u p2 p3).1))) (wX E a ((s_X5_kindsTold k u p2 p3).2)) := by
  have hk4 : k = 0 ∨ k = 1 ∨ k = 2 ∨ k = 3 := by omega
  rcases hk4 with rfl | rfl | rfl | rfl
  · refine xMd.of (cc := cX5_kindsTold) (maxL := 7) (ret := (some .int)) (by decide) rfl (Nat.le_of_ble_eq_true rfl) ?_
    intro p e s m below meth c ls hAt hF hP hS hl
    obtain ⟨hx, hb, hr, hml, hown, hts, hlocks, -⟩ := hAt
    have hown : s.vm.findClass RX5 = some m.cls := hown
    have hl : lv_has ls 7 [(0, .ref (a 0)), (1, .ref (a 17)), (2, .int p2), (3, .int p3)] := hl
    have hK := hF.1
    have hA := hL.2
    change W p l e rm_X5_kindsTold s m ([.ref (a 0), .ref (a 17), .int p2, .int p3] : List Value).toArray below meth c s.heap [] 0 0 (xQmd E below (LX a) (some (.int ((s_X5_kindsTold 0 u p2 p3).1))) (wX E a ((s_X5_kindsTold 0 u p2 p3).2)) ([.ref (a 0), .ref (a 17), .int p2, .int p3] : List Value).toArray s) _
    have hS : va_S (· ∈ LX a) s.heap s.heap [] := hS
    have hR : s_X5_kindsTold 0 u p2 p3 = s_X5_kindsTold 0 u p2 p3 := rfl
    refine lv_aload_n hx hb dX5_kindsTold_0 rfl (lv_at hl 0 rfl) ?_
    refine va_get (D := xD E) (ci := 5) (v := .ref (a 1)) (C := RX5) (T := TX5) (N := 9) hx hb hts (by decide +kernel) hown hK hP 0 rfl rfl 0 (by decide) (hts (.fieldLink RX5 12 "RailOffsets" "pieces" "LRailOffsets$Pieces;") (by decide +kernel)) (fun _ h => h) rfl dX5_kindsTold_1 ?_
    refine lv_iload_n hx hb dX5_kindsTold_4 rfl (lv_at hl 3 rfl) ?_
    refine lv_iconst (v := 0) hx hb dX5_kindsTold_5 rfl ?_
    refine xRoV (nL := 7) ⟨hx, hb, hml, hown, hts⟩ (c_X2_read l E a u p3 0) (cwV 2 hts gX5_kindsTold_X2_read rfl rfl rfl ⟨rfl, hd_X2_read⟩ ⟨(Nat.le_of_ble_eq_true rfl), (Nat.le_of_ble_eq_true rfl)⟩) hF hS hA hP (va_recv (q := (RX2, TX2, 2)) hK hP (ci := 2) rfl (q0 := 1) rfl) rfl hl.1 rfl (Nat.le_of_ble_eq_true rfl) ⟨(Nat.le_of_ble_eq_true rfl), (Nat.le_of_ble_eq_true rfl)⟩ dX5_kindsTold_6 ?_
    refine W.eq (g2 := F0 m 9 ls [.int (s_X2_read u p3 0)]) rfl ?_
    refine lv_istore (lv' := [(4, .int (s_X2_read u p3 0)), (0, .ref (a 0)), (1, .ref (a 17)), (2, .int p2), (3, .int p3)]) hx hb dX5_kindsTold_9 hl (by decide) rfl (fun ls hl => ?_)
    refine lv_iconst (v := 0) hx hb dX5_kindsTold_11 rfl ?_
    refine lv_istore (lv' := [(5, .int 0), (4, .int (s_X2_read u p3 0)), (0, .ref (a 0)), (1, .ref (a 17)), (2, .int p2), (3, .int p3)]) hx hb dX5_kindsTold_12 hl (by decide) rfl (fun ls hl => ?_)
    refine lv_iconst (v := 0) hx hb dX5_kindsTold_14 rfl ?_
    refine lv_istore (lv' := [(6, .int 0), (5, .int 0), (4, .int (s_X2_read u p3 0)), (0, .ref (a 0)), (1, .ref (a 17)), (2, .int p2), (3, .int p3)]) hx hb dX5_kindsTold_15 hl (by decide) rfl (fun ls hl => ?_)
    have L17 : ∀ (n17 : Nat) (u17 : xU) (x5 : Int32) (x6 : Int32) (H : Heap) (locs : List Loc) (ls : Array Slot), (XV (u17.1 2) (u17.2 1)) → (¬ x6 < 0) → ((5 : Int32).toInt + 1 - x6.toInt).toNat < n17 → s_X5_kindsTold 0 u p2 p3 = s_X5_kindsTold_L17 0 n17 u17 p2 p3 (s_X2_read u p3 0) x5 x6 → lv_has ls 7 [(6, .int x6), (5, .int x5), (4, .int (s_X2_read u p3 0)), (0, .ref (a 0)), (1, .ref (a 17)), (2, .int p2), (3, .int p3)] → va_P (xD E) vwCl (wX E a u17) H → va_S (· ∈ LX a) s.heap H locs → W p l e rm_X5_kindsTold s m ([.ref (a 0), .ref (a 17), .int p2, .int p3] : List Value).toArray below meth c H locs 0 0 (xQmd E below (LX a) (some (.int ((s_X5_kindsTold 0 u p2 p3).1))) (wX E a ((s_X5_kindsTold 0 u p2 p3).2)) ([.ref (a 0), .ref (a 17), .int p2, .int p3] : List Value).toArray s) (F0 m 17 ls []) := by
      intro n17
      induction n17 with
      | zero => intro u17 x5 x6 H locs ls hI0 hI1 hM17 hR hl hP hS; exact absurd hM17 (Nat.not_lt_zero _)
      | succ n17 ih17 =>
        intro u17 x5 x6 H locs ls hI0 hI1 hM17 hR hl hP hS
        refine lv_iload hx hb dX5_kindsTold_17 (lv_at hl 0 rfl) ?_
        refine lv_iconst (v := 5) hx hb dX5_kindsTold_19 rfl ?_
        refine lv_icmp_gt (tgt := 59) hx hb dX5_kindsTold_20 rfl (fun q1 => ?_) (fun q1 => ?_)
        · have hR := hR.trans (if_pos q1)
          refine lv_aload_n hx hb dX5_kindsTold_59 rfl (lv_at hl 3 rfl) ?_
          refine va_get (D := xD E) (ci := 5) (v := .ref (a 7)) (C := RX5) (T := TX5) (N := 9) hx hb hts (by decide +kernel) hown hK hP 0 rfl rfl 4 (by decide) (hts (.fieldLink RX5 41 "RailOffsets" "line" "LRailOffsets$Line;") (by decide +kernel)) (fun _ h => h) rfl dX5_kindsTold_60 ?_
          refine lv_iload_n hx hb dX5_kindsTold_63 rfl (lv_at hl 6 rfl) ?_
          refine lv_iconst (v := 0) hx hb dX5_kindsTold_64 rfl ?_
          refine lv_iload hx hb dX5_kindsTold_65 (lv_at hl 2 rfl) ?_
          refine xMdV (nL := 7) ⟨hx, hb, hml, hown, hts⟩ (c_X0_attempt l E a u17 p3 0 (s_X2_read u p3 0) (xwm (u := u17) (p := p3) hI0 (j := 0) (by decide) (xro hp0 p3 (j := 0) (by decide)) (fun z => absurd z (by decide))) hL) (cwV 3 hts gX5_kindsTold_X0_attempt rfl rfl rfl ⟨rfl, hd_X0_attempt⟩ ⟨(Nat.le_of_ble_eq_true rfl), (Nat.le_of_ble_eq_true rfl)⟩) hF hS hL.2 (fun _ h => h) hP (va_recv (q := (RX0, TX0, 8)) hK hP (ci := 0) rfl (q0 := 7) rfl) rfl hl.1 rfl (Nat.le_of_ble_eq_true rfl) ⟨(Nat.le_of_ble_eq_true rfl), (Nat.le_of_ble_eq_true rfl)⟩ dX5_kindsTold_67 (fun H locs hP _ hS => ?_)
          refine W.eq (g2 := F0 m 70 ls []) rfl ?_
          refine lv_iload hx hb dX5_kindsTold_70 (lv_at hl 1 rfl) ?_
          have hR : s_X5_kindsTold 0 u p2 p3 = (x5, s_X0_attempt u17 p3 0 (s_X2_read u p3 0)) := hR
          exact W.iret (v := x5) hx hb hr (fun t ht _ => by rw [hR]; dsimp only; exact ⟨⟨rfl, by rw [ht]; exact hP⟩, hS.F ht⟩) hS.2.2 dX5_kindsTold_72
        · have hR := hR.trans (if_neg q1)
          refine lv_aload_n hx hb dX5_kindsTold_23 rfl (lv_at hl 3 rfl) ?_
          refine va_get (D := xD E) (ci := 5) (v := .ref (a 7)) (C := RX5) (T := TX5) (N := 9) hx hb hts (by decide +kernel) hown hK hP 0 rfl rfl 4 (by decide) (hts (.fieldLink RX5 41 "RailOffsets" "line" "LRailOffsets$Line;") (by decide +kernel)) (fun _ h => h) rfl dX5_kindsTold_24 ?_
          refine lv_iload_n hx hb dX5_kindsTold_27 rfl (lv_at hl 6 rfl) ?_
          refine lv_iconst (v := 0) hx hb dX5_kindsTold_28 rfl ?_
          refine lv_iload hx hb dX5_kindsTold_29 (lv_at hl 0 rfl) ?_
          refine xMdV (nL := 7) ⟨hx, hb, hml, hown, hts⟩ (c_X0_attempt l E a u17 p3 0 x6 (xwm (u := u17) (p := p3) (x := x6) hI0 (j := 0) (by decide) (xok_kind hI1 q1) (fun z => absurd z (by decide))) hL) (cwV 3 hts gX5_kindsTold_X0_attempt rfl rfl rfl ⟨rfl, hd_X0_attempt⟩ ⟨(Nat.le_of_ble_eq_true rfl), (Nat.le_of_ble_eq_true rfl)⟩) hF hS hL.2 (fun _ h => h) hP (va_recv (q := (RX0, TX0, 8)) hK hP (ci := 0) rfl (q0 := 7) rfl) rfl hl.1 rfl (Nat.le_of_ble_eq_true rfl) ⟨(Nat.le_of_ble_eq_true rfl), (Nat.le_of_ble_eq_true rfl)⟩ dX5_kindsTold_31 (fun H locs hP _ hS => ?_)
          refine W.eq (g2 := F0 m 34 ls []) rfl ?_
          refine lv_aload_n hx hb dX5_kindsTold_34 rfl (lv_at hl 3 rfl) ?_
          refine lv_aload_n hx hb dX5_kindsTold_35 rfl (lv_at hl 4 rfl) ?_
          refine lv_iload_n hx hb dX5_kindsTold_36 rfl (lv_at hl 5 rfl) ?_
          refine xRoV (nL := 7) ⟨hx, hb, hml, hown, hts⟩ (c_X5_firstOtherwise l E a (s_X0_attempt u17 p3 0 x6) 0 (by decide) p2) (cwV 2 hts gX5_kindsTold_X5_firstOtherwise rfl rfl rfl ⟨rfl, hd_X5_firstOtherwise⟩ ⟨(Nat.le_of_ble_eq_true rfl), (Nat.le_of_ble_eq_true rfl)⟩) hF hS hA hP (va_recv (q := (RX5, TX5, 9)) hK hP (ci := 5) rfl (q0 := 0) rfl) rfl hl.1 rfl (Nat.le_of_ble_eq_true rfl) ⟨(Nat.le_of_ble_eq_true rfl), (Nat.le_of_ble_eq_true rfl)⟩ dX5_kindsTold_37 ?_
          refine W.eq (g2 := F0 m 40 ls [.int (s_X5_firstOtherwise 0 (s_X0_attempt u17 p3 0 x6) p2)]) rfl ?_
          refine lv_iconst (v := (-1)) hx hb dX5_kindsTold_40 rfl ?_
          refine lv_icmp_ne (tgt := 53) hx hb dX5_kindsTold_41 rfl (fun q2 => ?_) (fun q2 => ?_)
          · have hR := hR.trans (if_neg q2)
            refine lv_iinc (k := 0) (v := x6 + 1) (lv' := [(6, .int (x6 + 1)), (5, .int x5), (4, .int (s_X2_read u p3 0)), (0, .ref (a 0)), (1, .ref (a 17)), (2, .int p2), (3, .int p3)]) hx hb dX5_kindsTold_53 hl rfl rfl (by decide) rfl (fun ls hl => ?_)
            refine lv_goto (tgt := 17) hx hb dX5_kindsTold_56 rfl ?_
            exact ih17 (s_X0_attempt u17 p3 0 x6) x5 (x6 + 1) _ _ _ (xav (u := u17) (p := p3) (x := x6) hI0 (j := 0) (by decide) (xok_kind hI1 q1) (fun z => absurd z (by decide))) (xupge hI1 q1 (by decide)) (Nat.lt_of_lt_of_le (xupl q1 (by decide)) (Nat.le_of_lt_succ hM17)) hR (lv_sub hl [0, 1, 2, 3, 4, 5, 6] rfl) hP hS
          · have hR := hR.trans (if_pos q2)
            refine lv_iload hx hb dX5_kindsTold_44 (lv_at hl 1 rfl) ?_
            refine lv_iconst (v := 1) hx hb dX5_kindsTold_46 rfl ?_
            refine lv_iload hx hb dX5_kindsTold_47 (lv_at hl 0 rfl) ?_
            refine lv_ishl hx hb dX5_kindsTold_49 ?_
            refine lv_ior hx hb dX5_kindsTold_50 ?_
            refine lv_istore (lv' := [(5, .int (x5 ||| (1 <<< (x6 &&& 31)))), (6, .int x6), (4, .int (s_X2_read u p3 0)), (0, .ref (a 0)), (1, .ref (a 17)), (2, .int p2), (3, .int p3)]) hx hb dX5_kindsTold_51 hl (by decide) rfl (fun ls hl => ?_)
            refine lv_iinc (k := 1) (v := x6 + 1) (lv' := [(6, .int (x6 + 1)), (5, .int (x5 ||| (1 <<< (x6 &&& 31)))), (4, .int (s_X2_read u p3 0)), (0, .ref (a 0)), (1, .ref (a 17)), (2, .int p2), (3, .int p3)]) hx hb dX5_kindsTold_53 hl rfl rfl (by decide) rfl (fun ls hl => ?_)
            refine lv_goto (tgt := 17) hx hb dX5_kindsTold_56 rfl ?_
            exact ih17 (s_X0_attempt u17 p3 0 x6) (x5 ||| (1 <<< (x6 &&& 31))) (x6 + 1) _ _ _ (xav (u := u17) (p := p3) (x := x6) hI0 (j := 0) (by decide) (xok_kind hI1 q1) (fun z => absurd z (by decide))) (xupge hI1 q1 (by decide)) (Nat.lt_of_lt_of_le (xupl q1 (by decide)) (Nat.le_of_lt_succ hM17)) hR (lv_sub hl [0, 1, 2, 3, 4, 5, 6] rfl) hP hS
    exact L17 (((5 : Int32).toInt + 1 - (0 : Int32).toInt).toNat + 1) u 0 0 _ _ ls (hp0) (by decide) (Nat.lt_succ_self _) hR hl hP hS
  · refine xMd.of (cc := cX5_kindsTold) (maxL := 7) (ret := (some .int)) (by decide) rfl (Nat.le_of_ble_eq_true rfl) ?_
    intro p e s m below meth c ls hAt hF hP hS hl
    obtain ⟨hx, hb, hr, hml, hown, hts, hlocks, -⟩ := hAt
    have hown : s.vm.findClass RX5 = some m.cls := hown
    have hl : lv_has ls 7 [(0, .ref (a 0)), (1, .ref (a 18)), (2, .int p2), (3, .int p3)] := hl
    have hK := hF.1
    have hA := hL.2
    change W p l e rm_X5_kindsTold s m ([.ref (a 0), .ref (a 18), .int p2, .int p3] : List Value).toArray below meth c s.heap [] 0 0 (xQmd E below (LX a) (some (.int ((s_X5_kindsTold 1 u p2 p3).1))) (wX E a ((s_X5_kindsTold 1 u p2 p3).2)) ([.ref (a 0), .ref (a 18), .int p2, .int p3] : List Value).toArray s) _
    have hS : va_S (· ∈ LX a) s.heap s.heap [] := hS
    have hR : s_X5_kindsTold 1 u p2 p3 = s_X5_kindsTold 1 u p2 p3 := rfl
    refine lv_aload_n hx hb dX5_kindsTold_0 rfl (lv_at hl 0 rfl) ?_
    refine va_get (D := xD E) (ci := 5) (v := .ref (a 1)) (C := RX5) (T := TX5) (N := 9) hx hb hts (by decide +kernel) hown hK hP 0 rfl rfl 0 (by decide) (hts (.fieldLink RX5 12 "RailOffsets" "pieces" "LRailOffsets$Pieces;") (by decide +kernel)) (fun _ h => h) rfl dX5_kindsTold_1 ?_
    refine lv_iload_n hx hb dX5_kindsTold_4 rfl (lv_at hl 3 rfl) ?_
    refine lv_iconst (v := 0) hx hb dX5_kindsTold_5 rfl ?_
    refine xRoV (nL := 7) ⟨hx, hb, hml, hown, hts⟩ (c_X2_read l E a u p3 0) (cwV 2 hts gX5_kindsTold_X2_read rfl rfl rfl ⟨rfl, hd_X2_read⟩ ⟨(Nat.le_of_ble_eq_true rfl), (Nat.le_of_ble_eq_true rfl)⟩) hF hS hA hP (va_recv (q := (RX2, TX2, 2)) hK hP (ci := 2) rfl (q0 := 1) rfl) rfl hl.1 rfl (Nat.le_of_ble_eq_true rfl) ⟨(Nat.le_of_ble_eq_true rfl), (Nat.le_of_ble_eq_true rfl)⟩ dX5_kindsTold_6 ?_
    refine W.eq (g2 := F0 m 9 ls [.int (s_X2_read u p3 0)]) rfl ?_
    refine lv_istore (lv' := [(4, .int (s_X2_read u p3 0)), (0, .ref (a 0)), (1, .ref (a 18)), (2, .int p2), (3, .int p3)]) hx hb dX5_kindsTold_9 hl (by decide) rfl (fun ls hl => ?_)
    refine lv_iconst (v := 0) hx hb dX5_kindsTold_11 rfl ?_
    refine lv_istore (lv' := [(5, .int 0), (4, .int (s_X2_read u p3 0)), (0, .ref (a 0)), (1, .ref (a 18)), (2, .int p2), (3, .int p3)]) hx hb dX5_kindsTold_12 hl (by decide) rfl (fun ls hl => ?_)
    refine lv_iconst (v := 0) hx hb dX5_kindsTold_14 rfl ?_
    refine lv_istore (lv' := [(6, .int 0), (5, .int 0), (4, .int (s_X2_read u p3 0)), (0, .ref (a 0)), (1, .ref (a 18)), (2, .int p2), (3, .int p3)]) hx hb dX5_kindsTold_15 hl (by decide) rfl (fun ls hl => ?_)
    have L17 : ∀ (n17 : Nat) (u17 : xU) (x5 : Int32) (x6 : Int32) (H : Heap) (locs : List Loc) (ls : Array Slot), (XV (u17.1 2) (u17.2 1)) → (¬ x6 < 0) → ((5 : Int32).toInt + 1 - x6.toInt).toNat < n17 → s_X5_kindsTold 1 u p2 p3 = s_X5_kindsTold_L17 1 n17 u17 p2 p3 (s_X2_read u p3 0) x5 x6 → lv_has ls 7 [(6, .int x6), (5, .int x5), (4, .int (s_X2_read u p3 0)), (0, .ref (a 0)), (1, .ref (a 18)), (2, .int p2), (3, .int p3)] → va_P (xD E) vwCl (wX E a u17) H → va_S (· ∈ LX a) s.heap H locs → W p l e rm_X5_kindsTold s m ([.ref (a 0), .ref (a 18), .int p2, .int p3] : List Value).toArray below meth c H locs 0 0 (xQmd E below (LX a) (some (.int ((s_X5_kindsTold 1 u p2 p3).1))) (wX E a ((s_X5_kindsTold 1 u p2 p3).2)) ([.ref (a 0), .ref (a 18), .int p2, .int p3] : List Value).toArray s) (F0 m 17 ls []) := by
      intro n17
      induction n17 with
      | zero => intro u17 x5 x6 H locs ls hI0 hI1 hM17 hR hl hP hS; exact absurd hM17 (Nat.not_lt_zero _)
      | succ n17 ih17 =>
        intro u17 x5 x6 H locs ls hI0 hI1 hM17 hR hl hP hS
        refine lv_iload hx hb dX5_kindsTold_17 (lv_at hl 0 rfl) ?_
        refine lv_iconst (v := 5) hx hb dX5_kindsTold_19 rfl ?_
        refine lv_icmp_gt (tgt := 59) hx hb dX5_kindsTold_20 rfl (fun q1 => ?_) (fun q1 => ?_)
        · have hR := hR.trans (if_pos q1)
          refine lv_aload_n hx hb dX5_kindsTold_59 rfl (lv_at hl 3 rfl) ?_
          refine va_get (D := xD E) (ci := 5) (v := .ref (a 7)) (C := RX5) (T := TX5) (N := 9) hx hb hts (by decide +kernel) hown hK hP 0 rfl rfl 4 (by decide) (hts (.fieldLink RX5 41 "RailOffsets" "line" "LRailOffsets$Line;") (by decide +kernel)) (fun _ h => h) rfl dX5_kindsTold_60 ?_
          refine lv_iload_n hx hb dX5_kindsTold_63 rfl (lv_at hl 6 rfl) ?_
          refine lv_iconst (v := 0) hx hb dX5_kindsTold_64 rfl ?_
          refine lv_iload hx hb dX5_kindsTold_65 (lv_at hl 2 rfl) ?_
          refine xMdV (nL := 7) ⟨hx, hb, hml, hown, hts⟩ (c_X0_attempt l E a u17 p3 0 (s_X2_read u p3 0) (xwm (u := u17) (p := p3) hI0 (j := 0) (by decide) (xro hp0 p3 (j := 0) (by decide)) (fun z => absurd z (by decide))) hL) (cwV 3 hts gX5_kindsTold_X0_attempt rfl rfl rfl ⟨rfl, hd_X0_attempt⟩ ⟨(Nat.le_of_ble_eq_true rfl), (Nat.le_of_ble_eq_true rfl)⟩) hF hS hL.2 (fun _ h => h) hP (va_recv (q := (RX0, TX0, 8)) hK hP (ci := 0) rfl (q0 := 7) rfl) rfl hl.1 rfl (Nat.le_of_ble_eq_true rfl) ⟨(Nat.le_of_ble_eq_true rfl), (Nat.le_of_ble_eq_true rfl)⟩ dX5_kindsTold_67 (fun H locs hP _ hS => ?_)
          refine W.eq (g2 := F0 m 70 ls []) rfl ?_
          refine lv_iload hx hb dX5_kindsTold_70 (lv_at hl 1 rfl) ?_
          have hR : s_X5_kindsTold 1 u p2 p3 = (x5, s_X0_attempt u17 p3 0 (s_X2_read u p3 0)) := hR
          exact W.iret (v := x5) hx hb hr (fun t ht _ => by rw [hR]; dsimp only; exact ⟨⟨rfl, by rw [ht]; exact hP⟩, hS.F ht⟩) hS.2.2 dX5_kindsTold_72
        · have hR := hR.trans (if_neg q1)
          refine lv_aload_n hx hb dX5_kindsTold_23 rfl (lv_at hl 3 rfl) ?_
          refine va_get (D := xD E) (ci := 5) (v := .ref (a 7)) (C := RX5) (T := TX5) (N := 9) hx hb hts (by decide +kernel) hown hK hP 0 rfl rfl 4 (by decide) (hts (.fieldLink RX5 41 "RailOffsets" "line" "LRailOffsets$Line;") (by decide +kernel)) (fun _ h => h) rfl dX5_kindsTold_24 ?_
          refine lv_iload_n hx hb dX5_kindsTold_27 rfl (lv_at hl 6 rfl) ?_
          refine lv_iconst (v := 0) hx hb dX5_kindsTold_28 rfl ?_
          refine lv_iload hx hb dX5_kindsTold_29 (lv_at hl 0 rfl) ?_
          refine xMdV (nL := 7) ⟨hx, hb, hml, hown, hts⟩ (c_X0_attempt l E a u17 p3 0 x6 (xwm (u := u17) (p := p3) (x := x6) hI0 (j := 0) (by decide) (xok_kind hI1 q1) (fun z => absurd z (by decide))) hL) (cwV 3 hts gX5_kindsTold_X0_attempt rfl rfl rfl ⟨rfl, hd_X0_attempt⟩ ⟨(Nat.le_of_ble_eq_true rfl), (Nat.le_of_ble_eq_true rfl)⟩) hF hS hL.2 (fun _ h => h) hP (va_recv (q := (RX0, TX0, 8)) hK hP (ci := 0) rfl (q0 := 7) rfl) rfl hl.1 rfl (Nat.le_of_ble_eq_true rfl) ⟨(Nat.le_of_ble_eq_true rfl), (Nat.le_of_ble_eq_true rfl)⟩ dX5_kindsTold_31 (fun H locs hP _ hS => ?_)
          refine W.eq (g2 := F0 m 34 ls []) rfl ?_
          refine lv_aload_n hx hb dX5_kindsTold_34 rfl (lv_at hl 3 rfl) ?_
          refine lv_aload_n hx hb dX5_kindsTold_35 rfl (lv_at hl 4 rfl) ?_
          refine lv_iload_n hx hb dX5_kindsTold_36 rfl (lv_at hl 5 rfl) ?_
          refine xRoV (nL := 7) ⟨hx, hb, hml, hown, hts⟩ (c_X5_firstOtherwise l E a (s_X0_attempt u17 p3 0 x6) 1 (by decide) p2) (cwV 2 hts gX5_kindsTold_X5_firstOtherwise rfl rfl rfl ⟨rfl, hd_X5_firstOtherwise⟩ ⟨(Nat.le_of_ble_eq_true rfl), (Nat.le_of_ble_eq_true rfl)⟩) hF hS hA hP (va_recv (q := (RX5, TX5, 9)) hK hP (ci := 5) rfl (q0 := 0) rfl) rfl hl.1 rfl (Nat.le_of_ble_eq_true rfl) ⟨(Nat.le_of_ble_eq_true rfl), (Nat.le_of_ble_eq_true rfl)⟩ dX5_kindsTold_37 ?_
          refine W.eq (g2 := F0 m 40 ls [.int (s_X5_firstOtherwise 1 (s_X0_attempt u17 p3 0 x6) p2)]) rfl ?_
          refine lv_iconst (v := (-1)) hx hb dX5_kindsTold_40 rfl ?_
          refine lv_icmp_ne (tgt := 53) hx hb dX5_kindsTold_41 rfl (fun q2 => ?_) (fun q2 => ?_)
          · have hR := hR.trans (if_neg q2)
            refine lv_iinc (k := 0) (v := x6 + 1) (lv' := [(6, .int (x6 + 1)), (5, .int x5), (4, .int (s_X2_read u p3 0)), (0, .ref (a 0)), (1, .ref (a 18)), (2, .int p2), (3, .int p3)]) hx hb dX5_kindsTold_53 hl rfl rfl (by decide) rfl (fun ls hl => ?_)
            refine lv_goto (tgt := 17) hx hb dX5_kindsTold_56 rfl ?_
            exact ih17 (s_X0_attempt u17 p3 0 x6) x5 (x6 + 1) _ _ _ (xav (u := u17) (p := p3) (x := x6) hI0 (j := 0) (by decide) (xok_kind hI1 q1) (fun z => absurd z (by decide))) (xupge hI1 q1 (by decide)) (Nat.lt_of_lt_of_le (xupl q1 (by decide)) (Nat.le_of_lt_succ hM17)) hR (lv_sub hl [0, 1, 2, 3, 4, 5, 6] rfl) hP hS
          · have hR := hR.trans (if_pos q2)
            refine lv_iload hx hb dX5_kindsTold_44 (lv_at hl 1 rfl) ?_
            refine lv_iconst (v := 1) hx hb dX5_kindsTold_46 rfl ?_
            refine lv_iload hx hb dX5_kindsTold_47 (lv_at hl 0 rfl) ?_
            refine lv_ishl hx hb dX5_kindsTold_49 ?_
            refine lv_ior hx hb dX5_kindsTold_50 ?_
            refine lv_istore (lv' := [(5, .int (x5 ||| (1 <<< (x6 &&& 31)))), (6, .int x6), (4, .int (s_X2_read u p3 0)), (0, .ref (a 0)), (1, .ref (a 18)), (2, .int p2), (3, .int p3)]) hx hb dX5_kindsTold_51 hl (by decide) rfl (fun ls hl => ?_)
            refine lv_iinc (k := 1) (v := x6 + 1) (lv' := [(6, .int (x6 + 1)), (5, .int (x5 ||| (1 <<< (x6 &&& 31)))), (4, .int (s_X2_read u p3 0)), (0, .ref (a 0)), (1, .ref (a 18)), (2, .int p2), (3, .int p3)]) hx hb dX5_kindsTold_53 hl rfl rfl (by decide) rfl (fun ls hl => ?_)
            refine lv_goto (tgt := 17) hx hb dX5_kindsTold_56 rfl ?_
            exact ih17 (s_X0_attempt u17 p3 0 x6) (x5 ||| (1 <<< (x6 &&& 31))) (x6 + 1) _ _ _ (xav (u := u17) (p := p3) (x := x6) hI0 (j := 0) (by decide) (xok_kind hI1 q1) (fun z => absurd z (by decide))) (xupge hI1 q1 (by decide)) (Nat.lt_of_lt_of_le (xupl q1 (by decide)) (Nat.le_of_lt_succ hM17)) hR (lv_sub hl [0, 1, 2, 3, 4, 5, 6] rfl) hP hS
    exact L17 (((5 : Int32).toInt + 1 - (0 : Int32).toInt).toNat + 1) u 0 0 _ _ ls (hp0) (by decide) (Nat.lt_succ_self _) hR hl hP hS
  · refine xMd.of (cc := cX5_kindsTold) (maxL := 7) (ret := (some .int)) (by decide) rfl (Nat.le_of_ble_eq_true rfl) ?_
    intro p e s m below meth c ls hAt hF hP hS hl
    obtain ⟨hx, hb, hr, hml, hown, hts, hlocks, -⟩ := hAt
    have hown : s.vm.findClass RX5 = some m.cls := hown
    have hl : lv_has ls 7 [(0, .ref (a 0)), (1, .ref (a 19)), (2, .int p2), (3, .int p3)] := hl
    have hK := hF.1
    have hA := hL.2
    change W p l e rm_X5_kindsTold s m ([.ref (a 0), .ref (a 19), .int p2, .int p3] : List Value).toArray below meth c s.heap [] 0 0 (xQmd E below (LX a) (some (.int ((s_X5_kindsTold 2 u p2 p3).1))) (wX E a ((s_X5_kindsTold 2 u p2 p3).2)) ([.ref (a 0), .ref (a 19), .int p2, .int p3] : List Value).toArray s) _
    have hS : va_S (· ∈ LX a) s.heap s.heap [] := hS
    have hR : s_X5_kindsTold 2 u p2 p3 = s_X5_kindsTold 2 u p2 p3 := rfl
    refine lv_aload_n hx hb dX5_kindsTold_0 rfl (lv_at hl 0 rfl) ?_
    refine va_get (D := xD E) (ci := 5) (v := .ref (a 1)) (C := RX5) (T := TX5) (N := 9) hx hb hts (by decide +kernel) hown hK hP 0 rfl rfl 0 (by decide) (hts (.fieldLink RX5 12 "RailOffsets" "pieces" "LRailOffsets$Pieces;") (by decide +kernel)) (fun _ h => h) rfl dX5_kindsTold_1 ?_
    refine lv_iload_n hx hb dX5_kindsTold_4 rfl (lv_at hl 3 rfl) ?_
    refine lv_iconst (v := 0) hx hb dX5_kindsTold_5 rfl ?_
    refine xRoV (nL := 7) ⟨hx, hb, hml, hown, hts⟩ (c_X2_read l E a u p3 0) (cwV 2 hts gX5_kindsTold_X2_read rfl rfl rfl ⟨rfl, hd_X2_read⟩ ⟨(Nat.le_of_ble_eq_true rfl), (Nat.le_of_ble_eq_true rfl)⟩) hF hS hA hP (va_recv (q := (RX2, TX2, 2)) hK hP (ci := 2) rfl (q0 := 1) rfl) rfl hl.1 rfl (Nat.le_of_ble_eq_true rfl) ⟨(Nat.le_of_ble_eq_true rfl), (Nat.le_of_ble_eq_true rfl)⟩ dX5_kindsTold_6 ?_
    refine W.eq (g2 := F0 m 9 ls [.int (s_X2_read u p3 0)]) rfl ?_
    refine lv_istore (lv' := [(4, .int (s_X2_read u p3 0)), (0, .ref (a 0)), (1, .ref (a 19)), (2, .int p2), (3, .int p3)]) hx hb dX5_kindsTold_9 hl (by decide) rfl (fun ls hl => ?_)
    refine lv_iconst (v := 0) hx hb dX5_kindsTold_11 rfl ?_
    refine lv_istore (lv' := [(5, .int 0), (4, .int (s_X2_read u p3 0)), (0, .ref (a 0)), (1, .ref (a 19)), (2, .int p2), (3, .int p3)]) hx hb dX5_kindsTold_12 hl (by decide) rfl (fun ls hl => ?_)
    refine lv_iconst (v := 0) hx hb dX5_kindsTold_14 rfl ?_
    refine lv_istore (lv' := [(6, .int 0), (5, .int 0), (4, .int (s_X2_read u p3 0)), (0, .ref (a 0)), (1, .ref (a 19)), (2, .int p2), (3, .int p3)]) hx hb dX5_kindsTold_15 hl (by decide) rfl (fun ls hl => ?_)
    have L17 : ∀ (n17 : Nat) (u17 : xU) (x5 : Int32) (x6 : Int32) (H : Heap) (locs : List Loc) (ls : Array Slot), (XV (u17.1 2) (u17.2 1)) → (¬ x6 < 0) → ((5 : Int32).toInt + 1 - x6.toInt).toNat < n17 → s_X5_kindsTold 2 u p2 p3 = s_X5_kindsTold_L17 2 n17 u17 p2 p3 (s_X2_read u p3 0) x5 x6 → lv_has ls 7 [(6, .int x6), (5, .int x5), (4, .int (s_X2_read u p3 0)), (0, .ref (a 0)), (1, .ref (a 19)), (2, .int p2), (3, .int p3)] → va_P (xD E) vwCl (wX E a u17) H → va_S (· ∈ LX a) s.heap H locs → W p l e rm_X5_kindsTold s m ([.ref (a 0), .ref (a 19), .int p2, .int p3] : List Value).toArray below meth c H locs 0 0 (xQmd E below (LX a) (some (.int ((s_X5_kindsTold 2 u p2 p3).1))) (wX E a ((s_X5_kindsTold 2 u p2 p3).2)) ([.ref (a 0), .ref (a 19), .int p2, .int p3] : List Value).toArray s) (F0 m 17 ls []) := by
      intro n17
      induction n17 with
      | zero => intro u17 x5 x6 H locs ls hI0 hI1 hM17 hR hl hP hS; exact absurd hM17 (Nat.not_lt_zero _)
      | succ n17 ih17 =>
        intro u17 x5 x6 H locs ls hI0 hI1 hM17 hR hl hP hS
        refine lv_iload hx hb dX5_kindsTold_17 (lv_at hl 0 rfl) ?_
        refine lv_iconst (v := 5) hx hb dX5_kindsTold_19 rfl ?_
        refine lv_icmp_gt (tgt := 59) hx hb dX5_kindsTold_20 rfl (fun q1 => ?_) (fun q1 => ?_)
        · have hR := hR.trans (if_pos q1)
          refine lv_aload_n hx hb dX5_kindsTold_59 rfl (lv_at hl 3 rfl) ?_
          refine va_get (D := xD E) (ci := 5) (v := .ref (a 7)) (C := RX5) (T := TX5) (N := 9) hx hb hts (by decide +kernel) hown hK hP 0 rfl rfl 4 (by decide) (hts (.fieldLink RX5 41 "RailOffsets" "line" "LRailOffsets$Line;") (by decide +kernel)) (fun _ h => h) rfl dX5_kindsTold_60 ?_
          refine lv_iload_n hx hb dX5_kindsTold_63 rfl (lv_at hl 6 rfl) ?_
          refine lv_iconst (v := 0) hx hb dX5_kindsTold_64 rfl ?_
          refine lv_iload hx hb dX5_kindsTold_65 (lv_at hl 2 rfl) ?_
          refine xMdV (nL := 7) ⟨hx, hb, hml, hown, hts⟩ (c_X0_attempt l E a u17 p3 0 (s_X2_read u p3 0) (xwm (u := u17) (p := p3) hI0 (j := 0) (by decide) (xro hp0 p3 (j := 0) (by decide)) (fun z => absurd z (by decide))) hL) (cwV 3 hts gX5_kindsTold_X0_attempt rfl rfl rfl ⟨rfl, hd_X0_attempt⟩ ⟨(Nat.le_of_ble_eq_true rfl), (Nat.le_of_ble_eq_true rfl)⟩) hF hS hL.2 (fun _ h => h) hP (va_recv (q := (RX0, TX0, 8)) hK hP (ci := 0) rfl (q0 := 7) rfl) rfl hl.1 rfl (Nat.le_of_ble_eq_true rfl) ⟨(Nat.le_of_ble_eq_true rfl), (Nat.le_of_ble_eq_true rfl)⟩ dX5_kindsTold_67 (fun H locs hP _ hS => ?_)
          refine W.eq (g2 := F0 m 70 ls []) rfl ?_
          refine lv_iload hx hb dX5_kindsTold_70 (lv_at hl 1 rfl) ?_
          have hR : s_X5_kindsTold 2 u p2 p3 = (x5, s_X0_attempt u17 p3 0 (s_X2_read u p3 0)) := hR
          exact W.iret (v := x5) hx hb hr (fun t ht _ => by rw [hR]; dsimp only; exact ⟨⟨rfl, by rw [ht]; exact hP⟩, hS.F ht⟩) hS.2.2 dX5_kindsTold_72
        · have hR := hR.trans (if_neg q1)
          refine lv_aload_n hx hb dX5_kindsTold_23 rfl (lv_at hl 3 rfl) ?_
          refine va_get (D := xD E) (ci := 5) (v := .ref (a 7)) (C := RX5) (T := TX5) (N := 9) hx hb hts (by decide +kernel) hown hK hP 0 rfl rfl 4 (by decide) (hts (.fieldLink RX5 41 "RailOffsets" "line" "LRailOffsets$Line;") (by decide +kernel)) (fun _ h => h) rfl dX5_kindsTold_24 ?_
          refine lv_iload_n hx hb dX5_kindsTold_27 rfl (lv_at hl 6 rfl) ?_
          refine lv_iconst (v := 0) hx hb dX5_kindsTold_28 rfl ?_
          refine lv_iload hx hb dX5_kindsTold_29 (lv_at hl 0 rfl) ?_
          refine xMdV (nL := 7) ⟨hx, hb, hml, hown, hts⟩ (c_X0_attempt l E a u17 p3 0 x6 (xwm (u := u17) (p := p3) (x := x6) hI0 (j := 0) (by decide) (xok_kind hI1 q1) (fun z => absurd z (by decide))) hL) (cwV 3 hts gX5_kindsTold_X0_attempt rfl rfl rfl ⟨rfl, hd_X0_attempt⟩ ⟨(Nat.le_of_ble_eq_true rfl), (Nat.le_of_ble_eq_true rfl)⟩) hF hS hL.2 (fun _ h => h) hP (va_recv (q := (RX0, TX0, 8)) hK hP (ci := 0) rfl (q0 := 7) rfl) rfl hl.1 rfl (Nat.le_of_ble_eq_true rfl) ⟨(Nat.le_of_ble_eq_true rfl), (Nat.le_of_ble_eq_true rfl)⟩ dX5_kindsTold_31 (fun H locs hP _ hS => ?_)
          refine W.eq (g2 := F0 m 34 ls []) rfl ?_
          refine lv_aload_n hx hb dX5_kindsTold_34 rfl (lv_at hl 3 rfl) ?_
          refine lv_aload_n hx hb dX5_kindsTold_35 rfl (lv_at hl 4 rfl) ?_
          refine lv_iload_n hx hb dX5_kindsTold_36 rfl (lv_at hl 5 rfl) ?_
          refine xRoV (nL := 7) ⟨hx, hb, hml, hown, hts⟩ (c_X5_firstOtherwise l E a (s_X0_attempt u17 p3 0 x6) 2 (by decide) p2) (cwV 2 hts gX5_kindsTold_X5_firstOtherwise rfl rfl rfl ⟨rfl, hd_X5_firstOtherwise⟩ ⟨(Nat.le_of_ble_eq_true rfl), (Nat.le_of_ble_eq_true rfl)⟩) hF hS hA hP (va_recv (q := (RX5, TX5, 9)) hK hP (ci := 5) rfl (q0 := 0) rfl) rfl hl.1 rfl (Nat.le_of_ble_eq_true rfl) ⟨(Nat.le_of_ble_eq_true rfl), (Nat.le_of_ble_eq_true rfl)⟩ dX5_kindsTold_37 ?_
          refine W.eq (g2 := F0 m 40 ls [.int (s_X5_firstOtherwise 2 (s_X0_attempt u17 p3 0 x6) p2)]) rfl ?_
          refine lv_iconst (v := (-1)) hx hb dX5_kindsTold_40 rfl ?_
          refine lv_icmp_ne (tgt := 53) hx hb dX5_kindsTold_41 rfl (fun q2 => ?_) (fun q2 => ?_)
          · have hR := hR.trans (if_neg q2)
            refine lv_iinc (k := 0) (v := x6 + 1) (lv' := [(6, .int (x6 + 1)), (5, .int x5), (4, .int (s_X2_read u p3 0)), (0, .ref (a 0)), (1, .ref (a 19)), (2, .int p2), (3, .int p3)]) hx hb dX5_kindsTold_53 hl rfl rfl (by decide) rfl (fun ls hl => ?_)
            refine lv_goto (tgt := 17) hx hb dX5_kindsTold_56 rfl ?_
            exact ih17 (s_X0_attempt u17 p3 0 x6) x5 (x6 + 1) _ _ _ (xav (u := u17) (p := p3) (x := x6) hI0 (j := 0) (by decide) (xok_kind hI1 q1) (fun z => absurd z (by decide))) (xupge hI1 q1 (by decide)) (Nat.lt_of_lt_of_le (xupl q1 (by decide)) (Nat.le_of_lt_succ hM17)) hR (lv_sub hl [0, 1, 2, 3, 4, 5, 6] rfl) hP hS
          · have hR := hR.trans (if_pos q2)
            refine lv_iload hx hb dX5_kindsTold_44 (lv_at hl 1 rfl) ?_
            refine lv_iconst (v := 1) hx hb dX5_kindsTold_46 rfl ?_
            refine lv_iload hx hb dX5_kindsTold_47 (lv_at hl 0 rfl) ?_
            refine lv_ishl hx hb dX5_kindsTold_49 ?_
            refine lv_ior hx hb dX5_kindsTold_50 ?_
            refine lv_istore (lv' := [(5, .int (x5 ||| (1 <<< (x6 &&& 31)))), (6, .int x6), (4, .int (s_X2_read u p3 0)), (0, .ref (a 0)), (1, .ref (a 19)), (2, .int p2), (3, .int p3)]) hx hb dX5_kindsTold_51 hl (by decide) rfl (fun ls hl => ?_)
            refine lv_iinc (k := 1) (v := x6 + 1) (lv' := [(6, .int (x6 + 1)), (5, .int (x5 ||| (1 <<< (x6 &&& 31)))), (4, .int (s_X2_read u p3 0)), (0, .ref (a 0)), (1, .ref (a 19)), (2, .int p2), (3, .int p3)]) hx hb dX5_kindsTold_53 hl rfl rfl (by decide) rfl (fun ls hl => ?_)
            refine lv_goto (tgt := 17) hx hb dX5_kindsTold_56 rfl ?_
            exact ih17 (s_X0_attempt u17 p3 0 x6) (x5 ||| (1 <<< (x6 &&& 31))) (x6 + 1) _ _ _ (xav (u := u17) (p := p3) (x := x6) hI0 (j := 0) (by decide) (xok_kind hI1 q1) (fun z => absurd z (by decide))) (xupge hI1 q1 (by decide)) (Nat.lt_of_lt_of_le (xupl q1 (by decide)) (Nat.le_of_lt_succ hM17)) hR (lv_sub hl [0, 1, 2, 3, 4, 5, 6] rfl) hP hS
    exact L17 (((5 : Int32).toInt + 1 - (0 : Int32).toInt).toNat + 1) u 0 0 _ _ ls (hp0) (by decide) (Nat.lt_succ_self _) hR hl hP hS
  · refine xMd.of (cc := cX5_kindsTold) (maxL := 7) (ret := (some .int)) (by decide) rfl (Nat.le_of_ble_eq_true rfl) ?_
    intro p e s m below meth c ls hAt hF hP hS hl
    obtain ⟨hx, hb, hr, hml, hown, hts, hlocks, -⟩ := hAt
    have hown : s.vm.findClass RX5 = some m.cls := hown
    have hl : lv_has ls 7 [(0, .ref (a 0)), (1, .ref (a 20)), (2, .int p2), (3, .int p3)] := hl
    have hK := hF.1
    have hA := hL.2
    change W p l e rm_X5_kindsTold s m ([.ref (a 0), .ref (a 20), .int p2, .int p3] : List Value).toArray below meth c s.heap [] 0 0 (xQmd E below (LX a) (some (.int ((s_X5_kindsTold 3 u p2 p3).1))) (wX E a ((s_X5_kindsTold 3 u p2 p3).2)) ([.ref (a 0), .ref (a 20), .int p2, .int p3] : List Value).toArray s) _
    have hS : va_S (· ∈ LX a) s.heap s.heap [] := hS
    have hR : s_X5_kindsTold 3 u p2 p3 = s_X5_kindsTold 3 u p2 p3 := rfl
    refine lv_aload_n hx hb dX5_kindsTold_0 rfl (lv_at hl 0 rfl) ?_
    refine va_get (D := xD E) (ci := 5) (v := .ref (a 1)) (C := RX5) (T := TX5) (N := 9) hx hb hts (by decide +kernel) hown hK hP 0 rfl rfl 0 (by decide) (hts (.fieldLink RX5 12 "RailOffsets" "pieces" "LRailOffsets$Pieces;") (by decide +kernel)) (fun _ h => h) rfl dX5_kindsTold_1 ?_
    refine lv_iload_n hx hb dX5_kindsTold_4 rfl (lv_at hl 3 rfl) ?_
    refine lv_iconst (v := 0) hx hb dX5_kindsTold_5 rfl ?_
    refine xRoV (nL := 7) ⟨hx, hb, hml, hown, hts⟩ (c_X2_read l E a u p3 0) (cwV 2 hts gX5_kindsTold_X2_read rfl rfl rfl ⟨rfl, hd_X2_read⟩ ⟨(Nat.le_of_ble_eq_true rfl), (Nat.le_of_ble_eq_true rfl)⟩) hF hS hA hP (va_recv (q := (RX2, TX2, 2)) hK hP (ci := 2) rfl (q0 := 1) rfl) rfl hl.1 rfl (Nat.le_of_ble_eq_true rfl) ⟨(Nat.le_of_ble_eq_true rfl), (Nat.le_of_ble_eq_true rfl)⟩ dX5_kindsTold_6 ?_
    refine W.eq (g2 := F0 m 9 ls [.int (s_X2_read u p3 0)]) rfl ?_
    refine lv_istore (lv' := [(4, .int (s_X2_read u p3 0)), (0, .ref (a 0)), (1, .ref (a 20)), (2, .int p2), (3, .int p3)]) hx hb dX5_kindsTold_9 hl (by decide) rfl (fun ls hl => ?_)
    refine lv_iconst (v := 0) hx hb dX5_kindsTold_11 rfl ?_
    refine lv_istore (lv' := [(5, .int 0), (4, .int (s_X2_read u p3 0)), (0, .ref (a 0)), (1, .ref (a 20)), (2, .int p2), (3, .int p3)]) hx hb dX5_kindsTold_12 hl (by decide) rfl (fun ls hl => ?_)
    refine lv_iconst (v := 0) hx hb dX5_kindsTold_14 rfl ?_
    refine lv_istore (lv' := [(6, .int 0), (5, .int 0), (4, .int (s_X2_read u p3 0)), (0, .ref (a 0)), (1, .ref (a 20)), (2, .int p2), (3, .int p3)]) hx hb dX5_kindsTold_15 hl (by decide) rfl (fun ls hl => ?_)
    have L17 : ∀ (n17 : Nat) (u17 : xU) (x5 : Int32) (x6 : Int32) (H : Heap) (locs : List Loc) (ls : Array Slot), (XV (u17.1 2) (u17.2 1)) → (¬ x6 < 0) → ((5 : Int32).toInt + 1 - x6.toInt).toNat < n17 → s_X5_kindsTold 3 u p2 p3 = s_X5_kindsTold_L17 3 n17 u17 p2 p3 (s_X2_read u p3 0) x5 x6 → lv_has ls 7 [(6, .int x6), (5, .int x5), (4, .int (s_X2_read u p3 0)), (0, .ref (a 0)), (1, .ref (a 20)), (2, .int p2), (3, .int p3)] → va_P (xD E) vwCl (wX E a u17) H → va_S (· ∈ LX a) s.heap H locs → W p l e rm_X5_kindsTold s m ([.ref (a 0), .ref (a 20), .int p2, .int p3] : List Value).toArray below meth c H locs 0 0 (xQmd E below (LX a) (some (.int ((s_X5_kindsTold 3 u p2 p3).1))) (wX E a ((s_X5_kindsTold 3 u p2 p3).2)) ([.ref (a 0), .ref (a 20), .int p2, .int p3] : List Value).toArray s) (F0 m 17 ls []) := by
      intro n17
      induction n17 with
      | zero => intro u17 x5 x6 H locs ls hI0 hI1 hM17 hR hl hP hS; exact absurd hM17 (Nat.not_lt_zero _)
      | succ n17 ih17 =>
        intro u17 x5 x6 H locs ls hI0 hI1 hM17 hR hl hP hS
        refine lv_iload hx hb dX5_kindsTold_17 (lv_at hl 0 rfl) ?_
        refine lv_iconst (v := 5) hx hb dX5_kindsTold_19 rfl ?_
        refine lv_icmp_gt (tgt := 59) hx hb dX5_kindsTold_20 rfl (fun q1 => ?_) (fun q1 => ?_)
        · have hR := hR.trans (if_pos q1)
          refine lv_aload_n hx hb dX5_kindsTold_59 rfl (lv_at hl 3 rfl) ?_
          refine va_get (D := xD E) (ci := 5) (v := .ref (a 7)) (C := RX5) (T := TX5) (N := 9) hx hb hts (by decide +kernel) hown hK hP 0 rfl rfl 4 (by decide) (hts (.fieldLink RX5 41 "RailOffsets" "line" "LRailOffsets$Line;") (by decide +kernel)) (fun _ h => h) rfl dX5_kindsTold_60 ?_
          refine lv_iload_n hx hb dX5_kindsTold_63 rfl (lv_at hl 6 rfl) ?_
          refine lv_iconst (v := 0) hx hb dX5_kindsTold_64 rfl ?_
          refine lv_iload hx hb dX5_kindsTold_65 (lv_at hl 2 rfl) ?_
          refine xMdV (nL := 7) ⟨hx, hb, hml, hown, hts⟩ (c_X0_attempt l E a u17 p3 0 (s_X2_read u p3 0) (xwm (u := u17) (p := p3) hI0 (j := 0) (by decide) (xro hp0 p3 (j := 0) (by decide)) (fun z => absurd z (by decide))) hL) (cwV 3 hts gX5_kindsTold_X0_attempt rfl rfl rfl ⟨rfl, hd_X0_attempt⟩ ⟨(Nat.le_of_ble_eq_true rfl), (Nat.le_of_ble_eq_true rfl)⟩) hF hS hL.2 (fun _ h => h) hP (va_recv (q := (RX0, TX0, 8)) hK hP (ci := 0) rfl (q0 := 7) rfl) rfl hl.1 rfl (Nat.le_of_ble_eq_true rfl) ⟨(Nat.le_of_ble_eq_true rfl), (Nat.le_of_ble_eq_true rfl)⟩ dX5_kindsTold_67 (fun H locs hP _ hS => ?_)
          refine W.eq (g2 := F0 m 70 ls []) rfl ?_
          refine lv_iload hx hb dX5_kindsTold_70 (lv_at hl 1 rfl) ?_
          have hR : s_X5_kindsTold 3 u p2 p3 = (x5, s_X0_attempt u17 p3 0 (s_X2_read u p3 0)) := hR
          exact W.iret (v := x5) hx hb hr (fun t ht _ => by rw [hR]; dsimp only; exact ⟨⟨rfl, by rw [ht]; exact hP⟩, hS.F ht⟩) hS.2.2 dX5_kindsTold_72
        · have hR := hR.trans (if_neg q1)
          refine lv_aload_n hx hb dX5_kindsTold_23 rfl (lv_at hl 3 rfl) ?_
          refine va_get (D := xD E) (ci := 5) (v := .ref (a 7)) (C := RX5) (T := TX5) (N := 9) hx hb hts (by decide +kernel) hown hK hP 0 rfl rfl 4 (by decide) (hts (.fieldLink RX5 41 "RailOffsets" "line" "LRailOffsets$Line;") (by decide +kernel)) (fun _ h => h) rfl dX5_kindsTold_24 ?_
          refine lv_iload_n hx hb dX5_kindsTold_27 rfl (lv_at hl 6 rfl) ?_
          refine lv_iconst (v := 0) hx hb dX5_kindsTold_28 rfl ?_
          refine lv_iload hx hb dX5_kindsTold_29 (lv_at hl 0 rfl) ?_
          refine xMdV (nL := 7) ⟨hx, hb, hml, hown, hts⟩ (c_X0_attempt l E a u17 p3 0 x6 (xwm (u := u17) (p := p3) (x := x6) hI0 (j := 0) (by decide) (xok_kind hI1 q1) (fun z => absurd z (by decide))) hL) (cwV 3 hts gX5_kindsTold_X0_attempt rfl rfl rfl ⟨rfl, hd_X0_attempt⟩ ⟨(Nat.le_of_ble_eq_true rfl), (Nat.le_of_ble_eq_true rfl)⟩) hF hS hL.2 (fun _ h => h) hP (va_recv (q := (RX0, TX0, 8)) hK hP (ci := 0) rfl (q0 := 7) rfl) rfl hl.1 rfl (Nat.le_of_ble_eq_true rfl) ⟨(Nat.le_of_ble_eq_true rfl), (Nat.le_of_ble_eq_true rfl)⟩ dX5_kindsTold_31 (fun H locs hP _ hS => ?_)
          refine W.eq (g2 := F0 m 34 ls []) rfl ?_
          refine lv_aload_n hx hb dX5_kindsTold_34 rfl (lv_at hl 3 rfl) ?_
          refine lv_aload_n hx hb dX5_kindsTold_35 rfl (lv_at hl 4 rfl) ?_
          refine lv_iload_n hx hb dX5_kindsTold_36 rfl (lv_at hl 5 rfl) ?_
          refine xRoV (nL := 7) ⟨hx, hb, hml, hown, hts⟩ (c_X5_firstOtherwise l E a (s_X0_attempt u17 p3 0 x6) 3 (by decide) p2) (cwV 2 hts gX5_kindsTold_X5_firstOtherwise rfl rfl rfl ⟨rfl, hd_X5_firstOtherwise⟩ ⟨(Nat.le_of_ble_eq_true rfl), (Nat.le_of_ble_eq_true rfl)⟩) hF hS hA hP (va_recv (q := (RX5, TX5, 9)) hK hP (ci := 5) rfl (q0 := 0) rfl) rfl hl.1 rfl (Nat.le_of_ble_eq_true rfl) ⟨(Nat.le_of_ble_eq_true rfl), (Nat.le_of_ble_eq_true rfl)⟩ dX5_kindsTold_37 ?_
          refine W.eq (g2 := F0 m 40 ls [.int (s_X5_firstOtherwise 3 (s_X0_attempt u17 p3 0 x6) p2)]) rfl ?_
          refine lv_iconst (v := (-1)) hx hb dX5_kindsTold_40 rfl ?_
          refine lv_icmp_ne (tgt := 53) hx hb dX5_kindsTold_41 rfl (fun q2 => ?_) (fun q2 => ?_)
          · have hR := hR.trans (if_neg q2)
            refine lv_iinc (k := 0) (v := x6 + 1) (lv' := [(6, .int (x6 + 1)), (5, .int x5), (4, .int (s_X2_read u p3 0)), (0, .ref (a 0)), (1, .ref (a 20)), (2, .int p2), (3, .int p3)]) hx hb dX5_kindsTold_53 hl rfl rfl (by decide) rfl (fun ls hl => ?_)
            refine lv_goto (tgt := 17) hx hb dX5_kindsTold_56 rfl ?_
            exact ih17 (s_X0_attempt u17 p3 0 x6) x5 (x6 + 1) _ _ _ (xav (u := u17) (p := p3) (x := x6) hI0 (j := 0) (by decide) (xok_kind hI1 q1) (fun z => absurd z (by decide))) (xupge hI1 q1 (by decide)) (Nat.lt_of_lt_of_le (xupl q1 (by decide)) (Nat.le_of_lt_succ hM17)) hR (lv_sub hl [0, 1, 2, 3, 4, 5, 6] rfl) hP hS
          · have hR := hR.trans (if_pos q2)
            refine lv_iload hx hb dX5_kindsTold_44 (lv_at hl 1 rfl) ?_
            refine lv_iconst (v := 1) hx hb dX5_kindsTold_46 rfl ?_
            refine lv_iload hx hb dX5_kindsTold_47 (lv_at hl 0 rfl) ?_
            refine lv_ishl hx hb dX5_kindsTold_49 ?_
            refine lv_ior hx hb dX5_kindsTold_50 ?_
            refine lv_istore (lv' := [(5, .int (x5 ||| (1 <<< (x6 &&& 31)))), (6, .int x6), (4, .int (s_X2_read u p3 0)), (0, .ref (a 0)), (1, .ref (a 20)), (2, .int p2), (3, .int p3)]) hx hb dX5_kindsTold_51 hl (by decide) rfl (fun ls hl => ?_)
            refine lv_iinc (k := 1) (v := x6 + 1) (lv' := [(6, .int (x6 + 1)), (5, .int (x5 ||| (1 <<< (x6 &&& 31)))), (4, .int (s_X2_read u p3 0)), (0, .ref (a 0)), (1, .ref (a 20)), (2, .int p2), (3, .int p3)]) hx hb dX5_kindsTold_53 hl rfl rfl (by decide) rfl (fun ls hl => ?_)
            refine lv_goto (tgt := 17) hx hb dX5_kindsTold_56 rfl ?_
            exact ih17 (s_X0_attempt u17 p3 0 x6) (x5 ||| (1 <<< (x6 &&& 31))) (x6 + 1) _ _ _ (xav (u := u17) (p := p3) (x := x6) hI0 (j := 0) (by decide) (xok_kind hI1 q1) (fun z => absurd z (by decide))) (xupge hI1 q1 (by decide)) (Nat.lt_of_lt_of_le (xupl q1 (by decide)) (Nat.le_of_lt_succ hM17)) hR (lv_sub hl [0, 1, 2, 3, 4, 5, 6] rfl) hP hS
    exact L17 (((5 : Int32).toInt + 1 - (0 : Int32).toInt).toNat + 1) u 0 0 _ _ ls (hp0) (by decide) (Nat.lt_succ_self _) hR hl hP hS
def s_X5_tells (u : xU) (p1 : Int32) (p2 : Int32) (p3 : Int32) : Int32 × xU :=
  if p1 = 0 then
    if (s_X5_within p2 1 200) = 0 then
      ((-2), u)
    else
      if p3 = (-1) then
        if (s_X3_isMissing (uS u 0)) = 0 then
          if (u.2 8) ≤ 8 then
            if p3 = (-1) then
              (s_X5_firstOtherwise 0 u p2, u)
            else
              ((s_X5_kindsTold 0 u p2 p3).1, (s_X5_kindsTold 0 u p2 p3).2)
          else
            ((-2), u)
        else
          ((-11), u)
      else
        if (s_X2_has u p3) = 0 then
          ((-2), u)
        else
          if (s_X3_isMissing (uS u 0)) = 0 then
            if (u.2 8) ≤ 8 then
              if p3 = (-1) then
                (s_X5_firstOtherwise 0 u p2, u)
              else
                ((s_X5_kindsTold 0 u p2 p3).1, (s_X5_kindsTold 0 u p2 p3).2)
            else
              ((-2), u)
          else
            ((-11), u)
  else
    if p1 = 1 then
      if (s_X5_within p2 1 200) = 0 then
        ((-2), u)
      else
        if p3 = (-1) then
          if (s_X3_isMissing (uS u 1)) = 0 then
            if (u.2 9) ≤ 8 then
              if p3 = (-1) then
                (s_X5_firstOtherwise 1 u p2, u)
              else
                ((s_X5_kindsTold 1 u p2 p3).1, (s_X5_kindsTold 1 u p2 p3).2)
            else
              ((-2), u)
          else
            ((-11), u)
        else
          if (s_X2_has u p3) = 0 then
            ((-2), u)
          else
            if (s_X3_isMissing (uS u 1)) = 0 then
              if (u.2 9) ≤ 8 then
                if p3 = (-1) then
                  (s_X5_firstOtherwise 1 u p2, u)
                else
                  ((s_X5_kindsTold 1 u p2 p3).1, (s_X5_kindsTold 1 u p2 p3).2)
              else
                ((-2), u)
            else
              ((-11), u)
    else
      if p1 = 2 then
        if (s_X5_within p2 1 200) = 0 then
          ((-2), u)
        else
          if p3 = (-1) then
            if (s_X3_isMissing (uS u 2)) = 0 then
              if (u.2 10) ≤ 8 then
                if p3 = (-1) then
                  (s_X5_firstOtherwise 2 u p2, u)
                else
                  ((s_X5_kindsTold 2 u p2 p3).1, (s_X5_kindsTold 2 u p2 p3).2)
              else
                ((-2), u)
            else
              ((-11), u)
          else
            if (s_X2_has u p3) = 0 then
              ((-2), u)
            else
              if (s_X3_isMissing (uS u 2)) = 0 then
                if (u.2 10) ≤ 8 then
                  if p3 = (-1) then
                    (s_X5_firstOtherwise 2 u p2, u)
                  else
                    ((s_X5_kindsTold 2 u p2 p3).1, (s_X5_kindsTold 2 u p2 p3).2)
                else
                  ((-2), u)
              else
                ((-11), u)
      else
        if p1 = 3 then
          if (s_X5_within p2 1 200) = 0 then
            ((-2), u)
          else
            if p3 = (-1) then
              if (s_X3_isMissing (uS u 3)) = 0 then
                if (u.2 11) ≤ 8 then
                  if p3 = (-1) then
                    (s_X5_firstOtherwise 3 u p2, u)
                  else
                    ((s_X5_kindsTold 3 u p2 p3).1, (s_X5_kindsTold 3 u p2 p3).2)
                else
                  ((-2), u)
              else
                ((-11), u)
            else
              if (s_X2_has u p3) = 0 then
                ((-2), u)
              else
                if (s_X3_isMissing (uS u 3)) = 0 then
                  if (u.2 11) ≤ 8 then
                    if p3 = (-1) then
                      (s_X5_firstOtherwise 3 u p2, u)
                    else
                      ((s_X5_kindsTold 3 u p2 p3).1, (s_X5_kindsTold 3 u p2 p3).2)
                  else
                    ((-2), u)
                else
                  ((-11), u)
        else
          ((-2), u)
abbrev rm_X5_tells : Room := { frames := 6, cells := 0, slots := 0, locals := 144 }
set_option maxHeartbeats 8000000 in
set_option maxRecDepth 100000 in
theorem c_X5_tells (l : Launch) (E : xG) (a : Nat → Nat) (u : xU) (p1 : Int32) (p2 : Int32) (p3 : Int32) (hp0 : XV (u.1 2) (u.2 1)) (hL : xOK E (LX a)) : xMd l E yX5_tells wsX5_tells rm_X5_tells (LX a) [.ref (a 0), .int p1, .int p2, .int p3] (wX E a u) (some (.int ((s_X5_tells u p1 p2 p3).1))) (wX E a ((s_X5_tells u p1 p2 p3).2)) := by
  refine xMd.of (cc := cX5_tells) (maxL := 5) (ret := (some .int)) (by decide) rfl (Nat.le_of_ble_eq_true rfl) ?_
  intro p e s m below meth c ls hAt hF hP hS hl
  obtain ⟨hx, hb, hr, hml, hown, hts, hlocks, -⟩ := hAt
  have hown : s.vm.findClass RX5 = some m.cls := hown
  have hl : lv_has ls 5 [(0, .ref (a 0)), (1, .int p1), (2, .int p2), (3, .int p3)] := hl
  have hK := hF.1
  have hA := hL.2
  change W p l e rm_X5_tells s m ([.ref (a 0), .int p1, .int p2, .int p3] : List Value).toArray below meth c s.heap [] 0 0 (xQmd E below (LX a) (some (.int ((s_X5_tells u p1 p2 p3).1))) (wX E a ((s_X5_tells u p1 p2 p3).2)) ([.ref (a 0), .int p1, .int p2, .int p3] : List Value).toArray s) _
  have hS : va_S (· ∈ LX a) s.heap s.heap [] := hS
  have hR : s_X5_tells u p1 p2 p3 = s_X5_tells u p1 p2 p3 := rfl
  refine lv_aload_n hx hb dX5_tells_0 rfl (lv_at hl 0 rfl) ?_
  refine lv_iload_n hx hb dX5_tells_1 rfl (lv_at hl 1 rfl) ?_
  by_cases t1_0 : p1 = 0
  · have hR := hR.trans (if_pos t1_0)
    refine xRoV (nL := 5) ⟨hx, hb, hml, hown, hts⟩ (c_X5_sheetOf l E a u p1 0 (by decide) t1_0) (cwV 1 hts gX5_tells_X5_sheetOf rfl rfl rfl ⟨rfl, hd_X5_sheetOf⟩ ⟨(Nat.le_of_ble_eq_true rfl), (Nat.le_of_ble_eq_true rfl)⟩) hF hS hA hP (va_recv (q := (RX5, TX5, 9)) hK hP (ci := 5) rfl (q0 := 0) rfl) rfl hl.1 rfl (Nat.le_of_ble_eq_true rfl) ⟨(Nat.le_of_ble_eq_true rfl), (Nat.le_of_ble_eq_true rfl)⟩ dX5_tells_2 ?_
    refine W.eq (g2 := F0 m 5 ls [.ref (a 17)]) rfl ?_
    refine lv_astore (lv' := [(4, .ref (a 17)), (0, .ref (a 0)), (1, .int p1), (2, .int p2), (3, .int p3)]) hx hb dX5_tells_5 hl (by decide) rfl (fun ls hl => ?_)
    refine lv_aload hx hb dX5_tells_7 (lv_at hl 0 rfl) ?_
    refine lv_ifnull hx hb dX5_tells_9 ?_
    refine lv_iload_n hx hb dX5_tells_12 rfl (lv_at hl 3 rfl) ?_
    refine lv_iconst (v := 1) hx hb dX5_tells_13 rfl ?_
    refine lv_sipush (v := 200) hx hb dX5_tells_14 rfl ?_
    refine xRoS (nL := 5) ⟨hx, hb, hml, hown, hts⟩ (c_X5_within l E p2 1 200) (va_cwS 3 hts gX5_tells_X5_within rfl rfl rfl hd_X5_within ⟨(Nat.le_of_ble_eq_true rfl), (Nat.le_of_ble_eq_true rfl)⟩) hF hS hA (hP.sub [] rfl) rfl hl.1 rfl (Nat.le_of_ble_eq_true rfl) ⟨(Nat.le_of_ble_eq_true rfl), (Nat.le_of_ble_eq_true rfl)⟩ dX5_tells_17 ?_
    refine W.eq (g2 := F0 m 20 ls [.int (s_X5_within p2 1 200)]) rfl ?_
    refine lv_if_eq (tgt := 39) hx hb dX5_tells_20 rfl (fun q2 => ?_) (fun q2 => ?_)
    · have hR := hR.trans (if_pos q2)
      refine lv_bipush (v := (-2)) hx hb dX5_tells_39 rfl ?_
      have hR : s_X5_tells u p1 p2 p3 = ((-2), u) := hR
      exact W.iret (v := (-2)) hx hb hr (fun t ht _ => by rw [hR]; dsimp only; exact ⟨⟨rfl, by rw [ht]; exact hP⟩, hS.F ht⟩) hS.2.2 dX5_tells_41
    · have hR := hR.trans (if_neg q2)
      refine lv_iload_n hx hb dX5_tells_23 rfl (lv_at hl 4 rfl) ?_
      refine lv_iconst (v := (-1)) hx hb dX5_tells_24 rfl ?_
      refine lv_icmp_eq (tgt := 42) hx hb dX5_tells_25 rfl (fun q3 => ?_) (fun q3 => ?_)
      · have hR := hR.trans (if_pos q3)
        refine lv_aload hx hb dX5_tells_42 (lv_at hl 0 rfl) ?_
        refine xRoV (nL := 5) ⟨hx, hb, hml, hown, hts⟩ (c_X3_isMissing l E (a 17) (a 21) (uS u 0) ) (cwV 0 hts gX5_tells_X3_isMissing rfl rfl rfl ⟨rfl, hd_X3_isMissing⟩ ⟨(Nat.le_of_ble_eq_true rfl), (Nat.le_of_ble_eq_true rfl)⟩) hF hS hA (hP.sub [17, 21] rfl) (va_recv (q := (RX3, TX3, 3)) hK hP (ci := 3) rfl (q0 := 17) rfl) rfl hl.1 rfl (Nat.le_of_ble_eq_true rfl) ⟨(Nat.le_of_ble_eq_true rfl), (Nat.le_of_ble_eq_true rfl)⟩ dX5_tells_44 ?_
        refine W.eq (g2 := F0 m 47 ls [.int (s_X3_isMissing (uS u 0))]) rfl ?_
        refine lv_if_eq (tgt := 53) hx hb dX5_tells_47 rfl (fun q4 => ?_) (fun q4 => ?_)
        · have hR := hR.trans (if_pos q4)
          refine lv_aload hx hb dX5_tells_53 (lv_at hl 0 rfl) ?_
          refine va_get (D := xD E) (ci := 3) (v := .int (u.2 8)) (C := RX3) (T := TX3) (N := 3) hx hb hts (by decide +kernel) hown hK hP 17 rfl rfl 2 (by decide) (hts (.fieldLink RX5 264 "RailOffsets$Sheet" "size" "I") (by decide +kernel)) (fun _ h => h) rfl dX5_tells_55 ?_
          refine lv_bipush (v := 8) hx hb dX5_tells_58 rfl ?_
          refine lv_icmp_le (tgt := 66) hx hb dX5_tells_60 rfl (fun q5 => ?_) (fun q5 => ?_)
          · have hR := hR.trans (if_pos q5)
            refine lv_iload_n hx hb dX5_tells_66 rfl (lv_at hl 4 rfl) ?_
            refine lv_iconst (v := (-1)) hx hb dX5_tells_67 rfl ?_
            refine lv_icmp_ne (tgt := 81) hx hb dX5_tells_68 rfl (fun q6 => ?_) (fun q6 => ?_)
            · have hR := hR.trans (if_neg q6)
              refine lv_aload_n hx hb dX5_tells_81 rfl (lv_at hl 1 rfl) ?_
              refine lv_aload hx hb dX5_tells_82 (lv_at hl 0 rfl) ?_
              refine lv_iload_n hx hb dX5_tells_84 rfl (lv_at hl 3 rfl) ?_
              refine lv_iload_n hx hb dX5_tells_85 rfl (lv_at hl 4 rfl) ?_
              refine xMdV (nL := 5) ⟨hx, hb, hml, hown, hts⟩ (c_X5_kindsTold l E a u 0 (by decide) p2 p3 (hp0) hL) (cwV 3 hts gX5_tells_X5_kindsTold rfl rfl rfl ⟨rfl, hd_X5_kindsTold⟩ ⟨(Nat.le_of_ble_eq_true rfl), (Nat.le_of_ble_eq_true rfl)⟩) hF hS hL.2 (fun _ h => h) hP (va_recv (q := (RX5, TX5, 9)) hK hP (ci := 5) rfl (q0 := 0) rfl) rfl hl.1 rfl (Nat.le_of_ble_eq_true rfl) ⟨(Nat.le_of_ble_eq_true rfl), (Nat.le_of_ble_eq_true rfl)⟩ dX5_tells_86 (fun H locs hP _ hS => ?_)
              refine W.eq (g2 := F0 m 89 ls [.int ((s_X5_kindsTold 0 u p2 p3).1)]) rfl ?_
              have hR : s_X5_tells u p1 p2 p3 = ((s_X5_kindsTold 0 u p2 p3).1, (s_X5_kindsTold 0 u p2 p3).2) := hR
              exact W.iret (v := (s_X5_kindsTold 0 u p2 p3).1) hx hb hr (fun t ht _ => by rw [hR]; dsimp only; exact ⟨⟨rfl, by rw [ht]; exact hP⟩, hS.F ht⟩) hS.2.2 dX5_tells_89
            · have hR := hR.trans (if_pos q6)
              refine lv_aload_n hx hb dX5_tells_71 rfl (lv_at hl 1 rfl) ?_
              refine lv_aload hx hb dX5_tells_72 (lv_at hl 0 rfl) ?_
              refine lv_iload_n hx hb dX5_tells_74 rfl (lv_at hl 3 rfl) ?_
              refine xRoV (nL := 5) ⟨hx, hb, hml, hown, hts⟩ (c_X5_firstOtherwise l E a u 0 (by decide) p2) (cwV 2 hts gX5_tells_X5_firstOtherwise rfl rfl rfl ⟨rfl, hd_X5_firstOtherwise⟩ ⟨(Nat.le_of_ble_eq_true rfl), (Nat.le_of_ble_eq_true rfl)⟩) hF hS hA hP (va_recv (q := (RX5, TX5, 9)) hK hP (ci := 5) rfl (q0 := 0) rfl) rfl hl.1 rfl (Nat.le_of_ble_eq_true rfl) ⟨(Nat.le_of_ble_eq_true rfl), (Nat.le_of_ble_eq_true rfl)⟩ dX5_tells_75 ?_
              refine W.eq (g2 := F0 m 78 ls [.int (s_X5_firstOtherwise 0 u p2)]) rfl ?_
              refine lv_goto (tgt := 89) hx hb dX5_tells_78 rfl ?_
              have hR : s_X5_tells u p1 p2 p3 = (s_X5_firstOtherwise 0 u p2, u) := hR
              exact W.iret (v := s_X5_firstOtherwise 0 u p2) hx hb hr (fun t ht _ => by rw [hR]; dsimp only; exact ⟨⟨rfl, by rw [ht]; exact hP⟩, hS.F ht⟩) hS.2.2 dX5_tells_89
          · have hR := hR.trans (if_neg q5)
            refine lv_bipush (v := (-2)) hx hb dX5_tells_63 rfl ?_
            have hR : s_X5_tells u p1 p2 p3 = ((-2), u) := hR
            exact W.iret (v := (-2)) hx hb hr (fun t ht _ => by rw [hR]; dsimp only; exact ⟨⟨rfl, by rw [ht]; exact hP⟩, hS.F ht⟩) hS.2.2 dX5_tells_65
        · have hR := hR.trans (if_neg q4)
          refine lv_bipush (v := (-11)) hx hb dX5_tells_50 rfl ?_
          have hR : s_X5_tells u p1 p2 p3 = ((-11), u) := hR
          exact W.iret (v := (-11)) hx hb hr (fun t ht _ => by rw [hR]; dsimp only; exact ⟨⟨rfl, by rw [ht]; exact hP⟩, hS.F ht⟩) hS.2.2 dX5_tells_52
      · have hR := hR.trans (if_neg q3)
        refine lv_aload_n hx hb dX5_tells_28 rfl (lv_at hl 1 rfl) ?_
        refine va_get (D := xD E) (ci := 5) (v := .ref (a 1)) (C := RX5) (T := TX5) (N := 9) hx hb hts (by decide +kernel) hown hK hP 0 rfl rfl 0 (by decide) (hts (.fieldLink RX5 12 "RailOffsets" "pieces" "LRailOffsets$Pieces;") (by decide +kernel)) (fun _ h => h) rfl dX5_tells_29 ?_
        refine lv_iload_n hx hb dX5_tells_32 rfl (lv_at hl 4 rfl) ?_
        refine xRoV (nL := 5) ⟨hx, hb, hml, hown, hts⟩ (c_X2_has l E a u p3) (cwV 1 hts gX5_tells_X2_has rfl rfl rfl ⟨rfl, hd_X2_has⟩ ⟨(Nat.le_of_ble_eq_true rfl), (Nat.le_of_ble_eq_true rfl)⟩) hF hS hA hP (va_recv (q := (RX2, TX2, 2)) hK hP (ci := 2) rfl (q0 := 1) rfl) rfl hl.1 rfl (Nat.le_of_ble_eq_true rfl) ⟨(Nat.le_of_ble_eq_true rfl), (Nat.le_of_ble_eq_true rfl)⟩ dX5_tells_33 ?_
        refine W.eq (g2 := F0 m 36 ls [.int (s_X2_has u p3)]) rfl ?_
        refine lv_if_ne (tgt := 42) hx hb dX5_tells_36 rfl (fun q7 => ?_) (fun q7 => ?_)
        · have hR := hR.trans (if_neg q7)
          refine lv_aload hx hb dX5_tells_42 (lv_at hl 0 rfl) ?_
          refine xRoV (nL := 5) ⟨hx, hb, hml, hown, hts⟩ (c_X3_isMissing l E (a 17) (a 21) (uS u 0) ) (cwV 0 hts gX5_tells_X3_isMissing rfl rfl rfl ⟨rfl, hd_X3_isMissing⟩ ⟨(Nat.le_of_ble_eq_true rfl), (Nat.le_of_ble_eq_true rfl)⟩) hF hS hA (hP.sub [17, 21] rfl) (va_recv (q := (RX3, TX3, 3)) hK hP (ci := 3) rfl (q0 := 17) rfl) rfl hl.1 rfl (Nat.le_of_ble_eq_true rfl) ⟨(Nat.le_of_ble_eq_true rfl), (Nat.le_of_ble_eq_true rfl)⟩ dX5_tells_44 ?_
          refine W.eq (g2 := F0 m 47 ls [.int (s_X3_isMissing (uS u 0))]) rfl ?_
          refine lv_if_eq (tgt := 53) hx hb dX5_tells_47 rfl (fun q8 => ?_) (fun q8 => ?_)
          · have hR := hR.trans (if_pos q8)
            refine lv_aload hx hb dX5_tells_53 (lv_at hl 0 rfl) ?_
            refine va_get (D := xD E) (ci := 3) (v := .int (u.2 8)) (C := RX3) (T := TX3) (N := 3) hx hb hts (by decide +kernel) hown hK hP 17 rfl rfl 2 (by decide) (hts (.fieldLink RX5 264 "RailOffsets$Sheet" "size" "I") (by decide +kernel)) (fun _ h => h) rfl dX5_tells_55 ?_
            refine lv_bipush (v := 8) hx hb dX5_tells_58 rfl ?_
            refine lv_icmp_le (tgt := 66) hx hb dX5_tells_60 rfl (fun q9 => ?_) (fun q9 => ?_)
            · have hR := hR.trans (if_pos q9)
              refine lv_iload_n hx hb dX5_tells_66 rfl (lv_at hl 4 rfl) ?_
              refine lv_iconst (v := (-1)) hx hb dX5_tells_67 rfl ?_
              refine lv_icmp_ne (tgt := 81) hx hb dX5_tells_68 rfl (fun q10 => ?_) (fun q10 => ?_)
              · have hR := hR.trans (if_neg q10)
                refine lv_aload_n hx hb dX5_tells_81 rfl (lv_at hl 1 rfl) ?_
                refine lv_aload hx hb dX5_tells_82 (lv_at hl 0 rfl) ?_
                refine lv_iload_n hx hb dX5_tells_84 rfl (lv_at hl 3 rfl) ?_
                refine lv_iload_n hx hb dX5_tells_85 rfl (lv_at hl 4 rfl) ?_
                refine xMdV (nL := 5) ⟨hx, hb, hml, hown, hts⟩ (c_X5_kindsTold l E a u 0 (by decide) p2 p3 (hp0) hL) (cwV 3 hts gX5_tells_X5_kindsTold rfl rfl rfl ⟨rfl, hd_X5_kindsTold⟩ ⟨(Nat.le_of_ble_eq_true rfl), (Nat.le_of_ble_eq_true rfl)⟩) hF hS hL.2 (fun _ h => h) hP (va_recv (q := (RX5, TX5, 9)) hK hP (ci := 5) rfl (q0 := 0) rfl) rfl hl.1 rfl (Nat.le_of_ble_eq_true rfl) ⟨(Nat.le_of_ble_eq_true rfl), (Nat.le_of_ble_eq_true rfl)⟩ dX5_tells_86 (fun H locs hP _ hS => ?_)
                refine W.eq (g2 := F0 m 89 ls [.int ((s_X5_kindsTold 0 u p2 p3).1)]) rfl ?_
                have hR : s_X5_tells u p1 p2 p3 = ((s_X5_kindsTold 0 u p2 p3).1, (s_X5_kindsTold 0 u p2 p3).2) := hR
                exact W.iret (v := (s_X5_kindsTold 0 u p2 p3).1) hx hb hr (fun t ht _ => by rw [hR]; dsimp only; exact ⟨⟨rfl, by rw [ht]; exact hP⟩, hS.F ht⟩) hS.2.2 dX5_tells_89
              · have hR := hR.trans (if_pos q10)
                refine lv_aload_n hx hb dX5_tells_71 rfl (lv_at hl 1 rfl) ?_
                refine lv_aload hx hb dX5_tells_72 (lv_at hl 0 rfl) ?_
                refine lv_iload_n hx hb dX5_tells_74 rfl (lv_at hl 3 rfl) ?_
                refine xRoV (nL := 5) ⟨hx, hb, hml, hown, hts⟩ (c_X5_firstOtherwise l E a u 0 (by decide) p2) (cwV 2 hts gX5_tells_X5_firstOtherwise rfl rfl rfl ⟨rfl, hd_X5_firstOtherwise⟩ ⟨(Nat.le_of_ble_eq_true rfl), (Nat.le_of_ble_eq_true rfl)⟩) hF hS hA hP (va_recv (q := (RX5, TX5, 9)) hK hP (ci := 5) rfl (q0 := 0) rfl) rfl hl.1 rfl (Nat.le_of_ble_eq_true rfl) ⟨(Nat.le_of_ble_eq_true rfl), (Nat.le_of_ble_eq_true rfl)⟩ dX5_tells_75 ?_
                refine W.eq (g2 := F0 m 78 ls [.int (s_X5_firstOtherwise 0 u p2)]) rfl ?_
                refine lv_goto (tgt := 89) hx hb dX5_tells_78 rfl ?_
                have hR : s_X5_tells u p1 p2 p3 = (s_X5_firstOtherwise 0 u p2, u) := hR
                exact W.iret (v := s_X5_firstOtherwise 0 u p2) hx hb hr (fun t ht _ => by rw [hR]; dsimp only; exact ⟨⟨rfl, by rw [ht]; exact hP⟩, hS.F ht⟩) hS.2.2 dX5_tells_89
            · have hR := hR.trans (if_neg q9)
              refine lv_bipush (v := (-2)) hx hb dX5_tells_63 rfl ?_
              have hR : s_X5_tells u p1 p2 p3 = ((-2), u) := hR
              exact W.iret (v := (-2)) hx hb hr (fun t ht _ => by rw [hR]; dsimp only; exact ⟨⟨rfl, by rw [ht]; exact hP⟩, hS.F ht⟩) hS.2.2 dX5_tells_65
          · have hR := hR.trans (if_neg q8)
            refine lv_bipush (v := (-11)) hx hb dX5_tells_50 rfl ?_
            have hR : s_X5_tells u p1 p2 p3 = ((-11), u) := hR
            exact W.iret (v := (-11)) hx hb hr (fun t ht _ => by rw [hR]; dsimp only; exact ⟨⟨rfl, by rw [ht]; exact hP⟩, hS.F ht⟩) hS.2.2 dX5_tells_52
        · have hR := hR.trans (if_pos q7)
          refine lv_bipush (v := (-2)) hx hb dX5_tells_39 rfl ?_
          have hR : s_X5_tells u p1 p2 p3 = ((-2), u) := hR
          exact W.iret (v := (-2)) hx hb hr (fun t ht _ => by rw [hR]; dsimp only; exact ⟨⟨rfl, by rw [ht]; exact hP⟩, hS.F ht⟩) hS.2.2 dX5_tells_41
  have hR := hR.trans (if_neg t1_0)
  by_cases t1_1 : p1 = 1
  · have hR := hR.trans (if_pos t1_1)
    refine xRoV (nL := 5) ⟨hx, hb, hml, hown, hts⟩ (c_X5_sheetOf l E a u p1 1 (by decide) t1_1) (cwV 1 hts gX5_tells_X5_sheetOf rfl rfl rfl ⟨rfl, hd_X5_sheetOf⟩ ⟨(Nat.le_of_ble_eq_true rfl), (Nat.le_of_ble_eq_true rfl)⟩) hF hS hA hP (va_recv (q := (RX5, TX5, 9)) hK hP (ci := 5) rfl (q0 := 0) rfl) rfl hl.1 rfl (Nat.le_of_ble_eq_true rfl) ⟨(Nat.le_of_ble_eq_true rfl), (Nat.le_of_ble_eq_true rfl)⟩ dX5_tells_2 ?_
    refine W.eq (g2 := F0 m 5 ls [.ref (a 18)]) rfl ?_
    refine lv_astore (lv' := [(4, .ref (a 18)), (0, .ref (a 0)), (1, .int p1), (2, .int p2), (3, .int p3)]) hx hb dX5_tells_5 hl (by decide) rfl (fun ls hl => ?_)
    refine lv_aload hx hb dX5_tells_7 (lv_at hl 0 rfl) ?_
    refine lv_ifnull hx hb dX5_tells_9 ?_
    refine lv_iload_n hx hb dX5_tells_12 rfl (lv_at hl 3 rfl) ?_
    refine lv_iconst (v := 1) hx hb dX5_tells_13 rfl ?_
    refine lv_sipush (v := 200) hx hb dX5_tells_14 rfl ?_
    refine xRoS (nL := 5) ⟨hx, hb, hml, hown, hts⟩ (c_X5_within l E p2 1 200) (va_cwS 3 hts gX5_tells_X5_within rfl rfl rfl hd_X5_within ⟨(Nat.le_of_ble_eq_true rfl), (Nat.le_of_ble_eq_true rfl)⟩) hF hS hA (hP.sub [] rfl) rfl hl.1 rfl (Nat.le_of_ble_eq_true rfl) ⟨(Nat.le_of_ble_eq_true rfl), (Nat.le_of_ble_eq_true rfl)⟩ dX5_tells_17 ?_
    refine W.eq (g2 := F0 m 20 ls [.int (s_X5_within p2 1 200)]) rfl ?_
    refine lv_if_eq (tgt := 39) hx hb dX5_tells_20 rfl (fun q11 => ?_) (fun q11 => ?_)
    · have hR := hR.trans (if_pos q11)
      refine lv_bipush (v := (-2)) hx hb dX5_tells_39 rfl ?_
      have hR : s_X5_tells u p1 p2 p3 = ((-2), u) := hR
      exact W.iret (v := (-2)) hx hb hr (fun t ht _ => by rw [hR]; dsimp only; exact ⟨⟨rfl, by rw [ht]; exact hP⟩, hS.F ht⟩) hS.2.2 dX5_tells_41
    · have hR := hR.trans (if_neg q11)
      refine lv_iload_n hx hb dX5_tells_23 rfl (lv_at hl 4 rfl) ?_
      refine lv_iconst (v := (-1)) hx hb dX5_tells_24 rfl ?_
      refine lv_icmp_eq (tgt := 42) hx hb dX5_tells_25 rfl (fun q12 => ?_) (fun q12 => ?_)
      · have hR := hR.trans (if_pos q12)
        refine lv_aload hx hb dX5_tells_42 (lv_at hl 0 rfl) ?_
        refine xRoV (nL := 5) ⟨hx, hb, hml, hown, hts⟩ (c_X3_isMissing l E (a 18) (a 22) (uS u 1) ) (cwV 0 hts gX5_tells_X3_isMissing rfl rfl rfl ⟨rfl, hd_X3_isMissing⟩ ⟨(Nat.le_of_ble_eq_true rfl), (Nat.le_of_ble_eq_true rfl)⟩) hF hS hA (hP.sub [18, 22] rfl) (va_recv (q := (RX3, TX3, 3)) hK hP (ci := 3) rfl (q0 := 18) rfl) rfl hl.1 rfl (Nat.le_of_ble_eq_true rfl) ⟨(Nat.le_of_ble_eq_true rfl), (Nat.le_of_ble_eq_true rfl)⟩ dX5_tells_44 ?_
        refine W.eq (g2 := F0 m 47 ls [.int (s_X3_isMissing (uS u 1))]) rfl ?_
        refine lv_if_eq (tgt := 53) hx hb dX5_tells_47 rfl (fun q13 => ?_) (fun q13 => ?_)
        · have hR := hR.trans (if_pos q13)
          refine lv_aload hx hb dX5_tells_53 (lv_at hl 0 rfl) ?_
          refine va_get (D := xD E) (ci := 3) (v := .int (u.2 9)) (C := RX3) (T := TX3) (N := 3) hx hb hts (by decide +kernel) hown hK hP 18 rfl rfl 2 (by decide) (hts (.fieldLink RX5 264 "RailOffsets$Sheet" "size" "I") (by decide +kernel)) (fun _ h => h) rfl dX5_tells_55 ?_
          refine lv_bipush (v := 8) hx hb dX5_tells_58 rfl ?_
          refine lv_icmp_le (tgt := 66) hx hb dX5_tells_60 rfl (fun q14 => ?_) (fun q14 => ?_)
          · have hR := hR.trans (if_pos q14)
            refine lv_iload_n hx hb dX5_tells_66 rfl (lv_at hl 4 rfl) ?_
            refine lv_iconst (v := (-1)) hx hb dX5_tells_67 rfl ?_
            refine lv_icmp_ne (tgt := 81) hx hb dX5_tells_68 rfl (fun q15 => ?_) (fun q15 => ?_)
            · have hR := hR.trans (if_neg q15)
              refine lv_aload_n hx hb dX5_tells_81 rfl (lv_at hl 1 rfl) ?_
              refine lv_aload hx hb dX5_tells_82 (lv_at hl 0 rfl) ?_
              refine lv_iload_n hx hb dX5_tells_84 rfl (lv_at hl 3 rfl) ?_
              refine lv_iload_n hx hb dX5_tells_85 rfl (lv_at hl 4 rfl) ?_
              refine xMdV (nL := 5) ⟨hx, hb, hml, hown, hts⟩ (c_X5_kindsTold l E a u 1 (by decide) p2 p3 (hp0) hL) (cwV 3 hts gX5_tells_X5_kindsTold rfl rfl rfl ⟨rfl, hd_X5_kindsTold⟩ ⟨(Nat.le_of_ble_eq_true rfl), (Nat.le_of_ble_eq_true rfl)⟩) hF hS hL.2 (fun _ h => h) hP (va_recv (q := (RX5, TX5, 9)) hK hP (ci := 5) rfl (q0 := 0) rfl) rfl hl.1 rfl (Nat.le_of_ble_eq_true rfl) ⟨(Nat.le_of_ble_eq_true rfl), (Nat.le_of_ble_eq_true rfl)⟩ dX5_tells_86 (fun H locs hP _ hS => ?_)
              refine W.eq (g2 := F0 m 89 ls [.int ((s_X5_kindsTold 1 u p2 p3).1)]) rfl ?_
              have hR : s_X5_tells u p1 p2 p3 = ((s_X5_kindsTold 1 u p2 p3).1, (s_X5_kindsTold 1 u p2 p3).2) := hR
              exact W.iret (v := (s_X5_kindsTold 1 u p2 p3).1) hx hb hr (fun t ht _ => by rw [hR]; dsimp only; exact ⟨⟨rfl, by rw [ht]; exact hP⟩, hS.F ht⟩) hS.2.2 dX5_tells_89
            · have hR := hR.trans (if_pos q15)
              refine lv_aload_n hx hb dX5_tells_71 rfl (lv_at hl 1 rfl) ?_
              refine lv_aload hx hb dX5_tells_72 (lv_at hl 0 rfl) ?_
              refine lv_iload_n hx hb dX5_tells_74 rfl (lv_at hl 3 rfl) ?_
              refine xRoV (nL := 5) ⟨hx, hb, hml, hown, hts⟩ (c_X5_firstOtherwise l E a u 1 (by decide) p2) (cwV 2 hts gX5_tells_X5_firstOtherwise rfl rfl rfl ⟨rfl, hd_X5_firstOtherwise⟩ ⟨(Nat.le_of_ble_eq_true rfl), (Nat.le_of_ble_eq_true rfl)⟩) hF hS hA hP (va_recv (q := (RX5, TX5, 9)) hK hP (ci := 5) rfl (q0 := 0) rfl) rfl hl.1 rfl (Nat.le_of_ble_eq_true rfl) ⟨(Nat.le_of_ble_eq_true rfl), (Nat.le_of_ble_eq_true rfl)⟩ dX5_tells_75 ?_
              refine W.eq (g2 := F0 m 78 ls [.int (s_X5_firstOtherwise 1 u p2)]) rfl ?_
              refine lv_goto (tgt := 89) hx hb dX5_tells_78 rfl ?_
              have hR : s_X5_tells u p1 p2 p3 = (s_X5_firstOtherwise 1 u p2, u) := hR
              exact W.iret (v := s_X5_firstOtherwise 1 u p2) hx hb hr (fun t ht _ => by rw [hR]; dsimp only; exact ⟨⟨rfl, by rw [ht]; exact hP⟩, hS.F ht⟩) hS.2.2 dX5_tells_89
          · have hR := hR.trans (if_neg q14)
            refine lv_bipush (v := (-2)) hx hb dX5_tells_63 rfl ?_
            have hR : s_X5_tells u p1 p2 p3 = ((-2), u) := hR
            exact W.iret (v := (-2)) hx hb hr (fun t ht _ => by rw [hR]; dsimp only; exact ⟨⟨rfl, by rw [ht]; exact hP⟩, hS.F ht⟩) hS.2.2 dX5_tells_65
        · have hR := hR.trans (if_neg q13)
          refine lv_bipush (v := (-11)) hx hb dX5_tells_50 rfl ?_
          have hR : s_X5_tells u p1 p2 p3 = ((-11), u) := hR
          exact W.iret (v := (-11)) hx hb hr (fun t ht _ => by rw [hR]; dsimp only; exact ⟨⟨rfl, by rw [ht]; exact hP⟩, hS.F ht⟩) hS.2.2 dX5_tells_52
      · have hR := hR.trans (if_neg q12)
        refine lv_aload_n hx hb dX5_tells_28 rfl (lv_at hl 1 rfl) ?_
        refine va_get (D := xD E) (ci := 5) (v := .ref (a 1)) (C := RX5) (T := TX5) (N := 9) hx hb hts (by decide +kernel) hown hK hP 0 rfl rfl 0 (by decide) (hts (.fieldLink RX5 12 "RailOffsets" "pieces" "LRailOffsets$Pieces;") (by decide +kernel)) (fun _ h => h) rfl dX5_tells_29 ?_
        refine lv_iload_n hx hb dX5_tells_32 rfl (lv_at hl 4 rfl) ?_
        refine xRoV (nL := 5) ⟨hx, hb, hml, hown, hts⟩ (c_X2_has l E a u p3) (cwV 1 hts gX5_tells_X2_has rfl rfl rfl ⟨rfl, hd_X2_has⟩ ⟨(Nat.le_of_ble_eq_true rfl), (Nat.le_of_ble_eq_true rfl)⟩) hF hS hA hP (va_recv (q := (RX2, TX2, 2)) hK hP (ci := 2) rfl (q0 := 1) rfl) rfl hl.1 rfl (Nat.le_of_ble_eq_true rfl) ⟨(Nat.le_of_ble_eq_true rfl), (Nat.le_of_ble_eq_true rfl)⟩ dX5_tells_33 ?_
        refine W.eq (g2 := F0 m 36 ls [.int (s_X2_has u p3)]) rfl ?_
        refine lv_if_ne (tgt := 42) hx hb dX5_tells_36 rfl (fun q16 => ?_) (fun q16 => ?_)
        · have hR := hR.trans (if_neg q16)
          refine lv_aload hx hb dX5_tells_42 (lv_at hl 0 rfl) ?_
          refine xRoV (nL := 5) ⟨hx, hb, hml, hown, hts⟩ (c_X3_isMissing l E (a 18) (a 22) (uS u 1) ) (cwV 0 hts gX5_tells_X3_isMissing rfl rfl rfl ⟨rfl, hd_X3_isMissing⟩ ⟨(Nat.le_of_ble_eq_true rfl), (Nat.le_of_ble_eq_true rfl)⟩) hF hS hA (hP.sub [18, 22] rfl) (va_recv (q := (RX3, TX3, 3)) hK hP (ci := 3) rfl (q0 := 18) rfl) rfl hl.1 rfl (Nat.le_of_ble_eq_true rfl) ⟨(Nat.le_of_ble_eq_true rfl), (Nat.le_of_ble_eq_true rfl)⟩ dX5_tells_44 ?_
          refine W.eq (g2 := F0 m 47 ls [.int (s_X3_isMissing (uS u 1))]) rfl ?_
          refine lv_if_eq (tgt := 53) hx hb dX5_tells_47 rfl (fun q17 => ?_) (fun q17 => ?_)
          · have hR := hR.trans (if_pos q17)
            refine lv_aload hx hb dX5_tells_53 (lv_at hl 0 rfl) ?_
            refine va_get (D := xD E) (ci := 3) (v := .int (u.2 9)) (C := RX3) (T := TX3) (N := 3) hx hb hts (by decide +kernel) hown hK hP 18 rfl rfl 2 (by decide) (hts (.fieldLink RX5 264 "RailOffsets$Sheet" "size" "I") (by decide +kernel)) (fun _ h => h) rfl dX5_tells_55 ?_
            refine lv_bipush (v := 8) hx hb dX5_tells_58 rfl ?_
            refine lv_icmp_le (tgt := 66) hx hb dX5_tells_60 rfl (fun q18 => ?_) (fun q18 => ?_)
            · have hR := hR.trans (if_pos q18)
              refine lv_iload_n hx hb dX5_tells_66 rfl (lv_at hl 4 rfl) ?_
              refine lv_iconst (v := (-1)) hx hb dX5_tells_67 rfl ?_
              refine lv_icmp_ne (tgt := 81) hx hb dX5_tells_68 rfl (fun q19 => ?_) (fun q19 => ?_)
              · have hR := hR.trans (if_neg q19)
                refine lv_aload_n hx hb dX5_tells_81 rfl (lv_at hl 1 rfl) ?_
                refine lv_aload hx hb dX5_tells_82 (lv_at hl 0 rfl) ?_
                refine lv_iload_n hx hb dX5_tells_84 rfl (lv_at hl 3 rfl) ?_
                refine lv_iload_n hx hb dX5_tells_85 rfl (lv_at hl 4 rfl) ?_
                refine xMdV (nL := 5) ⟨hx, hb, hml, hown, hts⟩ (c_X5_kindsTold l E a u 1 (by decide) p2 p3 (hp0) hL) (cwV 3 hts gX5_tells_X5_kindsTold rfl rfl rfl ⟨rfl, hd_X5_kindsTold⟩ ⟨(Nat.le_of_ble_eq_true rfl), (Nat.le_of_ble_eq_true rfl)⟩) hF hS hL.2 (fun _ h => h) hP (va_recv (q := (RX5, TX5, 9)) hK hP (ci := 5) rfl (q0 := 0) rfl) rfl hl.1 rfl (Nat.le_of_ble_eq_true rfl) ⟨(Nat.le_of_ble_eq_true rfl), (Nat.le_of_ble_eq_true rfl)⟩ dX5_tells_86 (fun H locs hP _ hS => ?_)
                refine W.eq (g2 := F0 m 89 ls [.int ((s_X5_kindsTold 1 u p2 p3).1)]) rfl ?_
                have hR : s_X5_tells u p1 p2 p3 = ((s_X5_kindsTold 1 u p2 p3).1, (s_X5_kindsTold 1 u p2 p3).2) := hR
                exact W.iret (v := (s_X5_kindsTold 1 u p2 p3).1) hx hb hr (fun t ht _ => by rw [hR]; dsimp only; exact ⟨⟨rfl, by rw [ht]; exact hP⟩, hS.F ht⟩) hS.2.2 dX5_tells_89
              · have hR := hR.trans (if_pos q19)
                refine lv_aload_n hx hb dX5_tells_71 rfl (lv_at hl 1 rfl) ?_
                refine lv_aload hx hb dX5_tells_72 (lv_at hl 0 rfl) ?_
                refine lv_iload_n hx hb dX5_tells_74 rfl (lv_at hl 3 rfl) ?_
                refine xRoV (nL := 5) ⟨hx, hb, hml, hown, hts⟩ (c_X5_firstOtherwise l E a u 1 (by decide) p2) (cwV 2 hts gX5_tells_X5_firstOtherwise rfl rfl rfl ⟨rfl, hd_X5_firstOtherwise⟩ ⟨(Nat.le_of_ble_eq_true rfl), (Nat.le_of_ble_eq_true rfl)⟩) hF hS hA hP (va_recv (q := (RX5, TX5, 9)) hK hP (ci := 5) rfl (q0 := 0) rfl) rfl hl.1 rfl (Nat.le_of_ble_eq_true rfl) ⟨(Nat.le_of_ble_eq_true rfl), (Nat.le_of_ble_eq_true rfl)⟩ dX5_tells_75 ?_
                refine W.eq (g2 := F0 m 78 ls [.int (s_X5_firstOtherwise 1 u p2)]) rfl ?_
                refine lv_goto (tgt := 89) hx hb dX5_tells_78 rfl ?_
                have hR : s_X5_tells u p1 p2 p3 = (s_X5_firstOtherwise 1 u p2, u) := hR
                exact W.iret (v := s_X5_firstOtherwise 1 u p2) hx hb hr (fun t ht _ => by rw [hR]; dsimp only; exact ⟨⟨rfl, by rw [ht]; exact hP⟩, hS.F ht⟩) hS.2.2 dX5_tells_89
            · have hR := hR.trans (if_neg q18)
              refine lv_bipush (v := (-2)) hx hb dX5_tells_63 rfl ?_
              have hR : s_X5_tells u p1 p2 p3 = ((-2), u) := hR
              exact W.iret (v := (-2)) hx hb hr (fun t ht _ => by rw [hR]; dsimp only; exact ⟨⟨rfl, by rw [ht]; exact hP⟩, hS.F ht⟩) hS.2.2 dX5_tells_65
          · have hR := hR.trans (if_neg q17)
            refine lv_bipush (v := (-11)) hx hb dX5_tells_50 rfl ?_
            have hR : s_X5_tells u p1 p2 p3 = ((-11), u) := hR
            exact W.iret (v := (-11)) hx hb hr (fun t ht _ => by rw [hR]; dsimp only; exact ⟨⟨rfl, by rw [ht]; exact hP⟩, hS.F ht⟩) hS.2.2 dX5_tells_52
        · have hR := hR.trans (if_pos q16)
          refine lv_bipush (v := (-2)) hx hb dX5_tells_39 rfl ?_
          have hR : s_X5_tells u p1 p2 p3 = ((-2), u) := hR
          exact W.iret (v := (-2)) hx hb hr (fun t ht _ => by rw [hR]; dsimp only; exact ⟨⟨rfl, by rw [ht]; exact hP⟩, hS.F ht⟩) hS.2.2 dX5_tells_41
  have hR := hR.trans (if_neg t1_1)
  by_cases t1_2 : p1 = 2
  · have hR := hR.trans (if_pos t1_2)
    refine xRoV (nL := 5) ⟨hx, hb, hml, hown, hts⟩ (c_X5_sheetOf l E a u p1 2 (by decide) t1_2) (cwV 1 hts gX5_tells_X5_sheetOf rfl rfl rfl ⟨rfl, hd_X5_sheetOf⟩ ⟨(Nat.le_of_ble_eq_true rfl), (Nat.le_of_ble_eq_true rfl)⟩) hF hS hA hP (va_recv (q := (RX5, TX5, 9)) hK hP (ci := 5) rfl (q0 := 0) rfl) rfl hl.1 rfl (Nat.le_of_ble_eq_true rfl) ⟨(Nat.le_of_ble_eq_true rfl), (Nat.le_of_ble_eq_true rfl)⟩ dX5_tells_2 ?_
    refine W.eq (g2 := F0 m 5 ls [.ref (a 19)]) rfl ?_
    refine lv_astore (lv' := [(4, .ref (a 19)), (0, .ref (a 0)), (1, .int p1), (2, .int p2), (3, .int p3)]) hx hb dX5_tells_5 hl (by decide) rfl (fun ls hl => ?_)
    refine lv_aload hx hb dX5_tells_7 (lv_at hl 0 rfl) ?_
    refine lv_ifnull hx hb dX5_tells_9 ?_
    refine lv_iload_n hx hb dX5_tells_12 rfl (lv_at hl 3 rfl) ?_
    refine lv_iconst (v := 1) hx hb dX5_tells_13 rfl ?_
    refine lv_sipush (v := 200) hx hb dX5_tells_14 rfl ?_
    refine xRoS (nL := 5) ⟨hx, hb, hml, hown, hts⟩ (c_X5_within l E p2 1 200) (va_cwS 3 hts gX5_tells_X5_within rfl rfl rfl hd_X5_within ⟨(Nat.le_of_ble_eq_true rfl), (Nat.le_of_ble_eq_true rfl)⟩) hF hS hA (hP.sub [] rfl) rfl hl.1 rfl (Nat.le_of_ble_eq_true rfl) ⟨(Nat.le_of_ble_eq_true rfl), (Nat.le_of_ble_eq_true rfl)⟩ dX5_tells_17 ?_
    refine W.eq (g2 := F0 m 20 ls [.int (s_X5_within p2 1 200)]) rfl ?_
    refine lv_if_eq (tgt := 39) hx hb dX5_tells_20 rfl (fun q20 => ?_) (fun q20 => ?_)
    · have hR := hR.trans (if_pos q20)
      refine lv_bipush (v := (-2)) hx hb dX5_tells_39 rfl ?_
      have hR : s_X5_tells u p1 p2 p3 = ((-2), u) := hR
      exact W.iret (v := (-2)) hx hb hr (fun t ht _ => by rw [hR]; dsimp only; exact ⟨⟨rfl, by rw [ht]; exact hP⟩, hS.F ht⟩) hS.2.2 dX5_tells_41
    · have hR := hR.trans (if_neg q20)
      refine lv_iload_n hx hb dX5_tells_23 rfl (lv_at hl 4 rfl) ?_
      refine lv_iconst (v := (-1)) hx hb dX5_tells_24 rfl ?_
      refine lv_icmp_eq (tgt := 42) hx hb dX5_tells_25 rfl (fun q21 => ?_) (fun q21 => ?_)
      · have hR := hR.trans (if_pos q21)
        refine lv_aload hx hb dX5_tells_42 (lv_at hl 0 rfl) ?_
        refine xRoV (nL := 5) ⟨hx, hb, hml, hown, hts⟩ (c_X3_isMissing l E (a 19) (a 23) (uS u 2) ) (cwV 0 hts gX5_tells_X3_isMissing rfl rfl rfl ⟨rfl, hd_X3_isMissing⟩ ⟨(Nat.le_of_ble_eq_true rfl), (Nat.le_of_ble_eq_true rfl)⟩) hF hS hA (hP.sub [19, 23] rfl) (va_recv (q := (RX3, TX3, 3)) hK hP (ci := 3) rfl (q0 := 19) rfl) rfl hl.1 rfl (Nat.le_of_ble_eq_true rfl) ⟨(Nat.le_of_ble_eq_true rfl), (Nat.le_of_ble_eq_true rfl)⟩ dX5_tells_44 ?_
        refine W.eq (g2 := F0 m 47 ls [.int (s_X3_isMissing (uS u 2))]) rfl ?_
        refine lv_if_eq (tgt := 53) hx hb dX5_tells_47 rfl (fun q22 => ?_) (fun q22 => ?_)
        · have hR := hR.trans (if_pos q22)
          refine lv_aload hx hb dX5_tells_53 (lv_at hl 0 rfl) ?_
          refine va_get (D := xD E) (ci := 3) (v := .int (u.2 10)) (C := RX3) (T := TX3) (N := 3) hx hb hts (by decide +kernel) hown hK hP 19 rfl rfl 2 (by decide) (hts (.fieldLink RX5 264 "RailOffsets$Sheet" "size" "I") (by decide +kernel)) (fun _ h => h) rfl dX5_tells_55 ?_
          refine lv_bipush (v := 8) hx hb dX5_tells_58 rfl ?_
          refine lv_icmp_le (tgt := 66) hx hb dX5_tells_60 rfl (fun q23 => ?_) (fun q23 => ?_)
          · have hR := hR.trans (if_pos q23)
            refine lv_iload_n hx hb dX5_tells_66 rfl (lv_at hl 4 rfl) ?_
            refine lv_iconst (v := (-1)) hx hb dX5_tells_67 rfl ?_
            refine lv_icmp_ne (tgt := 81) hx hb dX5_tells_68 rfl (fun q24 => ?_) (fun q24 => ?_)
            · have hR := hR.trans (if_neg q24)
              refine lv_aload_n hx hb dX5_tells_81 rfl (lv_at hl 1 rfl) ?_
              refine lv_aload hx hb dX5_tells_82 (lv_at hl 0 rfl) ?_
              refine lv_iload_n hx hb dX5_tells_84 rfl (lv_at hl 3 rfl) ?_
              refine lv_iload_n hx hb dX5_tells_85 rfl (lv_at hl 4 rfl) ?_
              refine xMdV (nL := 5) ⟨hx, hb, hml, hown, hts⟩ (c_X5_kindsTold l E a u 2 (by decide) p2 p3 (hp0) hL) (cwV 3 hts gX5_tells_X5_kindsTold rfl rfl rfl ⟨rfl, hd_X5_kindsTold⟩ ⟨(Nat.le_of_ble_eq_true rfl), (Nat.le_of_ble_eq_true rfl)⟩) hF hS hL.2 (fun _ h => h) hP (va_recv (q := (RX5, TX5, 9)) hK hP (ci := 5) rfl (q0 := 0) rfl) rfl hl.1 rfl (Nat.le_of_ble_eq_true rfl) ⟨(Nat.le_of_ble_eq_true rfl), (Nat.le_of_ble_eq_true rfl)⟩ dX5_tells_86 (fun H locs hP _ hS => ?_)
              refine W.eq (g2 := F0 m 89 ls [.int ((s_X5_kindsTold 2 u p2 p3).1)]) rfl ?_
              have hR : s_X5_tells u p1 p2 p3 = ((s_X5_kindsTold 2 u p2 p3).1, (s_X5_kindsTold 2 u p2 p3).2) := hR
              exact W.iret (v := (s_X5_kindsTold 2 u p2 p3).1) hx hb hr (fun t ht _ => by rw [hR]; dsimp only; exact ⟨⟨rfl, by rw [ht]; exact hP⟩, hS.F ht⟩) hS.2.2 dX5_tells_89
            · have hR := hR.trans (if_pos q24)
              refine lv_aload_n hx hb dX5_tells_71 rfl (lv_at hl 1 rfl) ?_
              refine lv_aload hx hb dX5_tells_72 (lv_at hl 0 rfl) ?_
              refine lv_iload_n hx hb dX5_tells_74 rfl (lv_at hl 3 rfl) ?_
              refine xRoV (nL := 5) ⟨hx, hb, hml, hown, hts⟩ (c_X5_firstOtherwise l E a u 2 (by decide) p2) (cwV 2 hts gX5_tells_X5_firstOtherwise rfl rfl rfl ⟨rfl, hd_X5_firstOtherwise⟩ ⟨(Nat.le_of_ble_eq_true rfl), (Nat.le_of_ble_eq_true rfl)⟩) hF hS hA hP (va_recv (q := (RX5, TX5, 9)) hK hP (ci := 5) rfl (q0 := 0) rfl) rfl hl.1 rfl (Nat.le_of_ble_eq_true rfl) ⟨(Nat.le_of_ble_eq_true rfl), (Nat.le_of_ble_eq_true rfl)⟩ dX5_tells_75 ?_
              refine W.eq (g2 := F0 m 78 ls [.int (s_X5_firstOtherwise 2 u p2)]) rfl ?_
              refine lv_goto (tgt := 89) hx hb dX5_tells_78 rfl ?_
              have hR : s_X5_tells u p1 p2 p3 = (s_X5_firstOtherwise 2 u p2, u) := hR
              exact W.iret (v := s_X5_firstOtherwise 2 u p2) hx hb hr (fun t ht _ => by rw [hR]; dsimp only; exact ⟨⟨rfl, by rw [ht]; exact hP⟩, hS.F ht⟩) hS.2.2 dX5_tells_89
          · have hR := hR.trans (if_neg q23)
            refine lv_bipush (v := (-2)) hx hb dX5_tells_63 rfl ?_
            have hR : s_X5_tells u p1 p2 p3 = ((-2), u) := hR
            exact W.iret (v := (-2)) hx hb hr (fun t ht _ => by rw [hR]; dsimp only; exact ⟨⟨rfl, by rw [ht]; exact hP⟩, hS.F ht⟩) hS.2.2 dX5_tells_65
        · have hR := hR.trans (if_neg q22)
          refine lv_bipush (v := (-11)) hx hb dX5_tells_50 rfl ?_
          have hR : s_X5_tells u p1 p2 p3 = ((-11), u) := hR
          exact W.iret (v := (-11)) hx hb hr (fun t ht _ => by rw [hR]; dsimp only; exact ⟨⟨rfl, by rw [ht]; exact hP⟩, hS.F ht⟩) hS.2.2 dX5_tells_52
      · have hR := hR.trans (if_neg q21)
        refine lv_aload_n hx hb dX5_tells_28 rfl (lv_at hl 1 rfl) ?_
        refine va_get (D := xD E) (ci := 5) (v := .ref (a 1)) (C := RX5) (T := TX5) (N := 9) hx hb hts (by decide +kernel) hown hK hP 0 rfl rfl 0 (by decide) (hts (.fieldLink RX5 12 "RailOffsets" "pieces" "LRailOffsets$Pieces;") (by decide +kernel)) (fun _ h => h) rfl dX5_tells_29 ?_
        refine lv_iload_n hx hb dX5_tells_32 rfl (lv_at hl 4 rfl) ?_
        refine xRoV (nL := 5) ⟨hx, hb, hml, hown, hts⟩ (c_X2_has l E a u p3) (cwV 1 hts gX5_tells_X2_has rfl rfl rfl ⟨rfl, hd_X2_has⟩ ⟨(Nat.le_of_ble_eq_true rfl), (Nat.le_of_ble_eq_true rfl)⟩) hF hS hA hP (va_recv (q := (RX2, TX2, 2)) hK hP (ci := 2) rfl (q0 := 1) rfl) rfl hl.1 rfl (Nat.le_of_ble_eq_true rfl) ⟨(Nat.le_of_ble_eq_true rfl), (Nat.le_of_ble_eq_true rfl)⟩ dX5_tells_33 ?_
        refine W.eq (g2 := F0 m 36 ls [.int (s_X2_has u p3)]) rfl ?_
        refine lv_if_ne (tgt := 42) hx hb dX5_tells_36 rfl (fun q25 => ?_) (fun q25 => ?_)
        · have hR := hR.trans (if_neg q25)
          refine lv_aload hx hb dX5_tells_42 (lv_at hl 0 rfl) ?_
          refine xRoV (nL := 5) ⟨hx, hb, hml, hown, hts⟩ (c_X3_isMissing l E (a 19) (a 23) (uS u 2) ) (cwV 0 hts gX5_tells_X3_isMissing rfl rfl rfl ⟨rfl, hd_X3_isMissing⟩ ⟨(Nat.le_of_ble_eq_true rfl), (Nat.le_of_ble_eq_true rfl)⟩) hF hS hA (hP.sub [19, 23] rfl) (va_recv (q := (RX3, TX3, 3)) hK hP (ci := 3) rfl (q0 := 19) rfl) rfl hl.1 rfl (Nat.le_of_ble_eq_true rfl) ⟨(Nat.le_of_ble_eq_true rfl), (Nat.le_of_ble_eq_true rfl)⟩ dX5_tells_44 ?_
          refine W.eq (g2 := F0 m 47 ls [.int (s_X3_isMissing (uS u 2))]) rfl ?_
          refine lv_if_eq (tgt := 53) hx hb dX5_tells_47 rfl (fun q26 => ?_) (fun q26 => ?_)
          · have hR := hR.trans (if_pos q26)
            refine lv_aload hx hb dX5_tells_53 (lv_at hl 0 rfl) ?_
            refine va_get (D := xD E) (ci := 3) (v := .int (u.2 10)) (C := RX3) (T := TX3) (N := 3) hx hb hts (by decide +kernel) hown hK hP 19 rfl rfl 2 (by decide) (hts (.fieldLink RX5 264 "RailOffsets$Sheet" "size" "I") (by decide +kernel)) (fun _ h => h) rfl dX5_tells_55 ?_
            refine lv_bipush (v := 8) hx hb dX5_tells_58 rfl ?_
            refine lv_icmp_le (tgt := 66) hx hb dX5_tells_60 rfl (fun q27 => ?_) (fun q27 => ?_)
            · have hR := hR.trans (if_pos q27)
              refine lv_iload_n hx hb dX5_tells_66 rfl (lv_at hl 4 rfl) ?_
              refine lv_iconst (v := (-1)) hx hb dX5_tells_67 rfl ?_
              refine lv_icmp_ne (tgt := 81) hx hb dX5_tells_68 rfl (fun q28 => ?_) (fun q28 => ?_)
              · have hR := hR.trans (if_neg q28)
                refine lv_aload_n hx hb dX5_tells_81 rfl (lv_at hl 1 rfl) ?_
                refine lv_aload hx hb dX5_tells_82 (lv_at hl 0 rfl) ?_
                refine lv_iload_n hx hb dX5_tells_84 rfl (lv_at hl 3 rfl) ?_
                refine lv_iload_n hx hb dX5_tells_85 rfl (lv_at hl 4 rfl) ?_
                refine xMdV (nL := 5) ⟨hx, hb, hml, hown, hts⟩ (c_X5_kindsTold l E a u 2 (by decide) p2 p3 (hp0) hL) (cwV 3 hts gX5_tells_X5_kindsTold rfl rfl rfl ⟨rfl, hd_X5_kindsTold⟩ ⟨(Nat.le_of_ble_eq_true rfl), (Nat.le_of_ble_eq_true rfl)⟩) hF hS hL.2 (fun _ h => h) hP (va_recv (q := (RX5, TX5, 9)) hK hP (ci := 5) rfl (q0 := 0) rfl) rfl hl.1 rfl (Nat.le_of_ble_eq_true rfl) ⟨(Nat.le_of_ble_eq_true rfl), (Nat.le_of_ble_eq_true rfl)⟩ dX5_tells_86 (fun H locs hP _ hS => ?_)
                refine W.eq (g2 := F0 m 89 ls [.int ((s_X5_kindsTold 2 u p2 p3).1)]) rfl ?_
                have hR : s_X5_tells u p1 p2 p3 = ((s_X5_kindsTold 2 u p2 p3).1, (s_X5_kindsTold 2 u p2 p3).2) := hR
                exact W.iret (v := (s_X5_kindsTold 2 u p2 p3).1) hx hb hr (fun t ht _ => by rw [hR]; dsimp only; exact ⟨⟨rfl, by rw [ht]; exact hP⟩, hS.F ht⟩) hS.2.2 dX5_tells_89
              · have hR := hR.trans (if_pos q28)
                refine lv_aload_n hx hb dX5_tells_71 rfl (lv_at hl 1 rfl) ?_
                refine lv_aload hx hb dX5_tells_72 (lv_at hl 0 rfl) ?_
                refine lv_iload_n hx hb dX5_tells_74 rfl (lv_at hl 3 rfl) ?_
                refine xRoV (nL := 5) ⟨hx, hb, hml, hown, hts⟩ (c_X5_firstOtherwise l E a u 2 (by decide) p2) (cwV 2 hts gX5_tells_X5_firstOtherwise rfl rfl rfl ⟨rfl, hd_X5_firstOtherwise⟩ ⟨(Nat.le_of_ble_eq_true rfl), (Nat.le_of_ble_eq_true rfl)⟩) hF hS hA hP (va_recv (q := (RX5, TX5, 9)) hK hP (ci := 5) rfl (q0 := 0) rfl) rfl hl.1 rfl (Nat.le_of_ble_eq_true rfl) ⟨(Nat.le_of_ble_eq_true rfl), (Nat.le_of_ble_eq_true rfl)⟩ dX5_tells_75 ?_
                refine W.eq (g2 := F0 m 78 ls [.int (s_X5_firstOtherwise 2 u p2)]) rfl ?_
                refine lv_goto (tgt := 89) hx hb dX5_tells_78 rfl ?_
                have hR : s_X5_tells u p1 p2 p3 = (s_X5_firstOtherwise 2 u p2, u) := hR
                exact W.iret (v := s_X5_firstOtherwise 2 u p2) hx hb hr (fun t ht _ => by rw [hR]; dsimp only; exact ⟨⟨rfl, by rw [ht]; exact hP⟩, hS.F ht⟩) hS.2.2 dX5_tells_89
            · have hR := hR.trans (if_neg q27)
              refine lv_bipush (v := (-2)) hx hb dX5_tells_63 rfl ?_
              have hR : s_X5_tells u p1 p2 p3 = ((-2), u) := hR
              exact W.iret (v := (-2)) hx hb hr (fun t ht _ => by rw [hR]; dsimp only; exact ⟨⟨rfl, by rw [ht]; exact hP⟩, hS.F ht⟩) hS.2.2 dX5_tells_65
          · have hR := hR.trans (if_neg q26)
            refine lv_bipush (v := (-11)) hx hb dX5_tells_50 rfl ?_
            have hR : s_X5_tells u p1 p2 p3 = ((-11), u) := hR
            exact W.iret (v := (-11)) hx hb hr (fun t ht _ => by rw [hR]; dsimp only; exact ⟨⟨rfl, by rw [ht]; exact hP⟩, hS.F ht⟩) hS.2.2 dX5_tells_52
        · have hR := hR.trans (if_pos q25)
          refine lv_bipush (v := (-2)) hx hb dX5_tells_39 rfl ?_
          have hR : s_X5_tells u p1 p2 p3 = ((-2), u) := hR
          exact W.iret (v := (-2)) hx hb hr (fun t ht _ => by rw [hR]; dsimp only; exact ⟨⟨rfl, by rw [ht]; exact hP⟩, hS.F ht⟩) hS.2.2 dX5_tells_41
  have hR := hR.trans (if_neg t1_2)
  by_cases t1_3 : p1 = 3
  · have hR := hR.trans (if_pos t1_3)
    refine xRoV (nL := 5) ⟨hx, hb, hml, hown, hts⟩ (c_X5_sheetOf l E a u p1 3 (by decide) t1_3) (cwV 1 hts gX5_tells_X5_sheetOf rfl rfl rfl ⟨rfl, hd_X5_sheetOf⟩ ⟨(Nat.le_of_ble_eq_true rfl), (Nat.le_of_ble_eq_true rfl)⟩) hF hS hA hP (va_recv (q := (RX5, TX5, 9)) hK hP (ci := 5) rfl (q0 := 0) rfl) rfl hl.1 rfl (Nat.le_of_ble_eq_true rfl) ⟨(Nat.le_of_ble_eq_true rfl), (Nat.le_of_ble_eq_true rfl)⟩ dX5_tells_2 ?_
    refine W.eq (g2 := F0 m 5 ls [.ref (a 20)]) rfl ?_
    refine lv_astore (lv' := [(4, .ref (a 20)), (0, .ref (a 0)), (1, .int p1), (2, .int p2), (3, .int p3)]) hx hb dX5_tells_5 hl (by decide) rfl (fun ls hl => ?_)
    refine lv_aload hx hb dX5_tells_7 (lv_at hl 0 rfl) ?_
    refine lv_ifnull hx hb dX5_tells_9 ?_
    refine lv_iload_n hx hb dX5_tells_12 rfl (lv_at hl 3 rfl) ?_
    refine lv_iconst (v := 1) hx hb dX5_tells_13 rfl ?_
    refine lv_sipush (v := 200) hx hb dX5_tells_14 rfl ?_
    refine xRoS (nL := 5) ⟨hx, hb, hml, hown, hts⟩ (c_X5_within l E p2 1 200) (va_cwS 3 hts gX5_tells_X5_within rfl rfl rfl hd_X5_within ⟨(Nat.le_of_ble_eq_true rfl), (Nat.le_of_ble_eq_true rfl)⟩) hF hS hA (hP.sub [] rfl) rfl hl.1 rfl (Nat.le_of_ble_eq_true rfl) ⟨(Nat.le_of_ble_eq_true rfl), (Nat.le_of_ble_eq_true rfl)⟩ dX5_tells_17 ?_
    refine W.eq (g2 := F0 m 20 ls [.int (s_X5_within p2 1 200)]) rfl ?_
    refine lv_if_eq (tgt := 39) hx hb dX5_tells_20 rfl (fun q29 => ?_) (fun q29 => ?_)
    · have hR := hR.trans (if_pos q29)
      refine lv_bipush (v := (-2)) hx hb dX5_tells_39 rfl ?_
      have hR : s_X5_tells u p1 p2 p3 = ((-2), u) := hR
      exact W.iret (v := (-2)) hx hb hr (fun t ht _ => by rw [hR]; dsimp only; exact ⟨⟨rfl, by rw [ht]; exact hP⟩, hS.F ht⟩) hS.2.2 dX5_tells_41
    · have hR := hR.trans (if_neg q29)
      refine lv_iload_n hx hb dX5_tells_23 rfl (lv_at hl 4 rfl) ?_
      refine lv_iconst (v := (-1)) hx hb dX5_tells_24 rfl ?_
      refine lv_icmp_eq (tgt := 42) hx hb dX5_tells_25 rfl (fun q30 => ?_) (fun q30 => ?_)
      · have hR := hR.trans (if_pos q30)
        refine lv_aload hx hb dX5_tells_42 (lv_at hl 0 rfl) ?_
        refine xRoV (nL := 5) ⟨hx, hb, hml, hown, hts⟩ (c_X3_isMissing l E (a 20) (a 24) (uS u 3) ) (cwV 0 hts gX5_tells_X3_isMissing rfl rfl rfl ⟨rfl, hd_X3_isMissing⟩ ⟨(Nat.le_of_ble_eq_true rfl), (Nat.le_of_ble_eq_true rfl)⟩) hF hS hA (hP.sub [20, 24] rfl) (va_recv (q := (RX3, TX3, 3)) hK hP (ci := 3) rfl (q0 := 20) rfl) rfl hl.1 rfl (Nat.le_of_ble_eq_true rfl) ⟨(Nat.le_of_ble_eq_true rfl), (Nat.le_of_ble_eq_true rfl)⟩ dX5_tells_44 ?_
        refine W.eq (g2 := F0 m 47 ls [.int (s_X3_isMissing (uS u 3))]) rfl ?_
        refine lv_if_eq (tgt := 53) hx hb dX5_tells_47 rfl (fun q31 => ?_) (fun q31 => ?_)
        · have hR := hR.trans (if_pos q31)
          refine lv_aload hx hb dX5_tells_53 (lv_at hl 0 rfl) ?_
          refine va_get (D := xD E) (ci := 3) (v := .int (u.2 11)) (C := RX3) (T := TX3) (N := 3) hx hb hts (by decide +kernel) hown hK hP 20 rfl rfl 2 (by decide) (hts (.fieldLink RX5 264 "RailOffsets$Sheet" "size" "I") (by decide +kernel)) (fun _ h => h) rfl dX5_tells_55 ?_
          refine lv_bipush (v := 8) hx hb dX5_tells_58 rfl ?_
          refine lv_icmp_le (tgt := 66) hx hb dX5_tells_60 rfl (fun q32 => ?_) (fun q32 => ?_)
          · have hR := hR.trans (if_pos q32)
            refine lv_iload_n hx hb dX5_tells_66 rfl (lv_at hl 4 rfl) ?_
            refine lv_iconst (v := (-1)) hx hb dX5_tells_67 rfl ?_
            refine lv_icmp_ne (tgt := 81) hx hb dX5_tells_68 rfl (fun q33 => ?_) (fun q33 => ?_)
            · have hR := hR.trans (if_neg q33)
              refine lv_aload_n hx hb dX5_tells_81 rfl (lv_at hl 1 rfl) ?_
              refine lv_aload hx hb dX5_tells_82 (lv_at hl 0 rfl) ?_
              refine lv_iload_n hx hb dX5_tells_84 rfl (lv_at hl 3 rfl) ?_
              refine lv_iload_n hx hb dX5_tells_85 rfl (lv_at hl 4 rfl) ?_
              refine xMdV (nL := 5) ⟨hx, hb, hml, hown, hts⟩ (c_X5_kindsTold l E a u 3 (by decide) p2 p3 (hp0) hL) (cwV 3 hts gX5_tells_X5_kindsTold rfl rfl rfl ⟨rfl, hd_X5_kindsTold⟩ ⟨(Nat.le_of_ble_eq_true rfl), (Nat.le_of_ble_eq_true rfl)⟩) hF hS hL.2 (fun _ h => h) hP (va_recv (q := (RX5, TX5, 9)) hK hP (ci := 5) rfl (q0 := 0) rfl) rfl hl.1 rfl (Nat.le_of_ble_eq_true rfl) ⟨(Nat.le_of_ble_eq_true rfl), (Nat.le_of_ble_eq_true rfl)⟩ dX5_tells_86 (fun H locs hP _ hS => ?_)
              refine W.eq (g2 := F0 m 89 ls [.int ((s_X5_kindsTold 3 u p2 p3).1)]) rfl ?_
              have hR : s_X5_tells u p1 p2 p3 = ((s_X5_kindsTold 3 u p2 p3).1, (s_X5_kindsTold 3 u p2 p3).2) := hR
              exact W.iret (v := (s_X5_kindsTold 3 u p2 p3).1) hx hb hr (fun t ht _ => by rw [hR]; dsimp only; exact ⟨⟨rfl, by rw [ht]; exact hP⟩, hS.F ht⟩) hS.2.2 dX5_tells_89
            · have hR := hR.trans (if_pos q33)
              refine lv_aload_n hx hb dX5_tells_71 rfl (lv_at hl 1 rfl) ?_
              refine lv_aload hx hb dX5_tells_72 (lv_at hl 0 rfl) ?_
              refine lv_iload_n hx hb dX5_tells_74 rfl (lv_at hl 3 rfl) ?_
              refine xRoV (nL := 5) ⟨hx, hb, hml, hown, hts⟩ (c_X5_firstOtherwise l E a u 3 (by decide) p2) (cwV 2 hts gX5_tells_X5_firstOtherwise rfl rfl rfl ⟨rfl, hd_X5_firstOtherwise⟩ ⟨(Nat.le_of_ble_eq_true rfl), (Nat.le_of_ble_eq_true rfl)⟩) hF hS hA hP (va_recv (q := (RX5, TX5, 9)) hK hP (ci := 5) rfl (q0 := 0) rfl) rfl hl.1 rfl (Nat.le_of_ble_eq_true rfl) ⟨(Nat.le_of_ble_eq_true rfl), (Nat.le_of_ble_eq_true rfl)⟩ dX5_tells_75 ?_
              refine W.eq (g2 := F0 m 78 ls [.int (s_X5_firstOtherwise 3 u p2)]) rfl ?_
              refine lv_goto (tgt := 89) hx hb dX5_tells_78 rfl ?_
              have hR : s_X5_tells u p1 p2 p3 = (s_X5_firstOtherwise 3 u p2, u) := hR
              exact W.iret (v := s_X5_firstOtherwise 3 u p2) hx hb hr (fun t ht _ => by rw [hR]; dsimp only; exact ⟨⟨rfl, by rw [ht]; exact hP⟩, hS.F ht⟩) hS.2.2 dX5_tells_89
          · have hR := hR.trans (if_neg q32)
            refine lv_bipush (v := (-2)) hx hb dX5_tells_63 rfl ?_
            have hR : s_X5_tells u p1 p2 p3 = ((-2), u) := hR
            exact W.iret (v := (-2)) hx hb hr (fun t ht _ => by rw [hR]; dsimp only; exact ⟨⟨rfl, by rw [ht]; exact hP⟩, hS.F ht⟩) hS.2.2 dX5_tells_65
        · have hR := hR.trans (if_neg q31)
          refine lv_bipush (v := (-11)) hx hb dX5_tells_50 rfl ?_
          have hR : s_X5_tells u p1 p2 p3 = ((-11), u) := hR
          exact W.iret (v := (-11)) hx hb hr (fun t ht _ => by rw [hR]; dsimp only; exact ⟨⟨rfl, by rw [ht]; exact hP⟩, hS.F ht⟩) hS.2.2 dX5_tells_52
      · have hR := hR.trans (if_neg q30)
        refine lv_aload_n hx hb dX5_tells_28 rfl (lv_at hl 1 rfl) ?_
        refine va_get (D := xD E) (ci := 5) (v := .ref (a 1)) (C := RX5) (T := TX5) (N := 9) hx hb hts (by decide +kernel) hown hK hP 0 rfl rfl 0 (by decide) (hts (.fieldLink RX5 12 "RailOffsets" "pieces" "LRailOffsets$Pieces;") (by decide +kernel)) (fun _ h => h) rfl dX5_tells_29 ?_
        refine lv_iload_n hx hb dX5_tells_32 rfl (lv_at hl 4 rfl) ?_
        refine xRoV (nL := 5) ⟨hx, hb, hml, hown, hts⟩ (c_X2_has l E a u p3) (cwV 1 hts gX5_tells_X2_has rfl rfl rfl ⟨rfl, hd_X2_has⟩ ⟨(Nat.le_of_ble_eq_true rfl), (Nat.le_of_ble_eq_true rfl)⟩) hF hS hA hP (va_recv (q := (RX2, TX2, 2)) hK hP (ci := 2) rfl (q0 := 1) rfl) rfl hl.1 rfl (Nat.le_of_ble_eq_true rfl) ⟨(Nat.le_of_ble_eq_true rfl), (Nat.le_of_ble_eq_true rfl)⟩ dX5_tells_33 ?_
        refine W.eq (g2 := F0 m 36 ls [.int (s_X2_has u p3)]) rfl ?_
        refine lv_if_ne (tgt := 42) hx hb dX5_tells_36 rfl (fun q34 => ?_) (fun q34 => ?_)
        · have hR := hR.trans (if_neg q34)
          refine lv_aload hx hb dX5_tells_42 (lv_at hl 0 rfl) ?_
          refine xRoV (nL := 5) ⟨hx, hb, hml, hown, hts⟩ (c_X3_isMissing l E (a 20) (a 24) (uS u 3) ) (cwV 0 hts gX5_tells_X3_isMissing rfl rfl rfl ⟨rfl, hd_X3_isMissing⟩ ⟨(Nat.le_of_ble_eq_true rfl), (Nat.le_of_ble_eq_true rfl)⟩) hF hS hA (hP.sub [20, 24] rfl) (va_recv (q := (RX3, TX3, 3)) hK hP (ci := 3) rfl (q0 := 20) rfl) rfl hl.1 rfl (Nat.le_of_ble_eq_true rfl) ⟨(Nat.le_of_ble_eq_true rfl), (Nat.le_of_ble_eq_true rfl)⟩ dX5_tells_44 ?_
          refine W.eq (g2 := F0 m 47 ls [.int (s_X3_isMissing (uS u 3))]) rfl ?_
          refine lv_if_eq (tgt := 53) hx hb dX5_tells_47 rfl (fun q35 => ?_) (fun q35 => ?_)
          · have hR := hR.trans (if_pos q35)
            refine lv_aload hx hb dX5_tells_53 (lv_at hl 0 rfl) ?_
            refine va_get (D := xD E) (ci := 3) (v := .int (u.2 11)) (C := RX3) (T := TX3) (N := 3) hx hb hts (by decide +kernel) hown hK hP 20 rfl rfl 2 (by decide) (hts (.fieldLink RX5 264 "RailOffsets$Sheet" "size" "I") (by decide +kernel)) (fun _ h => h) rfl dX5_tells_55 ?_
            refine lv_bipush (v := 8) hx hb dX5_tells_58 rfl ?_
            refine lv_icmp_le (tgt := 66) hx hb dX5_tells_60 rfl (fun q36 => ?_) (fun q36 => ?_)
            · have hR := hR.trans (if_pos q36)
              refine lv_iload_n hx hb dX5_tells_66 rfl (lv_at hl 4 rfl) ?_
              refine lv_iconst (v := (-1)) hx hb dX5_tells_67 rfl ?_
              refine lv_icmp_ne (tgt := 81) hx hb dX5_tells_68 rfl (fun q37 => ?_) (fun q37 => ?_)
              · have hR := hR.trans (if_neg q37)
                refine lv_aload_n hx hb dX5_tells_81 rfl (lv_at hl 1 rfl) ?_
                refine lv_aload hx hb dX5_tells_82 (lv_at hl 0 rfl) ?_
                refine lv_iload_n hx hb dX5_tells_84 rfl (lv_at hl 3 rfl) ?_
                refine lv_iload_n hx hb dX5_tells_85 rfl (lv_at hl 4 rfl) ?_
                refine xMdV (nL := 5) ⟨hx, hb, hml, hown, hts⟩ (c_X5_kindsTold l E a u 3 (by decide) p2 p3 (hp0) hL) (cwV 3 hts gX5_tells_X5_kindsTold rfl rfl rfl ⟨rfl, hd_X5_kindsTold⟩ ⟨(Nat.le_of_ble_eq_true rfl), (Nat.le_of_ble_eq_true rfl)⟩) hF hS hL.2 (fun _ h => h) hP (va_recv (q := (RX5, TX5, 9)) hK hP (ci := 5) rfl (q0 := 0) rfl) rfl hl.1 rfl (Nat.le_of_ble_eq_true rfl) ⟨(Nat.le_of_ble_eq_true rfl), (Nat.le_of_ble_eq_true rfl)⟩ dX5_tells_86 (fun H locs hP _ hS => ?_)
                refine W.eq (g2 := F0 m 89 ls [.int ((s_X5_kindsTold 3 u p2 p3).1)]) rfl ?_
                have hR : s_X5_tells u p1 p2 p3 = ((s_X5_kindsTold 3 u p2 p3).1, (s_X5_kindsTold 3 u p2 p3).2) := hR
                exact W.iret (v := (s_X5_kindsTold 3 u p2 p3).1) hx hb hr (fun t ht _ => by rw [hR]; dsimp only; exact ⟨⟨rfl, by rw [ht]; exact hP⟩, hS.F ht⟩) hS.2.2 dX5_tells_89
              · have hR := hR.trans (if_pos q37)
                refine lv_aload_n hx hb dX5_tells_71 rfl (lv_at hl 1 rfl) ?_
                refine lv_aload hx hb dX5_tells_72 (lv_at hl 0 rfl) ?_
                refine lv_iload_n hx hb dX5_tells_74 rfl (lv_at hl 3 rfl) ?_
                refine xRoV (nL := 5) ⟨hx, hb, hml, hown, hts⟩ (c_X5_firstOtherwise l E a u 3 (by decide) p2) (cwV 2 hts gX5_tells_X5_firstOtherwise rfl rfl rfl ⟨rfl, hd_X5_firstOtherwise⟩ ⟨(Nat.le_of_ble_eq_true rfl), (Nat.le_of_ble_eq_true rfl)⟩) hF hS hA hP (va_recv (q := (RX5, TX5, 9)) hK hP (ci := 5) rfl (q0 := 0) rfl) rfl hl.1 rfl (Nat.le_of_ble_eq_true rfl) ⟨(Nat.le_of_ble_eq_true rfl), (Nat.le_of_ble_eq_true rfl)⟩ dX5_tells_75 ?_
                refine W.eq (g2 := F0 m 78 ls [.int (s_X5_firstOtherwise 3 u p2)]) rfl ?_
                refine lv_goto (tgt := 89) hx hb dX5_tells_78 rfl ?_
                have hR : s_X5_tells u p1 p2 p3 = (s_X5_firstOtherwise 3 u p2, u) := hR
                exact W.iret (v := s_X5_firstOtherwise 3 u p2) hx hb hr (fun t ht _ => by rw [hR]; dsimp only; exact ⟨⟨rfl, by rw [ht]; exact hP⟩, hS.F ht⟩) hS.2.2 dX5_tells_89
            · have hR := hR.trans (if_neg q36)
              refine lv_bipush (v := (-2)) hx hb dX5_tells_63 rfl ?_
              have hR : s_X5_tells u p1 p2 p3 = ((-2), u) := hR
              exact W.iret (v := (-2)) hx hb hr (fun t ht _ => by rw [hR]; dsimp only; exact ⟨⟨rfl, by rw [ht]; exact hP⟩, hS.F ht⟩) hS.2.2 dX5_tells_65
          · have hR := hR.trans (if_neg q35)
            refine lv_bipush (v := (-11)) hx hb dX5_tells_50 rfl ?_
            have hR : s_X5_tells u p1 p2 p3 = ((-11), u) := hR
            exact W.iret (v := (-11)) hx hb hr (fun t ht _ => by rw [hR]; dsimp only; exact ⟨⟨rfl, by rw [ht]; exact hP⟩, hS.F ht⟩) hS.2.2 dX5_tells_52
        · have hR := hR.trans (if_pos q34)
          refine lv_bipush (v := (-2)) hx hb dX5_tells_39 rfl ?_
          have hR : s_X5_tells u p1 p2 p3 = ((-2), u) := hR
          exact W.iret (v := (-2)) hx hb hr (fun t ht _ => by rw [hR]; dsimp only; exact ⟨⟨rfl, by rw [ht]; exact hP⟩, hS.F ht⟩) hS.2.2 dX5_tells_41
  have hR := hR.trans (if_neg t1_3)
  refine xRoV (nL := 5) ⟨hx, hb, hml, hown, hts⟩ (c_X5_sheetOf_n l E a u p1 t1_0 t1_1 t1_2 t1_3) (cwV 1 hts gX5_tells_X5_sheetOf rfl rfl rfl ⟨rfl, hd_X5_sheetOf⟩ ⟨(Nat.le_of_ble_eq_true rfl), (Nat.le_of_ble_eq_true rfl)⟩) hF hS hA hP (va_recv (q := (RX5, TX5, 9)) hK hP (ci := 5) rfl (q0 := 0) rfl) rfl hl.1 rfl (Nat.le_of_ble_eq_true rfl) ⟨(Nat.le_of_ble_eq_true rfl), (Nat.le_of_ble_eq_true rfl)⟩ dX5_tells_2 ?_
  refine W.eq (g2 := F0 m 5 ls [.null]) rfl ?_
  refine lv_astoreN (lv' := [(4, .null), (0, .ref (a 0)), (1, .int p1), (2, .int p2), (3, .int p3)]) hx hb dX5_tells_5 hl (by decide) rfl (fun ls hl => ?_)
  refine lv_aloadN hx hb dX5_tells_7 (lv_at hl 0 rfl) ?_
  refine lv_ifnullN (tgt := 39) hx hb dX5_tells_9 rfl ?_
  refine lv_bipush (v := (-2)) hx hb dX5_tells_39 rfl ?_
  have hR : s_X5_tells u p1 p2 p3 = ((-2), u) := hR
  exact W.iret (v := (-2)) hx hb hr (fun t ht _ => by rw [hR]; dsimp only; exact ⟨⟨rfl, by rw [ht]; exact hP⟩, hS.F ht⟩) hS.2.2 dX5_tells_41
