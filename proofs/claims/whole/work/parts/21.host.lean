def s_X5_film_L46_0 : Nat → xU → Int32 → Int32 → Int32 → Int32 → Int32 × xU
  | 0, u, _, _, _, _ => (0, u)
  | n + 1, u, x1, x2, x3, x5 =>
    if x3 ≤ x5 then
      (x3, u)
    else
      if (u.2 3) < (x2 + x5) then
        s_X5_film_L46_0 n u x1 x2 x3 (x5 + 1)
      else
        s_X5_film_L46_0 n (uP u 0 (s_X3_write (uS u 0) x5 (s_X5_cell 201 (u.1 10) (x2 + x5)))) x1 x2 x3 (x5 + 1)
def s_X5_film_L46_1 : Nat → xU → Int32 → Int32 → Int32 → Int32 → Int32 × xU
  | 0, u, _, _, _, _ => (0, u)
  | n + 1, u, x1, x2, x3, x5 =>
    if x3 ≤ x5 then
      (x3, u)
    else
      if (u.2 3) < (x2 + x5) then
        s_X5_film_L46_1 n u x1 x2 x3 (x5 + 1)
      else
        s_X5_film_L46_1 n (uP u 1 (s_X3_write (uS u 1) x5 (s_X5_cell 201 (u.1 10) (x2 + x5)))) x1 x2 x3 (x5 + 1)
def s_X5_film_L46_2 : Nat → xU → Int32 → Int32 → Int32 → Int32 → Int32 × xU
  | 0, u, _, _, _, _ => (0, u)
  | n + 1, u, x1, x2, x3, x5 =>
    if x3 ≤ x5 then
      (x3, u)
    else
      if (u.2 3) < (x2 + x5) then
        s_X5_film_L46_2 n u x1 x2 x3 (x5 + 1)
      else
        s_X5_film_L46_2 n (uP u 2 (s_X3_write (uS u 2) x5 (s_X5_cell 201 (u.1 10) (x2 + x5)))) x1 x2 x3 (x5 + 1)
def s_X5_film_L46_3 : Nat → xU → Int32 → Int32 → Int32 → Int32 → Int32 × xU
  | 0, u, _, _, _, _ => (0, u)
  | n + 1, u, x1, x2, x3, x5 =>
    if x3 ≤ x5 then
      (x3, u)
    else
      if (u.2 3) < (x2 + x5) then
        s_X5_film_L46_3 n u x1 x2 x3 (x5 + 1)
      else
        s_X5_film_L46_3 n (uP u 3 (s_X3_write (uS u 3) x5 (s_X5_cell 201 (u.1 10) (x2 + x5)))) x1 x2 x3 (x5 + 1)
def s_X5_film (u : xU) (p1 : Int32) (p2 : Int32) (p3 : Int32) : Int32 × xU :=
  if p1 = 0 then
    if (s_X5_within p2 1 200) = 0 then
      ((-2), u)
    else
      if (s_X5_within p3 0 40) = 0 then
        ((-2), u)
      else
        s_X5_film_L46_0 ((p3.toInt - (0 : Int32).toInt).toNat + 1) (uP u 0 (s_X3_become (uS u 0) 0 p3)) p1 p2 p3 0
  else
    if p1 = 1 then
      if (s_X5_within p2 1 200) = 0 then
        ((-2), u)
      else
        if (s_X5_within p3 0 40) = 0 then
          ((-2), u)
        else
          s_X5_film_L46_1 ((p3.toInt - (0 : Int32).toInt).toNat + 1) (uP u 1 (s_X3_become (uS u 1) 0 p3)) p1 p2 p3 0
    else
      if p1 = 2 then
        if (s_X5_within p2 1 200) = 0 then
          ((-2), u)
        else
          if (s_X5_within p3 0 40) = 0 then
            ((-2), u)
          else
            s_X5_film_L46_2 ((p3.toInt - (0 : Int32).toInt).toNat + 1) (uP u 2 (s_X3_become (uS u 2) 0 p3)) p1 p2 p3 0
      else
        if p1 = 3 then
          if (s_X5_within p2 1 200) = 0 then
            ((-2), u)
          else
            if (s_X5_within p3 0 40) = 0 then
              ((-2), u)
            else
              s_X5_film_L46_3 ((p3.toInt - (0 : Int32).toInt).toNat + 1) (uP u 3 (s_X3_become (uS u 3) 0 p3)) p1 p2 p3 0
        else
          ((-2), u)
abbrev rm_X5_film : Room := { frames := 2, cells := 0, slots := 0, locals := 44 }
set_option maxHeartbeats 8000000 in
set_option maxRecDepth 100000 in
theorem c_X5_film (l : Launch) (E : xG) (a : Nat → Nat) (u : xU) (p1 : Int32) (p2 : Int32) (p3 : Int32) (hL : xOK E (LX a)) : xMd l E yX5_film wsX5_film rm_X5_film (LX a) [.ref (a 0), .int p1, .int p2, .int p3] (wX E a u) (some (.int ((s_X5_film u p1 p2 p3).1))) (wX E a ((s_X5_film u p1 p2 p3).2)) := by
  refine xMd.of (cc := cX5_film) (maxL := 6) (ret := (some .int)) (by decide) rfl (Nat.le_of_ble_eq_true rfl) ?_
  intro p e s m below meth c ls hAt hF hP hS hl
  obtain ⟨hx, hb, hr, hml, hown, hts, hlocks, -⟩ := hAt
  have hown : s.vm.findClass RX5 = some m.cls := hown
  have hl : lv_has ls 6 [(0, .ref (a 0)), (1, .int p1), (2, .int p2), (3, .int p3)] := hl
  have hK := hF.1
  have hA := hL.2
  change W p l e rm_X5_film s m ([.ref (a 0), .int p1, .int p2, .int p3] : List Value).toArray below meth c s.heap [] 0 0 (xQmd E below (LX a) (some (.int ((s_X5_film u p1 p2 p3).1))) (wX E a ((s_X5_film u p1 p2 p3).2)) ([.ref (a 0), .int p1, .int p2, .int p3] : List Value).toArray s) _
  have hS : va_S (· ∈ LX a) s.heap s.heap [] := hS
  have hR : s_X5_film u p1 p2 p3 = s_X5_film u p1 p2 p3 := rfl
  refine lv_aload_n hx hb dX5_film_0 rfl (lv_at hl 0 rfl) ?_
  refine lv_iload_n hx hb dX5_film_1 rfl (lv_at hl 1 rfl) ?_
  by_cases t1_0 : p1 = 0
  · have hR := hR.trans (if_pos t1_0)
    refine xRoV (nL := 6) ⟨hx, hb, hml, hown, hts⟩ (c_X5_sheetOf l E a u p1 0 (by decide) t1_0) (cwV 1 hts gX5_film_X5_sheetOf rfl rfl rfl ⟨rfl, hd_X5_sheetOf⟩ ⟨(Nat.le_of_ble_eq_true rfl), (Nat.le_of_ble_eq_true rfl)⟩) hF hS hA hP (va_recv (q := (RX5, TX5, 9)) hK hP (ci := 5) rfl (q0 := 0) rfl) rfl hl.1 rfl (Nat.le_of_ble_eq_true rfl) ⟨(Nat.le_of_ble_eq_true rfl), (Nat.le_of_ble_eq_true rfl)⟩ dX5_film_2 ?_
    refine W.eq (g2 := F0 m 5 ls [.ref (a 17)]) rfl ?_
    refine lv_astore (lv' := [(4, .ref (a 17)), (0, .ref (a 0)), (1, .int p1), (2, .int p2), (3, .int p3)]) hx hb dX5_film_5 hl (by decide) rfl (fun ls hl => ?_)
    refine lv_aload hx hb dX5_film_7 (lv_at hl 0 rfl) ?_
    refine lv_ifnull hx hb dX5_film_9 ?_
    refine lv_iload_n hx hb dX5_film_12 rfl (lv_at hl 3 rfl) ?_
    refine lv_iconst (v := 1) hx hb dX5_film_13 rfl ?_
    refine lv_sipush (v := 200) hx hb dX5_film_14 rfl ?_
    refine xRoS (nL := 6) ⟨hx, hb, hml, hown, hts⟩ (c_X5_within l E p2 1 200) (va_cwS 3 hts gX5_film_X5_within rfl rfl rfl hd_X5_within ⟨(Nat.le_of_ble_eq_true rfl), (Nat.le_of_ble_eq_true rfl)⟩) hF hS hA (hP.sub [] rfl) rfl hl.1 rfl (Nat.le_of_ble_eq_true rfl) ⟨(Nat.le_of_ble_eq_true rfl), (Nat.le_of_ble_eq_true rfl)⟩ dX5_film_17 ?_
    refine W.eq (g2 := F0 m 20 ls [.int (s_X5_within p2 1 200)]) rfl ?_
    refine lv_if_eq (tgt := 33) hx hb dX5_film_20 rfl (fun q2 => ?_) (fun q2 => ?_)
    · have hR := hR.trans (if_pos q2)
      refine lv_bipush (v := (-2)) hx hb dX5_film_33 rfl ?_
      have hR : s_X5_film u p1 p2 p3 = ((-2), u) := hR
      exact W.iret (v := (-2)) hx hb hr (fun t ht _ => by rw [hR]; dsimp only; exact ⟨⟨rfl, by rw [ht]; exact hP⟩, hS.F ht⟩) hS.2.2 dX5_film_35
    · have hR := hR.trans (if_neg q2)
      refine lv_iload_n hx hb dX5_film_23 rfl (lv_at hl 4 rfl) ?_
      refine lv_iconst (v := 0) hx hb dX5_film_24 rfl ?_
      refine lv_bipush (v := 40) hx hb dX5_film_25 rfl ?_
      refine xRoS (nL := 6) ⟨hx, hb, hml, hown, hts⟩ (c_X5_within l E p3 0 40) (va_cwS 3 hts gX5_film_X5_within rfl rfl rfl hd_X5_within ⟨(Nat.le_of_ble_eq_true rfl), (Nat.le_of_ble_eq_true rfl)⟩) hF hS hA (hP.sub [] rfl) rfl hl.1 rfl (Nat.le_of_ble_eq_true rfl) ⟨(Nat.le_of_ble_eq_true rfl), (Nat.le_of_ble_eq_true rfl)⟩ dX5_film_27 ?_
      refine W.eq (g2 := F0 m 30 ls [.int (s_X5_within p3 0 40)]) rfl ?_
      refine lv_if_ne (tgt := 36) hx hb dX5_film_30 rfl (fun q3 => ?_) (fun q3 => ?_)
      · have hR := hR.trans (if_neg q3)
        refine lv_aload hx hb dX5_film_36 (lv_at hl 0 rfl) ?_
        refine lv_iconst (v := 0) hx hb dX5_film_38 rfl ?_
        refine lv_iload_n hx hb dX5_film_39 rfl (lv_at hl 4 rfl) ?_
        refine xMdV (nL := 6) ⟨hx, hb, hml, hown, hts⟩ (c_X3_become l E (a 17) (a 21) (uS u 0) 0 p3 ⟨xnd2 hL.1 (i := 17) (j := 21) rfl rfl (by decide), xsub2 (hL.2 _ (List.mem_of_getElem? (i := 17) rfl)) (hL.2 _ (List.mem_of_getElem? (i := 21) rfl))⟩) (cwV 2 hts gX5_film_X3_become rfl rfl rfl ⟨rfl, hd_X3_become⟩ ⟨(Nat.le_of_ble_eq_true rfl), (Nat.le_of_ble_eq_true rfl)⟩) hF hS hL.2 (xsub2 (List.mem_of_getElem? (i := 17) rfl) (List.mem_of_getElem? (i := 21) rfl)) (hP.sub [17, 21] rfl) (va_recv (q := (RX3, TX3, 3)) hK hP (ci := 3) rfl (q0 := 17) rfl) rfl hl.1 rfl (Nat.le_of_ble_eq_true rfl) ⟨(Nat.le_of_ble_eq_true rfl), (Nat.le_of_ble_eq_true rfl)⟩ dX5_film_40 (fun H1 locs hP1 hk hS => ?_)
        have hP : va_P (xD E) vwCl (wX E a (uP u 0 (s_X3_become (uS u 0) 0 p3))) H1 := xset2 hP (xD_of (ws := wX E a u) (A := (· ∈ LX a)) hL.1 (fun _ h => h)) (p := 17) (p' := 21) rfl rfl (by decide) hP1 hk
        generalize H1 = H at hP hS ⊢
        refine W.eq (g2 := F0 m 43 ls []) rfl ?_
        refine lv_iconst (v := 0) hx hb dX5_film_43 rfl ?_
        refine lv_istore (lv' := [(5, .int 0), (4, .ref (a 17)), (0, .ref (a 0)), (1, .int p1), (2, .int p2), (3, .int p3)]) hx hb dX5_film_44 hl (by decide) rfl (fun ls hl => ?_)
        have L46 : ∀ (n46 : Nat) (u46 : xU) (x5 : Int32) (H : Heap) (locs : List Loc) (ls : Array Slot), (p3.toInt - x5.toInt).toNat < n46 → s_X5_film u p1 p2 p3 = s_X5_film_L46_0 n46 u46 p1 p2 p3 x5 → lv_has ls 6 [(5, .int x5), (4, .ref (a 17)), (0, .ref (a 0)), (1, .int p1), (2, .int p2), (3, .int p3)] → va_P (xD E) vwCl (wX E a u46) H → va_S (· ∈ LX a) s.heap H locs → W p l e rm_X5_film s m ([.ref (a 0), .int p1, .int p2, .int p3] : List Value).toArray below meth c H locs 0 0 (xQmd E below (LX a) (some (.int ((s_X5_film u p1 p2 p3).1))) (wX E a ((s_X5_film u p1 p2 p3).2)) ([.ref (a 0), .int p1, .int p2, .int p3] : List Value).toArray s) (F0 m 46 ls []) := by
          intro n46
          induction n46 with
          | zero => intro u46 x5 H locs ls hM46 hR hl hP hS; exact absurd hM46 (Nat.not_lt_zero _)
          | succ n46 ih46 =>
            intro u46 x5 H locs ls hM46 hR hl hP hS
            refine lv_iload hx hb dX5_film_46 (lv_at hl 0 rfl) ?_
            refine lv_iload_n hx hb dX5_film_48 rfl (lv_at hl 5 rfl) ?_
            refine lv_icmp_ge (tgt := 93) hx hb dX5_film_49 rfl (fun q4 => ?_) (fun q4 => ?_)
            · have hR := hR.trans (if_pos q4)
              refine lv_iload_n hx hb dX5_film_93 rfl (lv_at hl 5 rfl) ?_
              have hR : s_X5_film u p1 p2 p3 = (p3, u46) := hR
              exact W.iret (v := p3) hx hb hr (fun t ht _ => by rw [hR]; dsimp only; exact ⟨⟨rfl, by rw [ht]; exact hP⟩, hS.F ht⟩) hS.2.2 dX5_film_94
            · have hR := hR.trans (if_neg q4)
              refine lv_iload_n hx hb dX5_film_52 rfl (lv_at hl 4 rfl) ?_
              refine lv_iload hx hb dX5_film_53 (lv_at hl 0 rfl) ?_
              refine lv_iadd hx hb dX5_film_55 ?_
              refine lv_aload_n hx hb dX5_film_56 rfl (lv_at hl 2 rfl) ?_
              refine va_get (D := xD E) (ci := 5) (v := .ref (a 7)) (C := RX5) (T := TX5) (N := 9) hx hb hts (by decide +kernel) hown hK hP 0 rfl rfl 4 (by decide) (hts (.fieldLink RX5 41 "RailOffsets" "line" "LRailOffsets$Line;") (by decide +kernel)) (fun _ h => h) rfl dX5_film_57 ?_
              refine va_get (D := xD E) (ci := 0) (v := .int (u46.2 3)) (C := RX0) (T := TX0) (N := 8) hx hb hts (by decide +kernel) hown hK hP 7 rfl rfl 7 (by decide) (hts (.fieldLink RX5 128 "RailOffsets$Line" "stations" "I") (by decide +kernel)) (fun _ h => h) rfl dX5_film_60 ?_
              refine lv_icmp_gt (tgt := 87) hx hb dX5_film_63 rfl (fun q5 => ?_) (fun q5 => ?_)
              · have hR := hR.trans (if_pos q5)
                refine lv_iinc (k := 0) (v := x5 + 1) (lv' := [(5, .int (x5 + 1)), (4, .ref (a 17)), (0, .ref (a 0)), (1, .int p1), (2, .int p2), (3, .int p3)]) hx hb dX5_film_87 hl rfl rfl (by decide) rfl (fun ls hl => ?_)
                refine lv_goto (tgt := 46) hx hb dX5_film_90 rfl ?_
                exact ih46 u46 (x5 + 1) _ _ _ (Nat.lt_of_lt_of_le (xupc q4) (Nat.le_of_lt_succ hM46)) hR (lv_sub hl [0, 1, 2, 3, 4, 5] rfl) hP hS
              · have hR := hR.trans (if_neg q5)
                refine lv_aload hx hb dX5_film_66 (lv_at hl 1 rfl) ?_
                refine lv_iload hx hb dX5_film_68 (lv_at hl 0 rfl) ?_
                refine lv_aload_n hx hb dX5_film_70 rfl (lv_at hl 2 rfl) ?_
                refine va_get (D := xD E) (ci := 5) (v := .ref (a 7)) (C := RX5) (T := TX5) (N := 9) hx hb hts (by decide +kernel) hown hK hP 0 rfl rfl 4 (by decide) (hts (.fieldLink RX5 41 "RailOffsets" "line" "LRailOffsets$Line;") (by decide +kernel)) (fun _ h => h) rfl dX5_film_71 ?_
                refine va_get (D := xD E) (ci := 0) (v := .ref (a 10)) (C := RX0) (T := TX0) (N := 8) hx hb hts (by decide +kernel) hown hK hP 7 rfl rfl 3 (by decide) (hts (.fieldLink RX5 131 "RailOffsets$Line" "versines" "[I") (by decide +kernel)) (fun _ h => h) rfl dX5_film_74 ?_
                refine lv_iload_n hx hb dX5_film_77 rfl (lv_at hl 4 rfl) ?_
                refine lv_iload hx hb dX5_film_78 (lv_at hl 0 rfl) ?_
                refine lv_iadd hx hb dX5_film_80 ?_
                refine xRoS (nL := 6) ⟨hx, hb, hml, hown, hts⟩ (c_X5_cell l E (a 10) 201 (u46.1 10) (p2 + x5)) (va_cwS 2 hts gX5_film_X5_cell rfl rfl rfl hd_X5_cell ⟨(Nat.le_of_ble_eq_true rfl), (Nat.le_of_ble_eq_true rfl)⟩) hF hS hA (hP.sub [10] rfl) rfl hl.1 rfl (Nat.le_of_ble_eq_true rfl) ⟨(Nat.le_of_ble_eq_true rfl), (Nat.le_of_ble_eq_true rfl)⟩ dX5_film_81 ?_
                refine W.eq (g2 := F0 m 84 ls [.int (s_X5_cell 201 (u46.1 10) (p2 + x5)), .int x5, .ref (a 17)]) rfl ?_
                refine xMdV (nL := 6) ⟨hx, hb, hml, hown, hts⟩ (c_X3_write l E (a 17) (a 21) (uS u46 0) x5 (s_X5_cell 201 (u46.1 10) (p2 + x5)) ⟨xnd2 hL.1 (i := 17) (j := 21) rfl rfl (by decide), xsub2 (hL.2 _ (List.mem_of_getElem? (i := 17) rfl)) (hL.2 _ (List.mem_of_getElem? (i := 21) rfl))⟩) (cwV 2 hts gX5_film_X3_write rfl rfl rfl ⟨rfl, hd_X3_write⟩ ⟨(Nat.le_of_ble_eq_true rfl), (Nat.le_of_ble_eq_true rfl)⟩) hF hS hL.2 (xsub2 (List.mem_of_getElem? (i := 17) rfl) (List.mem_of_getElem? (i := 21) rfl)) (hP.sub [17, 21] rfl) (va_recv (q := (RX3, TX3, 3)) hK hP (ci := 3) rfl (q0 := 17) rfl) rfl hl.1 rfl (Nat.le_of_ble_eq_true rfl) ⟨(Nat.le_of_ble_eq_true rfl), (Nat.le_of_ble_eq_true rfl)⟩ dX5_film_84 (fun H1 locs hP1 hk hS => ?_)
                have hP : va_P (xD E) vwCl (wX E a (uP u46 0 (s_X3_write (uS u46 0) x5 (s_X5_cell 201 (u46.1 10) (p2 + x5))))) H1 := xset2 hP (xD_of (ws := wX E a u46) (A := (· ∈ LX a)) hL.1 (fun _ h => h)) (p := 17) (p' := 21) rfl rfl (by decide) hP1 hk
                generalize H1 = H at hP hS ⊢
                refine W.eq (g2 := F0 m 87 ls []) rfl ?_
                refine lv_iinc (k := 0) (v := x5 + 1) (lv' := [(5, .int (x5 + 1)), (4, .ref (a 17)), (0, .ref (a 0)), (1, .int p1), (2, .int p2), (3, .int p3)]) hx hb dX5_film_87 hl rfl rfl (by decide) rfl (fun ls hl => ?_)
                refine lv_goto (tgt := 46) hx hb dX5_film_90 rfl ?_
                exact ih46 (uP u46 0 (s_X3_write (uS u46 0) x5 (s_X5_cell 201 (u46.1 10) (p2 + x5)))) (x5 + 1) _ _ _ (Nat.lt_of_lt_of_le (xupc q4) (Nat.le_of_lt_succ hM46)) hR (lv_sub hl [0, 1, 2, 3, 4, 5] rfl) hP hS
        exact L46 ((p3.toInt - (0 : Int32).toInt).toNat + 1) (uP u 0 (s_X3_become (uS u 0) 0 p3)) 0 _ _ ls (Nat.lt_succ_self _) hR hl hP hS
      · have hR := hR.trans (if_pos q3)
        refine lv_bipush (v := (-2)) hx hb dX5_film_33 rfl ?_
        have hR : s_X5_film u p1 p2 p3 = ((-2), u) := hR
        exact W.iret (v := (-2)) hx hb hr (fun t ht _ => by rw [hR]; dsimp only; exact ⟨⟨rfl, by rw [ht]; exact hP⟩, hS.F ht⟩) hS.2.2 dX5_film_35
  have hR := hR.trans (if_neg t1_0)
  by_cases t1_1 : p1 = 1
  · have hR := hR.trans (if_pos t1_1)
    refine xRoV (nL := 6) ⟨hx, hb, hml, hown, hts⟩ (c_X5_sheetOf l E a u p1 1 (by decide) t1_1) (cwV 1 hts gX5_film_X5_sheetOf rfl rfl rfl ⟨rfl, hd_X5_sheetOf⟩ ⟨(Nat.le_of_ble_eq_true rfl), (Nat.le_of_ble_eq_true rfl)⟩) hF hS hA hP (va_recv (q := (RX5, TX5, 9)) hK hP (ci := 5) rfl (q0 := 0) rfl) rfl hl.1 rfl (Nat.le_of_ble_eq_true rfl) ⟨(Nat.le_of_ble_eq_true rfl), (Nat.le_of_ble_eq_true rfl)⟩ dX5_film_2 ?_
    refine W.eq (g2 := F0 m 5 ls [.ref (a 18)]) rfl ?_
    refine lv_astore (lv' := [(4, .ref (a 18)), (0, .ref (a 0)), (1, .int p1), (2, .int p2), (3, .int p3)]) hx hb dX5_film_5 hl (by decide) rfl (fun ls hl => ?_)
    refine lv_aload hx hb dX5_film_7 (lv_at hl 0 rfl) ?_
    refine lv_ifnull hx hb dX5_film_9 ?_
    refine lv_iload_n hx hb dX5_film_12 rfl (lv_at hl 3 rfl) ?_
    refine lv_iconst (v := 1) hx hb dX5_film_13 rfl ?_
    refine lv_sipush (v := 200) hx hb dX5_film_14 rfl ?_
    refine xRoS (nL := 6) ⟨hx, hb, hml, hown, hts⟩ (c_X5_within l E p2 1 200) (va_cwS 3 hts gX5_film_X5_within rfl rfl rfl hd_X5_within ⟨(Nat.le_of_ble_eq_true rfl), (Nat.le_of_ble_eq_true rfl)⟩) hF hS hA (hP.sub [] rfl) rfl hl.1 rfl (Nat.le_of_ble_eq_true rfl) ⟨(Nat.le_of_ble_eq_true rfl), (Nat.le_of_ble_eq_true rfl)⟩ dX5_film_17 ?_
    refine W.eq (g2 := F0 m 20 ls [.int (s_X5_within p2 1 200)]) rfl ?_
    refine lv_if_eq (tgt := 33) hx hb dX5_film_20 rfl (fun q6 => ?_) (fun q6 => ?_)
    · have hR := hR.trans (if_pos q6)
      refine lv_bipush (v := (-2)) hx hb dX5_film_33 rfl ?_
      have hR : s_X5_film u p1 p2 p3 = ((-2), u) := hR
      exact W.iret (v := (-2)) hx hb hr (fun t ht _ => by rw [hR]; dsimp only; exact ⟨⟨rfl, by rw [ht]; exact hP⟩, hS.F ht⟩) hS.2.2 dX5_film_35
    · have hR := hR.trans (if_neg q6)
      refine lv_iload_n hx hb dX5_film_23 rfl (lv_at hl 4 rfl) ?_
      refine lv_iconst (v := 0) hx hb dX5_film_24 rfl ?_
      refine lv_bipush (v := 40) hx hb dX5_film_25 rfl ?_
      refine xRoS (nL := 6) ⟨hx, hb, hml, hown, hts⟩ (c_X5_within l E p3 0 40) (va_cwS 3 hts gX5_film_X5_within rfl rfl rfl hd_X5_within ⟨(Nat.le_of_ble_eq_true rfl), (Nat.le_of_ble_eq_true rfl)⟩) hF hS hA (hP.sub [] rfl) rfl hl.1 rfl (Nat.le_of_ble_eq_true rfl) ⟨(Nat.le_of_ble_eq_true rfl), (Nat.le_of_ble_eq_true rfl)⟩ dX5_film_27 ?_
      refine W.eq (g2 := F0 m 30 ls [.int (s_X5_within p3 0 40)]) rfl ?_
      refine lv_if_ne (tgt := 36) hx hb dX5_film_30 rfl (fun q7 => ?_) (fun q7 => ?_)
      · have hR := hR.trans (if_neg q7)
        refine lv_aload hx hb dX5_film_36 (lv_at hl 0 rfl) ?_
        refine lv_iconst (v := 0) hx hb dX5_film_38 rfl ?_
        refine lv_iload_n hx hb dX5_film_39 rfl (lv_at hl 4 rfl) ?_
        refine xMdV (nL := 6) ⟨hx, hb, hml, hown, hts⟩ (c_X3_become l E (a 18) (a 22) (uS u 1) 0 p3 ⟨xnd2 hL.1 (i := 18) (j := 22) rfl rfl (by decide), xsub2 (hL.2 _ (List.mem_of_getElem? (i := 18) rfl)) (hL.2 _ (List.mem_of_getElem? (i := 22) rfl))⟩) (cwV 2 hts gX5_film_X3_become rfl rfl rfl ⟨rfl, hd_X3_become⟩ ⟨(Nat.le_of_ble_eq_true rfl), (Nat.le_of_ble_eq_true rfl)⟩) hF hS hL.2 (xsub2 (List.mem_of_getElem? (i := 18) rfl) (List.mem_of_getElem? (i := 22) rfl)) (hP.sub [18, 22] rfl) (va_recv (q := (RX3, TX3, 3)) hK hP (ci := 3) rfl (q0 := 18) rfl) rfl hl.1 rfl (Nat.le_of_ble_eq_true rfl) ⟨(Nat.le_of_ble_eq_true rfl), (Nat.le_of_ble_eq_true rfl)⟩ dX5_film_40 (fun H1 locs hP1 hk hS => ?_)
        have hP : va_P (xD E) vwCl (wX E a (uP u 1 (s_X3_become (uS u 1) 0 p3))) H1 := xset2 hP (xD_of (ws := wX E a u) (A := (· ∈ LX a)) hL.1 (fun _ h => h)) (p := 18) (p' := 22) rfl rfl (by decide) hP1 hk
        generalize H1 = H at hP hS ⊢
        refine W.eq (g2 := F0 m 43 ls []) rfl ?_
        refine lv_iconst (v := 0) hx hb dX5_film_43 rfl ?_
        refine lv_istore (lv' := [(5, .int 0), (4, .ref (a 18)), (0, .ref (a 0)), (1, .int p1), (2, .int p2), (3, .int p3)]) hx hb dX5_film_44 hl (by decide) rfl (fun ls hl => ?_)
        have L46 : ∀ (n46 : Nat) (u46 : xU) (x5 : Int32) (H : Heap) (locs : List Loc) (ls : Array Slot), (p3.toInt - x5.toInt).toNat < n46 → s_X5_film u p1 p2 p3 = s_X5_film_L46_1 n46 u46 p1 p2 p3 x5 → lv_has ls 6 [(5, .int x5), (4, .ref (a 18)), (0, .ref (a 0)), (1, .int p1), (2, .int p2), (3, .int p3)] → va_P (xD E) vwCl (wX E a u46) H → va_S (· ∈ LX a) s.heap H locs → W p l e rm_X5_film s m ([.ref (a 0), .int p1, .int p2, .int p3] : List Value).toArray below meth c H locs 0 0 (xQmd E below (LX a) (some (.int ((s_X5_film u p1 p2 p3).1))) (wX E a ((s_X5_film u p1 p2 p3).2)) ([.ref (a 0), .int p1, .int p2, .int p3] : List Value).toArray s) (F0 m 46 ls []) := by
          intro n46
          induction n46 with
          | zero => intro u46 x5 H locs ls hM46 hR hl hP hS; exact absurd hM46 (Nat.not_lt_zero _)
          | succ n46 ih46 =>
            intro u46 x5 H locs ls hM46 hR hl hP hS
            refine lv_iload hx hb dX5_film_46 (lv_at hl 0 rfl) ?_
            refine lv_iload_n hx hb dX5_film_48 rfl (lv_at hl 5 rfl) ?_
            refine lv_icmp_ge (tgt := 93) hx hb dX5_film_49 rfl (fun q8 => ?_) (fun q8 => ?_)
            · have hR := hR.trans (if_pos q8)
              refine lv_iload_n hx hb dX5_film_93 rfl (lv_at hl 5 rfl) ?_
              have hR : s_X5_film u p1 p2 p3 = (p3, u46) := hR
              exact W.iret (v := p3) hx hb hr (fun t ht _ => by rw [hR]; dsimp only; exact ⟨⟨rfl, by rw [ht]; exact hP⟩, hS.F ht⟩) hS.2.2 dX5_film_94
            · have hR := hR.trans (if_neg q8)
              refine lv_iload_n hx hb dX5_film_52 rfl (lv_at hl 4 rfl) ?_
              refine lv_iload hx hb dX5_film_53 (lv_at hl 0 rfl) ?_
              refine lv_iadd hx hb dX5_film_55 ?_
              refine lv_aload_n hx hb dX5_film_56 rfl (lv_at hl 2 rfl) ?_
              refine va_get (D := xD E) (ci := 5) (v := .ref (a 7)) (C := RX5) (T := TX5) (N := 9) hx hb hts (by decide +kernel) hown hK hP 0 rfl rfl 4 (by decide) (hts (.fieldLink RX5 41 "RailOffsets" "line" "LRailOffsets$Line;") (by decide +kernel)) (fun _ h => h) rfl dX5_film_57 ?_
              refine va_get (D := xD E) (ci := 0) (v := .int (u46.2 3)) (C := RX0) (T := TX0) (N := 8) hx hb hts (by decide +kernel) hown hK hP 7 rfl rfl 7 (by decide) (hts (.fieldLink RX5 128 "RailOffsets$Line" "stations" "I") (by decide +kernel)) (fun _ h => h) rfl dX5_film_60 ?_
              refine lv_icmp_gt (tgt := 87) hx hb dX5_film_63 rfl (fun q9 => ?_) (fun q9 => ?_)
              · have hR := hR.trans (if_pos q9)
                refine lv_iinc (k := 0) (v := x5 + 1) (lv' := [(5, .int (x5 + 1)), (4, .ref (a 18)), (0, .ref (a 0)), (1, .int p1), (2, .int p2), (3, .int p3)]) hx hb dX5_film_87 hl rfl rfl (by decide) rfl (fun ls hl => ?_)
                refine lv_goto (tgt := 46) hx hb dX5_film_90 rfl ?_
                exact ih46 u46 (x5 + 1) _ _ _ (Nat.lt_of_lt_of_le (xupc q8) (Nat.le_of_lt_succ hM46)) hR (lv_sub hl [0, 1, 2, 3, 4, 5] rfl) hP hS
              · have hR := hR.trans (if_neg q9)
                refine lv_aload hx hb dX5_film_66 (lv_at hl 1 rfl) ?_
                refine lv_iload hx hb dX5_film_68 (lv_at hl 0 rfl) ?_
                refine lv_aload_n hx hb dX5_film_70 rfl (lv_at hl 2 rfl) ?_
                refine va_get (D := xD E) (ci := 5) (v := .ref (a 7)) (C := RX5) (T := TX5) (N := 9) hx hb hts (by decide +kernel) hown hK hP 0 rfl rfl 4 (by decide) (hts (.fieldLink RX5 41 "RailOffsets" "line" "LRailOffsets$Line;") (by decide +kernel)) (fun _ h => h) rfl dX5_film_71 ?_
                refine va_get (D := xD E) (ci := 0) (v := .ref (a 10)) (C := RX0) (T := TX0) (N := 8) hx hb hts (by decide +kernel) hown hK hP 7 rfl rfl 3 (by decide) (hts (.fieldLink RX5 131 "RailOffsets$Line" "versines" "[I") (by decide +kernel)) (fun _ h => h) rfl dX5_film_74 ?_
                refine lv_iload_n hx hb dX5_film_77 rfl (lv_at hl 4 rfl) ?_
                refine lv_iload hx hb dX5_film_78 (lv_at hl 0 rfl) ?_
                refine lv_iadd hx hb dX5_film_80 ?_
                refine xRoS (nL := 6) ⟨hx, hb, hml, hown, hts⟩ (c_X5_cell l E (a 10) 201 (u46.1 10) (p2 + x5)) (va_cwS 2 hts gX5_film_X5_cell rfl rfl rfl hd_X5_cell ⟨(Nat.le_of_ble_eq_true rfl), (Nat.le_of_ble_eq_true rfl)⟩) hF hS hA (hP.sub [10] rfl) rfl hl.1 rfl (Nat.le_of_ble_eq_true rfl) ⟨(Nat.le_of_ble_eq_true rfl), (Nat.le_of_ble_eq_true rfl)⟩ dX5_film_81 ?_
                refine W.eq (g2 := F0 m 84 ls [.int (s_X5_cell 201 (u46.1 10) (p2 + x5)), .int x5, .ref (a 18)]) rfl ?_
                refine xMdV (nL := 6) ⟨hx, hb, hml, hown, hts⟩ (c_X3_write l E (a 18) (a 22) (uS u46 1) x5 (s_X5_cell 201 (u46.1 10) (p2 + x5)) ⟨xnd2 hL.1 (i := 18) (j := 22) rfl rfl (by decide), xsub2 (hL.2 _ (List.mem_of_getElem? (i := 18) rfl)) (hL.2 _ (List.mem_of_getElem? (i := 22) rfl))⟩) (cwV 2 hts gX5_film_X3_write rfl rfl rfl ⟨rfl, hd_X3_write⟩ ⟨(Nat.le_of_ble_eq_true rfl), (Nat.le_of_ble_eq_true rfl)⟩) hF hS hL.2 (xsub2 (List.mem_of_getElem? (i := 18) rfl) (List.mem_of_getElem? (i := 22) rfl)) (hP.sub [18, 22] rfl) (va_recv (q := (RX3, TX3, 3)) hK hP (ci := 3) rfl (q0 := 18) rfl) rfl hl.1 rfl (Nat.le_of_ble_eq_true rfl) ⟨(Nat.le_of_ble_eq_true rfl), (Nat.le_of_ble_eq_true rfl)⟩ dX5_film_84 (fun H1 locs hP1 hk hS => ?_)
                have hP : va_P (xD E) vwCl (wX E a (uP u46 1 (s_X3_write (uS u46 1) x5 (s_X5_cell 201 (u46.1 10) (p2 + x5))))) H1 := xset2 hP (xD_of (ws := wX E a u46) (A := (· ∈ LX a)) hL.1 (fun _ h => h)) (p := 18) (p' := 22) rfl rfl (by decide) hP1 hk
                generalize H1 = H at hP hS ⊢
                refine W.eq (g2 := F0 m 87 ls []) rfl ?_
                refine lv_iinc (k := 0) (v := x5 + 1) (lv' := [(5, .int (x5 + 1)), (4, .ref (a 18)), (0, .ref (a 0)), (1, .int p1), (2, .int p2), (3, .int p3)]) hx hb dX5_film_87 hl rfl rfl (by decide) rfl (fun ls hl => ?_)
                refine lv_goto (tgt := 46) hx hb dX5_film_90 rfl ?_
                exact ih46 (uP u46 1 (s_X3_write (uS u46 1) x5 (s_X5_cell 201 (u46.1 10) (p2 + x5)))) (x5 + 1) _ _ _ (Nat.lt_of_lt_of_le (xupc q8) (Nat.le_of_lt_succ hM46)) hR (lv_sub hl [0, 1, 2, 3, 4, 5] rfl) hP hS
        exact L46 ((p3.toInt - (0 : Int32).toInt).toNat + 1) (uP u 1 (s_X3_become (uS u 1) 0 p3)) 0 _ _ ls (Nat.lt_succ_self _) hR hl hP hS
      · have hR := hR.trans (if_pos q7)
        refine lv_bipush (v := (-2)) hx hb dX5_film_33 rfl ?_
        have hR : s_X5_film u p1 p2 p3 = ((-2), u) := hR
        exact W.iret (v := (-2)) hx hb hr (fun t ht _ => by rw [hR]; dsimp only; exact ⟨⟨rfl, by rw [ht]; exact hP⟩, hS.F ht⟩) hS.2.2 dX5_film_35
  have hR := hR.trans (if_neg t1_1)
  by_cases t1_2 : p1 = 2
  · have hR := hR.trans (if_pos t1_2)
    refine xRoV (nL := 6) ⟨hx, hb, hml, hown, hts⟩ (c_X5_sheetOf l E a u p1 2 (by decide) t1_2) (cwV 1 hts gX5_film_X5_sheetOf rfl rfl rfl ⟨rfl, hd_X5_sheetOf⟩ ⟨(Nat.le_of_ble_eq_true rfl), (Nat.le_of_ble_eq_true rfl)⟩) hF hS hA hP (va_recv (q := (RX5, TX5, 9)) hK hP (ci := 5) rfl (q0 := 0) rfl) rfl hl.1 rfl (Nat.le_of_ble_eq_true rfl) ⟨(Nat.le_of_ble_eq_true rfl), (Nat.le_of_ble_eq_true rfl)⟩ dX5_film_2 ?_
    refine W.eq (g2 := F0 m 5 ls [.ref (a 19)]) rfl ?_
    refine lv_astore (lv' := [(4, .ref (a 19)), (0, .ref (a 0)), (1, .int p1), (2, .int p2), (3, .int p3)]) hx hb dX5_film_5 hl (by decide) rfl (fun ls hl => ?_)
    refine lv_aload hx hb dX5_film_7 (lv_at hl 0 rfl) ?_
    refine lv_ifnull hx hb dX5_film_9 ?_
    refine lv_iload_n hx hb dX5_film_12 rfl (lv_at hl 3 rfl) ?_
    refine lv_iconst (v := 1) hx hb dX5_film_13 rfl ?_
    refine lv_sipush (v := 200) hx hb dX5_film_14 rfl ?_
    refine xRoS (nL := 6) ⟨hx, hb, hml, hown, hts⟩ (c_X5_within l E p2 1 200) (va_cwS 3 hts gX5_film_X5_within rfl rfl rfl hd_X5_within ⟨(Nat.le_of_ble_eq_true rfl), (Nat.le_of_ble_eq_true rfl)⟩) hF hS hA (hP.sub [] rfl) rfl hl.1 rfl (Nat.le_of_ble_eq_true rfl) ⟨(Nat.le_of_ble_eq_true rfl), (Nat.le_of_ble_eq_true rfl)⟩ dX5_film_17 ?_
    refine W.eq (g2 := F0 m 20 ls [.int (s_X5_within p2 1 200)]) rfl ?_
    refine lv_if_eq (tgt := 33) hx hb dX5_film_20 rfl (fun q10 => ?_) (fun q10 => ?_)
    · have hR := hR.trans (if_pos q10)
      refine lv_bipush (v := (-2)) hx hb dX5_film_33 rfl ?_
      have hR : s_X5_film u p1 p2 p3 = ((-2), u) := hR
      exact W.iret (v := (-2)) hx hb hr (fun t ht _ => by rw [hR]; dsimp only; exact ⟨⟨rfl, by rw [ht]; exact hP⟩, hS.F ht⟩) hS.2.2 dX5_film_35
    · have hR := hR.trans (if_neg q10)
      refine lv_iload_n hx hb dX5_film_23 rfl (lv_at hl 4 rfl) ?_
      refine lv_iconst (v := 0) hx hb dX5_film_24 rfl ?_
      refine lv_bipush (v := 40) hx hb dX5_film_25 rfl ?_
      refine xRoS (nL := 6) ⟨hx, hb, hml, hown, hts⟩ (c_X5_within l E p3 0 40) (va_cwS 3 hts gX5_film_X5_within rfl rfl rfl hd_X5_within ⟨(Nat.le_of_ble_eq_true rfl), (Nat.le_of_ble_eq_true rfl)⟩) hF hS hA (hP.sub [] rfl) rfl hl.1 rfl (Nat.le_of_ble_eq_true rfl) ⟨(Nat.le_of_ble_eq_true rfl), (Nat.le_of_ble_eq_true rfl)⟩ dX5_film_27 ?_
      refine W.eq (g2 := F0 m 30 ls [.int (s_X5_within p3 0 40)]) rfl ?_
      refine lv_if_ne (tgt := 36) hx hb dX5_film_30 rfl (fun q11 => ?_) (fun q11 => ?_)
      · have hR := hR.trans (if_neg q11)
        refine lv_aload hx hb dX5_film_36 (lv_at hl 0 rfl) ?_
        refine lv_iconst (v := 0) hx hb dX5_film_38 rfl ?_
        refine lv_iload_n hx hb dX5_film_39 rfl (lv_at hl 4 rfl) ?_
        refine xMdV (nL := 6) ⟨hx, hb, hml, hown, hts⟩ (c_X3_become l E (a 19) (a 23) (uS u 2) 0 p3 ⟨xnd2 hL.1 (i := 19) (j := 23) rfl rfl (by decide), xsub2 (hL.2 _ (List.mem_of_getElem? (i := 19) rfl)) (hL.2 _ (List.mem_of_getElem? (i := 23) rfl))⟩) (cwV 2 hts gX5_film_X3_become rfl rfl rfl ⟨rfl, hd_X3_become⟩ ⟨(Nat.le_of_ble_eq_true rfl), (Nat.le_of_ble_eq_true rfl)⟩) hF hS hL.2 (xsub2 (List.mem_of_getElem? (i := 19) rfl) (List.mem_of_getElem? (i := 23) rfl)) (hP.sub [19, 23] rfl) (va_recv (q := (RX3, TX3, 3)) hK hP (ci := 3) rfl (q0 := 19) rfl) rfl hl.1 rfl (Nat.le_of_ble_eq_true rfl) ⟨(Nat.le_of_ble_eq_true rfl), (Nat.le_of_ble_eq_true rfl)⟩ dX5_film_40 (fun H1 locs hP1 hk hS => ?_)
        have hP : va_P (xD E) vwCl (wX E a (uP u 2 (s_X3_become (uS u 2) 0 p3))) H1 := xset2 hP (xD_of (ws := wX E a u) (A := (· ∈ LX a)) hL.1 (fun _ h => h)) (p := 19) (p' := 23) rfl rfl (by decide) hP1 hk
        generalize H1 = H at hP hS ⊢
        refine W.eq (g2 := F0 m 43 ls []) rfl ?_
        refine lv_iconst (v := 0) hx hb dX5_film_43 rfl ?_
        refine lv_istore (lv' := [(5, .int 0), (4, .ref (a 19)), (0, .ref (a 0)), (1, .int p1), (2, .int p2), (3, .int p3)]) hx hb dX5_film_44 hl (by decide) rfl (fun ls hl => ?_)
        have L46 : ∀ (n46 : Nat) (u46 : xU) (x5 : Int32) (H : Heap) (locs : List Loc) (ls : Array Slot), (p3.toInt - x5.toInt).toNat < n46 → s_X5_film u p1 p2 p3 = s_X5_film_L46_2 n46 u46 p1 p2 p3 x5 → lv_has ls 6 [(5, .int x5), (4, .ref (a 19)), (0, .ref (a 0)), (1, .int p1), (2, .int p2), (3, .int p3)] → va_P (xD E) vwCl (wX E a u46) H → va_S (· ∈ LX a) s.heap H locs → W p l e rm_X5_film s m ([.ref (a 0), .int p1, .int p2, .int p3] : List Value).toArray below meth c H locs 0 0 (xQmd E below (LX a) (some (.int ((s_X5_film u p1 p2 p3).1))) (wX E a ((s_X5_film u p1 p2 p3).2)) ([.ref (a 0), .int p1, .int p2, .int p3] : List Value).toArray s) (F0 m 46 ls []) := by
          intro n46
          induction n46 with
          | zero => intro u46 x5 H locs ls hM46 hR hl hP hS; exact absurd hM46 (Nat.not_lt_zero _)
          | succ n46 ih46 =>
            intro u46 x5 H locs ls hM46 hR hl hP hS
            refine lv_iload hx hb dX5_film_46 (lv_at hl 0 rfl) ?_
            refine lv_iload_n hx hb dX5_film_48 rfl (lv_at hl 5 rfl) ?_
            refine lv_icmp_ge (tgt := 93) hx hb dX5_film_49 rfl (fun q12 => ?_) (fun q12 => ?_)
            · have hR := hR.trans (if_pos q12)
              refine lv_iload_n hx hb dX5_film_93 rfl (lv_at hl 5 rfl) ?_
              have hR : s_X5_film u p1 p2 p3 = (p3, u46) := hR
              exact W.iret (v := p3) hx hb hr (fun t ht _ => by rw [hR]; dsimp only; exact ⟨⟨rfl, by rw [ht]; exact hP⟩, hS.F ht⟩) hS.2.2 dX5_film_94
            · have hR := hR.trans (if_neg q12)
              refine lv_iload_n hx hb dX5_film_52 rfl (lv_at hl 4 rfl) ?_
              refine lv_iload hx hb dX5_film_53 (lv_at hl 0 rfl) ?_
              refine lv_iadd hx hb dX5_film_55 ?_
              refine lv_aload_n hx hb dX5_film_56 rfl (lv_at hl 2 rfl) ?_
              refine va_get (D := xD E) (ci := 5) (v := .ref (a 7)) (C := RX5) (T := TX5) (N := 9) hx hb hts (by decide +kernel) hown hK hP 0 rfl rfl 4 (by decide) (hts (.fieldLink RX5 41 "RailOffsets" "line" "LRailOffsets$Line;") (by decide +kernel)) (fun _ h => h) rfl dX5_film_57 ?_
              refine va_get (D := xD E) (ci := 0) (v := .int (u46.2 3)) (C := RX0) (T := TX0) (N := 8) hx hb hts (by decide +kernel) hown hK hP 7 rfl rfl 7 (by decide) (hts (.fieldLink RX5 128 "RailOffsets$Line" "stations" "I") (by decide +kernel)) (fun _ h => h) rfl dX5_film_60 ?_
              refine lv_icmp_gt (tgt := 87) hx hb dX5_film_63 rfl (fun q13 => ?_) (fun q13 => ?_)
              · have hR := hR.trans (if_pos q13)
                refine lv_iinc (k := 0) (v := x5 + 1) (lv' := [(5, .int (x5 + 1)), (4, .ref (a 19)), (0, .ref (a 0)), (1, .int p1), (2, .int p2), (3, .int p3)]) hx hb dX5_film_87 hl rfl rfl (by decide) rfl (fun ls hl => ?_)
                refine lv_goto (tgt := 46) hx hb dX5_film_90 rfl ?_
                exact ih46 u46 (x5 + 1) _ _ _ (Nat.lt_of_lt_of_le (xupc q12) (Nat.le_of_lt_succ hM46)) hR (lv_sub hl [0, 1, 2, 3, 4, 5] rfl) hP hS
              · have hR := hR.trans (if_neg q13)
                refine lv_aload hx hb dX5_film_66 (lv_at hl 1 rfl) ?_
                refine lv_iload hx hb dX5_film_68 (lv_at hl 0 rfl) ?_
                refine lv_aload_n hx hb dX5_film_70 rfl (lv_at hl 2 rfl) ?_
                refine va_get (D := xD E) (ci := 5) (v := .ref (a 7)) (C := RX5) (T := TX5) (N := 9) hx hb hts (by decide +kernel) hown hK hP 0 rfl rfl 4 (by decide) (hts (.fieldLink RX5 41 "RailOffsets" "line" "LRailOffsets$Line;") (by decide +kernel)) (fun _ h => h) rfl dX5_film_71 ?_
                refine va_get (D := xD E) (ci := 0) (v := .ref (a 10)) (C := RX0) (T := TX0) (N := 8) hx hb hts (by decide +kernel) hown hK hP 7 rfl rfl 3 (by decide) (hts (.fieldLink RX5 131 "RailOffsets$Line" "versines" "[I") (by decide +kernel)) (fun _ h => h) rfl dX5_film_74 ?_
                refine lv_iload_n hx hb dX5_film_77 rfl (lv_at hl 4 rfl) ?_
                refine lv_iload hx hb dX5_film_78 (lv_at hl 0 rfl) ?_
                refine lv_iadd hx hb dX5_film_80 ?_
                refine xRoS (nL := 6) ⟨hx, hb, hml, hown, hts⟩ (c_X5_cell l E (a 10) 201 (u46.1 10) (p2 + x5)) (va_cwS 2 hts gX5_film_X5_cell rfl rfl rfl hd_X5_cell ⟨(Nat.le_of_ble_eq_true rfl), (Nat.le_of_ble_eq_true rfl)⟩) hF hS hA (hP.sub [10] rfl) rfl hl.1 rfl (Nat.le_of_ble_eq_true rfl) ⟨(Nat.le_of_ble_eq_true rfl), (Nat.le_of_ble_eq_true rfl)⟩ dX5_film_81 ?_
                refine W.eq (g2 := F0 m 84 ls [.int (s_X5_cell 201 (u46.1 10) (p2 + x5)), .int x5, .ref (a 19)]) rfl ?_
                refine xMdV (nL := 6) ⟨hx, hb, hml, hown, hts⟩ (c_X3_write l E (a 19) (a 23) (uS u46 2) x5 (s_X5_cell 201 (u46.1 10) (p2 + x5)) ⟨xnd2 hL.1 (i := 19) (j := 23) rfl rfl (by decide), xsub2 (hL.2 _ (List.mem_of_getElem? (i := 19) rfl)) (hL.2 _ (List.mem_of_getElem? (i := 23) rfl))⟩) (cwV 2 hts gX5_film_X3_write rfl rfl rfl ⟨rfl, hd_X3_write⟩ ⟨(Nat.le_of_ble_eq_true rfl), (Nat.le_of_ble_eq_true rfl)⟩) hF hS hL.2 (xsub2 (List.mem_of_getElem? (i := 19) rfl) (List.mem_of_getElem? (i := 23) rfl)) (hP.sub [19, 23] rfl) (va_recv (q := (RX3, TX3, 3)) hK hP (ci := 3) rfl (q0 := 19) rfl) rfl hl.1 rfl (Nat.le_of_ble_eq_true rfl) ⟨(Nat.le_of_ble_eq_true rfl), (Nat.le_of_ble_eq_true rfl)⟩ dX5_film_84 (fun H1 locs hP1 hk hS => ?_)
                have hP : va_P (xD E) vwCl (wX E a (uP u46 2 (s_X3_write (uS u46 2) x5 (s_X5_cell 201 (u46.1 10) (p2 + x5))))) H1 := xset2 hP (xD_of (ws := wX E a u46) (A := (· ∈ LX a)) hL.1 (fun _ h => h)) (p := 19) (p' := 23) rfl rfl (by decide) hP1 hk
                generalize H1 = H at hP hS ⊢
                refine W.eq (g2 := F0 m 87 ls []) rfl ?_
                refine lv_iinc (k := 0) (v := x5 + 1) (lv' := [(5, .int (x5 + 1)), (4, .ref (a 19)), (0, .ref (a 0)), (1, .int p1), (2, .int p2), (3, .int p3)]) hx hb dX5_film_87 hl rfl rfl (by decide) rfl (fun ls hl => ?_)
                refine lv_goto (tgt := 46) hx hb dX5_film_90 rfl ?_
                exact ih46 (uP u46 2 (s_X3_write (uS u46 2) x5 (s_X5_cell 201 (u46.1 10) (p2 + x5)))) (x5 + 1) _ _ _ (Nat.lt_of_lt_of_le (xupc q12) (Nat.le_of_lt_succ hM46)) hR (lv_sub hl [0, 1, 2, 3, 4, 5] rfl) hP hS
        exact L46 ((p3.toInt - (0 : Int32).toInt).toNat + 1) (uP u 2 (s_X3_become (uS u 2) 0 p3)) 0 _ _ ls (Nat.lt_succ_self _) hR hl hP hS
      · have hR := hR.trans (if_pos q11)
        refine lv_bipush (v := (-2)) hx hb dX5_film_33 rfl ?_
        have hR : s_X5_film u p1 p2 p3 = ((-2), u) := hR
        exact W.iret (v := (-2)) hx hb hr (fun t ht _ => by rw [hR]; dsimp only; exact ⟨⟨rfl, by rw [ht]; exact hP⟩, hS.F ht⟩) hS.2.2 dX5_film_35
  have hR := hR.trans (if_neg t1_2)
  by_cases t1_3 : p1 = 3
  · have hR := hR.trans (if_pos t1_3)
    refine xRoV (nL := 6) ⟨hx, hb, hml, hown, hts⟩ (c_X5_sheetOf l E a u p1 3 (by decide) t1_3) (cwV 1 hts gX5_film_X5_sheetOf rfl rfl rfl ⟨rfl, hd_X5_sheetOf⟩ ⟨(Nat.le_of_ble_eq_true rfl), (Nat.le_of_ble_eq_true rfl)⟩) hF hS hA hP (va_recv (q := (RX5, TX5, 9)) hK hP (ci := 5) rfl (q0 := 0) rfl) rfl hl.1 rfl (Nat.le_of_ble_eq_true rfl) ⟨(Nat.le_of_ble_eq_true rfl), (Nat.le_of_ble_eq_true rfl)⟩ dX5_film_2 ?_
    refine W.eq (g2 := F0 m 5 ls [.ref (a 20)]) rfl ?_
    refine lv_astore (lv' := [(4, .ref (a 20)), (0, .ref (a 0)), (1, .int p1), (2, .int p2), (3, .int p3)]) hx hb dX5_film_5 hl (by decide) rfl (fun ls hl => ?_)
    refine lv_aload hx hb dX5_film_7 (lv_at hl 0 rfl) ?_
    refine lv_ifnull hx hb dX5_film_9 ?_
    refine lv_iload_n hx hb dX5_film_12 rfl (lv_at hl 3 rfl) ?_
    refine lv_iconst (v := 1) hx hb dX5_film_13 rfl ?_
    refine lv_sipush (v := 200) hx hb dX5_film_14 rfl ?_
    refine xRoS (nL := 6) ⟨hx, hb, hml, hown, hts⟩ (c_X5_within l E p2 1 200) (va_cwS 3 hts gX5_film_X5_within rfl rfl rfl hd_X5_within ⟨(Nat.le_of_ble_eq_true rfl), (Nat.le_of_ble_eq_true rfl)⟩) hF hS hA (hP.sub [] rfl) rfl hl.1 rfl (Nat.le_of_ble_eq_true rfl) ⟨(Nat.le_of_ble_eq_true rfl), (Nat.le_of_ble_eq_true rfl)⟩ dX5_film_17 ?_
    refine W.eq (g2 := F0 m 20 ls [.int (s_X5_within p2 1 200)]) rfl ?_
    refine lv_if_eq (tgt := 33) hx hb dX5_film_20 rfl (fun q14 => ?_) (fun q14 => ?_)
    · have hR := hR.trans (if_pos q14)
      refine lv_bipush (v := (-2)) hx hb dX5_film_33 rfl ?_
      have hR : s_X5_film u p1 p2 p3 = ((-2), u) := hR
      exact W.iret (v := (-2)) hx hb hr (fun t ht _ => by rw [hR]; dsimp only; exact ⟨⟨rfl, by rw [ht]; exact hP⟩, hS.F ht⟩) hS.2.2 dX5_film_35
    · have hR := hR.trans (if_neg q14)
      refine lv_iload_n hx hb dX5_film_23 rfl (lv_at hl 4 rfl) ?_
      refine lv_iconst (v := 0) hx hb dX5_film_24 rfl ?_
      refine lv_bipush (v := 40) hx hb dX5_film_25 rfl ?_
      refine xRoS (nL := 6) ⟨hx, hb, hml, hown, hts⟩ (c_X5_within l E p3 0 40) (va_cwS 3 hts gX5_film_X5_within rfl rfl rfl hd_X5_within ⟨(Nat.le_of_ble_eq_true rfl), (Nat.le_of_ble_eq_true rfl)⟩) hF hS hA (hP.sub [] rfl) rfl hl.1 rfl (Nat.le_of_ble_eq_true rfl) ⟨(Nat.le_of_ble_eq_true rfl), (Nat.le_of_ble_eq_true rfl)⟩ dX5_film_27 ?_
      refine W.eq (g2 := F0 m 30 ls [.int (s_X5_within p3 0 40)]) rfl ?_
      refine lv_if_ne (tgt := 36) hx hb dX5_film_30 rfl (fun q15 => ?_) (fun q15 => ?_)
      · have hR := hR.trans (if_neg q15)
        refine lv_aload hx hb dX5_film_36 (lv_at hl 0 rfl) ?_
        refine lv_iconst (v := 0) hx hb dX5_film_38 rfl ?_
        refine lv_iload_n hx hb dX5_film_39 rfl (lv_at hl 4 rfl) ?_
        refine xMdV (nL := 6) ⟨hx, hb, hml, hown, hts⟩ (c_X3_become l E (a 20) (a 24) (uS u 3) 0 p3 ⟨xnd2 hL.1 (i := 20) (j := 24) rfl rfl (by decide), xsub2 (hL.2 _ (List.mem_of_getElem? (i := 20) rfl)) (hL.2 _ (List.mem_of_getElem? (i := 24) rfl))⟩) (cwV 2 hts gX5_film_X3_become rfl rfl rfl ⟨rfl, hd_X3_become⟩ ⟨(Nat.le_of_ble_eq_true rfl), (Nat.le_of_ble_eq_true rfl)⟩) hF hS hL.2 (xsub2 (List.mem_of_getElem? (i := 20) rfl) (List.mem_of_getElem? (i := 24) rfl)) (hP.sub [20, 24] rfl) (va_recv (q := (RX3, TX3, 3)) hK hP (ci := 3) rfl (q0 := 20) rfl) rfl hl.1 rfl (Nat.le_of_ble_eq_true rfl) ⟨(Nat.le_of_ble_eq_true rfl), (Nat.le_of_ble_eq_true rfl)⟩ dX5_film_40 (fun H1 locs hP1 hk hS => ?_)
        have hP : va_P (xD E) vwCl (wX E a (uP u 3 (s_X3_become (uS u 3) 0 p3))) H1 := xset2 hP (xD_of (ws := wX E a u) (A := (· ∈ LX a)) hL.1 (fun _ h => h)) (p := 20) (p' := 24) rfl rfl (by decide) hP1 hk
        generalize H1 = H at hP hS ⊢
        refine W.eq (g2 := F0 m 43 ls []) rfl ?_
        refine lv_iconst (v := 0) hx hb dX5_film_43 rfl ?_
        refine lv_istore (lv' := [(5, .int 0), (4, .ref (a 20)), (0, .ref (a 0)), (1, .int p1), (2, .int p2), (3, .int p3)]) hx hb dX5_film_44 hl (by decide) rfl (fun ls hl => ?_)
        have L46 : ∀ (n46 : Nat) (u46 : xU) (x5 : Int32) (H : Heap) (locs : List Loc) (ls : Array Slot), (p3.toInt - x5.toInt).toNat < n46 → s_X5_film u p1 p2 p3 = s_X5_film_L46_3 n46 u46 p1 p2 p3 x5 → lv_has ls 6 [(5, .int x5), (4, .ref (a 20)), (0, .ref (a 0)), (1, .int p1), (2, .int p2), (3, .int p3)] → va_P (xD E) vwCl (wX E a u46) H → va_S (· ∈ LX a) s.heap H locs → W p l e rm_X5_film s m ([.ref (a 0), .int p1, .int p2, .int p3] : List Value).toArray below meth c H locs 0 0 (xQmd E below (LX a) (some (.int ((s_X5_film u p1 p2 p3).1))) (wX E a ((s_X5_film u p1 p2 p3).2)) ([.ref (a 0), .int p1, .int p2, .int p3] : List Value).toArray s) (F0 m 46 ls []) := by
          intro n46
          induction n46 with
          | zero => intro u46 x5 H locs ls hM46 hR hl hP hS; exact absurd hM46 (Nat.not_lt_zero _)
          | succ n46 ih46 =>
            intro u46 x5 H locs ls hM46 hR hl hP hS
            refine lv_iload hx hb dX5_film_46 (lv_at hl 0 rfl) ?_
            refine lv_iload_n hx hb dX5_film_48 rfl (lv_at hl 5 rfl) ?_
            refine lv_icmp_ge (tgt := 93) hx hb dX5_film_49 rfl (fun q16 => ?_) (fun q16 => ?_)
            · have hR := hR.trans (if_pos q16)
              refine lv_iload_n hx hb dX5_film_93 rfl (lv_at hl 5 rfl) ?_
              have hR : s_X5_film u p1 p2 p3 = (p3, u46) := hR
              exact W.iret (v := p3) hx hb hr (fun t ht _ => by rw [hR]; dsimp only; exact ⟨⟨rfl, by rw [ht]; exact hP⟩, hS.F ht⟩) hS.2.2 dX5_film_94
            · have hR := hR.trans (if_neg q16)
              refine lv_iload_n hx hb dX5_film_52 rfl (lv_at hl 4 rfl) ?_
              refine lv_iload hx hb dX5_film_53 (lv_at hl 0 rfl) ?_
              refine lv_iadd hx hb dX5_film_55 ?_
              refine lv_aload_n hx hb dX5_film_56 rfl (lv_at hl 2 rfl) ?_
              refine va_get (D := xD E) (ci := 5) (v := .ref (a 7)) (C := RX5) (T := TX5) (N := 9) hx hb hts (by decide +kernel) hown hK hP 0 rfl rfl 4 (by decide) (hts (.fieldLink RX5 41 "RailOffsets" "line" "LRailOffsets$Line;") (by decide +kernel)) (fun _ h => h) rfl dX5_film_57 ?_
              refine va_get (D := xD E) (ci := 0) (v := .int (u46.2 3)) (C := RX0) (T := TX0) (N := 8) hx hb hts (by decide +kernel) hown hK hP 7 rfl rfl 7 (by decide) (hts (.fieldLink RX5 128 "RailOffsets$Line" "stations" "I") (by decide +kernel)) (fun _ h => h) rfl dX5_film_60 ?_
              refine lv_icmp_gt (tgt := 87) hx hb dX5_film_63 rfl (fun q17 => ?_) (fun q17 => ?_)
              · have hR := hR.trans (if_pos q17)
                refine lv_iinc (k := 0) (v := x5 + 1) (lv' := [(5, .int (x5 + 1)), (4, .ref (a 20)), (0, .ref (a 0)), (1, .int p1), (2, .int p2), (3, .int p3)]) hx hb dX5_film_87 hl rfl rfl (by decide) rfl (fun ls hl => ?_)
                refine lv_goto (tgt := 46) hx hb dX5_film_90 rfl ?_
                exact ih46 u46 (x5 + 1) _ _ _ (Nat.lt_of_lt_of_le (xupc q16) (Nat.le_of_lt_succ hM46)) hR (lv_sub hl [0, 1, 2, 3, 4, 5] rfl) hP hS
              · have hR := hR.trans (if_neg q17)
                refine lv_aload hx hb dX5_film_66 (lv_at hl 1 rfl) ?_
                refine lv_iload hx hb dX5_film_68 (lv_at hl 0 rfl) ?_
                refine lv_aload_n hx hb dX5_film_70 rfl (lv_at hl 2 rfl) ?_
                refine va_get (D := xD E) (ci := 5) (v := .ref (a 7)) (C := RX5) (T := TX5) (N := 9) hx hb hts (by decide +kernel) hown hK hP 0 rfl rfl 4 (by decide) (hts (.fieldLink RX5 41 "RailOffsets" "line" "LRailOffsets$Line;") (by decide +kernel)) (fun _ h => h) rfl dX5_film_71 ?_
                refine va_get (D := xD E) (ci := 0) (v := .ref (a 10)) (C := RX0) (T := TX0) (N := 8) hx hb hts (by decide +kernel) hown hK hP 7 rfl rfl 3 (by decide) (hts (.fieldLink RX5 131 "RailOffsets$Line" "versines" "[I") (by decide +kernel)) (fun _ h => h) rfl dX5_film_74 ?_
                refine lv_iload_n hx hb dX5_film_77 rfl (lv_at hl 4 rfl) ?_
                refine lv_iload hx hb dX5_film_78 (lv_at hl 0 rfl) ?_
                refine lv_iadd hx hb dX5_film_80 ?_
                refine xRoS (nL := 6) ⟨hx, hb, hml, hown, hts⟩ (c_X5_cell l E (a 10) 201 (u46.1 10) (p2 + x5)) (va_cwS 2 hts gX5_film_X5_cell rfl rfl rfl hd_X5_cell ⟨(Nat.le_of_ble_eq_true rfl), (Nat.le_of_ble_eq_true rfl)⟩) hF hS hA (hP.sub [10] rfl) rfl hl.1 rfl (Nat.le_of_ble_eq_true rfl) ⟨(Nat.le_of_ble_eq_true rfl), (Nat.le_of_ble_eq_true rfl)⟩ dX5_film_81 ?_
                refine W.eq (g2 := F0 m 84 ls [.int (s_X5_cell 201 (u46.1 10) (p2 + x5)), .int x5, .ref (a 20)]) rfl ?_
                refine xMdV (nL := 6) ⟨hx, hb, hml, hown, hts⟩ (c_X3_write l E (a 20) (a 24) (uS u46 3) x5 (s_X5_cell 201 (u46.1 10) (p2 + x5)) ⟨xnd2 hL.1 (i := 20) (j := 24) rfl rfl (by decide), xsub2 (hL.2 _ (List.mem_of_getElem? (i := 20) rfl)) (hL.2 _ (List.mem_of_getElem? (i := 24) rfl))⟩) (cwV 2 hts gX5_film_X3_write rfl rfl rfl ⟨rfl, hd_X3_write⟩ ⟨(Nat.le_of_ble_eq_true rfl), (Nat.le_of_ble_eq_true rfl)⟩) hF hS hL.2 (xsub2 (List.mem_of_getElem? (i := 20) rfl) (List.mem_of_getElem? (i := 24) rfl)) (hP.sub [20, 24] rfl) (va_recv (q := (RX3, TX3, 3)) hK hP (ci := 3) rfl (q0 := 20) rfl) rfl hl.1 rfl (Nat.le_of_ble_eq_true rfl) ⟨(Nat.le_of_ble_eq_true rfl), (Nat.le_of_ble_eq_true rfl)⟩ dX5_film_84 (fun H1 locs hP1 hk hS => ?_)
                have hP : va_P (xD E) vwCl (wX E a (uP u46 3 (s_X3_write (uS u46 3) x5 (s_X5_cell 201 (u46.1 10) (p2 + x5))))) H1 := xset2 hP (xD_of (ws := wX E a u46) (A := (· ∈ LX a)) hL.1 (fun _ h => h)) (p := 20) (p' := 24) rfl rfl (by decide) hP1 hk
                generalize H1 = H at hP hS ⊢
                refine W.eq (g2 := F0 m 87 ls []) rfl ?_
                refine lv_iinc (k := 0) (v := x5 + 1) (lv' := [(5, .int (x5 + 1)), (4, .ref (a 20)), (0, .ref (a 0)), (1, .int p1), (2, .int p2), (3, .int p3)]) hx hb dX5_film_87 hl rfl rfl (by decide) rfl (fun ls hl => ?_)
                refine lv_goto (tgt := 46) hx hb dX5_film_90 rfl ?_
                exact ih46 (uP u46 3 (s_X3_write (uS u46 3) x5 (s_X5_cell 201 (u46.1 10) (p2 + x5)))) (x5 + 1) _ _ _ (Nat.lt_of_lt_of_le (xupc q16) (Nat.le_of_lt_succ hM46)) hR (lv_sub hl [0, 1, 2, 3, 4, 5] rfl) hP hS
        exact L46 ((p3.toInt - (0 : Int32).toInt).toNat + 1) (uP u 3 (s_X3_become (uS u 3) 0 p3)) 0 _ _ ls (Nat.lt_succ_self _) hR hl hP hS
      · have hR := hR.trans (if_pos q15)
        refine lv_bipush (v := (-2)) hx hb dX5_film_33 rfl ?_
        have hR : s_X5_film u p1 p2 p3 = ((-2), u) := hR
        exact W.iret (v := (-2)) hx hb hr (fun t ht _ => by rw [hR]; dsimp only; exact ⟨⟨rfl, by rw [ht]; exact hP⟩, hS.F ht⟩) hS.2.2 dX5_film_35
  have hR := hR.trans (if_neg t1_3)
  refine xRoV (nL := 6) ⟨hx, hb, hml, hown, hts⟩ (c_X5_sheetOf_n l E a u p1 t1_0 t1_1 t1_2 t1_3) (cwV 1 hts gX5_film_X5_sheetOf rfl rfl rfl ⟨rfl, hd_X5_sheetOf⟩ ⟨(Nat.le_of_ble_eq_true rfl), (Nat.le_of_ble_eq_true rfl)⟩) hF hS hA hP (va_recv (q := (RX5, TX5, 9)) hK hP (ci := 5) rfl (q0 := 0) rfl) rfl hl.1 rfl (Nat.le_of_ble_eq_true rfl) ⟨(Nat.le_of_ble_eq_true rfl), (Nat.le_of_ble_eq_true rfl)⟩ dX5_film_2 ?_
  refine W.eq (g2 := F0 m 5 ls [.null]) rfl ?_
  refine lv_astoreN (lv' := [(4, .null), (0, .ref (a 0)), (1, .int p1), (2, .int p2), (3, .int p3)]) hx hb dX5_film_5 hl (by decide) rfl (fun ls hl => ?_)
  refine lv_aloadN hx hb dX5_film_7 (lv_at hl 0 rfl) ?_
  refine lv_ifnullN (tgt := 33) hx hb dX5_film_9 rfl ?_
  refine lv_bipush (v := (-2)) hx hb dX5_film_33 rfl ?_
  have hR : s_X5_film u p1 p2 p3 = ((-2), u) := hR
  exact W.iret (v := (-2)) hx hb hr (fun t ht _ => by rw [hR]; dsimp only; exact ⟨⟨rfl, by rw [ht]; exact hP⟩, hS.F ht⟩) hS.2.2 dX5_film_35
def s_X5_feed_L70 : Nat → xU → Int32 → Int32 → Int32 → Int32 → Int32 → Int32 → Int32 → Int32 × xU
  | 0, u, _, _, _, _, _, _, _ => (0, u)
  | n + 1, u, x1, x2, x3, x4, x5, x6, x7 =>
    if x1 ≤ x7 then
      (u.2 12, u)
    else
      if x7 = 0 then
        s_X5_feed_L70 n (s_X4_append u x2) x1 x2 x3 x4 x5 x6 (x7 + 1)
      else
        if x7 = 1 then
          s_X5_feed_L70 n (s_X4_append u x3) x1 x2 x3 x4 x5 x6 (x7 + 1)
        else
          if x7 = 2 then
            s_X5_feed_L70 n (s_X4_append u x4) x1 x2 x3 x4 x5 x6 (x7 + 1)
          else
            if x7 = 3 then
              s_X5_feed_L70 n (s_X4_append u x5) x1 x2 x3 x4 x5 x6 (x7 + 1)
            else
              s_X5_feed_L70 n (s_X4_append u x6) x1 x2 x3 x4 x5 x6 (x7 + 1)
def s_X5_feed (u : xU) (p1 : Int32) (p2 : Int32) (p3 : Int32) (p4 : Int32) (p5 : Int32) (p6 : Int32) : Int32 × xU :=
  if (s_X5_within p1 1 5) = 0 then
    ((-2), u)
  else
    if (s_X5_isByte p2) = 0 then
      ((-2), u)
    else
      if (s_X5_isByte p3) = 0 then
        ((-2), u)
      else
        if (s_X5_isByte p4) = 0 then
          ((-2), u)
        else
          if (s_X5_isByte p5) = 0 then
            ((-2), u)
          else
            if (s_X5_isByte p6) = 0 then
              ((-2), u)
            else
              if ((u.2 12) + p1) ≤ 60 then
                s_X5_feed_L70 ((p1.toInt - (0 : Int32).toInt).toNat + 1) u p1 p2 p3 p4 p5 p6 0
              else
                ((-4), u)
abbrev rm_X5_feed : Room := { frames := 2, cells := 0, slots := 0, locals := 43 }
set_option maxHeartbeats 8000000 in
set_option maxRecDepth 100000 in
theorem c_X5_feed (l : Launch) (E : xG) (a : Nat → Nat) (u : xU) (p1 : Int32) (p2 : Int32) (p3 : Int32) (p4 : Int32) (p5 : Int32) (p6 : Int32) (hL : xOK E (LX a)) : xMd l E yX5_feed wsX5_feed rm_X5_feed (LX a) [.ref (a 0), .int p1, .int p2, .int p3, .int p4, .int p5, .int p6] (wX E a u) (some (.int ((s_X5_feed u p1 p2 p3 p4 p5 p6).1))) (wX E a ((s_X5_feed u p1 p2 p3 p4 p5 p6).2)) := by
  refine xMd.of (cc := cX5_feed) (maxL := 8) (ret := (some .int)) (by decide) rfl (Nat.le_of_ble_eq_true rfl) ?_
  intro p e s m below meth c ls hAt hF hP hS hl
  obtain ⟨hx, hb, hr, hml, hown, hts, hlocks, -⟩ := hAt
  have hown : s.vm.findClass RX5 = some m.cls := hown
  have hl : lv_has ls 8 [(0, .ref (a 0)), (1, .int p1), (2, .int p2), (3, .int p3), (4, .int p4), (5, .int p5), (6, .int p6)] := hl
  have hK := hF.1
  have hA := hL.2
  change W p l e rm_X5_feed s m ([.ref (a 0), .int p1, .int p2, .int p3, .int p4, .int p5, .int p6] : List Value).toArray below meth c s.heap [] 0 0 (xQmd E below (LX a) (some (.int ((s_X5_feed u p1 p2 p3 p4 p5 p6).1))) (wX E a ((s_X5_feed u p1 p2 p3 p4 p5 p6).2)) ([.ref (a 0), .int p1, .int p2, .int p3, .int p4, .int p5, .int p6] : List Value).toArray s) _
  have hS : va_S (· ∈ LX a) s.heap s.heap [] := hS
  have hR : s_X5_feed u p1 p2 p3 p4 p5 p6 = s_X5_feed u p1 p2 p3 p4 p5 p6 := rfl
  refine lv_iload_n hx hb dX5_feed_0 rfl (lv_at hl 1 rfl) ?_
  refine lv_iconst (v := 1) hx hb dX5_feed_1 rfl ?_
  refine lv_iconst (v := 5) hx hb dX5_feed_2 rfl ?_
  refine xRoS (nL := 8) ⟨hx, hb, hml, hown, hts⟩ (c_X5_within l E p1 1 5) (va_cwS 3 hts gX5_feed_X5_within rfl rfl rfl hd_X5_within ⟨(Nat.le_of_ble_eq_true rfl), (Nat.le_of_ble_eq_true rfl)⟩) hF hS hA (hP.sub [] rfl) rfl hl.1 rfl (Nat.le_of_ble_eq_true rfl) ⟨(Nat.le_of_ble_eq_true rfl), (Nat.le_of_ble_eq_true rfl)⟩ dX5_feed_3 ?_
  refine W.eq (g2 := F0 m 6 ls [.int (s_X5_within p1 1 5)]) rfl ?_
  refine lv_if_eq (tgt := 47) hx hb dX5_feed_6 rfl (fun q1 => ?_) (fun q1 => ?_)
  · have hR := hR.trans (if_pos q1)
    refine lv_bipush (v := (-2)) hx hb dX5_feed_47 rfl ?_
    have hR : s_X5_feed u p1 p2 p3 p4 p5 p6 = ((-2), u) := hR
    exact W.iret (v := (-2)) hx hb hr (fun t ht _ => by rw [hR]; dsimp only; exact ⟨⟨rfl, by rw [ht]; exact hP⟩, hS.F ht⟩) hS.2.2 dX5_feed_49
  · have hR := hR.trans (if_neg q1)
    refine lv_iload_n hx hb dX5_feed_9 rfl (lv_at hl 2 rfl) ?_
    refine xRoS (nL := 8) ⟨hx, hb, hml, hown, hts⟩ (c_X5_isByte l E p2) (va_cwS 1 hts gX5_feed_X5_isByte rfl rfl rfl hd_X5_isByte ⟨(Nat.le_of_ble_eq_true rfl), (Nat.le_of_ble_eq_true rfl)⟩) hF hS hA (hP.sub [] rfl) rfl hl.1 rfl (Nat.le_of_ble_eq_true rfl) ⟨(Nat.le_of_ble_eq_true rfl), (Nat.le_of_ble_eq_true rfl)⟩ dX5_feed_10 ?_
    refine W.eq (g2 := F0 m 13 ls [.int (s_X5_isByte p2)]) rfl ?_
    refine lv_if_eq (tgt := 47) hx hb dX5_feed_13 rfl (fun q2 => ?_) (fun q2 => ?_)
    · have hR := hR.trans (if_pos q2)
      refine lv_bipush (v := (-2)) hx hb dX5_feed_47 rfl ?_
      have hR : s_X5_feed u p1 p2 p3 p4 p5 p6 = ((-2), u) := hR
      exact W.iret (v := (-2)) hx hb hr (fun t ht _ => by rw [hR]; dsimp only; exact ⟨⟨rfl, by rw [ht]; exact hP⟩, hS.F ht⟩) hS.2.2 dX5_feed_49
    · have hR := hR.trans (if_neg q2)
      refine lv_iload_n hx hb dX5_feed_16 rfl (lv_at hl 3 rfl) ?_
      refine xRoS (nL := 8) ⟨hx, hb, hml, hown, hts⟩ (c_X5_isByte l E p3) (va_cwS 1 hts gX5_feed_X5_isByte rfl rfl rfl hd_X5_isByte ⟨(Nat.le_of_ble_eq_true rfl), (Nat.le_of_ble_eq_true rfl)⟩) hF hS hA (hP.sub [] rfl) rfl hl.1 rfl (Nat.le_of_ble_eq_true rfl) ⟨(Nat.le_of_ble_eq_true rfl), (Nat.le_of_ble_eq_true rfl)⟩ dX5_feed_17 ?_
      refine W.eq (g2 := F0 m 20 ls [.int (s_X5_isByte p3)]) rfl ?_
      refine lv_if_eq (tgt := 47) hx hb dX5_feed_20 rfl (fun q3 => ?_) (fun q3 => ?_)
      · have hR := hR.trans (if_pos q3)
        refine lv_bipush (v := (-2)) hx hb dX5_feed_47 rfl ?_
        have hR : s_X5_feed u p1 p2 p3 p4 p5 p6 = ((-2), u) := hR
        exact W.iret (v := (-2)) hx hb hr (fun t ht _ => by rw [hR]; dsimp only; exact ⟨⟨rfl, by rw [ht]; exact hP⟩, hS.F ht⟩) hS.2.2 dX5_feed_49
      · have hR := hR.trans (if_neg q3)
        refine lv_iload hx hb dX5_feed_23 (lv_at hl 4 rfl) ?_
        refine xRoS (nL := 8) ⟨hx, hb, hml, hown, hts⟩ (c_X5_isByte l E p4) (va_cwS 1 hts gX5_feed_X5_isByte rfl rfl rfl hd_X5_isByte ⟨(Nat.le_of_ble_eq_true rfl), (Nat.le_of_ble_eq_true rfl)⟩) hF hS hA (hP.sub [] rfl) rfl hl.1 rfl (Nat.le_of_ble_eq_true rfl) ⟨(Nat.le_of_ble_eq_true rfl), (Nat.le_of_ble_eq_true rfl)⟩ dX5_feed_25 ?_
        refine W.eq (g2 := F0 m 28 ls [.int (s_X5_isByte p4)]) rfl ?_
        refine lv_if_eq (tgt := 47) hx hb dX5_feed_28 rfl (fun q4 => ?_) (fun q4 => ?_)
        · have hR := hR.trans (if_pos q4)
          refine lv_bipush (v := (-2)) hx hb dX5_feed_47 rfl ?_
          have hR : s_X5_feed u p1 p2 p3 p4 p5 p6 = ((-2), u) := hR
          exact W.iret (v := (-2)) hx hb hr (fun t ht _ => by rw [hR]; dsimp only; exact ⟨⟨rfl, by rw [ht]; exact hP⟩, hS.F ht⟩) hS.2.2 dX5_feed_49
        · have hR := hR.trans (if_neg q4)
          refine lv_iload hx hb dX5_feed_31 (lv_at hl 5 rfl) ?_
          refine xRoS (nL := 8) ⟨hx, hb, hml, hown, hts⟩ (c_X5_isByte l E p5) (va_cwS 1 hts gX5_feed_X5_isByte rfl rfl rfl hd_X5_isByte ⟨(Nat.le_of_ble_eq_true rfl), (Nat.le_of_ble_eq_true rfl)⟩) hF hS hA (hP.sub [] rfl) rfl hl.1 rfl (Nat.le_of_ble_eq_true rfl) ⟨(Nat.le_of_ble_eq_true rfl), (Nat.le_of_ble_eq_true rfl)⟩ dX5_feed_33 ?_
          refine W.eq (g2 := F0 m 36 ls [.int (s_X5_isByte p5)]) rfl ?_
          refine lv_if_eq (tgt := 47) hx hb dX5_feed_36 rfl (fun q5 => ?_) (fun q5 => ?_)
          · have hR := hR.trans (if_pos q5)
            refine lv_bipush (v := (-2)) hx hb dX5_feed_47 rfl ?_
            have hR : s_X5_feed u p1 p2 p3 p4 p5 p6 = ((-2), u) := hR
            exact W.iret (v := (-2)) hx hb hr (fun t ht _ => by rw [hR]; dsimp only; exact ⟨⟨rfl, by rw [ht]; exact hP⟩, hS.F ht⟩) hS.2.2 dX5_feed_49
          · have hR := hR.trans (if_neg q5)
            refine lv_iload hx hb dX5_feed_39 (lv_at hl 6 rfl) ?_
            refine xRoS (nL := 8) ⟨hx, hb, hml, hown, hts⟩ (c_X5_isByte l E p6) (va_cwS 1 hts gX5_feed_X5_isByte rfl rfl rfl hd_X5_isByte ⟨(Nat.le_of_ble_eq_true rfl), (Nat.le_of_ble_eq_true rfl)⟩) hF hS hA (hP.sub [] rfl) rfl hl.1 rfl (Nat.le_of_ble_eq_true rfl) ⟨(Nat.le_of_ble_eq_true rfl), (Nat.le_of_ble_eq_true rfl)⟩ dX5_feed_41 ?_
            refine W.eq (g2 := F0 m 44 ls [.int (s_X5_isByte p6)]) rfl ?_
            refine lv_if_ne (tgt := 50) hx hb dX5_feed_44 rfl (fun q6 => ?_) (fun q6 => ?_)
            · have hR := hR.trans (if_neg q6)
              refine lv_aload_n hx hb dX5_feed_50 rfl (lv_at hl 0 rfl) ?_
              refine va_get (D := xD E) (ci := 5) (v := .ref (a 25)) (C := RX5) (T := TX5) (N := 9) hx hb hts (by decide +kernel) hown hK hP 0 rfl rfl 7 (by decide) (hts (.fieldLink RX5 64 "RailOffsets" "tape" "LRailOffsets$Tape;") (by decide +kernel)) (fun _ h => h) rfl dX5_feed_51 ?_
              refine va_get (D := xD E) (ci := 4) (v := .int (u.2 12)) (C := RX4) (T := TX4) (N := 9) hx hb hts (by decide +kernel) hown hK hP 25 rfl rfl 3 (by decide) (hts (.fieldLink RX5 281 "RailOffsets$Tape" "size" "I") (by decide +kernel)) (fun _ h => h) rfl dX5_feed_54 ?_
              refine lv_iload_n hx hb dX5_feed_57 rfl (lv_at hl 1 rfl) ?_
              refine lv_iadd hx hb dX5_feed_58 ?_
              refine lv_bipush (v := 60) hx hb dX5_feed_59 rfl ?_
              refine lv_icmp_le (tgt := 67) hx hb dX5_feed_61 rfl (fun q7 => ?_) (fun q7 => ?_)
              · have hR := hR.trans (if_pos q7)
                refine lv_iconst (v := 0) hx hb dX5_feed_67 rfl ?_
                refine lv_istore (lv' := [(7, .int 0), (0, .ref (a 0)), (1, .int p1), (2, .int p2), (3, .int p3), (4, .int p4), (5, .int p5), (6, .int p6)]) hx hb dX5_feed_68 hl (by decide) rfl (fun ls hl => ?_)
                have L70 : ∀ (n70 : Nat) (u70 : xU) (x7 : Int32) (H : Heap) (locs : List Loc) (ls : Array Slot), (p1.toInt - x7.toInt).toNat < n70 → s_X5_feed u p1 p2 p3 p4 p5 p6 = s_X5_feed_L70 n70 u70 p1 p2 p3 p4 p5 p6 x7 → lv_has ls 8 [(7, .int x7), (0, .ref (a 0)), (1, .int p1), (2, .int p2), (3, .int p3), (4, .int p4), (5, .int p5), (6, .int p6)] → va_P (xD E) vwCl (wX E a u70) H → va_S (· ∈ LX a) s.heap H locs → W p l e rm_X5_feed s m ([.ref (a 0), .int p1, .int p2, .int p3, .int p4, .int p5, .int p6] : List Value).toArray below meth c H locs 0 0 (xQmd E below (LX a) (some (.int ((s_X5_feed u p1 p2 p3 p4 p5 p6).1))) (wX E a ((s_X5_feed u p1 p2 p3 p4 p5 p6).2)) ([.ref (a 0), .int p1, .int p2, .int p3, .int p4, .int p5, .int p6] : List Value).toArray s) (F0 m 70 ls []) := by
                  intro n70
                  induction n70 with
                  | zero => intro u70 x7 H locs ls hM70 hR hl hP hS; exact absurd hM70 (Nat.not_lt_zero _)
                  | succ n70 ih70 =>
                    intro u70 x7 H locs ls hM70 hR hl hP hS
                    refine lv_iload hx hb dX5_feed_70 (lv_at hl 0 rfl) ?_
                    refine lv_iload_n hx hb dX5_feed_72 rfl (lv_at hl 2 rfl) ?_
                    refine lv_icmp_ge (tgt := 132) hx hb dX5_feed_73 rfl (fun q8 => ?_) (fun q8 => ?_)
                    · have hR := hR.trans (if_pos q8)
                      refine lv_aload_n hx hb dX5_feed_132 rfl (lv_at hl 1 rfl) ?_
                      refine va_get (D := xD E) (ci := 5) (v := .ref (a 25)) (C := RX5) (T := TX5) (N := 9) hx hb hts (by decide +kernel) hown hK hP 0 rfl rfl 7 (by decide) (hts (.fieldLink RX5 64 "RailOffsets" "tape" "LRailOffsets$Tape;") (by decide +kernel)) (fun _ h => h) rfl dX5_feed_133 ?_
                      refine va_get (D := xD E) (ci := 4) (v := .int (u70.2 12)) (C := RX4) (T := TX4) (N := 9) hx hb hts (by decide +kernel) hown hK hP 25 rfl rfl 3 (by decide) (hts (.fieldLink RX5 281 "RailOffsets$Tape" "size" "I") (by decide +kernel)) (fun _ h => h) rfl dX5_feed_136 ?_
                      have hR : s_X5_feed u p1 p2 p3 p4 p5 p6 = (u70.2 12, u70) := hR
                      exact W.iret (v := u70.2 12) hx hb hr (fun t ht _ => by rw [hR]; dsimp only; exact ⟨⟨rfl, by rw [ht]; exact hP⟩, hS.F ht⟩) hS.2.2 dX5_feed_139
                    · have hR := hR.trans (if_neg q8)
                      refine lv_aload_n hx hb dX5_feed_76 rfl (lv_at hl 1 rfl) ?_
                      refine va_get (D := xD E) (ci := 5) (v := .ref (a 25)) (C := RX5) (T := TX5) (N := 9) hx hb hts (by decide +kernel) hown hK hP 0 rfl rfl 7 (by decide) (hts (.fieldLink RX5 64 "RailOffsets" "tape" "LRailOffsets$Tape;") (by decide +kernel)) (fun _ h => h) rfl dX5_feed_77 ?_
                      refine lv_iload hx hb dX5_feed_80 (lv_at hl 0 rfl) ?_
                      refine lv_if_ne (tgt := 89) hx hb dX5_feed_82 rfl (fun q9 => ?_) (fun q9 => ?_)
                      · have hR := hR.trans (if_neg q9)
                        refine lv_iload hx hb dX5_feed_89 (lv_at hl 0 rfl) ?_
                        refine lv_iconst (v := 1) hx hb dX5_feed_91 rfl ?_
                        refine lv_icmp_ne (tgt := 99) hx hb dX5_feed_92 rfl (fun q10 => ?_) (fun q10 => ?_)
                        · have hR := hR.trans (if_neg q10)
                          refine lv_iload hx hb dX5_feed_99 (lv_at hl 0 rfl) ?_
                          refine lv_iconst (v := 2) hx hb dX5_feed_101 rfl ?_
                          refine lv_icmp_ne (tgt := 110) hx hb dX5_feed_102 rfl (fun q11 => ?_) (fun q11 => ?_)
                          · have hR := hR.trans (if_neg q11)
                            refine lv_iload hx hb dX5_feed_110 (lv_at hl 0 rfl) ?_
                            refine lv_iconst (v := 3) hx hb dX5_feed_112 rfl ?_
                            refine lv_icmp_ne (tgt := 121) hx hb dX5_feed_113 rfl (fun q12 => ?_) (fun q12 => ?_)
                            · have hR := hR.trans (if_neg q12)
                              refine lv_iload hx hb dX5_feed_121 (lv_at hl 7 rfl) ?_
                              refine xMdV (nL := 8) ⟨hx, hb, hml, hown, hts⟩ (c_X4_append l E a u70 p6 hL) (cwV 1 hts gX5_feed_X4_append rfl rfl rfl ⟨rfl, hd_X4_append⟩ ⟨(Nat.le_of_ble_eq_true rfl), (Nat.le_of_ble_eq_true rfl)⟩) hF hS hL.2 (fun _ h => h) hP (va_recv (q := (RX4, TX4, 9)) hK hP (ci := 4) rfl (q0 := 25) rfl) rfl hl.1 rfl (Nat.le_of_ble_eq_true rfl) ⟨(Nat.le_of_ble_eq_true rfl), (Nat.le_of_ble_eq_true rfl)⟩ dX5_feed_123 (fun H locs hP _ hS => ?_)
                              refine W.eq (g2 := F0 m 126 ls []) rfl ?_
                              refine lv_iinc (k := 0) (v := x7 + 1) (lv' := [(7, .int (x7 + 1)), (0, .ref (a 0)), (1, .int p1), (2, .int p2), (3, .int p3), (4, .int p4), (5, .int p5), (6, .int p6)]) hx hb dX5_feed_126 hl rfl rfl (by decide) rfl (fun ls hl => ?_)
                              refine lv_goto (tgt := 70) hx hb dX5_feed_129 rfl ?_
                              exact ih70 (s_X4_append u70 p6) (x7 + 1) _ _ _ (Nat.lt_of_lt_of_le (xupc q8) (Nat.le_of_lt_succ hM70)) hR (lv_sub hl [0, 1, 2, 3, 4, 5, 6, 7] rfl) hP hS
                            · have hR := hR.trans (if_pos q12)
                              refine lv_iload hx hb dX5_feed_116 (lv_at hl 6 rfl) ?_
                              refine lv_goto (tgt := 123) hx hb dX5_feed_118 rfl ?_
                              refine xMdV (nL := 8) ⟨hx, hb, hml, hown, hts⟩ (c_X4_append l E a u70 p5 hL) (cwV 1 hts gX5_feed_X4_append rfl rfl rfl ⟨rfl, hd_X4_append⟩ ⟨(Nat.le_of_ble_eq_true rfl), (Nat.le_of_ble_eq_true rfl)⟩) hF hS hL.2 (fun _ h => h) hP (va_recv (q := (RX4, TX4, 9)) hK hP (ci := 4) rfl (q0 := 25) rfl) rfl hl.1 rfl (Nat.le_of_ble_eq_true rfl) ⟨(Nat.le_of_ble_eq_true rfl), (Nat.le_of_ble_eq_true rfl)⟩ dX5_feed_123 (fun H locs hP _ hS => ?_)
                              refine W.eq (g2 := F0 m 126 ls []) rfl ?_
                              refine lv_iinc (k := 0) (v := x7 + 1) (lv' := [(7, .int (x7 + 1)), (0, .ref (a 0)), (1, .int p1), (2, .int p2), (3, .int p3), (4, .int p4), (5, .int p5), (6, .int p6)]) hx hb dX5_feed_126 hl rfl rfl (by decide) rfl (fun ls hl => ?_)
                              refine lv_goto (tgt := 70) hx hb dX5_feed_129 rfl ?_
                              exact ih70 (s_X4_append u70 p5) (x7 + 1) _ _ _ (Nat.lt_of_lt_of_le (xupc q8) (Nat.le_of_lt_succ hM70)) hR (lv_sub hl [0, 1, 2, 3, 4, 5, 6, 7] rfl) hP hS
                          · have hR := hR.trans (if_pos q11)
                            refine lv_iload hx hb dX5_feed_105 (lv_at hl 5 rfl) ?_
                            refine lv_goto (tgt := 123) hx hb dX5_feed_107 rfl ?_
                            refine xMdV (nL := 8) ⟨hx, hb, hml, hown, hts⟩ (c_X4_append l E a u70 p4 hL) (cwV 1 hts gX5_feed_X4_append rfl rfl rfl ⟨rfl, hd_X4_append⟩ ⟨(Nat.le_of_ble_eq_true rfl), (Nat.le_of_ble_eq_true rfl)⟩) hF hS hL.2 (fun _ h => h) hP (va_recv (q := (RX4, TX4, 9)) hK hP (ci := 4) rfl (q0 := 25) rfl) rfl hl.1 rfl (Nat.le_of_ble_eq_true rfl) ⟨(Nat.le_of_ble_eq_true rfl), (Nat.le_of_ble_eq_true rfl)⟩ dX5_feed_123 (fun H locs hP _ hS => ?_)
                            refine W.eq (g2 := F0 m 126 ls []) rfl ?_
                            refine lv_iinc (k := 0) (v := x7 + 1) (lv' := [(7, .int (x7 + 1)), (0, .ref (a 0)), (1, .int p1), (2, .int p2), (3, .int p3), (4, .int p4), (5, .int p5), (6, .int p6)]) hx hb dX5_feed_126 hl rfl rfl (by decide) rfl (fun ls hl => ?_)
                            refine lv_goto (tgt := 70) hx hb dX5_feed_129 rfl ?_
                            exact ih70 (s_X4_append u70 p4) (x7 + 1) _ _ _ (Nat.lt_of_lt_of_le (xupc q8) (Nat.le_of_lt_succ hM70)) hR (lv_sub hl [0, 1, 2, 3, 4, 5, 6, 7] rfl) hP hS
                        · have hR := hR.trans (if_pos q10)
                          refine lv_iload_n hx hb dX5_feed_95 rfl (lv_at hl 4 rfl) ?_
                          refine lv_goto (tgt := 123) hx hb dX5_feed_96 rfl ?_
                          refine xMdV (nL := 8) ⟨hx, hb, hml, hown, hts⟩ (c_X4_append l E a u70 p3 hL) (cwV 1 hts gX5_feed_X4_append rfl rfl rfl ⟨rfl, hd_X4_append⟩ ⟨(Nat.le_of_ble_eq_true rfl), (Nat.le_of_ble_eq_true rfl)⟩) hF hS hL.2 (fun _ h => h) hP (va_recv (q := (RX4, TX4, 9)) hK hP (ci := 4) rfl (q0 := 25) rfl) rfl hl.1 rfl (Nat.le_of_ble_eq_true rfl) ⟨(Nat.le_of_ble_eq_true rfl), (Nat.le_of_ble_eq_true rfl)⟩ dX5_feed_123 (fun H locs hP _ hS => ?_)
                          refine W.eq (g2 := F0 m 126 ls []) rfl ?_
                          refine lv_iinc (k := 0) (v := x7 + 1) (lv' := [(7, .int (x7 + 1)), (0, .ref (a 0)), (1, .int p1), (2, .int p2), (3, .int p3), (4, .int p4), (5, .int p5), (6, .int p6)]) hx hb dX5_feed_126 hl rfl rfl (by decide) rfl (fun ls hl => ?_)
                          refine lv_goto (tgt := 70) hx hb dX5_feed_129 rfl ?_
                          exact ih70 (s_X4_append u70 p3) (x7 + 1) _ _ _ (Nat.lt_of_lt_of_le (xupc q8) (Nat.le_of_lt_succ hM70)) hR (lv_sub hl [0, 1, 2, 3, 4, 5, 6, 7] rfl) hP hS
                      · have hR := hR.trans (if_pos q9)
                        refine lv_iload_n hx hb dX5_feed_85 rfl (lv_at hl 3 rfl) ?_
                        refine lv_goto (tgt := 123) hx hb dX5_feed_86 rfl ?_
                        refine xMdV (nL := 8) ⟨hx, hb, hml, hown, hts⟩ (c_X4_append l E a u70 p2 hL) (cwV 1 hts gX5_feed_X4_append rfl rfl rfl ⟨rfl, hd_X4_append⟩ ⟨(Nat.le_of_ble_eq_true rfl), (Nat.le_of_ble_eq_true rfl)⟩) hF hS hL.2 (fun _ h => h) hP (va_recv (q := (RX4, TX4, 9)) hK hP (ci := 4) rfl (q0 := 25) rfl) rfl hl.1 rfl (Nat.le_of_ble_eq_true rfl) ⟨(Nat.le_of_ble_eq_true rfl), (Nat.le_of_ble_eq_true rfl)⟩ dX5_feed_123 (fun H locs hP _ hS => ?_)
                        refine W.eq (g2 := F0 m 126 ls []) rfl ?_
                        refine lv_iinc (k := 0) (v := x7 + 1) (lv' := [(7, .int (x7 + 1)), (0, .ref (a 0)), (1, .int p1), (2, .int p2), (3, .int p3), (4, .int p4), (5, .int p5), (6, .int p6)]) hx hb dX5_feed_126 hl rfl rfl (by decide) rfl (fun ls hl => ?_)
                        refine lv_goto (tgt := 70) hx hb dX5_feed_129 rfl ?_
                        exact ih70 (s_X4_append u70 p2) (x7 + 1) _ _ _ (Nat.lt_of_lt_of_le (xupc q8) (Nat.le_of_lt_succ hM70)) hR (lv_sub hl [0, 1, 2, 3, 4, 5, 6, 7] rfl) hP hS
                exact L70 ((p1.toInt - (0 : Int32).toInt).toNat + 1) u 0 _ _ ls (Nat.lt_succ_self _) hR hl hP hS
              · have hR := hR.trans (if_neg q7)
                refine lv_bipush (v := (-4)) hx hb dX5_feed_64 rfl ?_
                have hR : s_X5_feed u p1 p2 p3 p4 p5 p6 = ((-4), u) := hR
                exact W.iret (v := (-4)) hx hb hr (fun t ht _ => by rw [hR]; dsimp only; exact ⟨⟨rfl, by rw [ht]; exact hP⟩, hS.F ht⟩) hS.2.2 dX5_feed_66
            · have hR := hR.trans (if_pos q6)
              refine lv_bipush (v := (-2)) hx hb dX5_feed_47 rfl ?_
              have hR : s_X5_feed u p1 p2 p3 p4 p5 p6 = ((-2), u) := hR
              exact W.iret (v := (-2)) hx hb hr (fun t ht _ => by rw [hR]; dsimp only; exact ⟨⟨rfl, by rw [ht]; exact hP⟩, hS.F ht⟩) hS.2.2 dX5_feed_49
def s_X5_sheet (u : xU) (p1 : Int32) (p2 : Int32) (p3 : Int32) : Int32 × xU :=
  if p1 = 0 then
    if (s_X5_within p2 (-1) 1) = 0 then
      ((-2), u)
    else
      if p2 = (-1) then
        (1, uP u 0 (s_X3_become (uS u 0) (-1) 0))
      else
        if p3 ≤ 40 then
          if 0 ≤ p3 then
            (1, uP u 0 (s_X3_become (uS u 0) p2 p3))
          else
            ((-14), u)
        else
          ((-2), u)
  else
    if p1 = 1 then
      if (s_X5_within p2 (-1) 1) = 0 then
        ((-2), u)
      else
        if p2 = (-1) then
          (1, uP u 1 (s_X3_become (uS u 1) (-1) 0))
        else
          if p3 ≤ 40 then
            if 0 ≤ p3 then
              (1, uP u 1 (s_X3_become (uS u 1) p2 p3))
            else
              ((-14), u)
          else
            ((-2), u)
    else
      if p1 = 2 then
        if (s_X5_within p2 (-1) 1) = 0 then
          ((-2), u)
        else
          if p2 = (-1) then
            (1, uP u 2 (s_X3_become (uS u 2) (-1) 0))
          else
            if p3 ≤ 40 then
              if 0 ≤ p3 then
                (1, uP u 2 (s_X3_become (uS u 2) p2 p3))
              else
                ((-14), u)
            else
              ((-2), u)
      else
        if p1 = 3 then
          if (s_X5_within p2 (-1) 1) = 0 then
            ((-2), u)
          else
            if p2 = (-1) then
              (1, uP u 3 (s_X3_become (uS u 3) (-1) 0))
            else
              if p3 ≤ 40 then
                if 0 ≤ p3 then
                  (1, uP u 3 (s_X3_become (uS u 3) p2 p3))
                else
                  ((-14), u)
              else
                ((-2), u)
        else
          ((-2), u)
abbrev rm_X5_sheet : Room := { frames := 2, cells := 0, slots := 0, locals := 44 }
set_option maxHeartbeats 8000000 in
set_option maxRecDepth 100000 in
theorem c_X5_sheet (l : Launch) (E : xG) (a : Nat → Nat) (u : xU) (p1 : Int32) (p2 : Int32) (p3 : Int32) (hL : xOK E (LX a)) : xMd l E yX5_sheet wsX5_sheet rm_X5_sheet (LX a) [.ref (a 0), .int p1, .int p2, .int p3] (wX E a u) (some (.int ((s_X5_sheet u p1 p2 p3).1))) (wX E a ((s_X5_sheet u p1 p2 p3).2)) := by
  refine xMd.of (cc := cX5_sheet) (maxL := 5) (ret := (some .int)) (by decide) rfl (Nat.le_of_ble_eq_true rfl) ?_
  intro p e s m below meth c ls hAt hF hP hS hl
  obtain ⟨hx, hb, hr, hml, hown, hts, hlocks, -⟩ := hAt
  have hown : s.vm.findClass RX5 = some m.cls := hown
  have hl : lv_has ls 5 [(0, .ref (a 0)), (1, .int p1), (2, .int p2), (3, .int p3)] := hl
  have hK := hF.1
  have hA := hL.2
  change W p l e rm_X5_sheet s m ([.ref (a 0), .int p1, .int p2, .int p3] : List Value).toArray below meth c s.heap [] 0 0 (xQmd E below (LX a) (some (.int ((s_X5_sheet u p1 p2 p3).1))) (wX E a ((s_X5_sheet u p1 p2 p3).2)) ([.ref (a 0), .int p1, .int p2, .int p3] : List Value).toArray s) _
  have hS : va_S (· ∈ LX a) s.heap s.heap [] := hS
  have hR : s_X5_sheet u p1 p2 p3 = s_X5_sheet u p1 p2 p3 := rfl
  refine lv_aload_n hx hb dX5_sheet_0 rfl (lv_at hl 0 rfl) ?_
  refine lv_iload_n hx hb dX5_sheet_1 rfl (lv_at hl 1 rfl) ?_
  by_cases t1_0 : p1 = 0
  · have hR := hR.trans (if_pos t1_0)
    refine xRoV (nL := 5) ⟨hx, hb, hml, hown, hts⟩ (c_X5_sheetOf l E a u p1 0 (by decide) t1_0) (cwV 1 hts gX5_sheet_X5_sheetOf rfl rfl rfl ⟨rfl, hd_X5_sheetOf⟩ ⟨(Nat.le_of_ble_eq_true rfl), (Nat.le_of_ble_eq_true rfl)⟩) hF hS hA hP (va_recv (q := (RX5, TX5, 9)) hK hP (ci := 5) rfl (q0 := 0) rfl) rfl hl.1 rfl (Nat.le_of_ble_eq_true rfl) ⟨(Nat.le_of_ble_eq_true rfl), (Nat.le_of_ble_eq_true rfl)⟩ dX5_sheet_2 ?_
    refine W.eq (g2 := F0 m 5 ls [.ref (a 17)]) rfl ?_
    refine lv_astore (lv' := [(4, .ref (a 17)), (0, .ref (a 0)), (1, .int p1), (2, .int p2), (3, .int p3)]) hx hb dX5_sheet_5 hl (by decide) rfl (fun ls hl => ?_)
    refine lv_aload hx hb dX5_sheet_7 (lv_at hl 0 rfl) ?_
    refine lv_ifnull hx hb dX5_sheet_9 ?_
    refine lv_iload_n hx hb dX5_sheet_12 rfl (lv_at hl 3 rfl) ?_
    refine lv_iconst (v := (-1)) hx hb dX5_sheet_13 rfl ?_
    refine lv_iconst (v := 1) hx hb dX5_sheet_14 rfl ?_
    refine xRoS (nL := 5) ⟨hx, hb, hml, hown, hts⟩ (c_X5_within l E p2 (-1) 1) (va_cwS 3 hts gX5_sheet_X5_within rfl rfl rfl hd_X5_within ⟨(Nat.le_of_ble_eq_true rfl), (Nat.le_of_ble_eq_true rfl)⟩) hF hS hA (hP.sub [] rfl) rfl hl.1 rfl (Nat.le_of_ble_eq_true rfl) ⟨(Nat.le_of_ble_eq_true rfl), (Nat.le_of_ble_eq_true rfl)⟩ dX5_sheet_15 ?_
    refine W.eq (g2 := F0 m 18 ls [.int (s_X5_within p2 (-1) 1)]) rfl ?_
    refine lv_if_ne (tgt := 24) hx hb dX5_sheet_18 rfl (fun q2 => ?_) (fun q2 => ?_)
    · have hR := hR.trans (if_neg q2)
      refine lv_iload_n hx hb dX5_sheet_24 rfl (lv_at hl 3 rfl) ?_
      refine lv_iconst (v := (-1)) hx hb dX5_sheet_25 rfl ?_
      refine lv_icmp_ne (tgt := 38) hx hb dX5_sheet_26 rfl (fun q3 => ?_) (fun q3 => ?_)
      · have hR := hR.trans (if_neg q3)
        refine lv_iload_n hx hb dX5_sheet_38 rfl (lv_at hl 4 rfl) ?_
        refine lv_bipush (v := 40) hx hb dX5_sheet_39 rfl ?_
        refine lv_icmp_le (tgt := 47) hx hb dX5_sheet_41 rfl (fun q4 => ?_) (fun q4 => ?_)
        · have hR := hR.trans (if_pos q4)
          refine lv_iload_n hx hb dX5_sheet_47 rfl (lv_at hl 4 rfl) ?_
          refine lv_if_ge (tgt := 54) hx hb dX5_sheet_48 rfl (fun q5 => ?_) (fun q5 => ?_)
          · have hR := hR.trans (if_pos q5)
            refine lv_aload hx hb dX5_sheet_54 (lv_at hl 0 rfl) ?_
            refine lv_iload_n hx hb dX5_sheet_56 rfl (lv_at hl 3 rfl) ?_
            refine lv_iload_n hx hb dX5_sheet_57 rfl (lv_at hl 4 rfl) ?_
            refine xMdV (nL := 5) ⟨hx, hb, hml, hown, hts⟩ (c_X3_become l E (a 17) (a 21) (uS u 0) p2 p3 ⟨xnd2 hL.1 (i := 17) (j := 21) rfl rfl (by decide), xsub2 (hL.2 _ (List.mem_of_getElem? (i := 17) rfl)) (hL.2 _ (List.mem_of_getElem? (i := 21) rfl))⟩) (cwV 2 hts gX5_sheet_X3_become rfl rfl rfl ⟨rfl, hd_X3_become⟩ ⟨(Nat.le_of_ble_eq_true rfl), (Nat.le_of_ble_eq_true rfl)⟩) hF hS hL.2 (xsub2 (List.mem_of_getElem? (i := 17) rfl) (List.mem_of_getElem? (i := 21) rfl)) (hP.sub [17, 21] rfl) (va_recv (q := (RX3, TX3, 3)) hK hP (ci := 3) rfl (q0 := 17) rfl) rfl hl.1 rfl (Nat.le_of_ble_eq_true rfl) ⟨(Nat.le_of_ble_eq_true rfl), (Nat.le_of_ble_eq_true rfl)⟩ dX5_sheet_58 (fun H1 locs hP1 hk hS => ?_)
            have hP : va_P (xD E) vwCl (wX E a (uP u 0 (s_X3_become (uS u 0) p2 p3))) H1 := xset2 hP (xD_of (ws := wX E a u) (A := (· ∈ LX a)) hL.1 (fun _ h => h)) (p := 17) (p' := 21) rfl rfl (by decide) hP1 hk
            generalize H1 = H at hP hS ⊢
            refine W.eq (g2 := F0 m 61 ls []) rfl ?_
            refine lv_iconst (v := 1) hx hb dX5_sheet_61 rfl ?_
            have hR : s_X5_sheet u p1 p2 p3 = (1, uP u 0 (s_X3_become (uS u 0) p2 p3)) := hR
            exact W.iret (v := 1) hx hb hr (fun t ht _ => by rw [hR]; dsimp only; exact ⟨⟨rfl, by rw [ht]; exact hP⟩, hS.F ht⟩) hS.2.2 dX5_sheet_62
          · have hR := hR.trans (if_neg q5)
            refine lv_bipush (v := (-14)) hx hb dX5_sheet_51 rfl ?_
            have hR : s_X5_sheet u p1 p2 p3 = ((-14), u) := hR
            exact W.iret (v := (-14)) hx hb hr (fun t ht _ => by rw [hR]; dsimp only; exact ⟨⟨rfl, by rw [ht]; exact hP⟩, hS.F ht⟩) hS.2.2 dX5_sheet_53
        · have hR := hR.trans (if_neg q4)
          refine lv_bipush (v := (-2)) hx hb dX5_sheet_44 rfl ?_
          have hR : s_X5_sheet u p1 p2 p3 = ((-2), u) := hR
          exact W.iret (v := (-2)) hx hb hr (fun t ht _ => by rw [hR]; dsimp only; exact ⟨⟨rfl, by rw [ht]; exact hP⟩, hS.F ht⟩) hS.2.2 dX5_sheet_46
      · have hR := hR.trans (if_pos q3)
        refine lv_aload hx hb dX5_sheet_29 (lv_at hl 0 rfl) ?_
        refine lv_iconst (v := (-1)) hx hb dX5_sheet_31 rfl ?_
        refine lv_iconst (v := 0) hx hb dX5_sheet_32 rfl ?_
        refine xMdV (nL := 5) ⟨hx, hb, hml, hown, hts⟩ (c_X3_become l E (a 17) (a 21) (uS u 0) (-1) 0 ⟨xnd2 hL.1 (i := 17) (j := 21) rfl rfl (by decide), xsub2 (hL.2 _ (List.mem_of_getElem? (i := 17) rfl)) (hL.2 _ (List.mem_of_getElem? (i := 21) rfl))⟩) (cwV 2 hts gX5_sheet_X3_become rfl rfl rfl ⟨rfl, hd_X3_become⟩ ⟨(Nat.le_of_ble_eq_true rfl), (Nat.le_of_ble_eq_true rfl)⟩) hF hS hL.2 (xsub2 (List.mem_of_getElem? (i := 17) rfl) (List.mem_of_getElem? (i := 21) rfl)) (hP.sub [17, 21] rfl) (va_recv (q := (RX3, TX3, 3)) hK hP (ci := 3) rfl (q0 := 17) rfl) rfl hl.1 rfl (Nat.le_of_ble_eq_true rfl) ⟨(Nat.le_of_ble_eq_true rfl), (Nat.le_of_ble_eq_true rfl)⟩ dX5_sheet_33 (fun H1 locs hP1 hk hS => ?_)
        have hP : va_P (xD E) vwCl (wX E a (uP u 0 (s_X3_become (uS u 0) (-1) 0))) H1 := xset2 hP (xD_of (ws := wX E a u) (A := (· ∈ LX a)) hL.1 (fun _ h => h)) (p := 17) (p' := 21) rfl rfl (by decide) hP1 hk
        generalize H1 = H at hP hS ⊢
        refine W.eq (g2 := F0 m 36 ls []) rfl ?_
        refine lv_iconst (v := 1) hx hb dX5_sheet_36 rfl ?_
        have hR : s_X5_sheet u p1 p2 p3 = (1, uP u 0 (s_X3_become (uS u 0) (-1) 0)) := hR
        exact W.iret (v := 1) hx hb hr (fun t ht _ => by rw [hR]; dsimp only; exact ⟨⟨rfl, by rw [ht]; exact hP⟩, hS.F ht⟩) hS.2.2 dX5_sheet_37
    · have hR := hR.trans (if_pos q2)
      refine lv_bipush (v := (-2)) hx hb dX5_sheet_21 rfl ?_
      have hR : s_X5_sheet u p1 p2 p3 = ((-2), u) := hR
      exact W.iret (v := (-2)) hx hb hr (fun t ht _ => by rw [hR]; dsimp only; exact ⟨⟨rfl, by rw [ht]; exact hP⟩, hS.F ht⟩) hS.2.2 dX5_sheet_23
  have hR := hR.trans (if_neg t1_0)
  by_cases t1_1 : p1 = 1
  · have hR := hR.trans (if_pos t1_1)
    refine xRoV (nL := 5) ⟨hx, hb, hml, hown, hts⟩ (c_X5_sheetOf l E a u p1 1 (by decide) t1_1) (cwV 1 hts gX5_sheet_X5_sheetOf rfl rfl rfl ⟨rfl, hd_X5_sheetOf⟩ ⟨(Nat.le_of_ble_eq_true rfl), (Nat.le_of_ble_eq_true rfl)⟩) hF hS hA hP (va_recv (q := (RX5, TX5, 9)) hK hP (ci := 5) rfl (q0 := 0) rfl) rfl hl.1 rfl (Nat.le_of_ble_eq_true rfl) ⟨(Nat.le_of_ble_eq_true rfl), (Nat.le_of_ble_eq_true rfl)⟩ dX5_sheet_2 ?_
    refine W.eq (g2 := F0 m 5 ls [.ref (a 18)]) rfl ?_
    refine lv_astore (lv' := [(4, .ref (a 18)), (0, .ref (a 0)), (1, .int p1), (2, .int p2), (3, .int p3)]) hx hb dX5_sheet_5 hl (by decide) rfl (fun ls hl => ?_)
    refine lv_aload hx hb dX5_sheet_7 (lv_at hl 0 rfl) ?_
    refine lv_ifnull hx hb dX5_sheet_9 ?_
    refine lv_iload_n hx hb dX5_sheet_12 rfl (lv_at hl 3 rfl) ?_
    refine lv_iconst (v := (-1)) hx hb dX5_sheet_13 rfl ?_
    refine lv_iconst (v := 1) hx hb dX5_sheet_14 rfl ?_
    refine xRoS (nL := 5) ⟨hx, hb, hml, hown, hts⟩ (c_X5_within l E p2 (-1) 1) (va_cwS 3 hts gX5_sheet_X5_within rfl rfl rfl hd_X5_within ⟨(Nat.le_of_ble_eq_true rfl), (Nat.le_of_ble_eq_true rfl)⟩) hF hS hA (hP.sub [] rfl) rfl hl.1 rfl (Nat.le_of_ble_eq_true rfl) ⟨(Nat.le_of_ble_eq_true rfl), (Nat.le_of_ble_eq_true rfl)⟩ dX5_sheet_15 ?_
    refine W.eq (g2 := F0 m 18 ls [.int (s_X5_within p2 (-1) 1)]) rfl ?_
    refine lv_if_ne (tgt := 24) hx hb dX5_sheet_18 rfl (fun q6 => ?_) (fun q6 => ?_)
    · have hR := hR.trans (if_neg q6)
      refine lv_iload_n hx hb dX5_sheet_24 rfl (lv_at hl 3 rfl) ?_
      refine lv_iconst (v := (-1)) hx hb dX5_sheet_25 rfl ?_
      refine lv_icmp_ne (tgt := 38) hx hb dX5_sheet_26 rfl (fun q7 => ?_) (fun q7 => ?_)
      · have hR := hR.trans (if_neg q7)
        refine lv_iload_n hx hb dX5_sheet_38 rfl (lv_at hl 4 rfl) ?_
        refine lv_bipush (v := 40) hx hb dX5_sheet_39 rfl ?_
        refine lv_icmp_le (tgt := 47) hx hb dX5_sheet_41 rfl (fun q8 => ?_) (fun q8 => ?_)
        · have hR := hR.trans (if_pos q8)
          refine lv_iload_n hx hb dX5_sheet_47 rfl (lv_at hl 4 rfl) ?_
          refine lv_if_ge (tgt := 54) hx hb dX5_sheet_48 rfl (fun q9 => ?_) (fun q9 => ?_)
          · have hR := hR.trans (if_pos q9)
            refine lv_aload hx hb dX5_sheet_54 (lv_at hl 0 rfl) ?_
            refine lv_iload_n hx hb dX5_sheet_56 rfl (lv_at hl 3 rfl) ?_
            refine lv_iload_n hx hb dX5_sheet_57 rfl (lv_at hl 4 rfl) ?_
            refine xMdV (nL := 5) ⟨hx, hb, hml, hown, hts⟩ (c_X3_become l E (a 18) (a 22) (uS u 1) p2 p3 ⟨xnd2 hL.1 (i := 18) (j := 22) rfl rfl (by decide), xsub2 (hL.2 _ (List.mem_of_getElem? (i := 18) rfl)) (hL.2 _ (List.mem_of_getElem? (i := 22) rfl))⟩) (cwV 2 hts gX5_sheet_X3_become rfl rfl rfl ⟨rfl, hd_X3_become⟩ ⟨(Nat.le_of_ble_eq_true rfl), (Nat.le_of_ble_eq_true rfl)⟩) hF hS hL.2 (xsub2 (List.mem_of_getElem? (i := 18) rfl) (List.mem_of_getElem? (i := 22) rfl)) (hP.sub [18, 22] rfl) (va_recv (q := (RX3, TX3, 3)) hK hP (ci := 3) rfl (q0 := 18) rfl) rfl hl.1 rfl (Nat.le_of_ble_eq_true rfl) ⟨(Nat.le_of_ble_eq_true rfl), (Nat.le_of_ble_eq_true rfl)⟩ dX5_sheet_58 (fun H1 locs hP1 hk hS => ?_)
            have hP : va_P (xD E) vwCl (wX E a (uP u 1 (s_X3_become (uS u 1) p2 p3))) H1 := xset2 hP (xD_of (ws := wX E a u) (A := (· ∈ LX a)) hL.1 (fun _ h => h)) (p := 18) (p' := 22) rfl rfl (by decide) hP1 hk
            generalize H1 = H at hP hS ⊢
            refine W.eq (g2 := F0 m 61 ls []) rfl ?_
            refine lv_iconst (v := 1) hx hb dX5_sheet_61 rfl ?_
            have hR : s_X5_sheet u p1 p2 p3 = (1, uP u 1 (s_X3_become (uS u 1) p2 p3)) := hR
            exact W.iret (v := 1) hx hb hr (fun t ht _ => by rw [hR]; dsimp only; exact ⟨⟨rfl, by rw [ht]; exact hP⟩, hS.F ht⟩) hS.2.2 dX5_sheet_62
          · have hR := hR.trans (if_neg q9)
            refine lv_bipush (v := (-14)) hx hb dX5_sheet_51 rfl ?_
            have hR : s_X5_sheet u p1 p2 p3 = ((-14), u) := hR
            exact W.iret (v := (-14)) hx hb hr (fun t ht _ => by rw [hR]; dsimp only; exact ⟨⟨rfl, by rw [ht]; exact hP⟩, hS.F ht⟩) hS.2.2 dX5_sheet_53
        · have hR := hR.trans (if_neg q8)
          refine lv_bipush (v := (-2)) hx hb dX5_sheet_44 rfl ?_
          have hR : s_X5_sheet u p1 p2 p3 = ((-2), u) := hR
          exact W.iret (v := (-2)) hx hb hr (fun t ht _ => by rw [hR]; dsimp only; exact ⟨⟨rfl, by rw [ht]; exact hP⟩, hS.F ht⟩) hS.2.2 dX5_sheet_46
      · have hR := hR.trans (if_pos q7)
        refine lv_aload hx hb dX5_sheet_29 (lv_at hl 0 rfl) ?_
        refine lv_iconst (v := (-1)) hx hb dX5_sheet_31 rfl ?_
        refine lv_iconst (v := 0) hx hb dX5_sheet_32 rfl ?_
        refine xMdV (nL := 5) ⟨hx, hb, hml, hown, hts⟩ (c_X3_become l E (a 18) (a 22) (uS u 1) (-1) 0 ⟨xnd2 hL.1 (i := 18) (j := 22) rfl rfl (by decide), xsub2 (hL.2 _ (List.mem_of_getElem? (i := 18) rfl)) (hL.2 _ (List.mem_of_getElem? (i := 22) rfl))⟩) (cwV 2 hts gX5_sheet_X3_become rfl rfl rfl ⟨rfl, hd_X3_become⟩ ⟨(Nat.le_of_ble_eq_true rfl), (Nat.le_of_ble_eq_true rfl)⟩) hF hS hL.2 (xsub2 (List.mem_of_getElem? (i := 18) rfl) (List.mem_of_getElem? (i := 22) rfl)) (hP.sub [18, 22] rfl) (va_recv (q := (RX3, TX3, 3)) hK hP (ci := 3) rfl (q0 := 18) rfl) rfl hl.1 rfl (Nat.le_of_ble_eq_true rfl) ⟨(Nat.le_of_ble_eq_true rfl), (Nat.le_of_ble_eq_true rfl)⟩ dX5_sheet_33 (fun H1 locs hP1 hk hS => ?_)
        have hP : va_P (xD E) vwCl (wX E a (uP u 1 (s_X3_become (uS u 1) (-1) 0))) H1 := xset2 hP (xD_of (ws := wX E a u) (A := (· ∈ LX a)) hL.1 (fun _ h => h)) (p := 18) (p' := 22) rfl rfl (by decide) hP1 hk
        generalize H1 = H at hP hS ⊢
        refine W.eq (g2 := F0 m 36 ls []) rfl ?_
        refine lv_iconst (v := 1) hx hb dX5_sheet_36 rfl ?_
        have hR : s_X5_sheet u p1 p2 p3 = (1, uP u 1 (s_X3_become (uS u 1) (-1) 0)) := hR
        exact W.iret (v := 1) hx hb hr (fun t ht _ => by rw [hR]; dsimp only; exact ⟨⟨rfl, by rw [ht]; exact hP⟩, hS.F ht⟩) hS.2.2 dX5_sheet_37
    · have hR := hR.trans (if_pos q6)
      refine lv_bipush (v := (-2)) hx hb dX5_sheet_21 rfl ?_
      have hR : s_X5_sheet u p1 p2 p3 = ((-2), u) := hR
      exact W.iret (v := (-2)) hx hb hr (fun t ht _ => by rw [hR]; dsimp only; exact ⟨⟨rfl, by rw [ht]; exact hP⟩, hS.F ht⟩) hS.2.2 dX5_sheet_23
  have hR := hR.trans (if_neg t1_1)
  by_cases t1_2 : p1 = 2
  · have hR := hR.trans (if_pos t1_2)
    refine xRoV (nL := 5) ⟨hx, hb, hml, hown, hts⟩ (c_X5_sheetOf l E a u p1 2 (by decide) t1_2) (cwV 1 hts gX5_sheet_X5_sheetOf rfl rfl rfl ⟨rfl, hd_X5_sheetOf⟩ ⟨(Nat.le_of_ble_eq_true rfl), (Nat.le_of_ble_eq_true rfl)⟩) hF hS hA hP (va_recv (q := (RX5, TX5, 9)) hK hP (ci := 5) rfl (q0 := 0) rfl) rfl hl.1 rfl (Nat.le_of_ble_eq_true rfl) ⟨(Nat.le_of_ble_eq_true rfl), (Nat.le_of_ble_eq_true rfl)⟩ dX5_sheet_2 ?_
    refine W.eq (g2 := F0 m 5 ls [.ref (a 19)]) rfl ?_
    refine lv_astore (lv' := [(4, .ref (a 19)), (0, .ref (a 0)), (1, .int p1), (2, .int p2), (3, .int p3)]) hx hb dX5_sheet_5 hl (by decide) rfl (fun ls hl => ?_)
    refine lv_aload hx hb dX5_sheet_7 (lv_at hl 0 rfl) ?_
    refine lv_ifnull hx hb dX5_sheet_9 ?_
    refine lv_iload_n hx hb dX5_sheet_12 rfl (lv_at hl 3 rfl) ?_
    refine lv_iconst (v := (-1)) hx hb dX5_sheet_13 rfl ?_
    refine lv_iconst (v := 1) hx hb dX5_sheet_14 rfl ?_
    refine xRoS (nL := 5) ⟨hx, hb, hml, hown, hts⟩ (c_X5_within l E p2 (-1) 1) (va_cwS 3 hts gX5_sheet_X5_within rfl rfl rfl hd_X5_within ⟨(Nat.le_of_ble_eq_true rfl), (Nat.le_of_ble_eq_true rfl)⟩) hF hS hA (hP.sub [] rfl) rfl hl.1 rfl (Nat.le_of_ble_eq_true rfl) ⟨(Nat.le_of_ble_eq_true rfl), (Nat.le_of_ble_eq_true rfl)⟩ dX5_sheet_15 ?_
    refine W.eq (g2 := F0 m 18 ls [.int (s_X5_within p2 (-1) 1)]) rfl ?_
    refine lv_if_ne (tgt := 24) hx hb dX5_sheet_18 rfl (fun q10 => ?_) (fun q10 => ?_)
    · have hR := hR.trans (if_neg q10)
      refine lv_iload_n hx hb dX5_sheet_24 rfl (lv_at hl 3 rfl) ?_
      refine lv_iconst (v := (-1)) hx hb dX5_sheet_25 rfl ?_
      refine lv_icmp_ne (tgt := 38) hx hb dX5_sheet_26 rfl (fun q11 => ?_) (fun q11 => ?_)
      · have hR := hR.trans (if_neg q11)
        refine lv_iload_n hx hb dX5_sheet_38 rfl (lv_at hl 4 rfl) ?_
        refine lv_bipush (v := 40) hx hb dX5_sheet_39 rfl ?_
        refine lv_icmp_le (tgt := 47) hx hb dX5_sheet_41 rfl (fun q12 => ?_) (fun q12 => ?_)
        · have hR := hR.trans (if_pos q12)
          refine lv_iload_n hx hb dX5_sheet_47 rfl (lv_at hl 4 rfl) ?_
          refine lv_if_ge (tgt := 54) hx hb dX5_sheet_48 rfl (fun q13 => ?_) (fun q13 => ?_)
          · have hR := hR.trans (if_pos q13)
            refine lv_aload hx hb dX5_sheet_54 (lv_at hl 0 rfl) ?_
            refine lv_iload_n hx hb dX5_sheet_56 rfl (lv_at hl 3 rfl) ?_
            refine lv_iload_n hx hb dX5_sheet_57 rfl (lv_at hl 4 rfl) ?_
            refine xMdV (nL := 5) ⟨hx, hb, hml, hown, hts⟩ (c_X3_become l E (a 19) (a 23) (uS u 2) p2 p3 ⟨xnd2 hL.1 (i := 19) (j := 23) rfl rfl (by decide), xsub2 (hL.2 _ (List.mem_of_getElem? (i := 19) rfl)) (hL.2 _ (List.mem_of_getElem? (i := 23) rfl))⟩) (cwV 2 hts gX5_sheet_X3_become rfl rfl rfl ⟨rfl, hd_X3_become⟩ ⟨(Nat.le_of_ble_eq_true rfl), (Nat.le_of_ble_eq_true rfl)⟩) hF hS hL.2 (xsub2 (List.mem_of_getElem? (i := 19) rfl) (List.mem_of_getElem? (i := 23) rfl)) (hP.sub [19, 23] rfl) (va_recv (q := (RX3, TX3, 3)) hK hP (ci := 3) rfl (q0 := 19) rfl) rfl hl.1 rfl (Nat.le_of_ble_eq_true rfl) ⟨(Nat.le_of_ble_eq_true rfl), (Nat.le_of_ble_eq_true rfl)⟩ dX5_sheet_58 (fun H1 locs hP1 hk hS => ?_)
            have hP : va_P (xD E) vwCl (wX E a (uP u 2 (s_X3_become (uS u 2) p2 p3))) H1 := xset2 hP (xD_of (ws := wX E a u) (A := (· ∈ LX a)) hL.1 (fun _ h => h)) (p := 19) (p' := 23) rfl rfl (by decide) hP1 hk
            generalize H1 = H at hP hS ⊢
            refine W.eq (g2 := F0 m 61 ls []) rfl ?_
            refine lv_iconst (v := 1) hx hb dX5_sheet_61 rfl ?_
            have hR : s_X5_sheet u p1 p2 p3 = (1, uP u 2 (s_X3_become (uS u 2) p2 p3)) := hR
            exact W.iret (v := 1) hx hb hr (fun t ht _ => by rw [hR]; dsimp only; exact ⟨⟨rfl, by rw [ht]; exact hP⟩, hS.F ht⟩) hS.2.2 dX5_sheet_62
          · have hR := hR.trans (if_neg q13)
            refine lv_bipush (v := (-14)) hx hb dX5_sheet_51 rfl ?_
            have hR : s_X5_sheet u p1 p2 p3 = ((-14), u) := hR
            exact W.iret (v := (-14)) hx hb hr (fun t ht _ => by rw [hR]; dsimp only; exact ⟨⟨rfl, by rw [ht]; exact hP⟩, hS.F ht⟩) hS.2.2 dX5_sheet_53
        · have hR := hR.trans (if_neg q12)
          refine lv_bipush (v := (-2)) hx hb dX5_sheet_44 rfl ?_
          have hR : s_X5_sheet u p1 p2 p3 = ((-2), u) := hR
          exact W.iret (v := (-2)) hx hb hr (fun t ht _ => by rw [hR]; dsimp only; exact ⟨⟨rfl, by rw [ht]; exact hP⟩, hS.F ht⟩) hS.2.2 dX5_sheet_46
      · have hR := hR.trans (if_pos q11)
        refine lv_aload hx hb dX5_sheet_29 (lv_at hl 0 rfl) ?_
        refine lv_iconst (v := (-1)) hx hb dX5_sheet_31 rfl ?_
        refine lv_iconst (v := 0) hx hb dX5_sheet_32 rfl ?_
        refine xMdV (nL := 5) ⟨hx, hb, hml, hown, hts⟩ (c_X3_become l E (a 19) (a 23) (uS u 2) (-1) 0 ⟨xnd2 hL.1 (i := 19) (j := 23) rfl rfl (by decide), xsub2 (hL.2 _ (List.mem_of_getElem? (i := 19) rfl)) (hL.2 _ (List.mem_of_getElem? (i := 23) rfl))⟩) (cwV 2 hts gX5_sheet_X3_become rfl rfl rfl ⟨rfl, hd_X3_become⟩ ⟨(Nat.le_of_ble_eq_true rfl), (Nat.le_of_ble_eq_true rfl)⟩) hF hS hL.2 (xsub2 (List.mem_of_getElem? (i := 19) rfl) (List.mem_of_getElem? (i := 23) rfl)) (hP.sub [19, 23] rfl) (va_recv (q := (RX3, TX3, 3)) hK hP (ci := 3) rfl (q0 := 19) rfl) rfl hl.1 rfl (Nat.le_of_ble_eq_true rfl) ⟨(Nat.le_of_ble_eq_true rfl), (Nat.le_of_ble_eq_true rfl)⟩ dX5_sheet_33 (fun H1 locs hP1 hk hS => ?_)
        have hP : va_P (xD E) vwCl (wX E a (uP u 2 (s_X3_become (uS u 2) (-1) 0))) H1 := xset2 hP (xD_of (ws := wX E a u) (A := (· ∈ LX a)) hL.1 (fun _ h => h)) (p := 19) (p' := 23) rfl rfl (by decide) hP1 hk
        generalize H1 = H at hP hS ⊢
        refine W.eq (g2 := F0 m 36 ls []) rfl ?_
        refine lv_iconst (v := 1) hx hb dX5_sheet_36 rfl ?_
        have hR : s_X5_sheet u p1 p2 p3 = (1, uP u 2 (s_X3_become (uS u 2) (-1) 0)) := hR
        exact W.iret (v := 1) hx hb hr (fun t ht _ => by rw [hR]; dsimp only; exact ⟨⟨rfl, by rw [ht]; exact hP⟩, hS.F ht⟩) hS.2.2 dX5_sheet_37
    · have hR := hR.trans (if_pos q10)
      refine lv_bipush (v := (-2)) hx hb dX5_sheet_21 rfl ?_
      have hR : s_X5_sheet u p1 p2 p3 = ((-2), u) := hR
      exact W.iret (v := (-2)) hx hb hr (fun t ht _ => by rw [hR]; dsimp only; exact ⟨⟨rfl, by rw [ht]; exact hP⟩, hS.F ht⟩) hS.2.2 dX5_sheet_23
  have hR := hR.trans (if_neg t1_2)
  by_cases t1_3 : p1 = 3
  · have hR := hR.trans (if_pos t1_3)
    refine xRoV (nL := 5) ⟨hx, hb, hml, hown, hts⟩ (c_X5_sheetOf l E a u p1 3 (by decide) t1_3) (cwV 1 hts gX5_sheet_X5_sheetOf rfl rfl rfl ⟨rfl, hd_X5_sheetOf⟩ ⟨(Nat.le_of_ble_eq_true rfl), (Nat.le_of_ble_eq_true rfl)⟩) hF hS hA hP (va_recv (q := (RX5, TX5, 9)) hK hP (ci := 5) rfl (q0 := 0) rfl) rfl hl.1 rfl (Nat.le_of_ble_eq_true rfl) ⟨(Nat.le_of_ble_eq_true rfl), (Nat.le_of_ble_eq_true rfl)⟩ dX5_sheet_2 ?_
    refine W.eq (g2 := F0 m 5 ls [.ref (a 20)]) rfl ?_
    refine lv_astore (lv' := [(4, .ref (a 20)), (0, .ref (a 0)), (1, .int p1), (2, .int p2), (3, .int p3)]) hx hb dX5_sheet_5 hl (by decide) rfl (fun ls hl => ?_)
    refine lv_aload hx hb dX5_sheet_7 (lv_at hl 0 rfl) ?_
    refine lv_ifnull hx hb dX5_sheet_9 ?_
    refine lv_iload_n hx hb dX5_sheet_12 rfl (lv_at hl 3 rfl) ?_
    refine lv_iconst (v := (-1)) hx hb dX5_sheet_13 rfl ?_
    refine lv_iconst (v := 1) hx hb dX5_sheet_14 rfl ?_
    refine xRoS (nL := 5) ⟨hx, hb, hml, hown, hts⟩ (c_X5_within l E p2 (-1) 1) (va_cwS 3 hts gX5_sheet_X5_within rfl rfl rfl hd_X5_within ⟨(Nat.le_of_ble_eq_true rfl), (Nat.le_of_ble_eq_true rfl)⟩) hF hS hA (hP.sub [] rfl) rfl hl.1 rfl (Nat.le_of_ble_eq_true rfl) ⟨(Nat.le_of_ble_eq_true rfl), (Nat.le_of_ble_eq_true rfl)⟩ dX5_sheet_15 ?_
    refine W.eq (g2 := F0 m 18 ls [.int (s_X5_within p2 (-1) 1)]) rfl ?_
    refine lv_if_ne (tgt := 24) hx hb dX5_sheet_18 rfl (fun q14 => ?_) (fun q14 => ?_)
    · have hR := hR.trans (if_neg q14)
      refine lv_iload_n hx hb dX5_sheet_24 rfl (lv_at hl 3 rfl) ?_
      refine lv_iconst (v := (-1)) hx hb dX5_sheet_25 rfl ?_
      refine lv_icmp_ne (tgt := 38) hx hb dX5_sheet_26 rfl (fun q15 => ?_) (fun q15 => ?_)
      · have hR := hR.trans (if_neg q15)
        refine lv_iload_n hx hb dX5_sheet_38 rfl (lv_at hl 4 rfl) ?_
        refine lv_bipush (v := 40) hx hb dX5_sheet_39 rfl ?_
        refine lv_icmp_le (tgt := 47) hx hb dX5_sheet_41 rfl (fun q16 => ?_) (fun q16 => ?_)
        · have hR := hR.trans (if_pos q16)
          refine lv_iload_n hx hb dX5_sheet_47 rfl (lv_at hl 4 rfl) ?_
          refine lv_if_ge (tgt := 54) hx hb dX5_sheet_48 rfl (fun q17 => ?_) (fun q17 => ?_)
          · have hR := hR.trans (if_pos q17)
            refine lv_aload hx hb dX5_sheet_54 (lv_at hl 0 rfl) ?_
            refine lv_iload_n hx hb dX5_sheet_56 rfl (lv_at hl 3 rfl) ?_
            refine lv_iload_n hx hb dX5_sheet_57 rfl (lv_at hl 4 rfl) ?_
            refine xMdV (nL := 5) ⟨hx, hb, hml, hown, hts⟩ (c_X3_become l E (a 20) (a 24) (uS u 3) p2 p3 ⟨xnd2 hL.1 (i := 20) (j := 24) rfl rfl (by decide), xsub2 (hL.2 _ (List.mem_of_getElem? (i := 20) rfl)) (hL.2 _ (List.mem_of_getElem? (i := 24) rfl))⟩) (cwV 2 hts gX5_sheet_X3_become rfl rfl rfl ⟨rfl, hd_X3_become⟩ ⟨(Nat.le_of_ble_eq_true rfl), (Nat.le_of_ble_eq_true rfl)⟩) hF hS hL.2 (xsub2 (List.mem_of_getElem? (i := 20) rfl) (List.mem_of_getElem? (i := 24) rfl)) (hP.sub [20, 24] rfl) (va_recv (q := (RX3, TX3, 3)) hK hP (ci := 3) rfl (q0 := 20) rfl) rfl hl.1 rfl (Nat.le_of_ble_eq_true rfl) ⟨(Nat.le_of_ble_eq_true rfl), (Nat.le_of_ble_eq_true rfl)⟩ dX5_sheet_58 (fun H1 locs hP1 hk hS => ?_)
            have hP : va_P (xD E) vwCl (wX E a (uP u 3 (s_X3_become (uS u 3) p2 p3))) H1 := xset2 hP (xD_of (ws := wX E a u) (A := (· ∈ LX a)) hL.1 (fun _ h => h)) (p := 20) (p' := 24) rfl rfl (by decide) hP1 hk
            generalize H1 = H at hP hS ⊢
            refine W.eq (g2 := F0 m 61 ls []) rfl ?_
            refine lv_iconst (v := 1) hx hb dX5_sheet_61 rfl ?_
            have hR : s_X5_sheet u p1 p2 p3 = (1, uP u 3 (s_X3_become (uS u 3) p2 p3)) := hR
            exact W.iret (v := 1) hx hb hr (fun t ht _ => by rw [hR]; dsimp only; exact ⟨⟨rfl, by rw [ht]; exact hP⟩, hS.F ht⟩) hS.2.2 dX5_sheet_62
          · have hR := hR.trans (if_neg q17)
            refine lv_bipush (v := (-14)) hx hb dX5_sheet_51 rfl ?_
            have hR : s_X5_sheet u p1 p2 p3 = ((-14), u) := hR
            exact W.iret (v := (-14)) hx hb hr (fun t ht _ => by rw [hR]; dsimp only; exact ⟨⟨rfl, by rw [ht]; exact hP⟩, hS.F ht⟩) hS.2.2 dX5_sheet_53
        · have hR := hR.trans (if_neg q16)
          refine lv_bipush (v := (-2)) hx hb dX5_sheet_44 rfl ?_
          have hR : s_X5_sheet u p1 p2 p3 = ((-2), u) := hR
          exact W.iret (v := (-2)) hx hb hr (fun t ht _ => by rw [hR]; dsimp only; exact ⟨⟨rfl, by rw [ht]; exact hP⟩, hS.F ht⟩) hS.2.2 dX5_sheet_46
      · have hR := hR.trans (if_pos q15)
        refine lv_aload hx hb dX5_sheet_29 (lv_at hl 0 rfl) ?_
        refine lv_iconst (v := (-1)) hx hb dX5_sheet_31 rfl ?_
        refine lv_iconst (v := 0) hx hb dX5_sheet_32 rfl ?_
        refine xMdV (nL := 5) ⟨hx, hb, hml, hown, hts⟩ (c_X3_become l E (a 20) (a 24) (uS u 3) (-1) 0 ⟨xnd2 hL.1 (i := 20) (j := 24) rfl rfl (by decide), xsub2 (hL.2 _ (List.mem_of_getElem? (i := 20) rfl)) (hL.2 _ (List.mem_of_getElem? (i := 24) rfl))⟩) (cwV 2 hts gX5_sheet_X3_become rfl rfl rfl ⟨rfl, hd_X3_become⟩ ⟨(Nat.le_of_ble_eq_true rfl), (Nat.le_of_ble_eq_true rfl)⟩) hF hS hL.2 (xsub2 (List.mem_of_getElem? (i := 20) rfl) (List.mem_of_getElem? (i := 24) rfl)) (hP.sub [20, 24] rfl) (va_recv (q := (RX3, TX3, 3)) hK hP (ci := 3) rfl (q0 := 20) rfl) rfl hl.1 rfl (Nat.le_of_ble_eq_true rfl) ⟨(Nat.le_of_ble_eq_true rfl), (Nat.le_of_ble_eq_true rfl)⟩ dX5_sheet_33 (fun H1 locs hP1 hk hS => ?_)
        have hP : va_P (xD E) vwCl (wX E a (uP u 3 (s_X3_become (uS u 3) (-1) 0))) H1 := xset2 hP (xD_of (ws := wX E a u) (A := (· ∈ LX a)) hL.1 (fun _ h => h)) (p := 20) (p' := 24) rfl rfl (by decide) hP1 hk
        generalize H1 = H at hP hS ⊢
        refine W.eq (g2 := F0 m 36 ls []) rfl ?_
        refine lv_iconst (v := 1) hx hb dX5_sheet_36 rfl ?_
        have hR : s_X5_sheet u p1 p2 p3 = (1, uP u 3 (s_X3_become (uS u 3) (-1) 0)) := hR
        exact W.iret (v := 1) hx hb hr (fun t ht _ => by rw [hR]; dsimp only; exact ⟨⟨rfl, by rw [ht]; exact hP⟩, hS.F ht⟩) hS.2.2 dX5_sheet_37
    · have hR := hR.trans (if_pos q14)
      refine lv_bipush (v := (-2)) hx hb dX5_sheet_21 rfl ?_
      have hR : s_X5_sheet u p1 p2 p3 = ((-2), u) := hR
      exact W.iret (v := (-2)) hx hb hr (fun t ht _ => by rw [hR]; dsimp only; exact ⟨⟨rfl, by rw [ht]; exact hP⟩, hS.F ht⟩) hS.2.2 dX5_sheet_23
  have hR := hR.trans (if_neg t1_3)
  refine xRoV (nL := 5) ⟨hx, hb, hml, hown, hts⟩ (c_X5_sheetOf_n l E a u p1 t1_0 t1_1 t1_2 t1_3) (cwV 1 hts gX5_sheet_X5_sheetOf rfl rfl rfl ⟨rfl, hd_X5_sheetOf⟩ ⟨(Nat.le_of_ble_eq_true rfl), (Nat.le_of_ble_eq_true rfl)⟩) hF hS hA hP (va_recv (q := (RX5, TX5, 9)) hK hP (ci := 5) rfl (q0 := 0) rfl) rfl hl.1 rfl (Nat.le_of_ble_eq_true rfl) ⟨(Nat.le_of_ble_eq_true rfl), (Nat.le_of_ble_eq_true rfl)⟩ dX5_sheet_2 ?_
  refine W.eq (g2 := F0 m 5 ls [.null]) rfl ?_
  refine lv_astoreN (lv' := [(4, .null), (0, .ref (a 0)), (1, .int p1), (2, .int p2), (3, .int p3)]) hx hb dX5_sheet_5 hl (by decide) rfl (fun ls hl => ?_)
  refine lv_aloadN hx hb dX5_sheet_7 (lv_at hl 0 rfl) ?_
  refine lv_ifnullN (tgt := 21) hx hb dX5_sheet_9 rfl ?_
  refine lv_bipush (v := (-2)) hx hb dX5_sheet_21 rfl ?_
  have hR : s_X5_sheet u p1 p2 p3 = ((-2), u) := hR
  exact W.iret (v := (-2)) hx hb hr (fun t ht _ => by rw [hR]; dsimp only; exact ⟨⟨rfl, by rw [ht]; exact hP⟩, hS.F ht⟩) hS.2.2 dX5_sheet_23
def s_X5_put (u : xU) (p1 : Int32) (p2 : Int32) (p3 : Int32) : Int32 × xU :=
  if p1 = 0 then
    if (s_X3_isMissing (uS u 0)) = 0 then
      if (s_X5_within p2 0 ((u.2 8) - 1)) = 0 then
        ((-12), u)
      else
        (1, uP u 0 (s_X3_write (uS u 0) p2 p3))
    else
      ((-11), u)
  else
    if p1 = 1 then
      if (s_X3_isMissing (uS u 1)) = 0 then
        if (s_X5_within p2 0 ((u.2 9) - 1)) = 0 then
          ((-12), u)
        else
          (1, uP u 1 (s_X3_write (uS u 1) p2 p3))
      else
        ((-11), u)
    else
      if p1 = 2 then
        if (s_X3_isMissing (uS u 2)) = 0 then
          if (s_X5_within p2 0 ((u.2 10) - 1)) = 0 then
            ((-12), u)
          else
            (1, uP u 2 (s_X3_write (uS u 2) p2 p3))
        else
          ((-11), u)
      else
        if p1 = 3 then
          if (s_X3_isMissing (uS u 3)) = 0 then
            if (s_X5_within p2 0 ((u.2 11) - 1)) = 0 then
              ((-12), u)
            else
              (1, uP u 3 (s_X3_write (uS u 3) p2 p3))
          else
            ((-11), u)
        else
          ((-2), u)
abbrev rm_X5_put : Room := { frames := 2, cells := 0, slots := 0, locals := 44 }
set_option maxHeartbeats 8000000 in
set_option maxRecDepth 100000 in
theorem c_X5_put (l : Launch) (E : xG) (a : Nat → Nat) (u : xU) (p1 : Int32) (p2 : Int32) (p3 : Int32) (hL : xOK E (LX a)) : xMd l E yX5_put wsX5_put rm_X5_put (LX a) [.ref (a 0), .int p1, .int p2, .int p3] (wX E a u) (some (.int ((s_X5_put u p1 p2 p3).1))) (wX E a ((s_X5_put u p1 p2 p3).2)) := by
  refine xMd.of (cc := cX5_put) (maxL := 5) (ret := (some .int)) (by decide) rfl (Nat.le_of_ble_eq_true rfl) ?_
  intro p e s m below meth c ls hAt hF hP hS hl
  obtain ⟨hx, hb, hr, hml, hown, hts, hlocks, -⟩ := hAt
  have hown : s.vm.findClass RX5 = some m.cls := hown
  have hl : lv_has ls 5 [(0, .ref (a 0)), (1, .int p1), (2, .int p2), (3, .int p3)] := hl
  have hK := hF.1
  have hA := hL.2
  change W p l e rm_X5_put s m ([.ref (a 0), .int p1, .int p2, .int p3] : List Value).toArray below meth c s.heap [] 0 0 (xQmd E below (LX a) (some (.int ((s_X5_put u p1 p2 p3).1))) (wX E a ((s_X5_put u p1 p2 p3).2)) ([.ref (a 0), .int p1, .int p2, .int p3] : List Value).toArray s) _
  have hS : va_S (· ∈ LX a) s.heap s.heap [] := hS
  have hR : s_X5_put u p1 p2 p3 = s_X5_put u p1 p2 p3 := rfl
  refine lv_aload_n hx hb dX5_put_0 rfl (lv_at hl 0 rfl) ?_
  refine lv_iload_n hx hb dX5_put_1 rfl (lv_at hl 1 rfl) ?_
  by_cases t1_0 : p1 = 0
  · have hR := hR.trans (if_pos t1_0)
    refine xRoV (nL := 5) ⟨hx, hb, hml, hown, hts⟩ (c_X5_sheetOf l E a u p1 0 (by decide) t1_0) (cwV 1 hts gX5_put_X5_sheetOf rfl rfl rfl ⟨rfl, hd_X5_sheetOf⟩ ⟨(Nat.le_of_ble_eq_true rfl), (Nat.le_of_ble_eq_true rfl)⟩) hF hS hA hP (va_recv (q := (RX5, TX5, 9)) hK hP (ci := 5) rfl (q0 := 0) rfl) rfl hl.1 rfl (Nat.le_of_ble_eq_true rfl) ⟨(Nat.le_of_ble_eq_true rfl), (Nat.le_of_ble_eq_true rfl)⟩ dX5_put_2 ?_
    refine W.eq (g2 := F0 m 5 ls [.ref (a 17)]) rfl ?_
    refine lv_astore (lv' := [(4, .ref (a 17)), (0, .ref (a 0)), (1, .int p1), (2, .int p2), (3, .int p3)]) hx hb dX5_put_5 hl (by decide) rfl (fun ls hl => ?_)
    refine lv_aload hx hb dX5_put_7 (lv_at hl 0 rfl) ?_
    refine lv_ifnonnull (tgt := 15) hx hb dX5_put_9 rfl ?_
    refine lv_aload hx hb dX5_put_15 (lv_at hl 0 rfl) ?_
    refine xRoV (nL := 5) ⟨hx, hb, hml, hown, hts⟩ (c_X3_isMissing l E (a 17) (a 21) (uS u 0) ) (cwV 0 hts gX5_put_X3_isMissing rfl rfl rfl ⟨rfl, hd_X3_isMissing⟩ ⟨(Nat.le_of_ble_eq_true rfl), (Nat.le_of_ble_eq_true rfl)⟩) hF hS hA (hP.sub [17, 21] rfl) (va_recv (q := (RX3, TX3, 3)) hK hP (ci := 3) rfl (q0 := 17) rfl) rfl hl.1 rfl (Nat.le_of_ble_eq_true rfl) ⟨(Nat.le_of_ble_eq_true rfl), (Nat.le_of_ble_eq_true rfl)⟩ dX5_put_17 ?_
    refine W.eq (g2 := F0 m 20 ls [.int (s_X3_isMissing (uS u 0))]) rfl ?_
    refine lv_if_eq (tgt := 26) hx hb dX5_put_20 rfl (fun q2 => ?_) (fun q2 => ?_)
    · have hR := hR.trans (if_pos q2)
      refine lv_iload_n hx hb dX5_put_26 rfl (lv_at hl 3 rfl) ?_
      refine lv_iconst (v := 0) hx hb dX5_put_27 rfl ?_
      refine lv_aload hx hb dX5_put_28 (lv_at hl 0 rfl) ?_
      refine va_get (D := xD E) (ci := 3) (v := .int (u.2 8)) (C := RX3) (T := TX3) (N := 3) hx hb hts (by decide +kernel) hown hK hP 17 rfl rfl 2 (by decide) (hts (.fieldLink RX5 264 "RailOffsets$Sheet" "size" "I") (by decide +kernel)) (fun _ h => h) rfl dX5_put_30 ?_
      refine lv_iconst (v := 1) hx hb dX5_put_33 rfl ?_
      refine lv_isub hx hb dX5_put_34 ?_
      refine xRoS (nL := 5) ⟨hx, hb, hml, hown, hts⟩ (c_X5_within l E p2 0 ((u.2 8) - 1)) (va_cwS 3 hts gX5_put_X5_within rfl rfl rfl hd_X5_within ⟨(Nat.le_of_ble_eq_true rfl), (Nat.le_of_ble_eq_true rfl)⟩) hF hS hA (hP.sub [] rfl) rfl hl.1 rfl (Nat.le_of_ble_eq_true rfl) ⟨(Nat.le_of_ble_eq_true rfl), (Nat.le_of_ble_eq_true rfl)⟩ dX5_put_35 ?_
      refine W.eq (g2 := F0 m 38 ls [.int (s_X5_within p2 0 ((u.2 8) - 1))]) rfl ?_
      refine lv_if_ne (tgt := 44) hx hb dX5_put_38 rfl (fun q3 => ?_) (fun q3 => ?_)
      · have hR := hR.trans (if_neg q3)
        refine lv_aload hx hb dX5_put_44 (lv_at hl 0 rfl) ?_
        refine lv_iload_n hx hb dX5_put_46 rfl (lv_at hl 3 rfl) ?_
        refine lv_iload_n hx hb dX5_put_47 rfl (lv_at hl 4 rfl) ?_
        refine xMdV (nL := 5) ⟨hx, hb, hml, hown, hts⟩ (c_X3_write l E (a 17) (a 21) (uS u 0) p2 p3 ⟨xnd2 hL.1 (i := 17) (j := 21) rfl rfl (by decide), xsub2 (hL.2 _ (List.mem_of_getElem? (i := 17) rfl)) (hL.2 _ (List.mem_of_getElem? (i := 21) rfl))⟩) (cwV 2 hts gX5_put_X3_write rfl rfl rfl ⟨rfl, hd_X3_write⟩ ⟨(Nat.le_of_ble_eq_true rfl), (Nat.le_of_ble_eq_true rfl)⟩) hF hS hL.2 (xsub2 (List.mem_of_getElem? (i := 17) rfl) (List.mem_of_getElem? (i := 21) rfl)) (hP.sub [17, 21] rfl) (va_recv (q := (RX3, TX3, 3)) hK hP (ci := 3) rfl (q0 := 17) rfl) rfl hl.1 rfl (Nat.le_of_ble_eq_true rfl) ⟨(Nat.le_of_ble_eq_true rfl), (Nat.le_of_ble_eq_true rfl)⟩ dX5_put_48 (fun H1 locs hP1 hk hS => ?_)
        have hP : va_P (xD E) vwCl (wX E a (uP u 0 (s_X3_write (uS u 0) p2 p3))) H1 := xset2 hP (xD_of (ws := wX E a u) (A := (· ∈ LX a)) hL.1 (fun _ h => h)) (p := 17) (p' := 21) rfl rfl (by decide) hP1 hk
        generalize H1 = H at hP hS ⊢
        refine W.eq (g2 := F0 m 51 ls []) rfl ?_
        refine lv_iconst (v := 1) hx hb dX5_put_51 rfl ?_
        have hR : s_X5_put u p1 p2 p3 = (1, uP u 0 (s_X3_write (uS u 0) p2 p3)) := hR
        exact W.iret (v := 1) hx hb hr (fun t ht _ => by rw [hR]; dsimp only; exact ⟨⟨rfl, by rw [ht]; exact hP⟩, hS.F ht⟩) hS.2.2 dX5_put_52
      · have hR := hR.trans (if_pos q3)
        refine lv_bipush (v := (-12)) hx hb dX5_put_41 rfl ?_
        have hR : s_X5_put u p1 p2 p3 = ((-12), u) := hR
        exact W.iret (v := (-12)) hx hb hr (fun t ht _ => by rw [hR]; dsimp only; exact ⟨⟨rfl, by rw [ht]; exact hP⟩, hS.F ht⟩) hS.2.2 dX5_put_43
    · have hR := hR.trans (if_neg q2)
      refine lv_bipush (v := (-11)) hx hb dX5_put_23 rfl ?_
      have hR : s_X5_put u p1 p2 p3 = ((-11), u) := hR
      exact W.iret (v := (-11)) hx hb hr (fun t ht _ => by rw [hR]; dsimp only; exact ⟨⟨rfl, by rw [ht]; exact hP⟩, hS.F ht⟩) hS.2.2 dX5_put_25
  have hR := hR.trans (if_neg t1_0)
  by_cases t1_1 : p1 = 1
  · have hR := hR.trans (if_pos t1_1)
    refine xRoV (nL := 5) ⟨hx, hb, hml, hown, hts⟩ (c_X5_sheetOf l E a u p1 1 (by decide) t1_1) (cwV 1 hts gX5_put_X5_sheetOf rfl rfl rfl ⟨rfl, hd_X5_sheetOf⟩ ⟨(Nat.le_of_ble_eq_true rfl), (Nat.le_of_ble_eq_true rfl)⟩) hF hS hA hP (va_recv (q := (RX5, TX5, 9)) hK hP (ci := 5) rfl (q0 := 0) rfl) rfl hl.1 rfl (Nat.le_of_ble_eq_true rfl) ⟨(Nat.le_of_ble_eq_true rfl), (Nat.le_of_ble_eq_true rfl)⟩ dX5_put_2 ?_
    refine W.eq (g2 := F0 m 5 ls [.ref (a 18)]) rfl ?_
    refine lv_astore (lv' := [(4, .ref (a 18)), (0, .ref (a 0)), (1, .int p1), (2, .int p2), (3, .int p3)]) hx hb dX5_put_5 hl (by decide) rfl (fun ls hl => ?_)
    refine lv_aload hx hb dX5_put_7 (lv_at hl 0 rfl) ?_
    refine lv_ifnonnull (tgt := 15) hx hb dX5_put_9 rfl ?_
    refine lv_aload hx hb dX5_put_15 (lv_at hl 0 rfl) ?_
    refine xRoV (nL := 5) ⟨hx, hb, hml, hown, hts⟩ (c_X3_isMissing l E (a 18) (a 22) (uS u 1) ) (cwV 0 hts gX5_put_X3_isMissing rfl rfl rfl ⟨rfl, hd_X3_isMissing⟩ ⟨(Nat.le_of_ble_eq_true rfl), (Nat.le_of_ble_eq_true rfl)⟩) hF hS hA (hP.sub [18, 22] rfl) (va_recv (q := (RX3, TX3, 3)) hK hP (ci := 3) rfl (q0 := 18) rfl) rfl hl.1 rfl (Nat.le_of_ble_eq_true rfl) ⟨(Nat.le_of_ble_eq_true rfl), (Nat.le_of_ble_eq_true rfl)⟩ dX5_put_17 ?_
    refine W.eq (g2 := F0 m 20 ls [.int (s_X3_isMissing (uS u 1))]) rfl ?_
    refine lv_if_eq (tgt := 26) hx hb dX5_put_20 rfl (fun q4 => ?_) (fun q4 => ?_)
    · have hR := hR.trans (if_pos q4)
      refine lv_iload_n hx hb dX5_put_26 rfl (lv_at hl 3 rfl) ?_
      refine lv_iconst (v := 0) hx hb dX5_put_27 rfl ?_
      refine lv_aload hx hb dX5_put_28 (lv_at hl 0 rfl) ?_
      refine va_get (D := xD E) (ci := 3) (v := .int (u.2 9)) (C := RX3) (T := TX3) (N := 3) hx hb hts (by decide +kernel) hown hK hP 18 rfl rfl 2 (by decide) (hts (.fieldLink RX5 264 "RailOffsets$Sheet" "size" "I") (by decide +kernel)) (fun _ h => h) rfl dX5_put_30 ?_
      refine lv_iconst (v := 1) hx hb dX5_put_33 rfl ?_
      refine lv_isub hx hb dX5_put_34 ?_
      refine xRoS (nL := 5) ⟨hx, hb, hml, hown, hts⟩ (c_X5_within l E p2 0 ((u.2 9) - 1)) (va_cwS 3 hts gX5_put_X5_within rfl rfl rfl hd_X5_within ⟨(Nat.le_of_ble_eq_true rfl), (Nat.le_of_ble_eq_true rfl)⟩) hF hS hA (hP.sub [] rfl) rfl hl.1 rfl (Nat.le_of_ble_eq_true rfl) ⟨(Nat.le_of_ble_eq_true rfl), (Nat.le_of_ble_eq_true rfl)⟩ dX5_put_35 ?_
      refine W.eq (g2 := F0 m 38 ls [.int (s_X5_within p2 0 ((u.2 9) - 1))]) rfl ?_
      refine lv_if_ne (tgt := 44) hx hb dX5_put_38 rfl (fun q5 => ?_) (fun q5 => ?_)
      · have hR := hR.trans (if_neg q5)
        refine lv_aload hx hb dX5_put_44 (lv_at hl 0 rfl) ?_
        refine lv_iload_n hx hb dX5_put_46 rfl (lv_at hl 3 rfl) ?_
        refine lv_iload_n hx hb dX5_put_47 rfl (lv_at hl 4 rfl) ?_
        refine xMdV (nL := 5) ⟨hx, hb, hml, hown, hts⟩ (c_X3_write l E (a 18) (a 22) (uS u 1) p2 p3 ⟨xnd2 hL.1 (i := 18) (j := 22) rfl rfl (by decide), xsub2 (hL.2 _ (List.mem_of_getElem? (i := 18) rfl)) (hL.2 _ (List.mem_of_getElem? (i := 22) rfl))⟩) (cwV 2 hts gX5_put_X3_write rfl rfl rfl ⟨rfl, hd_X3_write⟩ ⟨(Nat.le_of_ble_eq_true rfl), (Nat.le_of_ble_eq_true rfl)⟩) hF hS hL.2 (xsub2 (List.mem_of_getElem? (i := 18) rfl) (List.mem_of_getElem? (i := 22) rfl)) (hP.sub [18, 22] rfl) (va_recv (q := (RX3, TX3, 3)) hK hP (ci := 3) rfl (q0 := 18) rfl) rfl hl.1 rfl (Nat.le_of_ble_eq_true rfl) ⟨(Nat.le_of_ble_eq_true rfl), (Nat.le_of_ble_eq_true rfl)⟩ dX5_put_48 (fun H1 locs hP1 hk hS => ?_)
        have hP : va_P (xD E) vwCl (wX E a (uP u 1 (s_X3_write (uS u 1) p2 p3))) H1 := xset2 hP (xD_of (ws := wX E a u) (A := (· ∈ LX a)) hL.1 (fun _ h => h)) (p := 18) (p' := 22) rfl rfl (by decide) hP1 hk
        generalize H1 = H at hP hS ⊢
        refine W.eq (g2 := F0 m 51 ls []) rfl ?_
        refine lv_iconst (v := 1) hx hb dX5_put_51 rfl ?_
        have hR : s_X5_put u p1 p2 p3 = (1, uP u 1 (s_X3_write (uS u 1) p2 p3)) := hR
        exact W.iret (v := 1) hx hb hr (fun t ht _ => by rw [hR]; dsimp only; exact ⟨⟨rfl, by rw [ht]; exact hP⟩, hS.F ht⟩) hS.2.2 dX5_put_52
      · have hR := hR.trans (if_pos q5)
        refine lv_bipush (v := (-12)) hx hb dX5_put_41 rfl ?_
        have hR : s_X5_put u p1 p2 p3 = ((-12), u) := hR
        exact W.iret (v := (-12)) hx hb hr (fun t ht _ => by rw [hR]; dsimp only; exact ⟨⟨rfl, by rw [ht]; exact hP⟩, hS.F ht⟩) hS.2.2 dX5_put_43
    · have hR := hR.trans (if_neg q4)
      refine lv_bipush (v := (-11)) hx hb dX5_put_23 rfl ?_
      have hR : s_X5_put u p1 p2 p3 = ((-11), u) := hR
      exact W.iret (v := (-11)) hx hb hr (fun t ht _ => by rw [hR]; dsimp only; exact ⟨⟨rfl, by rw [ht]; exact hP⟩, hS.F ht⟩) hS.2.2 dX5_put_25
  have hR := hR.trans (if_neg t1_1)
  by_cases t1_2 : p1 = 2
  · have hR := hR.trans (if_pos t1_2)
    refine xRoV (nL := 5) ⟨hx, hb, hml, hown, hts⟩ (c_X5_sheetOf l E a u p1 2 (by decide) t1_2) (cwV 1 hts gX5_put_X5_sheetOf rfl rfl rfl ⟨rfl, hd_X5_sheetOf⟩ ⟨(Nat.le_of_ble_eq_true rfl), (Nat.le_of_ble_eq_true rfl)⟩) hF hS hA hP (va_recv (q := (RX5, TX5, 9)) hK hP (ci := 5) rfl (q0 := 0) rfl) rfl hl.1 rfl (Nat.le_of_ble_eq_true rfl) ⟨(Nat.le_of_ble_eq_true rfl), (Nat.le_of_ble_eq_true rfl)⟩ dX5_put_2 ?_
    refine W.eq (g2 := F0 m 5 ls [.ref (a 19)]) rfl ?_
    refine lv_astore (lv' := [(4, .ref (a 19)), (0, .ref (a 0)), (1, .int p1), (2, .int p2), (3, .int p3)]) hx hb dX5_put_5 hl (by decide) rfl (fun ls hl => ?_)
    refine lv_aload hx hb dX5_put_7 (lv_at hl 0 rfl) ?_
    refine lv_ifnonnull (tgt := 15) hx hb dX5_put_9 rfl ?_
    refine lv_aload hx hb dX5_put_15 (lv_at hl 0 rfl) ?_
    refine xRoV (nL := 5) ⟨hx, hb, hml, hown, hts⟩ (c_X3_isMissing l E (a 19) (a 23) (uS u 2) ) (cwV 0 hts gX5_put_X3_isMissing rfl rfl rfl ⟨rfl, hd_X3_isMissing⟩ ⟨(Nat.le_of_ble_eq_true rfl), (Nat.le_of_ble_eq_true rfl)⟩) hF hS hA (hP.sub [19, 23] rfl) (va_recv (q := (RX3, TX3, 3)) hK hP (ci := 3) rfl (q0 := 19) rfl) rfl hl.1 rfl (Nat.le_of_ble_eq_true rfl) ⟨(Nat.le_of_ble_eq_true rfl), (Nat.le_of_ble_eq_true rfl)⟩ dX5_put_17 ?_
    refine W.eq (g2 := F0 m 20 ls [.int (s_X3_isMissing (uS u 2))]) rfl ?_
    refine lv_if_eq (tgt := 26) hx hb dX5_put_20 rfl (fun q6 => ?_) (fun q6 => ?_)
    · have hR := hR.trans (if_pos q6)
      refine lv_iload_n hx hb dX5_put_26 rfl (lv_at hl 3 rfl) ?_
      refine lv_iconst (v := 0) hx hb dX5_put_27 rfl ?_
      refine lv_aload hx hb dX5_put_28 (lv_at hl 0 rfl) ?_
      refine va_get (D := xD E) (ci := 3) (v := .int (u.2 10)) (C := RX3) (T := TX3) (N := 3) hx hb hts (by decide +kernel) hown hK hP 19 rfl rfl 2 (by decide) (hts (.fieldLink RX5 264 "RailOffsets$Sheet" "size" "I") (by decide +kernel)) (fun _ h => h) rfl dX5_put_30 ?_
      refine lv_iconst (v := 1) hx hb dX5_put_33 rfl ?_
      refine lv_isub hx hb dX5_put_34 ?_
      refine xRoS (nL := 5) ⟨hx, hb, hml, hown, hts⟩ (c_X5_within l E p2 0 ((u.2 10) - 1)) (va_cwS 3 hts gX5_put_X5_within rfl rfl rfl hd_X5_within ⟨(Nat.le_of_ble_eq_true rfl), (Nat.le_of_ble_eq_true rfl)⟩) hF hS hA (hP.sub [] rfl) rfl hl.1 rfl (Nat.le_of_ble_eq_true rfl) ⟨(Nat.le_of_ble_eq_true rfl), (Nat.le_of_ble_eq_true rfl)⟩ dX5_put_35 ?_
      refine W.eq (g2 := F0 m 38 ls [.int (s_X5_within p2 0 ((u.2 10) - 1))]) rfl ?_
      refine lv_if_ne (tgt := 44) hx hb dX5_put_38 rfl (fun q7 => ?_) (fun q7 => ?_)
      · have hR := hR.trans (if_neg q7)
        refine lv_aload hx hb dX5_put_44 (lv_at hl 0 rfl) ?_
        refine lv_iload_n hx hb dX5_put_46 rfl (lv_at hl 3 rfl) ?_
        refine lv_iload_n hx hb dX5_put_47 rfl (lv_at hl 4 rfl) ?_
        refine xMdV (nL := 5) ⟨hx, hb, hml, hown, hts⟩ (c_X3_write l E (a 19) (a 23) (uS u 2) p2 p3 ⟨xnd2 hL.1 (i := 19) (j := 23) rfl rfl (by decide), xsub2 (hL.2 _ (List.mem_of_getElem? (i := 19) rfl)) (hL.2 _ (List.mem_of_getElem? (i := 23) rfl))⟩) (cwV 2 hts gX5_put_X3_write rfl rfl rfl ⟨rfl, hd_X3_write⟩ ⟨(Nat.le_of_ble_eq_true rfl), (Nat.le_of_ble_eq_true rfl)⟩) hF hS hL.2 (xsub2 (List.mem_of_getElem? (i := 19) rfl) (List.mem_of_getElem? (i := 23) rfl)) (hP.sub [19, 23] rfl) (va_recv (q := (RX3, TX3, 3)) hK hP (ci := 3) rfl (q0 := 19) rfl) rfl hl.1 rfl (Nat.le_of_ble_eq_true rfl) ⟨(Nat.le_of_ble_eq_true rfl), (Nat.le_of_ble_eq_true rfl)⟩ dX5_put_48 (fun H1 locs hP1 hk hS => ?_)
        have hP : va_P (xD E) vwCl (wX E a (uP u 2 (s_X3_write (uS u 2) p2 p3))) H1 := xset2 hP (xD_of (ws := wX E a u) (A := (· ∈ LX a)) hL.1 (fun _ h => h)) (p := 19) (p' := 23) rfl rfl (by decide) hP1 hk
        generalize H1 = H at hP hS ⊢
        refine W.eq (g2 := F0 m 51 ls []) rfl ?_
        refine lv_iconst (v := 1) hx hb dX5_put_51 rfl ?_
        have hR : s_X5_put u p1 p2 p3 = (1, uP u 2 (s_X3_write (uS u 2) p2 p3)) := hR
        exact W.iret (v := 1) hx hb hr (fun t ht _ => by rw [hR]; dsimp only; exact ⟨⟨rfl, by rw [ht]; exact hP⟩, hS.F ht⟩) hS.2.2 dX5_put_52
      · have hR := hR.trans (if_pos q7)
        refine lv_bipush (v := (-12)) hx hb dX5_put_41 rfl ?_
        have hR : s_X5_put u p1 p2 p3 = ((-12), u) := hR
        exact W.iret (v := (-12)) hx hb hr (fun t ht _ => by rw [hR]; dsimp only; exact ⟨⟨rfl, by rw [ht]; exact hP⟩, hS.F ht⟩) hS.2.2 dX5_put_43
    · have hR := hR.trans (if_neg q6)
      refine lv_bipush (v := (-11)) hx hb dX5_put_23 rfl ?_
      have hR : s_X5_put u p1 p2 p3 = ((-11), u) := hR
      exact W.iret (v := (-11)) hx hb hr (fun t ht _ => by rw [hR]; dsimp only; exact ⟨⟨rfl, by rw [ht]; exact hP⟩, hS.F ht⟩) hS.2.2 dX5_put_25
  have hR := hR.trans (if_neg t1_2)
  by_cases t1_3 : p1 = 3
  · have hR := hR.trans (if_pos t1_3)
    refine xRoV (nL := 5) ⟨hx, hb, hml, hown, hts⟩ (c_X5_sheetOf l E a u p1 3 (by decide) t1_3) (cwV 1 hts gX5_put_X5_sheetOf rfl rfl rfl ⟨rfl, hd_X5_sheetOf⟩ ⟨(Nat.le_of_ble_eq_true rfl), (Nat.le_of_ble_eq_true rfl)⟩) hF hS hA hP (va_recv (q := (RX5, TX5, 9)) hK hP (ci := 5) rfl (q0 := 0) rfl) rfl hl.1 rfl (Nat.le_of_ble_eq_true rfl) ⟨(Nat.le_of_ble_eq_true rfl), (Nat.le_of_ble_eq_true rfl)⟩ dX5_put_2 ?_
    refine W.eq (g2 := F0 m 5 ls [.ref (a 20)]) rfl ?_
    refine lv_astore (lv' := [(4, .ref (a 20)), (0, .ref (a 0)), (1, .int p1), (2, .int p2), (3, .int p3)]) hx hb dX5_put_5 hl (by decide) rfl (fun ls hl => ?_)
    refine lv_aload hx hb dX5_put_7 (lv_at hl 0 rfl) ?_
    refine lv_ifnonnull (tgt := 15) hx hb dX5_put_9 rfl ?_
    refine lv_aload hx hb dX5_put_15 (lv_at hl 0 rfl) ?_
    refine xRoV (nL := 5) ⟨hx, hb, hml, hown, hts⟩ (c_X3_isMissing l E (a 20) (a 24) (uS u 3) ) (cwV 0 hts gX5_put_X3_isMissing rfl rfl rfl ⟨rfl, hd_X3_isMissing⟩ ⟨(Nat.le_of_ble_eq_true rfl), (Nat.le_of_ble_eq_true rfl)⟩) hF hS hA (hP.sub [20, 24] rfl) (va_recv (q := (RX3, TX3, 3)) hK hP (ci := 3) rfl (q0 := 20) rfl) rfl hl.1 rfl (Nat.le_of_ble_eq_true rfl) ⟨(Nat.le_of_ble_eq_true rfl), (Nat.le_of_ble_eq_true rfl)⟩ dX5_put_17 ?_
    refine W.eq (g2 := F0 m 20 ls [.int (s_X3_isMissing (uS u 3))]) rfl ?_
    refine lv_if_eq (tgt := 26) hx hb dX5_put_20 rfl (fun q8 => ?_) (fun q8 => ?_)
    · have hR := hR.trans (if_pos q8)
      refine lv_iload_n hx hb dX5_put_26 rfl (lv_at hl 3 rfl) ?_
      refine lv_iconst (v := 0) hx hb dX5_put_27 rfl ?_
      refine lv_aload hx hb dX5_put_28 (lv_at hl 0 rfl) ?_
      refine va_get (D := xD E) (ci := 3) (v := .int (u.2 11)) (C := RX3) (T := TX3) (N := 3) hx hb hts (by decide +kernel) hown hK hP 20 rfl rfl 2 (by decide) (hts (.fieldLink RX5 264 "RailOffsets$Sheet" "size" "I") (by decide +kernel)) (fun _ h => h) rfl dX5_put_30 ?_
      refine lv_iconst (v := 1) hx hb dX5_put_33 rfl ?_
      refine lv_isub hx hb dX5_put_34 ?_
      refine xRoS (nL := 5) ⟨hx, hb, hml, hown, hts⟩ (c_X5_within l E p2 0 ((u.2 11) - 1)) (va_cwS 3 hts gX5_put_X5_within rfl rfl rfl hd_X5_within ⟨(Nat.le_of_ble_eq_true rfl), (Nat.le_of_ble_eq_true rfl)⟩) hF hS hA (hP.sub [] rfl) rfl hl.1 rfl (Nat.le_of_ble_eq_true rfl) ⟨(Nat.le_of_ble_eq_true rfl), (Nat.le_of_ble_eq_true rfl)⟩ dX5_put_35 ?_
      refine W.eq (g2 := F0 m 38 ls [.int (s_X5_within p2 0 ((u.2 11) - 1))]) rfl ?_
      refine lv_if_ne (tgt := 44) hx hb dX5_put_38 rfl (fun q9 => ?_) (fun q9 => ?_)
      · have hR := hR.trans (if_neg q9)
        refine lv_aload hx hb dX5_put_44 (lv_at hl 0 rfl) ?_
        refine lv_iload_n hx hb dX5_put_46 rfl (lv_at hl 3 rfl) ?_
        refine lv_iload_n hx hb dX5_put_47 rfl (lv_at hl 4 rfl) ?_
        refine xMdV (nL := 5) ⟨hx, hb, hml, hown, hts⟩ (c_X3_write l E (a 20) (a 24) (uS u 3) p2 p3 ⟨xnd2 hL.1 (i := 20) (j := 24) rfl rfl (by decide), xsub2 (hL.2 _ (List.mem_of_getElem? (i := 20) rfl)) (hL.2 _ (List.mem_of_getElem? (i := 24) rfl))⟩) (cwV 2 hts gX5_put_X3_write rfl rfl rfl ⟨rfl, hd_X3_write⟩ ⟨(Nat.le_of_ble_eq_true rfl), (Nat.le_of_ble_eq_true rfl)⟩) hF hS hL.2 (xsub2 (List.mem_of_getElem? (i := 20) rfl) (List.mem_of_getElem? (i := 24) rfl)) (hP.sub [20, 24] rfl) (va_recv (q := (RX3, TX3, 3)) hK hP (ci := 3) rfl (q0 := 20) rfl) rfl hl.1 rfl (Nat.le_of_ble_eq_true rfl) ⟨(Nat.le_of_ble_eq_true rfl), (Nat.le_of_ble_eq_true rfl)⟩ dX5_put_48 (fun H1 locs hP1 hk hS => ?_)
        have hP : va_P (xD E) vwCl (wX E a (uP u 3 (s_X3_write (uS u 3) p2 p3))) H1 := xset2 hP (xD_of (ws := wX E a u) (A := (· ∈ LX a)) hL.1 (fun _ h => h)) (p := 20) (p' := 24) rfl rfl (by decide) hP1 hk
        generalize H1 = H at hP hS ⊢
        refine W.eq (g2 := F0 m 51 ls []) rfl ?_
        refine lv_iconst (v := 1) hx hb dX5_put_51 rfl ?_
        have hR : s_X5_put u p1 p2 p3 = (1, uP u 3 (s_X3_write (uS u 3) p2 p3)) := hR
        exact W.iret (v := 1) hx hb hr (fun t ht _ => by rw [hR]; dsimp only; exact ⟨⟨rfl, by rw [ht]; exact hP⟩, hS.F ht⟩) hS.2.2 dX5_put_52
      · have hR := hR.trans (if_pos q9)
        refine lv_bipush (v := (-12)) hx hb dX5_put_41 rfl ?_
        have hR : s_X5_put u p1 p2 p3 = ((-12), u) := hR
        exact W.iret (v := (-12)) hx hb hr (fun t ht _ => by rw [hR]; dsimp only; exact ⟨⟨rfl, by rw [ht]; exact hP⟩, hS.F ht⟩) hS.2.2 dX5_put_43
    · have hR := hR.trans (if_neg q8)
      refine lv_bipush (v := (-11)) hx hb dX5_put_23 rfl ?_
      have hR : s_X5_put u p1 p2 p3 = ((-11), u) := hR
      exact W.iret (v := (-11)) hx hb hr (fun t ht _ => by rw [hR]; dsimp only; exact ⟨⟨rfl, by rw [ht]; exact hP⟩, hS.F ht⟩) hS.2.2 dX5_put_25
  have hR := hR.trans (if_neg t1_3)
  refine xRoV (nL := 5) ⟨hx, hb, hml, hown, hts⟩ (c_X5_sheetOf_n l E a u p1 t1_0 t1_1 t1_2 t1_3) (cwV 1 hts gX5_put_X5_sheetOf rfl rfl rfl ⟨rfl, hd_X5_sheetOf⟩ ⟨(Nat.le_of_ble_eq_true rfl), (Nat.le_of_ble_eq_true rfl)⟩) hF hS hA hP (va_recv (q := (RX5, TX5, 9)) hK hP (ci := 5) rfl (q0 := 0) rfl) rfl hl.1 rfl (Nat.le_of_ble_eq_true rfl) ⟨(Nat.le_of_ble_eq_true rfl), (Nat.le_of_ble_eq_true rfl)⟩ dX5_put_2 ?_
  refine W.eq (g2 := F0 m 5 ls [.null]) rfl ?_
  refine lv_astoreN (lv' := [(4, .null), (0, .ref (a 0)), (1, .int p1), (2, .int p2), (3, .int p3)]) hx hb dX5_put_5 hl (by decide) rfl (fun ls hl => ?_)
  refine lv_aloadN hx hb dX5_put_7 (lv_at hl 0 rfl) ?_
  refine lv_ifnonnullN hx hb dX5_put_9 ?_
  refine lv_bipush (v := (-2)) hx hb dX5_put_12 rfl ?_
  have hR : s_X5_put u p1 p2 p3 = ((-2), u) := hR
  exact W.iret (v := (-2)) hx hb hr (fun t ht _ => by rw [hR]; dsimp only; exact ⟨⟨rfl, by rw [ht]; exact hP⟩, hS.F ht⟩) hS.2.2 dX5_put_14
def s_X5_copy (u : xU) (p1 : Int32) (p2 : Int32) (p3 : Int32) (p4 : Int32) (p5 : Int32) : Int32 × xU :=
  if p1 = 0 then
    if p3 = 0 then
      if (s_X3_isMissing (uS u 0)) = 0 then
        if (s_X3_isMissing (uS u 0)) = 0 then
          if (u.2 4) = (u.2 4) then
            if p5 < 0 then
              ((-12), u)
            else
              if (s_X5_within p2 0 ((u.2 8) - p5)) = 0 then
                ((-12), u)
              else
                if (s_X5_within p4 0 ((u.2 8) - p5)) = 0 then
                  ((-12), u)
                else
                  (p5, uR u 21 (va_cpy (u.1 21) (u.1 21) p2.toNatClampNeg p4.toNatClampNeg p5.toNatClampNeg))
          else
            ((-13), u)
        else
          ((-11), u)
      else
        ((-11), u)
    else
      if p3 = 1 then
        if (s_X3_isMissing (uS u 0)) = 0 then
          if (s_X3_isMissing (uS u 1)) = 0 then
            if (u.2 4) = (u.2 5) then
              if p5 < 0 then
                ((-12), u)
              else
                if (s_X5_within p2 0 ((u.2 8) - p5)) = 0 then
                  ((-12), u)
                else
                  if (s_X5_within p4 0 ((u.2 9) - p5)) = 0 then
                    ((-12), u)
                  else
                    (p5, uR u 22 (va_cpy (u.1 21) (u.1 22) p2.toNatClampNeg p4.toNatClampNeg p5.toNatClampNeg))
            else
              ((-13), u)
          else
            ((-11), u)
        else
          ((-11), u)
      else
        if p3 = 2 then
          if (s_X3_isMissing (uS u 0)) = 0 then
            if (s_X3_isMissing (uS u 2)) = 0 then
              if (u.2 4) = (u.2 6) then
                if p5 < 0 then
                  ((-12), u)
                else
                  if (s_X5_within p2 0 ((u.2 8) - p5)) = 0 then
                    ((-12), u)
                  else
                    if (s_X5_within p4 0 ((u.2 10) - p5)) = 0 then
                      ((-12), u)
                    else
                      (p5, uR u 23 (va_cpy (u.1 21) (u.1 23) p2.toNatClampNeg p4.toNatClampNeg p5.toNatClampNeg))
              else
                ((-13), u)
            else
              ((-11), u)
          else
            ((-11), u)
        else
          if p3 = 3 then
            if (s_X3_isMissing (uS u 0)) = 0 then
              if (s_X3_isMissing (uS u 3)) = 0 then
                if (u.2 4) = (u.2 7) then
                  if p5 < 0 then
                    ((-12), u)
                  else
                    if (s_X5_within p2 0 ((u.2 8) - p5)) = 0 then
                      ((-12), u)
                    else
                      if (s_X5_within p4 0 ((u.2 11) - p5)) = 0 then
                        ((-12), u)
                      else
                        (p5, uR u 24 (va_cpy (u.1 21) (u.1 24) p2.toNatClampNeg p4.toNatClampNeg p5.toNatClampNeg))
                else
                  ((-13), u)
              else
                ((-11), u)
            else
              ((-11), u)
          else
            ((-2), u)
  else
    if p1 = 1 then
      if p3 = 0 then
        if (s_X3_isMissing (uS u 1)) = 0 then
          if (s_X3_isMissing (uS u 0)) = 0 then
            if (u.2 5) = (u.2 4) then
              if p5 < 0 then
                ((-12), u)
              else
                if (s_X5_within p2 0 ((u.2 9) - p5)) = 0 then
                  ((-12), u)
                else
                  if (s_X5_within p4 0 ((u.2 8) - p5)) = 0 then
                    ((-12), u)
                  else
                    (p5, uR u 21 (va_cpy (u.1 22) (u.1 21) p2.toNatClampNeg p4.toNatClampNeg p5.toNatClampNeg))
            else
              ((-13), u)
          else
            ((-11), u)
        else
          ((-11), u)
      else
        if p3 = 1 then
          if (s_X3_isMissing (uS u 1)) = 0 then
            if (s_X3_isMissing (uS u 1)) = 0 then
              if (u.2 5) = (u.2 5) then
                if p5 < 0 then
                  ((-12), u)
                else
                  if (s_X5_within p2 0 ((u.2 9) - p5)) = 0 then
                    ((-12), u)
                  else
                    if (s_X5_within p4 0 ((u.2 9) - p5)) = 0 then
                      ((-12), u)
                    else
                      (p5, uR u 22 (va_cpy (u.1 22) (u.1 22) p2.toNatClampNeg p4.toNatClampNeg p5.toNatClampNeg))
              else
                ((-13), u)
            else
              ((-11), u)
          else
            ((-11), u)
        else
          if p3 = 2 then
            if (s_X3_isMissing (uS u 1)) = 0 then
              if (s_X3_isMissing (uS u 2)) = 0 then
                if (u.2 5) = (u.2 6) then
                  if p5 < 0 then
                    ((-12), u)
                  else
                    if (s_X5_within p2 0 ((u.2 9) - p5)) = 0 then
                      ((-12), u)
                    else
                      if (s_X5_within p4 0 ((u.2 10) - p5)) = 0 then
                        ((-12), u)
                      else
                        (p5, uR u 23 (va_cpy (u.1 22) (u.1 23) p2.toNatClampNeg p4.toNatClampNeg p5.toNatClampNeg))
                else
                  ((-13), u)
              else
                ((-11), u)
            else
              ((-11), u)
          else
            if p3 = 3 then
              if (s_X3_isMissing (uS u 1)) = 0 then
                if (s_X3_isMissing (uS u 3)) = 0 then
                  if (u.2 5) = (u.2 7) then
                    if p5 < 0 then
                      ((-12), u)
                    else
                      if (s_X5_within p2 0 ((u.2 9) - p5)) = 0 then
                        ((-12), u)
                      else
                        if (s_X5_within p4 0 ((u.2 11) - p5)) = 0 then
                          ((-12), u)
                        else
                          (p5, uR u 24 (va_cpy (u.1 22) (u.1 24) p2.toNatClampNeg p4.toNatClampNeg p5.toNatClampNeg))
                  else
                    ((-13), u)
                else
                  ((-11), u)
              else
                ((-11), u)
            else
              ((-2), u)
    else
      if p1 = 2 then
        if p3 = 0 then
          if (s_X3_isMissing (uS u 2)) = 0 then
            if (s_X3_isMissing (uS u 0)) = 0 then
              if (u.2 6) = (u.2 4) then
                if p5 < 0 then
                  ((-12), u)
                else
                  if (s_X5_within p2 0 ((u.2 10) - p5)) = 0 then
                    ((-12), u)
                  else
                    if (s_X5_within p4 0 ((u.2 8) - p5)) = 0 then
                      ((-12), u)
                    else
                      (p5, uR u 21 (va_cpy (u.1 23) (u.1 21) p2.toNatClampNeg p4.toNatClampNeg p5.toNatClampNeg))
              else
                ((-13), u)
            else
              ((-11), u)
          else
            ((-11), u)
        else
          if p3 = 1 then
            if (s_X3_isMissing (uS u 2)) = 0 then
              if (s_X3_isMissing (uS u 1)) = 0 then
                if (u.2 6) = (u.2 5) then
                  if p5 < 0 then
                    ((-12), u)
                  else
                    if (s_X5_within p2 0 ((u.2 10) - p5)) = 0 then
                      ((-12), u)
                    else
                      if (s_X5_within p4 0 ((u.2 9) - p5)) = 0 then
                        ((-12), u)
                      else
                        (p5, uR u 22 (va_cpy (u.1 23) (u.1 22) p2.toNatClampNeg p4.toNatClampNeg p5.toNatClampNeg))
                else
                  ((-13), u)
              else
                ((-11), u)
            else
              ((-11), u)
          else
            if p3 = 2 then
              if (s_X3_isMissing (uS u 2)) = 0 then
                if (s_X3_isMissing (uS u 2)) = 0 then
                  if (u.2 6) = (u.2 6) then
                    if p5 < 0 then
                      ((-12), u)
                    else
                      if (s_X5_within p2 0 ((u.2 10) - p5)) = 0 then
                        ((-12), u)
                      else
                        if (s_X5_within p4 0 ((u.2 10) - p5)) = 0 then
                          ((-12), u)
                        else
                          (p5, uR u 23 (va_cpy (u.1 23) (u.1 23) p2.toNatClampNeg p4.toNatClampNeg p5.toNatClampNeg))
                  else
                    ((-13), u)
                else
                  ((-11), u)
              else
                ((-11), u)
            else
              if p3 = 3 then
                if (s_X3_isMissing (uS u 2)) = 0 then
                  if (s_X3_isMissing (uS u 3)) = 0 then
                    if (u.2 6) = (u.2 7) then
                      if p5 < 0 then
                        ((-12), u)
                      else
                        if (s_X5_within p2 0 ((u.2 10) - p5)) = 0 then
                          ((-12), u)
                        else
                          if (s_X5_within p4 0 ((u.2 11) - p5)) = 0 then
                            ((-12), u)
                          else
                            (p5, uR u 24 (va_cpy (u.1 23) (u.1 24) p2.toNatClampNeg p4.toNatClampNeg p5.toNatClampNeg))
                    else
                      ((-13), u)
                  else
                    ((-11), u)
                else
                  ((-11), u)
              else
                ((-2), u)
      else
        if p1 = 3 then
          if p3 = 0 then
            if (s_X3_isMissing (uS u 3)) = 0 then
              if (s_X3_isMissing (uS u 0)) = 0 then
                if (u.2 7) = (u.2 4) then
                  if p5 < 0 then
                    ((-12), u)
                  else
                    if (s_X5_within p2 0 ((u.2 11) - p5)) = 0 then
                      ((-12), u)
                    else
                      if (s_X5_within p4 0 ((u.2 8) - p5)) = 0 then
                        ((-12), u)
                      else
                        (p5, uR u 21 (va_cpy (u.1 24) (u.1 21) p2.toNatClampNeg p4.toNatClampNeg p5.toNatClampNeg))
                else
                  ((-13), u)
              else
                ((-11), u)
            else
              ((-11), u)
          else
            if p3 = 1 then
              if (s_X3_isMissing (uS u 3)) = 0 then
                if (s_X3_isMissing (uS u 1)) = 0 then
                  if (u.2 7) = (u.2 5) then
                    if p5 < 0 then
                      ((-12), u)
                    else
                      if (s_X5_within p2 0 ((u.2 11) - p5)) = 0 then
                        ((-12), u)
                      else
                        if (s_X5_within p4 0 ((u.2 9) - p5)) = 0 then
                          ((-12), u)
                        else
                          (p5, uR u 22 (va_cpy (u.1 24) (u.1 22) p2.toNatClampNeg p4.toNatClampNeg p5.toNatClampNeg))
                  else
                    ((-13), u)
                else
                  ((-11), u)
              else
                ((-11), u)
            else
              if p3 = 2 then
                if (s_X3_isMissing (uS u 3)) = 0 then
                  if (s_X3_isMissing (uS u 2)) = 0 then
                    if (u.2 7) = (u.2 6) then
                      if p5 < 0 then
                        ((-12), u)
                      else
                        if (s_X5_within p2 0 ((u.2 11) - p5)) = 0 then
                          ((-12), u)
                        else
                          if (s_X5_within p4 0 ((u.2 10) - p5)) = 0 then
                            ((-12), u)
                          else
                            (p5, uR u 23 (va_cpy (u.1 24) (u.1 23) p2.toNatClampNeg p4.toNatClampNeg p5.toNatClampNeg))
                    else
                      ((-13), u)
                  else
                    ((-11), u)
                else
                  ((-11), u)
              else
                if p3 = 3 then
                  if (s_X3_isMissing (uS u 3)) = 0 then
                    if (s_X3_isMissing (uS u 3)) = 0 then
                      if (u.2 7) = (u.2 7) then
                        if p5 < 0 then
                          ((-12), u)
                        else
                          if (s_X5_within p2 0 ((u.2 11) - p5)) = 0 then
                            ((-12), u)
                          else
                            if (s_X5_within p4 0 ((u.2 11) - p5)) = 0 then
                              ((-12), u)
                            else
                              (p5, uR u 24 (va_cpy (u.1 24) (u.1 24) p2.toNatClampNeg p4.toNatClampNeg p5.toNatClampNeg))
                      else
                        ((-13), u)
                    else
                      ((-11), u)
                  else
                    ((-11), u)
                else
                  ((-2), u)
        else
          if p3 = 0 then
            ((-2), u)
          else
            if p3 = 1 then
              ((-2), u)
            else
              if p3 = 2 then
                ((-2), u)
              else
                if p3 = 3 then
                  ((-2), u)
                else
                  ((-2), u)
abbrev rm_X5_copy : Room := { frames := 2, cells := 0, slots := 0, locals := 43 }
set_option maxHeartbeats 8000000 in
set_option maxRecDepth 100000 in
theorem c_X5_copy (l : Launch) (E : xG) (a : Nat → Nat) (u : xU) (p1 : Int32) (p2 : Int32) (p3 : Int32) (p4 : Int32) (p5 : Int32) (hp0 : ∀ k, k < 4 → 0 ≤ (u.2 (8 + k)).toInt ∧ (u.2 (8 + k)).toInt ≤ 40) (hL : xOK E (LX a)) : xMd l E yX5_copy wsX5_copy rm_X5_copy (LX a) [.ref (a 0), .int p1, .int p2, .int p3, .int p4, .int p5] (wX E a u) (some (.int ((s_X5_copy u p1 p2 p3 p4 p5).1))) (wX E a ((s_X5_copy u p1 p2 p3 p4 p5).2)) := by
  refine xMd.of (cc := cX5_copy) (maxL := 8) (ret := (some .int)) (by decide) rfl (Nat.le_of_ble_eq_true rfl) ?_
  intro p e s m below meth c ls hAt hF hP hS hl
  obtain ⟨hx, hb, hr, hml, hown, hts, hlocks, -⟩ := hAt
  have hown : s.vm.findClass RX5 = some m.cls := hown
  have hl : lv_has ls 8 [(0, .ref (a 0)), (1, .int p1), (2, .int p2), (3, .int p3), (4, .int p4), (5, .int p5)] := hl
  have hK := hF.1
  have hA := hL.2
  change W p l e rm_X5_copy s m ([.ref (a 0), .int p1, .int p2, .int p3, .int p4, .int p5] : List Value).toArray below meth c s.heap [] 0 0 (xQmd E below (LX a) (some (.int ((s_X5_copy u p1 p2 p3 p4 p5).1))) (wX E a ((s_X5_copy u p1 p2 p3 p4 p5).2)) ([.ref (a 0), .int p1, .int p2, .int p3, .int p4, .int p5] : List Value).toArray s) _
  have hS : va_S (· ∈ LX a) s.heap s.heap [] := hS
  have hR : s_X5_copy u p1 p2 p3 p4 p5 = s_X5_copy u p1 p2 p3 p4 p5 := rfl
  refine lv_aload_n hx hb dX5_copy_0 rfl (lv_at hl 0 rfl) ?_
  refine lv_iload_n hx hb dX5_copy_1 rfl (lv_at hl 1 rfl) ?_
  by_cases t1_0 : p1 = 0
  · have hR := hR.trans (if_pos t1_0)
    refine xRoV (nL := 8) ⟨hx, hb, hml, hown, hts⟩ (c_X5_sheetOf l E a u p1 0 (by decide) t1_0) (cwV 1 hts gX5_copy_X5_sheetOf rfl rfl rfl ⟨rfl, hd_X5_sheetOf⟩ ⟨(Nat.le_of_ble_eq_true rfl), (Nat.le_of_ble_eq_true rfl)⟩) hF hS hA hP (va_recv (q := (RX5, TX5, 9)) hK hP (ci := 5) rfl (q0 := 0) rfl) rfl hl.1 rfl (Nat.le_of_ble_eq_true rfl) ⟨(Nat.le_of_ble_eq_true rfl), (Nat.le_of_ble_eq_true rfl)⟩ dX5_copy_2 ?_
    refine W.eq (g2 := F0 m 5 ls [.ref (a 17)]) rfl ?_
    refine lv_astore (lv' := [(6, .ref (a 17)), (0, .ref (a 0)), (1, .int p1), (2, .int p2), (3, .int p3), (4, .int p4), (5, .int p5)]) hx hb dX5_copy_5 hl (by decide) rfl (fun ls hl => ?_)
    refine lv_aload_n hx hb dX5_copy_7 rfl (lv_at hl 1 rfl) ?_
    refine lv_iload_n hx hb dX5_copy_8 rfl (lv_at hl 4 rfl) ?_
    by_cases t2_0 : p3 = 0
    · have hR := hR.trans (if_pos t2_0)
      refine xRoV (nL := 8) ⟨hx, hb, hml, hown, hts⟩ (c_X5_sheetOf l E a u p3 0 (by decide) t2_0) (cwV 1 hts gX5_copy_X5_sheetOf rfl rfl rfl ⟨rfl, hd_X5_sheetOf⟩ ⟨(Nat.le_of_ble_eq_true rfl), (Nat.le_of_ble_eq_true rfl)⟩) hF hS hA hP (va_recv (q := (RX5, TX5, 9)) hK hP (ci := 5) rfl (q0 := 0) rfl) rfl hl.1 rfl (Nat.le_of_ble_eq_true rfl) ⟨(Nat.le_of_ble_eq_true rfl), (Nat.le_of_ble_eq_true rfl)⟩ dX5_copy_9 ?_
      refine W.eq (g2 := F0 m 12 ls [.ref (a 17)]) rfl ?_
      refine lv_astore (lv' := [(7, .ref (a 17)), (6, .ref (a 17)), (0, .ref (a 0)), (1, .int p1), (2, .int p2), (3, .int p3), (4, .int p4), (5, .int p5)]) hx hb dX5_copy_12 hl (by decide) rfl (fun ls hl => ?_)
      refine lv_aload hx hb dX5_copy_14 (lv_at hl 1 rfl) ?_
      refine lv_ifnull hx hb dX5_copy_16 ?_
      refine lv_aload hx hb dX5_copy_19 (lv_at hl 0 rfl) ?_
      refine lv_ifnonnull (tgt := 27) hx hb dX5_copy_21 rfl ?_
      refine lv_aload hx hb dX5_copy_27 (lv_at hl 1 rfl) ?_
      refine xRoV (nL := 8) ⟨hx, hb, hml, hown, hts⟩ (c_X3_isMissing l E (a 17) (a 21) (uS u 0) ) (cwV 0 hts gX5_copy_X3_isMissing rfl rfl rfl ⟨rfl, hd_X3_isMissing⟩ ⟨(Nat.le_of_ble_eq_true rfl), (Nat.le_of_ble_eq_true rfl)⟩) hF hS hA (hP.sub [17, 21] rfl) (va_recv (q := (RX3, TX3, 3)) hK hP (ci := 3) rfl (q0 := 17) rfl) rfl hl.1 rfl (Nat.le_of_ble_eq_true rfl) ⟨(Nat.le_of_ble_eq_true rfl), (Nat.le_of_ble_eq_true rfl)⟩ dX5_copy_29 ?_
      refine W.eq (g2 := F0 m 32 ls [.int (s_X3_isMissing (uS u 0))]) rfl ?_
      refine lv_if_ne (tgt := 43) hx hb dX5_copy_32 rfl (fun q3 => ?_) (fun q3 => ?_)
      · have hR := hR.trans (if_neg q3)
        refine lv_bipush (v := (-11)) hx hb dX5_copy_43 rfl ?_
        have hR : s_X5_copy u p1 p2 p3 p4 p5 = ((-11), u) := hR
        exact W.iret (v := (-11)) hx hb hr (fun t ht _ => by rw [hR]; dsimp only; exact ⟨⟨rfl, by rw [ht]; exact hP⟩, hS.F ht⟩) hS.2.2 dX5_copy_45
      · have hR := hR.trans (if_pos q3)
        refine lv_aload hx hb dX5_copy_35 (lv_at hl 0 rfl) ?_
        refine xRoV (nL := 8) ⟨hx, hb, hml, hown, hts⟩ (c_X3_isMissing l E (a 17) (a 21) (uS u 0) ) (cwV 0 hts gX5_copy_X3_isMissing rfl rfl rfl ⟨rfl, hd_X3_isMissing⟩ ⟨(Nat.le_of_ble_eq_true rfl), (Nat.le_of_ble_eq_true rfl)⟩) hF hS hA (hP.sub [17, 21] rfl) (va_recv (q := (RX3, TX3, 3)) hK hP (ci := 3) rfl (q0 := 17) rfl) rfl hl.1 rfl (Nat.le_of_ble_eq_true rfl) ⟨(Nat.le_of_ble_eq_true rfl), (Nat.le_of_ble_eq_true rfl)⟩ dX5_copy_37 ?_
        refine W.eq (g2 := F0 m 40 ls [.int (s_X3_isMissing (uS u 0))]) rfl ?_
        refine lv_if_eq (tgt := 46) hx hb dX5_copy_40 rfl (fun q4 => ?_) (fun q4 => ?_)
        · have hR := hR.trans (if_pos q4)
          refine lv_aload hx hb dX5_copy_46 (lv_at hl 1 rfl) ?_
          refine va_get (D := xD E) (ci := 3) (v := .int (u.2 4)) (C := RX3) (T := TX3) (N := 3) hx hb hts (by decide +kernel) hown hK hP 17 rfl rfl 1 (by decide) (hts (.fieldLink RX5 329 "RailOffsets$Sheet" "sort" "I") (by decide +kernel)) (fun _ h => h) rfl dX5_copy_48 ?_
          refine lv_aload hx hb dX5_copy_51 (lv_at hl 0 rfl) ?_
          refine va_get (D := xD E) (ci := 3) (v := .int (u.2 4)) (C := RX3) (T := TX3) (N := 3) hx hb hts (by decide +kernel) hown hK hP 17 rfl rfl 1 (by decide) (hts (.fieldLink RX5 329 "RailOffsets$Sheet" "sort" "I") (by decide +kernel)) (fun _ h => h) rfl dX5_copy_53 ?_
          refine lv_icmp_eq (tgt := 62) hx hb dX5_copy_56 rfl (fun q5 => ?_) (fun q5 => ?_)
          · have hR := hR.trans (if_pos q5)
            refine lv_iload hx hb dX5_copy_62 (lv_at hl 7 rfl) ?_
            refine lv_if_lt (tgt := 100) hx hb dX5_copy_64 rfl (fun q6 => ?_) (fun q6 => ?_)
            · have hR := hR.trans (if_pos q6)
              refine lv_bipush (v := (-12)) hx hb dX5_copy_100 rfl ?_
              have hR : s_X5_copy u p1 p2 p3 p4 p5 = ((-12), u) := hR
              exact W.iret (v := (-12)) hx hb hr (fun t ht _ => by rw [hR]; dsimp only; exact ⟨⟨rfl, by rw [ht]; exact hP⟩, hS.F ht⟩) hS.2.2 dX5_copy_102
            · have hR := hR.trans (if_neg q6)
              refine lv_iload_n hx hb dX5_copy_67 rfl (lv_at hl 4 rfl) ?_
              refine lv_iconst (v := 0) hx hb dX5_copy_68 rfl ?_
              refine lv_aload hx hb dX5_copy_69 (lv_at hl 1 rfl) ?_
              refine va_get (D := xD E) (ci := 3) (v := .int (u.2 8)) (C := RX3) (T := TX3) (N := 3) hx hb hts (by decide +kernel) hown hK hP 17 rfl rfl 2 (by decide) (hts (.fieldLink RX5 264 "RailOffsets$Sheet" "size" "I") (by decide +kernel)) (fun _ h => h) rfl dX5_copy_71 ?_
              refine lv_iload hx hb dX5_copy_74 (lv_at hl 7 rfl) ?_
              refine lv_isub hx hb dX5_copy_76 ?_
              refine xRoS (nL := 8) ⟨hx, hb, hml, hown, hts⟩ (c_X5_within l E p2 0 ((u.2 8) - p5)) (va_cwS 3 hts gX5_copy_X5_within rfl rfl rfl hd_X5_within ⟨(Nat.le_of_ble_eq_true rfl), (Nat.le_of_ble_eq_true rfl)⟩) hF hS hA (hP.sub [] rfl) rfl hl.1 rfl (Nat.le_of_ble_eq_true rfl) ⟨(Nat.le_of_ble_eq_true rfl), (Nat.le_of_ble_eq_true rfl)⟩ dX5_copy_77 ?_
              refine W.eq (g2 := F0 m 80 ls [.int (s_X5_within p2 0 ((u.2 8) - p5))]) rfl ?_
              refine lv_if_eq (tgt := 100) hx hb dX5_copy_80 rfl (fun q7 => ?_) (fun q7 => ?_)
              · have hR := hR.trans (if_pos q7)
                refine lv_bipush (v := (-12)) hx hb dX5_copy_100 rfl ?_
                have hR : s_X5_copy u p1 p2 p3 p4 p5 = ((-12), u) := hR
                exact W.iret (v := (-12)) hx hb hr (fun t ht _ => by rw [hR]; dsimp only; exact ⟨⟨rfl, by rw [ht]; exact hP⟩, hS.F ht⟩) hS.2.2 dX5_copy_102
              · have hR := hR.trans (if_neg q7)
                refine lv_iload hx hb dX5_copy_83 (lv_at hl 6 rfl) ?_
                refine lv_iconst (v := 0) hx hb dX5_copy_85 rfl ?_
                refine lv_aload hx hb dX5_copy_86 (lv_at hl 0 rfl) ?_
                refine va_get (D := xD E) (ci := 3) (v := .int (u.2 8)) (C := RX3) (T := TX3) (N := 3) hx hb hts (by decide +kernel) hown hK hP 17 rfl rfl 2 (by decide) (hts (.fieldLink RX5 264 "RailOffsets$Sheet" "size" "I") (by decide +kernel)) (fun _ h => h) rfl dX5_copy_88 ?_
                refine lv_iload hx hb dX5_copy_91 (lv_at hl 7 rfl) ?_
                refine lv_isub hx hb dX5_copy_93 ?_
                refine xRoS (nL := 8) ⟨hx, hb, hml, hown, hts⟩ (c_X5_within l E p4 0 ((u.2 8) - p5)) (va_cwS 3 hts gX5_copy_X5_within rfl rfl rfl hd_X5_within ⟨(Nat.le_of_ble_eq_true rfl), (Nat.le_of_ble_eq_true rfl)⟩) hF hS hA (hP.sub [] rfl) rfl hl.1 rfl (Nat.le_of_ble_eq_true rfl) ⟨(Nat.le_of_ble_eq_true rfl), (Nat.le_of_ble_eq_true rfl)⟩ dX5_copy_94 ?_
                refine W.eq (g2 := F0 m 97 ls [.int (s_X5_within p4 0 ((u.2 8) - p5))]) rfl ?_
                refine lv_if_ne (tgt := 103) hx hb dX5_copy_97 rfl (fun q8 => ?_) (fun q8 => ?_)
                · have hR := hR.trans (if_neg q8)
                  refine lv_aload hx hb dX5_copy_103 (lv_at hl 1 rfl) ?_
                  refine va_get (D := xD E) (ci := 3) (v := .ref (a 21)) (C := RX3) (T := TX3) (N := 3) hx hb hts (by decide +kernel) hown hK hP 17 rfl rfl 0 (by decide) (hts (.fieldLink RX5 340 "RailOffsets$Sheet" "items" "[I") (by decide +kernel)) (fun _ h => h) rfl dX5_copy_105 ?_
                  refine lv_iload_n hx hb dX5_copy_108 rfl (lv_at hl 4 rfl) ?_
                  refine lv_aload hx hb dX5_copy_109 (lv_at hl 0 rfl) ?_
                  refine va_get (D := xD E) (ci := 3) (v := .ref (a 21)) (C := RX3) (T := TX3) (N := 3) hx hb hts (by decide +kernel) hown hK hP 17 rfl rfl 0 (by decide) (hts (.fieldLink RX5 340 "RailOffsets$Sheet" "items" "[I") (by decide +kernel)) (fun _ h => h) rfl dX5_copy_111 ?_
                  refine lv_iload hx hb dX5_copy_114 (lv_at hl 6 rfl) ?_
                  refine lv_iload hx hb dX5_copy_116 (lv_at hl 7 rfl) ?_
                  refine va_copyi (ty := .int) hx hb (hml.trans hl.1.symm) hown (hts (.methodLink RX5 323 arraycopyName) (by decide +kernel)) (hts (.native arraycopyName) (by decide +kernel)) (hts (.static arraycopyName) (by decide +kernel)) (hts (.initialized "java/lang/System") (by decide +kernel)) hK hP (xD_of (ws := wX E a u) (A := (· ∈ LX a)) hL.1 (fun _ h => h)) hS 21 21 0 0 rfl rfl rfl rfl rfl (xcp1 (by assumption)) (xcp1 (by assumption)) (by assumption) (xcp2 (s := u.2 (8 + 0)) (hp0 0 (by decide)) (by assumption) (by assumption)) (xcp2 (s := u.2 (8 + 0)) (hp0 0 (by decide)) (by assumption) (by assumption)) (fun _ _ => rfl) (Nat.le_of_ble_eq_true rfl) (Nat.le_of_ble_eq_true rfl) dX5_copy_118 (fun H locs hP _ hS => ?_)
                  have hP : va_P (xD E) vwCl (wX E a (uR u 21 (va_cpy (u.1 21) (u.1 21) p2.toNatClampNeg p4.toNatClampNeg p5.toNatClampNeg))) H := hP
                  refine W.eq (g2 := F0 m 121 ls []) rfl ?_
                  refine lv_iload hx hb dX5_copy_121 (lv_at hl 7 rfl) ?_
                  have hR : s_X5_copy u p1 p2 p3 p4 p5 = (p5, uR u 21 (va_cpy (u.1 21) (u.1 21) p2.toNatClampNeg p4.toNatClampNeg p5.toNatClampNeg)) := hR
                  exact W.iret (v := p5) hx hb hr (fun t ht _ => by rw [hR]; dsimp only; exact ⟨⟨rfl, by rw [ht]; exact hP⟩, hS.F ht⟩) hS.2.2 dX5_copy_123
                · have hR := hR.trans (if_pos q8)
                  refine lv_bipush (v := (-12)) hx hb dX5_copy_100 rfl ?_
                  have hR : s_X5_copy u p1 p2 p3 p4 p5 = ((-12), u) := hR
                  exact W.iret (v := (-12)) hx hb hr (fun t ht _ => by rw [hR]; dsimp only; exact ⟨⟨rfl, by rw [ht]; exact hP⟩, hS.F ht⟩) hS.2.2 dX5_copy_102
          · have hR := hR.trans (if_neg q5)
            refine lv_bipush (v := (-13)) hx hb dX5_copy_59 rfl ?_
            have hR : s_X5_copy u p1 p2 p3 p4 p5 = ((-13), u) := hR
            exact W.iret (v := (-13)) hx hb hr (fun t ht _ => by rw [hR]; dsimp only; exact ⟨⟨rfl, by rw [ht]; exact hP⟩, hS.F ht⟩) hS.2.2 dX5_copy_61
        · have hR := hR.trans (if_neg q4)
          refine lv_bipush (v := (-11)) hx hb dX5_copy_43 rfl ?_
          have hR : s_X5_copy u p1 p2 p3 p4 p5 = ((-11), u) := hR
          exact W.iret (v := (-11)) hx hb hr (fun t ht _ => by rw [hR]; dsimp only; exact ⟨⟨rfl, by rw [ht]; exact hP⟩, hS.F ht⟩) hS.2.2 dX5_copy_45
    have hR := hR.trans (if_neg t2_0)
    by_cases t2_1 : p3 = 1
    · have hR := hR.trans (if_pos t2_1)
      refine xRoV (nL := 8) ⟨hx, hb, hml, hown, hts⟩ (c_X5_sheetOf l E a u p3 1 (by decide) t2_1) (cwV 1 hts gX5_copy_X5_sheetOf rfl rfl rfl ⟨rfl, hd_X5_sheetOf⟩ ⟨(Nat.le_of_ble_eq_true rfl), (Nat.le_of_ble_eq_true rfl)⟩) hF hS hA hP (va_recv (q := (RX5, TX5, 9)) hK hP (ci := 5) rfl (q0 := 0) rfl) rfl hl.1 rfl (Nat.le_of_ble_eq_true rfl) ⟨(Nat.le_of_ble_eq_true rfl), (Nat.le_of_ble_eq_true rfl)⟩ dX5_copy_9 ?_
      refine W.eq (g2 := F0 m 12 ls [.ref (a 18)]) rfl ?_
      refine lv_astore (lv' := [(7, .ref (a 18)), (6, .ref (a 17)), (0, .ref (a 0)), (1, .int p1), (2, .int p2), (3, .int p3), (4, .int p4), (5, .int p5)]) hx hb dX5_copy_12 hl (by decide) rfl (fun ls hl => ?_)
      refine lv_aload hx hb dX5_copy_14 (lv_at hl 1 rfl) ?_
      refine lv_ifnull hx hb dX5_copy_16 ?_
      refine lv_aload hx hb dX5_copy_19 (lv_at hl 0 rfl) ?_
      refine lv_ifnonnull (tgt := 27) hx hb dX5_copy_21 rfl ?_
      refine lv_aload hx hb dX5_copy_27 (lv_at hl 1 rfl) ?_
      refine xRoV (nL := 8) ⟨hx, hb, hml, hown, hts⟩ (c_X3_isMissing l E (a 17) (a 21) (uS u 0) ) (cwV 0 hts gX5_copy_X3_isMissing rfl rfl rfl ⟨rfl, hd_X3_isMissing⟩ ⟨(Nat.le_of_ble_eq_true rfl), (Nat.le_of_ble_eq_true rfl)⟩) hF hS hA (hP.sub [17, 21] rfl) (va_recv (q := (RX3, TX3, 3)) hK hP (ci := 3) rfl (q0 := 17) rfl) rfl hl.1 rfl (Nat.le_of_ble_eq_true rfl) ⟨(Nat.le_of_ble_eq_true rfl), (Nat.le_of_ble_eq_true rfl)⟩ dX5_copy_29 ?_
      refine W.eq (g2 := F0 m 32 ls [.int (s_X3_isMissing (uS u 0))]) rfl ?_
      refine lv_if_ne (tgt := 43) hx hb dX5_copy_32 rfl (fun q9 => ?_) (fun q9 => ?_)
      · have hR := hR.trans (if_neg q9)
        refine lv_bipush (v := (-11)) hx hb dX5_copy_43 rfl ?_
        have hR : s_X5_copy u p1 p2 p3 p4 p5 = ((-11), u) := hR
        exact W.iret (v := (-11)) hx hb hr (fun t ht _ => by rw [hR]; dsimp only; exact ⟨⟨rfl, by rw [ht]; exact hP⟩, hS.F ht⟩) hS.2.2 dX5_copy_45
      · have hR := hR.trans (if_pos q9)
        refine lv_aload hx hb dX5_copy_35 (lv_at hl 0 rfl) ?_
        refine xRoV (nL := 8) ⟨hx, hb, hml, hown, hts⟩ (c_X3_isMissing l E (a 18) (a 22) (uS u 1) ) (cwV 0 hts gX5_copy_X3_isMissing rfl rfl rfl ⟨rfl, hd_X3_isMissing⟩ ⟨(Nat.le_of_ble_eq_true rfl), (Nat.le_of_ble_eq_true rfl)⟩) hF hS hA (hP.sub [18, 22] rfl) (va_recv (q := (RX3, TX3, 3)) hK hP (ci := 3) rfl (q0 := 18) rfl) rfl hl.1 rfl (Nat.le_of_ble_eq_true rfl) ⟨(Nat.le_of_ble_eq_true rfl), (Nat.le_of_ble_eq_true rfl)⟩ dX5_copy_37 ?_
        refine W.eq (g2 := F0 m 40 ls [.int (s_X3_isMissing (uS u 1))]) rfl ?_
        refine lv_if_eq (tgt := 46) hx hb dX5_copy_40 rfl (fun q10 => ?_) (fun q10 => ?_)
        · have hR := hR.trans (if_pos q10)
          refine lv_aload hx hb dX5_copy_46 (lv_at hl 1 rfl) ?_
          refine va_get (D := xD E) (ci := 3) (v := .int (u.2 4)) (C := RX3) (T := TX3) (N := 3) hx hb hts (by decide +kernel) hown hK hP 17 rfl rfl 1 (by decide) (hts (.fieldLink RX5 329 "RailOffsets$Sheet" "sort" "I") (by decide +kernel)) (fun _ h => h) rfl dX5_copy_48 ?_
          refine lv_aload hx hb dX5_copy_51 (lv_at hl 0 rfl) ?_
          refine va_get (D := xD E) (ci := 3) (v := .int (u.2 5)) (C := RX3) (T := TX3) (N := 3) hx hb hts (by decide +kernel) hown hK hP 18 rfl rfl 1 (by decide) (hts (.fieldLink RX5 329 "RailOffsets$Sheet" "sort" "I") (by decide +kernel)) (fun _ h => h) rfl dX5_copy_53 ?_
          refine lv_icmp_eq (tgt := 62) hx hb dX5_copy_56 rfl (fun q11 => ?_) (fun q11 => ?_)
          · have hR := hR.trans (if_pos q11)
            refine lv_iload hx hb dX5_copy_62 (lv_at hl 7 rfl) ?_
            refine lv_if_lt (tgt := 100) hx hb dX5_copy_64 rfl (fun q12 => ?_) (fun q12 => ?_)
            · have hR := hR.trans (if_pos q12)
              refine lv_bipush (v := (-12)) hx hb dX5_copy_100 rfl ?_
              have hR : s_X5_copy u p1 p2 p3 p4 p5 = ((-12), u) := hR
              exact W.iret (v := (-12)) hx hb hr (fun t ht _ => by rw [hR]; dsimp only; exact ⟨⟨rfl, by rw [ht]; exact hP⟩, hS.F ht⟩) hS.2.2 dX5_copy_102
            · have hR := hR.trans (if_neg q12)
              refine lv_iload_n hx hb dX5_copy_67 rfl (lv_at hl 4 rfl) ?_
              refine lv_iconst (v := 0) hx hb dX5_copy_68 rfl ?_
              refine lv_aload hx hb dX5_copy_69 (lv_at hl 1 rfl) ?_
              refine va_get (D := xD E) (ci := 3) (v := .int (u.2 8)) (C := RX3) (T := TX3) (N := 3) hx hb hts (by decide +kernel) hown hK hP 17 rfl rfl 2 (by decide) (hts (.fieldLink RX5 264 "RailOffsets$Sheet" "size" "I") (by decide +kernel)) (fun _ h => h) rfl dX5_copy_71 ?_
              refine lv_iload hx hb dX5_copy_74 (lv_at hl 7 rfl) ?_
              refine lv_isub hx hb dX5_copy_76 ?_
              refine xRoS (nL := 8) ⟨hx, hb, hml, hown, hts⟩ (c_X5_within l E p2 0 ((u.2 8) - p5)) (va_cwS 3 hts gX5_copy_X5_within rfl rfl rfl hd_X5_within ⟨(Nat.le_of_ble_eq_true rfl), (Nat.le_of_ble_eq_true rfl)⟩) hF hS hA (hP.sub [] rfl) rfl hl.1 rfl (Nat.le_of_ble_eq_true rfl) ⟨(Nat.le_of_ble_eq_true rfl), (Nat.le_of_ble_eq_true rfl)⟩ dX5_copy_77 ?_
              refine W.eq (g2 := F0 m 80 ls [.int (s_X5_within p2 0 ((u.2 8) - p5))]) rfl ?_
              refine lv_if_eq (tgt := 100) hx hb dX5_copy_80 rfl (fun q13 => ?_) (fun q13 => ?_)
              · have hR := hR.trans (if_pos q13)
                refine lv_bipush (v := (-12)) hx hb dX5_copy_100 rfl ?_
                have hR : s_X5_copy u p1 p2 p3 p4 p5 = ((-12), u) := hR
                exact W.iret (v := (-12)) hx hb hr (fun t ht _ => by rw [hR]; dsimp only; exact ⟨⟨rfl, by rw [ht]; exact hP⟩, hS.F ht⟩) hS.2.2 dX5_copy_102
              · have hR := hR.trans (if_neg q13)
                refine lv_iload hx hb dX5_copy_83 (lv_at hl 6 rfl) ?_
                refine lv_iconst (v := 0) hx hb dX5_copy_85 rfl ?_
                refine lv_aload hx hb dX5_copy_86 (lv_at hl 0 rfl) ?_
                refine va_get (D := xD E) (ci := 3) (v := .int (u.2 9)) (C := RX3) (T := TX3) (N := 3) hx hb hts (by decide +kernel) hown hK hP 18 rfl rfl 2 (by decide) (hts (.fieldLink RX5 264 "RailOffsets$Sheet" "size" "I") (by decide +kernel)) (fun _ h => h) rfl dX5_copy_88 ?_
                refine lv_iload hx hb dX5_copy_91 (lv_at hl 7 rfl) ?_
                refine lv_isub hx hb dX5_copy_93 ?_
                refine xRoS (nL := 8) ⟨hx, hb, hml, hown, hts⟩ (c_X5_within l E p4 0 ((u.2 9) - p5)) (va_cwS 3 hts gX5_copy_X5_within rfl rfl rfl hd_X5_within ⟨(Nat.le_of_ble_eq_true rfl), (Nat.le_of_ble_eq_true rfl)⟩) hF hS hA (hP.sub [] rfl) rfl hl.1 rfl (Nat.le_of_ble_eq_true rfl) ⟨(Nat.le_of_ble_eq_true rfl), (Nat.le_of_ble_eq_true rfl)⟩ dX5_copy_94 ?_
                refine W.eq (g2 := F0 m 97 ls [.int (s_X5_within p4 0 ((u.2 9) - p5))]) rfl ?_
                refine lv_if_ne (tgt := 103) hx hb dX5_copy_97 rfl (fun q14 => ?_) (fun q14 => ?_)
                · have hR := hR.trans (if_neg q14)
                  refine lv_aload hx hb dX5_copy_103 (lv_at hl 1 rfl) ?_
                  refine va_get (D := xD E) (ci := 3) (v := .ref (a 21)) (C := RX3) (T := TX3) (N := 3) hx hb hts (by decide +kernel) hown hK hP 17 rfl rfl 0 (by decide) (hts (.fieldLink RX5 340 "RailOffsets$Sheet" "items" "[I") (by decide +kernel)) (fun _ h => h) rfl dX5_copy_105 ?_
                  refine lv_iload_n hx hb dX5_copy_108 rfl (lv_at hl 4 rfl) ?_
                  refine lv_aload hx hb dX5_copy_109 (lv_at hl 0 rfl) ?_
                  refine va_get (D := xD E) (ci := 3) (v := .ref (a 22)) (C := RX3) (T := TX3) (N := 3) hx hb hts (by decide +kernel) hown hK hP 18 rfl rfl 0 (by decide) (hts (.fieldLink RX5 340 "RailOffsets$Sheet" "items" "[I") (by decide +kernel)) (fun _ h => h) rfl dX5_copy_111 ?_
                  refine lv_iload hx hb dX5_copy_114 (lv_at hl 6 rfl) ?_
                  refine lv_iload hx hb dX5_copy_116 (lv_at hl 7 rfl) ?_
                  refine va_copyi (ty := .int) hx hb (hml.trans hl.1.symm) hown (hts (.methodLink RX5 323 arraycopyName) (by decide +kernel)) (hts (.native arraycopyName) (by decide +kernel)) (hts (.static arraycopyName) (by decide +kernel)) (hts (.initialized "java/lang/System") (by decide +kernel)) hK hP (xD_of (ws := wX E a u) (A := (· ∈ LX a)) hL.1 (fun _ h => h)) hS 21 22 0 0 rfl rfl rfl rfl rfl (xcp1 (by assumption)) (xcp1 (by assumption)) (by assumption) (xcp2 (s := u.2 (8 + 0)) (hp0 0 (by decide)) (by assumption) (by assumption)) (xcp2 (s := u.2 (8 + 1)) (hp0 1 (by decide)) (by assumption) (by assumption)) (fun _ _ => rfl) (Nat.le_of_ble_eq_true rfl) (Nat.le_of_ble_eq_true rfl) dX5_copy_118 (fun H locs hP _ hS => ?_)
                  have hP : va_P (xD E) vwCl (wX E a (uR u 22 (va_cpy (u.1 21) (u.1 22) p2.toNatClampNeg p4.toNatClampNeg p5.toNatClampNeg))) H := hP
                  refine W.eq (g2 := F0 m 121 ls []) rfl ?_
                  refine lv_iload hx hb dX5_copy_121 (lv_at hl 7 rfl) ?_
                  have hR : s_X5_copy u p1 p2 p3 p4 p5 = (p5, uR u 22 (va_cpy (u.1 21) (u.1 22) p2.toNatClampNeg p4.toNatClampNeg p5.toNatClampNeg)) := hR
                  exact W.iret (v := p5) hx hb hr (fun t ht _ => by rw [hR]; dsimp only; exact ⟨⟨rfl, by rw [ht]; exact hP⟩, hS.F ht⟩) hS.2.2 dX5_copy_123
                · have hR := hR.trans (if_pos q14)
                  refine lv_bipush (v := (-12)) hx hb dX5_copy_100 rfl ?_
                  have hR : s_X5_copy u p1 p2 p3 p4 p5 = ((-12), u) := hR
                  exact W.iret (v := (-12)) hx hb hr (fun t ht _ => by rw [hR]; dsimp only; exact ⟨⟨rfl, by rw [ht]; exact hP⟩, hS.F ht⟩) hS.2.2 dX5_copy_102
          · have hR := hR.trans (if_neg q11)
            refine lv_bipush (v := (-13)) hx hb dX5_copy_59 rfl ?_
            have hR : s_X5_copy u p1 p2 p3 p4 p5 = ((-13), u) := hR
            exact W.iret (v := (-13)) hx hb hr (fun t ht _ => by rw [hR]; dsimp only; exact ⟨⟨rfl, by rw [ht]; exact hP⟩, hS.F ht⟩) hS.2.2 dX5_copy_61
        · have hR := hR.trans (if_neg q10)
          refine lv_bipush (v := (-11)) hx hb dX5_copy_43 rfl ?_
          have hR : s_X5_copy u p1 p2 p3 p4 p5 = ((-11), u) := hR
          exact W.iret (v := (-11)) hx hb hr (fun t ht _ => by rw [hR]; dsimp only; exact ⟨⟨rfl, by rw [ht]; exact hP⟩, hS.F ht⟩) hS.2.2 dX5_copy_45
    have hR := hR.trans (if_neg t2_1)
    by_cases t2_2 : p3 = 2
    · have hR := hR.trans (if_pos t2_2)
      refine xRoV (nL := 8) ⟨hx, hb, hml, hown, hts⟩ (c_X5_sheetOf l E a u p3 2 (by decide) t2_2) (cwV 1 hts gX5_copy_X5_sheetOf rfl rfl rfl ⟨rfl, hd_X5_sheetOf⟩ ⟨(Nat.le_of_ble_eq_true rfl), (Nat.le_of_ble_eq_true rfl)⟩) hF hS hA hP (va_recv (q := (RX5, TX5, 9)) hK hP (ci := 5) rfl (q0 := 0) rfl) rfl hl.1 rfl (Nat.le_of_ble_eq_true rfl) ⟨(Nat.le_of_ble_eq_true rfl), (Nat.le_of_ble_eq_true rfl)⟩ dX5_copy_9 ?_
      refine W.eq (g2 := F0 m 12 ls [.ref (a 19)]) rfl ?_
      refine lv_astore (lv' := [(7, .ref (a 19)), (6, .ref (a 17)), (0, .ref (a 0)), (1, .int p1), (2, .int p2), (3, .int p3), (4, .int p4), (5, .int p5)]) hx hb dX5_copy_12 hl (by decide) rfl (fun ls hl => ?_)
      refine lv_aload hx hb dX5_copy_14 (lv_at hl 1 rfl) ?_
      refine lv_ifnull hx hb dX5_copy_16 ?_
      refine lv_aload hx hb dX5_copy_19 (lv_at hl 0 rfl) ?_
      refine lv_ifnonnull (tgt := 27) hx hb dX5_copy_21 rfl ?_
      refine lv_aload hx hb dX5_copy_27 (lv_at hl 1 rfl) ?_
      refine xRoV (nL := 8) ⟨hx, hb, hml, hown, hts⟩ (c_X3_isMissing l E (a 17) (a 21) (uS u 0) ) (cwV 0 hts gX5_copy_X3_isMissing rfl rfl rfl ⟨rfl, hd_X3_isMissing⟩ ⟨(Nat.le_of_ble_eq_true rfl), (Nat.le_of_ble_eq_true rfl)⟩) hF hS hA (hP.sub [17, 21] rfl) (va_recv (q := (RX3, TX3, 3)) hK hP (ci := 3) rfl (q0 := 17) rfl) rfl hl.1 rfl (Nat.le_of_ble_eq_true rfl) ⟨(Nat.le_of_ble_eq_true rfl), (Nat.le_of_ble_eq_true rfl)⟩ dX5_copy_29 ?_
      refine W.eq (g2 := F0 m 32 ls [.int (s_X3_isMissing (uS u 0))]) rfl ?_
      refine lv_if_ne (tgt := 43) hx hb dX5_copy_32 rfl (fun q15 => ?_) (fun q15 => ?_)
      · have hR := hR.trans (if_neg q15)
        refine lv_bipush (v := (-11)) hx hb dX5_copy_43 rfl ?_
        have hR : s_X5_copy u p1 p2 p3 p4 p5 = ((-11), u) := hR
        exact W.iret (v := (-11)) hx hb hr (fun t ht _ => by rw [hR]; dsimp only; exact ⟨⟨rfl, by rw [ht]; exact hP⟩, hS.F ht⟩) hS.2.2 dX5_copy_45
      · have hR := hR.trans (if_pos q15)
        refine lv_aload hx hb dX5_copy_35 (lv_at hl 0 rfl) ?_
        refine xRoV (nL := 8) ⟨hx, hb, hml, hown, hts⟩ (c_X3_isMissing l E (a 19) (a 23) (uS u 2) ) (cwV 0 hts gX5_copy_X3_isMissing rfl rfl rfl ⟨rfl, hd_X3_isMissing⟩ ⟨(Nat.le_of_ble_eq_true rfl), (Nat.le_of_ble_eq_true rfl)⟩) hF hS hA (hP.sub [19, 23] rfl) (va_recv (q := (RX3, TX3, 3)) hK hP (ci := 3) rfl (q0 := 19) rfl) rfl hl.1 rfl (Nat.le_of_ble_eq_true rfl) ⟨(Nat.le_of_ble_eq_true rfl), (Nat.le_of_ble_eq_true rfl)⟩ dX5_copy_37 ?_
        refine W.eq (g2 := F0 m 40 ls [.int (s_X3_isMissing (uS u 2))]) rfl ?_
        refine lv_if_eq (tgt := 46) hx hb dX5_copy_40 rfl (fun q16 => ?_) (fun q16 => ?_)
        · have hR := hR.trans (if_pos q16)
          refine lv_aload hx hb dX5_copy_46 (lv_at hl 1 rfl) ?_
          refine va_get (D := xD E) (ci := 3) (v := .int (u.2 4)) (C := RX3) (T := TX3) (N := 3) hx hb hts (by decide +kernel) hown hK hP 17 rfl rfl 1 (by decide) (hts (.fieldLink RX5 329 "RailOffsets$Sheet" "sort" "I") (by decide +kernel)) (fun _ h => h) rfl dX5_copy_48 ?_
          refine lv_aload hx hb dX5_copy_51 (lv_at hl 0 rfl) ?_
          refine va_get (D := xD E) (ci := 3) (v := .int (u.2 6)) (C := RX3) (T := TX3) (N := 3) hx hb hts (by decide +kernel) hown hK hP 19 rfl rfl 1 (by decide) (hts (.fieldLink RX5 329 "RailOffsets$Sheet" "sort" "I") (by decide +kernel)) (fun _ h => h) rfl dX5_copy_53 ?_
          refine lv_icmp_eq (tgt := 62) hx hb dX5_copy_56 rfl (fun q17 => ?_) (fun q17 => ?_)
          · have hR := hR.trans (if_pos q17)
            refine lv_iload hx hb dX5_copy_62 (lv_at hl 7 rfl) ?_
            refine lv_if_lt (tgt := 100) hx hb dX5_copy_64 rfl (fun q18 => ?_) (fun q18 => ?_)
            · have hR := hR.trans (if_pos q18)
              refine lv_bipush (v := (-12)) hx hb dX5_copy_100 rfl ?_
              have hR : s_X5_copy u p1 p2 p3 p4 p5 = ((-12), u) := hR
              exact W.iret (v := (-12)) hx hb hr (fun t ht _ => by rw [hR]; dsimp only; exact ⟨⟨rfl, by rw [ht]; exact hP⟩, hS.F ht⟩) hS.2.2 dX5_copy_102
            · have hR := hR.trans (if_neg q18)
              refine lv_iload_n hx hb dX5_copy_67 rfl (lv_at hl 4 rfl) ?_
              refine lv_iconst (v := 0) hx hb dX5_copy_68 rfl ?_
              refine lv_aload hx hb dX5_copy_69 (lv_at hl 1 rfl) ?_
              refine va_get (D := xD E) (ci := 3) (v := .int (u.2 8)) (C := RX3) (T := TX3) (N := 3) hx hb hts (by decide +kernel) hown hK hP 17 rfl rfl 2 (by decide) (hts (.fieldLink RX5 264 "RailOffsets$Sheet" "size" "I") (by decide +kernel)) (fun _ h => h) rfl dX5_copy_71 ?_
              refine lv_iload hx hb dX5_copy_74 (lv_at hl 7 rfl) ?_
              refine lv_isub hx hb dX5_copy_76 ?_
              refine xRoS (nL := 8) ⟨hx, hb, hml, hown, hts⟩ (c_X5_within l E p2 0 ((u.2 8) - p5)) (va_cwS 3 hts gX5_copy_X5_within rfl rfl rfl hd_X5_within ⟨(Nat.le_of_ble_eq_true rfl), (Nat.le_of_ble_eq_true rfl)⟩) hF hS hA (hP.sub [] rfl) rfl hl.1 rfl (Nat.le_of_ble_eq_true rfl) ⟨(Nat.le_of_ble_eq_true rfl), (Nat.le_of_ble_eq_true rfl)⟩ dX5_copy_77 ?_
              refine W.eq (g2 := F0 m 80 ls [.int (s_X5_within p2 0 ((u.2 8) - p5))]) rfl ?_
              refine lv_if_eq (tgt := 100) hx hb dX5_copy_80 rfl (fun q19 => ?_) (fun q19 => ?_)
              · have hR := hR.trans (if_pos q19)
                refine lv_bipush (v := (-12)) hx hb dX5_copy_100 rfl ?_
                have hR : s_X5_copy u p1 p2 p3 p4 p5 = ((-12), u) := hR
                exact W.iret (v := (-12)) hx hb hr (fun t ht _ => by rw [hR]; dsimp only; exact ⟨⟨rfl, by rw [ht]; exact hP⟩, hS.F ht⟩) hS.2.2 dX5_copy_102
              · have hR := hR.trans (if_neg q19)
                refine lv_iload hx hb dX5_copy_83 (lv_at hl 6 rfl) ?_
                refine lv_iconst (v := 0) hx hb dX5_copy_85 rfl ?_
                refine lv_aload hx hb dX5_copy_86 (lv_at hl 0 rfl) ?_
                refine va_get (D := xD E) (ci := 3) (v := .int (u.2 10)) (C := RX3) (T := TX3) (N := 3) hx hb hts (by decide +kernel) hown hK hP 19 rfl rfl 2 (by decide) (hts (.fieldLink RX5 264 "RailOffsets$Sheet" "size" "I") (by decide +kernel)) (fun _ h => h) rfl dX5_copy_88 ?_
                refine lv_iload hx hb dX5_copy_91 (lv_at hl 7 rfl) ?_
                refine lv_isub hx hb dX5_copy_93 ?_
                refine xRoS (nL := 8) ⟨hx, hb, hml, hown, hts⟩ (c_X5_within l E p4 0 ((u.2 10) - p5)) (va_cwS 3 hts gX5_copy_X5_within rfl rfl rfl hd_X5_within ⟨(Nat.le_of_ble_eq_true rfl), (Nat.le_of_ble_eq_true rfl)⟩) hF hS hA (hP.sub [] rfl) rfl hl.1 rfl (Nat.le_of_ble_eq_true rfl) ⟨(Nat.le_of_ble_eq_true rfl), (Nat.le_of_ble_eq_true rfl)⟩ dX5_copy_94 ?_
                refine W.eq (g2 := F0 m 97 ls [.int (s_X5_within p4 0 ((u.2 10) - p5))]) rfl ?_
                refine lv_if_ne (tgt := 103) hx hb dX5_copy_97 rfl (fun q20 => ?_) (fun q20 => ?_)
                · have hR := hR.trans (if_neg q20)
                  refine lv_aload hx hb dX5_copy_103 (lv_at hl 1 rfl) ?_
                  refine va_get (D := xD E) (ci := 3) (v := .ref (a 21)) (C := RX3) (T := TX3) (N := 3) hx hb hts (by decide +kernel) hown hK hP 17 rfl rfl 0 (by decide) (hts (.fieldLink RX5 340 "RailOffsets$Sheet" "items" "[I") (by decide +kernel)) (fun _ h => h) rfl dX5_copy_105 ?_
                  refine lv_iload_n hx hb dX5_copy_108 rfl (lv_at hl 4 rfl) ?_
                  refine lv_aload hx hb dX5_copy_109 (lv_at hl 0 rfl) ?_
                  refine va_get (D := xD E) (ci := 3) (v := .ref (a 23)) (C := RX3) (T := TX3) (N := 3) hx hb hts (by decide +kernel) hown hK hP 19 rfl rfl 0 (by decide) (hts (.fieldLink RX5 340 "RailOffsets$Sheet" "items" "[I") (by decide +kernel)) (fun _ h => h) rfl dX5_copy_111 ?_
                  refine lv_iload hx hb dX5_copy_114 (lv_at hl 6 rfl) ?_
                  refine lv_iload hx hb dX5_copy_116 (lv_at hl 7 rfl) ?_
                  refine va_copyi (ty := .int) hx hb (hml.trans hl.1.symm) hown (hts (.methodLink RX5 323 arraycopyName) (by decide +kernel)) (hts (.native arraycopyName) (by decide +kernel)) (hts (.static arraycopyName) (by decide +kernel)) (hts (.initialized "java/lang/System") (by decide +kernel)) hK hP (xD_of (ws := wX E a u) (A := (· ∈ LX a)) hL.1 (fun _ h => h)) hS 21 23 0 0 rfl rfl rfl rfl rfl (xcp1 (by assumption)) (xcp1 (by assumption)) (by assumption) (xcp2 (s := u.2 (8 + 0)) (hp0 0 (by decide)) (by assumption) (by assumption)) (xcp2 (s := u.2 (8 + 2)) (hp0 2 (by decide)) (by assumption) (by assumption)) (fun _ _ => rfl) (Nat.le_of_ble_eq_true rfl) (Nat.le_of_ble_eq_true rfl) dX5_copy_118 (fun H locs hP _ hS => ?_)
                  have hP : va_P (xD E) vwCl (wX E a (uR u 23 (va_cpy (u.1 21) (u.1 23) p2.toNatClampNeg p4.toNatClampNeg p5.toNatClampNeg))) H := hP
                  refine W.eq (g2 := F0 m 121 ls []) rfl ?_
                  refine lv_iload hx hb dX5_copy_121 (lv_at hl 7 rfl) ?_
                  have hR : s_X5_copy u p1 p2 p3 p4 p5 = (p5, uR u 23 (va_cpy (u.1 21) (u.1 23) p2.toNatClampNeg p4.toNatClampNeg p5.toNatClampNeg)) := hR
                  exact W.iret (v := p5) hx hb hr (fun t ht _ => by rw [hR]; dsimp only; exact ⟨⟨rfl, by rw [ht]; exact hP⟩, hS.F ht⟩) hS.2.2 dX5_copy_123
                · have hR := hR.trans (if_pos q20)
                  refine lv_bipush (v := (-12)) hx hb dX5_copy_100 rfl ?_
                  have hR : s_X5_copy u p1 p2 p3 p4 p5 = ((-12), u) := hR
                  exact W.iret (v := (-12)) hx hb hr (fun t ht _ => by rw [hR]; dsimp only; exact ⟨⟨rfl, by rw [ht]; exact hP⟩, hS.F ht⟩) hS.2.2 dX5_copy_102
          · have hR := hR.trans (if_neg q17)
            refine lv_bipush (v := (-13)) hx hb dX5_copy_59 rfl ?_
            have hR : s_X5_copy u p1 p2 p3 p4 p5 = ((-13), u) := hR
            exact W.iret (v := (-13)) hx hb hr (fun t ht _ => by rw [hR]; dsimp only; exact ⟨⟨rfl, by rw [ht]; exact hP⟩, hS.F ht⟩) hS.2.2 dX5_copy_61
        · have hR := hR.trans (if_neg q16)
          refine lv_bipush (v := (-11)) hx hb dX5_copy_43 rfl ?_
          have hR : s_X5_copy u p1 p2 p3 p4 p5 = ((-11), u) := hR
          exact W.iret (v := (-11)) hx hb hr (fun t ht _ => by rw [hR]; dsimp only; exact ⟨⟨rfl, by rw [ht]; exact hP⟩, hS.F ht⟩) hS.2.2 dX5_copy_45
    have hR := hR.trans (if_neg t2_2)
    by_cases t2_3 : p3 = 3
    · have hR := hR.trans (if_pos t2_3)
      refine xRoV (nL := 8) ⟨hx, hb, hml, hown, hts⟩ (c_X5_sheetOf l E a u p3 3 (by decide) t2_3) (cwV 1 hts gX5_copy_X5_sheetOf rfl rfl rfl ⟨rfl, hd_X5_sheetOf⟩ ⟨(Nat.le_of_ble_eq_true rfl), (Nat.le_of_ble_eq_true rfl)⟩) hF hS hA hP (va_recv (q := (RX5, TX5, 9)) hK hP (ci := 5) rfl (q0 := 0) rfl) rfl hl.1 rfl (Nat.le_of_ble_eq_true rfl) ⟨(Nat.le_of_ble_eq_true rfl), (Nat.le_of_ble_eq_true rfl)⟩ dX5_copy_9 ?_
      refine W.eq (g2 := F0 m 12 ls [.ref (a 20)]) rfl ?_
      refine lv_astore (lv' := [(7, .ref (a 20)), (6, .ref (a 17)), (0, .ref (a 0)), (1, .int p1), (2, .int p2), (3, .int p3), (4, .int p4), (5, .int p5)]) hx hb dX5_copy_12 hl (by decide) rfl (fun ls hl => ?_)
      refine lv_aload hx hb dX5_copy_14 (lv_at hl 1 rfl) ?_
      refine lv_ifnull hx hb dX5_copy_16 ?_
      refine lv_aload hx hb dX5_copy_19 (lv_at hl 0 rfl) ?_
      refine lv_ifnonnull (tgt := 27) hx hb dX5_copy_21 rfl ?_
      refine lv_aload hx hb dX5_copy_27 (lv_at hl 1 rfl) ?_
      refine xRoV (nL := 8) ⟨hx, hb, hml, hown, hts⟩ (c_X3_isMissing l E (a 17) (a 21) (uS u 0) ) (cwV 0 hts gX5_copy_X3_isMissing rfl rfl rfl ⟨rfl, hd_X3_isMissing⟩ ⟨(Nat.le_of_ble_eq_true rfl), (Nat.le_of_ble_eq_true rfl)⟩) hF hS hA (hP.sub [17, 21] rfl) (va_recv (q := (RX3, TX3, 3)) hK hP (ci := 3) rfl (q0 := 17) rfl) rfl hl.1 rfl (Nat.le_of_ble_eq_true rfl) ⟨(Nat.le_of_ble_eq_true rfl), (Nat.le_of_ble_eq_true rfl)⟩ dX5_copy_29 ?_
      refine W.eq (g2 := F0 m 32 ls [.int (s_X3_isMissing (uS u 0))]) rfl ?_
      refine lv_if_ne (tgt := 43) hx hb dX5_copy_32 rfl (fun q21 => ?_) (fun q21 => ?_)
      · have hR := hR.trans (if_neg q21)
        refine lv_bipush (v := (-11)) hx hb dX5_copy_43 rfl ?_
        have hR : s_X5_copy u p1 p2 p3 p4 p5 = ((-11), u) := hR
        exact W.iret (v := (-11)) hx hb hr (fun t ht _ => by rw [hR]; dsimp only; exact ⟨⟨rfl, by rw [ht]; exact hP⟩, hS.F ht⟩) hS.2.2 dX5_copy_45
      · have hR := hR.trans (if_pos q21)
        refine lv_aload hx hb dX5_copy_35 (lv_at hl 0 rfl) ?_
        refine xRoV (nL := 8) ⟨hx, hb, hml, hown, hts⟩ (c_X3_isMissing l E (a 20) (a 24) (uS u 3) ) (cwV 0 hts gX5_copy_X3_isMissing rfl rfl rfl ⟨rfl, hd_X3_isMissing⟩ ⟨(Nat.le_of_ble_eq_true rfl), (Nat.le_of_ble_eq_true rfl)⟩) hF hS hA (hP.sub [20, 24] rfl) (va_recv (q := (RX3, TX3, 3)) hK hP (ci := 3) rfl (q0 := 20) rfl) rfl hl.1 rfl (Nat.le_of_ble_eq_true rfl) ⟨(Nat.le_of_ble_eq_true rfl), (Nat.le_of_ble_eq_true rfl)⟩ dX5_copy_37 ?_
        refine W.eq (g2 := F0 m 40 ls [.int (s_X3_isMissing (uS u 3))]) rfl ?_
        refine lv_if_eq (tgt := 46) hx hb dX5_copy_40 rfl (fun q22 => ?_) (fun q22 => ?_)
        · have hR := hR.trans (if_pos q22)
          refine lv_aload hx hb dX5_copy_46 (lv_at hl 1 rfl) ?_
          refine va_get (D := xD E) (ci := 3) (v := .int (u.2 4)) (C := RX3) (T := TX3) (N := 3) hx hb hts (by decide +kernel) hown hK hP 17 rfl rfl 1 (by decide) (hts (.fieldLink RX5 329 "RailOffsets$Sheet" "sort" "I") (by decide +kernel)) (fun _ h => h) rfl dX5_copy_48 ?_
          refine lv_aload hx hb dX5_copy_51 (lv_at hl 0 rfl) ?_
          refine va_get (D := xD E) (ci := 3) (v := .int (u.2 7)) (C := RX3) (T := TX3) (N := 3) hx hb hts (by decide +kernel) hown hK hP 20 rfl rfl 1 (by decide) (hts (.fieldLink RX5 329 "RailOffsets$Sheet" "sort" "I") (by decide +kernel)) (fun _ h => h) rfl dX5_copy_53 ?_
          refine lv_icmp_eq (tgt := 62) hx hb dX5_copy_56 rfl (fun q23 => ?_) (fun q23 => ?_)
          · have hR := hR.trans (if_pos q23)
            refine lv_iload hx hb dX5_copy_62 (lv_at hl 7 rfl) ?_
            refine lv_if_lt (tgt := 100) hx hb dX5_copy_64 rfl (fun q24 => ?_) (fun q24 => ?_)
            · have hR := hR.trans (if_pos q24)
              refine lv_bipush (v := (-12)) hx hb dX5_copy_100 rfl ?_
              have hR : s_X5_copy u p1 p2 p3 p4 p5 = ((-12), u) := hR
              exact W.iret (v := (-12)) hx hb hr (fun t ht _ => by rw [hR]; dsimp only; exact ⟨⟨rfl, by rw [ht]; exact hP⟩, hS.F ht⟩) hS.2.2 dX5_copy_102
            · have hR := hR.trans (if_neg q24)
              refine lv_iload_n hx hb dX5_copy_67 rfl (lv_at hl 4 rfl) ?_
              refine lv_iconst (v := 0) hx hb dX5_copy_68 rfl ?_
              refine lv_aload hx hb dX5_copy_69 (lv_at hl 1 rfl) ?_
              refine va_get (D := xD E) (ci := 3) (v := .int (u.2 8)) (C := RX3) (T := TX3) (N := 3) hx hb hts (by decide +kernel) hown hK hP 17 rfl rfl 2 (by decide) (hts (.fieldLink RX5 264 "RailOffsets$Sheet" "size" "I") (by decide +kernel)) (fun _ h => h) rfl dX5_copy_71 ?_
              refine lv_iload hx hb dX5_copy_74 (lv_at hl 7 rfl) ?_
              refine lv_isub hx hb dX5_copy_76 ?_
              refine xRoS (nL := 8) ⟨hx, hb, hml, hown, hts⟩ (c_X5_within l E p2 0 ((u.2 8) - p5)) (va_cwS 3 hts gX5_copy_X5_within rfl rfl rfl hd_X5_within ⟨(Nat.le_of_ble_eq_true rfl), (Nat.le_of_ble_eq_true rfl)⟩) hF hS hA (hP.sub [] rfl) rfl hl.1 rfl (Nat.le_of_ble_eq_true rfl) ⟨(Nat.le_of_ble_eq_true rfl), (Nat.le_of_ble_eq_true rfl)⟩ dX5_copy_77 ?_
              refine W.eq (g2 := F0 m 80 ls [.int (s_X5_within p2 0 ((u.2 8) - p5))]) rfl ?_
              refine lv_if_eq (tgt := 100) hx hb dX5_copy_80 rfl (fun q25 => ?_) (fun q25 => ?_)
              · have hR := hR.trans (if_pos q25)
                refine lv_bipush (v := (-12)) hx hb dX5_copy_100 rfl ?_
                have hR : s_X5_copy u p1 p2 p3 p4 p5 = ((-12), u) := hR
                exact W.iret (v := (-12)) hx hb hr (fun t ht _ => by rw [hR]; dsimp only; exact ⟨⟨rfl, by rw [ht]; exact hP⟩, hS.F ht⟩) hS.2.2 dX5_copy_102
              · have hR := hR.trans (if_neg q25)
                refine lv_iload hx hb dX5_copy_83 (lv_at hl 6 rfl) ?_
                refine lv_iconst (v := 0) hx hb dX5_copy_85 rfl ?_
                refine lv_aload hx hb dX5_copy_86 (lv_at hl 0 rfl) ?_
                refine va_get (D := xD E) (ci := 3) (v := .int (u.2 11)) (C := RX3) (T := TX3) (N := 3) hx hb hts (by decide +kernel) hown hK hP 20 rfl rfl 2 (by decide) (hts (.fieldLink RX5 264 "RailOffsets$Sheet" "size" "I") (by decide +kernel)) (fun _ h => h) rfl dX5_copy_88 ?_
                refine lv_iload hx hb dX5_copy_91 (lv_at hl 7 rfl) ?_
                refine lv_isub hx hb dX5_copy_93 ?_
                refine xRoS (nL := 8) ⟨hx, hb, hml, hown, hts⟩ (c_X5_within l E p4 0 ((u.2 11) - p5)) (va_cwS 3 hts gX5_copy_X5_within rfl rfl rfl hd_X5_within ⟨(Nat.le_of_ble_eq_true rfl), (Nat.le_of_ble_eq_true rfl)⟩) hF hS hA (hP.sub [] rfl) rfl hl.1 rfl (Nat.le_of_ble_eq_true rfl) ⟨(Nat.le_of_ble_eq_true rfl), (Nat.le_of_ble_eq_true rfl)⟩ dX5_copy_94 ?_
                refine W.eq (g2 := F0 m 97 ls [.int (s_X5_within p4 0 ((u.2 11) - p5))]) rfl ?_
                refine lv_if_ne (tgt := 103) hx hb dX5_copy_97 rfl (fun q26 => ?_) (fun q26 => ?_)
                · have hR := hR.trans (if_neg q26)
                  refine lv_aload hx hb dX5_copy_103 (lv_at hl 1 rfl) ?_
                  refine va_get (D := xD E) (ci := 3) (v := .ref (a 21)) (C := RX3) (T := TX3) (N := 3) hx hb hts (by decide +kernel) hown hK hP 17 rfl rfl 0 (by decide) (hts (.fieldLink RX5 340 "RailOffsets$Sheet" "items" "[I") (by decide +kernel)) (fun _ h => h) rfl dX5_copy_105 ?_
                  refine lv_iload_n hx hb dX5_copy_108 rfl (lv_at hl 4 rfl) ?_
                  refine lv_aload hx hb dX5_copy_109 (lv_at hl 0 rfl) ?_
                  refine va_get (D := xD E) (ci := 3) (v := .ref (a 24)) (C := RX3) (T := TX3) (N := 3) hx hb hts (by decide +kernel) hown hK hP 20 rfl rfl 0 (by decide) (hts (.fieldLink RX5 340 "RailOffsets$Sheet" "items" "[I") (by decide +kernel)) (fun _ h => h) rfl dX5_copy_111 ?_
                  refine lv_iload hx hb dX5_copy_114 (lv_at hl 6 rfl) ?_
                  refine lv_iload hx hb dX5_copy_116 (lv_at hl 7 rfl) ?_
                  refine va_copyi (ty := .int) hx hb (hml.trans hl.1.symm) hown (hts (.methodLink RX5 323 arraycopyName) (by decide +kernel)) (hts (.native arraycopyName) (by decide +kernel)) (hts (.static arraycopyName) (by decide +kernel)) (hts (.initialized "java/lang/System") (by decide +kernel)) hK hP (xD_of (ws := wX E a u) (A := (· ∈ LX a)) hL.1 (fun _ h => h)) hS 21 24 0 0 rfl rfl rfl rfl rfl (xcp1 (by assumption)) (xcp1 (by assumption)) (by assumption) (xcp2 (s := u.2 (8 + 0)) (hp0 0 (by decide)) (by assumption) (by assumption)) (xcp2 (s := u.2 (8 + 3)) (hp0 3 (by decide)) (by assumption) (by assumption)) (fun _ _ => rfl) (Nat.le_of_ble_eq_true rfl) (Nat.le_of_ble_eq_true rfl) dX5_copy_118 (fun H locs hP _ hS => ?_)
                  have hP : va_P (xD E) vwCl (wX E a (uR u 24 (va_cpy (u.1 21) (u.1 24) p2.toNatClampNeg p4.toNatClampNeg p5.toNatClampNeg))) H := hP
                  refine W.eq (g2 := F0 m 121 ls []) rfl ?_
                  refine lv_iload hx hb dX5_copy_121 (lv_at hl 7 rfl) ?_
                  have hR : s_X5_copy u p1 p2 p3 p4 p5 = (p5, uR u 24 (va_cpy (u.1 21) (u.1 24) p2.toNatClampNeg p4.toNatClampNeg p5.toNatClampNeg)) := hR
                  exact W.iret (v := p5) hx hb hr (fun t ht _ => by rw [hR]; dsimp only; exact ⟨⟨rfl, by rw [ht]; exact hP⟩, hS.F ht⟩) hS.2.2 dX5_copy_123
                · have hR := hR.trans (if_pos q26)
                  refine lv_bipush (v := (-12)) hx hb dX5_copy_100 rfl ?_
                  have hR : s_X5_copy u p1 p2 p3 p4 p5 = ((-12), u) := hR
                  exact W.iret (v := (-12)) hx hb hr (fun t ht _ => by rw [hR]; dsimp only; exact ⟨⟨rfl, by rw [ht]; exact hP⟩, hS.F ht⟩) hS.2.2 dX5_copy_102
          · have hR := hR.trans (if_neg q23)
            refine lv_bipush (v := (-13)) hx hb dX5_copy_59 rfl ?_
            have hR : s_X5_copy u p1 p2 p3 p4 p5 = ((-13), u) := hR
            exact W.iret (v := (-13)) hx hb hr (fun t ht _ => by rw [hR]; dsimp only; exact ⟨⟨rfl, by rw [ht]; exact hP⟩, hS.F ht⟩) hS.2.2 dX5_copy_61
        · have hR := hR.trans (if_neg q22)
          refine lv_bipush (v := (-11)) hx hb dX5_copy_43 rfl ?_
          have hR : s_X5_copy u p1 p2 p3 p4 p5 = ((-11), u) := hR
          exact W.iret (v := (-11)) hx hb hr (fun t ht _ => by rw [hR]; dsimp only; exact ⟨⟨rfl, by rw [ht]; exact hP⟩, hS.F ht⟩) hS.2.2 dX5_copy_45
    have hR := hR.trans (if_neg t2_3)
    refine xRoV (nL := 8) ⟨hx, hb, hml, hown, hts⟩ (c_X5_sheetOf_n l E a u p3 t2_0 t2_1 t2_2 t2_3) (cwV 1 hts gX5_copy_X5_sheetOf rfl rfl rfl ⟨rfl, hd_X5_sheetOf⟩ ⟨(Nat.le_of_ble_eq_true rfl), (Nat.le_of_ble_eq_true rfl)⟩) hF hS hA hP (va_recv (q := (RX5, TX5, 9)) hK hP (ci := 5) rfl (q0 := 0) rfl) rfl hl.1 rfl (Nat.le_of_ble_eq_true rfl) ⟨(Nat.le_of_ble_eq_true rfl), (Nat.le_of_ble_eq_true rfl)⟩ dX5_copy_9 ?_
    refine W.eq (g2 := F0 m 12 ls [.null]) rfl ?_
    refine lv_astoreN (lv' := [(7, .null), (6, .ref (a 17)), (0, .ref (a 0)), (1, .int p1), (2, .int p2), (3, .int p3), (4, .int p4), (5, .int p5)]) hx hb dX5_copy_12 hl (by decide) rfl (fun ls hl => ?_)
    refine lv_aload hx hb dX5_copy_14 (lv_at hl 1 rfl) ?_
    refine lv_ifnull hx hb dX5_copy_16 ?_
    refine lv_aloadN hx hb dX5_copy_19 (lv_at hl 0 rfl) ?_
    refine lv_ifnonnullN hx hb dX5_copy_21 ?_
    refine lv_bipush (v := (-2)) hx hb dX5_copy_24 rfl ?_
    have hR : s_X5_copy u p1 p2 p3 p4 p5 = ((-2), u) := hR
    exact W.iret (v := (-2)) hx hb hr (fun t ht _ => by rw [hR]; dsimp only; exact ⟨⟨rfl, by rw [ht]; exact hP⟩, hS.F ht⟩) hS.2.2 dX5_copy_26
  have hR := hR.trans (if_neg t1_0)
  by_cases t1_1 : p1 = 1
  · have hR := hR.trans (if_pos t1_1)
    refine xRoV (nL := 8) ⟨hx, hb, hml, hown, hts⟩ (c_X5_sheetOf l E a u p1 1 (by decide) t1_1) (cwV 1 hts gX5_copy_X5_sheetOf rfl rfl rfl ⟨rfl, hd_X5_sheetOf⟩ ⟨(Nat.le_of_ble_eq_true rfl), (Nat.le_of_ble_eq_true rfl)⟩) hF hS hA hP (va_recv (q := (RX5, TX5, 9)) hK hP (ci := 5) rfl (q0 := 0) rfl) rfl hl.1 rfl (Nat.le_of_ble_eq_true rfl) ⟨(Nat.le_of_ble_eq_true rfl), (Nat.le_of_ble_eq_true rfl)⟩ dX5_copy_2 ?_
    refine W.eq (g2 := F0 m 5 ls [.ref (a 18)]) rfl ?_
    refine lv_astore (lv' := [(6, .ref (a 18)), (0, .ref (a 0)), (1, .int p1), (2, .int p2), (3, .int p3), (4, .int p4), (5, .int p5)]) hx hb dX5_copy_5 hl (by decide) rfl (fun ls hl => ?_)
    refine lv_aload_n hx hb dX5_copy_7 rfl (lv_at hl 1 rfl) ?_
    refine lv_iload_n hx hb dX5_copy_8 rfl (lv_at hl 4 rfl) ?_
    by_cases t27_0 : p3 = 0
    · have hR := hR.trans (if_pos t27_0)
      refine xRoV (nL := 8) ⟨hx, hb, hml, hown, hts⟩ (c_X5_sheetOf l E a u p3 0 (by decide) t27_0) (cwV 1 hts gX5_copy_X5_sheetOf rfl rfl rfl ⟨rfl, hd_X5_sheetOf⟩ ⟨(Nat.le_of_ble_eq_true rfl), (Nat.le_of_ble_eq_true rfl)⟩) hF hS hA hP (va_recv (q := (RX5, TX5, 9)) hK hP (ci := 5) rfl (q0 := 0) rfl) rfl hl.1 rfl (Nat.le_of_ble_eq_true rfl) ⟨(Nat.le_of_ble_eq_true rfl), (Nat.le_of_ble_eq_true rfl)⟩ dX5_copy_9 ?_
      refine W.eq (g2 := F0 m 12 ls [.ref (a 17)]) rfl ?_
      refine lv_astore (lv' := [(7, .ref (a 17)), (6, .ref (a 18)), (0, .ref (a 0)), (1, .int p1), (2, .int p2), (3, .int p3), (4, .int p4), (5, .int p5)]) hx hb dX5_copy_12 hl (by decide) rfl (fun ls hl => ?_)
      refine lv_aload hx hb dX5_copy_14 (lv_at hl 1 rfl) ?_
      refine lv_ifnull hx hb dX5_copy_16 ?_
      refine lv_aload hx hb dX5_copy_19 (lv_at hl 0 rfl) ?_
      refine lv_ifnonnull (tgt := 27) hx hb dX5_copy_21 rfl ?_
      refine lv_aload hx hb dX5_copy_27 (lv_at hl 1 rfl) ?_
      refine xRoV (nL := 8) ⟨hx, hb, hml, hown, hts⟩ (c_X3_isMissing l E (a 18) (a 22) (uS u 1) ) (cwV 0 hts gX5_copy_X3_isMissing rfl rfl rfl ⟨rfl, hd_X3_isMissing⟩ ⟨(Nat.le_of_ble_eq_true rfl), (Nat.le_of_ble_eq_true rfl)⟩) hF hS hA (hP.sub [18, 22] rfl) (va_recv (q := (RX3, TX3, 3)) hK hP (ci := 3) rfl (q0 := 18) rfl) rfl hl.1 rfl (Nat.le_of_ble_eq_true rfl) ⟨(Nat.le_of_ble_eq_true rfl), (Nat.le_of_ble_eq_true rfl)⟩ dX5_copy_29 ?_
      refine W.eq (g2 := F0 m 32 ls [.int (s_X3_isMissing (uS u 1))]) rfl ?_
      refine lv_if_ne (tgt := 43) hx hb dX5_copy_32 rfl (fun q28 => ?_) (fun q28 => ?_)
      · have hR := hR.trans (if_neg q28)
        refine lv_bipush (v := (-11)) hx hb dX5_copy_43 rfl ?_
        have hR : s_X5_copy u p1 p2 p3 p4 p5 = ((-11), u) := hR
        exact W.iret (v := (-11)) hx hb hr (fun t ht _ => by rw [hR]; dsimp only; exact ⟨⟨rfl, by rw [ht]; exact hP⟩, hS.F ht⟩) hS.2.2 dX5_copy_45
      · have hR := hR.trans (if_pos q28)
        refine lv_aload hx hb dX5_copy_35 (lv_at hl 0 rfl) ?_
        refine xRoV (nL := 8) ⟨hx, hb, hml, hown, hts⟩ (c_X3_isMissing l E (a 17) (a 21) (uS u 0) ) (cwV 0 hts gX5_copy_X3_isMissing rfl rfl rfl ⟨rfl, hd_X3_isMissing⟩ ⟨(Nat.le_of_ble_eq_true rfl), (Nat.le_of_ble_eq_true rfl)⟩) hF hS hA (hP.sub [17, 21] rfl) (va_recv (q := (RX3, TX3, 3)) hK hP (ci := 3) rfl (q0 := 17) rfl) rfl hl.1 rfl (Nat.le_of_ble_eq_true rfl) ⟨(Nat.le_of_ble_eq_true rfl), (Nat.le_of_ble_eq_true rfl)⟩ dX5_copy_37 ?_
        refine W.eq (g2 := F0 m 40 ls [.int (s_X3_isMissing (uS u 0))]) rfl ?_
        refine lv_if_eq (tgt := 46) hx hb dX5_copy_40 rfl (fun q29 => ?_) (fun q29 => ?_)
        · have hR := hR.trans (if_pos q29)
          refine lv_aload hx hb dX5_copy_46 (lv_at hl 1 rfl) ?_
          refine va_get (D := xD E) (ci := 3) (v := .int (u.2 5)) (C := RX3) (T := TX3) (N := 3) hx hb hts (by decide +kernel) hown hK hP 18 rfl rfl 1 (by decide) (hts (.fieldLink RX5 329 "RailOffsets$Sheet" "sort" "I") (by decide +kernel)) (fun _ h => h) rfl dX5_copy_48 ?_
          refine lv_aload hx hb dX5_copy_51 (lv_at hl 0 rfl) ?_
          refine va_get (D := xD E) (ci := 3) (v := .int (u.2 4)) (C := RX3) (T := TX3) (N := 3) hx hb hts (by decide +kernel) hown hK hP 17 rfl rfl 1 (by decide) (hts (.fieldLink RX5 329 "RailOffsets$Sheet" "sort" "I") (by decide +kernel)) (fun _ h => h) rfl dX5_copy_53 ?_
          refine lv_icmp_eq (tgt := 62) hx hb dX5_copy_56 rfl (fun q30 => ?_) (fun q30 => ?_)
          · have hR := hR.trans (if_pos q30)
            refine lv_iload hx hb dX5_copy_62 (lv_at hl 7 rfl) ?_
            refine lv_if_lt (tgt := 100) hx hb dX5_copy_64 rfl (fun q31 => ?_) (fun q31 => ?_)
            · have hR := hR.trans (if_pos q31)
              refine lv_bipush (v := (-12)) hx hb dX5_copy_100 rfl ?_
              have hR : s_X5_copy u p1 p2 p3 p4 p5 = ((-12), u) := hR
              exact W.iret (v := (-12)) hx hb hr (fun t ht _ => by rw [hR]; dsimp only; exact ⟨⟨rfl, by rw [ht]; exact hP⟩, hS.F ht⟩) hS.2.2 dX5_copy_102
            · have hR := hR.trans (if_neg q31)
              refine lv_iload_n hx hb dX5_copy_67 rfl (lv_at hl 4 rfl) ?_
              refine lv_iconst (v := 0) hx hb dX5_copy_68 rfl ?_
              refine lv_aload hx hb dX5_copy_69 (lv_at hl 1 rfl) ?_
              refine va_get (D := xD E) (ci := 3) (v := .int (u.2 9)) (C := RX3) (T := TX3) (N := 3) hx hb hts (by decide +kernel) hown hK hP 18 rfl rfl 2 (by decide) (hts (.fieldLink RX5 264 "RailOffsets$Sheet" "size" "I") (by decide +kernel)) (fun _ h => h) rfl dX5_copy_71 ?_
              refine lv_iload hx hb dX5_copy_74 (lv_at hl 7 rfl) ?_
              refine lv_isub hx hb dX5_copy_76 ?_
              refine xRoS (nL := 8) ⟨hx, hb, hml, hown, hts⟩ (c_X5_within l E p2 0 ((u.2 9) - p5)) (va_cwS 3 hts gX5_copy_X5_within rfl rfl rfl hd_X5_within ⟨(Nat.le_of_ble_eq_true rfl), (Nat.le_of_ble_eq_true rfl)⟩) hF hS hA (hP.sub [] rfl) rfl hl.1 rfl (Nat.le_of_ble_eq_true rfl) ⟨(Nat.le_of_ble_eq_true rfl), (Nat.le_of_ble_eq_true rfl)⟩ dX5_copy_77 ?_
              refine W.eq (g2 := F0 m 80 ls [.int (s_X5_within p2 0 ((u.2 9) - p5))]) rfl ?_
              refine lv_if_eq (tgt := 100) hx hb dX5_copy_80 rfl (fun q32 => ?_) (fun q32 => ?_)
              · have hR := hR.trans (if_pos q32)
                refine lv_bipush (v := (-12)) hx hb dX5_copy_100 rfl ?_
                have hR : s_X5_copy u p1 p2 p3 p4 p5 = ((-12), u) := hR
                exact W.iret (v := (-12)) hx hb hr (fun t ht _ => by rw [hR]; dsimp only; exact ⟨⟨rfl, by rw [ht]; exact hP⟩, hS.F ht⟩) hS.2.2 dX5_copy_102
              · have hR := hR.trans (if_neg q32)
                refine lv_iload hx hb dX5_copy_83 (lv_at hl 6 rfl) ?_
                refine lv_iconst (v := 0) hx hb dX5_copy_85 rfl ?_
                refine lv_aload hx hb dX5_copy_86 (lv_at hl 0 rfl) ?_
                refine va_get (D := xD E) (ci := 3) (v := .int (u.2 8)) (C := RX3) (T := TX3) (N := 3) hx hb hts (by decide +kernel) hown hK hP 17 rfl rfl 2 (by decide) (hts (.fieldLink RX5 264 "RailOffsets$Sheet" "size" "I") (by decide +kernel)) (fun _ h => h) rfl dX5_copy_88 ?_
                refine lv_iload hx hb dX5_copy_91 (lv_at hl 7 rfl) ?_
                refine lv_isub hx hb dX5_copy_93 ?_
                refine xRoS (nL := 8) ⟨hx, hb, hml, hown, hts⟩ (c_X5_within l E p4 0 ((u.2 8) - p5)) (va_cwS 3 hts gX5_copy_X5_within rfl rfl rfl hd_X5_within ⟨(Nat.le_of_ble_eq_true rfl), (Nat.le_of_ble_eq_true rfl)⟩) hF hS hA (hP.sub [] rfl) rfl hl.1 rfl (Nat.le_of_ble_eq_true rfl) ⟨(Nat.le_of_ble_eq_true rfl), (Nat.le_of_ble_eq_true rfl)⟩ dX5_copy_94 ?_
                refine W.eq (g2 := F0 m 97 ls [.int (s_X5_within p4 0 ((u.2 8) - p5))]) rfl ?_
                refine lv_if_ne (tgt := 103) hx hb dX5_copy_97 rfl (fun q33 => ?_) (fun q33 => ?_)
                · have hR := hR.trans (if_neg q33)
                  refine lv_aload hx hb dX5_copy_103 (lv_at hl 1 rfl) ?_
                  refine va_get (D := xD E) (ci := 3) (v := .ref (a 22)) (C := RX3) (T := TX3) (N := 3) hx hb hts (by decide +kernel) hown hK hP 18 rfl rfl 0 (by decide) (hts (.fieldLink RX5 340 "RailOffsets$Sheet" "items" "[I") (by decide +kernel)) (fun _ h => h) rfl dX5_copy_105 ?_
                  refine lv_iload_n hx hb dX5_copy_108 rfl (lv_at hl 4 rfl) ?_
                  refine lv_aload hx hb dX5_copy_109 (lv_at hl 0 rfl) ?_
                  refine va_get (D := xD E) (ci := 3) (v := .ref (a 21)) (C := RX3) (T := TX3) (N := 3) hx hb hts (by decide +kernel) hown hK hP 17 rfl rfl 0 (by decide) (hts (.fieldLink RX5 340 "RailOffsets$Sheet" "items" "[I") (by decide +kernel)) (fun _ h => h) rfl dX5_copy_111 ?_
                  refine lv_iload hx hb dX5_copy_114 (lv_at hl 6 rfl) ?_
                  refine lv_iload hx hb dX5_copy_116 (lv_at hl 7 rfl) ?_
                  refine va_copyi (ty := .int) hx hb (hml.trans hl.1.symm) hown (hts (.methodLink RX5 323 arraycopyName) (by decide +kernel)) (hts (.native arraycopyName) (by decide +kernel)) (hts (.static arraycopyName) (by decide +kernel)) (hts (.initialized "java/lang/System") (by decide +kernel)) hK hP (xD_of (ws := wX E a u) (A := (· ∈ LX a)) hL.1 (fun _ h => h)) hS 22 21 0 0 rfl rfl rfl rfl rfl (xcp1 (by assumption)) (xcp1 (by assumption)) (by assumption) (xcp2 (s := u.2 (8 + 1)) (hp0 1 (by decide)) (by assumption) (by assumption)) (xcp2 (s := u.2 (8 + 0)) (hp0 0 (by decide)) (by assumption) (by assumption)) (fun _ _ => rfl) (Nat.le_of_ble_eq_true rfl) (Nat.le_of_ble_eq_true rfl) dX5_copy_118 (fun H locs hP _ hS => ?_)
                  have hP : va_P (xD E) vwCl (wX E a (uR u 21 (va_cpy (u.1 22) (u.1 21) p2.toNatClampNeg p4.toNatClampNeg p5.toNatClampNeg))) H := hP
                  refine W.eq (g2 := F0 m 121 ls []) rfl ?_
                  refine lv_iload hx hb dX5_copy_121 (lv_at hl 7 rfl) ?_
                  have hR : s_X5_copy u p1 p2 p3 p4 p5 = (p5, uR u 21 (va_cpy (u.1 22) (u.1 21) p2.toNatClampNeg p4.toNatClampNeg p5.toNatClampNeg)) := hR
                  exact W.iret (v := p5) hx hb hr (fun t ht _ => by rw [hR]; dsimp only; exact ⟨⟨rfl, by rw [ht]; exact hP⟩, hS.F ht⟩) hS.2.2 dX5_copy_123
                · have hR := hR.trans (if_pos q33)
                  refine lv_bipush (v := (-12)) hx hb dX5_copy_100 rfl ?_
                  have hR : s_X5_copy u p1 p2 p3 p4 p5 = ((-12), u) := hR
                  exact W.iret (v := (-12)) hx hb hr (fun t ht _ => by rw [hR]; dsimp only; exact ⟨⟨rfl, by rw [ht]; exact hP⟩, hS.F ht⟩) hS.2.2 dX5_copy_102
          · have hR := hR.trans (if_neg q30)
            refine lv_bipush (v := (-13)) hx hb dX5_copy_59 rfl ?_
            have hR : s_X5_copy u p1 p2 p3 p4 p5 = ((-13), u) := hR
            exact W.iret (v := (-13)) hx hb hr (fun t ht _ => by rw [hR]; dsimp only; exact ⟨⟨rfl, by rw [ht]; exact hP⟩, hS.F ht⟩) hS.2.2 dX5_copy_61
        · have hR := hR.trans (if_neg q29)
          refine lv_bipush (v := (-11)) hx hb dX5_copy_43 rfl ?_
          have hR : s_X5_copy u p1 p2 p3 p4 p5 = ((-11), u) := hR
          exact W.iret (v := (-11)) hx hb hr (fun t ht _ => by rw [hR]; dsimp only; exact ⟨⟨rfl, by rw [ht]; exact hP⟩, hS.F ht⟩) hS.2.2 dX5_copy_45
    have hR := hR.trans (if_neg t27_0)
    by_cases t27_1 : p3 = 1
    · have hR := hR.trans (if_pos t27_1)
      refine xRoV (nL := 8) ⟨hx, hb, hml, hown, hts⟩ (c_X5_sheetOf l E a u p3 1 (by decide) t27_1) (cwV 1 hts gX5_copy_X5_sheetOf rfl rfl rfl ⟨rfl, hd_X5_sheetOf⟩ ⟨(Nat.le_of_ble_eq_true rfl), (Nat.le_of_ble_eq_true rfl)⟩) hF hS hA hP (va_recv (q := (RX5, TX5, 9)) hK hP (ci := 5) rfl (q0 := 0) rfl) rfl hl.1 rfl (Nat.le_of_ble_eq_true rfl) ⟨(Nat.le_of_ble_eq_true rfl), (Nat.le_of_ble_eq_true rfl)⟩ dX5_copy_9 ?_
      refine W.eq (g2 := F0 m 12 ls [.ref (a 18)]) rfl ?_
      refine lv_astore (lv' := [(7, .ref (a 18)), (6, .ref (a 18)), (0, .ref (a 0)), (1, .int p1), (2, .int p2), (3, .int p3), (4, .int p4), (5, .int p5)]) hx hb dX5_copy_12 hl (by decide) rfl (fun ls hl => ?_)
      refine lv_aload hx hb dX5_copy_14 (lv_at hl 1 rfl) ?_
      refine lv_ifnull hx hb dX5_copy_16 ?_
      refine lv_aload hx hb dX5_copy_19 (lv_at hl 0 rfl) ?_
      refine lv_ifnonnull (tgt := 27) hx hb dX5_copy_21 rfl ?_
      refine lv_aload hx hb dX5_copy_27 (lv_at hl 1 rfl) ?_
      refine xRoV (nL := 8) ⟨hx, hb, hml, hown, hts⟩ (c_X3_isMissing l E (a 18) (a 22) (uS u 1) ) (cwV 0 hts gX5_copy_X3_isMissing rfl rfl rfl ⟨rfl, hd_X3_isMissing⟩ ⟨(Nat.le_of_ble_eq_true rfl), (Nat.le_of_ble_eq_true rfl)⟩) hF hS hA (hP.sub [18, 22] rfl) (va_recv (q := (RX3, TX3, 3)) hK hP (ci := 3) rfl (q0 := 18) rfl) rfl hl.1 rfl (Nat.le_of_ble_eq_true rfl) ⟨(Nat.le_of_ble_eq_true rfl), (Nat.le_of_ble_eq_true rfl)⟩ dX5_copy_29 ?_
      refine W.eq (g2 := F0 m 32 ls [.int (s_X3_isMissing (uS u 1))]) rfl ?_
      refine lv_if_ne (tgt := 43) hx hb dX5_copy_32 rfl (fun q34 => ?_) (fun q34 => ?_)
      · have hR := hR.trans (if_neg q34)
        refine lv_bipush (v := (-11)) hx hb dX5_copy_43 rfl ?_
        have hR : s_X5_copy u p1 p2 p3 p4 p5 = ((-11), u) := hR
        exact W.iret (v := (-11)) hx hb hr (fun t ht _ => by rw [hR]; dsimp only; exact ⟨⟨rfl, by rw [ht]; exact hP⟩, hS.F ht⟩) hS.2.2 dX5_copy_45
      · have hR := hR.trans (if_pos q34)
        refine lv_aload hx hb dX5_copy_35 (lv_at hl 0 rfl) ?_
        refine xRoV (nL := 8) ⟨hx, hb, hml, hown, hts⟩ (c_X3_isMissing l E (a 18) (a 22) (uS u 1) ) (cwV 0 hts gX5_copy_X3_isMissing rfl rfl rfl ⟨rfl, hd_X3_isMissing⟩ ⟨(Nat.le_of_ble_eq_true rfl), (Nat.le_of_ble_eq_true rfl)⟩) hF hS hA (hP.sub [18, 22] rfl) (va_recv (q := (RX3, TX3, 3)) hK hP (ci := 3) rfl (q0 := 18) rfl) rfl hl.1 rfl (Nat.le_of_ble_eq_true rfl) ⟨(Nat.le_of_ble_eq_true rfl), (Nat.le_of_ble_eq_true rfl)⟩ dX5_copy_37 ?_
        refine W.eq (g2 := F0 m 40 ls [.int (s_X3_isMissing (uS u 1))]) rfl ?_
        refine lv_if_eq (tgt := 46) hx hb dX5_copy_40 rfl (fun q35 => ?_) (fun q35 => ?_)
        · have hR := hR.trans (if_pos q35)
          refine lv_aload hx hb dX5_copy_46 (lv_at hl 1 rfl) ?_
          refine va_get (D := xD E) (ci := 3) (v := .int (u.2 5)) (C := RX3) (T := TX3) (N := 3) hx hb hts (by decide +kernel) hown hK hP 18 rfl rfl 1 (by decide) (hts (.fieldLink RX5 329 "RailOffsets$Sheet" "sort" "I") (by decide +kernel)) (fun _ h => h) rfl dX5_copy_48 ?_
          refine lv_aload hx hb dX5_copy_51 (lv_at hl 0 rfl) ?_
          refine va_get (D := xD E) (ci := 3) (v := .int (u.2 5)) (C := RX3) (T := TX3) (N := 3) hx hb hts (by decide +kernel) hown hK hP 18 rfl rfl 1 (by decide) (hts (.fieldLink RX5 329 "RailOffsets$Sheet" "sort" "I") (by decide +kernel)) (fun _ h => h) rfl dX5_copy_53 ?_
          refine lv_icmp_eq (tgt := 62) hx hb dX5_copy_56 rfl (fun q36 => ?_) (fun q36 => ?_)
          · have hR := hR.trans (if_pos q36)
            refine lv_iload hx hb dX5_copy_62 (lv_at hl 7 rfl) ?_
            refine lv_if_lt (tgt := 100) hx hb dX5_copy_64 rfl (fun q37 => ?_) (fun q37 => ?_)
            · have hR := hR.trans (if_pos q37)
              refine lv_bipush (v := (-12)) hx hb dX5_copy_100 rfl ?_
              have hR : s_X5_copy u p1 p2 p3 p4 p5 = ((-12), u) := hR
              exact W.iret (v := (-12)) hx hb hr (fun t ht _ => by rw [hR]; dsimp only; exact ⟨⟨rfl, by rw [ht]; exact hP⟩, hS.F ht⟩) hS.2.2 dX5_copy_102
            · have hR := hR.trans (if_neg q37)
              refine lv_iload_n hx hb dX5_copy_67 rfl (lv_at hl 4 rfl) ?_
              refine lv_iconst (v := 0) hx hb dX5_copy_68 rfl ?_
              refine lv_aload hx hb dX5_copy_69 (lv_at hl 1 rfl) ?_
              refine va_get (D := xD E) (ci := 3) (v := .int (u.2 9)) (C := RX3) (T := TX3) (N := 3) hx hb hts (by decide +kernel) hown hK hP 18 rfl rfl 2 (by decide) (hts (.fieldLink RX5 264 "RailOffsets$Sheet" "size" "I") (by decide +kernel)) (fun _ h => h) rfl dX5_copy_71 ?_
              refine lv_iload hx hb dX5_copy_74 (lv_at hl 7 rfl) ?_
              refine lv_isub hx hb dX5_copy_76 ?_
              refine xRoS (nL := 8) ⟨hx, hb, hml, hown, hts⟩ (c_X5_within l E p2 0 ((u.2 9) - p5)) (va_cwS 3 hts gX5_copy_X5_within rfl rfl rfl hd_X5_within ⟨(Nat.le_of_ble_eq_true rfl), (Nat.le_of_ble_eq_true rfl)⟩) hF hS hA (hP.sub [] rfl) rfl hl.1 rfl (Nat.le_of_ble_eq_true rfl) ⟨(Nat.le_of_ble_eq_true rfl), (Nat.le_of_ble_eq_true rfl)⟩ dX5_copy_77 ?_
              refine W.eq (g2 := F0 m 80 ls [.int (s_X5_within p2 0 ((u.2 9) - p5))]) rfl ?_
              refine lv_if_eq (tgt := 100) hx hb dX5_copy_80 rfl (fun q38 => ?_) (fun q38 => ?_)
              · have hR := hR.trans (if_pos q38)
                refine lv_bipush (v := (-12)) hx hb dX5_copy_100 rfl ?_
                have hR : s_X5_copy u p1 p2 p3 p4 p5 = ((-12), u) := hR
                exact W.iret (v := (-12)) hx hb hr (fun t ht _ => by rw [hR]; dsimp only; exact ⟨⟨rfl, by rw [ht]; exact hP⟩, hS.F ht⟩) hS.2.2 dX5_copy_102
              · have hR := hR.trans (if_neg q38)
                refine lv_iload hx hb dX5_copy_83 (lv_at hl 6 rfl) ?_
                refine lv_iconst (v := 0) hx hb dX5_copy_85 rfl ?_
                refine lv_aload hx hb dX5_copy_86 (lv_at hl 0 rfl) ?_
                refine va_get (D := xD E) (ci := 3) (v := .int (u.2 9)) (C := RX3) (T := TX3) (N := 3) hx hb hts (by decide +kernel) hown hK hP 18 rfl rfl 2 (by decide) (hts (.fieldLink RX5 264 "RailOffsets$Sheet" "size" "I") (by decide +kernel)) (fun _ h => h) rfl dX5_copy_88 ?_
                refine lv_iload hx hb dX5_copy_91 (lv_at hl 7 rfl) ?_
                refine lv_isub hx hb dX5_copy_93 ?_
                refine xRoS (nL := 8) ⟨hx, hb, hml, hown, hts⟩ (c_X5_within l E p4 0 ((u.2 9) - p5)) (va_cwS 3 hts gX5_copy_X5_within rfl rfl rfl hd_X5_within ⟨(Nat.le_of_ble_eq_true rfl), (Nat.le_of_ble_eq_true rfl)⟩) hF hS hA (hP.sub [] rfl) rfl hl.1 rfl (Nat.le_of_ble_eq_true rfl) ⟨(Nat.le_of_ble_eq_true rfl), (Nat.le_of_ble_eq_true rfl)⟩ dX5_copy_94 ?_
                refine W.eq (g2 := F0 m 97 ls [.int (s_X5_within p4 0 ((u.2 9) - p5))]) rfl ?_
                refine lv_if_ne (tgt := 103) hx hb dX5_copy_97 rfl (fun q39 => ?_) (fun q39 => ?_)
                · have hR := hR.trans (if_neg q39)
                  refine lv_aload hx hb dX5_copy_103 (lv_at hl 1 rfl) ?_
                  refine va_get (D := xD E) (ci := 3) (v := .ref (a 22)) (C := RX3) (T := TX3) (N := 3) hx hb hts (by decide +kernel) hown hK hP 18 rfl rfl 0 (by decide) (hts (.fieldLink RX5 340 "RailOffsets$Sheet" "items" "[I") (by decide +kernel)) (fun _ h => h) rfl dX5_copy_105 ?_
                  refine lv_iload_n hx hb dX5_copy_108 rfl (lv_at hl 4 rfl) ?_
                  refine lv_aload hx hb dX5_copy_109 (lv_at hl 0 rfl) ?_
                  refine va_get (D := xD E) (ci := 3) (v := .ref (a 22)) (C := RX3) (T := TX3) (N := 3) hx hb hts (by decide +kernel) hown hK hP 18 rfl rfl 0 (by decide) (hts (.fieldLink RX5 340 "RailOffsets$Sheet" "items" "[I") (by decide +kernel)) (fun _ h => h) rfl dX5_copy_111 ?_
                  refine lv_iload hx hb dX5_copy_114 (lv_at hl 6 rfl) ?_
                  refine lv_iload hx hb dX5_copy_116 (lv_at hl 7 rfl) ?_
                  refine va_copyi (ty := .int) hx hb (hml.trans hl.1.symm) hown (hts (.methodLink RX5 323 arraycopyName) (by decide +kernel)) (hts (.native arraycopyName) (by decide +kernel)) (hts (.static arraycopyName) (by decide +kernel)) (hts (.initialized "java/lang/System") (by decide +kernel)) hK hP (xD_of (ws := wX E a u) (A := (· ∈ LX a)) hL.1 (fun _ h => h)) hS 22 22 0 0 rfl rfl rfl rfl rfl (xcp1 (by assumption)) (xcp1 (by assumption)) (by assumption) (xcp2 (s := u.2 (8 + 1)) (hp0 1 (by decide)) (by assumption) (by assumption)) (xcp2 (s := u.2 (8 + 1)) (hp0 1 (by decide)) (by assumption) (by assumption)) (fun _ _ => rfl) (Nat.le_of_ble_eq_true rfl) (Nat.le_of_ble_eq_true rfl) dX5_copy_118 (fun H locs hP _ hS => ?_)
                  have hP : va_P (xD E) vwCl (wX E a (uR u 22 (va_cpy (u.1 22) (u.1 22) p2.toNatClampNeg p4.toNatClampNeg p5.toNatClampNeg))) H := hP
                  refine W.eq (g2 := F0 m 121 ls []) rfl ?_
                  refine lv_iload hx hb dX5_copy_121 (lv_at hl 7 rfl) ?_
                  have hR : s_X5_copy u p1 p2 p3 p4 p5 = (p5, uR u 22 (va_cpy (u.1 22) (u.1 22) p2.toNatClampNeg p4.toNatClampNeg p5.toNatClampNeg)) := hR
                  exact W.iret (v := p5) hx hb hr (fun t ht _ => by rw [hR]; dsimp only; exact ⟨⟨rfl, by rw [ht]; exact hP⟩, hS.F ht⟩) hS.2.2 dX5_copy_123
                · have hR := hR.trans (if_pos q39)
                  refine lv_bipush (v := (-12)) hx hb dX5_copy_100 rfl ?_
                  have hR : s_X5_copy u p1 p2 p3 p4 p5 = ((-12), u) := hR
                  exact W.iret (v := (-12)) hx hb hr (fun t ht _ => by rw [hR]; dsimp only; exact ⟨⟨rfl, by rw [ht]; exact hP⟩, hS.F ht⟩) hS.2.2 dX5_copy_102
          · have hR := hR.trans (if_neg q36)
            refine lv_bipush (v := (-13)) hx hb dX5_copy_59 rfl ?_
            have hR : s_X5_copy u p1 p2 p3 p4 p5 = ((-13), u) := hR
            exact W.iret (v := (-13)) hx hb hr (fun t ht _ => by rw [hR]; dsimp only; exact ⟨⟨rfl, by rw [ht]; exact hP⟩, hS.F ht⟩) hS.2.2 dX5_copy_61
        · have hR := hR.trans (if_neg q35)
          refine lv_bipush (v := (-11)) hx hb dX5_copy_43 rfl ?_
          have hR : s_X5_copy u p1 p2 p3 p4 p5 = ((-11), u) := hR
          exact W.iret (v := (-11)) hx hb hr (fun t ht _ => by rw [hR]; dsimp only; exact ⟨⟨rfl, by rw [ht]; exact hP⟩, hS.F ht⟩) hS.2.2 dX5_copy_45
    have hR := hR.trans (if_neg t27_1)
    by_cases t27_2 : p3 = 2
    · have hR := hR.trans (if_pos t27_2)
      refine xRoV (nL := 8) ⟨hx, hb, hml, hown, hts⟩ (c_X5_sheetOf l E a u p3 2 (by decide) t27_2) (cwV 1 hts gX5_copy_X5_sheetOf rfl rfl rfl ⟨rfl, hd_X5_sheetOf⟩ ⟨(Nat.le_of_ble_eq_true rfl), (Nat.le_of_ble_eq_true rfl)⟩) hF hS hA hP (va_recv (q := (RX5, TX5, 9)) hK hP (ci := 5) rfl (q0 := 0) rfl) rfl hl.1 rfl (Nat.le_of_ble_eq_true rfl) ⟨(Nat.le_of_ble_eq_true rfl), (Nat.le_of_ble_eq_true rfl)⟩ dX5_copy_9 ?_
      refine W.eq (g2 := F0 m 12 ls [.ref (a 19)]) rfl ?_
      refine lv_astore (lv' := [(7, .ref (a 19)), (6, .ref (a 18)), (0, .ref (a 0)), (1, .int p1), (2, .int p2), (3, .int p3), (4, .int p4), (5, .int p5)]) hx hb dX5_copy_12 hl (by decide) rfl (fun ls hl => ?_)
      refine lv_aload hx hb dX5_copy_14 (lv_at hl 1 rfl) ?_
      refine lv_ifnull hx hb dX5_copy_16 ?_
      refine lv_aload hx hb dX5_copy_19 (lv_at hl 0 rfl) ?_
      refine lv_ifnonnull (tgt := 27) hx hb dX5_copy_21 rfl ?_
      refine lv_aload hx hb dX5_copy_27 (lv_at hl 1 rfl) ?_
      refine xRoV (nL := 8) ⟨hx, hb, hml, hown, hts⟩ (c_X3_isMissing l E (a 18) (a 22) (uS u 1) ) (cwV 0 hts gX5_copy_X3_isMissing rfl rfl rfl ⟨rfl, hd_X3_isMissing⟩ ⟨(Nat.le_of_ble_eq_true rfl), (Nat.le_of_ble_eq_true rfl)⟩) hF hS hA (hP.sub [18, 22] rfl) (va_recv (q := (RX3, TX3, 3)) hK hP (ci := 3) rfl (q0 := 18) rfl) rfl hl.1 rfl (Nat.le_of_ble_eq_true rfl) ⟨(Nat.le_of_ble_eq_true rfl), (Nat.le_of_ble_eq_true rfl)⟩ dX5_copy_29 ?_
      refine W.eq (g2 := F0 m 32 ls [.int (s_X3_isMissing (uS u 1))]) rfl ?_
      refine lv_if_ne (tgt := 43) hx hb dX5_copy_32 rfl (fun q40 => ?_) (fun q40 => ?_)
      · have hR := hR.trans (if_neg q40)
        refine lv_bipush (v := (-11)) hx hb dX5_copy_43 rfl ?_
        have hR : s_X5_copy u p1 p2 p3 p4 p5 = ((-11), u) := hR
        exact W.iret (v := (-11)) hx hb hr (fun t ht _ => by rw [hR]; dsimp only; exact ⟨⟨rfl, by rw [ht]; exact hP⟩, hS.F ht⟩) hS.2.2 dX5_copy_45
      · have hR := hR.trans (if_pos q40)
        refine lv_aload hx hb dX5_copy_35 (lv_at hl 0 rfl) ?_
        refine xRoV (nL := 8) ⟨hx, hb, hml, hown, hts⟩ (c_X3_isMissing l E (a 19) (a 23) (uS u 2) ) (cwV 0 hts gX5_copy_X3_isMissing rfl rfl rfl ⟨rfl, hd_X3_isMissing⟩ ⟨(Nat.le_of_ble_eq_true rfl), (Nat.le_of_ble_eq_true rfl)⟩) hF hS hA (hP.sub [19, 23] rfl) (va_recv (q := (RX3, TX3, 3)) hK hP (ci := 3) rfl (q0 := 19) rfl) rfl hl.1 rfl (Nat.le_of_ble_eq_true rfl) ⟨(Nat.le_of_ble_eq_true rfl), (Nat.le_of_ble_eq_true rfl)⟩ dX5_copy_37 ?_
        refine W.eq (g2 := F0 m 40 ls [.int (s_X3_isMissing (uS u 2))]) rfl ?_
        refine lv_if_eq (tgt := 46) hx hb dX5_copy_40 rfl (fun q41 => ?_) (fun q41 => ?_)
        · have hR := hR.trans (if_pos q41)
          refine lv_aload hx hb dX5_copy_46 (lv_at hl 1 rfl) ?_
          refine va_get (D := xD E) (ci := 3) (v := .int (u.2 5)) (C := RX3) (T := TX3) (N := 3) hx hb hts (by decide +kernel) hown hK hP 18 rfl rfl 1 (by decide) (hts (.fieldLink RX5 329 "RailOffsets$Sheet" "sort" "I") (by decide +kernel)) (fun _ h => h) rfl dX5_copy_48 ?_
          refine lv_aload hx hb dX5_copy_51 (lv_at hl 0 rfl) ?_
          refine va_get (D := xD E) (ci := 3) (v := .int (u.2 6)) (C := RX3) (T := TX3) (N := 3) hx hb hts (by decide +kernel) hown hK hP 19 rfl rfl 1 (by decide) (hts (.fieldLink RX5 329 "RailOffsets$Sheet" "sort" "I") (by decide +kernel)) (fun _ h => h) rfl dX5_copy_53 ?_
          refine lv_icmp_eq (tgt := 62) hx hb dX5_copy_56 rfl (fun q42 => ?_) (fun q42 => ?_)
          · have hR := hR.trans (if_pos q42)
            refine lv_iload hx hb dX5_copy_62 (lv_at hl 7 rfl) ?_
            refine lv_if_lt (tgt := 100) hx hb dX5_copy_64 rfl (fun q43 => ?_) (fun q43 => ?_)
            · have hR := hR.trans (if_pos q43)
              refine lv_bipush (v := (-12)) hx hb dX5_copy_100 rfl ?_
              have hR : s_X5_copy u p1 p2 p3 p4 p5 = ((-12), u) := hR
              exact W.iret (v := (-12)) hx hb hr (fun t ht _ => by rw [hR]; dsimp only; exact ⟨⟨rfl, by rw [ht]; exact hP⟩, hS.F ht⟩) hS.2.2 dX5_copy_102
            · have hR := hR.trans (if_neg q43)
              refine lv_iload_n hx hb dX5_copy_67 rfl (lv_at hl 4 rfl) ?_
              refine lv_iconst (v := 0) hx hb dX5_copy_68 rfl ?_
              refine lv_aload hx hb dX5_copy_69 (lv_at hl 1 rfl) ?_
              refine va_get (D := xD E) (ci := 3) (v := .int (u.2 9)) (C := RX3) (T := TX3) (N := 3) hx hb hts (by decide +kernel) hown hK hP 18 rfl rfl 2 (by decide) (hts (.fieldLink RX5 264 "RailOffsets$Sheet" "size" "I") (by decide +kernel)) (fun _ h => h) rfl dX5_copy_71 ?_
              refine lv_iload hx hb dX5_copy_74 (lv_at hl 7 rfl) ?_
              refine lv_isub hx hb dX5_copy_76 ?_
              refine xRoS (nL := 8) ⟨hx, hb, hml, hown, hts⟩ (c_X5_within l E p2 0 ((u.2 9) - p5)) (va_cwS 3 hts gX5_copy_X5_within rfl rfl rfl hd_X5_within ⟨(Nat.le_of_ble_eq_true rfl), (Nat.le_of_ble_eq_true rfl)⟩) hF hS hA (hP.sub [] rfl) rfl hl.1 rfl (Nat.le_of_ble_eq_true rfl) ⟨(Nat.le_of_ble_eq_true rfl), (Nat.le_of_ble_eq_true rfl)⟩ dX5_copy_77 ?_
              refine W.eq (g2 := F0 m 80 ls [.int (s_X5_within p2 0 ((u.2 9) - p5))]) rfl ?_
              refine lv_if_eq (tgt := 100) hx hb dX5_copy_80 rfl (fun q44 => ?_) (fun q44 => ?_)
              · have hR := hR.trans (if_pos q44)
                refine lv_bipush (v := (-12)) hx hb dX5_copy_100 rfl ?_
                have hR : s_X5_copy u p1 p2 p3 p4 p5 = ((-12), u) := hR
                exact W.iret (v := (-12)) hx hb hr (fun t ht _ => by rw [hR]; dsimp only; exact ⟨⟨rfl, by rw [ht]; exact hP⟩, hS.F ht⟩) hS.2.2 dX5_copy_102
              · have hR := hR.trans (if_neg q44)
                refine lv_iload hx hb dX5_copy_83 (lv_at hl 6 rfl) ?_
                refine lv_iconst (v := 0) hx hb dX5_copy_85 rfl ?_
                refine lv_aload hx hb dX5_copy_86 (lv_at hl 0 rfl) ?_
                refine va_get (D := xD E) (ci := 3) (v := .int (u.2 10)) (C := RX3) (T := TX3) (N := 3) hx hb hts (by decide +kernel) hown hK hP 19 rfl rfl 2 (by decide) (hts (.fieldLink RX5 264 "RailOffsets$Sheet" "size" "I") (by decide +kernel)) (fun _ h => h) rfl dX5_copy_88 ?_
                refine lv_iload hx hb dX5_copy_91 (lv_at hl 7 rfl) ?_
                refine lv_isub hx hb dX5_copy_93 ?_
                refine xRoS (nL := 8) ⟨hx, hb, hml, hown, hts⟩ (c_X5_within l E p4 0 ((u.2 10) - p5)) (va_cwS 3 hts gX5_copy_X5_within rfl rfl rfl hd_X5_within ⟨(Nat.le_of_ble_eq_true rfl), (Nat.le_of_ble_eq_true rfl)⟩) hF hS hA (hP.sub [] rfl) rfl hl.1 rfl (Nat.le_of_ble_eq_true rfl) ⟨(Nat.le_of_ble_eq_true rfl), (Nat.le_of_ble_eq_true rfl)⟩ dX5_copy_94 ?_
                refine W.eq (g2 := F0 m 97 ls [.int (s_X5_within p4 0 ((u.2 10) - p5))]) rfl ?_
                refine lv_if_ne (tgt := 103) hx hb dX5_copy_97 rfl (fun q45 => ?_) (fun q45 => ?_)
                · have hR := hR.trans (if_neg q45)
                  refine lv_aload hx hb dX5_copy_103 (lv_at hl 1 rfl) ?_
                  refine va_get (D := xD E) (ci := 3) (v := .ref (a 22)) (C := RX3) (T := TX3) (N := 3) hx hb hts (by decide +kernel) hown hK hP 18 rfl rfl 0 (by decide) (hts (.fieldLink RX5 340 "RailOffsets$Sheet" "items" "[I") (by decide +kernel)) (fun _ h => h) rfl dX5_copy_105 ?_
                  refine lv_iload_n hx hb dX5_copy_108 rfl (lv_at hl 4 rfl) ?_
                  refine lv_aload hx hb dX5_copy_109 (lv_at hl 0 rfl) ?_
                  refine va_get (D := xD E) (ci := 3) (v := .ref (a 23)) (C := RX3) (T := TX3) (N := 3) hx hb hts (by decide +kernel) hown hK hP 19 rfl rfl 0 (by decide) (hts (.fieldLink RX5 340 "RailOffsets$Sheet" "items" "[I") (by decide +kernel)) (fun _ h => h) rfl dX5_copy_111 ?_
                  refine lv_iload hx hb dX5_copy_114 (lv_at hl 6 rfl) ?_
                  refine lv_iload hx hb dX5_copy_116 (lv_at hl 7 rfl) ?_
                  refine va_copyi (ty := .int) hx hb (hml.trans hl.1.symm) hown (hts (.methodLink RX5 323 arraycopyName) (by decide +kernel)) (hts (.native arraycopyName) (by decide +kernel)) (hts (.static arraycopyName) (by decide +kernel)) (hts (.initialized "java/lang/System") (by decide +kernel)) hK hP (xD_of (ws := wX E a u) (A := (· ∈ LX a)) hL.1 (fun _ h => h)) hS 22 23 0 0 rfl rfl rfl rfl rfl (xcp1 (by assumption)) (xcp1 (by assumption)) (by assumption) (xcp2 (s := u.2 (8 + 1)) (hp0 1 (by decide)) (by assumption) (by assumption)) (xcp2 (s := u.2 (8 + 2)) (hp0 2 (by decide)) (by assumption) (by assumption)) (fun _ _ => rfl) (Nat.le_of_ble_eq_true rfl) (Nat.le_of_ble_eq_true rfl) dX5_copy_118 (fun H locs hP _ hS => ?_)
                  have hP : va_P (xD E) vwCl (wX E a (uR u 23 (va_cpy (u.1 22) (u.1 23) p2.toNatClampNeg p4.toNatClampNeg p5.toNatClampNeg))) H := hP
                  refine W.eq (g2 := F0 m 121 ls []) rfl ?_
                  refine lv_iload hx hb dX5_copy_121 (lv_at hl 7 rfl) ?_
                  have hR : s_X5_copy u p1 p2 p3 p4 p5 = (p5, uR u 23 (va_cpy (u.1 22) (u.1 23) p2.toNatClampNeg p4.toNatClampNeg p5.toNatClampNeg)) := hR
                  exact W.iret (v := p5) hx hb hr (fun t ht _ => by rw [hR]; dsimp only; exact ⟨⟨rfl, by rw [ht]; exact hP⟩, hS.F ht⟩) hS.2.2 dX5_copy_123
                · have hR := hR.trans (if_pos q45)
                  refine lv_bipush (v := (-12)) hx hb dX5_copy_100 rfl ?_
                  have hR : s_X5_copy u p1 p2 p3 p4 p5 = ((-12), u) := hR
                  exact W.iret (v := (-12)) hx hb hr (fun t ht _ => by rw [hR]; dsimp only; exact ⟨⟨rfl, by rw [ht]; exact hP⟩, hS.F ht⟩) hS.2.2 dX5_copy_102
          · have hR := hR.trans (if_neg q42)
            refine lv_bipush (v := (-13)) hx hb dX5_copy_59 rfl ?_
            have hR : s_X5_copy u p1 p2 p3 p4 p5 = ((-13), u) := hR
            exact W.iret (v := (-13)) hx hb hr (fun t ht _ => by rw [hR]; dsimp only; exact ⟨⟨rfl, by rw [ht]; exact hP⟩, hS.F ht⟩) hS.2.2 dX5_copy_61
        · have hR := hR.trans (if_neg q41)
          refine lv_bipush (v := (-11)) hx hb dX5_copy_43 rfl ?_
          have hR : s_X5_copy u p1 p2 p3 p4 p5 = ((-11), u) := hR
          exact W.iret (v := (-11)) hx hb hr (fun t ht _ => by rw [hR]; dsimp only; exact ⟨⟨rfl, by rw [ht]; exact hP⟩, hS.F ht⟩) hS.2.2 dX5_copy_45
    have hR := hR.trans (if_neg t27_2)
    by_cases t27_3 : p3 = 3
    · have hR := hR.trans (if_pos t27_3)
      refine xRoV (nL := 8) ⟨hx, hb, hml, hown, hts⟩ (c_X5_sheetOf l E a u p3 3 (by decide) t27_3) (cwV 1 hts gX5_copy_X5_sheetOf rfl rfl rfl ⟨rfl, hd_X5_sheetOf⟩ ⟨(Nat.le_of_ble_eq_true rfl), (Nat.le_of_ble_eq_true rfl)⟩) hF hS hA hP (va_recv (q := (RX5, TX5, 9)) hK hP (ci := 5) rfl (q0 := 0) rfl) rfl hl.1 rfl (Nat.le_of_ble_eq_true rfl) ⟨(Nat.le_of_ble_eq_true rfl), (Nat.le_of_ble_eq_true rfl)⟩ dX5_copy_9 ?_
      refine W.eq (g2 := F0 m 12 ls [.ref (a 20)]) rfl ?_
      refine lv_astore (lv' := [(7, .ref (a 20)), (6, .ref (a 18)), (0, .ref (a 0)), (1, .int p1), (2, .int p2), (3, .int p3), (4, .int p4), (5, .int p5)]) hx hb dX5_copy_12 hl (by decide) rfl (fun ls hl => ?_)
      refine lv_aload hx hb dX5_copy_14 (lv_at hl 1 rfl) ?_
      refine lv_ifnull hx hb dX5_copy_16 ?_
      refine lv_aload hx hb dX5_copy_19 (lv_at hl 0 rfl) ?_
      refine lv_ifnonnull (tgt := 27) hx hb dX5_copy_21 rfl ?_
      refine lv_aload hx hb dX5_copy_27 (lv_at hl 1 rfl) ?_
      refine xRoV (nL := 8) ⟨hx, hb, hml, hown, hts⟩ (c_X3_isMissing l E (a 18) (a 22) (uS u 1) ) (cwV 0 hts gX5_copy_X3_isMissing rfl rfl rfl ⟨rfl, hd_X3_isMissing⟩ ⟨(Nat.le_of_ble_eq_true rfl), (Nat.le_of_ble_eq_true rfl)⟩) hF hS hA (hP.sub [18, 22] rfl) (va_recv (q := (RX3, TX3, 3)) hK hP (ci := 3) rfl (q0 := 18) rfl) rfl hl.1 rfl (Nat.le_of_ble_eq_true rfl) ⟨(Nat.le_of_ble_eq_true rfl), (Nat.le_of_ble_eq_true rfl)⟩ dX5_copy_29 ?_
      refine W.eq (g2 := F0 m 32 ls [.int (s_X3_isMissing (uS u 1))]) rfl ?_
      refine lv_if_ne (tgt := 43) hx hb dX5_copy_32 rfl (fun q46 => ?_) (fun q46 => ?_)
      · have hR := hR.trans (if_neg q46)
        refine lv_bipush (v := (-11)) hx hb dX5_copy_43 rfl ?_
        have hR : s_X5_copy u p1 p2 p3 p4 p5 = ((-11), u) := hR
        exact W.iret (v := (-11)) hx hb hr (fun t ht _ => by rw [hR]; dsimp only; exact ⟨⟨rfl, by rw [ht]; exact hP⟩, hS.F ht⟩) hS.2.2 dX5_copy_45
      · have hR := hR.trans (if_pos q46)
        refine lv_aload hx hb dX5_copy_35 (lv_at hl 0 rfl) ?_
        refine xRoV (nL := 8) ⟨hx, hb, hml, hown, hts⟩ (c_X3_isMissing l E (a 20) (a 24) (uS u 3) ) (cwV 0 hts gX5_copy_X3_isMissing rfl rfl rfl ⟨rfl, hd_X3_isMissing⟩ ⟨(Nat.le_of_ble_eq_true rfl), (Nat.le_of_ble_eq_true rfl)⟩) hF hS hA (hP.sub [20, 24] rfl) (va_recv (q := (RX3, TX3, 3)) hK hP (ci := 3) rfl (q0 := 20) rfl) rfl hl.1 rfl (Nat.le_of_ble_eq_true rfl) ⟨(Nat.le_of_ble_eq_true rfl), (Nat.le_of_ble_eq_true rfl)⟩ dX5_copy_37 ?_
        refine W.eq (g2 := F0 m 40 ls [.int (s_X3_isMissing (uS u 3))]) rfl ?_
        refine lv_if_eq (tgt := 46) hx hb dX5_copy_40 rfl (fun q47 => ?_) (fun q47 => ?_)
        · have hR := hR.trans (if_pos q47)
          refine lv_aload hx hb dX5_copy_46 (lv_at hl 1 rfl) ?_
          refine va_get (D := xD E) (ci := 3) (v := .int (u.2 5)) (C := RX3) (T := TX3) (N := 3) hx hb hts (by decide +kernel) hown hK hP 18 rfl rfl 1 (by decide) (hts (.fieldLink RX5 329 "RailOffsets$Sheet" "sort" "I") (by decide +kernel)) (fun _ h => h) rfl dX5_copy_48 ?_
          refine lv_aload hx hb dX5_copy_51 (lv_at hl 0 rfl) ?_
          refine va_get (D := xD E) (ci := 3) (v := .int (u.2 7)) (C := RX3) (T := TX3) (N := 3) hx hb hts (by decide +kernel) hown hK hP 20 rfl rfl 1 (by decide) (hts (.fieldLink RX5 329 "RailOffsets$Sheet" "sort" "I") (by decide +kernel)) (fun _ h => h) rfl dX5_copy_53 ?_
          refine lv_icmp_eq (tgt := 62) hx hb dX5_copy_56 rfl (fun q48 => ?_) (fun q48 => ?_)
          · have hR := hR.trans (if_pos q48)
            refine lv_iload hx hb dX5_copy_62 (lv_at hl 7 rfl) ?_
            refine lv_if_lt (tgt := 100) hx hb dX5_copy_64 rfl (fun q49 => ?_) (fun q49 => ?_)
            · have hR := hR.trans (if_pos q49)
              refine lv_bipush (v := (-12)) hx hb dX5_copy_100 rfl ?_
              have hR : s_X5_copy u p1 p2 p3 p4 p5 = ((-12), u) := hR
              exact W.iret (v := (-12)) hx hb hr (fun t ht _ => by rw [hR]; dsimp only; exact ⟨⟨rfl, by rw [ht]; exact hP⟩, hS.F ht⟩) hS.2.2 dX5_copy_102
            · have hR := hR.trans (if_neg q49)
              refine lv_iload_n hx hb dX5_copy_67 rfl (lv_at hl 4 rfl) ?_
              refine lv_iconst (v := 0) hx hb dX5_copy_68 rfl ?_
              refine lv_aload hx hb dX5_copy_69 (lv_at hl 1 rfl) ?_
              refine va_get (D := xD E) (ci := 3) (v := .int (u.2 9)) (C := RX3) (T := TX3) (N := 3) hx hb hts (by decide +kernel) hown hK hP 18 rfl rfl 2 (by decide) (hts (.fieldLink RX5 264 "RailOffsets$Sheet" "size" "I") (by decide +kernel)) (fun _ h => h) rfl dX5_copy_71 ?_
              refine lv_iload hx hb dX5_copy_74 (lv_at hl 7 rfl) ?_
              refine lv_isub hx hb dX5_copy_76 ?_
              refine xRoS (nL := 8) ⟨hx, hb, hml, hown, hts⟩ (c_X5_within l E p2 0 ((u.2 9) - p5)) (va_cwS 3 hts gX5_copy_X5_within rfl rfl rfl hd_X5_within ⟨(Nat.le_of_ble_eq_true rfl), (Nat.le_of_ble_eq_true rfl)⟩) hF hS hA (hP.sub [] rfl) rfl hl.1 rfl (Nat.le_of_ble_eq_true rfl) ⟨(Nat.le_of_ble_eq_true rfl), (Nat.le_of_ble_eq_true rfl)⟩ dX5_copy_77 ?_
              refine W.eq (g2 := F0 m 80 ls [.int (s_X5_within p2 0 ((u.2 9) - p5))]) rfl ?_
              refine lv_if_eq (tgt := 100) hx hb dX5_copy_80 rfl (fun q50 => ?_) (fun q50 => ?_)
              · have hR := hR.trans (if_pos q50)
                refine lv_bipush (v := (-12)) hx hb dX5_copy_100 rfl ?_
                have hR : s_X5_copy u p1 p2 p3 p4 p5 = ((-12), u) := hR
                exact W.iret (v := (-12)) hx hb hr (fun t ht _ => by rw [hR]; dsimp only; exact ⟨⟨rfl, by rw [ht]; exact hP⟩, hS.F ht⟩) hS.2.2 dX5_copy_102
              · have hR := hR.trans (if_neg q50)
                refine lv_iload hx hb dX5_copy_83 (lv_at hl 6 rfl) ?_
                refine lv_iconst (v := 0) hx hb dX5_copy_85 rfl ?_
                refine lv_aload hx hb dX5_copy_86 (lv_at hl 0 rfl) ?_
                refine va_get (D := xD E) (ci := 3) (v := .int (u.2 11)) (C := RX3) (T := TX3) (N := 3) hx hb hts (by decide +kernel) hown hK hP 20 rfl rfl 2 (by decide) (hts (.fieldLink RX5 264 "RailOffsets$Sheet" "size" "I") (by decide +kernel)) (fun _ h => h) rfl dX5_copy_88 ?_
                refine lv_iload hx hb dX5_copy_91 (lv_at hl 7 rfl) ?_
                refine lv_isub hx hb dX5_copy_93 ?_
                refine xRoS (nL := 8) ⟨hx, hb, hml, hown, hts⟩ (c_X5_within l E p4 0 ((u.2 11) - p5)) (va_cwS 3 hts gX5_copy_X5_within rfl rfl rfl hd_X5_within ⟨(Nat.le_of_ble_eq_true rfl), (Nat.le_of_ble_eq_true rfl)⟩) hF hS hA (hP.sub [] rfl) rfl hl.1 rfl (Nat.le_of_ble_eq_true rfl) ⟨(Nat.le_of_ble_eq_true rfl), (Nat.le_of_ble_eq_true rfl)⟩ dX5_copy_94 ?_
                refine W.eq (g2 := F0 m 97 ls [.int (s_X5_within p4 0 ((u.2 11) - p5))]) rfl ?_
                refine lv_if_ne (tgt := 103) hx hb dX5_copy_97 rfl (fun q51 => ?_) (fun q51 => ?_)
                · have hR := hR.trans (if_neg q51)
                  refine lv_aload hx hb dX5_copy_103 (lv_at hl 1 rfl) ?_
                  refine va_get (D := xD E) (ci := 3) (v := .ref (a 22)) (C := RX3) (T := TX3) (N := 3) hx hb hts (by decide +kernel) hown hK hP 18 rfl rfl 0 (by decide) (hts (.fieldLink RX5 340 "RailOffsets$Sheet" "items" "[I") (by decide +kernel)) (fun _ h => h) rfl dX5_copy_105 ?_
                  refine lv_iload_n hx hb dX5_copy_108 rfl (lv_at hl 4 rfl) ?_
                  refine lv_aload hx hb dX5_copy_109 (lv_at hl 0 rfl) ?_
                  refine va_get (D := xD E) (ci := 3) (v := .ref (a 24)) (C := RX3) (T := TX3) (N := 3) hx hb hts (by decide +kernel) hown hK hP 20 rfl rfl 0 (by decide) (hts (.fieldLink RX5 340 "RailOffsets$Sheet" "items" "[I") (by decide +kernel)) (fun _ h => h) rfl dX5_copy_111 ?_
                  refine lv_iload hx hb dX5_copy_114 (lv_at hl 6 rfl) ?_
                  refine lv_iload hx hb dX5_copy_116 (lv_at hl 7 rfl) ?_
                  refine va_copyi (ty := .int) hx hb (hml.trans hl.1.symm) hown (hts (.methodLink RX5 323 arraycopyName) (by decide +kernel)) (hts (.native arraycopyName) (by decide +kernel)) (hts (.static arraycopyName) (by decide +kernel)) (hts (.initialized "java/lang/System") (by decide +kernel)) hK hP (xD_of (ws := wX E a u) (A := (· ∈ LX a)) hL.1 (fun _ h => h)) hS 22 24 0 0 rfl rfl rfl rfl rfl (xcp1 (by assumption)) (xcp1 (by assumption)) (by assumption) (xcp2 (s := u.2 (8 + 1)) (hp0 1 (by decide)) (by assumption) (by assumption)) (xcp2 (s := u.2 (8 + 3)) (hp0 3 (by decide)) (by assumption) (by assumption)) (fun _ _ => rfl) (Nat.le_of_ble_eq_true rfl) (Nat.le_of_ble_eq_true rfl) dX5_copy_118 (fun H locs hP _ hS => ?_)
                  have hP : va_P (xD E) vwCl (wX E a (uR u 24 (va_cpy (u.1 22) (u.1 24) p2.toNatClampNeg p4.toNatClampNeg p5.toNatClampNeg))) H := hP
                  refine W.eq (g2 := F0 m 121 ls []) rfl ?_
                  refine lv_iload hx hb dX5_copy_121 (lv_at hl 7 rfl) ?_
                  have hR : s_X5_copy u p1 p2 p3 p4 p5 = (p5, uR u 24 (va_cpy (u.1 22) (u.1 24) p2.toNatClampNeg p4.toNatClampNeg p5.toNatClampNeg)) := hR
                  exact W.iret (v := p5) hx hb hr (fun t ht _ => by rw [hR]; dsimp only; exact ⟨⟨rfl, by rw [ht]; exact hP⟩, hS.F ht⟩) hS.2.2 dX5_copy_123
                · have hR := hR.trans (if_pos q51)
                  refine lv_bipush (v := (-12)) hx hb dX5_copy_100 rfl ?_
                  have hR : s_X5_copy u p1 p2 p3 p4 p5 = ((-12), u) := hR
                  exact W.iret (v := (-12)) hx hb hr (fun t ht _ => by rw [hR]; dsimp only; exact ⟨⟨rfl, by rw [ht]; exact hP⟩, hS.F ht⟩) hS.2.2 dX5_copy_102
          · have hR := hR.trans (if_neg q48)
            refine lv_bipush (v := (-13)) hx hb dX5_copy_59 rfl ?_
            have hR : s_X5_copy u p1 p2 p3 p4 p5 = ((-13), u) := hR
            exact W.iret (v := (-13)) hx hb hr (fun t ht _ => by rw [hR]; dsimp only; exact ⟨⟨rfl, by rw [ht]; exact hP⟩, hS.F ht⟩) hS.2.2 dX5_copy_61
        · have hR := hR.trans (if_neg q47)
          refine lv_bipush (v := (-11)) hx hb dX5_copy_43 rfl ?_
          have hR : s_X5_copy u p1 p2 p3 p4 p5 = ((-11), u) := hR
          exact W.iret (v := (-11)) hx hb hr (fun t ht _ => by rw [hR]; dsimp only; exact ⟨⟨rfl, by rw [ht]; exact hP⟩, hS.F ht⟩) hS.2.2 dX5_copy_45
    have hR := hR.trans (if_neg t27_3)
    refine xRoV (nL := 8) ⟨hx, hb, hml, hown, hts⟩ (c_X5_sheetOf_n l E a u p3 t27_0 t27_1 t27_2 t27_3) (cwV 1 hts gX5_copy_X5_sheetOf rfl rfl rfl ⟨rfl, hd_X5_sheetOf⟩ ⟨(Nat.le_of_ble_eq_true rfl), (Nat.le_of_ble_eq_true rfl)⟩) hF hS hA hP (va_recv (q := (RX5, TX5, 9)) hK hP (ci := 5) rfl (q0 := 0) rfl) rfl hl.1 rfl (Nat.le_of_ble_eq_true rfl) ⟨(Nat.le_of_ble_eq_true rfl), (Nat.le_of_ble_eq_true rfl)⟩ dX5_copy_9 ?_
    refine W.eq (g2 := F0 m 12 ls [.null]) rfl ?_
    refine lv_astoreN (lv' := [(7, .null), (6, .ref (a 18)), (0, .ref (a 0)), (1, .int p1), (2, .int p2), (3, .int p3), (4, .int p4), (5, .int p5)]) hx hb dX5_copy_12 hl (by decide) rfl (fun ls hl => ?_)
    refine lv_aload hx hb dX5_copy_14 (lv_at hl 1 rfl) ?_
    refine lv_ifnull hx hb dX5_copy_16 ?_
    refine lv_aloadN hx hb dX5_copy_19 (lv_at hl 0 rfl) ?_
    refine lv_ifnonnullN hx hb dX5_copy_21 ?_
    refine lv_bipush (v := (-2)) hx hb dX5_copy_24 rfl ?_
    have hR : s_X5_copy u p1 p2 p3 p4 p5 = ((-2), u) := hR
    exact W.iret (v := (-2)) hx hb hr (fun t ht _ => by rw [hR]; dsimp only; exact ⟨⟨rfl, by rw [ht]; exact hP⟩, hS.F ht⟩) hS.2.2 dX5_copy_26
  have hR := hR.trans (if_neg t1_1)
  by_cases t1_2 : p1 = 2
  · have hR := hR.trans (if_pos t1_2)
    refine xRoV (nL := 8) ⟨hx, hb, hml, hown, hts⟩ (c_X5_sheetOf l E a u p1 2 (by decide) t1_2) (cwV 1 hts gX5_copy_X5_sheetOf rfl rfl rfl ⟨rfl, hd_X5_sheetOf⟩ ⟨(Nat.le_of_ble_eq_true rfl), (Nat.le_of_ble_eq_true rfl)⟩) hF hS hA hP (va_recv (q := (RX5, TX5, 9)) hK hP (ci := 5) rfl (q0 := 0) rfl) rfl hl.1 rfl (Nat.le_of_ble_eq_true rfl) ⟨(Nat.le_of_ble_eq_true rfl), (Nat.le_of_ble_eq_true rfl)⟩ dX5_copy_2 ?_
    refine W.eq (g2 := F0 m 5 ls [.ref (a 19)]) rfl ?_
    refine lv_astore (lv' := [(6, .ref (a 19)), (0, .ref (a 0)), (1, .int p1), (2, .int p2), (3, .int p3), (4, .int p4), (5, .int p5)]) hx hb dX5_copy_5 hl (by decide) rfl (fun ls hl => ?_)
    refine lv_aload_n hx hb dX5_copy_7 rfl (lv_at hl 1 rfl) ?_
    refine lv_iload_n hx hb dX5_copy_8 rfl (lv_at hl 4 rfl) ?_
    by_cases t52_0 : p3 = 0
    · have hR := hR.trans (if_pos t52_0)
      refine xRoV (nL := 8) ⟨hx, hb, hml, hown, hts⟩ (c_X5_sheetOf l E a u p3 0 (by decide) t52_0) (cwV 1 hts gX5_copy_X5_sheetOf rfl rfl rfl ⟨rfl, hd_X5_sheetOf⟩ ⟨(Nat.le_of_ble_eq_true rfl), (Nat.le_of_ble_eq_true rfl)⟩) hF hS hA hP (va_recv (q := (RX5, TX5, 9)) hK hP (ci := 5) rfl (q0 := 0) rfl) rfl hl.1 rfl (Nat.le_of_ble_eq_true rfl) ⟨(Nat.le_of_ble_eq_true rfl), (Nat.le_of_ble_eq_true rfl)⟩ dX5_copy_9 ?_
      refine W.eq (g2 := F0 m 12 ls [.ref (a 17)]) rfl ?_
      refine lv_astore (lv' := [(7, .ref (a 17)), (6, .ref (a 19)), (0, .ref (a 0)), (1, .int p1), (2, .int p2), (3, .int p3), (4, .int p4), (5, .int p5)]) hx hb dX5_copy_12 hl (by decide) rfl (fun ls hl => ?_)
      refine lv_aload hx hb dX5_copy_14 (lv_at hl 1 rfl) ?_
      refine lv_ifnull hx hb dX5_copy_16 ?_
      refine lv_aload hx hb dX5_copy_19 (lv_at hl 0 rfl) ?_
      refine lv_ifnonnull (tgt := 27) hx hb dX5_copy_21 rfl ?_
      refine lv_aload hx hb dX5_copy_27 (lv_at hl 1 rfl) ?_
      refine xRoV (nL := 8) ⟨hx, hb, hml, hown, hts⟩ (c_X3_isMissing l E (a 19) (a 23) (uS u 2) ) (cwV 0 hts gX5_copy_X3_isMissing rfl rfl rfl ⟨rfl, hd_X3_isMissing⟩ ⟨(Nat.le_of_ble_eq_true rfl), (Nat.le_of_ble_eq_true rfl)⟩) hF hS hA (hP.sub [19, 23] rfl) (va_recv (q := (RX3, TX3, 3)) hK hP (ci := 3) rfl (q0 := 19) rfl) rfl hl.1 rfl (Nat.le_of_ble_eq_true rfl) ⟨(Nat.le_of_ble_eq_true rfl), (Nat.le_of_ble_eq_true rfl)⟩ dX5_copy_29 ?_
      refine W.eq (g2 := F0 m 32 ls [.int (s_X3_isMissing (uS u 2))]) rfl ?_
      refine lv_if_ne (tgt := 43) hx hb dX5_copy_32 rfl (fun q53 => ?_) (fun q53 => ?_)
      · have hR := hR.trans (if_neg q53)
        refine lv_bipush (v := (-11)) hx hb dX5_copy_43 rfl ?_
        have hR : s_X5_copy u p1 p2 p3 p4 p5 = ((-11), u) := hR
        exact W.iret (v := (-11)) hx hb hr (fun t ht _ => by rw [hR]; dsimp only; exact ⟨⟨rfl, by rw [ht]; exact hP⟩, hS.F ht⟩) hS.2.2 dX5_copy_45
      · have hR := hR.trans (if_pos q53)
        refine lv_aload hx hb dX5_copy_35 (lv_at hl 0 rfl) ?_
        refine xRoV (nL := 8) ⟨hx, hb, hml, hown, hts⟩ (c_X3_isMissing l E (a 17) (a 21) (uS u 0) ) (cwV 0 hts gX5_copy_X3_isMissing rfl rfl rfl ⟨rfl, hd_X3_isMissing⟩ ⟨(Nat.le_of_ble_eq_true rfl), (Nat.le_of_ble_eq_true rfl)⟩) hF hS hA (hP.sub [17, 21] rfl) (va_recv (q := (RX3, TX3, 3)) hK hP (ci := 3) rfl (q0 := 17) rfl) rfl hl.1 rfl (Nat.le_of_ble_eq_true rfl) ⟨(Nat.le_of_ble_eq_true rfl), (Nat.le_of_ble_eq_true rfl)⟩ dX5_copy_37 ?_
        refine W.eq (g2 := F0 m 40 ls [.int (s_X3_isMissing (uS u 0))]) rfl ?_
        refine lv_if_eq (tgt := 46) hx hb dX5_copy_40 rfl (fun q54 => ?_) (fun q54 => ?_)
        · have hR := hR.trans (if_pos q54)
          refine lv_aload hx hb dX5_copy_46 (lv_at hl 1 rfl) ?_
          refine va_get (D := xD E) (ci := 3) (v := .int (u.2 6)) (C := RX3) (T := TX3) (N := 3) hx hb hts (by decide +kernel) hown hK hP 19 rfl rfl 1 (by decide) (hts (.fieldLink RX5 329 "RailOffsets$Sheet" "sort" "I") (by decide +kernel)) (fun _ h => h) rfl dX5_copy_48 ?_
          refine lv_aload hx hb dX5_copy_51 (lv_at hl 0 rfl) ?_
          refine va_get (D := xD E) (ci := 3) (v := .int (u.2 4)) (C := RX3) (T := TX3) (N := 3) hx hb hts (by decide +kernel) hown hK hP 17 rfl rfl 1 (by decide) (hts (.fieldLink RX5 329 "RailOffsets$Sheet" "sort" "I") (by decide +kernel)) (fun _ h => h) rfl dX5_copy_53 ?_
          refine lv_icmp_eq (tgt := 62) hx hb dX5_copy_56 rfl (fun q55 => ?_) (fun q55 => ?_)
          · have hR := hR.trans (if_pos q55)
            refine lv_iload hx hb dX5_copy_62 (lv_at hl 7 rfl) ?_
            refine lv_if_lt (tgt := 100) hx hb dX5_copy_64 rfl (fun q56 => ?_) (fun q56 => ?_)
            · have hR := hR.trans (if_pos q56)
              refine lv_bipush (v := (-12)) hx hb dX5_copy_100 rfl ?_
              have hR : s_X5_copy u p1 p2 p3 p4 p5 = ((-12), u) := hR
              exact W.iret (v := (-12)) hx hb hr (fun t ht _ => by rw [hR]; dsimp only; exact ⟨⟨rfl, by rw [ht]; exact hP⟩, hS.F ht⟩) hS.2.2 dX5_copy_102
            · have hR := hR.trans (if_neg q56)
              refine lv_iload_n hx hb dX5_copy_67 rfl (lv_at hl 4 rfl) ?_
              refine lv_iconst (v := 0) hx hb dX5_copy_68 rfl ?_
              refine lv_aload hx hb dX5_copy_69 (lv_at hl 1 rfl) ?_
              refine va_get (D := xD E) (ci := 3) (v := .int (u.2 10)) (C := RX3) (T := TX3) (N := 3) hx hb hts (by decide +kernel) hown hK hP 19 rfl rfl 2 (by decide) (hts (.fieldLink RX5 264 "RailOffsets$Sheet" "size" "I") (by decide +kernel)) (fun _ h => h) rfl dX5_copy_71 ?_
              refine lv_iload hx hb dX5_copy_74 (lv_at hl 7 rfl) ?_
              refine lv_isub hx hb dX5_copy_76 ?_
              refine xRoS (nL := 8) ⟨hx, hb, hml, hown, hts⟩ (c_X5_within l E p2 0 ((u.2 10) - p5)) (va_cwS 3 hts gX5_copy_X5_within rfl rfl rfl hd_X5_within ⟨(Nat.le_of_ble_eq_true rfl), (Nat.le_of_ble_eq_true rfl)⟩) hF hS hA (hP.sub [] rfl) rfl hl.1 rfl (Nat.le_of_ble_eq_true rfl) ⟨(Nat.le_of_ble_eq_true rfl), (Nat.le_of_ble_eq_true rfl)⟩ dX5_copy_77 ?_
              refine W.eq (g2 := F0 m 80 ls [.int (s_X5_within p2 0 ((u.2 10) - p5))]) rfl ?_
              refine lv_if_eq (tgt := 100) hx hb dX5_copy_80 rfl (fun q57 => ?_) (fun q57 => ?_)
              · have hR := hR.trans (if_pos q57)
                refine lv_bipush (v := (-12)) hx hb dX5_copy_100 rfl ?_
                have hR : s_X5_copy u p1 p2 p3 p4 p5 = ((-12), u) := hR
                exact W.iret (v := (-12)) hx hb hr (fun t ht _ => by rw [hR]; dsimp only; exact ⟨⟨rfl, by rw [ht]; exact hP⟩, hS.F ht⟩) hS.2.2 dX5_copy_102
              · have hR := hR.trans (if_neg q57)
                refine lv_iload hx hb dX5_copy_83 (lv_at hl 6 rfl) ?_
                refine lv_iconst (v := 0) hx hb dX5_copy_85 rfl ?_
                refine lv_aload hx hb dX5_copy_86 (lv_at hl 0 rfl) ?_
                refine va_get (D := xD E) (ci := 3) (v := .int (u.2 8)) (C := RX3) (T := TX3) (N := 3) hx hb hts (by decide +kernel) hown hK hP 17 rfl rfl 2 (by decide) (hts (.fieldLink RX5 264 "RailOffsets$Sheet" "size" "I") (by decide +kernel)) (fun _ h => h) rfl dX5_copy_88 ?_
                refine lv_iload hx hb dX5_copy_91 (lv_at hl 7 rfl) ?_
                refine lv_isub hx hb dX5_copy_93 ?_
                refine xRoS (nL := 8) ⟨hx, hb, hml, hown, hts⟩ (c_X5_within l E p4 0 ((u.2 8) - p5)) (va_cwS 3 hts gX5_copy_X5_within rfl rfl rfl hd_X5_within ⟨(Nat.le_of_ble_eq_true rfl), (Nat.le_of_ble_eq_true rfl)⟩) hF hS hA (hP.sub [] rfl) rfl hl.1 rfl (Nat.le_of_ble_eq_true rfl) ⟨(Nat.le_of_ble_eq_true rfl), (Nat.le_of_ble_eq_true rfl)⟩ dX5_copy_94 ?_
                refine W.eq (g2 := F0 m 97 ls [.int (s_X5_within p4 0 ((u.2 8) - p5))]) rfl ?_
                refine lv_if_ne (tgt := 103) hx hb dX5_copy_97 rfl (fun q58 => ?_) (fun q58 => ?_)
                · have hR := hR.trans (if_neg q58)
                  refine lv_aload hx hb dX5_copy_103 (lv_at hl 1 rfl) ?_
                  refine va_get (D := xD E) (ci := 3) (v := .ref (a 23)) (C := RX3) (T := TX3) (N := 3) hx hb hts (by decide +kernel) hown hK hP 19 rfl rfl 0 (by decide) (hts (.fieldLink RX5 340 "RailOffsets$Sheet" "items" "[I") (by decide +kernel)) (fun _ h => h) rfl dX5_copy_105 ?_
                  refine lv_iload_n hx hb dX5_copy_108 rfl (lv_at hl 4 rfl) ?_
                  refine lv_aload hx hb dX5_copy_109 (lv_at hl 0 rfl) ?_
                  refine va_get (D := xD E) (ci := 3) (v := .ref (a 21)) (C := RX3) (T := TX3) (N := 3) hx hb hts (by decide +kernel) hown hK hP 17 rfl rfl 0 (by decide) (hts (.fieldLink RX5 340 "RailOffsets$Sheet" "items" "[I") (by decide +kernel)) (fun _ h => h) rfl dX5_copy_111 ?_
                  refine lv_iload hx hb dX5_copy_114 (lv_at hl 6 rfl) ?_
                  refine lv_iload hx hb dX5_copy_116 (lv_at hl 7 rfl) ?_
                  refine va_copyi (ty := .int) hx hb (hml.trans hl.1.symm) hown (hts (.methodLink RX5 323 arraycopyName) (by decide +kernel)) (hts (.native arraycopyName) (by decide +kernel)) (hts (.static arraycopyName) (by decide +kernel)) (hts (.initialized "java/lang/System") (by decide +kernel)) hK hP (xD_of (ws := wX E a u) (A := (· ∈ LX a)) hL.1 (fun _ h => h)) hS 23 21 0 0 rfl rfl rfl rfl rfl (xcp1 (by assumption)) (xcp1 (by assumption)) (by assumption) (xcp2 (s := u.2 (8 + 2)) (hp0 2 (by decide)) (by assumption) (by assumption)) (xcp2 (s := u.2 (8 + 0)) (hp0 0 (by decide)) (by assumption) (by assumption)) (fun _ _ => rfl) (Nat.le_of_ble_eq_true rfl) (Nat.le_of_ble_eq_true rfl) dX5_copy_118 (fun H locs hP _ hS => ?_)
                  have hP : va_P (xD E) vwCl (wX E a (uR u 21 (va_cpy (u.1 23) (u.1 21) p2.toNatClampNeg p4.toNatClampNeg p5.toNatClampNeg))) H := hP
                  refine W.eq (g2 := F0 m 121 ls []) rfl ?_
                  refine lv_iload hx hb dX5_copy_121 (lv_at hl 7 rfl) ?_
                  have hR : s_X5_copy u p1 p2 p3 p4 p5 = (p5, uR u 21 (va_cpy (u.1 23) (u.1 21) p2.toNatClampNeg p4.toNatClampNeg p5.toNatClampNeg)) := hR
                  exact W.iret (v := p5) hx hb hr (fun t ht _ => by rw [hR]; dsimp only; exact ⟨⟨rfl, by rw [ht]; exact hP⟩, hS.F ht⟩) hS.2.2 dX5_copy_123
                · have hR := hR.trans (if_pos q58)
                  refine lv_bipush (v := (-12)) hx hb dX5_copy_100 rfl ?_
                  have hR : s_X5_copy u p1 p2 p3 p4 p5 = ((-12), u) := hR
                  exact W.iret (v := (-12)) hx hb hr (fun t ht _ => by rw [hR]; dsimp only; exact ⟨⟨rfl, by rw [ht]; exact hP⟩, hS.F ht⟩) hS.2.2 dX5_copy_102
          · have hR := hR.trans (if_neg q55)
            refine lv_bipush (v := (-13)) hx hb dX5_copy_59 rfl ?_
            have hR : s_X5_copy u p1 p2 p3 p4 p5 = ((-13), u) := hR
            exact W.iret (v := (-13)) hx hb hr (fun t ht _ => by rw [hR]; dsimp only; exact ⟨⟨rfl, by rw [ht]; exact hP⟩, hS.F ht⟩) hS.2.2 dX5_copy_61
        · have hR := hR.trans (if_neg q54)
          refine lv_bipush (v := (-11)) hx hb dX5_copy_43 rfl ?_
          have hR : s_X5_copy u p1 p2 p3 p4 p5 = ((-11), u) := hR
          exact W.iret (v := (-11)) hx hb hr (fun t ht _ => by rw [hR]; dsimp only; exact ⟨⟨rfl, by rw [ht]; exact hP⟩, hS.F ht⟩) hS.2.2 dX5_copy_45
    have hR := hR.trans (if_neg t52_0)
    by_cases t52_1 : p3 = 1
    · have hR := hR.trans (if_pos t52_1)
      refine xRoV (nL := 8) ⟨hx, hb, hml, hown, hts⟩ (c_X5_sheetOf l E a u p3 1 (by decide) t52_1) (cwV 1 hts gX5_copy_X5_sheetOf rfl rfl rfl ⟨rfl, hd_X5_sheetOf⟩ ⟨(Nat.le_of_ble_eq_true rfl), (Nat.le_of_ble_eq_true rfl)⟩) hF hS hA hP (va_recv (q := (RX5, TX5, 9)) hK hP (ci := 5) rfl (q0 := 0) rfl) rfl hl.1 rfl (Nat.le_of_ble_eq_true rfl) ⟨(Nat.le_of_ble_eq_true rfl), (Nat.le_of_ble_eq_true rfl)⟩ dX5_copy_9 ?_
      refine W.eq (g2 := F0 m 12 ls [.ref (a 18)]) rfl ?_
      refine lv_astore (lv' := [(7, .ref (a 18)), (6, .ref (a 19)), (0, .ref (a 0)), (1, .int p1), (2, .int p2), (3, .int p3), (4, .int p4), (5, .int p5)]) hx hb dX5_copy_12 hl (by decide) rfl (fun ls hl => ?_)
      refine lv_aload hx hb dX5_copy_14 (lv_at hl 1 rfl) ?_
      refine lv_ifnull hx hb dX5_copy_16 ?_
      refine lv_aload hx hb dX5_copy_19 (lv_at hl 0 rfl) ?_
      refine lv_ifnonnull (tgt := 27) hx hb dX5_copy_21 rfl ?_
      refine lv_aload hx hb dX5_copy_27 (lv_at hl 1 rfl) ?_
      refine xRoV (nL := 8) ⟨hx, hb, hml, hown, hts⟩ (c_X3_isMissing l E (a 19) (a 23) (uS u 2) ) (cwV 0 hts gX5_copy_X3_isMissing rfl rfl rfl ⟨rfl, hd_X3_isMissing⟩ ⟨(Nat.le_of_ble_eq_true rfl), (Nat.le_of_ble_eq_true rfl)⟩) hF hS hA (hP.sub [19, 23] rfl) (va_recv (q := (RX3, TX3, 3)) hK hP (ci := 3) rfl (q0 := 19) rfl) rfl hl.1 rfl (Nat.le_of_ble_eq_true rfl) ⟨(Nat.le_of_ble_eq_true rfl), (Nat.le_of_ble_eq_true rfl)⟩ dX5_copy_29 ?_
      refine W.eq (g2 := F0 m 32 ls [.int (s_X3_isMissing (uS u 2))]) rfl ?_
      refine lv_if_ne (tgt := 43) hx hb dX5_copy_32 rfl (fun q59 => ?_) (fun q59 => ?_)
      · have hR := hR.trans (if_neg q59)
        refine lv_bipush (v := (-11)) hx hb dX5_copy_43 rfl ?_
        have hR : s_X5_copy u p1 p2 p3 p4 p5 = ((-11), u) := hR
        exact W.iret (v := (-11)) hx hb hr (fun t ht _ => by rw [hR]; dsimp only; exact ⟨⟨rfl, by rw [ht]; exact hP⟩, hS.F ht⟩) hS.2.2 dX5_copy_45
      · have hR := hR.trans (if_pos q59)
        refine lv_aload hx hb dX5_copy_35 (lv_at hl 0 rfl) ?_
        refine xRoV (nL := 8) ⟨hx, hb, hml, hown, hts⟩ (c_X3_isMissing l E (a 18) (a 22) (uS u 1) ) (cwV 0 hts gX5_copy_X3_isMissing rfl rfl rfl ⟨rfl, hd_X3_isMissing⟩ ⟨(Nat.le_of_ble_eq_true rfl), (Nat.le_of_ble_eq_true rfl)⟩) hF hS hA (hP.sub [18, 22] rfl) (va_recv (q := (RX3, TX3, 3)) hK hP (ci := 3) rfl (q0 := 18) rfl) rfl hl.1 rfl (Nat.le_of_ble_eq_true rfl) ⟨(Nat.le_of_ble_eq_true rfl), (Nat.le_of_ble_eq_true rfl)⟩ dX5_copy_37 ?_
        refine W.eq (g2 := F0 m 40 ls [.int (s_X3_isMissing (uS u 1))]) rfl ?_
        refine lv_if_eq (tgt := 46) hx hb dX5_copy_40 rfl (fun q60 => ?_) (fun q60 => ?_)
        · have hR := hR.trans (if_pos q60)
          refine lv_aload hx hb dX5_copy_46 (lv_at hl 1 rfl) ?_
          refine va_get (D := xD E) (ci := 3) (v := .int (u.2 6)) (C := RX3) (T := TX3) (N := 3) hx hb hts (by decide +kernel) hown hK hP 19 rfl rfl 1 (by decide) (hts (.fieldLink RX5 329 "RailOffsets$Sheet" "sort" "I") (by decide +kernel)) (fun _ h => h) rfl dX5_copy_48 ?_
          refine lv_aload hx hb dX5_copy_51 (lv_at hl 0 rfl) ?_
          refine va_get (D := xD E) (ci := 3) (v := .int (u.2 5)) (C := RX3) (T := TX3) (N := 3) hx hb hts (by decide +kernel) hown hK hP 18 rfl rfl 1 (by decide) (hts (.fieldLink RX5 329 "RailOffsets$Sheet" "sort" "I") (by decide +kernel)) (fun _ h => h) rfl dX5_copy_53 ?_
          refine lv_icmp_eq (tgt := 62) hx hb dX5_copy_56 rfl (fun q61 => ?_) (fun q61 => ?_)
          · have hR := hR.trans (if_pos q61)
            refine lv_iload hx hb dX5_copy_62 (lv_at hl 7 rfl) ?_
            refine lv_if_lt (tgt := 100) hx hb dX5_copy_64 rfl (fun q62 => ?_) (fun q62 => ?_)
            · have hR := hR.trans (if_pos q62)
              refine lv_bipush (v := (-12)) hx hb dX5_copy_100 rfl ?_
              have hR : s_X5_copy u p1 p2 p3 p4 p5 = ((-12), u) := hR
              exact W.iret (v := (-12)) hx hb hr (fun t ht _ => by rw [hR]; dsimp only; exact ⟨⟨rfl, by rw [ht]; exact hP⟩, hS.F ht⟩) hS.2.2 dX5_copy_102
            · have hR := hR.trans (if_neg q62)
              refine lv_iload_n hx hb dX5_copy_67 rfl (lv_at hl 4 rfl) ?_
              refine lv_iconst (v := 0) hx hb dX5_copy_68 rfl ?_
              refine lv_aload hx hb dX5_copy_69 (lv_at hl 1 rfl) ?_
              refine va_get (D := xD E) (ci := 3) (v := .int (u.2 10)) (C := RX3) (T := TX3) (N := 3) hx hb hts (by decide +kernel) hown hK hP 19 rfl rfl 2 (by decide) (hts (.fieldLink RX5 264 "RailOffsets$Sheet" "size" "I") (by decide +kernel)) (fun _ h => h) rfl dX5_copy_71 ?_
              refine lv_iload hx hb dX5_copy_74 (lv_at hl 7 rfl) ?_
              refine lv_isub hx hb dX5_copy_76 ?_
              refine xRoS (nL := 8) ⟨hx, hb, hml, hown, hts⟩ (c_X5_within l E p2 0 ((u.2 10) - p5)) (va_cwS 3 hts gX5_copy_X5_within rfl rfl rfl hd_X5_within ⟨(Nat.le_of_ble_eq_true rfl), (Nat.le_of_ble_eq_true rfl)⟩) hF hS hA (hP.sub [] rfl) rfl hl.1 rfl (Nat.le_of_ble_eq_true rfl) ⟨(Nat.le_of_ble_eq_true rfl), (Nat.le_of_ble_eq_true rfl)⟩ dX5_copy_77 ?_
              refine W.eq (g2 := F0 m 80 ls [.int (s_X5_within p2 0 ((u.2 10) - p5))]) rfl ?_
              refine lv_if_eq (tgt := 100) hx hb dX5_copy_80 rfl (fun q63 => ?_) (fun q63 => ?_)
              · have hR := hR.trans (if_pos q63)
                refine lv_bipush (v := (-12)) hx hb dX5_copy_100 rfl ?_
                have hR : s_X5_copy u p1 p2 p3 p4 p5 = ((-12), u) := hR
                exact W.iret (v := (-12)) hx hb hr (fun t ht _ => by rw [hR]; dsimp only; exact ⟨⟨rfl, by rw [ht]; exact hP⟩, hS.F ht⟩) hS.2.2 dX5_copy_102
              · have hR := hR.trans (if_neg q63)
                refine lv_iload hx hb dX5_copy_83 (lv_at hl 6 rfl) ?_
                refine lv_iconst (v := 0) hx hb dX5_copy_85 rfl ?_
                refine lv_aload hx hb dX5_copy_86 (lv_at hl 0 rfl) ?_
                refine va_get (D := xD E) (ci := 3) (v := .int (u.2 9)) (C := RX3) (T := TX3) (N := 3) hx hb hts (by decide +kernel) hown hK hP 18 rfl rfl 2 (by decide) (hts (.fieldLink RX5 264 "RailOffsets$Sheet" "size" "I") (by decide +kernel)) (fun _ h => h) rfl dX5_copy_88 ?_
                refine lv_iload hx hb dX5_copy_91 (lv_at hl 7 rfl) ?_
                refine lv_isub hx hb dX5_copy_93 ?_
                refine xRoS (nL := 8) ⟨hx, hb, hml, hown, hts⟩ (c_X5_within l E p4 0 ((u.2 9) - p5)) (va_cwS 3 hts gX5_copy_X5_within rfl rfl rfl hd_X5_within ⟨(Nat.le_of_ble_eq_true rfl), (Nat.le_of_ble_eq_true rfl)⟩) hF hS hA (hP.sub [] rfl) rfl hl.1 rfl (Nat.le_of_ble_eq_true rfl) ⟨(Nat.le_of_ble_eq_true rfl), (Nat.le_of_ble_eq_true rfl)⟩ dX5_copy_94 ?_
                refine W.eq (g2 := F0 m 97 ls [.int (s_X5_within p4 0 ((u.2 9) - p5))]) rfl ?_
                refine lv_if_ne (tgt := 103) hx hb dX5_copy_97 rfl (fun q64 => ?_) (fun q64 => ?_)
                · have hR := hR.trans (if_neg q64)
                  refine lv_aload hx hb dX5_copy_103 (lv_at hl 1 rfl) ?_
                  refine va_get (D := xD E) (ci := 3) (v := .ref (a 23)) (C := RX3) (T := TX3) (N := 3) hx hb hts (by decide +kernel) hown hK hP 19 rfl rfl 0 (by decide) (hts (.fieldLink RX5 340 "RailOffsets$Sheet" "items" "[I") (by decide +kernel)) (fun _ h => h) rfl dX5_copy_105 ?_
                  refine lv_iload_n hx hb dX5_copy_108 rfl (lv_at hl 4 rfl) ?_
                  refine lv_aload hx hb dX5_copy_109 (lv_at hl 0 rfl) ?_
                  refine va_get (D := xD E) (ci := 3) (v := .ref (a 22)) (C := RX3) (T := TX3) (N := 3) hx hb hts (by decide +kernel) hown hK hP 18 rfl rfl 0 (by decide) (hts (.fieldLink RX5 340 "RailOffsets$Sheet" "items" "[I") (by decide +kernel)) (fun _ h => h) rfl dX5_copy_111 ?_
                  refine lv_iload hx hb dX5_copy_114 (lv_at hl 6 rfl) ?_
                  refine lv_iload hx hb dX5_copy_116 (lv_at hl 7 rfl) ?_
                  refine va_copyi (ty := .int) hx hb (hml.trans hl.1.symm) hown (hts (.methodLink RX5 323 arraycopyName) (by decide +kernel)) (hts (.native arraycopyName) (by decide +kernel)) (hts (.static arraycopyName) (by decide +kernel)) (hts (.initialized "java/lang/System") (by decide +kernel)) hK hP (xD_of (ws := wX E a u) (A := (· ∈ LX a)) hL.1 (fun _ h => h)) hS 23 22 0 0 rfl rfl rfl rfl rfl (xcp1 (by assumption)) (xcp1 (by assumption)) (by assumption) (xcp2 (s := u.2 (8 + 2)) (hp0 2 (by decide)) (by assumption) (by assumption)) (xcp2 (s := u.2 (8 + 1)) (hp0 1 (by decide)) (by assumption) (by assumption)) (fun _ _ => rfl) (Nat.le_of_ble_eq_true rfl) (Nat.le_of_ble_eq_true rfl) dX5_copy_118 (fun H locs hP _ hS => ?_)
                  have hP : va_P (xD E) vwCl (wX E a (uR u 22 (va_cpy (u.1 23) (u.1 22) p2.toNatClampNeg p4.toNatClampNeg p5.toNatClampNeg))) H := hP
                  refine W.eq (g2 := F0 m 121 ls []) rfl ?_
                  refine lv_iload hx hb dX5_copy_121 (lv_at hl 7 rfl) ?_
                  have hR : s_X5_copy u p1 p2 p3 p4 p5 = (p5, uR u 22 (va_cpy (u.1 23) (u.1 22) p2.toNatClampNeg p4.toNatClampNeg p5.toNatClampNeg)) := hR
                  exact W.iret (v := p5) hx hb hr (fun t ht _ => by rw [hR]; dsimp only; exact ⟨⟨rfl, by rw [ht]; exact hP⟩, hS.F ht⟩) hS.2.2 dX5_copy_123
                · have hR := hR.trans (if_pos q64)
                  refine lv_bipush (v := (-12)) hx hb dX5_copy_100 rfl ?_
                  have hR : s_X5_copy u p1 p2 p3 p4 p5 = ((-12), u) := hR
                  exact W.iret (v := (-12)) hx hb hr (fun t ht _ => by rw [hR]; dsimp only; exact ⟨⟨rfl, by rw [ht]; exact hP⟩, hS.F ht⟩) hS.2.2 dX5_copy_102
          · have hR := hR.trans (if_neg q61)
            refine lv_bipush (v := (-13)) hx hb dX5_copy_59 rfl ?_
            have hR : s_X5_copy u p1 p2 p3 p4 p5 = ((-13), u) := hR
            exact W.iret (v := (-13)) hx hb hr (fun t ht _ => by rw [hR]; dsimp only; exact ⟨⟨rfl, by rw [ht]; exact hP⟩, hS.F ht⟩) hS.2.2 dX5_copy_61
        · have hR := hR.trans (if_neg q60)
          refine lv_bipush (v := (-11)) hx hb dX5_copy_43 rfl ?_
          have hR : s_X5_copy u p1 p2 p3 p4 p5 = ((-11), u) := hR
          exact W.iret (v := (-11)) hx hb hr (fun t ht _ => by rw [hR]; dsimp only; exact ⟨⟨rfl, by rw [ht]; exact hP⟩, hS.F ht⟩) hS.2.2 dX5_copy_45
    have hR := hR.trans (if_neg t52_1)
    by_cases t52_2 : p3 = 2
    · have hR := hR.trans (if_pos t52_2)
      refine xRoV (nL := 8) ⟨hx, hb, hml, hown, hts⟩ (c_X5_sheetOf l E a u p3 2 (by decide) t52_2) (cwV 1 hts gX5_copy_X5_sheetOf rfl rfl rfl ⟨rfl, hd_X5_sheetOf⟩ ⟨(Nat.le_of_ble_eq_true rfl), (Nat.le_of_ble_eq_true rfl)⟩) hF hS hA hP (va_recv (q := (RX5, TX5, 9)) hK hP (ci := 5) rfl (q0 := 0) rfl) rfl hl.1 rfl (Nat.le_of_ble_eq_true rfl) ⟨(Nat.le_of_ble_eq_true rfl), (Nat.le_of_ble_eq_true rfl)⟩ dX5_copy_9 ?_
      refine W.eq (g2 := F0 m 12 ls [.ref (a 19)]) rfl ?_
      refine lv_astore (lv' := [(7, .ref (a 19)), (6, .ref (a 19)), (0, .ref (a 0)), (1, .int p1), (2, .int p2), (3, .int p3), (4, .int p4), (5, .int p5)]) hx hb dX5_copy_12 hl (by decide) rfl (fun ls hl => ?_)
      refine lv_aload hx hb dX5_copy_14 (lv_at hl 1 rfl) ?_
      refine lv_ifnull hx hb dX5_copy_16 ?_
      refine lv_aload hx hb dX5_copy_19 (lv_at hl 0 rfl) ?_
      refine lv_ifnonnull (tgt := 27) hx hb dX5_copy_21 rfl ?_
      refine lv_aload hx hb dX5_copy_27 (lv_at hl 1 rfl) ?_
      refine xRoV (nL := 8) ⟨hx, hb, hml, hown, hts⟩ (c_X3_isMissing l E (a 19) (a 23) (uS u 2) ) (cwV 0 hts gX5_copy_X3_isMissing rfl rfl rfl ⟨rfl, hd_X3_isMissing⟩ ⟨(Nat.le_of_ble_eq_true rfl), (Nat.le_of_ble_eq_true rfl)⟩) hF hS hA (hP.sub [19, 23] rfl) (va_recv (q := (RX3, TX3, 3)) hK hP (ci := 3) rfl (q0 := 19) rfl) rfl hl.1 rfl (Nat.le_of_ble_eq_true rfl) ⟨(Nat.le_of_ble_eq_true rfl), (Nat.le_of_ble_eq_true rfl)⟩ dX5_copy_29 ?_
      refine W.eq (g2 := F0 m 32 ls [.int (s_X3_isMissing (uS u 2))]) rfl ?_
      refine lv_if_ne (tgt := 43) hx hb dX5_copy_32 rfl (fun q65 => ?_) (fun q65 => ?_)
      · have hR := hR.trans (if_neg q65)
        refine lv_bipush (v := (-11)) hx hb dX5_copy_43 rfl ?_
        have hR : s_X5_copy u p1 p2 p3 p4 p5 = ((-11), u) := hR
        exact W.iret (v := (-11)) hx hb hr (fun t ht _ => by rw [hR]; dsimp only; exact ⟨⟨rfl, by rw [ht]; exact hP⟩, hS.F ht⟩) hS.2.2 dX5_copy_45
      · have hR := hR.trans (if_pos q65)
        refine lv_aload hx hb dX5_copy_35 (lv_at hl 0 rfl) ?_
        refine xRoV (nL := 8) ⟨hx, hb, hml, hown, hts⟩ (c_X3_isMissing l E (a 19) (a 23) (uS u 2) ) (cwV 0 hts gX5_copy_X3_isMissing rfl rfl rfl ⟨rfl, hd_X3_isMissing⟩ ⟨(Nat.le_of_ble_eq_true rfl), (Nat.le_of_ble_eq_true rfl)⟩) hF hS hA (hP.sub [19, 23] rfl) (va_recv (q := (RX3, TX3, 3)) hK hP (ci := 3) rfl (q0 := 19) rfl) rfl hl.1 rfl (Nat.le_of_ble_eq_true rfl) ⟨(Nat.le_of_ble_eq_true rfl), (Nat.le_of_ble_eq_true rfl)⟩ dX5_copy_37 ?_
        refine W.eq (g2 := F0 m 40 ls [.int (s_X3_isMissing (uS u 2))]) rfl ?_
        refine lv_if_eq (tgt := 46) hx hb dX5_copy_40 rfl (fun q66 => ?_) (fun q66 => ?_)
        · have hR := hR.trans (if_pos q66)
          refine lv_aload hx hb dX5_copy_46 (lv_at hl 1 rfl) ?_
          refine va_get (D := xD E) (ci := 3) (v := .int (u.2 6)) (C := RX3) (T := TX3) (N := 3) hx hb hts (by decide +kernel) hown hK hP 19 rfl rfl 1 (by decide) (hts (.fieldLink RX5 329 "RailOffsets$Sheet" "sort" "I") (by decide +kernel)) (fun _ h => h) rfl dX5_copy_48 ?_
          refine lv_aload hx hb dX5_copy_51 (lv_at hl 0 rfl) ?_
          refine va_get (D := xD E) (ci := 3) (v := .int (u.2 6)) (C := RX3) (T := TX3) (N := 3) hx hb hts (by decide +kernel) hown hK hP 19 rfl rfl 1 (by decide) (hts (.fieldLink RX5 329 "RailOffsets$Sheet" "sort" "I") (by decide +kernel)) (fun _ h => h) rfl dX5_copy_53 ?_
          refine lv_icmp_eq (tgt := 62) hx hb dX5_copy_56 rfl (fun q67 => ?_) (fun q67 => ?_)
          · have hR := hR.trans (if_pos q67)
            refine lv_iload hx hb dX5_copy_62 (lv_at hl 7 rfl) ?_
            refine lv_if_lt (tgt := 100) hx hb dX5_copy_64 rfl (fun q68 => ?_) (fun q68 => ?_)
            · have hR := hR.trans (if_pos q68)
              refine lv_bipush (v := (-12)) hx hb dX5_copy_100 rfl ?_
              have hR : s_X5_copy u p1 p2 p3 p4 p5 = ((-12), u) := hR
              exact W.iret (v := (-12)) hx hb hr (fun t ht _ => by rw [hR]; dsimp only; exact ⟨⟨rfl, by rw [ht]; exact hP⟩, hS.F ht⟩) hS.2.2 dX5_copy_102
            · have hR := hR.trans (if_neg q68)
              refine lv_iload_n hx hb dX5_copy_67 rfl (lv_at hl 4 rfl) ?_
              refine lv_iconst (v := 0) hx hb dX5_copy_68 rfl ?_
              refine lv_aload hx hb dX5_copy_69 (lv_at hl 1 rfl) ?_
              refine va_get (D := xD E) (ci := 3) (v := .int (u.2 10)) (C := RX3) (T := TX3) (N := 3) hx hb hts (by decide +kernel) hown hK hP 19 rfl rfl 2 (by decide) (hts (.fieldLink RX5 264 "RailOffsets$Sheet" "size" "I") (by decide +kernel)) (fun _ h => h) rfl dX5_copy_71 ?_
              refine lv_iload hx hb dX5_copy_74 (lv_at hl 7 rfl) ?_
              refine lv_isub hx hb dX5_copy_76 ?_
              refine xRoS (nL := 8) ⟨hx, hb, hml, hown, hts⟩ (c_X5_within l E p2 0 ((u.2 10) - p5)) (va_cwS 3 hts gX5_copy_X5_within rfl rfl rfl hd_X5_within ⟨(Nat.le_of_ble_eq_true rfl), (Nat.le_of_ble_eq_true rfl)⟩) hF hS hA (hP.sub [] rfl) rfl hl.1 rfl (Nat.le_of_ble_eq_true rfl) ⟨(Nat.le_of_ble_eq_true rfl), (Nat.le_of_ble_eq_true rfl)⟩ dX5_copy_77 ?_
              refine W.eq (g2 := F0 m 80 ls [.int (s_X5_within p2 0 ((u.2 10) - p5))]) rfl ?_
              refine lv_if_eq (tgt := 100) hx hb dX5_copy_80 rfl (fun q69 => ?_) (fun q69 => ?_)
              · have hR := hR.trans (if_pos q69)
                refine lv_bipush (v := (-12)) hx hb dX5_copy_100 rfl ?_
                have hR : s_X5_copy u p1 p2 p3 p4 p5 = ((-12), u) := hR
                exact W.iret (v := (-12)) hx hb hr (fun t ht _ => by rw [hR]; dsimp only; exact ⟨⟨rfl, by rw [ht]; exact hP⟩, hS.F ht⟩) hS.2.2 dX5_copy_102
              · have hR := hR.trans (if_neg q69)
                refine lv_iload hx hb dX5_copy_83 (lv_at hl 6 rfl) ?_
                refine lv_iconst (v := 0) hx hb dX5_copy_85 rfl ?_
                refine lv_aload hx hb dX5_copy_86 (lv_at hl 0 rfl) ?_
                refine va_get (D := xD E) (ci := 3) (v := .int (u.2 10)) (C := RX3) (T := TX3) (N := 3) hx hb hts (by decide +kernel) hown hK hP 19 rfl rfl 2 (by decide) (hts (.fieldLink RX5 264 "RailOffsets$Sheet" "size" "I") (by decide +kernel)) (fun _ h => h) rfl dX5_copy_88 ?_
                refine lv_iload hx hb dX5_copy_91 (lv_at hl 7 rfl) ?_
                refine lv_isub hx hb dX5_copy_93 ?_
                refine xRoS (nL := 8) ⟨hx, hb, hml, hown, hts⟩ (c_X5_within l E p4 0 ((u.2 10) - p5)) (va_cwS 3 hts gX5_copy_X5_within rfl rfl rfl hd_X5_within ⟨(Nat.le_of_ble_eq_true rfl), (Nat.le_of_ble_eq_true rfl)⟩) hF hS hA (hP.sub [] rfl) rfl hl.1 rfl (Nat.le_of_ble_eq_true rfl) ⟨(Nat.le_of_ble_eq_true rfl), (Nat.le_of_ble_eq_true rfl)⟩ dX5_copy_94 ?_
                refine W.eq (g2 := F0 m 97 ls [.int (s_X5_within p4 0 ((u.2 10) - p5))]) rfl ?_
                refine lv_if_ne (tgt := 103) hx hb dX5_copy_97 rfl (fun q70 => ?_) (fun q70 => ?_)
                · have hR := hR.trans (if_neg q70)
                  refine lv_aload hx hb dX5_copy_103 (lv_at hl 1 rfl) ?_
                  refine va_get (D := xD E) (ci := 3) (v := .ref (a 23)) (C := RX3) (T := TX3) (N := 3) hx hb hts (by decide +kernel) hown hK hP 19 rfl rfl 0 (by decide) (hts (.fieldLink RX5 340 "RailOffsets$Sheet" "items" "[I") (by decide +kernel)) (fun _ h => h) rfl dX5_copy_105 ?_
                  refine lv_iload_n hx hb dX5_copy_108 rfl (lv_at hl 4 rfl) ?_
                  refine lv_aload hx hb dX5_copy_109 (lv_at hl 0 rfl) ?_
                  refine va_get (D := xD E) (ci := 3) (v := .ref (a 23)) (C := RX3) (T := TX3) (N := 3) hx hb hts (by decide +kernel) hown hK hP 19 rfl rfl 0 (by decide) (hts (.fieldLink RX5 340 "RailOffsets$Sheet" "items" "[I") (by decide +kernel)) (fun _ h => h) rfl dX5_copy_111 ?_
                  refine lv_iload hx hb dX5_copy_114 (lv_at hl 6 rfl) ?_
                  refine lv_iload hx hb dX5_copy_116 (lv_at hl 7 rfl) ?_
                  refine va_copyi (ty := .int) hx hb (hml.trans hl.1.symm) hown (hts (.methodLink RX5 323 arraycopyName) (by decide +kernel)) (hts (.native arraycopyName) (by decide +kernel)) (hts (.static arraycopyName) (by decide +kernel)) (hts (.initialized "java/lang/System") (by decide +kernel)) hK hP (xD_of (ws := wX E a u) (A := (· ∈ LX a)) hL.1 (fun _ h => h)) hS 23 23 0 0 rfl rfl rfl rfl rfl (xcp1 (by assumption)) (xcp1 (by assumption)) (by assumption) (xcp2 (s := u.2 (8 + 2)) (hp0 2 (by decide)) (by assumption) (by assumption)) (xcp2 (s := u.2 (8 + 2)) (hp0 2 (by decide)) (by assumption) (by assumption)) (fun _ _ => rfl) (Nat.le_of_ble_eq_true rfl) (Nat.le_of_ble_eq_true rfl) dX5_copy_118 (fun H locs hP _ hS => ?_)
                  have hP : va_P (xD E) vwCl (wX E a (uR u 23 (va_cpy (u.1 23) (u.1 23) p2.toNatClampNeg p4.toNatClampNeg p5.toNatClampNeg))) H := hP
                  refine W.eq (g2 := F0 m 121 ls []) rfl ?_
                  refine lv_iload hx hb dX5_copy_121 (lv_at hl 7 rfl) ?_
                  have hR : s_X5_copy u p1 p2 p3 p4 p5 = (p5, uR u 23 (va_cpy (u.1 23) (u.1 23) p2.toNatClampNeg p4.toNatClampNeg p5.toNatClampNeg)) := hR
                  exact W.iret (v := p5) hx hb hr (fun t ht _ => by rw [hR]; dsimp only; exact ⟨⟨rfl, by rw [ht]; exact hP⟩, hS.F ht⟩) hS.2.2 dX5_copy_123
                · have hR := hR.trans (if_pos q70)
                  refine lv_bipush (v := (-12)) hx hb dX5_copy_100 rfl ?_
                  have hR : s_X5_copy u p1 p2 p3 p4 p5 = ((-12), u) := hR
                  exact W.iret (v := (-12)) hx hb hr (fun t ht _ => by rw [hR]; dsimp only; exact ⟨⟨rfl, by rw [ht]; exact hP⟩, hS.F ht⟩) hS.2.2 dX5_copy_102
          · have hR := hR.trans (if_neg q67)
            refine lv_bipush (v := (-13)) hx hb dX5_copy_59 rfl ?_
            have hR : s_X5_copy u p1 p2 p3 p4 p5 = ((-13), u) := hR
            exact W.iret (v := (-13)) hx hb hr (fun t ht _ => by rw [hR]; dsimp only; exact ⟨⟨rfl, by rw [ht]; exact hP⟩, hS.F ht⟩) hS.2.2 dX5_copy_61
        · have hR := hR.trans (if_neg q66)
          refine lv_bipush (v := (-11)) hx hb dX5_copy_43 rfl ?_
          have hR : s_X5_copy u p1 p2 p3 p4 p5 = ((-11), u) := hR
          exact W.iret (v := (-11)) hx hb hr (fun t ht _ => by rw [hR]; dsimp only; exact ⟨⟨rfl, by rw [ht]; exact hP⟩, hS.F ht⟩) hS.2.2 dX5_copy_45
    have hR := hR.trans (if_neg t52_2)
    by_cases t52_3 : p3 = 3
    · have hR := hR.trans (if_pos t52_3)
      refine xRoV (nL := 8) ⟨hx, hb, hml, hown, hts⟩ (c_X5_sheetOf l E a u p3 3 (by decide) t52_3) (cwV 1 hts gX5_copy_X5_sheetOf rfl rfl rfl ⟨rfl, hd_X5_sheetOf⟩ ⟨(Nat.le_of_ble_eq_true rfl), (Nat.le_of_ble_eq_true rfl)⟩) hF hS hA hP (va_recv (q := (RX5, TX5, 9)) hK hP (ci := 5) rfl (q0 := 0) rfl) rfl hl.1 rfl (Nat.le_of_ble_eq_true rfl) ⟨(Nat.le_of_ble_eq_true rfl), (Nat.le_of_ble_eq_true rfl)⟩ dX5_copy_9 ?_
      refine W.eq (g2 := F0 m 12 ls [.ref (a 20)]) rfl ?_
      refine lv_astore (lv' := [(7, .ref (a 20)), (6, .ref (a 19)), (0, .ref (a 0)), (1, .int p1), (2, .int p2), (3, .int p3), (4, .int p4), (5, .int p5)]) hx hb dX5_copy_12 hl (by decide) rfl (fun ls hl => ?_)
      refine lv_aload hx hb dX5_copy_14 (lv_at hl 1 rfl) ?_
      refine lv_ifnull hx hb dX5_copy_16 ?_
      refine lv_aload hx hb dX5_copy_19 (lv_at hl 0 rfl) ?_
      refine lv_ifnonnull (tgt := 27) hx hb dX5_copy_21 rfl ?_
      refine lv_aload hx hb dX5_copy_27 (lv_at hl 1 rfl) ?_
      refine xRoV (nL := 8) ⟨hx, hb, hml, hown, hts⟩ (c_X3_isMissing l E (a 19) (a 23) (uS u 2) ) (cwV 0 hts gX5_copy_X3_isMissing rfl rfl rfl ⟨rfl, hd_X3_isMissing⟩ ⟨(Nat.le_of_ble_eq_true rfl), (Nat.le_of_ble_eq_true rfl)⟩) hF hS hA (hP.sub [19, 23] rfl) (va_recv (q := (RX3, TX3, 3)) hK hP (ci := 3) rfl (q0 := 19) rfl) rfl hl.1 rfl (Nat.le_of_ble_eq_true rfl) ⟨(Nat.le_of_ble_eq_true rfl), (Nat.le_of_ble_eq_true rfl)⟩ dX5_copy_29 ?_
      refine W.eq (g2 := F0 m 32 ls [.int (s_X3_isMissing (uS u 2))]) rfl ?_
      refine lv_if_ne (tgt := 43) hx hb dX5_copy_32 rfl (fun q71 => ?_) (fun q71 => ?_)
      · have hR := hR.trans (if_neg q71)
        refine lv_bipush (v := (-11)) hx hb dX5_copy_43 rfl ?_
        have hR : s_X5_copy u p1 p2 p3 p4 p5 = ((-11), u) := hR
        exact W.iret (v := (-11)) hx hb hr (fun t ht _ => by rw [hR]; dsimp only; exact ⟨⟨rfl, by rw [ht]; exact hP⟩, hS.F ht⟩) hS.2.2 dX5_copy_45
      · have hR := hR.trans (if_pos q71)
        refine lv_aload hx hb dX5_copy_35 (lv_at hl 0 rfl) ?_
        refine xRoV (nL := 8) ⟨hx, hb, hml, hown, hts⟩ (c_X3_isMissing l E (a 20) (a 24) (uS u 3) ) (cwV 0 hts gX5_copy_X3_isMissing rfl rfl rfl ⟨rfl, hd_X3_isMissing⟩ ⟨(Nat.le_of_ble_eq_true rfl), (Nat.le_of_ble_eq_true rfl)⟩) hF hS hA (hP.sub [20, 24] rfl) (va_recv (q := (RX3, TX3, 3)) hK hP (ci := 3) rfl (q0 := 20) rfl) rfl hl.1 rfl (Nat.le_of_ble_eq_true rfl) ⟨(Nat.le_of_ble_eq_true rfl), (Nat.le_of_ble_eq_true rfl)⟩ dX5_copy_37 ?_
        refine W.eq (g2 := F0 m 40 ls [.int (s_X3_isMissing (uS u 3))]) rfl ?_
        refine lv_if_eq (tgt := 46) hx hb dX5_copy_40 rfl (fun q72 => ?_) (fun q72 => ?_)
        · have hR := hR.trans (if_pos q72)
          refine lv_aload hx hb dX5_copy_46 (lv_at hl 1 rfl) ?_
          refine va_get (D := xD E) (ci := 3) (v := .int (u.2 6)) (C := RX3) (T := TX3) (N := 3) hx hb hts (by decide +kernel) hown hK hP 19 rfl rfl 1 (by decide) (hts (.fieldLink RX5 329 "RailOffsets$Sheet" "sort" "I") (by decide +kernel)) (fun _ h => h) rfl dX5_copy_48 ?_
          refine lv_aload hx hb dX5_copy_51 (lv_at hl 0 rfl) ?_
          refine va_get (D := xD E) (ci := 3) (v := .int (u.2 7)) (C := RX3) (T := TX3) (N := 3) hx hb hts (by decide +kernel) hown hK hP 20 rfl rfl 1 (by decide) (hts (.fieldLink RX5 329 "RailOffsets$Sheet" "sort" "I") (by decide +kernel)) (fun _ h => h) rfl dX5_copy_53 ?_
          refine lv_icmp_eq (tgt := 62) hx hb dX5_copy_56 rfl (fun q73 => ?_) (fun q73 => ?_)
          · have hR := hR.trans (if_pos q73)
            refine lv_iload hx hb dX5_copy_62 (lv_at hl 7 rfl) ?_
            refine lv_if_lt (tgt := 100) hx hb dX5_copy_64 rfl (fun q74 => ?_) (fun q74 => ?_)
            · have hR := hR.trans (if_pos q74)
              refine lv_bipush (v := (-12)) hx hb dX5_copy_100 rfl ?_
              have hR : s_X5_copy u p1 p2 p3 p4 p5 = ((-12), u) := hR
              exact W.iret (v := (-12)) hx hb hr (fun t ht _ => by rw [hR]; dsimp only; exact ⟨⟨rfl, by rw [ht]; exact hP⟩, hS.F ht⟩) hS.2.2 dX5_copy_102
            · have hR := hR.trans (if_neg q74)
              refine lv_iload_n hx hb dX5_copy_67 rfl (lv_at hl 4 rfl) ?_
              refine lv_iconst (v := 0) hx hb dX5_copy_68 rfl ?_
              refine lv_aload hx hb dX5_copy_69 (lv_at hl 1 rfl) ?_
              refine va_get (D := xD E) (ci := 3) (v := .int (u.2 10)) (C := RX3) (T := TX3) (N := 3) hx hb hts (by decide +kernel) hown hK hP 19 rfl rfl 2 (by decide) (hts (.fieldLink RX5 264 "RailOffsets$Sheet" "size" "I") (by decide +kernel)) (fun _ h => h) rfl dX5_copy_71 ?_
              refine lv_iload hx hb dX5_copy_74 (lv_at hl 7 rfl) ?_
              refine lv_isub hx hb dX5_copy_76 ?_
              refine xRoS (nL := 8) ⟨hx, hb, hml, hown, hts⟩ (c_X5_within l E p2 0 ((u.2 10) - p5)) (va_cwS 3 hts gX5_copy_X5_within rfl rfl rfl hd_X5_within ⟨(Nat.le_of_ble_eq_true rfl), (Nat.le_of_ble_eq_true rfl)⟩) hF hS hA (hP.sub [] rfl) rfl hl.1 rfl (Nat.le_of_ble_eq_true rfl) ⟨(Nat.le_of_ble_eq_true rfl), (Nat.le_of_ble_eq_true rfl)⟩ dX5_copy_77 ?_
              refine W.eq (g2 := F0 m 80 ls [.int (s_X5_within p2 0 ((u.2 10) - p5))]) rfl ?_
              refine lv_if_eq (tgt := 100) hx hb dX5_copy_80 rfl (fun q75 => ?_) (fun q75 => ?_)
              · have hR := hR.trans (if_pos q75)
                refine lv_bipush (v := (-12)) hx hb dX5_copy_100 rfl ?_
                have hR : s_X5_copy u p1 p2 p3 p4 p5 = ((-12), u) := hR
                exact W.iret (v := (-12)) hx hb hr (fun t ht _ => by rw [hR]; dsimp only; exact ⟨⟨rfl, by rw [ht]; exact hP⟩, hS.F ht⟩) hS.2.2 dX5_copy_102
              · have hR := hR.trans (if_neg q75)
                refine lv_iload hx hb dX5_copy_83 (lv_at hl 6 rfl) ?_
                refine lv_iconst (v := 0) hx hb dX5_copy_85 rfl ?_
                refine lv_aload hx hb dX5_copy_86 (lv_at hl 0 rfl) ?_
                refine va_get (D := xD E) (ci := 3) (v := .int (u.2 11)) (C := RX3) (T := TX3) (N := 3) hx hb hts (by decide +kernel) hown hK hP 20 rfl rfl 2 (by decide) (hts (.fieldLink RX5 264 "RailOffsets$Sheet" "size" "I") (by decide +kernel)) (fun _ h => h) rfl dX5_copy_88 ?_
                refine lv_iload hx hb dX5_copy_91 (lv_at hl 7 rfl) ?_
                refine lv_isub hx hb dX5_copy_93 ?_
                refine xRoS (nL := 8) ⟨hx, hb, hml, hown, hts⟩ (c_X5_within l E p4 0 ((u.2 11) - p5)) (va_cwS 3 hts gX5_copy_X5_within rfl rfl rfl hd_X5_within ⟨(Nat.le_of_ble_eq_true rfl), (Nat.le_of_ble_eq_true rfl)⟩) hF hS hA (hP.sub [] rfl) rfl hl.1 rfl (Nat.le_of_ble_eq_true rfl) ⟨(Nat.le_of_ble_eq_true rfl), (Nat.le_of_ble_eq_true rfl)⟩ dX5_copy_94 ?_
                refine W.eq (g2 := F0 m 97 ls [.int (s_X5_within p4 0 ((u.2 11) - p5))]) rfl ?_
                refine lv_if_ne (tgt := 103) hx hb dX5_copy_97 rfl (fun q76 => ?_) (fun q76 => ?_)
                · have hR := hR.trans (if_neg q76)
                  refine lv_aload hx hb dX5_copy_103 (lv_at hl 1 rfl) ?_
                  refine va_get (D := xD E) (ci := 3) (v := .ref (a 23)) (C := RX3) (T := TX3) (N := 3) hx hb hts (by decide +kernel) hown hK hP 19 rfl rfl 0 (by decide) (hts (.fieldLink RX5 340 "RailOffsets$Sheet" "items" "[I") (by decide +kernel)) (fun _ h => h) rfl dX5_copy_105 ?_
                  refine lv_iload_n hx hb dX5_copy_108 rfl (lv_at hl 4 rfl) ?_
                  refine lv_aload hx hb dX5_copy_109 (lv_at hl 0 rfl) ?_
                  refine va_get (D := xD E) (ci := 3) (v := .ref (a 24)) (C := RX3) (T := TX3) (N := 3) hx hb hts (by decide +kernel) hown hK hP 20 rfl rfl 0 (by decide) (hts (.fieldLink RX5 340 "RailOffsets$Sheet" "items" "[I") (by decide +kernel)) (fun _ h => h) rfl dX5_copy_111 ?_
                  refine lv_iload hx hb dX5_copy_114 (lv_at hl 6 rfl) ?_
                  refine lv_iload hx hb dX5_copy_116 (lv_at hl 7 rfl) ?_
                  refine va_copyi (ty := .int) hx hb (hml.trans hl.1.symm) hown (hts (.methodLink RX5 323 arraycopyName) (by decide +kernel)) (hts (.native arraycopyName) (by decide +kernel)) (hts (.static arraycopyName) (by decide +kernel)) (hts (.initialized "java/lang/System") (by decide +kernel)) hK hP (xD_of (ws := wX E a u) (A := (· ∈ LX a)) hL.1 (fun _ h => h)) hS 23 24 0 0 rfl rfl rfl rfl rfl (xcp1 (by assumption)) (xcp1 (by assumption)) (by assumption) (xcp2 (s := u.2 (8 + 2)) (hp0 2 (by decide)) (by assumption) (by assumption)) (xcp2 (s := u.2 (8 + 3)) (hp0 3 (by decide)) (by assumption) (by assumption)) (fun _ _ => rfl) (Nat.le_of_ble_eq_true rfl) (Nat.le_of_ble_eq_true rfl) dX5_copy_118 (fun H locs hP _ hS => ?_)
                  have hP : va_P (xD E) vwCl (wX E a (uR u 24 (va_cpy (u.1 23) (u.1 24) p2.toNatClampNeg p4.toNatClampNeg p5.toNatClampNeg))) H := hP
                  refine W.eq (g2 := F0 m 121 ls []) rfl ?_
                  refine lv_iload hx hb dX5_copy_121 (lv_at hl 7 rfl) ?_
                  have hR : s_X5_copy u p1 p2 p3 p4 p5 = (p5, uR u 24 (va_cpy (u.1 23) (u.1 24) p2.toNatClampNeg p4.toNatClampNeg p5.toNatClampNeg)) := hR
                  exact W.iret (v := p5) hx hb hr (fun t ht _ => by rw [hR]; dsimp only; exact ⟨⟨rfl, by rw [ht]; exact hP⟩, hS.F ht⟩) hS.2.2 dX5_copy_123
                · have hR := hR.trans (if_pos q76)
                  refine lv_bipush (v := (-12)) hx hb dX5_copy_100 rfl ?_
                  have hR : s_X5_copy u p1 p2 p3 p4 p5 = ((-12), u) := hR
                  exact W.iret (v := (-12)) hx hb hr (fun t ht _ => by rw [hR]; dsimp only; exact ⟨⟨rfl, by rw [ht]; exact hP⟩, hS.F ht⟩) hS.2.2 dX5_copy_102
          · have hR := hR.trans (if_neg q73)
            refine lv_bipush (v := (-13)) hx hb dX5_copy_59 rfl ?_
            have hR : s_X5_copy u p1 p2 p3 p4 p5 = ((-13), u) := hR
            exact W.iret (v := (-13)) hx hb hr (fun t ht _ => by rw [hR]; dsimp only; exact ⟨⟨rfl, by rw [ht]; exact hP⟩, hS.F ht⟩) hS.2.2 dX5_copy_61
        · have hR := hR.trans (if_neg q72)
          refine lv_bipush (v := (-11)) hx hb dX5_copy_43 rfl ?_
          have hR : s_X5_copy u p1 p2 p3 p4 p5 = ((-11), u) := hR
          exact W.iret (v := (-11)) hx hb hr (fun t ht _ => by rw [hR]; dsimp only; exact ⟨⟨rfl, by rw [ht]; exact hP⟩, hS.F ht⟩) hS.2.2 dX5_copy_45
    have hR := hR.trans (if_neg t52_3)
    refine xRoV (nL := 8) ⟨hx, hb, hml, hown, hts⟩ (c_X5_sheetOf_n l E a u p3 t52_0 t52_1 t52_2 t52_3) (cwV 1 hts gX5_copy_X5_sheetOf rfl rfl rfl ⟨rfl, hd_X5_sheetOf⟩ ⟨(Nat.le_of_ble_eq_true rfl), (Nat.le_of_ble_eq_true rfl)⟩) hF hS hA hP (va_recv (q := (RX5, TX5, 9)) hK hP (ci := 5) rfl (q0 := 0) rfl) rfl hl.1 rfl (Nat.le_of_ble_eq_true rfl) ⟨(Nat.le_of_ble_eq_true rfl), (Nat.le_of_ble_eq_true rfl)⟩ dX5_copy_9 ?_
    refine W.eq (g2 := F0 m 12 ls [.null]) rfl ?_
    refine lv_astoreN (lv' := [(7, .null), (6, .ref (a 19)), (0, .ref (a 0)), (1, .int p1), (2, .int p2), (3, .int p3), (4, .int p4), (5, .int p5)]) hx hb dX5_copy_12 hl (by decide) rfl (fun ls hl => ?_)
    refine lv_aload hx hb dX5_copy_14 (lv_at hl 1 rfl) ?_
    refine lv_ifnull hx hb dX5_copy_16 ?_
    refine lv_aloadN hx hb dX5_copy_19 (lv_at hl 0 rfl) ?_
    refine lv_ifnonnullN hx hb dX5_copy_21 ?_
    refine lv_bipush (v := (-2)) hx hb dX5_copy_24 rfl ?_
    have hR : s_X5_copy u p1 p2 p3 p4 p5 = ((-2), u) := hR
    exact W.iret (v := (-2)) hx hb hr (fun t ht _ => by rw [hR]; dsimp only; exact ⟨⟨rfl, by rw [ht]; exact hP⟩, hS.F ht⟩) hS.2.2 dX5_copy_26
  have hR := hR.trans (if_neg t1_2)
  by_cases t1_3 : p1 = 3
  · have hR := hR.trans (if_pos t1_3)
    refine xRoV (nL := 8) ⟨hx, hb, hml, hown, hts⟩ (c_X5_sheetOf l E a u p1 3 (by decide) t1_3) (cwV 1 hts gX5_copy_X5_sheetOf rfl rfl rfl ⟨rfl, hd_X5_sheetOf⟩ ⟨(Nat.le_of_ble_eq_true rfl), (Nat.le_of_ble_eq_true rfl)⟩) hF hS hA hP (va_recv (q := (RX5, TX5, 9)) hK hP (ci := 5) rfl (q0 := 0) rfl) rfl hl.1 rfl (Nat.le_of_ble_eq_true rfl) ⟨(Nat.le_of_ble_eq_true rfl), (Nat.le_of_ble_eq_true rfl)⟩ dX5_copy_2 ?_
    refine W.eq (g2 := F0 m 5 ls [.ref (a 20)]) rfl ?_
    refine lv_astore (lv' := [(6, .ref (a 20)), (0, .ref (a 0)), (1, .int p1), (2, .int p2), (3, .int p3), (4, .int p4), (5, .int p5)]) hx hb dX5_copy_5 hl (by decide) rfl (fun ls hl => ?_)
    refine lv_aload_n hx hb dX5_copy_7 rfl (lv_at hl 1 rfl) ?_
    refine lv_iload_n hx hb dX5_copy_8 rfl (lv_at hl 4 rfl) ?_
    by_cases t77_0 : p3 = 0
    · have hR := hR.trans (if_pos t77_0)
      refine xRoV (nL := 8) ⟨hx, hb, hml, hown, hts⟩ (c_X5_sheetOf l E a u p3 0 (by decide) t77_0) (cwV 1 hts gX5_copy_X5_sheetOf rfl rfl rfl ⟨rfl, hd_X5_sheetOf⟩ ⟨(Nat.le_of_ble_eq_true rfl), (Nat.le_of_ble_eq_true rfl)⟩) hF hS hA hP (va_recv (q := (RX5, TX5, 9)) hK hP (ci := 5) rfl (q0 := 0) rfl) rfl hl.1 rfl (Nat.le_of_ble_eq_true rfl) ⟨(Nat.le_of_ble_eq_true rfl), (Nat.le_of_ble_eq_true rfl)⟩ dX5_copy_9 ?_
      refine W.eq (g2 := F0 m 12 ls [.ref (a 17)]) rfl ?_
      refine lv_astore (lv' := [(7, .ref (a 17)), (6, .ref (a 20)), (0, .ref (a 0)), (1, .int p1), (2, .int p2), (3, .int p3), (4, .int p4), (5, .int p5)]) hx hb dX5_copy_12 hl (by decide) rfl (fun ls hl => ?_)
      refine lv_aload hx hb dX5_copy_14 (lv_at hl 1 rfl) ?_
      refine lv_ifnull hx hb dX5_copy_16 ?_
      refine lv_aload hx hb dX5_copy_19 (lv_at hl 0 rfl) ?_
      refine lv_ifnonnull (tgt := 27) hx hb dX5_copy_21 rfl ?_
      refine lv_aload hx hb dX5_copy_27 (lv_at hl 1 rfl) ?_
      refine xRoV (nL := 8) ⟨hx, hb, hml, hown, hts⟩ (c_X3_isMissing l E (a 20) (a 24) (uS u 3) ) (cwV 0 hts gX5_copy_X3_isMissing rfl rfl rfl ⟨rfl, hd_X3_isMissing⟩ ⟨(Nat.le_of_ble_eq_true rfl), (Nat.le_of_ble_eq_true rfl)⟩) hF hS hA (hP.sub [20, 24] rfl) (va_recv (q := (RX3, TX3, 3)) hK hP (ci := 3) rfl (q0 := 20) rfl) rfl hl.1 rfl (Nat.le_of_ble_eq_true rfl) ⟨(Nat.le_of_ble_eq_true rfl), (Nat.le_of_ble_eq_true rfl)⟩ dX5_copy_29 ?_
      refine W.eq (g2 := F0 m 32 ls [.int (s_X3_isMissing (uS u 3))]) rfl ?_
      refine lv_if_ne (tgt := 43) hx hb dX5_copy_32 rfl (fun q78 => ?_) (fun q78 => ?_)
      · have hR := hR.trans (if_neg q78)
        refine lv_bipush (v := (-11)) hx hb dX5_copy_43 rfl ?_
        have hR : s_X5_copy u p1 p2 p3 p4 p5 = ((-11), u) := hR
        exact W.iret (v := (-11)) hx hb hr (fun t ht _ => by rw [hR]; dsimp only; exact ⟨⟨rfl, by rw [ht]; exact hP⟩, hS.F ht⟩) hS.2.2 dX5_copy_45
      · have hR := hR.trans (if_pos q78)
        refine lv_aload hx hb dX5_copy_35 (lv_at hl 0 rfl) ?_
        refine xRoV (nL := 8) ⟨hx, hb, hml, hown, hts⟩ (c_X3_isMissing l E (a 17) (a 21) (uS u 0) ) (cwV 0 hts gX5_copy_X3_isMissing rfl rfl rfl ⟨rfl, hd_X3_isMissing⟩ ⟨(Nat.le_of_ble_eq_true rfl), (Nat.le_of_ble_eq_true rfl)⟩) hF hS hA (hP.sub [17, 21] rfl) (va_recv (q := (RX3, TX3, 3)) hK hP (ci := 3) rfl (q0 := 17) rfl) rfl hl.1 rfl (Nat.le_of_ble_eq_true rfl) ⟨(Nat.le_of_ble_eq_true rfl), (Nat.le_of_ble_eq_true rfl)⟩ dX5_copy_37 ?_
        refine W.eq (g2 := F0 m 40 ls [.int (s_X3_isMissing (uS u 0))]) rfl ?_
        refine lv_if_eq (tgt := 46) hx hb dX5_copy_40 rfl (fun q79 => ?_) (fun q79 => ?_)
        · have hR := hR.trans (if_pos q79)
          refine lv_aload hx hb dX5_copy_46 (lv_at hl 1 rfl) ?_
          refine va_get (D := xD E) (ci := 3) (v := .int (u.2 7)) (C := RX3) (T := TX3) (N := 3) hx hb hts (by decide +kernel) hown hK hP 20 rfl rfl 1 (by decide) (hts (.fieldLink RX5 329 "RailOffsets$Sheet" "sort" "I") (by decide +kernel)) (fun _ h => h) rfl dX5_copy_48 ?_
          refine lv_aload hx hb dX5_copy_51 (lv_at hl 0 rfl) ?_
          refine va_get (D := xD E) (ci := 3) (v := .int (u.2 4)) (C := RX3) (T := TX3) (N := 3) hx hb hts (by decide +kernel) hown hK hP 17 rfl rfl 1 (by decide) (hts (.fieldLink RX5 329 "RailOffsets$Sheet" "sort" "I") (by decide +kernel)) (fun _ h => h) rfl dX5_copy_53 ?_
          refine lv_icmp_eq (tgt := 62) hx hb dX5_copy_56 rfl (fun q80 => ?_) (fun q80 => ?_)
          · have hR := hR.trans (if_pos q80)
            refine lv_iload hx hb dX5_copy_62 (lv_at hl 7 rfl) ?_
            refine lv_if_lt (tgt := 100) hx hb dX5_copy_64 rfl (fun q81 => ?_) (fun q81 => ?_)
            · have hR := hR.trans (if_pos q81)
              refine lv_bipush (v := (-12)) hx hb dX5_copy_100 rfl ?_
              have hR : s_X5_copy u p1 p2 p3 p4 p5 = ((-12), u) := hR
              exact W.iret (v := (-12)) hx hb hr (fun t ht _ => by rw [hR]; dsimp only; exact ⟨⟨rfl, by rw [ht]; exact hP⟩, hS.F ht⟩) hS.2.2 dX5_copy_102
            · have hR := hR.trans (if_neg q81)
              refine lv_iload_n hx hb dX5_copy_67 rfl (lv_at hl 4 rfl) ?_
              refine lv_iconst (v := 0) hx hb dX5_copy_68 rfl ?_
              refine lv_aload hx hb dX5_copy_69 (lv_at hl 1 rfl) ?_
              refine va_get (D := xD E) (ci := 3) (v := .int (u.2 11)) (C := RX3) (T := TX3) (N := 3) hx hb hts (by decide +kernel) hown hK hP 20 rfl rfl 2 (by decide) (hts (.fieldLink RX5 264 "RailOffsets$Sheet" "size" "I") (by decide +kernel)) (fun _ h => h) rfl dX5_copy_71 ?_
              refine lv_iload hx hb dX5_copy_74 (lv_at hl 7 rfl) ?_
              refine lv_isub hx hb dX5_copy_76 ?_
              refine xRoS (nL := 8) ⟨hx, hb, hml, hown, hts⟩ (c_X5_within l E p2 0 ((u.2 11) - p5)) (va_cwS 3 hts gX5_copy_X5_within rfl rfl rfl hd_X5_within ⟨(Nat.le_of_ble_eq_true rfl), (Nat.le_of_ble_eq_true rfl)⟩) hF hS hA (hP.sub [] rfl) rfl hl.1 rfl (Nat.le_of_ble_eq_true rfl) ⟨(Nat.le_of_ble_eq_true rfl), (Nat.le_of_ble_eq_true rfl)⟩ dX5_copy_77 ?_
              refine W.eq (g2 := F0 m 80 ls [.int (s_X5_within p2 0 ((u.2 11) - p5))]) rfl ?_
              refine lv_if_eq (tgt := 100) hx hb dX5_copy_80 rfl (fun q82 => ?_) (fun q82 => ?_)
              · have hR := hR.trans (if_pos q82)
                refine lv_bipush (v := (-12)) hx hb dX5_copy_100 rfl ?_
                have hR : s_X5_copy u p1 p2 p3 p4 p5 = ((-12), u) := hR
                exact W.iret (v := (-12)) hx hb hr (fun t ht _ => by rw [hR]; dsimp only; exact ⟨⟨rfl, by rw [ht]; exact hP⟩, hS.F ht⟩) hS.2.2 dX5_copy_102
              · have hR := hR.trans (if_neg q82)
                refine lv_iload hx hb dX5_copy_83 (lv_at hl 6 rfl) ?_
                refine lv_iconst (v := 0) hx hb dX5_copy_85 rfl ?_
                refine lv_aload hx hb dX5_copy_86 (lv_at hl 0 rfl) ?_
                refine va_get (D := xD E) (ci := 3) (v := .int (u.2 8)) (C := RX3) (T := TX3) (N := 3) hx hb hts (by decide +kernel) hown hK hP 17 rfl rfl 2 (by decide) (hts (.fieldLink RX5 264 "RailOffsets$Sheet" "size" "I") (by decide +kernel)) (fun _ h => h) rfl dX5_copy_88 ?_
                refine lv_iload hx hb dX5_copy_91 (lv_at hl 7 rfl) ?_
                refine lv_isub hx hb dX5_copy_93 ?_
                refine xRoS (nL := 8) ⟨hx, hb, hml, hown, hts⟩ (c_X5_within l E p4 0 ((u.2 8) - p5)) (va_cwS 3 hts gX5_copy_X5_within rfl rfl rfl hd_X5_within ⟨(Nat.le_of_ble_eq_true rfl), (Nat.le_of_ble_eq_true rfl)⟩) hF hS hA (hP.sub [] rfl) rfl hl.1 rfl (Nat.le_of_ble_eq_true rfl) ⟨(Nat.le_of_ble_eq_true rfl), (Nat.le_of_ble_eq_true rfl)⟩ dX5_copy_94 ?_
                refine W.eq (g2 := F0 m 97 ls [.int (s_X5_within p4 0 ((u.2 8) - p5))]) rfl ?_
                refine lv_if_ne (tgt := 103) hx hb dX5_copy_97 rfl (fun q83 => ?_) (fun q83 => ?_)
                · have hR := hR.trans (if_neg q83)
                  refine lv_aload hx hb dX5_copy_103 (lv_at hl 1 rfl) ?_
                  refine va_get (D := xD E) (ci := 3) (v := .ref (a 24)) (C := RX3) (T := TX3) (N := 3) hx hb hts (by decide +kernel) hown hK hP 20 rfl rfl 0 (by decide) (hts (.fieldLink RX5 340 "RailOffsets$Sheet" "items" "[I") (by decide +kernel)) (fun _ h => h) rfl dX5_copy_105 ?_
                  refine lv_iload_n hx hb dX5_copy_108 rfl (lv_at hl 4 rfl) ?_
                  refine lv_aload hx hb dX5_copy_109 (lv_at hl 0 rfl) ?_
                  refine va_get (D := xD E) (ci := 3) (v := .ref (a 21)) (C := RX3) (T := TX3) (N := 3) hx hb hts (by decide +kernel) hown hK hP 17 rfl rfl 0 (by decide) (hts (.fieldLink RX5 340 "RailOffsets$Sheet" "items" "[I") (by decide +kernel)) (fun _ h => h) rfl dX5_copy_111 ?_
                  refine lv_iload hx hb dX5_copy_114 (lv_at hl 6 rfl) ?_
                  refine lv_iload hx hb dX5_copy_116 (lv_at hl 7 rfl) ?_
                  refine va_copyi (ty := .int) hx hb (hml.trans hl.1.symm) hown (hts (.methodLink RX5 323 arraycopyName) (by decide +kernel)) (hts (.native arraycopyName) (by decide +kernel)) (hts (.static arraycopyName) (by decide +kernel)) (hts (.initialized "java/lang/System") (by decide +kernel)) hK hP (xD_of (ws := wX E a u) (A := (· ∈ LX a)) hL.1 (fun _ h => h)) hS 24 21 0 0 rfl rfl rfl rfl rfl (xcp1 (by assumption)) (xcp1 (by assumption)) (by assumption) (xcp2 (s := u.2 (8 + 3)) (hp0 3 (by decide)) (by assumption) (by assumption)) (xcp2 (s := u.2 (8 + 0)) (hp0 0 (by decide)) (by assumption) (by assumption)) (fun _ _ => rfl) (Nat.le_of_ble_eq_true rfl) (Nat.le_of_ble_eq_true rfl) dX5_copy_118 (fun H locs hP _ hS => ?_)
                  have hP : va_P (xD E) vwCl (wX E a (uR u 21 (va_cpy (u.1 24) (u.1 21) p2.toNatClampNeg p4.toNatClampNeg p5.toNatClampNeg))) H := hP
                  refine W.eq (g2 := F0 m 121 ls []) rfl ?_
                  refine lv_iload hx hb dX5_copy_121 (lv_at hl 7 rfl) ?_
                  have hR : s_X5_copy u p1 p2 p3 p4 p5 = (p5, uR u 21 (va_cpy (u.1 24) (u.1 21) p2.toNatClampNeg p4.toNatClampNeg p5.toNatClampNeg)) := hR
                  exact W.iret (v := p5) hx hb hr (fun t ht _ => by rw [hR]; dsimp only; exact ⟨⟨rfl, by rw [ht]; exact hP⟩, hS.F ht⟩) hS.2.2 dX5_copy_123
                · have hR := hR.trans (if_pos q83)
                  refine lv_bipush (v := (-12)) hx hb dX5_copy_100 rfl ?_
                  have hR : s_X5_copy u p1 p2 p3 p4 p5 = ((-12), u) := hR
                  exact W.iret (v := (-12)) hx hb hr (fun t ht _ => by rw [hR]; dsimp only; exact ⟨⟨rfl, by rw [ht]; exact hP⟩, hS.F ht⟩) hS.2.2 dX5_copy_102
          · have hR := hR.trans (if_neg q80)
            refine lv_bipush (v := (-13)) hx hb dX5_copy_59 rfl ?_
            have hR : s_X5_copy u p1 p2 p3 p4 p5 = ((-13), u) := hR
            exact W.iret (v := (-13)) hx hb hr (fun t ht _ => by rw [hR]; dsimp only; exact ⟨⟨rfl, by rw [ht]; exact hP⟩, hS.F ht⟩) hS.2.2 dX5_copy_61
        · have hR := hR.trans (if_neg q79)
          refine lv_bipush (v := (-11)) hx hb dX5_copy_43 rfl ?_
          have hR : s_X5_copy u p1 p2 p3 p4 p5 = ((-11), u) := hR
          exact W.iret (v := (-11)) hx hb hr (fun t ht _ => by rw [hR]; dsimp only; exact ⟨⟨rfl, by rw [ht]; exact hP⟩, hS.F ht⟩) hS.2.2 dX5_copy_45
    have hR := hR.trans (if_neg t77_0)
    by_cases t77_1 : p3 = 1
    · have hR := hR.trans (if_pos t77_1)
      refine xRoV (nL := 8) ⟨hx, hb, hml, hown, hts⟩ (c_X5_sheetOf l E a u p3 1 (by decide) t77_1) (cwV 1 hts gX5_copy_X5_sheetOf rfl rfl rfl ⟨rfl, hd_X5_sheetOf⟩ ⟨(Nat.le_of_ble_eq_true rfl), (Nat.le_of_ble_eq_true rfl)⟩) hF hS hA hP (va_recv (q := (RX5, TX5, 9)) hK hP (ci := 5) rfl (q0 := 0) rfl) rfl hl.1 rfl (Nat.le_of_ble_eq_true rfl) ⟨(Nat.le_of_ble_eq_true rfl), (Nat.le_of_ble_eq_true rfl)⟩ dX5_copy_9 ?_
      refine W.eq (g2 := F0 m 12 ls [.ref (a 18)]) rfl ?_
      refine lv_astore (lv' := [(7, .ref (a 18)), (6, .ref (a 20)), (0, .ref (a 0)), (1, .int p1), (2, .int p2), (3, .int p3), (4, .int p4), (5, .int p5)]) hx hb dX5_copy_12 hl (by decide) rfl (fun ls hl => ?_)
      refine lv_aload hx hb dX5_copy_14 (lv_at hl 1 rfl) ?_
      refine lv_ifnull hx hb dX5_copy_16 ?_
      refine lv_aload hx hb dX5_copy_19 (lv_at hl 0 rfl) ?_
      refine lv_ifnonnull (tgt := 27) hx hb dX5_copy_21 rfl ?_
      refine lv_aload hx hb dX5_copy_27 (lv_at hl 1 rfl) ?_
      refine xRoV (nL := 8) ⟨hx, hb, hml, hown, hts⟩ (c_X3_isMissing l E (a 20) (a 24) (uS u 3) ) (cwV 0 hts gX5_copy_X3_isMissing rfl rfl rfl ⟨rfl, hd_X3_isMissing⟩ ⟨(Nat.le_of_ble_eq_true rfl), (Nat.le_of_ble_eq_true rfl)⟩) hF hS hA (hP.sub [20, 24] rfl) (va_recv (q := (RX3, TX3, 3)) hK hP (ci := 3) rfl (q0 := 20) rfl) rfl hl.1 rfl (Nat.le_of_ble_eq_true rfl) ⟨(Nat.le_of_ble_eq_true rfl), (Nat.le_of_ble_eq_true rfl)⟩ dX5_copy_29 ?_
      refine W.eq (g2 := F0 m 32 ls [.int (s_X3_isMissing (uS u 3))]) rfl ?_
      refine lv_if_ne (tgt := 43) hx hb dX5_copy_32 rfl (fun q84 => ?_) (fun q84 => ?_)
      · have hR := hR.trans (if_neg q84)
        refine lv_bipush (v := (-11)) hx hb dX5_copy_43 rfl ?_
        have hR : s_X5_copy u p1 p2 p3 p4 p5 = ((-11), u) := hR
        exact W.iret (v := (-11)) hx hb hr (fun t ht _ => by rw [hR]; dsimp only; exact ⟨⟨rfl, by rw [ht]; exact hP⟩, hS.F ht⟩) hS.2.2 dX5_copy_45
      · have hR := hR.trans (if_pos q84)
        refine lv_aload hx hb dX5_copy_35 (lv_at hl 0 rfl) ?_
        refine xRoV (nL := 8) ⟨hx, hb, hml, hown, hts⟩ (c_X3_isMissing l E (a 18) (a 22) (uS u 1) ) (cwV 0 hts gX5_copy_X3_isMissing rfl rfl rfl ⟨rfl, hd_X3_isMissing⟩ ⟨(Nat.le_of_ble_eq_true rfl), (Nat.le_of_ble_eq_true rfl)⟩) hF hS hA (hP.sub [18, 22] rfl) (va_recv (q := (RX3, TX3, 3)) hK hP (ci := 3) rfl (q0 := 18) rfl) rfl hl.1 rfl (Nat.le_of_ble_eq_true rfl) ⟨(Nat.le_of_ble_eq_true rfl), (Nat.le_of_ble_eq_true rfl)⟩ dX5_copy_37 ?_
        refine W.eq (g2 := F0 m 40 ls [.int (s_X3_isMissing (uS u 1))]) rfl ?_
        refine lv_if_eq (tgt := 46) hx hb dX5_copy_40 rfl (fun q85 => ?_) (fun q85 => ?_)
        · have hR := hR.trans (if_pos q85)
          refine lv_aload hx hb dX5_copy_46 (lv_at hl 1 rfl) ?_
          refine va_get (D := xD E) (ci := 3) (v := .int (u.2 7)) (C := RX3) (T := TX3) (N := 3) hx hb hts (by decide +kernel) hown hK hP 20 rfl rfl 1 (by decide) (hts (.fieldLink RX5 329 "RailOffsets$Sheet" "sort" "I") (by decide +kernel)) (fun _ h => h) rfl dX5_copy_48 ?_
          refine lv_aload hx hb dX5_copy_51 (lv_at hl 0 rfl) ?_
          refine va_get (D := xD E) (ci := 3) (v := .int (u.2 5)) (C := RX3) (T := TX3) (N := 3) hx hb hts (by decide +kernel) hown hK hP 18 rfl rfl 1 (by decide) (hts (.fieldLink RX5 329 "RailOffsets$Sheet" "sort" "I") (by decide +kernel)) (fun _ h => h) rfl dX5_copy_53 ?_
          refine lv_icmp_eq (tgt := 62) hx hb dX5_copy_56 rfl (fun q86 => ?_) (fun q86 => ?_)
          · have hR := hR.trans (if_pos q86)
            refine lv_iload hx hb dX5_copy_62 (lv_at hl 7 rfl) ?_
            refine lv_if_lt (tgt := 100) hx hb dX5_copy_64 rfl (fun q87 => ?_) (fun q87 => ?_)
            · have hR := hR.trans (if_pos q87)
              refine lv_bipush (v := (-12)) hx hb dX5_copy_100 rfl ?_
              have hR : s_X5_copy u p1 p2 p3 p4 p5 = ((-12), u) := hR
              exact W.iret (v := (-12)) hx hb hr (fun t ht _ => by rw [hR]; dsimp only; exact ⟨⟨rfl, by rw [ht]; exact hP⟩, hS.F ht⟩) hS.2.2 dX5_copy_102
            · have hR := hR.trans (if_neg q87)
              refine lv_iload_n hx hb dX5_copy_67 rfl (lv_at hl 4 rfl) ?_
              refine lv_iconst (v := 0) hx hb dX5_copy_68 rfl ?_
              refine lv_aload hx hb dX5_copy_69 (lv_at hl 1 rfl) ?_
              refine va_get (D := xD E) (ci := 3) (v := .int (u.2 11)) (C := RX3) (T := TX3) (N := 3) hx hb hts (by decide +kernel) hown hK hP 20 rfl rfl 2 (by decide) (hts (.fieldLink RX5 264 "RailOffsets$Sheet" "size" "I") (by decide +kernel)) (fun _ h => h) rfl dX5_copy_71 ?_
              refine lv_iload hx hb dX5_copy_74 (lv_at hl 7 rfl) ?_
              refine lv_isub hx hb dX5_copy_76 ?_
              refine xRoS (nL := 8) ⟨hx, hb, hml, hown, hts⟩ (c_X5_within l E p2 0 ((u.2 11) - p5)) (va_cwS 3 hts gX5_copy_X5_within rfl rfl rfl hd_X5_within ⟨(Nat.le_of_ble_eq_true rfl), (Nat.le_of_ble_eq_true rfl)⟩) hF hS hA (hP.sub [] rfl) rfl hl.1 rfl (Nat.le_of_ble_eq_true rfl) ⟨(Nat.le_of_ble_eq_true rfl), (Nat.le_of_ble_eq_true rfl)⟩ dX5_copy_77 ?_
              refine W.eq (g2 := F0 m 80 ls [.int (s_X5_within p2 0 ((u.2 11) - p5))]) rfl ?_
              refine lv_if_eq (tgt := 100) hx hb dX5_copy_80 rfl (fun q88 => ?_) (fun q88 => ?_)
              · have hR := hR.trans (if_pos q88)
                refine lv_bipush (v := (-12)) hx hb dX5_copy_100 rfl ?_
                have hR : s_X5_copy u p1 p2 p3 p4 p5 = ((-12), u) := hR
                exact W.iret (v := (-12)) hx hb hr (fun t ht _ => by rw [hR]; dsimp only; exact ⟨⟨rfl, by rw [ht]; exact hP⟩, hS.F ht⟩) hS.2.2 dX5_copy_102
              · have hR := hR.trans (if_neg q88)
                refine lv_iload hx hb dX5_copy_83 (lv_at hl 6 rfl) ?_
                refine lv_iconst (v := 0) hx hb dX5_copy_85 rfl ?_
                refine lv_aload hx hb dX5_copy_86 (lv_at hl 0 rfl) ?_
                refine va_get (D := xD E) (ci := 3) (v := .int (u.2 9)) (C := RX3) (T := TX3) (N := 3) hx hb hts (by decide +kernel) hown hK hP 18 rfl rfl 2 (by decide) (hts (.fieldLink RX5 264 "RailOffsets$Sheet" "size" "I") (by decide +kernel)) (fun _ h => h) rfl dX5_copy_88 ?_
                refine lv_iload hx hb dX5_copy_91 (lv_at hl 7 rfl) ?_
                refine lv_isub hx hb dX5_copy_93 ?_
                refine xRoS (nL := 8) ⟨hx, hb, hml, hown, hts⟩ (c_X5_within l E p4 0 ((u.2 9) - p5)) (va_cwS 3 hts gX5_copy_X5_within rfl rfl rfl hd_X5_within ⟨(Nat.le_of_ble_eq_true rfl), (Nat.le_of_ble_eq_true rfl)⟩) hF hS hA (hP.sub [] rfl) rfl hl.1 rfl (Nat.le_of_ble_eq_true rfl) ⟨(Nat.le_of_ble_eq_true rfl), (Nat.le_of_ble_eq_true rfl)⟩ dX5_copy_94 ?_
                refine W.eq (g2 := F0 m 97 ls [.int (s_X5_within p4 0 ((u.2 9) - p5))]) rfl ?_
                refine lv_if_ne (tgt := 103) hx hb dX5_copy_97 rfl (fun q89 => ?_) (fun q89 => ?_)
                · have hR := hR.trans (if_neg q89)
                  refine lv_aload hx hb dX5_copy_103 (lv_at hl 1 rfl) ?_
                  refine va_get (D := xD E) (ci := 3) (v := .ref (a 24)) (C := RX3) (T := TX3) (N := 3) hx hb hts (by decide +kernel) hown hK hP 20 rfl rfl 0 (by decide) (hts (.fieldLink RX5 340 "RailOffsets$Sheet" "items" "[I") (by decide +kernel)) (fun _ h => h) rfl dX5_copy_105 ?_
                  refine lv_iload_n hx hb dX5_copy_108 rfl (lv_at hl 4 rfl) ?_
                  refine lv_aload hx hb dX5_copy_109 (lv_at hl 0 rfl) ?_
                  refine va_get (D := xD E) (ci := 3) (v := .ref (a 22)) (C := RX3) (T := TX3) (N := 3) hx hb hts (by decide +kernel) hown hK hP 18 rfl rfl 0 (by decide) (hts (.fieldLink RX5 340 "RailOffsets$Sheet" "items" "[I") (by decide +kernel)) (fun _ h => h) rfl dX5_copy_111 ?_
                  refine lv_iload hx hb dX5_copy_114 (lv_at hl 6 rfl) ?_
                  refine lv_iload hx hb dX5_copy_116 (lv_at hl 7 rfl) ?_
                  refine va_copyi (ty := .int) hx hb (hml.trans hl.1.symm) hown (hts (.methodLink RX5 323 arraycopyName) (by decide +kernel)) (hts (.native arraycopyName) (by decide +kernel)) (hts (.static arraycopyName) (by decide +kernel)) (hts (.initialized "java/lang/System") (by decide +kernel)) hK hP (xD_of (ws := wX E a u) (A := (· ∈ LX a)) hL.1 (fun _ h => h)) hS 24 22 0 0 rfl rfl rfl rfl rfl (xcp1 (by assumption)) (xcp1 (by assumption)) (by assumption) (xcp2 (s := u.2 (8 + 3)) (hp0 3 (by decide)) (by assumption) (by assumption)) (xcp2 (s := u.2 (8 + 1)) (hp0 1 (by decide)) (by assumption) (by assumption)) (fun _ _ => rfl) (Nat.le_of_ble_eq_true rfl) (Nat.le_of_ble_eq_true rfl) dX5_copy_118 (fun H locs hP _ hS => ?_)
                  have hP : va_P (xD E) vwCl (wX E a (uR u 22 (va_cpy (u.1 24) (u.1 22) p2.toNatClampNeg p4.toNatClampNeg p5.toNatClampNeg))) H := hP
                  refine W.eq (g2 := F0 m 121 ls []) rfl ?_
                  refine lv_iload hx hb dX5_copy_121 (lv_at hl 7 rfl) ?_
                  have hR : s_X5_copy u p1 p2 p3 p4 p5 = (p5, uR u 22 (va_cpy (u.1 24) (u.1 22) p2.toNatClampNeg p4.toNatClampNeg p5.toNatClampNeg)) := hR
                  exact W.iret (v := p5) hx hb hr (fun t ht _ => by rw [hR]; dsimp only; exact ⟨⟨rfl, by rw [ht]; exact hP⟩, hS.F ht⟩) hS.2.2 dX5_copy_123
                · have hR := hR.trans (if_pos q89)
                  refine lv_bipush (v := (-12)) hx hb dX5_copy_100 rfl ?_
                  have hR : s_X5_copy u p1 p2 p3 p4 p5 = ((-12), u) := hR
                  exact W.iret (v := (-12)) hx hb hr (fun t ht _ => by rw [hR]; dsimp only; exact ⟨⟨rfl, by rw [ht]; exact hP⟩, hS.F ht⟩) hS.2.2 dX5_copy_102
          · have hR := hR.trans (if_neg q86)
            refine lv_bipush (v := (-13)) hx hb dX5_copy_59 rfl ?_
            have hR : s_X5_copy u p1 p2 p3 p4 p5 = ((-13), u) := hR
            exact W.iret (v := (-13)) hx hb hr (fun t ht _ => by rw [hR]; dsimp only; exact ⟨⟨rfl, by rw [ht]; exact hP⟩, hS.F ht⟩) hS.2.2 dX5_copy_61
        · have hR := hR.trans (if_neg q85)
          refine lv_bipush (v := (-11)) hx hb dX5_copy_43 rfl ?_
          have hR : s_X5_copy u p1 p2 p3 p4 p5 = ((-11), u) := hR
          exact W.iret (v := (-11)) hx hb hr (fun t ht _ => by rw [hR]; dsimp only; exact ⟨⟨rfl, by rw [ht]; exact hP⟩, hS.F ht⟩) hS.2.2 dX5_copy_45
    have hR := hR.trans (if_neg t77_1)
    by_cases t77_2 : p3 = 2
    · have hR := hR.trans (if_pos t77_2)
      refine xRoV (nL := 8) ⟨hx, hb, hml, hown, hts⟩ (c_X5_sheetOf l E a u p3 2 (by decide) t77_2) (cwV 1 hts gX5_copy_X5_sheetOf rfl rfl rfl ⟨rfl, hd_X5_sheetOf⟩ ⟨(Nat.le_of_ble_eq_true rfl), (Nat.le_of_ble_eq_true rfl)⟩) hF hS hA hP (va_recv (q := (RX5, TX5, 9)) hK hP (ci := 5) rfl (q0 := 0) rfl) rfl hl.1 rfl (Nat.le_of_ble_eq_true rfl) ⟨(Nat.le_of_ble_eq_true rfl), (Nat.le_of_ble_eq_true rfl)⟩ dX5_copy_9 ?_
      refine W.eq (g2 := F0 m 12 ls [.ref (a 19)]) rfl ?_
      refine lv_astore (lv' := [(7, .ref (a 19)), (6, .ref (a 20)), (0, .ref (a 0)), (1, .int p1), (2, .int p2), (3, .int p3), (4, .int p4), (5, .int p5)]) hx hb dX5_copy_12 hl (by decide) rfl (fun ls hl => ?_)
      refine lv_aload hx hb dX5_copy_14 (lv_at hl 1 rfl) ?_
      refine lv_ifnull hx hb dX5_copy_16 ?_
      refine lv_aload hx hb dX5_copy_19 (lv_at hl 0 rfl) ?_
      refine lv_ifnonnull (tgt := 27) hx hb dX5_copy_21 rfl ?_
      refine lv_aload hx hb dX5_copy_27 (lv_at hl 1 rfl) ?_
      refine xRoV (nL := 8) ⟨hx, hb, hml, hown, hts⟩ (c_X3_isMissing l E (a 20) (a 24) (uS u 3) ) (cwV 0 hts gX5_copy_X3_isMissing rfl rfl rfl ⟨rfl, hd_X3_isMissing⟩ ⟨(Nat.le_of_ble_eq_true rfl), (Nat.le_of_ble_eq_true rfl)⟩) hF hS hA (hP.sub [20, 24] rfl) (va_recv (q := (RX3, TX3, 3)) hK hP (ci := 3) rfl (q0 := 20) rfl) rfl hl.1 rfl (Nat.le_of_ble_eq_true rfl) ⟨(Nat.le_of_ble_eq_true rfl), (Nat.le_of_ble_eq_true rfl)⟩ dX5_copy_29 ?_
      refine W.eq (g2 := F0 m 32 ls [.int (s_X3_isMissing (uS u 3))]) rfl ?_
      refine lv_if_ne (tgt := 43) hx hb dX5_copy_32 rfl (fun q90 => ?_) (fun q90 => ?_)
      · have hR := hR.trans (if_neg q90)
        refine lv_bipush (v := (-11)) hx hb dX5_copy_43 rfl ?_
        have hR : s_X5_copy u p1 p2 p3 p4 p5 = ((-11), u) := hR
        exact W.iret (v := (-11)) hx hb hr (fun t ht _ => by rw [hR]; dsimp only; exact ⟨⟨rfl, by rw [ht]; exact hP⟩, hS.F ht⟩) hS.2.2 dX5_copy_45
      · have hR := hR.trans (if_pos q90)
        refine lv_aload hx hb dX5_copy_35 (lv_at hl 0 rfl) ?_
        refine xRoV (nL := 8) ⟨hx, hb, hml, hown, hts⟩ (c_X3_isMissing l E (a 19) (a 23) (uS u 2) ) (cwV 0 hts gX5_copy_X3_isMissing rfl rfl rfl ⟨rfl, hd_X3_isMissing⟩ ⟨(Nat.le_of_ble_eq_true rfl), (Nat.le_of_ble_eq_true rfl)⟩) hF hS hA (hP.sub [19, 23] rfl) (va_recv (q := (RX3, TX3, 3)) hK hP (ci := 3) rfl (q0 := 19) rfl) rfl hl.1 rfl (Nat.le_of_ble_eq_true rfl) ⟨(Nat.le_of_ble_eq_true rfl), (Nat.le_of_ble_eq_true rfl)⟩ dX5_copy_37 ?_
        refine W.eq (g2 := F0 m 40 ls [.int (s_X3_isMissing (uS u 2))]) rfl ?_
        refine lv_if_eq (tgt := 46) hx hb dX5_copy_40 rfl (fun q91 => ?_) (fun q91 => ?_)
        · have hR := hR.trans (if_pos q91)
          refine lv_aload hx hb dX5_copy_46 (lv_at hl 1 rfl) ?_
          refine va_get (D := xD E) (ci := 3) (v := .int (u.2 7)) (C := RX3) (T := TX3) (N := 3) hx hb hts (by decide +kernel) hown hK hP 20 rfl rfl 1 (by decide) (hts (.fieldLink RX5 329 "RailOffsets$Sheet" "sort" "I") (by decide +kernel)) (fun _ h => h) rfl dX5_copy_48 ?_
          refine lv_aload hx hb dX5_copy_51 (lv_at hl 0 rfl) ?_
          refine va_get (D := xD E) (ci := 3) (v := .int (u.2 6)) (C := RX3) (T := TX3) (N := 3) hx hb hts (by decide +kernel) hown hK hP 19 rfl rfl 1 (by decide) (hts (.fieldLink RX5 329 "RailOffsets$Sheet" "sort" "I") (by decide +kernel)) (fun _ h => h) rfl dX5_copy_53 ?_
          refine lv_icmp_eq (tgt := 62) hx hb dX5_copy_56 rfl (fun q92 => ?_) (fun q92 => ?_)
          · have hR := hR.trans (if_pos q92)
            refine lv_iload hx hb dX5_copy_62 (lv_at hl 7 rfl) ?_
            refine lv_if_lt (tgt := 100) hx hb dX5_copy_64 rfl (fun q93 => ?_) (fun q93 => ?_)
            · have hR := hR.trans (if_pos q93)
              refine lv_bipush (v := (-12)) hx hb dX5_copy_100 rfl ?_
              have hR : s_X5_copy u p1 p2 p3 p4 p5 = ((-12), u) := hR
              exact W.iret (v := (-12)) hx hb hr (fun t ht _ => by rw [hR]; dsimp only; exact ⟨⟨rfl, by rw [ht]; exact hP⟩, hS.F ht⟩) hS.2.2 dX5_copy_102
            · have hR := hR.trans (if_neg q93)
              refine lv_iload_n hx hb dX5_copy_67 rfl (lv_at hl 4 rfl) ?_
              refine lv_iconst (v := 0) hx hb dX5_copy_68 rfl ?_
              refine lv_aload hx hb dX5_copy_69 (lv_at hl 1 rfl) ?_
              refine va_get (D := xD E) (ci := 3) (v := .int (u.2 11)) (C := RX3) (T := TX3) (N := 3) hx hb hts (by decide +kernel) hown hK hP 20 rfl rfl 2 (by decide) (hts (.fieldLink RX5 264 "RailOffsets$Sheet" "size" "I") (by decide +kernel)) (fun _ h => h) rfl dX5_copy_71 ?_
              refine lv_iload hx hb dX5_copy_74 (lv_at hl 7 rfl) ?_
              refine lv_isub hx hb dX5_copy_76 ?_
              refine xRoS (nL := 8) ⟨hx, hb, hml, hown, hts⟩ (c_X5_within l E p2 0 ((u.2 11) - p5)) (va_cwS 3 hts gX5_copy_X5_within rfl rfl rfl hd_X5_within ⟨(Nat.le_of_ble_eq_true rfl), (Nat.le_of_ble_eq_true rfl)⟩) hF hS hA (hP.sub [] rfl) rfl hl.1 rfl (Nat.le_of_ble_eq_true rfl) ⟨(Nat.le_of_ble_eq_true rfl), (Nat.le_of_ble_eq_true rfl)⟩ dX5_copy_77 ?_
              refine W.eq (g2 := F0 m 80 ls [.int (s_X5_within p2 0 ((u.2 11) - p5))]) rfl ?_
              refine lv_if_eq (tgt := 100) hx hb dX5_copy_80 rfl (fun q94 => ?_) (fun q94 => ?_)
              · have hR := hR.trans (if_pos q94)
                refine lv_bipush (v := (-12)) hx hb dX5_copy_100 rfl ?_
                have hR : s_X5_copy u p1 p2 p3 p4 p5 = ((-12), u) := hR
                exact W.iret (v := (-12)) hx hb hr (fun t ht _ => by rw [hR]; dsimp only; exact ⟨⟨rfl, by rw [ht]; exact hP⟩, hS.F ht⟩) hS.2.2 dX5_copy_102
              · have hR := hR.trans (if_neg q94)
                refine lv_iload hx hb dX5_copy_83 (lv_at hl 6 rfl) ?_
                refine lv_iconst (v := 0) hx hb dX5_copy_85 rfl ?_
                refine lv_aload hx hb dX5_copy_86 (lv_at hl 0 rfl) ?_
                refine va_get (D := xD E) (ci := 3) (v := .int (u.2 10)) (C := RX3) (T := TX3) (N := 3) hx hb hts (by decide +kernel) hown hK hP 19 rfl rfl 2 (by decide) (hts (.fieldLink RX5 264 "RailOffsets$Sheet" "size" "I") (by decide +kernel)) (fun _ h => h) rfl dX5_copy_88 ?_
                refine lv_iload hx hb dX5_copy_91 (lv_at hl 7 rfl) ?_
                refine lv_isub hx hb dX5_copy_93 ?_
                refine xRoS (nL := 8) ⟨hx, hb, hml, hown, hts⟩ (c_X5_within l E p4 0 ((u.2 10) - p5)) (va_cwS 3 hts gX5_copy_X5_within rfl rfl rfl hd_X5_within ⟨(Nat.le_of_ble_eq_true rfl), (Nat.le_of_ble_eq_true rfl)⟩) hF hS hA (hP.sub [] rfl) rfl hl.1 rfl (Nat.le_of_ble_eq_true rfl) ⟨(Nat.le_of_ble_eq_true rfl), (Nat.le_of_ble_eq_true rfl)⟩ dX5_copy_94 ?_
                refine W.eq (g2 := F0 m 97 ls [.int (s_X5_within p4 0 ((u.2 10) - p5))]) rfl ?_
                refine lv_if_ne (tgt := 103) hx hb dX5_copy_97 rfl (fun q95 => ?_) (fun q95 => ?_)
                · have hR := hR.trans (if_neg q95)
                  refine lv_aload hx hb dX5_copy_103 (lv_at hl 1 rfl) ?_
                  refine va_get (D := xD E) (ci := 3) (v := .ref (a 24)) (C := RX3) (T := TX3) (N := 3) hx hb hts (by decide +kernel) hown hK hP 20 rfl rfl 0 (by decide) (hts (.fieldLink RX5 340 "RailOffsets$Sheet" "items" "[I") (by decide +kernel)) (fun _ h => h) rfl dX5_copy_105 ?_
                  refine lv_iload_n hx hb dX5_copy_108 rfl (lv_at hl 4 rfl) ?_
                  refine lv_aload hx hb dX5_copy_109 (lv_at hl 0 rfl) ?_
                  refine va_get (D := xD E) (ci := 3) (v := .ref (a 23)) (C := RX3) (T := TX3) (N := 3) hx hb hts (by decide +kernel) hown hK hP 19 rfl rfl 0 (by decide) (hts (.fieldLink RX5 340 "RailOffsets$Sheet" "items" "[I") (by decide +kernel)) (fun _ h => h) rfl dX5_copy_111 ?_
                  refine lv_iload hx hb dX5_copy_114 (lv_at hl 6 rfl) ?_
                  refine lv_iload hx hb dX5_copy_116 (lv_at hl 7 rfl) ?_
                  refine va_copyi (ty := .int) hx hb (hml.trans hl.1.symm) hown (hts (.methodLink RX5 323 arraycopyName) (by decide +kernel)) (hts (.native arraycopyName) (by decide +kernel)) (hts (.static arraycopyName) (by decide +kernel)) (hts (.initialized "java/lang/System") (by decide +kernel)) hK hP (xD_of (ws := wX E a u) (A := (· ∈ LX a)) hL.1 (fun _ h => h)) hS 24 23 0 0 rfl rfl rfl rfl rfl (xcp1 (by assumption)) (xcp1 (by assumption)) (by assumption) (xcp2 (s := u.2 (8 + 3)) (hp0 3 (by decide)) (by assumption) (by assumption)) (xcp2 (s := u.2 (8 + 2)) (hp0 2 (by decide)) (by assumption) (by assumption)) (fun _ _ => rfl) (Nat.le_of_ble_eq_true rfl) (Nat.le_of_ble_eq_true rfl) dX5_copy_118 (fun H locs hP _ hS => ?_)
                  have hP : va_P (xD E) vwCl (wX E a (uR u 23 (va_cpy (u.1 24) (u.1 23) p2.toNatClampNeg p4.toNatClampNeg p5.toNatClampNeg))) H := hP
                  refine W.eq (g2 := F0 m 121 ls []) rfl ?_
                  refine lv_iload hx hb dX5_copy_121 (lv_at hl 7 rfl) ?_
                  have hR : s_X5_copy u p1 p2 p3 p4 p5 = (p5, uR u 23 (va_cpy (u.1 24) (u.1 23) p2.toNatClampNeg p4.toNatClampNeg p5.toNatClampNeg)) := hR
                  exact W.iret (v := p5) hx hb hr (fun t ht _ => by rw [hR]; dsimp only; exact ⟨⟨rfl, by rw [ht]; exact hP⟩, hS.F ht⟩) hS.2.2 dX5_copy_123
                · have hR := hR.trans (if_pos q95)
                  refine lv_bipush (v := (-12)) hx hb dX5_copy_100 rfl ?_
                  have hR : s_X5_copy u p1 p2 p3 p4 p5 = ((-12), u) := hR
                  exact W.iret (v := (-12)) hx hb hr (fun t ht _ => by rw [hR]; dsimp only; exact ⟨⟨rfl, by rw [ht]; exact hP⟩, hS.F ht⟩) hS.2.2 dX5_copy_102
          · have hR := hR.trans (if_neg q92)
            refine lv_bipush (v := (-13)) hx hb dX5_copy_59 rfl ?_
            have hR : s_X5_copy u p1 p2 p3 p4 p5 = ((-13), u) := hR
            exact W.iret (v := (-13)) hx hb hr (fun t ht _ => by rw [hR]; dsimp only; exact ⟨⟨rfl, by rw [ht]; exact hP⟩, hS.F ht⟩) hS.2.2 dX5_copy_61
        · have hR := hR.trans (if_neg q91)
          refine lv_bipush (v := (-11)) hx hb dX5_copy_43 rfl ?_
          have hR : s_X5_copy u p1 p2 p3 p4 p5 = ((-11), u) := hR
          exact W.iret (v := (-11)) hx hb hr (fun t ht _ => by rw [hR]; dsimp only; exact ⟨⟨rfl, by rw [ht]; exact hP⟩, hS.F ht⟩) hS.2.2 dX5_copy_45
    have hR := hR.trans (if_neg t77_2)
    by_cases t77_3 : p3 = 3
    · have hR := hR.trans (if_pos t77_3)
      refine xRoV (nL := 8) ⟨hx, hb, hml, hown, hts⟩ (c_X5_sheetOf l E a u p3 3 (by decide) t77_3) (cwV 1 hts gX5_copy_X5_sheetOf rfl rfl rfl ⟨rfl, hd_X5_sheetOf⟩ ⟨(Nat.le_of_ble_eq_true rfl), (Nat.le_of_ble_eq_true rfl)⟩) hF hS hA hP (va_recv (q := (RX5, TX5, 9)) hK hP (ci := 5) rfl (q0 := 0) rfl) rfl hl.1 rfl (Nat.le_of_ble_eq_true rfl) ⟨(Nat.le_of_ble_eq_true rfl), (Nat.le_of_ble_eq_true rfl)⟩ dX5_copy_9 ?_
      refine W.eq (g2 := F0 m 12 ls [.ref (a 20)]) rfl ?_
      refine lv_astore (lv' := [(7, .ref (a 20)), (6, .ref (a 20)), (0, .ref (a 0)), (1, .int p1), (2, .int p2), (3, .int p3), (4, .int p4), (5, .int p5)]) hx hb dX5_copy_12 hl (by decide) rfl (fun ls hl => ?_)
      refine lv_aload hx hb dX5_copy_14 (lv_at hl 1 rfl) ?_
      refine lv_ifnull hx hb dX5_copy_16 ?_
      refine lv_aload hx hb dX5_copy_19 (lv_at hl 0 rfl) ?_
      refine lv_ifnonnull (tgt := 27) hx hb dX5_copy_21 rfl ?_
      refine lv_aload hx hb dX5_copy_27 (lv_at hl 1 rfl) ?_
      refine xRoV (nL := 8) ⟨hx, hb, hml, hown, hts⟩ (c_X3_isMissing l E (a 20) (a 24) (uS u 3) ) (cwV 0 hts gX5_copy_X3_isMissing rfl rfl rfl ⟨rfl, hd_X3_isMissing⟩ ⟨(Nat.le_of_ble_eq_true rfl), (Nat.le_of_ble_eq_true rfl)⟩) hF hS hA (hP.sub [20, 24] rfl) (va_recv (q := (RX3, TX3, 3)) hK hP (ci := 3) rfl (q0 := 20) rfl) rfl hl.1 rfl (Nat.le_of_ble_eq_true rfl) ⟨(Nat.le_of_ble_eq_true rfl), (Nat.le_of_ble_eq_true rfl)⟩ dX5_copy_29 ?_
      refine W.eq (g2 := F0 m 32 ls [.int (s_X3_isMissing (uS u 3))]) rfl ?_
      refine lv_if_ne (tgt := 43) hx hb dX5_copy_32 rfl (fun q96 => ?_) (fun q96 => ?_)
      · have hR := hR.trans (if_neg q96)
        refine lv_bipush (v := (-11)) hx hb dX5_copy_43 rfl ?_
        have hR : s_X5_copy u p1 p2 p3 p4 p5 = ((-11), u) := hR
        exact W.iret (v := (-11)) hx hb hr (fun t ht _ => by rw [hR]; dsimp only; exact ⟨⟨rfl, by rw [ht]; exact hP⟩, hS.F ht⟩) hS.2.2 dX5_copy_45
      · have hR := hR.trans (if_pos q96)
        refine lv_aload hx hb dX5_copy_35 (lv_at hl 0 rfl) ?_
        refine xRoV (nL := 8) ⟨hx, hb, hml, hown, hts⟩ (c_X3_isMissing l E (a 20) (a 24) (uS u 3) ) (cwV 0 hts gX5_copy_X3_isMissing rfl rfl rfl ⟨rfl, hd_X3_isMissing⟩ ⟨(Nat.le_of_ble_eq_true rfl), (Nat.le_of_ble_eq_true rfl)⟩) hF hS hA (hP.sub [20, 24] rfl) (va_recv (q := (RX3, TX3, 3)) hK hP (ci := 3) rfl (q0 := 20) rfl) rfl hl.1 rfl (Nat.le_of_ble_eq_true rfl) ⟨(Nat.le_of_ble_eq_true rfl), (Nat.le_of_ble_eq_true rfl)⟩ dX5_copy_37 ?_
        refine W.eq (g2 := F0 m 40 ls [.int (s_X3_isMissing (uS u 3))]) rfl ?_
        refine lv_if_eq (tgt := 46) hx hb dX5_copy_40 rfl (fun q97 => ?_) (fun q97 => ?_)
        · have hR := hR.trans (if_pos q97)
          refine lv_aload hx hb dX5_copy_46 (lv_at hl 1 rfl) ?_
          refine va_get (D := xD E) (ci := 3) (v := .int (u.2 7)) (C := RX3) (T := TX3) (N := 3) hx hb hts (by decide +kernel) hown hK hP 20 rfl rfl 1 (by decide) (hts (.fieldLink RX5 329 "RailOffsets$Sheet" "sort" "I") (by decide +kernel)) (fun _ h => h) rfl dX5_copy_48 ?_
          refine lv_aload hx hb dX5_copy_51 (lv_at hl 0 rfl) ?_
          refine va_get (D := xD E) (ci := 3) (v := .int (u.2 7)) (C := RX3) (T := TX3) (N := 3) hx hb hts (by decide +kernel) hown hK hP 20 rfl rfl 1 (by decide) (hts (.fieldLink RX5 329 "RailOffsets$Sheet" "sort" "I") (by decide +kernel)) (fun _ h => h) rfl dX5_copy_53 ?_
          refine lv_icmp_eq (tgt := 62) hx hb dX5_copy_56 rfl (fun q98 => ?_) (fun q98 => ?_)
          · have hR := hR.trans (if_pos q98)
            refine lv_iload hx hb dX5_copy_62 (lv_at hl 7 rfl) ?_
            refine lv_if_lt (tgt := 100) hx hb dX5_copy_64 rfl (fun q99 => ?_) (fun q99 => ?_)
            · have hR := hR.trans (if_pos q99)
              refine lv_bipush (v := (-12)) hx hb dX5_copy_100 rfl ?_
              have hR : s_X5_copy u p1 p2 p3 p4 p5 = ((-12), u) := hR
              exact W.iret (v := (-12)) hx hb hr (fun t ht _ => by rw [hR]; dsimp only; exact ⟨⟨rfl, by rw [ht]; exact hP⟩, hS.F ht⟩) hS.2.2 dX5_copy_102
            · have hR := hR.trans (if_neg q99)
              refine lv_iload_n hx hb dX5_copy_67 rfl (lv_at hl 4 rfl) ?_
              refine lv_iconst (v := 0) hx hb dX5_copy_68 rfl ?_
              refine lv_aload hx hb dX5_copy_69 (lv_at hl 1 rfl) ?_
              refine va_get (D := xD E) (ci := 3) (v := .int (u.2 11)) (C := RX3) (T := TX3) (N := 3) hx hb hts (by decide +kernel) hown hK hP 20 rfl rfl 2 (by decide) (hts (.fieldLink RX5 264 "RailOffsets$Sheet" "size" "I") (by decide +kernel)) (fun _ h => h) rfl dX5_copy_71 ?_
              refine lv_iload hx hb dX5_copy_74 (lv_at hl 7 rfl) ?_
              refine lv_isub hx hb dX5_copy_76 ?_
              refine xRoS (nL := 8) ⟨hx, hb, hml, hown, hts⟩ (c_X5_within l E p2 0 ((u.2 11) - p5)) (va_cwS 3 hts gX5_copy_X5_within rfl rfl rfl hd_X5_within ⟨(Nat.le_of_ble_eq_true rfl), (Nat.le_of_ble_eq_true rfl)⟩) hF hS hA (hP.sub [] rfl) rfl hl.1 rfl (Nat.le_of_ble_eq_true rfl) ⟨(Nat.le_of_ble_eq_true rfl), (Nat.le_of_ble_eq_true rfl)⟩ dX5_copy_77 ?_
              refine W.eq (g2 := F0 m 80 ls [.int (s_X5_within p2 0 ((u.2 11) - p5))]) rfl ?_
              refine lv_if_eq (tgt := 100) hx hb dX5_copy_80 rfl (fun q100 => ?_) (fun q100 => ?_)
              · have hR := hR.trans (if_pos q100)
                refine lv_bipush (v := (-12)) hx hb dX5_copy_100 rfl ?_
                have hR : s_X5_copy u p1 p2 p3 p4 p5 = ((-12), u) := hR
                exact W.iret (v := (-12)) hx hb hr (fun t ht _ => by rw [hR]; dsimp only; exact ⟨⟨rfl, by rw [ht]; exact hP⟩, hS.F ht⟩) hS.2.2 dX5_copy_102
              · have hR := hR.trans (if_neg q100)
                refine lv_iload hx hb dX5_copy_83 (lv_at hl 6 rfl) ?_
                refine lv_iconst (v := 0) hx hb dX5_copy_85 rfl ?_
                refine lv_aload hx hb dX5_copy_86 (lv_at hl 0 rfl) ?_
                refine va_get (D := xD E) (ci := 3) (v := .int (u.2 11)) (C := RX3) (T := TX3) (N := 3) hx hb hts (by decide +kernel) hown hK hP 20 rfl rfl 2 (by decide) (hts (.fieldLink RX5 264 "RailOffsets$Sheet" "size" "I") (by decide +kernel)) (fun _ h => h) rfl dX5_copy_88 ?_
                refine lv_iload hx hb dX5_copy_91 (lv_at hl 7 rfl) ?_
                refine lv_isub hx hb dX5_copy_93 ?_
                refine xRoS (nL := 8) ⟨hx, hb, hml, hown, hts⟩ (c_X5_within l E p4 0 ((u.2 11) - p5)) (va_cwS 3 hts gX5_copy_X5_within rfl rfl rfl hd_X5_within ⟨(Nat.le_of_ble_eq_true rfl), (Nat.le_of_ble_eq_true rfl)⟩) hF hS hA (hP.sub [] rfl) rfl hl.1 rfl (Nat.le_of_ble_eq_true rfl) ⟨(Nat.le_of_ble_eq_true rfl), (Nat.le_of_ble_eq_true rfl)⟩ dX5_copy_94 ?_
                refine W.eq (g2 := F0 m 97 ls [.int (s_X5_within p4 0 ((u.2 11) - p5))]) rfl ?_
                refine lv_if_ne (tgt := 103) hx hb dX5_copy_97 rfl (fun q101 => ?_) (fun q101 => ?_)
                · have hR := hR.trans (if_neg q101)
                  refine lv_aload hx hb dX5_copy_103 (lv_at hl 1 rfl) ?_
                  refine va_get (D := xD E) (ci := 3) (v := .ref (a 24)) (C := RX3) (T := TX3) (N := 3) hx hb hts (by decide +kernel) hown hK hP 20 rfl rfl 0 (by decide) (hts (.fieldLink RX5 340 "RailOffsets$Sheet" "items" "[I") (by decide +kernel)) (fun _ h => h) rfl dX5_copy_105 ?_
                  refine lv_iload_n hx hb dX5_copy_108 rfl (lv_at hl 4 rfl) ?_
                  refine lv_aload hx hb dX5_copy_109 (lv_at hl 0 rfl) ?_
                  refine va_get (D := xD E) (ci := 3) (v := .ref (a 24)) (C := RX3) (T := TX3) (N := 3) hx hb hts (by decide +kernel) hown hK hP 20 rfl rfl 0 (by decide) (hts (.fieldLink RX5 340 "RailOffsets$Sheet" "items" "[I") (by decide +kernel)) (fun _ h => h) rfl dX5_copy_111 ?_
                  refine lv_iload hx hb dX5_copy_114 (lv_at hl 6 rfl) ?_
                  refine lv_iload hx hb dX5_copy_116 (lv_at hl 7 rfl) ?_
                  refine va_copyi (ty := .int) hx hb (hml.trans hl.1.symm) hown (hts (.methodLink RX5 323 arraycopyName) (by decide +kernel)) (hts (.native arraycopyName) (by decide +kernel)) (hts (.static arraycopyName) (by decide +kernel)) (hts (.initialized "java/lang/System") (by decide +kernel)) hK hP (xD_of (ws := wX E a u) (A := (· ∈ LX a)) hL.1 (fun _ h => h)) hS 24 24 0 0 rfl rfl rfl rfl rfl (xcp1 (by assumption)) (xcp1 (by assumption)) (by assumption) (xcp2 (s := u.2 (8 + 3)) (hp0 3 (by decide)) (by assumption) (by assumption)) (xcp2 (s := u.2 (8 + 3)) (hp0 3 (by decide)) (by assumption) (by assumption)) (fun _ _ => rfl) (Nat.le_of_ble_eq_true rfl) (Nat.le_of_ble_eq_true rfl) dX5_copy_118 (fun H locs hP _ hS => ?_)
                  have hP : va_P (xD E) vwCl (wX E a (uR u 24 (va_cpy (u.1 24) (u.1 24) p2.toNatClampNeg p4.toNatClampNeg p5.toNatClampNeg))) H := hP
                  refine W.eq (g2 := F0 m 121 ls []) rfl ?_
                  refine lv_iload hx hb dX5_copy_121 (lv_at hl 7 rfl) ?_
                  have hR : s_X5_copy u p1 p2 p3 p4 p5 = (p5, uR u 24 (va_cpy (u.1 24) (u.1 24) p2.toNatClampNeg p4.toNatClampNeg p5.toNatClampNeg)) := hR
                  exact W.iret (v := p5) hx hb hr (fun t ht _ => by rw [hR]; dsimp only; exact ⟨⟨rfl, by rw [ht]; exact hP⟩, hS.F ht⟩) hS.2.2 dX5_copy_123
                · have hR := hR.trans (if_pos q101)
                  refine lv_bipush (v := (-12)) hx hb dX5_copy_100 rfl ?_
                  have hR : s_X5_copy u p1 p2 p3 p4 p5 = ((-12), u) := hR
                  exact W.iret (v := (-12)) hx hb hr (fun t ht _ => by rw [hR]; dsimp only; exact ⟨⟨rfl, by rw [ht]; exact hP⟩, hS.F ht⟩) hS.2.2 dX5_copy_102
          · have hR := hR.trans (if_neg q98)
            refine lv_bipush (v := (-13)) hx hb dX5_copy_59 rfl ?_
            have hR : s_X5_copy u p1 p2 p3 p4 p5 = ((-13), u) := hR
            exact W.iret (v := (-13)) hx hb hr (fun t ht _ => by rw [hR]; dsimp only; exact ⟨⟨rfl, by rw [ht]; exact hP⟩, hS.F ht⟩) hS.2.2 dX5_copy_61
        · have hR := hR.trans (if_neg q97)
          refine lv_bipush (v := (-11)) hx hb dX5_copy_43 rfl ?_
          have hR : s_X5_copy u p1 p2 p3 p4 p5 = ((-11), u) := hR
          exact W.iret (v := (-11)) hx hb hr (fun t ht _ => by rw [hR]; dsimp only; exact ⟨⟨rfl, by rw [ht]; exact hP⟩, hS.F ht⟩) hS.2.2 dX5_copy_45
    have hR := hR.trans (if_neg t77_3)
    refine xRoV (nL := 8) ⟨hx, hb, hml, hown, hts⟩ (c_X5_sheetOf_n l E a u p3 t77_0 t77_1 t77_2 t77_3) (cwV 1 hts gX5_copy_X5_sheetOf rfl rfl rfl ⟨rfl, hd_X5_sheetOf⟩ ⟨(Nat.le_of_ble_eq_true rfl), (Nat.le_of_ble_eq_true rfl)⟩) hF hS hA hP (va_recv (q := (RX5, TX5, 9)) hK hP (ci := 5) rfl (q0 := 0) rfl) rfl hl.1 rfl (Nat.le_of_ble_eq_true rfl) ⟨(Nat.le_of_ble_eq_true rfl), (Nat.le_of_ble_eq_true rfl)⟩ dX5_copy_9 ?_
    refine W.eq (g2 := F0 m 12 ls [.null]) rfl ?_
    refine lv_astoreN (lv' := [(7, .null), (6, .ref (a 20)), (0, .ref (a 0)), (1, .int p1), (2, .int p2), (3, .int p3), (4, .int p4), (5, .int p5)]) hx hb dX5_copy_12 hl (by decide) rfl (fun ls hl => ?_)
    refine lv_aload hx hb dX5_copy_14 (lv_at hl 1 rfl) ?_
    refine lv_ifnull hx hb dX5_copy_16 ?_
    refine lv_aloadN hx hb dX5_copy_19 (lv_at hl 0 rfl) ?_
    refine lv_ifnonnullN hx hb dX5_copy_21 ?_
    refine lv_bipush (v := (-2)) hx hb dX5_copy_24 rfl ?_
    have hR : s_X5_copy u p1 p2 p3 p4 p5 = ((-2), u) := hR
    exact W.iret (v := (-2)) hx hb hr (fun t ht _ => by rw [hR]; dsimp only; exact ⟨⟨rfl, by rw [ht]; exact hP⟩, hS.F ht⟩) hS.2.2 dX5_copy_26
  have hR := hR.trans (if_neg t1_3)
  refine xRoV (nL := 8) ⟨hx, hb, hml, hown, hts⟩ (c_X5_sheetOf_n l E a u p1 t1_0 t1_1 t1_2 t1_3) (cwV 1 hts gX5_copy_X5_sheetOf rfl rfl rfl ⟨rfl, hd_X5_sheetOf⟩ ⟨(Nat.le_of_ble_eq_true rfl), (Nat.le_of_ble_eq_true rfl)⟩) hF hS hA hP (va_recv (q := (RX5, TX5, 9)) hK hP (ci := 5) rfl (q0 := 0) rfl) rfl hl.1 rfl (Nat.le_of_ble_eq_true rfl) ⟨(Nat.le_of_ble_eq_true rfl), (Nat.le_of_ble_eq_true rfl)⟩ dX5_copy_2 ?_
  refine W.eq (g2 := F0 m 5 ls [.null]) rfl ?_
  refine lv_astoreN (lv' := [(6, .null), (0, .ref (a 0)), (1, .int p1), (2, .int p2), (3, .int p3), (4, .int p4), (5, .int p5)]) hx hb dX5_copy_5 hl (by decide) rfl (fun ls hl => ?_)
  refine lv_aload_n hx hb dX5_copy_7 rfl (lv_at hl 1 rfl) ?_
  refine lv_iload_n hx hb dX5_copy_8 rfl (lv_at hl 4 rfl) ?_
  by_cases t102_0 : p3 = 0
  · have hR := hR.trans (if_pos t102_0)
    refine xRoV (nL := 8) ⟨hx, hb, hml, hown, hts⟩ (c_X5_sheetOf l E a u p3 0 (by decide) t102_0) (cwV 1 hts gX5_copy_X5_sheetOf rfl rfl rfl ⟨rfl, hd_X5_sheetOf⟩ ⟨(Nat.le_of_ble_eq_true rfl), (Nat.le_of_ble_eq_true rfl)⟩) hF hS hA hP (va_recv (q := (RX5, TX5, 9)) hK hP (ci := 5) rfl (q0 := 0) rfl) rfl hl.1 rfl (Nat.le_of_ble_eq_true rfl) ⟨(Nat.le_of_ble_eq_true rfl), (Nat.le_of_ble_eq_true rfl)⟩ dX5_copy_9 ?_
    refine W.eq (g2 := F0 m 12 ls [.ref (a 17)]) rfl ?_
    refine lv_astore (lv' := [(7, .ref (a 17)), (6, .null), (0, .ref (a 0)), (1, .int p1), (2, .int p2), (3, .int p3), (4, .int p4), (5, .int p5)]) hx hb dX5_copy_12 hl (by decide) rfl (fun ls hl => ?_)
    refine lv_aloadN hx hb dX5_copy_14 (lv_at hl 1 rfl) ?_
    refine lv_ifnullN (tgt := 24) hx hb dX5_copy_16 rfl ?_
    refine lv_bipush (v := (-2)) hx hb dX5_copy_24 rfl ?_
    have hR : s_X5_copy u p1 p2 p3 p4 p5 = ((-2), u) := hR
    exact W.iret (v := (-2)) hx hb hr (fun t ht _ => by rw [hR]; dsimp only; exact ⟨⟨rfl, by rw [ht]; exact hP⟩, hS.F ht⟩) hS.2.2 dX5_copy_26
  have hR := hR.trans (if_neg t102_0)
  by_cases t102_1 : p3 = 1
  · have hR := hR.trans (if_pos t102_1)
    refine xRoV (nL := 8) ⟨hx, hb, hml, hown, hts⟩ (c_X5_sheetOf l E a u p3 1 (by decide) t102_1) (cwV 1 hts gX5_copy_X5_sheetOf rfl rfl rfl ⟨rfl, hd_X5_sheetOf⟩ ⟨(Nat.le_of_ble_eq_true rfl), (Nat.le_of_ble_eq_true rfl)⟩) hF hS hA hP (va_recv (q := (RX5, TX5, 9)) hK hP (ci := 5) rfl (q0 := 0) rfl) rfl hl.1 rfl (Nat.le_of_ble_eq_true rfl) ⟨(Nat.le_of_ble_eq_true rfl), (Nat.le_of_ble_eq_true rfl)⟩ dX5_copy_9 ?_
    refine W.eq (g2 := F0 m 12 ls [.ref (a 18)]) rfl ?_
    refine lv_astore (lv' := [(7, .ref (a 18)), (6, .null), (0, .ref (a 0)), (1, .int p1), (2, .int p2), (3, .int p3), (4, .int p4), (5, .int p5)]) hx hb dX5_copy_12 hl (by decide) rfl (fun ls hl => ?_)
    refine lv_aloadN hx hb dX5_copy_14 (lv_at hl 1 rfl) ?_
    refine lv_ifnullN (tgt := 24) hx hb dX5_copy_16 rfl ?_
    refine lv_bipush (v := (-2)) hx hb dX5_copy_24 rfl ?_
    have hR : s_X5_copy u p1 p2 p3 p4 p5 = ((-2), u) := hR
    exact W.iret (v := (-2)) hx hb hr (fun t ht _ => by rw [hR]; dsimp only; exact ⟨⟨rfl, by rw [ht]; exact hP⟩, hS.F ht⟩) hS.2.2 dX5_copy_26
  have hR := hR.trans (if_neg t102_1)
  by_cases t102_2 : p3 = 2
  · have hR := hR.trans (if_pos t102_2)
    refine xRoV (nL := 8) ⟨hx, hb, hml, hown, hts⟩ (c_X5_sheetOf l E a u p3 2 (by decide) t102_2) (cwV 1 hts gX5_copy_X5_sheetOf rfl rfl rfl ⟨rfl, hd_X5_sheetOf⟩ ⟨(Nat.le_of_ble_eq_true rfl), (Nat.le_of_ble_eq_true rfl)⟩) hF hS hA hP (va_recv (q := (RX5, TX5, 9)) hK hP (ci := 5) rfl (q0 := 0) rfl) rfl hl.1 rfl (Nat.le_of_ble_eq_true rfl) ⟨(Nat.le_of_ble_eq_true rfl), (Nat.le_of_ble_eq_true rfl)⟩ dX5_copy_9 ?_
    refine W.eq (g2 := F0 m 12 ls [.ref (a 19)]) rfl ?_
    refine lv_astore (lv' := [(7, .ref (a 19)), (6, .null), (0, .ref (a 0)), (1, .int p1), (2, .int p2), (3, .int p3), (4, .int p4), (5, .int p5)]) hx hb dX5_copy_12 hl (by decide) rfl (fun ls hl => ?_)
    refine lv_aloadN hx hb dX5_copy_14 (lv_at hl 1 rfl) ?_
    refine lv_ifnullN (tgt := 24) hx hb dX5_copy_16 rfl ?_
    refine lv_bipush (v := (-2)) hx hb dX5_copy_24 rfl ?_
    have hR : s_X5_copy u p1 p2 p3 p4 p5 = ((-2), u) := hR
    exact W.iret (v := (-2)) hx hb hr (fun t ht _ => by rw [hR]; dsimp only; exact ⟨⟨rfl, by rw [ht]; exact hP⟩, hS.F ht⟩) hS.2.2 dX5_copy_26
  have hR := hR.trans (if_neg t102_2)
  by_cases t102_3 : p3 = 3
  · have hR := hR.trans (if_pos t102_3)
    refine xRoV (nL := 8) ⟨hx, hb, hml, hown, hts⟩ (c_X5_sheetOf l E a u p3 3 (by decide) t102_3) (cwV 1 hts gX5_copy_X5_sheetOf rfl rfl rfl ⟨rfl, hd_X5_sheetOf⟩ ⟨(Nat.le_of_ble_eq_true rfl), (Nat.le_of_ble_eq_true rfl)⟩) hF hS hA hP (va_recv (q := (RX5, TX5, 9)) hK hP (ci := 5) rfl (q0 := 0) rfl) rfl hl.1 rfl (Nat.le_of_ble_eq_true rfl) ⟨(Nat.le_of_ble_eq_true rfl), (Nat.le_of_ble_eq_true rfl)⟩ dX5_copy_9 ?_
    refine W.eq (g2 := F0 m 12 ls [.ref (a 20)]) rfl ?_
    refine lv_astore (lv' := [(7, .ref (a 20)), (6, .null), (0, .ref (a 0)), (1, .int p1), (2, .int p2), (3, .int p3), (4, .int p4), (5, .int p5)]) hx hb dX5_copy_12 hl (by decide) rfl (fun ls hl => ?_)
    refine lv_aloadN hx hb dX5_copy_14 (lv_at hl 1 rfl) ?_
    refine lv_ifnullN (tgt := 24) hx hb dX5_copy_16 rfl ?_
    refine lv_bipush (v := (-2)) hx hb dX5_copy_24 rfl ?_
    have hR : s_X5_copy u p1 p2 p3 p4 p5 = ((-2), u) := hR
    exact W.iret (v := (-2)) hx hb hr (fun t ht _ => by rw [hR]; dsimp only; exact ⟨⟨rfl, by rw [ht]; exact hP⟩, hS.F ht⟩) hS.2.2 dX5_copy_26
  have hR := hR.trans (if_neg t102_3)
  refine xRoV (nL := 8) ⟨hx, hb, hml, hown, hts⟩ (c_X5_sheetOf_n l E a u p3 t102_0 t102_1 t102_2 t102_3) (cwV 1 hts gX5_copy_X5_sheetOf rfl rfl rfl ⟨rfl, hd_X5_sheetOf⟩ ⟨(Nat.le_of_ble_eq_true rfl), (Nat.le_of_ble_eq_true rfl)⟩) hF hS hA hP (va_recv (q := (RX5, TX5, 9)) hK hP (ci := 5) rfl (q0 := 0) rfl) rfl hl.1 rfl (Nat.le_of_ble_eq_true rfl) ⟨(Nat.le_of_ble_eq_true rfl), (Nat.le_of_ble_eq_true rfl)⟩ dX5_copy_9 ?_
  refine W.eq (g2 := F0 m 12 ls [.null]) rfl ?_
  refine lv_astoreN (lv' := [(7, .null), (6, .null), (0, .ref (a 0)), (1, .int p1), (2, .int p2), (3, .int p3), (4, .int p4), (5, .int p5)]) hx hb dX5_copy_12 hl (by decide) rfl (fun ls hl => ?_)
  refine lv_aloadN hx hb dX5_copy_14 (lv_at hl 1 rfl) ?_
  refine lv_ifnullN (tgt := 24) hx hb dX5_copy_16 rfl ?_
  refine lv_bipush (v := (-2)) hx hb dX5_copy_24 rfl ?_
  have hR : s_X5_copy u p1 p2 p3 p4 p5 = ((-2), u) := hR
  exact W.iret (v := (-2)) hx hb hr (fun t ht _ => by rw [hR]; dsimp only; exact ⟨⟨rfl, by rw [ht]; exact hP⟩, hS.F ht⟩) hS.2.2 dX5_copy_26
def s_X5_image (u : xU) : Int32 × xU :=
  ((uZ (uR (s_X2_takeFrom_k u) 6 (va_cpy ((s_X2_takeFrom_k u).1 5) ((s_X2_takeFrom_k u).1 6) (0 : Int32).toNatClampNeg (0 : Int32).toNatClampNeg (iMin 8 8).toNatClampNeg)) 0 1).2 1, uZ (uR (s_X2_takeFrom_k u) 6 (va_cpy ((s_X2_takeFrom_k u).1 5) ((s_X2_takeFrom_k u).1 6) (0 : Int32).toNatClampNeg (0 : Int32).toNatClampNeg (iMin 8 8).toNatClampNeg)) 0 1)
abbrev rm_X5_image : Room := { frames := 2, cells := 0, slots := 0, locals := 61 }
set_option maxHeartbeats 8000000 in
set_option maxRecDepth 100000 in
theorem c_X5_image (l : Launch) (E : xG) (a : Nat → Nat) (u : xU)  (hL : xOK E (LX a)) : xMd l E yX5_image wsX5_image rm_X5_image (LX a) [.ref (a 0)] (wX E a u) (some (.int ((s_X5_image u).1))) (wX E a ((s_X5_image u).2)) := by
  refine xMd.of (cc := cX5_image) (maxL := 1) (ret := (some .int)) (by decide) rfl (Nat.le_of_ble_eq_true rfl) ?_
  intro p e s m below meth c ls hAt hF hP hS hl
  obtain ⟨hx, hb, hr, hml, hown, hts, hlocks, -⟩ := hAt
  have hown : s.vm.findClass RX5 = some m.cls := hown
  have hl : lv_has ls 1 [(0, .ref (a 0))] := hl
  have hK := hF.1
  have hA := hL.2
  change W p l e rm_X5_image s m ([.ref (a 0)] : List Value).toArray below meth c s.heap [] 0 0 (xQmd E below (LX a) (some (.int ((s_X5_image u).1))) (wX E a ((s_X5_image u).2)) ([.ref (a 0)] : List Value).toArray s) _
  have hS : va_S (· ∈ LX a) s.heap s.heap [] := hS
  have hR : s_X5_image u = s_X5_image u := rfl
  refine lv_aload_n hx hb dX5_image_0 rfl (lv_at hl 0 rfl) ?_
  refine va_get (D := xD E) (ci := 5) (v := .ref (a 3)) (C := RX5) (T := TX5) (N := 9) hx hb hts (by decide +kernel) hown hK hP 0 rfl rfl 1 (by decide) (hts (.fieldLink RX5 18 "RailOffsets" "keptPieces" "LRailOffsets$Pieces;") (by decide +kernel)) (fun _ h => h) rfl dX5_image_1 ?_
  refine lv_aload_n hx hb dX5_image_4 rfl (lv_at hl 0 rfl) ?_
  refine va_get (D := xD E) (ci := 5) (v := .ref (a 1)) (C := RX5) (T := TX5) (N := 9) hx hb hts (by decide +kernel) hown hK hP 0 rfl rfl 0 (by decide) (hts (.fieldLink RX5 12 "RailOffsets" "pieces" "LRailOffsets$Pieces;") (by decide +kernel)) (fun _ h => h) rfl dX5_image_5 ?_
  refine xMdV (nL := 1) ⟨hx, hb, hml, hown, hts⟩ (c_X2_takeFrom_k l E a u  hL) (cwV 1 hts gX5_image_X2_takeFrom rfl rfl rfl ⟨rfl, hd_X2_takeFrom⟩ ⟨(Nat.le_of_ble_eq_true rfl), (Nat.le_of_ble_eq_true rfl)⟩) hF hS hL.2 (fun _ h => h) hP (va_recv (q := (RX2, TX2, 2)) hK hP (ci := 2) rfl (q0 := 3) rfl) rfl hl.1 rfl (Nat.le_of_ble_eq_true rfl) ⟨(Nat.le_of_ble_eq_true rfl), (Nat.le_of_ble_eq_true rfl)⟩ dX5_image_8 (fun H locs hP _ hS => ?_)
  refine W.eq (g2 := F0 m 11 ls []) rfl ?_
  refine lv_aload_n hx hb dX5_image_11 rfl (lv_at hl 0 rfl) ?_
  refine va_get (D := xD E) (ci := 5) (v := .ref (a 5)) (C := RX5) (T := TX5) (N := 9) hx hb hts (by decide +kernel) hown hK hP 0 rfl rfl 2 (by decide) (hts (.fieldLink RX5 30 "RailOffsets" "rules" "[I") (by decide +kernel)) (fun _ h => h) rfl dX5_image_12 ?_
  refine lv_iconst (v := 0) hx hb dX5_image_15 rfl ?_
  refine lv_aload_n hx hb dX5_image_16 rfl (lv_at hl 0 rfl) ?_
  refine va_get (D := xD E) (ci := 5) (v := .ref (a 6)) (C := RX5) (T := TX5) (N := 9) hx hb hts (by decide +kernel) hown hK hP 0 rfl rfl 3 (by decide) (hts (.fieldLink RX5 33 "RailOffsets" "keptRules" "[I") (by decide +kernel)) (fun _ h => h) rfl dX5_image_17 ?_
  refine lv_iconst (v := 0) hx hb dX5_image_20 rfl ?_
  refine lv_aload_n hx hb dX5_image_21 rfl (lv_at hl 0 rfl) ?_
  refine va_get (D := xD E) (ci := 5) (v := .ref (a 5)) (C := RX5) (T := TX5) (N := 9) hx hb hts (by decide +kernel) hown hK hP 0 rfl rfl 2 (by decide) (hts (.fieldLink RX5 30 "RailOffsets" "rules" "[I") (by decide +kernel)) (fun _ h => h) rfl dX5_image_22 ?_
  refine va_alen (v := 8) hx hb hK hP 5 0 rfl rfl rfl dX5_image_25 ?_
  refine lv_aload_n hx hb dX5_image_26 rfl (lv_at hl 0 rfl) ?_
  refine va_get (D := xD E) (ci := 5) (v := .ref (a 6)) (C := RX5) (T := TX5) (N := 9) hx hb hts (by decide +kernel) hown hK hP 0 rfl rfl 3 (by decide) (hts (.fieldLink RX5 33 "RailOffsets" "keptRules" "[I") (by decide +kernel)) (fun _ h => h) rfl dX5_image_27 ?_
  refine va_alen (v := 8) hx hb hK hP 6 0 rfl rfl rfl dX5_image_30 ?_
  refine va_mmin hx hb (hml.trans hl.1.symm) hown (hts (.methodLink RX5 320 Lib.Math.min.name) (by decide +kernel)) (hts (.static Lib.Math.min.name) (by decide +kernel)) (hts (.initialized "java/lang/Math") (by decide +kernel)) (hts (.code Lib.Math.min.name Lib.Math.min.code 2 (some .int)) (by decide +kernel)) (Nat.le_of_ble_eq_true rfl) (Nat.le_of_ble_eq_true rfl) (Nat.le_of_ble_eq_true rfl) (Nat.le_of_ble_eq_true rfl) dX5_image_31 ?_
  refine W.eq (g2 := F0 m 34 ls [.int (iMin 8 8), .int 0, .ref (a 6), .int 0, .ref (a 5)]) rfl ?_
  refine va_copyi (ty := .int) hx hb (hml.trans hl.1.symm) hown (hts (.methodLink RX5 323 arraycopyName) (by decide +kernel)) (hts (.native arraycopyName) (by decide +kernel)) (hts (.static arraycopyName) (by decide +kernel)) (hts (.initialized "java/lang/System") (by decide +kernel)) hK hP (xD_of (ws := wX E a (s_X2_takeFrom_k u)) (A := (· ∈ LX a)) hL.1 (fun _ h => h)) hS 5 6 0 0 rfl rfl rfl rfl rfl (by decide) (by decide) (by decide) (by decide) (by decide) (fun _ _ => rfl) (Nat.le_of_ble_eq_true rfl) (Nat.le_of_ble_eq_true rfl) dX5_image_34 (fun H locs hP _ hS => ?_)
  have hP : va_P (xD E) vwCl (wX E a (uR (s_X2_takeFrom_k u) 6 (va_cpy ((s_X2_takeFrom_k u).1 5) ((s_X2_takeFrom_k u).1 6) (0 : Int32).toNatClampNeg (0 : Int32).toNatClampNeg (iMin 8 8).toNatClampNeg))) H := hP
  refine W.eq (g2 := F0 m 37 ls []) rfl ?_
  refine lv_aload_n hx hb dX5_image_37 rfl (lv_at hl 0 rfl) ?_
  refine lv_iconst (v := 1) hx hb dX5_image_38 rfl ?_
  refine va_put (D := xD E) (ci := 5) (v := .int 1) (ty := .boolean) (C := RX5) (T := TX5) (N := 9) hx hb hts (by decide +kernel) tyX5 tyX5_ok nmX5 hown hK hP (xD_of (ws := wX E a (uR (s_X2_takeFrom_k u) 6 (va_cpy ((s_X2_takeFrom_k u).1 5) ((s_X2_takeFrom_k u).1 6) (0 : Int32).toNatClampNeg (0 : Int32).toNatClampNeg (iMin 8 8).toNatClampNeg))) (A := (· ∈ LX a)) hL.1 (fun _ h => h)) hS 0 rfl rfl 8 (by decide) (hts (.fieldLink RX5 68 "RailOffsets" "kept" "Z") (by decide +kernel)) (fun _ h => h) rfl (by decide +kernel) rfl rfl (Nat.le_of_ble_eq_true rfl) dX5_image_39 (fun H locs hP _ hS => ?_)
  have hP : va_P (xD E) vwCl (wX E a (uZ (uR (s_X2_takeFrom_k u) 6 (va_cpy ((s_X2_takeFrom_k u).1 5) ((s_X2_takeFrom_k u).1 6) (0 : Int32).toNatClampNeg (0 : Int32).toNatClampNeg (iMin 8 8).toNatClampNeg)) 0 1)) H := hP
  refine lv_aload_n hx hb dX5_image_42 rfl (lv_at hl 0 rfl) ?_
  refine va_get (D := xD E) (ci := 5) (v := .ref (a 1)) (C := RX5) (T := TX5) (N := 9) hx hb hts (by decide +kernel) hown hK hP 0 rfl rfl 0 (by decide) (hts (.fieldLink RX5 12 "RailOffsets" "pieces" "LRailOffsets$Pieces;") (by decide +kernel)) (fun _ h => h) rfl dX5_image_43 ?_
  refine va_get (D := xD E) (ci := 2) (v := .int ((uZ (uR (s_X2_takeFrom_k u) 6 (va_cpy ((s_X2_takeFrom_k u).1 5) ((s_X2_takeFrom_k u).1 6) (0 : Int32).toNatClampNeg (0 : Int32).toNatClampNeg (iMin 8 8).toNatClampNeg)) 0 1).2 1)) (C := RX2) (T := TX2) (N := 2) hx hb hts (by decide +kernel) hown hK hP 1 rfl rfl 1 (by decide) (hts (.fieldLink RX5 76 "RailOffsets$Pieces" "size" "I") (by decide +kernel)) (fun _ h => h) rfl dX5_image_46 ?_
  have hR : s_X5_image u = ((uZ (uR (s_X2_takeFrom_k u) 6 (va_cpy ((s_X2_takeFrom_k u).1 5) ((s_X2_takeFrom_k u).1 6) (0 : Int32).toNatClampNeg (0 : Int32).toNatClampNeg (iMin 8 8).toNatClampNeg)) 0 1).2 1, uZ (uR (s_X2_takeFrom_k u) 6 (va_cpy ((s_X2_takeFrom_k u).1 5) ((s_X2_takeFrom_k u).1 6) (0 : Int32).toNatClampNeg (0 : Int32).toNatClampNeg (iMin 8 8).toNatClampNeg)) 0 1) := hR
  exact W.iret (v := (uZ (uR (s_X2_takeFrom_k u) 6 (va_cpy ((s_X2_takeFrom_k u).1 5) ((s_X2_takeFrom_k u).1 6) (0 : Int32).toNatClampNeg (0 : Int32).toNatClampNeg (iMin 8 8).toNatClampNeg)) 0 1).2 1) hx hb hr (fun t ht _ => by rw [hR]; dsimp only; exact ⟨⟨rfl, by rw [ht]; exact hP⟩, hS.F ht⟩) hS.2.2 dX5_image_49
def s_X5_back (u : xU) : Int32 × xU :=
  if (u.2 0) = 0 then
    ((-3), u)
  else
    ((s_X0_lay (uR (s_X2_takeFrom_b u) 5 (va_cpy ((s_X2_takeFrom_b u).1 6) ((s_X2_takeFrom_b u).1 5) (0 : Int32).toNatClampNeg (0 : Int32).toNatClampNeg (iMin 8 8).toNatClampNeg))).2 1, s_X0_lay (uR (s_X2_takeFrom_b u) 5 (va_cpy ((s_X2_takeFrom_b u).1 6) ((s_X2_takeFrom_b u).1 5) (0 : Int32).toNatClampNeg (0 : Int32).toNatClampNeg (iMin 8 8).toNatClampNeg)))
abbrev rm_X5_back : Room := { frames := 5, cells := 0, slots := 0, locals := 117 }
set_option maxHeartbeats 8000000 in
set_option maxRecDepth 100000 in
theorem c_X5_back (l : Launch) (E : xG) (a : Nat → Nat) (u : xU)  (hp0 : ¬ u.2 0 = 0 → XV (u.1 4) (u.2 2)) (hL : xOK E (LX a)) : xMd l E yX5_back wsX5_back rm_X5_back (LX a) [.ref (a 0)] (wX E a u) (some (.int ((s_X5_back u).1))) (wX E a ((s_X5_back u).2)) := by
  refine xMd.of (cc := cX5_back) (maxL := 1) (ret := (some .int)) (by decide) rfl (Nat.le_of_ble_eq_true rfl) ?_
  intro p e s m below meth c ls hAt hF hP hS hl
  obtain ⟨hx, hb, hr, hml, hown, hts, hlocks, -⟩ := hAt
  have hown : s.vm.findClass RX5 = some m.cls := hown
  have hl : lv_has ls 1 [(0, .ref (a 0))] := hl
  have hK := hF.1
  have hA := hL.2
  change W p l e rm_X5_back s m ([.ref (a 0)] : List Value).toArray below meth c s.heap [] 0 0 (xQmd E below (LX a) (some (.int ((s_X5_back u).1))) (wX E a ((s_X5_back u).2)) ([.ref (a 0)] : List Value).toArray s) _
  have hS : va_S (· ∈ LX a) s.heap s.heap [] := hS
  have hR : s_X5_back u = s_X5_back u := rfl
  refine lv_aload_n hx hb dX5_back_0 rfl (lv_at hl 0 rfl) ?_
  refine va_get (D := xD E) (ci := 5) (v := .int (u.2 0)) (C := RX5) (T := TX5) (N := 9) hx hb hts (by decide +kernel) hown hK hP 0 rfl rfl 8 (by decide) (hts (.fieldLink RX5 68 "RailOffsets" "kept" "Z") (by decide +kernel)) (fun _ h => h) rfl dX5_back_1 ?_
  refine lv_if_ne (tgt := 10) hx hb dX5_back_4 rfl (fun q1 => ?_) (fun q1 => ?_)
  · have hR := hR.trans (if_neg q1)
    refine lv_aload_n hx hb dX5_back_10 rfl (lv_at hl 0 rfl) ?_
    refine va_get (D := xD E) (ci := 5) (v := .ref (a 1)) (C := RX5) (T := TX5) (N := 9) hx hb hts (by decide +kernel) hown hK hP 0 rfl rfl 0 (by decide) (hts (.fieldLink RX5 12 "RailOffsets" "pieces" "LRailOffsets$Pieces;") (by decide +kernel)) (fun _ h => h) rfl dX5_back_11 ?_
    refine lv_aload_n hx hb dX5_back_14 rfl (lv_at hl 0 rfl) ?_
    refine va_get (D := xD E) (ci := 5) (v := .ref (a 3)) (C := RX5) (T := TX5) (N := 9) hx hb hts (by decide +kernel) hown hK hP 0 rfl rfl 1 (by decide) (hts (.fieldLink RX5 18 "RailOffsets" "keptPieces" "LRailOffsets$Pieces;") (by decide +kernel)) (fun _ h => h) rfl dX5_back_15 ?_
    refine xMdV (nL := 1) ⟨hx, hb, hml, hown, hts⟩ (c_X2_takeFrom_b l E a u  hL) (cwV 1 hts gX5_back_X2_takeFrom rfl rfl rfl ⟨rfl, hd_X2_takeFrom⟩ ⟨(Nat.le_of_ble_eq_true rfl), (Nat.le_of_ble_eq_true rfl)⟩) hF hS hL.2 (fun _ h => h) hP (va_recv (q := (RX2, TX2, 2)) hK hP (ci := 2) rfl (q0 := 1) rfl) rfl hl.1 rfl (Nat.le_of_ble_eq_true rfl) ⟨(Nat.le_of_ble_eq_true rfl), (Nat.le_of_ble_eq_true rfl)⟩ dX5_back_18 (fun H locs hP _ hS => ?_)
    refine W.eq (g2 := F0 m 21 ls []) rfl ?_
    refine lv_aload_n hx hb dX5_back_21 rfl (lv_at hl 0 rfl) ?_
    refine va_get (D := xD E) (ci := 5) (v := .ref (a 6)) (C := RX5) (T := TX5) (N := 9) hx hb hts (by decide +kernel) hown hK hP 0 rfl rfl 3 (by decide) (hts (.fieldLink RX5 33 "RailOffsets" "keptRules" "[I") (by decide +kernel)) (fun _ h => h) rfl dX5_back_22 ?_
    refine lv_iconst (v := 0) hx hb dX5_back_25 rfl ?_
    refine lv_aload_n hx hb dX5_back_26 rfl (lv_at hl 0 rfl) ?_
    refine va_get (D := xD E) (ci := 5) (v := .ref (a 5)) (C := RX5) (T := TX5) (N := 9) hx hb hts (by decide +kernel) hown hK hP 0 rfl rfl 2 (by decide) (hts (.fieldLink RX5 30 "RailOffsets" "rules" "[I") (by decide +kernel)) (fun _ h => h) rfl dX5_back_27 ?_
    refine lv_iconst (v := 0) hx hb dX5_back_30 rfl ?_
    refine lv_aload_n hx hb dX5_back_31 rfl (lv_at hl 0 rfl) ?_
    refine va_get (D := xD E) (ci := 5) (v := .ref (a 5)) (C := RX5) (T := TX5) (N := 9) hx hb hts (by decide +kernel) hown hK hP 0 rfl rfl 2 (by decide) (hts (.fieldLink RX5 30 "RailOffsets" "rules" "[I") (by decide +kernel)) (fun _ h => h) rfl dX5_back_32 ?_
    refine va_alen (v := 8) hx hb hK hP 5 0 rfl rfl rfl dX5_back_35 ?_
    refine lv_aload_n hx hb dX5_back_36 rfl (lv_at hl 0 rfl) ?_
    refine va_get (D := xD E) (ci := 5) (v := .ref (a 6)) (C := RX5) (T := TX5) (N := 9) hx hb hts (by decide +kernel) hown hK hP 0 rfl rfl 3 (by decide) (hts (.fieldLink RX5 33 "RailOffsets" "keptRules" "[I") (by decide +kernel)) (fun _ h => h) rfl dX5_back_37 ?_
    refine va_alen (v := 8) hx hb hK hP 6 0 rfl rfl rfl dX5_back_40 ?_
    refine va_mmin hx hb (hml.trans hl.1.symm) hown (hts (.methodLink RX5 320 Lib.Math.min.name) (by decide +kernel)) (hts (.static Lib.Math.min.name) (by decide +kernel)) (hts (.initialized "java/lang/Math") (by decide +kernel)) (hts (.code Lib.Math.min.name Lib.Math.min.code 2 (some .int)) (by decide +kernel)) (Nat.le_of_ble_eq_true rfl) (Nat.le_of_ble_eq_true rfl) (Nat.le_of_ble_eq_true rfl) (Nat.le_of_ble_eq_true rfl) dX5_back_41 ?_
    refine W.eq (g2 := F0 m 44 ls [.int (iMin 8 8), .int 0, .ref (a 5), .int 0, .ref (a 6)]) rfl ?_
    refine va_copyi (ty := .int) hx hb (hml.trans hl.1.symm) hown (hts (.methodLink RX5 323 arraycopyName) (by decide +kernel)) (hts (.native arraycopyName) (by decide +kernel)) (hts (.static arraycopyName) (by decide +kernel)) (hts (.initialized "java/lang/System") (by decide +kernel)) hK hP (xD_of (ws := wX E a (s_X2_takeFrom_b u)) (A := (· ∈ LX a)) hL.1 (fun _ h => h)) hS 6 5 0 0 rfl rfl rfl rfl rfl (by decide) (by decide) (by decide) (by decide) (by decide) (fun _ _ => rfl) (Nat.le_of_ble_eq_true rfl) (Nat.le_of_ble_eq_true rfl) dX5_back_44 (fun H locs hP _ hS => ?_)
    have hP : va_P (xD E) vwCl (wX E a (uR (s_X2_takeFrom_b u) 5 (va_cpy ((s_X2_takeFrom_b u).1 6) ((s_X2_takeFrom_b u).1 5) (0 : Int32).toNatClampNeg (0 : Int32).toNatClampNeg (iMin 8 8).toNatClampNeg))) H := hP
    refine W.eq (g2 := F0 m 47 ls []) rfl ?_
    refine lv_aload_n hx hb dX5_back_47 rfl (lv_at hl 0 rfl) ?_
    refine va_get (D := xD E) (ci := 5) (v := .ref (a 7)) (C := RX5) (T := TX5) (N := 9) hx hb hts (by decide +kernel) hown hK hP 0 rfl rfl 4 (by decide) (hts (.fieldLink RX5 41 "RailOffsets" "line" "LRailOffsets$Line;") (by decide +kernel)) (fun _ h => h) rfl dX5_back_48 ?_
    refine xMdV (nL := 1) ⟨hx, hb, hml, hown, hts⟩ (c_X0_lay l E a (uR (s_X2_takeFrom_b u) 5 (va_cpy ((s_X2_takeFrom_b u).1 6) ((s_X2_takeFrom_b u).1 5) (0 : Int32).toNatClampNeg (0 : Int32).toNatClampNeg (iMin 8 8).toNatClampNeg))  (xv_back (hp0 (by assumption)) _) hL) (cwV 0 hts gX5_back_X0_lay rfl rfl rfl ⟨rfl, hd_X0_lay⟩ ⟨(Nat.le_of_ble_eq_true rfl), (Nat.le_of_ble_eq_true rfl)⟩) hF hS hL.2 (fun _ h => h) hP (va_recv (q := (RX0, TX0, 8)) hK hP (ci := 0) rfl (q0 := 7) rfl) rfl hl.1 rfl (Nat.le_of_ble_eq_true rfl) ⟨(Nat.le_of_ble_eq_true rfl), (Nat.le_of_ble_eq_true rfl)⟩ dX5_back_51 (fun H locs hP _ hS => ?_)
    refine W.eq (g2 := F0 m 54 ls []) rfl ?_
    refine lv_aload_n hx hb dX5_back_54 rfl (lv_at hl 0 rfl) ?_
    refine va_get (D := xD E) (ci := 5) (v := .ref (a 1)) (C := RX5) (T := TX5) (N := 9) hx hb hts (by decide +kernel) hown hK hP 0 rfl rfl 0 (by decide) (hts (.fieldLink RX5 12 "RailOffsets" "pieces" "LRailOffsets$Pieces;") (by decide +kernel)) (fun _ h => h) rfl dX5_back_55 ?_
    refine va_get (D := xD E) (ci := 2) (v := .int ((s_X0_lay (uR (s_X2_takeFrom_b u) 5 (va_cpy ((s_X2_takeFrom_b u).1 6) ((s_X2_takeFrom_b u).1 5) (0 : Int32).toNatClampNeg (0 : Int32).toNatClampNeg (iMin 8 8).toNatClampNeg))).2 1)) (C := RX2) (T := TX2) (N := 2) hx hb hts (by decide +kernel) hown hK hP 1 rfl rfl 1 (by decide) (hts (.fieldLink RX5 76 "RailOffsets$Pieces" "size" "I") (by decide +kernel)) (fun _ h => h) rfl dX5_back_58 ?_
    have hR : s_X5_back u = ((s_X0_lay (uR (s_X2_takeFrom_b u) 5 (va_cpy ((s_X2_takeFrom_b u).1 6) ((s_X2_takeFrom_b u).1 5) (0 : Int32).toNatClampNeg (0 : Int32).toNatClampNeg (iMin 8 8).toNatClampNeg))).2 1, s_X0_lay (uR (s_X2_takeFrom_b u) 5 (va_cpy ((s_X2_takeFrom_b u).1 6) ((s_X2_takeFrom_b u).1 5) (0 : Int32).toNatClampNeg (0 : Int32).toNatClampNeg (iMin 8 8).toNatClampNeg))) := hR
    exact W.iret (v := (s_X0_lay (uR (s_X2_takeFrom_b u) 5 (va_cpy ((s_X2_takeFrom_b u).1 6) ((s_X2_takeFrom_b u).1 5) (0 : Int32).toNatClampNeg (0 : Int32).toNatClampNeg (iMin 8 8).toNatClampNeg))).2 1) hx hb hr (fun t ht _ => by rw [hR]; dsimp only; exact ⟨⟨rfl, by rw [ht]; exact hP⟩, hS.F ht⟩) hS.2.2 dX5_back_61
  · have hR := hR.trans (if_pos q1)
    refine lv_bipush (v := (-3)) hx hb dX5_back_7 rfl ?_
    have hR : s_X5_back u = ((-3), u) := hR
    exact W.iret (v := (-3)) hx hb hr (fun t ht _ => by rw [hR]; dsimp only; exact ⟨⟨rfl, by rw [ht]; exact hP⟩, hS.F ht⟩) hS.2.2 dX5_back_9
