theorem xsh {u : xU} {s : Int32} (q : ¬ s_X6_isSheet u s = 0) : 0 ≤ s.toInt ∧ s.toInt ≤ 3 := xin32 (lo := 0) (hi := 3) q
theorem xsh4 {u : xU} {s : Int32} (q : ¬ s_X6_isSheet u s = 0) : vp_in s 4 := by
  have h := xsh q
  rw [vp_in_iff]
  omega
theorem xit {u : xU} {s i : Int32} (q : ¬ s_X6_isSheet u s = 0) (h0 : 0 ≤ i.toInt) (h1 : i.toInt < 40) : vp_in ((40 * s) + i) 160 := by
  have h := xsh q
  have h4 : (40 * s).toInt = 40 * s.toInt := fb_mulI (x := 40) (y := s) (by rw [show (40 : Int32).toInt = 40 from rfl]; omega) (by rw [show (40 : Int32).toInt = 40 from rfl]; omega)
  rw [vp_in_iff, fb_addI (by omega) (by omega), h4]
  omega
theorem x40 {i : Int32} (h0 : ¬ i < 0) (q : ¬ 40 ≤ i) : 0 ≤ i.toInt ∧ i.toInt < 40 := by
  rw [fa_le, show (40 : Int32).toInt = 40 from rfl] at q
  exact ⟨xge0 h0, by omega⟩
def s_X6_isCaused (u : xU) (p1 : Int32) : xU :=
  uZ (uZ u 2 ((u.2 2) + 1)) 3 p1
abbrev rm_X6_isCaused : Room := { frames := 0, cells := 0, slots := 0, locals := 0 }
set_option maxHeartbeats 8000000 in
set_option maxRecDepth 100000 in
theorem c_X6_isCaused (l : Launch) (E : xG) (a : Nat → Nat) (u : xU) (p1 : Int32) (hL : xOK E (LM a)) : xMd l E yX6_isCaused wsX6_isCaused rm_X6_isCaused (LM a) [.ref (a 0), .int p1] (wM E a u) (none) (wM E a (s_X6_isCaused u p1)) := by
  refine xMd.of (cc := cX6_isCaused) (maxL := 2) (ret := none) (by decide) rfl (Nat.le_of_ble_eq_true rfl) ?_
  intro p e s m below meth c ls hAt hF hP hS hl
  obtain ⟨hx, hb, hr, hml, hown, hts, hlocks, -⟩ := hAt
  have hown : s.vm.findClass RX6 = some m.cls := hown
  have hl : lv_has ls 2 [(0, .ref (a 0)), (1, .int p1)] := hl
  have hK := hF.1
  have hA := hL.2
  change W p l e rm_X6_isCaused s m ([.ref (a 0), .int p1] : List Value).toArray below meth c s.heap [] 0 0 (xQmd E below (LM a) (none) (wM E a (s_X6_isCaused u p1)) ([.ref (a 0), .int p1] : List Value).toArray s) _
  have hS : va_S (· ∈ LM a) s.heap s.heap [] := hS
  have hR : s_X6_isCaused u p1 = s_X6_isCaused u p1 := rfl
  refine lv_aload_n hx hb dX6_isCaused_0 rfl (lv_at hl 0 rfl) ?_
  refine lv_dup hx hb dX6_isCaused_1 rfl ?_
  refine va_get (D := xD E) (ci := 6) (v := .int (u.2 2)) (C := RX6) (T := TX6) (N := 28) hx hb hts (by decide +kernel) hown hK hP 0 rfl rfl 9 (by decide) (hts (.fieldLink RX6 172 "RailOffsetsModel" "causes" "I") (by decide +kernel)) (fun _ h => h) rfl dX6_isCaused_2 ?_
  refine lv_iconst (v := 1) hx hb dX6_isCaused_5 rfl ?_
  refine lv_iadd hx hb dX6_isCaused_6 ?_
  refine va_put (D := xD E) (ci := 6) (v := .int ((u.2 2) + 1)) (ty := .int) (C := RX6) (T := TX6) (N := 28) hx hb hts (by decide +kernel) tyX6 tyX6_ok nmX6 hown hK hP (xD_of (ws := wM E a u) (A := (· ∈ LM a)) hL.1 (fun _ h => h)) hS 0 rfl rfl 9 (by decide) (hts (.fieldLink RX6 172 "RailOffsetsModel" "causes" "I") (by decide +kernel)) (fun _ h => h) rfl (by decide +kernel) rfl rfl (Nat.le_of_ble_eq_true rfl) dX6_isCaused_7 (fun H locs hP _ hS => ?_)
  have hP : va_P (xD E) vwCl (wM E a (uZ u 2 ((u.2 2) + 1))) H := hP
  refine lv_aload_n hx hb dX6_isCaused_10 rfl (lv_at hl 0 rfl) ?_
  refine lv_iload_n hx hb dX6_isCaused_11 rfl (lv_at hl 1 rfl) ?_
  refine va_put (D := xD E) (ci := 6) (v := .int p1) (ty := .int) (C := RX6) (T := TX6) (N := 28) hx hb hts (by decide +kernel) tyX6 tyX6_ok nmX6 hown hK hP (xD_of (ws := wM E a (uZ u 2 ((u.2 2) + 1))) (A := (· ∈ LM a)) hL.1 (fun _ h => h)) hS 0 rfl rfl 10 (by decide) (hts (.fieldLink RX6 175 "RailOffsetsModel" "root" "I") (by decide +kernel)) (fun _ h => h) rfl (by decide +kernel) rfl rfl (Nat.le_of_ble_eq_true rfl) dX6_isCaused_12 (fun H locs hP _ hS => ?_)
  have hP : va_P (xD E) vwCl (wM E a (uZ (uZ u 2 ((u.2 2) + 1)) 3 p1)) H := hP
  have hR : s_X6_isCaused u p1 = uZ (uZ u 2 ((u.2 2) + 1)) 3 p1 := hR
  exact W.vret hx hb hr (fun t ht _ => by rw [hR]; exact ⟨⟨rfl, by rw [ht]; exact hP⟩, hS.F ht⟩) hS.2.2 dX6_isCaused_15
def s_X6_sheet_L68 : Nat → xU → Int32 → Int32 → Int32 → Int32 → Int32 × xU
  | 0, u, _, _, _, _ => (0, u)
  | n + 1, u, x1, x2, x3, x4 =>
    if 40 ≤ x4 then
      (1, u)
    else
      s_X6_sheet_L68 n (uA u 10 ((40 * x1) + x4).toNatClampNeg 0) x1 x2 x3 (x4 + 1)
def s_X6_sheet (u : xU) (p1 : Int32) (p2 : Int32) (p3 : Int32) : Int32 × xU :=
  if (s_X6_isSheet u p1) = 0 then
    ((-2), u)
  else
    if (s_X6_in u p2.toInt64 (-1) 1) = 0 then
      ((-2), u)
    else
      if p2 < 0 then
        if p2 < 0 then
          s_X6_sheet_L68 (((40 : Int32).toInt - (0 : Int32).toInt).toNat + 1) (uA (uA u 8 p1.toNatClampNeg p2) 9 p1.toNatClampNeg (if 0 ≤ p2 then p3 else 0)) p1 p2 p3 0
        else
          if 0 ≤ p3 then
            s_X6_sheet_L68 (((40 : Int32).toInt - (0 : Int32).toInt).toNat + 1) (uA (uA u 8 p1.toNatClampNeg p2) 9 p1.toNatClampNeg (if 0 ≤ p2 then p3 else 0)) p1 p2 p3 0
          else
            ((-14), u)
      else
        if p3 ≤ 40 then
          if p2 < 0 then
            s_X6_sheet_L68 (((40 : Int32).toInt - (0 : Int32).toInt).toNat + 1) (uA (uA u 8 p1.toNatClampNeg p2) 9 p1.toNatClampNeg (if 0 ≤ p2 then p3 else 0)) p1 p2 p3 0
          else
            if 0 ≤ p3 then
              s_X6_sheet_L68 (((40 : Int32).toInt - (0 : Int32).toInt).toNat + 1) (uA (uA u 8 p1.toNatClampNeg p2) 9 p1.toNatClampNeg (if 0 ≤ p2 then p3 else 0)) p1 p2 p3 0
            else
              ((-14), u)
        else
          ((-2), u)
abbrev rm_X6_sheet : Room := { frames := 2, cells := 0, slots := 0, locals := 45 }
set_option maxHeartbeats 8000000 in
set_option maxRecDepth 100000 in
theorem c_X6_sheet (l : Launch) (E : xG) (a : Nat → Nat) (u : xU) (p1 : Int32) (p2 : Int32) (p3 : Int32) (hL : xOK E (LM a)) : xMd l E yX6_sheet wsX6_sheet rm_X6_sheet (LM a) [.ref (a 0), .int p1, .int p2, .int p3] (wM E a u) (some (.int ((s_X6_sheet u p1 p2 p3).1))) (wM E a ((s_X6_sheet u p1 p2 p3).2)) := by
  refine xMd.of (cc := cX6_sheet) (maxL := 5) (ret := (some .int)) (by decide) rfl (Nat.le_of_ble_eq_true rfl) ?_
  intro p e s m below meth c ls hAt hF hP hS hl
  obtain ⟨hx, hb, hr, hml, hown, hts, hlocks, -⟩ := hAt
  have hown : s.vm.findClass RX6 = some m.cls := hown
  have hl : lv_has ls 5 [(0, .ref (a 0)), (1, .int p1), (2, .int p2), (3, .int p3)] := hl
  have hK := hF.1
  have hA := hL.2
  change W p l e rm_X6_sheet s m ([.ref (a 0), .int p1, .int p2, .int p3] : List Value).toArray below meth c s.heap [] 0 0 (xQmd E below (LM a) (some (.int ((s_X6_sheet u p1 p2 p3).1))) (wM E a ((s_X6_sheet u p1 p2 p3).2)) ([.ref (a 0), .int p1, .int p2, .int p3] : List Value).toArray s) _
  have hS : va_S (· ∈ LM a) s.heap s.heap [] := hS
  have hR : s_X6_sheet u p1 p2 p3 = s_X6_sheet u p1 p2 p3 := rfl
  refine lv_iload_n hx hb dX6_sheet_0 rfl (lv_at hl 1 rfl) ?_
  refine xRoS (nL := 5) ⟨hx, hb, hml, hown, hts⟩ (c_X6_isSheet l E a u p1) (va_cwS 1 hts gX6_sheet_X6_isSheet rfl rfl rfl hd_X6_isSheet ⟨(Nat.le_of_ble_eq_true rfl), (Nat.le_of_ble_eq_true rfl)⟩) hF hS hA hP rfl hl.1 rfl (Nat.le_of_ble_eq_true rfl) ⟨(Nat.le_of_ble_eq_true rfl), (Nat.le_of_ble_eq_true rfl)⟩ dX6_sheet_1 ?_
  refine W.eq (g2 := F0 m 4 ls [.int (s_X6_isSheet u p1)]) rfl ?_
  refine lv_if_eq (tgt := 29) hx hb dX6_sheet_4 rfl (fun q1 => ?_) (fun q1 => ?_)
  · have hR := hR.trans (if_pos q1)
    refine lv_bipush (v := (-2)) hx hb dX6_sheet_29 rfl ?_
    have hR : s_X6_sheet u p1 p2 p3 = ((-2), u) := hR
    exact W.iret (v := (-2)) hx hb hr (fun t ht _ => by rw [hR]; dsimp only; exact ⟨⟨rfl, by rw [ht]; exact hP⟩, hS.F ht⟩) hS.2.2 dX6_sheet_31
  · have hR := hR.trans (if_neg q1)
    refine lv_iload_n hx hb dX6_sheet_7 rfl (lv_at hl 2 rfl) ?_
    refine lv_i2l hx hb dX6_sheet_8 rfl ?_
    refine lv_ldc2 (v := (-1)) hx hb hown (hts (.constantLong RX6 204 (-1)) (by decide +kernel)) dX6_sheet_9 ?_
    refine lv_lconst (v := 1) hx hb dX6_sheet_12 rfl ?_
    refine xRoS (nL := 5) ⟨hx, hb, hml, hown, hts⟩ (c_X6_in l E a u p2.toInt64 (-1) 1) (va_cwS 3 hts gX6_sheet_X6_in rfl rfl rfl hd_X6_in ⟨(Nat.le_of_ble_eq_true rfl), (Nat.le_of_ble_eq_true rfl)⟩) hF hS hA hP rfl hl.1 rfl (Nat.le_of_ble_eq_true rfl) ⟨(Nat.le_of_ble_eq_true rfl), (Nat.le_of_ble_eq_true rfl)⟩ dX6_sheet_13 ?_
    refine W.eq (g2 := F0 m 16 ls [.int (s_X6_in u p2.toInt64 (-1) 1)]) rfl ?_
    refine lv_if_eq (tgt := 29) hx hb dX6_sheet_16 rfl (fun q2 => ?_) (fun q2 => ?_)
    · have hR := hR.trans (if_pos q2)
      refine lv_bipush (v := (-2)) hx hb dX6_sheet_29 rfl ?_
      have hR : s_X6_sheet u p1 p2 p3 = ((-2), u) := hR
      exact W.iret (v := (-2)) hx hb hr (fun t ht _ => by rw [hR]; dsimp only; exact ⟨⟨rfl, by rw [ht]; exact hP⟩, hS.F ht⟩) hS.2.2 dX6_sheet_31
    · have hR := hR.trans (if_neg q2)
      refine lv_iload_n hx hb dX6_sheet_19 rfl (lv_at hl 2 rfl) ?_
      refine lv_if_lt (tgt := 32) hx hb dX6_sheet_20 rfl (fun q3 => ?_) (fun q3 => ?_)
      · have hR := hR.trans (if_pos q3)
        refine lv_iload_n hx hb dX6_sheet_32 rfl (lv_at hl 2 rfl) ?_
        refine lv_if_lt (tgt := 43) hx hb dX6_sheet_33 rfl (fun q4 => ?_) (fun q4 => ?_)
        · have hR := hR.trans (if_pos q4)
          refine lv_aload_n hx hb dX6_sheet_43 rfl (lv_at hl 0 rfl) ?_
          refine va_get (D := xD E) (ci := 6) (v := .ref (a 8)) (C := RX6) (T := TX6) (N := 28) hx hb hts (by decide +kernel) hown hK hP 0 rfl rfl 11 (by decide) (hts (.fieldLink RX6 33 "RailOffsetsModel" "sorts" "[I") (by decide +kernel)) (fun _ h => h) rfl dX6_sheet_44 ?_
          refine lv_iload_n hx hb dX6_sheet_47 rfl (lv_at hl 1 rfl) ?_
          refine lv_iload_n hx hb dX6_sheet_48 rfl (lv_at hl 2 rfl) ?_
          refine va_iast hx hb hK hP (xD_of (ws := wM E a u) (A := (· ∈ LM a)) hL.1 (fun _ h => h)) hS 8 0 rfl rfl (xsh4 q1) dX6_sheet_49 (fun H locs hP _ hS => ?_)
          have hP : va_P (xD E) vwCl (wM E a (uA u 8 p1.toNatClampNeg p2)) H := hP
          refine lv_aload_n hx hb dX6_sheet_50 rfl (lv_at hl 0 rfl) ?_
          refine va_get (D := xD E) (ci := 6) (v := .ref (a 9)) (C := RX6) (T := TX6) (N := 28) hx hb hts (by decide +kernel) hown hK hP 0 rfl rfl 12 (by decide) (hts (.fieldLink RX6 36 "RailOffsetsModel" "sizes" "[I") (by decide +kernel)) (fun _ h => h) rfl dX6_sheet_51 ?_
          refine lv_iload_n hx hb dX6_sheet_54 rfl (lv_at hl 1 rfl) ?_
          refine lv_iload_n hx hb dX6_sheet_55 rfl (lv_at hl 2 rfl) ?_
          have J5 : W p l e rm_X6_sheet s m ([.ref (a 0), .int p1, .int p2, .int p3] : List Value).toArray below meth c H locs 0 0 (xQmd E below (LM a) (some (.int ((s_X6_sheet u p1 p2 p3).1))) (wM E a ((s_X6_sheet u p1 p2 p3).2)) ([.ref (a 0), .int p1, .int p2, .int p3] : List Value).toArray s) (F0 m 64 ls [.int (if 0 ≤ p2 then p3 else 0), .int p1, .ref (a 9)]) := by
            refine va_iast hx hb hK hP (xD_of (ws := wM E a (uA u 8 p1.toNatClampNeg p2)) (A := (· ∈ LM a)) hL.1 (fun _ h => h)) hS 9 0 rfl rfl (xsh4 q1) dX6_sheet_64 (fun H locs hP _ hS => ?_)
            have hP : va_P (xD E) vwCl (wM E a (uA (uA u 8 p1.toNatClampNeg p2) 9 p1.toNatClampNeg (if 0 ≤ p2 then p3 else 0))) H := hP
            refine lv_iconst (v := 0) hx hb dX6_sheet_65 rfl ?_
            refine lv_istore (lv' := [(4, .int 0), (0, .ref (a 0)), (1, .int p1), (2, .int p2), (3, .int p3)]) hx hb dX6_sheet_66 hl (by decide) rfl (fun ls hl => ?_)
            have L68 : ∀ (n68 : Nat) (u68 : xU) (x4 : Int32) (H : Heap) (locs : List Loc) (ls : Array Slot), (¬ x4 < 0) → ((40 : Int32).toInt - x4.toInt).toNat < n68 → s_X6_sheet u p1 p2 p3 = s_X6_sheet_L68 n68 u68 p1 p2 p3 x4 → lv_has ls 5 [(4, .int x4), (0, .ref (a 0)), (1, .int p1), (2, .int p2), (3, .int p3)] → va_P (xD E) vwCl (wM E a u68) H → va_S (· ∈ LM a) s.heap H locs → W p l e rm_X6_sheet s m ([.ref (a 0), .int p1, .int p2, .int p3] : List Value).toArray below meth c H locs 0 0 (xQmd E below (LM a) (some (.int ((s_X6_sheet u p1 p2 p3).1))) (wM E a ((s_X6_sheet u p1 p2 p3).2)) ([.ref (a 0), .int p1, .int p2, .int p3] : List Value).toArray s) (F0 m 68 ls []) := by
              intro n68
              induction n68 with
              | zero => intro u68 x4 H locs ls hI0 hM68 hR hl hP hS; exact absurd hM68 (Nat.not_lt_zero _)
              | succ n68 ih68 =>
                intro u68 x4 H locs ls hI0 hM68 hR hl hP hS
                refine lv_iload hx hb dX6_sheet_68 (lv_at hl 0 rfl) ?_
                refine lv_bipush (v := 40) hx hb dX6_sheet_70 rfl ?_
                refine lv_icmp_ge (tgt := 94) hx hb dX6_sheet_72 rfl (fun q7 => ?_) (fun q7 => ?_)
                · have hR := hR.trans (if_pos q7)
                  refine lv_iconst (v := 1) hx hb dX6_sheet_94 rfl ?_
                  have hR : s_X6_sheet u p1 p2 p3 = (1, u68) := hR
                  exact W.iret (v := 1) hx hb hr (fun t ht _ => by rw [hR]; dsimp only; exact ⟨⟨rfl, by rw [ht]; exact hP⟩, hS.F ht⟩) hS.2.2 dX6_sheet_95
                · have hR := hR.trans (if_neg q7)
                  refine lv_aload_n hx hb dX6_sheet_75 rfl (lv_at hl 1 rfl) ?_
                  refine va_get (D := xD E) (ci := 6) (v := .ref (a 10)) (C := RX6) (T := TX6) (N := 28) hx hb hts (by decide +kernel) hown hK hP 0 rfl rfl 13 (by decide) (hts (.fieldLink RX6 39 "RailOffsetsModel" "items" "[I") (by decide +kernel)) (fun _ h => h) rfl dX6_sheet_76 ?_
                  refine lv_bipush (v := 40) hx hb dX6_sheet_79 rfl ?_
                  refine lv_iload_n hx hb dX6_sheet_81 rfl (lv_at hl 2 rfl) ?_
                  refine lv_imul hx hb dX6_sheet_82 ?_
                  refine lv_iload hx hb dX6_sheet_83 (lv_at hl 0 rfl) ?_
                  refine lv_iadd hx hb dX6_sheet_85 ?_
                  refine lv_iconst (v := 0) hx hb dX6_sheet_86 rfl ?_
                  refine va_iast hx hb hK hP (xD_of (ws := wM E a u68) (A := (· ∈ LM a)) hL.1 (fun _ h => h)) hS 10 0 rfl rfl (xit q1 (x40 hI0 q7).1 (x40 hI0 q7).2) dX6_sheet_87 (fun H locs hP _ hS => ?_)
                  have hP : va_P (xD E) vwCl (wM E a (uA u68 10 ((40 * p1) + x4).toNatClampNeg 0)) H := hP
                  refine lv_iinc (k := 0) (v := x4 + 1) (lv' := [(4, .int (x4 + 1)), (0, .ref (a 0)), (1, .int p1), (2, .int p2), (3, .int p3)]) hx hb dX6_sheet_88 hl rfl rfl (by decide) rfl (fun ls hl => ?_)
                  refine lv_goto (tgt := 68) hx hb dX6_sheet_91 rfl ?_
                  exact ih68 (uA u68 10 ((40 * p1) + x4).toNatClampNeg 0) (x4 + 1) _ _ _ (xup0 hI0 q7) (Nat.lt_of_lt_of_le (xupc q7) (Nat.le_of_lt_succ hM68)) hR (lv_sub hl [0, 1, 2, 3, 4] rfl) hP hS
            exact L68 (((40 : Int32).toInt - (0 : Int32).toInt).toNat + 1) (uA (uA u 8 p1.toNatClampNeg p2) 9 p1.toNatClampNeg (if 0 ≤ p2 then p3 else 0)) 0 _ _ ls (by decide) (Nat.lt_succ_self _) hR hl hP hS
          refine lv_if_ge (tgt := 63) hx hb dX6_sheet_56 rfl (fun q6 => ?_) (fun q6 => ?_)
          · refine lv_iload_n hx hb dX6_sheet_63 rfl (lv_at hl 3 rfl) ?_
            exact W.eq (congrArg (fun z => F0 m 64 ls [.int z, .int p1, .ref (a 9)]) (if_pos q6).symm) J5
          · refine lv_iconst (v := 0) hx hb dX6_sheet_59 rfl ?_
            refine lv_goto (tgt := 64) hx hb dX6_sheet_60 rfl ?_
            exact W.eq (congrArg (fun z => F0 m 64 ls [.int z, .int p1, .ref (a 9)]) (if_neg q6).symm) J5
        · have hR := hR.trans (if_neg q4)
          refine lv_iload_n hx hb dX6_sheet_36 rfl (lv_at hl 3 rfl) ?_
          refine lv_if_ge (tgt := 43) hx hb dX6_sheet_37 rfl (fun q8 => ?_) (fun q8 => ?_)
          · have hR := hR.trans (if_pos q8)
            refine lv_aload_n hx hb dX6_sheet_43 rfl (lv_at hl 0 rfl) ?_
            refine va_get (D := xD E) (ci := 6) (v := .ref (a 8)) (C := RX6) (T := TX6) (N := 28) hx hb hts (by decide +kernel) hown hK hP 0 rfl rfl 11 (by decide) (hts (.fieldLink RX6 33 "RailOffsetsModel" "sorts" "[I") (by decide +kernel)) (fun _ h => h) rfl dX6_sheet_44 ?_
            refine lv_iload_n hx hb dX6_sheet_47 rfl (lv_at hl 1 rfl) ?_
            refine lv_iload_n hx hb dX6_sheet_48 rfl (lv_at hl 2 rfl) ?_
            refine va_iast hx hb hK hP (xD_of (ws := wM E a u) (A := (· ∈ LM a)) hL.1 (fun _ h => h)) hS 8 0 rfl rfl (xsh4 q1) dX6_sheet_49 (fun H locs hP _ hS => ?_)
            have hP : va_P (xD E) vwCl (wM E a (uA u 8 p1.toNatClampNeg p2)) H := hP
            refine lv_aload_n hx hb dX6_sheet_50 rfl (lv_at hl 0 rfl) ?_
            refine va_get (D := xD E) (ci := 6) (v := .ref (a 9)) (C := RX6) (T := TX6) (N := 28) hx hb hts (by decide +kernel) hown hK hP 0 rfl rfl 12 (by decide) (hts (.fieldLink RX6 36 "RailOffsetsModel" "sizes" "[I") (by decide +kernel)) (fun _ h => h) rfl dX6_sheet_51 ?_
            refine lv_iload_n hx hb dX6_sheet_54 rfl (lv_at hl 1 rfl) ?_
            refine lv_iload_n hx hb dX6_sheet_55 rfl (lv_at hl 2 rfl) ?_
            have J9 : W p l e rm_X6_sheet s m ([.ref (a 0), .int p1, .int p2, .int p3] : List Value).toArray below meth c H locs 0 0 (xQmd E below (LM a) (some (.int ((s_X6_sheet u p1 p2 p3).1))) (wM E a ((s_X6_sheet u p1 p2 p3).2)) ([.ref (a 0), .int p1, .int p2, .int p3] : List Value).toArray s) (F0 m 64 ls [.int (if 0 ≤ p2 then p3 else 0), .int p1, .ref (a 9)]) := by
              refine va_iast hx hb hK hP (xD_of (ws := wM E a (uA u 8 p1.toNatClampNeg p2)) (A := (· ∈ LM a)) hL.1 (fun _ h => h)) hS 9 0 rfl rfl (xsh4 q1) dX6_sheet_64 (fun H locs hP _ hS => ?_)
              have hP : va_P (xD E) vwCl (wM E a (uA (uA u 8 p1.toNatClampNeg p2) 9 p1.toNatClampNeg (if 0 ≤ p2 then p3 else 0))) H := hP
              refine lv_iconst (v := 0) hx hb dX6_sheet_65 rfl ?_
              refine lv_istore (lv' := [(4, .int 0), (0, .ref (a 0)), (1, .int p1), (2, .int p2), (3, .int p3)]) hx hb dX6_sheet_66 hl (by decide) rfl (fun ls hl => ?_)
              have L68 : ∀ (n68 : Nat) (u68 : xU) (x4 : Int32) (H : Heap) (locs : List Loc) (ls : Array Slot), (¬ x4 < 0) → ((40 : Int32).toInt - x4.toInt).toNat < n68 → s_X6_sheet u p1 p2 p3 = s_X6_sheet_L68 n68 u68 p1 p2 p3 x4 → lv_has ls 5 [(4, .int x4), (0, .ref (a 0)), (1, .int p1), (2, .int p2), (3, .int p3)] → va_P (xD E) vwCl (wM E a u68) H → va_S (· ∈ LM a) s.heap H locs → W p l e rm_X6_sheet s m ([.ref (a 0), .int p1, .int p2, .int p3] : List Value).toArray below meth c H locs 0 0 (xQmd E below (LM a) (some (.int ((s_X6_sheet u p1 p2 p3).1))) (wM E a ((s_X6_sheet u p1 p2 p3).2)) ([.ref (a 0), .int p1, .int p2, .int p3] : List Value).toArray s) (F0 m 68 ls []) := by
                intro n68
                induction n68 with
                | zero => intro u68 x4 H locs ls hI0 hM68 hR hl hP hS; exact absurd hM68 (Nat.not_lt_zero _)
                | succ n68 ih68 =>
                  intro u68 x4 H locs ls hI0 hM68 hR hl hP hS
                  refine lv_iload hx hb dX6_sheet_68 (lv_at hl 0 rfl) ?_
                  refine lv_bipush (v := 40) hx hb dX6_sheet_70 rfl ?_
                  refine lv_icmp_ge (tgt := 94) hx hb dX6_sheet_72 rfl (fun q11 => ?_) (fun q11 => ?_)
                  · have hR := hR.trans (if_pos q11)
                    refine lv_iconst (v := 1) hx hb dX6_sheet_94 rfl ?_
                    have hR : s_X6_sheet u p1 p2 p3 = (1, u68) := hR
                    exact W.iret (v := 1) hx hb hr (fun t ht _ => by rw [hR]; dsimp only; exact ⟨⟨rfl, by rw [ht]; exact hP⟩, hS.F ht⟩) hS.2.2 dX6_sheet_95
                  · have hR := hR.trans (if_neg q11)
                    refine lv_aload_n hx hb dX6_sheet_75 rfl (lv_at hl 1 rfl) ?_
                    refine va_get (D := xD E) (ci := 6) (v := .ref (a 10)) (C := RX6) (T := TX6) (N := 28) hx hb hts (by decide +kernel) hown hK hP 0 rfl rfl 13 (by decide) (hts (.fieldLink RX6 39 "RailOffsetsModel" "items" "[I") (by decide +kernel)) (fun _ h => h) rfl dX6_sheet_76 ?_
                    refine lv_bipush (v := 40) hx hb dX6_sheet_79 rfl ?_
                    refine lv_iload_n hx hb dX6_sheet_81 rfl (lv_at hl 2 rfl) ?_
                    refine lv_imul hx hb dX6_sheet_82 ?_
                    refine lv_iload hx hb dX6_sheet_83 (lv_at hl 0 rfl) ?_
                    refine lv_iadd hx hb dX6_sheet_85 ?_
                    refine lv_iconst (v := 0) hx hb dX6_sheet_86 rfl ?_
                    refine va_iast hx hb hK hP (xD_of (ws := wM E a u68) (A := (· ∈ LM a)) hL.1 (fun _ h => h)) hS 10 0 rfl rfl (xit q1 (x40 hI0 q11).1 (x40 hI0 q11).2) dX6_sheet_87 (fun H locs hP _ hS => ?_)
                    have hP : va_P (xD E) vwCl (wM E a (uA u68 10 ((40 * p1) + x4).toNatClampNeg 0)) H := hP
                    refine lv_iinc (k := 0) (v := x4 + 1) (lv' := [(4, .int (x4 + 1)), (0, .ref (a 0)), (1, .int p1), (2, .int p2), (3, .int p3)]) hx hb dX6_sheet_88 hl rfl rfl (by decide) rfl (fun ls hl => ?_)
                    refine lv_goto (tgt := 68) hx hb dX6_sheet_91 rfl ?_
                    exact ih68 (uA u68 10 ((40 * p1) + x4).toNatClampNeg 0) (x4 + 1) _ _ _ (xup0 hI0 q11) (Nat.lt_of_lt_of_le (xupc q11) (Nat.le_of_lt_succ hM68)) hR (lv_sub hl [0, 1, 2, 3, 4] rfl) hP hS
              exact L68 (((40 : Int32).toInt - (0 : Int32).toInt).toNat + 1) (uA (uA u 8 p1.toNatClampNeg p2) 9 p1.toNatClampNeg (if 0 ≤ p2 then p3 else 0)) 0 _ _ ls (by decide) (Nat.lt_succ_self _) hR hl hP hS
            refine lv_if_ge (tgt := 63) hx hb dX6_sheet_56 rfl (fun q10 => ?_) (fun q10 => ?_)
            · refine lv_iload_n hx hb dX6_sheet_63 rfl (lv_at hl 3 rfl) ?_
              exact W.eq (congrArg (fun z => F0 m 64 ls [.int z, .int p1, .ref (a 9)]) (if_pos q10).symm) J9
            · refine lv_iconst (v := 0) hx hb dX6_sheet_59 rfl ?_
              refine lv_goto (tgt := 64) hx hb dX6_sheet_60 rfl ?_
              exact W.eq (congrArg (fun z => F0 m 64 ls [.int z, .int p1, .ref (a 9)]) (if_neg q10).symm) J9
          · have hR := hR.trans (if_neg q8)
            refine lv_bipush (v := (-14)) hx hb dX6_sheet_40 rfl ?_
            have hR : s_X6_sheet u p1 p2 p3 = ((-14), u) := hR
            exact W.iret (v := (-14)) hx hb hr (fun t ht _ => by rw [hR]; dsimp only; exact ⟨⟨rfl, by rw [ht]; exact hP⟩, hS.F ht⟩) hS.2.2 dX6_sheet_42
      · have hR := hR.trans (if_neg q3)
        refine lv_iload_n hx hb dX6_sheet_23 rfl (lv_at hl 3 rfl) ?_
        refine lv_bipush (v := 40) hx hb dX6_sheet_24 rfl ?_
        refine lv_icmp_le (tgt := 32) hx hb dX6_sheet_26 rfl (fun q12 => ?_) (fun q12 => ?_)
        · have hR := hR.trans (if_pos q12)
          refine lv_iload_n hx hb dX6_sheet_32 rfl (lv_at hl 2 rfl) ?_
          refine lv_if_lt (tgt := 43) hx hb dX6_sheet_33 rfl (fun q13 => ?_) (fun q13 => ?_)
          · have hR := hR.trans (if_pos q13)
            refine lv_aload_n hx hb dX6_sheet_43 rfl (lv_at hl 0 rfl) ?_
            refine va_get (D := xD E) (ci := 6) (v := .ref (a 8)) (C := RX6) (T := TX6) (N := 28) hx hb hts (by decide +kernel) hown hK hP 0 rfl rfl 11 (by decide) (hts (.fieldLink RX6 33 "RailOffsetsModel" "sorts" "[I") (by decide +kernel)) (fun _ h => h) rfl dX6_sheet_44 ?_
            refine lv_iload_n hx hb dX6_sheet_47 rfl (lv_at hl 1 rfl) ?_
            refine lv_iload_n hx hb dX6_sheet_48 rfl (lv_at hl 2 rfl) ?_
            refine va_iast hx hb hK hP (xD_of (ws := wM E a u) (A := (· ∈ LM a)) hL.1 (fun _ h => h)) hS 8 0 rfl rfl (xsh4 q1) dX6_sheet_49 (fun H locs hP _ hS => ?_)
            have hP : va_P (xD E) vwCl (wM E a (uA u 8 p1.toNatClampNeg p2)) H := hP
            refine lv_aload_n hx hb dX6_sheet_50 rfl (lv_at hl 0 rfl) ?_
            refine va_get (D := xD E) (ci := 6) (v := .ref (a 9)) (C := RX6) (T := TX6) (N := 28) hx hb hts (by decide +kernel) hown hK hP 0 rfl rfl 12 (by decide) (hts (.fieldLink RX6 36 "RailOffsetsModel" "sizes" "[I") (by decide +kernel)) (fun _ h => h) rfl dX6_sheet_51 ?_
            refine lv_iload_n hx hb dX6_sheet_54 rfl (lv_at hl 1 rfl) ?_
            refine lv_iload_n hx hb dX6_sheet_55 rfl (lv_at hl 2 rfl) ?_
            have J14 : W p l e rm_X6_sheet s m ([.ref (a 0), .int p1, .int p2, .int p3] : List Value).toArray below meth c H locs 0 0 (xQmd E below (LM a) (some (.int ((s_X6_sheet u p1 p2 p3).1))) (wM E a ((s_X6_sheet u p1 p2 p3).2)) ([.ref (a 0), .int p1, .int p2, .int p3] : List Value).toArray s) (F0 m 64 ls [.int (if 0 ≤ p2 then p3 else 0), .int p1, .ref (a 9)]) := by
              refine va_iast hx hb hK hP (xD_of (ws := wM E a (uA u 8 p1.toNatClampNeg p2)) (A := (· ∈ LM a)) hL.1 (fun _ h => h)) hS 9 0 rfl rfl (xsh4 q1) dX6_sheet_64 (fun H locs hP _ hS => ?_)
              have hP : va_P (xD E) vwCl (wM E a (uA (uA u 8 p1.toNatClampNeg p2) 9 p1.toNatClampNeg (if 0 ≤ p2 then p3 else 0))) H := hP
              refine lv_iconst (v := 0) hx hb dX6_sheet_65 rfl ?_
              refine lv_istore (lv' := [(4, .int 0), (0, .ref (a 0)), (1, .int p1), (2, .int p2), (3, .int p3)]) hx hb dX6_sheet_66 hl (by decide) rfl (fun ls hl => ?_)
              have L68 : ∀ (n68 : Nat) (u68 : xU) (x4 : Int32) (H : Heap) (locs : List Loc) (ls : Array Slot), (¬ x4 < 0) → ((40 : Int32).toInt - x4.toInt).toNat < n68 → s_X6_sheet u p1 p2 p3 = s_X6_sheet_L68 n68 u68 p1 p2 p3 x4 → lv_has ls 5 [(4, .int x4), (0, .ref (a 0)), (1, .int p1), (2, .int p2), (3, .int p3)] → va_P (xD E) vwCl (wM E a u68) H → va_S (· ∈ LM a) s.heap H locs → W p l e rm_X6_sheet s m ([.ref (a 0), .int p1, .int p2, .int p3] : List Value).toArray below meth c H locs 0 0 (xQmd E below (LM a) (some (.int ((s_X6_sheet u p1 p2 p3).1))) (wM E a ((s_X6_sheet u p1 p2 p3).2)) ([.ref (a 0), .int p1, .int p2, .int p3] : List Value).toArray s) (F0 m 68 ls []) := by
                intro n68
                induction n68 with
                | zero => intro u68 x4 H locs ls hI0 hM68 hR hl hP hS; exact absurd hM68 (Nat.not_lt_zero _)
                | succ n68 ih68 =>
                  intro u68 x4 H locs ls hI0 hM68 hR hl hP hS
                  refine lv_iload hx hb dX6_sheet_68 (lv_at hl 0 rfl) ?_
                  refine lv_bipush (v := 40) hx hb dX6_sheet_70 rfl ?_
                  refine lv_icmp_ge (tgt := 94) hx hb dX6_sheet_72 rfl (fun q16 => ?_) (fun q16 => ?_)
                  · have hR := hR.trans (if_pos q16)
                    refine lv_iconst (v := 1) hx hb dX6_sheet_94 rfl ?_
                    have hR : s_X6_sheet u p1 p2 p3 = (1, u68) := hR
                    exact W.iret (v := 1) hx hb hr (fun t ht _ => by rw [hR]; dsimp only; exact ⟨⟨rfl, by rw [ht]; exact hP⟩, hS.F ht⟩) hS.2.2 dX6_sheet_95
                  · have hR := hR.trans (if_neg q16)
                    refine lv_aload_n hx hb dX6_sheet_75 rfl (lv_at hl 1 rfl) ?_
                    refine va_get (D := xD E) (ci := 6) (v := .ref (a 10)) (C := RX6) (T := TX6) (N := 28) hx hb hts (by decide +kernel) hown hK hP 0 rfl rfl 13 (by decide) (hts (.fieldLink RX6 39 "RailOffsetsModel" "items" "[I") (by decide +kernel)) (fun _ h => h) rfl dX6_sheet_76 ?_
                    refine lv_bipush (v := 40) hx hb dX6_sheet_79 rfl ?_
                    refine lv_iload_n hx hb dX6_sheet_81 rfl (lv_at hl 2 rfl) ?_
                    refine lv_imul hx hb dX6_sheet_82 ?_
                    refine lv_iload hx hb dX6_sheet_83 (lv_at hl 0 rfl) ?_
                    refine lv_iadd hx hb dX6_sheet_85 ?_
                    refine lv_iconst (v := 0) hx hb dX6_sheet_86 rfl ?_
                    refine va_iast hx hb hK hP (xD_of (ws := wM E a u68) (A := (· ∈ LM a)) hL.1 (fun _ h => h)) hS 10 0 rfl rfl (xit q1 (x40 hI0 q16).1 (x40 hI0 q16).2) dX6_sheet_87 (fun H locs hP _ hS => ?_)
                    have hP : va_P (xD E) vwCl (wM E a (uA u68 10 ((40 * p1) + x4).toNatClampNeg 0)) H := hP
                    refine lv_iinc (k := 0) (v := x4 + 1) (lv' := [(4, .int (x4 + 1)), (0, .ref (a 0)), (1, .int p1), (2, .int p2), (3, .int p3)]) hx hb dX6_sheet_88 hl rfl rfl (by decide) rfl (fun ls hl => ?_)
                    refine lv_goto (tgt := 68) hx hb dX6_sheet_91 rfl ?_
                    exact ih68 (uA u68 10 ((40 * p1) + x4).toNatClampNeg 0) (x4 + 1) _ _ _ (xup0 hI0 q16) (Nat.lt_of_lt_of_le (xupc q16) (Nat.le_of_lt_succ hM68)) hR (lv_sub hl [0, 1, 2, 3, 4] rfl) hP hS
              exact L68 (((40 : Int32).toInt - (0 : Int32).toInt).toNat + 1) (uA (uA u 8 p1.toNatClampNeg p2) 9 p1.toNatClampNeg (if 0 ≤ p2 then p3 else 0)) 0 _ _ ls (by decide) (Nat.lt_succ_self _) hR hl hP hS
            refine lv_if_ge (tgt := 63) hx hb dX6_sheet_56 rfl (fun q15 => ?_) (fun q15 => ?_)
            · refine lv_iload_n hx hb dX6_sheet_63 rfl (lv_at hl 3 rfl) ?_
              exact W.eq (congrArg (fun z => F0 m 64 ls [.int z, .int p1, .ref (a 9)]) (if_pos q15).symm) J14
            · refine lv_iconst (v := 0) hx hb dX6_sheet_59 rfl ?_
              refine lv_goto (tgt := 64) hx hb dX6_sheet_60 rfl ?_
              exact W.eq (congrArg (fun z => F0 m 64 ls [.int z, .int p1, .ref (a 9)]) (if_neg q15).symm) J14
          · have hR := hR.trans (if_neg q13)
            refine lv_iload_n hx hb dX6_sheet_36 rfl (lv_at hl 3 rfl) ?_
            refine lv_if_ge (tgt := 43) hx hb dX6_sheet_37 rfl (fun q17 => ?_) (fun q17 => ?_)
            · have hR := hR.trans (if_pos q17)
              refine lv_aload_n hx hb dX6_sheet_43 rfl (lv_at hl 0 rfl) ?_
              refine va_get (D := xD E) (ci := 6) (v := .ref (a 8)) (C := RX6) (T := TX6) (N := 28) hx hb hts (by decide +kernel) hown hK hP 0 rfl rfl 11 (by decide) (hts (.fieldLink RX6 33 "RailOffsetsModel" "sorts" "[I") (by decide +kernel)) (fun _ h => h) rfl dX6_sheet_44 ?_
              refine lv_iload_n hx hb dX6_sheet_47 rfl (lv_at hl 1 rfl) ?_
              refine lv_iload_n hx hb dX6_sheet_48 rfl (lv_at hl 2 rfl) ?_
              refine va_iast hx hb hK hP (xD_of (ws := wM E a u) (A := (· ∈ LM a)) hL.1 (fun _ h => h)) hS 8 0 rfl rfl (xsh4 q1) dX6_sheet_49 (fun H locs hP _ hS => ?_)
              have hP : va_P (xD E) vwCl (wM E a (uA u 8 p1.toNatClampNeg p2)) H := hP
              refine lv_aload_n hx hb dX6_sheet_50 rfl (lv_at hl 0 rfl) ?_
              refine va_get (D := xD E) (ci := 6) (v := .ref (a 9)) (C := RX6) (T := TX6) (N := 28) hx hb hts (by decide +kernel) hown hK hP 0 rfl rfl 12 (by decide) (hts (.fieldLink RX6 36 "RailOffsetsModel" "sizes" "[I") (by decide +kernel)) (fun _ h => h) rfl dX6_sheet_51 ?_
              refine lv_iload_n hx hb dX6_sheet_54 rfl (lv_at hl 1 rfl) ?_
              refine lv_iload_n hx hb dX6_sheet_55 rfl (lv_at hl 2 rfl) ?_
              have J18 : W p l e rm_X6_sheet s m ([.ref (a 0), .int p1, .int p2, .int p3] : List Value).toArray below meth c H locs 0 0 (xQmd E below (LM a) (some (.int ((s_X6_sheet u p1 p2 p3).1))) (wM E a ((s_X6_sheet u p1 p2 p3).2)) ([.ref (a 0), .int p1, .int p2, .int p3] : List Value).toArray s) (F0 m 64 ls [.int (if 0 ≤ p2 then p3 else 0), .int p1, .ref (a 9)]) := by
                refine va_iast hx hb hK hP (xD_of (ws := wM E a (uA u 8 p1.toNatClampNeg p2)) (A := (· ∈ LM a)) hL.1 (fun _ h => h)) hS 9 0 rfl rfl (xsh4 q1) dX6_sheet_64 (fun H locs hP _ hS => ?_)
                have hP : va_P (xD E) vwCl (wM E a (uA (uA u 8 p1.toNatClampNeg p2) 9 p1.toNatClampNeg (if 0 ≤ p2 then p3 else 0))) H := hP
                refine lv_iconst (v := 0) hx hb dX6_sheet_65 rfl ?_
                refine lv_istore (lv' := [(4, .int 0), (0, .ref (a 0)), (1, .int p1), (2, .int p2), (3, .int p3)]) hx hb dX6_sheet_66 hl (by decide) rfl (fun ls hl => ?_)
                have L68 : ∀ (n68 : Nat) (u68 : xU) (x4 : Int32) (H : Heap) (locs : List Loc) (ls : Array Slot), (¬ x4 < 0) → ((40 : Int32).toInt - x4.toInt).toNat < n68 → s_X6_sheet u p1 p2 p3 = s_X6_sheet_L68 n68 u68 p1 p2 p3 x4 → lv_has ls 5 [(4, .int x4), (0, .ref (a 0)), (1, .int p1), (2, .int p2), (3, .int p3)] → va_P (xD E) vwCl (wM E a u68) H → va_S (· ∈ LM a) s.heap H locs → W p l e rm_X6_sheet s m ([.ref (a 0), .int p1, .int p2, .int p3] : List Value).toArray below meth c H locs 0 0 (xQmd E below (LM a) (some (.int ((s_X6_sheet u p1 p2 p3).1))) (wM E a ((s_X6_sheet u p1 p2 p3).2)) ([.ref (a 0), .int p1, .int p2, .int p3] : List Value).toArray s) (F0 m 68 ls []) := by
                  intro n68
                  induction n68 with
                  | zero => intro u68 x4 H locs ls hI0 hM68 hR hl hP hS; exact absurd hM68 (Nat.not_lt_zero _)
                  | succ n68 ih68 =>
                    intro u68 x4 H locs ls hI0 hM68 hR hl hP hS
                    refine lv_iload hx hb dX6_sheet_68 (lv_at hl 0 rfl) ?_
                    refine lv_bipush (v := 40) hx hb dX6_sheet_70 rfl ?_
                    refine lv_icmp_ge (tgt := 94) hx hb dX6_sheet_72 rfl (fun q20 => ?_) (fun q20 => ?_)
                    · have hR := hR.trans (if_pos q20)
                      refine lv_iconst (v := 1) hx hb dX6_sheet_94 rfl ?_
                      have hR : s_X6_sheet u p1 p2 p3 = (1, u68) := hR
                      exact W.iret (v := 1) hx hb hr (fun t ht _ => by rw [hR]; dsimp only; exact ⟨⟨rfl, by rw [ht]; exact hP⟩, hS.F ht⟩) hS.2.2 dX6_sheet_95
                    · have hR := hR.trans (if_neg q20)
                      refine lv_aload_n hx hb dX6_sheet_75 rfl (lv_at hl 1 rfl) ?_
                      refine va_get (D := xD E) (ci := 6) (v := .ref (a 10)) (C := RX6) (T := TX6) (N := 28) hx hb hts (by decide +kernel) hown hK hP 0 rfl rfl 13 (by decide) (hts (.fieldLink RX6 39 "RailOffsetsModel" "items" "[I") (by decide +kernel)) (fun _ h => h) rfl dX6_sheet_76 ?_
                      refine lv_bipush (v := 40) hx hb dX6_sheet_79 rfl ?_
                      refine lv_iload_n hx hb dX6_sheet_81 rfl (lv_at hl 2 rfl) ?_
                      refine lv_imul hx hb dX6_sheet_82 ?_
                      refine lv_iload hx hb dX6_sheet_83 (lv_at hl 0 rfl) ?_
                      refine lv_iadd hx hb dX6_sheet_85 ?_
                      refine lv_iconst (v := 0) hx hb dX6_sheet_86 rfl ?_
                      refine va_iast hx hb hK hP (xD_of (ws := wM E a u68) (A := (· ∈ LM a)) hL.1 (fun _ h => h)) hS 10 0 rfl rfl (xit q1 (x40 hI0 q20).1 (x40 hI0 q20).2) dX6_sheet_87 (fun H locs hP _ hS => ?_)
                      have hP : va_P (xD E) vwCl (wM E a (uA u68 10 ((40 * p1) + x4).toNatClampNeg 0)) H := hP
                      refine lv_iinc (k := 0) (v := x4 + 1) (lv' := [(4, .int (x4 + 1)), (0, .ref (a 0)), (1, .int p1), (2, .int p2), (3, .int p3)]) hx hb dX6_sheet_88 hl rfl rfl (by decide) rfl (fun ls hl => ?_)
                      refine lv_goto (tgt := 68) hx hb dX6_sheet_91 rfl ?_
                      exact ih68 (uA u68 10 ((40 * p1) + x4).toNatClampNeg 0) (x4 + 1) _ _ _ (xup0 hI0 q20) (Nat.lt_of_lt_of_le (xupc q20) (Nat.le_of_lt_succ hM68)) hR (lv_sub hl [0, 1, 2, 3, 4] rfl) hP hS
                exact L68 (((40 : Int32).toInt - (0 : Int32).toInt).toNat + 1) (uA (uA u 8 p1.toNatClampNeg p2) 9 p1.toNatClampNeg (if 0 ≤ p2 then p3 else 0)) 0 _ _ ls (by decide) (Nat.lt_succ_self _) hR hl hP hS
              refine lv_if_ge (tgt := 63) hx hb dX6_sheet_56 rfl (fun q19 => ?_) (fun q19 => ?_)
              · refine lv_iload_n hx hb dX6_sheet_63 rfl (lv_at hl 3 rfl) ?_
                exact W.eq (congrArg (fun z => F0 m 64 ls [.int z, .int p1, .ref (a 9)]) (if_pos q19).symm) J18
              · refine lv_iconst (v := 0) hx hb dX6_sheet_59 rfl ?_
                refine lv_goto (tgt := 64) hx hb dX6_sheet_60 rfl ?_
                exact W.eq (congrArg (fun z => F0 m 64 ls [.int z, .int p1, .ref (a 9)]) (if_neg q19).symm) J18
            · have hR := hR.trans (if_neg q17)
              refine lv_bipush (v := (-14)) hx hb dX6_sheet_40 rfl ?_
              have hR : s_X6_sheet u p1 p2 p3 = ((-14), u) := hR
              exact W.iret (v := (-14)) hx hb hr (fun t ht _ => by rw [hR]; dsimp only; exact ⟨⟨rfl, by rw [ht]; exact hP⟩, hS.F ht⟩) hS.2.2 dX6_sheet_42
        · have hR := hR.trans (if_neg q12)
          refine lv_bipush (v := (-2)) hx hb dX6_sheet_29 rfl ?_
          have hR : s_X6_sheet u p1 p2 p3 = ((-2), u) := hR
          exact W.iret (v := (-2)) hx hb hr (fun t ht _ => by rw [hR]; dsimp only; exact ⟨⟨rfl, by rw [ht]; exact hP⟩, hS.F ht⟩) hS.2.2 dX6_sheet_31
