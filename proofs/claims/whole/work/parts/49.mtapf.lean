theorem xnh0 {u : xU} (h : XTq u) : XTv (u.1 15) (u.1 16) (u.1 17) (u.2 4) ((u.2 5) + (if (if (s_X6_here u) = 45 then 1 else 0 : Int32) = 0 then 0 else 1)) := by
  by_cases e : s_X6_here u = 45
  · rw [if_pos e, if_neg (by decide)]
    exact xtq1 h (xheq e (by decide))
  · rw [if_neg e, if_pos rfl, Int32.add_zero]
    exact h
theorem xtw0 {u : xU} (h : XTq u) : XTwv (u.1 15) (u.1 16) (u.1 17) (u.2 4) (u.2 5) (u.2 5) := ⟨h, h.2.1, Int.le_refl _⟩
theorem xtz {u : xU} {X : Int32} (h : XTv (u.1 15) (u.1 16) (u.1 17) (u.2 4) X) : XTq (uZ (uZ u 5 X) 8 0) := h
theorem xtz2 {u : xU} {X Y : Int32} (h : XTv (u.1 15) (u.1 16) (u.1 17) (u.2 4) X) : XTq (uZ (uZ u 8 Y) 5 X) := h
theorem xtd2 {u : xU} {X Y : Int32} (h : ((u.2 4).toInt - X.toInt).toNat < ((u.2 4).toInt - (u.2 5).toInt).toNat) : (((uZ (uZ u 8 Y) 5 X).2 4).toInt - ((uZ (uZ u 8 Y) 5 X).2 5).toInt).toNat < ((u.2 4).toInt - (u.2 5).toInt).toNat := h
def s_X6_numberHere_L40 : Nat → xU → Int32 → Int32 → Int32 × xU
  | 0, u, _, _ => (0, u)
  | n + 1, u, x1, x2 =>
    if (s_X6_in u ((s_X6_here u).toInt64) 48 57) = 0 then
      if (s_X6_in u x2.toInt64 1 3) = 0 then
        (13, uZ u 8 (if x1 = 0 then u.2 8 else -(u.2 8)))
      else
        (10, uZ u 8 (if x1 = 0 then u.2 8 else -(u.2 8)))
    else
      s_X6_numberHere_L40 n (uZ (uZ u 8 (if 3 ≤ x2 then u.2 8 else ((10 * (u.2 8)) + (s_X6_here u)) - 48)) 5 ((u.2 5) + 1)) x1 (x2 + 1)
def s_X6_numberHere (u : xU) : Int32 × xU :=
  s_X6_numberHere_L40 ((((uZ (uZ u 5 ((u.2 5) + (if (if (s_X6_here u) = 45 then 1 else 0 : Int32) = 0 then 0 else 1))) 8 0).2 4).toInt - ((uZ (uZ u 5 ((u.2 5) + (if (if (s_X6_here u) = 45 then 1 else 0 : Int32) = 0 then 0 else 1))) 8 0).2 5).toInt).toNat + 1) (uZ (uZ u 5 ((u.2 5) + (if (if (s_X6_here u) = 45 then 1 else 0 : Int32) = 0 then 0 else 1))) 8 0) (if (s_X6_here u) = 45 then 1 else 0) 0
abbrev rm_X6_numberHere : Room := { frames := 1, cells := 0, slots := 0, locals := 25 }
set_option maxHeartbeats 8000000 in
set_option maxRecDepth 100000 in
theorem c_X6_numberHere (l : Launch) (E : xG) (a : Nat → Nat) (u : xU)  (hp0 : XTq u) (hL : xOK E (LM a)) : xMd l E yX6_numberHere wsX6_numberHere rm_X6_numberHere (LM a) [.ref (a 0)] (wM E a u) (some (.int ((s_X6_numberHere u).1))) (wM E a ((s_X6_numberHere u).2)) := by
  refine xMd.of (cc := cX6_numberHere) (maxL := 3) (ret := (some .int)) (by decide) rfl (Nat.le_of_ble_eq_true rfl) ?_
  intro p e s m below meth c ls hAt hF hP hS hl
  obtain ⟨hx, hb, hr, hml, hown, hts, hlocks, -⟩ := hAt
  have hown : s.vm.findClass RX6 = some m.cls := hown
  have hl : lv_has ls 3 [(0, .ref (a 0))] := hl
  have hK := hF.1
  have hA := hL.2
  change W p l e rm_X6_numberHere s m ([.ref (a 0)] : List Value).toArray below meth c s.heap [] 0 0 (xQmd E below (LM a) (some (.int ((s_X6_numberHere u).1))) (wM E a ((s_X6_numberHere u).2)) ([.ref (a 0)] : List Value).toArray s) _
  have hS : va_S (· ∈ LM a) s.heap s.heap [] := hS
  have hR : s_X6_numberHere u = s_X6_numberHere u := rfl
  refine lv_aload_n hx hb dX6_numberHere_0 rfl (lv_at hl 0 rfl) ?_
  refine xRoV (nL := 3) ⟨hx, hb, hml, hown, hts⟩ (c_X6_here l E a u  (hp0)) (cwV 0 hts gX6_numberHere_X6_here rfl rfl rfl ⟨rfl, hd_X6_here⟩ ⟨(Nat.le_of_ble_eq_true rfl), (Nat.le_of_ble_eq_true rfl)⟩) hF hS hA hP (va_recv (q := (RX6, TX6, 28)) hK hP (ci := 6) rfl (q0 := 0) rfl) rfl hl.1 rfl (Nat.le_of_ble_eq_true rfl) ⟨(Nat.le_of_ble_eq_true rfl), (Nat.le_of_ble_eq_true rfl)⟩ dX6_numberHere_1 ?_
  refine W.eq (g2 := F0 m 4 ls [.int (s_X6_here u)]) rfl ?_
  refine lv_bipush (v := 45) hx hb dX6_numberHere_4 rfl ?_
  have J1 : W p l e rm_X6_numberHere s m ([.ref (a 0)] : List Value).toArray below meth c s.heap [] 0 0 (xQmd E below (LM a) (some (.int ((s_X6_numberHere u).1))) (wM E a ((s_X6_numberHere u).2)) ([.ref (a 0)] : List Value).toArray s) (F0 m 14 ls [.int (if (s_X6_here u) = 45 then 1 else 0)]) := by
    refine lv_istore_n (lv' := [(1, .int (if (s_X6_here u) = 45 then 1 else 0)), (0, .ref (a 0))]) hx hb dX6_numberHere_14 rfl hl (by decide) rfl (fun ls hl => ?_)
    refine lv_aload_n hx hb dX6_numberHere_15 rfl (lv_at hl 1 rfl) ?_
    refine lv_dup hx hb dX6_numberHere_16 rfl ?_
    refine va_get (D := xD E) (ci := 6) (v := .int (u.2 5)) (C := RX6) (T := TX6) (N := 28) hx hb hts (by decide +kernel) hown hK hP 0 rfl rfl 22 (by decide) (hts (.fieldLink RX6 245 "RailOffsetsModel" "at" "I") (by decide +kernel)) (fun _ h => h) rfl dX6_numberHere_17 ?_
    refine lv_iload_n hx hb dX6_numberHere_20 rfl (lv_at hl 0 rfl) ?_
    have J3 : W p l e rm_X6_numberHere s m ([.ref (a 0)] : List Value).toArray below meth c s.heap [] 0 0 (xQmd E below (LM a) (some (.int ((s_X6_numberHere u).1))) (wM E a ((s_X6_numberHere u).2)) ([.ref (a 0)] : List Value).toArray s) (F0 m 29 ls [.int (if (if (s_X6_here u) = 45 then 1 else 0 : Int32) = 0 then 0 else 1), .int (u.2 5), .ref (a 0)]) := by
      refine lv_iadd hx hb dX6_numberHere_29 ?_
      refine va_put (D := xD E) (ci := 6) (v := .int ((u.2 5) + (if (if (s_X6_here u) = 45 then 1 else 0 : Int32) = 0 then 0 else 1))) (ty := .int) (C := RX6) (T := TX6) (N := 28) hx hb hts (by decide +kernel) tyX6 tyX6_ok nmX6 hown hK hP (xD_of (ws := wM E a u) (A := (· ∈ LM a)) hL.1 (fun _ h => h)) hS 0 rfl rfl 22 (by decide) (hts (.fieldLink RX6 245 "RailOffsetsModel" "at" "I") (by decide +kernel)) (fun _ h => h) rfl (by decide +kernel) rfl rfl (Nat.le_of_ble_eq_true rfl) dX6_numberHere_30 (fun H locs hP _ hS => ?_)
      have hP : va_P (xD E) vwCl (wM E a (uZ u 5 ((u.2 5) + (if (if (s_X6_here u) = 45 then 1 else 0 : Int32) = 0 then 0 else 1)))) H := hP
      refine lv_iconst (v := 0) hx hb dX6_numberHere_33 rfl ?_
      refine lv_istore_n (lv' := [(2, .int 0), (1, .int (if (s_X6_here u) = 45 then 1 else 0)), (0, .ref (a 0))]) hx hb dX6_numberHere_34 rfl hl (by decide) rfl (fun ls hl => ?_)
      refine lv_aload_n hx hb dX6_numberHere_35 rfl (lv_at hl 2 rfl) ?_
      refine lv_iconst (v := 0) hx hb dX6_numberHere_36 rfl ?_
      refine va_put (D := xD E) (ci := 6) (v := .int 0) (ty := .int) (C := RX6) (T := TX6) (N := 28) hx hb hts (by decide +kernel) tyX6 tyX6_ok nmX6 hown hK hP (xD_of (ws := wM E a (uZ u 5 ((u.2 5) + (if (if (s_X6_here u) = 45 then 1 else 0 : Int32) = 0 then 0 else 1)))) (A := (· ∈ LM a)) hL.1 (fun _ h => h)) hS 0 rfl rfl 25 (by decide) (hts (.fieldLink RX6 258 "RailOffsetsModel" "number" "I") (by decide +kernel)) (fun _ h => h) rfl (by decide +kernel) rfl rfl (Nat.le_of_ble_eq_true rfl) dX6_numberHere_37 (fun H locs hP _ hS => ?_)
      have hP : va_P (xD E) vwCl (wM E a (uZ (uZ u 5 ((u.2 5) + (if (if (s_X6_here u) = 45 then 1 else 0 : Int32) = 0 then 0 else 1))) 8 0)) H := hP
      have L40 : ∀ (n40 : Nat) (u40 : xU) (x2 : Int32) (H : Heap) (locs : List Loc) (ls : Array Slot), (XTq u40) → ((u40.2 4).toInt - (u40.2 5).toInt).toNat < n40 → s_X6_numberHere u = s_X6_numberHere_L40 n40 u40 (if (s_X6_here u) = 45 then 1 else 0) x2 → lv_has ls 3 [(2, .int x2), (1, .int (if (s_X6_here u) = 45 then 1 else 0)), (0, .ref (a 0))] → va_P (xD E) vwCl (wM E a u40) H → va_S (· ∈ LM a) s.heap H locs → W p l e rm_X6_numberHere s m ([.ref (a 0)] : List Value).toArray below meth c H locs 0 0 (xQmd E below (LM a) (some (.int ((s_X6_numberHere u).1))) (wM E a ((s_X6_numberHere u).2)) ([.ref (a 0)] : List Value).toArray s) (F0 m 40 ls []) := by
        intro n40
        induction n40 with
        | zero => intro u40 x2 H locs ls hI0 hM40 hR hl hP hS; exact absurd hM40 (Nat.not_lt_zero _)
        | succ n40 ih40 =>
          intro u40 x2 H locs ls hI0 hM40 hR hl hP hS
          refine lv_aload_n hx hb dX6_numberHere_40 rfl (lv_at hl 2 rfl) ?_
          refine xRoV (nL := 3) ⟨hx, hb, hml, hown, hts⟩ (c_X6_here l E a u40  (hI0)) (cwV 0 hts gX6_numberHere_X6_here rfl rfl rfl ⟨rfl, hd_X6_here⟩ ⟨(Nat.le_of_ble_eq_true rfl), (Nat.le_of_ble_eq_true rfl)⟩) hF hS hA hP (va_recv (q := (RX6, TX6, 28)) hK hP (ci := 6) rfl (q0 := 0) rfl) rfl hl.1 rfl (Nat.le_of_ble_eq_true rfl) ⟨(Nat.le_of_ble_eq_true rfl), (Nat.le_of_ble_eq_true rfl)⟩ dX6_numberHere_41 ?_
          refine W.eq (g2 := F0 m 44 ls [.int (s_X6_here u40)]) rfl ?_
          refine lv_i2l hx hb dX6_numberHere_44 rfl ?_
          refine lv_ldc2 (v := 48) hx hb hown (hts (.constantLong RX6 261 (48)) (by decide +kernel)) dX6_numberHere_45 ?_
          refine lv_ldc2 (v := 57) hx hb hown (hts (.constantLong RX6 263 (57)) (by decide +kernel)) dX6_numberHere_48 ?_
          refine xRoS (nL := 3) ⟨hx, hb, hml, hown, hts⟩ (c_X6_in l E a u40 ((s_X6_here u40).toInt64) 48 57) (va_cwS 3 hts gX6_numberHere_X6_in rfl rfl rfl hd_X6_in ⟨(Nat.le_of_ble_eq_true rfl), (Nat.le_of_ble_eq_true rfl)⟩) hF hS hA hP rfl hl.1 rfl (Nat.le_of_ble_eq_true rfl) ⟨(Nat.le_of_ble_eq_true rfl), (Nat.le_of_ble_eq_true rfl)⟩ dX6_numberHere_51 ?_
          refine W.eq (g2 := F0 m 54 ls [.int (s_X6_in u40 ((s_X6_here u40).toInt64) 48 57)]) rfl ?_
          refine lv_if_eq (tgt := 104) hx hb dX6_numberHere_54 rfl (fun q5 => ?_) (fun q5 => ?_)
          · have hR := hR.trans (if_pos q5)
            refine lv_aload_n hx hb dX6_numberHere_104 rfl (lv_at hl 2 rfl) ?_
            refine lv_iload_n hx hb dX6_numberHere_105 rfl (lv_at hl 1 rfl) ?_
            have J6 : W p l e rm_X6_numberHere s m ([.ref (a 0)] : List Value).toArray below meth c H locs 0 0 (xQmd E below (LM a) (some (.int ((s_X6_numberHere u).1))) (wM E a ((s_X6_numberHere u).2)) ([.ref (a 0)] : List Value).toArray s) (F0 m 121 ls [.int (if (if (s_X6_here u) = 45 then 1 else 0 : Int32) = 0 then u40.2 8 else -(u40.2 8)), .ref (a 0)]) := by
              refine va_put (D := xD E) (ci := 6) (v := .int (if (if (s_X6_here u) = 45 then 1 else 0 : Int32) = 0 then u40.2 8 else -(u40.2 8))) (ty := .int) (C := RX6) (T := TX6) (N := 28) hx hb hts (by decide +kernel) tyX6 tyX6_ok nmX6 hown hK hP (xD_of (ws := wM E a u40) (A := (· ∈ LM a)) hL.1 (fun _ h => h)) hS 0 rfl rfl 25 (by decide) (hts (.fieldLink RX6 258 "RailOffsetsModel" "number" "I") (by decide +kernel)) (fun _ h => h) rfl (by decide +kernel) rfl rfl (Nat.le_of_ble_eq_true rfl) dX6_numberHere_121 (fun H locs hP _ hS => ?_)
              have hP : va_P (xD E) vwCl (wM E a (uZ u40 8 (if (if (s_X6_here u) = 45 then 1 else 0 : Int32) = 0 then u40.2 8 else -(u40.2 8)))) H := hP
              refine lv_iload_n hx hb dX6_numberHere_124 rfl (lv_at hl 0 rfl) ?_
              refine lv_i2l hx hb dX6_numberHere_125 rfl ?_
              refine lv_lconst (v := 1) hx hb dX6_numberHere_126 rfl ?_
              refine lv_ldc2 (v := 3) hx hb hown (hts (.constantLong RX6 89 (3)) (by decide +kernel)) dX6_numberHere_127 ?_
              refine xRoS (nL := 3) ⟨hx, hb, hml, hown, hts⟩ (c_X6_in l E a (uZ u40 8 (if (if (s_X6_here u) = 45 then 1 else 0 : Int32) = 0 then u40.2 8 else -(u40.2 8))) x2.toInt64 1 3) (va_cwS 3 hts gX6_numberHere_X6_in rfl rfl rfl hd_X6_in ⟨(Nat.le_of_ble_eq_true rfl), (Nat.le_of_ble_eq_true rfl)⟩) hF hS hA hP rfl hl.1 rfl (Nat.le_of_ble_eq_true rfl) ⟨(Nat.le_of_ble_eq_true rfl), (Nat.le_of_ble_eq_true rfl)⟩ dX6_numberHere_130 ?_
              refine W.eq (g2 := F0 m 133 ls [.int (s_X6_in u40 x2.toInt64 1 3)]) rfl ?_
              refine lv_if_eq (tgt := 141) hx hb dX6_numberHere_133 rfl (fun q8 => ?_) (fun q8 => ?_)
              · have hR := hR.trans (if_pos q8)
                refine lv_bipush (v := 13) hx hb dX6_numberHere_141 rfl ?_
                have hR : s_X6_numberHere u = (13, uZ u40 8 (if (if (s_X6_here u) = 45 then 1 else 0 : Int32) = 0 then u40.2 8 else -(u40.2 8))) := hR
                exact W.iret (v := 13) hx hb hr (fun t ht _ => by rw [hR]; dsimp only; exact ⟨⟨rfl, by rw [ht]; exact hP⟩, hS.F ht⟩) hS.2.2 dX6_numberHere_143
              · have hR := hR.trans (if_neg q8)
                refine lv_bipush (v := 10) hx hb dX6_numberHere_136 rfl ?_
                refine lv_goto (tgt := 143) hx hb dX6_numberHere_138 rfl ?_
                have hR : s_X6_numberHere u = (10, uZ u40 8 (if (if (s_X6_here u) = 45 then 1 else 0 : Int32) = 0 then u40.2 8 else -(u40.2 8))) := hR
                exact W.iret (v := 10) hx hb hr (fun t ht _ => by rw [hR]; dsimp only; exact ⟨⟨rfl, by rw [ht]; exact hP⟩, hS.F ht⟩) hS.2.2 dX6_numberHere_143
            refine lv_if_eq (tgt := 117) hx hb dX6_numberHere_106 rfl (fun q7 => ?_) (fun q7 => ?_)
            · refine lv_aload_n hx hb dX6_numberHere_117 rfl (lv_at hl 2 rfl) ?_
              refine va_get (D := xD E) (ci := 6) (v := .int (u40.2 8)) (C := RX6) (T := TX6) (N := 28) hx hb hts (by decide +kernel) hown hK hP 0 rfl rfl 25 (by decide) (hts (.fieldLink RX6 258 "RailOffsetsModel" "number" "I") (by decide +kernel)) (fun _ h => h) rfl dX6_numberHere_118 ?_
              exact W.eq (congrArg (fun z => F0 m 121 ls [.int z, .ref (a 0)]) (if_pos q7).symm) J6
            · refine lv_aload_n hx hb dX6_numberHere_109 rfl (lv_at hl 2 rfl) ?_
              refine va_get (D := xD E) (ci := 6) (v := .int (u40.2 8)) (C := RX6) (T := TX6) (N := 28) hx hb hts (by decide +kernel) hown hK hP 0 rfl rfl 25 (by decide) (hts (.fieldLink RX6 258 "RailOffsetsModel" "number" "I") (by decide +kernel)) (fun _ h => h) rfl dX6_numberHere_110 ?_
              refine lv_ineg hx hb dX6_numberHere_113 ?_
              refine lv_goto (tgt := 121) hx hb dX6_numberHere_114 rfl ?_
              exact W.eq (congrArg (fun z => F0 m 121 ls [.int z, .ref (a 0)]) (if_neg q7).symm) J6
          · have hR := hR.trans (if_neg q5)
            refine lv_aload_n hx hb dX6_numberHere_57 rfl (lv_at hl 2 rfl) ?_
            refine lv_iload_n hx hb dX6_numberHere_58 rfl (lv_at hl 0 rfl) ?_
            refine lv_iconst (v := 3) hx hb dX6_numberHere_59 rfl ?_
            have J9 : W p l e rm_X6_numberHere s m ([.ref (a 0)] : List Value).toArray below meth c H locs 0 0 (xQmd E below (LM a) (some (.int ((s_X6_numberHere u).1))) (wM E a ((s_X6_numberHere u).2)) ([.ref (a 0)] : List Value).toArray s) (F0 m 85 ls [.int (if 3 ≤ x2 then u40.2 8 else ((10 * (u40.2 8)) + (s_X6_here u40)) - 48), .ref (a 0)]) := by
              refine va_put (D := xD E) (ci := 6) (v := .int (if 3 ≤ x2 then u40.2 8 else ((10 * (u40.2 8)) + (s_X6_here u40)) - 48)) (ty := .int) (C := RX6) (T := TX6) (N := 28) hx hb hts (by decide +kernel) tyX6 tyX6_ok nmX6 hown hK hP (xD_of (ws := wM E a u40) (A := (· ∈ LM a)) hL.1 (fun _ h => h)) hS 0 rfl rfl 25 (by decide) (hts (.fieldLink RX6 258 "RailOffsetsModel" "number" "I") (by decide +kernel)) (fun _ h => h) rfl (by decide +kernel) rfl rfl (Nat.le_of_ble_eq_true rfl) dX6_numberHere_85 (fun H locs hP _ hS => ?_)
              have hP : va_P (xD E) vwCl (wM E a (uZ u40 8 (if 3 ≤ x2 then u40.2 8 else ((10 * (u40.2 8)) + (s_X6_here u40)) - 48))) H := hP
              refine lv_iinc (k := 0) (v := x2 + 1) (lv' := [(2, .int (x2 + 1)), (1, .int (if (s_X6_here u) = 45 then 1 else 0)), (0, .ref (a 0))]) hx hb dX6_numberHere_88 hl rfl rfl (by decide) rfl (fun ls hl => ?_)
              refine lv_aload_n hx hb dX6_numberHere_91 rfl (lv_at hl 2 rfl) ?_
              refine lv_dup hx hb dX6_numberHere_92 rfl ?_
              refine va_get (D := xD E) (ci := 6) (v := .int ((uZ u40 8 (if 3 ≤ x2 then u40.2 8 else ((10 * (u40.2 8)) + (s_X6_here u40)) - 48)).2 5)) (C := RX6) (T := TX6) (N := 28) hx hb hts (by decide +kernel) hown hK hP 0 rfl rfl 22 (by decide) (hts (.fieldLink RX6 245 "RailOffsetsModel" "at" "I") (by decide +kernel)) (fun _ h => h) rfl dX6_numberHere_93 ?_
              refine W.eq (g2 := F0 m 96 ls [.int (u40.2 5), .ref (a 0)]) rfl ?_
              refine lv_iconst (v := 1) hx hb dX6_numberHere_96 rfl ?_
              refine lv_iadd hx hb dX6_numberHere_97 ?_
              refine va_put (D := xD E) (ci := 6) (v := .int ((u40.2 5) + 1)) (ty := .int) (C := RX6) (T := TX6) (N := 28) hx hb hts (by decide +kernel) tyX6 tyX6_ok nmX6 hown hK hP (xD_of (ws := wM E a (uZ u40 8 (if 3 ≤ x2 then u40.2 8 else ((10 * (u40.2 8)) + (s_X6_here u40)) - 48))) (A := (· ∈ LM a)) hL.1 (fun _ h => h)) hS 0 rfl rfl 22 (by decide) (hts (.fieldLink RX6 245 "RailOffsetsModel" "at" "I") (by decide +kernel)) (fun _ h => h) rfl (by decide +kernel) rfl rfl (Nat.le_of_ble_eq_true rfl) dX6_numberHere_98 (fun H locs hP _ hS => ?_)
              have hP : va_P (xD E) vwCl (wM E a (uZ (uZ u40 8 (if 3 ≤ x2 then u40.2 8 else ((10 * (u40.2 8)) + (s_X6_here u40)) - 48)) 5 ((u40.2 5) + 1))) H := hP
              refine lv_goto (tgt := 40) hx hb dX6_numberHere_101 rfl ?_
              exact ih40 (uZ (uZ u40 8 (if 3 ≤ x2 then u40.2 8 else ((10 * (u40.2 8)) + (s_X6_here u40)) - 48)) 5 ((u40.2 5) + 1)) (x2 + 1) _ _ _ (xtz2 (u := u40) (xtq1 (u := u40) hI0 (xhin (u := u40) q5 (by decide)))) (Nat.lt_of_lt_of_le (xtd2 (u := u40) (xtd1 (u := u40) hI0 (xhin (u := u40) q5 (by decide)))) (Nat.le_of_lt_succ hM40)) hR (lv_sub hl [0, 1, 2] rfl) hP hS
            refine lv_icmp_ge (tgt := 81) hx hb dX6_numberHere_60 rfl (fun q10 => ?_) (fun q10 => ?_)
            · refine lv_aload_n hx hb dX6_numberHere_81 rfl (lv_at hl 2 rfl) ?_
              refine va_get (D := xD E) (ci := 6) (v := .int (u40.2 8)) (C := RX6) (T := TX6) (N := 28) hx hb hts (by decide +kernel) hown hK hP 0 rfl rfl 25 (by decide) (hts (.fieldLink RX6 258 "RailOffsetsModel" "number" "I") (by decide +kernel)) (fun _ h => h) rfl dX6_numberHere_82 ?_
              exact W.eq (congrArg (fun z => F0 m 85 ls [.int z, .ref (a 0)]) (if_pos q10).symm) J9
            · refine lv_bipush (v := 10) hx hb dX6_numberHere_63 rfl ?_
              refine lv_aload_n hx hb dX6_numberHere_65 rfl (lv_at hl 2 rfl) ?_
              refine va_get (D := xD E) (ci := 6) (v := .int (u40.2 8)) (C := RX6) (T := TX6) (N := 28) hx hb hts (by decide +kernel) hown hK hP 0 rfl rfl 25 (by decide) (hts (.fieldLink RX6 258 "RailOffsetsModel" "number" "I") (by decide +kernel)) (fun _ h => h) rfl dX6_numberHere_66 ?_
              refine lv_imul hx hb dX6_numberHere_69 ?_
              refine lv_aload_n hx hb dX6_numberHere_70 rfl (lv_at hl 2 rfl) ?_
              refine xRoV (nL := 3) ⟨hx, hb, hml, hown, hts⟩ (c_X6_here l E a u40  (hI0)) (cwV 0 hts gX6_numberHere_X6_here rfl rfl rfl ⟨rfl, hd_X6_here⟩ ⟨(Nat.le_of_ble_eq_true rfl), (Nat.le_of_ble_eq_true rfl)⟩) hF hS hA hP (va_recv (q := (RX6, TX6, 28)) hK hP (ci := 6) rfl (q0 := 0) rfl) rfl hl.1 rfl (Nat.le_of_ble_eq_true rfl) ⟨(Nat.le_of_ble_eq_true rfl), (Nat.le_of_ble_eq_true rfl)⟩ dX6_numberHere_71 ?_
              refine W.eq (g2 := F0 m 74 ls [.int (s_X6_here u40), .int (10 * (u40.2 8)), .ref (a 0)]) rfl ?_
              refine lv_iadd hx hb dX6_numberHere_74 ?_
              refine lv_bipush (v := 48) hx hb dX6_numberHere_75 rfl ?_
              refine lv_isub hx hb dX6_numberHere_77 ?_
              refine lv_goto (tgt := 85) hx hb dX6_numberHere_78 rfl ?_
              exact W.eq (congrArg (fun z => F0 m 85 ls [.int z, .ref (a 0)]) (if_neg q10).symm) J9
      exact L40 ((((uZ (uZ u 5 ((u.2 5) + (if (if (s_X6_here u) = 45 then 1 else 0 : Int32) = 0 then 0 else 1))) 8 0).2 4).toInt - ((uZ (uZ u 5 ((u.2 5) + (if (if (s_X6_here u) = 45 then 1 else 0 : Int32) = 0 then 0 else 1))) 8 0).2 5).toInt).toNat + 1) (uZ (uZ u 5 ((u.2 5) + (if (if (s_X6_here u) = 45 then 1 else 0 : Int32) = 0 then 0 else 1))) 8 0) 0 _ _ ls (xtz (u := u) (xnh0 (u := u) hp0)) (Nat.lt_succ_self _) hR hl hP hS
    refine lv_if_eq (tgt := 28) hx hb dX6_numberHere_21 rfl (fun q4 => ?_) (fun q4 => ?_)
    · refine lv_iconst (v := 0) hx hb dX6_numberHere_28 rfl ?_
      exact W.eq (congrArg (fun z => F0 m 29 ls [.int z, .int (u.2 5), .ref (a 0)]) (if_pos q4).symm) J3
    · refine lv_iconst (v := 1) hx hb dX6_numberHere_24 rfl ?_
      refine lv_goto (tgt := 29) hx hb dX6_numberHere_25 rfl ?_
      exact W.eq (congrArg (fun z => F0 m 29 ls [.int z, .int (u.2 5), .ref (a 0)]) (if_neg q4).symm) J3
  refine lv_icmp_ne (tgt := 13) hx hb dX6_numberHere_6 rfl (fun q2 => ?_) (fun q2 => ?_)
  · refine lv_iconst (v := 0) hx hb dX6_numberHere_13 rfl ?_
    exact W.eq (congrArg (fun z => F0 m 14 ls [.int z]) (if_neg q2).symm) J1
  · refine lv_iconst (v := 1) hx hb dX6_numberHere_9 rfl ?_
    refine lv_goto (tgt := 14) hx hb dX6_numberHere_10 rfl ?_
    exact W.eq (congrArg (fun z => F0 m 14 ls [.int z]) (if_pos q2).symm) J1
