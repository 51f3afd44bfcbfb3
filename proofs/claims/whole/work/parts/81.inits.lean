/-! ===== BEGIN printed: the small constructors ===== -/
def xa0 (h : Nat) (a : Nat → Nat) : Nat → Nat := fun j => match j with
  | 0 => h
  | j + 1 => a j
abbrev rm_X0_init : Room := { frames := 1, cells := 6, slots := 1015, locals := 12 }
set_option maxHeartbeats 8000000 in
set_option maxRecDepth 100000 in
theorem c_X0_init (l : Launch) (E : xG) (h0 : Nat) (p0 : Nat) : xNw l (xF E) E yX0_init wsX0_init rm_X0_init [.ref h0, .ref p0] [(h0, .inr (0, [.null, .null, .null, .null, .null, .null, .null, .int 0]))] (fun a => [(h0, .inr (0, [.ref p0, .ref (a 0), .ref (a 1), .ref (a 2), .ref (a 3), .ref (a 4), .ref (a 5), .int 0])), ((a 0), .inl (xct E 0, 10, .inl (fun _ => 0))), ((a 1), .inl (xct E 0, 201, .inl (fun _ => 0))), ((a 2), .inl (xct E 0, 201, .inl (fun _ => 0))), ((a 3), .inl (xct E 0, 201, .inl (fun _ => 0))), ((a 4), .inl (xct E 0, 201, .inl (fun _ => 0))), ((a 5), .inl (xct E 0, 201, .inl (fun _ => 0)))]) := by
  refine xNw.of (cc := cX0_init) (maxL := 2) (by decide) rfl (Nat.le_of_ble_eq_true rfl) ?_
  intro p e s m below meth c ls A hAt hG hP hD hA hA0 hS hl
  obtain ⟨hx, hb, hr, hml, hown, hts, hlocks, hin⟩ := hAt
  have hown : s.vm.findClass RX0 = some m.cls := hown
  have hin : meth.name = "<init>" := hin
  have hF : xF E s := hG
  have hK : va_K (xD E) vwCl (xT E) s := hF.1
  have hl : lv_has ls 2 [(0, .ref h0), (1, .ref p0)] := hl
  refine lv_aload_n hx hb dX0_init_0 rfl (lv_at hl 0 rfl) ?_
  refine W.objInit hx hb hown (hts (.methodLink RX0 3 objectInit) (by decide +kernel)) (hts (.instanceMethod objectInit) (by decide +kernel)) (hts (.code objectInit ⟨#[0xb1]⟩ 1 none) (List.mem_cons_of_mem _ (List.mem_append_left _ (List.mem_of_getElem? (i := 2) rfl)))) rfl (by rw [hml]; exact hl.1) rfl dX0_init_1 (Nat.le_of_ble_eq_true rfl) (Nat.le_of_ble_eq_true rfl) ?_
  refine W.eq (g2 := F0 m 4 ls []) rfl ?_
  refine lv_aload_n hx hb dX0_init_4 rfl (lv_at hl 0 rfl) ?_
  refine lv_aload_n hx hb dX0_init_5 rfl (lv_at hl 1 rfl) ?_
  refine va_putF (D := xD E) (ci := 0) (v := .ref p0) (ty := tyX0 0) (C := RX0) (T := TX0) (N := 8) hx hb hts (by decide +kernel) tyX0 tyX0_ok nmX0 hown hK hP hD hS 0 rfl rfl 0 (by decide) (hts (.fieldLink RX0 9 "RailOffsets$Line" "pieces" "LRailOffsets$Pieces;") (by decide +kernel)) (fun _ h => h) rfl hin rfl (by decide +kernel) rfl rfl (Nat.le_of_ble_eq_true rfl) dX0_init_6 (fun H locs hP hD hS => ?_)
  have hP : va_P (xD E) vwCl [(h0, .inr (0, [.ref p0, .null, .null, .null, .null, .null, .null, .int 0]))] H := hP
  have hD : va_D A [(h0, .inr (0, [.ref p0, .null, .null, .null, .null, .null, .null, .int 0]))] := hD
  refine lv_aload_n hx hb dX0_init_9 rfl (lv_at hl 0 rfl) ?_
  refine lv_bipush (v := 10) hx hb dX0_init_10 rfl ?_
  refine xnewI hx hb (hts (.arrayClass .int) (by decide +kernel)) hK hP hD hS hA (N' := 10) (by decide) rfl (by decide) (by decide +kernel) (by decide +kernel) dX0_init_12 (fun q1 H hP hD hS => ?_)
  have hP : va_P (xD E) vwCl [(h0, .inr (0, [.ref p0, .null, .null, .null, .null, .null, .null, .int 0])), (q1, .inl (xct E 0, 10, .inl (fun _ => 0)))] H := hP
  have hD : va_D A [(h0, .inr (0, [.ref p0, .null, .null, .null, .null, .null, .null, .int 0])), (q1, .inl (xct E 0, 10, .inl (fun _ => 0)))] := hD
  refine va_putF (D := xD E) (ci := 0) (v := .ref q1) (ty := tyX0 1) (C := RX0) (T := TX0) (N := 8) hx hb hts (by decide +kernel) tyX0 tyX0_ok nmX0 hown hK hP hD hS 0 rfl rfl 1 (by decide) (hts (.fieldLink RX0 15 "RailOffsets$Line" "starts" "[I") (by decide +kernel)) (fun _ h => h) rfl hin rfl (by decide +kernel) rfl rfl (Nat.le_of_ble_eq_true rfl) dX0_init_14 (fun H locs hP hD hS => ?_)
  have hP : va_P (xD E) vwCl [(h0, .inr (0, [.ref p0, .ref q1, .null, .null, .null, .null, .null, .int 0])), (q1, .inl (xct E 0, 10, .inl (fun _ => 0)))] H := hP
  have hD : va_D A [(h0, .inr (0, [.ref p0, .ref q1, .null, .null, .null, .null, .null, .int 0])), (q1, .inl (xct E 0, 10, .inl (fun _ => 0)))] := hD
  refine lv_aload_n hx hb dX0_init_17 rfl (lv_at hl 0 rfl) ?_
  refine lv_sipush (v := 201) hx hb dX0_init_18 rfl ?_
  refine xnewI hx hb (hts (.arrayClass .int) (by decide +kernel)) hK hP hD hS hA (N' := 201) (by decide) rfl (by decide) (by decide +kernel) (by decide +kernel) dX0_init_21 (fun q2 H hP hD hS => ?_)
  have hP : va_P (xD E) vwCl [(h0, .inr (0, [.ref p0, .ref q1, .null, .null, .null, .null, .null, .int 0])), (q1, .inl (xct E 0, 10, .inl (fun _ => 0))), (q2, .inl (xct E 0, 201, .inl (fun _ => 0)))] H := hP
  have hD : va_D A [(h0, .inr (0, [.ref p0, .ref q1, .null, .null, .null, .null, .null, .int 0])), (q1, .inl (xct E 0, 10, .inl (fun _ => 0))), (q2, .inl (xct E 0, 201, .inl (fun _ => 0)))] := hD
  refine va_putF (D := xD E) (ci := 0) (v := .ref q2) (ty := tyX0 2) (C := RX0) (T := TX0) (N := 8) hx hb hts (by decide +kernel) tyX0 tyX0_ok nmX0 hown hK hP hD hS 0 rfl rfl 2 (by decide) (hts (.fieldLink RX0 19 "RailOffsets$Line" "owners" "[I") (by decide +kernel)) (fun _ h => h) rfl hin rfl (by decide +kernel) rfl rfl (Nat.le_of_ble_eq_true rfl) dX0_init_23 (fun H locs hP hD hS => ?_)
  have hP : va_P (xD E) vwCl [(h0, .inr (0, [.ref p0, .ref q1, .ref q2, .null, .null, .null, .null, .int 0])), (q1, .inl (xct E 0, 10, .inl (fun _ => 0))), (q2, .inl (xct E 0, 201, .inl (fun _ => 0)))] H := hP
  have hD : va_D A [(h0, .inr (0, [.ref p0, .ref q1, .ref q2, .null, .null, .null, .null, .int 0])), (q1, .inl (xct E 0, 10, .inl (fun _ => 0))), (q2, .inl (xct E 0, 201, .inl (fun _ => 0)))] := hD
  refine lv_aload_n hx hb dX0_init_26 rfl (lv_at hl 0 rfl) ?_
  refine lv_sipush (v := 201) hx hb dX0_init_27 rfl ?_
  refine xnewI hx hb (hts (.arrayClass .int) (by decide +kernel)) hK hP hD hS hA (N' := 201) (by decide) rfl (by decide) (by decide +kernel) (by decide +kernel) dX0_init_30 (fun q3 H hP hD hS => ?_)
  have hP : va_P (xD E) vwCl [(h0, .inr (0, [.ref p0, .ref q1, .ref q2, .null, .null, .null, .null, .int 0])), (q1, .inl (xct E 0, 10, .inl (fun _ => 0))), (q2, .inl (xct E 0, 201, .inl (fun _ => 0))), (q3, .inl (xct E 0, 201, .inl (fun _ => 0)))] H := hP
  have hD : va_D A [(h0, .inr (0, [.ref p0, .ref q1, .ref q2, .null, .null, .null, .null, .int 0])), (q1, .inl (xct E 0, 10, .inl (fun _ => 0))), (q2, .inl (xct E 0, 201, .inl (fun _ => 0))), (q3, .inl (xct E 0, 201, .inl (fun _ => 0)))] := hD
  refine va_putF (D := xD E) (ci := 0) (v := .ref q3) (ty := tyX0 3) (C := RX0) (T := TX0) (N := 8) hx hb hts (by decide +kernel) tyX0 tyX0_ok nmX0 hown hK hP hD hS 0 rfl rfl 3 (by decide) (hts (.fieldLink RX0 22 "RailOffsets$Line" "versines" "[I") (by decide +kernel)) (fun _ h => h) rfl hin rfl (by decide +kernel) rfl rfl (Nat.le_of_ble_eq_true rfl) dX0_init_32 (fun H locs hP hD hS => ?_)
  have hP : va_P (xD E) vwCl [(h0, .inr (0, [.ref p0, .ref q1, .ref q2, .ref q3, .null, .null, .null, .int 0])), (q1, .inl (xct E 0, 10, .inl (fun _ => 0))), (q2, .inl (xct E 0, 201, .inl (fun _ => 0))), (q3, .inl (xct E 0, 201, .inl (fun _ => 0)))] H := hP
  have hD : va_D A [(h0, .inr (0, [.ref p0, .ref q1, .ref q2, .ref q3, .null, .null, .null, .int 0])), (q1, .inl (xct E 0, 10, .inl (fun _ => 0))), (q2, .inl (xct E 0, 201, .inl (fun _ => 0))), (q3, .inl (xct E 0, 201, .inl (fun _ => 0)))] := hD
  refine lv_aload_n hx hb dX0_init_35 rfl (lv_at hl 0 rfl) ?_
  refine lv_sipush (v := 201) hx hb dX0_init_36 rfl ?_
  refine xnewI hx hb (hts (.arrayClass .int) (by decide +kernel)) hK hP hD hS hA (N' := 201) (by decide) rfl (by decide) (by decide +kernel) (by decide +kernel) dX0_init_39 (fun q4 H hP hD hS => ?_)
  have hP : va_P (xD E) vwCl [(h0, .inr (0, [.ref p0, .ref q1, .ref q2, .ref q3, .null, .null, .null, .int 0])), (q1, .inl (xct E 0, 10, .inl (fun _ => 0))), (q2, .inl (xct E 0, 201, .inl (fun _ => 0))), (q3, .inl (xct E 0, 201, .inl (fun _ => 0))), (q4, .inl (xct E 0, 201, .inl (fun _ => 0)))] H := hP
  have hD : va_D A [(h0, .inr (0, [.ref p0, .ref q1, .ref q2, .ref q3, .null, .null, .null, .int 0])), (q1, .inl (xct E 0, 10, .inl (fun _ => 0))), (q2, .inl (xct E 0, 201, .inl (fun _ => 0))), (q3, .inl (xct E 0, 201, .inl (fun _ => 0))), (q4, .inl (xct E 0, 201, .inl (fun _ => 0)))] := hD
  refine va_putF (D := xD E) (ci := 0) (v := .ref q4) (ty := tyX0 4) (C := RX0) (T := TX0) (N := 8) hx hb hts (by decide +kernel) tyX0 tyX0_ok nmX0 hown hK hP hD hS 0 rfl rfl 4 (by decide) (hts (.fieldLink RX0 25 "RailOffsets$Line" "heights" "[I") (by decide +kernel)) (fun _ h => h) rfl hin rfl (by decide +kernel) rfl rfl (Nat.le_of_ble_eq_true rfl) dX0_init_41 (fun H locs hP hD hS => ?_)
  have hP : va_P (xD E) vwCl [(h0, .inr (0, [.ref p0, .ref q1, .ref q2, .ref q3, .ref q4, .null, .null, .int 0])), (q1, .inl (xct E 0, 10, .inl (fun _ => 0))), (q2, .inl (xct E 0, 201, .inl (fun _ => 0))), (q3, .inl (xct E 0, 201, .inl (fun _ => 0))), (q4, .inl (xct E 0, 201, .inl (fun _ => 0)))] H := hP
  have hD : va_D A [(h0, .inr (0, [.ref p0, .ref q1, .ref q2, .ref q3, .ref q4, .null, .null, .int 0])), (q1, .inl (xct E 0, 10, .inl (fun _ => 0))), (q2, .inl (xct E 0, 201, .inl (fun _ => 0))), (q3, .inl (xct E 0, 201, .inl (fun _ => 0))), (q4, .inl (xct E 0, 201, .inl (fun _ => 0)))] := hD
  refine lv_aload_n hx hb dX0_init_44 rfl (lv_at hl 0 rfl) ?_
  refine lv_sipush (v := 201) hx hb dX0_init_45 rfl ?_
  refine xnewI hx hb (hts (.arrayClass .int) (by decide +kernel)) hK hP hD hS hA (N' := 201) (by decide) rfl (by decide) (by decide +kernel) (by decide +kernel) dX0_init_48 (fun q5 H hP hD hS => ?_)
  have hP : va_P (xD E) vwCl [(h0, .inr (0, [.ref p0, .ref q1, .ref q2, .ref q3, .ref q4, .null, .null, .int 0])), (q1, .inl (xct E 0, 10, .inl (fun _ => 0))), (q2, .inl (xct E 0, 201, .inl (fun _ => 0))), (q3, .inl (xct E 0, 201, .inl (fun _ => 0))), (q4, .inl (xct E 0, 201, .inl (fun _ => 0))), (q5, .inl (xct E 0, 201, .inl (fun _ => 0)))] H := hP
  have hD : va_D A [(h0, .inr (0, [.ref p0, .ref q1, .ref q2, .ref q3, .ref q4, .null, .null, .int 0])), (q1, .inl (xct E 0, 10, .inl (fun _ => 0))), (q2, .inl (xct E 0, 201, .inl (fun _ => 0))), (q3, .inl (xct E 0, 201, .inl (fun _ => 0))), (q4, .inl (xct E 0, 201, .inl (fun _ => 0))), (q5, .inl (xct E 0, 201, .inl (fun _ => 0)))] := hD
  refine va_putF (D := xD E) (ci := 0) (v := .ref q5) (ty := tyX0 5) (C := RX0) (T := TX0) (N := 8) hx hb hts (by decide +kernel) tyX0 tyX0_ok nmX0 hown hK hP hD hS 0 rfl rfl 5 (by decide) (hts (.fieldLink RX0 28 "RailOffsets$Line" "turns" "[I") (by decide +kernel)) (fun _ h => h) rfl hin rfl (by decide +kernel) rfl rfl (Nat.le_of_ble_eq_true rfl) dX0_init_50 (fun H locs hP hD hS => ?_)
  have hP : va_P (xD E) vwCl [(h0, .inr (0, [.ref p0, .ref q1, .ref q2, .ref q3, .ref q4, .ref q5, .null, .int 0])), (q1, .inl (xct E 0, 10, .inl (fun _ => 0))), (q2, .inl (xct E 0, 201, .inl (fun _ => 0))), (q3, .inl (xct E 0, 201, .inl (fun _ => 0))), (q4, .inl (xct E 0, 201, .inl (fun _ => 0))), (q5, .inl (xct E 0, 201, .inl (fun _ => 0)))] H := hP
  have hD : va_D A [(h0, .inr (0, [.ref p0, .ref q1, .ref q2, .ref q3, .ref q4, .ref q5, .null, .int 0])), (q1, .inl (xct E 0, 10, .inl (fun _ => 0))), (q2, .inl (xct E 0, 201, .inl (fun _ => 0))), (q3, .inl (xct E 0, 201, .inl (fun _ => 0))), (q4, .inl (xct E 0, 201, .inl (fun _ => 0))), (q5, .inl (xct E 0, 201, .inl (fun _ => 0)))] := hD
  refine lv_aload_n hx hb dX0_init_53 rfl (lv_at hl 0 rfl) ?_
  refine lv_sipush (v := 201) hx hb dX0_init_54 rfl ?_
  refine xnewI hx hb (hts (.arrayClass .int) (by decide +kernel)) hK hP hD hS hA (N' := 201) (by decide) rfl (by decide) (by decide +kernel) (by decide +kernel) dX0_init_57 (fun q6 H hP hD hS => ?_)
  have hP : va_P (xD E) vwCl [(h0, .inr (0, [.ref p0, .ref q1, .ref q2, .ref q3, .ref q4, .ref q5, .null, .int 0])), (q1, .inl (xct E 0, 10, .inl (fun _ => 0))), (q2, .inl (xct E 0, 201, .inl (fun _ => 0))), (q3, .inl (xct E 0, 201, .inl (fun _ => 0))), (q4, .inl (xct E 0, 201, .inl (fun _ => 0))), (q5, .inl (xct E 0, 201, .inl (fun _ => 0))), (q6, .inl (xct E 0, 201, .inl (fun _ => 0)))] H := hP
  have hD : va_D A [(h0, .inr (0, [.ref p0, .ref q1, .ref q2, .ref q3, .ref q4, .ref q5, .null, .int 0])), (q1, .inl (xct E 0, 10, .inl (fun _ => 0))), (q2, .inl (xct E 0, 201, .inl (fun _ => 0))), (q3, .inl (xct E 0, 201, .inl (fun _ => 0))), (q4, .inl (xct E 0, 201, .inl (fun _ => 0))), (q5, .inl (xct E 0, 201, .inl (fun _ => 0))), (q6, .inl (xct E 0, 201, .inl (fun _ => 0)))] := hD
  refine va_putF (D := xD E) (ci := 0) (v := .ref q6) (ty := tyX0 6) (C := RX0) (T := TX0) (N := 8) hx hb hts (by decide +kernel) tyX0 tyX0_ok nmX0 hown hK hP hD hS 0 rfl rfl 6 (by decide) (hts (.fieldLink RX0 31 "RailOffsets$Line" "offsets" "[I") (by decide +kernel)) (fun _ h => h) rfl hin rfl (by decide +kernel) rfl rfl (Nat.le_of_ble_eq_true rfl) dX0_init_59 (fun H locs hP hD hS => ?_)
  have hP : va_P (xD E) vwCl [(h0, .inr (0, [.ref p0, .ref q1, .ref q2, .ref q3, .ref q4, .ref q5, .ref q6, .int 0])), (q1, .inl (xct E 0, 10, .inl (fun _ => 0))), (q2, .inl (xct E 0, 201, .inl (fun _ => 0))), (q3, .inl (xct E 0, 201, .inl (fun _ => 0))), (q4, .inl (xct E 0, 201, .inl (fun _ => 0))), (q5, .inl (xct E 0, 201, .inl (fun _ => 0))), (q6, .inl (xct E 0, 201, .inl (fun _ => 0)))] H := hP
  have hD : va_D A [(h0, .inr (0, [.ref p0, .ref q1, .ref q2, .ref q3, .ref q4, .ref q5, .ref q6, .int 0])), (q1, .inl (xct E 0, 10, .inl (fun _ => 0))), (q2, .inl (xct E 0, 201, .inl (fun _ => 0))), (q3, .inl (xct E 0, 201, .inl (fun _ => 0))), (q4, .inl (xct E 0, 201, .inl (fun _ => 0))), (q5, .inl (xct E 0, 201, .inl (fun _ => 0))), (q6, .inl (xct E 0, 201, .inl (fun _ => 0)))] := hD
  refine lv_aload_n hx hb dX0_init_62 rfl (lv_at hl 0 rfl) ?_
  refine lv_iconst (v := 0) hx hb dX0_init_63 rfl ?_
  refine va_put (D := xD E) (ci := 0) (v := .int (0)) (ty := tyX0 7) (C := RX0) (T := TX0) (N := 8) hx hb hts (by decide +kernel) tyX0 tyX0_ok nmX0 hown hK hP hD hS 0 rfl rfl 7 (by decide) (hts (.fieldLink RX0 34 "RailOffsets$Line" "stations" "I") (by decide +kernel)) (fun _ h => h) rfl (by decide +kernel) rfl rfl (Nat.le_of_ble_eq_true rfl) dX0_init_64 (fun H locs hP hD hS => ?_)
  have hP : va_P (xD E) vwCl [(h0, .inr (0, [.ref p0, .ref q1, .ref q2, .ref q3, .ref q4, .ref q5, .ref q6, .int (0)])), (q1, .inl (xct E 0, 10, .inl (fun _ => 0))), (q2, .inl (xct E 0, 201, .inl (fun _ => 0))), (q3, .inl (xct E 0, 201, .inl (fun _ => 0))), (q4, .inl (xct E 0, 201, .inl (fun _ => 0))), (q5, .inl (xct E 0, 201, .inl (fun _ => 0))), (q6, .inl (xct E 0, 201, .inl (fun _ => 0)))] H := hP
  have hD : va_D A [(h0, .inr (0, [.ref p0, .ref q1, .ref q2, .ref q3, .ref q4, .ref q5, .ref q6, .int (0)])), (q1, .inl (xct E 0, 10, .inl (fun _ => 0))), (q2, .inl (xct E 0, 201, .inl (fun _ => 0))), (q3, .inl (xct E 0, 201, .inl (fun _ => 0))), (q4, .inl (xct E 0, 201, .inl (fun _ => 0))), (q5, .inl (xct E 0, 201, .inl (fun _ => 0))), (q6, .inl (xct E 0, 201, .inl (fun _ => 0)))] := hD
  refine W.widen (k := rm_X0_init.cells) (n := rm_X0_init.slots) (by decide +kernel) (by decide +kernel) ?_
  exact W.vret hx hb hr (fun t ht _ => ⟨⟨fun j => [q1, q2, q3, q4, q5, q6].getD j 0, rfl, trivial, by rw [ht]; exact hP, hD⟩, hS.F ht⟩) hS.2.2 dX0_init_67
abbrev rm_X1_init : Room := { frames := 1, cells := 2, slots := 402, locals := 12 }
set_option maxHeartbeats 8000000 in
set_option maxRecDepth 100000 in
theorem c_X1_init (l : Launch) (E : xG) (h0 : Nat) (p0 : Nat) : xNw l (xF E) E yX1_init wsX1_init rm_X1_init [.ref h0, .ref p0] [(h0, .inr (1, [.null, .null, .null]))] (fun a => [(h0, .inr (1, [.ref p0, .ref (a 0), .ref (a 1)])), ((a 0), .inl (xct E 0, 201, .inl (fun _ => 0))), ((a 1), .inl (xct E 0, 201, .inl (fun _ => 0)))]) := by
  refine xNw.of (cc := cX1_init) (maxL := 2) (by decide) rfl (Nat.le_of_ble_eq_true rfl) ?_
  intro p e s m below meth c ls A hAt hG hP hD hA hA0 hS hl
  obtain ⟨hx, hb, hr, hml, hown, hts, hlocks, hin⟩ := hAt
  have hown : s.vm.findClass RX1 = some m.cls := hown
  have hin : meth.name = "<init>" := hin
  have hF : xF E s := hG
  have hK : va_K (xD E) vwCl (xT E) s := hF.1
  have hl : lv_has ls 2 [(0, .ref h0), (1, .ref p0)] := hl
  refine lv_aload_n hx hb dX1_init_0 rfl (lv_at hl 0 rfl) ?_
  refine W.objInit hx hb hown (hts (.methodLink RX1 3 objectInit) (by decide +kernel)) (hts (.instanceMethod objectInit) (by decide +kernel)) (hts (.code objectInit ⟨#[0xb1]⟩ 1 none) (List.mem_cons_of_mem _ (List.mem_append_left _ (List.mem_of_getElem? (i := 2) rfl)))) rfl (by rw [hml]; exact hl.1) rfl dX1_init_1 (Nat.le_of_ble_eq_true rfl) (Nat.le_of_ble_eq_true rfl) ?_
  refine W.eq (g2 := F0 m 4 ls []) rfl ?_
  refine lv_aload_n hx hb dX1_init_4 rfl (lv_at hl 0 rfl) ?_
  refine lv_aload_n hx hb dX1_init_5 rfl (lv_at hl 1 rfl) ?_
  refine va_putF (D := xD E) (ci := 1) (v := .ref p0) (ty := tyX1 0) (C := RX1) (T := TX1) (N := 3) hx hb hts (by decide +kernel) tyX1 tyX1_ok nmX1 hown hK hP hD hS 0 rfl rfl 0 (by decide) (hts (.fieldLink RX1 9 "RailOffsets$OldLine" "line" "LRailOffsets$Line;") (by decide +kernel)) (fun _ h => h) rfl hin rfl (by decide +kernel) rfl rfl (Nat.le_of_ble_eq_true rfl) dX1_init_6 (fun H locs hP hD hS => ?_)
  have hP : va_P (xD E) vwCl [(h0, .inr (1, [.ref p0, .null, .null]))] H := hP
  have hD : va_D A [(h0, .inr (1, [.ref p0, .null, .null]))] := hD
  refine lv_aload_n hx hb dX1_init_9 rfl (lv_at hl 0 rfl) ?_
  refine lv_sipush (v := 201) hx hb dX1_init_10 rfl ?_
  refine xnewI hx hb (hts (.arrayClass .int) (by decide +kernel)) hK hP hD hS hA (N' := 201) (by decide) rfl (by decide) (by decide +kernel) (by decide +kernel) dX1_init_13 (fun q1 H hP hD hS => ?_)
  have hP : va_P (xD E) vwCl [(h0, .inr (1, [.ref p0, .null, .null])), (q1, .inl (xct E 0, 201, .inl (fun _ => 0)))] H := hP
  have hD : va_D A [(h0, .inr (1, [.ref p0, .null, .null])), (q1, .inl (xct E 0, 201, .inl (fun _ => 0)))] := hD
  refine va_putF (D := xD E) (ci := 1) (v := .ref q1) (ty := tyX1 1) (C := RX1) (T := TX1) (N := 3) hx hb hts (by decide +kernel) tyX1 tyX1_ok nmX1 hown hK hP hD hS 0 rfl rfl 1 (by decide) (hts (.fieldLink RX1 15 "RailOffsets$OldLine" "versines" "[I") (by decide +kernel)) (fun _ h => h) rfl hin rfl (by decide +kernel) rfl rfl (Nat.le_of_ble_eq_true rfl) dX1_init_15 (fun H locs hP hD hS => ?_)
  have hP : va_P (xD E) vwCl [(h0, .inr (1, [.ref p0, .ref q1, .null])), (q1, .inl (xct E 0, 201, .inl (fun _ => 0)))] H := hP
  have hD : va_D A [(h0, .inr (1, [.ref p0, .ref q1, .null])), (q1, .inl (xct E 0, 201, .inl (fun _ => 0)))] := hD
  refine lv_aload_n hx hb dX1_init_18 rfl (lv_at hl 0 rfl) ?_
  refine lv_sipush (v := 201) hx hb dX1_init_19 rfl ?_
  refine xnewI hx hb (hts (.arrayClass .int) (by decide +kernel)) hK hP hD hS hA (N' := 201) (by decide) rfl (by decide) (by decide +kernel) (by decide +kernel) dX1_init_22 (fun q2 H hP hD hS => ?_)
  have hP : va_P (xD E) vwCl [(h0, .inr (1, [.ref p0, .ref q1, .null])), (q1, .inl (xct E 0, 201, .inl (fun _ => 0))), (q2, .inl (xct E 0, 201, .inl (fun _ => 0)))] H := hP
  have hD : va_D A [(h0, .inr (1, [.ref p0, .ref q1, .null])), (q1, .inl (xct E 0, 201, .inl (fun _ => 0))), (q2, .inl (xct E 0, 201, .inl (fun _ => 0)))] := hD
  refine va_putF (D := xD E) (ci := 1) (v := .ref q2) (ty := tyX1 2) (C := RX1) (T := TX1) (N := 3) hx hb hts (by decide +kernel) tyX1 tyX1_ok nmX1 hown hK hP hD hS 0 rfl rfl 2 (by decide) (hts (.fieldLink RX1 19 "RailOffsets$OldLine" "slews" "[I") (by decide +kernel)) (fun _ h => h) rfl hin rfl (by decide +kernel) rfl rfl (Nat.le_of_ble_eq_true rfl) dX1_init_24 (fun H locs hP hD hS => ?_)
  have hP : va_P (xD E) vwCl [(h0, .inr (1, [.ref p0, .ref q1, .ref q2])), (q1, .inl (xct E 0, 201, .inl (fun _ => 0))), (q2, .inl (xct E 0, 201, .inl (fun _ => 0)))] H := hP
  have hD : va_D A [(h0, .inr (1, [.ref p0, .ref q1, .ref q2])), (q1, .inl (xct E 0, 201, .inl (fun _ => 0))), (q2, .inl (xct E 0, 201, .inl (fun _ => 0)))] := hD
  refine W.widen (k := rm_X1_init.cells) (n := rm_X1_init.slots) (by decide +kernel) (by decide +kernel) ?_
  exact W.vret hx hb hr (fun t ht _ => ⟨⟨fun j => [q1, q2].getD j 0, rfl, trivial, by rw [ht]; exact hP, hD⟩, hS.F ht⟩) hS.2.2 dX1_init_27
abbrev rm_X2_init : Room := { frames := 1, cells := 1, slots := 40, locals := 12 }
set_option maxHeartbeats 8000000 in
set_option maxRecDepth 100000 in
theorem c_X2_init (l : Launch) (E : xG) (h0 : Nat) : xNw l (xF E) E yX2_init wsX2_init rm_X2_init [.ref h0] [(h0, .inr (2, [.null, .int 0]))] (fun a => [(h0, .inr (2, [.ref (a 0), .int 0])), ((a 0), .inl (xct E 0, 40, .inl (fun _ => 0)))]) := by
  refine xNw.of (cc := cX2_init) (maxL := 1) (by decide) rfl (Nat.le_of_ble_eq_true rfl) ?_
  intro p e s m below meth c ls A hAt hG hP hD hA hA0 hS hl
  obtain ⟨hx, hb, hr, hml, hown, hts, hlocks, hin⟩ := hAt
  have hown : s.vm.findClass RX2 = some m.cls := hown
  have hin : meth.name = "<init>" := hin
  have hF : xF E s := hG
  have hK : va_K (xD E) vwCl (xT E) s := hF.1
  have hl : lv_has ls 1 [(0, .ref h0)] := hl
  refine lv_aload_n hx hb dX2_init_0 rfl (lv_at hl 0 rfl) ?_
  refine W.objInit hx hb hown (hts (.methodLink RX2 3 objectInit) (by decide +kernel)) (hts (.instanceMethod objectInit) (by decide +kernel)) (hts (.code objectInit ⟨#[0xb1]⟩ 1 none) (List.mem_cons_of_mem _ (List.mem_append_left _ (List.mem_of_getElem? (i := 2) rfl)))) rfl (by rw [hml]; exact hl.1) rfl dX2_init_1 (Nat.le_of_ble_eq_true rfl) (Nat.le_of_ble_eq_true rfl) ?_
  refine W.eq (g2 := F0 m 4 ls []) rfl ?_
  refine lv_aload_n hx hb dX2_init_4 rfl (lv_at hl 0 rfl) ?_
  refine lv_bipush (v := 40) hx hb dX2_init_5 rfl ?_
  refine xnewI hx hb (hts (.arrayClass .int) (by decide +kernel)) hK hP hD hS hA (N' := 40) (by decide) rfl (by decide) (by decide +kernel) (by decide +kernel) dX2_init_7 (fun q1 H hP hD hS => ?_)
  have hP : va_P (xD E) vwCl [(h0, .inr (2, [.null, .int 0])), (q1, .inl (xct E 0, 40, .inl (fun _ => 0)))] H := hP
  have hD : va_D A [(h0, .inr (2, [.null, .int 0])), (q1, .inl (xct E 0, 40, .inl (fun _ => 0)))] := hD
  refine va_putF (D := xD E) (ci := 2) (v := .ref q1) (ty := tyX2 0) (C := RX2) (T := TX2) (N := 2) hx hb hts (by decide +kernel) tyX2 tyX2_ok nmX2 hown hK hP hD hS 0 rfl rfl 0 (by decide) (hts (.fieldLink RX2 9 "RailOffsets$Pieces" "values" "[I") (by decide +kernel)) (fun _ h => h) rfl hin rfl (by decide +kernel) rfl rfl (Nat.le_of_ble_eq_true rfl) dX2_init_9 (fun H locs hP hD hS => ?_)
  have hP : va_P (xD E) vwCl [(h0, .inr (2, [.ref q1, .int 0])), (q1, .inl (xct E 0, 40, .inl (fun _ => 0)))] H := hP
  have hD : va_D A [(h0, .inr (2, [.ref q1, .int 0])), (q1, .inl (xct E 0, 40, .inl (fun _ => 0)))] := hD
  refine lv_aload_n hx hb dX2_init_12 rfl (lv_at hl 0 rfl) ?_
  refine lv_iconst (v := 0) hx hb dX2_init_13 rfl ?_
  refine va_put (D := xD E) (ci := 2) (v := .int (0)) (ty := tyX2 1) (C := RX2) (T := TX2) (N := 2) hx hb hts (by decide +kernel) tyX2 tyX2_ok nmX2 hown hK hP hD hS 0 rfl rfl 1 (by decide) (hts (.fieldLink RX2 15 "RailOffsets$Pieces" "size" "I") (by decide +kernel)) (fun _ h => h) rfl (by decide +kernel) rfl rfl (Nat.le_of_ble_eq_true rfl) dX2_init_14 (fun H locs hP hD hS => ?_)
  have hP : va_P (xD E) vwCl [(h0, .inr (2, [.ref q1, .int (0)])), (q1, .inl (xct E 0, 40, .inl (fun _ => 0)))] H := hP
  have hD : va_D A [(h0, .inr (2, [.ref q1, .int (0)])), (q1, .inl (xct E 0, 40, .inl (fun _ => 0)))] := hD
  refine W.widen (k := rm_X2_init.cells) (n := rm_X2_init.slots) (by decide +kernel) (by decide +kernel) ?_
  exact W.vret hx hb hr (fun t ht _ => ⟨⟨fun j => [q1].getD j 0, rfl, trivial, by rw [ht]; exact hP, hD⟩, hS.F ht⟩) hS.2.2 dX2_init_17
abbrev rm_X3_init : Room := { frames := 1, cells := 1, slots := 40, locals := 12 }
set_option maxHeartbeats 8000000 in
set_option maxRecDepth 100000 in
theorem c_X3_init (l : Launch) (E : xG) (h0 : Nat) : xNw l (xF E) E yX3_init wsX3_init rm_X3_init [.ref h0] [(h0, .inr (3, [.null, .int 0, .int 0]))] (fun a => [(h0, .inr (3, [.ref (a 0), .int (-1), .int 0])), ((a 0), .inl (xct E 0, 40, .inl (fun _ => 0)))]) := by
  refine xNw.of (cc := cX3_init) (maxL := 1) (by decide) rfl (Nat.le_of_ble_eq_true rfl) ?_
  intro p e s m below meth c ls A hAt hG hP hD hA hA0 hS hl
  obtain ⟨hx, hb, hr, hml, hown, hts, hlocks, hin⟩ := hAt
  have hown : s.vm.findClass RX3 = some m.cls := hown
  have hin : meth.name = "<init>" := hin
  have hF : xF E s := hG
  have hK : va_K (xD E) vwCl (xT E) s := hF.1
  have hl : lv_has ls 1 [(0, .ref h0)] := hl
  refine lv_aload_n hx hb dX3_init_0 rfl (lv_at hl 0 rfl) ?_
  refine W.objInit hx hb hown (hts (.methodLink RX3 3 objectInit) (by decide +kernel)) (hts (.instanceMethod objectInit) (by decide +kernel)) (hts (.code objectInit ⟨#[0xb1]⟩ 1 none) (List.mem_cons_of_mem _ (List.mem_append_left _ (List.mem_of_getElem? (i := 2) rfl)))) rfl (by rw [hml]; exact hl.1) rfl dX3_init_1 (Nat.le_of_ble_eq_true rfl) (Nat.le_of_ble_eq_true rfl) ?_
  refine W.eq (g2 := F0 m 4 ls []) rfl ?_
  refine lv_aload_n hx hb dX3_init_4 rfl (lv_at hl 0 rfl) ?_
  refine lv_bipush (v := 40) hx hb dX3_init_5 rfl ?_
  refine xnewI hx hb (hts (.arrayClass .int) (by decide +kernel)) hK hP hD hS hA (N' := 40) (by decide) rfl (by decide) (by decide +kernel) (by decide +kernel) dX3_init_7 (fun q1 H hP hD hS => ?_)
  have hP : va_P (xD E) vwCl [(h0, .inr (3, [.null, .int 0, .int 0])), (q1, .inl (xct E 0, 40, .inl (fun _ => 0)))] H := hP
  have hD : va_D A [(h0, .inr (3, [.null, .int 0, .int 0])), (q1, .inl (xct E 0, 40, .inl (fun _ => 0)))] := hD
  refine va_putF (D := xD E) (ci := 3) (v := .ref q1) (ty := tyX3 0) (C := RX3) (T := TX3) (N := 3) hx hb hts (by decide +kernel) tyX3 tyX3_ok nmX3 hown hK hP hD hS 0 rfl rfl 0 (by decide) (hts (.fieldLink RX3 9 "RailOffsets$Sheet" "items" "[I") (by decide +kernel)) (fun _ h => h) rfl hin rfl (by decide +kernel) rfl rfl (Nat.le_of_ble_eq_true rfl) dX3_init_9 (fun H locs hP hD hS => ?_)
  have hP : va_P (xD E) vwCl [(h0, .inr (3, [.ref q1, .int 0, .int 0])), (q1, .inl (xct E 0, 40, .inl (fun _ => 0)))] H := hP
  have hD : va_D A [(h0, .inr (3, [.ref q1, .int 0, .int 0])), (q1, .inl (xct E 0, 40, .inl (fun _ => 0)))] := hD
  refine lv_aload_n hx hb dX3_init_12 rfl (lv_at hl 0 rfl) ?_
  refine lv_iconst (v := -1) hx hb dX3_init_13 rfl ?_
  refine va_put (D := xD E) (ci := 3) (v := .int (-1)) (ty := tyX3 1) (C := RX3) (T := TX3) (N := 3) hx hb hts (by decide +kernel) tyX3 tyX3_ok nmX3 hown hK hP hD hS 0 rfl rfl 1 (by decide) (hts (.fieldLink RX3 15 "RailOffsets$Sheet" "sort" "I") (by decide +kernel)) (fun _ h => h) rfl (by decide +kernel) rfl rfl (Nat.le_of_ble_eq_true rfl) dX3_init_14 (fun H locs hP hD hS => ?_)
  have hP : va_P (xD E) vwCl [(h0, .inr (3, [.ref q1, .int (-1), .int 0])), (q1, .inl (xct E 0, 40, .inl (fun _ => 0)))] H := hP
  have hD : va_D A [(h0, .inr (3, [.ref q1, .int (-1), .int 0])), (q1, .inl (xct E 0, 40, .inl (fun _ => 0)))] := hD
  refine lv_aload_n hx hb dX3_init_17 rfl (lv_at hl 0 rfl) ?_
  refine lv_iconst (v := 0) hx hb dX3_init_18 rfl ?_
  refine va_put (D := xD E) (ci := 3) (v := .int (0)) (ty := tyX3 2) (C := RX3) (T := TX3) (N := 3) hx hb hts (by decide +kernel) tyX3 tyX3_ok nmX3 hown hK hP hD hS 0 rfl rfl 2 (by decide) (hts (.fieldLink RX3 19 "RailOffsets$Sheet" "size" "I") (by decide +kernel)) (fun _ h => h) rfl (by decide +kernel) rfl rfl (Nat.le_of_ble_eq_true rfl) dX3_init_19 (fun H locs hP hD hS => ?_)
  have hP : va_P (xD E) vwCl [(h0, .inr (3, [.ref q1, .int (-1), .int (0)])), (q1, .inl (xct E 0, 40, .inl (fun _ => 0)))] H := hP
  have hD : va_D A [(h0, .inr (3, [.ref q1, .int (-1), .int (0)])), (q1, .inl (xct E 0, 40, .inl (fun _ => 0)))] := hD
  refine W.widen (k := rm_X3_init.cells) (n := rm_X3_init.slots) (by decide +kernel) (by decide +kernel) ?_
  exact W.vret hx hb hr (fun t ht _ => ⟨⟨fun j => [q1].getD j 0, rfl, trivial, by rw [ht]; exact hP, hD⟩, hS.F ht⟩) hS.2.2 dX3_init_22
abbrev rm_X4_init : Room := { frames := 1, cells := 3, slots := 120, locals := 12 }
set_option maxHeartbeats 8000000 in
set_option maxRecDepth 100000 in
theorem c_X4_init (l : Launch) (E : xG) (h0 : Nat) : xNw l (xF E) E yX4_init wsX4_init rm_X4_init [.ref h0] [(h0, .inr (4, [.null, .null, .null, .int 0, .int 0, .int 0, .int 0, .int 0, .int 0]))] (fun a => [(h0, .inr (4, [.ref (a 0), .ref (a 1), .ref (a 2), .int 0, .int 0, .int 0, .int 0, .int 3, .int 0])), ((a 0), .inl (xct E 0, 60, .inl (fun _ => 0))), ((a 1), .inl (xct E 0, 12, .inl (fun _ => 0))), ((a 2), .inl (xct E 0, 48, .inl (fun _ => 0)))]) := by
  refine xNw.of (cc := cX4_init) (maxL := 1) (by decide) rfl (Nat.le_of_ble_eq_true rfl) ?_
  intro p e s m below meth c ls A hAt hG hP hD hA hA0 hS hl
  obtain ⟨hx, hb, hr, hml, hown, hts, hlocks, hin⟩ := hAt
  have hown : s.vm.findClass RX4 = some m.cls := hown
  have hin : meth.name = "<init>" := hin
  have hF : xF E s := hG
  have hK : va_K (xD E) vwCl (xT E) s := hF.1
  have hl : lv_has ls 1 [(0, .ref h0)] := hl
  refine lv_aload_n hx hb dX4_init_0 rfl (lv_at hl 0 rfl) ?_
  refine W.objInit hx hb hown (hts (.methodLink RX4 3 objectInit) (by decide +kernel)) (hts (.instanceMethod objectInit) (by decide +kernel)) (hts (.code objectInit ⟨#[0xb1]⟩ 1 none) (List.mem_cons_of_mem _ (List.mem_append_left _ (List.mem_of_getElem? (i := 2) rfl)))) rfl (by rw [hml]; exact hl.1) rfl dX4_init_1 (Nat.le_of_ble_eq_true rfl) (Nat.le_of_ble_eq_true rfl) ?_
  refine W.eq (g2 := F0 m 4 ls []) rfl ?_
  refine lv_aload_n hx hb dX4_init_4 rfl (lv_at hl 0 rfl) ?_
  refine lv_bipush (v := 60) hx hb dX4_init_5 rfl ?_
  refine xnewI hx hb (hts (.arrayClass .int) (by decide +kernel)) hK hP hD hS hA (N' := 60) (by decide) rfl (by decide) (by decide +kernel) (by decide +kernel) dX4_init_7 (fun q1 H hP hD hS => ?_)
  have hP : va_P (xD E) vwCl [(h0, .inr (4, [.null, .null, .null, .int 0, .int 0, .int 0, .int 0, .int 0, .int 0])), (q1, .inl (xct E 0, 60, .inl (fun _ => 0)))] H := hP
  have hD : va_D A [(h0, .inr (4, [.null, .null, .null, .int 0, .int 0, .int 0, .int 0, .int 0, .int 0])), (q1, .inl (xct E 0, 60, .inl (fun _ => 0)))] := hD
  refine va_putF (D := xD E) (ci := 4) (v := .ref q1) (ty := tyX4 0) (C := RX4) (T := TX4) (N := 9) hx hb hts (by decide +kernel) tyX4 tyX4_ok nmX4 hown hK hP hD hS 0 rfl rfl 0 (by decide) (hts (.fieldLink RX4 9 "RailOffsets$Tape" "bytes" "[I") (by decide +kernel)) (fun _ h => h) rfl hin rfl (by decide +kernel) rfl rfl (Nat.le_of_ble_eq_true rfl) dX4_init_9 (fun H locs hP hD hS => ?_)
  have hP : va_P (xD E) vwCl [(h0, .inr (4, [.ref q1, .null, .null, .int 0, .int 0, .int 0, .int 0, .int 0, .int 0])), (q1, .inl (xct E 0, 60, .inl (fun _ => 0)))] H := hP
  have hD : va_D A [(h0, .inr (4, [.ref q1, .null, .null, .int 0, .int 0, .int 0, .int 0, .int 0, .int 0])), (q1, .inl (xct E 0, 60, .inl (fun _ => 0)))] := hD
  refine lv_aload_n hx hb dX4_init_12 rfl (lv_at hl 0 rfl) ?_
  refine lv_bipush (v := 12) hx hb dX4_init_13 rfl ?_
  refine xnewI hx hb (hts (.arrayClass .int) (by decide +kernel)) hK hP hD hS hA (N' := 12) (by decide) rfl (by decide) (by decide +kernel) (by decide +kernel) dX4_init_15 (fun q2 H hP hD hS => ?_)
  have hP : va_P (xD E) vwCl [(h0, .inr (4, [.ref q1, .null, .null, .int 0, .int 0, .int 0, .int 0, .int 0, .int 0])), (q1, .inl (xct E 0, 60, .inl (fun _ => 0))), (q2, .inl (xct E 0, 12, .inl (fun _ => 0)))] H := hP
  have hD : va_D A [(h0, .inr (4, [.ref q1, .null, .null, .int 0, .int 0, .int 0, .int 0, .int 0, .int 0])), (q1, .inl (xct E 0, 60, .inl (fun _ => 0))), (q2, .inl (xct E 0, 12, .inl (fun _ => 0)))] := hD
  refine va_putF (D := xD E) (ci := 4) (v := .ref q2) (ty := tyX4 1) (C := RX4) (T := TX4) (N := 9) hx hb hts (by decide +kernel) tyX4 tyX4_ok nmX4 hown hK hP hD hS 0 rfl rfl 1 (by decide) (hts (.fieldLink RX4 15 "RailOffsets$Tape" "words" "[I") (by decide +kernel)) (fun _ h => h) rfl hin rfl (by decide +kernel) rfl rfl (Nat.le_of_ble_eq_true rfl) dX4_init_17 (fun H locs hP hD hS => ?_)
  have hP : va_P (xD E) vwCl [(h0, .inr (4, [.ref q1, .ref q2, .null, .int 0, .int 0, .int 0, .int 0, .int 0, .int 0])), (q1, .inl (xct E 0, 60, .inl (fun _ => 0))), (q2, .inl (xct E 0, 12, .inl (fun _ => 0)))] H := hP
  have hD : va_D A [(h0, .inr (4, [.ref q1, .ref q2, .null, .int 0, .int 0, .int 0, .int 0, .int 0, .int 0])), (q1, .inl (xct E 0, 60, .inl (fun _ => 0))), (q2, .inl (xct E 0, 12, .inl (fun _ => 0)))] := hD
  refine lv_aload_n hx hb dX4_init_20 rfl (lv_at hl 0 rfl) ?_
  refine lv_bipush (v := 48) hx hb dX4_init_21 rfl ?_
  refine xnewI hx hb (hts (.arrayClass .int) (by decide +kernel)) hK hP hD hS hA (N' := 48) (by decide) rfl (by decide) (by decide +kernel) (by decide +kernel) dX4_init_23 (fun q3 H hP hD hS => ?_)
  have hP : va_P (xD E) vwCl [(h0, .inr (4, [.ref q1, .ref q2, .null, .int 0, .int 0, .int 0, .int 0, .int 0, .int 0])), (q1, .inl (xct E 0, 60, .inl (fun _ => 0))), (q2, .inl (xct E 0, 12, .inl (fun _ => 0))), (q3, .inl (xct E 0, 48, .inl (fun _ => 0)))] H := hP
  have hD : va_D A [(h0, .inr (4, [.ref q1, .ref q2, .null, .int 0, .int 0, .int 0, .int 0, .int 0, .int 0])), (q1, .inl (xct E 0, 60, .inl (fun _ => 0))), (q2, .inl (xct E 0, 12, .inl (fun _ => 0))), (q3, .inl (xct E 0, 48, .inl (fun _ => 0)))] := hD
  refine va_putF (D := xD E) (ci := 4) (v := .ref q3) (ty := tyX4 2) (C := RX4) (T := TX4) (N := 9) hx hb hts (by decide +kernel) tyX4 tyX4_ok nmX4 hown hK hP hD hS 0 rfl rfl 2 (by decide) (hts (.fieldLink RX4 18 "RailOffsets$Tape" "numbers" "[I") (by decide +kernel)) (fun _ h => h) rfl hin rfl (by decide +kernel) rfl rfl (Nat.le_of_ble_eq_true rfl) dX4_init_25 (fun H locs hP hD hS => ?_)
  have hP : va_P (xD E) vwCl [(h0, .inr (4, [.ref q1, .ref q2, .ref q3, .int 0, .int 0, .int 0, .int 0, .int 0, .int 0])), (q1, .inl (xct E 0, 60, .inl (fun _ => 0))), (q2, .inl (xct E 0, 12, .inl (fun _ => 0))), (q3, .inl (xct E 0, 48, .inl (fun _ => 0)))] H := hP
  have hD : va_D A [(h0, .inr (4, [.ref q1, .ref q2, .ref q3, .int 0, .int 0, .int 0, .int 0, .int 0, .int 0])), (q1, .inl (xct E 0, 60, .inl (fun _ => 0))), (q2, .inl (xct E 0, 12, .inl (fun _ => 0))), (q3, .inl (xct E 0, 48, .inl (fun _ => 0)))] := hD
  refine lv_aload_n hx hb dX4_init_28 rfl (lv_at hl 0 rfl) ?_
  refine lv_iconst (v := 0) hx hb dX4_init_29 rfl ?_
  refine va_put (D := xD E) (ci := 4) (v := .int (0)) (ty := tyX4 3) (C := RX4) (T := TX4) (N := 9) hx hb hts (by decide +kernel) tyX4 tyX4_ok nmX4 hown hK hP hD hS 0 rfl rfl 3 (by decide) (hts (.fieldLink RX4 21 "RailOffsets$Tape" "size" "I") (by decide +kernel)) (fun _ h => h) rfl (by decide +kernel) rfl rfl (Nat.le_of_ble_eq_true rfl) dX4_init_30 (fun H locs hP hD hS => ?_)
  have hP : va_P (xD E) vwCl [(h0, .inr (4, [.ref q1, .ref q2, .ref q3, .int (0), .int 0, .int 0, .int 0, .int 0, .int 0])), (q1, .inl (xct E 0, 60, .inl (fun _ => 0))), (q2, .inl (xct E 0, 12, .inl (fun _ => 0))), (q3, .inl (xct E 0, 48, .inl (fun _ => 0)))] H := hP
  have hD : va_D A [(h0, .inr (4, [.ref q1, .ref q2, .ref q3, .int (0), .int 0, .int 0, .int 0, .int 0, .int 0])), (q1, .inl (xct E 0, 60, .inl (fun _ => 0))), (q2, .inl (xct E 0, 12, .inl (fun _ => 0))), (q3, .inl (xct E 0, 48, .inl (fun _ => 0)))] := hD
  refine lv_aload_n hx hb dX4_init_33 rfl (lv_at hl 0 rfl) ?_
  refine lv_iconst (v := 0) hx hb dX4_init_34 rfl ?_
  refine va_put (D := xD E) (ci := 4) (v := .int (0)) (ty := tyX4 4) (C := RX4) (T := TX4) (N := 9) hx hb hts (by decide +kernel) tyX4 tyX4_ok nmX4 hown hK hP hD hS 0 rfl rfl 4 (by decide) (hts (.fieldLink RX4 25 "RailOffsets$Tape" "clauses" "I") (by decide +kernel)) (fun _ h => h) rfl (by decide +kernel) rfl rfl (Nat.le_of_ble_eq_true rfl) dX4_init_35 (fun H locs hP hD hS => ?_)
  have hP : va_P (xD E) vwCl [(h0, .inr (4, [.ref q1, .ref q2, .ref q3, .int (0), .int (0), .int 0, .int 0, .int 0, .int 0])), (q1, .inl (xct E 0, 60, .inl (fun _ => 0))), (q2, .inl (xct E 0, 12, .inl (fun _ => 0))), (q3, .inl (xct E 0, 48, .inl (fun _ => 0)))] H := hP
  have hD : va_D A [(h0, .inr (4, [.ref q1, .ref q2, .ref q3, .int (0), .int (0), .int 0, .int 0, .int 0, .int 0])), (q1, .inl (xct E 0, 60, .inl (fun _ => 0))), (q2, .inl (xct E 0, 12, .inl (fun _ => 0))), (q3, .inl (xct E 0, 48, .inl (fun _ => 0)))] := hD
  refine lv_aload_n hx hb dX4_init_38 rfl (lv_at hl 0 rfl) ?_
  refine lv_iconst (v := 0) hx hb dX4_init_39 rfl ?_
  refine va_put (D := xD E) (ci := 4) (v := .int (0)) (ty := tyX4 5) (C := RX4) (T := TX4) (N := 9) hx hb hts (by decide +kernel) tyX4 tyX4_ok nmX4 hown hK hP hD hS 0 rfl rfl 5 (by decide) (hts (.fieldLink RX4 28 "RailOffsets$Tape" "here" "I") (by decide +kernel)) (fun _ h => h) rfl (by decide +kernel) rfl rfl (Nat.le_of_ble_eq_true rfl) dX4_init_40 (fun H locs hP hD hS => ?_)
  have hP : va_P (xD E) vwCl [(h0, .inr (4, [.ref q1, .ref q2, .ref q3, .int (0), .int (0), .int (0), .int 0, .int 0, .int 0])), (q1, .inl (xct E 0, 60, .inl (fun _ => 0))), (q2, .inl (xct E 0, 12, .inl (fun _ => 0))), (q3, .inl (xct E 0, 48, .inl (fun _ => 0)))] H := hP
  have hD : va_D A [(h0, .inr (4, [.ref q1, .ref q2, .ref q3, .int (0), .int (0), .int (0), .int 0, .int 0, .int 0])), (q1, .inl (xct E 0, 60, .inl (fun _ => 0))), (q2, .inl (xct E 0, 12, .inl (fun _ => 0))), (q3, .inl (xct E 0, 48, .inl (fun _ => 0)))] := hD
  refine lv_aload_n hx hb dX4_init_43 rfl (lv_at hl 0 rfl) ?_
  refine lv_iconst (v := 0) hx hb dX4_init_44 rfl ?_
  refine va_put (D := xD E) (ci := 4) (v := .int (0)) (ty := tyX4 6) (C := RX4) (T := TX4) (N := 9) hx hb hts (by decide +kernel) tyX4 tyX4_ok nmX4 hown hK hP hD hS 0 rfl rfl 6 (by decide) (hts (.fieldLink RX4 31 "RailOffsets$Tape" "start" "I") (by decide +kernel)) (fun _ h => h) rfl (by decide +kernel) rfl rfl (Nat.le_of_ble_eq_true rfl) dX4_init_45 (fun H locs hP hD hS => ?_)
  have hP : va_P (xD E) vwCl [(h0, .inr (4, [.ref q1, .ref q2, .ref q3, .int (0), .int (0), .int (0), .int (0), .int 0, .int 0])), (q1, .inl (xct E 0, 60, .inl (fun _ => 0))), (q2, .inl (xct E 0, 12, .inl (fun _ => 0))), (q3, .inl (xct E 0, 48, .inl (fun _ => 0)))] H := hP
  have hD : va_D A [(h0, .inr (4, [.ref q1, .ref q2, .ref q3, .int (0), .int (0), .int (0), .int (0), .int 0, .int 0])), (q1, .inl (xct E 0, 60, .inl (fun _ => 0))), (q2, .inl (xct E 0, 12, .inl (fun _ => 0))), (q3, .inl (xct E 0, 48, .inl (fun _ => 0)))] := hD
  refine lv_aload_n hx hb dX4_init_48 rfl (lv_at hl 0 rfl) ?_
  refine lv_iconst (v := 3) hx hb dX4_init_49 rfl ?_
  refine va_put (D := xD E) (ci := 4) (v := .int (3)) (ty := tyX4 7) (C := RX4) (T := TX4) (N := 9) hx hb hts (by decide +kernel) tyX4 tyX4_ok nmX4 hown hK hP hD hS 0 rfl rfl 7 (by decide) (hts (.fieldLink RX4 34 "RailOffsets$Tape" "sort" "I") (by decide +kernel)) (fun _ h => h) rfl (by decide +kernel) rfl rfl (Nat.le_of_ble_eq_true rfl) dX4_init_50 (fun H locs hP hD hS => ?_)
  have hP : va_P (xD E) vwCl [(h0, .inr (4, [.ref q1, .ref q2, .ref q3, .int (0), .int (0), .int (0), .int (0), .int (3), .int 0])), (q1, .inl (xct E 0, 60, .inl (fun _ => 0))), (q2, .inl (xct E 0, 12, .inl (fun _ => 0))), (q3, .inl (xct E 0, 48, .inl (fun _ => 0)))] H := hP
  have hD : va_D A [(h0, .inr (4, [.ref q1, .ref q2, .ref q3, .int (0), .int (0), .int (0), .int (0), .int (3), .int 0])), (q1, .inl (xct E 0, 60, .inl (fun _ => 0))), (q2, .inl (xct E 0, 12, .inl (fun _ => 0))), (q3, .inl (xct E 0, 48, .inl (fun _ => 0)))] := hD
  refine lv_aload_n hx hb dX4_init_53 rfl (lv_at hl 0 rfl) ?_
  refine lv_iconst (v := 0) hx hb dX4_init_54 rfl ?_
  refine va_put (D := xD E) (ci := 4) (v := .int (0)) (ty := tyX4 8) (C := RX4) (T := TX4) (N := 9) hx hb hts (by decide +kernel) tyX4 tyX4_ok nmX4 hown hK hP hD hS 0 rfl rfl 8 (by decide) (hts (.fieldLink RX4 37 "RailOffsets$Tape" "value" "I") (by decide +kernel)) (fun _ h => h) rfl (by decide +kernel) rfl rfl (Nat.le_of_ble_eq_true rfl) dX4_init_55 (fun H locs hP hD hS => ?_)
  have hP : va_P (xD E) vwCl [(h0, .inr (4, [.ref q1, .ref q2, .ref q3, .int (0), .int (0), .int (0), .int (0), .int (3), .int (0)])), (q1, .inl (xct E 0, 60, .inl (fun _ => 0))), (q2, .inl (xct E 0, 12, .inl (fun _ => 0))), (q3, .inl (xct E 0, 48, .inl (fun _ => 0)))] H := hP
  have hD : va_D A [(h0, .inr (4, [.ref q1, .ref q2, .ref q3, .int (0), .int (0), .int (0), .int (0), .int (3), .int (0)])), (q1, .inl (xct E 0, 60, .inl (fun _ => 0))), (q2, .inl (xct E 0, 12, .inl (fun _ => 0))), (q3, .inl (xct E 0, 48, .inl (fun _ => 0)))] := hD
  refine W.widen (k := rm_X4_init.cells) (n := rm_X4_init.slots) (by decide +kernel) (by decide +kernel) ?_
  exact W.vret hx hb hr (fun t ht _ => ⟨⟨fun j => [q1, q2, q3].getD j 0, rfl, trivial, by rw [ht]; exact hP, hD⟩, hS.F ht⟩) hS.2.2 dX4_init_58
