/-! ===== the reference's old line ===== -/
theorem xlo16 {s x : Int32} {u : xU} (hz : XZ u) (hs : XS4 s) (h1 : 1 ≤ x.toInt) (q : ¬ (u.1 9 s.toNatClampNeg) < x) : vp_in (((40 * s) + x) - 1) 160 := by
  have h2 := xz4 hz hs
  rw [fa_lt] at q
  obtain ⟨a, b⟩ := hs
  have h4 : (40 * s).toInt = 40 * s.toInt := fb_mulI (x := 40) (y := s) (by rw [show (40 : Int32).toInt = 40 from rfl]; omega) (by rw [show (40 : Int32).toInt = 40 from rfl]; omega)
  have h5 : ((40 * s) + x).toInt = 40 * s.toInt + x.toInt := by rw [fb_addI (by omega) (by omega), h4]
  rw [vp_in_iff, xsub1i (by omega), h5]
  omega
theorem xif {c : Prop} [Decidable c] {x y : Int32} (hx : c → XSt x) (hy : ¬ c → XSt y) : XSt (if c then x else y) := by
  split
  · rename_i q; exact hx q
  · rename_i q; exact hy q
def s_X6_laysOld_L2 : Nat → xU → Int32 → Int32 → xU
  | 0, u, _, _ => u
  | n + 1, u, x1, x2 =>
    if (u.2 1) < x2 then
      u
    else
      s_X6_laysOld_L2 n (uA u 12 x2.toNatClampNeg (if (-999) ≤ (if (u.1 9 x1.toNatClampNeg) < x2 then 0 else u.1 10 (((40 * x1) + x2) - 1).toNatClampNeg) then if (if (u.1 9 x1.toNatClampNeg) < x2 then 0 else u.1 10 (((40 * x1) + x2) - 1).toNatClampNeg) ≤ 999 then if (u.1 9 x1.toNatClampNeg) < x2 then 0 else u.1 10 (((40 * x1) + x2) - 1).toNatClampNeg else 999 else (-999))) x1 (x2 + 1)
def s_X6_laysOld (u : xU) (p1 : Int32) : xU :=
  s_X6_laysOld_L2 (((u.2 1).toInt + 1 - (1 : Int32).toInt).toNat + 1) u p1 1
abbrev rm_X6_laysOld : Room := { frames := 0, cells := 0, slots := 0, locals := 0 }
set_option maxHeartbeats 8000000 in
set_option maxRecDepth 100000 in
theorem c_X6_laysOld (l : Launch) (E : xG) (a : Nat → Nat) (u : xU) (p1 : Int32) (hp0 : XZ u) (hp1 : XSt (u.2 1)) (hp2 : XS4 p1) (hL : xOK E (LM a)) : xMd l E yX6_laysOld wsX6_laysOld rm_X6_laysOld (LM a) [.ref (a 0), .int p1] (wM E a u) (none) (wM E a (s_X6_laysOld u p1)) := by
  refine xMd.of (cc := cX6_laysOld) (maxL := 4) (ret := none) (by decide) rfl (Nat.le_of_ble_eq_true rfl) ?_
  intro p e s m below meth c ls hAt hF hP hS hl
  obtain ⟨hx, hb, hr, hml, hown, hts, hlocks, -⟩ := hAt
  have hown : s.vm.findClass RX6 = some m.cls := hown
  have hl : lv_has ls 4 [(0, .ref (a 0)), (1, .int p1)] := hl
  have hK := hF.1
  have hA := hL.2
  change W p l e rm_X6_laysOld s m ([.ref (a 0), .int p1] : List Value).toArray below meth c s.heap [] 0 0 (xQmd E below (LM a) (none) (wM E a (s_X6_laysOld u p1)) ([.ref (a 0), .int p1] : List Value).toArray s) _
  have hS : va_S (· ∈ LM a) s.heap s.heap [] := hS
  have hR : s_X6_laysOld u p1 = s_X6_laysOld u p1 := rfl
  refine lv_iconst (v := 1) hx hb dX6_laysOld_0 rfl ?_
  refine lv_istore_n (lv' := [(2, .int 1), (0, .ref (a 0)), (1, .int p1)]) hx hb dX6_laysOld_1 rfl hl (by decide) rfl (fun ls hl => ?_)
  have L2 : ∀ (n2 : Nat) (u2 : xU) (x2 : Int32) (H : Heap) (locs : List Loc) (ls : Array Slot), (XZ u2) → (XSt (u2.2 1)) → (1 ≤ x2.toInt) → ((u2.2 1).toInt + 1 - x2.toInt).toNat < n2 → s_X6_laysOld u p1 = s_X6_laysOld_L2 n2 u2 p1 x2 → lv_has ls 4 [(2, .int x2), (0, .ref (a 0)), (1, .int p1)] → va_P (xD E) vwCl (wM E a u2) H → va_S (· ∈ LM a) s.heap H locs → W p l e rm_X6_laysOld s m ([.ref (a 0), .int p1] : List Value).toArray below meth c H locs 0 0 (xQmd E below (LM a) (none) (wM E a (s_X6_laysOld u p1)) ([.ref (a 0), .int p1] : List Value).toArray s) (F0 m 2 ls []) := by
    intro n2
    induction n2 with
    | zero => intro u2 x2 H locs ls hI0 hI1 hI2 hM2 hR hl hP hS; exact absurd hM2 (Nat.not_lt_zero _)
    | succ n2 ih2 =>
      intro u2 x2 H locs ls hI0 hI1 hI2 hM2 hR hl hP hS
      refine lv_iload_n hx hb dX6_laysOld_2 rfl (lv_at hl 0 rfl) ?_
      refine lv_aload_n hx hb dX6_laysOld_3 rfl (lv_at hl 1 rfl) ?_
      refine va_get (D := xD E) (ci := 6) (v := .int (u2.2 1)) (C := RX6) (T := TX6) (N := 28) hx hb hts (by decide +kernel) hown hK hP 0 rfl rfl 8 (by decide) (hts (.fieldLink RX6 130 "RailOffsetsModel" "stations" "I") (by decide +kernel)) (fun _ h => h) rfl dX6_laysOld_4 ?_
      refine lv_icmp_gt (tgt := 77) hx hb dX6_laysOld_7 rfl (fun q1 => ?_) (fun q1 => ?_)
      · have hR := hR.trans (if_pos q1)
        have hR : s_X6_laysOld u p1 = u2 := hR
        exact W.vret hx hb hr (fun t ht _ => by rw [hR]; exact ⟨⟨rfl, by rw [ht]; exact hP⟩, hS.F ht⟩) hS.2.2 dX6_laysOld_77
      · have hR := hR.trans (if_neg q1)
        refine lv_iload_n hx hb dX6_laysOld_10 rfl (lv_at hl 0 rfl) ?_
        refine lv_aload_n hx hb dX6_laysOld_11 rfl (lv_at hl 1 rfl) ?_
        refine va_get (D := xD E) (ci := 6) (v := .ref (a 9)) (C := RX6) (T := TX6) (N := 28) hx hb hts (by decide +kernel) hown hK hP 0 rfl rfl 12 (by decide) (hts (.fieldLink RX6 36 "RailOffsetsModel" "sizes" "[I") (by decide +kernel)) (fun _ h => h) rfl dX6_laysOld_12 ?_
        refine lv_iload_n hx hb dX6_laysOld_15 rfl (lv_at hl 2 rfl) ?_
        refine va_iald hx hb hK hP 9 0 rfl rfl (xs4 hp2) dX6_laysOld_16 ?_
        have J2 : W p l e rm_X6_laysOld s m ([.ref (a 0), .int p1] : List Value).toArray below meth c H locs 0 0 (xQmd E below (LM a) (none) (wM E a (s_X6_laysOld u p1)) ([.ref (a 0), .int p1] : List Value).toArray s) (F0 m 37 ls [.int (if (u2.1 9 p1.toNatClampNeg) < x2 then 0 else u2.1 10 (((40 * p1) + x2) - 1).toNatClampNeg)]) := by
          refine lv_istore_n (lv' := [(3, .int (if (u2.1 9 p1.toNatClampNeg) < x2 then 0 else u2.1 10 (((40 * p1) + x2) - 1).toNatClampNeg)), (2, .int x2), (0, .ref (a 0)), (1, .int p1)]) hx hb dX6_laysOld_37 rfl hl (by decide) rfl (fun ls hl => ?_)
          refine lv_aload_n hx hb dX6_laysOld_38 rfl (lv_at hl 2 rfl) ?_
          refine va_get (D := xD E) (ci := 6) (v := .ref (a 12)) (C := RX6) (T := TX6) (N := 28) hx hb hts (by decide +kernel) hown hK hP 0 rfl rfl 15 (by decide) (hts (.fieldLink RX6 45 "RailOffsetsModel" "oldVersine" "[I") (by decide +kernel)) (fun _ h => h) rfl dX6_laysOld_39 ?_
          refine lv_iload_n hx hb dX6_laysOld_42 rfl (lv_at hl 1 rfl) ?_
          refine lv_iload_n hx hb dX6_laysOld_43 rfl (lv_at hl 0 rfl) ?_
          refine lv_sipush (v := (-999)) hx hb dX6_laysOld_44 rfl ?_
          have J4 : W p l e rm_X6_laysOld s m ([.ref (a 0), .int p1] : List Value).toArray below meth c H locs 0 0 (xQmd E below (LM a) (none) (wM E a (s_X6_laysOld u p1)) ([.ref (a 0), .int p1] : List Value).toArray s) (F0 m 70 ls [.int (if (-999) ≤ (if (u2.1 9 p1.toNatClampNeg) < x2 then 0 else u2.1 10 (((40 * p1) + x2) - 1).toNatClampNeg) then if (if (u2.1 9 p1.toNatClampNeg) < x2 then 0 else u2.1 10 (((40 * p1) + x2) - 1).toNatClampNeg) ≤ 999 then if (u2.1 9 p1.toNatClampNeg) < x2 then 0 else u2.1 10 (((40 * p1) + x2) - 1).toNatClampNeg else 999 else (-999)), .int x2, .ref (a 12)]) := by
            refine va_iast hx hb hK hP (xD_of (ws := wM E a u2) (A := (· ∈ LM a)) hL.1 (fun _ h => h)) hS 12 0 rfl rfl (xvst (xsup hI2 hI1 q1).st) dX6_laysOld_70 (fun H locs hP _ hS => ?_)
            have hP : va_P (xD E) vwCl (wM E a (uA u2 12 x2.toNatClampNeg (if (-999) ≤ (if (u2.1 9 p1.toNatClampNeg) < x2 then 0 else u2.1 10 (((40 * p1) + x2) - 1).toNatClampNeg) then if (if (u2.1 9 p1.toNatClampNeg) < x2 then 0 else u2.1 10 (((40 * p1) + x2) - 1).toNatClampNeg) ≤ 999 then if (u2.1 9 p1.toNatClampNeg) < x2 then 0 else u2.1 10 (((40 * p1) + x2) - 1).toNatClampNeg else 999 else (-999)))) H := hP
            refine lv_iinc (k := 1) (v := x2 + 1) (lv' := [(2, .int (x2 + 1)), (3, .int (if (u2.1 9 p1.toNatClampNeg) < x2 then 0 else u2.1 10 (((40 * p1) + x2) - 1).toNatClampNeg)), (0, .ref (a 0)), (1, .int p1)]) hx hb dX6_laysOld_71 hl rfl rfl (by decide) rfl (fun ls hl => ?_)
            refine lv_goto (tgt := 2) hx hb dX6_laysOld_74 rfl ?_
            exact ih2 (uA u2 12 x2.toNatClampNeg (if (-999) ≤ (if (u2.1 9 p1.toNatClampNeg) < x2 then 0 else u2.1 10 (((40 * p1) + x2) - 1).toNatClampNeg) then if (if (u2.1 9 p1.toNatClampNeg) < x2 then 0 else u2.1 10 (((40 * p1) + x2) - 1).toNatClampNeg) ≤ 999 then if (u2.1 9 p1.toNatClampNeg) < x2 then 0 else u2.1 10 (((40 * p1) + x2) - 1).toNatClampNeg else 999 else (-999))) (x2 + 1) _ _ _ (hI0) (hI1) (xs1u hI2 hI1 q1) (Nat.lt_of_lt_of_le (xupl q1 (xstl hI1)) (Nat.le_of_lt_succ hM2)) hR (lv_sub hl [0, 2, 3] rfl) hP hS
          refine lv_icmp_ge (tgt := 56) hx hb dX6_laysOld_47 rfl (fun q5 => ?_) (fun q5 => ?_)
          · refine lv_iload_n hx hb dX6_laysOld_56 rfl (lv_at hl 0 rfl) ?_
            refine lv_sipush (v := 999) hx hb dX6_laysOld_57 rfl ?_
            have J6 : W p l e rm_X6_laysOld s m ([.ref (a 0), .int p1] : List Value).toArray below meth c H locs 0 0 (xQmd E below (LM a) (none) (wM E a (s_X6_laysOld u p1)) ([.ref (a 0), .int p1] : List Value).toArray s) (F0 m 70 ls [.int (if (if (u2.1 9 p1.toNatClampNeg) < x2 then 0 else u2.1 10 (((40 * p1) + x2) - 1).toNatClampNeg) ≤ 999 then if (u2.1 9 p1.toNatClampNeg) < x2 then 0 else u2.1 10 (((40 * p1) + x2) - 1).toNatClampNeg else 999), .int x2, .ref (a 12)]) := by
              exact W.eq (congrArg (fun z => F0 m 70 ls [.int z, .int x2, .ref (a 12)]) (if_pos q5).symm) J4
            refine lv_icmp_le (tgt := 69) hx hb dX6_laysOld_60 rfl (fun q7 => ?_) (fun q7 => ?_)
            · refine lv_iload_n hx hb dX6_laysOld_69 rfl (lv_at hl 0 rfl) ?_
              exact W.eq (congrArg (fun z => F0 m 70 ls [.int z, .int x2, .ref (a 12)]) (if_pos q7).symm) J6
            · refine lv_sipush (v := 999) hx hb dX6_laysOld_63 rfl ?_
              refine lv_goto (tgt := 70) hx hb dX6_laysOld_66 rfl ?_
              exact W.eq (congrArg (fun z => F0 m 70 ls [.int z, .int x2, .ref (a 12)]) (if_neg q7).symm) J6
          · refine lv_sipush (v := (-999)) hx hb dX6_laysOld_50 rfl ?_
            refine lv_goto (tgt := 70) hx hb dX6_laysOld_53 rfl ?_
            exact W.eq (congrArg (fun z => F0 m 70 ls [.int z, .int x2, .ref (a 12)]) (if_neg q5).symm) J4
        refine lv_icmp_gt (tgt := 36) hx hb dX6_laysOld_17 rfl (fun q3 => ?_) (fun q3 => ?_)
        · refine lv_iconst (v := 0) hx hb dX6_laysOld_36 rfl ?_
          exact W.eq (congrArg (fun z => F0 m 37 ls [.int z]) (if_pos q3).symm) J2
        · refine lv_aload_n hx hb dX6_laysOld_20 rfl (lv_at hl 1 rfl) ?_
          refine va_get (D := xD E) (ci := 6) (v := .ref (a 10)) (C := RX6) (T := TX6) (N := 28) hx hb hts (by decide +kernel) hown hK hP 0 rfl rfl 13 (by decide) (hts (.fieldLink RX6 39 "RailOffsetsModel" "items" "[I") (by decide +kernel)) (fun _ h => h) rfl dX6_laysOld_21 ?_
          refine lv_bipush (v := 40) hx hb dX6_laysOld_24 rfl ?_
          refine lv_iload_n hx hb dX6_laysOld_26 rfl (lv_at hl 2 rfl) ?_
          refine lv_imul hx hb dX6_laysOld_27 ?_
          refine lv_iload_n hx hb dX6_laysOld_28 rfl (lv_at hl 0 rfl) ?_
          refine lv_iadd hx hb dX6_laysOld_29 ?_
          refine lv_iconst (v := 1) hx hb dX6_laysOld_30 rfl ?_
          refine lv_isub hx hb dX6_laysOld_31 ?_
          refine va_iald hx hb hK hP 10 0 rfl rfl (xlo16 hI0 hp2 hI2 q3) dX6_laysOld_32 ?_
          refine lv_goto (tgt := 37) hx hb dX6_laysOld_33 rfl ?_
          exact W.eq (congrArg (fun z => F0 m 37 ls [.int z]) (if_neg q3).symm) J2
  exact L2 (((u.2 1).toInt + 1 - (1 : Int32).toInt).toNat + 1) u 1 _ _ ls (hp0) (hp1) (by decide) (Nat.lt_succ_self _) hR hl hP hS
def s_X6_slews_L6 : Nat → xU → Int32 → Int32 → Int32 → xU
  | 0, u, _, _, _ => u
  | n + 1, u, x1, x2, x3 =>
    if (u.2 1) < x3 then
      u
    else
      s_X6_slews_L6 n (uA u 13 x3.toNatClampNeg ((x2 + (x1 + (u.1 12 x3.toNatClampNeg))) - (u.1 7 x3.toNatClampNeg))) (x1 + (u.1 12 x3.toNatClampNeg)) (x2 + (x1 + (u.1 12 x3.toNatClampNeg))) (x3 + 1)
def s_X6_slews (u : xU) : xU :=
  s_X6_slews_L6 (((u.2 1).toInt + 1 - (1 : Int32).toInt).toNat + 1) u 0 0 1
abbrev rm_X6_slews : Room := { frames := 0, cells := 0, slots := 0, locals := 0 }
set_option maxHeartbeats 8000000 in
set_option maxRecDepth 100000 in
theorem c_X6_slews (l : Launch) (E : xG) (a : Nat → Nat) (u : xU)  (hp0 : XSt (u.2 1)) (hL : xOK E (LM a)) : xMd l E yX6_slews wsX6_slews rm_X6_slews (LM a) [.ref (a 0)] (wM E a u) (none) (wM E a (s_X6_slews u)) := by
  refine xMd.of (cc := cX6_slews) (maxL := 4) (ret := none) (by decide) rfl (Nat.le_of_ble_eq_true rfl) ?_
  intro p e s m below meth c ls hAt hF hP hS hl
  obtain ⟨hx, hb, hr, hml, hown, hts, hlocks, -⟩ := hAt
  have hown : s.vm.findClass RX6 = some m.cls := hown
  have hl : lv_has ls 4 [(0, .ref (a 0))] := hl
  have hK := hF.1
  have hA := hL.2
  change W p l e rm_X6_slews s m ([.ref (a 0)] : List Value).toArray below meth c s.heap [] 0 0 (xQmd E below (LM a) (none) (wM E a (s_X6_slews u)) ([.ref (a 0)] : List Value).toArray s) _
  have hS : va_S (· ∈ LM a) s.heap s.heap [] := hS
  have hR : s_X6_slews u = s_X6_slews u := rfl
  refine lv_iconst (v := 0) hx hb dX6_slews_0 rfl ?_
  refine lv_istore_n (lv' := [(1, .int 0), (0, .ref (a 0))]) hx hb dX6_slews_1 rfl hl (by decide) rfl (fun ls hl => ?_)
  refine lv_iconst (v := 0) hx hb dX6_slews_2 rfl ?_
  refine lv_istore_n (lv' := [(2, .int 0), (1, .int 0), (0, .ref (a 0))]) hx hb dX6_slews_3 rfl hl (by decide) rfl (fun ls hl => ?_)
  refine lv_iconst (v := 1) hx hb dX6_slews_4 rfl ?_
  refine lv_istore_n (lv' := [(3, .int 1), (2, .int 0), (1, .int 0), (0, .ref (a 0))]) hx hb dX6_slews_5 rfl hl (by decide) rfl (fun ls hl => ?_)
  have L6 : ∀ (n6 : Nat) (u6 : xU) (x1 : Int32) (x2 : Int32) (x3 : Int32) (H : Heap) (locs : List Loc) (ls : Array Slot), (XSt (u6.2 1)) → (1 ≤ x3.toInt) → ((u6.2 1).toInt + 1 - x3.toInt).toNat < n6 → s_X6_slews u = s_X6_slews_L6 n6 u6 x1 x2 x3 → lv_has ls 4 [(3, .int x3), (2, .int x2), (1, .int x1), (0, .ref (a 0))] → va_P (xD E) vwCl (wM E a u6) H → va_S (· ∈ LM a) s.heap H locs → W p l e rm_X6_slews s m ([.ref (a 0)] : List Value).toArray below meth c H locs 0 0 (xQmd E below (LM a) (none) (wM E a (s_X6_slews u)) ([.ref (a 0)] : List Value).toArray s) (F0 m 6 ls []) := by
    intro n6
    induction n6 with
    | zero => intro u6 x1 x2 x3 H locs ls hI0 hI1 hM6 hR hl hP hS; exact absurd hM6 (Nat.not_lt_zero _)
    | succ n6 ih6 =>
      intro u6 x1 x2 x3 H locs ls hI0 hI1 hM6 hR hl hP hS
      refine lv_iload_n hx hb dX6_slews_6 rfl (lv_at hl 0 rfl) ?_
      refine lv_aload_n hx hb dX6_slews_7 rfl (lv_at hl 3 rfl) ?_
      refine va_get (D := xD E) (ci := 6) (v := .int (u6.2 1)) (C := RX6) (T := TX6) (N := 28) hx hb hts (by decide +kernel) hown hK hP 0 rfl rfl 8 (by decide) (hts (.fieldLink RX6 130 "RailOffsetsModel" "stations" "I") (by decide +kernel)) (fun _ h => h) rfl dX6_slews_8 ?_
      refine lv_icmp_gt (tgt := 47) hx hb dX6_slews_11 rfl (fun q1 => ?_) (fun q1 => ?_)
      · have hR := hR.trans (if_pos q1)
        have hR : s_X6_slews u = u6 := hR
        exact W.vret hx hb hr (fun t ht _ => by rw [hR]; exact ⟨⟨rfl, by rw [ht]; exact hP⟩, hS.F ht⟩) hS.2.2 dX6_slews_47
      · have hR := hR.trans (if_neg q1)
        refine lv_iload_n hx hb dX6_slews_14 rfl (lv_at hl 2 rfl) ?_
        refine lv_aload_n hx hb dX6_slews_15 rfl (lv_at hl 3 rfl) ?_
        refine va_get (D := xD E) (ci := 6) (v := .ref (a 12)) (C := RX6) (T := TX6) (N := 28) hx hb hts (by decide +kernel) hown hK hP 0 rfl rfl 15 (by decide) (hts (.fieldLink RX6 45 "RailOffsetsModel" "oldVersine" "[I") (by decide +kernel)) (fun _ h => h) rfl dX6_slews_16 ?_
        refine lv_iload_n hx hb dX6_slews_19 rfl (lv_at hl 0 rfl) ?_
        refine va_iald hx hb hK hP 12 0 rfl rfl (xvst (xsup hI1 hI0 q1).st) dX6_slews_20 ?_
        refine lv_iadd hx hb dX6_slews_21 ?_
        refine lv_istore_n (lv' := [(1, .int (x1 + (u6.1 12 x3.toNatClampNeg))), (3, .int x3), (2, .int x2), (0, .ref (a 0))]) hx hb dX6_slews_22 rfl hl (by decide) rfl (fun ls hl => ?_)
        refine lv_iload_n hx hb dX6_slews_23 rfl (lv_at hl 2 rfl) ?_
        refine lv_iload_n hx hb dX6_slews_24 rfl (lv_at hl 0 rfl) ?_
        refine lv_iadd hx hb dX6_slews_25 ?_
        refine lv_istore_n (lv' := [(2, .int (x2 + (x1 + (u6.1 12 x3.toNatClampNeg)))), (1, .int (x1 + (u6.1 12 x3.toNatClampNeg))), (3, .int x3), (0, .ref (a 0))]) hx hb dX6_slews_26 rfl hl (by decide) rfl (fun ls hl => ?_)
        refine lv_aload_n hx hb dX6_slews_27 rfl (lv_at hl 3 rfl) ?_
        refine va_get (D := xD E) (ci := 6) (v := .ref (a 13)) (C := RX6) (T := TX6) (N := 28) hx hb hts (by decide +kernel) hown hK hP 0 rfl rfl 16 (by decide) (hts (.fieldLink RX6 48 "RailOffsetsModel" "slewed" "[I") (by decide +kernel)) (fun _ h => h) rfl dX6_slews_28 ?_
        refine lv_iload_n hx hb dX6_slews_31 rfl (lv_at hl 2 rfl) ?_
        refine lv_iload_n hx hb dX6_slews_32 rfl (lv_at hl 0 rfl) ?_
        refine lv_aload_n hx hb dX6_slews_33 rfl (lv_at hl 3 rfl) ?_
        refine va_get (D := xD E) (ci := 6) (v := .ref (a 7)) (C := RX6) (T := TX6) (N := 28) hx hb hts (by decide +kernel) hown hK hP 0 rfl rfl 7 (by decide) (hts (.fieldLink RX6 30 "RailOffsetsModel" "offset" "[I") (by decide +kernel)) (fun _ h => h) rfl dX6_slews_34 ?_
        refine lv_iload_n hx hb dX6_slews_37 rfl (lv_at hl 2 rfl) ?_
        refine va_iald hx hb hK hP 7 0 rfl rfl (xvst (xsup hI1 hI0 q1).st) dX6_slews_38 ?_
        refine lv_isub hx hb dX6_slews_39 ?_
        refine va_iast hx hb hK hP (xD_of (ws := wM E a u6) (A := (· ∈ LM a)) hL.1 (fun _ h => h)) hS 13 0 rfl rfl (xvst (xsup hI1 hI0 q1).st) dX6_slews_40 (fun H locs hP _ hS => ?_)
        have hP : va_P (xD E) vwCl (wM E a (uA u6 13 x3.toNatClampNeg ((x2 + (x1 + (u6.1 12 x3.toNatClampNeg))) - (u6.1 7 x3.toNatClampNeg)))) H := hP
        refine lv_iinc (k := 2) (v := x3 + 1) (lv' := [(3, .int (x3 + 1)), (2, .int (x2 + (x1 + (u6.1 12 x3.toNatClampNeg)))), (1, .int (x1 + (u6.1 12 x3.toNatClampNeg))), (0, .ref (a 0))]) hx hb dX6_slews_41 hl rfl rfl (by decide) rfl (fun ls hl => ?_)
        refine lv_goto (tgt := 6) hx hb dX6_slews_44 rfl ?_
        exact ih6 (uA u6 13 x3.toNatClampNeg ((x2 + (x1 + (u6.1 12 x3.toNatClampNeg))) - (u6.1 7 x3.toNatClampNeg))) (x1 + (u6.1 12 x3.toNatClampNeg)) (x2 + (x1 + (u6.1 12 x3.toNatClampNeg))) (x3 + 1) _ _ _ (hI0) (xs1u hI1 hI0 q1) (Nat.lt_of_lt_of_le (xupl q1 (xstl hI0)) (Nat.le_of_lt_succ hM6)) hR (lv_sub hl [0, 1, 2, 3] rfl) hP hS
  exact L6 (((u.2 1).toInt + 1 - (1 : Int32).toInt).toNat + 1) u 0 0 1 _ _ ls (hp0) (by decide) (Nat.lt_succ_self _) hR hl hP hS
def s_X6_widest_L4 : Nat → xU → Int32 → Int32 → Int32
  | 0, _, _, _ => 0
  | n + 1, u, x1, x2 =>
    if (u.2 1) < x2 then
      x1
    else
      s_X6_widest_L4 n u (if x1 < 0 then x2 else if (s_X6_abs u (u.1 13 x2.toNatClampNeg)) ≤ (s_X6_abs u (u.1 13 x1.toNatClampNeg)) then x1 else x2) (x2 + 1)
def s_X6_widest (u : xU) : Int32 :=
  s_X6_widest_L4 (((u.2 1).toInt + 1 - (1 : Int32).toInt).toNat + 1) u (-1) 1
abbrev rm_X6_widest : Room := { frames := 1, cells := 0, slots := 0, locals := 20 }
set_option maxHeartbeats 8000000 in
set_option maxRecDepth 100000 in
theorem c_X6_widest (l : Launch) (E : xG) (a : Nat → Nat) (u : xU)  (hp0 : XSt (u.2 1)) : xRo l E yX6_widest wsX6_widest rm_X6_widest [.ref (a 0)] (wM E a u) (some (.int (s_X6_widest u))) := by
  refine xRo.of (cc := cX6_widest) (maxL := 3) (ret := (some .int)) (by decide) rfl (Nat.le_of_ble_eq_true rfl) ?_
  intro p e s m below meth c ls hAt hF hP hS hl
  obtain ⟨hx, hb, hr, hml, hown, hts, hlocks, -⟩ := hAt
  have hown : s.vm.findClass RX6 = some m.cls := hown
  have hl : lv_has ls 3 [(0, .ref (a 0))] := hl
  have hK := hF.1
  have hA : ∀ q : Nat, (fun _ => False) q → xA0 E q := fun _ h => h.elim
  change W p l e rm_X6_widest s m ([.ref (a 0)] : List Value).toArray below meth c s.heap [] 0 0 (xQro below (some (.int (s_X6_widest u))) ([.ref (a 0)] : List Value).toArray s) _
  have hR : s_X6_widest u = s_X6_widest u := rfl
  refine lv_iconst (v := (-1)) hx hb dX6_widest_0 rfl ?_
  refine lv_istore_n (lv' := [(1, .int (-1)), (0, .ref (a 0))]) hx hb dX6_widest_1 rfl hl (by decide) rfl (fun ls hl => ?_)
  refine lv_iconst (v := 1) hx hb dX6_widest_2 rfl ?_
  refine lv_istore_n (lv' := [(2, .int 1), (1, .int (-1)), (0, .ref (a 0))]) hx hb dX6_widest_3 rfl hl (by decide) rfl (fun ls hl => ?_)
  have L4 : ∀ (n4 : Nat) (x1 : Int32) (x2 : Int32) (ls : Array Slot), (1 ≤ x2.toInt) → (x1 < 0 ∨ XSt x1) → ((u.2 1).toInt + 1 - x2.toInt).toNat < n4 → s_X6_widest u = s_X6_widest_L4 n4 u x1 x2 → lv_has ls 3 [(2, .int x2), (1, .int x1), (0, .ref (a 0))] → W p l e rm_X6_widest s m ([.ref (a 0)] : List Value).toArray below meth c s.heap [] 0 0 (xQro below (some (.int (s_X6_widest u))) ([.ref (a 0)] : List Value).toArray s) (F0 m 4 ls []) := by
    intro n4
    induction n4 with
    | zero => intro x1 x2 ls hI0 hI1 hM4 hR hl; exact absurd hM4 (Nat.not_lt_zero _)
    | succ n4 ih4 =>
      intro x1 x2 ls hI0 hI1 hM4 hR hl
      refine lv_iload_n hx hb dX6_widest_4 rfl (lv_at hl 0 rfl) ?_
      refine lv_aload_n hx hb dX6_widest_5 rfl (lv_at hl 2 rfl) ?_
      refine va_get (D := xD E) (ci := 6) (v := .int (u.2 1)) (C := RX6) (T := TX6) (N := 28) hx hb hts (by decide +kernel) hown hK hP 0 rfl rfl 8 (by decide) (hts (.fieldLink RX6 130 "RailOffsetsModel" "stations" "I") (by decide +kernel)) (fun _ h => h) rfl dX6_widest_6 ?_
      refine lv_icmp_gt (tgt := 49) hx hb dX6_widest_9 rfl (fun q1 => ?_) (fun q1 => ?_)
      · have hR := hR.trans (if_pos q1)
        refine lv_iload_n hx hb dX6_widest_49 rfl (lv_at hl 1 rfl) ?_
        have hR : s_X6_widest u = x1 := hR
        exact W.iret (v := x1) hx hb hr (fun t ht _ => ⟨congrArg (fun z => Outcome.returned (some (Value.int z))) hR.symm, ht⟩) (fun _ h => by cases h) dX6_widest_50
      · have hR := hR.trans (if_neg q1)
        refine lv_iload_n hx hb dX6_widest_12 rfl (lv_at hl 1 rfl) ?_
        have J2 : W p l e rm_X6_widest s m ([.ref (a 0)] : List Value).toArray below meth c s.heap [] 0 0 (xQro below (some (.int (s_X6_widest u))) ([.ref (a 0)] : List Value).toArray s) (F0 m 42 ls [.int (if x1 < 0 then x2 else if (s_X6_abs u (u.1 13 x2.toNatClampNeg)) ≤ (s_X6_abs u (u.1 13 x1.toNatClampNeg)) then x1 else x2)]) := by
          refine lv_istore_n (lv' := [(1, .int (if x1 < 0 then x2 else if (s_X6_abs u (u.1 13 x2.toNatClampNeg)) ≤ (s_X6_abs u (u.1 13 x1.toNatClampNeg)) then x1 else x2)), (2, .int x2), (0, .ref (a 0))]) hx hb dX6_widest_42 rfl hl (by decide) rfl (fun ls hl => ?_)
          refine lv_iinc (k := 1) (v := x2 + 1) (lv' := [(2, .int (x2 + 1)), (1, .int (if x1 < 0 then x2 else if (s_X6_abs u (u.1 13 x2.toNatClampNeg)) ≤ (s_X6_abs u (u.1 13 x1.toNatClampNeg)) then x1 else x2)), (0, .ref (a 0))]) hx hb dX6_widest_43 hl rfl rfl (by decide) rfl (fun ls hl => ?_)
          refine lv_goto (tgt := 4) hx hb dX6_widest_46 rfl ?_
          exact ih4 (if x1 < 0 then x2 else if (s_X6_abs u (u.1 13 x2.toNatClampNeg)) ≤ (s_X6_abs u (u.1 13 x1.toNatClampNeg)) then x1 else x2) (x2 + 1) _ (xs1u hI0 hp0 q1) (Or.inr (xif (fun _ => (xsup hI0 hp0 q1).st) (fun q9 => xif (fun _ => hI1.resolve_left q9) (fun _ => (xsup hI0 hp0 q1).st)))) (Nat.lt_of_lt_of_le (xupl q1 (xstl hp0)) (Nat.le_of_lt_succ hM4)) hR (lv_sub hl [0, 1, 2] rfl)
        refine lv_if_lt (tgt := 37) hx hb dX6_widest_13 rfl (fun q3 => ?_) (fun q3 => ?_)
        · refine lv_iload_n hx hb dX6_widest_37 rfl (lv_at hl 0 rfl) ?_
          refine lv_goto (tgt := 42) hx hb dX6_widest_38 rfl ?_
          exact W.eq (congrArg (fun z => F0 m 42 ls [.int z]) (if_pos q3).symm) J2
        · refine lv_aload_n hx hb dX6_widest_16 rfl (lv_at hl 2 rfl) ?_
          refine va_get (D := xD E) (ci := 6) (v := .ref (a 13)) (C := RX6) (T := TX6) (N := 28) hx hb hts (by decide +kernel) hown hK hP 0 rfl rfl 16 (by decide) (hts (.fieldLink RX6 48 "RailOffsetsModel" "slewed" "[I") (by decide +kernel)) (fun _ h => h) rfl dX6_widest_17 ?_
          refine lv_iload_n hx hb dX6_widest_20 rfl (lv_at hl 0 rfl) ?_
          refine va_iald hx hb hK hP 13 0 rfl rfl (xvst (xsup hI0 hp0 q1).st) dX6_widest_21 ?_
          refine xRoS (nL := 3) ⟨hx, hb, hml, hown, hts⟩ (c_X6_abs l E a u (u.1 13 x2.toNatClampNeg)) (va_cwS 1 hts gX6_widest_X6_abs rfl rfl rfl hd_X6_abs ⟨(Nat.le_of_ble_eq_true rfl), (Nat.le_of_ble_eq_true rfl)⟩) hF hS hA hP rfl hl.1 rfl (Nat.le_of_ble_eq_true rfl) ⟨(Nat.le_of_ble_eq_true rfl), (Nat.le_of_ble_eq_true rfl)⟩ dX6_widest_22 ?_
          refine W.eq (g2 := F0 m 25 ls [.int (s_X6_abs u (u.1 13 x2.toNatClampNeg))]) rfl ?_
          refine lv_aload_n hx hb dX6_widest_25 rfl (lv_at hl 2 rfl) ?_
          refine va_get (D := xD E) (ci := 6) (v := .ref (a 13)) (C := RX6) (T := TX6) (N := 28) hx hb hts (by decide +kernel) hown hK hP 0 rfl rfl 16 (by decide) (hts (.fieldLink RX6 48 "RailOffsetsModel" "slewed" "[I") (by decide +kernel)) (fun _ h => h) rfl dX6_widest_26 ?_
          refine lv_iload_n hx hb dX6_widest_29 rfl (lv_at hl 1 rfl) ?_
          refine va_iald hx hb hK hP 13 0 rfl rfl (xvst (hI1.resolve_left q3)) dX6_widest_30 ?_
          refine xRoS (nL := 3) ⟨hx, hb, hml, hown, hts⟩ (c_X6_abs l E a u (u.1 13 x1.toNatClampNeg)) (va_cwS 1 hts gX6_widest_X6_abs rfl rfl rfl hd_X6_abs ⟨(Nat.le_of_ble_eq_true rfl), (Nat.le_of_ble_eq_true rfl)⟩) hF hS hA hP rfl hl.1 rfl (Nat.le_of_ble_eq_true rfl) ⟨(Nat.le_of_ble_eq_true rfl), (Nat.le_of_ble_eq_true rfl)⟩ dX6_widest_31 ?_
          refine W.eq (g2 := F0 m 34 ls [.int (s_X6_abs u (u.1 13 x1.toNatClampNeg)), .int (s_X6_abs u (u.1 13 x2.toNatClampNeg))]) rfl ?_
          have J4 : W p l e rm_X6_widest s m ([.ref (a 0)] : List Value).toArray below meth c s.heap [] 0 0 (xQro below (some (.int (s_X6_widest u))) ([.ref (a 0)] : List Value).toArray s) (F0 m 42 ls [.int (if (s_X6_abs u (u.1 13 x2.toNatClampNeg)) ≤ (s_X6_abs u (u.1 13 x1.toNatClampNeg)) then x1 else x2)]) := by
            exact W.eq (congrArg (fun z => F0 m 42 ls [.int z]) (if_neg q3).symm) J2
          refine lv_icmp_le (tgt := 41) hx hb dX6_widest_34 rfl (fun q5 => ?_) (fun q5 => ?_)
          · refine lv_iload_n hx hb dX6_widest_41 rfl (lv_at hl 1 rfl) ?_
            exact W.eq (congrArg (fun z => F0 m 42 ls [.int z]) (if_pos q5).symm) J4
          · refine lv_iload_n hx hb dX6_widest_37 rfl (lv_at hl 0 rfl) ?_
            refine lv_goto (tgt := 42) hx hb dX6_widest_38 rfl ?_
            exact W.eq (congrArg (fun z => F0 m 42 ls [.int z]) (if_neg q5).symm) J4
  exact L4 (((u.2 1).toInt + 1 - (1 : Int32).toInt).toNat + 1) (-1) 1 ls (by decide) (Or.inl (by decide)) (Nat.lt_succ_self _) hR hl
theorem xlo_L : ∀ (n : Nat) (u : xU) (x1 x2 : Int32), (s_X6_laysOld_L2 n u x1 x2).2 = u.2 ∧ ∀ k, k ≠ 12 → (s_X6_laysOld_L2 n u x1 x2).1 k = u.1 k := by
  intro n
  induction n with
  | zero => intros; exact ⟨rfl, fun _ _ => rfl⟩
  | succ n ih =>
    intro u x1 x2
    rw [s_X6_laysOld_L2]
    split
    · exact ⟨rfl, fun _ _ => rfl⟩
    · obtain ⟨a, b⟩ := ih (uA u 12 x2.toNatClampNeg (if (-999) ≤ (if (u.1 9 x1.toNatClampNeg) < x2 then 0 else u.1 10 (((40 * x1) + x2) - 1).toNatClampNeg) then if (if (u.1 9 x1.toNatClampNeg) < x2 then 0 else u.1 10 (((40 * x1) + x2) - 1).toNatClampNeg) ≤ 999 then if (u.1 9 x1.toNatClampNeg) < x2 then 0 else u.1 10 (((40 * x1) + x2) - 1).toNatClampNeg else 999 else (-999))) x1 (x2 + 1)
      refine ⟨a, fun k hk => (b k hk).trans ?_⟩
      simp only [uA]
      rw [if_neg hk]
theorem xlo (u : xU) (s : Int32) : (s_X6_laysOld u s).2 = u.2 ∧ ∀ k, k ≠ 12 → (s_X6_laysOld u s).1 k = u.1 k := xlo_L _ _ _ _
theorem xsl_L : ∀ (n : Nat) (u : xU) (x1 x2 x3 : Int32), (s_X6_slews_L6 n u x1 x2 x3).2 = u.2 ∧ ∀ k, k ≠ 13 → (s_X6_slews_L6 n u x1 x2 x3).1 k = u.1 k := by
  intro n
  induction n with
  | zero => intros; exact ⟨rfl, fun _ _ => rfl⟩
  | succ n ih =>
    intro u x1 x2 x3
    rw [s_X6_slews_L6]
    split
    · exact ⟨rfl, fun _ _ => rfl⟩
    · obtain ⟨a, b⟩ := ih (uA u 13 x3.toNatClampNeg ((x2 + (x1 + (u.1 12 x3.toNatClampNeg))) - (u.1 7 x3.toNatClampNeg))) (x1 + (u.1 12 x3.toNatClampNeg)) (x2 + (x1 + (u.1 12 x3.toNatClampNeg))) (x3 + 1)
      refine ⟨a, fun k hk => (b k hk).trans ?_⟩
      simp only [uA]
      rw [if_neg hk]
theorem xsl (u : xU) : (s_X6_slews u).2 = u.2 ∧ ∀ k, k ≠ 13 → (s_X6_slews u).1 k = u.1 k := xsl_L _ _ _ _ _
theorem xwid_L {N : Int32} (hN : XSt N) : ∀ (n : Nat) (u : xU) (x1 x2 : Int32), u.2 1 = N → 1 ≤ x2.toInt → (x1 < 0 ∨ XSt x1) → s_X6_widest_L4 n u x1 x2 < 0 ∨ XSt (s_X6_widest_L4 n u x1 x2) := by
  intro n
  induction n with
  | zero => intros; exact Or.inr (show XSt 0 from ⟨by decide, by decide⟩)
  | succ n ih =>
    intro u x1 x2 e h1 h2
    rw [s_X6_widest_L4]
    split
    · exact h2
    · rename_i q
      rw [e] at q
      refine ih _ _ _ e (xs1u h1 hN q) (Or.inr (xif (fun _ => (xsup h1 hN q).st) (fun q3 => xif (fun _ => h2.resolve_left q3) (fun _ => (xsup h1 hN q).st))))
theorem xwid {u : xU} (h : XSt (u.2 1)) : s_X6_widest u < 0 ∨ XSt (s_X6_widest u) := xwid_L h _ _ _ _ rfl (by decide) (Or.inl (by decide))
theorem xwidn {u : xU} (h : XSt (u.2 1)) (q : 0 ≤ s_X6_widest u) : XSt (s_X6_widest u) := (xwid h).resolve_left (fun z => by
  rw [fa_lt] at z
  rw [fa_le] at q
  omega)
theorem XZ.ls {u w : xU} (h : XZ u) (hs : xLS u w) : XZ w := by
  unfold XZ
  rw [hs.1 9 (by decide) (by decide) (by decide) (by decide) (by decide)]
  exact h
theorem xlays_z {u : xU} (h : XZ u) : XZ (s_X6_lays u) := h.ls (xlays_ls u)
theorem xlo_z {u : xU} {s : Int32} (h : XZ u) : XZ (s_X6_laysOld u s) := by
  unfold XZ
  rw [(xlo u s).2 9 (by decide)]
  exact h
theorem xlo_w {u : xU} {s : Int32} (h : XW u) : XW (s_X6_laysOld u s) := by
  unfold XW
  rw [(xlo u s).2 1 (by decide)]
  exact h
theorem xlo_st {u : xU} {s : Int32} (h : XSt (u.2 1)) : XSt ((s_X6_laysOld u s).2 1) := by rw [(xlo u s).1]; exact h
theorem xsl_z {u : xU} (h : XZ u) : XZ (s_X6_slews u) := by
  unfold XZ
  rw [(xsl u).2 9 (by decide)]
  exact h
theorem xsl_w {u : xU} (h : XW u) : XW (s_X6_slews u) := by
  unfold XW
  rw [(xsl u).2 1 (by decide)]
  exact h
theorem xsl_st {u : xU} (h : XSt (u.2 1)) : XSt ((s_X6_slews u).2 1) := by rw [(xsl u).1]; exact h
def s_X6_most (u : xU) : Int32 :=
  if 0 ≤ (s_X6_widest u) then
    s_X6_abs u (u.1 13 (s_X6_widest u).toNatClampNeg)
  else
    0
abbrev rm_X6_most : Room := { frames := 2, cells := 0, slots := 0, locals := 42 }
set_option maxHeartbeats 8000000 in
set_option maxRecDepth 100000 in
theorem c_X6_most (l : Launch) (E : xG) (a : Nat → Nat) (u : xU)  (hp0 : XSt (u.2 1)) : xRo l E yX6_most wsX6_most rm_X6_most [.ref (a 0)] (wM E a u) (some (.int (s_X6_most u))) := by
  refine xRo.of (cc := cX6_most) (maxL := 2) (ret := (some .int)) (by decide) rfl (Nat.le_of_ble_eq_true rfl) ?_
  intro p e s m below meth c ls hAt hF hP hS hl
  obtain ⟨hx, hb, hr, hml, hown, hts, hlocks, -⟩ := hAt
  have hown : s.vm.findClass RX6 = some m.cls := hown
  have hl : lv_has ls 2 [(0, .ref (a 0))] := hl
  have hK := hF.1
  have hA : ∀ q : Nat, (fun _ => False) q → xA0 E q := fun _ h => h.elim
  change W p l e rm_X6_most s m ([.ref (a 0)] : List Value).toArray below meth c s.heap [] 0 0 (xQro below (some (.int (s_X6_most u))) ([.ref (a 0)] : List Value).toArray s) _
  have hR : s_X6_most u = s_X6_most u := rfl
  refine lv_aload_n hx hb dX6_most_0 rfl (lv_at hl 0 rfl) ?_
  refine xRoV (nL := 2) ⟨hx, hb, hml, hown, hts⟩ (c_X6_widest l E a u  (hp0)) (cwV 0 hts gX6_most_X6_widest rfl rfl rfl ⟨rfl, hd_X6_widest⟩ ⟨(Nat.le_of_ble_eq_true rfl), (Nat.le_of_ble_eq_true rfl)⟩) hF hS hA hP (va_recv (q := (RX6, TX6, 28)) hK hP (ci := 6) rfl (q0 := 0) rfl) rfl hl.1 rfl (Nat.le_of_ble_eq_true rfl) ⟨(Nat.le_of_ble_eq_true rfl), (Nat.le_of_ble_eq_true rfl)⟩ dX6_most_1 ?_
  refine W.eq (g2 := F0 m 4 ls [.int (s_X6_widest u)]) rfl ?_
  refine lv_istore_n (lv' := [(1, .int (s_X6_widest u)), (0, .ref (a 0))]) hx hb dX6_most_4 rfl hl (by decide) rfl (fun ls hl => ?_)
  refine lv_iload_n hx hb dX6_most_5 rfl (lv_at hl 0 rfl) ?_
  refine lv_if_ge (tgt := 13) hx hb dX6_most_6 rfl (fun q1 => ?_) (fun q1 => ?_)
  · have hR := hR.trans (if_pos q1)
    refine lv_aload_n hx hb dX6_most_13 rfl (lv_at hl 1 rfl) ?_
    refine va_get (D := xD E) (ci := 6) (v := .ref (a 13)) (C := RX6) (T := TX6) (N := 28) hx hb hts (by decide +kernel) hown hK hP 0 rfl rfl 16 (by decide) (hts (.fieldLink RX6 48 "RailOffsetsModel" "slewed" "[I") (by decide +kernel)) (fun _ h => h) rfl dX6_most_14 ?_
    refine lv_iload_n hx hb dX6_most_17 rfl (lv_at hl 0 rfl) ?_
    refine va_iald hx hb hK hP 13 0 rfl rfl (xvst (xwidn hp0 q1)) dX6_most_18 ?_
    refine xRoS (nL := 2) ⟨hx, hb, hml, hown, hts⟩ (c_X6_abs l E a u (u.1 13 (s_X6_widest u).toNatClampNeg)) (va_cwS 1 hts gX6_most_X6_abs rfl rfl rfl hd_X6_abs ⟨(Nat.le_of_ble_eq_true rfl), (Nat.le_of_ble_eq_true rfl)⟩) hF hS hA hP rfl hl.1 rfl (Nat.le_of_ble_eq_true rfl) ⟨(Nat.le_of_ble_eq_true rfl), (Nat.le_of_ble_eq_true rfl)⟩ dX6_most_19 ?_
    refine W.eq (g2 := F0 m 22 ls [.int (s_X6_abs u (u.1 13 (s_X6_widest u).toNatClampNeg))]) rfl ?_
    have hR : s_X6_most u = s_X6_abs u (u.1 13 (s_X6_widest u).toNatClampNeg) := hR
    exact W.iret (v := s_X6_abs u (u.1 13 (s_X6_widest u).toNatClampNeg)) hx hb hr (fun t ht _ => ⟨congrArg (fun z => Outcome.returned (some (Value.int z))) hR.symm, ht⟩) (fun _ h => by cases h) dX6_most_22
  · have hR := hR.trans (if_neg q1)
    refine lv_iconst (v := 0) hx hb dX6_most_9 rfl ?_
    refine lv_goto (tgt := 22) hx hb dX6_most_10 rfl ?_
    have hR : s_X6_most u = 0 := hR
    exact W.iret (v := 0) hx hb hr (fun t ht _ => ⟨congrArg (fun z => Outcome.returned (some (Value.int z))) hR.symm, ht⟩) (fun _ h => by cases h) dX6_most_22
def s_X6_slew (u : xU) (p1 : Int32) (p2 : Int32) : Int64 × xU :=
  if (s_X6_in (s_X6_lays u) p2.toInt64 0 (((s_X6_lays u).2 1).toInt64)) = 0 then
    (xNO, s_X6_lays u)
  else
    if (s_X6_isSheet (s_X6_lays u) p1) = 0 then
      (xNO, s_X6_lays u)
    else
      if 0 ≤ ((s_X6_lays u).1 8 p1.toNatClampNeg) then
        (((s_X6_slews (s_X6_laysOld (s_X6_lays u) p1)).1 13 p2.toNatClampNeg).toInt64, s_X6_slews (s_X6_laysOld (s_X6_lays u) p1))
      else
        (xNO, s_X6_lays u)
abbrev rm_X6_slew : Room := { frames := 2, cells := 0, slots := 0, locals := 50 }
set_option maxHeartbeats 8000000 in
set_option maxRecDepth 100000 in
theorem c_X6_slew (l : Launch) (E : xG) (a : Nat → Nat) (u : xU) (p1 : Int32) (p2 : Int32) (hp0 : XW u) (hp1 : XZ u) (hL : xOK E (LM a)) : xMd l E yX6_slew wsX6_slew rm_X6_slew (LM a) [.ref (a 0), .int p1, .int p2] (wM E a u) (some (.long ((s_X6_slew u p1 p2).1))) (wM E a ((s_X6_slew u p1 p2).2)) := by
  refine xMd.of (cc := cX6_slew) (maxL := 3) (ret := (some .long)) (by decide) rfl (Nat.le_of_ble_eq_true rfl) ?_
  intro p e s m below meth c ls hAt hF hP hS hl
  obtain ⟨hx, hb, hr, hml, hown, hts, hlocks, -⟩ := hAt
  have hown : s.vm.findClass RX6 = some m.cls := hown
  have hl : lv_has ls 3 [(0, .ref (a 0)), (1, .int p1), (2, .int p2)] := hl
  have hK := hF.1
  have hA := hL.2
  change W p l e rm_X6_slew s m ([.ref (a 0), .int p1, .int p2] : List Value).toArray below meth c s.heap [] 0 0 (xQmd E below (LM a) (some (.long ((s_X6_slew u p1 p2).1))) (wM E a ((s_X6_slew u p1 p2).2)) ([.ref (a 0), .int p1, .int p2] : List Value).toArray s) _
  have hS : va_S (· ∈ LM a) s.heap s.heap [] := hS
  have hR : s_X6_slew u p1 p2 = s_X6_slew u p1 p2 := rfl
  refine lv_aload_n hx hb dX6_slew_0 rfl (lv_at hl 0 rfl) ?_
  refine xMdV (nL := 3) ⟨hx, hb, hml, hown, hts⟩ (c_X6_lays l E a u  (hp0) hL) (cwV 0 hts gX6_slew_X6_lays rfl rfl rfl ⟨rfl, hd_X6_lays⟩ ⟨(Nat.le_of_ble_eq_true rfl), (Nat.le_of_ble_eq_true rfl)⟩) hF hS hL.2 (fun _ h => h) hP (va_recv (q := (RX6, TX6, 28)) hK hP (ci := 6) rfl (q0 := 0) rfl) rfl hl.1 rfl (Nat.le_of_ble_eq_true rfl) ⟨(Nat.le_of_ble_eq_true rfl), (Nat.le_of_ble_eq_true rfl)⟩ dX6_slew_1 (fun H locs hP _ hS => ?_)
  refine W.eq (g2 := F0 m 4 ls []) rfl ?_
  refine lv_iload_n hx hb dX6_slew_4 rfl (lv_at hl 2 rfl) ?_
  refine lv_i2l hx hb dX6_slew_5 rfl ?_
  refine lv_lconst (v := 0) hx hb dX6_slew_6 rfl ?_
  refine lv_aload_n hx hb dX6_slew_7 rfl (lv_at hl 0 rfl) ?_
  refine va_get (D := xD E) (ci := 6) (v := .int ((s_X6_lays u).2 1)) (C := RX6) (T := TX6) (N := 28) hx hb hts (by decide +kernel) hown hK hP 0 rfl rfl 8 (by decide) (hts (.fieldLink RX6 130 "RailOffsetsModel" "stations" "I") (by decide +kernel)) (fun _ h => h) rfl dX6_slew_8 ?_
  refine lv_i2l hx hb dX6_slew_11 rfl ?_
  refine xRoS (nL := 3) ⟨hx, hb, hml, hown, hts⟩ (c_X6_in l E a (s_X6_lays u) p2.toInt64 0 (((s_X6_lays u).2 1).toInt64)) (va_cwS 3 hts gX6_slew_X6_in rfl rfl rfl hd_X6_in ⟨(Nat.le_of_ble_eq_true rfl), (Nat.le_of_ble_eq_true rfl)⟩) hF hS hA hP rfl hl.1 rfl (Nat.le_of_ble_eq_true rfl) ⟨(Nat.le_of_ble_eq_true rfl), (Nat.le_of_ble_eq_true rfl)⟩ dX6_slew_12 ?_
  refine W.eq (g2 := F0 m 15 ls [.int (s_X6_in (s_X6_lays u) p2.toInt64 0 (((s_X6_lays u).2 1).toInt64))]) rfl ?_
  refine lv_if_eq (tgt := 34) hx hb dX6_slew_15 rfl (fun q1 => ?_) (fun q1 => ?_)
  · have hR := hR.trans (if_pos q1)
    refine lv_ldc2 (v := xNO) hx hb hown (hts (.constantLong RX6 125 (-9223372036854775808)) (by decide +kernel)) dX6_slew_34 ?_
    have hR : s_X6_slew u p1 p2 = (xNO, s_X6_lays u) := hR
    exact W.lret (v := xNO) hx hb hr (fun t ht _ => by rw [hR]; dsimp only; exact ⟨⟨rfl, by rw [ht]; exact hP⟩, hS.F ht⟩) hS.2.2 dX6_slew_37
  · have hR := hR.trans (if_neg q1)
    refine lv_iload_n hx hb dX6_slew_18 rfl (lv_at hl 1 rfl) ?_
    refine xRoS (nL := 3) ⟨hx, hb, hml, hown, hts⟩ (c_X6_isSheet l E a (s_X6_lays u) p1) (va_cwS 1 hts gX6_slew_X6_isSheet rfl rfl rfl hd_X6_isSheet ⟨(Nat.le_of_ble_eq_true rfl), (Nat.le_of_ble_eq_true rfl)⟩) hF hS hA hP rfl hl.1 rfl (Nat.le_of_ble_eq_true rfl) ⟨(Nat.le_of_ble_eq_true rfl), (Nat.le_of_ble_eq_true rfl)⟩ dX6_slew_19 ?_
    refine W.eq (g2 := F0 m 22 ls [.int (s_X6_isSheet (s_X6_lays u) p1)]) rfl ?_
    refine lv_if_eq (tgt := 34) hx hb dX6_slew_22 rfl (fun q2 => ?_) (fun q2 => ?_)
    · have hR := hR.trans (if_pos q2)
      refine lv_ldc2 (v := xNO) hx hb hown (hts (.constantLong RX6 125 (-9223372036854775808)) (by decide +kernel)) dX6_slew_34 ?_
      have hR : s_X6_slew u p1 p2 = (xNO, s_X6_lays u) := hR
      exact W.lret (v := xNO) hx hb hr (fun t ht _ => by rw [hR]; dsimp only; exact ⟨⟨rfl, by rw [ht]; exact hP⟩, hS.F ht⟩) hS.2.2 dX6_slew_37
    · have hR := hR.trans (if_neg q2)
      refine lv_aload_n hx hb dX6_slew_25 rfl (lv_at hl 0 rfl) ?_
      refine va_get (D := xD E) (ci := 6) (v := .ref (a 8)) (C := RX6) (T := TX6) (N := 28) hx hb hts (by decide +kernel) hown hK hP 0 rfl rfl 11 (by decide) (hts (.fieldLink RX6 33 "RailOffsetsModel" "sorts" "[I") (by decide +kernel)) (fun _ h => h) rfl dX6_slew_26 ?_
      refine lv_iload_n hx hb dX6_slew_29 rfl (lv_at hl 1 rfl) ?_
      refine va_iald hx hb hK hP 8 0 rfl rfl (xsh4 q2) dX6_slew_30 ?_
      refine lv_if_ge (tgt := 38) hx hb dX6_slew_31 rfl (fun q3 => ?_) (fun q3 => ?_)
      · have hR := hR.trans (if_pos q3)
        refine lv_aload_n hx hb dX6_slew_38 rfl (lv_at hl 0 rfl) ?_
        refine lv_iload_n hx hb dX6_slew_39 rfl (lv_at hl 1 rfl) ?_
        refine xMdV (nL := 3) ⟨hx, hb, hml, hown, hts⟩ (c_X6_laysOld l E a (s_X6_lays u) p1 (xlays_z hp1) (xlays_st hp0) (xsh q2) hL) (cwV 1 hts gX6_slew_X6_laysOld rfl rfl rfl ⟨rfl, hd_X6_laysOld⟩ ⟨(Nat.le_of_ble_eq_true rfl), (Nat.le_of_ble_eq_true rfl)⟩) hF hS hL.2 (fun _ h => h) hP (va_recv (q := (RX6, TX6, 28)) hK hP (ci := 6) rfl (q0 := 0) rfl) rfl hl.1 rfl (Nat.le_of_ble_eq_true rfl) ⟨(Nat.le_of_ble_eq_true rfl), (Nat.le_of_ble_eq_true rfl)⟩ dX6_slew_40 (fun H locs hP _ hS => ?_)
        refine W.eq (g2 := F0 m 43 ls []) rfl ?_
        refine lv_aload_n hx hb dX6_slew_43 rfl (lv_at hl 0 rfl) ?_
        refine xMdV (nL := 3) ⟨hx, hb, hml, hown, hts⟩ (c_X6_slews l E a (s_X6_laysOld (s_X6_lays u) p1)  (xlo_st (xlays_st hp0)) hL) (cwV 0 hts gX6_slew_X6_slews rfl rfl rfl ⟨rfl, hd_X6_slews⟩ ⟨(Nat.le_of_ble_eq_true rfl), (Nat.le_of_ble_eq_true rfl)⟩) hF hS hL.2 (fun _ h => h) hP (va_recv (q := (RX6, TX6, 28)) hK hP (ci := 6) rfl (q0 := 0) rfl) rfl hl.1 rfl (Nat.le_of_ble_eq_true rfl) ⟨(Nat.le_of_ble_eq_true rfl), (Nat.le_of_ble_eq_true rfl)⟩ dX6_slew_44 (fun H locs hP _ hS => ?_)
        refine W.eq (g2 := F0 m 47 ls []) rfl ?_
        refine lv_aload_n hx hb dX6_slew_47 rfl (lv_at hl 0 rfl) ?_
        refine va_get (D := xD E) (ci := 6) (v := .ref (a 13)) (C := RX6) (T := TX6) (N := 28) hx hb hts (by decide +kernel) hown hK hP 0 rfl rfl 16 (by decide) (hts (.fieldLink RX6 48 "RailOffsetsModel" "slewed" "[I") (by decide +kernel)) (fun _ h => h) rfl dX6_slew_48 ?_
        refine lv_iload_n hx hb dX6_slew_51 rfl (lv_at hl 2 rfl) ?_
        refine va_iald hx hb hK hP 13 0 rfl rfl (xvst (xins (lo := 0) (xlays_st hp0) q1 (by decide))) dX6_slew_52 ?_
        refine lv_i2l hx hb dX6_slew_53 rfl ?_
        have hR : s_X6_slew u p1 p2 = (((s_X6_slews (s_X6_laysOld (s_X6_lays u) p1)).1 13 p2.toNatClampNeg).toInt64, s_X6_slews (s_X6_laysOld (s_X6_lays u) p1)) := hR
        exact W.lret (v := ((s_X6_slews (s_X6_laysOld (s_X6_lays u) p1)).1 13 p2.toNatClampNeg).toInt64) hx hb hr (fun t ht _ => by rw [hR]; dsimp only; exact ⟨⟨rfl, by rw [ht]; exact hP⟩, hS.F ht⟩) hS.2.2 dX6_slew_54
      · have hR := hR.trans (if_neg q3)
        refine lv_ldc2 (v := xNO) hx hb hown (hts (.constantLong RX6 125 (-9223372036854775808)) (by decide +kernel)) dX6_slew_34 ?_
        have hR : s_X6_slew u p1 p2 = (xNO, s_X6_lays u) := hR
        exact W.lret (v := xNO) hx hb hr (fun t ht _ => by rw [hR]; dsimp only; exact ⟨⟨rfl, by rw [ht]; exact hP⟩, hS.F ht⟩) hS.2.2 dX6_slew_37
def s_X6_slews__L50 : Nat → xU → Int32 → Int32 → Int64 → Int32 → Int64 × xU
  | 0, u, _, _, _, _ => (0, u)
  | n + 1, u, x1, x2, x3, x5 =>
    if (u.2 1) < x5 then
      if x2 = 0 then
        ((s_X6_widest u).toInt64, u)
      else
        if x2 = 1 then
          (x3, u)
        else
          ((u.1 13 (u.2 1).toNatClampNeg).toInt64, u)
    else
      s_X6_slews__L50 n u x1 x2 (x3 + ((s_X6_abs u (u.1 13 x5.toNatClampNeg)).toInt64)) (x5 + 1)
def s_X6_slews_ (u : xU) (p1 : Int32) (p2 : Int32) : Int64 × xU :=
  if (s_X6_isSheet u p1) = 0 then
    (xNO, u)
  else
    if (u.1 8 p1.toNatClampNeg) < 0 then
      (xNO, u)
    else
      if (s_X6_in u p2.toInt64 0 2) = 0 then
        (xNO, u)
      else
        s_X6_slews__L50 ((((s_X6_slews (s_X6_laysOld (s_X6_lays u) p1)).2 1).toInt + 1 - (1 : Int32).toInt).toNat + 1) (s_X6_slews (s_X6_laysOld (s_X6_lays u) p1)) p1 p2 0 1
abbrev rm_X6_slews_ : Room := { frames := 2, cells := 0, slots := 0, locals := 50 }
set_option maxHeartbeats 8000000 in
set_option maxRecDepth 100000 in
theorem c_X6_slews_ (l : Launch) (E : xG) (a : Nat → Nat) (u : xU) (p1 : Int32) (p2 : Int32) (hp0 : XW u) (hp1 : XZ u) (hL : xOK E (LM a)) : xMd l E yX6_slews_ wsX6_slews_ rm_X6_slews_ (LM a) [.ref (a 0), .int p1, .int p2] (wM E a u) (some (.long ((s_X6_slews_ u p1 p2).1))) (wM E a ((s_X6_slews_ u p1 p2).2)) := by
  refine xMd.of (cc := cX6_slews_) (maxL := 6) (ret := (some .long)) (by decide) rfl (Nat.le_of_ble_eq_true rfl) ?_
  intro p e s m below meth c ls hAt hF hP hS hl
  obtain ⟨hx, hb, hr, hml, hown, hts, hlocks, -⟩ := hAt
  have hown : s.vm.findClass RX6 = some m.cls := hown
  have hl : lv_has ls 6 [(0, .ref (a 0)), (1, .int p1), (2, .int p2)] := hl
  have hK := hF.1
  have hA := hL.2
  change W p l e rm_X6_slews_ s m ([.ref (a 0), .int p1, .int p2] : List Value).toArray below meth c s.heap [] 0 0 (xQmd E below (LM a) (some (.long ((s_X6_slews_ u p1 p2).1))) (wM E a ((s_X6_slews_ u p1 p2).2)) ([.ref (a 0), .int p1, .int p2] : List Value).toArray s) _
  have hS : va_S (· ∈ LM a) s.heap s.heap [] := hS
  have hR : s_X6_slews_ u p1 p2 = s_X6_slews_ u p1 p2 := rfl
  refine lv_iload_n hx hb dX6_slews__0 rfl (lv_at hl 1 rfl) ?_
  refine xRoS (nL := 6) ⟨hx, hb, hml, hown, hts⟩ (c_X6_isSheet l E a u p1) (va_cwS 1 hts gX6_slews__X6_isSheet rfl rfl rfl hd_X6_isSheet ⟨(Nat.le_of_ble_eq_true rfl), (Nat.le_of_ble_eq_true rfl)⟩) hF hS hA hP rfl hl.1 rfl (Nat.le_of_ble_eq_true rfl) ⟨(Nat.le_of_ble_eq_true rfl), (Nat.le_of_ble_eq_true rfl)⟩ dX6_slews__1 ?_
  refine W.eq (g2 := F0 m 4 ls [.int (s_X6_isSheet u p1)]) rfl ?_
  refine lv_if_eq (tgt := 28) hx hb dX6_slews__4 rfl (fun q1 => ?_) (fun q1 => ?_)
  · have hR := hR.trans (if_pos q1)
    refine lv_ldc2 (v := xNO) hx hb hown (hts (.constantLong RX6 125 (-9223372036854775808)) (by decide +kernel)) dX6_slews__28 ?_
    have hR : s_X6_slews_ u p1 p2 = (xNO, u) := hR
    exact W.lret (v := xNO) hx hb hr (fun t ht _ => by rw [hR]; dsimp only; exact ⟨⟨rfl, by rw [ht]; exact hP⟩, hS.F ht⟩) hS.2.2 dX6_slews__31
  · have hR := hR.trans (if_neg q1)
    refine lv_aload_n hx hb dX6_slews__7 rfl (lv_at hl 0 rfl) ?_
    refine va_get (D := xD E) (ci := 6) (v := .ref (a 8)) (C := RX6) (T := TX6) (N := 28) hx hb hts (by decide +kernel) hown hK hP 0 rfl rfl 11 (by decide) (hts (.fieldLink RX6 33 "RailOffsetsModel" "sorts" "[I") (by decide +kernel)) (fun _ h => h) rfl dX6_slews__8 ?_
    refine lv_iload_n hx hb dX6_slews__11 rfl (lv_at hl 1 rfl) ?_
    refine va_iald hx hb hK hP 8 0 rfl rfl (xsh4 q1) dX6_slews__12 ?_
    refine lv_if_lt (tgt := 28) hx hb dX6_slews__13 rfl (fun q2 => ?_) (fun q2 => ?_)
    · have hR := hR.trans (if_pos q2)
      refine lv_ldc2 (v := xNO) hx hb hown (hts (.constantLong RX6 125 (-9223372036854775808)) (by decide +kernel)) dX6_slews__28 ?_
      have hR : s_X6_slews_ u p1 p2 = (xNO, u) := hR
      exact W.lret (v := xNO) hx hb hr (fun t ht _ => by rw [hR]; dsimp only; exact ⟨⟨rfl, by rw [ht]; exact hP⟩, hS.F ht⟩) hS.2.2 dX6_slews__31
    · have hR := hR.trans (if_neg q2)
      refine lv_iload_n hx hb dX6_slews__16 rfl (lv_at hl 2 rfl) ?_
      refine lv_i2l hx hb dX6_slews__17 rfl ?_
      refine lv_lconst (v := 0) hx hb dX6_slews__18 rfl ?_
      refine lv_ldc2 (v := 2) hx hb hown (hts (.constantLong RX6 148 (2)) (by decide +kernel)) dX6_slews__19 ?_
      refine xRoS (nL := 6) ⟨hx, hb, hml, hown, hts⟩ (c_X6_in l E a u p2.toInt64 0 2) (va_cwS 3 hts gX6_slews__X6_in rfl rfl rfl hd_X6_in ⟨(Nat.le_of_ble_eq_true rfl), (Nat.le_of_ble_eq_true rfl)⟩) hF hS hA hP rfl hl.1 rfl (Nat.le_of_ble_eq_true rfl) ⟨(Nat.le_of_ble_eq_true rfl), (Nat.le_of_ble_eq_true rfl)⟩ dX6_slews__22 ?_
      refine W.eq (g2 := F0 m 25 ls [.int (s_X6_in u p2.toInt64 0 2)]) rfl ?_
      refine lv_if_ne (tgt := 32) hx hb dX6_slews__25 rfl (fun q3 => ?_) (fun q3 => ?_)
      · have hR := hR.trans (if_neg q3)
        refine lv_aload_n hx hb dX6_slews__32 rfl (lv_at hl 0 rfl) ?_
        refine xMdV (nL := 6) ⟨hx, hb, hml, hown, hts⟩ (c_X6_lays l E a u  (hp0) hL) (cwV 0 hts gX6_slews__X6_lays rfl rfl rfl ⟨rfl, hd_X6_lays⟩ ⟨(Nat.le_of_ble_eq_true rfl), (Nat.le_of_ble_eq_true rfl)⟩) hF hS hL.2 (fun _ h => h) hP (va_recv (q := (RX6, TX6, 28)) hK hP (ci := 6) rfl (q0 := 0) rfl) rfl hl.1 rfl (Nat.le_of_ble_eq_true rfl) ⟨(Nat.le_of_ble_eq_true rfl), (Nat.le_of_ble_eq_true rfl)⟩ dX6_slews__33 (fun H locs hP _ hS => ?_)
        refine W.eq (g2 := F0 m 36 ls []) rfl ?_
        refine lv_aload_n hx hb dX6_slews__36 rfl (lv_at hl 0 rfl) ?_
        refine lv_iload_n hx hb dX6_slews__37 rfl (lv_at hl 1 rfl) ?_
        refine xMdV (nL := 6) ⟨hx, hb, hml, hown, hts⟩ (c_X6_laysOld l E a (s_X6_lays u) p1 (xlays_z hp1) (xlays_st hp0) (xsh q1) hL) (cwV 1 hts gX6_slews__X6_laysOld rfl rfl rfl ⟨rfl, hd_X6_laysOld⟩ ⟨(Nat.le_of_ble_eq_true rfl), (Nat.le_of_ble_eq_true rfl)⟩) hF hS hL.2 (fun _ h => h) hP (va_recv (q := (RX6, TX6, 28)) hK hP (ci := 6) rfl (q0 := 0) rfl) rfl hl.1 rfl (Nat.le_of_ble_eq_true rfl) ⟨(Nat.le_of_ble_eq_true rfl), (Nat.le_of_ble_eq_true rfl)⟩ dX6_slews__38 (fun H locs hP _ hS => ?_)
        refine W.eq (g2 := F0 m 41 ls []) rfl ?_
        refine lv_aload_n hx hb dX6_slews__41 rfl (lv_at hl 0 rfl) ?_
        refine xMdV (nL := 6) ⟨hx, hb, hml, hown, hts⟩ (c_X6_slews l E a (s_X6_laysOld (s_X6_lays u) p1)  (xlo_st (xlays_st hp0)) hL) (cwV 0 hts gX6_slews__X6_slews rfl rfl rfl ⟨rfl, hd_X6_slews⟩ ⟨(Nat.le_of_ble_eq_true rfl), (Nat.le_of_ble_eq_true rfl)⟩) hF hS hL.2 (fun _ h => h) hP (va_recv (q := (RX6, TX6, 28)) hK hP (ci := 6) rfl (q0 := 0) rfl) rfl hl.1 rfl (Nat.le_of_ble_eq_true rfl) ⟨(Nat.le_of_ble_eq_true rfl), (Nat.le_of_ble_eq_true rfl)⟩ dX6_slews__42 (fun H locs hP _ hS => ?_)
        refine W.eq (g2 := F0 m 45 ls []) rfl ?_
        refine lv_lconst (v := 0) hx hb dX6_slews__45 rfl ?_
        refine lv_lstore_n (lv' := [(3, .long 0), (0, .ref (a 0)), (1, .int p1), (2, .int p2)]) hx hb dX6_slews__46 rfl hl (by decide) rfl (fun ls hl => ?_)
        refine lv_iconst (v := 1) hx hb dX6_slews__47 rfl ?_
        refine lv_istore (lv' := [(5, .int 1), (3, .long 0), (0, .ref (a 0)), (1, .int p1), (2, .int p2)]) hx hb dX6_slews__48 hl (by decide) rfl (fun ls hl => ?_)
        have L50 : ∀ (n50 : Nat) (x3 : Int64) (x5 : Int32) (H : Heap) (locs : List Loc) (ls : Array Slot), (1 ≤ x5.toInt) → (((s_X6_slews (s_X6_laysOld (s_X6_lays u) p1)).2 1).toInt + 1 - x5.toInt).toNat < n50 → s_X6_slews_ u p1 p2 = s_X6_slews__L50 n50 (s_X6_slews (s_X6_laysOld (s_X6_lays u) p1)) p1 p2 x3 x5 → lv_has ls 6 [(5, .int x5), (3, .long x3), (0, .ref (a 0)), (1, .int p1), (2, .int p2)] → va_P (xD E) vwCl (wM E a (s_X6_slews (s_X6_laysOld (s_X6_lays u) p1))) H → va_S (· ∈ LM a) s.heap H locs → W p l e rm_X6_slews_ s m ([.ref (a 0), .int p1, .int p2] : List Value).toArray below meth c H locs 0 0 (xQmd E below (LM a) (some (.long ((s_X6_slews_ u p1 p2).1))) (wM E a ((s_X6_slews_ u p1 p2).2)) ([.ref (a 0), .int p1, .int p2] : List Value).toArray s) (F0 m 50 ls []) := by
          intro n50
          induction n50 with
          | zero => intro x3 x5 H locs ls hI0 hM50 hR hl hP hS; exact absurd hM50 (Nat.not_lt_zero _)
          | succ n50 ih50 =>
            intro x3 x5 H locs ls hI0 hM50 hR hl hP hS
            refine lv_iload hx hb dX6_slews__50 (lv_at hl 0 rfl) ?_
            refine lv_aload_n hx hb dX6_slews__52 rfl (lv_at hl 2 rfl) ?_
            refine va_get (D := xD E) (ci := 6) (v := .int ((s_X6_slews (s_X6_laysOld (s_X6_lays u) p1)).2 1)) (C := RX6) (T := TX6) (N := 28) hx hb hts (by decide +kernel) hown hK hP 0 rfl rfl 8 (by decide) (hts (.fieldLink RX6 130 "RailOffsetsModel" "stations" "I") (by decide +kernel)) (fun _ h => h) rfl dX6_slews__53 ?_
            refine lv_icmp_gt (tgt := 79) hx hb dX6_slews__56 rfl (fun q4 => ?_) (fun q4 => ?_)
            · have hR := hR.trans (if_pos q4)
              refine lv_iload_n hx hb dX6_slews__79 rfl (lv_at hl 4 rfl) ?_
              refine lv_if_ne (tgt := 91) hx hb dX6_slews__80 rfl (fun q5 => ?_) (fun q5 => ?_)
              · have hR := hR.trans (if_neg q5)
                refine lv_iload_n hx hb dX6_slews__91 rfl (lv_at hl 4 rfl) ?_
                refine lv_iconst (v := 1) hx hb dX6_slews__92 rfl ?_
                refine lv_icmp_ne (tgt := 100) hx hb dX6_slews__93 rfl (fun q6 => ?_) (fun q6 => ?_)
                · have hR := hR.trans (if_neg q6)
                  refine lv_aload_n hx hb dX6_slews__100 rfl (lv_at hl 2 rfl) ?_
                  refine va_get (D := xD E) (ci := 6) (v := .ref (a 13)) (C := RX6) (T := TX6) (N := 28) hx hb hts (by decide +kernel) hown hK hP 0 rfl rfl 16 (by decide) (hts (.fieldLink RX6 48 "RailOffsetsModel" "slewed" "[I") (by decide +kernel)) (fun _ h => h) rfl dX6_slews__101 ?_
                  refine lv_aload_n hx hb dX6_slews__104 rfl (lv_at hl 2 rfl) ?_
                  refine va_get (D := xD E) (ci := 6) (v := .int ((s_X6_slews (s_X6_laysOld (s_X6_lays u) p1)).2 1)) (C := RX6) (T := TX6) (N := 28) hx hb hts (by decide +kernel) hown hK hP 0 rfl rfl 8 (by decide) (hts (.fieldLink RX6 130 "RailOffsetsModel" "stations" "I") (by decide +kernel)) (fun _ h => h) rfl dX6_slews__105 ?_
                  refine va_iald hx hb hK hP 13 0 rfl rfl (xvst (xsl_st (xlo_st (xlays_st hp0)))) dX6_slews__108 ?_
                  refine lv_i2l hx hb dX6_slews__109 rfl ?_
                  have hR : s_X6_slews_ u p1 p2 = (((s_X6_slews (s_X6_laysOld (s_X6_lays u) p1)).1 13 ((s_X6_slews (s_X6_laysOld (s_X6_lays u) p1)).2 1).toNatClampNeg).toInt64, s_X6_slews (s_X6_laysOld (s_X6_lays u) p1)) := hR
                  exact W.lret (v := ((s_X6_slews (s_X6_laysOld (s_X6_lays u) p1)).1 13 ((s_X6_slews (s_X6_laysOld (s_X6_lays u) p1)).2 1).toNatClampNeg).toInt64) hx hb hr (fun t ht _ => by rw [hR]; dsimp only; exact ⟨⟨rfl, by rw [ht]; exact hP⟩, hS.F ht⟩) hS.2.2 dX6_slews__110
                · have hR := hR.trans (if_pos q6)
                  refine lv_lload_n hx hb dX6_slews__96 rfl (lv_at hl 1 rfl) ?_
                  refine lv_goto (tgt := 110) hx hb dX6_slews__97 rfl ?_
                  have hR : s_X6_slews_ u p1 p2 = (x3, s_X6_slews (s_X6_laysOld (s_X6_lays u) p1)) := hR
                  exact W.lret (v := x3) hx hb hr (fun t ht _ => by rw [hR]; dsimp only; exact ⟨⟨rfl, by rw [ht]; exact hP⟩, hS.F ht⟩) hS.2.2 dX6_slews__110
              · have hR := hR.trans (if_pos q5)
                refine lv_aload_n hx hb dX6_slews__83 rfl (lv_at hl 2 rfl) ?_
                refine xRoV (nL := 6) ⟨hx, hb, hml, hown, hts⟩ (c_X6_widest l E a (s_X6_slews (s_X6_laysOld (s_X6_lays u) p1))  (xsl_st (xlo_st (xlays_st hp0)))) (cwV 0 hts gX6_slews__X6_widest rfl rfl rfl ⟨rfl, hd_X6_widest⟩ ⟨(Nat.le_of_ble_eq_true rfl), (Nat.le_of_ble_eq_true rfl)⟩) hF hS hA hP (va_recv (q := (RX6, TX6, 28)) hK hP (ci := 6) rfl (q0 := 0) rfl) rfl hl.1 rfl (Nat.le_of_ble_eq_true rfl) ⟨(Nat.le_of_ble_eq_true rfl), (Nat.le_of_ble_eq_true rfl)⟩ dX6_slews__84 ?_
                refine W.eq (g2 := F0 m 87 ls [.int (s_X6_widest (s_X6_slews (s_X6_laysOld (s_X6_lays u) p1)))]) rfl ?_
                refine lv_i2l hx hb dX6_slews__87 rfl ?_
                refine lv_goto (tgt := 110) hx hb dX6_slews__88 rfl ?_
                have hR : s_X6_slews_ u p1 p2 = ((s_X6_widest (s_X6_slews (s_X6_laysOld (s_X6_lays u) p1))).toInt64, s_X6_slews (s_X6_laysOld (s_X6_lays u) p1)) := hR
                exact W.lret (v := (s_X6_widest (s_X6_slews (s_X6_laysOld (s_X6_lays u) p1))).toInt64) hx hb hr (fun t ht _ => by rw [hR]; dsimp only; exact ⟨⟨rfl, by rw [ht]; exact hP⟩, hS.F ht⟩) hS.2.2 dX6_slews__110
            · have hR := hR.trans (if_neg q4)
              refine lv_lload_n hx hb dX6_slews__59 rfl (lv_at hl 1 rfl) ?_
              refine lv_aload_n hx hb dX6_slews__60 rfl (lv_at hl 2 rfl) ?_
              refine va_get (D := xD E) (ci := 6) (v := .ref (a 13)) (C := RX6) (T := TX6) (N := 28) hx hb hts (by decide +kernel) hown hK hP 0 rfl rfl 16 (by decide) (hts (.fieldLink RX6 48 "RailOffsetsModel" "slewed" "[I") (by decide +kernel)) (fun _ h => h) rfl dX6_slews__61 ?_
              refine lv_iload hx hb dX6_slews__64 (lv_at hl 0 rfl) ?_
              refine va_iald hx hb hK hP 13 0 rfl rfl (xvst (xsup hI0 (xsl_st (xlo_st (xlays_st hp0))) q4).st) dX6_slews__66 ?_
              refine xRoS (nL := 6) ⟨hx, hb, hml, hown, hts⟩ (c_X6_abs l E a (s_X6_slews (s_X6_laysOld (s_X6_lays u) p1)) ((s_X6_slews (s_X6_laysOld (s_X6_lays u) p1)).1 13 x5.toNatClampNeg)) (va_cwS 1 hts gX6_slews__X6_abs rfl rfl rfl hd_X6_abs ⟨(Nat.le_of_ble_eq_true rfl), (Nat.le_of_ble_eq_true rfl)⟩) hF hS hA hP rfl hl.1 rfl (Nat.le_of_ble_eq_true rfl) ⟨(Nat.le_of_ble_eq_true rfl), (Nat.le_of_ble_eq_true rfl)⟩ dX6_slews__67 ?_
              refine W.eq (g2 := F0 m 70 ls [.int (s_X6_abs (s_X6_slews (s_X6_laysOld (s_X6_lays u) p1)) ((s_X6_slews (s_X6_laysOld (s_X6_lays u) p1)).1 13 x5.toNatClampNeg)), .long x3]) rfl ?_
              refine lv_i2l hx hb dX6_slews__70 rfl ?_
              refine lv_ladd hx hb dX6_slews__71 ?_
              refine lv_lstore_n (lv' := [(3, .long (x3 + ((s_X6_abs (s_X6_slews (s_X6_laysOld (s_X6_lays u) p1)) ((s_X6_slews (s_X6_laysOld (s_X6_lays u) p1)).1 13 x5.toNatClampNeg)).toInt64))), (5, .int x5), (0, .ref (a 0)), (1, .int p1), (2, .int p2)]) hx hb dX6_slews__72 rfl hl (by decide) rfl (fun ls hl => ?_)
              refine lv_iinc (k := 1) (v := x5 + 1) (lv' := [(5, .int (x5 + 1)), (3, .long (x3 + ((s_X6_abs (s_X6_slews (s_X6_laysOld (s_X6_lays u) p1)) ((s_X6_slews (s_X6_laysOld (s_X6_lays u) p1)).1 13 x5.toNatClampNeg)).toInt64))), (0, .ref (a 0)), (1, .int p1), (2, .int p2)]) hx hb dX6_slews__73 hl rfl rfl (by decide) rfl (fun ls hl => ?_)
              refine lv_goto (tgt := 50) hx hb dX6_slews__76 rfl ?_
              exact ih50 (x3 + ((s_X6_abs (s_X6_slews (s_X6_laysOld (s_X6_lays u) p1)) ((s_X6_slews (s_X6_laysOld (s_X6_lays u) p1)).1 13 x5.toNatClampNeg)).toInt64)) (x5 + 1) _ _ _ (xs1u hI0 (xsl_st (xlo_st (xlays_st hp0))) q4) (Nat.lt_of_lt_of_le (xupl q4 (xstl (xsl_st (xlo_st (xlays_st hp0))))) (Nat.le_of_lt_succ hM50)) hR (lv_sub hl [0, 1, 2, 3, 4] rfl) hP hS
        exact L50 ((((s_X6_slews (s_X6_laysOld (s_X6_lays u) p1)).2 1).toInt + 1 - (1 : Int32).toInt).toNat + 1) 0 1 _ _ ls (by decide) (Nat.lt_succ_self _) hR hl hP hS
      · have hR := hR.trans (if_pos q3)
        refine lv_ldc2 (v := xNO) hx hb hown (hts (.constantLong RX6 125 (-9223372036854775808)) (by decide +kernel)) dX6_slews__28 ?_
        have hR : s_X6_slews_ u p1 p2 = (xNO, u) := hR
        exact W.lret (v := xNO) hx hb hr (fun t ht _ => by rw [hR]; dsimp only; exact ⟨⟨rfl, by rw [ht]; exact hP⟩, hS.F ht⟩) hS.2.2 dX6_slews__31
