/-! ===== the reference's trials ===== -/
theorem xofA {p j : Int32} (hp : XP p) (hj : j.toInt < 9) (h0 : 0 ≤ j.toInt) : vp_in ((4 * p) + j) 49 := xof hp h0 hj
theorem xk49 {k : Int32} (h0 : ¬ k < 0) (q : ¬ 49 ≤ k) : vp_in k 49 := by
  rw [fa_le, show (49 : Int32).toInt = 49 from rfl] at q
  rw [vp_in_iff]
  exact ⟨xge0 h0, by omega⟩
def s_X6_image_L7 : Nat → xU → Int32 → Int32 × xU
  | 0, u, _ => (0, u)
  | n + 1, u, x1 =>
    if 49 ≤ x1 then
      (u.1 1 (40 : Int32).toNatClampNeg, u)
    else
      s_X6_image_L7 n (uA u 2 x1.toNatClampNeg (u.1 1 x1.toNatClampNeg)) (x1 + 1)
def s_X6_image (u : xU) : Int32 × xU :=
  s_X6_image_L7 (((49 : Int32).toInt - (0 : Int32).toInt).toNat + 1) (uZ u 0 1) 0
abbrev rm_X6_image : Room := { frames := 0, cells := 0, slots := 0, locals := 0 }
set_option maxHeartbeats 8000000 in
set_option maxRecDepth 100000 in
theorem c_X6_image (l : Launch) (E : xG) (a : Nat → Nat) (u : xU)  (hL : xOK E (LM a)) : xMd l E yX6_image wsX6_image rm_X6_image (LM a) [.ref (a 0)] (wM E a u) (some (.int ((s_X6_image u).1))) (wM E a ((s_X6_image u).2)) := by
  refine xMd.of (cc := cX6_image) (maxL := 2) (ret := (some .int)) (by decide) rfl (Nat.le_of_ble_eq_true rfl) ?_
  intro p e s m below meth c ls hAt hF hP hS hl
  obtain ⟨hx, hb, hr, hml, hown, hts, hlocks, -⟩ := hAt
  have hown : s.vm.findClass RX6 = some m.cls := hown
  have hl : lv_has ls 2 [(0, .ref (a 0))] := hl
  have hK := hF.1
  have hA := hL.2
  change W p l e rm_X6_image s m ([.ref (a 0)] : List Value).toArray below meth c s.heap [] 0 0 (xQmd E below (LM a) (some (.int ((s_X6_image u).1))) (wM E a ((s_X6_image u).2)) ([.ref (a 0)] : List Value).toArray s) _
  have hS : va_S (· ∈ LM a) s.heap s.heap [] := hS
  have hR : s_X6_image u = s_X6_image u := rfl
  refine lv_aload_n hx hb dX6_image_0 rfl (lv_at hl 0 rfl) ?_
  refine lv_iconst (v := 1) hx hb dX6_image_1 rfl ?_
  refine va_put (D := xD E) (ci := 6) (v := .int 1) (ty := .boolean) (C := RX6) (T := TX6) (N := 28) hx hb hts (by decide +kernel) tyX6 tyX6_ok nmX6 hown hK hP (xD_of (ws := wM E a u) (A := (· ∈ LM a)) hL.1 (fun _ h => h)) hS 0 rfl rfl 2 (by decide) (hts (.fieldLink RX6 295 "RailOffsetsModel" "hasImage" "Z") (by decide +kernel)) (fun _ h => h) rfl (by decide +kernel) rfl rfl (Nat.le_of_ble_eq_true rfl) dX6_image_2 (fun H locs hP _ hS => ?_)
  have hP : va_P (xD E) vwCl (wM E a (uZ u 0 1)) H := hP
  refine lv_iconst (v := 0) hx hb dX6_image_5 rfl ?_
  refine lv_istore_n (lv' := [(1, .int 0), (0, .ref (a 0))]) hx hb dX6_image_6 rfl hl (by decide) rfl (fun ls hl => ?_)
  have L7 : ∀ (n7 : Nat) (u7 : xU) (x1 : Int32) (H : Heap) (locs : List Loc) (ls : Array Slot), (¬ x1 < 0) → ((49 : Int32).toInt - x1.toInt).toNat < n7 → s_X6_image u = s_X6_image_L7 n7 u7 x1 → lv_has ls 2 [(1, .int x1), (0, .ref (a 0))] → va_P (xD E) vwCl (wM E a u7) H → va_S (· ∈ LM a) s.heap H locs → W p l e rm_X6_image s m ([.ref (a 0)] : List Value).toArray below meth c H locs 0 0 (xQmd E below (LM a) (some (.int ((s_X6_image u).1))) (wM E a ((s_X6_image u).2)) ([.ref (a 0)] : List Value).toArray s) (F0 m 7 ls []) := by
    intro n7
    induction n7 with
    | zero => intro u7 x1 H locs ls hI0 hM7 hR hl hP hS; exact absurd hM7 (Nat.not_lt_zero _)
    | succ n7 ih7 =>
      intro u7 x1 H locs ls hI0 hM7 hR hl hP hS
      refine lv_iload_n hx hb dX6_image_7 rfl (lv_at hl 0 rfl) ?_
      refine lv_bipush (v := 49) hx hb dX6_image_8 rfl ?_
      refine lv_icmp_ge (tgt := 31) hx hb dX6_image_10 rfl (fun q1 => ?_) (fun q1 => ?_)
      · have hR := hR.trans (if_pos q1)
        refine lv_aload_n hx hb dX6_image_31 rfl (lv_at hl 1 rfl) ?_
        refine va_get (D := xD E) (ci := 6) (v := .ref (a 1)) (C := RX6) (T := TX6) (N := 28) hx hb hts (by decide +kernel) hown hK hP 0 rfl rfl 0 (by decide) (hts (.fieldLink RX6 11 "RailOffsetsModel" "now" "[I") (by decide +kernel)) (fun _ h => h) rfl dX6_image_32 ?_
        refine lv_bipush (v := 40) hx hb dX6_image_35 rfl ?_
        refine va_iald hx hb hK hP 1 0 rfl rfl (v40) dX6_image_37 ?_
        have hR : s_X6_image u = (u7.1 1 (40 : Int32).toNatClampNeg, u7) := hR
        exact W.iret (v := u7.1 1 (40 : Int32).toNatClampNeg) hx hb hr (fun t ht _ => by rw [hR]; dsimp only; exact ⟨⟨rfl, by rw [ht]; exact hP⟩, hS.F ht⟩) hS.2.2 dX6_image_38
      · have hR := hR.trans (if_neg q1)
        refine lv_aload_n hx hb dX6_image_13 rfl (lv_at hl 1 rfl) ?_
        refine va_get (D := xD E) (ci := 6) (v := .ref (a 2)) (C := RX6) (T := TX6) (N := 28) hx hb hts (by decide +kernel) hown hK hP 0 rfl rfl 1 (by decide) (hts (.fieldLink RX6 15 "RailOffsetsModel" "kept" "[I") (by decide +kernel)) (fun _ h => h) rfl dX6_image_14 ?_
        refine lv_iload_n hx hb dX6_image_17 rfl (lv_at hl 0 rfl) ?_
        refine lv_aload_n hx hb dX6_image_18 rfl (lv_at hl 1 rfl) ?_
        refine va_get (D := xD E) (ci := 6) (v := .ref (a 1)) (C := RX6) (T := TX6) (N := 28) hx hb hts (by decide +kernel) hown hK hP 0 rfl rfl 0 (by decide) (hts (.fieldLink RX6 11 "RailOffsetsModel" "now" "[I") (by decide +kernel)) (fun _ h => h) rfl dX6_image_19 ?_
        refine lv_iload_n hx hb dX6_image_22 rfl (lv_at hl 0 rfl) ?_
        refine va_iald hx hb hK hP 1 0 rfl rfl (xk49 hI0 q1) dX6_image_23 ?_
        refine va_iast hx hb hK hP (xD_of (ws := wM E a u7) (A := (· ∈ LM a)) hL.1 (fun _ h => h)) hS 2 0 rfl rfl (xk49 hI0 q1) dX6_image_24 (fun H locs hP _ hS => ?_)
        have hP : va_P (xD E) vwCl (wM E a (uA u7 2 x1.toNatClampNeg (u7.1 1 x1.toNatClampNeg))) H := hP
        refine lv_iinc (k := 0) (v := x1 + 1) (lv' := [(1, .int (x1 + 1)), (0, .ref (a 0))]) hx hb dX6_image_25 hl rfl rfl (by decide) rfl (fun ls hl => ?_)
        refine lv_goto (tgt := 7) hx hb dX6_image_28 rfl ?_
        exact ih7 (uA u7 2 x1.toNatClampNeg (u7.1 1 x1.toNatClampNeg)) (x1 + 1) _ _ _ (xup0 hI0 q1) (Nat.lt_of_lt_of_le (xupc q1) (Nat.le_of_lt_succ hM7)) hR (lv_sub hl [0, 1] rfl) hP hS
  exact L7 (((49 : Int32).toInt - (0 : Int32).toInt).toNat + 1) (uZ u 0 1) 0 _ _ ls (by decide) (Nat.lt_succ_self _) hR hl hP hS
def s_X6_back_L12 : Nat → xU → Int32 → Int32 × xU
  | 0, u, _ => (0, u)
  | n + 1, u, x1 =>
    if 49 ≤ x1 then
      (u.1 1 (40 : Int32).toNatClampNeg, u)
    else
      s_X6_back_L12 n (uA u 1 x1.toNatClampNeg (u.1 2 x1.toNatClampNeg)) (x1 + 1)
def s_X6_back (u : xU) : Int32 × xU :=
  if (u.2 0) = 0 then
    ((-3), u)
  else
    s_X6_back_L12 (((49 : Int32).toInt - (0 : Int32).toInt).toNat + 1) u 0
abbrev rm_X6_back : Room := { frames := 0, cells := 0, slots := 0, locals := 0 }
set_option maxHeartbeats 8000000 in
set_option maxRecDepth 100000 in
theorem c_X6_back (l : Launch) (E : xG) (a : Nat → Nat) (u : xU)  (hL : xOK E (LM a)) : xMd l E yX6_back wsX6_back rm_X6_back (LM a) [.ref (a 0)] (wM E a u) (some (.int ((s_X6_back u).1))) (wM E a ((s_X6_back u).2)) := by
  refine xMd.of (cc := cX6_back) (maxL := 2) (ret := (some .int)) (by decide) rfl (Nat.le_of_ble_eq_true rfl) ?_
  intro p e s m below meth c ls hAt hF hP hS hl
  obtain ⟨hx, hb, hr, hml, hown, hts, hlocks, -⟩ := hAt
  have hown : s.vm.findClass RX6 = some m.cls := hown
  have hl : lv_has ls 2 [(0, .ref (a 0))] := hl
  have hK := hF.1
  have hA := hL.2
  change W p l e rm_X6_back s m ([.ref (a 0)] : List Value).toArray below meth c s.heap [] 0 0 (xQmd E below (LM a) (some (.int ((s_X6_back u).1))) (wM E a ((s_X6_back u).2)) ([.ref (a 0)] : List Value).toArray s) _
  have hS : va_S (· ∈ LM a) s.heap s.heap [] := hS
  have hR : s_X6_back u = s_X6_back u := rfl
  refine lv_aload_n hx hb dX6_back_0 rfl (lv_at hl 0 rfl) ?_
  refine va_get (D := xD E) (ci := 6) (v := .int (u.2 0)) (C := RX6) (T := TX6) (N := 28) hx hb hts (by decide +kernel) hown hK hP 0 rfl rfl 2 (by decide) (hts (.fieldLink RX6 295 "RailOffsetsModel" "hasImage" "Z") (by decide +kernel)) (fun _ h => h) rfl dX6_back_1 ?_
  refine lv_if_ne (tgt := 10) hx hb dX6_back_4 rfl (fun q1 => ?_) (fun q1 => ?_)
  · have hR := hR.trans (if_neg q1)
    refine lv_iconst (v := 0) hx hb dX6_back_10 rfl ?_
    refine lv_istore_n (lv' := [(1, .int 0), (0, .ref (a 0))]) hx hb dX6_back_11 rfl hl (by decide) rfl (fun ls hl => ?_)
    have L12 : ∀ (n12 : Nat) (u12 : xU) (x1 : Int32) (H : Heap) (locs : List Loc) (ls : Array Slot), (¬ x1 < 0) → ((49 : Int32).toInt - x1.toInt).toNat < n12 → s_X6_back u = s_X6_back_L12 n12 u12 x1 → lv_has ls 2 [(1, .int x1), (0, .ref (a 0))] → va_P (xD E) vwCl (wM E a u12) H → va_S (· ∈ LM a) s.heap H locs → W p l e rm_X6_back s m ([.ref (a 0)] : List Value).toArray below meth c H locs 0 0 (xQmd E below (LM a) (some (.int ((s_X6_back u).1))) (wM E a ((s_X6_back u).2)) ([.ref (a 0)] : List Value).toArray s) (F0 m 12 ls []) := by
      intro n12
      induction n12 with
      | zero => intro u12 x1 H locs ls hI0 hM12 hR hl hP hS; exact absurd hM12 (Nat.not_lt_zero _)
      | succ n12 ih12 =>
        intro u12 x1 H locs ls hI0 hM12 hR hl hP hS
        refine lv_iload_n hx hb dX6_back_12 rfl (lv_at hl 0 rfl) ?_
        refine lv_bipush (v := 49) hx hb dX6_back_13 rfl ?_
        refine lv_icmp_ge (tgt := 36) hx hb dX6_back_15 rfl (fun q2 => ?_) (fun q2 => ?_)
        · have hR := hR.trans (if_pos q2)
          refine lv_aload_n hx hb dX6_back_36 rfl (lv_at hl 1 rfl) ?_
          refine va_get (D := xD E) (ci := 6) (v := .ref (a 1)) (C := RX6) (T := TX6) (N := 28) hx hb hts (by decide +kernel) hown hK hP 0 rfl rfl 0 (by decide) (hts (.fieldLink RX6 11 "RailOffsetsModel" "now" "[I") (by decide +kernel)) (fun _ h => h) rfl dX6_back_37 ?_
          refine lv_bipush (v := 40) hx hb dX6_back_40 rfl ?_
          refine va_iald hx hb hK hP 1 0 rfl rfl (v40) dX6_back_42 ?_
          have hR : s_X6_back u = (u12.1 1 (40 : Int32).toNatClampNeg, u12) := hR
          exact W.iret (v := u12.1 1 (40 : Int32).toNatClampNeg) hx hb hr (fun t ht _ => by rw [hR]; dsimp only; exact ⟨⟨rfl, by rw [ht]; exact hP⟩, hS.F ht⟩) hS.2.2 dX6_back_43
        · have hR := hR.trans (if_neg q2)
          refine lv_aload_n hx hb dX6_back_18 rfl (lv_at hl 1 rfl) ?_
          refine va_get (D := xD E) (ci := 6) (v := .ref (a 1)) (C := RX6) (T := TX6) (N := 28) hx hb hts (by decide +kernel) hown hK hP 0 rfl rfl 0 (by decide) (hts (.fieldLink RX6 11 "RailOffsetsModel" "now" "[I") (by decide +kernel)) (fun _ h => h) rfl dX6_back_19 ?_
          refine lv_iload_n hx hb dX6_back_22 rfl (lv_at hl 0 rfl) ?_
          refine lv_aload_n hx hb dX6_back_23 rfl (lv_at hl 1 rfl) ?_
          refine va_get (D := xD E) (ci := 6) (v := .ref (a 2)) (C := RX6) (T := TX6) (N := 28) hx hb hts (by decide +kernel) hown hK hP 0 rfl rfl 1 (by decide) (hts (.fieldLink RX6 15 "RailOffsetsModel" "kept" "[I") (by decide +kernel)) (fun _ h => h) rfl dX6_back_24 ?_
          refine lv_iload_n hx hb dX6_back_27 rfl (lv_at hl 0 rfl) ?_
          refine va_iald hx hb hK hP 2 0 rfl rfl (xk49 hI0 q2) dX6_back_28 ?_
          refine va_iast hx hb hK hP (xD_of (ws := wM E a u12) (A := (· ∈ LM a)) hL.1 (fun _ h => h)) hS 1 0 rfl rfl (xk49 hI0 q2) dX6_back_29 (fun H locs hP _ hS => ?_)
          have hP : va_P (xD E) vwCl (wM E a (uA u12 1 x1.toNatClampNeg (u12.1 2 x1.toNatClampNeg))) H := hP
          refine lv_iinc (k := 0) (v := x1 + 1) (lv' := [(1, .int (x1 + 1)), (0, .ref (a 0))]) hx hb dX6_back_30 hl rfl rfl (by decide) rfl (fun ls hl => ?_)
          refine lv_goto (tgt := 12) hx hb dX6_back_33 rfl ?_
          exact ih12 (uA u12 1 x1.toNatClampNeg (u12.1 2 x1.toNatClampNeg)) (x1 + 1) _ _ _ (xup0 hI0 q2) (Nat.lt_of_lt_of_le (xupc q2) (Nat.le_of_lt_succ hM12)) hR (lv_sub hl [0, 1] rfl) hP hS
    exact L12 (((49 : Int32).toInt - (0 : Int32).toInt).toNat + 1) u 0 _ _ ls (by decide) (Nat.lt_succ_self _) hR hl hP hS
  · have hR := hR.trans (if_pos q1)
    refine lv_bipush (v := (-3)) hx hb dX6_back_7 rfl ?_
    have hR : s_X6_back u = ((-3), u) := hR
    exact W.iret (v := (-3)) hx hb hr (fun t ht _ => by rw [hR]; dsimp only; exact ⟨⟨rfl, by rw [ht]; exact hP⟩, hS.F ht⟩) hS.2.2 dX6_back_9
