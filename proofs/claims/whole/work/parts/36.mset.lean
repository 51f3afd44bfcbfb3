theorem xof0 {p : Int32} (hp : XP p) : vp_in (4 * p) 49 := by
  have h4 : (4 * p).toInt = 4 * p.toInt := fb_mulI (x := 4) (y := p) (by rw [show (4 : Int32).toInt = 4 from rfl]; have := hp.1; omega) (by rw [show (4 : Int32).toInt = 4 from rfl]; have := hp.2; omega)
  rw [vp_in_iff, h4]
  have h1 := hp.1
  have h2 := hp.2
  omega
theorem xwn {u : xU} (h : XW u) (q : ¬ u.1 1 40 = 10) : XP (u.1 1 40) := by
  obtain ⟨n, h1, h2, h3, h4⟩ := h
  rw [h2] at q ⊢
  have e := nI_toInt (n := n) (by omega)
  have hn : n ≠ 10 := fun z => q (by rw [z]; rfl)
  exact ⟨by omega, by omega⟩
theorem xplc {u : xU} {w : Int32} (q : ¬ s_X6_in u w.toInt64 0 3 = 0) : 0 ≤ (if w = 3 then (0 : Int32) else w + 1).toInt ∧ (if w = 3 then (0 : Int32) else w + 1).toInt < 9 := by
  have q2 := xin32 q
  rw [show (3 : Int64).toInt = 3 from rfl, show (0 : Int64).toInt = 0 from rfl] at q2
  split
  · decide
  · rw [xinc (by omega)]
    omega
def s_X6_drop (u : xU) : Int32 × xU :=
  if (u.1 1 (40 : Int32).toNatClampNeg) = 0 then
    ((-3), u)
  else
    ((uA u 1 (40 : Int32).toNatClampNeg ((u.1 1 (40 : Int32).toNatClampNeg) - 1)).1 1 (40 : Int32).toNatClampNeg, uA u 1 (40 : Int32).toNatClampNeg ((u.1 1 (40 : Int32).toNatClampNeg) - 1))
abbrev rm_X6_drop : Room := { frames := 0, cells := 0, slots := 0, locals := 0 }
set_option maxHeartbeats 8000000 in
set_option maxRecDepth 100000 in
theorem c_X6_drop (l : Launch) (E : xG) (a : Nat → Nat) (u : xU)  (hL : xOK E (LM a)) : xMd l E yX6_drop wsX6_drop rm_X6_drop (LM a) [.ref (a 0)] (wM E a u) (some (.int ((s_X6_drop u).1))) (wM E a ((s_X6_drop u).2)) := by
  refine xMd.of (cc := cX6_drop) (maxL := 1) (ret := (some .int)) (by decide) rfl (Nat.le_of_ble_eq_true rfl) ?_
  intro p e s m below meth c ls hAt hF hP hS hl
  obtain ⟨hx, hb, hr, hml, hown, hts, hlocks, -⟩ := hAt
  have hown : s.vm.findClass RX6 = some m.cls := hown
  have hl : lv_has ls 1 [(0, .ref (a 0))] := hl
  have hK := hF.1
  have hA := hL.2
  change W p l e rm_X6_drop s m ([.ref (a 0)] : List Value).toArray below meth c s.heap [] 0 0 (xQmd E below (LM a) (some (.int ((s_X6_drop u).1))) (wM E a ((s_X6_drop u).2)) ([.ref (a 0)] : List Value).toArray s) _
  have hS : va_S (· ∈ LM a) s.heap s.heap [] := hS
  have hR : s_X6_drop u = s_X6_drop u := rfl
  refine lv_aload_n hx hb dX6_drop_0 rfl (lv_at hl 0 rfl) ?_
  refine va_get (D := xD E) (ci := 6) (v := .ref (a 1)) (C := RX6) (T := TX6) (N := 28) hx hb hts (by decide +kernel) hown hK hP 0 rfl rfl 0 (by decide) (hts (.fieldLink RX6 11 "RailOffsetsModel" "now" "[I") (by decide +kernel)) (fun _ h => h) rfl dX6_drop_1 ?_
  refine lv_bipush (v := 40) hx hb dX6_drop_4 rfl ?_
  refine va_iald hx hb hK hP 1 0 rfl rfl (v40) dX6_drop_6 ?_
  refine lv_if_ne (tgt := 13) hx hb dX6_drop_7 rfl (fun q1 => ?_) (fun q1 => ?_)
  · have hR := hR.trans (if_neg q1)
    refine lv_aload_n hx hb dX6_drop_13 rfl (lv_at hl 0 rfl) ?_
    refine va_get (D := xD E) (ci := 6) (v := .ref (a 1)) (C := RX6) (T := TX6) (N := 28) hx hb hts (by decide +kernel) hown hK hP 0 rfl rfl 0 (by decide) (hts (.fieldLink RX6 11 "RailOffsetsModel" "now" "[I") (by decide +kernel)) (fun _ h => h) rfl dX6_drop_14 ?_
    refine lv_bipush (v := 40) hx hb dX6_drop_17 rfl ?_
    refine lv_dup2_11 hx hb dX6_drop_19 rfl rfl ?_
    refine va_iald hx hb hK hP 1 0 rfl rfl (v40) dX6_drop_20 ?_
    refine lv_iconst (v := 1) hx hb dX6_drop_21 rfl ?_
    refine lv_isub hx hb dX6_drop_22 ?_
    refine va_iast hx hb hK hP (xD_of (ws := wM E a u) (A := (· ∈ LM a)) hL.1 (fun _ h => h)) hS 1 0 rfl rfl (v40) dX6_drop_23 (fun H locs hP _ hS => ?_)
    have hP : va_P (xD E) vwCl (wM E a (uA u 1 (40 : Int32).toNatClampNeg ((u.1 1 (40 : Int32).toNatClampNeg) - 1))) H := hP
    refine lv_aload_n hx hb dX6_drop_24 rfl (lv_at hl 0 rfl) ?_
    refine va_get (D := xD E) (ci := 6) (v := .ref (a 1)) (C := RX6) (T := TX6) (N := 28) hx hb hts (by decide +kernel) hown hK hP 0 rfl rfl 0 (by decide) (hts (.fieldLink RX6 11 "RailOffsetsModel" "now" "[I") (by decide +kernel)) (fun _ h => h) rfl dX6_drop_25 ?_
    refine lv_bipush (v := 40) hx hb dX6_drop_28 rfl ?_
    refine va_iald hx hb hK hP 1 0 rfl rfl (v40) dX6_drop_30 ?_
    have hR : s_X6_drop u = ((uA u 1 (40 : Int32).toNatClampNeg ((u.1 1 (40 : Int32).toNatClampNeg) - 1)).1 1 (40 : Int32).toNatClampNeg, uA u 1 (40 : Int32).toNatClampNeg ((u.1 1 (40 : Int32).toNatClampNeg) - 1)) := hR
    exact W.iret (v := (uA u 1 (40 : Int32).toNatClampNeg ((u.1 1 (40 : Int32).toNatClampNeg) - 1)).1 1 (40 : Int32).toNatClampNeg) hx hb hr (fun t ht _ => by rw [hR]; dsimp only; exact ⟨⟨rfl, by rw [ht]; exact hP⟩, hS.F ht⟩) hS.2.2 dX6_drop_31
  · have hR := hR.trans (if_pos q1)
    refine lv_bipush (v := (-3)) hx hb dX6_drop_10 rfl ?_
    have hR : s_X6_drop u = ((-3), u) := hR
    exact W.iret (v := (-3)) hx hb hr (fun t ht _ => by rw [hR]; dsimp only; exact ⟨⟨rfl, by rw [ht]; exact hP⟩, hS.F ht⟩) hS.2.2 dX6_drop_12
def s_X6_set (u : xU) (p1 : Int32) (p2 : Int32) (p3 : Int32) : Int32 × xU :=
  if (s_X6_isPiece u p1) = 0 then
    ((-1000), u)
  else
    if (s_X6_in u p2.toInt64 0 3) = 0 then
      ((-1000), u)
    else
      if (s_X6_mayBe u (if p2 = 3 then 0 else p2 + 1) p3) = 0 then
        ((-1000), u)
      else
        (s_X6_of0 u p1 (if p2 = 3 then 0 else p2 + 1), uA u 1 ((4 * p1) + (if p2 = 3 then 0 else p2 + 1)).toNatClampNeg p3)
abbrev rm_X6_set : Room := { frames := 2, cells := 0, slots := 0, locals := 46 }
set_option maxHeartbeats 8000000 in
set_option maxRecDepth 100000 in
theorem c_X6_set (l : Launch) (E : xG) (a : Nat → Nat) (u : xU) (p1 : Int32) (p2 : Int32) (p3 : Int32) (hp0 : XW u) (hL : xOK E (LM a)) : xMd l E yX6_set wsX6_set rm_X6_set (LM a) [.ref (a 0), .int p1, .int p2, .int p3] (wM E a u) (some (.int ((s_X6_set u p1 p2 p3).1))) (wM E a ((s_X6_set u p1 p2 p3).2)) := by
  refine xMd.of (cc := cX6_set) (maxL := 6) (ret := (some .int)) (by decide) rfl (Nat.le_of_ble_eq_true rfl) ?_
  intro p e s m below meth c ls hAt hF hP hS hl
  obtain ⟨hx, hb, hr, hml, hown, hts, hlocks, -⟩ := hAt
  have hown : s.vm.findClass RX6 = some m.cls := hown
  have hl : lv_has ls 6 [(0, .ref (a 0)), (1, .int p1), (2, .int p2), (3, .int p3)] := hl
  have hK := hF.1
  have hA := hL.2
  change W p l e rm_X6_set s m ([.ref (a 0), .int p1, .int p2, .int p3] : List Value).toArray below meth c s.heap [] 0 0 (xQmd E below (LM a) (some (.int ((s_X6_set u p1 p2 p3).1))) (wM E a ((s_X6_set u p1 p2 p3).2)) ([.ref (a 0), .int p1, .int p2, .int p3] : List Value).toArray s) _
  have hS : va_S (· ∈ LM a) s.heap s.heap [] := hS
  have hR : s_X6_set u p1 p2 p3 = s_X6_set u p1 p2 p3 := rfl
  refine lv_iload_n hx hb dX6_set_0 rfl (lv_at hl 2 rfl) ?_
  refine lv_iconst (v := 3) hx hb dX6_set_1 rfl ?_
  have J1 : W p l e rm_X6_set s m ([.ref (a 0), .int p1, .int p2, .int p3] : List Value).toArray below meth c s.heap [] 0 0 (xQmd E below (LM a) (some (.int ((s_X6_set u p1 p2 p3).1))) (wM E a ((s_X6_set u p1 p2 p3).2)) ([.ref (a 0), .int p1, .int p2, .int p3] : List Value).toArray s) (F0 m 12 ls [.int (if p2 = 3 then 0 else p2 + 1)]) := by
    refine lv_istore (lv' := [(4, .int (if p2 = 3 then 0 else p2 + 1)), (0, .ref (a 0)), (1, .int p1), (2, .int p2), (3, .int p3)]) hx hb dX6_set_12 hl (by decide) rfl (fun ls hl => ?_)
    refine lv_aload_n hx hb dX6_set_14 rfl (lv_at hl 1 rfl) ?_
    refine lv_iload_n hx hb dX6_set_15 rfl (lv_at hl 2 rfl) ?_
    refine xRoV (nL := 6) ⟨hx, hb, hml, hown, hts⟩ (c_X6_isPiece l E a u p1) (cwV 1 hts gX6_set_X6_isPiece rfl rfl rfl ⟨rfl, hd_X6_isPiece⟩ ⟨(Nat.le_of_ble_eq_true rfl), (Nat.le_of_ble_eq_true rfl)⟩) hF hS hA hP (va_recv (q := (RX6, TX6, 28)) hK hP (ci := 6) rfl (q0 := 0) rfl) rfl hl.1 rfl (Nat.le_of_ble_eq_true rfl) ⟨(Nat.le_of_ble_eq_true rfl), (Nat.le_of_ble_eq_true rfl)⟩ dX6_set_16 ?_
    refine W.eq (g2 := F0 m 19 ls [.int (s_X6_isPiece u p1)]) rfl ?_
    refine lv_if_eq (tgt := 43) hx hb dX6_set_19 rfl (fun q3 => ?_) (fun q3 => ?_)
    · have hR := hR.trans (if_pos q3)
      refine lv_sipush (v := (-1000)) hx hb dX6_set_43 rfl ?_
      have hR : s_X6_set u p1 p2 p3 = ((-1000), u) := hR
      exact W.iret (v := (-1000)) hx hb hr (fun t ht _ => by rw [hR]; dsimp only; exact ⟨⟨rfl, by rw [ht]; exact hP⟩, hS.F ht⟩) hS.2.2 dX6_set_46
    · have hR := hR.trans (if_neg q3)
      refine lv_iload_n hx hb dX6_set_22 rfl (lv_at hl 3 rfl) ?_
      refine lv_i2l hx hb dX6_set_23 rfl ?_
      refine lv_lconst (v := 0) hx hb dX6_set_24 rfl ?_
      refine lv_ldc2 (v := 3) hx hb hown (hts (.constantLong RX6 89 (3)) (by decide +kernel)) dX6_set_25 ?_
      refine xRoS (nL := 6) ⟨hx, hb, hml, hown, hts⟩ (c_X6_in l E a u p2.toInt64 0 3) (va_cwS 3 hts gX6_set_X6_in rfl rfl rfl hd_X6_in ⟨(Nat.le_of_ble_eq_true rfl), (Nat.le_of_ble_eq_true rfl)⟩) hF hS hA hP rfl hl.1 rfl (Nat.le_of_ble_eq_true rfl) ⟨(Nat.le_of_ble_eq_true rfl), (Nat.le_of_ble_eq_true rfl)⟩ dX6_set_28 ?_
      refine W.eq (g2 := F0 m 31 ls [.int (s_X6_in u p2.toInt64 0 3)]) rfl ?_
      refine lv_if_eq (tgt := 43) hx hb dX6_set_31 rfl (fun q4 => ?_) (fun q4 => ?_)
      · have hR := hR.trans (if_pos q4)
        refine lv_sipush (v := (-1000)) hx hb dX6_set_43 rfl ?_
        have hR : s_X6_set u p1 p2 p3 = ((-1000), u) := hR
        exact W.iret (v := (-1000)) hx hb hr (fun t ht _ => by rw [hR]; dsimp only; exact ⟨⟨rfl, by rw [ht]; exact hP⟩, hS.F ht⟩) hS.2.2 dX6_set_46
      · have hR := hR.trans (if_neg q4)
        refine lv_iload hx hb dX6_set_34 (lv_at hl 0 rfl) ?_
        refine lv_iload_n hx hb dX6_set_36 rfl (lv_at hl 4 rfl) ?_
        refine xRoS (nL := 6) ⟨hx, hb, hml, hown, hts⟩ (c_X6_mayBe l E a u (if p2 = 3 then 0 else p2 + 1) p3) (va_cwS 2 hts gX6_set_X6_mayBe rfl rfl rfl hd_X6_mayBe ⟨(Nat.le_of_ble_eq_true rfl), (Nat.le_of_ble_eq_true rfl)⟩) hF hS hA hP rfl hl.1 rfl (Nat.le_of_ble_eq_true rfl) ⟨(Nat.le_of_ble_eq_true rfl), (Nat.le_of_ble_eq_true rfl)⟩ dX6_set_37 ?_
        refine W.eq (g2 := F0 m 40 ls [.int (s_X6_mayBe u (if p2 = 3 then 0 else p2 + 1) p3)]) rfl ?_
        refine lv_if_ne (tgt := 47) hx hb dX6_set_40 rfl (fun q5 => ?_) (fun q5 => ?_)
        · have hR := hR.trans (if_neg q5)
          refine lv_aload_n hx hb dX6_set_47 rfl (lv_at hl 1 rfl) ?_
          refine lv_iload_n hx hb dX6_set_48 rfl (lv_at hl 2 rfl) ?_
          refine lv_iload hx hb dX6_set_49 (lv_at hl 0 rfl) ?_
          refine xRoV (nL := 6) ⟨hx, hb, hml, hown, hts⟩ (c_X6_of0 l E a u p1 (if p2 = 3 then 0 else p2 + 1) (xof (xisP hp0 q3) (xplc q4).1 (xplc q4).2)) (cwV 2 hts gX6_set_X6_of0 rfl rfl rfl ⟨rfl, hd_X6_of0⟩ ⟨(Nat.le_of_ble_eq_true rfl), (Nat.le_of_ble_eq_true rfl)⟩) hF hS hA hP (va_recv (q := (RX6, TX6, 28)) hK hP (ci := 6) rfl (q0 := 0) rfl) rfl hl.1 rfl (Nat.le_of_ble_eq_true rfl) ⟨(Nat.le_of_ble_eq_true rfl), (Nat.le_of_ble_eq_true rfl)⟩ dX6_set_51 ?_
          refine W.eq (g2 := F0 m 54 ls [.int (s_X6_of0 u p1 (if p2 = 3 then 0 else p2 + 1))]) rfl ?_
          refine lv_istore (lv' := [(5, .int (s_X6_of0 u p1 (if p2 = 3 then 0 else p2 + 1))), (4, .int (if p2 = 3 then 0 else p2 + 1)), (0, .ref (a 0)), (1, .int p1), (2, .int p2), (3, .int p3)]) hx hb dX6_set_54 hl (by decide) rfl (fun ls hl => ?_)
          refine lv_aload_n hx hb dX6_set_56 rfl (lv_at hl 2 rfl) ?_
          refine va_get (D := xD E) (ci := 6) (v := .ref (a 1)) (C := RX6) (T := TX6) (N := 28) hx hb hts (by decide +kernel) hown hK hP 0 rfl rfl 0 (by decide) (hts (.fieldLink RX6 11 "RailOffsetsModel" "now" "[I") (by decide +kernel)) (fun _ h => h) rfl dX6_set_57 ?_
          refine lv_iconst (v := 4) hx hb dX6_set_60 rfl ?_
          refine lv_iload_n hx hb dX6_set_61 rfl (lv_at hl 3 rfl) ?_
          refine lv_imul hx hb dX6_set_62 ?_
          refine lv_iload hx hb dX6_set_63 (lv_at hl 1 rfl) ?_
          refine lv_iadd hx hb dX6_set_65 ?_
          refine lv_iload_n hx hb dX6_set_66 rfl (lv_at hl 5 rfl) ?_
          refine va_iast hx hb hK hP (xD_of (ws := wM E a u) (A := (· ∈ LM a)) hL.1 (fun _ h => h)) hS 1 0 rfl rfl (xof (xisP hp0 q3) (xplc q4).1 (xplc q4).2) dX6_set_67 (fun H locs hP _ hS => ?_)
          have hP : va_P (xD E) vwCl (wM E a (uA u 1 ((4 * p1) + (if p2 = 3 then 0 else p2 + 1)).toNatClampNeg p3)) H := hP
          refine lv_iload hx hb dX6_set_68 (lv_at hl 0 rfl) ?_
          have hR : s_X6_set u p1 p2 p3 = (s_X6_of0 u p1 (if p2 = 3 then 0 else p2 + 1), uA u 1 ((4 * p1) + (if p2 = 3 then 0 else p2 + 1)).toNatClampNeg p3) := hR
          exact W.iret (v := s_X6_of0 u p1 (if p2 = 3 then 0 else p2 + 1)) hx hb hr (fun t ht _ => by rw [hR]; dsimp only; exact ⟨⟨rfl, by rw [ht]; exact hP⟩, hS.F ht⟩) hS.2.2 dX6_set_70
        · have hR := hR.trans (if_pos q5)
          refine lv_sipush (v := (-1000)) hx hb dX6_set_43 rfl ?_
          have hR : s_X6_set u p1 p2 p3 = ((-1000), u) := hR
          exact W.iret (v := (-1000)) hx hb hr (fun t ht _ => by rw [hR]; dsimp only; exact ⟨⟨rfl, by rw [ht]; exact hP⟩, hS.F ht⟩) hS.2.2 dX6_set_46
  refine lv_icmp_ne (tgt := 9) hx hb dX6_set_2 rfl (fun q2 => ?_) (fun q2 => ?_)
  · refine lv_iload_n hx hb dX6_set_9 rfl (lv_at hl 2 rfl) ?_
    refine lv_iconst (v := 1) hx hb dX6_set_10 rfl ?_
    refine lv_iadd hx hb dX6_set_11 ?_
    exact W.eq (congrArg (fun z => F0 m 12 ls [.int z]) (if_neg q2).symm) J1
  · refine lv_iconst (v := 0) hx hb dX6_set_5 rfl ?_
    refine lv_goto (tgt := 12) hx hb dX6_set_6 rfl ?_
    exact W.eq (congrArg (fun z => F0 m 12 ls [.int z]) (if_pos q2).symm) J1
def s_X6_rule_ (u : xU) (p1 : Int32) (p2 : Int32) : Int64 × xU :=
  if (s_X6_in u p1.toInt64 0 7) = 0 then
    (xNO, u)
  else
    if (s_X6_mayRule u p1 p2) = 0 then
      (xNO, u)
    else
      ((s_X6_rule u p1).toInt64, uA u 1 (41 + p1).toNatClampNeg p2)
abbrev rm_X6_rule_ : Room := { frames := 2, cells := 0, slots := 0, locals := 46 }
set_option maxHeartbeats 8000000 in
set_option maxRecDepth 100000 in
theorem c_X6_rule_ (l : Launch) (E : xG) (a : Nat → Nat) (u : xU) (p1 : Int32) (p2 : Int32) (hL : xOK E (LM a)) : xMd l E yX6_rule_ wsX6_rule_ rm_X6_rule_ (LM a) [.ref (a 0), .int p1, .int p2] (wM E a u) (some (.long ((s_X6_rule_ u p1 p2).1))) (wM E a ((s_X6_rule_ u p1 p2).2)) := by
  refine xMd.of (cc := cX6_rule_) (maxL := 4) (ret := (some .long)) (by decide) rfl (Nat.le_of_ble_eq_true rfl) ?_
  intro p e s m below meth c ls hAt hF hP hS hl
  obtain ⟨hx, hb, hr, hml, hown, hts, hlocks, -⟩ := hAt
  have hown : s.vm.findClass RX6 = some m.cls := hown
  have hl : lv_has ls 4 [(0, .ref (a 0)), (1, .int p1), (2, .int p2)] := hl
  have hK := hF.1
  have hA := hL.2
  change W p l e rm_X6_rule_ s m ([.ref (a 0), .int p1, .int p2] : List Value).toArray below meth c s.heap [] 0 0 (xQmd E below (LM a) (some (.long ((s_X6_rule_ u p1 p2).1))) (wM E a ((s_X6_rule_ u p1 p2).2)) ([.ref (a 0), .int p1, .int p2] : List Value).toArray s) _
  have hS : va_S (· ∈ LM a) s.heap s.heap [] := hS
  have hR : s_X6_rule_ u p1 p2 = s_X6_rule_ u p1 p2 := rfl
  refine lv_iload_n hx hb dX6_rule__0 rfl (lv_at hl 1 rfl) ?_
  refine lv_i2l hx hb dX6_rule__1 rfl ?_
  refine lv_lconst (v := 0) hx hb dX6_rule__2 rfl ?_
  refine lv_ldc2 (v := 7) hx hb hown (hts (.constantLong RX6 120 (7)) (by decide +kernel)) dX6_rule__3 ?_
  refine xRoS (nL := 4) ⟨hx, hb, hml, hown, hts⟩ (c_X6_in l E a u p1.toInt64 0 7) (va_cwS 3 hts gX6_rule__X6_in rfl rfl rfl hd_X6_in ⟨(Nat.le_of_ble_eq_true rfl), (Nat.le_of_ble_eq_true rfl)⟩) hF hS hA hP rfl hl.1 rfl (Nat.le_of_ble_eq_true rfl) ⟨(Nat.le_of_ble_eq_true rfl), (Nat.le_of_ble_eq_true rfl)⟩ dX6_rule__6 ?_
  refine W.eq (g2 := F0 m 9 ls [.int (s_X6_in u p1.toInt64 0 7)]) rfl ?_
  refine lv_if_eq (tgt := 20) hx hb dX6_rule__9 rfl (fun q1 => ?_) (fun q1 => ?_)
  · have hR := hR.trans (if_pos q1)
    refine lv_ldc2 (v := xNO) hx hb hown (hts (.constantLong RX6 125 (-9223372036854775808)) (by decide +kernel)) dX6_rule__20 ?_
    have hR : s_X6_rule_ u p1 p2 = (xNO, u) := hR
    exact W.lret (v := xNO) hx hb hr (fun t ht _ => by rw [hR]; dsimp only; exact ⟨⟨rfl, by rw [ht]; exact hP⟩, hS.F ht⟩) hS.2.2 dX6_rule__23
  · have hR := hR.trans (if_neg q1)
    refine lv_iload_n hx hb dX6_rule__12 rfl (lv_at hl 1 rfl) ?_
    refine lv_iload_n hx hb dX6_rule__13 rfl (lv_at hl 2 rfl) ?_
    refine xRoS (nL := 4) ⟨hx, hb, hml, hown, hts⟩ (c_X6_mayRule l E a u p1 p2) (va_cwS 2 hts gX6_rule__X6_mayRule rfl rfl rfl hd_X6_mayRule ⟨(Nat.le_of_ble_eq_true rfl), (Nat.le_of_ble_eq_true rfl)⟩) hF hS hA hP rfl hl.1 rfl (Nat.le_of_ble_eq_true rfl) ⟨(Nat.le_of_ble_eq_true rfl), (Nat.le_of_ble_eq_true rfl)⟩ dX6_rule__14 ?_
    refine W.eq (g2 := F0 m 17 ls [.int (s_X6_mayRule u p1 p2)]) rfl ?_
    refine lv_if_ne (tgt := 24) hx hb dX6_rule__17 rfl (fun q2 => ?_) (fun q2 => ?_)
    · have hR := hR.trans (if_neg q2)
      refine lv_aload_n hx hb dX6_rule__24 rfl (lv_at hl 0 rfl) ?_
      refine lv_iload_n hx hb dX6_rule__25 rfl (lv_at hl 1 rfl) ?_
      refine xRoV (nL := 4) ⟨hx, hb, hml, hown, hts⟩ (c_X6_rule l E a u p1 (xrul (xin32 q1).1 (xin32 q1).2)) (cwV 1 hts gX6_rule__X6_rule rfl rfl rfl ⟨rfl, hd_X6_rule⟩ ⟨(Nat.le_of_ble_eq_true rfl), (Nat.le_of_ble_eq_true rfl)⟩) hF hS hA hP (va_recv (q := (RX6, TX6, 28)) hK hP (ci := 6) rfl (q0 := 0) rfl) rfl hl.1 rfl (Nat.le_of_ble_eq_true rfl) ⟨(Nat.le_of_ble_eq_true rfl), (Nat.le_of_ble_eq_true rfl)⟩ dX6_rule__26 ?_
      refine W.eq (g2 := F0 m 29 ls [.int (s_X6_rule u p1)]) rfl ?_
      refine lv_istore_n (lv' := [(3, .int (s_X6_rule u p1)), (0, .ref (a 0)), (1, .int p1), (2, .int p2)]) hx hb dX6_rule__29 rfl hl (by decide) rfl (fun ls hl => ?_)
      refine lv_aload_n hx hb dX6_rule__30 rfl (lv_at hl 1 rfl) ?_
      refine va_get (D := xD E) (ci := 6) (v := .ref (a 1)) (C := RX6) (T := TX6) (N := 28) hx hb hts (by decide +kernel) hown hK hP 0 rfl rfl 0 (by decide) (hts (.fieldLink RX6 11 "RailOffsetsModel" "now" "[I") (by decide +kernel)) (fun _ h => h) rfl dX6_rule__31 ?_
      refine lv_bipush (v := 41) hx hb dX6_rule__34 rfl ?_
      refine lv_iload_n hx hb dX6_rule__36 rfl (lv_at hl 2 rfl) ?_
      refine lv_iadd hx hb dX6_rule__37 ?_
      refine lv_iload_n hx hb dX6_rule__38 rfl (lv_at hl 3 rfl) ?_
      refine va_iast hx hb hK hP (xD_of (ws := wM E a u) (A := (· ∈ LM a)) hL.1 (fun _ h => h)) hS 1 0 rfl rfl (xrul (xin32 q1).1 (xin32 q1).2) dX6_rule__39 (fun H locs hP _ hS => ?_)
      have hP : va_P (xD E) vwCl (wM E a (uA u 1 (41 + p1).toNatClampNeg p2)) H := hP
      refine lv_iload_n hx hb dX6_rule__40 rfl (lv_at hl 0 rfl) ?_
      refine lv_i2l hx hb dX6_rule__41 rfl ?_
      have hR : s_X6_rule_ u p1 p2 = ((s_X6_rule u p1).toInt64, uA u 1 (41 + p1).toNatClampNeg p2) := hR
      exact W.lret (v := (s_X6_rule u p1).toInt64) hx hb hr (fun t ht _ => by rw [hR]; dsimp only; exact ⟨⟨rfl, by rw [ht]; exact hP⟩, hS.F ht⟩) hS.2.2 dX6_rule__42
    · have hR := hR.trans (if_pos q2)
      refine lv_ldc2 (v := xNO) hx hb hown (hts (.constantLong RX6 125 (-9223372036854775808)) (by decide +kernel)) dX6_rule__20 ?_
      have hR : s_X6_rule_ u p1 p2 = (xNO, u) := hR
      exact W.lret (v := xNO) hx hb hr (fun t ht _ => by rw [hR]; dsimp only; exact ⟨⟨rfl, by rw [ht]; exact hP⟩, hS.F ht⟩) hS.2.2 dX6_rule__23
