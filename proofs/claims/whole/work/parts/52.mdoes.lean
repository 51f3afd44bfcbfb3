def s_X6_does (u : xU) (p1 : Int32) : Int32 × xU :=
  if (u.1 18 (5 * p1).toNatClampNeg) = 0 then
    if ((s_X6_piece u (u.1 18 ((5 * p1) + 1).toNatClampNeg) (u.1 18 ((5 * p1) + 2).toNatClampNeg) (u.1 18 ((5 * p1) + 3).toNatClampNeg) (u.1 18 ((5 * p1) + 4).toNatClampNeg)).1) < 0 then
      (0, (s_X6_piece u (u.1 18 ((5 * p1) + 1).toNatClampNeg) (u.1 18 ((5 * p1) + 2).toNatClampNeg) (u.1 18 ((5 * p1) + 3).toNatClampNeg) (u.1 18 ((5 * p1) + 4).toNatClampNeg)).2)
    else
      (1, (s_X6_piece u (u.1 18 ((5 * p1) + 1).toNatClampNeg) (u.1 18 ((5 * p1) + 2).toNatClampNeg) (u.1 18 ((5 * p1) + 3).toNatClampNeg) (u.1 18 ((5 * p1) + 4).toNatClampNeg)).2)
  else
    if (u.1 18 (5 * p1).toNatClampNeg) = 1 then
      if ((s_X6_set u (u.1 18 ((5 * p1) + 1).toNatClampNeg) 1 (u.1 18 ((5 * p1) + 2).toNatClampNeg)).1) = (-1000) then
        (0, (s_X6_set u (u.1 18 ((5 * p1) + 1).toNatClampNeg) 1 (u.1 18 ((5 * p1) + 2).toNatClampNeg)).2)
      else
        (1, (s_X6_set u (u.1 18 ((5 * p1) + 1).toNatClampNeg) 1 (u.1 18 ((5 * p1) + 2).toNatClampNeg)).2)
    else
      if (u.1 18 (5 * p1).toNatClampNeg) = 2 then
        if ((s_X6_set u (u.1 18 ((5 * p1) + 1).toNatClampNeg) 2 (u.1 18 ((5 * p1) + 2).toNatClampNeg)).1) = (-1000) then
          (0, (s_X6_set u (u.1 18 ((5 * p1) + 1).toNatClampNeg) 2 (u.1 18 ((5 * p1) + 2).toNatClampNeg)).2)
        else
          (1, (s_X6_set u (u.1 18 ((5 * p1) + 1).toNatClampNeg) 2 (u.1 18 ((5 * p1) + 2).toNatClampNeg)).2)
      else
        if (u.1 18 (5 * p1).toNatClampNeg) = 3 then
          if (lg_cmp ((s_X6_rule_ u 5 (u.1 18 ((5 * p1) + 1).toNatClampNeg)).1) xNO) = 0 then
            (0, (s_X6_rule_ u 5 (u.1 18 ((5 * p1) + 1).toNatClampNeg)).2)
          else
            (1, (s_X6_rule_ u 5 (u.1 18 ((5 * p1) + 1).toNatClampNeg)).2)
        else
          if ((s_X6_drop u).1) < 0 then
            (0, (s_X6_drop u).2)
          else
            (1, (s_X6_drop u).2)
abbrev rm_X6_does : Room := { frames := 3, cells := 0, slots := 0, locals := 71 }
set_option maxHeartbeats 8000000 in
set_option maxRecDepth 100000 in
theorem c_X6_does (l : Launch) (E : xG) (a : Nat → Nat) (u : xU) (p1 : Int32) (hp0 : XW u) (hp1 : 0 ≤ p1.toInt ∧ p1.toInt ≤ 14) (hL : xOK E (LM a)) : xMd l E yX6_does wsX6_does rm_X6_does (LM a) [.ref (a 0), .int p1] (wM E a u) (some (.int ((s_X6_does u p1).1))) (wM E a ((s_X6_does u p1).2)) := by
  refine xMd.of (cc := cX6_does) (maxL := 4) (ret := (some .boolean)) (by decide) rfl (Nat.le_of_ble_eq_true rfl) ?_
  intro p e s m below meth c ls hAt hF hP hS hl
  obtain ⟨hx, hb, hr, hml, hown, hts, hlocks, -⟩ := hAt
  have hown : s.vm.findClass RX6 = some m.cls := hown
  have hl : lv_has ls 4 [(0, .ref (a 0)), (1, .int p1)] := hl
  have hK := hF.1
  have hA := hL.2
  change W p l e rm_X6_does s m ([.ref (a 0), .int p1] : List Value).toArray below meth c s.heap [] 0 0 (xQmd E below (LM a) (some (.int ((s_X6_does u p1).1))) (wM E a ((s_X6_does u p1).2)) ([.ref (a 0), .int p1] : List Value).toArray s) _
  have hS : va_S (· ∈ LM a) s.heap s.heap [] := hS
  have hR : s_X6_does u p1 = s_X6_does u p1 := rfl
  refine lv_aload_n hx hb dX6_does_0 rfl (lv_at hl 0 rfl) ?_
  refine va_get (D := xD E) (ci := 6) (v := .ref (a 18)) (C := RX6) (T := TX6) (N := 28) hx hb hts (by decide +kernel) hown hK hP 0 rfl rfl 26 (by decide) (hts (.fieldLink RX6 64 "RailOffsetsModel" "clauses" "[I") (by decide +kernel)) (fun _ h => h) rfl dX6_does_1 ?_
  refine lv_iconst (v := 5) hx hb dX6_does_4 rfl ?_
  refine lv_iload_n hx hb dX6_does_5 rfl (lv_at hl 1 rfl) ?_
  refine lv_imul hx hb dX6_does_6 ?_
  refine lv_iconst (v := 1) hx hb dX6_does_7 rfl ?_
  refine lv_iadd hx hb dX6_does_8 ?_
  refine va_iald hx hb hK hP 18 0 rfl rfl (xd5j hp1 (by decide) (by decide)) dX6_does_9 ?_
  refine lv_istore_n (lv' := [(2, .int (u.1 18 ((5 * p1) + 1).toNatClampNeg)), (0, .ref (a 0)), (1, .int p1)]) hx hb dX6_does_10 rfl hl (by decide) rfl (fun ls hl => ?_)
  refine lv_aload_n hx hb dX6_does_11 rfl (lv_at hl 1 rfl) ?_
  refine va_get (D := xD E) (ci := 6) (v := .ref (a 18)) (C := RX6) (T := TX6) (N := 28) hx hb hts (by decide +kernel) hown hK hP 0 rfl rfl 26 (by decide) (hts (.fieldLink RX6 64 "RailOffsetsModel" "clauses" "[I") (by decide +kernel)) (fun _ h => h) rfl dX6_does_12 ?_
  refine lv_iconst (v := 5) hx hb dX6_does_15 rfl ?_
  refine lv_iload_n hx hb dX6_does_16 rfl (lv_at hl 2 rfl) ?_
  refine lv_imul hx hb dX6_does_17 ?_
  refine lv_iconst (v := 2) hx hb dX6_does_18 rfl ?_
  refine lv_iadd hx hb dX6_does_19 ?_
  refine va_iald hx hb hK hP 18 0 rfl rfl (xd5j hp1 (by decide) (by decide)) dX6_does_20 ?_
  refine lv_istore_n (lv' := [(3, .int (u.1 18 ((5 * p1) + 2).toNatClampNeg)), (2, .int (u.1 18 ((5 * p1) + 1).toNatClampNeg)), (0, .ref (a 0)), (1, .int p1)]) hx hb dX6_does_21 rfl hl (by decide) rfl (fun ls hl => ?_)
  refine lv_aload_n hx hb dX6_does_22 rfl (lv_at hl 2 rfl) ?_
  refine va_get (D := xD E) (ci := 6) (v := .ref (a 18)) (C := RX6) (T := TX6) (N := 28) hx hb hts (by decide +kernel) hown hK hP 0 rfl rfl 26 (by decide) (hts (.fieldLink RX6 64 "RailOffsetsModel" "clauses" "[I") (by decide +kernel)) (fun _ h => h) rfl dX6_does_23 ?_
  refine lv_iconst (v := 5) hx hb dX6_does_26 rfl ?_
  refine lv_iload_n hx hb dX6_does_27 rfl (lv_at hl 3 rfl) ?_
  refine lv_imul hx hb dX6_does_28 ?_
  refine va_iald hx hb hK hP 18 0 rfl rfl (xd5 hp1) dX6_does_29 ?_
  by_cases q1 : (u.1 18 (5 * p1).toNatClampNeg) = 0
  · have hR := hR.trans (if_pos q1)
    refine lv_tableIn (tgt := 60) (off := 30) hx hb dX6_does_30 (by rw [q1]; decide) (by rw [q1]; decide) (by rw [q1]; rfl) rfl ?_
    refine lv_aload_n hx hb dX6_does_60 rfl (lv_at hl 2 rfl) ?_
    refine lv_iload_n hx hb dX6_does_61 rfl (lv_at hl 1 rfl) ?_
    refine lv_iload_n hx hb dX6_does_62 rfl (lv_at hl 0 rfl) ?_
    refine lv_aload_n hx hb dX6_does_63 rfl (lv_at hl 2 rfl) ?_
    refine va_get (D := xD E) (ci := 6) (v := .ref (a 18)) (C := RX6) (T := TX6) (N := 28) hx hb hts (by decide +kernel) hown hK hP 0 rfl rfl 26 (by decide) (hts (.fieldLink RX6 64 "RailOffsetsModel" "clauses" "[I") (by decide +kernel)) (fun _ h => h) rfl dX6_does_64 ?_
    refine lv_iconst (v := 5) hx hb dX6_does_67 rfl ?_
    refine lv_iload_n hx hb dX6_does_68 rfl (lv_at hl 3 rfl) ?_
    refine lv_imul hx hb dX6_does_69 ?_
    refine lv_iconst (v := 3) hx hb dX6_does_70 rfl ?_
    refine lv_iadd hx hb dX6_does_71 ?_
    refine va_iald hx hb hK hP 18 0 rfl rfl (xd5j hp1 (by decide) (by decide)) dX6_does_72 ?_
    refine lv_aload_n hx hb dX6_does_73 rfl (lv_at hl 2 rfl) ?_
    refine va_get (D := xD E) (ci := 6) (v := .ref (a 18)) (C := RX6) (T := TX6) (N := 28) hx hb hts (by decide +kernel) hown hK hP 0 rfl rfl 26 (by decide) (hts (.fieldLink RX6 64 "RailOffsetsModel" "clauses" "[I") (by decide +kernel)) (fun _ h => h) rfl dX6_does_74 ?_
    refine lv_iconst (v := 5) hx hb dX6_does_77 rfl ?_
    refine lv_iload_n hx hb dX6_does_78 rfl (lv_at hl 3 rfl) ?_
    refine lv_imul hx hb dX6_does_79 ?_
    refine lv_iconst (v := 4) hx hb dX6_does_80 rfl ?_
    refine lv_iadd hx hb dX6_does_81 ?_
    refine va_iald hx hb hK hP 18 0 rfl rfl (xd5j hp1 (by decide) (by decide)) dX6_does_82 ?_
    refine xMdV (nL := 4) ⟨hx, hb, hml, hown, hts⟩ (c_X6_piece l E a u (u.1 18 ((5 * p1) + 1).toNatClampNeg) (u.1 18 ((5 * p1) + 2).toNatClampNeg) (u.1 18 ((5 * p1) + 3).toNatClampNeg) (u.1 18 ((5 * p1) + 4).toNatClampNeg) (hp0) hL) (cwV 4 hts gX6_does_X6_piece rfl rfl rfl ⟨rfl, hd_X6_piece⟩ ⟨(Nat.le_of_ble_eq_true rfl), (Nat.le_of_ble_eq_true rfl)⟩) hF hS hL.2 (fun _ h => h) hP (va_recv (q := (RX6, TX6, 28)) hK hP (ci := 6) rfl (q0 := 0) rfl) rfl hl.1 rfl (Nat.le_of_ble_eq_true rfl) ⟨(Nat.le_of_ble_eq_true rfl), (Nat.le_of_ble_eq_true rfl)⟩ dX6_does_83 (fun H locs hP _ hS => ?_)
    refine W.eq (g2 := F0 m 86 ls [.int ((s_X6_piece u (u.1 18 ((5 * p1) + 1).toNatClampNeg) (u.1 18 ((5 * p1) + 2).toNatClampNeg) (u.1 18 ((5 * p1) + 3).toNatClampNeg) (u.1 18 ((5 * p1) + 4).toNatClampNeg)).1)]) rfl ?_
    refine lv_if_lt (tgt := 93) hx hb dX6_does_86 rfl (fun q2 => ?_) (fun q2 => ?_)
    · have hR := hR.trans (if_pos q2)
      refine lv_iconst (v := 0) hx hb dX6_does_93 rfl ?_
      have hR : s_X6_does u p1 = (0, (s_X6_piece u (u.1 18 ((5 * p1) + 1).toNatClampNeg) (u.1 18 ((5 * p1) + 2).toNatClampNeg) (u.1 18 ((5 * p1) + 3).toNatClampNeg) (u.1 18 ((5 * p1) + 4).toNatClampNeg)).2) := hR
      exact W.zret (v := 0) (ty := .boolean) hx hb hr (xnb (Or.inl rfl)) (fun t ht _ => by rw [hR]; dsimp only; exact ⟨⟨rfl, by rw [ht]; exact hP⟩, hS.F ht⟩) hS.2.2 dX6_does_94
    · have hR := hR.trans (if_neg q2)
      refine lv_iconst (v := 1) hx hb dX6_does_89 rfl ?_
      refine lv_goto (tgt := 94) hx hb dX6_does_90 rfl ?_
      have hR : s_X6_does u p1 = (1, (s_X6_piece u (u.1 18 ((5 * p1) + 1).toNatClampNeg) (u.1 18 ((5 * p1) + 2).toNatClampNeg) (u.1 18 ((5 * p1) + 3).toNatClampNeg) (u.1 18 ((5 * p1) + 4).toNatClampNeg)).2) := hR
      exact W.zret (v := 1) (ty := .boolean) hx hb hr (xnb (Or.inr rfl)) (fun t ht _ => by rw [hR]; dsimp only; exact ⟨⟨rfl, by rw [ht]; exact hP⟩, hS.F ht⟩) hS.2.2 dX6_does_94
  have hR := hR.trans (if_neg q1)
  by_cases q3 : (u.1 18 (5 * p1).toNatClampNeg) = 1
  · have hR := hR.trans (if_pos q3)
    refine lv_tableIn (tgt := 95) (off := 65) hx hb dX6_does_30 (by rw [q3]; decide) (by rw [q3]; decide) (by rw [q3]; rfl) rfl ?_
    refine lv_aload_n hx hb dX6_does_95 rfl (lv_at hl 2 rfl) ?_
    refine lv_iload_n hx hb dX6_does_96 rfl (lv_at hl 1 rfl) ?_
    refine lv_iconst (v := 1) hx hb dX6_does_97 rfl ?_
    refine lv_iload_n hx hb dX6_does_98 rfl (lv_at hl 0 rfl) ?_
    refine xMdV (nL := 4) ⟨hx, hb, hml, hown, hts⟩ (c_X6_set l E a u (u.1 18 ((5 * p1) + 1).toNatClampNeg) 1 (u.1 18 ((5 * p1) + 2).toNatClampNeg) (hp0) hL) (cwV 3 hts gX6_does_X6_set rfl rfl rfl ⟨rfl, hd_X6_set⟩ ⟨(Nat.le_of_ble_eq_true rfl), (Nat.le_of_ble_eq_true rfl)⟩) hF hS hL.2 (fun _ h => h) hP (va_recv (q := (RX6, TX6, 28)) hK hP (ci := 6) rfl (q0 := 0) rfl) rfl hl.1 rfl (Nat.le_of_ble_eq_true rfl) ⟨(Nat.le_of_ble_eq_true rfl), (Nat.le_of_ble_eq_true rfl)⟩ dX6_does_99 (fun H locs hP _ hS => ?_)
    refine W.eq (g2 := F0 m 102 ls [.int ((s_X6_set u (u.1 18 ((5 * p1) + 1).toNatClampNeg) 1 (u.1 18 ((5 * p1) + 2).toNatClampNeg)).1)]) rfl ?_
    refine lv_sipush (v := (-1000)) hx hb dX6_does_102 rfl ?_
    refine lv_icmp_eq (tgt := 112) hx hb dX6_does_105 rfl (fun q4 => ?_) (fun q4 => ?_)
    · have hR := hR.trans (if_pos q4)
      refine lv_iconst (v := 0) hx hb dX6_does_112 rfl ?_
      have hR : s_X6_does u p1 = (0, (s_X6_set u (u.1 18 ((5 * p1) + 1).toNatClampNeg) 1 (u.1 18 ((5 * p1) + 2).toNatClampNeg)).2) := hR
      exact W.zret (v := 0) (ty := .boolean) hx hb hr (xnb (Or.inl rfl)) (fun t ht _ => by rw [hR]; dsimp only; exact ⟨⟨rfl, by rw [ht]; exact hP⟩, hS.F ht⟩) hS.2.2 dX6_does_113
    · have hR := hR.trans (if_neg q4)
      refine lv_iconst (v := 1) hx hb dX6_does_108 rfl ?_
      refine lv_goto (tgt := 113) hx hb dX6_does_109 rfl ?_
      have hR : s_X6_does u p1 = (1, (s_X6_set u (u.1 18 ((5 * p1) + 1).toNatClampNeg) 1 (u.1 18 ((5 * p1) + 2).toNatClampNeg)).2) := hR
      exact W.zret (v := 1) (ty := .boolean) hx hb hr (xnb (Or.inr rfl)) (fun t ht _ => by rw [hR]; dsimp only; exact ⟨⟨rfl, by rw [ht]; exact hP⟩, hS.F ht⟩) hS.2.2 dX6_does_113
  have hR := hR.trans (if_neg q3)
  by_cases q5 : (u.1 18 (5 * p1).toNatClampNeg) = 2
  · have hR := hR.trans (if_pos q5)
    refine lv_tableIn (tgt := 114) (off := 84) hx hb dX6_does_30 (by rw [q5]; decide) (by rw [q5]; decide) (by rw [q5]; rfl) rfl ?_
    refine lv_aload_n hx hb dX6_does_114 rfl (lv_at hl 2 rfl) ?_
    refine lv_iload_n hx hb dX6_does_115 rfl (lv_at hl 1 rfl) ?_
    refine lv_iconst (v := 2) hx hb dX6_does_116 rfl ?_
    refine lv_iload_n hx hb dX6_does_117 rfl (lv_at hl 0 rfl) ?_
    refine xMdV (nL := 4) ⟨hx, hb, hml, hown, hts⟩ (c_X6_set l E a u (u.1 18 ((5 * p1) + 1).toNatClampNeg) 2 (u.1 18 ((5 * p1) + 2).toNatClampNeg) (hp0) hL) (cwV 3 hts gX6_does_X6_set rfl rfl rfl ⟨rfl, hd_X6_set⟩ ⟨(Nat.le_of_ble_eq_true rfl), (Nat.le_of_ble_eq_true rfl)⟩) hF hS hL.2 (fun _ h => h) hP (va_recv (q := (RX6, TX6, 28)) hK hP (ci := 6) rfl (q0 := 0) rfl) rfl hl.1 rfl (Nat.le_of_ble_eq_true rfl) ⟨(Nat.le_of_ble_eq_true rfl), (Nat.le_of_ble_eq_true rfl)⟩ dX6_does_118 (fun H locs hP _ hS => ?_)
    refine W.eq (g2 := F0 m 121 ls [.int ((s_X6_set u (u.1 18 ((5 * p1) + 1).toNatClampNeg) 2 (u.1 18 ((5 * p1) + 2).toNatClampNeg)).1)]) rfl ?_
    refine lv_sipush (v := (-1000)) hx hb dX6_does_121 rfl ?_
    refine lv_icmp_eq (tgt := 131) hx hb dX6_does_124 rfl (fun q6 => ?_) (fun q6 => ?_)
    · have hR := hR.trans (if_pos q6)
      refine lv_iconst (v := 0) hx hb dX6_does_131 rfl ?_
      have hR : s_X6_does u p1 = (0, (s_X6_set u (u.1 18 ((5 * p1) + 1).toNatClampNeg) 2 (u.1 18 ((5 * p1) + 2).toNatClampNeg)).2) := hR
      exact W.zret (v := 0) (ty := .boolean) hx hb hr (xnb (Or.inl rfl)) (fun t ht _ => by rw [hR]; dsimp only; exact ⟨⟨rfl, by rw [ht]; exact hP⟩, hS.F ht⟩) hS.2.2 dX6_does_132
    · have hR := hR.trans (if_neg q6)
      refine lv_iconst (v := 1) hx hb dX6_does_127 rfl ?_
      refine lv_goto (tgt := 132) hx hb dX6_does_128 rfl ?_
      have hR : s_X6_does u p1 = (1, (s_X6_set u (u.1 18 ((5 * p1) + 1).toNatClampNeg) 2 (u.1 18 ((5 * p1) + 2).toNatClampNeg)).2) := hR
      exact W.zret (v := 1) (ty := .boolean) hx hb hr (xnb (Or.inr rfl)) (fun t ht _ => by rw [hR]; dsimp only; exact ⟨⟨rfl, by rw [ht]; exact hP⟩, hS.F ht⟩) hS.2.2 dX6_does_132
  have hR := hR.trans (if_neg q5)
  by_cases q7 : (u.1 18 (5 * p1).toNatClampNeg) = 3
  · have hR := hR.trans (if_pos q7)
    refine lv_tableIn (tgt := 133) (off := 103) hx hb dX6_does_30 (by rw [q7]; decide) (by rw [q7]; decide) (by rw [q7]; rfl) rfl ?_
    refine lv_aload_n hx hb dX6_does_133 rfl (lv_at hl 2 rfl) ?_
    refine lv_iconst (v := 5) hx hb dX6_does_134 rfl ?_
    refine lv_iload_n hx hb dX6_does_135 rfl (lv_at hl 1 rfl) ?_
    refine xMdV (nL := 4) ⟨hx, hb, hml, hown, hts⟩ (c_X6_rule_ l E a u 5 (u.1 18 ((5 * p1) + 1).toNatClampNeg) hL) (cwV 2 hts gX6_does_X6_rule_ rfl rfl rfl ⟨rfl, hd_X6_rule_⟩ ⟨(Nat.le_of_ble_eq_true rfl), (Nat.le_of_ble_eq_true rfl)⟩) hF hS hL.2 (fun _ h => h) hP (va_recv (q := (RX6, TX6, 28)) hK hP (ci := 6) rfl (q0 := 0) rfl) rfl hl.1 rfl (Nat.le_of_ble_eq_true rfl) ⟨(Nat.le_of_ble_eq_true rfl), (Nat.le_of_ble_eq_true rfl)⟩ dX6_does_136 (fun H locs hP _ hS => ?_)
    refine W.eq (g2 := F0 m 139 ls [.long ((s_X6_rule_ u 5 (u.1 18 ((5 * p1) + 1).toNatClampNeg)).1)]) rfl ?_
    refine lv_ldc2 (v := xNO) hx hb hown (hts (.constantLong RX6 125 (-9223372036854775808)) (by decide +kernel)) dX6_does_139 ?_
    refine W.lcmp hx hb dX6_does_142 ?_
    refine lv_if_eq (tgt := 150) hx hb dX6_does_143 rfl (fun q8 => ?_) (fun q8 => ?_)
    · have hR := hR.trans (if_pos q8)
      refine lv_iconst (v := 0) hx hb dX6_does_150 rfl ?_
      have hR : s_X6_does u p1 = (0, (s_X6_rule_ u 5 (u.1 18 ((5 * p1) + 1).toNatClampNeg)).2) := hR
      exact W.zret (v := 0) (ty := .boolean) hx hb hr (xnb (Or.inl rfl)) (fun t ht _ => by rw [hR]; dsimp only; exact ⟨⟨rfl, by rw [ht]; exact hP⟩, hS.F ht⟩) hS.2.2 dX6_does_151
    · have hR := hR.trans (if_neg q8)
      refine lv_iconst (v := 1) hx hb dX6_does_146 rfl ?_
      refine lv_goto (tgt := 151) hx hb dX6_does_147 rfl ?_
      have hR : s_X6_does u p1 = (1, (s_X6_rule_ u 5 (u.1 18 ((5 * p1) + 1).toNatClampNeg)).2) := hR
      exact W.zret (v := 1) (ty := .boolean) hx hb hr (xnb (Or.inr rfl)) (fun t ht _ => by rw [hR]; dsimp only; exact ⟨⟨rfl, by rw [ht]; exact hP⟩, hS.F ht⟩) hS.2.2 dX6_does_151
  have hR := hR.trans (if_neg q7)
  refine lv_tableOut (tgt := 152) hx hb dX6_does_30 (xsw (u.1 18 (5 * p1).toNatClampNeg) (fun j h1 h2 h3 => by
    have h9 : j = 0 ∨ j = 1 ∨ j = 2 ∨ j = 3 ∨ False := by omega
    rcases h9 with rfl | rfl | rfl | rfl | h9
    · exact q1 (Int32.toInt_inj.mp h3)
    · exact q3 (Int32.toInt_inj.mp h3)
    · exact q5 (Int32.toInt_inj.mp h3)
    · exact q7 (Int32.toInt_inj.mp h3)
    · exact h9)) rfl ?_
  refine lv_aload_n hx hb dX6_does_152 rfl (lv_at hl 2 rfl) ?_
  refine xMdV (nL := 4) ⟨hx, hb, hml, hown, hts⟩ (c_X6_drop l E a u  hL) (cwV 0 hts gX6_does_X6_drop rfl rfl rfl ⟨rfl, hd_X6_drop⟩ ⟨(Nat.le_of_ble_eq_true rfl), (Nat.le_of_ble_eq_true rfl)⟩) hF hS hL.2 (fun _ h => h) hP (va_recv (q := (RX6, TX6, 28)) hK hP (ci := 6) rfl (q0 := 0) rfl) rfl hl.1 rfl (Nat.le_of_ble_eq_true rfl) ⟨(Nat.le_of_ble_eq_true rfl), (Nat.le_of_ble_eq_true rfl)⟩ dX6_does_153 (fun H locs hP _ hS => ?_)
  refine W.eq (g2 := F0 m 156 ls [.int ((s_X6_drop u).1)]) rfl ?_
  refine lv_if_lt (tgt := 163) hx hb dX6_does_156 rfl (fun q9 => ?_) (fun q9 => ?_)
  · have hR := hR.trans (if_pos q9)
    refine lv_iconst (v := 0) hx hb dX6_does_163 rfl ?_
    have hR : s_X6_does u p1 = (0, (s_X6_drop u).2) := hR
    exact W.zret (v := 0) (ty := .boolean) hx hb hr (xnb (Or.inl rfl)) (fun t ht _ => by rw [hR]; dsimp only; exact ⟨⟨rfl, by rw [ht]; exact hP⟩, hS.F ht⟩) hS.2.2 dX6_does_164
  · have hR := hR.trans (if_neg q9)
    refine lv_iconst (v := 1) hx hb dX6_does_159 rfl ?_
    refine lv_goto (tgt := 164) hx hb dX6_does_160 rfl ?_
    have hR : s_X6_does u p1 = (1, (s_X6_drop u).2) := hR
    exact W.zret (v := 1) (ty := .boolean) hx hb hr (xnb (Or.inr rfl)) (fun t ht _ => by rw [hR]; dsimp only; exact ⟨⟨rfl, by rw [ht]; exact hP⟩, hS.F ht⟩) hS.2.2 dX6_does_164
theorem xdo_k (u : xU) (k : Int32) : xK1 u (s_X6_does u k).2 := by
  unfold s_X6_does
  split
  · split <;> (dsimp only; exact xpc_k _ _ _ _ _)
  · split
    · split <;> (dsimp only; exact xse_k _ _ _ _)
    · split
      · split <;> (dsimp only; exact xse_k _ _ _ _)
      · split
        · split <;> (dsimp only; exact xru_k _ _ _)
        · split <;> (dsimp only; exact xdr_k _)
theorem xdo_w {u : xU} (h : XW u) (k : Int32) : XW (s_X6_does u k).2 := by
  unfold s_X6_does
  split
  · split <;> (dsimp only; exact xpc_w h _ _ _ _)
  · split
    · split <;> (dsimp only; exact xse_w h _ _ _)
    · split
      · split <;> (dsimp only; exact xse_w h _ _ _)
      · split
        · split <;> (dsimp only; exact xru_w h _ _)
        · split <;> (dsimp only; exact xdr_w h)
theorem xdo_14 {k m : Int32} (h0 : ¬ k < 0) (hm : m.toInt ≤ 15) (q : ¬ m ≤ k) : 0 ≤ k.toInt ∧ k.toInt ≤ 14 := by
  rw [fa_le] at q
  exact ⟨xge0 h0, by omega⟩
