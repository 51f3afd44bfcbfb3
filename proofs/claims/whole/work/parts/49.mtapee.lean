def s_X6_wordHere_L75 (K : Int32 → Int32 × xU) : Nat → xU → Int32 → Int32 → Int32 → Int32 × xU
  | 0, u, _, _, _ => (0, u)
  | n + 1, u, x1, x2, x3 =>
    if (u.2 5) ≤ x3 then
      if x2 = 0 then
        K (x1 + 1)
      else
        (x1, u)
    else
      if x2 = 0 then
        if x2 = 0 then
          K (x1 + 1)
        else
          (x1, u)
      else
        s_X6_wordHere_L75 K n u x1 (if (u.1 14 x3.toNatClampNeg) = (u.1 15 (((u.1 16 x1.toNatClampNeg) + x3) - (u.2 6)).toNatClampNeg) then 1 else 0) (x3 + 1)
def s_X6_wordHere_L32 : Nat → xU → Int32 → Int32 × xU
  | 0, u, _ => (0, u)
  | n + 1, u, x1 =>
    if 5 ≤ x1 then
      (13, u)
    else
      s_X6_wordHere_L75 (fun x1 => s_X6_wordHere_L32 n u x1) (((u.2 5).toInt - (u.2 6).toInt).toNat + 1) u x1 (if ((u.2 5) - (u.2 6)) = ((u.1 16 (x1 + 1).toNatClampNeg) - (u.1 16 x1.toNatClampNeg)) then 1 else 0) (u.2 6)
def s_X6_wordHere_L0 : Nat → xU → Int32 × xU
  | 0, u => (0, u)
  | n + 1, u =>
    if (s_X6_in u ((s_X6_here u).toInt64) 97 122) = 0 then
      s_X6_wordHere_L32 (((5 : Int32).toInt - (0 : Int32).toInt).toNat + 1) u 0
    else
      s_X6_wordHere_L0 n (uZ u 5 ((u.2 5) + 1))
def s_X6_wordHere (u : xU) : Int32 × xU :=
  s_X6_wordHere_L0 (((u.2 4).toInt - (u.2 5).toInt).toNat + 1) u
abbrev rm_X6_wordHere : Room := { frames := 1, cells := 0, slots := 0, locals := 25 }
set_option maxHeartbeats 8000000 in
set_option maxRecDepth 100000 in
theorem c_X6_wordHere (l : Launch) (E : xG) (a : Nat → Nat) (u : xU)  (hp0 : XTw u) (hL : xOK E (LM a)) : xMd l E yX6_wordHere wsX6_wordHere rm_X6_wordHere (LM a) [.ref (a 0)] (wM E a u) (some (.int ((s_X6_wordHere u).1))) (wM E a ((s_X6_wordHere u).2)) := by
  refine xMd.of (cc := cX6_wordHere) (maxL := 4) (ret := (some .int)) (by decide) rfl (Nat.le_of_ble_eq_true rfl) ?_
  intro p e s m below meth c ls hAt hF hP hS hl
  obtain ⟨hx, hb, hr, hml, hown, hts, hlocks, -⟩ := hAt
  have hown : s.vm.findClass RX6 = some m.cls := hown
  have hl : lv_has ls 4 [(0, .ref (a 0))] := hl
  have hK := hF.1
  have hA := hL.2
  change W p l e rm_X6_wordHere s m ([.ref (a 0)] : List Value).toArray below meth c s.heap [] 0 0 (xQmd E below (LM a) (some (.int ((s_X6_wordHere u).1))) (wM E a ((s_X6_wordHere u).2)) ([.ref (a 0)] : List Value).toArray s) _
  have hS : va_S (· ∈ LM a) s.heap s.heap [] := hS
  have hR : s_X6_wordHere u = s_X6_wordHere u := rfl
  have L0 : ∀ (n0 : Nat) (u0 : xU) (H : Heap) (locs : List Loc) (ls : Array Slot), (XTw u0) → ((u0.2 4).toInt - (u0.2 5).toInt).toNat < n0 → s_X6_wordHere u = s_X6_wordHere_L0 n0 u0 → lv_has ls 4 [(0, .ref (a 0))] → va_P (xD E) vwCl (wM E a u0) H → va_S (· ∈ LM a) s.heap H locs → W p l e rm_X6_wordHere s m ([.ref (a 0)] : List Value).toArray below meth c H locs 0 0 (xQmd E below (LM a) (some (.int ((s_X6_wordHere u).1))) (wM E a ((s_X6_wordHere u).2)) ([.ref (a 0)] : List Value).toArray s) (F0 m 0 ls []) := by
    intro n0
    induction n0 with
    | zero => intro u0 H locs ls hI0 hM0 hR hl hP hS; exact absurd hM0 (Nat.not_lt_zero _)
    | succ n0 ih0 =>
      intro u0 H locs ls hI0 hM0 hR hl hP hS
      refine lv_aload_n hx hb dX6_wordHere_0 rfl (lv_at hl 0 rfl) ?_
      refine xRoV (nL := 4) ⟨hx, hb, hml, hown, hts⟩ (c_X6_here l E a u0  (hI0.1)) (cwV 0 hts gX6_wordHere_X6_here rfl rfl rfl ⟨rfl, hd_X6_here⟩ ⟨(Nat.le_of_ble_eq_true rfl), (Nat.le_of_ble_eq_true rfl)⟩) hF hS hA hP (va_recv (q := (RX6, TX6, 28)) hK hP (ci := 6) rfl (q0 := 0) rfl) rfl hl.1 rfl (Nat.le_of_ble_eq_true rfl) ⟨(Nat.le_of_ble_eq_true rfl), (Nat.le_of_ble_eq_true rfl)⟩ dX6_wordHere_1 ?_
      refine W.eq (g2 := F0 m 4 ls [.int (s_X6_here u0)]) rfl ?_
      refine lv_i2l hx hb dX6_wordHere_4 rfl ?_
      refine lv_ldc2 (v := 97) hx hb hown (hts (.constantLong RX6 251 (97)) (by decide +kernel)) dX6_wordHere_5 ?_
      refine lv_ldc2 (v := 122) hx hb hown (hts (.constantLong RX6 253 (122)) (by decide +kernel)) dX6_wordHere_8 ?_
      refine xRoS (nL := 4) ⟨hx, hb, hml, hown, hts⟩ (c_X6_in l E a u0 ((s_X6_here u0).toInt64) 97 122) (va_cwS 3 hts gX6_wordHere_X6_in rfl rfl rfl hd_X6_in ⟨(Nat.le_of_ble_eq_true rfl), (Nat.le_of_ble_eq_true rfl)⟩) hF hS hA hP rfl hl.1 rfl (Nat.le_of_ble_eq_true rfl) ⟨(Nat.le_of_ble_eq_true rfl), (Nat.le_of_ble_eq_true rfl)⟩ dX6_wordHere_11 ?_
      refine W.eq (g2 := F0 m 14 ls [.int (s_X6_in u0 ((s_X6_here u0).toInt64) 97 122)]) rfl ?_
      refine lv_if_eq (tgt := 30) hx hb dX6_wordHere_14 rfl (fun q1 => ?_) (fun q1 => ?_)
      · have hR := hR.trans (if_pos q1)
        refine lv_iconst (v := 0) hx hb dX6_wordHere_30 rfl ?_
        refine lv_istore_n (lv' := [(1, .int 0), (0, .ref (a 0))]) hx hb dX6_wordHere_31 rfl hl (by decide) rfl (fun ls hl => ?_)
        have L32 : ∀ (n32 : Nat) (x1 : Int32) (H : Heap) (locs : List Loc) (ls : Array Slot), (¬ x1 < 0) → (XTw u0) → ((5 : Int32).toInt - x1.toInt).toNat < n32 → s_X6_wordHere u = s_X6_wordHere_L32 n32 u0 x1 → lv_has ls 4 [(1, .int x1), (0, .ref (a 0))] → va_P (xD E) vwCl (wM E a u0) H → va_S (· ∈ LM a) s.heap H locs → W p l e rm_X6_wordHere s m ([.ref (a 0)] : List Value).toArray below meth c H locs 0 0 (xQmd E below (LM a) (some (.int ((s_X6_wordHere u).1))) (wM E a ((s_X6_wordHere u).2)) ([.ref (a 0)] : List Value).toArray s) (F0 m 32 ls []) := by
          intro n32
          induction n32 with
          | zero => intro x1 H locs ls hI0 hI1 hM32 hR hl hP hS; exact absurd hM32 (Nat.not_lt_zero _)
          | succ n32 ih32 =>
            intro x1 H locs ls hI0 hI1 hM32 hR hl hP hS
            refine lv_iload_n hx hb dX6_wordHere_32 rfl (lv_at hl 0 rfl) ?_
            refine lv_iconst (v := 5) hx hb dX6_wordHere_33 rfl ?_
            refine lv_icmp_ge (tgt := 138) hx hb dX6_wordHere_34 rfl (fun q2 => ?_) (fun q2 => ?_)
            · have hR := hR.trans (if_pos q2)
              refine lv_bipush (v := 13) hx hb dX6_wordHere_138 rfl ?_
              have hR : s_X6_wordHere u = (13, u0) := hR
              exact W.iret (v := 13) hx hb hr (fun t ht _ => by rw [hR]; dsimp only; exact ⟨⟨rfl, by rw [ht]; exact hP⟩, hS.F ht⟩) hS.2.2 dX6_wordHere_140
            · have hR := hR.trans (if_neg q2)
              refine lv_aload_n hx hb dX6_wordHere_37 rfl (lv_at hl 1 rfl) ?_
              refine va_get (D := xD E) (ci := 6) (v := .int (u0.2 5)) (C := RX6) (T := TX6) (N := 28) hx hb hts (by decide +kernel) hown hK hP 0 rfl rfl 22 (by decide) (hts (.fieldLink RX6 245 "RailOffsetsModel" "at" "I") (by decide +kernel)) (fun _ h => h) rfl dX6_wordHere_38 ?_
              refine lv_aload_n hx hb dX6_wordHere_41 rfl (lv_at hl 1 rfl) ?_
              refine va_get (D := xD E) (ci := 6) (v := .int (u0.2 6)) (C := RX6) (T := TX6) (N := 28) hx hb hts (by decide +kernel) hown hK hP 0 rfl rfl 23 (by decide) (hts (.fieldLink RX6 255 "RailOffsetsModel" "begun" "I") (by decide +kernel)) (fun _ h => h) rfl dX6_wordHere_42 ?_
              refine lv_isub hx hb dX6_wordHere_45 ?_
              refine lv_aload_n hx hb dX6_wordHere_46 rfl (lv_at hl 1 rfl) ?_
              refine va_get (D := xD E) (ci := 6) (v := .ref (a 16)) (C := RX6) (T := TX6) (N := 28) hx hb hts (by decide +kernel) hown hK hP 0 rfl rfl 20 (by decide) (hts (.fieldLink RX6 58 "RailOffsetsModel" "begins" "[I") (by decide +kernel)) (fun _ h => h) rfl dX6_wordHere_47 ?_
              refine lv_iload_n hx hb dX6_wordHere_50 rfl (lv_at hl 0 rfl) ?_
              refine lv_iconst (v := 1) hx hb dX6_wordHere_51 rfl ?_
              refine lv_iadd hx hb dX6_wordHere_52 ?_
              refine va_iald hx hb hK hP 16 0 rfl rfl ((xb6 hI0 q2).2) dX6_wordHere_53 ?_
              refine lv_aload_n hx hb dX6_wordHere_54 rfl (lv_at hl 1 rfl) ?_
              refine va_get (D := xD E) (ci := 6) (v := .ref (a 16)) (C := RX6) (T := TX6) (N := 28) hx hb hts (by decide +kernel) hown hK hP 0 rfl rfl 20 (by decide) (hts (.fieldLink RX6 58 "RailOffsetsModel" "begins" "[I") (by decide +kernel)) (fun _ h => h) rfl dX6_wordHere_55 ?_
              refine lv_iload_n hx hb dX6_wordHere_58 rfl (lv_at hl 0 rfl) ?_
              refine va_iald hx hb hK hP 16 0 rfl rfl ((xb6 hI0 q2).1) dX6_wordHere_59 ?_
              refine lv_isub hx hb dX6_wordHere_60 ?_
              have J3 : W p l e rm_X6_wordHere s m ([.ref (a 0)] : List Value).toArray below meth c H locs 0 0 (xQmd E below (LM a) (some (.int ((s_X6_wordHere u).1))) (wM E a ((s_X6_wordHere u).2)) ([.ref (a 0)] : List Value).toArray s) (F0 m 69 ls [.int (if ((u0.2 5) - (u0.2 6)) = ((u0.1 16 (x1 + 1).toNatClampNeg) - (u0.1 16 x1.toNatClampNeg)) then 1 else 0)]) := by
                refine lv_istore_n (lv' := [(2, .int (if ((u0.2 5) - (u0.2 6)) = ((u0.1 16 (x1 + 1).toNatClampNeg) - (u0.1 16 x1.toNatClampNeg)) then 1 else 0)), (1, .int x1), (0, .ref (a 0))]) hx hb dX6_wordHere_69 rfl hl (by decide) rfl (fun ls hl => ?_)
                refine lv_aload_n hx hb dX6_wordHere_70 rfl (lv_at hl 2 rfl) ?_
                refine va_get (D := xD E) (ci := 6) (v := .int (u0.2 6)) (C := RX6) (T := TX6) (N := 28) hx hb hts (by decide +kernel) hown hK hP 0 rfl rfl 23 (by decide) (hts (.fieldLink RX6 255 "RailOffsetsModel" "begun" "I") (by decide +kernel)) (fun _ h => h) rfl dX6_wordHere_71 ?_
                refine lv_istore_n (lv' := [(3, .int (u0.2 6)), (2, .int (if ((u0.2 5) - (u0.2 6)) = ((u0.1 16 (x1 + 1).toNatClampNeg) - (u0.1 16 x1.toNatClampNeg)) then 1 else 0)), (1, .int x1), (0, .ref (a 0))]) hx hb dX6_wordHere_74 rfl hl (by decide) rfl (fun ls hl => ?_)
                have L75 : ∀ (n75 : Nat) (x2 : Int32) (x3 : Int32) (H : Heap) (locs : List Loc) (ls : Array Slot), (XWk u0 x1 x2 x3) → ((u0.2 5).toInt - x3.toInt).toNat < n75 → s_X6_wordHere u = s_X6_wordHere_L75 (fun x1 => s_X6_wordHere_L32 n32 u0 x1) n75 u0 x1 x2 x3 → lv_has ls 4 [(3, .int x3), (2, .int x2), (1, .int x1), (0, .ref (a 0))] → va_P (xD E) vwCl (wM E a u0) H → va_S (· ∈ LM a) s.heap H locs → W p l e rm_X6_wordHere s m ([.ref (a 0)] : List Value).toArray below meth c H locs 0 0 (xQmd E below (LM a) (some (.int ((s_X6_wordHere u).1))) (wM E a ((s_X6_wordHere u).2)) ([.ref (a 0)] : List Value).toArray s) (F0 m 75 ls []) := by
                  intro n75
                  induction n75 with
                  | zero => intro x2 x3 H locs ls hI0 hM75 hR hl hP hS; exact absurd hM75 (Nat.not_lt_zero _)
                  | succ n75 ih75 =>
                    intro x2 x3 H locs ls hI0 hM75 hR hl hP hS
                    refine lv_iload_n hx hb dX6_wordHere_75 rfl (lv_at hl 0 rfl) ?_
                    refine lv_aload_n hx hb dX6_wordHere_76 rfl (lv_at hl 3 rfl) ?_
                    refine va_get (D := xD E) (ci := 6) (v := .int (u0.2 5)) (C := RX6) (T := TX6) (N := 28) hx hb hts (by decide +kernel) hown hK hP 0 rfl rfl 22 (by decide) (hts (.fieldLink RX6 245 "RailOffsetsModel" "at" "I") (by decide +kernel)) (fun _ h => h) rfl dX6_wordHere_77 ?_
                    refine lv_icmp_ge (tgt := 126) hx hb dX6_wordHere_80 rfl (fun q5 => ?_) (fun q5 => ?_)
                    · have hR := hR.trans (if_pos q5)
                      refine lv_iload_n hx hb dX6_wordHere_126 rfl (lv_at hl 1 rfl) ?_
                      refine lv_if_eq (tgt := 132) hx hb dX6_wordHere_127 rfl (fun q6 => ?_) (fun q6 => ?_)
                      · have hR := hR.trans (if_pos q6)
                        refine lv_iinc (k := 2) (v := x1 + 1) (lv' := [(1, .int (x1 + 1)), (3, .int x3), (2, .int x2), (0, .ref (a 0))]) hx hb dX6_wordHere_132 hl rfl rfl (by decide) rfl (fun ls hl => ?_)
                        refine lv_goto (tgt := 32) hx hb dX6_wordHere_135 rfl ?_
                        exact ih32 (x1 + 1) _ _ _ (xwkn hI0) (hI0.1) (Nat.lt_of_lt_of_le (xupc q2) (Nat.le_of_lt_succ hM32)) hR (lv_sub hl [0, 3] rfl) hP hS
                      · have hR := hR.trans (if_neg q6)
                        refine lv_iload_n hx hb dX6_wordHere_130 rfl (lv_at hl 2 rfl) ?_
                        have hR : s_X6_wordHere u = (x1, u0) := hR
                        exact W.iret (v := x1) hx hb hr (fun t ht _ => by rw [hR]; dsimp only; exact ⟨⟨rfl, by rw [ht]; exact hP⟩, hS.F ht⟩) hS.2.2 dX6_wordHere_131
                    · have hR := hR.trans (if_neg q5)
                      refine lv_iload_n hx hb dX6_wordHere_83 rfl (lv_at hl 1 rfl) ?_
                      refine lv_if_eq (tgt := 126) hx hb dX6_wordHere_84 rfl (fun q7 => ?_) (fun q7 => ?_)
                      · have hR := hR.trans (if_pos q7)
                        refine lv_iload_n hx hb dX6_wordHere_126 rfl (lv_at hl 1 rfl) ?_
                        refine lv_if_eq (tgt := 132) hx hb dX6_wordHere_127 rfl (fun q8 => ?_) (fun q8 => ?_)
                        · have hR := hR.trans (if_pos q8)
                          refine lv_iinc (k := 2) (v := x1 + 1) (lv' := [(1, .int (x1 + 1)), (3, .int x3), (2, .int x2), (0, .ref (a 0))]) hx hb dX6_wordHere_132 hl rfl rfl (by decide) rfl (fun ls hl => ?_)
                          refine lv_goto (tgt := 32) hx hb dX6_wordHere_135 rfl ?_
                          exact ih32 (x1 + 1) _ _ _ (xwkn hI0) (hI0.1) (Nat.lt_of_lt_of_le (xupc q2) (Nat.le_of_lt_succ hM32)) hR (lv_sub hl [0, 3] rfl) hP hS
                        · have hR := hR.trans (if_neg q8)
                          refine lv_iload_n hx hb dX6_wordHere_130 rfl (lv_at hl 2 rfl) ?_
                          have hR : s_X6_wordHere u = (x1, u0) := hR
                          exact W.iret (v := x1) hx hb hr (fun t ht _ => by rw [hR]; dsimp only; exact ⟨⟨rfl, by rw [ht]; exact hP⟩, hS.F ht⟩) hS.2.2 dX6_wordHere_131
                      · have hR := hR.trans (if_neg q7)
                        refine lv_aload_n hx hb dX6_wordHere_87 rfl (lv_at hl 3 rfl) ?_
                        refine va_get (D := xD E) (ci := 6) (v := .ref (a 14)) (C := RX6) (T := TX6) (N := 28) hx hb hts (by decide +kernel) hown hK hP 0 rfl rfl 17 (by decide) (hts (.fieldLink RX6 51 "RailOffsetsModel" "tape" "[I") (by decide +kernel)) (fun _ h => h) rfl dX6_wordHere_88 ?_
                        refine lv_iload_n hx hb dX6_wordHere_91 rfl (lv_at hl 0 rfl) ?_
                        refine va_iald hx hb hK hP 14 0 rfl rfl (xwkt hI0 q5) dX6_wordHere_92 ?_
                        refine lv_aload_n hx hb dX6_wordHere_93 rfl (lv_at hl 3 rfl) ?_
                        refine va_get (D := xD E) (ci := 6) (v := .ref (a 15)) (C := RX6) (T := TX6) (N := 28) hx hb hts (by decide +kernel) hown hK hP 0 rfl rfl 19 (by decide) (hts (.fieldLink RX6 54 "RailOffsetsModel" "letters" "[C") (by decide +kernel)) (fun _ h => h) rfl dX6_wordHere_94 ?_
                        refine lv_aload_n hx hb dX6_wordHere_97 rfl (lv_at hl 3 rfl) ?_
                        refine va_get (D := xD E) (ci := 6) (v := .ref (a 16)) (C := RX6) (T := TX6) (N := 28) hx hb hts (by decide +kernel) hown hK hP 0 rfl rfl 20 (by decide) (hts (.fieldLink RX6 58 "RailOffsetsModel" "begins" "[I") (by decide +kernel)) (fun _ h => h) rfl dX6_wordHere_98 ?_
                        refine lv_iload_n hx hb dX6_wordHere_101 rfl (lv_at hl 2 rfl) ?_
                        refine va_iald hx hb hK hP 16 0 rfl rfl (xwkb hI0) dX6_wordHere_102 ?_
                        refine lv_iload_n hx hb dX6_wordHere_103 rfl (lv_at hl 0 rfl) ?_
                        refine lv_iadd hx hb dX6_wordHere_104 ?_
                        refine lv_aload_n hx hb dX6_wordHere_105 rfl (lv_at hl 3 rfl) ?_
                        refine va_get (D := xD E) (ci := 6) (v := .int (u0.2 6)) (C := RX6) (T := TX6) (N := 28) hx hb hts (by decide +kernel) hown hK hP 0 rfl rfl 23 (by decide) (hts (.fieldLink RX6 255 "RailOffsetsModel" "begun" "I") (by decide +kernel)) (fun _ h => h) rfl dX6_wordHere_106 ?_
                        refine lv_isub hx hb dX6_wordHere_109 ?_
                        refine va_cald hx hb hK hP 15 2 rfl rfl (xwkl hI0 q5 q7) dX6_wordHere_110 ?_
                        have J9 : W p l e rm_X6_wordHere s m ([.ref (a 0)] : List Value).toArray below meth c H locs 0 0 (xQmd E below (LM a) (some (.int ((s_X6_wordHere u).1))) (wM E a ((s_X6_wordHere u).2)) ([.ref (a 0)] : List Value).toArray s) (F0 m 119 ls [.int (if (u0.1 14 x3.toNatClampNeg) = (u0.1 15 (((u0.1 16 x1.toNatClampNeg) + x3) - (u0.2 6)).toNatClampNeg) then 1 else 0)]) := by
                          refine lv_istore_n (lv' := [(2, .int (if (u0.1 14 x3.toNatClampNeg) = (u0.1 15 (((u0.1 16 x1.toNatClampNeg) + x3) - (u0.2 6)).toNatClampNeg) then 1 else 0)), (3, .int x3), (1, .int x1), (0, .ref (a 0))]) hx hb dX6_wordHere_119 rfl hl (by decide) rfl (fun ls hl => ?_)
                          refine lv_iinc (k := 1) (v := x3 + 1) (lv' := [(3, .int (x3 + 1)), (2, .int (if (u0.1 14 x3.toNatClampNeg) = (u0.1 15 (((u0.1 16 x1.toNatClampNeg) + x3) - (u0.2 6)).toNatClampNeg) then 1 else 0)), (1, .int x1), (0, .ref (a 0))]) hx hb dX6_wordHere_120 hl rfl rfl (by decide) rfl (fun ls hl => ?_)
                          refine lv_goto (tgt := 75) hx hb dX6_wordHere_123 rfl ?_
                          exact ih75 (if (u0.1 14 x3.toNatClampNeg) = (u0.1 15 (((u0.1 16 x1.toNatClampNeg) + x3) - (u0.2 6)).toNatClampNeg) then 1 else 0) (x3 + 1) _ _ _ (xwk1 hI0 q5 q7) (Nat.lt_of_lt_of_le (xupc q5) (Nat.le_of_lt_succ hM75)) hR (lv_sub hl [0, 1, 2, 3] rfl) hP hS
                        refine lv_icmp_ne (tgt := 118) hx hb dX6_wordHere_111 rfl (fun q10 => ?_) (fun q10 => ?_)
                        · refine lv_iconst (v := 0) hx hb dX6_wordHere_118 rfl ?_
                          exact W.eq (congrArg (fun z => F0 m 119 ls [.int z]) (if_neg q10).symm) J9
                        · refine lv_iconst (v := 1) hx hb dX6_wordHere_114 rfl ?_
                          refine lv_goto (tgt := 119) hx hb dX6_wordHere_115 rfl ?_
                          exact W.eq (congrArg (fun z => F0 m 119 ls [.int z]) (if_pos q10).symm) J9
                exact L75 (((u0.2 5).toInt - (u0.2 6).toInt).toNat + 1) (if ((u0.2 5) - (u0.2 6)) = ((u0.1 16 (x1 + 1).toNatClampNeg) - (u0.1 16 x1.toNatClampNeg)) then 1 else 0) (u0.2 6) _ _ ls (xwk0 hI1 hI0 q2) (Nat.lt_succ_self _) hR hl hP hS
              refine lv_icmp_ne (tgt := 68) hx hb dX6_wordHere_61 rfl (fun q4 => ?_) (fun q4 => ?_)
              · refine lv_iconst (v := 0) hx hb dX6_wordHere_68 rfl ?_
                exact W.eq (congrArg (fun z => F0 m 69 ls [.int z]) (if_neg q4).symm) J3
              · refine lv_iconst (v := 1) hx hb dX6_wordHere_64 rfl ?_
                refine lv_goto (tgt := 69) hx hb dX6_wordHere_65 rfl ?_
                exact W.eq (congrArg (fun z => F0 m 69 ls [.int z]) (if_pos q4).symm) J3
        exact L32 (((5 : Int32).toInt - (0 : Int32).toInt).toNat + 1) 0 _ _ ls (by decide) (hI0) (Nat.lt_succ_self _) hR hl hP hS
      · have hR := hR.trans (if_neg q1)
        refine lv_aload_n hx hb dX6_wordHere_17 rfl (lv_at hl 0 rfl) ?_
        refine lv_dup hx hb dX6_wordHere_18 rfl ?_
        refine va_get (D := xD E) (ci := 6) (v := .int (u0.2 5)) (C := RX6) (T := TX6) (N := 28) hx hb hts (by decide +kernel) hown hK hP 0 rfl rfl 22 (by decide) (hts (.fieldLink RX6 245 "RailOffsetsModel" "at" "I") (by decide +kernel)) (fun _ h => h) rfl dX6_wordHere_19 ?_
        refine lv_iconst (v := 1) hx hb dX6_wordHere_22 rfl ?_
        refine lv_iadd hx hb dX6_wordHere_23 ?_
        refine va_put (D := xD E) (ci := 6) (v := .int ((u0.2 5) + 1)) (ty := .int) (C := RX6) (T := TX6) (N := 28) hx hb hts (by decide +kernel) tyX6 tyX6_ok nmX6 hown hK hP (xD_of (ws := wM E a u0) (A := (· ∈ LM a)) hL.1 (fun _ h => h)) hS 0 rfl rfl 22 (by decide) (hts (.fieldLink RX6 245 "RailOffsetsModel" "at" "I") (by decide +kernel)) (fun _ h => h) rfl (by decide +kernel) rfl rfl (Nat.le_of_ble_eq_true rfl) dX6_wordHere_24 (fun H locs hP _ hS => ?_)
        have hP : va_P (xD E) vwCl (wM E a (uZ u0 5 ((u0.2 5) + 1))) H := hP
        refine lv_goto (tgt := 0) hx hb dX6_wordHere_27 rfl ?_
        exact ih0 (uZ u0 5 ((u0.2 5) + 1)) _ _ _ (xtw1 (u := u0) hI0 (xhin (u := u0) q1 (by decide))) (Nat.lt_of_lt_of_le (xtd1 (u := u0) hI0.1 (xhin (u := u0) q1 (by decide))) (Nat.le_of_lt_succ hM0)) hR (lv_sub hl [0] rfl) hP hS
  exact L0 (((u.2 4).toInt - (u.2 5).toInt).toNat + 1) u _ _ ls (hp0) (Nat.lt_succ_self _) hR hl hP hS
