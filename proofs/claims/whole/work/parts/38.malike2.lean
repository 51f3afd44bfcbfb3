theorem xge0 {x : Int32} (h : ¬ x < 0) : 0 ≤ x.toInt := by
  rw [fa_lt, show (0 : Int32).toInt = 0 from rfl] at h
  omega
theorem xpk {i k : Int32} (hk : XP k) (h : ¬ i < 0) (q : ¬ k ≤ i) : XP i := by
  rw [fa_le] at q
  exact ⟨xge0 h, by have := hk.2; omega⟩
theorem xpnn {k : Int32} (h : XP k) : ¬ k + 1 < 0 := by
  have h1 := h.1
  have h2 := h.2
  rw [fa_lt, xinc (by omega), show (0 : Int32).toInt = 0 from rfl]
  omega
def s_X6_alike_L67 (K : Int32 → Int32 → Int32 → Int32) : Nat → xU → Int32 → Int32 → Int32 → Int32 → Int32 → Int32 → Int32
  | 0, _, _, _, _, _, _, _ => 0
  | n + 1, u, x1, x2, x3, x4, x5, x6 =>
    if x4 ≤ x6 then
      K x2 (x3 + (s_X6_bit u x5)) (x4 + 1)
    else
      s_X6_alike_L67 K n u x1 x2 x3 x4 (if x5 = 0 then 0 else if (s_X6_areAlike u x6 x4) = 0 then 1 else 0) (x6 + 1)
def s_X6_alike_L23 : Nat → xU → Int32 → Int32 → Int32 → Int32 → Int32
  | 0, _, _, _, _, _ => 0
  | n + 1, u, x1, x2, x3, x4 =>
    if (u.1 1 (40 : Int32).toNatClampNeg) ≤ x4 then
      if x1 = (-1) then
        x3
      else
        x2
    else
      s_X6_alike_L67 (fun x2 x3 x4 => s_X6_alike_L23 n u x1 x2 x3 x4) ((x4.toInt - (0 : Int32).toInt).toNat + 1) u x1 (x2 ||| (if x1 = (-1) then 0 else if (s_X6_areAlike u x4 x1) = 0 then 0 else (1 : Int32) <<< (x4 &&& 31))) x3 x4 1 0
def s_X6_alike (u : xU) (p1 : Int32) : Int32 :=
  if p1 = (-1) then
    s_X6_alike_L23 (((u.1 1 40).toInt - (0 : Int32).toInt).toNat + 1) u p1 0 0 0
  else
    if (s_X6_isPiece u p1) = 0 then
      (-2)
    else
      s_X6_alike_L23 (((u.1 1 40).toInt - (0 : Int32).toInt).toNat + 1) u p1 0 0 0
abbrev rm_X6_alike : Room := { frames := 2, cells := 0, slots := 0, locals := 46 }
set_option maxHeartbeats 8000000 in
set_option maxRecDepth 100000 in
theorem c_X6_alike (l : Launch) (E : xG) (a : Nat → Nat) (u : xU) (p1 : Int32) (hp0 : XW u) : xRo l E yX6_alike wsX6_alike rm_X6_alike [.ref (a 0), .int p1] (wM E a u) (some (.int (s_X6_alike u p1))) := by
  refine xRo.of (cc := cX6_alike) (maxL := 7) (ret := (some .int)) (by decide) rfl (Nat.le_of_ble_eq_true rfl) ?_
  intro p e s m below meth c ls hAt hF hP hS hl
  obtain ⟨hx, hb, hr, hml, hown, hts, hlocks, -⟩ := hAt
  have hown : s.vm.findClass RX6 = some m.cls := hown
  have hl : lv_has ls 7 [(0, .ref (a 0)), (1, .int p1)] := hl
  have hK := hF.1
  have hA : ∀ q : Nat, (fun _ => False) q → xA0 E q := fun _ h => h.elim
  change W p l e rm_X6_alike s m ([.ref (a 0), .int p1] : List Value).toArray below meth c s.heap [] 0 0 (xQro below (some (.int (s_X6_alike u p1))) ([.ref (a 0), .int p1] : List Value).toArray s) _
  have hR : s_X6_alike u p1 = s_X6_alike u p1 := rfl
  refine lv_iload_n hx hb dX6_alike_0 rfl (lv_at hl 1 rfl) ?_
  refine lv_iconst (v := (-1)) hx hb dX6_alike_1 rfl ?_
  refine lv_icmp_eq (tgt := 16) hx hb dX6_alike_2 rfl (fun q1 => ?_) (fun q1 => ?_)
  · have hR := hR.trans (if_pos q1)
    refine lv_iconst (v := 0) hx hb dX6_alike_16 rfl ?_
    refine lv_istore_n (lv' := [(2, .int 0), (0, .ref (a 0)), (1, .int p1)]) hx hb dX6_alike_17 rfl hl (by decide) rfl (fun ls hl => ?_)
    refine lv_iconst (v := 0) hx hb dX6_alike_18 rfl ?_
    refine lv_istore_n (lv' := [(3, .int 0), (2, .int 0), (0, .ref (a 0)), (1, .int p1)]) hx hb dX6_alike_19 rfl hl (by decide) rfl (fun ls hl => ?_)
    refine lv_iconst (v := 0) hx hb dX6_alike_20 rfl ?_
    refine lv_istore (lv' := [(4, .int 0), (3, .int 0), (2, .int 0), (0, .ref (a 0)), (1, .int p1)]) hx hb dX6_alike_21 hl (by decide) rfl (fun ls hl => ?_)
    have L23 : ∀ (n23 : Nat) (x2 : Int32) (x3 : Int32) (x4 : Int32) (ls : Array Slot), (¬ x4 < 0) → (p1 = (-1) ∨ XP p1) → ((u.1 1 40).toInt - x4.toInt).toNat < n23 → s_X6_alike u p1 = s_X6_alike_L23 n23 u p1 x2 x3 x4 → lv_has ls 7 [(4, .int x4), (3, .int x3), (2, .int x2), (0, .ref (a 0)), (1, .int p1)] → W p l e rm_X6_alike s m ([.ref (a 0), .int p1] : List Value).toArray below meth c s.heap [] 0 0 (xQro below (some (.int (s_X6_alike u p1))) ([.ref (a 0), .int p1] : List Value).toArray s) (F0 m 23 ls []) := by
      intro n23
      induction n23 with
      | zero => intro x2 x3 x4 ls hI0 hI1 hM23 hR hl; exact absurd hM23 (Nat.not_lt_zero _)
      | succ n23 ih23 =>
        intro x2 x3 x4 ls hI0 hI1 hM23 hR hl
        refine lv_iload hx hb dX6_alike_23 (lv_at hl 0 rfl) ?_
        refine lv_aload_n hx hb dX6_alike_25 rfl (lv_at hl 3 rfl) ?_
        refine va_get (D := xD E) (ci := 6) (v := .ref (a 1)) (C := RX6) (T := TX6) (N := 28) hx hb hts (by decide +kernel) hown hK hP 0 rfl rfl 0 (by decide) (hts (.fieldLink RX6 11 "RailOffsetsModel" "now" "[I") (by decide +kernel)) (fun _ h => h) rfl dX6_alike_26 ?_
        refine lv_bipush (v := 40) hx hb dX6_alike_29 rfl ?_
        refine va_iald hx hb hK hP 1 0 rfl rfl (v40) dX6_alike_31 ?_
        refine lv_icmp_ge (tgt := 117) hx hb dX6_alike_32 rfl (fun q2 => ?_) (fun q2 => ?_)
        · have hR := hR.trans (if_pos q2)
          refine lv_iload_n hx hb dX6_alike_117 rfl (lv_at hl 4 rfl) ?_
          refine lv_iconst (v := (-1)) hx hb dX6_alike_118 rfl ?_
          refine lv_icmp_ne (tgt := 126) hx hb dX6_alike_119 rfl (fun q3 => ?_) (fun q3 => ?_)
          · have hR := hR.trans (if_neg q3)
            refine lv_iload_n hx hb dX6_alike_126 rfl (lv_at hl 2 rfl) ?_
            have hR : s_X6_alike u p1 = x2 := hR
            exact W.iret (v := x2) hx hb hr (fun t ht _ => ⟨congrArg (fun z => Outcome.returned (some (Value.int z))) hR.symm, ht⟩) (fun _ h => by cases h) dX6_alike_127
          · have hR := hR.trans (if_pos q3)
            refine lv_iload_n hx hb dX6_alike_122 rfl (lv_at hl 1 rfl) ?_
            refine lv_goto (tgt := 127) hx hb dX6_alike_123 rfl ?_
            have hR : s_X6_alike u p1 = x3 := hR
            exact W.iret (v := x3) hx hb hr (fun t ht _ => ⟨congrArg (fun z => Outcome.returned (some (Value.int z))) hR.symm, ht⟩) (fun _ h => by cases h) dX6_alike_127
        · have hR := hR.trans (if_neg q2)
          refine lv_iload_n hx hb dX6_alike_35 rfl (lv_at hl 2 rfl) ?_
          refine lv_iload_n hx hb dX6_alike_36 rfl (lv_at hl 4 rfl) ?_
          refine lv_iconst (v := (-1)) hx hb dX6_alike_37 rfl ?_
          have J4 : W p l e rm_X6_alike s m ([.ref (a 0), .int p1] : List Value).toArray below meth c s.heap [] 0 0 (xQro below (some (.int (s_X6_alike u p1))) ([.ref (a 0), .int p1] : List Value).toArray s) (F0 m 59 ls [.int (if p1 = (-1) then 0 else if (s_X6_areAlike u x4 p1) = 0 then 0 else (1 : Int32) <<< (x4 &&& 31)), .int x2]) := by
            refine lv_ior hx hb dX6_alike_59 ?_
            refine lv_istore_n (lv' := [(2, .int (x2 ||| (if p1 = (-1) then 0 else if (s_X6_areAlike u x4 p1) = 0 then 0 else (1 : Int32) <<< (x4 &&& 31)))), (4, .int x4), (3, .int x3), (0, .ref (a 0)), (1, .int p1)]) hx hb dX6_alike_60 rfl hl (by decide) rfl (fun ls hl => ?_)
            refine lv_iconst (v := 1) hx hb dX6_alike_61 rfl ?_
            refine lv_istore (lv' := [(5, .int 1), (2, .int (x2 ||| (if p1 = (-1) then 0 else if (s_X6_areAlike u x4 p1) = 0 then 0 else (1 : Int32) <<< (x4 &&& 31)))), (4, .int x4), (3, .int x3), (0, .ref (a 0)), (1, .int p1)]) hx hb dX6_alike_62 hl (by decide) rfl (fun ls hl => ?_)
            refine lv_iconst (v := 0) hx hb dX6_alike_64 rfl ?_
            refine lv_istore (lv' := [(6, .int 0), (5, .int 1), (2, .int (x2 ||| (if p1 = (-1) then 0 else if (s_X6_areAlike u x4 p1) = 0 then 0 else (1 : Int32) <<< (x4 &&& 31)))), (4, .int x4), (3, .int x3), (0, .ref (a 0)), (1, .int p1)]) hx hb dX6_alike_65 hl (by decide) rfl (fun ls hl => ?_)
            have L67 : ∀ (n67 : Nat) (x5 : Int32) (x6 : Int32) (ls : Array Slot), (¬ x6 < 0) → (XP x4) → (p1 = (-1) ∨ XP p1) → (x4.toInt - x6.toInt).toNat < n67 → s_X6_alike u p1 = s_X6_alike_L67 (fun x2 x3 x4 => s_X6_alike_L23 n23 u p1 x2 x3 x4) n67 u p1 (x2 ||| (if p1 = (-1) then 0 else if (s_X6_areAlike u x4 p1) = 0 then 0 else (1 : Int32) <<< (x4 &&& 31))) x3 x4 x5 x6 → lv_has ls 7 [(6, .int x6), (5, .int x5), (2, .int (x2 ||| (if p1 = (-1) then 0 else if (s_X6_areAlike u x4 p1) = 0 then 0 else (1 : Int32) <<< (x4 &&& 31)))), (4, .int x4), (3, .int x3), (0, .ref (a 0)), (1, .int p1)] → W p l e rm_X6_alike s m ([.ref (a 0), .int p1] : List Value).toArray below meth c s.heap [] 0 0 (xQro below (some (.int (s_X6_alike u p1))) ([.ref (a 0), .int p1] : List Value).toArray s) (F0 m 67 ls []) := by
              intro n67
              induction n67 with
              | zero => intro x5 x6 ls hI0 hI1 hI2 hM67 hR hl; exact absurd hM67 (Nat.not_lt_zero _)
              | succ n67 ih67 =>
                intro x5 x6 ls hI0 hI1 hI2 hM67 hR hl
                refine lv_iload hx hb dX6_alike_67 (lv_at hl 0 rfl) ?_
                refine lv_iload hx hb dX6_alike_69 (lv_at hl 3 rfl) ?_
                refine lv_icmp_ge (tgt := 103) hx hb dX6_alike_71 rfl (fun q6 => ?_) (fun q6 => ?_)
                · have hR := hR.trans (if_pos q6)
                  refine lv_iload_n hx hb dX6_alike_103 rfl (lv_at hl 4 rfl) ?_
                  refine lv_iload hx hb dX6_alike_104 (lv_at hl 1 rfl) ?_
                  refine xRoS (nL := 7) ⟨hx, hb, hml, hown, hts⟩ (c_X6_bit l E a u x5) (va_cwS 1 hts gX6_alike_X6_bit rfl rfl rfl hd_X6_bit ⟨(Nat.le_of_ble_eq_true rfl), (Nat.le_of_ble_eq_true rfl)⟩) hF hS hA hP rfl hl.1 rfl (Nat.le_of_ble_eq_true rfl) ⟨(Nat.le_of_ble_eq_true rfl), (Nat.le_of_ble_eq_true rfl)⟩ dX6_alike_106 ?_
                  refine W.eq (g2 := F0 m 109 ls [.int (s_X6_bit u x5), .int x3]) rfl ?_
                  refine lv_iadd hx hb dX6_alike_109 ?_
                  refine lv_istore_n (lv' := [(3, .int (x3 + (s_X6_bit u x5))), (6, .int x6), (5, .int x5), (2, .int (x2 ||| (if p1 = (-1) then 0 else if (s_X6_areAlike u x4 p1) = 0 then 0 else (1 : Int32) <<< (x4 &&& 31)))), (4, .int x4), (0, .ref (a 0)), (1, .int p1)]) hx hb dX6_alike_110 rfl hl (by decide) rfl (fun ls hl => ?_)
                  refine lv_iinc (k := 4) (v := x4 + 1) (lv' := [(4, .int (x4 + 1)), (3, .int (x3 + (s_X6_bit u x5))), (6, .int x6), (5, .int x5), (2, .int (x2 ||| (if p1 = (-1) then 0 else if (s_X6_areAlike u x4 p1) = 0 then 0 else (1 : Int32) <<< (x4 &&& 31)))), (0, .ref (a 0)), (1, .int p1)]) hx hb dX6_alike_111 hl rfl rfl (by decide) rfl (fun ls hl => ?_)
                  refine lv_goto (tgt := 23) hx hb dX6_alike_114 rfl ?_
                  exact ih23 (x2 ||| (if p1 = (-1) then 0 else if (s_X6_areAlike u x4 p1) = 0 then 0 else (1 : Int32) <<< (x4 &&& 31))) (x3 + (s_X6_bit u x5)) (x4 + 1) _ (xpnn hI1) (hI2) (Nat.lt_of_lt_of_le (xupc q2) (Nat.le_of_lt_succ hM23)) hR (lv_sub hl [0, 1, 4, 5, 6] rfl)
                · have hR := hR.trans (if_neg q6)
                  refine lv_iload hx hb dX6_alike_74 (lv_at hl 1 rfl) ?_
                  have J7 : W p l e rm_X6_alike s m ([.ref (a 0), .int p1] : List Value).toArray below meth c s.heap [] 0 0 (xQro below (some (.int (s_X6_alike u p1))) ([.ref (a 0), .int p1] : List Value).toArray s) (F0 m 95 ls [.int (if x5 = 0 then 0 else if (s_X6_areAlike u x6 x4) = 0 then 1 else 0)]) := by
                    refine lv_istore (lv' := [(5, .int (if x5 = 0 then 0 else if (s_X6_areAlike u x6 x4) = 0 then 1 else 0)), (6, .int x6), (2, .int (x2 ||| (if p1 = (-1) then 0 else if (s_X6_areAlike u x4 p1) = 0 then 0 else (1 : Int32) <<< (x4 &&& 31)))), (4, .int x4), (3, .int x3), (0, .ref (a 0)), (1, .int p1)]) hx hb dX6_alike_95 hl (by decide) rfl (fun ls hl => ?_)
                    refine lv_iinc (k := 1) (v := x6 + 1) (lv' := [(6, .int (x6 + 1)), (5, .int (if x5 = 0 then 0 else if (s_X6_areAlike u x6 x4) = 0 then 1 else 0)), (2, .int (x2 ||| (if p1 = (-1) then 0 else if (s_X6_areAlike u x4 p1) = 0 then 0 else (1 : Int32) <<< (x4 &&& 31)))), (4, .int x4), (3, .int x3), (0, .ref (a 0)), (1, .int p1)]) hx hb dX6_alike_97 hl rfl rfl (by decide) rfl (fun ls hl => ?_)
                    refine lv_goto (tgt := 67) hx hb dX6_alike_100 rfl ?_
                    exact ih67 (if x5 = 0 then 0 else if (s_X6_areAlike u x6 x4) = 0 then 1 else 0) (x6 + 1) _ (xup0 hI0 q6) (hI1) (hI2) (Nat.lt_of_lt_of_le (xupc q6) (Nat.le_of_lt_succ hM67)) hR (lv_sub hl [0, 1, 2, 3, 4, 5, 6] rfl)
                  refine lv_if_eq (tgt := 94) hx hb dX6_alike_76 rfl (fun q8 => ?_) (fun q8 => ?_)
                  · refine lv_iconst (v := 0) hx hb dX6_alike_94 rfl ?_
                    exact W.eq (congrArg (fun z => F0 m 95 ls [.int z]) (if_pos q8).symm) J7
                  · refine lv_aload_n hx hb dX6_alike_79 rfl (lv_at hl 5 rfl) ?_
                    refine lv_iload hx hb dX6_alike_80 (lv_at hl 0 rfl) ?_
                    refine lv_iload hx hb dX6_alike_82 (lv_at hl 3 rfl) ?_
                    refine xRoV (nL := 7) ⟨hx, hb, hml, hown, hts⟩ (c_X6_areAlike l E a u x6 x4 (xpk hI1 hI0 q6) (hI1)) (cwV 2 hts gX6_alike_X6_areAlike rfl rfl rfl ⟨rfl, hd_X6_areAlike⟩ ⟨(Nat.le_of_ble_eq_true rfl), (Nat.le_of_ble_eq_true rfl)⟩) hF hS hA hP (va_recv (q := (RX6, TX6, 28)) hK hP (ci := 6) rfl (q0 := 0) rfl) rfl hl.1 rfl (Nat.le_of_ble_eq_true rfl) ⟨(Nat.le_of_ble_eq_true rfl), (Nat.le_of_ble_eq_true rfl)⟩ dX6_alike_84 ?_
                    refine W.eq (g2 := F0 m 87 ls [.int (s_X6_areAlike u x6 x4)]) rfl ?_
                    have J9 : W p l e rm_X6_alike s m ([.ref (a 0), .int p1] : List Value).toArray below meth c s.heap [] 0 0 (xQro below (some (.int (s_X6_alike u p1))) ([.ref (a 0), .int p1] : List Value).toArray s) (F0 m 95 ls [.int (if (s_X6_areAlike u x6 x4) = 0 then 1 else 0)]) := by
                      exact W.eq (congrArg (fun z => F0 m 95 ls [.int z]) (if_neg q8).symm) J7
                    refine lv_if_ne (tgt := 94) hx hb dX6_alike_87 rfl (fun q10 => ?_) (fun q10 => ?_)
                    · refine lv_iconst (v := 0) hx hb dX6_alike_94 rfl ?_
                      exact W.eq (congrArg (fun z => F0 m 95 ls [.int z]) (if_neg q10).symm) J9
                    · refine lv_iconst (v := 1) hx hb dX6_alike_90 rfl ?_
                      refine lv_goto (tgt := 95) hx hb dX6_alike_91 rfl ?_
                      exact W.eq (congrArg (fun z => F0 m 95 ls [.int z]) (if_pos q10).symm) J9
            exact L67 ((x4.toInt - (0 : Int32).toInt).toNat + 1) 1 0 ls (by decide) (xwp hp0 (xge0 hI0) q2) (hI1) (Nat.lt_succ_self _) hR hl
          refine lv_icmp_eq (tgt := 58) hx hb dX6_alike_38 rfl (fun q5 => ?_) (fun q5 => ?_)
          · refine lv_iconst (v := 0) hx hb dX6_alike_58 rfl ?_
            exact W.eq (congrArg (fun z => F0 m 59 ls [.int z, .int x2]) (if_pos q5).symm) J4
          · refine lv_aload_n hx hb dX6_alike_41 rfl (lv_at hl 3 rfl) ?_
            refine lv_iload hx hb dX6_alike_42 (lv_at hl 0 rfl) ?_
            refine lv_iload_n hx hb dX6_alike_44 rfl (lv_at hl 4 rfl) ?_
            refine xRoV (nL := 7) ⟨hx, hb, hml, hown, hts⟩ (c_X6_areAlike l E a u x4 p1 (xwp hp0 (xge0 hI0) q2) (hI1.resolve_left (by assumption))) (cwV 2 hts gX6_alike_X6_areAlike rfl rfl rfl ⟨rfl, hd_X6_areAlike⟩ ⟨(Nat.le_of_ble_eq_true rfl), (Nat.le_of_ble_eq_true rfl)⟩) hF hS hA hP (va_recv (q := (RX6, TX6, 28)) hK hP (ci := 6) rfl (q0 := 0) rfl) rfl hl.1 rfl (Nat.le_of_ble_eq_true rfl) ⟨(Nat.le_of_ble_eq_true rfl), (Nat.le_of_ble_eq_true rfl)⟩ dX6_alike_45 ?_
            refine W.eq (g2 := F0 m 48 ls [.int (s_X6_areAlike u x4 p1), .int x2]) rfl ?_
            have J11 : W p l e rm_X6_alike s m ([.ref (a 0), .int p1] : List Value).toArray below meth c s.heap [] 0 0 (xQro below (some (.int (s_X6_alike u p1))) ([.ref (a 0), .int p1] : List Value).toArray s) (F0 m 59 ls [.int (if (s_X6_areAlike u x4 p1) = 0 then 0 else (1 : Int32) <<< (x4 &&& 31)), .int x2]) := by
              exact W.eq (congrArg (fun z => F0 m 59 ls [.int z, .int x2]) (if_neg q5).symm) J4
            refine lv_if_eq (tgt := 58) hx hb dX6_alike_48 rfl (fun q12 => ?_) (fun q12 => ?_)
            · refine lv_iconst (v := 0) hx hb dX6_alike_58 rfl ?_
              exact W.eq (congrArg (fun z => F0 m 59 ls [.int z, .int x2]) (if_pos q12).symm) J11
            · refine lv_iconst (v := 1) hx hb dX6_alike_51 rfl ?_
              refine lv_iload hx hb dX6_alike_52 (lv_at hl 0 rfl) ?_
              refine lv_ishl hx hb dX6_alike_54 ?_
              refine lv_goto (tgt := 59) hx hb dX6_alike_55 rfl ?_
              exact W.eq (congrArg (fun z => F0 m 59 ls [.int z, .int x2]) (if_neg q12).symm) J11
    exact L23 (((u.1 1 40).toInt - (0 : Int32).toInt).toNat + 1) 0 0 0 ls (by decide) (by first | exact Or.inl (by assumption) | exact Or.inr (xisP hp0 (by assumption))) (Nat.lt_succ_self _) hR hl
  · have hR := hR.trans (if_neg q1)
    refine lv_aload_n hx hb dX6_alike_5 rfl (lv_at hl 0 rfl) ?_
    refine lv_iload_n hx hb dX6_alike_6 rfl (lv_at hl 1 rfl) ?_
    refine xRoV (nL := 7) ⟨hx, hb, hml, hown, hts⟩ (c_X6_isPiece l E a u p1) (cwV 1 hts gX6_alike_X6_isPiece rfl rfl rfl ⟨rfl, hd_X6_isPiece⟩ ⟨(Nat.le_of_ble_eq_true rfl), (Nat.le_of_ble_eq_true rfl)⟩) hF hS hA hP (va_recv (q := (RX6, TX6, 28)) hK hP (ci := 6) rfl (q0 := 0) rfl) rfl hl.1 rfl (Nat.le_of_ble_eq_true rfl) ⟨(Nat.le_of_ble_eq_true rfl), (Nat.le_of_ble_eq_true rfl)⟩ dX6_alike_7 ?_
    refine W.eq (g2 := F0 m 10 ls [.int (s_X6_isPiece u p1)]) rfl ?_
    refine lv_if_ne (tgt := 16) hx hb dX6_alike_10 rfl (fun q13 => ?_) (fun q13 => ?_)
    · have hR := hR.trans (if_neg q13)
      refine lv_iconst (v := 0) hx hb dX6_alike_16 rfl ?_
      refine lv_istore_n (lv' := [(2, .int 0), (0, .ref (a 0)), (1, .int p1)]) hx hb dX6_alike_17 rfl hl (by decide) rfl (fun ls hl => ?_)
      refine lv_iconst (v := 0) hx hb dX6_alike_18 rfl ?_
      refine lv_istore_n (lv' := [(3, .int 0), (2, .int 0), (0, .ref (a 0)), (1, .int p1)]) hx hb dX6_alike_19 rfl hl (by decide) rfl (fun ls hl => ?_)
      refine lv_iconst (v := 0) hx hb dX6_alike_20 rfl ?_
      refine lv_istore (lv' := [(4, .int 0), (3, .int 0), (2, .int 0), (0, .ref (a 0)), (1, .int p1)]) hx hb dX6_alike_21 hl (by decide) rfl (fun ls hl => ?_)
      have L23 : ∀ (n23 : Nat) (x2 : Int32) (x3 : Int32) (x4 : Int32) (ls : Array Slot), (¬ x4 < 0) → (p1 = (-1) ∨ XP p1) → ((u.1 1 40).toInt - x4.toInt).toNat < n23 → s_X6_alike u p1 = s_X6_alike_L23 n23 u p1 x2 x3 x4 → lv_has ls 7 [(4, .int x4), (3, .int x3), (2, .int x2), (0, .ref (a 0)), (1, .int p1)] → W p l e rm_X6_alike s m ([.ref (a 0), .int p1] : List Value).toArray below meth c s.heap [] 0 0 (xQro below (some (.int (s_X6_alike u p1))) ([.ref (a 0), .int p1] : List Value).toArray s) (F0 m 23 ls []) := by
        intro n23
        induction n23 with
        | zero => intro x2 x3 x4 ls hI0 hI1 hM23 hR hl; exact absurd hM23 (Nat.not_lt_zero _)
        | succ n23 ih23 =>
          intro x2 x3 x4 ls hI0 hI1 hM23 hR hl
          refine lv_iload hx hb dX6_alike_23 (lv_at hl 0 rfl) ?_
          refine lv_aload_n hx hb dX6_alike_25 rfl (lv_at hl 3 rfl) ?_
          refine va_get (D := xD E) (ci := 6) (v := .ref (a 1)) (C := RX6) (T := TX6) (N := 28) hx hb hts (by decide +kernel) hown hK hP 0 rfl rfl 0 (by decide) (hts (.fieldLink RX6 11 "RailOffsetsModel" "now" "[I") (by decide +kernel)) (fun _ h => h) rfl dX6_alike_26 ?_
          refine lv_bipush (v := 40) hx hb dX6_alike_29 rfl ?_
          refine va_iald hx hb hK hP 1 0 rfl rfl (v40) dX6_alike_31 ?_
          refine lv_icmp_ge (tgt := 117) hx hb dX6_alike_32 rfl (fun q14 => ?_) (fun q14 => ?_)
          · have hR := hR.trans (if_pos q14)
            refine lv_iload_n hx hb dX6_alike_117 rfl (lv_at hl 4 rfl) ?_
            refine lv_iconst (v := (-1)) hx hb dX6_alike_118 rfl ?_
            refine lv_icmp_ne (tgt := 126) hx hb dX6_alike_119 rfl (fun q15 => ?_) (fun q15 => ?_)
            · have hR := hR.trans (if_neg q15)
              refine lv_iload_n hx hb dX6_alike_126 rfl (lv_at hl 2 rfl) ?_
              have hR : s_X6_alike u p1 = x2 := hR
              exact W.iret (v := x2) hx hb hr (fun t ht _ => ⟨congrArg (fun z => Outcome.returned (some (Value.int z))) hR.symm, ht⟩) (fun _ h => by cases h) dX6_alike_127
            · have hR := hR.trans (if_pos q15)
              refine lv_iload_n hx hb dX6_alike_122 rfl (lv_at hl 1 rfl) ?_
              refine lv_goto (tgt := 127) hx hb dX6_alike_123 rfl ?_
              have hR : s_X6_alike u p1 = x3 := hR
              exact W.iret (v := x3) hx hb hr (fun t ht _ => ⟨congrArg (fun z => Outcome.returned (some (Value.int z))) hR.symm, ht⟩) (fun _ h => by cases h) dX6_alike_127
          · have hR := hR.trans (if_neg q14)
            refine lv_iload_n hx hb dX6_alike_35 rfl (lv_at hl 2 rfl) ?_
            refine lv_iload_n hx hb dX6_alike_36 rfl (lv_at hl 4 rfl) ?_
            refine lv_iconst (v := (-1)) hx hb dX6_alike_37 rfl ?_
            have J16 : W p l e rm_X6_alike s m ([.ref (a 0), .int p1] : List Value).toArray below meth c s.heap [] 0 0 (xQro below (some (.int (s_X6_alike u p1))) ([.ref (a 0), .int p1] : List Value).toArray s) (F0 m 59 ls [.int (if p1 = (-1) then 0 else if (s_X6_areAlike u x4 p1) = 0 then 0 else (1 : Int32) <<< (x4 &&& 31)), .int x2]) := by
              refine lv_ior hx hb dX6_alike_59 ?_
              refine lv_istore_n (lv' := [(2, .int (x2 ||| (if p1 = (-1) then 0 else if (s_X6_areAlike u x4 p1) = 0 then 0 else (1 : Int32) <<< (x4 &&& 31)))), (4, .int x4), (3, .int x3), (0, .ref (a 0)), (1, .int p1)]) hx hb dX6_alike_60 rfl hl (by decide) rfl (fun ls hl => ?_)
              refine lv_iconst (v := 1) hx hb dX6_alike_61 rfl ?_
              refine lv_istore (lv' := [(5, .int 1), (2, .int (x2 ||| (if p1 = (-1) then 0 else if (s_X6_areAlike u x4 p1) = 0 then 0 else (1 : Int32) <<< (x4 &&& 31)))), (4, .int x4), (3, .int x3), (0, .ref (a 0)), (1, .int p1)]) hx hb dX6_alike_62 hl (by decide) rfl (fun ls hl => ?_)
              refine lv_iconst (v := 0) hx hb dX6_alike_64 rfl ?_
              refine lv_istore (lv' := [(6, .int 0), (5, .int 1), (2, .int (x2 ||| (if p1 = (-1) then 0 else if (s_X6_areAlike u x4 p1) = 0 then 0 else (1 : Int32) <<< (x4 &&& 31)))), (4, .int x4), (3, .int x3), (0, .ref (a 0)), (1, .int p1)]) hx hb dX6_alike_65 hl (by decide) rfl (fun ls hl => ?_)
              have L67 : ∀ (n67 : Nat) (x5 : Int32) (x6 : Int32) (ls : Array Slot), (¬ x6 < 0) → (XP x4) → (p1 = (-1) ∨ XP p1) → (x4.toInt - x6.toInt).toNat < n67 → s_X6_alike u p1 = s_X6_alike_L67 (fun x2 x3 x4 => s_X6_alike_L23 n23 u p1 x2 x3 x4) n67 u p1 (x2 ||| (if p1 = (-1) then 0 else if (s_X6_areAlike u x4 p1) = 0 then 0 else (1 : Int32) <<< (x4 &&& 31))) x3 x4 x5 x6 → lv_has ls 7 [(6, .int x6), (5, .int x5), (2, .int (x2 ||| (if p1 = (-1) then 0 else if (s_X6_areAlike u x4 p1) = 0 then 0 else (1 : Int32) <<< (x4 &&& 31)))), (4, .int x4), (3, .int x3), (0, .ref (a 0)), (1, .int p1)] → W p l e rm_X6_alike s m ([.ref (a 0), .int p1] : List Value).toArray below meth c s.heap [] 0 0 (xQro below (some (.int (s_X6_alike u p1))) ([.ref (a 0), .int p1] : List Value).toArray s) (F0 m 67 ls []) := by
                intro n67
                induction n67 with
                | zero => intro x5 x6 ls hI0 hI1 hI2 hM67 hR hl; exact absurd hM67 (Nat.not_lt_zero _)
                | succ n67 ih67 =>
                  intro x5 x6 ls hI0 hI1 hI2 hM67 hR hl
                  refine lv_iload hx hb dX6_alike_67 (lv_at hl 0 rfl) ?_
                  refine lv_iload hx hb dX6_alike_69 (lv_at hl 3 rfl) ?_
                  refine lv_icmp_ge (tgt := 103) hx hb dX6_alike_71 rfl (fun q18 => ?_) (fun q18 => ?_)
                  · have hR := hR.trans (if_pos q18)
                    refine lv_iload_n hx hb dX6_alike_103 rfl (lv_at hl 4 rfl) ?_
                    refine lv_iload hx hb dX6_alike_104 (lv_at hl 1 rfl) ?_
                    refine xRoS (nL := 7) ⟨hx, hb, hml, hown, hts⟩ (c_X6_bit l E a u x5) (va_cwS 1 hts gX6_alike_X6_bit rfl rfl rfl hd_X6_bit ⟨(Nat.le_of_ble_eq_true rfl), (Nat.le_of_ble_eq_true rfl)⟩) hF hS hA hP rfl hl.1 rfl (Nat.le_of_ble_eq_true rfl) ⟨(Nat.le_of_ble_eq_true rfl), (Nat.le_of_ble_eq_true rfl)⟩ dX6_alike_106 ?_
                    refine W.eq (g2 := F0 m 109 ls [.int (s_X6_bit u x5), .int x3]) rfl ?_
                    refine lv_iadd hx hb dX6_alike_109 ?_
                    refine lv_istore_n (lv' := [(3, .int (x3 + (s_X6_bit u x5))), (6, .int x6), (5, .int x5), (2, .int (x2 ||| (if p1 = (-1) then 0 else if (s_X6_areAlike u x4 p1) = 0 then 0 else (1 : Int32) <<< (x4 &&& 31)))), (4, .int x4), (0, .ref (a 0)), (1, .int p1)]) hx hb dX6_alike_110 rfl hl (by decide) rfl (fun ls hl => ?_)
                    refine lv_iinc (k := 4) (v := x4 + 1) (lv' := [(4, .int (x4 + 1)), (3, .int (x3 + (s_X6_bit u x5))), (6, .int x6), (5, .int x5), (2, .int (x2 ||| (if p1 = (-1) then 0 else if (s_X6_areAlike u x4 p1) = 0 then 0 else (1 : Int32) <<< (x4 &&& 31)))), (0, .ref (a 0)), (1, .int p1)]) hx hb dX6_alike_111 hl rfl rfl (by decide) rfl (fun ls hl => ?_)
                    refine lv_goto (tgt := 23) hx hb dX6_alike_114 rfl ?_
                    exact ih23 (x2 ||| (if p1 = (-1) then 0 else if (s_X6_areAlike u x4 p1) = 0 then 0 else (1 : Int32) <<< (x4 &&& 31))) (x3 + (s_X6_bit u x5)) (x4 + 1) _ (xpnn hI1) (hI2) (Nat.lt_of_lt_of_le (xupc q14) (Nat.le_of_lt_succ hM23)) hR (lv_sub hl [0, 1, 4, 5, 6] rfl)
                  · have hR := hR.trans (if_neg q18)
                    refine lv_iload hx hb dX6_alike_74 (lv_at hl 1 rfl) ?_
                    have J19 : W p l e rm_X6_alike s m ([.ref (a 0), .int p1] : List Value).toArray below meth c s.heap [] 0 0 (xQro below (some (.int (s_X6_alike u p1))) ([.ref (a 0), .int p1] : List Value).toArray s) (F0 m 95 ls [.int (if x5 = 0 then 0 else if (s_X6_areAlike u x6 x4) = 0 then 1 else 0)]) := by
                      refine lv_istore (lv' := [(5, .int (if x5 = 0 then 0 else if (s_X6_areAlike u x6 x4) = 0 then 1 else 0)), (6, .int x6), (2, .int (x2 ||| (if p1 = (-1) then 0 else if (s_X6_areAlike u x4 p1) = 0 then 0 else (1 : Int32) <<< (x4 &&& 31)))), (4, .int x4), (3, .int x3), (0, .ref (a 0)), (1, .int p1)]) hx hb dX6_alike_95 hl (by decide) rfl (fun ls hl => ?_)
                      refine lv_iinc (k := 1) (v := x6 + 1) (lv' := [(6, .int (x6 + 1)), (5, .int (if x5 = 0 then 0 else if (s_X6_areAlike u x6 x4) = 0 then 1 else 0)), (2, .int (x2 ||| (if p1 = (-1) then 0 else if (s_X6_areAlike u x4 p1) = 0 then 0 else (1 : Int32) <<< (x4 &&& 31)))), (4, .int x4), (3, .int x3), (0, .ref (a 0)), (1, .int p1)]) hx hb dX6_alike_97 hl rfl rfl (by decide) rfl (fun ls hl => ?_)
                      refine lv_goto (tgt := 67) hx hb dX6_alike_100 rfl ?_
                      exact ih67 (if x5 = 0 then 0 else if (s_X6_areAlike u x6 x4) = 0 then 1 else 0) (x6 + 1) _ (xup0 hI0 q18) (hI1) (hI2) (Nat.lt_of_lt_of_le (xupc q18) (Nat.le_of_lt_succ hM67)) hR (lv_sub hl [0, 1, 2, 3, 4, 5, 6] rfl)
                    refine lv_if_eq (tgt := 94) hx hb dX6_alike_76 rfl (fun q20 => ?_) (fun q20 => ?_)
                    · refine lv_iconst (v := 0) hx hb dX6_alike_94 rfl ?_
                      exact W.eq (congrArg (fun z => F0 m 95 ls [.int z]) (if_pos q20).symm) J19
                    · refine lv_aload_n hx hb dX6_alike_79 rfl (lv_at hl 5 rfl) ?_
                      refine lv_iload hx hb dX6_alike_80 (lv_at hl 0 rfl) ?_
                      refine lv_iload hx hb dX6_alike_82 (lv_at hl 3 rfl) ?_
                      refine xRoV (nL := 7) ⟨hx, hb, hml, hown, hts⟩ (c_X6_areAlike l E a u x6 x4 (xpk hI1 hI0 q18) (hI1)) (cwV 2 hts gX6_alike_X6_areAlike rfl rfl rfl ⟨rfl, hd_X6_areAlike⟩ ⟨(Nat.le_of_ble_eq_true rfl), (Nat.le_of_ble_eq_true rfl)⟩) hF hS hA hP (va_recv (q := (RX6, TX6, 28)) hK hP (ci := 6) rfl (q0 := 0) rfl) rfl hl.1 rfl (Nat.le_of_ble_eq_true rfl) ⟨(Nat.le_of_ble_eq_true rfl), (Nat.le_of_ble_eq_true rfl)⟩ dX6_alike_84 ?_
                      refine W.eq (g2 := F0 m 87 ls [.int (s_X6_areAlike u x6 x4)]) rfl ?_
                      have J21 : W p l e rm_X6_alike s m ([.ref (a 0), .int p1] : List Value).toArray below meth c s.heap [] 0 0 (xQro below (some (.int (s_X6_alike u p1))) ([.ref (a 0), .int p1] : List Value).toArray s) (F0 m 95 ls [.int (if (s_X6_areAlike u x6 x4) = 0 then 1 else 0)]) := by
                        exact W.eq (congrArg (fun z => F0 m 95 ls [.int z]) (if_neg q20).symm) J19
                      refine lv_if_ne (tgt := 94) hx hb dX6_alike_87 rfl (fun q22 => ?_) (fun q22 => ?_)
                      · refine lv_iconst (v := 0) hx hb dX6_alike_94 rfl ?_
                        exact W.eq (congrArg (fun z => F0 m 95 ls [.int z]) (if_neg q22).symm) J21
                      · refine lv_iconst (v := 1) hx hb dX6_alike_90 rfl ?_
                        refine lv_goto (tgt := 95) hx hb dX6_alike_91 rfl ?_
                        exact W.eq (congrArg (fun z => F0 m 95 ls [.int z]) (if_pos q22).symm) J21
              exact L67 ((x4.toInt - (0 : Int32).toInt).toNat + 1) 1 0 ls (by decide) (xwp hp0 (xge0 hI0) q14) (hI1) (Nat.lt_succ_self _) hR hl
            refine lv_icmp_eq (tgt := 58) hx hb dX6_alike_38 rfl (fun q17 => ?_) (fun q17 => ?_)
            · refine lv_iconst (v := 0) hx hb dX6_alike_58 rfl ?_
              exact W.eq (congrArg (fun z => F0 m 59 ls [.int z, .int x2]) (if_pos q17).symm) J16
            · refine lv_aload_n hx hb dX6_alike_41 rfl (lv_at hl 3 rfl) ?_
              refine lv_iload hx hb dX6_alike_42 (lv_at hl 0 rfl) ?_
              refine lv_iload_n hx hb dX6_alike_44 rfl (lv_at hl 4 rfl) ?_
              refine xRoV (nL := 7) ⟨hx, hb, hml, hown, hts⟩ (c_X6_areAlike l E a u x4 p1 (xwp hp0 (xge0 hI0) q14) (hI1.resolve_left (by assumption))) (cwV 2 hts gX6_alike_X6_areAlike rfl rfl rfl ⟨rfl, hd_X6_areAlike⟩ ⟨(Nat.le_of_ble_eq_true rfl), (Nat.le_of_ble_eq_true rfl)⟩) hF hS hA hP (va_recv (q := (RX6, TX6, 28)) hK hP (ci := 6) rfl (q0 := 0) rfl) rfl hl.1 rfl (Nat.le_of_ble_eq_true rfl) ⟨(Nat.le_of_ble_eq_true rfl), (Nat.le_of_ble_eq_true rfl)⟩ dX6_alike_45 ?_
              refine W.eq (g2 := F0 m 48 ls [.int (s_X6_areAlike u x4 p1), .int x2]) rfl ?_
              have J23 : W p l e rm_X6_alike s m ([.ref (a 0), .int p1] : List Value).toArray below meth c s.heap [] 0 0 (xQro below (some (.int (s_X6_alike u p1))) ([.ref (a 0), .int p1] : List Value).toArray s) (F0 m 59 ls [.int (if (s_X6_areAlike u x4 p1) = 0 then 0 else (1 : Int32) <<< (x4 &&& 31)), .int x2]) := by
                exact W.eq (congrArg (fun z => F0 m 59 ls [.int z, .int x2]) (if_neg q17).symm) J16
              refine lv_if_eq (tgt := 58) hx hb dX6_alike_48 rfl (fun q24 => ?_) (fun q24 => ?_)
              · refine lv_iconst (v := 0) hx hb dX6_alike_58 rfl ?_
                exact W.eq (congrArg (fun z => F0 m 59 ls [.int z, .int x2]) (if_pos q24).symm) J23
              · refine lv_iconst (v := 1) hx hb dX6_alike_51 rfl ?_
                refine lv_iload hx hb dX6_alike_52 (lv_at hl 0 rfl) ?_
                refine lv_ishl hx hb dX6_alike_54 ?_
                refine lv_goto (tgt := 59) hx hb dX6_alike_55 rfl ?_
                exact W.eq (congrArg (fun z => F0 m 59 ls [.int z, .int x2]) (if_neg q24).symm) J23
      exact L23 (((u.1 1 40).toInt - (0 : Int32).toInt).toNat + 1) 0 0 0 ls (by decide) (by first | exact Or.inl (by assumption) | exact Or.inr (xisP hp0 (by assumption))) (Nat.lt_succ_self _) hR hl
    · have hR := hR.trans (if_pos q13)
      refine lv_bipush (v := (-2)) hx hb dX6_alike_13 rfl ?_
      have hR : s_X6_alike u p1 = (-2) := hR
      exact W.iret (v := (-2)) hx hb hr (fun t ht _ => ⟨congrArg (fun z => Outcome.returned (some (Value.int z))) hR.symm, ht⟩) (fun _ h => by cases h) dX6_alike_15
