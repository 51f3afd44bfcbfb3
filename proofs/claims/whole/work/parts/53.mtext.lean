def s_X6_text_L74 : Nat → xU → Int32 → Int32 → Int32 → Int32 × xU
  | 0, u, _, _, _ => (0, u)
  | n + 1, u, x1, x2, x3 =>
    if (u.2 9) ≤ x3 then
      (x2, u)
    else
      s_X6_text_L74 n ((s_X6_does u x3).2) x1 (x2 + (s_X6_bit ((s_X6_does u x3).2) ((s_X6_does u x3).1))) (x3 + 1)
def s_X6_text_L19 : Nat → xU → Int32 → Int32 × xU
  | 0, u, _ => (0, u)
  | n + 1, u, x1 =>
    if x1 = 0 then
      if x1 = 0 then
        ((-100) - (u.2 6), uZ u 4 0)
      else
        if (u.2 7) = 12 then
          s_X6_text_L74 ((((uZ u 4 0).2 9).toInt - (0 : Int32).toInt).toNat + 1) (uZ u 4 0) x1 0 0
        else
          ((-100) - (u.2 6), uZ u 4 0)
    else
      if (u.2 7) = 11 then
        s_X6_text_L19 n ((s_X6_clause (s_X6_next u)).2) ((s_X6_clause (s_X6_next u)).1)
      else
        if x1 = 0 then
          ((-100) - (u.2 6), uZ u 4 0)
        else
          if (u.2 7) = 12 then
            s_X6_text_L74 ((((uZ u 4 0).2 9).toInt - (0 : Int32).toInt).toNat + 1) (uZ u 4 0) x1 0 0
          else
            ((-100) - (u.2 6), uZ u 4 0)
def s_X6_text (u : xU) : Int32 × xU :=
  s_X6_text_L19 ((((((s_X6_clause (s_X6_next (uZ (uZ u 5 0) 9 0))).2).2 4).toInt - (((s_X6_clause (s_X6_next (uZ (uZ u 5 0) 9 0))).2).2 5).toInt) + ((s_X6_clause (s_X6_next (uZ (uZ u 5 0) 9 0))).1).toInt).toNat + 1) ((s_X6_clause (s_X6_next (uZ (uZ u 5 0) 9 0))).2) ((s_X6_clause (s_X6_next (uZ (uZ u 5 0) 9 0))).1)
abbrev rm_X6_text : Room := { frames := 4, cells := 0, slots := 0, locals := 94 }
set_option maxHeartbeats 8000000 in
set_option maxRecDepth 100000 in
theorem c_X6_text (l : Launch) (E : xG) (a : Nat → Nat) (u : xU)  (hp0 : XW u) (hp1 : XTs u) (hL : xOK E (LM a)) : xMd l E yX6_text wsX6_text rm_X6_text (LM a) [.ref (a 0)] (wM E a u) (some (.int ((s_X6_text u).1))) (wM E a ((s_X6_text u).2)) := by
  refine xMd.of (cc := cX6_text) (maxL := 4) (ret := (some .int)) (by decide) rfl (Nat.le_of_ble_eq_true rfl) ?_
  intro p e s m below meth c ls hAt hF hP hS hl
  obtain ⟨hx, hb, hr, hml, hown, hts, hlocks, -⟩ := hAt
  have hown : s.vm.findClass RX6 = some m.cls := hown
  have hl : lv_has ls 4 [(0, .ref (a 0))] := hl
  have hK := hF.1
  have hA := hL.2
  change W p l e rm_X6_text s m ([.ref (a 0)] : List Value).toArray below meth c s.heap [] 0 0 (xQmd E below (LM a) (some (.int ((s_X6_text u).1))) (wM E a ((s_X6_text u).2)) ([.ref (a 0)] : List Value).toArray s) _
  have hS : va_S (· ∈ LM a) s.heap s.heap [] := hS
  have hR : s_X6_text u = s_X6_text u := rfl
  refine lv_aload_n hx hb dX6_text_0 rfl (lv_at hl 0 rfl) ?_
  refine lv_iconst (v := 0) hx hb dX6_text_1 rfl ?_
  refine va_put (D := xD E) (ci := 6) (v := .int 0) (ty := .int) (C := RX6) (T := TX6) (N := 28) hx hb hts (by decide +kernel) tyX6 tyX6_ok nmX6 hown hK hP (xD_of (ws := wM E a u) (A := (· ∈ LM a)) hL.1 (fun _ h => h)) hS 0 rfl rfl 22 (by decide) (hts (.fieldLink RX6 245 "RailOffsetsModel" "at" "I") (by decide +kernel)) (fun _ h => h) rfl (by decide +kernel) rfl rfl (Nat.le_of_ble_eq_true rfl) dX6_text_2 (fun H locs hP _ hS => ?_)
  have hP : va_P (xD E) vwCl (wM E a (uZ u 5 0)) H := hP
  refine lv_aload_n hx hb dX6_text_5 rfl (lv_at hl 0 rfl) ?_
  refine lv_iconst (v := 0) hx hb dX6_text_6 rfl ?_
  refine va_put (D := xD E) (ci := 6) (v := .int 0) (ty := .int) (C := RX6) (T := TX6) (N := 28) hx hb hts (by decide +kernel) tyX6 tyX6_ok nmX6 hown hK hP (xD_of (ws := wM E a (uZ u 5 0)) (A := (· ∈ LM a)) hL.1 (fun _ h => h)) hS 0 rfl rfl 27 (by decide) (hts (.fieldLink RX6 274 "RailOffsetsModel" "clauseMany" "I") (by decide +kernel)) (fun _ h => h) rfl (by decide +kernel) rfl rfl (Nat.le_of_ble_eq_true rfl) dX6_text_7 (fun H locs hP _ hS => ?_)
  have hP : va_P (xD E) vwCl (wM E a (uZ (uZ u 5 0) 9 0)) H := hP
  refine lv_aload_n hx hb dX6_text_10 rfl (lv_at hl 0 rfl) ?_
  refine xMdV (nL := 4) ⟨hx, hb, hml, hown, hts⟩ (c_X6_next l E a (uZ (uZ u 5 0) 9 0)  (xtx0 (u := u) hp1) hL) (cwV 0 hts gX6_text_X6_next rfl rfl rfl ⟨rfl, hd_X6_next⟩ ⟨(Nat.le_of_ble_eq_true rfl), (Nat.le_of_ble_eq_true rfl)⟩) hF hS hL.2 (fun _ h => h) hP (va_recv (q := (RX6, TX6, 28)) hK hP (ci := 6) rfl (q0 := 0) rfl) rfl hl.1 rfl (Nat.le_of_ble_eq_true rfl) ⟨(Nat.le_of_ble_eq_true rfl), (Nat.le_of_ble_eq_true rfl)⟩ dX6_text_11 (fun H locs hP _ hS => ?_)
  refine W.eq (g2 := F0 m 14 ls []) rfl ?_
  refine lv_aload_n hx hb dX6_text_14 rfl (lv_at hl 0 rfl) ?_
  refine xMdV (nL := 4) ⟨hx, hb, hml, hown, hts⟩ (c_X6_clause l E a (s_X6_next (uZ (uZ u 5 0) 9 0))  (xtx1 hp1) hL) (cwV 0 hts gX6_text_X6_clause rfl rfl rfl ⟨rfl, hd_X6_clause⟩ ⟨(Nat.le_of_ble_eq_true rfl), (Nat.le_of_ble_eq_true rfl)⟩) hF hS hL.2 (fun _ h => h) hP (va_recv (q := (RX6, TX6, 28)) hK hP (ci := 6) rfl (q0 := 0) rfl) rfl hl.1 rfl (Nat.le_of_ble_eq_true rfl) ⟨(Nat.le_of_ble_eq_true rfl), (Nat.le_of_ble_eq_true rfl)⟩ dX6_text_15 (fun H locs hP _ hS => ?_)
  refine W.eq (g2 := F0 m 18 ls [.int ((s_X6_clause (s_X6_next (uZ (uZ u 5 0) 9 0))).1)]) rfl ?_
  refine lv_istore_n (lv' := [(1, .int ((s_X6_clause (s_X6_next (uZ (uZ u 5 0) 9 0))).1)), (0, .ref (a 0))]) hx hb dX6_text_18 rfl hl (by decide) rfl (fun ls hl => ?_)
  have L19 : ∀ (n19 : Nat) (u19 : xU) (x1 : Int32) (H : Heap) (locs : List Loc) (ls : Array Slot), (XTk u19) → (XW u19) → (x1 = 0 ∨ x1 = 1) → (((u19.2 4).toInt - (u19.2 5).toInt) + x1.toInt).toNat < n19 → s_X6_text u = s_X6_text_L19 n19 u19 x1 → lv_has ls 4 [(1, .int x1), (0, .ref (a 0))] → va_P (xD E) vwCl (wM E a u19) H → va_S (· ∈ LM a) s.heap H locs → W p l e rm_X6_text s m ([.ref (a 0)] : List Value).toArray below meth c H locs 0 0 (xQmd E below (LM a) (some (.int ((s_X6_text u).1))) (wM E a ((s_X6_text u).2)) ([.ref (a 0)] : List Value).toArray s) (F0 m 19 ls []) := by
    intro n19
    induction n19 with
    | zero => intro u19 x1 H locs ls hI0 hI1 hI2 hM19 hR hl hP hS; exact absurd hM19 (Nat.not_lt_zero _)
    | succ n19 ih19 =>
      intro u19 x1 H locs ls hI0 hI1 hI2 hM19 hR hl hP hS
      refine lv_iload_n hx hb dX6_text_19 rfl (lv_at hl 0 rfl) ?_
      refine lv_if_eq (tgt := 44) hx hb dX6_text_20 rfl (fun q1 => ?_) (fun q1 => ?_)
      · have hR := hR.trans (if_pos q1)
        refine lv_aload_n hx hb dX6_text_44 rfl (lv_at hl 1 rfl) ?_
        refine lv_iconst (v := 0) hx hb dX6_text_45 rfl ?_
        refine va_put (D := xD E) (ci := 6) (v := .int 0) (ty := .int) (C := RX6) (T := TX6) (N := 28) hx hb hts (by decide +kernel) tyX6 tyX6_ok nmX6 hown hK hP (xD_of (ws := wM E a u19) (A := (· ∈ LM a)) hL.1 (fun _ h => h)) hS 0 rfl rfl 18 (by decide) (hts (.fieldLink RX6 242 "RailOffsetsModel" "size" "I") (by decide +kernel)) (fun _ h => h) rfl (by decide +kernel) rfl rfl (Nat.le_of_ble_eq_true rfl) dX6_text_46 (fun H locs hP _ hS => ?_)
        have hP : va_P (xD E) vwCl (wM E a (uZ u19 4 0)) H := hP
        refine lv_iload_n hx hb dX6_text_49 rfl (lv_at hl 0 rfl) ?_
        refine lv_if_eq (tgt := 62) hx hb dX6_text_50 rfl (fun q2 => ?_) (fun q2 => ?_)
        · have hR := hR.trans (if_pos q2)
          refine lv_bipush (v := (-100)) hx hb dX6_text_62 rfl ?_
          refine lv_aload_n hx hb dX6_text_64 rfl (lv_at hl 1 rfl) ?_
          refine va_get (D := xD E) (ci := 6) (v := .int ((uZ u19 4 0).2 6)) (C := RX6) (T := TX6) (N := 28) hx hb hts (by decide +kernel) hown hK hP 0 rfl rfl 23 (by decide) (hts (.fieldLink RX6 255 "RailOffsetsModel" "begun" "I") (by decide +kernel)) (fun _ h => h) rfl dX6_text_65 ?_
          refine W.eq (g2 := F0 m 68 ls [.int (u19.2 6), .int (-100)]) rfl ?_
          refine lv_isub hx hb dX6_text_68 ?_
          have hR : s_X6_text u = ((-100) - (u19.2 6), uZ u19 4 0) := hR
          exact W.iret (v := (-100) - (u19.2 6)) hx hb hr (fun t ht _ => by rw [hR]; dsimp only; exact ⟨⟨rfl, by rw [ht]; exact hP⟩, hS.F ht⟩) hS.2.2 dX6_text_69
        · have hR := hR.trans (if_neg q2)
          refine lv_aload_n hx hb dX6_text_53 rfl (lv_at hl 1 rfl) ?_
          refine va_get (D := xD E) (ci := 6) (v := .int ((uZ u19 4 0).2 7)) (C := RX6) (T := TX6) (N := 28) hx hb hts (by decide +kernel) hown hK hP 0 rfl rfl 24 (by decide) (hts (.fieldLink RX6 268 "RailOffsetsModel" "token" "I") (by decide +kernel)) (fun _ h => h) rfl dX6_text_54 ?_
          refine W.eq (g2 := F0 m 57 ls [.int (u19.2 7)]) rfl ?_
          refine lv_bipush (v := 12) hx hb dX6_text_57 rfl ?_
          refine lv_icmp_eq (tgt := 70) hx hb dX6_text_59 rfl (fun q3 => ?_) (fun q3 => ?_)
          · have hR := hR.trans (if_pos q3)
            refine lv_iconst (v := 0) hx hb dX6_text_70 rfl ?_
            refine lv_istore_n (lv' := [(2, .int 0), (1, .int x1), (0, .ref (a 0))]) hx hb dX6_text_71 rfl hl (by decide) rfl (fun ls hl => ?_)
            refine lv_iconst (v := 0) hx hb dX6_text_72 rfl ?_
            refine lv_istore_n (lv' := [(3, .int 0), (2, .int 0), (1, .int x1), (0, .ref (a 0))]) hx hb dX6_text_73 rfl hl (by decide) rfl (fun ls hl => ?_)
            have L74 : ∀ (n74 : Nat) (u74 : xU) (x2 : Int32) (x3 : Int32) (H : Heap) (locs : List Loc) (ls : Array Slot), (XW u74) → ((u74.2 9).toInt ≤ 15) → (¬ x3 < 0) → ((u74.2 9).toInt - x3.toInt).toNat < n74 → s_X6_text u = s_X6_text_L74 n74 u74 x1 x2 x3 → lv_has ls 4 [(3, .int x3), (2, .int x2), (1, .int x1), (0, .ref (a 0))] → va_P (xD E) vwCl (wM E a u74) H → va_S (· ∈ LM a) s.heap H locs → W p l e rm_X6_text s m ([.ref (a 0)] : List Value).toArray below meth c H locs 0 0 (xQmd E below (LM a) (some (.int ((s_X6_text u).1))) (wM E a ((s_X6_text u).2)) ([.ref (a 0)] : List Value).toArray s) (F0 m 74 ls []) := by
              intro n74
              induction n74 with
              | zero => intro u74 x2 x3 H locs ls hI0 hI1 hI2 hM74 hR hl hP hS; exact absurd hM74 (Nat.not_lt_zero _)
              | succ n74 ih74 =>
                intro u74 x2 x3 H locs ls hI0 hI1 hI2 hM74 hR hl hP hS
                refine lv_iload_n hx hb dX6_text_74 rfl (lv_at hl 0 rfl) ?_
                refine lv_aload_n hx hb dX6_text_75 rfl (lv_at hl 3 rfl) ?_
                refine va_get (D := xD E) (ci := 6) (v := .int (u74.2 9)) (C := RX6) (T := TX6) (N := 28) hx hb hts (by decide +kernel) hown hK hP 0 rfl rfl 27 (by decide) (hts (.fieldLink RX6 274 "RailOffsetsModel" "clauseMany" "I") (by decide +kernel)) (fun _ h => h) rfl dX6_text_76 ?_
                refine lv_icmp_ge (tgt := 99) hx hb dX6_text_79 rfl (fun q4 => ?_) (fun q4 => ?_)
                · have hR := hR.trans (if_pos q4)
                  refine lv_iload_n hx hb dX6_text_99 rfl (lv_at hl 1 rfl) ?_
                  have hR : s_X6_text u = (x2, u74) := hR
                  exact W.iret (v := x2) hx hb hr (fun t ht _ => by rw [hR]; dsimp only; exact ⟨⟨rfl, by rw [ht]; exact hP⟩, hS.F ht⟩) hS.2.2 dX6_text_100
                · have hR := hR.trans (if_neg q4)
                  refine lv_iload_n hx hb dX6_text_82 rfl (lv_at hl 1 rfl) ?_
                  refine lv_aload_n hx hb dX6_text_83 rfl (lv_at hl 3 rfl) ?_
                  refine lv_iload_n hx hb dX6_text_84 rfl (lv_at hl 0 rfl) ?_
                  refine xMdV (nL := 4) ⟨hx, hb, hml, hown, hts⟩ (c_X6_does l E a u74 x3 (hI0) (xdo_14 hI2 hI1 q4) hL) (cwV 1 hts gX6_text_X6_does rfl rfl rfl ⟨rfl, hd_X6_does⟩ ⟨(Nat.le_of_ble_eq_true rfl), (Nat.le_of_ble_eq_true rfl)⟩) hF hS hL.2 (fun _ h => h) hP (va_recv (q := (RX6, TX6, 28)) hK hP (ci := 6) rfl (q0 := 0) rfl) rfl hl.1 rfl (Nat.le_of_ble_eq_true rfl) ⟨(Nat.le_of_ble_eq_true rfl), (Nat.le_of_ble_eq_true rfl)⟩ dX6_text_85 (fun H locs hP _ hS => ?_)
                  refine W.eq (g2 := F0 m 88 ls [.int ((s_X6_does u74 x3).1), .int x2]) rfl ?_
                  refine xRoS (nL := 4) ⟨hx, hb, hml, hown, hts⟩ (c_X6_bit l E a ((s_X6_does u74 x3).2) ((s_X6_does u74 x3).1)) (va_cwS 1 hts gX6_text_X6_bit rfl rfl rfl hd_X6_bit ⟨(Nat.le_of_ble_eq_true rfl), (Nat.le_of_ble_eq_true rfl)⟩) hF hS hA hP rfl hl.1 rfl (Nat.le_of_ble_eq_true rfl) ⟨(Nat.le_of_ble_eq_true rfl), (Nat.le_of_ble_eq_true rfl)⟩ dX6_text_88 ?_
                  refine W.eq (g2 := F0 m 91 ls [.int (s_X6_bit ((s_X6_does u74 x3).2) ((s_X6_does u74 x3).1)), .int x2]) rfl ?_
                  refine lv_iadd hx hb dX6_text_91 ?_
                  refine lv_istore_n (lv' := [(2, .int (x2 + (s_X6_bit ((s_X6_does u74 x3).2) ((s_X6_does u74 x3).1)))), (3, .int x3), (1, .int x1), (0, .ref (a 0))]) hx hb dX6_text_92 rfl hl (by decide) rfl (fun ls hl => ?_)
                  refine lv_iinc (k := 1) (v := x3 + 1) (lv' := [(3, .int (x3 + 1)), (2, .int (x2 + (s_X6_bit ((s_X6_does u74 x3).2) ((s_X6_does u74 x3).1)))), (1, .int x1), (0, .ref (a 0))]) hx hb dX6_text_93 hl rfl rfl (by decide) rfl (fun ls hl => ?_)
                  refine lv_goto (tgt := 74) hx hb dX6_text_96 rfl ?_
                  exact ih74 ((s_X6_does u74 x3).2) (x2 + (s_X6_bit ((s_X6_does u74 x3).2) ((s_X6_does u74 x3).1))) (x3 + 1) _ _ _ (xdo_w hI0 _) (by rw [(xdo_k _ _).1]; exact hI1) (xup0 hI2 q4) (Nat.lt_of_lt_of_le (by rw [(xdo_k _ _).1]; exact xupc q4) (Nat.le_of_lt_succ hM74)) hR (lv_sub hl [0, 1, 2, 3] rfl) hP hS
            exact L74 ((((uZ u19 4 0).2 9).toInt - (0 : Int32).toInt).toNat + 1) (uZ u19 4 0) 0 0 _ _ ls (hI1) (xcl_15 (u := u19) hI0) (by decide) (Nat.lt_succ_self _) hR hl hP hS
          · have hR := hR.trans (if_neg q3)
            refine lv_bipush (v := (-100)) hx hb dX6_text_62 rfl ?_
            refine lv_aload_n hx hb dX6_text_64 rfl (lv_at hl 1 rfl) ?_
            refine va_get (D := xD E) (ci := 6) (v := .int ((uZ u19 4 0).2 6)) (C := RX6) (T := TX6) (N := 28) hx hb hts (by decide +kernel) hown hK hP 0 rfl rfl 23 (by decide) (hts (.fieldLink RX6 255 "RailOffsetsModel" "begun" "I") (by decide +kernel)) (fun _ h => h) rfl dX6_text_65 ?_
            refine W.eq (g2 := F0 m 68 ls [.int (u19.2 6), .int (-100)]) rfl ?_
            refine lv_isub hx hb dX6_text_68 ?_
            have hR : s_X6_text u = ((-100) - (u19.2 6), uZ u19 4 0) := hR
            exact W.iret (v := (-100) - (u19.2 6)) hx hb hr (fun t ht _ => by rw [hR]; dsimp only; exact ⟨⟨rfl, by rw [ht]; exact hP⟩, hS.F ht⟩) hS.2.2 dX6_text_69
      · have hR := hR.trans (if_neg q1)
        refine lv_aload_n hx hb dX6_text_23 rfl (lv_at hl 1 rfl) ?_
        refine va_get (D := xD E) (ci := 6) (v := .int (u19.2 7)) (C := RX6) (T := TX6) (N := 28) hx hb hts (by decide +kernel) hown hK hP 0 rfl rfl 24 (by decide) (hts (.fieldLink RX6 268 "RailOffsetsModel" "token" "I") (by decide +kernel)) (fun _ h => h) rfl dX6_text_24 ?_
        refine lv_bipush (v := 11) hx hb dX6_text_27 rfl ?_
        refine lv_icmp_ne (tgt := 44) hx hb dX6_text_29 rfl (fun q5 => ?_) (fun q5 => ?_)
        · have hR := hR.trans (if_neg q5)
          refine lv_aload_n hx hb dX6_text_44 rfl (lv_at hl 1 rfl) ?_
          refine lv_iconst (v := 0) hx hb dX6_text_45 rfl ?_
          refine va_put (D := xD E) (ci := 6) (v := .int 0) (ty := .int) (C := RX6) (T := TX6) (N := 28) hx hb hts (by decide +kernel) tyX6 tyX6_ok nmX6 hown hK hP (xD_of (ws := wM E a u19) (A := (· ∈ LM a)) hL.1 (fun _ h => h)) hS 0 rfl rfl 18 (by decide) (hts (.fieldLink RX6 242 "RailOffsetsModel" "size" "I") (by decide +kernel)) (fun _ h => h) rfl (by decide +kernel) rfl rfl (Nat.le_of_ble_eq_true rfl) dX6_text_46 (fun H locs hP _ hS => ?_)
          have hP : va_P (xD E) vwCl (wM E a (uZ u19 4 0)) H := hP
          refine lv_iload_n hx hb dX6_text_49 rfl (lv_at hl 0 rfl) ?_
          refine lv_if_eq (tgt := 62) hx hb dX6_text_50 rfl (fun q6 => ?_) (fun q6 => ?_)
          · have hR := hR.trans (if_pos q6)
            refine lv_bipush (v := (-100)) hx hb dX6_text_62 rfl ?_
            refine lv_aload_n hx hb dX6_text_64 rfl (lv_at hl 1 rfl) ?_
            refine va_get (D := xD E) (ci := 6) (v := .int ((uZ u19 4 0).2 6)) (C := RX6) (T := TX6) (N := 28) hx hb hts (by decide +kernel) hown hK hP 0 rfl rfl 23 (by decide) (hts (.fieldLink RX6 255 "RailOffsetsModel" "begun" "I") (by decide +kernel)) (fun _ h => h) rfl dX6_text_65 ?_
            refine W.eq (g2 := F0 m 68 ls [.int (u19.2 6), .int (-100)]) rfl ?_
            refine lv_isub hx hb dX6_text_68 ?_
            have hR : s_X6_text u = ((-100) - (u19.2 6), uZ u19 4 0) := hR
            exact W.iret (v := (-100) - (u19.2 6)) hx hb hr (fun t ht _ => by rw [hR]; dsimp only; exact ⟨⟨rfl, by rw [ht]; exact hP⟩, hS.F ht⟩) hS.2.2 dX6_text_69
          · have hR := hR.trans (if_neg q6)
            refine lv_aload_n hx hb dX6_text_53 rfl (lv_at hl 1 rfl) ?_
            refine va_get (D := xD E) (ci := 6) (v := .int ((uZ u19 4 0).2 7)) (C := RX6) (T := TX6) (N := 28) hx hb hts (by decide +kernel) hown hK hP 0 rfl rfl 24 (by decide) (hts (.fieldLink RX6 268 "RailOffsetsModel" "token" "I") (by decide +kernel)) (fun _ h => h) rfl dX6_text_54 ?_
            refine W.eq (g2 := F0 m 57 ls [.int (u19.2 7)]) rfl ?_
            refine lv_bipush (v := 12) hx hb dX6_text_57 rfl ?_
            refine lv_icmp_eq (tgt := 70) hx hb dX6_text_59 rfl (fun q7 => ?_) (fun q7 => ?_)
            · have hR := hR.trans (if_pos q7)
              refine lv_iconst (v := 0) hx hb dX6_text_70 rfl ?_
              refine lv_istore_n (lv' := [(2, .int 0), (1, .int x1), (0, .ref (a 0))]) hx hb dX6_text_71 rfl hl (by decide) rfl (fun ls hl => ?_)
              refine lv_iconst (v := 0) hx hb dX6_text_72 rfl ?_
              refine lv_istore_n (lv' := [(3, .int 0), (2, .int 0), (1, .int x1), (0, .ref (a 0))]) hx hb dX6_text_73 rfl hl (by decide) rfl (fun ls hl => ?_)
              have L74 : ∀ (n74 : Nat) (u74 : xU) (x2 : Int32) (x3 : Int32) (H : Heap) (locs : List Loc) (ls : Array Slot), (XW u74) → ((u74.2 9).toInt ≤ 15) → (¬ x3 < 0) → ((u74.2 9).toInt - x3.toInt).toNat < n74 → s_X6_text u = s_X6_text_L74 n74 u74 x1 x2 x3 → lv_has ls 4 [(3, .int x3), (2, .int x2), (1, .int x1), (0, .ref (a 0))] → va_P (xD E) vwCl (wM E a u74) H → va_S (· ∈ LM a) s.heap H locs → W p l e rm_X6_text s m ([.ref (a 0)] : List Value).toArray below meth c H locs 0 0 (xQmd E below (LM a) (some (.int ((s_X6_text u).1))) (wM E a ((s_X6_text u).2)) ([.ref (a 0)] : List Value).toArray s) (F0 m 74 ls []) := by
                intro n74
                induction n74 with
                | zero => intro u74 x2 x3 H locs ls hI0 hI1 hI2 hM74 hR hl hP hS; exact absurd hM74 (Nat.not_lt_zero _)
                | succ n74 ih74 =>
                  intro u74 x2 x3 H locs ls hI0 hI1 hI2 hM74 hR hl hP hS
                  refine lv_iload_n hx hb dX6_text_74 rfl (lv_at hl 0 rfl) ?_
                  refine lv_aload_n hx hb dX6_text_75 rfl (lv_at hl 3 rfl) ?_
                  refine va_get (D := xD E) (ci := 6) (v := .int (u74.2 9)) (C := RX6) (T := TX6) (N := 28) hx hb hts (by decide +kernel) hown hK hP 0 rfl rfl 27 (by decide) (hts (.fieldLink RX6 274 "RailOffsetsModel" "clauseMany" "I") (by decide +kernel)) (fun _ h => h) rfl dX6_text_76 ?_
                  refine lv_icmp_ge (tgt := 99) hx hb dX6_text_79 rfl (fun q8 => ?_) (fun q8 => ?_)
                  · have hR := hR.trans (if_pos q8)
                    refine lv_iload_n hx hb dX6_text_99 rfl (lv_at hl 1 rfl) ?_
                    have hR : s_X6_text u = (x2, u74) := hR
                    exact W.iret (v := x2) hx hb hr (fun t ht _ => by rw [hR]; dsimp only; exact ⟨⟨rfl, by rw [ht]; exact hP⟩, hS.F ht⟩) hS.2.2 dX6_text_100
                  · have hR := hR.trans (if_neg q8)
                    refine lv_iload_n hx hb dX6_text_82 rfl (lv_at hl 1 rfl) ?_
                    refine lv_aload_n hx hb dX6_text_83 rfl (lv_at hl 3 rfl) ?_
                    refine lv_iload_n hx hb dX6_text_84 rfl (lv_at hl 0 rfl) ?_
                    refine xMdV (nL := 4) ⟨hx, hb, hml, hown, hts⟩ (c_X6_does l E a u74 x3 (hI0) (xdo_14 hI2 hI1 q8) hL) (cwV 1 hts gX6_text_X6_does rfl rfl rfl ⟨rfl, hd_X6_does⟩ ⟨(Nat.le_of_ble_eq_true rfl), (Nat.le_of_ble_eq_true rfl)⟩) hF hS hL.2 (fun _ h => h) hP (va_recv (q := (RX6, TX6, 28)) hK hP (ci := 6) rfl (q0 := 0) rfl) rfl hl.1 rfl (Nat.le_of_ble_eq_true rfl) ⟨(Nat.le_of_ble_eq_true rfl), (Nat.le_of_ble_eq_true rfl)⟩ dX6_text_85 (fun H locs hP _ hS => ?_)
                    refine W.eq (g2 := F0 m 88 ls [.int ((s_X6_does u74 x3).1), .int x2]) rfl ?_
                    refine xRoS (nL := 4) ⟨hx, hb, hml, hown, hts⟩ (c_X6_bit l E a ((s_X6_does u74 x3).2) ((s_X6_does u74 x3).1)) (va_cwS 1 hts gX6_text_X6_bit rfl rfl rfl hd_X6_bit ⟨(Nat.le_of_ble_eq_true rfl), (Nat.le_of_ble_eq_true rfl)⟩) hF hS hA hP rfl hl.1 rfl (Nat.le_of_ble_eq_true rfl) ⟨(Nat.le_of_ble_eq_true rfl), (Nat.le_of_ble_eq_true rfl)⟩ dX6_text_88 ?_
                    refine W.eq (g2 := F0 m 91 ls [.int (s_X6_bit ((s_X6_does u74 x3).2) ((s_X6_does u74 x3).1)), .int x2]) rfl ?_
                    refine lv_iadd hx hb dX6_text_91 ?_
                    refine lv_istore_n (lv' := [(2, .int (x2 + (s_X6_bit ((s_X6_does u74 x3).2) ((s_X6_does u74 x3).1)))), (3, .int x3), (1, .int x1), (0, .ref (a 0))]) hx hb dX6_text_92 rfl hl (by decide) rfl (fun ls hl => ?_)
                    refine lv_iinc (k := 1) (v := x3 + 1) (lv' := [(3, .int (x3 + 1)), (2, .int (x2 + (s_X6_bit ((s_X6_does u74 x3).2) ((s_X6_does u74 x3).1)))), (1, .int x1), (0, .ref (a 0))]) hx hb dX6_text_93 hl rfl rfl (by decide) rfl (fun ls hl => ?_)
                    refine lv_goto (tgt := 74) hx hb dX6_text_96 rfl ?_
                    exact ih74 ((s_X6_does u74 x3).2) (x2 + (s_X6_bit ((s_X6_does u74 x3).2) ((s_X6_does u74 x3).1))) (x3 + 1) _ _ _ (xdo_w hI0 _) (by rw [(xdo_k _ _).1]; exact hI1) (xup0 hI2 q8) (Nat.lt_of_lt_of_le (by rw [(xdo_k _ _).1]; exact xupc q8) (Nat.le_of_lt_succ hM74)) hR (lv_sub hl [0, 1, 2, 3] rfl) hP hS
              exact L74 ((((uZ u19 4 0).2 9).toInt - (0 : Int32).toInt).toNat + 1) (uZ u19 4 0) 0 0 _ _ ls (hI1) (xcl_15 (u := u19) hI0) (by decide) (Nat.lt_succ_self _) hR hl hP hS
            · have hR := hR.trans (if_neg q7)
              refine lv_bipush (v := (-100)) hx hb dX6_text_62 rfl ?_
              refine lv_aload_n hx hb dX6_text_64 rfl (lv_at hl 1 rfl) ?_
              refine va_get (D := xD E) (ci := 6) (v := .int ((uZ u19 4 0).2 6)) (C := RX6) (T := TX6) (N := 28) hx hb hts (by decide +kernel) hown hK hP 0 rfl rfl 23 (by decide) (hts (.fieldLink RX6 255 "RailOffsetsModel" "begun" "I") (by decide +kernel)) (fun _ h => h) rfl dX6_text_65 ?_
              refine W.eq (g2 := F0 m 68 ls [.int (u19.2 6), .int (-100)]) rfl ?_
              refine lv_isub hx hb dX6_text_68 ?_
              have hR : s_X6_text u = ((-100) - (u19.2 6), uZ u19 4 0) := hR
              exact W.iret (v := (-100) - (u19.2 6)) hx hb hr (fun t ht _ => by rw [hR]; dsimp only; exact ⟨⟨rfl, by rw [ht]; exact hP⟩, hS.F ht⟩) hS.2.2 dX6_text_69
        · have hR := hR.trans (if_pos q5)
          refine lv_aload_n hx hb dX6_text_32 rfl (lv_at hl 1 rfl) ?_
          refine xMdV (nL := 4) ⟨hx, hb, hml, hown, hts⟩ (c_X6_next l E a u19  (hI0.1.1) hL) (cwV 0 hts gX6_text_X6_next rfl rfl rfl ⟨rfl, hd_X6_next⟩ ⟨(Nat.le_of_ble_eq_true rfl), (Nat.le_of_ble_eq_true rfl)⟩) hF hS hL.2 (fun _ h => h) hP (va_recv (q := (RX6, TX6, 28)) hK hP (ci := 6) rfl (q0 := 0) rfl) rfl hl.1 rfl (Nat.le_of_ble_eq_true rfl) ⟨(Nat.le_of_ble_eq_true rfl), (Nat.le_of_ble_eq_true rfl)⟩ dX6_text_33 (fun H locs hP _ hS => ?_)
          refine W.eq (g2 := F0 m 36 ls []) rfl ?_
          refine lv_aload_n hx hb dX6_text_36 rfl (lv_at hl 1 rfl) ?_
          refine xMdV (nL := 4) ⟨hx, hb, hml, hown, hts⟩ (c_X6_clause l E a (s_X6_next u19)  (xtkn hI0) hL) (cwV 0 hts gX6_text_X6_clause rfl rfl rfl ⟨rfl, hd_X6_clause⟩ ⟨(Nat.le_of_ble_eq_true rfl), (Nat.le_of_ble_eq_true rfl)⟩) hF hS hL.2 (fun _ h => h) hP (va_recv (q := (RX6, TX6, 28)) hK hP (ci := 6) rfl (q0 := 0) rfl) rfl hl.1 rfl (Nat.le_of_ble_eq_true rfl) ⟨(Nat.le_of_ble_eq_true rfl), (Nat.le_of_ble_eq_true rfl)⟩ dX6_text_37 (fun H locs hP _ hS => ?_)
          refine W.eq (g2 := F0 m 40 ls [.int ((s_X6_clause (s_X6_next u19)).1)]) rfl ?_
          refine lv_istore_n (lv' := [(1, .int ((s_X6_clause (s_X6_next u19)).1)), (0, .ref (a 0))]) hx hb dX6_text_40 rfl hl (by decide) rfl (fun ls hl => ?_)
          refine lv_goto (tgt := 19) hx hb dX6_text_41 rfl ?_
          exact ih19 ((s_X6_clause (s_X6_next u19)).2) ((s_X6_clause (s_X6_next u19)).1) _ _ _ ((xcls (xtkn hI0)).2.2.1) (xcl_w (xtkn hI0) (xnx_w1 hI0.1.1 hI1)) (xcl_b (xtkn hI0)) (Nat.lt_of_lt_of_le (xcl_d hI0 hI2 q1) (Nat.le_of_lt_succ hM19)) hR (lv_sub hl [0, 1] rfl) hP hS
  exact L19 ((((((s_X6_clause (s_X6_next (uZ (uZ u 5 0) 9 0))).2).2 4).toInt - (((s_X6_clause (s_X6_next (uZ (uZ u 5 0) 9 0))).2).2 5).toInt) + ((s_X6_clause (s_X6_next (uZ (uZ u 5 0) 9 0))).1).toInt).toNat + 1) ((s_X6_clause (s_X6_next (uZ (uZ u 5 0) 9 0))).2) ((s_X6_clause (s_X6_next (uZ (uZ u 5 0) 9 0))).1) _ _ ls ((xcls (xtx1 hp1)).2.2.1) (xcl_w (xtx1 hp1) (xnx_w1 (xtx0 hp1) hp0)) (xcl_b (xtx1 hp1)) (Nat.lt_succ_self _) hR hl hP hS
