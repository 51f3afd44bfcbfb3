/-! ===== a field is written behind a call ===== -/
theorem xwZ0 {E : xG} {a : Nat → Nat} {U : xU} {x : Int32} {H : Heap} {fs : List Value} (h : va_P (xD E) vwCl ((wM E a U).set 0 (a 0, .inr (6, fs.set 2 (.int x)))) H) (hf : (wM E a U)[0]? = some (a 0, .inr (6, fs))) : va_P (xD E) vwCl (wM E a (uZ U 0 x)) H := by
  cases hf
  exact h
theorem xwZ1 {E : xG} {a : Nat → Nat} {U : xU} {x : Int32} {H : Heap} {fs : List Value} (h : va_P (xD E) vwCl ((wM E a U).set 0 (a 0, .inr (6, fs.set 8 (.int x)))) H) (hf : (wM E a U)[0]? = some (a 0, .inr (6, fs))) : va_P (xD E) vwCl (wM E a (uZ U 1 x)) H := by
  cases hf
  exact h
theorem xwZ2 {E : xG} {a : Nat → Nat} {U : xU} {x : Int32} {H : Heap} {fs : List Value} (h : va_P (xD E) vwCl ((wM E a U).set 0 (a 0, .inr (6, fs.set 9 (.int x)))) H) (hf : (wM E a U)[0]? = some (a 0, .inr (6, fs))) : va_P (xD E) vwCl (wM E a (uZ U 2 x)) H := by
  cases hf
  exact h
theorem xwZ3 {E : xG} {a : Nat → Nat} {U : xU} {x : Int32} {H : Heap} {fs : List Value} (h : va_P (xD E) vwCl ((wM E a U).set 0 (a 0, .inr (6, fs.set 10 (.int x)))) H) (hf : (wM E a U)[0]? = some (a 0, .inr (6, fs))) : va_P (xD E) vwCl (wM E a (uZ U 3 x)) H := by
  cases hf
  exact h
theorem xwZ4 {E : xG} {a : Nat → Nat} {U : xU} {x : Int32} {H : Heap} {fs : List Value} (h : va_P (xD E) vwCl ((wM E a U).set 0 (a 0, .inr (6, fs.set 18 (.int x)))) H) (hf : (wM E a U)[0]? = some (a 0, .inr (6, fs))) : va_P (xD E) vwCl (wM E a (uZ U 4 x)) H := by
  cases hf
  exact h
theorem xwZ5 {E : xG} {a : Nat → Nat} {U : xU} {x : Int32} {H : Heap} {fs : List Value} (h : va_P (xD E) vwCl ((wM E a U).set 0 (a 0, .inr (6, fs.set 22 (.int x)))) H) (hf : (wM E a U)[0]? = some (a 0, .inr (6, fs))) : va_P (xD E) vwCl (wM E a (uZ U 5 x)) H := by
  cases hf
  exact h
theorem xwZ6 {E : xG} {a : Nat → Nat} {U : xU} {x : Int32} {H : Heap} {fs : List Value} (h : va_P (xD E) vwCl ((wM E a U).set 0 (a 0, .inr (6, fs.set 23 (.int x)))) H) (hf : (wM E a U)[0]? = some (a 0, .inr (6, fs))) : va_P (xD E) vwCl (wM E a (uZ U 6 x)) H := by
  cases hf
  exact h
theorem xwZ7 {E : xG} {a : Nat → Nat} {U : xU} {x : Int32} {H : Heap} {fs : List Value} (h : va_P (xD E) vwCl ((wM E a U).set 0 (a 0, .inr (6, fs.set 24 (.int x)))) H) (hf : (wM E a U)[0]? = some (a 0, .inr (6, fs))) : va_P (xD E) vwCl (wM E a (uZ U 7 x)) H := by
  cases hf
  exact h
theorem xwZ8 {E : xG} {a : Nat → Nat} {U : xU} {x : Int32} {H : Heap} {fs : List Value} (h : va_P (xD E) vwCl ((wM E a U).set 0 (a 0, .inr (6, fs.set 25 (.int x)))) H) (hf : (wM E a U)[0]? = some (a 0, .inr (6, fs))) : va_P (xD E) vwCl (wM E a (uZ U 8 x)) H := by
  cases hf
  exact h
theorem xwZ9 {E : xG} {a : Nat → Nat} {U : xU} {x : Int32} {H : Heap} {fs : List Value} (h : va_P (xD E) vwCl ((wM E a U).set 0 (a 0, .inr (6, fs.set 27 (.int x)))) H) (hf : (wM E a U)[0]? = some (a 0, .inr (6, fs))) : va_P (xD E) vwCl (wM E a (uZ U 9 x)) H := by
  cases hf
  exact h
def s_X6_next_L0 : Nat → xU → xU
  | 0, u => u
  | n + 1, u =>
    if (s_X6_here u) = 32 then
      s_X6_next_L0 n (uZ u 5 ((u.2 5) + 1))
    else
      if (s_X6_here u) = 10 then
        s_X6_next_L0 n (uZ u 5 ((u.2 5) + 1))
      else
        if (s_X6_in u ((s_X6_here (uZ u 6 (u.2 5))).toInt64) 97 122) = 0 then
          if (s_X6_in u ((s_X6_here (uZ u 6 (u.2 5))).toInt64) 48 57) = 0 then
            if (s_X6_here (uZ u 6 (u.2 5))) = 45 then
              uZ ((s_X6_numberHere (uZ u 6 (u.2 5))).2) 7 ((s_X6_numberHere (uZ u 6 (u.2 5))).1)
            else
              if (s_X6_here (uZ u 6 (u.2 5))) = 59 then
                uZ (uZ (uZ u 6 (u.2 5)) 7 11) 5 ((u.2 5) + 1)
              else
                uZ (uZ u 6 (u.2 5)) 7 (if (s_X6_here (uZ u 6 (u.2 5))) = (-1) then 12 else 13)
          else
            uZ ((s_X6_numberHere (uZ u 6 (u.2 5))).2) 7 ((s_X6_numberHere (uZ u 6 (u.2 5))).1)
        else
          uZ ((s_X6_wordHere (uZ u 6 (u.2 5))).2) 7 ((s_X6_wordHere (uZ u 6 (u.2 5))).1)
def s_X6_next (u : xU) : xU :=
  s_X6_next_L0 (((u.2 4).toInt - (u.2 5).toInt).toNat + 1) u
abbrev rm_X6_next : Room := { frames := 2, cells := 0, slots := 0, locals := 48 }
set_option maxHeartbeats 8000000 in
set_option maxRecDepth 100000 in
theorem c_X6_next (l : Launch) (E : xG) (a : Nat → Nat) (u : xU)  (hp0 : XTq u) (hL : xOK E (LM a)) : xMd l E yX6_next wsX6_next rm_X6_next (LM a) [.ref (a 0)] (wM E a u) (none) (wM E a (s_X6_next u)) := by
  refine xMd.of (cc := cX6_next) (maxL := 2) (ret := none) (by decide) rfl (Nat.le_of_ble_eq_true rfl) ?_
  intro p e s m below meth c ls hAt hF hP hS hl
  obtain ⟨hx, hb, hr, hml, hown, hts, hlocks, -⟩ := hAt
  have hown : s.vm.findClass RX6 = some m.cls := hown
  have hl : lv_has ls 2 [(0, .ref (a 0))] := hl
  have hK := hF.1
  have hA := hL.2
  change W p l e rm_X6_next s m ([.ref (a 0)] : List Value).toArray below meth c s.heap [] 0 0 (xQmd E below (LM a) (none) (wM E a (s_X6_next u)) ([.ref (a 0)] : List Value).toArray s) _
  have hS : va_S (· ∈ LM a) s.heap s.heap [] := hS
  have hR : s_X6_next u = s_X6_next u := rfl
  have L0 : ∀ (n0 : Nat) (u0 : xU) (H : Heap) (locs : List Loc) (ls : Array Slot), (XTq u0) → ((u0.2 4).toInt - (u0.2 5).toInt).toNat < n0 → s_X6_next u = s_X6_next_L0 n0 u0 → lv_has ls 2 [(0, .ref (a 0))] → va_P (xD E) vwCl (wM E a u0) H → va_S (· ∈ LM a) s.heap H locs → W p l e rm_X6_next s m ([.ref (a 0)] : List Value).toArray below meth c H locs 0 0 (xQmd E below (LM a) (none) (wM E a (s_X6_next u)) ([.ref (a 0)] : List Value).toArray s) (F0 m 0 ls []) := by
    intro n0
    induction n0 with
    | zero => intro u0 H locs ls hI0 hM0 hR hl hP hS; exact absurd hM0 (Nat.not_lt_zero _)
    | succ n0 ih0 =>
      intro u0 H locs ls hI0 hM0 hR hl hP hS
      refine lv_aload_n hx hb dX6_next_0 rfl (lv_at hl 0 rfl) ?_
      refine xRoV (nL := 2) ⟨hx, hb, hml, hown, hts⟩ (c_X6_here l E a u0  (hI0)) (cwV 0 hts gX6_next_X6_here rfl rfl rfl ⟨rfl, hd_X6_here⟩ ⟨(Nat.le_of_ble_eq_true rfl), (Nat.le_of_ble_eq_true rfl)⟩) hF hS hA hP (va_recv (q := (RX6, TX6, 28)) hK hP (ci := 6) rfl (q0 := 0) rfl) rfl hl.1 rfl (Nat.le_of_ble_eq_true rfl) ⟨(Nat.le_of_ble_eq_true rfl), (Nat.le_of_ble_eq_true rfl)⟩ dX6_next_1 ?_
      refine W.eq (g2 := F0 m 4 ls [.int (s_X6_here u0)]) rfl ?_
      refine lv_bipush (v := 32) hx hb dX6_next_4 rfl ?_
      refine lv_icmp_eq (tgt := 18) hx hb dX6_next_6 rfl (fun q1 => ?_) (fun q1 => ?_)
      · have hR := hR.trans (if_pos q1)
        refine lv_aload_n hx hb dX6_next_18 rfl (lv_at hl 0 rfl) ?_
        refine lv_dup hx hb dX6_next_19 rfl ?_
        refine va_get (D := xD E) (ci := 6) (v := .int (u0.2 5)) (C := RX6) (T := TX6) (N := 28) hx hb hts (by decide +kernel) hown hK hP 0 rfl rfl 22 (by decide) (hts (.fieldLink RX6 245 "RailOffsetsModel" "at" "I") (by decide +kernel)) (fun _ h => h) rfl dX6_next_20 ?_
        refine lv_iconst (v := 1) hx hb dX6_next_23 rfl ?_
        refine lv_iadd hx hb dX6_next_24 ?_
        refine va_put (D := xD E) (ci := 6) (v := .int ((u0.2 5) + 1)) (ty := .int) (C := RX6) (T := TX6) (N := 28) hx hb hts (by decide +kernel) tyX6 tyX6_ok nmX6 hown hK hP (xD_of (ws := wM E a u0) (A := (· ∈ LM a)) hL.1 (fun _ h => h)) hS 0 rfl rfl 22 (by decide) (hts (.fieldLink RX6 245 "RailOffsetsModel" "at" "I") (by decide +kernel)) (fun _ h => h) rfl (by decide +kernel) rfl rfl (Nat.le_of_ble_eq_true rfl) dX6_next_25 (fun H locs hP _ hS => ?_)
        have hP : va_P (xD E) vwCl (wM E a (uZ u0 5 ((u0.2 5) + 1))) H := hP
        refine lv_goto (tgt := 0) hx hb dX6_next_28 rfl ?_
        exact ih0 (uZ u0 5 ((u0.2 5) + 1)) _ _ _ (xtq1 (u := u0) hI0 (by first | exact xheq (u := u0) q1 (by decide) | exact xheq (u := u0) q2 (by decide))) (Nat.lt_of_lt_of_le (xtd1 (u := u0) hI0 (by first | exact xheq (u := u0) q1 (by decide) | exact xheq (u := u0) q2 (by decide))) (Nat.le_of_lt_succ hM0)) hR (lv_sub hl [0] rfl) hP hS
      · have hR := hR.trans (if_neg q1)
        refine lv_aload_n hx hb dX6_next_9 rfl (lv_at hl 0 rfl) ?_
        refine xRoV (nL := 2) ⟨hx, hb, hml, hown, hts⟩ (c_X6_here l E a u0  (hI0)) (cwV 0 hts gX6_next_X6_here rfl rfl rfl ⟨rfl, hd_X6_here⟩ ⟨(Nat.le_of_ble_eq_true rfl), (Nat.le_of_ble_eq_true rfl)⟩) hF hS hA hP (va_recv (q := (RX6, TX6, 28)) hK hP (ci := 6) rfl (q0 := 0) rfl) rfl hl.1 rfl (Nat.le_of_ble_eq_true rfl) ⟨(Nat.le_of_ble_eq_true rfl), (Nat.le_of_ble_eq_true rfl)⟩ dX6_next_10 ?_
        refine W.eq (g2 := F0 m 13 ls [.int (s_X6_here u0)]) rfl ?_
        refine lv_bipush (v := 10) hx hb dX6_next_13 rfl ?_
        refine lv_icmp_ne (tgt := 31) hx hb dX6_next_15 rfl (fun q2 => ?_) (fun q2 => ?_)
        · have hR := hR.trans (if_neg q2)
          refine lv_aload_n hx hb dX6_next_31 rfl (lv_at hl 0 rfl) ?_
          refine lv_aload_n hx hb dX6_next_32 rfl (lv_at hl 0 rfl) ?_
          refine va_get (D := xD E) (ci := 6) (v := .int (u0.2 5)) (C := RX6) (T := TX6) (N := 28) hx hb hts (by decide +kernel) hown hK hP 0 rfl rfl 22 (by decide) (hts (.fieldLink RX6 245 "RailOffsetsModel" "at" "I") (by decide +kernel)) (fun _ h => h) rfl dX6_next_33 ?_
          refine va_put (D := xD E) (ci := 6) (v := .int (u0.2 5)) (ty := .int) (C := RX6) (T := TX6) (N := 28) hx hb hts (by decide +kernel) tyX6 tyX6_ok nmX6 hown hK hP (xD_of (ws := wM E a u0) (A := (· ∈ LM a)) hL.1 (fun _ h => h)) hS 0 rfl rfl 23 (by decide) (hts (.fieldLink RX6 255 "RailOffsetsModel" "begun" "I") (by decide +kernel)) (fun _ h => h) rfl (by decide +kernel) rfl rfl (Nat.le_of_ble_eq_true rfl) dX6_next_36 (fun H locs hP _ hS => ?_)
          have hP : va_P (xD E) vwCl (wM E a (uZ u0 6 (u0.2 5))) H := hP
          refine lv_aload_n hx hb dX6_next_39 rfl (lv_at hl 0 rfl) ?_
          refine xRoV (nL := 2) ⟨hx, hb, hml, hown, hts⟩ (c_X6_here l E a (uZ u0 6 (u0.2 5))  (hI0)) (cwV 0 hts gX6_next_X6_here rfl rfl rfl ⟨rfl, hd_X6_here⟩ ⟨(Nat.le_of_ble_eq_true rfl), (Nat.le_of_ble_eq_true rfl)⟩) hF hS hA hP (va_recv (q := (RX6, TX6, 28)) hK hP (ci := 6) rfl (q0 := 0) rfl) rfl hl.1 rfl (Nat.le_of_ble_eq_true rfl) ⟨(Nat.le_of_ble_eq_true rfl), (Nat.le_of_ble_eq_true rfl)⟩ dX6_next_40 ?_
          refine W.eq (g2 := F0 m 43 ls [.int (s_X6_here (uZ u0 6 (u0.2 5)))]) rfl ?_
          refine lv_istore_n (lv' := [(1, .int (s_X6_here (uZ u0 6 (u0.2 5)))), (0, .ref (a 0))]) hx hb dX6_next_43 rfl hl (by decide) rfl (fun ls hl => ?_)
          refine lv_iload_n hx hb dX6_next_44 rfl (lv_at hl 0 rfl) ?_
          refine lv_i2l hx hb dX6_next_45 rfl ?_
          refine lv_ldc2 (v := 97) hx hb hown (hts (.constantLong RX6 251 (97)) (by decide +kernel)) dX6_next_46 ?_
          refine lv_ldc2 (v := 122) hx hb hown (hts (.constantLong RX6 253 (122)) (by decide +kernel)) dX6_next_49 ?_
          refine xRoS (nL := 2) ⟨hx, hb, hml, hown, hts⟩ (c_X6_in l E a (uZ u0 6 (u0.2 5)) ((s_X6_here (uZ u0 6 (u0.2 5))).toInt64) 97 122) (va_cwS 3 hts gX6_next_X6_in rfl rfl rfl hd_X6_in ⟨(Nat.le_of_ble_eq_true rfl), (Nat.le_of_ble_eq_true rfl)⟩) hF hS hA hP rfl hl.1 rfl (Nat.le_of_ble_eq_true rfl) ⟨(Nat.le_of_ble_eq_true rfl), (Nat.le_of_ble_eq_true rfl)⟩ dX6_next_52 ?_
          refine W.eq (g2 := F0 m 55 ls [.int (s_X6_in u0 ((s_X6_here (uZ u0 6 (u0.2 5))).toInt64) 97 122)]) rfl ?_
          refine lv_if_eq (tgt := 69) hx hb dX6_next_55 rfl (fun q3 => ?_) (fun q3 => ?_)
          · have hR := hR.trans (if_pos q3)
            refine lv_iload_n hx hb dX6_next_69 rfl (lv_at hl 0 rfl) ?_
            refine lv_i2l hx hb dX6_next_70 rfl ?_
            refine lv_ldc2 (v := 48) hx hb hown (hts (.constantLong RX6 261 (48)) (by decide +kernel)) dX6_next_71 ?_
            refine lv_ldc2 (v := 57) hx hb hown (hts (.constantLong RX6 263 (57)) (by decide +kernel)) dX6_next_74 ?_
            refine xRoS (nL := 2) ⟨hx, hb, hml, hown, hts⟩ (c_X6_in l E a (uZ u0 6 (u0.2 5)) ((s_X6_here (uZ u0 6 (u0.2 5))).toInt64) 48 57) (va_cwS 3 hts gX6_next_X6_in rfl rfl rfl hd_X6_in ⟨(Nat.le_of_ble_eq_true rfl), (Nat.le_of_ble_eq_true rfl)⟩) hF hS hA hP rfl hl.1 rfl (Nat.le_of_ble_eq_true rfl) ⟨(Nat.le_of_ble_eq_true rfl), (Nat.le_of_ble_eq_true rfl)⟩ dX6_next_77 ?_
            refine W.eq (g2 := F0 m 80 ls [.int (s_X6_in u0 ((s_X6_here (uZ u0 6 (u0.2 5))).toInt64) 48 57)]) rfl ?_
            refine lv_if_ne (tgt := 89) hx hb dX6_next_80 rfl (fun q4 => ?_) (fun q4 => ?_)
            · have hR := hR.trans (if_neg q4)
              refine lv_aload_n hx hb dX6_next_89 rfl (lv_at hl 1 rfl) ?_
              refine lv_aload_n hx hb dX6_next_90 rfl (lv_at hl 1 rfl) ?_
              refine xMdV (nL := 2) ⟨hx, hb, hml, hown, hts⟩ (c_X6_numberHere l E a (uZ u0 6 (u0.2 5))  (hI0) hL) (cwV 0 hts gX6_next_X6_numberHere rfl rfl rfl ⟨rfl, hd_X6_numberHere⟩ ⟨(Nat.le_of_ble_eq_true rfl), (Nat.le_of_ble_eq_true rfl)⟩) hF hS hL.2 (fun _ h => h) hP (va_recv (q := (RX6, TX6, 28)) hK hP (ci := 6) rfl (q0 := 0) rfl) rfl hl.1 rfl (Nat.le_of_ble_eq_true rfl) ⟨(Nat.le_of_ble_eq_true rfl), (Nat.le_of_ble_eq_true rfl)⟩ dX6_next_91 (fun H locs hP _ hS => ?_)
              refine W.eq (g2 := F0 m 94 ls [.int ((s_X6_numberHere (uZ u0 6 (u0.2 5))).1), .ref (a 0)]) rfl ?_
              refine va_put (D := xD E) (ci := 6) (v := .int ((s_X6_numberHere (uZ u0 6 (u0.2 5))).1)) (ty := .int) (C := RX6) (T := TX6) (N := 28) hx hb hts (by decide +kernel) tyX6 tyX6_ok nmX6 hown hK hP (xD_of (ws := wM E a ((s_X6_numberHere (uZ u0 6 (u0.2 5))).2)) (A := (· ∈ LM a)) hL.1 (fun _ h => h)) hS 0 rfl rfl 24 (by decide) (hts (.fieldLink RX6 268 "RailOffsetsModel" "token" "I") (by decide +kernel)) (fun _ h => h) rfl (by decide +kernel) rfl rfl (Nat.le_of_ble_eq_true rfl) dX6_next_94 (fun H locs hP _ hS => ?_)
              have hP : va_P (xD E) vwCl (wM E a (uZ ((s_X6_numberHere (uZ u0 6 (u0.2 5))).2) 7 ((s_X6_numberHere (uZ u0 6 (u0.2 5))).1))) H := xwZ7 hP rfl
              refine lv_goto (tgt := 141) hx hb dX6_next_97 rfl ?_
              have hR : s_X6_next u = uZ ((s_X6_numberHere (uZ u0 6 (u0.2 5))).2) 7 ((s_X6_numberHere (uZ u0 6 (u0.2 5))).1) := hR
              exact W.vret hx hb hr (fun t ht _ => by rw [hR]; exact ⟨⟨rfl, by rw [ht]; exact hP⟩, hS.F ht⟩) hS.2.2 dX6_next_141
            · have hR := hR.trans (if_pos q4)
              refine lv_iload_n hx hb dX6_next_83 rfl (lv_at hl 0 rfl) ?_
              refine lv_bipush (v := 45) hx hb dX6_next_84 rfl ?_
              refine lv_icmp_ne (tgt := 100) hx hb dX6_next_86 rfl (fun q5 => ?_) (fun q5 => ?_)
              · have hR := hR.trans (if_neg q5)
                refine lv_iload_n hx hb dX6_next_100 rfl (lv_at hl 0 rfl) ?_
                refine lv_bipush (v := 59) hx hb dX6_next_101 rfl ?_
                refine lv_icmp_ne (tgt := 125) hx hb dX6_next_103 rfl (fun q6 => ?_) (fun q6 => ?_)
                · have hR := hR.trans (if_neg q6)
                  refine lv_aload_n hx hb dX6_next_125 rfl (lv_at hl 1 rfl) ?_
                  refine lv_iload_n hx hb dX6_next_126 rfl (lv_at hl 0 rfl) ?_
                  refine lv_iconst (v := (-1)) hx hb dX6_next_127 rfl ?_
                  have J7 : W p l e rm_X6_next s m ([.ref (a 0)] : List Value).toArray below meth c H locs 0 0 (xQmd E below (LM a) (none) (wM E a (s_X6_next u)) ([.ref (a 0)] : List Value).toArray s) (F0 m 138 ls [.int (if (s_X6_here (uZ u0 6 (u0.2 5))) = (-1) then 12 else 13), .ref (a 0)]) := by
                    refine va_put (D := xD E) (ci := 6) (v := .int (if (s_X6_here (uZ u0 6 (u0.2 5))) = (-1) then 12 else 13)) (ty := .int) (C := RX6) (T := TX6) (N := 28) hx hb hts (by decide +kernel) tyX6 tyX6_ok nmX6 hown hK hP (xD_of (ws := wM E a (uZ u0 6 (u0.2 5))) (A := (· ∈ LM a)) hL.1 (fun _ h => h)) hS 0 rfl rfl 24 (by decide) (hts (.fieldLink RX6 268 "RailOffsetsModel" "token" "I") (by decide +kernel)) (fun _ h => h) rfl (by decide +kernel) rfl rfl (Nat.le_of_ble_eq_true rfl) dX6_next_138 (fun H locs hP _ hS => ?_)
                    have hP : va_P (xD E) vwCl (wM E a (uZ (uZ u0 6 (u0.2 5)) 7 (if (s_X6_here (uZ u0 6 (u0.2 5))) = (-1) then 12 else 13))) H := hP
                    have hR : s_X6_next u = uZ (uZ u0 6 (u0.2 5)) 7 (if (s_X6_here (uZ u0 6 (u0.2 5))) = (-1) then 12 else 13) := hR
                    exact W.vret hx hb hr (fun t ht _ => by rw [hR]; exact ⟨⟨rfl, by rw [ht]; exact hP⟩, hS.F ht⟩) hS.2.2 dX6_next_141
                  refine lv_icmp_ne (tgt := 136) hx hb dX6_next_128 rfl (fun q8 => ?_) (fun q8 => ?_)
                  · refine lv_bipush (v := 13) hx hb dX6_next_136 rfl ?_
                    exact W.eq (congrArg (fun z => F0 m 138 ls [.int z, .ref (a 0)]) (if_neg q8).symm) J7
                  · refine lv_bipush (v := 12) hx hb dX6_next_131 rfl ?_
                    refine lv_goto (tgt := 138) hx hb dX6_next_133 rfl ?_
                    exact W.eq (congrArg (fun z => F0 m 138 ls [.int z, .ref (a 0)]) (if_pos q8).symm) J7
                · have hR := hR.trans (if_pos q6)
                  refine lv_aload_n hx hb dX6_next_106 rfl (lv_at hl 1 rfl) ?_
                  refine lv_bipush (v := 11) hx hb dX6_next_107 rfl ?_
                  refine va_put (D := xD E) (ci := 6) (v := .int 11) (ty := .int) (C := RX6) (T := TX6) (N := 28) hx hb hts (by decide +kernel) tyX6 tyX6_ok nmX6 hown hK hP (xD_of (ws := wM E a (uZ u0 6 (u0.2 5))) (A := (· ∈ LM a)) hL.1 (fun _ h => h)) hS 0 rfl rfl 24 (by decide) (hts (.fieldLink RX6 268 "RailOffsetsModel" "token" "I") (by decide +kernel)) (fun _ h => h) rfl (by decide +kernel) rfl rfl (Nat.le_of_ble_eq_true rfl) dX6_next_109 (fun H locs hP _ hS => ?_)
                  have hP : va_P (xD E) vwCl (wM E a (uZ (uZ u0 6 (u0.2 5)) 7 11)) H := hP
                  refine lv_aload_n hx hb dX6_next_112 rfl (lv_at hl 1 rfl) ?_
                  refine lv_dup hx hb dX6_next_113 rfl ?_
                  refine va_get (D := xD E) (ci := 6) (v := .int ((uZ (uZ u0 6 (u0.2 5)) 7 11).2 5)) (C := RX6) (T := TX6) (N := 28) hx hb hts (by decide +kernel) hown hK hP 0 rfl rfl 22 (by decide) (hts (.fieldLink RX6 245 "RailOffsetsModel" "at" "I") (by decide +kernel)) (fun _ h => h) rfl dX6_next_114 ?_
                  refine W.eq (g2 := F0 m 117 ls [.int (u0.2 5), .ref (a 0)]) rfl ?_
                  refine lv_iconst (v := 1) hx hb dX6_next_117 rfl ?_
                  refine lv_iadd hx hb dX6_next_118 ?_
                  refine va_put (D := xD E) (ci := 6) (v := .int ((u0.2 5) + 1)) (ty := .int) (C := RX6) (T := TX6) (N := 28) hx hb hts (by decide +kernel) tyX6 tyX6_ok nmX6 hown hK hP (xD_of (ws := wM E a (uZ (uZ u0 6 (u0.2 5)) 7 11)) (A := (· ∈ LM a)) hL.1 (fun _ h => h)) hS 0 rfl rfl 22 (by decide) (hts (.fieldLink RX6 245 "RailOffsetsModel" "at" "I") (by decide +kernel)) (fun _ h => h) rfl (by decide +kernel) rfl rfl (Nat.le_of_ble_eq_true rfl) dX6_next_119 (fun H locs hP _ hS => ?_)
                  have hP : va_P (xD E) vwCl (wM E a (uZ (uZ (uZ u0 6 (u0.2 5)) 7 11) 5 ((u0.2 5) + 1))) H := hP
                  refine lv_goto (tgt := 141) hx hb dX6_next_122 rfl ?_
                  have hR : s_X6_next u = uZ (uZ (uZ u0 6 (u0.2 5)) 7 11) 5 ((u0.2 5) + 1) := hR
                  exact W.vret hx hb hr (fun t ht _ => by rw [hR]; exact ⟨⟨rfl, by rw [ht]; exact hP⟩, hS.F ht⟩) hS.2.2 dX6_next_141
              · have hR := hR.trans (if_pos q5)
                refine lv_aload_n hx hb dX6_next_89 rfl (lv_at hl 1 rfl) ?_
                refine lv_aload_n hx hb dX6_next_90 rfl (lv_at hl 1 rfl) ?_
                refine xMdV (nL := 2) ⟨hx, hb, hml, hown, hts⟩ (c_X6_numberHere l E a (uZ u0 6 (u0.2 5))  (hI0) hL) (cwV 0 hts gX6_next_X6_numberHere rfl rfl rfl ⟨rfl, hd_X6_numberHere⟩ ⟨(Nat.le_of_ble_eq_true rfl), (Nat.le_of_ble_eq_true rfl)⟩) hF hS hL.2 (fun _ h => h) hP (va_recv (q := (RX6, TX6, 28)) hK hP (ci := 6) rfl (q0 := 0) rfl) rfl hl.1 rfl (Nat.le_of_ble_eq_true rfl) ⟨(Nat.le_of_ble_eq_true rfl), (Nat.le_of_ble_eq_true rfl)⟩ dX6_next_91 (fun H locs hP _ hS => ?_)
                refine W.eq (g2 := F0 m 94 ls [.int ((s_X6_numberHere (uZ u0 6 (u0.2 5))).1), .ref (a 0)]) rfl ?_
                refine va_put (D := xD E) (ci := 6) (v := .int ((s_X6_numberHere (uZ u0 6 (u0.2 5))).1)) (ty := .int) (C := RX6) (T := TX6) (N := 28) hx hb hts (by decide +kernel) tyX6 tyX6_ok nmX6 hown hK hP (xD_of (ws := wM E a ((s_X6_numberHere (uZ u0 6 (u0.2 5))).2)) (A := (· ∈ LM a)) hL.1 (fun _ h => h)) hS 0 rfl rfl 24 (by decide) (hts (.fieldLink RX6 268 "RailOffsetsModel" "token" "I") (by decide +kernel)) (fun _ h => h) rfl (by decide +kernel) rfl rfl (Nat.le_of_ble_eq_true rfl) dX6_next_94 (fun H locs hP _ hS => ?_)
                have hP : va_P (xD E) vwCl (wM E a (uZ ((s_X6_numberHere (uZ u0 6 (u0.2 5))).2) 7 ((s_X6_numberHere (uZ u0 6 (u0.2 5))).1))) H := xwZ7 hP rfl
                refine lv_goto (tgt := 141) hx hb dX6_next_97 rfl ?_
                have hR : s_X6_next u = uZ ((s_X6_numberHere (uZ u0 6 (u0.2 5))).2) 7 ((s_X6_numberHere (uZ u0 6 (u0.2 5))).1) := hR
                exact W.vret hx hb hr (fun t ht _ => by rw [hR]; exact ⟨⟨rfl, by rw [ht]; exact hP⟩, hS.F ht⟩) hS.2.2 dX6_next_141
          · have hR := hR.trans (if_neg q3)
            refine lv_aload_n hx hb dX6_next_58 rfl (lv_at hl 1 rfl) ?_
            refine lv_aload_n hx hb dX6_next_59 rfl (lv_at hl 1 rfl) ?_
            refine xMdV (nL := 2) ⟨hx, hb, hml, hown, hts⟩ (c_X6_wordHere l E a (uZ u0 6 (u0.2 5))  (xtw0 (u := u0) hI0) hL) (cwV 0 hts gX6_next_X6_wordHere rfl rfl rfl ⟨rfl, hd_X6_wordHere⟩ ⟨(Nat.le_of_ble_eq_true rfl), (Nat.le_of_ble_eq_true rfl)⟩) hF hS hL.2 (fun _ h => h) hP (va_recv (q := (RX6, TX6, 28)) hK hP (ci := 6) rfl (q0 := 0) rfl) rfl hl.1 rfl (Nat.le_of_ble_eq_true rfl) ⟨(Nat.le_of_ble_eq_true rfl), (Nat.le_of_ble_eq_true rfl)⟩ dX6_next_60 (fun H locs hP _ hS => ?_)
            refine W.eq (g2 := F0 m 63 ls [.int ((s_X6_wordHere (uZ u0 6 (u0.2 5))).1), .ref (a 0)]) rfl ?_
            refine va_put (D := xD E) (ci := 6) (v := .int ((s_X6_wordHere (uZ u0 6 (u0.2 5))).1)) (ty := .int) (C := RX6) (T := TX6) (N := 28) hx hb hts (by decide +kernel) tyX6 tyX6_ok nmX6 hown hK hP (xD_of (ws := wM E a ((s_X6_wordHere (uZ u0 6 (u0.2 5))).2)) (A := (· ∈ LM a)) hL.1 (fun _ h => h)) hS 0 rfl rfl 24 (by decide) (hts (.fieldLink RX6 268 "RailOffsetsModel" "token" "I") (by decide +kernel)) (fun _ h => h) rfl (by decide +kernel) rfl rfl (Nat.le_of_ble_eq_true rfl) dX6_next_63 (fun H locs hP _ hS => ?_)
            have hP : va_P (xD E) vwCl (wM E a (uZ ((s_X6_wordHere (uZ u0 6 (u0.2 5))).2) 7 ((s_X6_wordHere (uZ u0 6 (u0.2 5))).1))) H := xwZ7 hP rfl
            refine lv_goto (tgt := 141) hx hb dX6_next_66 rfl ?_
            have hR : s_X6_next u = uZ ((s_X6_wordHere (uZ u0 6 (u0.2 5))).2) 7 ((s_X6_wordHere (uZ u0 6 (u0.2 5))).1) := hR
            exact W.vret hx hb hr (fun t ht _ => by rw [hR]; exact ⟨⟨rfl, by rw [ht]; exact hP⟩, hS.F ht⟩) hS.2.2 dX6_next_141
        · have hR := hR.trans (if_pos q2)
          refine lv_aload_n hx hb dX6_next_18 rfl (lv_at hl 0 rfl) ?_
          refine lv_dup hx hb dX6_next_19 rfl ?_
          refine va_get (D := xD E) (ci := 6) (v := .int (u0.2 5)) (C := RX6) (T := TX6) (N := 28) hx hb hts (by decide +kernel) hown hK hP 0 rfl rfl 22 (by decide) (hts (.fieldLink RX6 245 "RailOffsetsModel" "at" "I") (by decide +kernel)) (fun _ h => h) rfl dX6_next_20 ?_
          refine lv_iconst (v := 1) hx hb dX6_next_23 rfl ?_
          refine lv_iadd hx hb dX6_next_24 ?_
          refine va_put (D := xD E) (ci := 6) (v := .int ((u0.2 5) + 1)) (ty := .int) (C := RX6) (T := TX6) (N := 28) hx hb hts (by decide +kernel) tyX6 tyX6_ok nmX6 hown hK hP (xD_of (ws := wM E a u0) (A := (· ∈ LM a)) hL.1 (fun _ h => h)) hS 0 rfl rfl 22 (by decide) (hts (.fieldLink RX6 245 "RailOffsetsModel" "at" "I") (by decide +kernel)) (fun _ h => h) rfl (by decide +kernel) rfl rfl (Nat.le_of_ble_eq_true rfl) dX6_next_25 (fun H locs hP _ hS => ?_)
          have hP : va_P (xD E) vwCl (wM E a (uZ u0 5 ((u0.2 5) + 1))) H := hP
          refine lv_goto (tgt := 0) hx hb dX6_next_28 rfl ?_
          exact ih0 (uZ u0 5 ((u0.2 5) + 1)) _ _ _ (xtq1 (u := u0) hI0 (by first | exact xheq (u := u0) q1 (by decide) | exact xheq (u := u0) q2 (by decide))) (Nat.lt_of_lt_of_le (xtd1 (u := u0) hI0 (by first | exact xheq (u := u0) q1 (by decide) | exact xheq (u := u0) q2 (by decide))) (Nat.le_of_lt_succ hM0)) hR (lv_sub hl [0] rfl) hP hS
  exact L0 (((u.2 4).toInt - (u.2 5).toInt).toNat + 1) u _ _ ls (hp0) (Nat.lt_succ_self _) hR hl hP hS
