/-! ===== the reference: which piece stands at a station ===== -/
def XPA (u : xU) : Prop := ∀ j : Nat, 1 ≤ j → (j : Int) ≤ (u.2 1).toInt → XP (u.1 5 j)
theorem xl65_pa (K : xU → Int32 → xU) (hK : ∀ w y, XW w → XI (w.2 1) y → XPA w → XPA (K w y)) : ∀ (n : Nat) (u : xU) (x1 x2 x3 x4 x5 x6 x7 : Int32), XW u → XK x1 x3 x7 (u.2 1) → XPA u → XPA (s_X6_lays_L65 K n u x1 x2 x3 x4 x5 x6 x7) := by
  intro n
  induction n with
  | zero => intro u x1 x2 x3 x4 x5 x6 x7 h h2 h3; exact h3
  | succ n ih =>
    intro u x1 x2 x3 x4 x5 x6 x7 h h2 h3
    rw [s_X6_lays_L65]
    split
    · rename_i q
      exact hK _ _ h (xlout h2 q) h3
    · rename_i q
      refine ih _ _ _ _ _ _ _ _ h (xkup h2 q) ?_
      intro j h1 hj
      have hk := xkup h2 q
      have hst := xk_st hk
      change (j : Int) ≤ (u.2 1 + 1).toInt at hj
      show XP (upd (u.1 5) (u.2 1 + 1).toInt.toNat x1 j)
      have e := xinc (k := u.2 1) (by have := (xk_st h2).1; have := (xk_st h2).2; omega)
      by_cases e2 : j = (u.2 1 + 1).toInt.toNat
      · rw [e2, pk_us]; exact h2.1
      · rw [pk_un e2]
        exact h3 j h1 (by have := (xk_st h2).1; omega)
theorem xl7_pa : ∀ (n : Nat) (u : xU) (x1 : Int32), XW u → XI (u.2 1) x1 → XPA u → XPA (s_X6_lays_L7 n u x1) := by
  intro n
  induction n with
  | zero => intro u x1 h h2 h3; exact h3
  | succ n ih =>
    intro u x1 h h2 h3
    rw [s_X6_lays_L7]
    split
    · exact h3
    · rename_i q
      exact xl65_pa _ (fun w y hw hy hz => ih w y hw hy hz) _ _ _ _ _ _ _ _ _ h (xkin h h2 q) h3
theorem xlays_pa {u : xU} (h : XW u) : XPA (s_X6_lays u) := xl7_pa _ _ _ h xi0 (fun j h1 h2 => by
  change (j : Int) ≤ (0 : Int32).toInt at h2
  rw [show (0 : Int32).toInt = 0 from rfl] at h2
  omega)
theorem xpas {u : xU} {s : Int32} (h : XPA u) (h1 : XS1 s) (q : ¬ u.2 1 < s) : XP (u.1 5 s.toNatClampNeg) := by
  rw [fa_lt] at q
  have h2 := h1.1
  refine h _ ?_ ?_
  · show 1 ≤ s.toInt.toNat
    omega
  · show (s.toInt.toNat : Int) ≤ _
    omega
theorem xjm {p : Int32} (h : XP p) (q : ¬ p ≤ 0) : XJ (p - 1) := by
  obtain ⟨h1, h2⟩ := h
  rw [fa_le, show (0 : Int32).toInt = 0 from rfl] at q
  refine ⟨?_, ?_⟩ <;> rw [xsub1i (by omega)] <;> omega
def s_X6_findsCauses (u : xU) (p1 : Int32) : xU :=
  if (s_X6_why u p1) = 1 then
    if (s_X6_abs (s_X6_isCaused (uZ u 2 0) 1) (s_X6_of0 (s_X6_isCaused (uZ u 2 0) 1) (u.1 5 p1.toNatClampNeg) 2)) ≤ 50 then
      if (s_X6_why u p1) = 2 then
        if (s_X6_why u p1) = 3 then
          if (u.1 5 p1.toNatClampNeg) ≤ 0 then
            s_X6_isCaused (s_X6_isCaused (uZ u 2 0) 1) 3
          else
            if (s_X6_firstOf (s_X6_isCaused (s_X6_isCaused (uZ u 2 0) 1) 3) (u.1 5 p1.toNatClampNeg)) = p1 then
              if (s_X6_versinesApart (s_X6_isCaused (s_X6_isCaused (s_X6_isCaused (uZ u 2 0) 1) 3) 4) ((u.1 5 p1.toNatClampNeg) - 1)) ≤ (s_X6_rule (s_X6_isCaused (s_X6_isCaused (s_X6_isCaused (uZ u 2 0) 1) 3) 4) 4) then
                s_X6_isCaused (s_X6_isCaused (s_X6_isCaused (uZ u 2 0) 1) 3) 4
              else
                s_X6_isCaused (s_X6_isCaused (s_X6_isCaused (s_X6_isCaused (uZ u 2 0) 1) 3) 4) 5
            else
              s_X6_isCaused (s_X6_isCaused (uZ u 2 0) 1) 3
        else
          s_X6_isCaused (s_X6_isCaused (uZ u 2 0) 1) 3
      else
        if (s_X6_why u p1) = 3 then
          if (u.1 5 p1.toNatClampNeg) ≤ 0 then
            s_X6_isCaused (uZ u 2 0) 1
          else
            if (s_X6_firstOf (s_X6_isCaused (uZ u 2 0) 1) (u.1 5 p1.toNatClampNeg)) = p1 then
              if (s_X6_versinesApart (s_X6_isCaused (s_X6_isCaused (uZ u 2 0) 1) 4) ((u.1 5 p1.toNatClampNeg) - 1)) ≤ (s_X6_rule (s_X6_isCaused (s_X6_isCaused (uZ u 2 0) 1) 4) 4) then
                s_X6_isCaused (s_X6_isCaused (uZ u 2 0) 1) 4
              else
                s_X6_isCaused (s_X6_isCaused (s_X6_isCaused (uZ u 2 0) 1) 4) 5
            else
              s_X6_isCaused (uZ u 2 0) 1
        else
          s_X6_isCaused (uZ u 2 0) 1
    else
      if (s_X6_why u p1) = 2 then
        if (s_X6_why u p1) = 3 then
          if (u.1 5 p1.toNatClampNeg) ≤ 0 then
            s_X6_isCaused (s_X6_isCaused (s_X6_isCaused (uZ u 2 0) 1) 2) 3
          else
            if (s_X6_firstOf (s_X6_isCaused (s_X6_isCaused (s_X6_isCaused (uZ u 2 0) 1) 2) 3) (u.1 5 p1.toNatClampNeg)) = p1 then
              if (s_X6_versinesApart (s_X6_isCaused (s_X6_isCaused (s_X6_isCaused (s_X6_isCaused (uZ u 2 0) 1) 2) 3) 4) ((u.1 5 p1.toNatClampNeg) - 1)) ≤ (s_X6_rule (s_X6_isCaused (s_X6_isCaused (s_X6_isCaused (s_X6_isCaused (uZ u 2 0) 1) 2) 3) 4) 4) then
                s_X6_isCaused (s_X6_isCaused (s_X6_isCaused (s_X6_isCaused (uZ u 2 0) 1) 2) 3) 4
              else
                s_X6_isCaused (s_X6_isCaused (s_X6_isCaused (s_X6_isCaused (s_X6_isCaused (uZ u 2 0) 1) 2) 3) 4) 5
            else
              s_X6_isCaused (s_X6_isCaused (s_X6_isCaused (uZ u 2 0) 1) 2) 3
        else
          s_X6_isCaused (s_X6_isCaused (s_X6_isCaused (uZ u 2 0) 1) 2) 3
      else
        if (s_X6_why u p1) = 3 then
          if (u.1 5 p1.toNatClampNeg) ≤ 0 then
            s_X6_isCaused (s_X6_isCaused (uZ u 2 0) 1) 2
          else
            if (s_X6_firstOf (s_X6_isCaused (s_X6_isCaused (uZ u 2 0) 1) 2) (u.1 5 p1.toNatClampNeg)) = p1 then
              if (s_X6_versinesApart (s_X6_isCaused (s_X6_isCaused (s_X6_isCaused (uZ u 2 0) 1) 2) 4) ((u.1 5 p1.toNatClampNeg) - 1)) ≤ (s_X6_rule (s_X6_isCaused (s_X6_isCaused (s_X6_isCaused (uZ u 2 0) 1) 2) 4) 4) then
                s_X6_isCaused (s_X6_isCaused (s_X6_isCaused (uZ u 2 0) 1) 2) 4
              else
                s_X6_isCaused (s_X6_isCaused (s_X6_isCaused (s_X6_isCaused (uZ u 2 0) 1) 2) 4) 5
            else
              s_X6_isCaused (s_X6_isCaused (uZ u 2 0) 1) 2
        else
          s_X6_isCaused (s_X6_isCaused (uZ u 2 0) 1) 2
  else
    if (s_X6_why u p1) = 2 then
      if (s_X6_why u p1) = 3 then
        if (u.1 5 p1.toNatClampNeg) ≤ 0 then
          s_X6_isCaused (s_X6_isCaused (uZ u 2 0) 1) 3
        else
          if (s_X6_firstOf (s_X6_isCaused (s_X6_isCaused (uZ u 2 0) 1) 3) (u.1 5 p1.toNatClampNeg)) = p1 then
            if (s_X6_versinesApart (s_X6_isCaused (s_X6_isCaused (s_X6_isCaused (uZ u 2 0) 1) 3) 4) ((u.1 5 p1.toNatClampNeg) - 1)) ≤ (s_X6_rule (s_X6_isCaused (s_X6_isCaused (s_X6_isCaused (uZ u 2 0) 1) 3) 4) 4) then
              s_X6_isCaused (s_X6_isCaused (s_X6_isCaused (uZ u 2 0) 1) 3) 4
            else
              s_X6_isCaused (s_X6_isCaused (s_X6_isCaused (s_X6_isCaused (uZ u 2 0) 1) 3) 4) 5
          else
            s_X6_isCaused (s_X6_isCaused (uZ u 2 0) 1) 3
      else
        s_X6_isCaused (s_X6_isCaused (uZ u 2 0) 1) 3
    else
      if (s_X6_why u p1) = 3 then
        if (u.1 5 p1.toNatClampNeg) ≤ 0 then
          s_X6_isCaused (uZ u 2 0) 1
        else
          if (s_X6_firstOf (s_X6_isCaused (uZ u 2 0) 1) (u.1 5 p1.toNatClampNeg)) = p1 then
            if (s_X6_versinesApart (s_X6_isCaused (s_X6_isCaused (uZ u 2 0) 1) 4) ((u.1 5 p1.toNatClampNeg) - 1)) ≤ (s_X6_rule (s_X6_isCaused (s_X6_isCaused (uZ u 2 0) 1) 4) 4) then
              s_X6_isCaused (s_X6_isCaused (uZ u 2 0) 1) 4
            else
              s_X6_isCaused (s_X6_isCaused (s_X6_isCaused (uZ u 2 0) 1) 4) 5
          else
            s_X6_isCaused (uZ u 2 0) 1
      else
        s_X6_isCaused (uZ u 2 0) 1
abbrev rm_X6_findsCauses : Room := { frames := 4, cells := 0, slots := 0, locals := 87 }
set_option maxHeartbeats 8000000 in
set_option maxRecDepth 100000 in
theorem c_X6_findsCauses (l : Launch) (E : xG) (a : Nat → Nat) (u : xU) (p1 : Int32) (hp0 : XW u) (hp1 : XS1 p1) (hp2 : XP (u.1 5 p1.toNatClampNeg)) (hL : xOK E (LM a)) : xMd l E yX6_findsCauses wsX6_findsCauses rm_X6_findsCauses (LM a) [.ref (a 0), .int p1] (wM E a u) (none) (wM E a (s_X6_findsCauses u p1)) := by
  refine xMd.of (cc := cX6_findsCauses) (maxL := 4) (ret := none) (by decide) rfl (Nat.le_of_ble_eq_true rfl) ?_
  intro p e s m below meth c ls hAt hF hP hS hl
  obtain ⟨hx, hb, hr, hml, hown, hts, hlocks, -⟩ := hAt
  have hown : s.vm.findClass RX6 = some m.cls := hown
  have hl : lv_has ls 4 [(0, .ref (a 0)), (1, .int p1)] := hl
  have hK := hF.1
  have hA := hL.2
  change W p l e rm_X6_findsCauses s m ([.ref (a 0), .int p1] : List Value).toArray below meth c s.heap [] 0 0 (xQmd E below (LM a) (none) (wM E a (s_X6_findsCauses u p1)) ([.ref (a 0), .int p1] : List Value).toArray s) _
  have hS : va_S (· ∈ LM a) s.heap s.heap [] := hS
  have hR : s_X6_findsCauses u p1 = s_X6_findsCauses u p1 := rfl
  refine lv_aload_n hx hb dX6_findsCauses_0 rfl (lv_at hl 0 rfl) ?_
  refine va_get (D := xD E) (ci := 6) (v := .ref (a 5)) (C := RX6) (T := TX6) (N := 28) hx hb hts (by decide +kernel) hown hK hP 0 rfl rfl 5 (by decide) (hts (.fieldLink RX6 24 "RailOffsetsModel" "pieceAt" "[I") (by decide +kernel)) (fun _ h => h) rfl dX6_findsCauses_1 ?_
  refine lv_iload_n hx hb dX6_findsCauses_4 rfl (lv_at hl 1 rfl) ?_
  refine va_iald hx hb hK hP 5 0 rfl rfl (xvst hp1.st) dX6_findsCauses_5 ?_
  refine lv_istore_n (lv' := [(2, .int (u.1 5 p1.toNatClampNeg)), (0, .ref (a 0)), (1, .int p1)]) hx hb dX6_findsCauses_6 rfl hl (by decide) rfl (fun ls hl => ?_)
  refine lv_aload_n hx hb dX6_findsCauses_7 rfl (lv_at hl 1 rfl) ?_
  refine lv_iload_n hx hb dX6_findsCauses_8 rfl (lv_at hl 2 rfl) ?_
  refine xRoV (nL := 4) ⟨hx, hb, hml, hown, hts⟩ (c_X6_why l E a u p1 (hp1)) (cwV 1 hts gX6_findsCauses_X6_why rfl rfl rfl ⟨rfl, hd_X6_why⟩ ⟨(Nat.le_of_ble_eq_true rfl), (Nat.le_of_ble_eq_true rfl)⟩) hF hS hA hP (va_recv (q := (RX6, TX6, 28)) hK hP (ci := 6) rfl (q0 := 0) rfl) rfl hl.1 rfl (Nat.le_of_ble_eq_true rfl) ⟨(Nat.le_of_ble_eq_true rfl), (Nat.le_of_ble_eq_true rfl)⟩ dX6_findsCauses_9 ?_
  refine W.eq (g2 := F0 m 12 ls [.int (s_X6_why u p1)]) rfl ?_
  refine lv_istore_n (lv' := [(3, .int (s_X6_why u p1)), (2, .int (u.1 5 p1.toNatClampNeg)), (0, .ref (a 0)), (1, .int p1)]) hx hb dX6_findsCauses_12 rfl hl (by decide) rfl (fun ls hl => ?_)
  refine lv_aload_n hx hb dX6_findsCauses_13 rfl (lv_at hl 2 rfl) ?_
  refine lv_iconst (v := 0) hx hb dX6_findsCauses_14 rfl ?_
  refine va_put (D := xD E) (ci := 6) (v := .int 0) (ty := .int) (C := RX6) (T := TX6) (N := 28) hx hb hts (by decide +kernel) tyX6 tyX6_ok nmX6 hown hK hP (xD_of (ws := wM E a u) (A := (· ∈ LM a)) hL.1 (fun _ h => h)) hS 0 rfl rfl 9 (by decide) (hts (.fieldLink RX6 172 "RailOffsetsModel" "causes" "I") (by decide +kernel)) (fun _ h => h) rfl (by decide +kernel) rfl rfl (Nat.le_of_ble_eq_true rfl) dX6_findsCauses_15 (fun H locs hP _ hS => ?_)
  have hP : va_P (xD E) vwCl (wM E a (uZ u 2 0)) H := hP
  refine lv_aload_n hx hb dX6_findsCauses_18 rfl (lv_at hl 2 rfl) ?_
  refine lv_iconst (v := 1) hx hb dX6_findsCauses_19 rfl ?_
  refine xMdV (nL := 4) ⟨hx, hb, hml, hown, hts⟩ (c_X6_isCaused l E a (uZ u 2 0) 1 hL) (cwV 1 hts gX6_findsCauses_X6_isCaused rfl rfl rfl ⟨rfl, hd_X6_isCaused⟩ ⟨(Nat.le_of_ble_eq_true rfl), (Nat.le_of_ble_eq_true rfl)⟩) hF hS hL.2 (fun _ h => h) hP (va_recv (q := (RX6, TX6, 28)) hK hP (ci := 6) rfl (q0 := 0) rfl) rfl hl.1 rfl (Nat.le_of_ble_eq_true rfl) ⟨(Nat.le_of_ble_eq_true rfl), (Nat.le_of_ble_eq_true rfl)⟩ dX6_findsCauses_20 (fun H locs hP _ hS => ?_)
  refine W.eq (g2 := F0 m 23 ls []) rfl ?_
  refine lv_iload_n hx hb dX6_findsCauses_23 rfl (lv_at hl 0 rfl) ?_
  refine lv_iconst (v := 1) hx hb dX6_findsCauses_24 rfl ?_
  refine lv_icmp_ne (tgt := 47) hx hb dX6_findsCauses_25 rfl (fun q1 => ?_) (fun q1 => ?_)
  · have hR := hR.trans (if_neg q1)
    refine lv_iload_n hx hb dX6_findsCauses_47 rfl (lv_at hl 0 rfl) ?_
    refine lv_iconst (v := 2) hx hb dX6_findsCauses_48 rfl ?_
    refine lv_icmp_ne (tgt := 57) hx hb dX6_findsCauses_49 rfl (fun q2 => ?_) (fun q2 => ?_)
    · have hR := hR.trans (if_neg q2)
      refine lv_iload_n hx hb dX6_findsCauses_57 rfl (lv_at hl 0 rfl) ?_
      refine lv_iconst (v := 3) hx hb dX6_findsCauses_58 rfl ?_
      refine lv_icmp_ne (tgt := 100) hx hb dX6_findsCauses_59 rfl (fun q3 => ?_) (fun q3 => ?_)
      · have hR := hR.trans (if_neg q3)
        have hR : s_X6_findsCauses u p1 = s_X6_isCaused (uZ u 2 0) 1 := hR
        exact W.vret hx hb hr (fun t ht _ => by rw [hR]; exact ⟨⟨rfl, by rw [ht]; exact hP⟩, hS.F ht⟩) hS.2.2 dX6_findsCauses_100
      · have hR := hR.trans (if_pos q3)
        refine lv_iload_n hx hb dX6_findsCauses_62 rfl (lv_at hl 1 rfl) ?_
        refine lv_if_le (tgt := 100) hx hb dX6_findsCauses_63 rfl (fun q4 => ?_) (fun q4 => ?_)
        · have hR := hR.trans (if_pos q4)
          have hR : s_X6_findsCauses u p1 = s_X6_isCaused (uZ u 2 0) 1 := hR
          exact W.vret hx hb hr (fun t ht _ => by rw [hR]; exact ⟨⟨rfl, by rw [ht]; exact hP⟩, hS.F ht⟩) hS.2.2 dX6_findsCauses_100
        · have hR := hR.trans (if_neg q4)
          refine lv_aload_n hx hb dX6_findsCauses_66 rfl (lv_at hl 2 rfl) ?_
          refine lv_iload_n hx hb dX6_findsCauses_67 rfl (lv_at hl 1 rfl) ?_
          refine xRoV (nL := 4) ⟨hx, hb, hml, hown, hts⟩ (c_X6_firstOf l E a (s_X6_isCaused (uZ u 2 0) 1) (u.1 5 p1.toNatClampNeg) (Int.le_of_lt hp2.2)) (cwV 1 hts gX6_findsCauses_X6_firstOf rfl rfl rfl ⟨rfl, hd_X6_firstOf⟩ ⟨(Nat.le_of_ble_eq_true rfl), (Nat.le_of_ble_eq_true rfl)⟩) hF hS hA hP (va_recv (q := (RX6, TX6, 28)) hK hP (ci := 6) rfl (q0 := 0) rfl) rfl hl.1 rfl (Nat.le_of_ble_eq_true rfl) ⟨(Nat.le_of_ble_eq_true rfl), (Nat.le_of_ble_eq_true rfl)⟩ dX6_findsCauses_68 ?_
          refine W.eq (g2 := F0 m 71 ls [.int (s_X6_firstOf (s_X6_isCaused (uZ u 2 0) 1) (u.1 5 p1.toNatClampNeg))]) rfl ?_
          refine lv_iload_n hx hb dX6_findsCauses_71 rfl (lv_at hl 3 rfl) ?_
          refine lv_icmp_ne (tgt := 100) hx hb dX6_findsCauses_72 rfl (fun q5 => ?_) (fun q5 => ?_)
          · have hR := hR.trans (if_neg q5)
            have hR : s_X6_findsCauses u p1 = s_X6_isCaused (uZ u 2 0) 1 := hR
            exact W.vret hx hb hr (fun t ht _ => by rw [hR]; exact ⟨⟨rfl, by rw [ht]; exact hP⟩, hS.F ht⟩) hS.2.2 dX6_findsCauses_100
          · have hR := hR.trans (if_pos q5)
            refine lv_aload_n hx hb dX6_findsCauses_75 rfl (lv_at hl 2 rfl) ?_
            refine lv_iconst (v := 4) hx hb dX6_findsCauses_76 rfl ?_
            refine xMdV (nL := 4) ⟨hx, hb, hml, hown, hts⟩ (c_X6_isCaused l E a (s_X6_isCaused (uZ u 2 0) 1) 4 hL) (cwV 1 hts gX6_findsCauses_X6_isCaused rfl rfl rfl ⟨rfl, hd_X6_isCaused⟩ ⟨(Nat.le_of_ble_eq_true rfl), (Nat.le_of_ble_eq_true rfl)⟩) hF hS hL.2 (fun _ h => h) hP (va_recv (q := (RX6, TX6, 28)) hK hP (ci := 6) rfl (q0 := 0) rfl) rfl hl.1 rfl (Nat.le_of_ble_eq_true rfl) ⟨(Nat.le_of_ble_eq_true rfl), (Nat.le_of_ble_eq_true rfl)⟩ dX6_findsCauses_77 (fun H locs hP _ hS => ?_)
            refine W.eq (g2 := F0 m 80 ls []) rfl ?_
            refine lv_aload_n hx hb dX6_findsCauses_80 rfl (lv_at hl 2 rfl) ?_
            refine lv_iload_n hx hb dX6_findsCauses_81 rfl (lv_at hl 1 rfl) ?_
            refine lv_iconst (v := 1) hx hb dX6_findsCauses_82 rfl ?_
            refine lv_isub hx hb dX6_findsCauses_83 ?_
            refine xRoV (nL := 4) ⟨hx, hb, hml, hown, hts⟩ (c_X6_versinesApart l E a (s_X6_isCaused (s_X6_isCaused (uZ u 2 0) 1) 4) ((u.1 5 p1.toNatClampNeg) - 1) (hp0) (by first | exact xjm hp2 q4 | exact xjm hp2 q8 | exact xjm hp2 q14 | exact xjm hp2 q18 | exact xjm hp2 q23 | exact xjm hp2 q27)) (cwV 1 hts gX6_findsCauses_X6_versinesApart rfl rfl rfl ⟨rfl, hd_X6_versinesApart⟩ ⟨(Nat.le_of_ble_eq_true rfl), (Nat.le_of_ble_eq_true rfl)⟩) hF hS hA hP (va_recv (q := (RX6, TX6, 28)) hK hP (ci := 6) rfl (q0 := 0) rfl) rfl hl.1 rfl (Nat.le_of_ble_eq_true rfl) ⟨(Nat.le_of_ble_eq_true rfl), (Nat.le_of_ble_eq_true rfl)⟩ dX6_findsCauses_84 ?_
            refine W.eq (g2 := F0 m 87 ls [.int (s_X6_versinesApart (s_X6_isCaused (s_X6_isCaused (uZ u 2 0) 1) 4) ((u.1 5 p1.toNatClampNeg) - 1))]) rfl ?_
            refine lv_aload_n hx hb dX6_findsCauses_87 rfl (lv_at hl 2 rfl) ?_
            refine lv_iconst (v := 4) hx hb dX6_findsCauses_88 rfl ?_
            refine xRoV (nL := 4) ⟨hx, hb, hml, hown, hts⟩ (c_X6_rule l E a (s_X6_isCaused (s_X6_isCaused (uZ u 2 0) 1) 4) 4 (xrul (by decide) (by decide))) (cwV 1 hts gX6_findsCauses_X6_rule rfl rfl rfl ⟨rfl, hd_X6_rule⟩ ⟨(Nat.le_of_ble_eq_true rfl), (Nat.le_of_ble_eq_true rfl)⟩) hF hS hA hP (va_recv (q := (RX6, TX6, 28)) hK hP (ci := 6) rfl (q0 := 0) rfl) rfl hl.1 rfl (Nat.le_of_ble_eq_true rfl) ⟨(Nat.le_of_ble_eq_true rfl), (Nat.le_of_ble_eq_true rfl)⟩ dX6_findsCauses_89 ?_
            refine W.eq (g2 := F0 m 92 ls [.int (s_X6_rule (s_X6_isCaused (s_X6_isCaused (uZ u 2 0) 1) 4) 4), .int (s_X6_versinesApart (s_X6_isCaused (s_X6_isCaused (uZ u 2 0) 1) 4) ((u.1 5 p1.toNatClampNeg) - 1))]) rfl ?_
            refine lv_icmp_le (tgt := 100) hx hb dX6_findsCauses_92 rfl (fun q6 => ?_) (fun q6 => ?_)
            · have hR := hR.trans (if_pos q6)
              have hR : s_X6_findsCauses u p1 = s_X6_isCaused (s_X6_isCaused (uZ u 2 0) 1) 4 := hR
              exact W.vret hx hb hr (fun t ht _ => by rw [hR]; exact ⟨⟨rfl, by rw [ht]; exact hP⟩, hS.F ht⟩) hS.2.2 dX6_findsCauses_100
            · have hR := hR.trans (if_neg q6)
              refine lv_aload_n hx hb dX6_findsCauses_95 rfl (lv_at hl 2 rfl) ?_
              refine lv_iconst (v := 5) hx hb dX6_findsCauses_96 rfl ?_
              refine xMdV (nL := 4) ⟨hx, hb, hml, hown, hts⟩ (c_X6_isCaused l E a (s_X6_isCaused (s_X6_isCaused (uZ u 2 0) 1) 4) 5 hL) (cwV 1 hts gX6_findsCauses_X6_isCaused rfl rfl rfl ⟨rfl, hd_X6_isCaused⟩ ⟨(Nat.le_of_ble_eq_true rfl), (Nat.le_of_ble_eq_true rfl)⟩) hF hS hL.2 (fun _ h => h) hP (va_recv (q := (RX6, TX6, 28)) hK hP (ci := 6) rfl (q0 := 0) rfl) rfl hl.1 rfl (Nat.le_of_ble_eq_true rfl) ⟨(Nat.le_of_ble_eq_true rfl), (Nat.le_of_ble_eq_true rfl)⟩ dX6_findsCauses_97 (fun H locs hP _ hS => ?_)
              refine W.eq (g2 := F0 m 100 ls []) rfl ?_
              have hR : s_X6_findsCauses u p1 = s_X6_isCaused (s_X6_isCaused (s_X6_isCaused (uZ u 2 0) 1) 4) 5 := hR
              exact W.vret hx hb hr (fun t ht _ => by rw [hR]; exact ⟨⟨rfl, by rw [ht]; exact hP⟩, hS.F ht⟩) hS.2.2 dX6_findsCauses_100
    · have hR := hR.trans (if_pos q2)
      refine lv_aload_n hx hb dX6_findsCauses_52 rfl (lv_at hl 2 rfl) ?_
      refine lv_iconst (v := 3) hx hb dX6_findsCauses_53 rfl ?_
      refine xMdV (nL := 4) ⟨hx, hb, hml, hown, hts⟩ (c_X6_isCaused l E a (s_X6_isCaused (uZ u 2 0) 1) 3 hL) (cwV 1 hts gX6_findsCauses_X6_isCaused rfl rfl rfl ⟨rfl, hd_X6_isCaused⟩ ⟨(Nat.le_of_ble_eq_true rfl), (Nat.le_of_ble_eq_true rfl)⟩) hF hS hL.2 (fun _ h => h) hP (va_recv (q := (RX6, TX6, 28)) hK hP (ci := 6) rfl (q0 := 0) rfl) rfl hl.1 rfl (Nat.le_of_ble_eq_true rfl) ⟨(Nat.le_of_ble_eq_true rfl), (Nat.le_of_ble_eq_true rfl)⟩ dX6_findsCauses_54 (fun H locs hP _ hS => ?_)
      refine W.eq (g2 := F0 m 57 ls []) rfl ?_
      refine lv_iload_n hx hb dX6_findsCauses_57 rfl (lv_at hl 0 rfl) ?_
      refine lv_iconst (v := 3) hx hb dX6_findsCauses_58 rfl ?_
      refine lv_icmp_ne (tgt := 100) hx hb dX6_findsCauses_59 rfl (fun q7 => ?_) (fun q7 => ?_)
      · have hR := hR.trans (if_neg q7)
        have hR : s_X6_findsCauses u p1 = s_X6_isCaused (s_X6_isCaused (uZ u 2 0) 1) 3 := hR
        exact W.vret hx hb hr (fun t ht _ => by rw [hR]; exact ⟨⟨rfl, by rw [ht]; exact hP⟩, hS.F ht⟩) hS.2.2 dX6_findsCauses_100
      · have hR := hR.trans (if_pos q7)
        refine lv_iload_n hx hb dX6_findsCauses_62 rfl (lv_at hl 1 rfl) ?_
        refine lv_if_le (tgt := 100) hx hb dX6_findsCauses_63 rfl (fun q8 => ?_) (fun q8 => ?_)
        · have hR := hR.trans (if_pos q8)
          have hR : s_X6_findsCauses u p1 = s_X6_isCaused (s_X6_isCaused (uZ u 2 0) 1) 3 := hR
          exact W.vret hx hb hr (fun t ht _ => by rw [hR]; exact ⟨⟨rfl, by rw [ht]; exact hP⟩, hS.F ht⟩) hS.2.2 dX6_findsCauses_100
        · have hR := hR.trans (if_neg q8)
          refine lv_aload_n hx hb dX6_findsCauses_66 rfl (lv_at hl 2 rfl) ?_
          refine lv_iload_n hx hb dX6_findsCauses_67 rfl (lv_at hl 1 rfl) ?_
          refine xRoV (nL := 4) ⟨hx, hb, hml, hown, hts⟩ (c_X6_firstOf l E a (s_X6_isCaused (s_X6_isCaused (uZ u 2 0) 1) 3) (u.1 5 p1.toNatClampNeg) (Int.le_of_lt hp2.2)) (cwV 1 hts gX6_findsCauses_X6_firstOf rfl rfl rfl ⟨rfl, hd_X6_firstOf⟩ ⟨(Nat.le_of_ble_eq_true rfl), (Nat.le_of_ble_eq_true rfl)⟩) hF hS hA hP (va_recv (q := (RX6, TX6, 28)) hK hP (ci := 6) rfl (q0 := 0) rfl) rfl hl.1 rfl (Nat.le_of_ble_eq_true rfl) ⟨(Nat.le_of_ble_eq_true rfl), (Nat.le_of_ble_eq_true rfl)⟩ dX6_findsCauses_68 ?_
          refine W.eq (g2 := F0 m 71 ls [.int (s_X6_firstOf (s_X6_isCaused (s_X6_isCaused (uZ u 2 0) 1) 3) (u.1 5 p1.toNatClampNeg))]) rfl ?_
          refine lv_iload_n hx hb dX6_findsCauses_71 rfl (lv_at hl 3 rfl) ?_
          refine lv_icmp_ne (tgt := 100) hx hb dX6_findsCauses_72 rfl (fun q9 => ?_) (fun q9 => ?_)
          · have hR := hR.trans (if_neg q9)
            have hR : s_X6_findsCauses u p1 = s_X6_isCaused (s_X6_isCaused (uZ u 2 0) 1) 3 := hR
            exact W.vret hx hb hr (fun t ht _ => by rw [hR]; exact ⟨⟨rfl, by rw [ht]; exact hP⟩, hS.F ht⟩) hS.2.2 dX6_findsCauses_100
          · have hR := hR.trans (if_pos q9)
            refine lv_aload_n hx hb dX6_findsCauses_75 rfl (lv_at hl 2 rfl) ?_
            refine lv_iconst (v := 4) hx hb dX6_findsCauses_76 rfl ?_
            refine xMdV (nL := 4) ⟨hx, hb, hml, hown, hts⟩ (c_X6_isCaused l E a (s_X6_isCaused (s_X6_isCaused (uZ u 2 0) 1) 3) 4 hL) (cwV 1 hts gX6_findsCauses_X6_isCaused rfl rfl rfl ⟨rfl, hd_X6_isCaused⟩ ⟨(Nat.le_of_ble_eq_true rfl), (Nat.le_of_ble_eq_true rfl)⟩) hF hS hL.2 (fun _ h => h) hP (va_recv (q := (RX6, TX6, 28)) hK hP (ci := 6) rfl (q0 := 0) rfl) rfl hl.1 rfl (Nat.le_of_ble_eq_true rfl) ⟨(Nat.le_of_ble_eq_true rfl), (Nat.le_of_ble_eq_true rfl)⟩ dX6_findsCauses_77 (fun H locs hP _ hS => ?_)
            refine W.eq (g2 := F0 m 80 ls []) rfl ?_
            refine lv_aload_n hx hb dX6_findsCauses_80 rfl (lv_at hl 2 rfl) ?_
            refine lv_iload_n hx hb dX6_findsCauses_81 rfl (lv_at hl 1 rfl) ?_
            refine lv_iconst (v := 1) hx hb dX6_findsCauses_82 rfl ?_
            refine lv_isub hx hb dX6_findsCauses_83 ?_
            refine xRoV (nL := 4) ⟨hx, hb, hml, hown, hts⟩ (c_X6_versinesApart l E a (s_X6_isCaused (s_X6_isCaused (s_X6_isCaused (uZ u 2 0) 1) 3) 4) ((u.1 5 p1.toNatClampNeg) - 1) (hp0) (by first | exact xjm hp2 q4 | exact xjm hp2 q8 | exact xjm hp2 q14 | exact xjm hp2 q18 | exact xjm hp2 q23 | exact xjm hp2 q27)) (cwV 1 hts gX6_findsCauses_X6_versinesApart rfl rfl rfl ⟨rfl, hd_X6_versinesApart⟩ ⟨(Nat.le_of_ble_eq_true rfl), (Nat.le_of_ble_eq_true rfl)⟩) hF hS hA hP (va_recv (q := (RX6, TX6, 28)) hK hP (ci := 6) rfl (q0 := 0) rfl) rfl hl.1 rfl (Nat.le_of_ble_eq_true rfl) ⟨(Nat.le_of_ble_eq_true rfl), (Nat.le_of_ble_eq_true rfl)⟩ dX6_findsCauses_84 ?_
            refine W.eq (g2 := F0 m 87 ls [.int (s_X6_versinesApart (s_X6_isCaused (s_X6_isCaused (s_X6_isCaused (uZ u 2 0) 1) 3) 4) ((u.1 5 p1.toNatClampNeg) - 1))]) rfl ?_
            refine lv_aload_n hx hb dX6_findsCauses_87 rfl (lv_at hl 2 rfl) ?_
            refine lv_iconst (v := 4) hx hb dX6_findsCauses_88 rfl ?_
            refine xRoV (nL := 4) ⟨hx, hb, hml, hown, hts⟩ (c_X6_rule l E a (s_X6_isCaused (s_X6_isCaused (s_X6_isCaused (uZ u 2 0) 1) 3) 4) 4 (xrul (by decide) (by decide))) (cwV 1 hts gX6_findsCauses_X6_rule rfl rfl rfl ⟨rfl, hd_X6_rule⟩ ⟨(Nat.le_of_ble_eq_true rfl), (Nat.le_of_ble_eq_true rfl)⟩) hF hS hA hP (va_recv (q := (RX6, TX6, 28)) hK hP (ci := 6) rfl (q0 := 0) rfl) rfl hl.1 rfl (Nat.le_of_ble_eq_true rfl) ⟨(Nat.le_of_ble_eq_true rfl), (Nat.le_of_ble_eq_true rfl)⟩ dX6_findsCauses_89 ?_
            refine W.eq (g2 := F0 m 92 ls [.int (s_X6_rule (s_X6_isCaused (s_X6_isCaused (s_X6_isCaused (uZ u 2 0) 1) 3) 4) 4), .int (s_X6_versinesApart (s_X6_isCaused (s_X6_isCaused (s_X6_isCaused (uZ u 2 0) 1) 3) 4) ((u.1 5 p1.toNatClampNeg) - 1))]) rfl ?_
            refine lv_icmp_le (tgt := 100) hx hb dX6_findsCauses_92 rfl (fun q10 => ?_) (fun q10 => ?_)
            · have hR := hR.trans (if_pos q10)
              have hR : s_X6_findsCauses u p1 = s_X6_isCaused (s_X6_isCaused (s_X6_isCaused (uZ u 2 0) 1) 3) 4 := hR
              exact W.vret hx hb hr (fun t ht _ => by rw [hR]; exact ⟨⟨rfl, by rw [ht]; exact hP⟩, hS.F ht⟩) hS.2.2 dX6_findsCauses_100
            · have hR := hR.trans (if_neg q10)
              refine lv_aload_n hx hb dX6_findsCauses_95 rfl (lv_at hl 2 rfl) ?_
              refine lv_iconst (v := 5) hx hb dX6_findsCauses_96 rfl ?_
              refine xMdV (nL := 4) ⟨hx, hb, hml, hown, hts⟩ (c_X6_isCaused l E a (s_X6_isCaused (s_X6_isCaused (s_X6_isCaused (uZ u 2 0) 1) 3) 4) 5 hL) (cwV 1 hts gX6_findsCauses_X6_isCaused rfl rfl rfl ⟨rfl, hd_X6_isCaused⟩ ⟨(Nat.le_of_ble_eq_true rfl), (Nat.le_of_ble_eq_true rfl)⟩) hF hS hL.2 (fun _ h => h) hP (va_recv (q := (RX6, TX6, 28)) hK hP (ci := 6) rfl (q0 := 0) rfl) rfl hl.1 rfl (Nat.le_of_ble_eq_true rfl) ⟨(Nat.le_of_ble_eq_true rfl), (Nat.le_of_ble_eq_true rfl)⟩ dX6_findsCauses_97 (fun H locs hP _ hS => ?_)
              refine W.eq (g2 := F0 m 100 ls []) rfl ?_
              have hR : s_X6_findsCauses u p1 = s_X6_isCaused (s_X6_isCaused (s_X6_isCaused (s_X6_isCaused (uZ u 2 0) 1) 3) 4) 5 := hR
              exact W.vret hx hb hr (fun t ht _ => by rw [hR]; exact ⟨⟨rfl, by rw [ht]; exact hP⟩, hS.F ht⟩) hS.2.2 dX6_findsCauses_100
  · have hR := hR.trans (if_pos q1)
    refine lv_aload_n hx hb dX6_findsCauses_28 rfl (lv_at hl 2 rfl) ?_
    refine lv_iload_n hx hb dX6_findsCauses_29 rfl (lv_at hl 1 rfl) ?_
    refine lv_iconst (v := 2) hx hb dX6_findsCauses_30 rfl ?_
    refine xRoV (nL := 4) ⟨hx, hb, hml, hown, hts⟩ (c_X6_of0 l E a (s_X6_isCaused (uZ u 2 0) 1) (u.1 5 p1.toNatClampNeg) 2 (xof hp2 (by decide) (by decide))) (cwV 2 hts gX6_findsCauses_X6_of0 rfl rfl rfl ⟨rfl, hd_X6_of0⟩ ⟨(Nat.le_of_ble_eq_true rfl), (Nat.le_of_ble_eq_true rfl)⟩) hF hS hA hP (va_recv (q := (RX6, TX6, 28)) hK hP (ci := 6) rfl (q0 := 0) rfl) rfl hl.1 rfl (Nat.le_of_ble_eq_true rfl) ⟨(Nat.le_of_ble_eq_true rfl), (Nat.le_of_ble_eq_true rfl)⟩ dX6_findsCauses_31 ?_
    refine W.eq (g2 := F0 m 34 ls [.int (s_X6_of0 (s_X6_isCaused (uZ u 2 0) 1) (u.1 5 p1.toNatClampNeg) 2)]) rfl ?_
    refine xRoS (nL := 4) ⟨hx, hb, hml, hown, hts⟩ (c_X6_abs l E a (s_X6_isCaused (uZ u 2 0) 1) (s_X6_of0 (s_X6_isCaused (uZ u 2 0) 1) (u.1 5 p1.toNatClampNeg) 2)) (va_cwS 1 hts gX6_findsCauses_X6_abs rfl rfl rfl hd_X6_abs ⟨(Nat.le_of_ble_eq_true rfl), (Nat.le_of_ble_eq_true rfl)⟩) hF hS hA hP rfl hl.1 rfl (Nat.le_of_ble_eq_true rfl) ⟨(Nat.le_of_ble_eq_true rfl), (Nat.le_of_ble_eq_true rfl)⟩ dX6_findsCauses_34 ?_
    refine W.eq (g2 := F0 m 37 ls [.int (s_X6_abs (s_X6_isCaused (uZ u 2 0) 1) (s_X6_of0 (s_X6_isCaused (uZ u 2 0) 1) (u.1 5 p1.toNatClampNeg) 2))]) rfl ?_
    refine lv_bipush (v := 50) hx hb dX6_findsCauses_37 rfl ?_
    refine lv_icmp_le (tgt := 47) hx hb dX6_findsCauses_39 rfl (fun q11 => ?_) (fun q11 => ?_)
    · have hR := hR.trans (if_pos q11)
      refine lv_iload_n hx hb dX6_findsCauses_47 rfl (lv_at hl 0 rfl) ?_
      refine lv_iconst (v := 2) hx hb dX6_findsCauses_48 rfl ?_
      refine lv_icmp_ne (tgt := 57) hx hb dX6_findsCauses_49 rfl (fun q12 => ?_) (fun q12 => ?_)
      · have hR := hR.trans (if_neg q12)
        refine lv_iload_n hx hb dX6_findsCauses_57 rfl (lv_at hl 0 rfl) ?_
        refine lv_iconst (v := 3) hx hb dX6_findsCauses_58 rfl ?_
        refine lv_icmp_ne (tgt := 100) hx hb dX6_findsCauses_59 rfl (fun q13 => ?_) (fun q13 => ?_)
        · have hR := hR.trans (if_neg q13)
          have hR : s_X6_findsCauses u p1 = s_X6_isCaused (uZ u 2 0) 1 := hR
          exact W.vret hx hb hr (fun t ht _ => by rw [hR]; exact ⟨⟨rfl, by rw [ht]; exact hP⟩, hS.F ht⟩) hS.2.2 dX6_findsCauses_100
        · have hR := hR.trans (if_pos q13)
          refine lv_iload_n hx hb dX6_findsCauses_62 rfl (lv_at hl 1 rfl) ?_
          refine lv_if_le (tgt := 100) hx hb dX6_findsCauses_63 rfl (fun q14 => ?_) (fun q14 => ?_)
          · have hR := hR.trans (if_pos q14)
            have hR : s_X6_findsCauses u p1 = s_X6_isCaused (uZ u 2 0) 1 := hR
            exact W.vret hx hb hr (fun t ht _ => by rw [hR]; exact ⟨⟨rfl, by rw [ht]; exact hP⟩, hS.F ht⟩) hS.2.2 dX6_findsCauses_100
          · have hR := hR.trans (if_neg q14)
            refine lv_aload_n hx hb dX6_findsCauses_66 rfl (lv_at hl 2 rfl) ?_
            refine lv_iload_n hx hb dX6_findsCauses_67 rfl (lv_at hl 1 rfl) ?_
            refine xRoV (nL := 4) ⟨hx, hb, hml, hown, hts⟩ (c_X6_firstOf l E a (s_X6_isCaused (uZ u 2 0) 1) (u.1 5 p1.toNatClampNeg) (Int.le_of_lt hp2.2)) (cwV 1 hts gX6_findsCauses_X6_firstOf rfl rfl rfl ⟨rfl, hd_X6_firstOf⟩ ⟨(Nat.le_of_ble_eq_true rfl), (Nat.le_of_ble_eq_true rfl)⟩) hF hS hA hP (va_recv (q := (RX6, TX6, 28)) hK hP (ci := 6) rfl (q0 := 0) rfl) rfl hl.1 rfl (Nat.le_of_ble_eq_true rfl) ⟨(Nat.le_of_ble_eq_true rfl), (Nat.le_of_ble_eq_true rfl)⟩ dX6_findsCauses_68 ?_
            refine W.eq (g2 := F0 m 71 ls [.int (s_X6_firstOf (s_X6_isCaused (uZ u 2 0) 1) (u.1 5 p1.toNatClampNeg))]) rfl ?_
            refine lv_iload_n hx hb dX6_findsCauses_71 rfl (lv_at hl 3 rfl) ?_
            refine lv_icmp_ne (tgt := 100) hx hb dX6_findsCauses_72 rfl (fun q15 => ?_) (fun q15 => ?_)
            · have hR := hR.trans (if_neg q15)
              have hR : s_X6_findsCauses u p1 = s_X6_isCaused (uZ u 2 0) 1 := hR
              exact W.vret hx hb hr (fun t ht _ => by rw [hR]; exact ⟨⟨rfl, by rw [ht]; exact hP⟩, hS.F ht⟩) hS.2.2 dX6_findsCauses_100
            · have hR := hR.trans (if_pos q15)
              refine lv_aload_n hx hb dX6_findsCauses_75 rfl (lv_at hl 2 rfl) ?_
              refine lv_iconst (v := 4) hx hb dX6_findsCauses_76 rfl ?_
              refine xMdV (nL := 4) ⟨hx, hb, hml, hown, hts⟩ (c_X6_isCaused l E a (s_X6_isCaused (uZ u 2 0) 1) 4 hL) (cwV 1 hts gX6_findsCauses_X6_isCaused rfl rfl rfl ⟨rfl, hd_X6_isCaused⟩ ⟨(Nat.le_of_ble_eq_true rfl), (Nat.le_of_ble_eq_true rfl)⟩) hF hS hL.2 (fun _ h => h) hP (va_recv (q := (RX6, TX6, 28)) hK hP (ci := 6) rfl (q0 := 0) rfl) rfl hl.1 rfl (Nat.le_of_ble_eq_true rfl) ⟨(Nat.le_of_ble_eq_true rfl), (Nat.le_of_ble_eq_true rfl)⟩ dX6_findsCauses_77 (fun H locs hP _ hS => ?_)
              refine W.eq (g2 := F0 m 80 ls []) rfl ?_
              refine lv_aload_n hx hb dX6_findsCauses_80 rfl (lv_at hl 2 rfl) ?_
              refine lv_iload_n hx hb dX6_findsCauses_81 rfl (lv_at hl 1 rfl) ?_
              refine lv_iconst (v := 1) hx hb dX6_findsCauses_82 rfl ?_
              refine lv_isub hx hb dX6_findsCauses_83 ?_
              refine xRoV (nL := 4) ⟨hx, hb, hml, hown, hts⟩ (c_X6_versinesApart l E a (s_X6_isCaused (s_X6_isCaused (uZ u 2 0) 1) 4) ((u.1 5 p1.toNatClampNeg) - 1) (hp0) (by first | exact xjm hp2 q4 | exact xjm hp2 q8 | exact xjm hp2 q14 | exact xjm hp2 q18 | exact xjm hp2 q23 | exact xjm hp2 q27)) (cwV 1 hts gX6_findsCauses_X6_versinesApart rfl rfl rfl ⟨rfl, hd_X6_versinesApart⟩ ⟨(Nat.le_of_ble_eq_true rfl), (Nat.le_of_ble_eq_true rfl)⟩) hF hS hA hP (va_recv (q := (RX6, TX6, 28)) hK hP (ci := 6) rfl (q0 := 0) rfl) rfl hl.1 rfl (Nat.le_of_ble_eq_true rfl) ⟨(Nat.le_of_ble_eq_true rfl), (Nat.le_of_ble_eq_true rfl)⟩ dX6_findsCauses_84 ?_
              refine W.eq (g2 := F0 m 87 ls [.int (s_X6_versinesApart (s_X6_isCaused (s_X6_isCaused (uZ u 2 0) 1) 4) ((u.1 5 p1.toNatClampNeg) - 1))]) rfl ?_
              refine lv_aload_n hx hb dX6_findsCauses_87 rfl (lv_at hl 2 rfl) ?_
              refine lv_iconst (v := 4) hx hb dX6_findsCauses_88 rfl ?_
              refine xRoV (nL := 4) ⟨hx, hb, hml, hown, hts⟩ (c_X6_rule l E a (s_X6_isCaused (s_X6_isCaused (uZ u 2 0) 1) 4) 4 (xrul (by decide) (by decide))) (cwV 1 hts gX6_findsCauses_X6_rule rfl rfl rfl ⟨rfl, hd_X6_rule⟩ ⟨(Nat.le_of_ble_eq_true rfl), (Nat.le_of_ble_eq_true rfl)⟩) hF hS hA hP (va_recv (q := (RX6, TX6, 28)) hK hP (ci := 6) rfl (q0 := 0) rfl) rfl hl.1 rfl (Nat.le_of_ble_eq_true rfl) ⟨(Nat.le_of_ble_eq_true rfl), (Nat.le_of_ble_eq_true rfl)⟩ dX6_findsCauses_89 ?_
              refine W.eq (g2 := F0 m 92 ls [.int (s_X6_rule (s_X6_isCaused (s_X6_isCaused (uZ u 2 0) 1) 4) 4), .int (s_X6_versinesApart (s_X6_isCaused (s_X6_isCaused (uZ u 2 0) 1) 4) ((u.1 5 p1.toNatClampNeg) - 1))]) rfl ?_
              refine lv_icmp_le (tgt := 100) hx hb dX6_findsCauses_92 rfl (fun q16 => ?_) (fun q16 => ?_)
              · have hR := hR.trans (if_pos q16)
                have hR : s_X6_findsCauses u p1 = s_X6_isCaused (s_X6_isCaused (uZ u 2 0) 1) 4 := hR
                exact W.vret hx hb hr (fun t ht _ => by rw [hR]; exact ⟨⟨rfl, by rw [ht]; exact hP⟩, hS.F ht⟩) hS.2.2 dX6_findsCauses_100
              · have hR := hR.trans (if_neg q16)
                refine lv_aload_n hx hb dX6_findsCauses_95 rfl (lv_at hl 2 rfl) ?_
                refine lv_iconst (v := 5) hx hb dX6_findsCauses_96 rfl ?_
                refine xMdV (nL := 4) ⟨hx, hb, hml, hown, hts⟩ (c_X6_isCaused l E a (s_X6_isCaused (s_X6_isCaused (uZ u 2 0) 1) 4) 5 hL) (cwV 1 hts gX6_findsCauses_X6_isCaused rfl rfl rfl ⟨rfl, hd_X6_isCaused⟩ ⟨(Nat.le_of_ble_eq_true rfl), (Nat.le_of_ble_eq_true rfl)⟩) hF hS hL.2 (fun _ h => h) hP (va_recv (q := (RX6, TX6, 28)) hK hP (ci := 6) rfl (q0 := 0) rfl) rfl hl.1 rfl (Nat.le_of_ble_eq_true rfl) ⟨(Nat.le_of_ble_eq_true rfl), (Nat.le_of_ble_eq_true rfl)⟩ dX6_findsCauses_97 (fun H locs hP _ hS => ?_)
                refine W.eq (g2 := F0 m 100 ls []) rfl ?_
                have hR : s_X6_findsCauses u p1 = s_X6_isCaused (s_X6_isCaused (s_X6_isCaused (uZ u 2 0) 1) 4) 5 := hR
                exact W.vret hx hb hr (fun t ht _ => by rw [hR]; exact ⟨⟨rfl, by rw [ht]; exact hP⟩, hS.F ht⟩) hS.2.2 dX6_findsCauses_100
      · have hR := hR.trans (if_pos q12)
        refine lv_aload_n hx hb dX6_findsCauses_52 rfl (lv_at hl 2 rfl) ?_
        refine lv_iconst (v := 3) hx hb dX6_findsCauses_53 rfl ?_
        refine xMdV (nL := 4) ⟨hx, hb, hml, hown, hts⟩ (c_X6_isCaused l E a (s_X6_isCaused (uZ u 2 0) 1) 3 hL) (cwV 1 hts gX6_findsCauses_X6_isCaused rfl rfl rfl ⟨rfl, hd_X6_isCaused⟩ ⟨(Nat.le_of_ble_eq_true rfl), (Nat.le_of_ble_eq_true rfl)⟩) hF hS hL.2 (fun _ h => h) hP (va_recv (q := (RX6, TX6, 28)) hK hP (ci := 6) rfl (q0 := 0) rfl) rfl hl.1 rfl (Nat.le_of_ble_eq_true rfl) ⟨(Nat.le_of_ble_eq_true rfl), (Nat.le_of_ble_eq_true rfl)⟩ dX6_findsCauses_54 (fun H locs hP _ hS => ?_)
        refine W.eq (g2 := F0 m 57 ls []) rfl ?_
        refine lv_iload_n hx hb dX6_findsCauses_57 rfl (lv_at hl 0 rfl) ?_
        refine lv_iconst (v := 3) hx hb dX6_findsCauses_58 rfl ?_
        refine lv_icmp_ne (tgt := 100) hx hb dX6_findsCauses_59 rfl (fun q17 => ?_) (fun q17 => ?_)
        · have hR := hR.trans (if_neg q17)
          have hR : s_X6_findsCauses u p1 = s_X6_isCaused (s_X6_isCaused (uZ u 2 0) 1) 3 := hR
          exact W.vret hx hb hr (fun t ht _ => by rw [hR]; exact ⟨⟨rfl, by rw [ht]; exact hP⟩, hS.F ht⟩) hS.2.2 dX6_findsCauses_100
        · have hR := hR.trans (if_pos q17)
          refine lv_iload_n hx hb dX6_findsCauses_62 rfl (lv_at hl 1 rfl) ?_
          refine lv_if_le (tgt := 100) hx hb dX6_findsCauses_63 rfl (fun q18 => ?_) (fun q18 => ?_)
          · have hR := hR.trans (if_pos q18)
            have hR : s_X6_findsCauses u p1 = s_X6_isCaused (s_X6_isCaused (uZ u 2 0) 1) 3 := hR
            exact W.vret hx hb hr (fun t ht _ => by rw [hR]; exact ⟨⟨rfl, by rw [ht]; exact hP⟩, hS.F ht⟩) hS.2.2 dX6_findsCauses_100
          · have hR := hR.trans (if_neg q18)
            refine lv_aload_n hx hb dX6_findsCauses_66 rfl (lv_at hl 2 rfl) ?_
            refine lv_iload_n hx hb dX6_findsCauses_67 rfl (lv_at hl 1 rfl) ?_
            refine xRoV (nL := 4) ⟨hx, hb, hml, hown, hts⟩ (c_X6_firstOf l E a (s_X6_isCaused (s_X6_isCaused (uZ u 2 0) 1) 3) (u.1 5 p1.toNatClampNeg) (Int.le_of_lt hp2.2)) (cwV 1 hts gX6_findsCauses_X6_firstOf rfl rfl rfl ⟨rfl, hd_X6_firstOf⟩ ⟨(Nat.le_of_ble_eq_true rfl), (Nat.le_of_ble_eq_true rfl)⟩) hF hS hA hP (va_recv (q := (RX6, TX6, 28)) hK hP (ci := 6) rfl (q0 := 0) rfl) rfl hl.1 rfl (Nat.le_of_ble_eq_true rfl) ⟨(Nat.le_of_ble_eq_true rfl), (Nat.le_of_ble_eq_true rfl)⟩ dX6_findsCauses_68 ?_
            refine W.eq (g2 := F0 m 71 ls [.int (s_X6_firstOf (s_X6_isCaused (s_X6_isCaused (uZ u 2 0) 1) 3) (u.1 5 p1.toNatClampNeg))]) rfl ?_
            refine lv_iload_n hx hb dX6_findsCauses_71 rfl (lv_at hl 3 rfl) ?_
            refine lv_icmp_ne (tgt := 100) hx hb dX6_findsCauses_72 rfl (fun q19 => ?_) (fun q19 => ?_)
            · have hR := hR.trans (if_neg q19)
              have hR : s_X6_findsCauses u p1 = s_X6_isCaused (s_X6_isCaused (uZ u 2 0) 1) 3 := hR
              exact W.vret hx hb hr (fun t ht _ => by rw [hR]; exact ⟨⟨rfl, by rw [ht]; exact hP⟩, hS.F ht⟩) hS.2.2 dX6_findsCauses_100
            · have hR := hR.trans (if_pos q19)
              refine lv_aload_n hx hb dX6_findsCauses_75 rfl (lv_at hl 2 rfl) ?_
              refine lv_iconst (v := 4) hx hb dX6_findsCauses_76 rfl ?_
              refine xMdV (nL := 4) ⟨hx, hb, hml, hown, hts⟩ (c_X6_isCaused l E a (s_X6_isCaused (s_X6_isCaused (uZ u 2 0) 1) 3) 4 hL) (cwV 1 hts gX6_findsCauses_X6_isCaused rfl rfl rfl ⟨rfl, hd_X6_isCaused⟩ ⟨(Nat.le_of_ble_eq_true rfl), (Nat.le_of_ble_eq_true rfl)⟩) hF hS hL.2 (fun _ h => h) hP (va_recv (q := (RX6, TX6, 28)) hK hP (ci := 6) rfl (q0 := 0) rfl) rfl hl.1 rfl (Nat.le_of_ble_eq_true rfl) ⟨(Nat.le_of_ble_eq_true rfl), (Nat.le_of_ble_eq_true rfl)⟩ dX6_findsCauses_77 (fun H locs hP _ hS => ?_)
              refine W.eq (g2 := F0 m 80 ls []) rfl ?_
              refine lv_aload_n hx hb dX6_findsCauses_80 rfl (lv_at hl 2 rfl) ?_
              refine lv_iload_n hx hb dX6_findsCauses_81 rfl (lv_at hl 1 rfl) ?_
              refine lv_iconst (v := 1) hx hb dX6_findsCauses_82 rfl ?_
              refine lv_isub hx hb dX6_findsCauses_83 ?_
              refine xRoV (nL := 4) ⟨hx, hb, hml, hown, hts⟩ (c_X6_versinesApart l E a (s_X6_isCaused (s_X6_isCaused (s_X6_isCaused (uZ u 2 0) 1) 3) 4) ((u.1 5 p1.toNatClampNeg) - 1) (hp0) (by first | exact xjm hp2 q4 | exact xjm hp2 q8 | exact xjm hp2 q14 | exact xjm hp2 q18 | exact xjm hp2 q23 | exact xjm hp2 q27)) (cwV 1 hts gX6_findsCauses_X6_versinesApart rfl rfl rfl ⟨rfl, hd_X6_versinesApart⟩ ⟨(Nat.le_of_ble_eq_true rfl), (Nat.le_of_ble_eq_true rfl)⟩) hF hS hA hP (va_recv (q := (RX6, TX6, 28)) hK hP (ci := 6) rfl (q0 := 0) rfl) rfl hl.1 rfl (Nat.le_of_ble_eq_true rfl) ⟨(Nat.le_of_ble_eq_true rfl), (Nat.le_of_ble_eq_true rfl)⟩ dX6_findsCauses_84 ?_
              refine W.eq (g2 := F0 m 87 ls [.int (s_X6_versinesApart (s_X6_isCaused (s_X6_isCaused (s_X6_isCaused (uZ u 2 0) 1) 3) 4) ((u.1 5 p1.toNatClampNeg) - 1))]) rfl ?_
              refine lv_aload_n hx hb dX6_findsCauses_87 rfl (lv_at hl 2 rfl) ?_
              refine lv_iconst (v := 4) hx hb dX6_findsCauses_88 rfl ?_
              refine xRoV (nL := 4) ⟨hx, hb, hml, hown, hts⟩ (c_X6_rule l E a (s_X6_isCaused (s_X6_isCaused (s_X6_isCaused (uZ u 2 0) 1) 3) 4) 4 (xrul (by decide) (by decide))) (cwV 1 hts gX6_findsCauses_X6_rule rfl rfl rfl ⟨rfl, hd_X6_rule⟩ ⟨(Nat.le_of_ble_eq_true rfl), (Nat.le_of_ble_eq_true rfl)⟩) hF hS hA hP (va_recv (q := (RX6, TX6, 28)) hK hP (ci := 6) rfl (q0 := 0) rfl) rfl hl.1 rfl (Nat.le_of_ble_eq_true rfl) ⟨(Nat.le_of_ble_eq_true rfl), (Nat.le_of_ble_eq_true rfl)⟩ dX6_findsCauses_89 ?_
              refine W.eq (g2 := F0 m 92 ls [.int (s_X6_rule (s_X6_isCaused (s_X6_isCaused (s_X6_isCaused (uZ u 2 0) 1) 3) 4) 4), .int (s_X6_versinesApart (s_X6_isCaused (s_X6_isCaused (s_X6_isCaused (uZ u 2 0) 1) 3) 4) ((u.1 5 p1.toNatClampNeg) - 1))]) rfl ?_
              refine lv_icmp_le (tgt := 100) hx hb dX6_findsCauses_92 rfl (fun q20 => ?_) (fun q20 => ?_)
              · have hR := hR.trans (if_pos q20)
                have hR : s_X6_findsCauses u p1 = s_X6_isCaused (s_X6_isCaused (s_X6_isCaused (uZ u 2 0) 1) 3) 4 := hR
                exact W.vret hx hb hr (fun t ht _ => by rw [hR]; exact ⟨⟨rfl, by rw [ht]; exact hP⟩, hS.F ht⟩) hS.2.2 dX6_findsCauses_100
              · have hR := hR.trans (if_neg q20)
                refine lv_aload_n hx hb dX6_findsCauses_95 rfl (lv_at hl 2 rfl) ?_
                refine lv_iconst (v := 5) hx hb dX6_findsCauses_96 rfl ?_
                refine xMdV (nL := 4) ⟨hx, hb, hml, hown, hts⟩ (c_X6_isCaused l E a (s_X6_isCaused (s_X6_isCaused (s_X6_isCaused (uZ u 2 0) 1) 3) 4) 5 hL) (cwV 1 hts gX6_findsCauses_X6_isCaused rfl rfl rfl ⟨rfl, hd_X6_isCaused⟩ ⟨(Nat.le_of_ble_eq_true rfl), (Nat.le_of_ble_eq_true rfl)⟩) hF hS hL.2 (fun _ h => h) hP (va_recv (q := (RX6, TX6, 28)) hK hP (ci := 6) rfl (q0 := 0) rfl) rfl hl.1 rfl (Nat.le_of_ble_eq_true rfl) ⟨(Nat.le_of_ble_eq_true rfl), (Nat.le_of_ble_eq_true rfl)⟩ dX6_findsCauses_97 (fun H locs hP _ hS => ?_)
                refine W.eq (g2 := F0 m 100 ls []) rfl ?_
                have hR : s_X6_findsCauses u p1 = s_X6_isCaused (s_X6_isCaused (s_X6_isCaused (s_X6_isCaused (uZ u 2 0) 1) 3) 4) 5 := hR
                exact W.vret hx hb hr (fun t ht _ => by rw [hR]; exact ⟨⟨rfl, by rw [ht]; exact hP⟩, hS.F ht⟩) hS.2.2 dX6_findsCauses_100
    · have hR := hR.trans (if_neg q11)
      refine lv_aload_n hx hb dX6_findsCauses_42 rfl (lv_at hl 2 rfl) ?_
      refine lv_iconst (v := 2) hx hb dX6_findsCauses_43 rfl ?_
      refine xMdV (nL := 4) ⟨hx, hb, hml, hown, hts⟩ (c_X6_isCaused l E a (s_X6_isCaused (uZ u 2 0) 1) 2 hL) (cwV 1 hts gX6_findsCauses_X6_isCaused rfl rfl rfl ⟨rfl, hd_X6_isCaused⟩ ⟨(Nat.le_of_ble_eq_true rfl), (Nat.le_of_ble_eq_true rfl)⟩) hF hS hL.2 (fun _ h => h) hP (va_recv (q := (RX6, TX6, 28)) hK hP (ci := 6) rfl (q0 := 0) rfl) rfl hl.1 rfl (Nat.le_of_ble_eq_true rfl) ⟨(Nat.le_of_ble_eq_true rfl), (Nat.le_of_ble_eq_true rfl)⟩ dX6_findsCauses_44 (fun H locs hP _ hS => ?_)
      refine W.eq (g2 := F0 m 47 ls []) rfl ?_
      refine lv_iload_n hx hb dX6_findsCauses_47 rfl (lv_at hl 0 rfl) ?_
      refine lv_iconst (v := 2) hx hb dX6_findsCauses_48 rfl ?_
      refine lv_icmp_ne (tgt := 57) hx hb dX6_findsCauses_49 rfl (fun q21 => ?_) (fun q21 => ?_)
      · have hR := hR.trans (if_neg q21)
        refine lv_iload_n hx hb dX6_findsCauses_57 rfl (lv_at hl 0 rfl) ?_
        refine lv_iconst (v := 3) hx hb dX6_findsCauses_58 rfl ?_
        refine lv_icmp_ne (tgt := 100) hx hb dX6_findsCauses_59 rfl (fun q22 => ?_) (fun q22 => ?_)
        · have hR := hR.trans (if_neg q22)
          have hR : s_X6_findsCauses u p1 = s_X6_isCaused (s_X6_isCaused (uZ u 2 0) 1) 2 := hR
          exact W.vret hx hb hr (fun t ht _ => by rw [hR]; exact ⟨⟨rfl, by rw [ht]; exact hP⟩, hS.F ht⟩) hS.2.2 dX6_findsCauses_100
        · have hR := hR.trans (if_pos q22)
          refine lv_iload_n hx hb dX6_findsCauses_62 rfl (lv_at hl 1 rfl) ?_
          refine lv_if_le (tgt := 100) hx hb dX6_findsCauses_63 rfl (fun q23 => ?_) (fun q23 => ?_)
          · have hR := hR.trans (if_pos q23)
            have hR : s_X6_findsCauses u p1 = s_X6_isCaused (s_X6_isCaused (uZ u 2 0) 1) 2 := hR
            exact W.vret hx hb hr (fun t ht _ => by rw [hR]; exact ⟨⟨rfl, by rw [ht]; exact hP⟩, hS.F ht⟩) hS.2.2 dX6_findsCauses_100
          · have hR := hR.trans (if_neg q23)
            refine lv_aload_n hx hb dX6_findsCauses_66 rfl (lv_at hl 2 rfl) ?_
            refine lv_iload_n hx hb dX6_findsCauses_67 rfl (lv_at hl 1 rfl) ?_
            refine xRoV (nL := 4) ⟨hx, hb, hml, hown, hts⟩ (c_X6_firstOf l E a (s_X6_isCaused (s_X6_isCaused (uZ u 2 0) 1) 2) (u.1 5 p1.toNatClampNeg) (Int.le_of_lt hp2.2)) (cwV 1 hts gX6_findsCauses_X6_firstOf rfl rfl rfl ⟨rfl, hd_X6_firstOf⟩ ⟨(Nat.le_of_ble_eq_true rfl), (Nat.le_of_ble_eq_true rfl)⟩) hF hS hA hP (va_recv (q := (RX6, TX6, 28)) hK hP (ci := 6) rfl (q0 := 0) rfl) rfl hl.1 rfl (Nat.le_of_ble_eq_true rfl) ⟨(Nat.le_of_ble_eq_true rfl), (Nat.le_of_ble_eq_true rfl)⟩ dX6_findsCauses_68 ?_
            refine W.eq (g2 := F0 m 71 ls [.int (s_X6_firstOf (s_X6_isCaused (s_X6_isCaused (uZ u 2 0) 1) 2) (u.1 5 p1.toNatClampNeg))]) rfl ?_
            refine lv_iload_n hx hb dX6_findsCauses_71 rfl (lv_at hl 3 rfl) ?_
            refine lv_icmp_ne (tgt := 100) hx hb dX6_findsCauses_72 rfl (fun q24 => ?_) (fun q24 => ?_)
            · have hR := hR.trans (if_neg q24)
              have hR : s_X6_findsCauses u p1 = s_X6_isCaused (s_X6_isCaused (uZ u 2 0) 1) 2 := hR
              exact W.vret hx hb hr (fun t ht _ => by rw [hR]; exact ⟨⟨rfl, by rw [ht]; exact hP⟩, hS.F ht⟩) hS.2.2 dX6_findsCauses_100
            · have hR := hR.trans (if_pos q24)
              refine lv_aload_n hx hb dX6_findsCauses_75 rfl (lv_at hl 2 rfl) ?_
              refine lv_iconst (v := 4) hx hb dX6_findsCauses_76 rfl ?_
              refine xMdV (nL := 4) ⟨hx, hb, hml, hown, hts⟩ (c_X6_isCaused l E a (s_X6_isCaused (s_X6_isCaused (uZ u 2 0) 1) 2) 4 hL) (cwV 1 hts gX6_findsCauses_X6_isCaused rfl rfl rfl ⟨rfl, hd_X6_isCaused⟩ ⟨(Nat.le_of_ble_eq_true rfl), (Nat.le_of_ble_eq_true rfl)⟩) hF hS hL.2 (fun _ h => h) hP (va_recv (q := (RX6, TX6, 28)) hK hP (ci := 6) rfl (q0 := 0) rfl) rfl hl.1 rfl (Nat.le_of_ble_eq_true rfl) ⟨(Nat.le_of_ble_eq_true rfl), (Nat.le_of_ble_eq_true rfl)⟩ dX6_findsCauses_77 (fun H locs hP _ hS => ?_)
              refine W.eq (g2 := F0 m 80 ls []) rfl ?_
              refine lv_aload_n hx hb dX6_findsCauses_80 rfl (lv_at hl 2 rfl) ?_
              refine lv_iload_n hx hb dX6_findsCauses_81 rfl (lv_at hl 1 rfl) ?_
              refine lv_iconst (v := 1) hx hb dX6_findsCauses_82 rfl ?_
              refine lv_isub hx hb dX6_findsCauses_83 ?_
              refine xRoV (nL := 4) ⟨hx, hb, hml, hown, hts⟩ (c_X6_versinesApart l E a (s_X6_isCaused (s_X6_isCaused (s_X6_isCaused (uZ u 2 0) 1) 2) 4) ((u.1 5 p1.toNatClampNeg) - 1) (hp0) (by first | exact xjm hp2 q4 | exact xjm hp2 q8 | exact xjm hp2 q14 | exact xjm hp2 q18 | exact xjm hp2 q23 | exact xjm hp2 q27)) (cwV 1 hts gX6_findsCauses_X6_versinesApart rfl rfl rfl ⟨rfl, hd_X6_versinesApart⟩ ⟨(Nat.le_of_ble_eq_true rfl), (Nat.le_of_ble_eq_true rfl)⟩) hF hS hA hP (va_recv (q := (RX6, TX6, 28)) hK hP (ci := 6) rfl (q0 := 0) rfl) rfl hl.1 rfl (Nat.le_of_ble_eq_true rfl) ⟨(Nat.le_of_ble_eq_true rfl), (Nat.le_of_ble_eq_true rfl)⟩ dX6_findsCauses_84 ?_
              refine W.eq (g2 := F0 m 87 ls [.int (s_X6_versinesApart (s_X6_isCaused (s_X6_isCaused (s_X6_isCaused (uZ u 2 0) 1) 2) 4) ((u.1 5 p1.toNatClampNeg) - 1))]) rfl ?_
              refine lv_aload_n hx hb dX6_findsCauses_87 rfl (lv_at hl 2 rfl) ?_
              refine lv_iconst (v := 4) hx hb dX6_findsCauses_88 rfl ?_
              refine xRoV (nL := 4) ⟨hx, hb, hml, hown, hts⟩ (c_X6_rule l E a (s_X6_isCaused (s_X6_isCaused (s_X6_isCaused (uZ u 2 0) 1) 2) 4) 4 (xrul (by decide) (by decide))) (cwV 1 hts gX6_findsCauses_X6_rule rfl rfl rfl ⟨rfl, hd_X6_rule⟩ ⟨(Nat.le_of_ble_eq_true rfl), (Nat.le_of_ble_eq_true rfl)⟩) hF hS hA hP (va_recv (q := (RX6, TX6, 28)) hK hP (ci := 6) rfl (q0 := 0) rfl) rfl hl.1 rfl (Nat.le_of_ble_eq_true rfl) ⟨(Nat.le_of_ble_eq_true rfl), (Nat.le_of_ble_eq_true rfl)⟩ dX6_findsCauses_89 ?_
              refine W.eq (g2 := F0 m 92 ls [.int (s_X6_rule (s_X6_isCaused (s_X6_isCaused (s_X6_isCaused (uZ u 2 0) 1) 2) 4) 4), .int (s_X6_versinesApart (s_X6_isCaused (s_X6_isCaused (s_X6_isCaused (uZ u 2 0) 1) 2) 4) ((u.1 5 p1.toNatClampNeg) - 1))]) rfl ?_
              refine lv_icmp_le (tgt := 100) hx hb dX6_findsCauses_92 rfl (fun q25 => ?_) (fun q25 => ?_)
              · have hR := hR.trans (if_pos q25)
                have hR : s_X6_findsCauses u p1 = s_X6_isCaused (s_X6_isCaused (s_X6_isCaused (uZ u 2 0) 1) 2) 4 := hR
                exact W.vret hx hb hr (fun t ht _ => by rw [hR]; exact ⟨⟨rfl, by rw [ht]; exact hP⟩, hS.F ht⟩) hS.2.2 dX6_findsCauses_100
              · have hR := hR.trans (if_neg q25)
                refine lv_aload_n hx hb dX6_findsCauses_95 rfl (lv_at hl 2 rfl) ?_
                refine lv_iconst (v := 5) hx hb dX6_findsCauses_96 rfl ?_
                refine xMdV (nL := 4) ⟨hx, hb, hml, hown, hts⟩ (c_X6_isCaused l E a (s_X6_isCaused (s_X6_isCaused (s_X6_isCaused (uZ u 2 0) 1) 2) 4) 5 hL) (cwV 1 hts gX6_findsCauses_X6_isCaused rfl rfl rfl ⟨rfl, hd_X6_isCaused⟩ ⟨(Nat.le_of_ble_eq_true rfl), (Nat.le_of_ble_eq_true rfl)⟩) hF hS hL.2 (fun _ h => h) hP (va_recv (q := (RX6, TX6, 28)) hK hP (ci := 6) rfl (q0 := 0) rfl) rfl hl.1 rfl (Nat.le_of_ble_eq_true rfl) ⟨(Nat.le_of_ble_eq_true rfl), (Nat.le_of_ble_eq_true rfl)⟩ dX6_findsCauses_97 (fun H locs hP _ hS => ?_)
                refine W.eq (g2 := F0 m 100 ls []) rfl ?_
                have hR : s_X6_findsCauses u p1 = s_X6_isCaused (s_X6_isCaused (s_X6_isCaused (s_X6_isCaused (uZ u 2 0) 1) 2) 4) 5 := hR
                exact W.vret hx hb hr (fun t ht _ => by rw [hR]; exact ⟨⟨rfl, by rw [ht]; exact hP⟩, hS.F ht⟩) hS.2.2 dX6_findsCauses_100
      · have hR := hR.trans (if_pos q21)
        refine lv_aload_n hx hb dX6_findsCauses_52 rfl (lv_at hl 2 rfl) ?_
        refine lv_iconst (v := 3) hx hb dX6_findsCauses_53 rfl ?_
        refine xMdV (nL := 4) ⟨hx, hb, hml, hown, hts⟩ (c_X6_isCaused l E a (s_X6_isCaused (s_X6_isCaused (uZ u 2 0) 1) 2) 3 hL) (cwV 1 hts gX6_findsCauses_X6_isCaused rfl rfl rfl ⟨rfl, hd_X6_isCaused⟩ ⟨(Nat.le_of_ble_eq_true rfl), (Nat.le_of_ble_eq_true rfl)⟩) hF hS hL.2 (fun _ h => h) hP (va_recv (q := (RX6, TX6, 28)) hK hP (ci := 6) rfl (q0 := 0) rfl) rfl hl.1 rfl (Nat.le_of_ble_eq_true rfl) ⟨(Nat.le_of_ble_eq_true rfl), (Nat.le_of_ble_eq_true rfl)⟩ dX6_findsCauses_54 (fun H locs hP _ hS => ?_)
        refine W.eq (g2 := F0 m 57 ls []) rfl ?_
        refine lv_iload_n hx hb dX6_findsCauses_57 rfl (lv_at hl 0 rfl) ?_
        refine lv_iconst (v := 3) hx hb dX6_findsCauses_58 rfl ?_
        refine lv_icmp_ne (tgt := 100) hx hb dX6_findsCauses_59 rfl (fun q26 => ?_) (fun q26 => ?_)
        · have hR := hR.trans (if_neg q26)
          have hR : s_X6_findsCauses u p1 = s_X6_isCaused (s_X6_isCaused (s_X6_isCaused (uZ u 2 0) 1) 2) 3 := hR
          exact W.vret hx hb hr (fun t ht _ => by rw [hR]; exact ⟨⟨rfl, by rw [ht]; exact hP⟩, hS.F ht⟩) hS.2.2 dX6_findsCauses_100
        · have hR := hR.trans (if_pos q26)
          refine lv_iload_n hx hb dX6_findsCauses_62 rfl (lv_at hl 1 rfl) ?_
          refine lv_if_le (tgt := 100) hx hb dX6_findsCauses_63 rfl (fun q27 => ?_) (fun q27 => ?_)
          · have hR := hR.trans (if_pos q27)
            have hR : s_X6_findsCauses u p1 = s_X6_isCaused (s_X6_isCaused (s_X6_isCaused (uZ u 2 0) 1) 2) 3 := hR
            exact W.vret hx hb hr (fun t ht _ => by rw [hR]; exact ⟨⟨rfl, by rw [ht]; exact hP⟩, hS.F ht⟩) hS.2.2 dX6_findsCauses_100
          · have hR := hR.trans (if_neg q27)
            refine lv_aload_n hx hb dX6_findsCauses_66 rfl (lv_at hl 2 rfl) ?_
            refine lv_iload_n hx hb dX6_findsCauses_67 rfl (lv_at hl 1 rfl) ?_
            refine xRoV (nL := 4) ⟨hx, hb, hml, hown, hts⟩ (c_X6_firstOf l E a (s_X6_isCaused (s_X6_isCaused (s_X6_isCaused (uZ u 2 0) 1) 2) 3) (u.1 5 p1.toNatClampNeg) (Int.le_of_lt hp2.2)) (cwV 1 hts gX6_findsCauses_X6_firstOf rfl rfl rfl ⟨rfl, hd_X6_firstOf⟩ ⟨(Nat.le_of_ble_eq_true rfl), (Nat.le_of_ble_eq_true rfl)⟩) hF hS hA hP (va_recv (q := (RX6, TX6, 28)) hK hP (ci := 6) rfl (q0 := 0) rfl) rfl hl.1 rfl (Nat.le_of_ble_eq_true rfl) ⟨(Nat.le_of_ble_eq_true rfl), (Nat.le_of_ble_eq_true rfl)⟩ dX6_findsCauses_68 ?_
            refine W.eq (g2 := F0 m 71 ls [.int (s_X6_firstOf (s_X6_isCaused (s_X6_isCaused (s_X6_isCaused (uZ u 2 0) 1) 2) 3) (u.1 5 p1.toNatClampNeg))]) rfl ?_
            refine lv_iload_n hx hb dX6_findsCauses_71 rfl (lv_at hl 3 rfl) ?_
            refine lv_icmp_ne (tgt := 100) hx hb dX6_findsCauses_72 rfl (fun q28 => ?_) (fun q28 => ?_)
            · have hR := hR.trans (if_neg q28)
              have hR : s_X6_findsCauses u p1 = s_X6_isCaused (s_X6_isCaused (s_X6_isCaused (uZ u 2 0) 1) 2) 3 := hR
              exact W.vret hx hb hr (fun t ht _ => by rw [hR]; exact ⟨⟨rfl, by rw [ht]; exact hP⟩, hS.F ht⟩) hS.2.2 dX6_findsCauses_100
            · have hR := hR.trans (if_pos q28)
              refine lv_aload_n hx hb dX6_findsCauses_75 rfl (lv_at hl 2 rfl) ?_
              refine lv_iconst (v := 4) hx hb dX6_findsCauses_76 rfl ?_
              refine xMdV (nL := 4) ⟨hx, hb, hml, hown, hts⟩ (c_X6_isCaused l E a (s_X6_isCaused (s_X6_isCaused (s_X6_isCaused (uZ u 2 0) 1) 2) 3) 4 hL) (cwV 1 hts gX6_findsCauses_X6_isCaused rfl rfl rfl ⟨rfl, hd_X6_isCaused⟩ ⟨(Nat.le_of_ble_eq_true rfl), (Nat.le_of_ble_eq_true rfl)⟩) hF hS hL.2 (fun _ h => h) hP (va_recv (q := (RX6, TX6, 28)) hK hP (ci := 6) rfl (q0 := 0) rfl) rfl hl.1 rfl (Nat.le_of_ble_eq_true rfl) ⟨(Nat.le_of_ble_eq_true rfl), (Nat.le_of_ble_eq_true rfl)⟩ dX6_findsCauses_77 (fun H locs hP _ hS => ?_)
              refine W.eq (g2 := F0 m 80 ls []) rfl ?_
              refine lv_aload_n hx hb dX6_findsCauses_80 rfl (lv_at hl 2 rfl) ?_
              refine lv_iload_n hx hb dX6_findsCauses_81 rfl (lv_at hl 1 rfl) ?_
              refine lv_iconst (v := 1) hx hb dX6_findsCauses_82 rfl ?_
              refine lv_isub hx hb dX6_findsCauses_83 ?_
              refine xRoV (nL := 4) ⟨hx, hb, hml, hown, hts⟩ (c_X6_versinesApart l E a (s_X6_isCaused (s_X6_isCaused (s_X6_isCaused (s_X6_isCaused (uZ u 2 0) 1) 2) 3) 4) ((u.1 5 p1.toNatClampNeg) - 1) (hp0) (by first | exact xjm hp2 q4 | exact xjm hp2 q8 | exact xjm hp2 q14 | exact xjm hp2 q18 | exact xjm hp2 q23 | exact xjm hp2 q27)) (cwV 1 hts gX6_findsCauses_X6_versinesApart rfl rfl rfl ⟨rfl, hd_X6_versinesApart⟩ ⟨(Nat.le_of_ble_eq_true rfl), (Nat.le_of_ble_eq_true rfl)⟩) hF hS hA hP (va_recv (q := (RX6, TX6, 28)) hK hP (ci := 6) rfl (q0 := 0) rfl) rfl hl.1 rfl (Nat.le_of_ble_eq_true rfl) ⟨(Nat.le_of_ble_eq_true rfl), (Nat.le_of_ble_eq_true rfl)⟩ dX6_findsCauses_84 ?_
              refine W.eq (g2 := F0 m 87 ls [.int (s_X6_versinesApart (s_X6_isCaused (s_X6_isCaused (s_X6_isCaused (s_X6_isCaused (uZ u 2 0) 1) 2) 3) 4) ((u.1 5 p1.toNatClampNeg) - 1))]) rfl ?_
              refine lv_aload_n hx hb dX6_findsCauses_87 rfl (lv_at hl 2 rfl) ?_
              refine lv_iconst (v := 4) hx hb dX6_findsCauses_88 rfl ?_
              refine xRoV (nL := 4) ⟨hx, hb, hml, hown, hts⟩ (c_X6_rule l E a (s_X6_isCaused (s_X6_isCaused (s_X6_isCaused (s_X6_isCaused (uZ u 2 0) 1) 2) 3) 4) 4 (xrul (by decide) (by decide))) (cwV 1 hts gX6_findsCauses_X6_rule rfl rfl rfl ⟨rfl, hd_X6_rule⟩ ⟨(Nat.le_of_ble_eq_true rfl), (Nat.le_of_ble_eq_true rfl)⟩) hF hS hA hP (va_recv (q := (RX6, TX6, 28)) hK hP (ci := 6) rfl (q0 := 0) rfl) rfl hl.1 rfl (Nat.le_of_ble_eq_true rfl) ⟨(Nat.le_of_ble_eq_true rfl), (Nat.le_of_ble_eq_true rfl)⟩ dX6_findsCauses_89 ?_
              refine W.eq (g2 := F0 m 92 ls [.int (s_X6_rule (s_X6_isCaused (s_X6_isCaused (s_X6_isCaused (s_X6_isCaused (uZ u 2 0) 1) 2) 3) 4) 4), .int (s_X6_versinesApart (s_X6_isCaused (s_X6_isCaused (s_X6_isCaused (s_X6_isCaused (uZ u 2 0) 1) 2) 3) 4) ((u.1 5 p1.toNatClampNeg) - 1))]) rfl ?_
              refine lv_icmp_le (tgt := 100) hx hb dX6_findsCauses_92 rfl (fun q29 => ?_) (fun q29 => ?_)
              · have hR := hR.trans (if_pos q29)
                have hR : s_X6_findsCauses u p1 = s_X6_isCaused (s_X6_isCaused (s_X6_isCaused (s_X6_isCaused (uZ u 2 0) 1) 2) 3) 4 := hR
                exact W.vret hx hb hr (fun t ht _ => by rw [hR]; exact ⟨⟨rfl, by rw [ht]; exact hP⟩, hS.F ht⟩) hS.2.2 dX6_findsCauses_100
              · have hR := hR.trans (if_neg q29)
                refine lv_aload_n hx hb dX6_findsCauses_95 rfl (lv_at hl 2 rfl) ?_
                refine lv_iconst (v := 5) hx hb dX6_findsCauses_96 rfl ?_
                refine xMdV (nL := 4) ⟨hx, hb, hml, hown, hts⟩ (c_X6_isCaused l E a (s_X6_isCaused (s_X6_isCaused (s_X6_isCaused (s_X6_isCaused (uZ u 2 0) 1) 2) 3) 4) 5 hL) (cwV 1 hts gX6_findsCauses_X6_isCaused rfl rfl rfl ⟨rfl, hd_X6_isCaused⟩ ⟨(Nat.le_of_ble_eq_true rfl), (Nat.le_of_ble_eq_true rfl)⟩) hF hS hL.2 (fun _ h => h) hP (va_recv (q := (RX6, TX6, 28)) hK hP (ci := 6) rfl (q0 := 0) rfl) rfl hl.1 rfl (Nat.le_of_ble_eq_true rfl) ⟨(Nat.le_of_ble_eq_true rfl), (Nat.le_of_ble_eq_true rfl)⟩ dX6_findsCauses_97 (fun H locs hP _ hS => ?_)
                refine W.eq (g2 := F0 m 100 ls []) rfl ?_
                have hR : s_X6_findsCauses u p1 = s_X6_isCaused (s_X6_isCaused (s_X6_isCaused (s_X6_isCaused (s_X6_isCaused (uZ u 2 0) 1) 2) 3) 4) 5 := hR
                exact W.vret hx hb hr (fun t ht _ => by rw [hR]; exact ⟨⟨rfl, by rw [ht]; exact hP⟩, hS.F ht⟩) hS.2.2 dX6_findsCauses_100
def s_X6_fault_L21 : Nat → xU → Int32 → Int32 → Int32 × xU
  | 0, u, _, _ => (0, u)
  | n + 1, u, x1, x2 =>
    if (u.2 1) < x2 then
      if x1 = 0 then
        ((-1), u)
      else
        (0, u)
    else
      if (s_X6_why u x2) ≤ 0 then
        s_X6_fault_L21 n u x1 (x2 + 1)
      else
        if x1 = 0 then
          (x2, s_X6_findsCauses u x2)
        else
          if x1 = 1 then
            (s_X6_why (s_X6_findsCauses u x2) x2, s_X6_findsCauses u x2)
          else
            if x1 = 2 then
              ((s_X6_findsCauses u x2).2 2, s_X6_findsCauses u x2)
            else
              ((s_X6_findsCauses u x2).2 3, s_X6_findsCauses u x2)
def s_X6_fault (u : xU) (p1 : Int32) : Int32 × xU :=
  if (s_X6_in u p1.toInt64 0 3) = 0 then
    ((-2), u)
  else
    s_X6_fault_L21 ((((s_X6_lays u).2 1).toInt + 1 - (1 : Int32).toInt).toNat + 1) (s_X6_lays u) p1 1
abbrev rm_X6_fault : Room := { frames := 5, cells := 0, slots := 0, locals := 110 }
set_option maxHeartbeats 8000000 in
set_option maxRecDepth 100000 in
theorem c_X6_fault (l : Launch) (E : xG) (a : Nat → Nat) (u : xU) (p1 : Int32) (hp0 : XW u) (hL : xOK E (LM a)) : xMd l E yX6_fault wsX6_fault rm_X6_fault (LM a) [.ref (a 0), .int p1] (wM E a u) (some (.int ((s_X6_fault u p1).1))) (wM E a ((s_X6_fault u p1).2)) := by
  refine xMd.of (cc := cX6_fault) (maxL := 3) (ret := (some .int)) (by decide) rfl (Nat.le_of_ble_eq_true rfl) ?_
  intro p e s m below meth c ls hAt hF hP hS hl
  obtain ⟨hx, hb, hr, hml, hown, hts, hlocks, -⟩ := hAt
  have hown : s.vm.findClass RX6 = some m.cls := hown
  have hl : lv_has ls 3 [(0, .ref (a 0)), (1, .int p1)] := hl
  have hK := hF.1
  have hA := hL.2
  change W p l e rm_X6_fault s m ([.ref (a 0), .int p1] : List Value).toArray below meth c s.heap [] 0 0 (xQmd E below (LM a) (some (.int ((s_X6_fault u p1).1))) (wM E a ((s_X6_fault u p1).2)) ([.ref (a 0), .int p1] : List Value).toArray s) _
  have hS : va_S (· ∈ LM a) s.heap s.heap [] := hS
  have hR : s_X6_fault u p1 = s_X6_fault u p1 := rfl
  refine lv_iload_n hx hb dX6_fault_0 rfl (lv_at hl 1 rfl) ?_
  refine lv_i2l hx hb dX6_fault_1 rfl ?_
  refine lv_lconst (v := 0) hx hb dX6_fault_2 rfl ?_
  refine lv_ldc2 (v := 3) hx hb hown (hts (.constantLong RX6 89 (3)) (by decide +kernel)) dX6_fault_3 ?_
  refine xRoS (nL := 3) ⟨hx, hb, hml, hown, hts⟩ (c_X6_in l E a u p1.toInt64 0 3) (va_cwS 3 hts gX6_fault_X6_in rfl rfl rfl hd_X6_in ⟨(Nat.le_of_ble_eq_true rfl), (Nat.le_of_ble_eq_true rfl)⟩) hF hS hA hP rfl hl.1 rfl (Nat.le_of_ble_eq_true rfl) ⟨(Nat.le_of_ble_eq_true rfl), (Nat.le_of_ble_eq_true rfl)⟩ dX6_fault_6 ?_
  refine W.eq (g2 := F0 m 9 ls [.int (s_X6_in u p1.toInt64 0 3)]) rfl ?_
  refine lv_if_ne (tgt := 15) hx hb dX6_fault_9 rfl (fun q1 => ?_) (fun q1 => ?_)
  · have hR := hR.trans (if_neg q1)
    refine lv_aload_n hx hb dX6_fault_15 rfl (lv_at hl 0 rfl) ?_
    refine xMdV (nL := 3) ⟨hx, hb, hml, hown, hts⟩ (c_X6_lays l E a u  (hp0) hL) (cwV 0 hts gX6_fault_X6_lays rfl rfl rfl ⟨rfl, hd_X6_lays⟩ ⟨(Nat.le_of_ble_eq_true rfl), (Nat.le_of_ble_eq_true rfl)⟩) hF hS hL.2 (fun _ h => h) hP (va_recv (q := (RX6, TX6, 28)) hK hP (ci := 6) rfl (q0 := 0) rfl) rfl hl.1 rfl (Nat.le_of_ble_eq_true rfl) ⟨(Nat.le_of_ble_eq_true rfl), (Nat.le_of_ble_eq_true rfl)⟩ dX6_fault_16 (fun H locs hP _ hS => ?_)
    refine W.eq (g2 := F0 m 19 ls []) rfl ?_
    refine lv_iconst (v := 1) hx hb dX6_fault_19 rfl ?_
    refine lv_istore_n (lv' := [(2, .int 1), (0, .ref (a 0)), (1, .int p1)]) hx hb dX6_fault_20 rfl hl (by decide) rfl (fun ls hl => ?_)
    have L21 : ∀ (n21 : Nat) (x2 : Int32) (H : Heap) (locs : List Loc) (ls : Array Slot), (1 ≤ x2.toInt) → (((s_X6_lays u).2 1).toInt + 1 - x2.toInt).toNat < n21 → s_X6_fault u p1 = s_X6_fault_L21 n21 (s_X6_lays u) p1 x2 → lv_has ls 3 [(2, .int x2), (0, .ref (a 0)), (1, .int p1)] → va_P (xD E) vwCl (wM E a (s_X6_lays u)) H → va_S (· ∈ LM a) s.heap H locs → W p l e rm_X6_fault s m ([.ref (a 0), .int p1] : List Value).toArray below meth c H locs 0 0 (xQmd E below (LM a) (some (.int ((s_X6_fault u p1).1))) (wM E a ((s_X6_fault u p1).2)) ([.ref (a 0), .int p1] : List Value).toArray s) (F0 m 21 ls []) := by
      intro n21
      induction n21 with
      | zero => intro x2 H locs ls hI0 hM21 hR hl hP hS; exact absurd hM21 (Nat.not_lt_zero _)
      | succ n21 ih21 =>
        intro x2 H locs ls hI0 hM21 hR hl hP hS
        refine lv_iload_n hx hb dX6_fault_21 rfl (lv_at hl 0 rfl) ?_
        refine lv_aload_n hx hb dX6_fault_22 rfl (lv_at hl 1 rfl) ?_
        refine va_get (D := xD E) (ci := 6) (v := .int ((s_X6_lays u).2 1)) (C := RX6) (T := TX6) (N := 28) hx hb hts (by decide +kernel) hown hK hP 0 rfl rfl 8 (by decide) (hts (.fieldLink RX6 130 "RailOffsetsModel" "stations" "I") (by decide +kernel)) (fun _ h => h) rfl dX6_fault_23 ?_
        refine lv_icmp_gt (tgt := 86) hx hb dX6_fault_26 rfl (fun q2 => ?_) (fun q2 => ?_)
        · have hR := hR.trans (if_pos q2)
          refine lv_iload_n hx hb dX6_fault_86 rfl (lv_at hl 2 rfl) ?_
          refine lv_if_ne (tgt := 94) hx hb dX6_fault_87 rfl (fun q3 => ?_) (fun q3 => ?_)
          · have hR := hR.trans (if_neg q3)
            refine lv_iconst (v := 0) hx hb dX6_fault_94 rfl ?_
            have hR : s_X6_fault u p1 = (0, s_X6_lays u) := hR
            exact W.iret (v := 0) hx hb hr (fun t ht _ => by rw [hR]; dsimp only; exact ⟨⟨rfl, by rw [ht]; exact hP⟩, hS.F ht⟩) hS.2.2 dX6_fault_95
          · have hR := hR.trans (if_pos q3)
            refine lv_iconst (v := (-1)) hx hb dX6_fault_90 rfl ?_
            refine lv_goto (tgt := 95) hx hb dX6_fault_91 rfl ?_
            have hR : s_X6_fault u p1 = ((-1), s_X6_lays u) := hR
            exact W.iret (v := (-1)) hx hb hr (fun t ht _ => by rw [hR]; dsimp only; exact ⟨⟨rfl, by rw [ht]; exact hP⟩, hS.F ht⟩) hS.2.2 dX6_fault_95
        · have hR := hR.trans (if_neg q2)
          refine lv_aload_n hx hb dX6_fault_29 rfl (lv_at hl 1 rfl) ?_
          refine lv_iload_n hx hb dX6_fault_30 rfl (lv_at hl 0 rfl) ?_
          refine xRoV (nL := 3) ⟨hx, hb, hml, hown, hts⟩ (c_X6_why l E a (s_X6_lays u) x2 (xsup hI0 (xlays_st hp0) q2)) (cwV 1 hts gX6_fault_X6_why rfl rfl rfl ⟨rfl, hd_X6_why⟩ ⟨(Nat.le_of_ble_eq_true rfl), (Nat.le_of_ble_eq_true rfl)⟩) hF hS hA hP (va_recv (q := (RX6, TX6, 28)) hK hP (ci := 6) rfl (q0 := 0) rfl) rfl hl.1 rfl (Nat.le_of_ble_eq_true rfl) ⟨(Nat.le_of_ble_eq_true rfl), (Nat.le_of_ble_eq_true rfl)⟩ dX6_fault_31 ?_
          refine W.eq (g2 := F0 m 34 ls [.int (s_X6_why (s_X6_lays u) x2)]) rfl ?_
          refine lv_if_le (tgt := 80) hx hb dX6_fault_34 rfl (fun q4 => ?_) (fun q4 => ?_)
          · have hR := hR.trans (if_pos q4)
            refine lv_iinc (k := 0) (v := x2 + 1) (lv' := [(2, .int (x2 + 1)), (0, .ref (a 0)), (1, .int p1)]) hx hb dX6_fault_80 hl rfl rfl (by decide) rfl (fun ls hl => ?_)
            refine lv_goto (tgt := 21) hx hb dX6_fault_83 rfl ?_
            exact ih21 (x2 + 1) _ _ _ (xs1u hI0 (xlays_st hp0) q2) (Nat.lt_of_lt_of_le (xupl q2 (xstl (xlays_st hp0))) (Nat.le_of_lt_succ hM21)) hR (lv_sub hl [0, 1, 2] rfl) hP hS
          · have hR := hR.trans (if_neg q4)
            refine lv_aload_n hx hb dX6_fault_37 rfl (lv_at hl 1 rfl) ?_
            refine lv_iload_n hx hb dX6_fault_38 rfl (lv_at hl 0 rfl) ?_
            refine xMdV (nL := 3) ⟨hx, hb, hml, hown, hts⟩ (c_X6_findsCauses l E a (s_X6_lays u) x2 (xlays_w hp0) (xsup hI0 (xlays_st hp0) q2) (xpas (xlays_pa hp0) (xsup hI0 (xlays_st hp0) q2) q2) hL) (cwV 1 hts gX6_fault_X6_findsCauses rfl rfl rfl ⟨rfl, hd_X6_findsCauses⟩ ⟨(Nat.le_of_ble_eq_true rfl), (Nat.le_of_ble_eq_true rfl)⟩) hF hS hL.2 (fun _ h => h) hP (va_recv (q := (RX6, TX6, 28)) hK hP (ci := 6) rfl (q0 := 0) rfl) rfl hl.1 rfl (Nat.le_of_ble_eq_true rfl) ⟨(Nat.le_of_ble_eq_true rfl), (Nat.le_of_ble_eq_true rfl)⟩ dX6_fault_39 (fun H locs hP _ hS => ?_)
            refine W.eq (g2 := F0 m 42 ls []) rfl ?_
            refine lv_iload_n hx hb dX6_fault_42 rfl (lv_at hl 2 rfl) ?_
            refine lv_if_ne (tgt := 50) hx hb dX6_fault_43 rfl (fun q5 => ?_) (fun q5 => ?_)
            · have hR := hR.trans (if_neg q5)
              refine lv_iload_n hx hb dX6_fault_50 rfl (lv_at hl 2 rfl) ?_
              refine lv_iconst (v := 1) hx hb dX6_fault_51 rfl ?_
              refine lv_icmp_ne (tgt := 63) hx hb dX6_fault_52 rfl (fun q6 => ?_) (fun q6 => ?_)
              · have hR := hR.trans (if_neg q6)
                refine lv_iload_n hx hb dX6_fault_63 rfl (lv_at hl 2 rfl) ?_
                refine lv_iconst (v := 2) hx hb dX6_fault_64 rfl ?_
                refine lv_icmp_ne (tgt := 75) hx hb dX6_fault_65 rfl (fun q7 => ?_) (fun q7 => ?_)
                · have hR := hR.trans (if_neg q7)
                  refine lv_aload_n hx hb dX6_fault_75 rfl (lv_at hl 1 rfl) ?_
                  refine va_get (D := xD E) (ci := 6) (v := .int ((s_X6_findsCauses (s_X6_lays u) x2).2 3)) (C := RX6) (T := TX6) (N := 28) hx hb hts (by decide +kernel) hown hK hP 0 rfl rfl 10 (by decide) (hts (.fieldLink RX6 175 "RailOffsetsModel" "root" "I") (by decide +kernel)) (fun _ h => h) rfl dX6_fault_76 ?_
                  have hR : s_X6_fault u p1 = ((s_X6_findsCauses (s_X6_lays u) x2).2 3, s_X6_findsCauses (s_X6_lays u) x2) := hR
                  exact W.iret (v := (s_X6_findsCauses (s_X6_lays u) x2).2 3) hx hb hr (fun t ht _ => by rw [hR]; dsimp only; exact ⟨⟨rfl, by rw [ht]; exact hP⟩, hS.F ht⟩) hS.2.2 dX6_fault_79
                · have hR := hR.trans (if_pos q7)
                  refine lv_aload_n hx hb dX6_fault_68 rfl (lv_at hl 1 rfl) ?_
                  refine va_get (D := xD E) (ci := 6) (v := .int ((s_X6_findsCauses (s_X6_lays u) x2).2 2)) (C := RX6) (T := TX6) (N := 28) hx hb hts (by decide +kernel) hown hK hP 0 rfl rfl 9 (by decide) (hts (.fieldLink RX6 172 "RailOffsetsModel" "causes" "I") (by decide +kernel)) (fun _ h => h) rfl dX6_fault_69 ?_
                  refine lv_goto (tgt := 79) hx hb dX6_fault_72 rfl ?_
                  have hR : s_X6_fault u p1 = ((s_X6_findsCauses (s_X6_lays u) x2).2 2, s_X6_findsCauses (s_X6_lays u) x2) := hR
                  exact W.iret (v := (s_X6_findsCauses (s_X6_lays u) x2).2 2) hx hb hr (fun t ht _ => by rw [hR]; dsimp only; exact ⟨⟨rfl, by rw [ht]; exact hP⟩, hS.F ht⟩) hS.2.2 dX6_fault_79
              · have hR := hR.trans (if_pos q6)
                refine lv_aload_n hx hb dX6_fault_55 rfl (lv_at hl 1 rfl) ?_
                refine lv_iload_n hx hb dX6_fault_56 rfl (lv_at hl 0 rfl) ?_
                refine xRoV (nL := 3) ⟨hx, hb, hml, hown, hts⟩ (c_X6_why l E a (s_X6_findsCauses (s_X6_lays u) x2) x2 (xsup hI0 (xlays_st hp0) q2)) (cwV 1 hts gX6_fault_X6_why rfl rfl rfl ⟨rfl, hd_X6_why⟩ ⟨(Nat.le_of_ble_eq_true rfl), (Nat.le_of_ble_eq_true rfl)⟩) hF hS hA hP (va_recv (q := (RX6, TX6, 28)) hK hP (ci := 6) rfl (q0 := 0) rfl) rfl hl.1 rfl (Nat.le_of_ble_eq_true rfl) ⟨(Nat.le_of_ble_eq_true rfl), (Nat.le_of_ble_eq_true rfl)⟩ dX6_fault_57 ?_
                refine W.eq (g2 := F0 m 60 ls [.int (s_X6_why (s_X6_findsCauses (s_X6_lays u) x2) x2)]) rfl ?_
                refine lv_goto (tgt := 79) hx hb dX6_fault_60 rfl ?_
                have hR : s_X6_fault u p1 = (s_X6_why (s_X6_findsCauses (s_X6_lays u) x2) x2, s_X6_findsCauses (s_X6_lays u) x2) := hR
                exact W.iret (v := s_X6_why (s_X6_findsCauses (s_X6_lays u) x2) x2) hx hb hr (fun t ht _ => by rw [hR]; dsimp only; exact ⟨⟨rfl, by rw [ht]; exact hP⟩, hS.F ht⟩) hS.2.2 dX6_fault_79
            · have hR := hR.trans (if_pos q5)
              refine lv_iload_n hx hb dX6_fault_46 rfl (lv_at hl 0 rfl) ?_
              refine lv_goto (tgt := 79) hx hb dX6_fault_47 rfl ?_
              have hR : s_X6_fault u p1 = (x2, s_X6_findsCauses (s_X6_lays u) x2) := hR
              exact W.iret (v := x2) hx hb hr (fun t ht _ => by rw [hR]; dsimp only; exact ⟨⟨rfl, by rw [ht]; exact hP⟩, hS.F ht⟩) hS.2.2 dX6_fault_79
    exact L21 ((((s_X6_lays u).2 1).toInt + 1 - (1 : Int32).toInt).toNat + 1) 1 _ _ ls (by decide) (Nat.lt_succ_self _) hR hl hP hS
  · have hR := hR.trans (if_pos q1)
    refine lv_bipush (v := (-2)) hx hb dX6_fault_12 rfl ?_
    have hR : s_X6_fault u p1 = ((-2), u) := hR
    exact W.iret (v := (-2)) hx hb hr (fun t ht _ => by rw [hR]; dsimp only; exact ⟨⟨rfl, by rw [ht]; exact hP⟩, hS.F ht⟩) hS.2.2 dX6_fault_14
