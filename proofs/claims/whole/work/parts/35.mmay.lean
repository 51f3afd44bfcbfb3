theorem xpl {u : xU} {p s : Int32} (h : XW u) (hp : XP p) (h0 : 0 ≤ s.toInt) (q : ¬ s_X6_lastOf u p < s) : XSt s := by
  rw [fa_lt] at q
  have h1 := xlasto h hp
  have h2 := hp.2
  exact ⟨h0, by omega⟩
theorem xpll {u : xU} {p : Int32} (h : XW u) (hp : XP p) : (s_X6_lastOf u p).toInt < 2147483647 := by
  have h1 := xlasto h hp
  have h2 := hp.2
  omega
theorem xplu {s : Int32} (h : XSt s) : 0 ≤ (s + 1).toInt := by
  obtain ⟨h1, h2⟩ := h
  rw [xinc (by omega)]
  omega
theorem xpl0 {u : xU} {p : Int32} (h : XW u) (hp : XP p) : 0 ≤ (s_X6_firstOf u p).toInt := by
  have h1 := xfirst h hp.1 (Int.le_of_lt hp.2)
  omega
def s_X6_may__L19 : Nat → xU → Int32 → Int32 → Int32 × xU
  | 0, u, _, _ => (0, u)
  | n + 1, u, x1, x2 =>
    if x2 < 0 then
      ((-1), u)
    else
      if (s_X6_may u x1 x2) = 0 then
        s_X6_may__L19 n u x1 (x2 + (-5))
      else
        (x2, u)
def s_X6_may_ (u : xU) (p1 : Int32) : Int32 × xU :=
  if (s_X6_isStation (s_X6_lays u) p1) = 0 then
    ((-2), s_X6_lays u)
  else
    s_X6_may__L19 (((200 : Int32).toInt + 5).toNat + 1) (s_X6_lays u) p1 200
abbrev rm_X6_may_ : Room := { frames := 4, cells := 0, slots := 0, locals := 86 }
set_option maxHeartbeats 8000000 in
set_option maxRecDepth 100000 in
theorem c_X6_may_ (l : Launch) (E : xG) (a : Nat → Nat) (u : xU) (p1 : Int32) (hp0 : XW u) (hL : xOK E (LM a)) : xMd l E yX6_may_ wsX6_may_ rm_X6_may_ (LM a) [.ref (a 0), .int p1] (wM E a u) (some (.int ((s_X6_may_ u p1).1))) (wM E a ((s_X6_may_ u p1).2)) := by
  refine xMd.of (cc := cX6_may_) (maxL := 3) (ret := (some .int)) (by decide) rfl (Nat.le_of_ble_eq_true rfl) ?_
  intro p e s m below meth c ls hAt hF hP hS hl
  obtain ⟨hx, hb, hr, hml, hown, hts, hlocks, -⟩ := hAt
  have hown : s.vm.findClass RX6 = some m.cls := hown
  have hl : lv_has ls 3 [(0, .ref (a 0)), (1, .int p1)] := hl
  have hK := hF.1
  have hA := hL.2
  change W p l e rm_X6_may_ s m ([.ref (a 0), .int p1] : List Value).toArray below meth c s.heap [] 0 0 (xQmd E below (LM a) (some (.int ((s_X6_may_ u p1).1))) (wM E a ((s_X6_may_ u p1).2)) ([.ref (a 0), .int p1] : List Value).toArray s) _
  have hS : va_S (· ∈ LM a) s.heap s.heap [] := hS
  have hR : s_X6_may_ u p1 = s_X6_may_ u p1 := rfl
  refine lv_aload_n hx hb dX6_may__0 rfl (lv_at hl 0 rfl) ?_
  refine xMdV (nL := 3) ⟨hx, hb, hml, hown, hts⟩ (c_X6_lays l E a u  (hp0) hL) (cwV 0 hts gX6_may__X6_lays rfl rfl rfl ⟨rfl, hd_X6_lays⟩ ⟨(Nat.le_of_ble_eq_true rfl), (Nat.le_of_ble_eq_true rfl)⟩) hF hS hL.2 (fun _ h => h) hP (va_recv (q := (RX6, TX6, 28)) hK hP (ci := 6) rfl (q0 := 0) rfl) rfl hl.1 rfl (Nat.le_of_ble_eq_true rfl) ⟨(Nat.le_of_ble_eq_true rfl), (Nat.le_of_ble_eq_true rfl)⟩ dX6_may__1 (fun H locs hP _ hS => ?_)
  refine W.eq (g2 := F0 m 4 ls []) rfl ?_
  refine lv_aload_n hx hb dX6_may__4 rfl (lv_at hl 0 rfl) ?_
  refine lv_iload_n hx hb dX6_may__5 rfl (lv_at hl 1 rfl) ?_
  refine xRoV (nL := 3) ⟨hx, hb, hml, hown, hts⟩ (c_X6_isStation l E a (s_X6_lays u) p1) (cwV 1 hts gX6_may__X6_isStation rfl rfl rfl ⟨rfl, hd_X6_isStation⟩ ⟨(Nat.le_of_ble_eq_true rfl), (Nat.le_of_ble_eq_true rfl)⟩) hF hS hA hP (va_recv (q := (RX6, TX6, 28)) hK hP (ci := 6) rfl (q0 := 0) rfl) rfl hl.1 rfl (Nat.le_of_ble_eq_true rfl) ⟨(Nat.le_of_ble_eq_true rfl), (Nat.le_of_ble_eq_true rfl)⟩ dX6_may__6 ?_
  refine W.eq (g2 := F0 m 9 ls [.int (s_X6_isStation (s_X6_lays u) p1)]) rfl ?_
  refine lv_if_ne (tgt := 15) hx hb dX6_may__9 rfl (fun q1 => ?_) (fun q1 => ?_)
  · have hR := hR.trans (if_neg q1)
    refine lv_sipush (v := 200) hx hb dX6_may__15 rfl ?_
    refine lv_istore_n (lv' := [(2, .int 200), (0, .ref (a 0)), (1, .int p1)]) hx hb dX6_may__18 rfl hl (by decide) rfl (fun ls hl => ?_)
    have L19 : ∀ (n19 : Nat) (x2 : Int32) (H : Heap) (locs : List Loc) (ls : Array Slot), (x2.toInt + 5).toNat < n19 → s_X6_may_ u p1 = s_X6_may__L19 n19 (s_X6_lays u) p1 x2 → lv_has ls 3 [(2, .int x2), (0, .ref (a 0)), (1, .int p1)] → va_P (xD E) vwCl (wM E a (s_X6_lays u)) H → va_S (· ∈ LM a) s.heap H locs → W p l e rm_X6_may_ s m ([.ref (a 0), .int p1] : List Value).toArray below meth c H locs 0 0 (xQmd E below (LM a) (some (.int ((s_X6_may_ u p1).1))) (wM E a ((s_X6_may_ u p1).2)) ([.ref (a 0), .int p1] : List Value).toArray s) (F0 m 19 ls []) := by
      intro n19
      induction n19 with
      | zero => intro x2 H locs ls hM19 hR hl hP hS; exact absurd hM19 (Nat.not_lt_zero _)
      | succ n19 ih19 =>
        intro x2 H locs ls hM19 hR hl hP hS
        refine lv_iload_n hx hb dX6_may__19 rfl (lv_at hl 0 rfl) ?_
        refine lv_if_lt (tgt := 40) hx hb dX6_may__20 rfl (fun q2 => ?_) (fun q2 => ?_)
        · have hR := hR.trans (if_pos q2)
          refine lv_iconst (v := (-1)) hx hb dX6_may__40 rfl ?_
          have hR : s_X6_may_ u p1 = ((-1), s_X6_lays u) := hR
          exact W.iret (v := (-1)) hx hb hr (fun t ht _ => by rw [hR]; dsimp only; exact ⟨⟨rfl, by rw [ht]; exact hP⟩, hS.F ht⟩) hS.2.2 dX6_may__41
        · have hR := hR.trans (if_neg q2)
          refine lv_aload_n hx hb dX6_may__23 rfl (lv_at hl 1 rfl) ?_
          refine lv_iload_n hx hb dX6_may__24 rfl (lv_at hl 2 rfl) ?_
          refine lv_iload_n hx hb dX6_may__25 rfl (lv_at hl 0 rfl) ?_
          refine xRoV (nL := 3) ⟨hx, hb, hml, hown, hts⟩ (c_X6_may l E a (s_X6_lays u) p1 x2 ((xisSt (xlays_st hp0) q1).st)) (cwV 2 hts gX6_may__X6_may rfl rfl rfl ⟨rfl, hd_X6_may⟩ ⟨(Nat.le_of_ble_eq_true rfl), (Nat.le_of_ble_eq_true rfl)⟩) hF hS hA hP (va_recv (q := (RX6, TX6, 28)) hK hP (ci := 6) rfl (q0 := 0) rfl) rfl hl.1 rfl (Nat.le_of_ble_eq_true rfl) ⟨(Nat.le_of_ble_eq_true rfl), (Nat.le_of_ble_eq_true rfl)⟩ dX6_may__26 ?_
          refine W.eq (g2 := F0 m 29 ls [.int (s_X6_may (s_X6_lays u) p1 x2)]) rfl ?_
          refine lv_if_eq (tgt := 34) hx hb dX6_may__29 rfl (fun q3 => ?_) (fun q3 => ?_)
          · have hR := hR.trans (if_pos q3)
            refine lv_iinc (k := 0) (v := x2 + (-5)) (lv' := [(2, .int (x2 + (-5))), (0, .ref (a 0)), (1, .int p1)]) hx hb dX6_may__34 hl rfl rfl (by decide) rfl (fun ls hl => ?_)
            refine lv_goto (tgt := 19) hx hb dX6_may__37 rfl ?_
            exact ih19 (x2 + (-5)) _ _ _ (Nat.lt_of_lt_of_le (xdn5 q2) (Nat.le_of_lt_succ hM19)) hR (lv_sub hl [0, 1, 2] rfl) hP hS
          · have hR := hR.trans (if_neg q3)
            refine lv_iload_n hx hb dX6_may__32 rfl (lv_at hl 0 rfl) ?_
            have hR : s_X6_may_ u p1 = (x2, s_X6_lays u) := hR
            exact W.iret (v := x2) hx hb hr (fun t ht _ => by rw [hR]; dsimp only; exact ⟨⟨rfl, by rw [ht]; exact hP⟩, hS.F ht⟩) hS.2.2 dX6_may__33
    exact L19 (((200 : Int32).toInt + 5).toNat + 1) 200 _ _ ls (Nat.lt_succ_self _) hR hl hP hS
  · have hR := hR.trans (if_pos q1)
    refine lv_bipush (v := (-2)) hx hb dX6_may__12 rfl ?_
    have hR : s_X6_may_ u p1 = ((-2), s_X6_lays u) := hR
    exact W.iret (v := (-2)) hx hb hr (fun t ht _ => by rw [hR]; dsimp only; exact ⟨⟨rfl, by rw [ht]; exact hP⟩, hS.F ht⟩) hS.2.2 dX6_may__14
def s_X6_limit_L16 (K : Int32 → Int32 × xU) : Nat → xU → Int32 → Int32 → Int32 → Int32 × xU
  | 0, u, _, _, _ => (0, u)
  | n + 1, u, x1, x2, x3 =>
    if (u.2 1) < x3 then
      if x2 = 0 then
        K (x1 + (-5))
      else
        (x1, u)
    else
      s_X6_limit_L16 K n u x1 (if x2 = 0 then 0 else if (s_X6_may u x3 x1) = 0 then 0 else 1) (x3 + 1)
def s_X6_limit_L8 : Nat → xU → Int32 → Int32 × xU
  | 0, u, _ => (0, u)
  | n + 1, u, x1 =>
    if x1 < 0 then
      ((-1), u)
    else
      s_X6_limit_L16 (fun x1 => s_X6_limit_L8 n u x1) (((u.2 1).toInt + 1 - (1 : Int32).toInt).toNat + 1) u x1 1 1
def s_X6_limit (u : xU) : Int32 × xU :=
  s_X6_limit_L8 (((200 : Int32).toInt + 5).toNat + 1) (s_X6_lays u) 200
abbrev rm_X6_limit : Room := { frames := 4, cells := 0, slots := 0, locals := 86 }
set_option maxHeartbeats 8000000 in
set_option maxRecDepth 100000 in
theorem c_X6_limit (l : Launch) (E : xG) (a : Nat → Nat) (u : xU)  (hp0 : XW u) (hL : xOK E (LM a)) : xMd l E yX6_limit wsX6_limit rm_X6_limit (LM a) [.ref (a 0)] (wM E a u) (some (.int ((s_X6_limit u).1))) (wM E a ((s_X6_limit u).2)) := by
  refine xMd.of (cc := cX6_limit) (maxL := 4) (ret := (some .int)) (by decide) rfl (Nat.le_of_ble_eq_true rfl) ?_
  intro p e s m below meth c ls hAt hF hP hS hl
  obtain ⟨hx, hb, hr, hml, hown, hts, hlocks, -⟩ := hAt
  have hown : s.vm.findClass RX6 = some m.cls := hown
  have hl : lv_has ls 4 [(0, .ref (a 0))] := hl
  have hK := hF.1
  have hA := hL.2
  change W p l e rm_X6_limit s m ([.ref (a 0)] : List Value).toArray below meth c s.heap [] 0 0 (xQmd E below (LM a) (some (.int ((s_X6_limit u).1))) (wM E a ((s_X6_limit u).2)) ([.ref (a 0)] : List Value).toArray s) _
  have hS : va_S (· ∈ LM a) s.heap s.heap [] := hS
  have hR : s_X6_limit u = s_X6_limit u := rfl
  refine lv_aload_n hx hb dX6_limit_0 rfl (lv_at hl 0 rfl) ?_
  refine xMdV (nL := 4) ⟨hx, hb, hml, hown, hts⟩ (c_X6_lays l E a u  (hp0) hL) (cwV 0 hts gX6_limit_X6_lays rfl rfl rfl ⟨rfl, hd_X6_lays⟩ ⟨(Nat.le_of_ble_eq_true rfl), (Nat.le_of_ble_eq_true rfl)⟩) hF hS hL.2 (fun _ h => h) hP (va_recv (q := (RX6, TX6, 28)) hK hP (ci := 6) rfl (q0 := 0) rfl) rfl hl.1 rfl (Nat.le_of_ble_eq_true rfl) ⟨(Nat.le_of_ble_eq_true rfl), (Nat.le_of_ble_eq_true rfl)⟩ dX6_limit_1 (fun H locs hP _ hS => ?_)
  refine W.eq (g2 := F0 m 4 ls []) rfl ?_
  refine lv_sipush (v := 200) hx hb dX6_limit_4 rfl ?_
  refine lv_istore_n (lv' := [(1, .int 200), (0, .ref (a 0))]) hx hb dX6_limit_7 rfl hl (by decide) rfl (fun ls hl => ?_)
  have L8 : ∀ (n8 : Nat) (x1 : Int32) (H : Heap) (locs : List Loc) (ls : Array Slot), (x1.toInt + 5).toNat < n8 → s_X6_limit u = s_X6_limit_L8 n8 (s_X6_lays u) x1 → lv_has ls 4 [(1, .int x1), (0, .ref (a 0))] → va_P (xD E) vwCl (wM E a (s_X6_lays u)) H → va_S (· ∈ LM a) s.heap H locs → W p l e rm_X6_limit s m ([.ref (a 0)] : List Value).toArray below meth c H locs 0 0 (xQmd E below (LM a) (some (.int ((s_X6_limit u).1))) (wM E a ((s_X6_limit u).2)) ([.ref (a 0)] : List Value).toArray s) (F0 m 8 ls []) := by
    intro n8
    induction n8 with
    | zero => intro x1 H locs ls hM8 hR hl hP hS; exact absurd hM8 (Nat.not_lt_zero _)
    | succ n8 ih8 =>
      intro x1 H locs ls hM8 hR hl hP hS
      refine lv_iload_n hx hb dX6_limit_8 rfl (lv_at hl 0 rfl) ?_
      refine lv_if_lt (tgt := 61) hx hb dX6_limit_9 rfl (fun q1 => ?_) (fun q1 => ?_)
      · have hR := hR.trans (if_pos q1)
        refine lv_iconst (v := (-1)) hx hb dX6_limit_61 rfl ?_
        have hR : s_X6_limit u = ((-1), s_X6_lays u) := hR
        exact W.iret (v := (-1)) hx hb hr (fun t ht _ => by rw [hR]; dsimp only; exact ⟨⟨rfl, by rw [ht]; exact hP⟩, hS.F ht⟩) hS.2.2 dX6_limit_62
      · have hR := hR.trans (if_neg q1)
        refine lv_iconst (v := 1) hx hb dX6_limit_12 rfl ?_
        refine lv_istore_n (lv' := [(2, .int 1), (1, .int x1), (0, .ref (a 0))]) hx hb dX6_limit_13 rfl hl (by decide) rfl (fun ls hl => ?_)
        refine lv_iconst (v := 1) hx hb dX6_limit_14 rfl ?_
        refine lv_istore_n (lv' := [(3, .int 1), (2, .int 1), (1, .int x1), (0, .ref (a 0))]) hx hb dX6_limit_15 rfl hl (by decide) rfl (fun ls hl => ?_)
        have L16 : ∀ (n16 : Nat) (x2 : Int32) (x3 : Int32) (H : Heap) (locs : List Loc) (ls : Array Slot), (1 ≤ x3.toInt) → (((s_X6_lays u).2 1).toInt + 1 - x3.toInt).toNat < n16 → s_X6_limit u = s_X6_limit_L16 (fun x1 => s_X6_limit_L8 n8 (s_X6_lays u) x1) n16 (s_X6_lays u) x1 x2 x3 → lv_has ls 4 [(3, .int x3), (2, .int x2), (1, .int x1), (0, .ref (a 0))] → va_P (xD E) vwCl (wM E a (s_X6_lays u)) H → va_S (· ∈ LM a) s.heap H locs → W p l e rm_X6_limit s m ([.ref (a 0)] : List Value).toArray below meth c H locs 0 0 (xQmd E below (LM a) (some (.int ((s_X6_limit u).1))) (wM E a ((s_X6_limit u).2)) ([.ref (a 0)] : List Value).toArray s) (F0 m 16 ls []) := by
          intro n16
          induction n16 with
          | zero => intro x2 x3 H locs ls hI0 hM16 hR hl hP hS; exact absurd hM16 (Nat.not_lt_zero _)
          | succ n16 ih16 =>
            intro x2 x3 H locs ls hI0 hM16 hR hl hP hS
            refine lv_iload_n hx hb dX6_limit_16 rfl (lv_at hl 0 rfl) ?_
            refine lv_aload_n hx hb dX6_limit_17 rfl (lv_at hl 3 rfl) ?_
            refine va_get (D := xD E) (ci := 6) (v := .int ((s_X6_lays u).2 1)) (C := RX6) (T := TX6) (N := 28) hx hb hts (by decide +kernel) hown hK hP 0 rfl rfl 8 (by decide) (hts (.fieldLink RX6 130 "RailOffsetsModel" "stations" "I") (by decide +kernel)) (fun _ h => h) rfl dX6_limit_18 ?_
            refine lv_icmp_gt (tgt := 49) hx hb dX6_limit_21 rfl (fun q2 => ?_) (fun q2 => ?_)
            · have hR := hR.trans (if_pos q2)
              refine lv_iload_n hx hb dX6_limit_49 rfl (lv_at hl 1 rfl) ?_
              refine lv_if_eq (tgt := 55) hx hb dX6_limit_50 rfl (fun q3 => ?_) (fun q3 => ?_)
              · have hR := hR.trans (if_pos q3)
                refine lv_iinc (k := 2) (v := x1 + (-5)) (lv' := [(1, .int (x1 + (-5))), (3, .int x3), (2, .int x2), (0, .ref (a 0))]) hx hb dX6_limit_55 hl rfl rfl (by decide) rfl (fun ls hl => ?_)
                refine lv_goto (tgt := 8) hx hb dX6_limit_58 rfl ?_
                exact ih8 (x1 + (-5)) _ _ _ (Nat.lt_of_lt_of_le (xdn5 q1) (Nat.le_of_lt_succ hM8)) hR (lv_sub hl [0, 3] rfl) hP hS
              · have hR := hR.trans (if_neg q3)
                refine lv_iload_n hx hb dX6_limit_53 rfl (lv_at hl 2 rfl) ?_
                have hR : s_X6_limit u = (x1, s_X6_lays u) := hR
                exact W.iret (v := x1) hx hb hr (fun t ht _ => by rw [hR]; dsimp only; exact ⟨⟨rfl, by rw [ht]; exact hP⟩, hS.F ht⟩) hS.2.2 dX6_limit_54
            · have hR := hR.trans (if_neg q2)
              refine lv_iload_n hx hb dX6_limit_24 rfl (lv_at hl 1 rfl) ?_
              have J4 : W p l e rm_X6_limit s m ([.ref (a 0)] : List Value).toArray below meth c H locs 0 0 (xQmd E below (LM a) (some (.int ((s_X6_limit u).1))) (wM E a ((s_X6_limit u).2)) ([.ref (a 0)] : List Value).toArray s) (F0 m 42 ls [.int (if x2 = 0 then 0 else if (s_X6_may (s_X6_lays u) x3 x1) = 0 then 0 else 1)]) := by
                refine lv_istore_n (lv' := [(2, .int (if x2 = 0 then 0 else if (s_X6_may (s_X6_lays u) x3 x1) = 0 then 0 else 1)), (3, .int x3), (1, .int x1), (0, .ref (a 0))]) hx hb dX6_limit_42 rfl hl (by decide) rfl (fun ls hl => ?_)
                refine lv_iinc (k := 1) (v := x3 + 1) (lv' := [(3, .int (x3 + 1)), (2, .int (if x2 = 0 then 0 else if (s_X6_may (s_X6_lays u) x3 x1) = 0 then 0 else 1)), (1, .int x1), (0, .ref (a 0))]) hx hb dX6_limit_43 hl rfl rfl (by decide) rfl (fun ls hl => ?_)
                refine lv_goto (tgt := 16) hx hb dX6_limit_46 rfl ?_
                exact ih16 (if x2 = 0 then 0 else if (s_X6_may (s_X6_lays u) x3 x1) = 0 then 0 else 1) (x3 + 1) _ _ _ (xs1u hI0 (xlays_st hp0) q2) (Nat.lt_of_lt_of_le (xupl q2 (xstl (xlays_st hp0))) (Nat.le_of_lt_succ hM16)) hR (lv_sub hl [0, 1, 2, 3] rfl) hP hS
              refine lv_if_eq (tgt := 41) hx hb dX6_limit_25 rfl (fun q5 => ?_) (fun q5 => ?_)
              · refine lv_iconst (v := 0) hx hb dX6_limit_41 rfl ?_
                exact W.eq (congrArg (fun z => F0 m 42 ls [.int z]) (if_pos q5).symm) J4
              · refine lv_aload_n hx hb dX6_limit_28 rfl (lv_at hl 3 rfl) ?_
                refine lv_iload_n hx hb dX6_limit_29 rfl (lv_at hl 0 rfl) ?_
                refine lv_iload_n hx hb dX6_limit_30 rfl (lv_at hl 2 rfl) ?_
                refine xRoV (nL := 4) ⟨hx, hb, hml, hown, hts⟩ (c_X6_may l E a (s_X6_lays u) x3 x1 ((xsup hI0 (xlays_st hp0) q2).st)) (cwV 2 hts gX6_limit_X6_may rfl rfl rfl ⟨rfl, hd_X6_may⟩ ⟨(Nat.le_of_ble_eq_true rfl), (Nat.le_of_ble_eq_true rfl)⟩) hF hS hA hP (va_recv (q := (RX6, TX6, 28)) hK hP (ci := 6) rfl (q0 := 0) rfl) rfl hl.1 rfl (Nat.le_of_ble_eq_true rfl) ⟨(Nat.le_of_ble_eq_true rfl), (Nat.le_of_ble_eq_true rfl)⟩ dX6_limit_31 ?_
                refine W.eq (g2 := F0 m 34 ls [.int (s_X6_may (s_X6_lays u) x3 x1)]) rfl ?_
                have J6 : W p l e rm_X6_limit s m ([.ref (a 0)] : List Value).toArray below meth c H locs 0 0 (xQmd E below (LM a) (some (.int ((s_X6_limit u).1))) (wM E a ((s_X6_limit u).2)) ([.ref (a 0)] : List Value).toArray s) (F0 m 42 ls [.int (if (s_X6_may (s_X6_lays u) x3 x1) = 0 then 0 else 1)]) := by
                  exact W.eq (congrArg (fun z => F0 m 42 ls [.int z]) (if_neg q5).symm) J4
                refine lv_if_eq (tgt := 41) hx hb dX6_limit_34 rfl (fun q7 => ?_) (fun q7 => ?_)
                · refine lv_iconst (v := 0) hx hb dX6_limit_41 rfl ?_
                  exact W.eq (congrArg (fun z => F0 m 42 ls [.int z]) (if_pos q7).symm) J6
                · refine lv_iconst (v := 1) hx hb dX6_limit_37 rfl ?_
                  refine lv_goto (tgt := 42) hx hb dX6_limit_38 rfl ?_
                  exact W.eq (congrArg (fun z => F0 m 42 ls [.int z]) (if_neg q7).symm) J6
        exact L16 ((((s_X6_lays u).2 1).toInt + 1 - (1 : Int32).toInt).toNat + 1) 1 1 _ _ ls (by decide) (Nat.lt_succ_self _) hR hl hP hS
  exact L8 (((200 : Int32).toInt + 5).toNat + 1) 200 _ _ ls (Nat.lt_succ_self _) hR hl hP hS
def s_X6_piecelacks_L6 : Nat → xU → Int32 → Int32 → Int32
  | 0, _, _, _ => 0
  | n + 1, u, x1, x2 =>
    if (s_X6_lastOf u x1) < x2 then
      0
    else
      if (s_X6_lacks u x2 (s_X6_rule u 5)) = 0 then
        s_X6_piecelacks_L6 n u x1 (x2 + 1)
      else
        1
def s_X6_piecelacks (u : xU) (p1 : Int32) : Int32 :=
  s_X6_piecelacks_L6 (((s_X6_lastOf u p1).toInt + 1 - (s_X6_firstOf u p1).toInt).toNat + 1) u p1 (s_X6_firstOf u p1)
abbrev rm_X6_piecelacks : Room := { frames := 3, cells := 0, slots := 0, locals := 66 }
set_option maxHeartbeats 8000000 in
set_option maxRecDepth 100000 in
theorem c_X6_piecelacks (l : Launch) (E : xG) (a : Nat → Nat) (u : xU) (p1 : Int32) (hp0 : XW u) (hp1 : XP p1) : xRo l E yX6_piecelacks wsX6_piecelacks rm_X6_piecelacks [.ref (a 0), .int p1] (wM E a u) (some (.int (s_X6_piecelacks u p1))) := by
  refine xRo.of (cc := cX6_piecelacks) (maxL := 3) (ret := (some .boolean)) (by decide) rfl (Nat.le_of_ble_eq_true rfl) ?_
  intro p e s m below meth c ls hAt hF hP hS hl
  obtain ⟨hx, hb, hr, hml, hown, hts, hlocks, -⟩ := hAt
  have hown : s.vm.findClass RX6 = some m.cls := hown
  have hl : lv_has ls 3 [(0, .ref (a 0)), (1, .int p1)] := hl
  have hK := hF.1
  have hA : ∀ q : Nat, (fun _ => False) q → xA0 E q := fun _ h => h.elim
  change W p l e rm_X6_piecelacks s m ([.ref (a 0), .int p1] : List Value).toArray below meth c s.heap [] 0 0 (xQro below (some (.int (s_X6_piecelacks u p1))) ([.ref (a 0), .int p1] : List Value).toArray s) _
  have hR : s_X6_piecelacks u p1 = s_X6_piecelacks u p1 := rfl
  refine lv_aload_n hx hb dX6_piecelacks_0 rfl (lv_at hl 0 rfl) ?_
  refine lv_iload_n hx hb dX6_piecelacks_1 rfl (lv_at hl 1 rfl) ?_
  refine xRoV (nL := 3) ⟨hx, hb, hml, hown, hts⟩ (c_X6_firstOf l E a u p1 (Int.le_of_lt hp1.2)) (cwV 1 hts gX6_piecelacks_X6_firstOf rfl rfl rfl ⟨rfl, hd_X6_firstOf⟩ ⟨(Nat.le_of_ble_eq_true rfl), (Nat.le_of_ble_eq_true rfl)⟩) hF hS hA hP (va_recv (q := (RX6, TX6, 28)) hK hP (ci := 6) rfl (q0 := 0) rfl) rfl hl.1 rfl (Nat.le_of_ble_eq_true rfl) ⟨(Nat.le_of_ble_eq_true rfl), (Nat.le_of_ble_eq_true rfl)⟩ dX6_piecelacks_2 ?_
  refine W.eq (g2 := F0 m 5 ls [.int (s_X6_firstOf u p1)]) rfl ?_
  refine lv_istore_n (lv' := [(2, .int (s_X6_firstOf u p1)), (0, .ref (a 0)), (1, .int p1)]) hx hb dX6_piecelacks_5 rfl hl (by decide) rfl (fun ls hl => ?_)
  have L6 : ∀ (n6 : Nat) (x2 : Int32) (ls : Array Slot), (0 ≤ x2.toInt) → ((s_X6_lastOf u p1).toInt + 1 - x2.toInt).toNat < n6 → s_X6_piecelacks u p1 = s_X6_piecelacks_L6 n6 u p1 x2 → lv_has ls 3 [(2, .int x2), (0, .ref (a 0)), (1, .int p1)] → W p l e rm_X6_piecelacks s m ([.ref (a 0), .int p1] : List Value).toArray below meth c s.heap [] 0 0 (xQro below (some (.int (s_X6_piecelacks u p1))) ([.ref (a 0), .int p1] : List Value).toArray s) (F0 m 6 ls []) := by
    intro n6
    induction n6 with
    | zero => intro x2 ls hI0 hM6 hR hl; exact absurd hM6 (Nat.not_lt_zero _)
    | succ n6 ih6 =>
      intro x2 ls hI0 hM6 hR hl
      refine lv_iload_n hx hb dX6_piecelacks_6 rfl (lv_at hl 0 rfl) ?_
      refine lv_aload_n hx hb dX6_piecelacks_7 rfl (lv_at hl 1 rfl) ?_
      refine lv_iload_n hx hb dX6_piecelacks_8 rfl (lv_at hl 2 rfl) ?_
      refine xRoV (nL := 3) ⟨hx, hb, hml, hown, hts⟩ (c_X6_lastOf l E a u p1 (hp1)) (cwV 1 hts gX6_piecelacks_X6_lastOf rfl rfl rfl ⟨rfl, hd_X6_lastOf⟩ ⟨(Nat.le_of_ble_eq_true rfl), (Nat.le_of_ble_eq_true rfl)⟩) hF hS hA hP (va_recv (q := (RX6, TX6, 28)) hK hP (ci := 6) rfl (q0 := 0) rfl) rfl hl.1 rfl (Nat.le_of_ble_eq_true rfl) ⟨(Nat.le_of_ble_eq_true rfl), (Nat.le_of_ble_eq_true rfl)⟩ dX6_piecelacks_9 ?_
      refine W.eq (g2 := F0 m 12 ls [.int (s_X6_lastOf u p1), .int x2]) rfl ?_
      refine lv_icmp_gt (tgt := 36) hx hb dX6_piecelacks_12 rfl (fun q1 => ?_) (fun q1 => ?_)
      · have hR := hR.trans (if_pos q1)
        refine lv_iconst (v := 0) hx hb dX6_piecelacks_36 rfl ?_
        have hR : s_X6_piecelacks u p1 = 0 := hR
        exact W.zret (v := 0) (ty := .boolean) hx hb hr (xnb (Or.inl rfl)) (fun t ht _ => ⟨congrArg (fun z => Outcome.returned (some (Value.int z))) hR.symm, ht⟩) (fun _ h => by cases h) dX6_piecelacks_37
      · have hR := hR.trans (if_neg q1)
        refine lv_aload_n hx hb dX6_piecelacks_15 rfl (lv_at hl 1 rfl) ?_
        refine lv_iload_n hx hb dX6_piecelacks_16 rfl (lv_at hl 0 rfl) ?_
        refine lv_aload_n hx hb dX6_piecelacks_17 rfl (lv_at hl 1 rfl) ?_
        refine lv_iconst (v := 5) hx hb dX6_piecelacks_18 rfl ?_
        refine xRoV (nL := 3) ⟨hx, hb, hml, hown, hts⟩ (c_X6_rule l E a u 5 (xrul (by decide) (by decide))) (cwV 1 hts gX6_piecelacks_X6_rule rfl rfl rfl ⟨rfl, hd_X6_rule⟩ ⟨(Nat.le_of_ble_eq_true rfl), (Nat.le_of_ble_eq_true rfl)⟩) hF hS hA hP (va_recv (q := (RX6, TX6, 28)) hK hP (ci := 6) rfl (q0 := 0) rfl) rfl hl.1 rfl (Nat.le_of_ble_eq_true rfl) ⟨(Nat.le_of_ble_eq_true rfl), (Nat.le_of_ble_eq_true rfl)⟩ dX6_piecelacks_19 ?_
        refine W.eq (g2 := F0 m 22 ls [.int (s_X6_rule u 5), .int x2, .ref (a 0)]) rfl ?_
        refine xRoV (nL := 3) ⟨hx, hb, hml, hown, hts⟩ (c_X6_lacks l E a u x2 (s_X6_rule u 5) (xpl hp0 hp1 hI0 q1)) (cwV 2 hts gX6_piecelacks_X6_lacks rfl rfl rfl ⟨rfl, hd_X6_lacks⟩ ⟨(Nat.le_of_ble_eq_true rfl), (Nat.le_of_ble_eq_true rfl)⟩) hF hS hA hP (va_recv (q := (RX6, TX6, 28)) hK hP (ci := 6) rfl (q0 := 0) rfl) rfl hl.1 rfl (Nat.le_of_ble_eq_true rfl) ⟨(Nat.le_of_ble_eq_true rfl), (Nat.le_of_ble_eq_true rfl)⟩ dX6_piecelacks_22 ?_
        refine W.eq (g2 := F0 m 25 ls [.int (s_X6_lacks u x2 (s_X6_rule u 5))]) rfl ?_
        refine lv_if_eq (tgt := 30) hx hb dX6_piecelacks_25 rfl (fun q2 => ?_) (fun q2 => ?_)
        · have hR := hR.trans (if_pos q2)
          refine lv_iinc (k := 0) (v := x2 + 1) (lv' := [(2, .int (x2 + 1)), (0, .ref (a 0)), (1, .int p1)]) hx hb dX6_piecelacks_30 hl rfl rfl (by decide) rfl (fun ls hl => ?_)
          refine lv_goto (tgt := 6) hx hb dX6_piecelacks_33 rfl ?_
          exact ih6 (x2 + 1) _ (xplu (xpl hp0 hp1 hI0 q1)) (Nat.lt_of_lt_of_le (xupl q1 (xpll hp0 hp1)) (Nat.le_of_lt_succ hM6)) hR (lv_sub hl [0, 1, 2] rfl)
        · have hR := hR.trans (if_neg q2)
          refine lv_iconst (v := 1) hx hb dX6_piecelacks_28 rfl ?_
          have hR : s_X6_piecelacks u p1 = 1 := hR
          exact W.zret (v := 1) (ty := .boolean) hx hb hr (xnb (Or.inr rfl)) (fun t ht _ => ⟨congrArg (fun z => Outcome.returned (some (Value.int z))) hR.symm, ht⟩) (fun _ h => by cases h) dX6_piecelacks_29
  exact L6 (((s_X6_lastOf u p1).toInt + 1 - (s_X6_firstOf u p1).toInt).toNat + 1) (s_X6_firstOf u p1) ls (xpl0 hp0 hp1) (Nat.lt_succ_self _) hR hl
def s_X6_miss (u : xU) (p1 : Int32) : Int64 × xU :=
  if (s_X6_in u p1.toInt64 0 1) = 0 then
    (xNO, u)
  else
    if p1 = 0 then
      ((((s_X6_lays u).1 7 ((s_X6_lays u).2 1).toNatClampNeg) - (s_X6_rule (s_X6_lays u) 6)).toInt64, s_X6_lays u)
    else
      ((((s_X6_lays u).1 6 ((s_X6_lays u).2 1).toNatClampNeg) - (s_X6_rule (s_X6_lays u) 7)).toInt64, s_X6_lays u)
abbrev rm_X6_miss : Room := { frames := 2, cells := 0, slots := 0, locals := 50 }
set_option maxHeartbeats 8000000 in
set_option maxRecDepth 100000 in
theorem c_X6_miss (l : Launch) (E : xG) (a : Nat → Nat) (u : xU) (p1 : Int32) (hp0 : XW u) (hL : xOK E (LM a)) : xMd l E yX6_miss wsX6_miss rm_X6_miss (LM a) [.ref (a 0), .int p1] (wM E a u) (some (.long ((s_X6_miss u p1).1))) (wM E a ((s_X6_miss u p1).2)) := by
  refine xMd.of (cc := cX6_miss) (maxL := 2) (ret := (some .long)) (by decide) rfl (Nat.le_of_ble_eq_true rfl) ?_
  intro p e s m below meth c ls hAt hF hP hS hl
  obtain ⟨hx, hb, hr, hml, hown, hts, hlocks, -⟩ := hAt
  have hown : s.vm.findClass RX6 = some m.cls := hown
  have hl : lv_has ls 2 [(0, .ref (a 0)), (1, .int p1)] := hl
  have hK := hF.1
  have hA := hL.2
  change W p l e rm_X6_miss s m ([.ref (a 0), .int p1] : List Value).toArray below meth c s.heap [] 0 0 (xQmd E below (LM a) (some (.long ((s_X6_miss u p1).1))) (wM E a ((s_X6_miss u p1).2)) ([.ref (a 0), .int p1] : List Value).toArray s) _
  have hS : va_S (· ∈ LM a) s.heap s.heap [] := hS
  have hR : s_X6_miss u p1 = s_X6_miss u p1 := rfl
  refine lv_iload_n hx hb dX6_miss_0 rfl (lv_at hl 1 rfl) ?_
  refine lv_i2l hx hb dX6_miss_1 rfl ?_
  refine lv_lconst (v := 0) hx hb dX6_miss_2 rfl ?_
  refine lv_lconst (v := 1) hx hb dX6_miss_3 rfl ?_
  refine xRoS (nL := 2) ⟨hx, hb, hml, hown, hts⟩ (c_X6_in l E a u p1.toInt64 0 1) (va_cwS 3 hts gX6_miss_X6_in rfl rfl rfl hd_X6_in ⟨(Nat.le_of_ble_eq_true rfl), (Nat.le_of_ble_eq_true rfl)⟩) hF hS hA hP rfl hl.1 rfl (Nat.le_of_ble_eq_true rfl) ⟨(Nat.le_of_ble_eq_true rfl), (Nat.le_of_ble_eq_true rfl)⟩ dX6_miss_4 ?_
  refine W.eq (g2 := F0 m 7 ls [.int (s_X6_in u p1.toInt64 0 1)]) rfl ?_
  refine lv_if_ne (tgt := 14) hx hb dX6_miss_7 rfl (fun q1 => ?_) (fun q1 => ?_)
  · have hR := hR.trans (if_neg q1)
    refine lv_aload_n hx hb dX6_miss_14 rfl (lv_at hl 0 rfl) ?_
    refine xMdV (nL := 2) ⟨hx, hb, hml, hown, hts⟩ (c_X6_lays l E a u  (hp0) hL) (cwV 0 hts gX6_miss_X6_lays rfl rfl rfl ⟨rfl, hd_X6_lays⟩ ⟨(Nat.le_of_ble_eq_true rfl), (Nat.le_of_ble_eq_true rfl)⟩) hF hS hL.2 (fun _ h => h) hP (va_recv (q := (RX6, TX6, 28)) hK hP (ci := 6) rfl (q0 := 0) rfl) rfl hl.1 rfl (Nat.le_of_ble_eq_true rfl) ⟨(Nat.le_of_ble_eq_true rfl), (Nat.le_of_ble_eq_true rfl)⟩ dX6_miss_15 (fun H locs hP _ hS => ?_)
    refine W.eq (g2 := F0 m 18 ls []) rfl ?_
    refine lv_iload_n hx hb dX6_miss_18 rfl (lv_at hl 1 rfl) ?_
    refine lv_if_ne (tgt := 42) hx hb dX6_miss_19 rfl (fun q2 => ?_) (fun q2 => ?_)
    · have hR := hR.trans (if_neg q2)
      refine lv_aload_n hx hb dX6_miss_42 rfl (lv_at hl 0 rfl) ?_
      refine va_get (D := xD E) (ci := 6) (v := .ref (a 6)) (C := RX6) (T := TX6) (N := 28) hx hb hts (by decide +kernel) hown hK hP 0 rfl rfl 6 (by decide) (hts (.fieldLink RX6 27 "RailOffsetsModel" "turn" "[I") (by decide +kernel)) (fun _ h => h) rfl dX6_miss_43 ?_
      refine lv_aload_n hx hb dX6_miss_46 rfl (lv_at hl 0 rfl) ?_
      refine va_get (D := xD E) (ci := 6) (v := .int ((s_X6_lays u).2 1)) (C := RX6) (T := TX6) (N := 28) hx hb hts (by decide +kernel) hown hK hP 0 rfl rfl 8 (by decide) (hts (.fieldLink RX6 130 "RailOffsetsModel" "stations" "I") (by decide +kernel)) (fun _ h => h) rfl dX6_miss_47 ?_
      refine va_iald hx hb hK hP 6 0 rfl rfl (xvst (xlays_st hp0)) dX6_miss_50 ?_
      refine lv_aload_n hx hb dX6_miss_51 rfl (lv_at hl 0 rfl) ?_
      refine lv_bipush (v := 7) hx hb dX6_miss_52 rfl ?_
      refine xRoV (nL := 2) ⟨hx, hb, hml, hown, hts⟩ (c_X6_rule l E a (s_X6_lays u) 7 (xrul (by decide) (by decide))) (cwV 1 hts gX6_miss_X6_rule rfl rfl rfl ⟨rfl, hd_X6_rule⟩ ⟨(Nat.le_of_ble_eq_true rfl), (Nat.le_of_ble_eq_true rfl)⟩) hF hS hA hP (va_recv (q := (RX6, TX6, 28)) hK hP (ci := 6) rfl (q0 := 0) rfl) rfl hl.1 rfl (Nat.le_of_ble_eq_true rfl) ⟨(Nat.le_of_ble_eq_true rfl), (Nat.le_of_ble_eq_true rfl)⟩ dX6_miss_54 ?_
      refine W.eq (g2 := F0 m 57 ls [.int (s_X6_rule (s_X6_lays u) 7), .int ((s_X6_lays u).1 6 ((s_X6_lays u).2 1).toNatClampNeg)]) rfl ?_
      refine lv_isub hx hb dX6_miss_57 ?_
      refine lv_i2l hx hb dX6_miss_58 rfl ?_
      have hR : s_X6_miss u p1 = ((((s_X6_lays u).1 6 ((s_X6_lays u).2 1).toNatClampNeg) - (s_X6_rule (s_X6_lays u) 7)).toInt64, s_X6_lays u) := hR
      exact W.lret (v := (((s_X6_lays u).1 6 ((s_X6_lays u).2 1).toNatClampNeg) - (s_X6_rule (s_X6_lays u) 7)).toInt64) hx hb hr (fun t ht _ => by rw [hR]; dsimp only; exact ⟨⟨rfl, by rw [ht]; exact hP⟩, hS.F ht⟩) hS.2.2 dX6_miss_59
    · have hR := hR.trans (if_pos q2)
      refine lv_aload_n hx hb dX6_miss_22 rfl (lv_at hl 0 rfl) ?_
      refine va_get (D := xD E) (ci := 6) (v := .ref (a 7)) (C := RX6) (T := TX6) (N := 28) hx hb hts (by decide +kernel) hown hK hP 0 rfl rfl 7 (by decide) (hts (.fieldLink RX6 30 "RailOffsetsModel" "offset" "[I") (by decide +kernel)) (fun _ h => h) rfl dX6_miss_23 ?_
      refine lv_aload_n hx hb dX6_miss_26 rfl (lv_at hl 0 rfl) ?_
      refine va_get (D := xD E) (ci := 6) (v := .int ((s_X6_lays u).2 1)) (C := RX6) (T := TX6) (N := 28) hx hb hts (by decide +kernel) hown hK hP 0 rfl rfl 8 (by decide) (hts (.fieldLink RX6 130 "RailOffsetsModel" "stations" "I") (by decide +kernel)) (fun _ h => h) rfl dX6_miss_27 ?_
      refine va_iald hx hb hK hP 7 0 rfl rfl (xvst (xlays_st hp0)) dX6_miss_30 ?_
      refine lv_aload_n hx hb dX6_miss_31 rfl (lv_at hl 0 rfl) ?_
      refine lv_bipush (v := 6) hx hb dX6_miss_32 rfl ?_
      refine xRoV (nL := 2) ⟨hx, hb, hml, hown, hts⟩ (c_X6_rule l E a (s_X6_lays u) 6 (xrul (by decide) (by decide))) (cwV 1 hts gX6_miss_X6_rule rfl rfl rfl ⟨rfl, hd_X6_rule⟩ ⟨(Nat.le_of_ble_eq_true rfl), (Nat.le_of_ble_eq_true rfl)⟩) hF hS hA hP (va_recv (q := (RX6, TX6, 28)) hK hP (ci := 6) rfl (q0 := 0) rfl) rfl hl.1 rfl (Nat.le_of_ble_eq_true rfl) ⟨(Nat.le_of_ble_eq_true rfl), (Nat.le_of_ble_eq_true rfl)⟩ dX6_miss_34 ?_
      refine W.eq (g2 := F0 m 37 ls [.int (s_X6_rule (s_X6_lays u) 6), .int ((s_X6_lays u).1 7 ((s_X6_lays u).2 1).toNatClampNeg)]) rfl ?_
      refine lv_isub hx hb dX6_miss_37 ?_
      refine lv_i2l hx hb dX6_miss_38 rfl ?_
      refine lv_goto (tgt := 59) hx hb dX6_miss_39 rfl ?_
      have hR : s_X6_miss u p1 = ((((s_X6_lays u).1 7 ((s_X6_lays u).2 1).toNatClampNeg) - (s_X6_rule (s_X6_lays u) 6)).toInt64, s_X6_lays u) := hR
      exact W.lret (v := (((s_X6_lays u).1 7 ((s_X6_lays u).2 1).toNatClampNeg) - (s_X6_rule (s_X6_lays u) 6)).toInt64) hx hb hr (fun t ht _ => by rw [hR]; dsimp only; exact ⟨⟨rfl, by rw [ht]; exact hP⟩, hS.F ht⟩) hS.2.2 dX6_miss_59
  · have hR := hR.trans (if_pos q1)
    refine lv_ldc2 (v := xNO) hx hb hown (hts (.constantLong RX6 125 (-9223372036854775808)) (by decide +kernel)) dX6_miss_10 ?_
    have hR : s_X6_miss u p1 = (xNO, u) := hR
    exact W.lret (v := xNO) hx hb hr (fun t ht _ => by rw [hR]; dsimp only; exact ⟨⟨rfl, by rw [ht]; exact hP⟩, hS.F ht⟩) hS.2.2 dX6_miss_13
def s_X6_doMeet (u : xU) : Int32 × xU :=
  if ((s_X6_lays u).1 7 ((s_X6_lays u).2 1).toNatClampNeg) = (s_X6_rule (s_X6_lays u) 6) then
    if ((s_X6_lays u).1 6 ((s_X6_lays u).2 1).toNatClampNeg) = (s_X6_rule (s_X6_lays u) 7) then
      (1, s_X6_lays u)
    else
      (0, s_X6_lays u)
  else
    (0, s_X6_lays u)
abbrev rm_X6_doMeet : Room := { frames := 2, cells := 0, slots := 0, locals := 50 }
set_option maxHeartbeats 8000000 in
set_option maxRecDepth 100000 in
theorem c_X6_doMeet (l : Launch) (E : xG) (a : Nat → Nat) (u : xU)  (hp0 : XW u) (hL : xOK E (LM a)) : xMd l E yX6_doMeet wsX6_doMeet rm_X6_doMeet (LM a) [.ref (a 0)] (wM E a u) (some (.int ((s_X6_doMeet u).1))) (wM E a ((s_X6_doMeet u).2)) := by
  refine xMd.of (cc := cX6_doMeet) (maxL := 1) (ret := (some .boolean)) (by decide) rfl (Nat.le_of_ble_eq_true rfl) ?_
  intro p e s m below meth c ls hAt hF hP hS hl
  obtain ⟨hx, hb, hr, hml, hown, hts, hlocks, -⟩ := hAt
  have hown : s.vm.findClass RX6 = some m.cls := hown
  have hl : lv_has ls 1 [(0, .ref (a 0))] := hl
  have hK := hF.1
  have hA := hL.2
  change W p l e rm_X6_doMeet s m ([.ref (a 0)] : List Value).toArray below meth c s.heap [] 0 0 (xQmd E below (LM a) (some (.int ((s_X6_doMeet u).1))) (wM E a ((s_X6_doMeet u).2)) ([.ref (a 0)] : List Value).toArray s) _
  have hS : va_S (· ∈ LM a) s.heap s.heap [] := hS
  have hR : s_X6_doMeet u = s_X6_doMeet u := rfl
  refine lv_aload_n hx hb dX6_doMeet_0 rfl (lv_at hl 0 rfl) ?_
  refine xMdV (nL := 1) ⟨hx, hb, hml, hown, hts⟩ (c_X6_lays l E a u  (hp0) hL) (cwV 0 hts gX6_doMeet_X6_lays rfl rfl rfl ⟨rfl, hd_X6_lays⟩ ⟨(Nat.le_of_ble_eq_true rfl), (Nat.le_of_ble_eq_true rfl)⟩) hF hS hL.2 (fun _ h => h) hP (va_recv (q := (RX6, TX6, 28)) hK hP (ci := 6) rfl (q0 := 0) rfl) rfl hl.1 rfl (Nat.le_of_ble_eq_true rfl) ⟨(Nat.le_of_ble_eq_true rfl), (Nat.le_of_ble_eq_true rfl)⟩ dX6_doMeet_1 (fun H locs hP _ hS => ?_)
  refine W.eq (g2 := F0 m 4 ls []) rfl ?_
  refine lv_aload_n hx hb dX6_doMeet_4 rfl (lv_at hl 0 rfl) ?_
  refine va_get (D := xD E) (ci := 6) (v := .ref (a 7)) (C := RX6) (T := TX6) (N := 28) hx hb hts (by decide +kernel) hown hK hP 0 rfl rfl 7 (by decide) (hts (.fieldLink RX6 30 "RailOffsetsModel" "offset" "[I") (by decide +kernel)) (fun _ h => h) rfl dX6_doMeet_5 ?_
  refine lv_aload_n hx hb dX6_doMeet_8 rfl (lv_at hl 0 rfl) ?_
  refine va_get (D := xD E) (ci := 6) (v := .int ((s_X6_lays u).2 1)) (C := RX6) (T := TX6) (N := 28) hx hb hts (by decide +kernel) hown hK hP 0 rfl rfl 8 (by decide) (hts (.fieldLink RX6 130 "RailOffsetsModel" "stations" "I") (by decide +kernel)) (fun _ h => h) rfl dX6_doMeet_9 ?_
  refine va_iald hx hb hK hP 7 0 rfl rfl (xvst (xlays_st hp0)) dX6_doMeet_12 ?_
  refine lv_aload_n hx hb dX6_doMeet_13 rfl (lv_at hl 0 rfl) ?_
  refine lv_bipush (v := 6) hx hb dX6_doMeet_14 rfl ?_
  refine xRoV (nL := 1) ⟨hx, hb, hml, hown, hts⟩ (c_X6_rule l E a (s_X6_lays u) 6 (xrul (by decide) (by decide))) (cwV 1 hts gX6_doMeet_X6_rule rfl rfl rfl ⟨rfl, hd_X6_rule⟩ ⟨(Nat.le_of_ble_eq_true rfl), (Nat.le_of_ble_eq_true rfl)⟩) hF hS hA hP (va_recv (q := (RX6, TX6, 28)) hK hP (ci := 6) rfl (q0 := 0) rfl) rfl hl.1 rfl (Nat.le_of_ble_eq_true rfl) ⟨(Nat.le_of_ble_eq_true rfl), (Nat.le_of_ble_eq_true rfl)⟩ dX6_doMeet_16 ?_
  refine W.eq (g2 := F0 m 19 ls [.int (s_X6_rule (s_X6_lays u) 6), .int ((s_X6_lays u).1 7 ((s_X6_lays u).2 1).toNatClampNeg)]) rfl ?_
  refine lv_icmp_ne (tgt := 44) hx hb dX6_doMeet_19 rfl (fun q1 => ?_) (fun q1 => ?_)
  · have hR := hR.trans (if_neg q1)
    refine lv_iconst (v := 0) hx hb dX6_doMeet_44 rfl ?_
    have hR : s_X6_doMeet u = (0, s_X6_lays u) := hR
    exact W.zret (v := 0) (ty := .boolean) hx hb hr (xnb (Or.inl rfl)) (fun t ht _ => by rw [hR]; dsimp only; exact ⟨⟨rfl, by rw [ht]; exact hP⟩, hS.F ht⟩) hS.2.2 dX6_doMeet_45
  · have hR := hR.trans (if_pos q1)
    refine lv_aload_n hx hb dX6_doMeet_22 rfl (lv_at hl 0 rfl) ?_
    refine va_get (D := xD E) (ci := 6) (v := .ref (a 6)) (C := RX6) (T := TX6) (N := 28) hx hb hts (by decide +kernel) hown hK hP 0 rfl rfl 6 (by decide) (hts (.fieldLink RX6 27 "RailOffsetsModel" "turn" "[I") (by decide +kernel)) (fun _ h => h) rfl dX6_doMeet_23 ?_
    refine lv_aload_n hx hb dX6_doMeet_26 rfl (lv_at hl 0 rfl) ?_
    refine va_get (D := xD E) (ci := 6) (v := .int ((s_X6_lays u).2 1)) (C := RX6) (T := TX6) (N := 28) hx hb hts (by decide +kernel) hown hK hP 0 rfl rfl 8 (by decide) (hts (.fieldLink RX6 130 "RailOffsetsModel" "stations" "I") (by decide +kernel)) (fun _ h => h) rfl dX6_doMeet_27 ?_
    refine va_iald hx hb hK hP 6 0 rfl rfl (xvst (xlays_st hp0)) dX6_doMeet_30 ?_
    refine lv_aload_n hx hb dX6_doMeet_31 rfl (lv_at hl 0 rfl) ?_
    refine lv_bipush (v := 7) hx hb dX6_doMeet_32 rfl ?_
    refine xRoV (nL := 1) ⟨hx, hb, hml, hown, hts⟩ (c_X6_rule l E a (s_X6_lays u) 7 (xrul (by decide) (by decide))) (cwV 1 hts gX6_doMeet_X6_rule rfl rfl rfl ⟨rfl, hd_X6_rule⟩ ⟨(Nat.le_of_ble_eq_true rfl), (Nat.le_of_ble_eq_true rfl)⟩) hF hS hA hP (va_recv (q := (RX6, TX6, 28)) hK hP (ci := 6) rfl (q0 := 0) rfl) rfl hl.1 rfl (Nat.le_of_ble_eq_true rfl) ⟨(Nat.le_of_ble_eq_true rfl), (Nat.le_of_ble_eq_true rfl)⟩ dX6_doMeet_34 ?_
    refine W.eq (g2 := F0 m 37 ls [.int (s_X6_rule (s_X6_lays u) 7), .int ((s_X6_lays u).1 6 ((s_X6_lays u).2 1).toNatClampNeg)]) rfl ?_
    refine lv_icmp_ne (tgt := 44) hx hb dX6_doMeet_37 rfl (fun q2 => ?_) (fun q2 => ?_)
    · have hR := hR.trans (if_neg q2)
      refine lv_iconst (v := 0) hx hb dX6_doMeet_44 rfl ?_
      have hR : s_X6_doMeet u = (0, s_X6_lays u) := hR
      exact W.zret (v := 0) (ty := .boolean) hx hb hr (xnb (Or.inl rfl)) (fun t ht _ => by rw [hR]; dsimp only; exact ⟨⟨rfl, by rw [ht]; exact hP⟩, hS.F ht⟩) hS.2.2 dX6_doMeet_45
    · have hR := hR.trans (if_pos q2)
      refine lv_iconst (v := 1) hx hb dX6_doMeet_40 rfl ?_
      refine lv_goto (tgt := 45) hx hb dX6_doMeet_41 rfl ?_
      have hR : s_X6_doMeet u = (1, s_X6_lays u) := hR
      exact W.zret (v := 1) (ty := .boolean) hx hb hr (xnb (Or.inr rfl)) (fun t ht _ => by rw [hR]; dsimp only; exact ⟨⟨rfl, by rw [ht]; exact hP⟩, hS.F ht⟩) hS.2.2 dX6_doMeet_45
