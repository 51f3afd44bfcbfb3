/-! ===== the reference's laying: ranges ===== -/
def XK (p n k N : Int32) : Prop := XP p ∧ 1 ≤ n.toInt ∧ n.toInt ≤ 20 ∧ 1 ≤ k.toInt ∧ k.toInt ≤ n.toInt + 1 ∧ 0 ≤ N.toInt ∧ N.toInt ≤ 20 * p.toInt + (k.toInt - 1)
theorem xup10 {p : Int32} (h : XP p) : (10 - (p + 1).toInt).toNat < (10 - p.toInt).toNat := by
  have h1 := h.1
  have h2 := h.2
  have e : (p + 1).toInt = p.toInt + 1 := fb_addI (x := p) (y := 1) (by rw [show (1 : Int32).toInt = 1 from rfl]; omega) (by rw [show (1 : Int32).toInt = 1 from rfl]; omega)
  rw [e]
  omega
theorem xinc {k : Int32} (h : -1000 ≤ k.toInt ∧ k.toInt ≤ 100000) : (k + 1).toInt = k.toInt + 1 :=
  fb_addI (x := k) (y := 1) (by rw [show (1 : Int32).toInt = 1 from rfl]; omega) (by rw [show (1 : Int32).toInt = 1 from rfl]; omega)
theorem xlout {p n k N : Int32} (h : XK p n k N) (q : n < k) : XI N (p + 1) := by
  obtain ⟨h1, h2, h3, h4, h5, h6, h7⟩ := h
  have h1' := h1.1
  have h1'' := h1.2
  rw [fa_lt] at q
  have e := xinc (k := p) (by omega)
  unfold XI
  rw [e]
  omega
theorem xkin {u : xU} {p : Int32} (h : XW u) (hi : XI (u.2 1) p) (q : ¬ u.1 1 40 ≤ p) : XK p (s_X6_of0 u p 1) 1 (u.2 1) := by
  have hp := xwp h hi.1 q
  obtain ⟨n, h1, h2, h3, h4⟩ := h
  rw [h2, fa_le, nI_toInt (by omega)] at q
  have hq : p = nI p.toInt.toNat := by
    rw [fa_eq, nI_toInt (by have := hp.2; omega)]
    have := hp.1
    omega
  have e : s_X6_of0 u p 1 = u.1 1 (4 * p.toInt.toNat + 1) := by
    unfold s_X6_of0
    have e2 := xadd4 hp (j := 1) (by decide) (by decide)
    rw [show ((4 * p) + 1).toNatClampNeg = 4 * p.toInt.toNat + 1 from ?_]
    show ((4 * p) + 1).toInt.toNat = _
    rw [e2, show (1 : Int32).toInt = 1 from rfl]
    have := hp.1
    omega
  have h5 := h3 p.toInt.toNat 1 (by have := hp.2; omega) (by decide)
  have h6 := h4 p.toInt.toNat (by have := hp.1; omega)
  refine ⟨hp, ?_, ?_, by decide, ?_, hi.2.2.1, ?_⟩
  · rw [e]; exact h6
  · rw [e]; exact h5.2
  · rw [e, show (1 : Int32).toInt = 1 from rfl]; omega
  · rw [show (1 : Int32).toInt = 1 from rfl]; have := hi.2.2.2; omega
theorem xkup {p n k N : Int32} (h : XK p n k N) (q : ¬ n < k) : XK p n (k + 1) (N + 1) := by
  obtain ⟨h1, h2, h3, h4, h5, h6, h7⟩ := h
  have h1' := h1.1
  have h1'' := h1.2
  rw [fa_lt] at q
  refine ⟨h1, h2, h3, ?_, ?_, ?_, ?_⟩
  all_goals (try rw [xinc (k := k) (by omega)]); (try rw [xinc (k := N) (by omega)]); omega
theorem xk3 {p n k N : Int32} (h : XK p n k N) : n.toInt < 2147483647 := by
  have := h.2.2.1
  omega
theorem xst0 {p N : Int32} (h : XI N p) : vp_in N 201 := by
  rw [vp_in_iff]
  obtain ⟨h1, h2, h3, h4⟩ := h
  omega
theorem xst1 {p n k N : Int32} (h : XK p n k N) (q : ¬ n < k) : vp_in (N + 1) 201 := by
  obtain ⟨h1, h2, h3, h4, h5, h6, h7⟩ := h
  have h1' := h1.1
  have h1'' := h1.2
  rw [fa_lt] at q
  rw [vp_in_iff, xinc (k := N) (by omega)]
  omega
theorem xst2 {p n k N : Int32} (h : XK p n k N) (q : ¬ n < k) : vp_in (N + 1 - 1) 201 := by
  obtain ⟨h1, h2, h3, h4, h5, h6, h7⟩ := h
  have h1' := h1.1
  have h1'' := h1.2
  rw [fa_lt] at q
  have e := xinc (k := N) (by omega)
  rw [vp_in_iff, fb_subI (x := N + 1) (y := 1) (by rw [show (1 : Int32).toInt = 1 from rfl]; omega) (by rw [show (1 : Int32).toInt = 1 from rfl]; omega), e, show (1 : Int32).toInt = 1 from rfl]
  omega
theorem xn0 {p n k N : Int32} (h : XK p n k N) : ¬ n = 0 := by
  intro e
  have := h.2.1
  rw [e, show (0 : Int32).toInt = 0 from rfl] at this
  omega
theorem xnn0 {p n k N : Int32} (h : XK p n k N) : ¬ n * n = 0 := by
  intro e
  have h2 := h.2.1
  have h3 := h.2.2.1
  have h4 : 1 ≤ n.toInt * n.toInt := by
    have := Int.mul_le_mul h2 h2 (by decide) (by omega)
    omega
  have h5 : n.toInt * n.toInt ≤ 20 * 20 := Int.mul_le_mul h3 h3 (by omega) (by decide)
  have e2 : (n * n).toInt = n.toInt * n.toInt := fb_mulI (x := n) (y := n) (by omega) (by omega)
  rw [e, show (0 : Int32).toInt = 0 from rfl] at e2
  omega
def s_X6_lays_L65 (K : xU → Int32 → xU) : Nat → xU → Int32 → Int32 → Int32 → Int32 → Int32 → Int32 → Int32 → xU
  | 0, u, _, _, _, _, _, _, _ => u
  | n + 1, u, x1, x2, x3, x4, x5, x6, x7 =>
    if x3 < x7 then
      K u (x1 + 1)
    else
      s_X6_lays_L65 K n (uA (uA (uA (uA (uA (uZ u 1 ((u.2 1) + 1)) 3 ((u.2 1) + 1).toNatClampNeg (if x2 = 4 then x5 + ((((x4 - x5) * x7) * x7) / (x3 * x3)) else if x2 = 2 then x5 + (((x4 - x5) * x7) / x3) else if x2 = 0 then 0 else if x2 = 1 then x4 else if x2 = 3 then -x4 else x4 / 2)) 4 ((u.2 1) + 1).toNatClampNeg (if (s_X6_isUnder u x2 2) = 0 then s_X6_of0 u x1 3 else x6 + ((((s_X6_of0 u x1 3) - x6) * x7) / x3))) 5 ((u.2 1) + 1).toNatClampNeg x1) 6 ((u.2 1) + 1).toNatClampNeg ((u.1 6 (((u.2 1) + 1) - 1).toNatClampNeg) + ((uA (uZ u 1 ((u.2 1) + 1)) 3 ((u.2 1) + 1).toNatClampNeg (if x2 = 4 then x5 + ((((x4 - x5) * x7) * x7) / (x3 * x3)) else if x2 = 2 then x5 + (((x4 - x5) * x7) / x3) else if x2 = 0 then 0 else if x2 = 1 then x4 else if x2 = 3 then -x4 else x4 / 2)).1 3 ((u.2 1) + 1).toNatClampNeg))) 7 ((u.2 1) + 1).toNatClampNeg ((u.1 7 (((u.2 1) + 1) - 1).toNatClampNeg) + ((uA (uA (uA (uA (uZ u 1 ((u.2 1) + 1)) 3 ((u.2 1) + 1).toNatClampNeg (if x2 = 4 then x5 + ((((x4 - x5) * x7) * x7) / (x3 * x3)) else if x2 = 2 then x5 + (((x4 - x5) * x7) / x3) else if x2 = 0 then 0 else if x2 = 1 then x4 else if x2 = 3 then -x4 else x4 / 2)) 4 ((u.2 1) + 1).toNatClampNeg (if (s_X6_isUnder u x2 2) = 0 then s_X6_of0 u x1 3 else x6 + ((((s_X6_of0 u x1 3) - x6) * x7) / x3))) 5 ((u.2 1) + 1).toNatClampNeg x1) 6 ((u.2 1) + 1).toNatClampNeg ((u.1 6 (((u.2 1) + 1) - 1).toNatClampNeg) + ((uA (uZ u 1 ((u.2 1) + 1)) 3 ((u.2 1) + 1).toNatClampNeg (if x2 = 4 then x5 + ((((x4 - x5) * x7) * x7) / (x3 * x3)) else if x2 = 2 then x5 + (((x4 - x5) * x7) / x3) else if x2 = 0 then 0 else if x2 = 1 then x4 else if x2 = 3 then -x4 else x4 / 2)).1 3 ((u.2 1) + 1).toNatClampNeg))).1 6 ((u.2 1) + 1).toNatClampNeg))) x1 x2 x3 x4 x5 x6 (x7 + 1)
def s_X6_lays_L7 : Nat → xU → Int32 → xU
  | 0, u, _ => u
  | n + 1, u, x1 =>
    if (u.1 1 (40 : Int32).toNatClampNeg) ≤ x1 then
      u
    else
      s_X6_lays_L65 (fun u x1 => s_X6_lays_L7 n u x1) (((s_X6_of0 u x1 1).toInt + 1 - (1 : Int32).toInt).toNat + 1) u x1 (s_X6_of0 u x1 0) (s_X6_of0 u x1 1) (s_X6_of0 u x1 2) (u.1 3 (u.2 1).toNatClampNeg) (u.1 4 (u.2 1).toNatClampNeg) 1
def s_X6_lays (u : xU) : xU :=
  s_X6_lays_L7 ((10 - (0 : Int32).toInt).toNat + 1) (uZ u 1 0) 0
abbrev rm_X6_lays : Room := { frames := 1, cells := 0, slots := 0, locals := 22 }
set_option maxHeartbeats 8000000 in
set_option maxRecDepth 100000 in
theorem c_X6_lays (l : Launch) (E : xG) (a : Nat → Nat) (u : xU)  (hp0 : XW u) (hL : xOK E (LM a)) : xMd l E yX6_lays wsX6_lays rm_X6_lays (LM a) [.ref (a 0)] (wM E a u) (none) (wM E a (s_X6_lays u)) := by
  refine xMd.of (cc := cX6_lays) (maxL := 9) (ret := none) (by decide) rfl (Nat.le_of_ble_eq_true rfl) ?_
  intro p e s m below meth c ls hAt hF hP hS hl
  obtain ⟨hx, hb, hr, hml, hown, hts, hlocks, -⟩ := hAt
  have hown : s.vm.findClass RX6 = some m.cls := hown
  have hl : lv_has ls 9 [(0, .ref (a 0))] := hl
  have hK := hF.1
  have hA := hL.2
  change W p l e rm_X6_lays s m ([.ref (a 0)] : List Value).toArray below meth c s.heap [] 0 0 (xQmd E below (LM a) (none) (wM E a (s_X6_lays u)) ([.ref (a 0)] : List Value).toArray s) _
  have hS : va_S (· ∈ LM a) s.heap s.heap [] := hS
  have hR : s_X6_lays u = s_X6_lays u := rfl
  refine lv_aload_n hx hb dX6_lays_0 rfl (lv_at hl 0 rfl) ?_
  refine lv_iconst (v := 0) hx hb dX6_lays_1 rfl ?_
  refine va_put (D := xD E) (ci := 6) (v := .int 0) (ty := .int) (C := RX6) (T := TX6) (N := 28) hx hb hts (by decide +kernel) tyX6 tyX6_ok nmX6 hown hK hP (xD_of (ws := wM E a u) (A := (· ∈ LM a)) hL.1 (fun _ h => h)) hS 0 rfl rfl 8 (by decide) (hts (.fieldLink RX6 130 "RailOffsetsModel" "stations" "I") (by decide +kernel)) (fun _ h => h) rfl (by decide +kernel) rfl rfl (Nat.le_of_ble_eq_true rfl) dX6_lays_2 (fun H locs hP _ hS => ?_)
  have hP : va_P (xD E) vwCl (wM E a (uZ u 1 0)) H := hP
  refine lv_iconst (v := 0) hx hb dX6_lays_5 rfl ?_
  refine lv_istore_n (lv' := [(1, .int 0), (0, .ref (a 0))]) hx hb dX6_lays_6 rfl hl (by decide) rfl (fun ls hl => ?_)
  have L7 : ∀ (n7 : Nat) (u7 : xU) (x1 : Int32) (H : Heap) (locs : List Loc) (ls : Array Slot), (XW u7) → (XI (u7.2 1) x1) → (10 - x1.toInt).toNat < n7 → s_X6_lays u = s_X6_lays_L7 n7 u7 x1 → lv_has ls 9 [(1, .int x1), (0, .ref (a 0))] → va_P (xD E) vwCl (wM E a u7) H → va_S (· ∈ LM a) s.heap H locs → W p l e rm_X6_lays s m ([.ref (a 0)] : List Value).toArray below meth c H locs 0 0 (xQmd E below (LM a) (none) (wM E a (s_X6_lays u)) ([.ref (a 0)] : List Value).toArray s) (F0 m 7 ls []) := by
    intro n7
    induction n7 with
    | zero => intro u7 x1 H locs ls hI0 hI1 hM7 hR hl hP hS; exact absurd hM7 (Nat.not_lt_zero _)
    | succ n7 ih7 =>
      intro u7 x1 H locs ls hI0 hI1 hM7 hR hl hP hS
      refine lv_iload_n hx hb dX6_lays_7 rfl (lv_at hl 0 rfl) ?_
      refine lv_aload_n hx hb dX6_lays_8 rfl (lv_at hl 1 rfl) ?_
      refine va_get (D := xD E) (ci := 6) (v := .ref (a 1)) (C := RX6) (T := TX6) (N := 28) hx hb hts (by decide +kernel) hown hK hP 0 rfl rfl 0 (by decide) (hts (.fieldLink RX6 11 "RailOffsetsModel" "now" "[I") (by decide +kernel)) (fun _ h => h) rfl dX6_lays_9 ?_
      refine lv_bipush (v := 40) hx hb dX6_lays_12 rfl ?_
      refine va_iald hx hb hK hP 1 0 rfl rfl (v40) dX6_lays_14 ?_
      refine lv_icmp_ge (tgt := 303) hx hb dX6_lays_15 rfl (fun q1 => ?_) (fun q1 => ?_)
      · have hR := hR.trans (if_pos q1)
        have hR : s_X6_lays u = u7 := hR
        exact W.vret hx hb hr (fun t ht _ => by rw [hR]; exact ⟨⟨rfl, by rw [ht]; exact hP⟩, hS.F ht⟩) hS.2.2 dX6_lays_303
      · have hR := hR.trans (if_neg q1)
        refine lv_aload_n hx hb dX6_lays_18 rfl (lv_at hl 1 rfl) ?_
        refine lv_iload_n hx hb dX6_lays_19 rfl (lv_at hl 0 rfl) ?_
        refine lv_iconst (v := 0) hx hb dX6_lays_20 rfl ?_
        refine xRoV (nL := 9) ⟨hx, hb, hml, hown, hts⟩ (c_X6_of0 l E a u7 x1 0 (xof (xwp hI0 hI1.1 q1) (by decide) (by decide))) (cwV 2 hts gX6_lays_X6_of0 rfl rfl rfl ⟨rfl, hd_X6_of0⟩ ⟨(Nat.le_of_ble_eq_true rfl), (Nat.le_of_ble_eq_true rfl)⟩) hF hS hA hP (va_recv (q := (RX6, TX6, 28)) hK hP (ci := 6) rfl (q0 := 0) rfl) rfl hl.1 rfl (Nat.le_of_ble_eq_true rfl) ⟨(Nat.le_of_ble_eq_true rfl), (Nat.le_of_ble_eq_true rfl)⟩ dX6_lays_21 ?_
        refine W.eq (g2 := F0 m 24 ls [.int (s_X6_of0 u7 x1 0)]) rfl ?_
        refine lv_istore_n (lv' := [(2, .int (s_X6_of0 u7 x1 0)), (1, .int x1), (0, .ref (a 0))]) hx hb dX6_lays_24 rfl hl (by decide) rfl (fun ls hl => ?_)
        refine lv_aload_n hx hb dX6_lays_25 rfl (lv_at hl 2 rfl) ?_
        refine lv_iload_n hx hb dX6_lays_26 rfl (lv_at hl 1 rfl) ?_
        refine lv_iconst (v := 1) hx hb dX6_lays_27 rfl ?_
        refine xRoV (nL := 9) ⟨hx, hb, hml, hown, hts⟩ (c_X6_of0 l E a u7 x1 1 (xof (xwp hI0 hI1.1 q1) (by decide) (by decide))) (cwV 2 hts gX6_lays_X6_of0 rfl rfl rfl ⟨rfl, hd_X6_of0⟩ ⟨(Nat.le_of_ble_eq_true rfl), (Nat.le_of_ble_eq_true rfl)⟩) hF hS hA hP (va_recv (q := (RX6, TX6, 28)) hK hP (ci := 6) rfl (q0 := 0) rfl) rfl hl.1 rfl (Nat.le_of_ble_eq_true rfl) ⟨(Nat.le_of_ble_eq_true rfl), (Nat.le_of_ble_eq_true rfl)⟩ dX6_lays_28 ?_
        refine W.eq (g2 := F0 m 31 ls [.int (s_X6_of0 u7 x1 1)]) rfl ?_
        refine lv_istore_n (lv' := [(3, .int (s_X6_of0 u7 x1 1)), (2, .int (s_X6_of0 u7 x1 0)), (1, .int x1), (0, .ref (a 0))]) hx hb dX6_lays_31 rfl hl (by decide) rfl (fun ls hl => ?_)
        refine lv_aload_n hx hb dX6_lays_32 rfl (lv_at hl 3 rfl) ?_
        refine lv_iload_n hx hb dX6_lays_33 rfl (lv_at hl 2 rfl) ?_
        refine lv_iconst (v := 2) hx hb dX6_lays_34 rfl ?_
        refine xRoV (nL := 9) ⟨hx, hb, hml, hown, hts⟩ (c_X6_of0 l E a u7 x1 2 (xof (xwp hI0 hI1.1 q1) (by decide) (by decide))) (cwV 2 hts gX6_lays_X6_of0 rfl rfl rfl ⟨rfl, hd_X6_of0⟩ ⟨(Nat.le_of_ble_eq_true rfl), (Nat.le_of_ble_eq_true rfl)⟩) hF hS hA hP (va_recv (q := (RX6, TX6, 28)) hK hP (ci := 6) rfl (q0 := 0) rfl) rfl hl.1 rfl (Nat.le_of_ble_eq_true rfl) ⟨(Nat.le_of_ble_eq_true rfl), (Nat.le_of_ble_eq_true rfl)⟩ dX6_lays_35 ?_
        refine W.eq (g2 := F0 m 38 ls [.int (s_X6_of0 u7 x1 2)]) rfl ?_
        refine lv_istore (lv' := [(4, .int (s_X6_of0 u7 x1 2)), (3, .int (s_X6_of0 u7 x1 1)), (2, .int (s_X6_of0 u7 x1 0)), (1, .int x1), (0, .ref (a 0))]) hx hb dX6_lays_38 hl (by decide) rfl (fun ls hl => ?_)
        refine lv_aload_n hx hb dX6_lays_40 rfl (lv_at hl 4 rfl) ?_
        refine va_get (D := xD E) (ci := 6) (v := .ref (a 3)) (C := RX6) (T := TX6) (N := 28) hx hb hts (by decide +kernel) hown hK hP 0 rfl rfl 3 (by decide) (hts (.fieldLink RX6 18 "RailOffsetsModel" "versine" "[I") (by decide +kernel)) (fun _ h => h) rfl dX6_lays_41 ?_
        refine lv_aload_n hx hb dX6_lays_44 rfl (lv_at hl 4 rfl) ?_
        refine va_get (D := xD E) (ci := 6) (v := .int (u7.2 1)) (C := RX6) (T := TX6) (N := 28) hx hb hts (by decide +kernel) hown hK hP 0 rfl rfl 8 (by decide) (hts (.fieldLink RX6 130 "RailOffsetsModel" "stations" "I") (by decide +kernel)) (fun _ h => h) rfl dX6_lays_45 ?_
        refine va_iald hx hb hK hP 3 0 rfl rfl (xst0 hI1) dX6_lays_48 ?_
        refine lv_istore (lv' := [(5, .int (u7.1 3 (u7.2 1).toNatClampNeg)), (4, .int (s_X6_of0 u7 x1 2)), (3, .int (s_X6_of0 u7 x1 1)), (2, .int (s_X6_of0 u7 x1 0)), (1, .int x1), (0, .ref (a 0))]) hx hb dX6_lays_49 hl (by decide) rfl (fun ls hl => ?_)
        refine lv_aload_n hx hb dX6_lays_51 rfl (lv_at hl 5 rfl) ?_
        refine va_get (D := xD E) (ci := 6) (v := .ref (a 4)) (C := RX6) (T := TX6) (N := 28) hx hb hts (by decide +kernel) hown hK hP 0 rfl rfl 4 (by decide) (hts (.fieldLink RX6 21 "RailOffsetsModel" "height" "[I") (by decide +kernel)) (fun _ h => h) rfl dX6_lays_52 ?_
        refine lv_aload_n hx hb dX6_lays_55 rfl (lv_at hl 5 rfl) ?_
        refine va_get (D := xD E) (ci := 6) (v := .int (u7.2 1)) (C := RX6) (T := TX6) (N := 28) hx hb hts (by decide +kernel) hown hK hP 0 rfl rfl 8 (by decide) (hts (.fieldLink RX6 130 "RailOffsetsModel" "stations" "I") (by decide +kernel)) (fun _ h => h) rfl dX6_lays_56 ?_
        refine va_iald hx hb hK hP 4 0 rfl rfl (xst0 hI1) dX6_lays_59 ?_
        refine lv_istore (lv' := [(6, .int (u7.1 4 (u7.2 1).toNatClampNeg)), (5, .int (u7.1 3 (u7.2 1).toNatClampNeg)), (4, .int (s_X6_of0 u7 x1 2)), (3, .int (s_X6_of0 u7 x1 1)), (2, .int (s_X6_of0 u7 x1 0)), (1, .int x1), (0, .ref (a 0))]) hx hb dX6_lays_60 hl (by decide) rfl (fun ls hl => ?_)
        refine lv_iconst (v := 1) hx hb dX6_lays_62 rfl ?_
        refine lv_istore (lv' := [(7, .int 1), (6, .int (u7.1 4 (u7.2 1).toNatClampNeg)), (5, .int (u7.1 3 (u7.2 1).toNatClampNeg)), (4, .int (s_X6_of0 u7 x1 2)), (3, .int (s_X6_of0 u7 x1 1)), (2, .int (s_X6_of0 u7 x1 0)), (1, .int x1), (0, .ref (a 0))]) hx hb dX6_lays_63 hl (by decide) rfl (fun ls hl => ?_)
        have L65 : ∀ (n65 : Nat) (u65 : xU) (x7 : Int32) (H : Heap) (locs : List Loc) (ls : Array Slot), (XW u65) → (XK x1 (s_X6_of0 u7 x1 1) x7 (u65.2 1)) → ((s_X6_of0 u7 x1 1).toInt + 1 - x7.toInt).toNat < n65 → s_X6_lays u = s_X6_lays_L65 (fun u x1 => s_X6_lays_L7 n7 u x1) n65 u65 x1 (s_X6_of0 u7 x1 0) (s_X6_of0 u7 x1 1) (s_X6_of0 u7 x1 2) (u7.1 3 (u7.2 1).toNatClampNeg) (u7.1 4 (u7.2 1).toNatClampNeg) x7 → lv_has ls 9 [(7, .int x7), (6, .int (u7.1 4 (u7.2 1).toNatClampNeg)), (5, .int (u7.1 3 (u7.2 1).toNatClampNeg)), (4, .int (s_X6_of0 u7 x1 2)), (3, .int (s_X6_of0 u7 x1 1)), (2, .int (s_X6_of0 u7 x1 0)), (1, .int x1), (0, .ref (a 0))] → va_P (xD E) vwCl (wM E a u65) H → va_S (· ∈ LM a) s.heap H locs → W p l e rm_X6_lays s m ([.ref (a 0)] : List Value).toArray below meth c H locs 0 0 (xQmd E below (LM a) (none) (wM E a (s_X6_lays u)) ([.ref (a 0)] : List Value).toArray s) (F0 m 65 ls []) := by
          intro n65
          induction n65 with
          | zero => intro u65 x7 H locs ls hI0 hI1 hM65 hR hl hP hS; exact absurd hM65 (Nat.not_lt_zero _)
          | succ n65 ih65 =>
            intro u65 x7 H locs ls hI0 hI1 hM65 hR hl hP hS
            refine lv_iload hx hb dX6_lays_65 (lv_at hl 0 rfl) ?_
            refine lv_iload_n hx hb dX6_lays_67 rfl (lv_at hl 4 rfl) ?_
            refine lv_icmp_gt (tgt := 297) hx hb dX6_lays_68 rfl (fun q2 => ?_) (fun q2 => ?_)
            · have hR := hR.trans (if_pos q2)
              refine lv_iinc (k := 6) (v := x1 + 1) (lv' := [(1, .int (x1 + 1)), (7, .int x7), (6, .int (u7.1 4 (u7.2 1).toNatClampNeg)), (5, .int (u7.1 3 (u7.2 1).toNatClampNeg)), (4, .int (s_X6_of0 u7 x1 2)), (3, .int (s_X6_of0 u7 x1 1)), (2, .int (s_X6_of0 u7 x1 0)), (0, .ref (a 0))]) hx hb dX6_lays_297 hl rfl rfl (by decide) rfl (fun ls hl => ?_)
              refine lv_goto (tgt := 7) hx hb dX6_lays_300 rfl ?_
              exact ih7 u65 (x1 + 1) _ _ _ (hI0) (xlout hI1 (by assumption)) (Nat.lt_of_lt_of_le (xup10 hI1.1) (Nat.le_of_lt_succ hM7)) hR (lv_sub hl [0, 7] rfl) hP hS
            · have hR := hR.trans (if_neg q2)
              refine lv_aload_n hx hb dX6_lays_71 rfl (lv_at hl 7 rfl) ?_
              refine lv_dup hx hb dX6_lays_72 rfl ?_
              refine va_get (D := xD E) (ci := 6) (v := .int (u65.2 1)) (C := RX6) (T := TX6) (N := 28) hx hb hts (by decide +kernel) hown hK hP 0 rfl rfl 8 (by decide) (hts (.fieldLink RX6 130 "RailOffsetsModel" "stations" "I") (by decide +kernel)) (fun _ h => h) rfl dX6_lays_73 ?_
              refine lv_iconst (v := 1) hx hb dX6_lays_76 rfl ?_
              refine lv_iadd hx hb dX6_lays_77 ?_
              refine va_put (D := xD E) (ci := 6) (v := .int ((u65.2 1) + 1)) (ty := .int) (C := RX6) (T := TX6) (N := 28) hx hb hts (by decide +kernel) tyX6 tyX6_ok nmX6 hown hK hP (xD_of (ws := wM E a u65) (A := (· ∈ LM a)) hL.1 (fun _ h => h)) hS 0 rfl rfl 8 (by decide) (hts (.fieldLink RX6 130 "RailOffsetsModel" "stations" "I") (by decide +kernel)) (fun _ h => h) rfl (by decide +kernel) rfl rfl (Nat.le_of_ble_eq_true rfl) dX6_lays_78 (fun H locs hP _ hS => ?_)
              have hP : va_P (xD E) vwCl (wM E a (uZ u65 1 ((u65.2 1) + 1))) H := hP
              refine lv_iload_n hx hb dX6_lays_81 rfl (lv_at hl 5 rfl) ?_
              have J3 : W p l e rm_X6_lays s m ([.ref (a 0)] : List Value).toArray below meth c H locs 0 0 (xQmd E below (LM a) (none) (wM E a (s_X6_lays u)) ([.ref (a 0)] : List Value).toArray s) (F0 m 114 ls [.int (if (s_X6_of0 u7 x1 0) = 0 then 0 else if (s_X6_of0 u7 x1 0) = 1 then s_X6_of0 u7 x1 2 else if (s_X6_of0 u7 x1 0) = 3 then -(s_X6_of0 u7 x1 2) else (s_X6_of0 u7 x1 2) / 2)]) := by
                refine lv_istore (lv' := [(8, .int (if (s_X6_of0 u7 x1 0) = 0 then 0 else if (s_X6_of0 u7 x1 0) = 1 then s_X6_of0 u7 x1 2 else if (s_X6_of0 u7 x1 0) = 3 then -(s_X6_of0 u7 x1 2) else (s_X6_of0 u7 x1 2) / 2)), (7, .int x7), (6, .int (u7.1 4 (u7.2 1).toNatClampNeg)), (5, .int (u7.1 3 (u7.2 1).toNatClampNeg)), (4, .int (s_X6_of0 u7 x1 2)), (3, .int (s_X6_of0 u7 x1 1)), (2, .int (s_X6_of0 u7 x1 0)), (1, .int x1), (0, .ref (a 0))]) hx hb dX6_lays_114 hl (by decide) rfl (fun ls hl => ?_)
                refine lv_iload_n hx hb dX6_lays_116 rfl (lv_at hl 6 rfl) ?_
                refine lv_iconst (v := 2) hx hb dX6_lays_117 rfl ?_
                have J5 : W p l e rm_X6_lays s m ([.ref (a 0)] : List Value).toArray below meth c H locs 0 0 (xQmd E below (LM a) (none) (wM E a (s_X6_lays u)) ([.ref (a 0)] : List Value).toArray s) (F0 m 139 ls [.int (if (s_X6_of0 u7 x1 0) = 2 then (u7.1 3 (u7.2 1).toNatClampNeg) + ((((s_X6_of0 u7 x1 2) - (u7.1 3 (u7.2 1).toNatClampNeg)) * x7) / (s_X6_of0 u7 x1 1)) else if (s_X6_of0 u7 x1 0) = 0 then 0 else if (s_X6_of0 u7 x1 0) = 1 then s_X6_of0 u7 x1 2 else if (s_X6_of0 u7 x1 0) = 3 then -(s_X6_of0 u7 x1 2) else (s_X6_of0 u7 x1 2) / 2)]) := by
                  refine lv_istore (lv' := [(8, .int (if (s_X6_of0 u7 x1 0) = 2 then (u7.1 3 (u7.2 1).toNatClampNeg) + ((((s_X6_of0 u7 x1 2) - (u7.1 3 (u7.2 1).toNatClampNeg)) * x7) / (s_X6_of0 u7 x1 1)) else if (s_X6_of0 u7 x1 0) = 0 then 0 else if (s_X6_of0 u7 x1 0) = 1 then s_X6_of0 u7 x1 2 else if (s_X6_of0 u7 x1 0) = 3 then -(s_X6_of0 u7 x1 2) else (s_X6_of0 u7 x1 2) / 2)), (7, .int x7), (6, .int (u7.1 4 (u7.2 1).toNatClampNeg)), (5, .int (u7.1 3 (u7.2 1).toNatClampNeg)), (4, .int (s_X6_of0 u7 x1 2)), (3, .int (s_X6_of0 u7 x1 1)), (2, .int (s_X6_of0 u7 x1 0)), (1, .int x1), (0, .ref (a 0))]) hx hb dX6_lays_139 hl (by decide) rfl (fun ls hl => ?_)
                  refine lv_aload_n hx hb dX6_lays_141 rfl (lv_at hl 8 rfl) ?_
                  refine va_get (D := xD E) (ci := 6) (v := .ref (a 3)) (C := RX6) (T := TX6) (N := 28) hx hb hts (by decide +kernel) hown hK hP 0 rfl rfl 3 (by decide) (hts (.fieldLink RX6 18 "RailOffsetsModel" "versine" "[I") (by decide +kernel)) (fun _ h => h) rfl dX6_lays_142 ?_
                  refine lv_aload_n hx hb dX6_lays_145 rfl (lv_at hl 8 rfl) ?_
                  refine va_get (D := xD E) (ci := 6) (v := .int ((uZ u65 1 ((u65.2 1) + 1)).2 1)) (C := RX6) (T := TX6) (N := 28) hx hb hts (by decide +kernel) hown hK hP 0 rfl rfl 8 (by decide) (hts (.fieldLink RX6 130 "RailOffsetsModel" "stations" "I") (by decide +kernel)) (fun _ h => h) rfl dX6_lays_146 ?_
                  refine W.eq (g2 := F0 m 149 ls [.int ((u65.2 1) + 1), .ref (a 3)]) rfl ?_
                  refine lv_iload_n hx hb dX6_lays_149 rfl (lv_at hl 6 rfl) ?_
                  refine lv_iconst (v := 4) hx hb dX6_lays_150 rfl ?_
                  have J7 : W p l e rm_X6_lays s m ([.ref (a 0)] : List Value).toArray below meth c H locs 0 0 (xQmd E below (LM a) (none) (wM E a (s_X6_lays u)) ([.ref (a 0)] : List Value).toArray s) (F0 m 177 ls [.int (if (s_X6_of0 u7 x1 0) = 4 then (u7.1 3 (u7.2 1).toNatClampNeg) + (((((s_X6_of0 u7 x1 2) - (u7.1 3 (u7.2 1).toNatClampNeg)) * x7) * x7) / ((s_X6_of0 u7 x1 1) * (s_X6_of0 u7 x1 1))) else if (s_X6_of0 u7 x1 0) = 2 then (u7.1 3 (u7.2 1).toNatClampNeg) + ((((s_X6_of0 u7 x1 2) - (u7.1 3 (u7.2 1).toNatClampNeg)) * x7) / (s_X6_of0 u7 x1 1)) else if (s_X6_of0 u7 x1 0) = 0 then 0 else if (s_X6_of0 u7 x1 0) = 1 then s_X6_of0 u7 x1 2 else if (s_X6_of0 u7 x1 0) = 3 then -(s_X6_of0 u7 x1 2) else (s_X6_of0 u7 x1 2) / 2), .int ((u65.2 1) + 1), .ref (a 3)]) := by
                    refine va_iast hx hb hK hP (xD_of (ws := wM E a (uZ u65 1 ((u65.2 1) + 1))) (A := (· ∈ LM a)) hL.1 (fun _ h => h)) hS 3 0 rfl rfl (xst1 hI1 q2) dX6_lays_177 (fun H locs hP _ hS => ?_)
                    have hP : va_P (xD E) vwCl (wM E a (uA (uZ u65 1 ((u65.2 1) + 1)) 3 ((u65.2 1) + 1).toNatClampNeg (if (s_X6_of0 u7 x1 0) = 4 then (u7.1 3 (u7.2 1).toNatClampNeg) + (((((s_X6_of0 u7 x1 2) - (u7.1 3 (u7.2 1).toNatClampNeg)) * x7) * x7) / ((s_X6_of0 u7 x1 1) * (s_X6_of0 u7 x1 1))) else if (s_X6_of0 u7 x1 0) = 2 then (u7.1 3 (u7.2 1).toNatClampNeg) + ((((s_X6_of0 u7 x1 2) - (u7.1 3 (u7.2 1).toNatClampNeg)) * x7) / (s_X6_of0 u7 x1 1)) else if (s_X6_of0 u7 x1 0) = 0 then 0 else if (s_X6_of0 u7 x1 0) = 1 then s_X6_of0 u7 x1 2 else if (s_X6_of0 u7 x1 0) = 3 then -(s_X6_of0 u7 x1 2) else (s_X6_of0 u7 x1 2) / 2))) H := hP
                    refine lv_aload_n hx hb dX6_lays_178 rfl (lv_at hl 8 rfl) ?_
                    refine va_get (D := xD E) (ci := 6) (v := .ref (a 4)) (C := RX6) (T := TX6) (N := 28) hx hb hts (by decide +kernel) hown hK hP 0 rfl rfl 4 (by decide) (hts (.fieldLink RX6 21 "RailOffsetsModel" "height" "[I") (by decide +kernel)) (fun _ h => h) rfl dX6_lays_179 ?_
                    refine lv_aload_n hx hb dX6_lays_182 rfl (lv_at hl 8 rfl) ?_
                    refine va_get (D := xD E) (ci := 6) (v := .int ((uA (uZ u65 1 ((u65.2 1) + 1)) 3 ((u65.2 1) + 1).toNatClampNeg (if (s_X6_of0 u7 x1 0) = 4 then (u7.1 3 (u7.2 1).toNatClampNeg) + (((((s_X6_of0 u7 x1 2) - (u7.1 3 (u7.2 1).toNatClampNeg)) * x7) * x7) / ((s_X6_of0 u7 x1 1) * (s_X6_of0 u7 x1 1))) else if (s_X6_of0 u7 x1 0) = 2 then (u7.1 3 (u7.2 1).toNatClampNeg) + ((((s_X6_of0 u7 x1 2) - (u7.1 3 (u7.2 1).toNatClampNeg)) * x7) / (s_X6_of0 u7 x1 1)) else if (s_X6_of0 u7 x1 0) = 0 then 0 else if (s_X6_of0 u7 x1 0) = 1 then s_X6_of0 u7 x1 2 else if (s_X6_of0 u7 x1 0) = 3 then -(s_X6_of0 u7 x1 2) else (s_X6_of0 u7 x1 2) / 2)).2 1)) (C := RX6) (T := TX6) (N := 28) hx hb hts (by decide +kernel) hown hK hP 0 rfl rfl 8 (by decide) (hts (.fieldLink RX6 130 "RailOffsetsModel" "stations" "I") (by decide +kernel)) (fun _ h => h) rfl dX6_lays_183 ?_
                    refine W.eq (g2 := F0 m 186 ls [.int ((u65.2 1) + 1), .ref (a 4)]) rfl ?_
                    refine lv_iload_n hx hb dX6_lays_186 rfl (lv_at hl 6 rfl) ?_
                    refine lv_iconst (v := 2) hx hb dX6_lays_187 rfl ?_
                    refine xRoS (nL := 9) ⟨hx, hb, hml, hown, hts⟩ (c_X6_isUnder l E a (uA (uZ u65 1 ((u65.2 1) + 1)) 3 ((u65.2 1) + 1).toNatClampNeg (if (s_X6_of0 u7 x1 0) = 4 then (u7.1 3 (u7.2 1).toNatClampNeg) + (((((s_X6_of0 u7 x1 2) - (u7.1 3 (u7.2 1).toNatClampNeg)) * x7) * x7) / ((s_X6_of0 u7 x1 1) * (s_X6_of0 u7 x1 1))) else if (s_X6_of0 u7 x1 0) = 2 then (u7.1 3 (u7.2 1).toNatClampNeg) + ((((s_X6_of0 u7 x1 2) - (u7.1 3 (u7.2 1).toNatClampNeg)) * x7) / (s_X6_of0 u7 x1 1)) else if (s_X6_of0 u7 x1 0) = 0 then 0 else if (s_X6_of0 u7 x1 0) = 1 then s_X6_of0 u7 x1 2 else if (s_X6_of0 u7 x1 0) = 3 then -(s_X6_of0 u7 x1 2) else (s_X6_of0 u7 x1 2) / 2)) (s_X6_of0 u7 x1 0) 2) (va_cwS 2 hts gX6_lays_X6_isUnder rfl rfl rfl hd_X6_isUnder ⟨(Nat.le_of_ble_eq_true rfl), (Nat.le_of_ble_eq_true rfl)⟩) hF hS hA hP rfl hl.1 rfl (Nat.le_of_ble_eq_true rfl) ⟨(Nat.le_of_ble_eq_true rfl), (Nat.le_of_ble_eq_true rfl)⟩ dX6_lays_188 ?_
                    refine W.eq (g2 := F0 m 191 ls [.int (s_X6_isUnder u65 (s_X6_of0 u7 x1 0) 2), .int ((u65.2 1) + 1), .ref (a 4)]) rfl ?_
                    have J9 : W p l e rm_X6_lays s m ([.ref (a 0)] : List Value).toArray below meth c H locs 0 0 (xQmd E below (LM a) (none) (wM E a (s_X6_lays u)) ([.ref (a 0)] : List Value).toArray s) (F0 m 220 ls [.int (if (s_X6_isUnder u65 (s_X6_of0 u7 x1 0) 2) = 0 then s_X6_of0 u65 x1 3 else (u7.1 4 (u7.2 1).toNatClampNeg) + ((((s_X6_of0 u65 x1 3) - (u7.1 4 (u7.2 1).toNatClampNeg)) * x7) / (s_X6_of0 u7 x1 1))), .int ((u65.2 1) + 1), .ref (a 4)]) := by
                      refine va_iast hx hb hK hP (xD_of (ws := wM E a (uA (uZ u65 1 ((u65.2 1) + 1)) 3 ((u65.2 1) + 1).toNatClampNeg (if (s_X6_of0 u7 x1 0) = 4 then (u7.1 3 (u7.2 1).toNatClampNeg) + (((((s_X6_of0 u7 x1 2) - (u7.1 3 (u7.2 1).toNatClampNeg)) * x7) * x7) / ((s_X6_of0 u7 x1 1) * (s_X6_of0 u7 x1 1))) else if (s_X6_of0 u7 x1 0) = 2 then (u7.1 3 (u7.2 1).toNatClampNeg) + ((((s_X6_of0 u7 x1 2) - (u7.1 3 (u7.2 1).toNatClampNeg)) * x7) / (s_X6_of0 u7 x1 1)) else if (s_X6_of0 u7 x1 0) = 0 then 0 else if (s_X6_of0 u7 x1 0) = 1 then s_X6_of0 u7 x1 2 else if (s_X6_of0 u7 x1 0) = 3 then -(s_X6_of0 u7 x1 2) else (s_X6_of0 u7 x1 2) / 2))) (A := (· ∈ LM a)) hL.1 (fun _ h => h)) hS 4 0 rfl rfl (xst1 hI1 q2) dX6_lays_220 (fun H locs hP _ hS => ?_)
                      have hP : va_P (xD E) vwCl (wM E a (uA (uA (uZ u65 1 ((u65.2 1) + 1)) 3 ((u65.2 1) + 1).toNatClampNeg (if (s_X6_of0 u7 x1 0) = 4 then (u7.1 3 (u7.2 1).toNatClampNeg) + (((((s_X6_of0 u7 x1 2) - (u7.1 3 (u7.2 1).toNatClampNeg)) * x7) * x7) / ((s_X6_of0 u7 x1 1) * (s_X6_of0 u7 x1 1))) else if (s_X6_of0 u7 x1 0) = 2 then (u7.1 3 (u7.2 1).toNatClampNeg) + ((((s_X6_of0 u7 x1 2) - (u7.1 3 (u7.2 1).toNatClampNeg)) * x7) / (s_X6_of0 u7 x1 1)) else if (s_X6_of0 u7 x1 0) = 0 then 0 else if (s_X6_of0 u7 x1 0) = 1 then s_X6_of0 u7 x1 2 else if (s_X6_of0 u7 x1 0) = 3 then -(s_X6_of0 u7 x1 2) else (s_X6_of0 u7 x1 2) / 2)) 4 ((u65.2 1) + 1).toNatClampNeg (if (s_X6_isUnder u65 (s_X6_of0 u7 x1 0) 2) = 0 then s_X6_of0 u65 x1 3 else (u7.1 4 (u7.2 1).toNatClampNeg) + ((((s_X6_of0 u65 x1 3) - (u7.1 4 (u7.2 1).toNatClampNeg)) * x7) / (s_X6_of0 u7 x1 1))))) H := hP
                      refine lv_aload_n hx hb dX6_lays_221 rfl (lv_at hl 8 rfl) ?_
                      refine va_get (D := xD E) (ci := 6) (v := .ref (a 5)) (C := RX6) (T := TX6) (N := 28) hx hb hts (by decide +kernel) hown hK hP 0 rfl rfl 5 (by decide) (hts (.fieldLink RX6 24 "RailOffsetsModel" "pieceAt" "[I") (by decide +kernel)) (fun _ h => h) rfl dX6_lays_222 ?_
                      refine lv_aload_n hx hb dX6_lays_225 rfl (lv_at hl 8 rfl) ?_
                      refine va_get (D := xD E) (ci := 6) (v := .int ((uA (uA (uZ u65 1 ((u65.2 1) + 1)) 3 ((u65.2 1) + 1).toNatClampNeg (if (s_X6_of0 u7 x1 0) = 4 then (u7.1 3 (u7.2 1).toNatClampNeg) + (((((s_X6_of0 u7 x1 2) - (u7.1 3 (u7.2 1).toNatClampNeg)) * x7) * x7) / ((s_X6_of0 u7 x1 1) * (s_X6_of0 u7 x1 1))) else if (s_X6_of0 u7 x1 0) = 2 then (u7.1 3 (u7.2 1).toNatClampNeg) + ((((s_X6_of0 u7 x1 2) - (u7.1 3 (u7.2 1).toNatClampNeg)) * x7) / (s_X6_of0 u7 x1 1)) else if (s_X6_of0 u7 x1 0) = 0 then 0 else if (s_X6_of0 u7 x1 0) = 1 then s_X6_of0 u7 x1 2 else if (s_X6_of0 u7 x1 0) = 3 then -(s_X6_of0 u7 x1 2) else (s_X6_of0 u7 x1 2) / 2)) 4 ((u65.2 1) + 1).toNatClampNeg (if (s_X6_isUnder u65 (s_X6_of0 u7 x1 0) 2) = 0 then s_X6_of0 u65 x1 3 else (u7.1 4 (u7.2 1).toNatClampNeg) + ((((s_X6_of0 u65 x1 3) - (u7.1 4 (u7.2 1).toNatClampNeg)) * x7) / (s_X6_of0 u7 x1 1)))).2 1)) (C := RX6) (T := TX6) (N := 28) hx hb hts (by decide +kernel) hown hK hP 0 rfl rfl 8 (by decide) (hts (.fieldLink RX6 130 "RailOffsetsModel" "stations" "I") (by decide +kernel)) (fun _ h => h) rfl dX6_lays_226 ?_
                      refine W.eq (g2 := F0 m 229 ls [.int ((u65.2 1) + 1), .ref (a 5)]) rfl ?_
                      refine lv_iload_n hx hb dX6_lays_229 rfl (lv_at hl 7 rfl) ?_
                      refine va_iast hx hb hK hP (xD_of (ws := wM E a (uA (uA (uZ u65 1 ((u65.2 1) + 1)) 3 ((u65.2 1) + 1).toNatClampNeg (if (s_X6_of0 u7 x1 0) = 4 then (u7.1 3 (u7.2 1).toNatClampNeg) + (((((s_X6_of0 u7 x1 2) - (u7.1 3 (u7.2 1).toNatClampNeg)) * x7) * x7) / ((s_X6_of0 u7 x1 1) * (s_X6_of0 u7 x1 1))) else if (s_X6_of0 u7 x1 0) = 2 then (u7.1 3 (u7.2 1).toNatClampNeg) + ((((s_X6_of0 u7 x1 2) - (u7.1 3 (u7.2 1).toNatClampNeg)) * x7) / (s_X6_of0 u7 x1 1)) else if (s_X6_of0 u7 x1 0) = 0 then 0 else if (s_X6_of0 u7 x1 0) = 1 then s_X6_of0 u7 x1 2 else if (s_X6_of0 u7 x1 0) = 3 then -(s_X6_of0 u7 x1 2) else (s_X6_of0 u7 x1 2) / 2)) 4 ((u65.2 1) + 1).toNatClampNeg (if (s_X6_isUnder u65 (s_X6_of0 u7 x1 0) 2) = 0 then s_X6_of0 u65 x1 3 else (u7.1 4 (u7.2 1).toNatClampNeg) + ((((s_X6_of0 u65 x1 3) - (u7.1 4 (u7.2 1).toNatClampNeg)) * x7) / (s_X6_of0 u7 x1 1))))) (A := (· ∈ LM a)) hL.1 (fun _ h => h)) hS 5 0 rfl rfl (xst1 hI1 q2) dX6_lays_230 (fun H locs hP _ hS => ?_)
                      have hP : va_P (xD E) vwCl (wM E a (uA (uA (uA (uZ u65 1 ((u65.2 1) + 1)) 3 ((u65.2 1) + 1).toNatClampNeg (if (s_X6_of0 u7 x1 0) = 4 then (u7.1 3 (u7.2 1).toNatClampNeg) + (((((s_X6_of0 u7 x1 2) - (u7.1 3 (u7.2 1).toNatClampNeg)) * x7) * x7) / ((s_X6_of0 u7 x1 1) * (s_X6_of0 u7 x1 1))) else if (s_X6_of0 u7 x1 0) = 2 then (u7.1 3 (u7.2 1).toNatClampNeg) + ((((s_X6_of0 u7 x1 2) - (u7.1 3 (u7.2 1).toNatClampNeg)) * x7) / (s_X6_of0 u7 x1 1)) else if (s_X6_of0 u7 x1 0) = 0 then 0 else if (s_X6_of0 u7 x1 0) = 1 then s_X6_of0 u7 x1 2 else if (s_X6_of0 u7 x1 0) = 3 then -(s_X6_of0 u7 x1 2) else (s_X6_of0 u7 x1 2) / 2)) 4 ((u65.2 1) + 1).toNatClampNeg (if (s_X6_isUnder u65 (s_X6_of0 u7 x1 0) 2) = 0 then s_X6_of0 u65 x1 3 else (u7.1 4 (u7.2 1).toNatClampNeg) + ((((s_X6_of0 u65 x1 3) - (u7.1 4 (u7.2 1).toNatClampNeg)) * x7) / (s_X6_of0 u7 x1 1)))) 5 ((u65.2 1) + 1).toNatClampNeg x1)) H := hP
                      refine lv_aload_n hx hb dX6_lays_231 rfl (lv_at hl 8 rfl) ?_
                      refine va_get (D := xD E) (ci := 6) (v := .ref (a 6)) (C := RX6) (T := TX6) (N := 28) hx hb hts (by decide +kernel) hown hK hP 0 rfl rfl 6 (by decide) (hts (.fieldLink RX6 27 "RailOffsetsModel" "turn" "[I") (by decide +kernel)) (fun _ h => h) rfl dX6_lays_232 ?_
                      refine lv_aload_n hx hb dX6_lays_235 rfl (lv_at hl 8 rfl) ?_
                      refine va_get (D := xD E) (ci := 6) (v := .int ((uA (uA (uA (uZ u65 1 ((u65.2 1) + 1)) 3 ((u65.2 1) + 1).toNatClampNeg (if (s_X6_of0 u7 x1 0) = 4 then (u7.1 3 (u7.2 1).toNatClampNeg) + (((((s_X6_of0 u7 x1 2) - (u7.1 3 (u7.2 1).toNatClampNeg)) * x7) * x7) / ((s_X6_of0 u7 x1 1) * (s_X6_of0 u7 x1 1))) else if (s_X6_of0 u7 x1 0) = 2 then (u7.1 3 (u7.2 1).toNatClampNeg) + ((((s_X6_of0 u7 x1 2) - (u7.1 3 (u7.2 1).toNatClampNeg)) * x7) / (s_X6_of0 u7 x1 1)) else if (s_X6_of0 u7 x1 0) = 0 then 0 else if (s_X6_of0 u7 x1 0) = 1 then s_X6_of0 u7 x1 2 else if (s_X6_of0 u7 x1 0) = 3 then -(s_X6_of0 u7 x1 2) else (s_X6_of0 u7 x1 2) / 2)) 4 ((u65.2 1) + 1).toNatClampNeg (if (s_X6_isUnder u65 (s_X6_of0 u7 x1 0) 2) = 0 then s_X6_of0 u65 x1 3 else (u7.1 4 (u7.2 1).toNatClampNeg) + ((((s_X6_of0 u65 x1 3) - (u7.1 4 (u7.2 1).toNatClampNeg)) * x7) / (s_X6_of0 u7 x1 1)))) 5 ((u65.2 1) + 1).toNatClampNeg x1).2 1)) (C := RX6) (T := TX6) (N := 28) hx hb hts (by decide +kernel) hown hK hP 0 rfl rfl 8 (by decide) (hts (.fieldLink RX6 130 "RailOffsetsModel" "stations" "I") (by decide +kernel)) (fun _ h => h) rfl dX6_lays_236 ?_
                      refine W.eq (g2 := F0 m 239 ls [.int ((u65.2 1) + 1), .ref (a 6)]) rfl ?_
                      refine lv_aload_n hx hb dX6_lays_239 rfl (lv_at hl 8 rfl) ?_
                      refine va_get (D := xD E) (ci := 6) (v := .ref (a 6)) (C := RX6) (T := TX6) (N := 28) hx hb hts (by decide +kernel) hown hK hP 0 rfl rfl 6 (by decide) (hts (.fieldLink RX6 27 "RailOffsetsModel" "turn" "[I") (by decide +kernel)) (fun _ h => h) rfl dX6_lays_240 ?_
                      refine lv_aload_n hx hb dX6_lays_243 rfl (lv_at hl 8 rfl) ?_
                      refine va_get (D := xD E) (ci := 6) (v := .int ((uA (uA (uA (uZ u65 1 ((u65.2 1) + 1)) 3 ((u65.2 1) + 1).toNatClampNeg (if (s_X6_of0 u7 x1 0) = 4 then (u7.1 3 (u7.2 1).toNatClampNeg) + (((((s_X6_of0 u7 x1 2) - (u7.1 3 (u7.2 1).toNatClampNeg)) * x7) * x7) / ((s_X6_of0 u7 x1 1) * (s_X6_of0 u7 x1 1))) else if (s_X6_of0 u7 x1 0) = 2 then (u7.1 3 (u7.2 1).toNatClampNeg) + ((((s_X6_of0 u7 x1 2) - (u7.1 3 (u7.2 1).toNatClampNeg)) * x7) / (s_X6_of0 u7 x1 1)) else if (s_X6_of0 u7 x1 0) = 0 then 0 else if (s_X6_of0 u7 x1 0) = 1 then s_X6_of0 u7 x1 2 else if (s_X6_of0 u7 x1 0) = 3 then -(s_X6_of0 u7 x1 2) else (s_X6_of0 u7 x1 2) / 2)) 4 ((u65.2 1) + 1).toNatClampNeg (if (s_X6_isUnder u65 (s_X6_of0 u7 x1 0) 2) = 0 then s_X6_of0 u65 x1 3 else (u7.1 4 (u7.2 1).toNatClampNeg) + ((((s_X6_of0 u65 x1 3) - (u7.1 4 (u7.2 1).toNatClampNeg)) * x7) / (s_X6_of0 u7 x1 1)))) 5 ((u65.2 1) + 1).toNatClampNeg x1).2 1)) (C := RX6) (T := TX6) (N := 28) hx hb hts (by decide +kernel) hown hK hP 0 rfl rfl 8 (by decide) (hts (.fieldLink RX6 130 "RailOffsetsModel" "stations" "I") (by decide +kernel)) (fun _ h => h) rfl dX6_lays_244 ?_
                      refine W.eq (g2 := F0 m 247 ls [.int ((u65.2 1) + 1), .ref (a 6), .int ((u65.2 1) + 1), .ref (a 6)]) rfl ?_
                      refine lv_iconst (v := 1) hx hb dX6_lays_247 rfl ?_
                      refine lv_isub hx hb dX6_lays_248 ?_
                      refine va_iald hx hb hK hP 6 0 rfl rfl (xst2 hI1 q2) dX6_lays_249 ?_
                      refine W.eq (g2 := F0 m 250 ls [.int (u65.1 6 (((u65.2 1) + 1) - 1).toNatClampNeg), .int ((u65.2 1) + 1), .ref (a 6)]) rfl ?_
                      refine lv_aload_n hx hb dX6_lays_250 rfl (lv_at hl 8 rfl) ?_
                      refine va_get (D := xD E) (ci := 6) (v := .ref (a 3)) (C := RX6) (T := TX6) (N := 28) hx hb hts (by decide +kernel) hown hK hP 0 rfl rfl 3 (by decide) (hts (.fieldLink RX6 18 "RailOffsetsModel" "versine" "[I") (by decide +kernel)) (fun _ h => h) rfl dX6_lays_251 ?_
                      refine lv_aload_n hx hb dX6_lays_254 rfl (lv_at hl 8 rfl) ?_
                      refine va_get (D := xD E) (ci := 6) (v := .int ((uA (uA (uA (uZ u65 1 ((u65.2 1) + 1)) 3 ((u65.2 1) + 1).toNatClampNeg (if (s_X6_of0 u7 x1 0) = 4 then (u7.1 3 (u7.2 1).toNatClampNeg) + (((((s_X6_of0 u7 x1 2) - (u7.1 3 (u7.2 1).toNatClampNeg)) * x7) * x7) / ((s_X6_of0 u7 x1 1) * (s_X6_of0 u7 x1 1))) else if (s_X6_of0 u7 x1 0) = 2 then (u7.1 3 (u7.2 1).toNatClampNeg) + ((((s_X6_of0 u7 x1 2) - (u7.1 3 (u7.2 1).toNatClampNeg)) * x7) / (s_X6_of0 u7 x1 1)) else if (s_X6_of0 u7 x1 0) = 0 then 0 else if (s_X6_of0 u7 x1 0) = 1 then s_X6_of0 u7 x1 2 else if (s_X6_of0 u7 x1 0) = 3 then -(s_X6_of0 u7 x1 2) else (s_X6_of0 u7 x1 2) / 2)) 4 ((u65.2 1) + 1).toNatClampNeg (if (s_X6_isUnder u65 (s_X6_of0 u7 x1 0) 2) = 0 then s_X6_of0 u65 x1 3 else (u7.1 4 (u7.2 1).toNatClampNeg) + ((((s_X6_of0 u65 x1 3) - (u7.1 4 (u7.2 1).toNatClampNeg)) * x7) / (s_X6_of0 u7 x1 1)))) 5 ((u65.2 1) + 1).toNatClampNeg x1).2 1)) (C := RX6) (T := TX6) (N := 28) hx hb hts (by decide +kernel) hown hK hP 0 rfl rfl 8 (by decide) (hts (.fieldLink RX6 130 "RailOffsetsModel" "stations" "I") (by decide +kernel)) (fun _ h => h) rfl dX6_lays_255 ?_
                      refine W.eq (g2 := F0 m 258 ls [.int ((u65.2 1) + 1), .ref (a 3), .int (u65.1 6 (((u65.2 1) + 1) - 1).toNatClampNeg), .int ((u65.2 1) + 1), .ref (a 6)]) rfl ?_
                      refine va_iald hx hb hK hP 3 0 rfl rfl (xst1 hI1 q2) dX6_lays_258 ?_
                      refine W.eq (g2 := F0 m 259 ls [.int ((uA (uZ u65 1 ((u65.2 1) + 1)) 3 ((u65.2 1) + 1).toNatClampNeg (if (s_X6_of0 u7 x1 0) = 4 then (u7.1 3 (u7.2 1).toNatClampNeg) + (((((s_X6_of0 u7 x1 2) - (u7.1 3 (u7.2 1).toNatClampNeg)) * x7) * x7) / ((s_X6_of0 u7 x1 1) * (s_X6_of0 u7 x1 1))) else if (s_X6_of0 u7 x1 0) = 2 then (u7.1 3 (u7.2 1).toNatClampNeg) + ((((s_X6_of0 u7 x1 2) - (u7.1 3 (u7.2 1).toNatClampNeg)) * x7) / (s_X6_of0 u7 x1 1)) else if (s_X6_of0 u7 x1 0) = 0 then 0 else if (s_X6_of0 u7 x1 0) = 1 then s_X6_of0 u7 x1 2 else if (s_X6_of0 u7 x1 0) = 3 then -(s_X6_of0 u7 x1 2) else (s_X6_of0 u7 x1 2) / 2)).1 3 ((u65.2 1) + 1).toNatClampNeg), .int (u65.1 6 (((u65.2 1) + 1) - 1).toNatClampNeg), .int ((u65.2 1) + 1), .ref (a 6)]) rfl ?_
                      refine lv_iadd hx hb dX6_lays_259 ?_
                      refine va_iast hx hb hK hP (xD_of (ws := wM E a (uA (uA (uA (uZ u65 1 ((u65.2 1) + 1)) 3 ((u65.2 1) + 1).toNatClampNeg (if (s_X6_of0 u7 x1 0) = 4 then (u7.1 3 (u7.2 1).toNatClampNeg) + (((((s_X6_of0 u7 x1 2) - (u7.1 3 (u7.2 1).toNatClampNeg)) * x7) * x7) / ((s_X6_of0 u7 x1 1) * (s_X6_of0 u7 x1 1))) else if (s_X6_of0 u7 x1 0) = 2 then (u7.1 3 (u7.2 1).toNatClampNeg) + ((((s_X6_of0 u7 x1 2) - (u7.1 3 (u7.2 1).toNatClampNeg)) * x7) / (s_X6_of0 u7 x1 1)) else if (s_X6_of0 u7 x1 0) = 0 then 0 else if (s_X6_of0 u7 x1 0) = 1 then s_X6_of0 u7 x1 2 else if (s_X6_of0 u7 x1 0) = 3 then -(s_X6_of0 u7 x1 2) else (s_X6_of0 u7 x1 2) / 2)) 4 ((u65.2 1) + 1).toNatClampNeg (if (s_X6_isUnder u65 (s_X6_of0 u7 x1 0) 2) = 0 then s_X6_of0 u65 x1 3 else (u7.1 4 (u7.2 1).toNatClampNeg) + ((((s_X6_of0 u65 x1 3) - (u7.1 4 (u7.2 1).toNatClampNeg)) * x7) / (s_X6_of0 u7 x1 1)))) 5 ((u65.2 1) + 1).toNatClampNeg x1)) (A := (· ∈ LM a)) hL.1 (fun _ h => h)) hS 6 0 rfl rfl (xst1 hI1 q2) dX6_lays_260 (fun H locs hP _ hS => ?_)
                      have hP : va_P (xD E) vwCl (wM E a (uA (uA (uA (uA (uZ u65 1 ((u65.2 1) + 1)) 3 ((u65.2 1) + 1).toNatClampNeg (if (s_X6_of0 u7 x1 0) = 4 then (u7.1 3 (u7.2 1).toNatClampNeg) + (((((s_X6_of0 u7 x1 2) - (u7.1 3 (u7.2 1).toNatClampNeg)) * x7) * x7) / ((s_X6_of0 u7 x1 1) * (s_X6_of0 u7 x1 1))) else if (s_X6_of0 u7 x1 0) = 2 then (u7.1 3 (u7.2 1).toNatClampNeg) + ((((s_X6_of0 u7 x1 2) - (u7.1 3 (u7.2 1).toNatClampNeg)) * x7) / (s_X6_of0 u7 x1 1)) else if (s_X6_of0 u7 x1 0) = 0 then 0 else if (s_X6_of0 u7 x1 0) = 1 then s_X6_of0 u7 x1 2 else if (s_X6_of0 u7 x1 0) = 3 then -(s_X6_of0 u7 x1 2) else (s_X6_of0 u7 x1 2) / 2)) 4 ((u65.2 1) + 1).toNatClampNeg (if (s_X6_isUnder u65 (s_X6_of0 u7 x1 0) 2) = 0 then s_X6_of0 u65 x1 3 else (u7.1 4 (u7.2 1).toNatClampNeg) + ((((s_X6_of0 u65 x1 3) - (u7.1 4 (u7.2 1).toNatClampNeg)) * x7) / (s_X6_of0 u7 x1 1)))) 5 ((u65.2 1) + 1).toNatClampNeg x1) 6 ((u65.2 1) + 1).toNatClampNeg ((u65.1 6 (((u65.2 1) + 1) - 1).toNatClampNeg) + ((uA (uZ u65 1 ((u65.2 1) + 1)) 3 ((u65.2 1) + 1).toNatClampNeg (if (s_X6_of0 u7 x1 0) = 4 then (u7.1 3 (u7.2 1).toNatClampNeg) + (((((s_X6_of0 u7 x1 2) - (u7.1 3 (u7.2 1).toNatClampNeg)) * x7) * x7) / ((s_X6_of0 u7 x1 1) * (s_X6_of0 u7 x1 1))) else if (s_X6_of0 u7 x1 0) = 2 then (u7.1 3 (u7.2 1).toNatClampNeg) + ((((s_X6_of0 u7 x1 2) - (u7.1 3 (u7.2 1).toNatClampNeg)) * x7) / (s_X6_of0 u7 x1 1)) else if (s_X6_of0 u7 x1 0) = 0 then 0 else if (s_X6_of0 u7 x1 0) = 1 then s_X6_of0 u7 x1 2 else if (s_X6_of0 u7 x1 0) = 3 then -(s_X6_of0 u7 x1 2) else (s_X6_of0 u7 x1 2) / 2)).1 3 ((u65.2 1) + 1).toNatClampNeg)))) H := hP
                      refine lv_aload_n hx hb dX6_lays_261 rfl (lv_at hl 8 rfl) ?_
                      refine va_get (D := xD E) (ci := 6) (v := .ref (a 7)) (C := RX6) (T := TX6) (N := 28) hx hb hts (by decide +kernel) hown hK hP 0 rfl rfl 7 (by decide) (hts (.fieldLink RX6 30 "RailOffsetsModel" "offset" "[I") (by decide +kernel)) (fun _ h => h) rfl dX6_lays_262 ?_
                      refine lv_aload_n hx hb dX6_lays_265 rfl (lv_at hl 8 rfl) ?_
                      refine va_get (D := xD E) (ci := 6) (v := .int ((uA (uA (uA (uA (uZ u65 1 ((u65.2 1) + 1)) 3 ((u65.2 1) + 1).toNatClampNeg (if (s_X6_of0 u7 x1 0) = 4 then (u7.1 3 (u7.2 1).toNatClampNeg) + (((((s_X6_of0 u7 x1 2) - (u7.1 3 (u7.2 1).toNatClampNeg)) * x7) * x7) / ((s_X6_of0 u7 x1 1) * (s_X6_of0 u7 x1 1))) else if (s_X6_of0 u7 x1 0) = 2 then (u7.1 3 (u7.2 1).toNatClampNeg) + ((((s_X6_of0 u7 x1 2) - (u7.1 3 (u7.2 1).toNatClampNeg)) * x7) / (s_X6_of0 u7 x1 1)) else if (s_X6_of0 u7 x1 0) = 0 then 0 else if (s_X6_of0 u7 x1 0) = 1 then s_X6_of0 u7 x1 2 else if (s_X6_of0 u7 x1 0) = 3 then -(s_X6_of0 u7 x1 2) else (s_X6_of0 u7 x1 2) / 2)) 4 ((u65.2 1) + 1).toNatClampNeg (if (s_X6_isUnder u65 (s_X6_of0 u7 x1 0) 2) = 0 then s_X6_of0 u65 x1 3 else (u7.1 4 (u7.2 1).toNatClampNeg) + ((((s_X6_of0 u65 x1 3) - (u7.1 4 (u7.2 1).toNatClampNeg)) * x7) / (s_X6_of0 u7 x1 1)))) 5 ((u65.2 1) + 1).toNatClampNeg x1) 6 ((u65.2 1) + 1).toNatClampNeg ((u65.1 6 (((u65.2 1) + 1) - 1).toNatClampNeg) + ((uA (uZ u65 1 ((u65.2 1) + 1)) 3 ((u65.2 1) + 1).toNatClampNeg (if (s_X6_of0 u7 x1 0) = 4 then (u7.1 3 (u7.2 1).toNatClampNeg) + (((((s_X6_of0 u7 x1 2) - (u7.1 3 (u7.2 1).toNatClampNeg)) * x7) * x7) / ((s_X6_of0 u7 x1 1) * (s_X6_of0 u7 x1 1))) else if (s_X6_of0 u7 x1 0) = 2 then (u7.1 3 (u7.2 1).toNatClampNeg) + ((((s_X6_of0 u7 x1 2) - (u7.1 3 (u7.2 1).toNatClampNeg)) * x7) / (s_X6_of0 u7 x1 1)) else if (s_X6_of0 u7 x1 0) = 0 then 0 else if (s_X6_of0 u7 x1 0) = 1 then s_X6_of0 u7 x1 2 else if (s_X6_of0 u7 x1 0) = 3 then -(s_X6_of0 u7 x1 2) else (s_X6_of0 u7 x1 2) / 2)).1 3 ((u65.2 1) + 1).toNatClampNeg))).2 1)) (C := RX6) (T := TX6) (N := 28) hx hb hts (by decide +kernel) hown hK hP 0 rfl rfl 8 (by decide) (hts (.fieldLink RX6 130 "RailOffsetsModel" "stations" "I") (by decide +kernel)) (fun _ h => h) rfl dX6_lays_266 ?_
                      refine W.eq (g2 := F0 m 269 ls [.int ((u65.2 1) + 1), .ref (a 7)]) rfl ?_
                      refine lv_aload_n hx hb dX6_lays_269 rfl (lv_at hl 8 rfl) ?_
                      refine va_get (D := xD E) (ci := 6) (v := .ref (a 7)) (C := RX6) (T := TX6) (N := 28) hx hb hts (by decide +kernel) hown hK hP 0 rfl rfl 7 (by decide) (hts (.fieldLink RX6 30 "RailOffsetsModel" "offset" "[I") (by decide +kernel)) (fun _ h => h) rfl dX6_lays_270 ?_
                      refine lv_aload_n hx hb dX6_lays_273 rfl (lv_at hl 8 rfl) ?_
                      refine va_get (D := xD E) (ci := 6) (v := .int ((uA (uA (uA (uA (uZ u65 1 ((u65.2 1) + 1)) 3 ((u65.2 1) + 1).toNatClampNeg (if (s_X6_of0 u7 x1 0) = 4 then (u7.1 3 (u7.2 1).toNatClampNeg) + (((((s_X6_of0 u7 x1 2) - (u7.1 3 (u7.2 1).toNatClampNeg)) * x7) * x7) / ((s_X6_of0 u7 x1 1) * (s_X6_of0 u7 x1 1))) else if (s_X6_of0 u7 x1 0) = 2 then (u7.1 3 (u7.2 1).toNatClampNeg) + ((((s_X6_of0 u7 x1 2) - (u7.1 3 (u7.2 1).toNatClampNeg)) * x7) / (s_X6_of0 u7 x1 1)) else if (s_X6_of0 u7 x1 0) = 0 then 0 else if (s_X6_of0 u7 x1 0) = 1 then s_X6_of0 u7 x1 2 else if (s_X6_of0 u7 x1 0) = 3 then -(s_X6_of0 u7 x1 2) else (s_X6_of0 u7 x1 2) / 2)) 4 ((u65.2 1) + 1).toNatClampNeg (if (s_X6_isUnder u65 (s_X6_of0 u7 x1 0) 2) = 0 then s_X6_of0 u65 x1 3 else (u7.1 4 (u7.2 1).toNatClampNeg) + ((((s_X6_of0 u65 x1 3) - (u7.1 4 (u7.2 1).toNatClampNeg)) * x7) / (s_X6_of0 u7 x1 1)))) 5 ((u65.2 1) + 1).toNatClampNeg x1) 6 ((u65.2 1) + 1).toNatClampNeg ((u65.1 6 (((u65.2 1) + 1) - 1).toNatClampNeg) + ((uA (uZ u65 1 ((u65.2 1) + 1)) 3 ((u65.2 1) + 1).toNatClampNeg (if (s_X6_of0 u7 x1 0) = 4 then (u7.1 3 (u7.2 1).toNatClampNeg) + (((((s_X6_of0 u7 x1 2) - (u7.1 3 (u7.2 1).toNatClampNeg)) * x7) * x7) / ((s_X6_of0 u7 x1 1) * (s_X6_of0 u7 x1 1))) else if (s_X6_of0 u7 x1 0) = 2 then (u7.1 3 (u7.2 1).toNatClampNeg) + ((((s_X6_of0 u7 x1 2) - (u7.1 3 (u7.2 1).toNatClampNeg)) * x7) / (s_X6_of0 u7 x1 1)) else if (s_X6_of0 u7 x1 0) = 0 then 0 else if (s_X6_of0 u7 x1 0) = 1 then s_X6_of0 u7 x1 2 else if (s_X6_of0 u7 x1 0) = 3 then -(s_X6_of0 u7 x1 2) else (s_X6_of0 u7 x1 2) / 2)).1 3 ((u65.2 1) + 1).toNatClampNeg))).2 1)) (C := RX6) (T := TX6) (N := 28) hx hb hts (by decide +kernel) hown hK hP 0 rfl rfl 8 (by decide) (hts (.fieldLink RX6 130 "RailOffsetsModel" "stations" "I") (by decide +kernel)) (fun _ h => h) rfl dX6_lays_274 ?_
                      refine W.eq (g2 := F0 m 277 ls [.int ((u65.2 1) + 1), .ref (a 7), .int ((u65.2 1) + 1), .ref (a 7)]) rfl ?_
                      refine lv_iconst (v := 1) hx hb dX6_lays_277 rfl ?_
                      refine lv_isub hx hb dX6_lays_278 ?_
                      refine va_iald hx hb hK hP 7 0 rfl rfl (xst2 hI1 q2) dX6_lays_279 ?_
                      refine W.eq (g2 := F0 m 280 ls [.int (u65.1 7 (((u65.2 1) + 1) - 1).toNatClampNeg), .int ((u65.2 1) + 1), .ref (a 7)]) rfl ?_
                      refine lv_aload_n hx hb dX6_lays_280 rfl (lv_at hl 8 rfl) ?_
                      refine va_get (D := xD E) (ci := 6) (v := .ref (a 6)) (C := RX6) (T := TX6) (N := 28) hx hb hts (by decide +kernel) hown hK hP 0 rfl rfl 6 (by decide) (hts (.fieldLink RX6 27 "RailOffsetsModel" "turn" "[I") (by decide +kernel)) (fun _ h => h) rfl dX6_lays_281 ?_
                      refine lv_aload_n hx hb dX6_lays_284 rfl (lv_at hl 8 rfl) ?_
                      refine va_get (D := xD E) (ci := 6) (v := .int ((uA (uA (uA (uA (uZ u65 1 ((u65.2 1) + 1)) 3 ((u65.2 1) + 1).toNatClampNeg (if (s_X6_of0 u7 x1 0) = 4 then (u7.1 3 (u7.2 1).toNatClampNeg) + (((((s_X6_of0 u7 x1 2) - (u7.1 3 (u7.2 1).toNatClampNeg)) * x7) * x7) / ((s_X6_of0 u7 x1 1) * (s_X6_of0 u7 x1 1))) else if (s_X6_of0 u7 x1 0) = 2 then (u7.1 3 (u7.2 1).toNatClampNeg) + ((((s_X6_of0 u7 x1 2) - (u7.1 3 (u7.2 1).toNatClampNeg)) * x7) / (s_X6_of0 u7 x1 1)) else if (s_X6_of0 u7 x1 0) = 0 then 0 else if (s_X6_of0 u7 x1 0) = 1 then s_X6_of0 u7 x1 2 else if (s_X6_of0 u7 x1 0) = 3 then -(s_X6_of0 u7 x1 2) else (s_X6_of0 u7 x1 2) / 2)) 4 ((u65.2 1) + 1).toNatClampNeg (if (s_X6_isUnder u65 (s_X6_of0 u7 x1 0) 2) = 0 then s_X6_of0 u65 x1 3 else (u7.1 4 (u7.2 1).toNatClampNeg) + ((((s_X6_of0 u65 x1 3) - (u7.1 4 (u7.2 1).toNatClampNeg)) * x7) / (s_X6_of0 u7 x1 1)))) 5 ((u65.2 1) + 1).toNatClampNeg x1) 6 ((u65.2 1) + 1).toNatClampNeg ((u65.1 6 (((u65.2 1) + 1) - 1).toNatClampNeg) + ((uA (uZ u65 1 ((u65.2 1) + 1)) 3 ((u65.2 1) + 1).toNatClampNeg (if (s_X6_of0 u7 x1 0) = 4 then (u7.1 3 (u7.2 1).toNatClampNeg) + (((((s_X6_of0 u7 x1 2) - (u7.1 3 (u7.2 1).toNatClampNeg)) * x7) * x7) / ((s_X6_of0 u7 x1 1) * (s_X6_of0 u7 x1 1))) else if (s_X6_of0 u7 x1 0) = 2 then (u7.1 3 (u7.2 1).toNatClampNeg) + ((((s_X6_of0 u7 x1 2) - (u7.1 3 (u7.2 1).toNatClampNeg)) * x7) / (s_X6_of0 u7 x1 1)) else if (s_X6_of0 u7 x1 0) = 0 then 0 else if (s_X6_of0 u7 x1 0) = 1 then s_X6_of0 u7 x1 2 else if (s_X6_of0 u7 x1 0) = 3 then -(s_X6_of0 u7 x1 2) else (s_X6_of0 u7 x1 2) / 2)).1 3 ((u65.2 1) + 1).toNatClampNeg))).2 1)) (C := RX6) (T := TX6) (N := 28) hx hb hts (by decide +kernel) hown hK hP 0 rfl rfl 8 (by decide) (hts (.fieldLink RX6 130 "RailOffsetsModel" "stations" "I") (by decide +kernel)) (fun _ h => h) rfl dX6_lays_285 ?_
                      refine W.eq (g2 := F0 m 288 ls [.int ((u65.2 1) + 1), .ref (a 6), .int (u65.1 7 (((u65.2 1) + 1) - 1).toNatClampNeg), .int ((u65.2 1) + 1), .ref (a 7)]) rfl ?_
                      refine va_iald hx hb hK hP 6 0 rfl rfl (xst1 hI1 q2) dX6_lays_288 ?_
                      refine lv_iadd hx hb dX6_lays_289 ?_
                      refine va_iast hx hb hK hP (xD_of (ws := wM E a (uA (uA (uA (uA (uZ u65 1 ((u65.2 1) + 1)) 3 ((u65.2 1) + 1).toNatClampNeg (if (s_X6_of0 u7 x1 0) = 4 then (u7.1 3 (u7.2 1).toNatClampNeg) + (((((s_X6_of0 u7 x1 2) - (u7.1 3 (u7.2 1).toNatClampNeg)) * x7) * x7) / ((s_X6_of0 u7 x1 1) * (s_X6_of0 u7 x1 1))) else if (s_X6_of0 u7 x1 0) = 2 then (u7.1 3 (u7.2 1).toNatClampNeg) + ((((s_X6_of0 u7 x1 2) - (u7.1 3 (u7.2 1).toNatClampNeg)) * x7) / (s_X6_of0 u7 x1 1)) else if (s_X6_of0 u7 x1 0) = 0 then 0 else if (s_X6_of0 u7 x1 0) = 1 then s_X6_of0 u7 x1 2 else if (s_X6_of0 u7 x1 0) = 3 then -(s_X6_of0 u7 x1 2) else (s_X6_of0 u7 x1 2) / 2)) 4 ((u65.2 1) + 1).toNatClampNeg (if (s_X6_isUnder u65 (s_X6_of0 u7 x1 0) 2) = 0 then s_X6_of0 u65 x1 3 else (u7.1 4 (u7.2 1).toNatClampNeg) + ((((s_X6_of0 u65 x1 3) - (u7.1 4 (u7.2 1).toNatClampNeg)) * x7) / (s_X6_of0 u7 x1 1)))) 5 ((u65.2 1) + 1).toNatClampNeg x1) 6 ((u65.2 1) + 1).toNatClampNeg ((u65.1 6 (((u65.2 1) + 1) - 1).toNatClampNeg) + ((uA (uZ u65 1 ((u65.2 1) + 1)) 3 ((u65.2 1) + 1).toNatClampNeg (if (s_X6_of0 u7 x1 0) = 4 then (u7.1 3 (u7.2 1).toNatClampNeg) + (((((s_X6_of0 u7 x1 2) - (u7.1 3 (u7.2 1).toNatClampNeg)) * x7) * x7) / ((s_X6_of0 u7 x1 1) * (s_X6_of0 u7 x1 1))) else if (s_X6_of0 u7 x1 0) = 2 then (u7.1 3 (u7.2 1).toNatClampNeg) + ((((s_X6_of0 u7 x1 2) - (u7.1 3 (u7.2 1).toNatClampNeg)) * x7) / (s_X6_of0 u7 x1 1)) else if (s_X6_of0 u7 x1 0) = 0 then 0 else if (s_X6_of0 u7 x1 0) = 1 then s_X6_of0 u7 x1 2 else if (s_X6_of0 u7 x1 0) = 3 then -(s_X6_of0 u7 x1 2) else (s_X6_of0 u7 x1 2) / 2)).1 3 ((u65.2 1) + 1).toNatClampNeg)))) (A := (· ∈ LM a)) hL.1 (fun _ h => h)) hS 7 0 rfl rfl (xst1 hI1 q2) dX6_lays_290 (fun H locs hP _ hS => ?_)
                      have hP : va_P (xD E) vwCl (wM E a (uA (uA (uA (uA (uA (uZ u65 1 ((u65.2 1) + 1)) 3 ((u65.2 1) + 1).toNatClampNeg (if (s_X6_of0 u7 x1 0) = 4 then (u7.1 3 (u7.2 1).toNatClampNeg) + (((((s_X6_of0 u7 x1 2) - (u7.1 3 (u7.2 1).toNatClampNeg)) * x7) * x7) / ((s_X6_of0 u7 x1 1) * (s_X6_of0 u7 x1 1))) else if (s_X6_of0 u7 x1 0) = 2 then (u7.1 3 (u7.2 1).toNatClampNeg) + ((((s_X6_of0 u7 x1 2) - (u7.1 3 (u7.2 1).toNatClampNeg)) * x7) / (s_X6_of0 u7 x1 1)) else if (s_X6_of0 u7 x1 0) = 0 then 0 else if (s_X6_of0 u7 x1 0) = 1 then s_X6_of0 u7 x1 2 else if (s_X6_of0 u7 x1 0) = 3 then -(s_X6_of0 u7 x1 2) else (s_X6_of0 u7 x1 2) / 2)) 4 ((u65.2 1) + 1).toNatClampNeg (if (s_X6_isUnder u65 (s_X6_of0 u7 x1 0) 2) = 0 then s_X6_of0 u65 x1 3 else (u7.1 4 (u7.2 1).toNatClampNeg) + ((((s_X6_of0 u65 x1 3) - (u7.1 4 (u7.2 1).toNatClampNeg)) * x7) / (s_X6_of0 u7 x1 1)))) 5 ((u65.2 1) + 1).toNatClampNeg x1) 6 ((u65.2 1) + 1).toNatClampNeg ((u65.1 6 (((u65.2 1) + 1) - 1).toNatClampNeg) + ((uA (uZ u65 1 ((u65.2 1) + 1)) 3 ((u65.2 1) + 1).toNatClampNeg (if (s_X6_of0 u7 x1 0) = 4 then (u7.1 3 (u7.2 1).toNatClampNeg) + (((((s_X6_of0 u7 x1 2) - (u7.1 3 (u7.2 1).toNatClampNeg)) * x7) * x7) / ((s_X6_of0 u7 x1 1) * (s_X6_of0 u7 x1 1))) else if (s_X6_of0 u7 x1 0) = 2 then (u7.1 3 (u7.2 1).toNatClampNeg) + ((((s_X6_of0 u7 x1 2) - (u7.1 3 (u7.2 1).toNatClampNeg)) * x7) / (s_X6_of0 u7 x1 1)) else if (s_X6_of0 u7 x1 0) = 0 then 0 else if (s_X6_of0 u7 x1 0) = 1 then s_X6_of0 u7 x1 2 else if (s_X6_of0 u7 x1 0) = 3 then -(s_X6_of0 u7 x1 2) else (s_X6_of0 u7 x1 2) / 2)).1 3 ((u65.2 1) + 1).toNatClampNeg))) 7 ((u65.2 1) + 1).toNatClampNeg ((u65.1 7 (((u65.2 1) + 1) - 1).toNatClampNeg) + ((uA (uA (uA (uA (uZ u65 1 ((u65.2 1) + 1)) 3 ((u65.2 1) + 1).toNatClampNeg (if (s_X6_of0 u7 x1 0) = 4 then (u7.1 3 (u7.2 1).toNatClampNeg) + (((((s_X6_of0 u7 x1 2) - (u7.1 3 (u7.2 1).toNatClampNeg)) * x7) * x7) / ((s_X6_of0 u7 x1 1) * (s_X6_of0 u7 x1 1))) else if (s_X6_of0 u7 x1 0) = 2 then (u7.1 3 (u7.2 1).toNatClampNeg) + ((((s_X6_of0 u7 x1 2) - (u7.1 3 (u7.2 1).toNatClampNeg)) * x7) / (s_X6_of0 u7 x1 1)) else if (s_X6_of0 u7 x1 0) = 0 then 0 else if (s_X6_of0 u7 x1 0) = 1 then s_X6_of0 u7 x1 2 else if (s_X6_of0 u7 x1 0) = 3 then -(s_X6_of0 u7 x1 2) else (s_X6_of0 u7 x1 2) / 2)) 4 ((u65.2 1) + 1).toNatClampNeg (if (s_X6_isUnder u65 (s_X6_of0 u7 x1 0) 2) = 0 then s_X6_of0 u65 x1 3 else (u7.1 4 (u7.2 1).toNatClampNeg) + ((((s_X6_of0 u65 x1 3) - (u7.1 4 (u7.2 1).toNatClampNeg)) * x7) / (s_X6_of0 u7 x1 1)))) 5 ((u65.2 1) + 1).toNatClampNeg x1) 6 ((u65.2 1) + 1).toNatClampNeg ((u65.1 6 (((u65.2 1) + 1) - 1).toNatClampNeg) + ((uA (uZ u65 1 ((u65.2 1) + 1)) 3 ((u65.2 1) + 1).toNatClampNeg (if (s_X6_of0 u7 x1 0) = 4 then (u7.1 3 (u7.2 1).toNatClampNeg) + (((((s_X6_of0 u7 x1 2) - (u7.1 3 (u7.2 1).toNatClampNeg)) * x7) * x7) / ((s_X6_of0 u7 x1 1) * (s_X6_of0 u7 x1 1))) else if (s_X6_of0 u7 x1 0) = 2 then (u7.1 3 (u7.2 1).toNatClampNeg) + ((((s_X6_of0 u7 x1 2) - (u7.1 3 (u7.2 1).toNatClampNeg)) * x7) / (s_X6_of0 u7 x1 1)) else if (s_X6_of0 u7 x1 0) = 0 then 0 else if (s_X6_of0 u7 x1 0) = 1 then s_X6_of0 u7 x1 2 else if (s_X6_of0 u7 x1 0) = 3 then -(s_X6_of0 u7 x1 2) else (s_X6_of0 u7 x1 2) / 2)).1 3 ((u65.2 1) + 1).toNatClampNeg))).1 6 ((u65.2 1) + 1).toNatClampNeg)))) H := hP
                      refine lv_iinc (k := 1) (v := x7 + 1) (lv' := [(7, .int (x7 + 1)), (8, .int (if (s_X6_of0 u7 x1 0) = 2 then (u7.1 3 (u7.2 1).toNatClampNeg) + ((((s_X6_of0 u7 x1 2) - (u7.1 3 (u7.2 1).toNatClampNeg)) * x7) / (s_X6_of0 u7 x1 1)) else if (s_X6_of0 u7 x1 0) = 0 then 0 else if (s_X6_of0 u7 x1 0) = 1 then s_X6_of0 u7 x1 2 else if (s_X6_of0 u7 x1 0) = 3 then -(s_X6_of0 u7 x1 2) else (s_X6_of0 u7 x1 2) / 2)), (6, .int (u7.1 4 (u7.2 1).toNatClampNeg)), (5, .int (u7.1 3 (u7.2 1).toNatClampNeg)), (4, .int (s_X6_of0 u7 x1 2)), (3, .int (s_X6_of0 u7 x1 1)), (2, .int (s_X6_of0 u7 x1 0)), (1, .int x1), (0, .ref (a 0))]) hx hb dX6_lays_291 hl rfl rfl (by decide) rfl (fun ls hl => ?_)
                      refine lv_goto (tgt := 65) hx hb dX6_lays_294 rfl ?_
                      exact ih65 (uA (uA (uA (uA (uA (uZ u65 1 ((u65.2 1) + 1)) 3 ((u65.2 1) + 1).toNatClampNeg (if (s_X6_of0 u7 x1 0) = 4 then (u7.1 3 (u7.2 1).toNatClampNeg) + (((((s_X6_of0 u7 x1 2) - (u7.1 3 (u7.2 1).toNatClampNeg)) * x7) * x7) / ((s_X6_of0 u7 x1 1) * (s_X6_of0 u7 x1 1))) else if (s_X6_of0 u7 x1 0) = 2 then (u7.1 3 (u7.2 1).toNatClampNeg) + ((((s_X6_of0 u7 x1 2) - (u7.1 3 (u7.2 1).toNatClampNeg)) * x7) / (s_X6_of0 u7 x1 1)) else if (s_X6_of0 u7 x1 0) = 0 then 0 else if (s_X6_of0 u7 x1 0) = 1 then s_X6_of0 u7 x1 2 else if (s_X6_of0 u7 x1 0) = 3 then -(s_X6_of0 u7 x1 2) else (s_X6_of0 u7 x1 2) / 2)) 4 ((u65.2 1) + 1).toNatClampNeg (if (s_X6_isUnder u65 (s_X6_of0 u7 x1 0) 2) = 0 then s_X6_of0 u65 x1 3 else (u7.1 4 (u7.2 1).toNatClampNeg) + ((((s_X6_of0 u65 x1 3) - (u7.1 4 (u7.2 1).toNatClampNeg)) * x7) / (s_X6_of0 u7 x1 1)))) 5 ((u65.2 1) + 1).toNatClampNeg x1) 6 ((u65.2 1) + 1).toNatClampNeg ((u65.1 6 (((u65.2 1) + 1) - 1).toNatClampNeg) + ((uA (uZ u65 1 ((u65.2 1) + 1)) 3 ((u65.2 1) + 1).toNatClampNeg (if (s_X6_of0 u7 x1 0) = 4 then (u7.1 3 (u7.2 1).toNatClampNeg) + (((((s_X6_of0 u7 x1 2) - (u7.1 3 (u7.2 1).toNatClampNeg)) * x7) * x7) / ((s_X6_of0 u7 x1 1) * (s_X6_of0 u7 x1 1))) else if (s_X6_of0 u7 x1 0) = 2 then (u7.1 3 (u7.2 1).toNatClampNeg) + ((((s_X6_of0 u7 x1 2) - (u7.1 3 (u7.2 1).toNatClampNeg)) * x7) / (s_X6_of0 u7 x1 1)) else if (s_X6_of0 u7 x1 0) = 0 then 0 else if (s_X6_of0 u7 x1 0) = 1 then s_X6_of0 u7 x1 2 else if (s_X6_of0 u7 x1 0) = 3 then -(s_X6_of0 u7 x1 2) else (s_X6_of0 u7 x1 2) / 2)).1 3 ((u65.2 1) + 1).toNatClampNeg))) 7 ((u65.2 1) + 1).toNatClampNeg ((u65.1 7 (((u65.2 1) + 1) - 1).toNatClampNeg) + ((uA (uA (uA (uA (uZ u65 1 ((u65.2 1) + 1)) 3 ((u65.2 1) + 1).toNatClampNeg (if (s_X6_of0 u7 x1 0) = 4 then (u7.1 3 (u7.2 1).toNatClampNeg) + (((((s_X6_of0 u7 x1 2) - (u7.1 3 (u7.2 1).toNatClampNeg)) * x7) * x7) / ((s_X6_of0 u7 x1 1) * (s_X6_of0 u7 x1 1))) else if (s_X6_of0 u7 x1 0) = 2 then (u7.1 3 (u7.2 1).toNatClampNeg) + ((((s_X6_of0 u7 x1 2) - (u7.1 3 (u7.2 1).toNatClampNeg)) * x7) / (s_X6_of0 u7 x1 1)) else if (s_X6_of0 u7 x1 0) = 0 then 0 else if (s_X6_of0 u7 x1 0) = 1 then s_X6_of0 u7 x1 2 else if (s_X6_of0 u7 x1 0) = 3 then -(s_X6_of0 u7 x1 2) else (s_X6_of0 u7 x1 2) / 2)) 4 ((u65.2 1) + 1).toNatClampNeg (if (s_X6_isUnder u65 (s_X6_of0 u7 x1 0) 2) = 0 then s_X6_of0 u65 x1 3 else (u7.1 4 (u7.2 1).toNatClampNeg) + ((((s_X6_of0 u65 x1 3) - (u7.1 4 (u7.2 1).toNatClampNeg)) * x7) / (s_X6_of0 u7 x1 1)))) 5 ((u65.2 1) + 1).toNatClampNeg x1) 6 ((u65.2 1) + 1).toNatClampNeg ((u65.1 6 (((u65.2 1) + 1) - 1).toNatClampNeg) + ((uA (uZ u65 1 ((u65.2 1) + 1)) 3 ((u65.2 1) + 1).toNatClampNeg (if (s_X6_of0 u7 x1 0) = 4 then (u7.1 3 (u7.2 1).toNatClampNeg) + (((((s_X6_of0 u7 x1 2) - (u7.1 3 (u7.2 1).toNatClampNeg)) * x7) * x7) / ((s_X6_of0 u7 x1 1) * (s_X6_of0 u7 x1 1))) else if (s_X6_of0 u7 x1 0) = 2 then (u7.1 3 (u7.2 1).toNatClampNeg) + ((((s_X6_of0 u7 x1 2) - (u7.1 3 (u7.2 1).toNatClampNeg)) * x7) / (s_X6_of0 u7 x1 1)) else if (s_X6_of0 u7 x1 0) = 0 then 0 else if (s_X6_of0 u7 x1 0) = 1 then s_X6_of0 u7 x1 2 else if (s_X6_of0 u7 x1 0) = 3 then -(s_X6_of0 u7 x1 2) else (s_X6_of0 u7 x1 2) / 2)).1 3 ((u65.2 1) + 1).toNatClampNeg))).1 6 ((u65.2 1) + 1).toNatClampNeg))) (x7 + 1) _ _ _ (hI0) (xkup hI1 q2) (Nat.lt_of_lt_of_le (xupl q2 (xk3 hI1)) (Nat.le_of_lt_succ hM65)) hR (lv_sub hl [0, 2, 3, 4, 5, 6, 7, 8] rfl) hP hS
                    refine lv_if_eq (tgt := 214) hx hb dX6_lays_191 rfl (fun q10 => ?_) (fun q10 => ?_)
                    · refine lv_aload_n hx hb dX6_lays_214 rfl (lv_at hl 8 rfl) ?_
                      refine lv_iload_n hx hb dX6_lays_215 rfl (lv_at hl 7 rfl) ?_
                      refine lv_iconst (v := 3) hx hb dX6_lays_216 rfl ?_
                      refine xRoV (nL := 9) ⟨hx, hb, hml, hown, hts⟩ (c_X6_of0 l E a (uA (uZ u65 1 ((u65.2 1) + 1)) 3 ((u65.2 1) + 1).toNatClampNeg (if (s_X6_of0 u7 x1 0) = 4 then (u7.1 3 (u7.2 1).toNatClampNeg) + (((((s_X6_of0 u7 x1 2) - (u7.1 3 (u7.2 1).toNatClampNeg)) * x7) * x7) / ((s_X6_of0 u7 x1 1) * (s_X6_of0 u7 x1 1))) else if (s_X6_of0 u7 x1 0) = 2 then (u7.1 3 (u7.2 1).toNatClampNeg) + ((((s_X6_of0 u7 x1 2) - (u7.1 3 (u7.2 1).toNatClampNeg)) * x7) / (s_X6_of0 u7 x1 1)) else if (s_X6_of0 u7 x1 0) = 0 then 0 else if (s_X6_of0 u7 x1 0) = 1 then s_X6_of0 u7 x1 2 else if (s_X6_of0 u7 x1 0) = 3 then -(s_X6_of0 u7 x1 2) else (s_X6_of0 u7 x1 2) / 2)) x1 3 (xof hI1.1 (by decide) (by decide))) (cwV 2 hts gX6_lays_X6_of0 rfl rfl rfl ⟨rfl, hd_X6_of0⟩ ⟨(Nat.le_of_ble_eq_true rfl), (Nat.le_of_ble_eq_true rfl)⟩) hF hS hA hP (va_recv (q := (RX6, TX6, 28)) hK hP (ci := 6) rfl (q0 := 0) rfl) rfl hl.1 rfl (Nat.le_of_ble_eq_true rfl) ⟨(Nat.le_of_ble_eq_true rfl), (Nat.le_of_ble_eq_true rfl)⟩ dX6_lays_217 ?_
                      refine W.eq (g2 := F0 m 220 ls [.int (s_X6_of0 u65 x1 3), .int ((u65.2 1) + 1), .ref (a 4)]) rfl ?_
                      exact W.eq (congrArg (fun z => F0 m 220 ls [.int z, .int ((u65.2 1) + 1), .ref (a 4)]) (if_pos q10).symm) J9
                    · refine lv_iload hx hb dX6_lays_194 (lv_at hl 2 rfl) ?_
                      refine lv_aload_n hx hb dX6_lays_196 rfl (lv_at hl 8 rfl) ?_
                      refine lv_iload_n hx hb dX6_lays_197 rfl (lv_at hl 7 rfl) ?_
                      refine lv_iconst (v := 3) hx hb dX6_lays_198 rfl ?_
                      refine xRoV (nL := 9) ⟨hx, hb, hml, hown, hts⟩ (c_X6_of0 l E a (uA (uZ u65 1 ((u65.2 1) + 1)) 3 ((u65.2 1) + 1).toNatClampNeg (if (s_X6_of0 u7 x1 0) = 4 then (u7.1 3 (u7.2 1).toNatClampNeg) + (((((s_X6_of0 u7 x1 2) - (u7.1 3 (u7.2 1).toNatClampNeg)) * x7) * x7) / ((s_X6_of0 u7 x1 1) * (s_X6_of0 u7 x1 1))) else if (s_X6_of0 u7 x1 0) = 2 then (u7.1 3 (u7.2 1).toNatClampNeg) + ((((s_X6_of0 u7 x1 2) - (u7.1 3 (u7.2 1).toNatClampNeg)) * x7) / (s_X6_of0 u7 x1 1)) else if (s_X6_of0 u7 x1 0) = 0 then 0 else if (s_X6_of0 u7 x1 0) = 1 then s_X6_of0 u7 x1 2 else if (s_X6_of0 u7 x1 0) = 3 then -(s_X6_of0 u7 x1 2) else (s_X6_of0 u7 x1 2) / 2)) x1 3 (xof hI1.1 (by decide) (by decide))) (cwV 2 hts gX6_lays_X6_of0 rfl rfl rfl ⟨rfl, hd_X6_of0⟩ ⟨(Nat.le_of_ble_eq_true rfl), (Nat.le_of_ble_eq_true rfl)⟩) hF hS hA hP (va_recv (q := (RX6, TX6, 28)) hK hP (ci := 6) rfl (q0 := 0) rfl) rfl hl.1 rfl (Nat.le_of_ble_eq_true rfl) ⟨(Nat.le_of_ble_eq_true rfl), (Nat.le_of_ble_eq_true rfl)⟩ dX6_lays_199 ?_
                      refine W.eq (g2 := F0 m 202 ls [.int (s_X6_of0 u65 x1 3), .int (u7.1 4 (u7.2 1).toNatClampNeg), .int ((u65.2 1) + 1), .ref (a 4)]) rfl ?_
                      refine lv_iload hx hb dX6_lays_202 (lv_at hl 2 rfl) ?_
                      refine lv_isub hx hb dX6_lays_204 ?_
                      refine lv_iload hx hb dX6_lays_205 (lv_at hl 1 rfl) ?_
                      refine lv_imul hx hb dX6_lays_207 ?_
                      refine lv_iload_n hx hb dX6_lays_208 rfl (lv_at hl 5 rfl) ?_
                      refine lv_idiv hx hb dX6_lays_209 (xn0 hI1) ?_
                      refine lv_iadd hx hb dX6_lays_210 ?_
                      refine lv_goto (tgt := 220) hx hb dX6_lays_211 rfl ?_
                      exact W.eq (congrArg (fun z => F0 m 220 ls [.int z, .int ((u65.2 1) + 1), .ref (a 4)]) (if_neg q10).symm) J9
                  refine lv_icmp_ne (tgt := 175) hx hb dX6_lays_151 rfl (fun q8 => ?_) (fun q8 => ?_)
                  · refine lv_iload hx hb dX6_lays_175 (lv_at hl 0 rfl) ?_
                    exact W.eq (congrArg (fun z => F0 m 177 ls [.int z, .int ((u65.2 1) + 1), .ref (a 3)]) (if_neg q8).symm) J7
                  · refine lv_iload hx hb dX6_lays_154 (lv_at hl 3 rfl) ?_
                    refine lv_iload hx hb dX6_lays_156 (lv_at hl 4 rfl) ?_
                    refine lv_iload hx hb dX6_lays_158 (lv_at hl 3 rfl) ?_
                    refine lv_isub hx hb dX6_lays_160 ?_
                    refine lv_iload hx hb dX6_lays_161 (lv_at hl 1 rfl) ?_
                    refine lv_imul hx hb dX6_lays_163 ?_
                    refine lv_iload hx hb dX6_lays_164 (lv_at hl 1 rfl) ?_
                    refine lv_imul hx hb dX6_lays_166 ?_
                    refine lv_iload_n hx hb dX6_lays_167 rfl (lv_at hl 5 rfl) ?_
                    refine lv_iload_n hx hb dX6_lays_168 rfl (lv_at hl 5 rfl) ?_
                    refine lv_imul hx hb dX6_lays_169 ?_
                    refine lv_idiv hx hb dX6_lays_170 (xnn0 hI1) ?_
                    refine lv_iadd hx hb dX6_lays_171 ?_
                    refine lv_goto (tgt := 177) hx hb dX6_lays_172 rfl ?_
                    exact W.eq (congrArg (fun z => F0 m 177 ls [.int z, .int ((u65.2 1) + 1), .ref (a 3)]) (if_pos q8).symm) J7
                refine lv_icmp_ne (tgt := 137) hx hb dX6_lays_118 rfl (fun q6 => ?_) (fun q6 => ?_)
                · refine lv_iload hx hb dX6_lays_137 (lv_at hl 0 rfl) ?_
                  exact W.eq (congrArg (fun z => F0 m 139 ls [.int z]) (if_neg q6).symm) J5
                · refine lv_iload hx hb dX6_lays_121 (lv_at hl 3 rfl) ?_
                  refine lv_iload hx hb dX6_lays_123 (lv_at hl 4 rfl) ?_
                  refine lv_iload hx hb dX6_lays_125 (lv_at hl 3 rfl) ?_
                  refine lv_isub hx hb dX6_lays_127 ?_
                  refine lv_iload hx hb dX6_lays_128 (lv_at hl 1 rfl) ?_
                  refine lv_imul hx hb dX6_lays_130 ?_
                  refine lv_iload_n hx hb dX6_lays_131 rfl (lv_at hl 5 rfl) ?_
                  refine lv_idiv hx hb dX6_lays_132 (xn0 hI1) ?_
                  refine lv_iadd hx hb dX6_lays_133 ?_
                  refine lv_goto (tgt := 139) hx hb dX6_lays_134 rfl ?_
                  exact W.eq (congrArg (fun z => F0 m 139 ls [.int z]) (if_pos q6).symm) J5
              refine lv_if_ne (tgt := 89) hx hb dX6_lays_82 rfl (fun q4 => ?_) (fun q4 => ?_)
              · refine lv_iload_n hx hb dX6_lays_89 rfl (lv_at hl 5 rfl) ?_
                refine lv_iconst (v := 1) hx hb dX6_lays_90 rfl ?_
                have J11 : W p l e rm_X6_lays s m ([.ref (a 0)] : List Value).toArray below meth c H locs 0 0 (xQmd E below (LM a) (none) (wM E a (s_X6_lays u)) ([.ref (a 0)] : List Value).toArray s) (F0 m 114 ls [.int (if (s_X6_of0 u7 x1 0) = 1 then s_X6_of0 u7 x1 2 else if (s_X6_of0 u7 x1 0) = 3 then -(s_X6_of0 u7 x1 2) else (s_X6_of0 u7 x1 2) / 2)]) := by
                  exact W.eq (congrArg (fun z => F0 m 114 ls [.int z]) (if_neg q4).symm) J3
                refine lv_icmp_ne (tgt := 99) hx hb dX6_lays_91 rfl (fun q12 => ?_) (fun q12 => ?_)
                · refine lv_iload_n hx hb dX6_lays_99 rfl (lv_at hl 5 rfl) ?_
                  refine lv_iconst (v := 3) hx hb dX6_lays_100 rfl ?_
                  have J13 : W p l e rm_X6_lays s m ([.ref (a 0)] : List Value).toArray below meth c H locs 0 0 (xQmd E below (LM a) (none) (wM E a (s_X6_lays u)) ([.ref (a 0)] : List Value).toArray s) (F0 m 114 ls [.int (if (s_X6_of0 u7 x1 0) = 3 then -(s_X6_of0 u7 x1 2) else (s_X6_of0 u7 x1 2) / 2)]) := by
                    exact W.eq (congrArg (fun z => F0 m 114 ls [.int z]) (if_neg q12).symm) J11
                  refine lv_icmp_ne (tgt := 110) hx hb dX6_lays_101 rfl (fun q14 => ?_) (fun q14 => ?_)
                  · refine lv_iload hx hb dX6_lays_110 (lv_at hl 3 rfl) ?_
                    refine lv_iconst (v := 2) hx hb dX6_lays_112 rfl ?_
                    refine lv_idiv hx hb dX6_lays_113 (by decide) ?_
                    exact W.eq (congrArg (fun z => F0 m 114 ls [.int z]) (if_neg q14).symm) J13
                  · refine lv_iload hx hb dX6_lays_104 (lv_at hl 3 rfl) ?_
                    refine lv_ineg hx hb dX6_lays_106 ?_
                    refine lv_goto (tgt := 114) hx hb dX6_lays_107 rfl ?_
                    exact W.eq (congrArg (fun z => F0 m 114 ls [.int z]) (if_pos q14).symm) J13
                · refine lv_iload hx hb dX6_lays_94 (lv_at hl 3 rfl) ?_
                  refine lv_goto (tgt := 114) hx hb dX6_lays_96 rfl ?_
                  exact W.eq (congrArg (fun z => F0 m 114 ls [.int z]) (if_pos q12).symm) J11
              · refine lv_iconst (v := 0) hx hb dX6_lays_85 rfl ?_
                refine lv_goto (tgt := 114) hx hb dX6_lays_86 rfl ?_
                exact W.eq (congrArg (fun z => F0 m 114 ls [.int z]) (if_pos q4).symm) J3
        exact L65 (((s_X6_of0 u7 x1 1).toInt + 1 - (1 : Int32).toInt).toNat + 1) u7 1 _ _ ls (hI0) (xkin hI0 hI1 q1) (Nat.lt_succ_self _) hR hl hP hS
  exact L7 ((10 - (0 : Int32).toInt).toNat + 1) (uZ u 1 0) 0 _ _ ls (hp0) (xi0) (Nat.lt_succ_self _) hR hl hP hS
