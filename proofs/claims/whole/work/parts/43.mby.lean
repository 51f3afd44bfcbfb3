/-! ===== the reference's trials: one piece's number is written ===== -/
theorem xat4 {p : Int32} (hp : XP p) {j : Nat} (hj : j < 4) : ((4 * p) + nI j).toNatClampNeg = 4 * p.toInt.toNat + j := by
  have hj2 := nI_toInt (n := j) (by omega)
  have e2 := xadd4 hp (j := nI j) (by omega) (by omega)
  show ((4 * p) + nI j).toInt.toNat = _
  rw [e2, hj2]
  have := hp.1
  omega
theorem XV.updp {v : Nat → Int32} {N : Int32} (h : XV v N) {q j : Nat} (hj : j < 4) {x : Int32} (hx : okf j x) (h1 : j = 1 → 1 ≤ x.toInt) : XV (upd v (4 * q + j) x) N := by
  obtain ⟨n, h1', h2, h3, h4⟩ := h
  refine ⟨n, h1', h2, XV0.upd h3 hj hx, fun p hp => ?_⟩
  by_cases e : 4 * p + 1 = 4 * q + j
  · rw [e, pk_us]
    exact h1 (by omega)
  · rw [pk_un e]
    exact h4 p hp
theorem xwu {u : xU} (h : XW u) {p : Int32} (hp : XP p) {j : Nat} (hj : j < 4) {x : Int32} (hx : okf j x) (h1 : j = 1 → 1 ≤ x.toInt) : XW (uA u 1 ((4 * p) + nI j).toNatClampNeg x) := by
  have e := xat4 hp hj
  show XV (upd (u.1 1) ((4 * p) + nI j).toNatClampNeg x) (upd (u.1 1) ((4 * p) + nI j).toNatClampNeg x 40)
  rw [e, pk_un (show 40 ≠ 4 * p.toInt.toNat + j by have := hp.2; omega)]
  exact h.updp hj hx h1
theorem xzu {u : xU} (h : XZ u) {i : Nat} {x : Int32} : XZ (uA u 1 i x) := h
theorem xspan {n : Int32} (h : 0 ≤ n.toInt ∧ n.toInt ≤ 9) : ¬ (2 * n) + 1 = 0 := by
  intro e
  have h2 : (2 * n).toInt = 2 * n.toInt := fb_mulI (x := 2) (y := n) (by rw [show (2 : Int32).toInt = 2 from rfl]; omega) (by rw [show (2 : Int32).toInt = 2 from rfl]; omega)
  have h3 := xinc (k := 2 * n) (by omega)
  rw [e, show (0 : Int32).toInt = 0 from rfl] at h3
  omega
def s_X6_by_L47 : Nat → xU → Int32 → Int32 → Int32 → Int32 → Int32 → Int32 → Int32 × xU
  | 0, u, _, _, _, _, _, _ => (0, u)
  | n + 1, u, x1, x2, x3, x4, x5, x6 =>
    if 99 < x6 then
      (x4, uA u 1 ((4 * x2) + 2).toNatClampNeg x3)
    else
      if x4 < 0 then
        s_X6_by_L47 n (s_X6_slews (s_X6_laysOld (s_X6_lays (uA u 1 ((4 * x2) + 2).toNatClampNeg x6)) x1)) x1 x2 x3 (1000 + x6) (s_X6_most (s_X6_slews (s_X6_laysOld (s_X6_lays (uA u 1 ((4 * x2) + 2).toNatClampNeg x6)) x1))) (x6 + 1)
      else
        if x5 ≤ (s_X6_most (s_X6_slews (s_X6_laysOld (s_X6_lays (uA u 1 ((4 * x2) + 2).toNatClampNeg x6)) x1))) then
          s_X6_by_L47 n (s_X6_slews (s_X6_laysOld (s_X6_lays (uA u 1 ((4 * x2) + 2).toNatClampNeg x6)) x1)) x1 x2 x3 x4 x5 (x6 + 1)
        else
          s_X6_by_L47 n (s_X6_slews (s_X6_laysOld (s_X6_lays (uA u 1 ((4 * x2) + 2).toNatClampNeg x6)) x1)) x1 x2 x3 (1000 + x6) (s_X6_most (s_X6_slews (s_X6_laysOld (s_X6_lays (uA u 1 ((4 * x2) + 2).toNatClampNeg x6)) x1))) (x6 + 1)
def s_X6_by (u : xU) (p1 : Int32) (p2 : Int32) : Int32 × xU :=
  if (s_X6_isSheet u p1) = 0 then
    ((-2), u)
  else
    if (s_X6_isPiece u p2) = 0 then
      ((-2), u)
    else
      if 0 ≤ (u.1 8 p1.toNatClampNeg) then
        s_X6_by_L47 (((99 : Int32).toInt + 1 - ((-99) : Int32).toInt).toNat + 1) u p1 p2 (s_X6_of0 u p2 2) (-1) 0 (-99)
      else
        ((-11), u)
abbrev rm_X6_by : Room := { frames := 3, cells := 0, slots := 0, locals := 63 }
set_option maxHeartbeats 8000000 in
set_option maxRecDepth 100000 in
theorem c_X6_by (l : Launch) (E : xG) (a : Nat → Nat) (u : xU) (p1 : Int32) (p2 : Int32) (hp0 : XW u) (hp1 : XZ u) (hL : xOK E (LM a)) : xMd l E yX6_by wsX6_by rm_X6_by (LM a) [.ref (a 0), .int p1, .int p2] (wM E a u) (some (.int ((s_X6_by u p1 p2).1))) (wM E a ((s_X6_by u p1 p2).2)) := by
  refine xMd.of (cc := cX6_by) (maxL := 7) (ret := (some .int)) (by decide) rfl (Nat.le_of_ble_eq_true rfl) ?_
  intro p e s m below meth c ls hAt hF hP hS hl
  obtain ⟨hx, hb, hr, hml, hown, hts, hlocks, -⟩ := hAt
  have hown : s.vm.findClass RX6 = some m.cls := hown
  have hl : lv_has ls 7 [(0, .ref (a 0)), (1, .int p1), (2, .int p2)] := hl
  have hK := hF.1
  have hA := hL.2
  change W p l e rm_X6_by s m ([.ref (a 0), .int p1, .int p2] : List Value).toArray below meth c s.heap [] 0 0 (xQmd E below (LM a) (some (.int ((s_X6_by u p1 p2).1))) (wM E a ((s_X6_by u p1 p2).2)) ([.ref (a 0), .int p1, .int p2] : List Value).toArray s) _
  have hS : va_S (· ∈ LM a) s.heap s.heap [] := hS
  have hR : s_X6_by u p1 p2 = s_X6_by u p1 p2 := rfl
  refine lv_iload_n hx hb dX6_by_0 rfl (lv_at hl 1 rfl) ?_
  refine xRoS (nL := 7) ⟨hx, hb, hml, hown, hts⟩ (c_X6_isSheet l E a u p1) (va_cwS 1 hts gX6_by_X6_isSheet rfl rfl rfl hd_X6_isSheet ⟨(Nat.le_of_ble_eq_true rfl), (Nat.le_of_ble_eq_true rfl)⟩) hF hS hA hP rfl hl.1 rfl (Nat.le_of_ble_eq_true rfl) ⟨(Nat.le_of_ble_eq_true rfl), (Nat.le_of_ble_eq_true rfl)⟩ dX6_by_1 ?_
  refine W.eq (g2 := F0 m 4 ls [.int (s_X6_isSheet u p1)]) rfl ?_
  refine lv_if_eq (tgt := 15) hx hb dX6_by_4 rfl (fun q1 => ?_) (fun q1 => ?_)
  · have hR := hR.trans (if_pos q1)
    refine lv_bipush (v := (-2)) hx hb dX6_by_15 rfl ?_
    have hR : s_X6_by u p1 p2 = ((-2), u) := hR
    exact W.iret (v := (-2)) hx hb hr (fun t ht _ => by rw [hR]; dsimp only; exact ⟨⟨rfl, by rw [ht]; exact hP⟩, hS.F ht⟩) hS.2.2 dX6_by_17
  · have hR := hR.trans (if_neg q1)
    refine lv_aload_n hx hb dX6_by_7 rfl (lv_at hl 0 rfl) ?_
    refine lv_iload_n hx hb dX6_by_8 rfl (lv_at hl 2 rfl) ?_
    refine xRoV (nL := 7) ⟨hx, hb, hml, hown, hts⟩ (c_X6_isPiece l E a u p2) (cwV 1 hts gX6_by_X6_isPiece rfl rfl rfl ⟨rfl, hd_X6_isPiece⟩ ⟨(Nat.le_of_ble_eq_true rfl), (Nat.le_of_ble_eq_true rfl)⟩) hF hS hA hP (va_recv (q := (RX6, TX6, 28)) hK hP (ci := 6) rfl (q0 := 0) rfl) rfl hl.1 rfl (Nat.le_of_ble_eq_true rfl) ⟨(Nat.le_of_ble_eq_true rfl), (Nat.le_of_ble_eq_true rfl)⟩ dX6_by_9 ?_
    refine W.eq (g2 := F0 m 12 ls [.int (s_X6_isPiece u p2)]) rfl ?_
    refine lv_if_ne (tgt := 18) hx hb dX6_by_12 rfl (fun q2 => ?_) (fun q2 => ?_)
    · have hR := hR.trans (if_neg q2)
      refine lv_aload_n hx hb dX6_by_18 rfl (lv_at hl 0 rfl) ?_
      refine va_get (D := xD E) (ci := 6) (v := .ref (a 8)) (C := RX6) (T := TX6) (N := 28) hx hb hts (by decide +kernel) hown hK hP 0 rfl rfl 11 (by decide) (hts (.fieldLink RX6 33 "RailOffsetsModel" "sorts" "[I") (by decide +kernel)) (fun _ h => h) rfl dX6_by_19 ?_
      refine lv_iload_n hx hb dX6_by_22 rfl (lv_at hl 1 rfl) ?_
      refine va_iald hx hb hK hP 8 0 rfl rfl (xsh4 q1) dX6_by_23 ?_
      refine lv_if_ge (tgt := 30) hx hb dX6_by_24 rfl (fun q3 => ?_) (fun q3 => ?_)
      · have hR := hR.trans (if_pos q3)
        refine lv_aload_n hx hb dX6_by_30 rfl (lv_at hl 0 rfl) ?_
        refine lv_iload_n hx hb dX6_by_31 rfl (lv_at hl 2 rfl) ?_
        refine lv_iconst (v := 2) hx hb dX6_by_32 rfl ?_
        refine xRoV (nL := 7) ⟨hx, hb, hml, hown, hts⟩ (c_X6_of0 l E a u p2 2 (xof (xisP hp0 q2) (by decide) (by decide))) (cwV 2 hts gX6_by_X6_of0 rfl rfl rfl ⟨rfl, hd_X6_of0⟩ ⟨(Nat.le_of_ble_eq_true rfl), (Nat.le_of_ble_eq_true rfl)⟩) hF hS hA hP (va_recv (q := (RX6, TX6, 28)) hK hP (ci := 6) rfl (q0 := 0) rfl) rfl hl.1 rfl (Nat.le_of_ble_eq_true rfl) ⟨(Nat.le_of_ble_eq_true rfl), (Nat.le_of_ble_eq_true rfl)⟩ dX6_by_33 ?_
        refine W.eq (g2 := F0 m 36 ls [.int (s_X6_of0 u p2 2)]) rfl ?_
        refine lv_istore_n (lv' := [(3, .int (s_X6_of0 u p2 2)), (0, .ref (a 0)), (1, .int p1), (2, .int p2)]) hx hb dX6_by_36 rfl hl (by decide) rfl (fun ls hl => ?_)
        refine lv_iconst (v := (-1)) hx hb dX6_by_37 rfl ?_
        refine lv_istore (lv' := [(4, .int (-1)), (3, .int (s_X6_of0 u p2 2)), (0, .ref (a 0)), (1, .int p1), (2, .int p2)]) hx hb dX6_by_38 hl (by decide) rfl (fun ls hl => ?_)
        refine lv_iconst (v := 0) hx hb dX6_by_40 rfl ?_
        refine lv_istore (lv' := [(5, .int 0), (4, .int (-1)), (3, .int (s_X6_of0 u p2 2)), (0, .ref (a 0)), (1, .int p1), (2, .int p2)]) hx hb dX6_by_41 hl (by decide) rfl (fun ls hl => ?_)
        refine lv_bipush (v := (-99)) hx hb dX6_by_43 rfl ?_
        refine lv_istore (lv' := [(6, .int (-99)), (5, .int 0), (4, .int (-1)), (3, .int (s_X6_of0 u p2 2)), (0, .ref (a 0)), (1, .int p1), (2, .int p2)]) hx hb dX6_by_45 hl (by decide) rfl (fun ls hl => ?_)
        have L47 : ∀ (n47 : Nat) (u47 : xU) (x4 : Int32) (x5 : Int32) (x6 : Int32) (H : Heap) (locs : List Loc) (ls : Array Slot), (XW u47) → (XZ u47) → (¬ x6 < (-99)) → ((99 : Int32).toInt + 1 - x6.toInt).toNat < n47 → s_X6_by u p1 p2 = s_X6_by_L47 n47 u47 p1 p2 (s_X6_of0 u p2 2) x4 x5 x6 → lv_has ls 7 [(6, .int x6), (5, .int x5), (4, .int x4), (3, .int (s_X6_of0 u p2 2)), (0, .ref (a 0)), (1, .int p1), (2, .int p2)] → va_P (xD E) vwCl (wM E a u47) H → va_S (· ∈ LM a) s.heap H locs → W p l e rm_X6_by s m ([.ref (a 0), .int p1, .int p2] : List Value).toArray below meth c H locs 0 0 (xQmd E below (LM a) (some (.int ((s_X6_by u p1 p2).1))) (wM E a ((s_X6_by u p1 p2).2)) ([.ref (a 0), .int p1, .int p2] : List Value).toArray s) (F0 m 47 ls []) := by
          intro n47
          induction n47 with
          | zero => intro u47 x4 x5 x6 H locs ls hI0 hI1 hI2 hM47 hR hl hP hS; exact absurd hM47 (Nat.not_lt_zero _)
          | succ n47 ih47 =>
            intro u47 x4 x5 x6 H locs ls hI0 hI1 hI2 hM47 hR hl hP hS
            refine lv_iload hx hb dX6_by_47 (lv_at hl 0 rfl) ?_
            refine lv_bipush (v := 99) hx hb dX6_by_49 rfl ?_
            refine lv_icmp_gt (tgt := 113) hx hb dX6_by_51 rfl (fun q4 => ?_) (fun q4 => ?_)
            · have hR := hR.trans (if_pos q4)
              refine lv_aload_n hx hb dX6_by_113 rfl (lv_at hl 4 rfl) ?_
              refine va_get (D := xD E) (ci := 6) (v := .ref (a 1)) (C := RX6) (T := TX6) (N := 28) hx hb hts (by decide +kernel) hown hK hP 0 rfl rfl 0 (by decide) (hts (.fieldLink RX6 11 "RailOffsetsModel" "now" "[I") (by decide +kernel)) (fun _ h => h) rfl dX6_by_114 ?_
              refine lv_iconst (v := 4) hx hb dX6_by_117 rfl ?_
              refine lv_iload_n hx hb dX6_by_118 rfl (lv_at hl 6 rfl) ?_
              refine lv_imul hx hb dX6_by_119 ?_
              refine lv_iconst (v := 2) hx hb dX6_by_120 rfl ?_
              refine lv_iadd hx hb dX6_by_121 ?_
              refine lv_iload_n hx hb dX6_by_122 rfl (lv_at hl 3 rfl) ?_
              refine va_iast hx hb hK hP (xD_of (ws := wM E a u47) (A := (· ∈ LM a)) hL.1 (fun _ h => h)) hS 1 0 rfl rfl (xof (xisP hp0 q2) (by decide) (by decide)) dX6_by_123 (fun H locs hP _ hS => ?_)
              have hP : va_P (xD E) vwCl (wM E a (uA u47 1 ((4 * p2) + 2).toNatClampNeg (s_X6_of0 u p2 2))) H := hP
              refine lv_iload hx hb dX6_by_124 (lv_at hl 2 rfl) ?_
              have hR : s_X6_by u p1 p2 = (x4, uA u47 1 ((4 * p2) + 2).toNatClampNeg (s_X6_of0 u p2 2)) := hR
              exact W.iret (v := x4) hx hb hr (fun t ht _ => by rw [hR]; dsimp only; exact ⟨⟨rfl, by rw [ht]; exact hP⟩, hS.F ht⟩) hS.2.2 dX6_by_126
            · have hR := hR.trans (if_neg q4)
              refine lv_aload_n hx hb dX6_by_54 rfl (lv_at hl 4 rfl) ?_
              refine va_get (D := xD E) (ci := 6) (v := .ref (a 1)) (C := RX6) (T := TX6) (N := 28) hx hb hts (by decide +kernel) hown hK hP 0 rfl rfl 0 (by decide) (hts (.fieldLink RX6 11 "RailOffsetsModel" "now" "[I") (by decide +kernel)) (fun _ h => h) rfl dX6_by_55 ?_
              refine lv_iconst (v := 4) hx hb dX6_by_58 rfl ?_
              refine lv_iload_n hx hb dX6_by_59 rfl (lv_at hl 6 rfl) ?_
              refine lv_imul hx hb dX6_by_60 ?_
              refine lv_iconst (v := 2) hx hb dX6_by_61 rfl ?_
              refine lv_iadd hx hb dX6_by_62 ?_
              refine lv_iload hx hb dX6_by_63 (lv_at hl 0 rfl) ?_
              refine va_iast hx hb hK hP (xD_of (ws := wM E a u47) (A := (· ∈ LM a)) hL.1 (fun _ h => h)) hS 1 0 rfl rfl (xof (xisP hp0 q2) (by decide) (by decide)) dX6_by_65 (fun H locs hP _ hS => ?_)
              have hP : va_P (xD E) vwCl (wM E a (uA u47 1 ((4 * p2) + 2).toNatClampNeg x6)) H := hP
              refine lv_aload_n hx hb dX6_by_66 rfl (lv_at hl 4 rfl) ?_
              refine xMdV (nL := 7) ⟨hx, hb, hml, hown, hts⟩ (c_X6_lays l E a (uA u47 1 ((4 * p2) + 2).toNatClampNeg x6)  (xwu hI0 (xisP hp0 q2) (j := 2) (by decide) (xok_bend hI2 q4 (by decide) (by decide)) (fun z => absurd z (by decide))) hL) (cwV 0 hts gX6_by_X6_lays rfl rfl rfl ⟨rfl, hd_X6_lays⟩ ⟨(Nat.le_of_ble_eq_true rfl), (Nat.le_of_ble_eq_true rfl)⟩) hF hS hL.2 (fun _ h => h) hP (va_recv (q := (RX6, TX6, 28)) hK hP (ci := 6) rfl (q0 := 0) rfl) rfl hl.1 rfl (Nat.le_of_ble_eq_true rfl) ⟨(Nat.le_of_ble_eq_true rfl), (Nat.le_of_ble_eq_true rfl)⟩ dX6_by_67 (fun H locs hP _ hS => ?_)
              refine W.eq (g2 := F0 m 70 ls []) rfl ?_
              refine lv_aload_n hx hb dX6_by_70 rfl (lv_at hl 4 rfl) ?_
              refine lv_iload_n hx hb dX6_by_71 rfl (lv_at hl 5 rfl) ?_
              refine xMdV (nL := 7) ⟨hx, hb, hml, hown, hts⟩ (c_X6_laysOld l E a (s_X6_lays (uA u47 1 ((4 * p2) + 2).toNatClampNeg x6)) p1 ((xlays_z (xzu hI1))) ((xlays_st (xwu hI0 (xisP hp0 q2) (j := 2) (by decide) (xok_bend hI2 q4 (by decide) (by decide)) (fun z => absurd z (by decide))))) (xsh q1) hL) (cwV 1 hts gX6_by_X6_laysOld rfl rfl rfl ⟨rfl, hd_X6_laysOld⟩ ⟨(Nat.le_of_ble_eq_true rfl), (Nat.le_of_ble_eq_true rfl)⟩) hF hS hL.2 (fun _ h => h) hP (va_recv (q := (RX6, TX6, 28)) hK hP (ci := 6) rfl (q0 := 0) rfl) rfl hl.1 rfl (Nat.le_of_ble_eq_true rfl) ⟨(Nat.le_of_ble_eq_true rfl), (Nat.le_of_ble_eq_true rfl)⟩ dX6_by_72 (fun H locs hP _ hS => ?_)
              refine W.eq (g2 := F0 m 75 ls []) rfl ?_
              refine lv_aload_n hx hb dX6_by_75 rfl (lv_at hl 4 rfl) ?_
              refine xMdV (nL := 7) ⟨hx, hb, hml, hown, hts⟩ (c_X6_slews l E a (s_X6_laysOld (s_X6_lays (uA u47 1 ((4 * p2) + 2).toNatClampNeg x6)) p1)  (xlo_st (xlays_st (xwu hI0 (xisP hp0 q2) (j := 2) (by decide) (xok_bend hI2 q4 (by decide) (by decide)) (fun z => absurd z (by decide))))) hL) (cwV 0 hts gX6_by_X6_slews rfl rfl rfl ⟨rfl, hd_X6_slews⟩ ⟨(Nat.le_of_ble_eq_true rfl), (Nat.le_of_ble_eq_true rfl)⟩) hF hS hL.2 (fun _ h => h) hP (va_recv (q := (RX6, TX6, 28)) hK hP (ci := 6) rfl (q0 := 0) rfl) rfl hl.1 rfl (Nat.le_of_ble_eq_true rfl) ⟨(Nat.le_of_ble_eq_true rfl), (Nat.le_of_ble_eq_true rfl)⟩ dX6_by_76 (fun H locs hP _ hS => ?_)
              refine W.eq (g2 := F0 m 79 ls []) rfl ?_
              refine lv_iload hx hb dX6_by_79 (lv_at hl 2 rfl) ?_
              refine lv_if_lt (tgt := 93) hx hb dX6_by_81 rfl (fun q5 => ?_) (fun q5 => ?_)
              · have hR := hR.trans (if_pos q5)
                refine lv_sipush (v := 1000) hx hb dX6_by_93 rfl ?_
                refine lv_iload hx hb dX6_by_96 (lv_at hl 0 rfl) ?_
                refine lv_iadd hx hb dX6_by_98 ?_
                refine lv_istore (lv' := [(4, .int (1000 + x6)), (6, .int x6), (5, .int x5), (3, .int (s_X6_of0 u p2 2)), (0, .ref (a 0)), (1, .int p1), (2, .int p2)]) hx hb dX6_by_99 hl (by decide) rfl (fun ls hl => ?_)
                refine lv_aload_n hx hb dX6_by_101 rfl (lv_at hl 4 rfl) ?_
                refine xRoV (nL := 7) ⟨hx, hb, hml, hown, hts⟩ (c_X6_most l E a (s_X6_slews (s_X6_laysOld (s_X6_lays (uA u47 1 ((4 * p2) + 2).toNatClampNeg x6)) p1))  (xsl_st (xlo_st (xlays_st (xwu hI0 (xisP hp0 q2) (j := 2) (by decide) (xok_bend hI2 q4 (by decide) (by decide)) (fun z => absurd z (by decide))))))) (cwV 0 hts gX6_by_X6_most rfl rfl rfl ⟨rfl, hd_X6_most⟩ ⟨(Nat.le_of_ble_eq_true rfl), (Nat.le_of_ble_eq_true rfl)⟩) hF hS hA hP (va_recv (q := (RX6, TX6, 28)) hK hP (ci := 6) rfl (q0 := 0) rfl) rfl hl.1 rfl (Nat.le_of_ble_eq_true rfl) ⟨(Nat.le_of_ble_eq_true rfl), (Nat.le_of_ble_eq_true rfl)⟩ dX6_by_102 ?_
                refine W.eq (g2 := F0 m 105 ls [.int (s_X6_most (s_X6_slews (s_X6_laysOld (s_X6_lays (uA u47 1 ((4 * p2) + 2).toNatClampNeg x6)) p1)))]) rfl ?_
                refine lv_istore (lv' := [(5, .int (s_X6_most (s_X6_slews (s_X6_laysOld (s_X6_lays (uA u47 1 ((4 * p2) + 2).toNatClampNeg x6)) p1)))), (4, .int (1000 + x6)), (6, .int x6), (3, .int (s_X6_of0 u p2 2)), (0, .ref (a 0)), (1, .int p1), (2, .int p2)]) hx hb dX6_by_105 hl (by decide) rfl (fun ls hl => ?_)
                refine lv_iinc (k := 2) (v := x6 + 1) (lv' := [(6, .int (x6 + 1)), (5, .int (s_X6_most (s_X6_slews (s_X6_laysOld (s_X6_lays (uA u47 1 ((4 * p2) + 2).toNatClampNeg x6)) p1)))), (4, .int (1000 + x6)), (3, .int (s_X6_of0 u p2 2)), (0, .ref (a 0)), (1, .int p1), (2, .int p2)]) hx hb dX6_by_107 hl rfl rfl (by decide) rfl (fun ls hl => ?_)
                refine lv_goto (tgt := 47) hx hb dX6_by_110 rfl ?_
                exact ih47 (s_X6_slews (s_X6_laysOld (s_X6_lays (uA u47 1 ((4 * p2) + 2).toNatClampNeg x6)) p1)) (1000 + x6) (s_X6_most (s_X6_slews (s_X6_laysOld (s_X6_lays (uA u47 1 ((4 * p2) + 2).toNatClampNeg x6)) p1))) (x6 + 1) _ _ _ (xsl_w (xlo_w (xlays_w (xwu hI0 (xisP hp0 q2) (j := 2) (by decide) (xok_bend hI2 q4 (by decide) (by decide)) (fun z => absurd z (by decide)))))) (xsl_z (xlo_z (xlays_z (xzu hI1)))) (xupge hI2 q4 (by decide)) (Nat.lt_of_lt_of_le (xupl q4 (by decide)) (Nat.le_of_lt_succ hM47)) hR (lv_sub hl [0, 1, 2, 3, 4, 5, 6] rfl) hP hS
              · have hR := hR.trans (if_neg q5)
                refine lv_aload_n hx hb dX6_by_84 rfl (lv_at hl 4 rfl) ?_
                refine xRoV (nL := 7) ⟨hx, hb, hml, hown, hts⟩ (c_X6_most l E a (s_X6_slews (s_X6_laysOld (s_X6_lays (uA u47 1 ((4 * p2) + 2).toNatClampNeg x6)) p1))  (xsl_st (xlo_st (xlays_st (xwu hI0 (xisP hp0 q2) (j := 2) (by decide) (xok_bend hI2 q4 (by decide) (by decide)) (fun z => absurd z (by decide))))))) (cwV 0 hts gX6_by_X6_most rfl rfl rfl ⟨rfl, hd_X6_most⟩ ⟨(Nat.le_of_ble_eq_true rfl), (Nat.le_of_ble_eq_true rfl)⟩) hF hS hA hP (va_recv (q := (RX6, TX6, 28)) hK hP (ci := 6) rfl (q0 := 0) rfl) rfl hl.1 rfl (Nat.le_of_ble_eq_true rfl) ⟨(Nat.le_of_ble_eq_true rfl), (Nat.le_of_ble_eq_true rfl)⟩ dX6_by_85 ?_
                refine W.eq (g2 := F0 m 88 ls [.int (s_X6_most (s_X6_slews (s_X6_laysOld (s_X6_lays (uA u47 1 ((4 * p2) + 2).toNatClampNeg x6)) p1)))]) rfl ?_
                refine lv_iload hx hb dX6_by_88 (lv_at hl 1 rfl) ?_
                refine lv_icmp_ge (tgt := 107) hx hb dX6_by_90 rfl (fun q6 => ?_) (fun q6 => ?_)
                · have hR := hR.trans (if_pos q6)
                  refine lv_iinc (k := 0) (v := x6 + 1) (lv' := [(6, .int (x6 + 1)), (5, .int x5), (4, .int x4), (3, .int (s_X6_of0 u p2 2)), (0, .ref (a 0)), (1, .int p1), (2, .int p2)]) hx hb dX6_by_107 hl rfl rfl (by decide) rfl (fun ls hl => ?_)
                  refine lv_goto (tgt := 47) hx hb dX6_by_110 rfl ?_
                  exact ih47 (s_X6_slews (s_X6_laysOld (s_X6_lays (uA u47 1 ((4 * p2) + 2).toNatClampNeg x6)) p1)) x4 x5 (x6 + 1) _ _ _ (xsl_w (xlo_w (xlays_w (xwu hI0 (xisP hp0 q2) (j := 2) (by decide) (xok_bend hI2 q4 (by decide) (by decide)) (fun z => absurd z (by decide)))))) (xsl_z (xlo_z (xlays_z (xzu hI1)))) (xupge hI2 q4 (by decide)) (Nat.lt_of_lt_of_le (xupl q4 (by decide)) (Nat.le_of_lt_succ hM47)) hR (lv_sub hl [0, 1, 2, 3, 4, 5, 6] rfl) hP hS
                · have hR := hR.trans (if_neg q6)
                  refine lv_sipush (v := 1000) hx hb dX6_by_93 rfl ?_
                  refine lv_iload hx hb dX6_by_96 (lv_at hl 0 rfl) ?_
                  refine lv_iadd hx hb dX6_by_98 ?_
                  refine lv_istore (lv' := [(4, .int (1000 + x6)), (6, .int x6), (5, .int x5), (3, .int (s_X6_of0 u p2 2)), (0, .ref (a 0)), (1, .int p1), (2, .int p2)]) hx hb dX6_by_99 hl (by decide) rfl (fun ls hl => ?_)
                  refine lv_aload_n hx hb dX6_by_101 rfl (lv_at hl 4 rfl) ?_
                  refine xRoV (nL := 7) ⟨hx, hb, hml, hown, hts⟩ (c_X6_most l E a (s_X6_slews (s_X6_laysOld (s_X6_lays (uA u47 1 ((4 * p2) + 2).toNatClampNeg x6)) p1))  (xsl_st (xlo_st (xlays_st (xwu hI0 (xisP hp0 q2) (j := 2) (by decide) (xok_bend hI2 q4 (by decide) (by decide)) (fun z => absurd z (by decide))))))) (cwV 0 hts gX6_by_X6_most rfl rfl rfl ⟨rfl, hd_X6_most⟩ ⟨(Nat.le_of_ble_eq_true rfl), (Nat.le_of_ble_eq_true rfl)⟩) hF hS hA hP (va_recv (q := (RX6, TX6, 28)) hK hP (ci := 6) rfl (q0 := 0) rfl) rfl hl.1 rfl (Nat.le_of_ble_eq_true rfl) ⟨(Nat.le_of_ble_eq_true rfl), (Nat.le_of_ble_eq_true rfl)⟩ dX6_by_102 ?_
                  refine W.eq (g2 := F0 m 105 ls [.int (s_X6_most (s_X6_slews (s_X6_laysOld (s_X6_lays (uA u47 1 ((4 * p2) + 2).toNatClampNeg x6)) p1)))]) rfl ?_
                  refine lv_istore (lv' := [(5, .int (s_X6_most (s_X6_slews (s_X6_laysOld (s_X6_lays (uA u47 1 ((4 * p2) + 2).toNatClampNeg x6)) p1)))), (4, .int (1000 + x6)), (6, .int x6), (3, .int (s_X6_of0 u p2 2)), (0, .ref (a 0)), (1, .int p1), (2, .int p2)]) hx hb dX6_by_105 hl (by decide) rfl (fun ls hl => ?_)
                  refine lv_iinc (k := 2) (v := x6 + 1) (lv' := [(6, .int (x6 + 1)), (5, .int (s_X6_most (s_X6_slews (s_X6_laysOld (s_X6_lays (uA u47 1 ((4 * p2) + 2).toNatClampNeg x6)) p1)))), (4, .int (1000 + x6)), (3, .int (s_X6_of0 u p2 2)), (0, .ref (a 0)), (1, .int p1), (2, .int p2)]) hx hb dX6_by_107 hl rfl rfl (by decide) rfl (fun ls hl => ?_)
                  refine lv_goto (tgt := 47) hx hb dX6_by_110 rfl ?_
                  exact ih47 (s_X6_slews (s_X6_laysOld (s_X6_lays (uA u47 1 ((4 * p2) + 2).toNatClampNeg x6)) p1)) (1000 + x6) (s_X6_most (s_X6_slews (s_X6_laysOld (s_X6_lays (uA u47 1 ((4 * p2) + 2).toNatClampNeg x6)) p1))) (x6 + 1) _ _ _ (xsl_w (xlo_w (xlays_w (xwu hI0 (xisP hp0 q2) (j := 2) (by decide) (xok_bend hI2 q4 (by decide) (by decide)) (fun z => absurd z (by decide)))))) (xsl_z (xlo_z (xlays_z (xzu hI1)))) (xupge hI2 q4 (by decide)) (Nat.lt_of_lt_of_le (xupl q4 (by decide)) (Nat.le_of_lt_succ hM47)) hR (lv_sub hl [0, 1, 2, 3, 4, 5, 6] rfl) hP hS
        exact L47 (((99 : Int32).toInt + 1 - ((-99) : Int32).toInt).toNat + 1) u (-1) 0 (-99) _ _ ls (hp0) (hp1) (by decide) (Nat.lt_succ_self _) hR hl hP hS
      · have hR := hR.trans (if_neg q3)
        refine lv_bipush (v := (-11)) hx hb dX6_by_27 rfl ?_
        have hR : s_X6_by u p1 p2 = ((-11), u) := hR
        exact W.iret (v := (-11)) hx hb hr (fun t ht _ => by rw [hR]; dsimp only; exact ⟨⟨rfl, by rw [ht]; exact hP⟩, hS.F ht⟩) hS.2.2 dX6_by_29
    · have hR := hR.trans (if_pos q2)
      refine lv_bipush (v := (-2)) hx hb dX6_by_15 rfl ?_
      have hR : s_X6_by u p1 p2 = ((-2), u) := hR
      exact W.iret (v := (-2)) hx hb hr (fun t ht _ => by rw [hR]; dsimp only; exact ⟨⟨rfl, by rw [ht]; exact hP⟩, hS.F ht⟩) hS.2.2 dX6_by_17
def s_X6_errorsBy_L9 : Nat → xU → Int32 → Int32 → Int32 → Int32 → Int32 × xU
  | 0, u, _, _, _, _ => (0, u)
  | n + 1, u, x1, x2, x3, x4 =>
    if (u.2 1) < x4 then
      (s_X6_most (s_X6_slews u), s_X6_slews u)
    else
      s_X6_errorsBy_L9 n (uA u 12 x4.toNatClampNeg (((u.1 3 x4.toNatClampNeg) + (iRem (iUshr ((x3 * 1103515245) + 12345) 9) ((2 * x2) + 1))) - x2)) x1 x2 ((x3 * 1103515245) + 12345) (x4 + 1)
def s_X6_errorsBy (u : xU) (p1 : Int32) (p2 : Int32) : Int32 × xU :=
  s_X6_errorsBy_L9 ((((s_X6_lays u).2 1).toInt + 1 - (1 : Int32).toInt).toNat + 1) (s_X6_lays u) p1 p2 p1 1
abbrev rm_X6_errorsBy : Room := { frames := 3, cells := 0, slots := 0, locals := 63 }
set_option maxHeartbeats 8000000 in
set_option maxRecDepth 100000 in
theorem c_X6_errorsBy (l : Launch) (E : xG) (a : Nat → Nat) (u : xU) (p1 : Int32) (p2 : Int32) (hp0 : XW u) (hp1 : 0 ≤ p2.toInt ∧ p2.toInt ≤ 9) (hL : xOK E (LM a)) : xMd l E yX6_errorsBy wsX6_errorsBy rm_X6_errorsBy (LM a) [.ref (a 0), .int p1, .int p2] (wM E a u) (some (.int ((s_X6_errorsBy u p1 p2).1))) (wM E a ((s_X6_errorsBy u p1 p2).2)) := by
  refine xMd.of (cc := cX6_errorsBy) (maxL := 5) (ret := (some .int)) (by decide) rfl (Nat.le_of_ble_eq_true rfl) ?_
  intro p e s m below meth c ls hAt hF hP hS hl
  obtain ⟨hx, hb, hr, hml, hown, hts, hlocks, -⟩ := hAt
  have hown : s.vm.findClass RX6 = some m.cls := hown
  have hl : lv_has ls 5 [(0, .ref (a 0)), (1, .int p1), (2, .int p2)] := hl
  have hK := hF.1
  have hA := hL.2
  change W p l e rm_X6_errorsBy s m ([.ref (a 0), .int p1, .int p2] : List Value).toArray below meth c s.heap [] 0 0 (xQmd E below (LM a) (some (.int ((s_X6_errorsBy u p1 p2).1))) (wM E a ((s_X6_errorsBy u p1 p2).2)) ([.ref (a 0), .int p1, .int p2] : List Value).toArray s) _
  have hS : va_S (· ∈ LM a) s.heap s.heap [] := hS
  have hR : s_X6_errorsBy u p1 p2 = s_X6_errorsBy u p1 p2 := rfl
  refine lv_iload_n hx hb dX6_errorsBy_0 rfl (lv_at hl 1 rfl) ?_
  refine lv_istore_n (lv' := [(3, .int p1), (0, .ref (a 0)), (1, .int p1), (2, .int p2)]) hx hb dX6_errorsBy_1 rfl hl (by decide) rfl (fun ls hl => ?_)
  refine lv_aload_n hx hb dX6_errorsBy_2 rfl (lv_at hl 1 rfl) ?_
  refine xMdV (nL := 5) ⟨hx, hb, hml, hown, hts⟩ (c_X6_lays l E a u  (hp0) hL) (cwV 0 hts gX6_errorsBy_X6_lays rfl rfl rfl ⟨rfl, hd_X6_lays⟩ ⟨(Nat.le_of_ble_eq_true rfl), (Nat.le_of_ble_eq_true rfl)⟩) hF hS hL.2 (fun _ h => h) hP (va_recv (q := (RX6, TX6, 28)) hK hP (ci := 6) rfl (q0 := 0) rfl) rfl hl.1 rfl (Nat.le_of_ble_eq_true rfl) ⟨(Nat.le_of_ble_eq_true rfl), (Nat.le_of_ble_eq_true rfl)⟩ dX6_errorsBy_3 (fun H locs hP _ hS => ?_)
  refine W.eq (g2 := F0 m 6 ls []) rfl ?_
  refine lv_iconst (v := 1) hx hb dX6_errorsBy_6 rfl ?_
  refine lv_istore (lv' := [(4, .int 1), (3, .int p1), (0, .ref (a 0)), (1, .int p1), (2, .int p2)]) hx hb dX6_errorsBy_7 hl (by decide) rfl (fun ls hl => ?_)
  have L9 : ∀ (n9 : Nat) (u9 : xU) (x3 : Int32) (x4 : Int32) (H : Heap) (locs : List Loc) (ls : Array Slot), (XSt (u9.2 1)) → (1 ≤ x4.toInt) → ((u9.2 1).toInt + 1 - x4.toInt).toNat < n9 → s_X6_errorsBy u p1 p2 = s_X6_errorsBy_L9 n9 u9 p1 p2 x3 x4 → lv_has ls 5 [(4, .int x4), (3, .int x3), (0, .ref (a 0)), (1, .int p1), (2, .int p2)] → va_P (xD E) vwCl (wM E a u9) H → va_S (· ∈ LM a) s.heap H locs → W p l e rm_X6_errorsBy s m ([.ref (a 0), .int p1, .int p2] : List Value).toArray below meth c H locs 0 0 (xQmd E below (LM a) (some (.int ((s_X6_errorsBy u p1 p2).1))) (wM E a ((s_X6_errorsBy u p1 p2).2)) ([.ref (a 0), .int p1, .int p2] : List Value).toArray s) (F0 m 9 ls []) := by
    intro n9
    induction n9 with
    | zero => intro u9 x3 x4 H locs ls hI0 hI1 hM9 hR hl hP hS; exact absurd hM9 (Nat.not_lt_zero _)
    | succ n9 ih9 =>
      intro u9 x3 x4 H locs ls hI0 hI1 hM9 hR hl hP hS
      refine lv_iload hx hb dX6_errorsBy_9 (lv_at hl 0 rfl) ?_
      refine lv_aload_n hx hb dX6_errorsBy_11 rfl (lv_at hl 2 rfl) ?_
      refine va_get (D := xD E) (ci := 6) (v := .int (u9.2 1)) (C := RX6) (T := TX6) (N := 28) hx hb hts (by decide +kernel) hown hK hP 0 rfl rfl 8 (by decide) (hts (.fieldLink RX6 130 "RailOffsetsModel" "stations" "I") (by decide +kernel)) (fun _ h => h) rfl dX6_errorsBy_12 ?_
      refine lv_icmp_gt (tgt := 60) hx hb dX6_errorsBy_15 rfl (fun q1 => ?_) (fun q1 => ?_)
      · have hR := hR.trans (if_pos q1)
        refine lv_aload_n hx hb dX6_errorsBy_60 rfl (lv_at hl 2 rfl) ?_
        refine xMdV (nL := 5) ⟨hx, hb, hml, hown, hts⟩ (c_X6_slews l E a u9  (hI0) hL) (cwV 0 hts gX6_errorsBy_X6_slews rfl rfl rfl ⟨rfl, hd_X6_slews⟩ ⟨(Nat.le_of_ble_eq_true rfl), (Nat.le_of_ble_eq_true rfl)⟩) hF hS hL.2 (fun _ h => h) hP (va_recv (q := (RX6, TX6, 28)) hK hP (ci := 6) rfl (q0 := 0) rfl) rfl hl.1 rfl (Nat.le_of_ble_eq_true rfl) ⟨(Nat.le_of_ble_eq_true rfl), (Nat.le_of_ble_eq_true rfl)⟩ dX6_errorsBy_61 (fun H locs hP _ hS => ?_)
        refine W.eq (g2 := F0 m 64 ls []) rfl ?_
        refine lv_aload_n hx hb dX6_errorsBy_64 rfl (lv_at hl 2 rfl) ?_
        refine xRoV (nL := 5) ⟨hx, hb, hml, hown, hts⟩ (c_X6_most l E a (s_X6_slews u9)  (xsl_st hI0)) (cwV 0 hts gX6_errorsBy_X6_most rfl rfl rfl ⟨rfl, hd_X6_most⟩ ⟨(Nat.le_of_ble_eq_true rfl), (Nat.le_of_ble_eq_true rfl)⟩) hF hS hA hP (va_recv (q := (RX6, TX6, 28)) hK hP (ci := 6) rfl (q0 := 0) rfl) rfl hl.1 rfl (Nat.le_of_ble_eq_true rfl) ⟨(Nat.le_of_ble_eq_true rfl), (Nat.le_of_ble_eq_true rfl)⟩ dX6_errorsBy_65 ?_
        refine W.eq (g2 := F0 m 68 ls [.int (s_X6_most (s_X6_slews u9))]) rfl ?_
        have hR : s_X6_errorsBy u p1 p2 = (s_X6_most (s_X6_slews u9), s_X6_slews u9) := hR
        exact W.iret (v := s_X6_most (s_X6_slews u9)) hx hb hr (fun t ht _ => by rw [hR]; dsimp only; exact ⟨⟨rfl, by rw [ht]; exact hP⟩, hS.F ht⟩) hS.2.2 dX6_errorsBy_68
      · have hR := hR.trans (if_neg q1)
        refine lv_iload_n hx hb dX6_errorsBy_18 rfl (lv_at hl 1 rfl) ?_
        refine lv_ldc (v := 1103515245) hx hb hown (hts (.constant RX6 219 (1103515245)) (by decide +kernel)) dX6_errorsBy_19 ?_
        refine lv_imul hx hb dX6_errorsBy_21 ?_
        refine lv_sipush (v := 12345) hx hb dX6_errorsBy_22 rfl ?_
        refine lv_iadd hx hb dX6_errorsBy_25 ?_
        refine lv_istore_n (lv' := [(3, .int ((x3 * 1103515245) + 12345)), (4, .int x4), (0, .ref (a 0)), (1, .int p1), (2, .int p2)]) hx hb dX6_errorsBy_26 rfl hl (by decide) rfl (fun ls hl => ?_)
        refine lv_aload_n hx hb dX6_errorsBy_27 rfl (lv_at hl 2 rfl) ?_
        refine va_get (D := xD E) (ci := 6) (v := .ref (a 12)) (C := RX6) (T := TX6) (N := 28) hx hb hts (by decide +kernel) hown hK hP 0 rfl rfl 15 (by decide) (hts (.fieldLink RX6 45 "RailOffsetsModel" "oldVersine" "[I") (by decide +kernel)) (fun _ h => h) rfl dX6_errorsBy_28 ?_
        refine lv_iload hx hb dX6_errorsBy_31 (lv_at hl 1 rfl) ?_
        refine lv_aload_n hx hb dX6_errorsBy_33 rfl (lv_at hl 2 rfl) ?_
        refine va_get (D := xD E) (ci := 6) (v := .ref (a 3)) (C := RX6) (T := TX6) (N := 28) hx hb hts (by decide +kernel) hown hK hP 0 rfl rfl 3 (by decide) (hts (.fieldLink RX6 18 "RailOffsetsModel" "versine" "[I") (by decide +kernel)) (fun _ h => h) rfl dX6_errorsBy_34 ?_
        refine lv_iload hx hb dX6_errorsBy_37 (lv_at hl 1 rfl) ?_
        refine va_iald hx hb hK hP 3 0 rfl rfl (xvst (xsup hI1 hI0 q1).st) dX6_errorsBy_39 ?_
        refine lv_iload_n hx hb dX6_errorsBy_40 rfl (lv_at hl 0 rfl) ?_
        refine lv_bipush (v := 9) hx hb dX6_errorsBy_41 rfl ?_
        refine lv_iushr (v := iUshr ((x3 * 1103515245) + 12345) 9) hx hb dX6_errorsBy_43 rfl ?_
        refine lv_iconst (v := 2) hx hb dX6_errorsBy_44 rfl ?_
        refine lv_iload_n hx hb dX6_errorsBy_45 rfl (lv_at hl 4 rfl) ?_
        refine lv_imul hx hb dX6_errorsBy_46 ?_
        refine lv_iconst (v := 1) hx hb dX6_errorsBy_47 rfl ?_
        refine lv_iadd hx hb dX6_errorsBy_48 ?_
        refine lv_irem hx hb dX6_errorsBy_49 (xspan hp1) ?_
        refine W.eq (g2 := F0 m 50 ls [.int (iRem (iUshr ((x3 * 1103515245) + 12345) 9) ((2 * p2) + 1)), .int (u9.1 3 x4.toNatClampNeg), .int x4, .ref (a 12)]) rfl ?_
        refine lv_iadd hx hb dX6_errorsBy_50 ?_
        refine lv_iload_n hx hb dX6_errorsBy_51 rfl (lv_at hl 4 rfl) ?_
        refine lv_isub hx hb dX6_errorsBy_52 ?_
        refine va_iast hx hb hK hP (xD_of (ws := wM E a u9) (A := (· ∈ LM a)) hL.1 (fun _ h => h)) hS 12 0 rfl rfl (xvst (xsup hI1 hI0 q1).st) dX6_errorsBy_53 (fun H locs hP _ hS => ?_)
        have hP : va_P (xD E) vwCl (wM E a (uA u9 12 x4.toNatClampNeg (((u9.1 3 x4.toNatClampNeg) + (iRem (iUshr ((x3 * 1103515245) + 12345) 9) ((2 * p2) + 1))) - p2))) H := hP
        refine lv_iinc (k := 1) (v := x4 + 1) (lv' := [(4, .int (x4 + 1)), (3, .int ((x3 * 1103515245) + 12345)), (0, .ref (a 0)), (1, .int p1), (2, .int p2)]) hx hb dX6_errorsBy_54 hl rfl rfl (by decide) rfl (fun ls hl => ?_)
        refine lv_goto (tgt := 9) hx hb dX6_errorsBy_57 rfl ?_
        exact ih9 (uA u9 12 x4.toNatClampNeg (((u9.1 3 x4.toNatClampNeg) + (iRem (iUshr ((x3 * 1103515245) + 12345) 9) ((2 * p2) + 1))) - p2)) ((x3 * 1103515245) + 12345) (x4 + 1) _ _ _ (hI0) (xs1u hI1 hI0 q1) (Nat.lt_of_lt_of_le (xupl q1 (xstl hI0)) (Nat.le_of_lt_succ hM9)) hR (lv_sub hl [0, 1, 2, 3, 4] rfl) hP hS
  exact L9 ((((s_X6_lays u).2 1).toInt + 1 - (1 : Int32).toInt).toNat + 1) (s_X6_lays u) p1 1 _ _ ls (xlays_st hp0) (by decide) (Nat.lt_succ_self _) hR hl hP hS
theorem xeb_L : ∀ (n : Nat) (u : xU) (x1 x2 x3 x4 : Int32), (s_X6_errorsBy_L9 n u x1 x2 x3 x4).2.2 = u.2 ∧ ∀ k, k ≠ 12 → k ≠ 13 → (s_X6_errorsBy_L9 n u x1 x2 x3 x4).2.1 k = u.1 k := by
  intro n
  induction n with
  | zero => intros; exact ⟨rfl, fun _ _ _ => rfl⟩
  | succ n ih =>
    intro u x1 x2 x3 x4
    rw [s_X6_errorsBy_L9]
    split
    · exact ⟨(xsl u).1, fun k _ hk => (xsl u).2 k hk⟩
    · obtain ⟨a, b⟩ := ih (uA u 12 x4.toNatClampNeg (((u.1 3 x4.toNatClampNeg) + (iRem (iUshr ((x3 * 1103515245) + 12345) 9) ((2 * x2) + 1))) - x2)) x1 x2 ((x3 * 1103515245) + 12345) (x4 + 1)
      refine ⟨a, fun k hk h2 => (b k hk h2).trans ?_⟩
      simp only [uA]
      rw [if_neg hk]
theorem xeb (u : xU) (a b : Int32) : (s_X6_errorsBy u a b).2.2 = (s_X6_lays u).2 ∧ ∀ k, k ≠ 12 → k ≠ 13 → (s_X6_errorsBy u a b).2.1 k = (s_X6_lays u).1 k := xeb_L _ _ _ _ _ _
theorem xeb_w {u : xU} {a b : Int32} (h : XW u) : XW (s_X6_errorsBy u a b).2 := by
  unfold XW
  rw [(xeb u a b).2 1 (by decide) (by decide)]
  exact xlays_w h
theorem xeb_z {u : xU} {a b : Int32} (h : XZ u) : XZ (s_X6_errorsBy u a b).2 := by
  unfold XZ
  rw [(xeb u a b).2 9 (by decide) (by decide)]
  exact xlays_z h
def XC6 (a b : Int32) : Prop := 0 ≤ a.toInt ∧ a.toInt ≤ b.toInt ∧ b.toInt ≤ 20
theorem xbit01 (u : xU) (x : Int32) : 0 ≤ (s_X6_bit u x).toInt ∧ (s_X6_bit u x).toInt ≤ 1 := by
  unfold s_X6_bit
  split <;> decide
theorem xc6 {a b m : Int32} {u v : xU} {x : Int32} (h : XC6 a b) (q : ¬ m ≤ b) (hm : m.toInt ≤ 20) : XC6 (a + s_X6_bit u x) (b + 1) := by
  obtain ⟨h1, h2, h3⟩ := h
  rw [fa_le] at q
  have h4 := xbit01 u x
  have e1 := xinc (k := b) (by omega)
  have e2 : (a + s_X6_bit u x).toInt = a.toInt + (s_X6_bit u x).toInt := fb_addI (by omega) (by omega)
  exact ⟨by omega, by omega, by omega⟩
def XGc (a b : Int32) : Prop := 0 ≤ a.toInt ∧ 0 ≤ b.toInt ∧ (1 ≤ a.toInt ∨ 1 ≤ b.toInt)
theorem xgc0 {a k m : Int32} (h : XC6 a k) (hm : 1 ≤ m.toInt) : XGc a m := ⟨h.1, by omega, Or.inr hm⟩
theorem xrem {a b : Int32} (ha : 0 ≤ a.toInt) (hb : 1 ≤ b.toInt) : 0 ≤ (iRem a b).toInt ∧ (iRem a b).toInt < b.toInt := by
  have h1 := fb_rng a
  have h2 := fb_rng b
  obtain ⟨x, hx, rfl⟩ := nI_of_toInt ha
  obtain ⟨y, hy, rfl⟩ := nI_of_toInt (x := b) (by omega)
  rw [nI_toInt hy] at hb ⊢
  unfold iRem
  rw [pk_rem hx (by omega) hy, nI_toInt (Nat.lt_trans (Nat.mod_lt _ (by omega)) hy)]
  have := Nat.mod_lt x (show 0 < y by omega)
  omega
theorem xgc1 {a b : Int32} (h : XGc a b) (q : ¬ b = 0) : 1 ≤ b.toInt := by
  obtain ⟨h1, h2, h3⟩ := h
  rw [fa_eq, show (0 : Int32).toInt = 0 from rfl] at q
  omega
theorem xgcs {a b : Int32} (h : XGc a b) (q : ¬ b = 0) : XGc b (iRem a b) := by
  have h1 := xgc1 h q
  have h2 := xrem h.1 h1
  exact ⟨by omega, h2.1, Or.inl h1⟩
theorem xgcd {a b : Int32} (h : XGc a b) (q : ¬ b = 0) : (iRem a b).toInt.toNat < b.toInt.toNat := by
  have h1 := xgc1 h q
  have h2 := xrem h.1 h1
  omega
theorem xgcz {a b : Int32} (h : XGc a b) (q : b = 0) : ¬ a = 0 := by
  obtain ⟨h1, h2, h3⟩ := h
  rw [q, show (0 : Int32).toInt = 0 from rfl] at h3
  intro e
  rw [e, show (0 : Int32).toInt = 0 from rfl] at h3
  omega
theorem xlt40 {x N : Int32} (hN : N.toInt ≤ 40) (q : ¬ N ≤ x) : x.toInt < 40 := by
  rw [fa_le] at q
  omega
def s_X6_errors (u : xU) (p1 : Int32) (p2 : Int32) : Int64 × xU :=
  if (s_X6_in u p2.toInt64 0 9) = 0 then
    (xNO, u)
  else
    (((s_X6_errorsBy u p1 p2).1).toInt64, (s_X6_errorsBy u p1 p2).2)
abbrev rm_X6_errors : Room := { frames := 4, cells := 0, slots := 0, locals := 87 }
set_option maxHeartbeats 8000000 in
set_option maxRecDepth 100000 in
theorem c_X6_errors (l : Launch) (E : xG) (a : Nat → Nat) (u : xU) (p1 : Int32) (p2 : Int32) (hp0 : XW u) (hL : xOK E (LM a)) : xMd l E yX6_errors wsX6_errors rm_X6_errors (LM a) [.ref (a 0), .int p1, .int p2] (wM E a u) (some (.long ((s_X6_errors u p1 p2).1))) (wM E a ((s_X6_errors u p1 p2).2)) := by
  refine xMd.of (cc := cX6_errors) (maxL := 3) (ret := (some .long)) (by decide) rfl (Nat.le_of_ble_eq_true rfl) ?_
  intro p e s m below meth c ls hAt hF hP hS hl
  obtain ⟨hx, hb, hr, hml, hown, hts, hlocks, -⟩ := hAt
  have hown : s.vm.findClass RX6 = some m.cls := hown
  have hl : lv_has ls 3 [(0, .ref (a 0)), (1, .int p1), (2, .int p2)] := hl
  have hK := hF.1
  have hA := hL.2
  change W p l e rm_X6_errors s m ([.ref (a 0), .int p1, .int p2] : List Value).toArray below meth c s.heap [] 0 0 (xQmd E below (LM a) (some (.long ((s_X6_errors u p1 p2).1))) (wM E a ((s_X6_errors u p1 p2).2)) ([.ref (a 0), .int p1, .int p2] : List Value).toArray s) _
  have hS : va_S (· ∈ LM a) s.heap s.heap [] := hS
  have hR : s_X6_errors u p1 p2 = s_X6_errors u p1 p2 := rfl
  refine lv_iload_n hx hb dX6_errors_0 rfl (lv_at hl 2 rfl) ?_
  refine lv_i2l hx hb dX6_errors_1 rfl ?_
  refine lv_lconst (v := 0) hx hb dX6_errors_2 rfl ?_
  refine lv_ldc2 (v := 9) hx hb hown (hts (.constantLong RX6 220 (9)) (by decide +kernel)) dX6_errors_3 ?_
  refine xRoS (nL := 3) ⟨hx, hb, hml, hown, hts⟩ (c_X6_in l E a u p2.toInt64 0 9) (va_cwS 3 hts gX6_errors_X6_in rfl rfl rfl hd_X6_in ⟨(Nat.le_of_ble_eq_true rfl), (Nat.le_of_ble_eq_true rfl)⟩) hF hS hA hP rfl hl.1 rfl (Nat.le_of_ble_eq_true rfl) ⟨(Nat.le_of_ble_eq_true rfl), (Nat.le_of_ble_eq_true rfl)⟩ dX6_errors_6 ?_
  refine W.eq (g2 := F0 m 9 ls [.int (s_X6_in u p2.toInt64 0 9)]) rfl ?_
  refine lv_if_eq (tgt := 22) hx hb dX6_errors_9 rfl (fun q1 => ?_) (fun q1 => ?_)
  · have hR := hR.trans (if_pos q1)
    refine lv_ldc2 (v := xNO) hx hb hown (hts (.constantLong RX6 125 (-9223372036854775808)) (by decide +kernel)) dX6_errors_22 ?_
    have hR : s_X6_errors u p1 p2 = (xNO, u) := hR
    exact W.lret (v := xNO) hx hb hr (fun t ht _ => by rw [hR]; dsimp only; exact ⟨⟨rfl, by rw [ht]; exact hP⟩, hS.F ht⟩) hS.2.2 dX6_errors_25
  · have hR := hR.trans (if_neg q1)
    refine lv_aload_n hx hb dX6_errors_12 rfl (lv_at hl 0 rfl) ?_
    refine lv_iload_n hx hb dX6_errors_13 rfl (lv_at hl 1 rfl) ?_
    refine lv_iload_n hx hb dX6_errors_14 rfl (lv_at hl 2 rfl) ?_
    refine xMdV (nL := 3) ⟨hx, hb, hml, hown, hts⟩ (c_X6_errorsBy l E a u p1 p2 (hp0) (xin32 (lo := 0) (hi := 9) q1) hL) (cwV 2 hts gX6_errors_X6_errorsBy rfl rfl rfl ⟨rfl, hd_X6_errorsBy⟩ ⟨(Nat.le_of_ble_eq_true rfl), (Nat.le_of_ble_eq_true rfl)⟩) hF hS hL.2 (fun _ h => h) hP (va_recv (q := (RX6, TX6, 28)) hK hP (ci := 6) rfl (q0 := 0) rfl) rfl hl.1 rfl (Nat.le_of_ble_eq_true rfl) ⟨(Nat.le_of_ble_eq_true rfl), (Nat.le_of_ble_eq_true rfl)⟩ dX6_errors_15 (fun H locs hP _ hS => ?_)
    refine W.eq (g2 := F0 m 18 ls [.int ((s_X6_errorsBy u p1 p2).1)]) rfl ?_
    refine lv_i2l hx hb dX6_errors_18 rfl ?_
    refine lv_goto (tgt := 25) hx hb dX6_errors_19 rfl ?_
    have hR : s_X6_errors u p1 p2 = (((s_X6_errorsBy u p1 p2).1).toInt64, (s_X6_errorsBy u p1 p2).2) := hR
    exact W.lret (v := ((s_X6_errorsBy u p1 p2).1).toInt64) hx hb hr (fun t ht _ => by rw [hR]; dsimp only; exact ⟨⟨rfl, by rw [ht]; exact hP⟩, hS.F ht⟩) hS.2.2 dX6_errors_25
def s_X6_chance_L95 : Nat → xU → Int32 → Int32 → Int32 → Int32 → Int32 → Int32 → Int32 → Int32 → Int32 × xU
  | 0, u, _, _, _, _, _, _, _, _ => (0, u)
  | n + 1, u, x1, x2, x3, x4, x5, x6, x7, x8 =>
    if x8 = 0 then
      if x5 = 0 then
        (x6 / x7, u)
      else
        (x2 / x7, u)
    else
      s_X6_chance_L95 n u x1 x2 x3 x4 x5 x6 x8 (iRem x7 x8)
def s_X6_chance_L49 : Nat → xU → Int32 → Int32 → Int32 → Int32 → Int32 → Int32 → Int32 → Int32 × xU
  | 0, u, _, _, _, _, _, _, _ => (0, u)
  | n + 1, u, x1, x2, x3, x4, x5, x6, x7 =>
    if x2 ≤ x7 then
      s_X6_chance_L95 (x2.toInt.toNat + 1) u x1 x2 x3 x4 x5 x6 x6 x2
    else
      s_X6_chance_L49 n ((s_X6_errorsBy u (x1 + x7) x3).2) x1 x2 x3 x4 x5 (x6 + (s_X6_bit ((s_X6_errorsBy u (x1 + x7) x3).2) (if x4 < ((s_X6_errorsBy u (x1 + x7) x3).1) then 0 else 1))) (x7 + 1)
def s_X6_chance (u : xU) (p1 : Int32) (p2 : Int32) (p3 : Int32) (p4 : Int32) (p5 : Int32) : Int32 × xU :=
  if (s_X6_in u p2.toInt64 1 20) = 0 then
    ((-2), u)
  else
    if (s_X6_in u p3.toInt64 0 9) = 0 then
      ((-2), u)
    else
      if p4 < 0 then
        ((-2), u)
      else
        if (s_X6_in u p5.toInt64 0 1) = 0 then
          ((-2), u)
        else
          s_X6_chance_L49 ((p2.toInt - (0 : Int32).toInt).toNat + 1) u p1 p2 p3 p4 p5 0 0
abbrev rm_X6_chance : Room := { frames := 4, cells := 0, slots := 0, locals := 87 }
set_option maxHeartbeats 8000000 in
set_option maxRecDepth 100000 in
theorem c_X6_chance (l : Launch) (E : xG) (a : Nat → Nat) (u : xU) (p1 : Int32) (p2 : Int32) (p3 : Int32) (p4 : Int32) (p5 : Int32) (hp0 : XW u) (hL : xOK E (LM a)) : xMd l E yX6_chance wsX6_chance rm_X6_chance (LM a) [.ref (a 0), .int p1, .int p2, .int p3, .int p4, .int p5] (wM E a u) (some (.int ((s_X6_chance u p1 p2 p3 p4 p5).1))) (wM E a ((s_X6_chance u p1 p2 p3 p4 p5).2)) := by
  refine xMd.of (cc := cX6_chance) (maxL := 10) (ret := (some .int)) (by decide) rfl (Nat.le_of_ble_eq_true rfl) ?_
  intro p e s m below meth c ls hAt hF hP hS hl
  obtain ⟨hx, hb, hr, hml, hown, hts, hlocks, -⟩ := hAt
  have hown : s.vm.findClass RX6 = some m.cls := hown
  have hl : lv_has ls 10 [(0, .ref (a 0)), (1, .int p1), (2, .int p2), (3, .int p3), (4, .int p4), (5, .int p5)] := hl
  have hK := hF.1
  have hA := hL.2
  change W p l e rm_X6_chance s m ([.ref (a 0), .int p1, .int p2, .int p3, .int p4, .int p5] : List Value).toArray below meth c s.heap [] 0 0 (xQmd E below (LM a) (some (.int ((s_X6_chance u p1 p2 p3 p4 p5).1))) (wM E a ((s_X6_chance u p1 p2 p3 p4 p5).2)) ([.ref (a 0), .int p1, .int p2, .int p3, .int p4, .int p5] : List Value).toArray s) _
  have hS : va_S (· ∈ LM a) s.heap s.heap [] := hS
  have hR : s_X6_chance u p1 p2 p3 p4 p5 = s_X6_chance u p1 p2 p3 p4 p5 := rfl
  refine lv_iload_n hx hb dX6_chance_0 rfl (lv_at hl 2 rfl) ?_
  refine lv_i2l hx hb dX6_chance_1 rfl ?_
  refine lv_lconst (v := 1) hx hb dX6_chance_2 rfl ?_
  refine lv_ldc2 (v := 20) hx hb hown (hts (.constantLong RX6 73 (20)) (by decide +kernel)) dX6_chance_3 ?_
  refine xRoS (nL := 10) ⟨hx, hb, hml, hown, hts⟩ (c_X6_in l E a u p2.toInt64 1 20) (va_cwS 3 hts gX6_chance_X6_in rfl rfl rfl hd_X6_in ⟨(Nat.le_of_ble_eq_true rfl), (Nat.le_of_ble_eq_true rfl)⟩) hF hS hA hP rfl hl.1 rfl (Nat.le_of_ble_eq_true rfl) ⟨(Nat.le_of_ble_eq_true rfl), (Nat.le_of_ble_eq_true rfl)⟩ dX6_chance_6 ?_
  refine W.eq (g2 := F0 m 9 ls [.int (s_X6_in u p2.toInt64 1 20)]) rfl ?_
  refine lv_if_eq (tgt := 40) hx hb dX6_chance_9 rfl (fun q1 => ?_) (fun q1 => ?_)
  · have hR := hR.trans (if_pos q1)
    refine lv_bipush (v := (-2)) hx hb dX6_chance_40 rfl ?_
    have hR : s_X6_chance u p1 p2 p3 p4 p5 = ((-2), u) := hR
    exact W.iret (v := (-2)) hx hb hr (fun t ht _ => by rw [hR]; dsimp only; exact ⟨⟨rfl, by rw [ht]; exact hP⟩, hS.F ht⟩) hS.2.2 dX6_chance_42
  · have hR := hR.trans (if_neg q1)
    refine lv_iload_n hx hb dX6_chance_12 rfl (lv_at hl 3 rfl) ?_
    refine lv_i2l hx hb dX6_chance_13 rfl ?_
    refine lv_lconst (v := 0) hx hb dX6_chance_14 rfl ?_
    refine lv_ldc2 (v := 9) hx hb hown (hts (.constantLong RX6 220 (9)) (by decide +kernel)) dX6_chance_15 ?_
    refine xRoS (nL := 10) ⟨hx, hb, hml, hown, hts⟩ (c_X6_in l E a u p3.toInt64 0 9) (va_cwS 3 hts gX6_chance_X6_in rfl rfl rfl hd_X6_in ⟨(Nat.le_of_ble_eq_true rfl), (Nat.le_of_ble_eq_true rfl)⟩) hF hS hA hP rfl hl.1 rfl (Nat.le_of_ble_eq_true rfl) ⟨(Nat.le_of_ble_eq_true rfl), (Nat.le_of_ble_eq_true rfl)⟩ dX6_chance_18 ?_
    refine W.eq (g2 := F0 m 21 ls [.int (s_X6_in u p3.toInt64 0 9)]) rfl ?_
    refine lv_if_eq (tgt := 40) hx hb dX6_chance_21 rfl (fun q2 => ?_) (fun q2 => ?_)
    · have hR := hR.trans (if_pos q2)
      refine lv_bipush (v := (-2)) hx hb dX6_chance_40 rfl ?_
      have hR : s_X6_chance u p1 p2 p3 p4 p5 = ((-2), u) := hR
      exact W.iret (v := (-2)) hx hb hr (fun t ht _ => by rw [hR]; dsimp only; exact ⟨⟨rfl, by rw [ht]; exact hP⟩, hS.F ht⟩) hS.2.2 dX6_chance_42
    · have hR := hR.trans (if_neg q2)
      refine lv_iload hx hb dX6_chance_24 (lv_at hl 4 rfl) ?_
      refine lv_if_lt (tgt := 40) hx hb dX6_chance_26 rfl (fun q3 => ?_) (fun q3 => ?_)
      · have hR := hR.trans (if_pos q3)
        refine lv_bipush (v := (-2)) hx hb dX6_chance_40 rfl ?_
        have hR : s_X6_chance u p1 p2 p3 p4 p5 = ((-2), u) := hR
        exact W.iret (v := (-2)) hx hb hr (fun t ht _ => by rw [hR]; dsimp only; exact ⟨⟨rfl, by rw [ht]; exact hP⟩, hS.F ht⟩) hS.2.2 dX6_chance_42
      · have hR := hR.trans (if_neg q3)
        refine lv_iload hx hb dX6_chance_29 (lv_at hl 5 rfl) ?_
        refine lv_i2l hx hb dX6_chance_31 rfl ?_
        refine lv_lconst (v := 0) hx hb dX6_chance_32 rfl ?_
        refine lv_lconst (v := 1) hx hb dX6_chance_33 rfl ?_
        refine xRoS (nL := 10) ⟨hx, hb, hml, hown, hts⟩ (c_X6_in l E a u p5.toInt64 0 1) (va_cwS 3 hts gX6_chance_X6_in rfl rfl rfl hd_X6_in ⟨(Nat.le_of_ble_eq_true rfl), (Nat.le_of_ble_eq_true rfl)⟩) hF hS hA hP rfl hl.1 rfl (Nat.le_of_ble_eq_true rfl) ⟨(Nat.le_of_ble_eq_true rfl), (Nat.le_of_ble_eq_true rfl)⟩ dX6_chance_34 ?_
        refine W.eq (g2 := F0 m 37 ls [.int (s_X6_in u p5.toInt64 0 1)]) rfl ?_
        refine lv_if_ne (tgt := 43) hx hb dX6_chance_37 rfl (fun q4 => ?_) (fun q4 => ?_)
        · have hR := hR.trans (if_neg q4)
          refine lv_iconst (v := 0) hx hb dX6_chance_43 rfl ?_
          refine lv_istore (lv' := [(6, .int 0), (0, .ref (a 0)), (1, .int p1), (2, .int p2), (3, .int p3), (4, .int p4), (5, .int p5)]) hx hb dX6_chance_44 hl (by decide) rfl (fun ls hl => ?_)
          refine lv_iconst (v := 0) hx hb dX6_chance_46 rfl ?_
          refine lv_istore (lv' := [(7, .int 0), (6, .int 0), (0, .ref (a 0)), (1, .int p1), (2, .int p2), (3, .int p3), (4, .int p4), (5, .int p5)]) hx hb dX6_chance_47 hl (by decide) rfl (fun ls hl => ?_)
          have L49 : ∀ (n49 : Nat) (u49 : xU) (x6 : Int32) (x7 : Int32) (H : Heap) (locs : List Loc) (ls : Array Slot), (XW u49) → (XC6 x6 x7) → (p2.toInt - x7.toInt).toNat < n49 → s_X6_chance u p1 p2 p3 p4 p5 = s_X6_chance_L49 n49 u49 p1 p2 p3 p4 p5 x6 x7 → lv_has ls 10 [(7, .int x7), (6, .int x6), (0, .ref (a 0)), (1, .int p1), (2, .int p2), (3, .int p3), (4, .int p4), (5, .int p5)] → va_P (xD E) vwCl (wM E a u49) H → va_S (· ∈ LM a) s.heap H locs → W p l e rm_X6_chance s m ([.ref (a 0), .int p1, .int p2, .int p3, .int p4, .int p5] : List Value).toArray below meth c H locs 0 0 (xQmd E below (LM a) (some (.int ((s_X6_chance u p1 p2 p3 p4 p5).1))) (wM E a ((s_X6_chance u p1 p2 p3 p4 p5).2)) ([.ref (a 0), .int p1, .int p2, .int p3, .int p4, .int p5] : List Value).toArray s) (F0 m 49 ls []) := by
            intro n49
            induction n49 with
            | zero => intro u49 x6 x7 H locs ls hI0 hI1 hM49 hR hl hP hS; exact absurd hM49 (Nat.not_lt_zero _)
            | succ n49 ih49 =>
              intro u49 x6 x7 H locs ls hI0 hI1 hM49 hR hl hP hS
              refine lv_iload hx hb dX6_chance_49 (lv_at hl 0 rfl) ?_
              refine lv_iload_n hx hb dX6_chance_51 rfl (lv_at hl 4 rfl) ?_
              refine lv_icmp_ge (tgt := 88) hx hb dX6_chance_52 rfl (fun q5 => ?_) (fun q5 => ?_)
              · have hR := hR.trans (if_pos q5)
                refine lv_iload hx hb dX6_chance_88 (lv_at hl 1 rfl) ?_
                refine lv_istore (lv' := [(7, .int x6), (6, .int x6), (0, .ref (a 0)), (1, .int p1), (2, .int p2), (3, .int p3), (4, .int p4), (5, .int p5)]) hx hb dX6_chance_90 hl (by decide) rfl (fun ls hl => ?_)
                refine lv_iload_n hx hb dX6_chance_92 rfl (lv_at hl 4 rfl) ?_
                refine lv_istore (lv' := [(8, .int p2), (7, .int x6), (6, .int x6), (0, .ref (a 0)), (1, .int p1), (2, .int p2), (3, .int p3), (4, .int p4), (5, .int p5)]) hx hb dX6_chance_93 hl (by decide) rfl (fun ls hl => ?_)
                have L95 : ∀ (n95 : Nat) (x7 : Int32) (x8 : Int32) (H : Heap) (locs : List Loc) (ls : Array Slot), (XGc x7 x8) → x8.toInt.toNat < n95 → s_X6_chance u p1 p2 p3 p4 p5 = s_X6_chance_L95 n95 u49 p1 p2 p3 p4 p5 x6 x7 x8 → lv_has ls 10 [(8, .int x8), (7, .int x7), (6, .int x6), (0, .ref (a 0)), (1, .int p1), (2, .int p2), (3, .int p3), (4, .int p4), (5, .int p5)] → va_P (xD E) vwCl (wM E a u49) H → va_S (· ∈ LM a) s.heap H locs → W p l e rm_X6_chance s m ([.ref (a 0), .int p1, .int p2, .int p3, .int p4, .int p5] : List Value).toArray below meth c H locs 0 0 (xQmd E below (LM a) (some (.int ((s_X6_chance u p1 p2 p3 p4 p5).1))) (wM E a ((s_X6_chance u p1 p2 p3 p4 p5).2)) ([.ref (a 0), .int p1, .int p2, .int p3, .int p4, .int p5] : List Value).toArray s) (F0 m 95 ls []) := by
                  intro n95
                  induction n95 with
                  | zero => intro x7 x8 H locs ls hI0 hM95 hR hl hP hS; exact absurd hM95 (Nat.not_lt_zero _)
                  | succ n95 ih95 =>
                    intro x7 x8 H locs ls hI0 hM95 hR hl hP hS
                    refine lv_iload hx hb dX6_chance_95 (lv_at hl 0 rfl) ?_
                    refine lv_if_eq (tgt := 118) hx hb dX6_chance_97 rfl (fun q6 => ?_) (fun q6 => ?_)
                    · have hR := hR.trans (if_pos q6)
                      refine lv_iload hx hb dX6_chance_118 (lv_at hl 8 rfl) ?_
                      refine lv_if_ne (tgt := 131) hx hb dX6_chance_120 rfl (fun q7 => ?_) (fun q7 => ?_)
                      · have hR := hR.trans (if_neg q7)
                        refine lv_iload_n hx hb dX6_chance_131 rfl (lv_at hl 5 rfl) ?_
                        refine lv_iload hx hb dX6_chance_132 (lv_at hl 1 rfl) ?_
                        refine lv_idiv hx hb dX6_chance_134 (xgcz hI0 q6) ?_
                        have hR : s_X6_chance u p1 p2 p3 p4 p5 = (p2 / x7, u49) := hR
                        exact W.iret (v := p2 / x7) hx hb hr (fun t ht _ => by rw [hR]; dsimp only; exact ⟨⟨rfl, by rw [ht]; exact hP⟩, hS.F ht⟩) hS.2.2 dX6_chance_135
                      · have hR := hR.trans (if_pos q7)
                        refine lv_iload hx hb dX6_chance_123 (lv_at hl 2 rfl) ?_
                        refine lv_iload hx hb dX6_chance_125 (lv_at hl 1 rfl) ?_
                        refine lv_idiv hx hb dX6_chance_127 (xgcz hI0 q6) ?_
                        refine lv_goto (tgt := 135) hx hb dX6_chance_128 rfl ?_
                        have hR : s_X6_chance u p1 p2 p3 p4 p5 = (x6 / x7, u49) := hR
                        exact W.iret (v := x6 / x7) hx hb hr (fun t ht _ => by rw [hR]; dsimp only; exact ⟨⟨rfl, by rw [ht]; exact hP⟩, hS.F ht⟩) hS.2.2 dX6_chance_135
                    · have hR := hR.trans (if_neg q6)
                      refine lv_iload hx hb dX6_chance_100 (lv_at hl 1 rfl) ?_
                      refine lv_iload hx hb dX6_chance_102 (lv_at hl 0 rfl) ?_
                      refine lv_irem hx hb dX6_chance_104 (by first | assumption | decide) ?_
                      refine W.eq (g2 := F0 m 105 ls [.int (iRem x7 x8)]) rfl ?_
                      refine lv_istore (lv' := [(9, .int (iRem x7 x8)), (8, .int x8), (7, .int x7), (6, .int x6), (0, .ref (a 0)), (1, .int p1), (2, .int p2), (3, .int p3), (4, .int p4), (5, .int p5)]) hx hb dX6_chance_105 hl (by decide) rfl (fun ls hl => ?_)
                      refine lv_iload hx hb dX6_chance_107 (lv_at hl 1 rfl) ?_
                      refine lv_istore (lv' := [(7, .int x8), (9, .int (iRem x7 x8)), (8, .int x8), (6, .int x6), (0, .ref (a 0)), (1, .int p1), (2, .int p2), (3, .int p3), (4, .int p4), (5, .int p5)]) hx hb dX6_chance_109 hl (by decide) rfl (fun ls hl => ?_)
                      refine lv_iload hx hb dX6_chance_111 (lv_at hl 1 rfl) ?_
                      refine lv_istore (lv' := [(8, .int (iRem x7 x8)), (7, .int x8), (9, .int (iRem x7 x8)), (6, .int x6), (0, .ref (a 0)), (1, .int p1), (2, .int p2), (3, .int p3), (4, .int p4), (5, .int p5)]) hx hb dX6_chance_113 hl (by decide) rfl (fun ls hl => ?_)
                      refine lv_goto (tgt := 95) hx hb dX6_chance_115 rfl ?_
                      exact ih95 x8 (iRem x7 x8) _ _ _ (xgcs hI0 q6) (Nat.lt_of_lt_of_le (xgcd hI0 q6) (Nat.le_of_lt_succ hM95)) hR (lv_sub hl [0, 1, 3, 4, 5, 6, 7, 8, 9] rfl) hP hS
                exact L95 (p2.toInt.toNat + 1) x6 p2 _ _ ls (xgc0 hI1 (xin32 (lo := 1) (hi := 20) q1).1) (Nat.lt_succ_self _) hR hl hP hS
              · have hR := hR.trans (if_neg q5)
                refine lv_iload hx hb dX6_chance_55 (lv_at hl 1 rfl) ?_
                refine lv_aload_n hx hb dX6_chance_57 rfl (lv_at hl 2 rfl) ?_
                refine lv_iload_n hx hb dX6_chance_58 rfl (lv_at hl 3 rfl) ?_
                refine lv_iload hx hb dX6_chance_59 (lv_at hl 0 rfl) ?_
                refine lv_iadd hx hb dX6_chance_61 ?_
                refine lv_iload_n hx hb dX6_chance_62 rfl (lv_at hl 5 rfl) ?_
                refine xMdV (nL := 10) ⟨hx, hb, hml, hown, hts⟩ (c_X6_errorsBy l E a u49 (p1 + x7) p3 (hI0) (xin32 (lo := 0) (hi := 9) q2) hL) (cwV 2 hts gX6_chance_X6_errorsBy rfl rfl rfl ⟨rfl, hd_X6_errorsBy⟩ ⟨(Nat.le_of_ble_eq_true rfl), (Nat.le_of_ble_eq_true rfl)⟩) hF hS hL.2 (fun _ h => h) hP (va_recv (q := (RX6, TX6, 28)) hK hP (ci := 6) rfl (q0 := 0) rfl) rfl hl.1 rfl (Nat.le_of_ble_eq_true rfl) ⟨(Nat.le_of_ble_eq_true rfl), (Nat.le_of_ble_eq_true rfl)⟩ dX6_chance_63 (fun H locs hP _ hS => ?_)
                refine W.eq (g2 := F0 m 66 ls [.int ((s_X6_errorsBy u49 (p1 + x7) p3).1), .int x6]) rfl ?_
                refine lv_iload hx hb dX6_chance_66 (lv_at hl 6 rfl) ?_
                have J8 : W p l e rm_X6_chance s m ([.ref (a 0), .int p1, .int p2, .int p3, .int p4, .int p5] : List Value).toArray below meth c H locs 0 0 (xQmd E below (LM a) (some (.int ((s_X6_chance u p1 p2 p3 p4 p5).1))) (wM E a ((s_X6_chance u p1 p2 p3 p4 p5).2)) ([.ref (a 0), .int p1, .int p2, .int p3, .int p4, .int p5] : List Value).toArray s) (F0 m 76 ls [.int (if p4 < ((s_X6_errorsBy u49 (p1 + x7) p3).1) then 0 else 1), .int x6]) := by
                  refine xRoS (nL := 10) ⟨hx, hb, hml, hown, hts⟩ (c_X6_bit l E a ((s_X6_errorsBy u49 (p1 + x7) p3).2) (if p4 < ((s_X6_errorsBy u49 (p1 + x7) p3).1) then 0 else 1)) (va_cwS 1 hts gX6_chance_X6_bit rfl rfl rfl hd_X6_bit ⟨(Nat.le_of_ble_eq_true rfl), (Nat.le_of_ble_eq_true rfl)⟩) hF hS hA hP rfl hl.1 rfl (Nat.le_of_ble_eq_true rfl) ⟨(Nat.le_of_ble_eq_true rfl), (Nat.le_of_ble_eq_true rfl)⟩ dX6_chance_76 ?_
                  refine W.eq (g2 := F0 m 79 ls [.int (s_X6_bit ((s_X6_errorsBy u49 (p1 + x7) p3).2) (if p4 < ((s_X6_errorsBy u49 (p1 + x7) p3).1) then 0 else 1)), .int x6]) rfl ?_
                  refine lv_iadd hx hb dX6_chance_79 ?_
                  refine lv_istore (lv' := [(6, .int (x6 + (s_X6_bit ((s_X6_errorsBy u49 (p1 + x7) p3).2) (if p4 < ((s_X6_errorsBy u49 (p1 + x7) p3).1) then 0 else 1)))), (7, .int x7), (0, .ref (a 0)), (1, .int p1), (2, .int p2), (3, .int p3), (4, .int p4), (5, .int p5)]) hx hb dX6_chance_80 hl (by decide) rfl (fun ls hl => ?_)
                  refine lv_iinc (k := 1) (v := x7 + 1) (lv' := [(7, .int (x7 + 1)), (6, .int (x6 + (s_X6_bit ((s_X6_errorsBy u49 (p1 + x7) p3).2) (if p4 < ((s_X6_errorsBy u49 (p1 + x7) p3).1) then 0 else 1)))), (0, .ref (a 0)), (1, .int p1), (2, .int p2), (3, .int p3), (4, .int p4), (5, .int p5)]) hx hb dX6_chance_82 hl rfl rfl (by decide) rfl (fun ls hl => ?_)
                  refine lv_goto (tgt := 49) hx hb dX6_chance_85 rfl ?_
                  exact ih49 ((s_X6_errorsBy u49 (p1 + x7) p3).2) (x6 + (s_X6_bit ((s_X6_errorsBy u49 (p1 + x7) p3).2) (if p4 < ((s_X6_errorsBy u49 (p1 + x7) p3).1) then 0 else 1))) (x7 + 1) _ _ _ (xeb_w hI0) (xc6 (u := u49) (v := u49) hI1 q5 (xin32 (lo := 1) (hi := 20) q1).2) (Nat.lt_of_lt_of_le (xupc q5) (Nat.le_of_lt_succ hM49)) hR (lv_sub hl [0, 1, 2, 3, 4, 5, 6, 7] rfl) hP hS
                refine lv_icmp_gt (tgt := 75) hx hb dX6_chance_68 rfl (fun q9 => ?_) (fun q9 => ?_)
                · refine lv_iconst (v := 0) hx hb dX6_chance_75 rfl ?_
                  exact W.eq (congrArg (fun z => F0 m 76 ls [.int z, .int x6]) (if_pos q9).symm) J8
                · refine lv_iconst (v := 1) hx hb dX6_chance_71 rfl ?_
                  refine lv_goto (tgt := 76) hx hb dX6_chance_72 rfl ?_
                  exact W.eq (congrArg (fun z => F0 m 76 ls [.int z, .int x6]) (if_neg q9).symm) J8
          exact L49 ((p2.toInt - (0 : Int32).toInt).toNat + 1) u 0 0 _ _ ls (hp0) (⟨by decide, by decide, by decide⟩) (Nat.lt_succ_self _) hR hl hP hS
        · have hR := hR.trans (if_pos q4)
          refine lv_bipush (v := (-2)) hx hb dX6_chance_40 rfl ?_
          have hR : s_X6_chance u p1 p2 p3 p4 p5 = ((-2), u) := hR
          exact W.iret (v := (-2)) hx hb hr (fun t ht _ => by rw [hR]; dsimp only; exact ⟨⟨rfl, by rw [ht]; exact hP⟩, hS.F ht⟩) hS.2.2 dX6_chance_42
