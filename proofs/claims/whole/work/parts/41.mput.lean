/-! ===== the reference's sheets ===== -/
abbrev XZ (u : xU) : Prop := ∀ k : Nat, k < 4 → 0 ≤ (u.1 9 k).toInt ∧ (u.1 9 k).toInt ≤ 40
def XS4 (s : Int32) : Prop := 0 ≤ s.toInt ∧ s.toInt ≤ 3
theorem xs4 {s : Int32} (h : XS4 s) : vp_in s 4 := by
  obtain ⟨h1, h2⟩ := h
  rw [vp_in_iff]
  omega
theorem xz4 {u : xU} (h : XZ u) {s : Int32} (hs : XS4 s) : 0 ≤ (u.1 9 s.toNatClampNeg).toInt ∧ (u.1 9 s.toNatClampNeg).toInt ≤ 40 := by
  obtain ⟨h1, h2⟩ := hs
  refine h _ ?_
  show s.toInt.toNat < 4
  omega
theorem xit4 {s i : Int32} (h : XS4 s) (h0 : 0 ≤ i.toInt) (h1 : i.toInt < 40) : vp_in ((40 * s) + i) 160 := by
  obtain ⟨a, b⟩ := h
  have h4 : (40 * s).toInt = 40 * s.toInt := fb_mulI (x := 40) (y := s) (by rw [show (40 : Int32).toInt = 40 from rfl]; omega) (by rw [show (40 : Int32).toInt = 40 from rfl]; omega)
  rw [vp_in_iff, fb_addI (by omega) (by omega), h4]
  omega
theorem xit4b {s i j : Int32} (h : XS4 s) (h0 : 0 ≤ i.toInt) (h1 : 0 ≤ i.toInt + j.toInt) (h2 : i.toInt + j.toInt < 40) (hj : -40 ≤ j.toInt) : vp_in (((40 * s) + i) + j) 160 := by
  obtain ⟨a, b⟩ := h
  have h4 : (40 * s).toInt = 40 * s.toInt := fb_mulI (x := 40) (y := s) (by rw [show (40 : Int32).toInt = 40 from rfl]; omega) (by rw [show (40 : Int32).toInt = 40 from rfl]; omega)
  have h5 : ((40 * s) + i).toInt = 40 * s.toInt + i.toInt := by rw [fb_addI (by omega) (by omega), h4]
  rw [vp_in_iff, fb_addI (by omega) (by omega), h5]
  omega
theorem xsub1i {x : Int32} (h : -1000 ≤ x.toInt ∧ x.toInt ≤ 100000) : (x - 1).toInt = x.toInt - 1 :=
  fb_subI (x := x) (y := 1) (by rw [show (1 : Int32).toInt = 1 from rfl]; omega) (by rw [show (1 : Int32).toInt = 1 from rfl]; omega)
theorem xpt {u w v : xU} (h : XZ u) {s i : Int32} (q : ¬ s_X6_isSheet w s = 0) (q2 : ¬ s_X6_in v i.toInt64 0 ((u.1 9 s.toNatClampNeg) - 1).toInt64 = 0) : vp_in ((40 * s) + i) 160 := by
  have h2 := xz4 h (xsh q)
  have h3 := xin32 q2
  rw [Int32.toInt_toInt64, xsub1i (by omega)] at h3
  exact xit4 (xsh q) h3.1 (by omega)
theorem xwide (x y : Int32) : (x.toInt64 + y.toInt64).toInt = x.toInt + y.toInt := by
  have h1 := fb_rng x
  have h2 := fb_rng y
  rw [fb_addL (by rw [Int32.toInt_toInt64, Int32.toInt_toInt64]; omega) (by rw [Int32.toInt_toInt64, Int32.toInt_toInt64]; omega), Int32.toInt_toInt64, Int32.toInt_toInt64]
theorem xcl {x y z : Int32} (q : lg_cmp (x.toInt64 + y.toInt64) z.toInt64 ≤ 0) : x.toInt + y.toInt ≤ z.toInt := by
  rw [lg_cmp_le, fa_le64, xwide, Int32.toInt_toInt64] at q
  exact q
theorem xcg {x y z : Int32} (q : ¬ 0 < lg_cmp (x.toInt64 + y.toInt64) z.toInt64) : x.toInt + y.toInt ≤ z.toInt := by
  rw [lg_cmp_gt, fa_lt64, xwide, Int32.toInt_toInt64] at q
  omega
theorem xci {s p n k z : Int32} (hs : XS4 s) (hp : ¬ p < 0) (hz : z.toInt ≤ 40) (h : p.toInt + n.toInt ≤ z.toInt) (hk : ¬ k < 0) (q : ¬ n ≤ k) : vp_in (((40 * s) + p) + k) 160 := by
  rw [fa_le] at q
  have h1 := xge0 hp
  have h2 := xge0 hk
  exact xit4b hs h1 (by omega) (by omega) (by omega)
theorem xck {p n k z : Int32} (hp : ¬ p < 0) (hz : z.toInt ≤ 40) (h : p.toInt + n.toInt ≤ z.toInt) (hk : ¬ k < 0) (q : ¬ n ≤ k) : vp_in k 40 := by
  rw [fa_le] at q
  have h1 := xge0 hp
  have h2 := xge0 hk
  rw [vp_in_iff]
  omega
def s_X6_put (u : xU) (p1 : Int32) (p2 : Int32) (p3 : Int32) : Int32 × xU :=
  if (s_X6_isSheet u p1) = 0 then
    ((-2), u)
  else
    if 0 ≤ (u.1 8 p1.toNatClampNeg) then
      if (s_X6_in u p2.toInt64 0 (((u.1 9 p1.toNatClampNeg) - 1).toInt64)) = 0 then
        ((-12), u)
      else
        (1, uA u 10 ((40 * p1) + p2).toNatClampNeg (if (u.1 8 p1.toNatClampNeg) = 0 then p3.toInt16.toInt32 else p3))
    else
      ((-11), u)
abbrev rm_X6_put : Room := { frames := 2, cells := 0, slots := 0, locals := 45 }
set_option maxHeartbeats 8000000 in
set_option maxRecDepth 100000 in
theorem c_X6_put (l : Launch) (E : xG) (a : Nat → Nat) (u : xU) (p1 : Int32) (p2 : Int32) (p3 : Int32) (hp0 : XZ u) (hL : xOK E (LM a)) : xMd l E yX6_put wsX6_put rm_X6_put (LM a) [.ref (a 0), .int p1, .int p2, .int p3] (wM E a u) (some (.int ((s_X6_put u p1 p2 p3).1))) (wM E a ((s_X6_put u p1 p2 p3).2)) := by
  refine xMd.of (cc := cX6_put) (maxL := 4) (ret := (some .int)) (by decide) rfl (Nat.le_of_ble_eq_true rfl) ?_
  intro p e s m below meth c ls hAt hF hP hS hl
  obtain ⟨hx, hb, hr, hml, hown, hts, hlocks, -⟩ := hAt
  have hown : s.vm.findClass RX6 = some m.cls := hown
  have hl : lv_has ls 4 [(0, .ref (a 0)), (1, .int p1), (2, .int p2), (3, .int p3)] := hl
  have hK := hF.1
  have hA := hL.2
  change W p l e rm_X6_put s m ([.ref (a 0), .int p1, .int p2, .int p3] : List Value).toArray below meth c s.heap [] 0 0 (xQmd E below (LM a) (some (.int ((s_X6_put u p1 p2 p3).1))) (wM E a ((s_X6_put u p1 p2 p3).2)) ([.ref (a 0), .int p1, .int p2, .int p3] : List Value).toArray s) _
  have hS : va_S (· ∈ LM a) s.heap s.heap [] := hS
  have hR : s_X6_put u p1 p2 p3 = s_X6_put u p1 p2 p3 := rfl
  refine lv_iload_n hx hb dX6_put_0 rfl (lv_at hl 1 rfl) ?_
  refine xRoS (nL := 4) ⟨hx, hb, hml, hown, hts⟩ (c_X6_isSheet l E a u p1) (va_cwS 1 hts gX6_put_X6_isSheet rfl rfl rfl hd_X6_isSheet ⟨(Nat.le_of_ble_eq_true rfl), (Nat.le_of_ble_eq_true rfl)⟩) hF hS hA hP rfl hl.1 rfl (Nat.le_of_ble_eq_true rfl) ⟨(Nat.le_of_ble_eq_true rfl), (Nat.le_of_ble_eq_true rfl)⟩ dX6_put_1 ?_
  refine W.eq (g2 := F0 m 4 ls [.int (s_X6_isSheet u p1)]) rfl ?_
  refine lv_if_ne (tgt := 10) hx hb dX6_put_4 rfl (fun q1 => ?_) (fun q1 => ?_)
  · have hR := hR.trans (if_neg q1)
    refine lv_aload_n hx hb dX6_put_10 rfl (lv_at hl 0 rfl) ?_
    refine va_get (D := xD E) (ci := 6) (v := .ref (a 8)) (C := RX6) (T := TX6) (N := 28) hx hb hts (by decide +kernel) hown hK hP 0 rfl rfl 11 (by decide) (hts (.fieldLink RX6 33 "RailOffsetsModel" "sorts" "[I") (by decide +kernel)) (fun _ h => h) rfl dX6_put_11 ?_
    refine lv_iload_n hx hb dX6_put_14 rfl (lv_at hl 1 rfl) ?_
    refine va_iald hx hb hK hP 8 0 rfl rfl (xsh4 q1) dX6_put_15 ?_
    refine lv_if_ge (tgt := 22) hx hb dX6_put_16 rfl (fun q2 => ?_) (fun q2 => ?_)
    · have hR := hR.trans (if_pos q2)
      refine lv_iload_n hx hb dX6_put_22 rfl (lv_at hl 2 rfl) ?_
      refine lv_i2l hx hb dX6_put_23 rfl ?_
      refine lv_lconst (v := 0) hx hb dX6_put_24 rfl ?_
      refine lv_aload_n hx hb dX6_put_25 rfl (lv_at hl 0 rfl) ?_
      refine va_get (D := xD E) (ci := 6) (v := .ref (a 9)) (C := RX6) (T := TX6) (N := 28) hx hb hts (by decide +kernel) hown hK hP 0 rfl rfl 12 (by decide) (hts (.fieldLink RX6 36 "RailOffsetsModel" "sizes" "[I") (by decide +kernel)) (fun _ h => h) rfl dX6_put_26 ?_
      refine lv_iload_n hx hb dX6_put_29 rfl (lv_at hl 1 rfl) ?_
      refine va_iald hx hb hK hP 9 0 rfl rfl (xsh4 q1) dX6_put_30 ?_
      refine lv_iconst (v := 1) hx hb dX6_put_31 rfl ?_
      refine lv_isub hx hb dX6_put_32 ?_
      refine lv_i2l hx hb dX6_put_33 rfl ?_
      refine xRoS (nL := 4) ⟨hx, hb, hml, hown, hts⟩ (c_X6_in l E a u p2.toInt64 0 (((u.1 9 p1.toNatClampNeg) - 1).toInt64)) (va_cwS 3 hts gX6_put_X6_in rfl rfl rfl hd_X6_in ⟨(Nat.le_of_ble_eq_true rfl), (Nat.le_of_ble_eq_true rfl)⟩) hF hS hA hP rfl hl.1 rfl (Nat.le_of_ble_eq_true rfl) ⟨(Nat.le_of_ble_eq_true rfl), (Nat.le_of_ble_eq_true rfl)⟩ dX6_put_34 ?_
      refine W.eq (g2 := F0 m 37 ls [.int (s_X6_in u p2.toInt64 0 (((u.1 9 p1.toNatClampNeg) - 1).toInt64))]) rfl ?_
      refine lv_if_ne (tgt := 43) hx hb dX6_put_37 rfl (fun q3 => ?_) (fun q3 => ?_)
      · have hR := hR.trans (if_neg q3)
        refine lv_aload_n hx hb dX6_put_43 rfl (lv_at hl 0 rfl) ?_
        refine va_get (D := xD E) (ci := 6) (v := .ref (a 10)) (C := RX6) (T := TX6) (N := 28) hx hb hts (by decide +kernel) hown hK hP 0 rfl rfl 13 (by decide) (hts (.fieldLink RX6 39 "RailOffsetsModel" "items" "[I") (by decide +kernel)) (fun _ h => h) rfl dX6_put_44 ?_
        refine lv_bipush (v := 40) hx hb dX6_put_47 rfl ?_
        refine lv_iload_n hx hb dX6_put_49 rfl (lv_at hl 1 rfl) ?_
        refine lv_imul hx hb dX6_put_50 ?_
        refine lv_iload_n hx hb dX6_put_51 rfl (lv_at hl 2 rfl) ?_
        refine lv_iadd hx hb dX6_put_52 ?_
        refine lv_aload_n hx hb dX6_put_53 rfl (lv_at hl 0 rfl) ?_
        refine va_get (D := xD E) (ci := 6) (v := .ref (a 8)) (C := RX6) (T := TX6) (N := 28) hx hb hts (by decide +kernel) hown hK hP 0 rfl rfl 11 (by decide) (hts (.fieldLink RX6 33 "RailOffsetsModel" "sorts" "[I") (by decide +kernel)) (fun _ h => h) rfl dX6_put_54 ?_
        refine lv_iload_n hx hb dX6_put_57 rfl (lv_at hl 1 rfl) ?_
        refine va_iald hx hb hK hP 8 0 rfl rfl (xsh4 q1) dX6_put_58 ?_
        have J4 : W p l e rm_X6_put s m ([.ref (a 0), .int p1, .int p2, .int p3] : List Value).toArray below meth c s.heap [] 0 0 (xQmd E below (LM a) (some (.int ((s_X6_put u p1 p2 p3).1))) (wM E a ((s_X6_put u p1 p2 p3).2)) ([.ref (a 0), .int p1, .int p2, .int p3] : List Value).toArray s) (F0 m 68 ls [.int (if (u.1 8 p1.toNatClampNeg) = 0 then p3.toInt16.toInt32 else p3), .int ((40 * p1) + p2), .ref (a 10)]) := by
          refine va_iast hx hb hK hP (xD_of (ws := wM E a u) (A := (· ∈ LM a)) hL.1 (fun _ h => h)) hS 10 0 rfl rfl (xpt hp0 q1 q3) dX6_put_68 (fun H locs hP _ hS => ?_)
          have hP : va_P (xD E) vwCl (wM E a (uA u 10 ((40 * p1) + p2).toNatClampNeg (if (u.1 8 p1.toNatClampNeg) = 0 then p3.toInt16.toInt32 else p3))) H := hP
          refine lv_iconst (v := 1) hx hb dX6_put_69 rfl ?_
          have hR : s_X6_put u p1 p2 p3 = (1, uA u 10 ((40 * p1) + p2).toNatClampNeg (if (u.1 8 p1.toNatClampNeg) = 0 then p3.toInt16.toInt32 else p3)) := hR
          exact W.iret (v := 1) hx hb hr (fun t ht _ => by rw [hR]; dsimp only; exact ⟨⟨rfl, by rw [ht]; exact hP⟩, hS.F ht⟩) hS.2.2 dX6_put_70
        refine lv_if_ne (tgt := 67) hx hb dX6_put_59 rfl (fun q5 => ?_) (fun q5 => ?_)
        · refine lv_iload_n hx hb dX6_put_67 rfl (lv_at hl 3 rfl) ?_
          exact W.eq (congrArg (fun z => F0 m 68 ls [.int z, .int ((40 * p1) + p2), .ref (a 10)]) (if_neg q5).symm) J4
        · refine lv_iload_n hx hb dX6_put_62 rfl (lv_at hl 3 rfl) ?_
          refine lv_i2s hx hb dX6_put_63 rfl ?_
          refine lv_goto (tgt := 68) hx hb dX6_put_64 rfl ?_
          exact W.eq (congrArg (fun z => F0 m 68 ls [.int z, .int ((40 * p1) + p2), .ref (a 10)]) (if_pos q5).symm) J4
      · have hR := hR.trans (if_pos q3)
        refine lv_bipush (v := (-12)) hx hb dX6_put_40 rfl ?_
        have hR : s_X6_put u p1 p2 p3 = ((-12), u) := hR
        exact W.iret (v := (-12)) hx hb hr (fun t ht _ => by rw [hR]; dsimp only; exact ⟨⟨rfl, by rw [ht]; exact hP⟩, hS.F ht⟩) hS.2.2 dX6_put_42
    · have hR := hR.trans (if_neg q2)
      refine lv_bipush (v := (-11)) hx hb dX6_put_19 rfl ?_
      have hR : s_X6_put u p1 p2 p3 = ((-11), u) := hR
      exact W.iret (v := (-11)) hx hb hr (fun t ht _ => by rw [hR]; dsimp only; exact ⟨⟨rfl, by rw [ht]; exact hP⟩, hS.F ht⟩) hS.2.2 dX6_put_21
  · have hR := hR.trans (if_pos q1)
    refine lv_bipush (v := (-2)) hx hb dX6_put_7 rfl ?_
    have hR : s_X6_put u p1 p2 p3 = ((-2), u) := hR
    exact W.iret (v := (-2)) hx hb hr (fun t ht _ => by rw [hR]; dsimp only; exact ⟨⟨rfl, by rw [ht]; exact hP⟩, hS.F ht⟩) hS.2.2 dX6_put_9
def s_X6_copy_L148 : Nat → xU → Int32 → Int32 → Int32 → Int32 → Int32 → Int32 → Int32 × xU
  | 0, u, _, _, _, _, _, _ => (0, u)
  | n + 1, u, x1, x2, x3, x4, x5, x6 =>
    if x5 ≤ x6 then
      (x5, u)
    else
      s_X6_copy_L148 n (uA u 10 (((40 * x3) + x4) + x6).toNatClampNeg (u.1 11 x6.toNatClampNeg)) x1 x2 x3 x4 x5 (x6 + 1)
def s_X6_copy_L111 : Nat → xU → Int32 → Int32 → Int32 → Int32 → Int32 → Int32 → Int32 × xU
  | 0, u, _, _, _, _, _, _ => (0, u)
  | n + 1, u, x1, x2, x3, x4, x5, x6 =>
    if x5 ≤ x6 then
      s_X6_copy_L148 ((x5.toInt - (0 : Int32).toInt).toNat + 1) u x1 x2 x3 x4 x5 0
    else
      s_X6_copy_L111 n (uA u 11 x6.toNatClampNeg (u.1 10 (((40 * x1) + x2) + x6).toNatClampNeg)) x1 x2 x3 x4 x5 (x6 + 1)
def s_X6_copy (u : xU) (p1 : Int32) (p2 : Int32) (p3 : Int32) (p4 : Int32) (p5 : Int32) : Int32 × xU :=
  if (s_X6_isSheet u p1) = 0 then
    ((-2), u)
  else
    if (s_X6_isSheet u p3) = 0 then
      ((-2), u)
    else
      if (u.1 8 p1.toNatClampNeg) < 0 then
        ((-11), u)
      else
        if 0 ≤ (u.1 8 p3.toNatClampNeg) then
          if (u.1 8 p1.toNatClampNeg) = (u.1 8 p3.toNatClampNeg) then
            if p5 < 0 then
              ((-12), u)
            else
              if p2 < 0 then
                ((-12), u)
              else
                if p4 < 0 then
                  ((-12), u)
                else
                  if 0 < (lg_cmp (p2.toInt64 + p5.toInt64) ((u.1 9 p1.toNatClampNeg).toInt64)) then
                    ((-12), u)
                  else
                    if (lg_cmp (p4.toInt64 + p5.toInt64) ((u.1 9 p3.toNatClampNeg).toInt64)) ≤ 0 then
                      s_X6_copy_L111 ((p5.toInt - (0 : Int32).toInt).toNat + 1) u p1 p2 p3 p4 p5 0
                    else
                      ((-12), u)
          else
            ((-13), u)
        else
          ((-11), u)
abbrev rm_X6_copy : Room := { frames := 2, cells := 0, slots := 0, locals := 45 }
set_option maxHeartbeats 8000000 in
set_option maxRecDepth 100000 in
theorem c_X6_copy (l : Launch) (E : xG) (a : Nat → Nat) (u : xU) (p1 : Int32) (p2 : Int32) (p3 : Int32) (p4 : Int32) (p5 : Int32) (hp0 : XZ u) (hL : xOK E (LM a)) : xMd l E yX6_copy wsX6_copy rm_X6_copy (LM a) [.ref (a 0), .int p1, .int p2, .int p3, .int p4, .int p5] (wM E a u) (some (.int ((s_X6_copy u p1 p2 p3 p4 p5).1))) (wM E a ((s_X6_copy u p1 p2 p3 p4 p5).2)) := by
  refine xMd.of (cc := cX6_copy) (maxL := 7) (ret := (some .int)) (by decide) rfl (Nat.le_of_ble_eq_true rfl) ?_
  intro p e s m below meth c ls hAt hF hP hS hl
  obtain ⟨hx, hb, hr, hml, hown, hts, hlocks, -⟩ := hAt
  have hown : s.vm.findClass RX6 = some m.cls := hown
  have hl : lv_has ls 7 [(0, .ref (a 0)), (1, .int p1), (2, .int p2), (3, .int p3), (4, .int p4), (5, .int p5)] := hl
  have hK := hF.1
  have hA := hL.2
  change W p l e rm_X6_copy s m ([.ref (a 0), .int p1, .int p2, .int p3, .int p4, .int p5] : List Value).toArray below meth c s.heap [] 0 0 (xQmd E below (LM a) (some (.int ((s_X6_copy u p1 p2 p3 p4 p5).1))) (wM E a ((s_X6_copy u p1 p2 p3 p4 p5).2)) ([.ref (a 0), .int p1, .int p2, .int p3, .int p4, .int p5] : List Value).toArray s) _
  have hS : va_S (· ∈ LM a) s.heap s.heap [] := hS
  have hR : s_X6_copy u p1 p2 p3 p4 p5 = s_X6_copy u p1 p2 p3 p4 p5 := rfl
  refine lv_iload_n hx hb dX6_copy_0 rfl (lv_at hl 1 rfl) ?_
  refine xRoS (nL := 7) ⟨hx, hb, hml, hown, hts⟩ (c_X6_isSheet l E a u p1) (va_cwS 1 hts gX6_copy_X6_isSheet rfl rfl rfl hd_X6_isSheet ⟨(Nat.le_of_ble_eq_true rfl), (Nat.le_of_ble_eq_true rfl)⟩) hF hS hA hP rfl hl.1 rfl (Nat.le_of_ble_eq_true rfl) ⟨(Nat.le_of_ble_eq_true rfl), (Nat.le_of_ble_eq_true rfl)⟩ dX6_copy_1 ?_
  refine W.eq (g2 := F0 m 4 ls [.int (s_X6_isSheet u p1)]) rfl ?_
  refine lv_if_eq (tgt := 14) hx hb dX6_copy_4 rfl (fun q1 => ?_) (fun q1 => ?_)
  · have hR := hR.trans (if_pos q1)
    refine lv_bipush (v := (-2)) hx hb dX6_copy_14 rfl ?_
    have hR : s_X6_copy u p1 p2 p3 p4 p5 = ((-2), u) := hR
    exact W.iret (v := (-2)) hx hb hr (fun t ht _ => by rw [hR]; dsimp only; exact ⟨⟨rfl, by rw [ht]; exact hP⟩, hS.F ht⟩) hS.2.2 dX6_copy_16
  · have hR := hR.trans (if_neg q1)
    refine lv_iload_n hx hb dX6_copy_7 rfl (lv_at hl 3 rfl) ?_
    refine xRoS (nL := 7) ⟨hx, hb, hml, hown, hts⟩ (c_X6_isSheet l E a u p3) (va_cwS 1 hts gX6_copy_X6_isSheet rfl rfl rfl hd_X6_isSheet ⟨(Nat.le_of_ble_eq_true rfl), (Nat.le_of_ble_eq_true rfl)⟩) hF hS hA hP rfl hl.1 rfl (Nat.le_of_ble_eq_true rfl) ⟨(Nat.le_of_ble_eq_true rfl), (Nat.le_of_ble_eq_true rfl)⟩ dX6_copy_8 ?_
    refine W.eq (g2 := F0 m 11 ls [.int (s_X6_isSheet u p3)]) rfl ?_
    refine lv_if_ne (tgt := 17) hx hb dX6_copy_11 rfl (fun q2 => ?_) (fun q2 => ?_)
    · have hR := hR.trans (if_neg q2)
      refine lv_aload_n hx hb dX6_copy_17 rfl (lv_at hl 0 rfl) ?_
      refine va_get (D := xD E) (ci := 6) (v := .ref (a 8)) (C := RX6) (T := TX6) (N := 28) hx hb hts (by decide +kernel) hown hK hP 0 rfl rfl 11 (by decide) (hts (.fieldLink RX6 33 "RailOffsetsModel" "sorts" "[I") (by decide +kernel)) (fun _ h => h) rfl dX6_copy_18 ?_
      refine lv_iload_n hx hb dX6_copy_21 rfl (lv_at hl 1 rfl) ?_
      refine va_iald hx hb hK hP 8 0 rfl rfl (xsh4 q1) dX6_copy_22 ?_
      refine lv_if_lt (tgt := 35) hx hb dX6_copy_23 rfl (fun q3 => ?_) (fun q3 => ?_)
      · have hR := hR.trans (if_pos q3)
        refine lv_bipush (v := (-11)) hx hb dX6_copy_35 rfl ?_
        have hR : s_X6_copy u p1 p2 p3 p4 p5 = ((-11), u) := hR
        exact W.iret (v := (-11)) hx hb hr (fun t ht _ => by rw [hR]; dsimp only; exact ⟨⟨rfl, by rw [ht]; exact hP⟩, hS.F ht⟩) hS.2.2 dX6_copy_37
      · have hR := hR.trans (if_neg q3)
        refine lv_aload_n hx hb dX6_copy_26 rfl (lv_at hl 0 rfl) ?_
        refine va_get (D := xD E) (ci := 6) (v := .ref (a 8)) (C := RX6) (T := TX6) (N := 28) hx hb hts (by decide +kernel) hown hK hP 0 rfl rfl 11 (by decide) (hts (.fieldLink RX6 33 "RailOffsetsModel" "sorts" "[I") (by decide +kernel)) (fun _ h => h) rfl dX6_copy_27 ?_
        refine lv_iload_n hx hb dX6_copy_30 rfl (lv_at hl 3 rfl) ?_
        refine va_iald hx hb hK hP 8 0 rfl rfl (xsh4 q2) dX6_copy_31 ?_
        refine lv_if_ge (tgt := 38) hx hb dX6_copy_32 rfl (fun q4 => ?_) (fun q4 => ?_)
        · have hR := hR.trans (if_pos q4)
          refine lv_aload_n hx hb dX6_copy_38 rfl (lv_at hl 0 rfl) ?_
          refine va_get (D := xD E) (ci := 6) (v := .ref (a 8)) (C := RX6) (T := TX6) (N := 28) hx hb hts (by decide +kernel) hown hK hP 0 rfl rfl 11 (by decide) (hts (.fieldLink RX6 33 "RailOffsetsModel" "sorts" "[I") (by decide +kernel)) (fun _ h => h) rfl dX6_copy_39 ?_
          refine lv_iload_n hx hb dX6_copy_42 rfl (lv_at hl 1 rfl) ?_
          refine va_iald hx hb hK hP 8 0 rfl rfl (xsh4 q1) dX6_copy_43 ?_
          refine lv_aload_n hx hb dX6_copy_44 rfl (lv_at hl 0 rfl) ?_
          refine va_get (D := xD E) (ci := 6) (v := .ref (a 8)) (C := RX6) (T := TX6) (N := 28) hx hb hts (by decide +kernel) hown hK hP 0 rfl rfl 11 (by decide) (hts (.fieldLink RX6 33 "RailOffsetsModel" "sorts" "[I") (by decide +kernel)) (fun _ h => h) rfl dX6_copy_45 ?_
          refine lv_iload_n hx hb dX6_copy_48 rfl (lv_at hl 3 rfl) ?_
          refine va_iald hx hb hK hP 8 0 rfl rfl (xsh4 q2) dX6_copy_49 ?_
          refine lv_icmp_eq (tgt := 56) hx hb dX6_copy_50 rfl (fun q5 => ?_) (fun q5 => ?_)
          · have hR := hR.trans (if_pos q5)
            refine lv_iload hx hb dX6_copy_56 (lv_at hl 5 rfl) ?_
            refine lv_if_lt (tgt := 105) hx hb dX6_copy_58 rfl (fun q6 => ?_) (fun q6 => ?_)
            · have hR := hR.trans (if_pos q6)
              refine lv_bipush (v := (-12)) hx hb dX6_copy_105 rfl ?_
              have hR : s_X6_copy u p1 p2 p3 p4 p5 = ((-12), u) := hR
              exact W.iret (v := (-12)) hx hb hr (fun t ht _ => by rw [hR]; dsimp only; exact ⟨⟨rfl, by rw [ht]; exact hP⟩, hS.F ht⟩) hS.2.2 dX6_copy_107
            · have hR := hR.trans (if_neg q6)
              refine lv_iload_n hx hb dX6_copy_61 rfl (lv_at hl 2 rfl) ?_
              refine lv_if_lt (tgt := 105) hx hb dX6_copy_62 rfl (fun q7 => ?_) (fun q7 => ?_)
              · have hR := hR.trans (if_pos q7)
                refine lv_bipush (v := (-12)) hx hb dX6_copy_105 rfl ?_
                have hR : s_X6_copy u p1 p2 p3 p4 p5 = ((-12), u) := hR
                exact W.iret (v := (-12)) hx hb hr (fun t ht _ => by rw [hR]; dsimp only; exact ⟨⟨rfl, by rw [ht]; exact hP⟩, hS.F ht⟩) hS.2.2 dX6_copy_107
              · have hR := hR.trans (if_neg q7)
                refine lv_iload hx hb dX6_copy_65 (lv_at hl 4 rfl) ?_
                refine lv_if_lt (tgt := 105) hx hb dX6_copy_67 rfl (fun q8 => ?_) (fun q8 => ?_)
                · have hR := hR.trans (if_pos q8)
                  refine lv_bipush (v := (-12)) hx hb dX6_copy_105 rfl ?_
                  have hR : s_X6_copy u p1 p2 p3 p4 p5 = ((-12), u) := hR
                  exact W.iret (v := (-12)) hx hb hr (fun t ht _ => by rw [hR]; dsimp only; exact ⟨⟨rfl, by rw [ht]; exact hP⟩, hS.F ht⟩) hS.2.2 dX6_copy_107
                · have hR := hR.trans (if_neg q8)
                  refine lv_iload_n hx hb dX6_copy_70 rfl (lv_at hl 2 rfl) ?_
                  refine lv_i2l hx hb dX6_copy_71 rfl ?_
                  refine lv_iload hx hb dX6_copy_72 (lv_at hl 5 rfl) ?_
                  refine lv_i2l hx hb dX6_copy_74 rfl ?_
                  refine lv_ladd hx hb dX6_copy_75 ?_
                  refine lv_aload_n hx hb dX6_copy_76 rfl (lv_at hl 0 rfl) ?_
                  refine va_get (D := xD E) (ci := 6) (v := .ref (a 9)) (C := RX6) (T := TX6) (N := 28) hx hb hts (by decide +kernel) hown hK hP 0 rfl rfl 12 (by decide) (hts (.fieldLink RX6 36 "RailOffsetsModel" "sizes" "[I") (by decide +kernel)) (fun _ h => h) rfl dX6_copy_77 ?_
                  refine lv_iload_n hx hb dX6_copy_80 rfl (lv_at hl 1 rfl) ?_
                  refine va_iald hx hb hK hP 9 0 rfl rfl (xsh4 q1) dX6_copy_81 ?_
                  refine lv_i2l hx hb dX6_copy_82 rfl ?_
                  refine W.lcmp hx hb dX6_copy_83 ?_
                  refine lv_if_gt (tgt := 105) hx hb dX6_copy_84 rfl (fun q9 => ?_) (fun q9 => ?_)
                  · have hR := hR.trans (if_pos q9)
                    refine lv_bipush (v := (-12)) hx hb dX6_copy_105 rfl ?_
                    have hR : s_X6_copy u p1 p2 p3 p4 p5 = ((-12), u) := hR
                    exact W.iret (v := (-12)) hx hb hr (fun t ht _ => by rw [hR]; dsimp only; exact ⟨⟨rfl, by rw [ht]; exact hP⟩, hS.F ht⟩) hS.2.2 dX6_copy_107
                  · have hR := hR.trans (if_neg q9)
                    refine lv_iload hx hb dX6_copy_87 (lv_at hl 4 rfl) ?_
                    refine lv_i2l hx hb dX6_copy_89 rfl ?_
                    refine lv_iload hx hb dX6_copy_90 (lv_at hl 5 rfl) ?_
                    refine lv_i2l hx hb dX6_copy_92 rfl ?_
                    refine lv_ladd hx hb dX6_copy_93 ?_
                    refine lv_aload_n hx hb dX6_copy_94 rfl (lv_at hl 0 rfl) ?_
                    refine va_get (D := xD E) (ci := 6) (v := .ref (a 9)) (C := RX6) (T := TX6) (N := 28) hx hb hts (by decide +kernel) hown hK hP 0 rfl rfl 12 (by decide) (hts (.fieldLink RX6 36 "RailOffsetsModel" "sizes" "[I") (by decide +kernel)) (fun _ h => h) rfl dX6_copy_95 ?_
                    refine lv_iload_n hx hb dX6_copy_98 rfl (lv_at hl 3 rfl) ?_
                    refine va_iald hx hb hK hP 9 0 rfl rfl (xsh4 q2) dX6_copy_99 ?_
                    refine lv_i2l hx hb dX6_copy_100 rfl ?_
                    refine W.lcmp hx hb dX6_copy_101 ?_
                    refine lv_if_le (tgt := 108) hx hb dX6_copy_102 rfl (fun q10 => ?_) (fun q10 => ?_)
                    · have hR := hR.trans (if_pos q10)
                      refine lv_iconst (v := 0) hx hb dX6_copy_108 rfl ?_
                      refine lv_istore (lv' := [(6, .int 0), (0, .ref (a 0)), (1, .int p1), (2, .int p2), (3, .int p3), (4, .int p4), (5, .int p5)]) hx hb dX6_copy_109 hl (by decide) rfl (fun ls hl => ?_)
                      have L111 : ∀ (n111 : Nat) (u111 : xU) (x6 : Int32) (H : Heap) (locs : List Loc) (ls : Array Slot), (¬ x6 < 0) → (p5.toInt - x6.toInt).toNat < n111 → s_X6_copy u p1 p2 p3 p4 p5 = s_X6_copy_L111 n111 u111 p1 p2 p3 p4 p5 x6 → lv_has ls 7 [(6, .int x6), (0, .ref (a 0)), (1, .int p1), (2, .int p2), (3, .int p3), (4, .int p4), (5, .int p5)] → va_P (xD E) vwCl (wM E a u111) H → va_S (· ∈ LM a) s.heap H locs → W p l e rm_X6_copy s m ([.ref (a 0), .int p1, .int p2, .int p3, .int p4, .int p5] : List Value).toArray below meth c H locs 0 0 (xQmd E below (LM a) (some (.int ((s_X6_copy u p1 p2 p3 p4 p5).1))) (wM E a ((s_X6_copy u p1 p2 p3 p4 p5).2)) ([.ref (a 0), .int p1, .int p2, .int p3, .int p4, .int p5] : List Value).toArray s) (F0 m 111 ls []) := by
                        intro n111
                        induction n111 with
                        | zero => intro u111 x6 H locs ls hI0 hM111 hR hl hP hS; exact absurd hM111 (Nat.not_lt_zero _)
                        | succ n111 ih111 =>
                          intro u111 x6 H locs ls hI0 hM111 hR hl hP hS
                          refine lv_iload hx hb dX6_copy_111 (lv_at hl 0 rfl) ?_
                          refine lv_iload hx hb dX6_copy_113 (lv_at hl 6 rfl) ?_
                          refine lv_icmp_ge (tgt := 145) hx hb dX6_copy_115 rfl (fun q11 => ?_) (fun q11 => ?_)
                          · have hR := hR.trans (if_pos q11)
                            refine lv_iconst (v := 0) hx hb dX6_copy_145 rfl ?_
                            refine lv_istore (lv' := [(6, .int 0), (0, .ref (a 0)), (1, .int p1), (2, .int p2), (3, .int p3), (4, .int p4), (5, .int p5)]) hx hb dX6_copy_146 hl (by decide) rfl (fun ls hl => ?_)
                            have L148 : ∀ (n148 : Nat) (u148 : xU) (x6 : Int32) (H : Heap) (locs : List Loc) (ls : Array Slot), (¬ x6 < 0) → (p5.toInt - x6.toInt).toNat < n148 → s_X6_copy u p1 p2 p3 p4 p5 = s_X6_copy_L148 n148 u148 p1 p2 p3 p4 p5 x6 → lv_has ls 7 [(6, .int x6), (0, .ref (a 0)), (1, .int p1), (2, .int p2), (3, .int p3), (4, .int p4), (5, .int p5)] → va_P (xD E) vwCl (wM E a u148) H → va_S (· ∈ LM a) s.heap H locs → W p l e rm_X6_copy s m ([.ref (a 0), .int p1, .int p2, .int p3, .int p4, .int p5] : List Value).toArray below meth c H locs 0 0 (xQmd E below (LM a) (some (.int ((s_X6_copy u p1 p2 p3 p4 p5).1))) (wM E a ((s_X6_copy u p1 p2 p3 p4 p5).2)) ([.ref (a 0), .int p1, .int p2, .int p3, .int p4, .int p5] : List Value).toArray s) (F0 m 148 ls []) := by
                              intro n148
                              induction n148 with
                              | zero => intro u148 x6 H locs ls hI0 hM148 hR hl hP hS; exact absurd hM148 (Nat.not_lt_zero _)
                              | succ n148 ih148 =>
                                intro u148 x6 H locs ls hI0 hM148 hR hl hP hS
                                refine lv_iload hx hb dX6_copy_148 (lv_at hl 0 rfl) ?_
                                refine lv_iload hx hb dX6_copy_150 (lv_at hl 6 rfl) ?_
                                refine lv_icmp_ge (tgt := 183) hx hb dX6_copy_152 rfl (fun q12 => ?_) (fun q12 => ?_)
                                · have hR := hR.trans (if_pos q12)
                                  refine lv_iload hx hb dX6_copy_183 (lv_at hl 6 rfl) ?_
                                  have hR : s_X6_copy u p1 p2 p3 p4 p5 = (p5, u148) := hR
                                  exact W.iret (v := p5) hx hb hr (fun t ht _ => by rw [hR]; dsimp only; exact ⟨⟨rfl, by rw [ht]; exact hP⟩, hS.F ht⟩) hS.2.2 dX6_copy_185
                                · have hR := hR.trans (if_neg q12)
                                  refine lv_aload_n hx hb dX6_copy_155 rfl (lv_at hl 1 rfl) ?_
                                  refine va_get (D := xD E) (ci := 6) (v := .ref (a 10)) (C := RX6) (T := TX6) (N := 28) hx hb hts (by decide +kernel) hown hK hP 0 rfl rfl 13 (by decide) (hts (.fieldLink RX6 39 "RailOffsetsModel" "items" "[I") (by decide +kernel)) (fun _ h => h) rfl dX6_copy_156 ?_
                                  refine lv_bipush (v := 40) hx hb dX6_copy_159 rfl ?_
                                  refine lv_iload_n hx hb dX6_copy_161 rfl (lv_at hl 4 rfl) ?_
                                  refine lv_imul hx hb dX6_copy_162 ?_
                                  refine lv_iload hx hb dX6_copy_163 (lv_at hl 5 rfl) ?_
                                  refine lv_iadd hx hb dX6_copy_165 ?_
                                  refine lv_iload hx hb dX6_copy_166 (lv_at hl 0 rfl) ?_
                                  refine lv_iadd hx hb dX6_copy_168 ?_
                                  refine lv_aload_n hx hb dX6_copy_169 rfl (lv_at hl 1 rfl) ?_
                                  refine va_get (D := xD E) (ci := 6) (v := .ref (a 11)) (C := RX6) (T := TX6) (N := 28) hx hb hts (by decide +kernel) hown hK hP 0 rfl rfl 14 (by decide) (hts (.fieldLink RX6 42 "RailOffsetsModel" "carried" "[I") (by decide +kernel)) (fun _ h => h) rfl dX6_copy_170 ?_
                                  refine lv_iload hx hb dX6_copy_173 (lv_at hl 0 rfl) ?_
                                  refine va_iald hx hb hK hP 11 0 rfl rfl (xck q8 (xz4 hp0 (xsh q2)).2 (xcl q10) hI0 q12) dX6_copy_175 ?_
                                  refine va_iast hx hb hK hP (xD_of (ws := wM E a u148) (A := (· ∈ LM a)) hL.1 (fun _ h => h)) hS 10 0 rfl rfl (xci (xsh q2) q8 (xz4 hp0 (xsh q2)).2 (xcl q10) hI0 q12) dX6_copy_176 (fun H locs hP _ hS => ?_)
                                  have hP : va_P (xD E) vwCl (wM E a (uA u148 10 (((40 * p3) + p4) + x6).toNatClampNeg (u148.1 11 x6.toNatClampNeg))) H := hP
                                  refine lv_iinc (k := 0) (v := x6 + 1) (lv' := [(6, .int (x6 + 1)), (0, .ref (a 0)), (1, .int p1), (2, .int p2), (3, .int p3), (4, .int p4), (5, .int p5)]) hx hb dX6_copy_177 hl rfl rfl (by decide) rfl (fun ls hl => ?_)
                                  refine lv_goto (tgt := 148) hx hb dX6_copy_180 rfl ?_
                                  exact ih148 (uA u148 10 (((40 * p3) + p4) + x6).toNatClampNeg (u148.1 11 x6.toNatClampNeg)) (x6 + 1) _ _ _ (xup0 hI0 q12) (Nat.lt_of_lt_of_le (xupc q12) (Nat.le_of_lt_succ hM148)) hR (lv_sub hl [0, 1, 2, 3, 4, 5, 6] rfl) hP hS
                            exact L148 ((p5.toInt - (0 : Int32).toInt).toNat + 1) u111 0 _ _ ls (by decide) (Nat.lt_succ_self _) hR hl hP hS
                          · have hR := hR.trans (if_neg q11)
                            refine lv_aload_n hx hb dX6_copy_118 rfl (lv_at hl 1 rfl) ?_
                            refine va_get (D := xD E) (ci := 6) (v := .ref (a 11)) (C := RX6) (T := TX6) (N := 28) hx hb hts (by decide +kernel) hown hK hP 0 rfl rfl 14 (by decide) (hts (.fieldLink RX6 42 "RailOffsetsModel" "carried" "[I") (by decide +kernel)) (fun _ h => h) rfl dX6_copy_119 ?_
                            refine lv_iload hx hb dX6_copy_122 (lv_at hl 0 rfl) ?_
                            refine lv_aload_n hx hb dX6_copy_124 rfl (lv_at hl 1 rfl) ?_
                            refine va_get (D := xD E) (ci := 6) (v := .ref (a 10)) (C := RX6) (T := TX6) (N := 28) hx hb hts (by decide +kernel) hown hK hP 0 rfl rfl 13 (by decide) (hts (.fieldLink RX6 39 "RailOffsetsModel" "items" "[I") (by decide +kernel)) (fun _ h => h) rfl dX6_copy_125 ?_
                            refine lv_bipush (v := 40) hx hb dX6_copy_128 rfl ?_
                            refine lv_iload_n hx hb dX6_copy_130 rfl (lv_at hl 2 rfl) ?_
                            refine lv_imul hx hb dX6_copy_131 ?_
                            refine lv_iload_n hx hb dX6_copy_132 rfl (lv_at hl 3 rfl) ?_
                            refine lv_iadd hx hb dX6_copy_133 ?_
                            refine lv_iload hx hb dX6_copy_134 (lv_at hl 0 rfl) ?_
                            refine lv_iadd hx hb dX6_copy_136 ?_
                            refine va_iald hx hb hK hP 10 0 rfl rfl (xci (xsh q1) q7 (xz4 hp0 (xsh q1)).2 (xcg q9) hI0 q11) dX6_copy_137 ?_
                            refine va_iast hx hb hK hP (xD_of (ws := wM E a u111) (A := (· ∈ LM a)) hL.1 (fun _ h => h)) hS 11 0 rfl rfl (xck q7 (xz4 hp0 (xsh q1)).2 (xcg q9) hI0 q11) dX6_copy_138 (fun H locs hP _ hS => ?_)
                            have hP : va_P (xD E) vwCl (wM E a (uA u111 11 x6.toNatClampNeg (u111.1 10 (((40 * p1) + p2) + x6).toNatClampNeg))) H := hP
                            refine lv_iinc (k := 0) (v := x6 + 1) (lv' := [(6, .int (x6 + 1)), (0, .ref (a 0)), (1, .int p1), (2, .int p2), (3, .int p3), (4, .int p4), (5, .int p5)]) hx hb dX6_copy_139 hl rfl rfl (by decide) rfl (fun ls hl => ?_)
                            refine lv_goto (tgt := 111) hx hb dX6_copy_142 rfl ?_
                            exact ih111 (uA u111 11 x6.toNatClampNeg (u111.1 10 (((40 * p1) + p2) + x6).toNatClampNeg)) (x6 + 1) _ _ _ (xup0 hI0 q11) (Nat.lt_of_lt_of_le (xupc q11) (Nat.le_of_lt_succ hM111)) hR (lv_sub hl [0, 1, 2, 3, 4, 5, 6] rfl) hP hS
                      exact L111 ((p5.toInt - (0 : Int32).toInt).toNat + 1) u 0 _ _ ls (by decide) (Nat.lt_succ_self _) hR hl hP hS
                    · have hR := hR.trans (if_neg q10)
                      refine lv_bipush (v := (-12)) hx hb dX6_copy_105 rfl ?_
                      have hR : s_X6_copy u p1 p2 p3 p4 p5 = ((-12), u) := hR
                      exact W.iret (v := (-12)) hx hb hr (fun t ht _ => by rw [hR]; dsimp only; exact ⟨⟨rfl, by rw [ht]; exact hP⟩, hS.F ht⟩) hS.2.2 dX6_copy_107
          · have hR := hR.trans (if_neg q5)
            refine lv_bipush (v := (-13)) hx hb dX6_copy_53 rfl ?_
            have hR : s_X6_copy u p1 p2 p3 p4 p5 = ((-13), u) := hR
            exact W.iret (v := (-13)) hx hb hr (fun t ht _ => by rw [hR]; dsimp only; exact ⟨⟨rfl, by rw [ht]; exact hP⟩, hS.F ht⟩) hS.2.2 dX6_copy_55
        · have hR := hR.trans (if_neg q4)
          refine lv_bipush (v := (-11)) hx hb dX6_copy_35 rfl ?_
          have hR : s_X6_copy u p1 p2 p3 p4 p5 = ((-11), u) := hR
          exact W.iret (v := (-11)) hx hb hr (fun t ht _ => by rw [hR]; dsimp only; exact ⟨⟨rfl, by rw [ht]; exact hP⟩, hS.F ht⟩) hS.2.2 dX6_copy_37
    · have hR := hR.trans (if_pos q2)
      refine lv_bipush (v := (-2)) hx hb dX6_copy_14 rfl ?_
      have hR : s_X6_copy u p1 p2 p3 p4 p5 = ((-2), u) := hR
      exact W.iret (v := (-2)) hx hb hr (fun t ht _ => by rw [hR]; dsimp only; exact ⟨⟨rfl, by rw [ht]; exact hP⟩, hS.F ht⟩) hS.2.2 dX6_copy_16
