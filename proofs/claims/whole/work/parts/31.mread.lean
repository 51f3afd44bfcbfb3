theorem v40 : vp_in 40 49 := vp_in_iff.mpr (by decide)
def s_X6_isPiece (u : xU) (p1 : Int32) : Int32 :=
  s_X6_in u p1.toInt64 0 (((u.1 1 (40 : Int32).toNatClampNeg) - 1).toInt64)
abbrev rm_X6_isPiece : Room := { frames := 1, cells := 0, slots := 0, locals := 25 }
set_option maxHeartbeats 8000000 in
set_option maxRecDepth 100000 in
theorem c_X6_isPiece (l : Launch) (E : xG) (a : Nat → Nat) (u : xU) (p1 : Int32) : xRo l E yX6_isPiece wsX6_isPiece rm_X6_isPiece [.ref (a 0), .int p1] (wM E a u) (some (.int (s_X6_isPiece u p1))) := by
  refine xRo.of (cc := cX6_isPiece) (maxL := 2) (ret := (some .boolean)) (by decide) rfl (Nat.le_of_ble_eq_true rfl) ?_
  intro p e s m below meth c ls hAt hF hP hS hl
  obtain ⟨hx, hb, hr, hml, hown, hts, hlocks, -⟩ := hAt
  have hown : s.vm.findClass RX6 = some m.cls := hown
  have hl : lv_has ls 2 [(0, .ref (a 0)), (1, .int p1)] := hl
  have hK := hF.1
  have hA : ∀ q : Nat, (fun _ => False) q → xA0 E q := fun _ h => h.elim
  change W p l e rm_X6_isPiece s m ([.ref (a 0), .int p1] : List Value).toArray below meth c s.heap [] 0 0 (xQro below (some (.int (s_X6_isPiece u p1))) ([.ref (a 0), .int p1] : List Value).toArray s) _
  have hR : s_X6_isPiece u p1 = s_X6_isPiece u p1 := rfl
  refine lv_iload_n hx hb dX6_isPiece_0 rfl (lv_at hl 1 rfl) ?_
  refine lv_i2l hx hb dX6_isPiece_1 rfl ?_
  refine lv_lconst (v := 0) hx hb dX6_isPiece_2 rfl ?_
  refine lv_aload_n hx hb dX6_isPiece_3 rfl (lv_at hl 0 rfl) ?_
  refine va_get (D := xD E) (ci := 6) (v := .ref (a 1)) (C := RX6) (T := TX6) (N := 28) hx hb hts (by decide +kernel) hown hK hP 0 rfl rfl 0 (by decide) (hts (.fieldLink RX6 11 "RailOffsetsModel" "now" "[I") (by decide +kernel)) (fun _ h => h) rfl dX6_isPiece_4 ?_
  refine lv_bipush (v := 40) hx hb dX6_isPiece_7 rfl ?_
  refine va_iald hx hb hK hP 1 0 rfl rfl (v40) dX6_isPiece_9 ?_
  refine lv_iconst (v := 1) hx hb dX6_isPiece_10 rfl ?_
  refine lv_isub hx hb dX6_isPiece_11 ?_
  refine lv_i2l hx hb dX6_isPiece_12 rfl ?_
  refine xRoS (nL := 2) ⟨hx, hb, hml, hown, hts⟩ (c_X6_in l E a u p1.toInt64 0 (((u.1 1 (40 : Int32).toNatClampNeg) - 1).toInt64)) (va_cwS 3 hts gX6_isPiece_X6_in rfl rfl rfl hd_X6_in ⟨(Nat.le_of_ble_eq_true rfl), (Nat.le_of_ble_eq_true rfl)⟩) hF hS hA hP rfl hl.1 rfl (Nat.le_of_ble_eq_true rfl) ⟨(Nat.le_of_ble_eq_true rfl), (Nat.le_of_ble_eq_true rfl)⟩ dX6_isPiece_13 ?_
  refine W.eq (g2 := F0 m 16 ls [.int (s_X6_in u p1.toInt64 0 (((u.1 1 (40 : Int32).toNatClampNeg) - 1).toInt64))]) rfl ?_
  have hR : s_X6_isPiece u p1 = s_X6_in u p1.toInt64 0 (((u.1 1 (40 : Int32).toNatClampNeg) - 1).toInt64) := hR
  exact W.zret (v := s_X6_in u p1.toInt64 0 (((u.1 1 (40 : Int32).toNatClampNeg) - 1).toInt64)) (ty := .boolean) hx hb hr (xnb (bs_X6_in ..)) (fun t ht _ => ⟨congrArg (fun z => Outcome.returned (some (Value.int z))) hR.symm, ht⟩) (fun _ h => by cases h) dX6_isPiece_16
/-! ===== the reference: ranges ===== -/
theorem xin64 {u : xU} {x lo hi : Int64} (h : ¬ s_X6_in u x lo hi = 0) : lo.toInt ≤ x.toInt ∧ x.toInt ≤ hi.toInt := by
  unfold s_X6_in at h
  split at h
  · exact absurd rfl h
  · split at h
    · exact absurd rfl h
    · rename_i q1 q2
      rw [lg_cmp_lt, Int64.lt_iff_toInt_lt] at q1
      rw [lg_cmp_gt, Int64.lt_iff_toInt_lt] at q2
      omega
theorem xin32 {u : xU} {x : Int32} {lo hi : Int64} (h : ¬ s_X6_in u x.toInt64 lo hi = 0) : lo.toInt ≤ x.toInt ∧ x.toInt ≤ hi.toInt := by
  have h2 := xin64 h
  rw [Int32.toInt_toInt64] at h2
  exact h2
def XP (p : Int32) : Prop := 0 ≤ p.toInt ∧ p.toInt < 10
theorem xadd4 {p j : Int32} (hp : XP p) (h0 : 0 ≤ j.toInt) (h1 : j.toInt < 49) : ((4 * p) + j).toInt = 4 * p.toInt + j.toInt := by
  have h4 : (4 * p).toInt = 4 * p.toInt := fb_mulI (x := 4) (y := p) (by rw [show (4 : Int32).toInt = 4 from rfl]; have := hp.1; omega) (by rw [show (4 : Int32).toInt = 4 from rfl]; have := hp.2; omega)
  have h1' := hp.1
  have h2' := hp.2
  rw [fb_addI (by omega) (by omega), h4]
theorem xof {p j : Int32} (hp : XP p) (h0 : 0 ≤ j.toInt) (h1 : j.toInt < 9) : vp_in ((4 * p) + j) 49 := by
  rw [vp_in_iff, xadd4 hp h0 (by omega)]
  have h1' := hp.1
  have h2' := hp.2
  omega
theorem xrul {j : Int32} (h0 : 0 ≤ j.toInt) (h1 : j.toInt ≤ 7) : vp_in (41 + j) 49 := by
  rw [vp_in_iff, fb_addI (x := 41) (y := j) (by rw [show (41 : Int32).toInt = 41 from rfl]; omega) (by rw [show (41 : Int32).toInt = 41 from rfl]; omega), show (41 : Int32).toInt = 41 from rfl]
  omega
theorem xsub1' {n : Nat} (hn : n ≤ 10) {k : Int32} (h0 : 0 ≤ k.toInt) (h1 : k.toInt ≤ 2) : (nI n - k).toInt = n - k.toInt := by
  have e := nI_toInt (n := n) (by omega)
  rw [fb_subI (by rw [e]; omega) (by rw [e]; omega), e]
/-- the reference's own row: pieces and their number -/
abbrev XW (u : xU) : Prop := XV (u.1 1) (u.1 1 40)
theorem xisP {u : xU} {p : Int32} (h : XW u) (q : ¬ s_X6_isPiece u p = 0) : XP p := by
  obtain ⟨n, h1, h2, h3, h4⟩ := h
  have q2 := xin32 (lo := 0) (hi := (u.1 1 40 - 1).toInt64) q
  rw [Int32.toInt_toInt64, h2, xsub1' h1 (by decide) (by decide)] at q2
  exact ⟨q2.1, by have := q2.2; rw [show (1 : Int32).toInt = 1 from rfl] at this; omega⟩
theorem xwp {u : xU} {p : Int32} (h : XW u) (h0 : 0 ≤ p.toInt) (q : ¬ u.1 1 40 ≤ p) : XP p := by
  obtain ⟨n, h1, h2, h3, h4⟩ := h
  rw [h2, fa_le, nI_toInt (by omega)] at q
  exact ⟨h0, by omega⟩
theorem xfk {p k : Int32} (hp : p.toInt ≤ 10) (h0 : ¬ k < 0) (q : ¬ p ≤ k) : XP k := by
  rw [fa_lt, show (0 : Int32).toInt = 0 from rfl] at h0
  rw [fa_le] at q
  exact ⟨by omega, by omega⟩
theorem xisw {u : xU} {w : Int32} {hi : Int64} (q : ¬ s_X6_in u w.toInt64 0 hi = 0) (h : ¬ 4 ≤ w) : 0 ≤ w.toInt ∧ w.toInt < 9 := by
  have q2 := xin32 q
  rw [fa_le, show (4 : Int32).toInt = 4 from rfl] at h
  exact ⟨q2.1, by omega⟩
def s_X6_madeOf (u : xU) (p1 : Int32) : Int32 :=
  if (s_X6_isUnder u (s_X6_of0 u p1 0) 1) = 0 then
    if (s_X6_isUnder u (s_X6_of0 u p1 0) 2) = 0 then
      if 3 ≤ (s_X6_of0 u p1 0) then
        (10 * (if (s_X6_of0 u p1 1) = 1 then 123 else 13)) + (if (s_X6_of0 u p1 0) = 3 then 6 else if (s_X6_of0 u p1 0) = 4 then 7 else 8)
      else
        if (s_X6_of0 u p1 1) = 1 then 123 else 13
    else
      if 3 ≤ (s_X6_of0 u p1 0) then
        (10 * ((10 * (if (s_X6_of0 u p1 1) = 1 then 123 else 13)) + 5)) + (if (s_X6_of0 u p1 0) = 3 then 6 else if (s_X6_of0 u p1 0) = 4 then 7 else 8)
      else
        (10 * (if (s_X6_of0 u p1 1) = 1 then 123 else 13)) + 5
  else
    if 3 ≤ (s_X6_of0 u p1 0) then
      (10 * ((10 * (if (s_X6_of0 u p1 1) = 1 then 123 else 13)) + 4)) + (if (s_X6_of0 u p1 0) = 3 then 6 else if (s_X6_of0 u p1 0) = 4 then 7 else 8)
    else
      (10 * (if (s_X6_of0 u p1 1) = 1 then 123 else 13)) + 4
abbrev rm_X6_madeOf : Room := { frames := 1, cells := 0, slots := 0, locals := 22 }
set_option maxHeartbeats 8000000 in
set_option maxRecDepth 100000 in
theorem c_X6_madeOf (l : Launch) (E : xG) (a : Nat → Nat) (u : xU) (p1 : Int32) (hp0 : XP p1) : xRo l E yX6_madeOf wsX6_madeOf rm_X6_madeOf [.ref (a 0), .int p1] (wM E a u) (some (.int (s_X6_madeOf u p1))) := by
  refine xRo.of (cc := cX6_madeOf) (maxL := 4) (ret := (some .int)) (by decide) rfl (Nat.le_of_ble_eq_true rfl) ?_
  intro p e s m below meth c ls hAt hF hP hS hl
  obtain ⟨hx, hb, hr, hml, hown, hts, hlocks, -⟩ := hAt
  have hown : s.vm.findClass RX6 = some m.cls := hown
  have hl : lv_has ls 4 [(0, .ref (a 0)), (1, .int p1)] := hl
  have hK := hF.1
  have hA : ∀ q : Nat, (fun _ => False) q → xA0 E q := fun _ h => h.elim
  change W p l e rm_X6_madeOf s m ([.ref (a 0), .int p1] : List Value).toArray below meth c s.heap [] 0 0 (xQro below (some (.int (s_X6_madeOf u p1))) ([.ref (a 0), .int p1] : List Value).toArray s) _
  have hR : s_X6_madeOf u p1 = s_X6_madeOf u p1 := rfl
  refine lv_aload_n hx hb dX6_madeOf_0 rfl (lv_at hl 0 rfl) ?_
  refine lv_iload_n hx hb dX6_madeOf_1 rfl (lv_at hl 1 rfl) ?_
  refine lv_iconst (v := 0) hx hb dX6_madeOf_2 rfl ?_
  refine xRoV (nL := 4) ⟨hx, hb, hml, hown, hts⟩ (c_X6_of0 l E a u p1 0 (xof hp0 (by decide) (by decide))) (cwV 2 hts gX6_madeOf_X6_of0 rfl rfl rfl ⟨rfl, hd_X6_of0⟩ ⟨(Nat.le_of_ble_eq_true rfl), (Nat.le_of_ble_eq_true rfl)⟩) hF hS hA hP (va_recv (q := (RX6, TX6, 28)) hK hP (ci := 6) rfl (q0 := 0) rfl) rfl hl.1 rfl (Nat.le_of_ble_eq_true rfl) ⟨(Nat.le_of_ble_eq_true rfl), (Nat.le_of_ble_eq_true rfl)⟩ dX6_madeOf_3 ?_
  refine W.eq (g2 := F0 m 6 ls [.int (s_X6_of0 u p1 0)]) rfl ?_
  refine lv_istore_n (lv' := [(2, .int (s_X6_of0 u p1 0)), (0, .ref (a 0)), (1, .int p1)]) hx hb dX6_madeOf_6 rfl hl (by decide) rfl (fun ls hl => ?_)
  refine lv_aload_n hx hb dX6_madeOf_7 rfl (lv_at hl 1 rfl) ?_
  refine lv_iload_n hx hb dX6_madeOf_8 rfl (lv_at hl 2 rfl) ?_
  refine lv_iconst (v := 1) hx hb dX6_madeOf_9 rfl ?_
  refine xRoV (nL := 4) ⟨hx, hb, hml, hown, hts⟩ (c_X6_of0 l E a u p1 1 (xof hp0 (by decide) (by decide))) (cwV 2 hts gX6_madeOf_X6_of0 rfl rfl rfl ⟨rfl, hd_X6_of0⟩ ⟨(Nat.le_of_ble_eq_true rfl), (Nat.le_of_ble_eq_true rfl)⟩) hF hS hA hP (va_recv (q := (RX6, TX6, 28)) hK hP (ci := 6) rfl (q0 := 0) rfl) rfl hl.1 rfl (Nat.le_of_ble_eq_true rfl) ⟨(Nat.le_of_ble_eq_true rfl), (Nat.le_of_ble_eq_true rfl)⟩ dX6_madeOf_10 ?_
  refine W.eq (g2 := F0 m 13 ls [.int (s_X6_of0 u p1 1)]) rfl ?_
  refine lv_iconst (v := 1) hx hb dX6_madeOf_13 rfl ?_
  have J1 : W p l e rm_X6_madeOf s m ([.ref (a 0), .int p1] : List Value).toArray below meth c s.heap [] 0 0 (xQro below (some (.int (s_X6_madeOf u p1))) ([.ref (a 0), .int p1] : List Value).toArray s) (F0 m 24 ls [.int (if (s_X6_of0 u p1 1) = 1 then 123 else 13)]) := by
    refine lv_istore_n (lv' := [(3, .int (if (s_X6_of0 u p1 1) = 1 then 123 else 13)), (2, .int (s_X6_of0 u p1 0)), (0, .ref (a 0)), (1, .int p1)]) hx hb dX6_madeOf_24 rfl hl (by decide) rfl (fun ls hl => ?_)
    refine lv_iload_n hx hb dX6_madeOf_25 rfl (lv_at hl 1 rfl) ?_
    refine lv_iconst (v := 1) hx hb dX6_madeOf_26 rfl ?_
    refine xRoS (nL := 4) ⟨hx, hb, hml, hown, hts⟩ (c_X6_isUnder l E a u (s_X6_of0 u p1 0) 1) (va_cwS 2 hts gX6_madeOf_X6_isUnder rfl rfl rfl hd_X6_isUnder ⟨(Nat.le_of_ble_eq_true rfl), (Nat.le_of_ble_eq_true rfl)⟩) hF hS hA hP rfl hl.1 rfl (Nat.le_of_ble_eq_true rfl) ⟨(Nat.le_of_ble_eq_true rfl), (Nat.le_of_ble_eq_true rfl)⟩ dX6_madeOf_27 ?_
    refine W.eq (g2 := F0 m 30 ls [.int (s_X6_isUnder u (s_X6_of0 u p1 0) 1)]) rfl ?_
    refine lv_if_eq (tgt := 43) hx hb dX6_madeOf_30 rfl (fun q3 => ?_) (fun q3 => ?_)
    · have hR := hR.trans (if_pos q3)
      refine lv_iload_n hx hb dX6_madeOf_43 rfl (lv_at hl 1 rfl) ?_
      refine lv_iconst (v := 2) hx hb dX6_madeOf_44 rfl ?_
      refine xRoS (nL := 4) ⟨hx, hb, hml, hown, hts⟩ (c_X6_isUnder l E a u (s_X6_of0 u p1 0) 2) (va_cwS 2 hts gX6_madeOf_X6_isUnder rfl rfl rfl hd_X6_isUnder ⟨(Nat.le_of_ble_eq_true rfl), (Nat.le_of_ble_eq_true rfl)⟩) hF hS hA hP rfl hl.1 rfl (Nat.le_of_ble_eq_true rfl) ⟨(Nat.le_of_ble_eq_true rfl), (Nat.le_of_ble_eq_true rfl)⟩ dX6_madeOf_45 ?_
      refine W.eq (g2 := F0 m 48 ls [.int (s_X6_isUnder u (s_X6_of0 u p1 0) 2)]) rfl ?_
      refine lv_if_eq (tgt := 58) hx hb dX6_madeOf_48 rfl (fun q4 => ?_) (fun q4 => ?_)
      · have hR := hR.trans (if_pos q4)
        refine lv_iload_n hx hb dX6_madeOf_58 rfl (lv_at hl 1 rfl) ?_
        refine lv_iconst (v := 3) hx hb dX6_madeOf_59 rfl ?_
        refine lv_icmp_ge (tgt := 67) hx hb dX6_madeOf_60 rfl (fun q5 => ?_) (fun q5 => ?_)
        · have hR := hR.trans (if_pos q5)
          refine lv_bipush (v := 10) hx hb dX6_madeOf_67 rfl ?_
          refine lv_iload_n hx hb dX6_madeOf_69 rfl (lv_at hl 0 rfl) ?_
          refine lv_imul hx hb dX6_madeOf_70 ?_
          refine lv_iload_n hx hb dX6_madeOf_71 rfl (lv_at hl 1 rfl) ?_
          refine lv_iconst (v := 3) hx hb dX6_madeOf_72 rfl ?_
          have J6 : W p l e rm_X6_madeOf s m ([.ref (a 0), .int p1] : List Value).toArray below meth c s.heap [] 0 0 (xQro below (some (.int (s_X6_madeOf u p1))) ([.ref (a 0), .int p1] : List Value).toArray s) (F0 m 93 ls [.int (if (s_X6_of0 u p1 0) = 3 then 6 else if (s_X6_of0 u p1 0) = 4 then 7 else 8), .int (10 * (if (s_X6_of0 u p1 1) = 1 then 123 else 13))]) := by
            refine lv_iadd hx hb dX6_madeOf_93 ?_
            have hR : s_X6_madeOf u p1 = (10 * (if (s_X6_of0 u p1 1) = 1 then 123 else 13)) + (if (s_X6_of0 u p1 0) = 3 then 6 else if (s_X6_of0 u p1 0) = 4 then 7 else 8) := hR
            exact W.iret (v := (10 * (if (s_X6_of0 u p1 1) = 1 then 123 else 13)) + (if (s_X6_of0 u p1 0) = 3 then 6 else if (s_X6_of0 u p1 0) = 4 then 7 else 8)) hx hb hr (fun t ht _ => ⟨congrArg (fun z => Outcome.returned (some (Value.int z))) hR.symm, ht⟩) (fun _ h => by cases h) dX6_madeOf_94
          refine lv_icmp_ne (tgt := 81) hx hb dX6_madeOf_73 rfl (fun q7 => ?_) (fun q7 => ?_)
          · refine lv_iload_n hx hb dX6_madeOf_81 rfl (lv_at hl 1 rfl) ?_
            refine lv_iconst (v := 4) hx hb dX6_madeOf_82 rfl ?_
            have J8 : W p l e rm_X6_madeOf s m ([.ref (a 0), .int p1] : List Value).toArray below meth c s.heap [] 0 0 (xQro below (some (.int (s_X6_madeOf u p1))) ([.ref (a 0), .int p1] : List Value).toArray s) (F0 m 93 ls [.int (if (s_X6_of0 u p1 0) = 4 then 7 else 8), .int (10 * (if (s_X6_of0 u p1 1) = 1 then 123 else 13))]) := by
              exact W.eq (congrArg (fun z => F0 m 93 ls [.int z, .int (10 * (if (s_X6_of0 u p1 1) = 1 then 123 else 13))]) (if_neg q7).symm) J6
            refine lv_icmp_ne (tgt := 91) hx hb dX6_madeOf_83 rfl (fun q9 => ?_) (fun q9 => ?_)
            · refine lv_bipush (v := 8) hx hb dX6_madeOf_91 rfl ?_
              exact W.eq (congrArg (fun z => F0 m 93 ls [.int z, .int (10 * (if (s_X6_of0 u p1 1) = 1 then 123 else 13))]) (if_neg q9).symm) J8
            · refine lv_bipush (v := 7) hx hb dX6_madeOf_86 rfl ?_
              refine lv_goto (tgt := 93) hx hb dX6_madeOf_88 rfl ?_
              exact W.eq (congrArg (fun z => F0 m 93 ls [.int z, .int (10 * (if (s_X6_of0 u p1 1) = 1 then 123 else 13))]) (if_pos q9).symm) J8
          · refine lv_bipush (v := 6) hx hb dX6_madeOf_76 rfl ?_
            refine lv_goto (tgt := 93) hx hb dX6_madeOf_78 rfl ?_
            exact W.eq (congrArg (fun z => F0 m 93 ls [.int z, .int (10 * (if (s_X6_of0 u p1 1) = 1 then 123 else 13))]) (if_pos q7).symm) J6
        · have hR := hR.trans (if_neg q5)
          refine lv_iload_n hx hb dX6_madeOf_63 rfl (lv_at hl 0 rfl) ?_
          refine lv_goto (tgt := 94) hx hb dX6_madeOf_64 rfl ?_
          have hR : s_X6_madeOf u p1 = if (s_X6_of0 u p1 1) = 1 then 123 else 13 := hR
          exact W.iret (v := if (s_X6_of0 u p1 1) = 1 then 123 else 13) hx hb hr (fun t ht _ => ⟨congrArg (fun z => Outcome.returned (some (Value.int z))) hR.symm, ht⟩) (fun _ h => by cases h) dX6_madeOf_94
      · have hR := hR.trans (if_neg q4)
        refine lv_bipush (v := 10) hx hb dX6_madeOf_51 rfl ?_
        refine lv_iload_n hx hb dX6_madeOf_53 rfl (lv_at hl 0 rfl) ?_
        refine lv_imul hx hb dX6_madeOf_54 ?_
        refine lv_iconst (v := 5) hx hb dX6_madeOf_55 rfl ?_
        refine lv_iadd hx hb dX6_madeOf_56 ?_
        refine lv_istore_n (lv' := [(3, .int ((10 * (if (s_X6_of0 u p1 1) = 1 then 123 else 13)) + 5)), (2, .int (s_X6_of0 u p1 0)), (0, .ref (a 0)), (1, .int p1)]) hx hb dX6_madeOf_57 rfl hl (by decide) rfl (fun ls hl => ?_)
        refine lv_iload_n hx hb dX6_madeOf_58 rfl (lv_at hl 1 rfl) ?_
        refine lv_iconst (v := 3) hx hb dX6_madeOf_59 rfl ?_
        refine lv_icmp_ge (tgt := 67) hx hb dX6_madeOf_60 rfl (fun q10 => ?_) (fun q10 => ?_)
        · have hR := hR.trans (if_pos q10)
          refine lv_bipush (v := 10) hx hb dX6_madeOf_67 rfl ?_
          refine lv_iload_n hx hb dX6_madeOf_69 rfl (lv_at hl 0 rfl) ?_
          refine lv_imul hx hb dX6_madeOf_70 ?_
          refine lv_iload_n hx hb dX6_madeOf_71 rfl (lv_at hl 1 rfl) ?_
          refine lv_iconst (v := 3) hx hb dX6_madeOf_72 rfl ?_
          have J11 : W p l e rm_X6_madeOf s m ([.ref (a 0), .int p1] : List Value).toArray below meth c s.heap [] 0 0 (xQro below (some (.int (s_X6_madeOf u p1))) ([.ref (a 0), .int p1] : List Value).toArray s) (F0 m 93 ls [.int (if (s_X6_of0 u p1 0) = 3 then 6 else if (s_X6_of0 u p1 0) = 4 then 7 else 8), .int (10 * ((10 * (if (s_X6_of0 u p1 1) = 1 then 123 else 13)) + 5))]) := by
            refine lv_iadd hx hb dX6_madeOf_93 ?_
            have hR : s_X6_madeOf u p1 = (10 * ((10 * (if (s_X6_of0 u p1 1) = 1 then 123 else 13)) + 5)) + (if (s_X6_of0 u p1 0) = 3 then 6 else if (s_X6_of0 u p1 0) = 4 then 7 else 8) := hR
            exact W.iret (v := (10 * ((10 * (if (s_X6_of0 u p1 1) = 1 then 123 else 13)) + 5)) + (if (s_X6_of0 u p1 0) = 3 then 6 else if (s_X6_of0 u p1 0) = 4 then 7 else 8)) hx hb hr (fun t ht _ => ⟨congrArg (fun z => Outcome.returned (some (Value.int z))) hR.symm, ht⟩) (fun _ h => by cases h) dX6_madeOf_94
          refine lv_icmp_ne (tgt := 81) hx hb dX6_madeOf_73 rfl (fun q12 => ?_) (fun q12 => ?_)
          · refine lv_iload_n hx hb dX6_madeOf_81 rfl (lv_at hl 1 rfl) ?_
            refine lv_iconst (v := 4) hx hb dX6_madeOf_82 rfl ?_
            have J13 : W p l e rm_X6_madeOf s m ([.ref (a 0), .int p1] : List Value).toArray below meth c s.heap [] 0 0 (xQro below (some (.int (s_X6_madeOf u p1))) ([.ref (a 0), .int p1] : List Value).toArray s) (F0 m 93 ls [.int (if (s_X6_of0 u p1 0) = 4 then 7 else 8), .int (10 * ((10 * (if (s_X6_of0 u p1 1) = 1 then 123 else 13)) + 5))]) := by
              exact W.eq (congrArg (fun z => F0 m 93 ls [.int z, .int (10 * ((10 * (if (s_X6_of0 u p1 1) = 1 then 123 else 13)) + 5))]) (if_neg q12).symm) J11
            refine lv_icmp_ne (tgt := 91) hx hb dX6_madeOf_83 rfl (fun q14 => ?_) (fun q14 => ?_)
            · refine lv_bipush (v := 8) hx hb dX6_madeOf_91 rfl ?_
              exact W.eq (congrArg (fun z => F0 m 93 ls [.int z, .int (10 * ((10 * (if (s_X6_of0 u p1 1) = 1 then 123 else 13)) + 5))]) (if_neg q14).symm) J13
            · refine lv_bipush (v := 7) hx hb dX6_madeOf_86 rfl ?_
              refine lv_goto (tgt := 93) hx hb dX6_madeOf_88 rfl ?_
              exact W.eq (congrArg (fun z => F0 m 93 ls [.int z, .int (10 * ((10 * (if (s_X6_of0 u p1 1) = 1 then 123 else 13)) + 5))]) (if_pos q14).symm) J13
          · refine lv_bipush (v := 6) hx hb dX6_madeOf_76 rfl ?_
            refine lv_goto (tgt := 93) hx hb dX6_madeOf_78 rfl ?_
            exact W.eq (congrArg (fun z => F0 m 93 ls [.int z, .int (10 * ((10 * (if (s_X6_of0 u p1 1) = 1 then 123 else 13)) + 5))]) (if_pos q12).symm) J11
        · have hR := hR.trans (if_neg q10)
          refine lv_iload_n hx hb dX6_madeOf_63 rfl (lv_at hl 0 rfl) ?_
          refine lv_goto (tgt := 94) hx hb dX6_madeOf_64 rfl ?_
          have hR : s_X6_madeOf u p1 = (10 * (if (s_X6_of0 u p1 1) = 1 then 123 else 13)) + 5 := hR
          exact W.iret (v := (10 * (if (s_X6_of0 u p1 1) = 1 then 123 else 13)) + 5) hx hb hr (fun t ht _ => ⟨congrArg (fun z => Outcome.returned (some (Value.int z))) hR.symm, ht⟩) (fun _ h => by cases h) dX6_madeOf_94
    · have hR := hR.trans (if_neg q3)
      refine lv_bipush (v := 10) hx hb dX6_madeOf_33 rfl ?_
      refine lv_iload_n hx hb dX6_madeOf_35 rfl (lv_at hl 0 rfl) ?_
      refine lv_imul hx hb dX6_madeOf_36 ?_
      refine lv_iconst (v := 4) hx hb dX6_madeOf_37 rfl ?_
      refine lv_iadd hx hb dX6_madeOf_38 ?_
      refine lv_istore_n (lv' := [(3, .int ((10 * (if (s_X6_of0 u p1 1) = 1 then 123 else 13)) + 4)), (2, .int (s_X6_of0 u p1 0)), (0, .ref (a 0)), (1, .int p1)]) hx hb dX6_madeOf_39 rfl hl (by decide) rfl (fun ls hl => ?_)
      refine lv_goto (tgt := 58) hx hb dX6_madeOf_40 rfl ?_
      refine lv_iload_n hx hb dX6_madeOf_58 rfl (lv_at hl 1 rfl) ?_
      refine lv_iconst (v := 3) hx hb dX6_madeOf_59 rfl ?_
      refine lv_icmp_ge (tgt := 67) hx hb dX6_madeOf_60 rfl (fun q15 => ?_) (fun q15 => ?_)
      · have hR := hR.trans (if_pos q15)
        refine lv_bipush (v := 10) hx hb dX6_madeOf_67 rfl ?_
        refine lv_iload_n hx hb dX6_madeOf_69 rfl (lv_at hl 0 rfl) ?_
        refine lv_imul hx hb dX6_madeOf_70 ?_
        refine lv_iload_n hx hb dX6_madeOf_71 rfl (lv_at hl 1 rfl) ?_
        refine lv_iconst (v := 3) hx hb dX6_madeOf_72 rfl ?_
        have J16 : W p l e rm_X6_madeOf s m ([.ref (a 0), .int p1] : List Value).toArray below meth c s.heap [] 0 0 (xQro below (some (.int (s_X6_madeOf u p1))) ([.ref (a 0), .int p1] : List Value).toArray s) (F0 m 93 ls [.int (if (s_X6_of0 u p1 0) = 3 then 6 else if (s_X6_of0 u p1 0) = 4 then 7 else 8), .int (10 * ((10 * (if (s_X6_of0 u p1 1) = 1 then 123 else 13)) + 4))]) := by
          refine lv_iadd hx hb dX6_madeOf_93 ?_
          have hR : s_X6_madeOf u p1 = (10 * ((10 * (if (s_X6_of0 u p1 1) = 1 then 123 else 13)) + 4)) + (if (s_X6_of0 u p1 0) = 3 then 6 else if (s_X6_of0 u p1 0) = 4 then 7 else 8) := hR
          exact W.iret (v := (10 * ((10 * (if (s_X6_of0 u p1 1) = 1 then 123 else 13)) + 4)) + (if (s_X6_of0 u p1 0) = 3 then 6 else if (s_X6_of0 u p1 0) = 4 then 7 else 8)) hx hb hr (fun t ht _ => ⟨congrArg (fun z => Outcome.returned (some (Value.int z))) hR.symm, ht⟩) (fun _ h => by cases h) dX6_madeOf_94
        refine lv_icmp_ne (tgt := 81) hx hb dX6_madeOf_73 rfl (fun q17 => ?_) (fun q17 => ?_)
        · refine lv_iload_n hx hb dX6_madeOf_81 rfl (lv_at hl 1 rfl) ?_
          refine lv_iconst (v := 4) hx hb dX6_madeOf_82 rfl ?_
          have J18 : W p l e rm_X6_madeOf s m ([.ref (a 0), .int p1] : List Value).toArray below meth c s.heap [] 0 0 (xQro below (some (.int (s_X6_madeOf u p1))) ([.ref (a 0), .int p1] : List Value).toArray s) (F0 m 93 ls [.int (if (s_X6_of0 u p1 0) = 4 then 7 else 8), .int (10 * ((10 * (if (s_X6_of0 u p1 1) = 1 then 123 else 13)) + 4))]) := by
            exact W.eq (congrArg (fun z => F0 m 93 ls [.int z, .int (10 * ((10 * (if (s_X6_of0 u p1 1) = 1 then 123 else 13)) + 4))]) (if_neg q17).symm) J16
          refine lv_icmp_ne (tgt := 91) hx hb dX6_madeOf_83 rfl (fun q19 => ?_) (fun q19 => ?_)
          · refine lv_bipush (v := 8) hx hb dX6_madeOf_91 rfl ?_
            exact W.eq (congrArg (fun z => F0 m 93 ls [.int z, .int (10 * ((10 * (if (s_X6_of0 u p1 1) = 1 then 123 else 13)) + 4))]) (if_neg q19).symm) J18
          · refine lv_bipush (v := 7) hx hb dX6_madeOf_86 rfl ?_
            refine lv_goto (tgt := 93) hx hb dX6_madeOf_88 rfl ?_
            exact W.eq (congrArg (fun z => F0 m 93 ls [.int z, .int (10 * ((10 * (if (s_X6_of0 u p1 1) = 1 then 123 else 13)) + 4))]) (if_pos q19).symm) J18
        · refine lv_bipush (v := 6) hx hb dX6_madeOf_76 rfl ?_
          refine lv_goto (tgt := 93) hx hb dX6_madeOf_78 rfl ?_
          exact W.eq (congrArg (fun z => F0 m 93 ls [.int z, .int (10 * ((10 * (if (s_X6_of0 u p1 1) = 1 then 123 else 13)) + 4))]) (if_pos q17).symm) J16
      · have hR := hR.trans (if_neg q15)
        refine lv_iload_n hx hb dX6_madeOf_63 rfl (lv_at hl 0 rfl) ?_
        refine lv_goto (tgt := 94) hx hb dX6_madeOf_64 rfl ?_
        have hR : s_X6_madeOf u p1 = (10 * (if (s_X6_of0 u p1 1) = 1 then 123 else 13)) + 4 := hR
        exact W.iret (v := (10 * (if (s_X6_of0 u p1 1) = 1 then 123 else 13)) + 4) hx hb hr (fun t ht _ => ⟨congrArg (fun z => Outcome.returned (some (Value.int z))) hR.symm, ht⟩) (fun _ h => by cases h) dX6_madeOf_94
  refine lv_icmp_ne (tgt := 22) hx hb dX6_madeOf_14 rfl (fun q2 => ?_) (fun q2 => ?_)
  · refine lv_bipush (v := 13) hx hb dX6_madeOf_22 rfl ?_
    exact W.eq (congrArg (fun z => F0 m 24 ls [.int z]) (if_neg q2).symm) J1
  · refine lv_bipush (v := 123) hx hb dX6_madeOf_17 rfl ?_
    refine lv_goto (tgt := 24) hx hb dX6_madeOf_19 rfl ?_
    exact W.eq (congrArg (fun z => F0 m 24 ls [.int z]) (if_pos q2).symm) J1
def s_X6_firstOf_L4 : Nat → xU → Int32 → Int32 → Int32 → Int32
  | 0, _, _, _, _ => 0
  | n + 1, u, x1, x2, x3 =>
    if x1 ≤ x3 then
      x2
    else
      s_X6_firstOf_L4 n u x1 (x2 + (s_X6_of0 u x3 1)) (x3 + 1)
def s_X6_firstOf (u : xU) (p1 : Int32) : Int32 :=
  s_X6_firstOf_L4 ((p1.toInt - (0 : Int32).toInt).toNat + 1) u p1 1 0
abbrev rm_X6_firstOf : Room := { frames := 1, cells := 0, slots := 0, locals := 22 }
set_option maxHeartbeats 8000000 in
set_option maxRecDepth 100000 in
theorem c_X6_firstOf (l : Launch) (E : xG) (a : Nat → Nat) (u : xU) (p1 : Int32) (hp0 : p1.toInt ≤ 10) : xRo l E yX6_firstOf wsX6_firstOf rm_X6_firstOf [.ref (a 0), .int p1] (wM E a u) (some (.int (s_X6_firstOf u p1))) := by
  refine xRo.of (cc := cX6_firstOf) (maxL := 4) (ret := (some .int)) (by decide) rfl (Nat.le_of_ble_eq_true rfl) ?_
  intro p e s m below meth c ls hAt hF hP hS hl
  obtain ⟨hx, hb, hr, hml, hown, hts, hlocks, -⟩ := hAt
  have hown : s.vm.findClass RX6 = some m.cls := hown
  have hl : lv_has ls 4 [(0, .ref (a 0)), (1, .int p1)] := hl
  have hK := hF.1
  have hA : ∀ q : Nat, (fun _ => False) q → xA0 E q := fun _ h => h.elim
  change W p l e rm_X6_firstOf s m ([.ref (a 0), .int p1] : List Value).toArray below meth c s.heap [] 0 0 (xQro below (some (.int (s_X6_firstOf u p1))) ([.ref (a 0), .int p1] : List Value).toArray s) _
  have hR : s_X6_firstOf u p1 = s_X6_firstOf u p1 := rfl
  refine lv_iconst (v := 1) hx hb dX6_firstOf_0 rfl ?_
  refine lv_istore_n (lv' := [(2, .int 1), (0, .ref (a 0)), (1, .int p1)]) hx hb dX6_firstOf_1 rfl hl (by decide) rfl (fun ls hl => ?_)
  refine lv_iconst (v := 0) hx hb dX6_firstOf_2 rfl ?_
  refine lv_istore_n (lv' := [(3, .int 0), (2, .int 1), (0, .ref (a 0)), (1, .int p1)]) hx hb dX6_firstOf_3 rfl hl (by decide) rfl (fun ls hl => ?_)
  have L4 : ∀ (n4 : Nat) (x2 : Int32) (x3 : Int32) (ls : Array Slot), (¬ x3 < 0) → (p1.toInt - x3.toInt).toNat < n4 → s_X6_firstOf u p1 = s_X6_firstOf_L4 n4 u p1 x2 x3 → lv_has ls 4 [(3, .int x3), (2, .int x2), (0, .ref (a 0)), (1, .int p1)] → W p l e rm_X6_firstOf s m ([.ref (a 0), .int p1] : List Value).toArray below meth c s.heap [] 0 0 (xQro below (some (.int (s_X6_firstOf u p1))) ([.ref (a 0), .int p1] : List Value).toArray s) (F0 m 4 ls []) := by
    intro n4
    induction n4 with
    | zero => intro x2 x3 ls hI0 hM hR hl; exact absurd hM (Nat.not_lt_zero _)
    | succ n4 ih4 =>
      intro x2 x3 ls hI0 hM hR hl
      refine lv_iload_n hx hb dX6_firstOf_4 rfl (lv_at hl 0 rfl) ?_
      refine lv_iload_n hx hb dX6_firstOf_5 rfl (lv_at hl 3 rfl) ?_
      refine lv_icmp_ge (tgt := 24) hx hb dX6_firstOf_6 rfl (fun q1 => ?_) (fun q1 => ?_)
      · have hR := hR.trans (if_pos q1)
        refine lv_iload_n hx hb dX6_firstOf_24 rfl (lv_at hl 1 rfl) ?_
        have hR : s_X6_firstOf u p1 = x2 := hR
        exact W.iret (v := x2) hx hb hr (fun t ht _ => ⟨congrArg (fun z => Outcome.returned (some (Value.int z))) hR.symm, ht⟩) (fun _ h => by cases h) dX6_firstOf_25
      · have hR := hR.trans (if_neg q1)
        refine lv_iload_n hx hb dX6_firstOf_9 rfl (lv_at hl 1 rfl) ?_
        refine lv_aload_n hx hb dX6_firstOf_10 rfl (lv_at hl 2 rfl) ?_
        refine lv_iload_n hx hb dX6_firstOf_11 rfl (lv_at hl 0 rfl) ?_
        refine lv_iconst (v := 1) hx hb dX6_firstOf_12 rfl ?_
        refine xRoV (nL := 4) ⟨hx, hb, hml, hown, hts⟩ (c_X6_of0 l E a u x3 1 (xof (xfk hp0 hI0 q1) (by decide) (by decide))) (cwV 2 hts gX6_firstOf_X6_of0 rfl rfl rfl ⟨rfl, hd_X6_of0⟩ ⟨(Nat.le_of_ble_eq_true rfl), (Nat.le_of_ble_eq_true rfl)⟩) hF hS hA hP (va_recv (q := (RX6, TX6, 28)) hK hP (ci := 6) rfl (q0 := 0) rfl) rfl hl.1 rfl (Nat.le_of_ble_eq_true rfl) ⟨(Nat.le_of_ble_eq_true rfl), (Nat.le_of_ble_eq_true rfl)⟩ dX6_firstOf_13 ?_
        refine W.eq (g2 := F0 m 16 ls [.int (s_X6_of0 u x3 1), .int x2]) rfl ?_
        refine lv_iadd hx hb dX6_firstOf_16 ?_
        refine lv_istore_n (lv' := [(2, .int (x2 + (s_X6_of0 u x3 1))), (3, .int x3), (0, .ref (a 0)), (1, .int p1)]) hx hb dX6_firstOf_17 rfl hl (by decide) rfl (fun ls hl => ?_)
        refine lv_iinc (k := 1) (v := x3 + 1) (lv' := [(3, .int (x3 + 1)), (2, .int (x2 + (s_X6_of0 u x3 1))), (0, .ref (a 0)), (1, .int p1)]) hx hb dX6_firstOf_18 hl rfl rfl (by decide) rfl (fun ls hl => ?_)
        refine lv_goto (tgt := 4) hx hb dX6_firstOf_21 rfl ?_
        exact ih4 (x2 + (s_X6_of0 u x3 1)) (x3 + 1) _ (xup0 hI0 q1) (Nat.lt_of_lt_of_le (xupc q1) (Nat.le_of_lt_succ hM)) hR (lv_sub hl [0, 1, 2, 3] rfl)
  exact L4 ((p1.toInt - (0 : Int32).toInt).toNat + 1) 1 0 ls (by decide) (Nat.lt_succ_self _) hR hl
def s_X6_lastOf (u : xU) (p1 : Int32) : Int32 :=
  ((s_X6_firstOf u p1) + (s_X6_of0 u p1 1)) - 1
abbrev rm_X6_lastOf : Room := { frames := 2, cells := 0, slots := 0, locals := 45 }
set_option maxHeartbeats 8000000 in
set_option maxRecDepth 100000 in
theorem c_X6_lastOf (l : Launch) (E : xG) (a : Nat → Nat) (u : xU) (p1 : Int32) (hp0 : XP p1) : xRo l E yX6_lastOf wsX6_lastOf rm_X6_lastOf [.ref (a 0), .int p1] (wM E a u) (some (.int (s_X6_lastOf u p1))) := by
  refine xRo.of (cc := cX6_lastOf) (maxL := 2) (ret := (some .int)) (by decide) rfl (Nat.le_of_ble_eq_true rfl) ?_
  intro p e s m below meth c ls hAt hF hP hS hl
  obtain ⟨hx, hb, hr, hml, hown, hts, hlocks, -⟩ := hAt
  have hown : s.vm.findClass RX6 = some m.cls := hown
  have hl : lv_has ls 2 [(0, .ref (a 0)), (1, .int p1)] := hl
  have hK := hF.1
  have hA : ∀ q : Nat, (fun _ => False) q → xA0 E q := fun _ h => h.elim
  change W p l e rm_X6_lastOf s m ([.ref (a 0), .int p1] : List Value).toArray below meth c s.heap [] 0 0 (xQro below (some (.int (s_X6_lastOf u p1))) ([.ref (a 0), .int p1] : List Value).toArray s) _
  have hR : s_X6_lastOf u p1 = s_X6_lastOf u p1 := rfl
  refine lv_aload_n hx hb dX6_lastOf_0 rfl (lv_at hl 0 rfl) ?_
  refine lv_iload_n hx hb dX6_lastOf_1 rfl (lv_at hl 1 rfl) ?_
  refine xRoV (nL := 2) ⟨hx, hb, hml, hown, hts⟩ (c_X6_firstOf l E a u p1 (Int.le_of_lt hp0.2)) (cwV 1 hts gX6_lastOf_X6_firstOf rfl rfl rfl ⟨rfl, hd_X6_firstOf⟩ ⟨(Nat.le_of_ble_eq_true rfl), (Nat.le_of_ble_eq_true rfl)⟩) hF hS hA hP (va_recv (q := (RX6, TX6, 28)) hK hP (ci := 6) rfl (q0 := 0) rfl) rfl hl.1 rfl (Nat.le_of_ble_eq_true rfl) ⟨(Nat.le_of_ble_eq_true rfl), (Nat.le_of_ble_eq_true rfl)⟩ dX6_lastOf_2 ?_
  refine W.eq (g2 := F0 m 5 ls [.int (s_X6_firstOf u p1)]) rfl ?_
  refine lv_aload_n hx hb dX6_lastOf_5 rfl (lv_at hl 0 rfl) ?_
  refine lv_iload_n hx hb dX6_lastOf_6 rfl (lv_at hl 1 rfl) ?_
  refine lv_iconst (v := 1) hx hb dX6_lastOf_7 rfl ?_
  refine xRoV (nL := 2) ⟨hx, hb, hml, hown, hts⟩ (c_X6_of0 l E a u p1 1 (xof hp0 (by decide) (by decide))) (cwV 2 hts gX6_lastOf_X6_of0 rfl rfl rfl ⟨rfl, hd_X6_of0⟩ ⟨(Nat.le_of_ble_eq_true rfl), (Nat.le_of_ble_eq_true rfl)⟩) hF hS hA hP (va_recv (q := (RX6, TX6, 28)) hK hP (ci := 6) rfl (q0 := 0) rfl) rfl hl.1 rfl (Nat.le_of_ble_eq_true rfl) ⟨(Nat.le_of_ble_eq_true rfl), (Nat.le_of_ble_eq_true rfl)⟩ dX6_lastOf_8 ?_
  refine W.eq (g2 := F0 m 11 ls [.int (s_X6_of0 u p1 1), .int (s_X6_firstOf u p1)]) rfl ?_
  refine lv_iadd hx hb dX6_lastOf_11 ?_
  refine lv_iconst (v := 1) hx hb dX6_lastOf_12 rfl ?_
  refine lv_isub hx hb dX6_lastOf_13 ?_
  have hR : s_X6_lastOf u p1 = ((s_X6_firstOf u p1) + (s_X6_of0 u p1 1)) - 1 := hR
  exact W.iret (v := ((s_X6_firstOf u p1) + (s_X6_of0 u p1 1)) - 1) hx hb hr (fun t ht _ => ⟨congrArg (fun z => Outcome.returned (some (Value.int z))) hR.symm, ht⟩) (fun _ h => by cases h) dX6_lastOf_14
def s_X6_of (u : xU) (p1 : Int32) (p2 : Int32) : Int32 :=
  if (s_X6_isPiece u p1) = 0 then
    (-1000)
  else
    if (s_X6_in u p2.toInt64 0 6) = 0 then
      (-1000)
    else
      if 4 ≤ p2 then
        if p2 = 4 then
          s_X6_madeOf u p1
        else
          if p2 = 5 then
            s_X6_firstOf u p1
          else
            s_X6_lastOf u p1
      else
        s_X6_of0 u p1 p2
abbrev rm_X6_of : Room := { frames := 3, cells := 0, slots := 0, locals := 66 }
set_option maxHeartbeats 8000000 in
set_option maxRecDepth 100000 in
theorem c_X6_of (l : Launch) (E : xG) (a : Nat → Nat) (u : xU) (p1 : Int32) (p2 : Int32) (hp0 : XW u) : xRo l E yX6_of wsX6_of rm_X6_of [.ref (a 0), .int p1, .int p2] (wM E a u) (some (.int (s_X6_of u p1 p2))) := by
  refine xRo.of (cc := cX6_of) (maxL := 3) (ret := (some .int)) (by decide) rfl (Nat.le_of_ble_eq_true rfl) ?_
  intro p e s m below meth c ls hAt hF hP hS hl
  obtain ⟨hx, hb, hr, hml, hown, hts, hlocks, -⟩ := hAt
  have hown : s.vm.findClass RX6 = some m.cls := hown
  have hl : lv_has ls 3 [(0, .ref (a 0)), (1, .int p1), (2, .int p2)] := hl
  have hK := hF.1
  have hA : ∀ q : Nat, (fun _ => False) q → xA0 E q := fun _ h => h.elim
  change W p l e rm_X6_of s m ([.ref (a 0), .int p1, .int p2] : List Value).toArray below meth c s.heap [] 0 0 (xQro below (some (.int (s_X6_of u p1 p2))) ([.ref (a 0), .int p1, .int p2] : List Value).toArray s) _
  have hR : s_X6_of u p1 p2 = s_X6_of u p1 p2 := rfl
  refine lv_aload_n hx hb dX6_of_0 rfl (lv_at hl 0 rfl) ?_
  refine lv_iload_n hx hb dX6_of_1 rfl (lv_at hl 1 rfl) ?_
  refine xRoV (nL := 3) ⟨hx, hb, hml, hown, hts⟩ (c_X6_isPiece l E a u p1) (cwV 1 hts gX6_of_X6_isPiece rfl rfl rfl ⟨rfl, hd_X6_isPiece⟩ ⟨(Nat.le_of_ble_eq_true rfl), (Nat.le_of_ble_eq_true rfl)⟩) hF hS hA hP (va_recv (q := (RX6, TX6, 28)) hK hP (ci := 6) rfl (q0 := 0) rfl) rfl hl.1 rfl (Nat.le_of_ble_eq_true rfl) ⟨(Nat.le_of_ble_eq_true rfl), (Nat.le_of_ble_eq_true rfl)⟩ dX6_of_2 ?_
  refine W.eq (g2 := F0 m 5 ls [.int (s_X6_isPiece u p1)]) rfl ?_
  refine lv_if_eq (tgt := 20) hx hb dX6_of_5 rfl (fun q1 => ?_) (fun q1 => ?_)
  · have hR := hR.trans (if_pos q1)
    refine lv_sipush (v := (-1000)) hx hb dX6_of_20 rfl ?_
    have hR : s_X6_of u p1 p2 = (-1000) := hR
    exact W.iret (v := (-1000)) hx hb hr (fun t ht _ => ⟨congrArg (fun z => Outcome.returned (some (Value.int z))) hR.symm, ht⟩) (fun _ h => by cases h) dX6_of_23
  · have hR := hR.trans (if_neg q1)
    refine lv_iload_n hx hb dX6_of_8 rfl (lv_at hl 2 rfl) ?_
    refine lv_i2l hx hb dX6_of_9 rfl ?_
    refine lv_lconst (v := 0) hx hb dX6_of_10 rfl ?_
    refine lv_ldc2 (v := 6) hx hb hown (hts (.constantLong RX6 102 (6)) (by decide +kernel)) dX6_of_11 ?_
    refine xRoS (nL := 3) ⟨hx, hb, hml, hown, hts⟩ (c_X6_in l E a u p2.toInt64 0 6) (va_cwS 3 hts gX6_of_X6_in rfl rfl rfl hd_X6_in ⟨(Nat.le_of_ble_eq_true rfl), (Nat.le_of_ble_eq_true rfl)⟩) hF hS hA hP rfl hl.1 rfl (Nat.le_of_ble_eq_true rfl) ⟨(Nat.le_of_ble_eq_true rfl), (Nat.le_of_ble_eq_true rfl)⟩ dX6_of_14 ?_
    refine W.eq (g2 := F0 m 17 ls [.int (s_X6_in u p2.toInt64 0 6)]) rfl ?_
    refine lv_if_ne (tgt := 24) hx hb dX6_of_17 rfl (fun q2 => ?_) (fun q2 => ?_)
    · have hR := hR.trans (if_neg q2)
      refine lv_iload_n hx hb dX6_of_24 rfl (lv_at hl 2 rfl) ?_
      refine lv_iconst (v := 4) hx hb dX6_of_25 rfl ?_
      refine lv_icmp_ge (tgt := 38) hx hb dX6_of_26 rfl (fun q3 => ?_) (fun q3 => ?_)
      · have hR := hR.trans (if_pos q3)
        refine lv_iload_n hx hb dX6_of_38 rfl (lv_at hl 2 rfl) ?_
        refine lv_iconst (v := 4) hx hb dX6_of_39 rfl ?_
        refine lv_icmp_ne (tgt := 51) hx hb dX6_of_40 rfl (fun q4 => ?_) (fun q4 => ?_)
        · have hR := hR.trans (if_neg q4)
          refine lv_iload_n hx hb dX6_of_51 rfl (lv_at hl 2 rfl) ?_
          refine lv_iconst (v := 5) hx hb dX6_of_52 rfl ?_
          refine lv_icmp_ne (tgt := 64) hx hb dX6_of_53 rfl (fun q5 => ?_) (fun q5 => ?_)
          · have hR := hR.trans (if_neg q5)
            refine lv_aload_n hx hb dX6_of_64 rfl (lv_at hl 0 rfl) ?_
            refine lv_iload_n hx hb dX6_of_65 rfl (lv_at hl 1 rfl) ?_
            refine xRoV (nL := 3) ⟨hx, hb, hml, hown, hts⟩ (c_X6_lastOf l E a u p1 (xisP hp0 (by assumption))) (cwV 1 hts gX6_of_X6_lastOf rfl rfl rfl ⟨rfl, hd_X6_lastOf⟩ ⟨(Nat.le_of_ble_eq_true rfl), (Nat.le_of_ble_eq_true rfl)⟩) hF hS hA hP (va_recv (q := (RX6, TX6, 28)) hK hP (ci := 6) rfl (q0 := 0) rfl) rfl hl.1 rfl (Nat.le_of_ble_eq_true rfl) ⟨(Nat.le_of_ble_eq_true rfl), (Nat.le_of_ble_eq_true rfl)⟩ dX6_of_66 ?_
            refine W.eq (g2 := F0 m 69 ls [.int (s_X6_lastOf u p1)]) rfl ?_
            have hR : s_X6_of u p1 p2 = s_X6_lastOf u p1 := hR
            exact W.iret (v := s_X6_lastOf u p1) hx hb hr (fun t ht _ => ⟨congrArg (fun z => Outcome.returned (some (Value.int z))) hR.symm, ht⟩) (fun _ h => by cases h) dX6_of_69
          · have hR := hR.trans (if_pos q5)
            refine lv_aload_n hx hb dX6_of_56 rfl (lv_at hl 0 rfl) ?_
            refine lv_iload_n hx hb dX6_of_57 rfl (lv_at hl 1 rfl) ?_
            refine xRoV (nL := 3) ⟨hx, hb, hml, hown, hts⟩ (c_X6_firstOf l E a u p1 (Int.le_of_lt (xisP hp0 (by assumption)).2)) (cwV 1 hts gX6_of_X6_firstOf rfl rfl rfl ⟨rfl, hd_X6_firstOf⟩ ⟨(Nat.le_of_ble_eq_true rfl), (Nat.le_of_ble_eq_true rfl)⟩) hF hS hA hP (va_recv (q := (RX6, TX6, 28)) hK hP (ci := 6) rfl (q0 := 0) rfl) rfl hl.1 rfl (Nat.le_of_ble_eq_true rfl) ⟨(Nat.le_of_ble_eq_true rfl), (Nat.le_of_ble_eq_true rfl)⟩ dX6_of_58 ?_
            refine W.eq (g2 := F0 m 61 ls [.int (s_X6_firstOf u p1)]) rfl ?_
            refine lv_goto (tgt := 69) hx hb dX6_of_61 rfl ?_
            have hR : s_X6_of u p1 p2 = s_X6_firstOf u p1 := hR
            exact W.iret (v := s_X6_firstOf u p1) hx hb hr (fun t ht _ => ⟨congrArg (fun z => Outcome.returned (some (Value.int z))) hR.symm, ht⟩) (fun _ h => by cases h) dX6_of_69
        · have hR := hR.trans (if_pos q4)
          refine lv_aload_n hx hb dX6_of_43 rfl (lv_at hl 0 rfl) ?_
          refine lv_iload_n hx hb dX6_of_44 rfl (lv_at hl 1 rfl) ?_
          refine xRoV (nL := 3) ⟨hx, hb, hml, hown, hts⟩ (c_X6_madeOf l E a u p1 (xisP hp0 (by assumption))) (cwV 1 hts gX6_of_X6_madeOf rfl rfl rfl ⟨rfl, hd_X6_madeOf⟩ ⟨(Nat.le_of_ble_eq_true rfl), (Nat.le_of_ble_eq_true rfl)⟩) hF hS hA hP (va_recv (q := (RX6, TX6, 28)) hK hP (ci := 6) rfl (q0 := 0) rfl) rfl hl.1 rfl (Nat.le_of_ble_eq_true rfl) ⟨(Nat.le_of_ble_eq_true rfl), (Nat.le_of_ble_eq_true rfl)⟩ dX6_of_45 ?_
          refine W.eq (g2 := F0 m 48 ls [.int (s_X6_madeOf u p1)]) rfl ?_
          refine lv_goto (tgt := 69) hx hb dX6_of_48 rfl ?_
          have hR : s_X6_of u p1 p2 = s_X6_madeOf u p1 := hR
          exact W.iret (v := s_X6_madeOf u p1) hx hb hr (fun t ht _ => ⟨congrArg (fun z => Outcome.returned (some (Value.int z))) hR.symm, ht⟩) (fun _ h => by cases h) dX6_of_69
      · have hR := hR.trans (if_neg q3)
        refine lv_aload_n hx hb dX6_of_29 rfl (lv_at hl 0 rfl) ?_
        refine lv_iload_n hx hb dX6_of_30 rfl (lv_at hl 1 rfl) ?_
        refine lv_iload_n hx hb dX6_of_31 rfl (lv_at hl 2 rfl) ?_
        refine xRoV (nL := 3) ⟨hx, hb, hml, hown, hts⟩ (c_X6_of0 l E a u p1 p2 (xof (xisP hp0 (by assumption)) (xisw (by assumption) (by assumption)).1 (xisw (by assumption) (by assumption)).2)) (cwV 2 hts gX6_of_X6_of0 rfl rfl rfl ⟨rfl, hd_X6_of0⟩ ⟨(Nat.le_of_ble_eq_true rfl), (Nat.le_of_ble_eq_true rfl)⟩) hF hS hA hP (va_recv (q := (RX6, TX6, 28)) hK hP (ci := 6) rfl (q0 := 0) rfl) rfl hl.1 rfl (Nat.le_of_ble_eq_true rfl) ⟨(Nat.le_of_ble_eq_true rfl), (Nat.le_of_ble_eq_true rfl)⟩ dX6_of_32 ?_
        refine W.eq (g2 := F0 m 35 ls [.int (s_X6_of0 u p1 p2)]) rfl ?_
        refine lv_goto (tgt := 69) hx hb dX6_of_35 rfl ?_
        have hR : s_X6_of u p1 p2 = s_X6_of0 u p1 p2 := hR
        exact W.iret (v := s_X6_of0 u p1 p2) hx hb hr (fun t ht _ => ⟨congrArg (fun z => Outcome.returned (some (Value.int z))) hR.symm, ht⟩) (fun _ h => by cases h) dX6_of_69
    · have hR := hR.trans (if_pos q2)
      refine lv_sipush (v := (-1000)) hx hb dX6_of_20 rfl ?_
      have hR : s_X6_of u p1 p2 = (-1000) := hR
      exact W.iret (v := (-1000)) hx hb hr (fun t ht _ => ⟨congrArg (fun z => Outcome.returned (some (Value.int z))) hR.symm, ht⟩) (fun _ h => by cases h) dX6_of_23
def s_X6_taken (u : xU) (p1 : Int32) (p2 : Int32) : Int32 :=
  if (s_X6_isPiece u p1) = 0 then
    (-2)
  else
    if (s_X6_in u p2.toInt64 0 5) = 0 then
      (-2)
    else
      if (s_X6_isUnder u (s_X6_of0 u p1 0) p2) = 0 then
        (-13)
      else
        s_X6_of0 u p1 1
abbrev rm_X6_taken : Room := { frames := 2, cells := 0, slots := 0, locals := 46 }
set_option maxHeartbeats 8000000 in
set_option maxRecDepth 100000 in
theorem c_X6_taken (l : Launch) (E : xG) (a : Nat → Nat) (u : xU) (p1 : Int32) (p2 : Int32) (hp0 : XW u) : xRo l E yX6_taken wsX6_taken rm_X6_taken [.ref (a 0), .int p1, .int p2] (wM E a u) (some (.int (s_X6_taken u p1 p2))) := by
  refine xRo.of (cc := cX6_taken) (maxL := 3) (ret := (some .int)) (by decide) rfl (Nat.le_of_ble_eq_true rfl) ?_
  intro p e s m below meth c ls hAt hF hP hS hl
  obtain ⟨hx, hb, hr, hml, hown, hts, hlocks, -⟩ := hAt
  have hown : s.vm.findClass RX6 = some m.cls := hown
  have hl : lv_has ls 3 [(0, .ref (a 0)), (1, .int p1), (2, .int p2)] := hl
  have hK := hF.1
  have hA : ∀ q : Nat, (fun _ => False) q → xA0 E q := fun _ h => h.elim
  change W p l e rm_X6_taken s m ([.ref (a 0), .int p1, .int p2] : List Value).toArray below meth c s.heap [] 0 0 (xQro below (some (.int (s_X6_taken u p1 p2))) ([.ref (a 0), .int p1, .int p2] : List Value).toArray s) _
  have hR : s_X6_taken u p1 p2 = s_X6_taken u p1 p2 := rfl
  refine lv_aload_n hx hb dX6_taken_0 rfl (lv_at hl 0 rfl) ?_
  refine lv_iload_n hx hb dX6_taken_1 rfl (lv_at hl 1 rfl) ?_
  refine xRoV (nL := 3) ⟨hx, hb, hml, hown, hts⟩ (c_X6_isPiece l E a u p1) (cwV 1 hts gX6_taken_X6_isPiece rfl rfl rfl ⟨rfl, hd_X6_isPiece⟩ ⟨(Nat.le_of_ble_eq_true rfl), (Nat.le_of_ble_eq_true rfl)⟩) hF hS hA hP (va_recv (q := (RX6, TX6, 28)) hK hP (ci := 6) rfl (q0 := 0) rfl) rfl hl.1 rfl (Nat.le_of_ble_eq_true rfl) ⟨(Nat.le_of_ble_eq_true rfl), (Nat.le_of_ble_eq_true rfl)⟩ dX6_taken_2 ?_
  refine W.eq (g2 := F0 m 5 ls [.int (s_X6_isPiece u p1)]) rfl ?_
  refine lv_if_eq (tgt := 20) hx hb dX6_taken_5 rfl (fun q1 => ?_) (fun q1 => ?_)
  · have hR := hR.trans (if_pos q1)
    refine lv_bipush (v := (-2)) hx hb dX6_taken_20 rfl ?_
    have hR : s_X6_taken u p1 p2 = (-2) := hR
    exact W.iret (v := (-2)) hx hb hr (fun t ht _ => ⟨congrArg (fun z => Outcome.returned (some (Value.int z))) hR.symm, ht⟩) (fun _ h => by cases h) dX6_taken_22
  · have hR := hR.trans (if_neg q1)
    refine lv_iload_n hx hb dX6_taken_8 rfl (lv_at hl 2 rfl) ?_
    refine lv_i2l hx hb dX6_taken_9 rfl ?_
    refine lv_lconst (v := 0) hx hb dX6_taken_10 rfl ?_
    refine lv_ldc2 (v := 5) hx hb hown (hts (.constantLong RX6 71 (5)) (by decide +kernel)) dX6_taken_11 ?_
    refine xRoS (nL := 3) ⟨hx, hb, hml, hown, hts⟩ (c_X6_in l E a u p2.toInt64 0 5) (va_cwS 3 hts gX6_taken_X6_in rfl rfl rfl hd_X6_in ⟨(Nat.le_of_ble_eq_true rfl), (Nat.le_of_ble_eq_true rfl)⟩) hF hS hA hP rfl hl.1 rfl (Nat.le_of_ble_eq_true rfl) ⟨(Nat.le_of_ble_eq_true rfl), (Nat.le_of_ble_eq_true rfl)⟩ dX6_taken_14 ?_
    refine W.eq (g2 := F0 m 17 ls [.int (s_X6_in u p2.toInt64 0 5)]) rfl ?_
    refine lv_if_ne (tgt := 23) hx hb dX6_taken_17 rfl (fun q2 => ?_) (fun q2 => ?_)
    · have hR := hR.trans (if_neg q2)
      refine lv_aload_n hx hb dX6_taken_23 rfl (lv_at hl 0 rfl) ?_
      refine lv_iload_n hx hb dX6_taken_24 rfl (lv_at hl 1 rfl) ?_
      refine lv_iconst (v := 0) hx hb dX6_taken_25 rfl ?_
      refine xRoV (nL := 3) ⟨hx, hb, hml, hown, hts⟩ (c_X6_of0 l E a u p1 0 (xof (xisP hp0 (by assumption)) (by decide) (by decide))) (cwV 2 hts gX6_taken_X6_of0 rfl rfl rfl ⟨rfl, hd_X6_of0⟩ ⟨(Nat.le_of_ble_eq_true rfl), (Nat.le_of_ble_eq_true rfl)⟩) hF hS hA hP (va_recv (q := (RX6, TX6, 28)) hK hP (ci := 6) rfl (q0 := 0) rfl) rfl hl.1 rfl (Nat.le_of_ble_eq_true rfl) ⟨(Nat.le_of_ble_eq_true rfl), (Nat.le_of_ble_eq_true rfl)⟩ dX6_taken_26 ?_
      refine W.eq (g2 := F0 m 29 ls [.int (s_X6_of0 u p1 0)]) rfl ?_
      refine lv_iload_n hx hb dX6_taken_29 rfl (lv_at hl 2 rfl) ?_
      refine xRoS (nL := 3) ⟨hx, hb, hml, hown, hts⟩ (c_X6_isUnder l E a u (s_X6_of0 u p1 0) p2) (va_cwS 2 hts gX6_taken_X6_isUnder rfl rfl rfl hd_X6_isUnder ⟨(Nat.le_of_ble_eq_true rfl), (Nat.le_of_ble_eq_true rfl)⟩) hF hS hA hP rfl hl.1 rfl (Nat.le_of_ble_eq_true rfl) ⟨(Nat.le_of_ble_eq_true rfl), (Nat.le_of_ble_eq_true rfl)⟩ dX6_taken_30 ?_
      refine W.eq (g2 := F0 m 33 ls [.int (s_X6_isUnder u (s_X6_of0 u p1 0) p2)]) rfl ?_
      refine lv_if_eq (tgt := 45) hx hb dX6_taken_33 rfl (fun q3 => ?_) (fun q3 => ?_)
      · have hR := hR.trans (if_pos q3)
        refine lv_bipush (v := (-13)) hx hb dX6_taken_45 rfl ?_
        have hR : s_X6_taken u p1 p2 = (-13) := hR
        exact W.iret (v := (-13)) hx hb hr (fun t ht _ => ⟨congrArg (fun z => Outcome.returned (some (Value.int z))) hR.symm, ht⟩) (fun _ h => by cases h) dX6_taken_47
      · have hR := hR.trans (if_neg q3)
        refine lv_aload_n hx hb dX6_taken_36 rfl (lv_at hl 0 rfl) ?_
        refine lv_iload_n hx hb dX6_taken_37 rfl (lv_at hl 1 rfl) ?_
        refine lv_iconst (v := 1) hx hb dX6_taken_38 rfl ?_
        refine xRoV (nL := 3) ⟨hx, hb, hml, hown, hts⟩ (c_X6_of0 l E a u p1 1 (xof (xisP hp0 (by assumption)) (by decide) (by decide))) (cwV 2 hts gX6_taken_X6_of0 rfl rfl rfl ⟨rfl, hd_X6_of0⟩ ⟨(Nat.le_of_ble_eq_true rfl), (Nat.le_of_ble_eq_true rfl)⟩) hF hS hA hP (va_recv (q := (RX6, TX6, 28)) hK hP (ci := 6) rfl (q0 := 0) rfl) rfl hl.1 rfl (Nat.le_of_ble_eq_true rfl) ⟨(Nat.le_of_ble_eq_true rfl), (Nat.le_of_ble_eq_true rfl)⟩ dX6_taken_39 ?_
        refine W.eq (g2 := F0 m 42 ls [.int (s_X6_of0 u p1 1)]) rfl ?_
        refine lv_goto (tgt := 47) hx hb dX6_taken_42 rfl ?_
        have hR : s_X6_taken u p1 p2 = s_X6_of0 u p1 1 := hR
        exact W.iret (v := s_X6_of0 u p1 1) hx hb hr (fun t ht _ => ⟨congrArg (fun z => Outcome.returned (some (Value.int z))) hR.symm, ht⟩) (fun _ h => by cases h) dX6_taken_47
    · have hR := hR.trans (if_pos q2)
      refine lv_bipush (v := (-2)) hx hb dX6_taken_20 rfl ?_
      have hR : s_X6_taken u p1 p2 = (-2) := hR
      exact W.iret (v := (-2)) hx hb hr (fun t ht _ => ⟨congrArg (fun z => Outcome.returned (some (Value.int z))) hR.symm, ht⟩) (fun _ h => by cases h) dX6_taken_22
