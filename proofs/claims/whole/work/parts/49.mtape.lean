/-! ===== the reference's tape ===== -/
def tBeg (k : Nat) : Int32 := ([0, 5, 9, 13, 18, 22] : List Int32).getD k 0
def tWant (k : Nat) : Int32 := ([4, 2, 2, 1, 0] : List Int32).getD k 0
def tLet (k : Nat) : Int32 := ([112, 105, 101, 99, 101, 98, 101, 110, 100, 99, 97, 110, 116, 115, 112, 101, 101, 100, 100, 114, 111, 112] : List Int32).getD k 0
def XCn (u : xU) : Prop := (∀ k, k < 22 → u.1 15 k = tLet k) ∧ (∀ k, k < 6 → u.1 16 k = tBeg k) ∧ ∀ k, k < 5 → u.1 17 k = tWant k
def XTq (u : xU) : Prop := XCn u ∧ 0 ≤ (u.2 5).toInt ∧ (u.2 5).toInt ≤ (u.2 4).toInt ∧ (u.2 4).toInt ≤ 60
def XTw (u : xU) : Prop := XTq u ∧ 0 ≤ (u.2 6).toInt ∧ (u.2 6).toInt ≤ (u.2 5).toInt
theorem xhi {u : xU} (h : XTq u) (q : ¬ (u.2 4) ≤ (u.2 5)) : vp_in (u.2 5) 60 := by
  obtain ⟨h0, h1, h2, h3⟩ := h
  rw [fa_le] at q
  rw [vp_in_iff]
  omega
def s_X6_here (u : xU) : Int32 :=
  if (u.2 4) ≤ (u.2 5) then
    (-1)
  else
    u.1 14 (u.2 5).toNatClampNeg
abbrev rm_X6_here : Room := { frames := 0, cells := 0, slots := 0, locals := 0 }
set_option maxHeartbeats 8000000 in
set_option maxRecDepth 100000 in
theorem c_X6_here (l : Launch) (E : xG) (a : Nat → Nat) (u : xU)  (hp0 : XTq u) : xRo l E yX6_here wsX6_here rm_X6_here [.ref (a 0)] (wM E a u) (some (.int (s_X6_here u))) := by
  refine xRo.of (cc := cX6_here) (maxL := 1) (ret := (some .int)) (by decide) rfl (Nat.le_of_ble_eq_true rfl) ?_
  intro p e s m below meth c ls hAt hF hP hS hl
  obtain ⟨hx, hb, hr, hml, hown, hts, hlocks, -⟩ := hAt
  have hown : s.vm.findClass RX6 = some m.cls := hown
  have hl : lv_has ls 1 [(0, .ref (a 0))] := hl
  have hK := hF.1
  have hA : ∀ q : Nat, (fun _ => False) q → xA0 E q := fun _ h => h.elim
  change W p l e rm_X6_here s m ([.ref (a 0)] : List Value).toArray below meth c s.heap [] 0 0 (xQro below (some (.int (s_X6_here u))) ([.ref (a 0)] : List Value).toArray s) _
  have hR : s_X6_here u = s_X6_here u := rfl
  refine lv_aload_n hx hb dX6_here_0 rfl (lv_at hl 0 rfl) ?_
  refine va_get (D := xD E) (ci := 6) (v := .int (u.2 5)) (C := RX6) (T := TX6) (N := 28) hx hb hts (by decide +kernel) hown hK hP 0 rfl rfl 22 (by decide) (hts (.fieldLink RX6 245 "RailOffsetsModel" "at" "I") (by decide +kernel)) (fun _ h => h) rfl dX6_here_1 ?_
  refine lv_aload_n hx hb dX6_here_4 rfl (lv_at hl 0 rfl) ?_
  refine va_get (D := xD E) (ci := 6) (v := .int (u.2 4)) (C := RX6) (T := TX6) (N := 28) hx hb hts (by decide +kernel) hown hK hP 0 rfl rfl 18 (by decide) (hts (.fieldLink RX6 242 "RailOffsetsModel" "size" "I") (by decide +kernel)) (fun _ h => h) rfl dX6_here_5 ?_
  refine lv_icmp_ge (tgt := 23) hx hb dX6_here_8 rfl (fun q1 => ?_) (fun q1 => ?_)
  · have hR := hR.trans (if_pos q1)
    refine lv_iconst (v := (-1)) hx hb dX6_here_23 rfl ?_
    have hR : s_X6_here u = (-1) := hR
    exact W.iret (v := (-1)) hx hb hr (fun t ht _ => ⟨congrArg (fun z => Outcome.returned (some (Value.int z))) hR.symm, ht⟩) (fun _ h => by cases h) dX6_here_24
  · have hR := hR.trans (if_neg q1)
    refine lv_aload_n hx hb dX6_here_11 rfl (lv_at hl 0 rfl) ?_
    refine va_get (D := xD E) (ci := 6) (v := .ref (a 14)) (C := RX6) (T := TX6) (N := 28) hx hb hts (by decide +kernel) hown hK hP 0 rfl rfl 17 (by decide) (hts (.fieldLink RX6 51 "RailOffsetsModel" "tape" "[I") (by decide +kernel)) (fun _ h => h) rfl dX6_here_12 ?_
    refine lv_aload_n hx hb dX6_here_15 rfl (lv_at hl 0 rfl) ?_
    refine va_get (D := xD E) (ci := 6) (v := .int (u.2 5)) (C := RX6) (T := TX6) (N := 28) hx hb hts (by decide +kernel) hown hK hP 0 rfl rfl 22 (by decide) (hts (.fieldLink RX6 245 "RailOffsetsModel" "at" "I") (by decide +kernel)) (fun _ h => h) rfl dX6_here_16 ?_
    refine va_iald hx hb hK hP 14 0 rfl rfl (xhi hp0 q1) dX6_here_19 ?_
    refine lv_goto (tgt := 24) hx hb dX6_here_20 rfl ?_
    have hR : s_X6_here u = u.1 14 (u.2 5).toNatClampNeg := hR
    exact W.iret (v := u.1 14 (u.2 5).toNatClampNeg) hx hb hr (fun t ht _ => ⟨congrArg (fun z => Outcome.returned (some (Value.int z))) hR.symm, ht⟩) (fun _ h => by cases h) dX6_here_24
theorem xhr {u : xU} (h : ¬ s_X6_here u = -1) : (u.2 5).toInt < (u.2 4).toInt := by
  unfold s_X6_here at h
  split at h
  · exact absurd rfl h
  · rename_i q
    rw [fa_le] at q
    omega
theorem xhin {u v : xU} {lo hi : Int64} (q : ¬ s_X6_in v (s_X6_here u).toInt64 lo hi = 0) (hlo : 0 ≤ lo.toInt) : (u.2 5).toInt < (u.2 4).toInt := by
  apply xhr
  intro e
  have h := xin32 q
  rw [e, show (-1 : Int32).toInt = -1 from rfl] at h
  omega
theorem xheq {u : xU} {x : Int32} (q : s_X6_here u = x) (hx : 0 ≤ x.toInt) : (u.2 5).toInt < (u.2 4).toInt := by
  apply xhr
  intro e
  rw [← q, e, show (-1 : Int32).toInt = -1 from rfl] at hx
  omega
theorem xat1 {u : xU} (h : XTq u) (q : (u.2 5).toInt < (u.2 4).toInt) : (u.2 5 + 1).toInt = (u.2 5).toInt + 1 := by
  obtain ⟨h0, h1, h2, h3⟩ := h
  exact xinc (by omega)
theorem xtq1 {u : xU} (h : XTq u) (q : (u.2 5).toInt < (u.2 4).toInt) : XTq (uZ u 5 ((u.2 5) + 1)) := by
  have e := xat1 h q
  obtain ⟨h0, h1, h2, h3⟩ := h
  refine ⟨h0, ?_, ?_, h3⟩
  · show 0 ≤ (u.2 5 + 1).toInt
    omega
  · show (u.2 5 + 1).toInt ≤ (u.2 4).toInt
    omega
theorem xtw1 {u : xU} (h : XTw u) (q : (u.2 5).toInt < (u.2 4).toInt) : XTw (uZ u 5 ((u.2 5) + 1)) := by
  obtain ⟨h0, h1, h2⟩ := h
  have e := xat1 h0 q
  refine ⟨xtq1 h0 q, h1, ?_⟩
  show (u.2 6).toInt ≤ (u.2 5 + 1).toInt
  omega
theorem xtd1 {u : xU} (h : XTq u) (q : (u.2 5).toInt < (u.2 4).toInt) : ((u.2 4).toInt - (u.2 5 + 1).toInt).toNat < ((u.2 4).toInt - (u.2 5).toInt).toNat := by
  have e := xat1 h q
  omega
theorem xb6 {w : Int32} (h0 : ¬ w < 0) (q : ¬ 5 ≤ w) : vp_in w 6 ∧ vp_in (w + 1) 6 := by
  have h1 := xge0 h0
  rw [fa_le, show (5 : Int32).toInt = 5 from rfl] at q
  rw [vp_in_iff, vp_in_iff, xinc (by omega)]
  omega
def XWk (u : xU) (w y k : Int32) : Prop := XTw u ∧ 0 ≤ w.toInt ∧ w.toInt < 5 ∧ (u.2 6).toInt ≤ k.toInt ∧ (y = 0 ∨ (u.2 5).toInt - (u.2 6).toInt = (tBeg (w.toInt.toNat + 1)).toInt - (tBeg w.toInt.toNat).toInt) ∧ k.toInt ≤ (u.2 5).toInt
theorem tBeg_r : ∀ k, k < 6 → 0 ≤ (tBeg k).toInt ∧ (tBeg k).toInt ≤ 22 := by decide +kernel
theorem tBeg_d : ∀ k, k < 5 → 4 ≤ (tBeg (k + 1)).toInt - (tBeg k).toInt := by decide +kernel
theorem tWant_r : ∀ k, k < 5 → 0 ≤ (tWant k).toInt ∧ (tWant k).toInt ≤ 4 := by decide +kernel
theorem xbeg {u : xU} (h : XCn u) {w : Int32} (h0 : 0 ≤ w.toInt) (h1 : w.toInt < 5) : u.1 16 w.toNatClampNeg = tBeg w.toInt.toNat ∧ u.1 16 (w + 1).toNatClampNeg = tBeg (w.toInt.toNat + 1) := by
  refine ⟨h.2.1 w.toInt.toNat (by omega), ?_⟩
  have e : (w + 1).toNatClampNeg = w.toInt.toNat + 1 := by
    show (w + 1).toInt.toNat = _
    rw [xinc (by omega)]
    omega
  rw [e]
  exact h.2.1 _ (by omega)
theorem xwk0 {u : xU} {w : Int32} (h : XTw u) (h0 : ¬ w < 0) (q : ¬ 5 ≤ w) : XWk u w (if ((u.2 5) - (u.2 6)) = ((u.1 16 (w + 1).toNatClampNeg) - (u.1 16 w.toNatClampNeg)) then 1 else 0) (u.2 6) := by
  have h1 := xge0 h0
  rw [fa_le, show (5 : Int32).toInt = 5 from rfl] at q
  refine ⟨h, h1, by omega, by omega, ?_, h.2.2⟩
  split
  · rename_i e
    right
    obtain ⟨e1, e2⟩ := xbeg h.1.1 h1 (by omega)
    rw [e1, e2] at e
    have r1 := tBeg_r w.toInt.toNat (by omega)
    have r2 := tBeg_r (w.toInt.toNat + 1) (by omega)
    obtain ⟨⟨g0, g1, g2, g3⟩, g4, g5⟩ := h
    rw [fa_eq, fb_subI (by omega) (by omega), fb_subI (by omega) (by omega)] at e
    exact e
  · exact Or.inl rfl
theorem xwk1 {u : xU} {w y y2 k : Int32} (h : XWk u w y k) (q : ¬ (u.2 5) ≤ k) (q2 : ¬ y = 0) : XWk u w y2 (k + 1) := by
  obtain ⟨h1, h2, h3, h4, h5, h6⟩ := h
  rw [fa_le] at q
  have h7 := h5.resolve_left q2
  obtain ⟨⟨g0, g1, g2, g3⟩, g4, g5⟩ := h1
  have e := xinc (k := k) (by omega)
  exact ⟨⟨⟨g0, g1, g2, g3⟩, g4, g5⟩, h2, h3, by omega, Or.inr h7, by omega⟩
theorem xwkt {u : xU} {w y k : Int32} (h : XWk u w y k) (q : ¬ (u.2 5) ≤ k) : vp_in k 60 := by
  obtain ⟨⟨⟨g0, g1, g2, g3⟩, g4, g5⟩, h2, h3, h4, h5, h6⟩ := h
  rw [fa_le] at q
  rw [vp_in_iff]
  omega
theorem xwkb {u : xU} {w y k : Int32} (h : XWk u w y k) : vp_in w 6 := by
  obtain ⟨h1, h2, h3, h4, h5, h6⟩ := h
  rw [vp_in_iff]
  omega
theorem xwkl {u : xU} {w y k : Int32} (h : XWk u w y k) (q : ¬ (u.2 5) ≤ k) (q2 : ¬ y = 0) : vp_in (((u.1 16 w.toNatClampNeg) + k) - (u.2 6)) 22 := by
  obtain ⟨⟨⟨g0, g1, g2, g3⟩, g4, g5⟩, h2, h3, h4, h5, h6⟩ := h
  rw [fa_le] at q
  have h7 := h5.resolve_left q2
  have r1 := tBeg_r w.toInt.toNat (by omega)
  have r2 := tBeg_r (w.toInt.toNat + 1) (by omega)
  rw [(xbeg g0 h2 h3).1, vp_in_iff]
  have e1 : (tBeg w.toInt.toNat + k).toInt = (tBeg w.toInt.toNat).toInt + k.toInt := fb_addI (by omega) (by omega)
  rw [fb_subI (by omega) (by omega), e1]
  omega
theorem xwkn {u : xU} {w y k : Int32} (h : XWk u w y k) : ¬ w + 1 < 0 := by
  obtain ⟨h1, h2, h3, h4, h5, h6⟩ := h
  rw [fa_lt, xinc (by omega), show (0 : Int32).toInt = 0 from rfl]
  omega
def s_X6_wordHere_L75 (K : Int32 → Int32 × xU) : Nat → xU → Int32 → Int32 → Int32 → Int32 × xU
  | 0, u, _, _, _ => (0, u)
  | n + 1, u, x1, x2, x3 =>
    if (u.2 5) ≤ x3 then
      if x2 = 0 then
        K (x1 + 1)
      else
        (x1, u)
    else
      if x2 = 0 then
        if x2 = 0 then
          K (x1 + 1)
        else
          (x1, u)
      else
        s_X6_wordHere_L75 K n u x1 (if (u.1 14 x3.toNatClampNeg) = (u.1 15 (((u.1 16 x1.toNatClampNeg) + x3) - (u.2 6)).toNatClampNeg) then 1 else 0) (x3 + 1)
def s_X6_wordHere_L32 : Nat → xU → Int32 → Int32 × xU
  | 0, u, _ => (0, u)
  | n + 1, u, x1 =>
    if 5 ≤ x1 then
      (13, u)
    else
      s_X6_wordHere_L75 (fun x1 => s_X6_wordHere_L32 n u x1) (((u.2 5).toInt - (u.2 6).toInt).toNat + 1) u x1 (if ((u.2 5) - (u.2 6)) = ((u.1 16 (x1 + 1).toNatClampNeg) - (u.1 16 x1.toNatClampNeg)) then 1 else 0) (u.2 6)
def s_X6_wordHere_L0 : Nat → xU → Int32 × xU
  | 0, u => (0, u)
  | n + 1, u =>
    if (s_X6_in u ((s_X6_here u).toInt64) 97 122) = 0 then
      s_X6_wordHere_L32 (((5 : Int32).toInt - (0 : Int32).toInt).toNat + 1) u 0
    else
      s_X6_wordHere_L0 n (uZ u 5 ((u.2 5) + 1))
def s_X6_wordHere (u : xU) : Int32 × xU :=
  s_X6_wordHere_L0 (((u.2 4).toInt - (u.2 5).toInt).toNat + 1) u
abbrev rm_X6_wordHere : Room := { frames := 1, cells := 0, slots := 0, locals := 25 }
set_option maxHeartbeats 8000000 in
set_option maxRecDepth 100000 in
theorem c_X6_wordHere (l : Launch) (E : xG) (a : Nat → Nat) (u : xU)  (hp0 : XTw u) (hL : xOK E (LM a)) : xMd l E yX6_wordHere wsX6_wordHere rm_X6_wordHere (LM a) [.ref (a 0)] (wM E a u) (some (.int ((s_X6_wordHere u).1))) (wM E a ((s_X6_wordHere u).2)) := by
  refine xMd.of (cc := cX6_wordHere) (maxL := 4) (ret := (some .int)) (by decide) rfl (Nat.le_of_ble_eq_true rfl) ?_
  intro p e s m below meth c ls hAt hF hP hS hl
  obtain ⟨hx, hb, hr, hml, hown, hts, hlocks, -⟩ := hAt
  have hown : s.vm.findClass RX6 = some m.cls := hown
  have hl : lv_has ls 4 [(0, .ref (a 0))] := hl
  have hK := hF.1
  have hA := hL.2
  change W p l e rm_X6_wordHere s m ([.ref (a 0)] : List Value).toArray below meth c s.heap [] 0 0 (xQmd E below (LM a) (some (.int ((s_X6_wordHere u).1))) (wM E a ((s_X6_wordHere u).2)) ([.ref (a 0)] : List Value).toArray s) _
  have hS : va_S (· ∈ LM a) s.heap s.heap [] := hS
  have hR : s_X6_wordHere u = s_X6_wordHere u := rfl
  have L0 : ∀ (n0 : Nat) (u0 : xU) (H : Heap) (locs : List Loc) (ls : Array Slot), (XTw u0) → ((u0.2 4).toInt - (u0.2 5).toInt).toNat < n0 → s_X6_wordHere u = s_X6_wordHere_L0 n0 u0 → lv_has ls 4 [(0, .ref (a 0))] → va_P (xD E) vwCl (wM E a u0) H → va_S (· ∈ LM a) s.heap H locs → W p l e rm_X6_wordHere s m ([.ref (a 0)] : List Value).toArray below meth c H locs 0 0 (xQmd E below (LM a) (some (.int ((s_X6_wordHere u).1))) (wM E a ((s_X6_wordHere u).2)) ([.ref (a 0)] : List Value).toArray s) (F0 m 0 ls []) := by
    intro n0
    induction n0 with
    | zero => intro u0 H locs ls hI0 hM0 hR hl hP hS; exact absurd hM0 (Nat.not_lt_zero _)
    | succ n0 ih0 =>
      intro u0 H locs ls hI0 hM0 hR hl hP hS
      refine lv_aload_n hx hb dX6_wordHere_0 rfl (lv_at hl 0 rfl) ?_
      refine xRoV (nL := 4) ⟨hx, hb, hml, hown, hts⟩ (c_X6_here l E a u0  (hI0.1)) (cwV 0 hts gX6_wordHere_X6_here rfl rfl rfl ⟨rfl, hd_X6_here⟩ ⟨(Nat.le_of_ble_eq_true rfl), (Nat.le_of_ble_eq_true rfl)⟩) hF hS hA hP (va_recv (q := (RX6, TX6, 28)) hK hP (ci := 6) rfl (q0 := 0) rfl) rfl hl.1 rfl (Nat.le_of_ble_eq_true rfl) ⟨(Nat.le_of_ble_eq_true rfl), (Nat.le_of_ble_eq_true rfl)⟩ dX6_wordHere_1 ?_
      refine W.eq (g2 := F0 m 4 ls [.int (s_X6_here u0)]) rfl ?_
      refine lv_i2l hx hb dX6_wordHere_4 rfl ?_
      refine lv_ldc2 (v := 97) hx hb hown (hts (.constantLong RX6 251 (97)) (by decide +kernel)) dX6_wordHere_5 ?_
      refine lv_ldc2 (v := 122) hx hb hown (hts (.constantLong RX6 253 (122)) (by decide +kernel)) dX6_wordHere_8 ?_
      refine xRoS (nL := 4) ⟨hx, hb, hml, hown, hts⟩ (c_X6_in l E a u0 ((s_X6_here u0).toInt64) 97 122) (va_cwS 3 hts gX6_wordHere_X6_in rfl rfl rfl hd_X6_in ⟨(Nat.le_of_ble_eq_true rfl), (Nat.le_of_ble_eq_true rfl)⟩) hF hS hA hP rfl hl.1 rfl (Nat.le_of_ble_eq_true rfl) ⟨(Nat.le_of_ble_eq_true rfl), (Nat.le_of_ble_eq_true rfl)⟩ dX6_wordHere_11 ?_
      refine W.eq (g2 := F0 m 14 ls [.int (s_X6_in u0 ((s_X6_here u0).toInt64) 97 122)]) rfl ?_
      refine lv_if_eq (tgt := 30) hx hb dX6_wordHere_14 rfl (fun q1 => ?_) (fun q1 => ?_)
      · have hR := hR.trans (if_pos q1)
        refine lv_iconst (v := 0) hx hb dX6_wordHere_30 rfl ?_
        refine lv_istore_n (lv' := [(1, .int 0), (0, .ref (a 0))]) hx hb dX6_wordHere_31 rfl hl (by decide) rfl (fun ls hl => ?_)
        have L32 : ∀ (n32 : Nat) (x1 : Int32) (H : Heap) (locs : List Loc) (ls : Array Slot), (¬ x1 < 0) → (XTw u0) → ((5 : Int32).toInt - x1.toInt).toNat < n32 → s_X6_wordHere u = s_X6_wordHere_L32 n32 u0 x1 → lv_has ls 4 [(1, .int x1), (0, .ref (a 0))] → va_P (xD E) vwCl (wM E a u0) H → va_S (· ∈ LM a) s.heap H locs → W p l e rm_X6_wordHere s m ([.ref (a 0)] : List Value).toArray below meth c H locs 0 0 (xQmd E below (LM a) (some (.int ((s_X6_wordHere u).1))) (wM E a ((s_X6_wordHere u).2)) ([.ref (a 0)] : List Value).toArray s) (F0 m 32 ls []) := by
          intro n32
          induction n32 with
          | zero => intro x1 H locs ls hI0 hI1 hM32 hR hl hP hS; exact absurd hM32 (Nat.not_lt_zero _)
          | succ n32 ih32 =>
            intro x1 H locs ls hI0 hI1 hM32 hR hl hP hS
            refine lv_iload_n hx hb dX6_wordHere_32 rfl (lv_at hl 0 rfl) ?_
            refine lv_iconst (v := 5) hx hb dX6_wordHere_33 rfl ?_
            refine lv_icmp_ge (tgt := 138) hx hb dX6_wordHere_34 rfl (fun q2 => ?_) (fun q2 => ?_)
            · have hR := hR.trans (if_pos q2)
              refine lv_bipush (v := 13) hx hb dX6_wordHere_138 rfl ?_
              have hR : s_X6_wordHere u = (13, u0) := hR
              exact W.iret (v := 13) hx hb hr (fun t ht _ => by rw [hR]; dsimp only; exact ⟨⟨rfl, by rw [ht]; exact hP⟩, hS.F ht⟩) hS.2.2 dX6_wordHere_140
            · have hR := hR.trans (if_neg q2)
              refine lv_aload_n hx hb dX6_wordHere_37 rfl (lv_at hl 1 rfl) ?_
              refine va_get (D := xD E) (ci := 6) (v := .int (u0.2 5)) (C := RX6) (T := TX6) (N := 28) hx hb hts (by decide +kernel) hown hK hP 0 rfl rfl 22 (by decide) (hts (.fieldLink RX6 245 "RailOffsetsModel" "at" "I") (by decide +kernel)) (fun _ h => h) rfl dX6_wordHere_38 ?_
              refine lv_aload_n hx hb dX6_wordHere_41 rfl (lv_at hl 1 rfl) ?_
              refine va_get (D := xD E) (ci := 6) (v := .int (u0.2 6)) (C := RX6) (T := TX6) (N := 28) hx hb hts (by decide +kernel) hown hK hP 0 rfl rfl 23 (by decide) (hts (.fieldLink RX6 255 "RailOffsetsModel" "begun" "I") (by decide +kernel)) (fun _ h => h) rfl dX6_wordHere_42 ?_
              refine lv_isub hx hb dX6_wordHere_45 ?_
              refine lv_aload_n hx hb dX6_wordHere_46 rfl (lv_at hl 1 rfl) ?_
              refine va_get (D := xD E) (ci := 6) (v := .ref (a 16)) (C := RX6) (T := TX6) (N := 28) hx hb hts (by decide +kernel) hown hK hP 0 rfl rfl 20 (by decide) (hts (.fieldLink RX6 58 "RailOffsetsModel" "begins" "[I") (by decide +kernel)) (fun _ h => h) rfl dX6_wordHere_47 ?_
              refine lv_iload_n hx hb dX6_wordHere_50 rfl (lv_at hl 0 rfl) ?_
              refine lv_iconst (v := 1) hx hb dX6_wordHere_51 rfl ?_
              refine lv_iadd hx hb dX6_wordHere_52 ?_
              refine va_iald hx hb hK hP 16 0 rfl rfl ((xb6 hI0 q2).2) dX6_wordHere_53 ?_
              refine lv_aload_n hx hb dX6_wordHere_54 rfl (lv_at hl 1 rfl) ?_
              refine va_get (D := xD E) (ci := 6) (v := .ref (a 16)) (C := RX6) (T := TX6) (N := 28) hx hb hts (by decide +kernel) hown hK hP 0 rfl rfl 20 (by decide) (hts (.fieldLink RX6 58 "RailOffsetsModel" "begins" "[I") (by decide +kernel)) (fun _ h => h) rfl dX6_wordHere_55 ?_
              refine lv_iload_n hx hb dX6_wordHere_58 rfl (lv_at hl 0 rfl) ?_
              refine va_iald hx hb hK hP 16 0 rfl rfl ((xb6 hI0 q2).1) dX6_wordHere_59 ?_
              refine lv_isub hx hb dX6_wordHere_60 ?_
              have J3 : W p l e rm_X6_wordHere s m ([.ref (a 0)] : List Value).toArray below meth c H locs 0 0 (xQmd E below (LM a) (some (.int ((s_X6_wordHere u).1))) (wM E a ((s_X6_wordHere u).2)) ([.ref (a 0)] : List Value).toArray s) (F0 m 69 ls [.int (if ((u0.2 5) - (u0.2 6)) = ((u0.1 16 (x1 + 1).toNatClampNeg) - (u0.1 16 x1.toNatClampNeg)) then 1 else 0)]) := by
                refine lv_istore_n (lv' := [(2, .int (if ((u0.2 5) - (u0.2 6)) = ((u0.1 16 (x1 + 1).toNatClampNeg) - (u0.1 16 x1.toNatClampNeg)) then 1 else 0)), (1, .int x1), (0, .ref (a 0))]) hx hb dX6_wordHere_69 rfl hl (by decide) rfl (fun ls hl => ?_)
                refine lv_aload_n hx hb dX6_wordHere_70 rfl (lv_at hl 2 rfl) ?_
                refine va_get (D := xD E) (ci := 6) (v := .int (u0.2 6)) (C := RX6) (T := TX6) (N := 28) hx hb hts (by decide +kernel) hown hK hP 0 rfl rfl 23 (by decide) (hts (.fieldLink RX6 255 "RailOffsetsModel" "begun" "I") (by decide +kernel)) (fun _ h => h) rfl dX6_wordHere_71 ?_
                refine lv_istore_n (lv' := [(3, .int (u0.2 6)), (2, .int (if ((u0.2 5) - (u0.2 6)) = ((u0.1 16 (x1 + 1).toNatClampNeg) - (u0.1 16 x1.toNatClampNeg)) then 1 else 0)), (1, .int x1), (0, .ref (a 0))]) hx hb dX6_wordHere_74 rfl hl (by decide) rfl (fun ls hl => ?_)
                have L75 : ∀ (n75 : Nat) (x2 : Int32) (x3 : Int32) (H : Heap) (locs : List Loc) (ls : Array Slot), (XWk u0 x1 x2 x3) → ((u0.2 5).toInt - x3.toInt).toNat < n75 → s_X6_wordHere u = s_X6_wordHere_L75 (fun x1 => s_X6_wordHere_L32 n32 u0 x1) n75 u0 x1 x2 x3 → lv_has ls 4 [(3, .int x3), (2, .int x2), (1, .int x1), (0, .ref (a 0))] → va_P (xD E) vwCl (wM E a u0) H → va_S (· ∈ LM a) s.heap H locs → W p l e rm_X6_wordHere s m ([.ref (a 0)] : List Value).toArray below meth c H locs 0 0 (xQmd E below (LM a) (some (.int ((s_X6_wordHere u).1))) (wM E a ((s_X6_wordHere u).2)) ([.ref (a 0)] : List Value).toArray s) (F0 m 75 ls []) := by
                  intro n75
                  induction n75 with
                  | zero => intro x2 x3 H locs ls hI0 hM75 hR hl hP hS; exact absurd hM75 (Nat.not_lt_zero _)
                  | succ n75 ih75 =>
                    intro x2 x3 H locs ls hI0 hM75 hR hl hP hS
                    refine lv_iload_n hx hb dX6_wordHere_75 rfl (lv_at hl 0 rfl) ?_
                    refine lv_aload_n hx hb dX6_wordHere_76 rfl (lv_at hl 3 rfl) ?_
                    refine va_get (D := xD E) (ci := 6) (v := .int (u0.2 5)) (C := RX6) (T := TX6) (N := 28) hx hb hts (by decide +kernel) hown hK hP 0 rfl rfl 22 (by decide) (hts (.fieldLink RX6 245 "RailOffsetsModel" "at" "I") (by decide +kernel)) (fun _ h => h) rfl dX6_wordHere_77 ?_
                    refine lv_icmp_ge (tgt := 126) hx hb dX6_wordHere_80 rfl (fun q5 => ?_) (fun q5 => ?_)
                    · have hR := hR.trans (if_pos q5)
                      refine lv_iload_n hx hb dX6_wordHere_126 rfl (lv_at hl 1 rfl) ?_
                      refine lv_if_eq (tgt := 132) hx hb dX6_wordHere_127 rfl (fun q6 => ?_) (fun q6 => ?_)
                      · have hR := hR.trans (if_pos q6)
                        refine lv_iinc (k := 2) (v := x1 + 1) (lv' := [(1, .int (x1 + 1)), (3, .int x3), (2, .int x2), (0, .ref (a 0))]) hx hb dX6_wordHere_132 hl rfl rfl (by decide) rfl (fun ls hl => ?_)
                        refine lv_goto (tgt := 32) hx hb dX6_wordHere_135 rfl ?_
                        exact ih32 (x1 + 1) _ _ _ (xwkn hI0) (hI0.1) (Nat.lt_of_lt_of_le (xupc q2) (Nat.le_of_lt_succ hM32)) hR (lv_sub hl [0, 3] rfl) hP hS
                      · have hR := hR.trans (if_neg q6)
                        refine lv_iload_n hx hb dX6_wordHere_130 rfl (lv_at hl 2 rfl) ?_
                        have hR : s_X6_wordHere u = (x1, u0) := hR
                        exact W.iret (v := x1) hx hb hr (fun t ht _ => by rw [hR]; dsimp only; exact ⟨⟨rfl, by rw [ht]; exact hP⟩, hS.F ht⟩) hS.2.2 dX6_wordHere_131
                    · have hR := hR.trans (if_neg q5)
                      refine lv_iload_n hx hb dX6_wordHere_83 rfl (lv_at hl 1 rfl) ?_
                      refine lv_if_eq (tgt := 126) hx hb dX6_wordHere_84 rfl (fun q7 => ?_) (fun q7 => ?_)
                      · have hR := hR.trans (if_pos q7)
                        refine lv_iload_n hx hb dX6_wordHere_126 rfl (lv_at hl 1 rfl) ?_
                        refine lv_if_eq (tgt := 132) hx hb dX6_wordHere_127 rfl (fun q8 => ?_) (fun q8 => ?_)
                        · have hR := hR.trans (if_pos q8)
                          refine lv_iinc (k := 2) (v := x1 + 1) (lv' := [(1, .int (x1 + 1)), (3, .int x3), (2, .int x2), (0, .ref (a 0))]) hx hb dX6_wordHere_132 hl rfl rfl (by decide) rfl (fun ls hl => ?_)
                          refine lv_goto (tgt := 32) hx hb dX6_wordHere_135 rfl ?_
                          exact ih32 (x1 + 1) _ _ _ (xwkn hI0) (hI0.1) (Nat.lt_of_lt_of_le (xupc q2) (Nat.le_of_lt_succ hM32)) hR (lv_sub hl [0, 3] rfl) hP hS
                        · have hR := hR.trans (if_neg q8)
                          refine lv_iload_n hx hb dX6_wordHere_130 rfl (lv_at hl 2 rfl) ?_
                          have hR : s_X6_wordHere u = (x1, u0) := hR
                          exact W.iret (v := x1) hx hb hr (fun t ht _ => by rw [hR]; dsimp only; exact ⟨⟨rfl, by rw [ht]; exact hP⟩, hS.F ht⟩) hS.2.2 dX6_wordHere_131
                      · have hR := hR.trans (if_neg q7)
                        refine lv_aload_n hx hb dX6_wordHere_87 rfl (lv_at hl 3 rfl) ?_
                        refine va_get (D := xD E) (ci := 6) (v := .ref (a 14)) (C := RX6) (T := TX6) (N := 28) hx hb hts (by decide +kernel) hown hK hP 0 rfl rfl 17 (by decide) (hts (.fieldLink RX6 51 "RailOffsetsModel" "tape" "[I") (by decide +kernel)) (fun _ h => h) rfl dX6_wordHere_88 ?_
                        refine lv_iload_n hx hb dX6_wordHere_91 rfl (lv_at hl 0 rfl) ?_
                        refine va_iald hx hb hK hP 14 0 rfl rfl (xwkt hI0 q5) dX6_wordHere_92 ?_
                        refine lv_aload_n hx hb dX6_wordHere_93 rfl (lv_at hl 3 rfl) ?_
                        refine va_get (D := xD E) (ci := 6) (v := .ref (a 15)) (C := RX6) (T := TX6) (N := 28) hx hb hts (by decide +kernel) hown hK hP 0 rfl rfl 19 (by decide) (hts (.fieldLink RX6 54 "RailOffsetsModel" "letters" "[C") (by decide +kernel)) (fun _ h => h) rfl dX6_wordHere_94 ?_
                        refine lv_aload_n hx hb dX6_wordHere_97 rfl (lv_at hl 3 rfl) ?_
                        refine va_get (D := xD E) (ci := 6) (v := .ref (a 16)) (C := RX6) (T := TX6) (N := 28) hx hb hts (by decide +kernel) hown hK hP 0 rfl rfl 20 (by decide) (hts (.fieldLink RX6 58 "RailOffsetsModel" "begins" "[I") (by decide +kernel)) (fun _ h => h) rfl dX6_wordHere_98 ?_
                        refine lv_iload_n hx hb dX6_wordHere_101 rfl (lv_at hl 2 rfl) ?_
                        refine va_iald hx hb hK hP 16 0 rfl rfl (xwkb hI0) dX6_wordHere_102 ?_
                        refine lv_iload_n hx hb dX6_wordHere_103 rfl (lv_at hl 0 rfl) ?_
                        refine lv_iadd hx hb dX6_wordHere_104 ?_
                        refine lv_aload_n hx hb dX6_wordHere_105 rfl (lv_at hl 3 rfl) ?_
                        refine va_get (D := xD E) (ci := 6) (v := .int (u0.2 6)) (C := RX6) (T := TX6) (N := 28) hx hb hts (by decide +kernel) hown hK hP 0 rfl rfl 23 (by decide) (hts (.fieldLink RX6 255 "RailOffsetsModel" "begun" "I") (by decide +kernel)) (fun _ h => h) rfl dX6_wordHere_106 ?_
                        refine lv_isub hx hb dX6_wordHere_109 ?_
                        refine va_cald hx hb hK hP 15 2 rfl rfl (xwkl hI0 q5 q7) dX6_wordHere_110 ?_
                        have J9 : W p l e rm_X6_wordHere s m ([.ref (a 0)] : List Value).toArray below meth c H locs 0 0 (xQmd E below (LM a) (some (.int ((s_X6_wordHere u).1))) (wM E a ((s_X6_wordHere u).2)) ([.ref (a 0)] : List Value).toArray s) (F0 m 119 ls [.int (if (u0.1 14 x3.toNatClampNeg) = (u0.1 15 (((u0.1 16 x1.toNatClampNeg) + x3) - (u0.2 6)).toNatClampNeg) then 1 else 0)]) := by
                          refine lv_istore_n (lv' := [(2, .int (if (u0.1 14 x3.toNatClampNeg) = (u0.1 15 (((u0.1 16 x1.toNatClampNeg) + x3) - (u0.2 6)).toNatClampNeg) then 1 else 0)), (3, .int x3), (1, .int x1), (0, .ref (a 0))]) hx hb dX6_wordHere_119 rfl hl (by decide) rfl (fun ls hl => ?_)
                          refine lv_iinc (k := 1) (v := x3 + 1) (lv' := [(3, .int (x3 + 1)), (2, .int (if (u0.1 14 x3.toNatClampNeg) = (u0.1 15 (((u0.1 16 x1.toNatClampNeg) + x3) - (u0.2 6)).toNatClampNeg) then 1 else 0)), (1, .int x1), (0, .ref (a 0))]) hx hb dX6_wordHere_120 hl rfl rfl (by decide) rfl (fun ls hl => ?_)
                          refine lv_goto (tgt := 75) hx hb dX6_wordHere_123 rfl ?_
                          exact ih75 (if (u0.1 14 x3.toNatClampNeg) = (u0.1 15 (((u0.1 16 x1.toNatClampNeg) + x3) - (u0.2 6)).toNatClampNeg) then 1 else 0) (x3 + 1) _ _ _ (xwk1 hI0 q5 q7) (Nat.lt_of_lt_of_le (xupc q5) (Nat.le_of_lt_succ hM75)) hR (lv_sub hl [0, 1, 2, 3] rfl) hP hS
                        refine lv_icmp_ne (tgt := 118) hx hb dX6_wordHere_111 rfl (fun q10 => ?_) (fun q10 => ?_)
                        · refine lv_iconst (v := 0) hx hb dX6_wordHere_118 rfl ?_
                          exact W.eq (congrArg (fun z => F0 m 119 ls [.int z]) (if_neg q10).symm) J9
                        · refine lv_iconst (v := 1) hx hb dX6_wordHere_114 rfl ?_
                          refine lv_goto (tgt := 119) hx hb dX6_wordHere_115 rfl ?_
                          exact W.eq (congrArg (fun z => F0 m 119 ls [.int z]) (if_pos q10).symm) J9
                exact L75 (((u0.2 5).toInt - (u0.2 6).toInt).toNat + 1) (if ((u0.2 5) - (u0.2 6)) = ((u0.1 16 (x1 + 1).toNatClampNeg) - (u0.1 16 x1.toNatClampNeg)) then 1 else 0) (u0.2 6) _ _ ls (xwk0 hI1 hI0 q2) (Nat.lt_succ_self _) hR hl hP hS
              refine lv_icmp_ne (tgt := 68) hx hb dX6_wordHere_61 rfl (fun q4 => ?_) (fun q4 => ?_)
              · refine lv_iconst (v := 0) hx hb dX6_wordHere_68 rfl ?_
                exact W.eq (congrArg (fun z => F0 m 69 ls [.int z]) (if_neg q4).symm) J3
              · refine lv_iconst (v := 1) hx hb dX6_wordHere_64 rfl ?_
                refine lv_goto (tgt := 69) hx hb dX6_wordHere_65 rfl ?_
                exact W.eq (congrArg (fun z => F0 m 69 ls [.int z]) (if_pos q4).symm) J3
        exact L32 (((5 : Int32).toInt - (0 : Int32).toInt).toNat + 1) 0 _ _ ls (by decide) (hI0) (Nat.lt_succ_self _) hR hl hP hS
      · have hR := hR.trans (if_neg q1)
        refine lv_aload_n hx hb dX6_wordHere_17 rfl (lv_at hl 0 rfl) ?_
        refine lv_dup hx hb dX6_wordHere_18 rfl ?_
        refine va_get (D := xD E) (ci := 6) (v := .int (u0.2 5)) (C := RX6) (T := TX6) (N := 28) hx hb hts (by decide +kernel) hown hK hP 0 rfl rfl 22 (by decide) (hts (.fieldLink RX6 245 "RailOffsetsModel" "at" "I") (by decide +kernel)) (fun _ h => h) rfl dX6_wordHere_19 ?_
        refine lv_iconst (v := 1) hx hb dX6_wordHere_22 rfl ?_
        refine lv_iadd hx hb dX6_wordHere_23 ?_
        refine va_put (D := xD E) (ci := 6) (v := .int ((u0.2 5) + 1)) (ty := .int) (C := RX6) (T := TX6) (N := 28) hx hb hts (by decide +kernel) tyX6 tyX6_ok nmX6 hown hK hP (xD_of (ws := wM E a u0) (A := (· ∈ LM a)) hL.1 (fun _ h => h)) hS 0 rfl rfl 22 (by decide) (hts (.fieldLink RX6 245 "RailOffsetsModel" "at" "I") (by decide +kernel)) (fun _ h => h) rfl (by decide +kernel) rfl rfl (Nat.le_of_ble_eq_true rfl) dX6_wordHere_24 (fun H locs hP _ hS => ?_)
        have hP : va_P (xD E) vwCl (wM E a (uZ u0 5 ((u0.2 5) + 1))) H := hP
        refine lv_goto (tgt := 0) hx hb dX6_wordHere_27 rfl ?_
        exact ih0 (uZ u0 5 ((u0.2 5) + 1)) _ _ _ (xtw1 hI0 (xhin q1 (by decide))) (Nat.lt_of_lt_of_le (xtd1 hI0.1 (xhin q1 (by decide))) (Nat.le_of_lt_succ hM0)) hR (lv_sub hl [0] rfl) hP hS
  exact L0 (((u.2 4).toInt - (u.2 5).toInt).toNat + 1) u _ _ ls (hp0) (Nat.lt_succ_self _) hR hl hP hS
theorem xnh0 {u : xU} (h : XTq u) : XTq (uZ (uZ u 5 ((u.2 5) + (if (if (s_X6_here u) = 45 then (1 : Int32) else 0) = 0 then 0 else 1))) 8 0) := by
  by_cases e : s_X6_here u = 45
  · rw [if_pos e]
    exact xtq1 h (xheq e (by decide))
  · rw [if_neg e]
    show XTq (uZ (uZ u 5 ((u.2 5) + 0)) 8 0)
    have e2 : u.2 5 + 0 = u.2 5 := Int32.add_zero _
    obtain ⟨h0, h1, h2, h3⟩ := h
    refine ⟨h0, ?_, ?_, h3⟩
    · show 0 ≤ (u.2 5 + 0).toInt
      rw [e2]; exact h1
    · show (u.2 5 + 0).toInt ≤ _
      rw [e2]; exact h2
theorem xtw0 {u : xU} (h : XTq u) : XTw (uZ u 6 (u.2 5)) := ⟨h, h.2.1, Int.le_refl _⟩
def s_X6_numberHere_L40 : Nat → xU → Int32 → Int32 → Int32 × xU
  | 0, u, _, _ => (0, u)
  | n + 1, u, x1, x2 =>
    if (s_X6_in u ((s_X6_here u).toInt64) 48 57) = 0 then
      if (s_X6_in u x2.toInt64 1 3) = 0 then
        (13, uZ u 8 (if x1 = 0 then u.2 8 else -(u.2 8)))
      else
        (10, uZ u 8 (if x1 = 0 then u.2 8 else -(u.2 8)))
    else
      s_X6_numberHere_L40 n (uZ (uZ u 8 (if 3 ≤ x2 then u.2 8 else ((10 * (u.2 8)) + (s_X6_here u)) - 48)) 5 ((u.2 5) + 1)) x1 (x2 + 1)
def s_X6_numberHere (u : xU) : Int32 × xU :=
  s_X6_numberHere_L40 ((((uZ (uZ u 5 ((u.2 5) + (if (if (s_X6_here u) = 45 then 1 else 0) = 0 then 0 else 1))) 8 0).2 4).toInt - ((uZ (uZ u 5 ((u.2 5) + (if (if (s_X6_here u) = 45 then 1 else 0) = 0 then 0 else 1))) 8 0).2 5).toInt).toNat + 1) (uZ (uZ u 5 ((u.2 5) + (if (if (s_X6_here u) = 45 then 1 else 0) = 0 then 0 else 1))) 8 0) (if (s_X6_here u) = 45 then 1 else 0) 0
abbrev rm_X6_numberHere : Room := { frames := 1, cells := 0, slots := 0, locals := 25 }
set_option maxHeartbeats 8000000 in
set_option maxRecDepth 100000 in
theorem c_X6_numberHere (l : Launch) (E : xG) (a : Nat → Nat) (u : xU)  (hp0 : XTq u) (hL : xOK E (LM a)) : xMd l E yX6_numberHere wsX6_numberHere rm_X6_numberHere (LM a) [.ref (a 0)] (wM E a u) (some (.int ((s_X6_numberHere u).1))) (wM E a ((s_X6_numberHere u).2)) := by
  refine xMd.of (cc := cX6_numberHere) (maxL := 3) (ret := (some .int)) (by decide) rfl (Nat.le_of_ble_eq_true rfl) ?_
  intro p e s m below meth c ls hAt hF hP hS hl
  obtain ⟨hx, hb, hr, hml, hown, hts, hlocks, -⟩ := hAt
  have hown : s.vm.findClass RX6 = some m.cls := hown
  have hl : lv_has ls 3 [(0, .ref (a 0))] := hl
  have hK := hF.1
  have hA := hL.2
  change W p l e rm_X6_numberHere s m ([.ref (a 0)] : List Value).toArray below meth c s.heap [] 0 0 (xQmd E below (LM a) (some (.int ((s_X6_numberHere u).1))) (wM E a ((s_X6_numberHere u).2)) ([.ref (a 0)] : List Value).toArray s) _
  have hS : va_S (· ∈ LM a) s.heap s.heap [] := hS
  have hR : s_X6_numberHere u = s_X6_numberHere u := rfl
  refine lv_aload_n hx hb dX6_numberHere_0 rfl (lv_at hl 0 rfl) ?_
  refine xRoV (nL := 3) ⟨hx, hb, hml, hown, hts⟩ (c_X6_here l E a u  (hp0)) (cwV 0 hts gX6_numberHere_X6_here rfl rfl rfl ⟨rfl, hd_X6_here⟩ ⟨(Nat.le_of_ble_eq_true rfl), (Nat.le_of_ble_eq_true rfl)⟩) hF hS hA hP (va_recv (q := (RX6, TX6, 28)) hK hP (ci := 6) rfl (q0 := 0) rfl) rfl hl.1 rfl (Nat.le_of_ble_eq_true rfl) ⟨(Nat.le_of_ble_eq_true rfl), (Nat.le_of_ble_eq_true rfl)⟩ dX6_numberHere_1 ?_
  refine W.eq (g2 := F0 m 4 ls [.int (s_X6_here u)]) rfl ?_
  refine lv_bipush (v := 45) hx hb dX6_numberHere_4 rfl ?_
  have J1 : W p l e rm_X6_numberHere s m ([.ref (a 0)] : List Value).toArray below meth c s.heap [] 0 0 (xQmd E below (LM a) (some (.int ((s_X6_numberHere u).1))) (wM E a ((s_X6_numberHere u).2)) ([.ref (a 0)] : List Value).toArray s) (F0 m 14 ls [.int (if (s_X6_here u) = 45 then 1 else 0)]) := by
    refine lv_istore_n (lv' := [(1, .int (if (s_X6_here u) = 45 then 1 else 0)), (0, .ref (a 0))]) hx hb dX6_numberHere_14 rfl hl (by decide) rfl (fun ls hl => ?_)
    refine lv_aload_n hx hb dX6_numberHere_15 rfl (lv_at hl 1 rfl) ?_
    refine lv_dup hx hb dX6_numberHere_16 rfl ?_
    refine va_get (D := xD E) (ci := 6) (v := .int (u.2 5)) (C := RX6) (T := TX6) (N := 28) hx hb hts (by decide +kernel) hown hK hP 0 rfl rfl 22 (by decide) (hts (.fieldLink RX6 245 "RailOffsetsModel" "at" "I") (by decide +kernel)) (fun _ h => h) rfl dX6_numberHere_17 ?_
    refine lv_iload_n hx hb dX6_numberHere_20 rfl (lv_at hl 0 rfl) ?_
    have J3 : W p l e rm_X6_numberHere s m ([.ref (a 0)] : List Value).toArray below meth c s.heap [] 0 0 (xQmd E below (LM a) (some (.int ((s_X6_numberHere u).1))) (wM E a ((s_X6_numberHere u).2)) ([.ref (a 0)] : List Value).toArray s) (F0 m 29 ls [.int (if (if (s_X6_here u) = 45 then 1 else 0) = 0 then 0 else 1), .int (u.2 5), .ref (a 0)]) := by
      refine lv_iadd hx hb dX6_numberHere_29 ?_
      refine va_put (D := xD E) (ci := 6) (v := .int ((u.2 5) + (if (if (s_X6_here u) = 45 then 1 else 0) = 0 then 0 else 1))) (ty := .int) (C := RX6) (T := TX6) (N := 28) hx hb hts (by decide +kernel) tyX6 tyX6_ok nmX6 hown hK hP (xD_of (ws := wM E a u) (A := (· ∈ LM a)) hL.1 (fun _ h => h)) hS 0 rfl rfl 22 (by decide) (hts (.fieldLink RX6 245 "RailOffsetsModel" "at" "I") (by decide +kernel)) (fun _ h => h) rfl (by decide +kernel) rfl rfl (Nat.le_of_ble_eq_true rfl) dX6_numberHere_30 (fun H locs hP _ hS => ?_)
      have hP : va_P (xD E) vwCl (wM E a (uZ u 5 ((u.2 5) + (if (if (s_X6_here u) = 45 then 1 else 0) = 0 then 0 else 1)))) H := hP
      refine lv_iconst (v := 0) hx hb dX6_numberHere_33 rfl ?_
      refine lv_istore_n (lv' := [(2, .int 0), (1, .int (if (s_X6_here u) = 45 then 1 else 0)), (0, .ref (a 0))]) hx hb dX6_numberHere_34 rfl hl (by decide) rfl (fun ls hl => ?_)
      refine lv_aload_n hx hb dX6_numberHere_35 rfl (lv_at hl 2 rfl) ?_
      refine lv_iconst (v := 0) hx hb dX6_numberHere_36 rfl ?_
      refine va_put (D := xD E) (ci := 6) (v := .int 0) (ty := .int) (C := RX6) (T := TX6) (N := 28) hx hb hts (by decide +kernel) tyX6 tyX6_ok nmX6 hown hK hP (xD_of (ws := wM E a (uZ u 5 ((u.2 5) + (if (if (s_X6_here u) = 45 then 1 else 0) = 0 then 0 else 1)))) (A := (· ∈ LM a)) hL.1 (fun _ h => h)) hS 0 rfl rfl 25 (by decide) (hts (.fieldLink RX6 258 "RailOffsetsModel" "number" "I") (by decide +kernel)) (fun _ h => h) rfl (by decide +kernel) rfl rfl (Nat.le_of_ble_eq_true rfl) dX6_numberHere_37 (fun H locs hP _ hS => ?_)
      have hP : va_P (xD E) vwCl (wM E a (uZ (uZ u 5 ((u.2 5) + (if (if (s_X6_here u) = 45 then 1 else 0) = 0 then 0 else 1))) 8 0)) H := hP
      have L40 : ∀ (n40 : Nat) (u40 : xU) (x2 : Int32) (H : Heap) (locs : List Loc) (ls : Array Slot), (XTq u40) → ((u40.2 4).toInt - (u40.2 5).toInt).toNat < n40 → s_X6_numberHere u = s_X6_numberHere_L40 n40 u40 (if (s_X6_here u) = 45 then 1 else 0) x2 → lv_has ls 3 [(2, .int x2), (1, .int (if (s_X6_here u) = 45 then 1 else 0)), (0, .ref (a 0))] → va_P (xD E) vwCl (wM E a u40) H → va_S (· ∈ LM a) s.heap H locs → W p l e rm_X6_numberHere s m ([.ref (a 0)] : List Value).toArray below meth c H locs 0 0 (xQmd E below (LM a) (some (.int ((s_X6_numberHere u).1))) (wM E a ((s_X6_numberHere u).2)) ([.ref (a 0)] : List Value).toArray s) (F0 m 40 ls []) := by
        intro n40
        induction n40 with
        | zero => intro u40 x2 H locs ls hI0 hM40 hR hl hP hS; exact absurd hM40 (Nat.not_lt_zero _)
        | succ n40 ih40 =>
          intro u40 x2 H locs ls hI0 hM40 hR hl hP hS
          refine lv_aload_n hx hb dX6_numberHere_40 rfl (lv_at hl 2 rfl) ?_
          refine xRoV (nL := 3) ⟨hx, hb, hml, hown, hts⟩ (c_X6_here l E a u40  (hI0)) (cwV 0 hts gX6_numberHere_X6_here rfl rfl rfl ⟨rfl, hd_X6_here⟩ ⟨(Nat.le_of_ble_eq_true rfl), (Nat.le_of_ble_eq_true rfl)⟩) hF hS hA hP (va_recv (q := (RX6, TX6, 28)) hK hP (ci := 6) rfl (q0 := 0) rfl) rfl hl.1 rfl (Nat.le_of_ble_eq_true rfl) ⟨(Nat.le_of_ble_eq_true rfl), (Nat.le_of_ble_eq_true rfl)⟩ dX6_numberHere_41 ?_
          refine W.eq (g2 := F0 m 44 ls [.int (s_X6_here u40)]) rfl ?_
          refine lv_i2l hx hb dX6_numberHere_44 rfl ?_
          refine lv_ldc2 (v := 48) hx hb hown (hts (.constantLong RX6 261 (48)) (by decide +kernel)) dX6_numberHere_45 ?_
          refine lv_ldc2 (v := 57) hx hb hown (hts (.constantLong RX6 263 (57)) (by decide +kernel)) dX6_numberHere_48 ?_
          refine xRoS (nL := 3) ⟨hx, hb, hml, hown, hts⟩ (c_X6_in l E a u40 ((s_X6_here u40).toInt64) 48 57) (va_cwS 3 hts gX6_numberHere_X6_in rfl rfl rfl hd_X6_in ⟨(Nat.le_of_ble_eq_true rfl), (Nat.le_of_ble_eq_true rfl)⟩) hF hS hA hP rfl hl.1 rfl (Nat.le_of_ble_eq_true rfl) ⟨(Nat.le_of_ble_eq_true rfl), (Nat.le_of_ble_eq_true rfl)⟩ dX6_numberHere_51 ?_
          refine W.eq (g2 := F0 m 54 ls [.int (s_X6_in u40 ((s_X6_here u40).toInt64) 48 57)]) rfl ?_
          refine lv_if_eq (tgt := 104) hx hb dX6_numberHere_54 rfl (fun q5 => ?_) (fun q5 => ?_)
          · have hR := hR.trans (if_pos q5)
            refine lv_aload_n hx hb dX6_numberHere_104 rfl (lv_at hl 2 rfl) ?_
            refine lv_iload_n hx hb dX6_numberHere_105 rfl (lv_at hl 1 rfl) ?_
            have J6 : W p l e rm_X6_numberHere s m ([.ref (a 0)] : List Value).toArray below meth c H locs 0 0 (xQmd E below (LM a) (some (.int ((s_X6_numberHere u).1))) (wM E a ((s_X6_numberHere u).2)) ([.ref (a 0)] : List Value).toArray s) (F0 m 121 ls [.int (if (if (s_X6_here u) = 45 then 1 else 0) = 0 then u40.2 8 else -(u40.2 8)), .ref (a 0)]) := by
              refine va_put (D := xD E) (ci := 6) (v := .int (if (if (s_X6_here u) = 45 then 1 else 0) = 0 then u40.2 8 else -(u40.2 8))) (ty := .int) (C := RX6) (T := TX6) (N := 28) hx hb hts (by decide +kernel) tyX6 tyX6_ok nmX6 hown hK hP (xD_of (ws := wM E a u40) (A := (· ∈ LM a)) hL.1 (fun _ h => h)) hS 0 rfl rfl 25 (by decide) (hts (.fieldLink RX6 258 "RailOffsetsModel" "number" "I") (by decide +kernel)) (fun _ h => h) rfl (by decide +kernel) rfl rfl (Nat.le_of_ble_eq_true rfl) dX6_numberHere_121 (fun H locs hP _ hS => ?_)
              have hP : va_P (xD E) vwCl (wM E a (uZ u40 8 (if (if (s_X6_here u) = 45 then 1 else 0) = 0 then u40.2 8 else -(u40.2 8)))) H := hP
              refine lv_iload_n hx hb dX6_numberHere_124 rfl (lv_at hl 0 rfl) ?_
              refine lv_i2l hx hb dX6_numberHere_125 rfl ?_
              refine lv_lconst (v := 1) hx hb dX6_numberHere_126 rfl ?_
              refine lv_ldc2 (v := 3) hx hb hown (hts (.constantLong RX6 89 (3)) (by decide +kernel)) dX6_numberHere_127 ?_
              refine xRoS (nL := 3) ⟨hx, hb, hml, hown, hts⟩ (c_X6_in l E a (uZ u40 8 (if (if (s_X6_here u) = 45 then 1 else 0) = 0 then u40.2 8 else -(u40.2 8))) x2.toInt64 1 3) (va_cwS 3 hts gX6_numberHere_X6_in rfl rfl rfl hd_X6_in ⟨(Nat.le_of_ble_eq_true rfl), (Nat.le_of_ble_eq_true rfl)⟩) hF hS hA hP rfl hl.1 rfl (Nat.le_of_ble_eq_true rfl) ⟨(Nat.le_of_ble_eq_true rfl), (Nat.le_of_ble_eq_true rfl)⟩ dX6_numberHere_130 ?_
              refine W.eq (g2 := F0 m 133 ls [.int (s_X6_in u40 x2.toInt64 1 3)]) rfl ?_
              refine lv_if_eq (tgt := 141) hx hb dX6_numberHere_133 rfl (fun q8 => ?_) (fun q8 => ?_)
              · have hR := hR.trans (if_pos q8)
                refine lv_bipush (v := 13) hx hb dX6_numberHere_141 rfl ?_
                have hR : s_X6_numberHere u = (13, uZ u40 8 (if (if (s_X6_here u) = 45 then 1 else 0) = 0 then u40.2 8 else -(u40.2 8))) := hR
                exact W.iret (v := 13) hx hb hr (fun t ht _ => by rw [hR]; dsimp only; exact ⟨⟨rfl, by rw [ht]; exact hP⟩, hS.F ht⟩) hS.2.2 dX6_numberHere_143
              · have hR := hR.trans (if_neg q8)
                refine lv_bipush (v := 10) hx hb dX6_numberHere_136 rfl ?_
                refine lv_goto (tgt := 143) hx hb dX6_numberHere_138 rfl ?_
                have hR : s_X6_numberHere u = (10, uZ u40 8 (if (if (s_X6_here u) = 45 then 1 else 0) = 0 then u40.2 8 else -(u40.2 8))) := hR
                exact W.iret (v := 10) hx hb hr (fun t ht _ => by rw [hR]; dsimp only; exact ⟨⟨rfl, by rw [ht]; exact hP⟩, hS.F ht⟩) hS.2.2 dX6_numberHere_143
            refine lv_if_eq (tgt := 117) hx hb dX6_numberHere_106 rfl (fun q7 => ?_) (fun q7 => ?_)
            · refine lv_aload_n hx hb dX6_numberHere_117 rfl (lv_at hl 2 rfl) ?_
              refine va_get (D := xD E) (ci := 6) (v := .int (u40.2 8)) (C := RX6) (T := TX6) (N := 28) hx hb hts (by decide +kernel) hown hK hP 0 rfl rfl 25 (by decide) (hts (.fieldLink RX6 258 "RailOffsetsModel" "number" "I") (by decide +kernel)) (fun _ h => h) rfl dX6_numberHere_118 ?_
              exact W.eq (congrArg (fun z => F0 m 121 ls [.int z, .ref (a 0)]) (if_pos q7).symm) J6
            · refine lv_aload_n hx hb dX6_numberHere_109 rfl (lv_at hl 2 rfl) ?_
              refine va_get (D := xD E) (ci := 6) (v := .int (u40.2 8)) (C := RX6) (T := TX6) (N := 28) hx hb hts (by decide +kernel) hown hK hP 0 rfl rfl 25 (by decide) (hts (.fieldLink RX6 258 "RailOffsetsModel" "number" "I") (by decide +kernel)) (fun _ h => h) rfl dX6_numberHere_110 ?_
              refine lv_ineg hx hb dX6_numberHere_113 ?_
              refine lv_goto (tgt := 121) hx hb dX6_numberHere_114 rfl ?_
              exact W.eq (congrArg (fun z => F0 m 121 ls [.int z, .ref (a 0)]) (if_neg q7).symm) J6
          · have hR := hR.trans (if_neg q5)
            refine lv_aload_n hx hb dX6_numberHere_57 rfl (lv_at hl 2 rfl) ?_
            refine lv_iload_n hx hb dX6_numberHere_58 rfl (lv_at hl 0 rfl) ?_
            refine lv_iconst (v := 3) hx hb dX6_numberHere_59 rfl ?_
            have J9 : W p l e rm_X6_numberHere s m ([.ref (a 0)] : List Value).toArray below meth c H locs 0 0 (xQmd E below (LM a) (some (.int ((s_X6_numberHere u).1))) (wM E a ((s_X6_numberHere u).2)) ([.ref (a 0)] : List Value).toArray s) (F0 m 85 ls [.int (if 3 ≤ x2 then u40.2 8 else ((10 * (u40.2 8)) + (s_X6_here u40)) - 48), .ref (a 0)]) := by
              refine va_put (D := xD E) (ci := 6) (v := .int (if 3 ≤ x2 then u40.2 8 else ((10 * (u40.2 8)) + (s_X6_here u40)) - 48)) (ty := .int) (C := RX6) (T := TX6) (N := 28) hx hb hts (by decide +kernel) tyX6 tyX6_ok nmX6 hown hK hP (xD_of (ws := wM E a u40) (A := (· ∈ LM a)) hL.1 (fun _ h => h)) hS 0 rfl rfl 25 (by decide) (hts (.fieldLink RX6 258 "RailOffsetsModel" "number" "I") (by decide +kernel)) (fun _ h => h) rfl (by decide +kernel) rfl rfl (Nat.le_of_ble_eq_true rfl) dX6_numberHere_85 (fun H locs hP _ hS => ?_)
              have hP : va_P (xD E) vwCl (wM E a (uZ u40 8 (if 3 ≤ x2 then u40.2 8 else ((10 * (u40.2 8)) + (s_X6_here u40)) - 48))) H := hP
              refine lv_iinc (k := 0) (v := x2 + 1) (lv' := [(2, .int (x2 + 1)), (1, .int (if (s_X6_here u) = 45 then 1 else 0)), (0, .ref (a 0))]) hx hb dX6_numberHere_88 hl rfl rfl (by decide) rfl (fun ls hl => ?_)
              refine lv_aload_n hx hb dX6_numberHere_91 rfl (lv_at hl 2 rfl) ?_
              refine lv_dup hx hb dX6_numberHere_92 rfl ?_
              refine va_get (D := xD E) (ci := 6) (v := .int ((uZ u40 8 (if 3 ≤ x2 then u40.2 8 else ((10 * (u40.2 8)) + (s_X6_here u40)) - 48)).2 5)) (C := RX6) (T := TX6) (N := 28) hx hb hts (by decide +kernel) hown hK hP 0 rfl rfl 22 (by decide) (hts (.fieldLink RX6 245 "RailOffsetsModel" "at" "I") (by decide +kernel)) (fun _ h => h) rfl dX6_numberHere_93 ?_
              refine W.eq (g2 := F0 m 96 ls [.int (u40.2 5), .ref (a 0)]) rfl ?_
              refine lv_iconst (v := 1) hx hb dX6_numberHere_96 rfl ?_
              refine lv_iadd hx hb dX6_numberHere_97 ?_
              refine va_put (D := xD E) (ci := 6) (v := .int ((u40.2 5) + 1)) (ty := .int) (C := RX6) (T := TX6) (N := 28) hx hb hts (by decide +kernel) tyX6 tyX6_ok nmX6 hown hK hP (xD_of (ws := wM E a (uZ u40 8 (if 3 ≤ x2 then u40.2 8 else ((10 * (u40.2 8)) + (s_X6_here u40)) - 48))) (A := (· ∈ LM a)) hL.1 (fun _ h => h)) hS 0 rfl rfl 22 (by decide) (hts (.fieldLink RX6 245 "RailOffsetsModel" "at" "I") (by decide +kernel)) (fun _ h => h) rfl (by decide +kernel) rfl rfl (Nat.le_of_ble_eq_true rfl) dX6_numberHere_98 (fun H locs hP _ hS => ?_)
              have hP : va_P (xD E) vwCl (wM E a (uZ (uZ u40 8 (if 3 ≤ x2 then u40.2 8 else ((10 * (u40.2 8)) + (s_X6_here u40)) - 48)) 5 ((u40.2 5) + 1))) H := hP
              refine lv_goto (tgt := 40) hx hb dX6_numberHere_101 rfl ?_
              exact ih40 (uZ (uZ u40 8 (if 3 ≤ x2 then u40.2 8 else ((10 * (u40.2 8)) + (s_X6_here u40)) - 48)) 5 ((u40.2 5) + 1)) (x2 + 1) _ _ _ (xtq1 hI0 (xhin q5 (by decide))) (Nat.lt_of_lt_of_le (xtd1 hI0 (xhin q5 (by decide))) (Nat.le_of_lt_succ hM40)) hR (lv_sub hl [0, 1, 2] rfl) hP hS
            refine lv_icmp_ge (tgt := 81) hx hb dX6_numberHere_60 rfl (fun q10 => ?_) (fun q10 => ?_)
            · refine lv_aload_n hx hb dX6_numberHere_81 rfl (lv_at hl 2 rfl) ?_
              refine va_get (D := xD E) (ci := 6) (v := .int (u40.2 8)) (C := RX6) (T := TX6) (N := 28) hx hb hts (by decide +kernel) hown hK hP 0 rfl rfl 25 (by decide) (hts (.fieldLink RX6 258 "RailOffsetsModel" "number" "I") (by decide +kernel)) (fun _ h => h) rfl dX6_numberHere_82 ?_
              exact W.eq (congrArg (fun z => F0 m 85 ls [.int z, .ref (a 0)]) (if_pos q10).symm) J9
            · refine lv_bipush (v := 10) hx hb dX6_numberHere_63 rfl ?_
              refine lv_aload_n hx hb dX6_numberHere_65 rfl (lv_at hl 2 rfl) ?_
              refine va_get (D := xD E) (ci := 6) (v := .int (u40.2 8)) (C := RX6) (T := TX6) (N := 28) hx hb hts (by decide +kernel) hown hK hP 0 rfl rfl 25 (by decide) (hts (.fieldLink RX6 258 "RailOffsetsModel" "number" "I") (by decide +kernel)) (fun _ h => h) rfl dX6_numberHere_66 ?_
              refine lv_imul hx hb dX6_numberHere_69 ?_
              refine lv_aload_n hx hb dX6_numberHere_70 rfl (lv_at hl 2 rfl) ?_
              refine xRoV (nL := 3) ⟨hx, hb, hml, hown, hts⟩ (c_X6_here l E a u40  (hI0)) (cwV 0 hts gX6_numberHere_X6_here rfl rfl rfl ⟨rfl, hd_X6_here⟩ ⟨(Nat.le_of_ble_eq_true rfl), (Nat.le_of_ble_eq_true rfl)⟩) hF hS hA hP (va_recv (q := (RX6, TX6, 28)) hK hP (ci := 6) rfl (q0 := 0) rfl) rfl hl.1 rfl (Nat.le_of_ble_eq_true rfl) ⟨(Nat.le_of_ble_eq_true rfl), (Nat.le_of_ble_eq_true rfl)⟩ dX6_numberHere_71 ?_
              refine W.eq (g2 := F0 m 74 ls [.int (s_X6_here u40), .int (10 * (u40.2 8)), .ref (a 0)]) rfl ?_
              refine lv_iadd hx hb dX6_numberHere_74 ?_
              refine lv_bipush (v := 48) hx hb dX6_numberHere_75 rfl ?_
              refine lv_isub hx hb dX6_numberHere_77 ?_
              refine lv_goto (tgt := 85) hx hb dX6_numberHere_78 rfl ?_
              exact W.eq (congrArg (fun z => F0 m 85 ls [.int z, .ref (a 0)]) (if_neg q10).symm) J9
      exact L40 ((((uZ (uZ u 5 ((u.2 5) + (if (if (s_X6_here u) = 45 then 1 else 0) = 0 then 0 else 1))) 8 0).2 4).toInt - ((uZ (uZ u 5 ((u.2 5) + (if (if (s_X6_here u) = 45 then 1 else 0) = 0 then 0 else 1))) 8 0).2 5).toInt).toNat + 1) (uZ (uZ u 5 ((u.2 5) + (if (if (s_X6_here u) = 45 then 1 else 0) = 0 then 0 else 1))) 8 0) 0 _ _ ls (xnh0 hp0) (Nat.lt_succ_self _) hR hl hP hS
    refine lv_if_eq (tgt := 28) hx hb dX6_numberHere_21 rfl (fun q4 => ?_) (fun q4 => ?_)
    · refine lv_iconst (v := 0) hx hb dX6_numberHere_28 rfl ?_
      exact W.eq (congrArg (fun z => F0 m 29 ls [.int z, .int (u.2 5), .ref (a 0)]) (if_pos q4).symm) J3
    · refine lv_iconst (v := 1) hx hb dX6_numberHere_24 rfl ?_
      refine lv_goto (tgt := 29) hx hb dX6_numberHere_25 rfl ?_
      exact W.eq (congrArg (fun z => F0 m 29 ls [.int z, .int (u.2 5), .ref (a 0)]) (if_neg q4).symm) J3
  refine lv_icmp_ne (tgt := 13) hx hb dX6_numberHere_6 rfl (fun q2 => ?_) (fun q2 => ?_)
  · refine lv_iconst (v := 0) hx hb dX6_numberHere_13 rfl ?_
    exact W.eq (congrArg (fun z => F0 m 14 ls [.int z]) (if_neg q2).symm) J1
  · refine lv_iconst (v := 1) hx hb dX6_numberHere_9 rfl ?_
    refine lv_goto (tgt := 14) hx hb dX6_numberHere_10 rfl ?_
    exact W.eq (congrArg (fun z => F0 m 14 ls [.int z]) (if_pos q2).symm) J1
def s_X6_next_L0 : Nat → xU → xU
  | 0, u => u
  | n + 1, u =>
    if (s_X6_here u) = 32 then
      s_X6_next_L0 n (uZ u 5 ((u.2 5) + 1))
    else
      if (s_X6_here u) = 10 then
        s_X6_next_L0 n (uZ u 5 ((u.2 5) + 1))
      else
        if (s_X6_in u ((s_X6_here (uZ u 6 (u.2 5))).toInt64) 97 122) = 0 then
          if (s_X6_in u ((s_X6_here (uZ u 6 (u.2 5))).toInt64) 48 57) = 0 then
            if (s_X6_here (uZ u 6 (u.2 5))) = 45 then
              uZ ((s_X6_numberHere (uZ u 6 (u.2 5))).2) 7 ((s_X6_numberHere (uZ u 6 (u.2 5))).1)
            else
              if (s_X6_here (uZ u 6 (u.2 5))) = 59 then
                uZ (uZ (uZ u 6 (u.2 5)) 7 11) 5 ((u.2 5) + 1)
              else
                uZ (uZ u 6 (u.2 5)) 7 (if (s_X6_here (uZ u 6 (u.2 5))) = (-1) then 12 else 13)
          else
            uZ ((s_X6_numberHere (uZ u 6 (u.2 5))).2) 7 ((s_X6_numberHere (uZ u 6 (u.2 5))).1)
        else
          uZ ((s_X6_wordHere (uZ u 6 (u.2 5))).2) 7 ((s_X6_wordHere (uZ u 6 (u.2 5))).1)
def s_X6_next (u : xU) : xU :=
  s_X6_next_L0 (((u.2 4).toInt - (u.2 5).toInt).toNat + 1) u
abbrev rm_X6_next : Room := { frames := 2, cells := 0, slots := 0, locals := 48 }
set_option maxHeartbeats 8000000 in
set_option maxRecDepth 100000 in
theorem c_X6_next (l : Launch) (E : xG) (a : Nat → Nat) (u : xU)  (hp0 : XTq u) (hL : xOK E (LM a)) : xMd l E yX6_next wsX6_next rm_X6_next (LM a) [.ref (a 0)] (wM E a u) (none) (wM E a (s_X6_next u)) := by
  refine xMd.of (cc := cX6_next) (maxL := 2) (ret := none) (by decide) rfl (Nat.le_of_ble_eq_true rfl) ?_
  intro p e s m below meth c ls hAt hF hP hS hl
  obtain ⟨hx, hb, hr, hml, hown, hts, hlocks, -⟩ := hAt
  have hown : s.vm.findClass RX6 = some m.cls := hown
  have hl : lv_has ls 2 [(0, .ref (a 0))] := hl
  have hK := hF.1
  have hA := hL.2
  change W p l e rm_X6_next s m ([.ref (a 0)] : List Value).toArray below meth c s.heap [] 0 0 (xQmd E below (LM a) (none) (wM E a (s_X6_next u)) ([.ref (a 0)] : List Value).toArray s) _
  have hS : va_S (· ∈ LM a) s.heap s.heap [] := hS
  have hR : s_X6_next u = s_X6_next u := rfl
  have L0 : ∀ (n0 : Nat) (u0 : xU) (H : Heap) (locs : List Loc) (ls : Array Slot), (XTq u0) → ((u0.2 4).toInt - (u0.2 5).toInt).toNat < n0 → s_X6_next u = s_X6_next_L0 n0 u0 → lv_has ls 2 [(0, .ref (a 0))] → va_P (xD E) vwCl (wM E a u0) H → va_S (· ∈ LM a) s.heap H locs → W p l e rm_X6_next s m ([.ref (a 0)] : List Value).toArray below meth c H locs 0 0 (xQmd E below (LM a) (none) (wM E a (s_X6_next u)) ([.ref (a 0)] : List Value).toArray s) (F0 m 0 ls []) := by
    intro n0
    induction n0 with
    | zero => intro u0 H locs ls hI0 hM0 hR hl hP hS; exact absurd hM0 (Nat.not_lt_zero _)
    | succ n0 ih0 =>
      intro u0 H locs ls hI0 hM0 hR hl hP hS
      refine lv_aload_n hx hb dX6_next_0 rfl (lv_at hl 0 rfl) ?_
      refine xRoV (nL := 2) ⟨hx, hb, hml, hown, hts⟩ (c_X6_here l E a u0  (hI0)) (cwV 0 hts gX6_next_X6_here rfl rfl rfl ⟨rfl, hd_X6_here⟩ ⟨(Nat.le_of_ble_eq_true rfl), (Nat.le_of_ble_eq_true rfl)⟩) hF hS hA hP (va_recv (q := (RX6, TX6, 28)) hK hP (ci := 6) rfl (q0 := 0) rfl) rfl hl.1 rfl (Nat.le_of_ble_eq_true rfl) ⟨(Nat.le_of_ble_eq_true rfl), (Nat.le_of_ble_eq_true rfl)⟩ dX6_next_1 ?_
      refine W.eq (g2 := F0 m 4 ls [.int (s_X6_here u0)]) rfl ?_
      refine lv_bipush (v := 32) hx hb dX6_next_4 rfl ?_
      refine lv_icmp_eq (tgt := 18) hx hb dX6_next_6 rfl (fun q1 => ?_) (fun q1 => ?_)
      · have hR := hR.trans (if_pos q1)
        refine lv_aload_n hx hb dX6_next_18 rfl (lv_at hl 0 rfl) ?_
        refine lv_dup hx hb dX6_next_19 rfl ?_
        refine va_get (D := xD E) (ci := 6) (v := .int (u0.2 5)) (C := RX6) (T := TX6) (N := 28) hx hb hts (by decide +kernel) hown hK hP 0 rfl rfl 22 (by decide) (hts (.fieldLink RX6 245 "RailOffsetsModel" "at" "I") (by decide +kernel)) (fun _ h => h) rfl dX6_next_20 ?_
        refine lv_iconst (v := 1) hx hb dX6_next_23 rfl ?_
        refine lv_iadd hx hb dX6_next_24 ?_
        refine va_put (D := xD E) (ci := 6) (v := .int ((u0.2 5) + 1)) (ty := .int) (C := RX6) (T := TX6) (N := 28) hx hb hts (by decide +kernel) tyX6 tyX6_ok nmX6 hown hK hP (xD_of (ws := wM E a u0) (A := (· ∈ LM a)) hL.1 (fun _ h => h)) hS 0 rfl rfl 22 (by decide) (hts (.fieldLink RX6 245 "RailOffsetsModel" "at" "I") (by decide +kernel)) (fun _ h => h) rfl (by decide +kernel) rfl rfl (Nat.le_of_ble_eq_true rfl) dX6_next_25 (fun H locs hP _ hS => ?_)
        have hP : va_P (xD E) vwCl (wM E a (uZ u0 5 ((u0.2 5) + 1))) H := hP
        refine lv_goto (tgt := 0) hx hb dX6_next_28 rfl ?_
        exact ih0 (uZ u0 5 ((u0.2 5) + 1)) _ _ _ (xtq1 hI0 (by first | exact xheq q1 (by decide) | exact xheq q2 (by decide))) (Nat.lt_of_lt_of_le (xtd1 hI0 (by first | exact xheq q1 (by decide) | exact xheq q2 (by decide))) (Nat.le_of_lt_succ hM0)) hR (lv_sub hl [0] rfl) hP hS
      · have hR := hR.trans (if_neg q1)
        refine lv_aload_n hx hb dX6_next_9 rfl (lv_at hl 0 rfl) ?_
        refine xRoV (nL := 2) ⟨hx, hb, hml, hown, hts⟩ (c_X6_here l E a u0  (hI0)) (cwV 0 hts gX6_next_X6_here rfl rfl rfl ⟨rfl, hd_X6_here⟩ ⟨(Nat.le_of_ble_eq_true rfl), (Nat.le_of_ble_eq_true rfl)⟩) hF hS hA hP (va_recv (q := (RX6, TX6, 28)) hK hP (ci := 6) rfl (q0 := 0) rfl) rfl hl.1 rfl (Nat.le_of_ble_eq_true rfl) ⟨(Nat.le_of_ble_eq_true rfl), (Nat.le_of_ble_eq_true rfl)⟩ dX6_next_10 ?_
        refine W.eq (g2 := F0 m 13 ls [.int (s_X6_here u0)]) rfl ?_
        refine lv_bipush (v := 10) hx hb dX6_next_13 rfl ?_
        refine lv_icmp_ne (tgt := 31) hx hb dX6_next_15 rfl (fun q2 => ?_) (fun q2 => ?_)
        · have hR := hR.trans (if_neg q2)
          refine lv_aload_n hx hb dX6_next_31 rfl (lv_at hl 0 rfl) ?_
          refine lv_aload_n hx hb dX6_next_32 rfl (lv_at hl 0 rfl) ?_
          refine va_get (D := xD E) (ci := 6) (v := .int (u0.2 5)) (C := RX6) (T := TX6) (N := 28) hx hb hts (by decide +kernel) hown hK hP 0 rfl rfl 22 (by decide) (hts (.fieldLink RX6 245 "RailOffsetsModel" "at" "I") (by decide +kernel)) (fun _ h => h) rfl dX6_next_33 ?_
          refine va_put (D := xD E) (ci := 6) (v := .int (u0.2 5)) (ty := .int) (C := RX6) (T := TX6) (N := 28) hx hb hts (by decide +kernel) tyX6 tyX6_ok nmX6 hown hK hP (xD_of (ws := wM E a u0) (A := (· ∈ LM a)) hL.1 (fun _ h => h)) hS 0 rfl rfl 23 (by decide) (hts (.fieldLink RX6 255 "RailOffsetsModel" "begun" "I") (by decide +kernel)) (fun _ h => h) rfl (by decide +kernel) rfl rfl (Nat.le_of_ble_eq_true rfl) dX6_next_36 (fun H locs hP _ hS => ?_)
          have hP : va_P (xD E) vwCl (wM E a (uZ u0 6 (u0.2 5))) H := hP
          refine lv_aload_n hx hb dX6_next_39 rfl (lv_at hl 0 rfl) ?_
          refine xRoV (nL := 2) ⟨hx, hb, hml, hown, hts⟩ (c_X6_here l E a (uZ u0 6 (u0.2 5))  (hI0)) (cwV 0 hts gX6_next_X6_here rfl rfl rfl ⟨rfl, hd_X6_here⟩ ⟨(Nat.le_of_ble_eq_true rfl), (Nat.le_of_ble_eq_true rfl)⟩) hF hS hA hP (va_recv (q := (RX6, TX6, 28)) hK hP (ci := 6) rfl (q0 := 0) rfl) rfl hl.1 rfl (Nat.le_of_ble_eq_true rfl) ⟨(Nat.le_of_ble_eq_true rfl), (Nat.le_of_ble_eq_true rfl)⟩ dX6_next_40 ?_
          refine W.eq (g2 := F0 m 43 ls [.int (s_X6_here (uZ u0 6 (u0.2 5)))]) rfl ?_
          refine lv_istore_n (lv' := [(1, .int (s_X6_here (uZ u0 6 (u0.2 5)))), (0, .ref (a 0))]) hx hb dX6_next_43 rfl hl (by decide) rfl (fun ls hl => ?_)
          refine lv_iload_n hx hb dX6_next_44 rfl (lv_at hl 0 rfl) ?_
          refine lv_i2l hx hb dX6_next_45 rfl ?_
          refine lv_ldc2 (v := 97) hx hb hown (hts (.constantLong RX6 251 (97)) (by decide +kernel)) dX6_next_46 ?_
          refine lv_ldc2 (v := 122) hx hb hown (hts (.constantLong RX6 253 (122)) (by decide +kernel)) dX6_next_49 ?_
          refine xRoS (nL := 2) ⟨hx, hb, hml, hown, hts⟩ (c_X6_in l E a (uZ u0 6 (u0.2 5)) ((s_X6_here (uZ u0 6 (u0.2 5))).toInt64) 97 122) (va_cwS 3 hts gX6_next_X6_in rfl rfl rfl hd_X6_in ⟨(Nat.le_of_ble_eq_true rfl), (Nat.le_of_ble_eq_true rfl)⟩) hF hS hA hP rfl hl.1 rfl (Nat.le_of_ble_eq_true rfl) ⟨(Nat.le_of_ble_eq_true rfl), (Nat.le_of_ble_eq_true rfl)⟩ dX6_next_52 ?_
          refine W.eq (g2 := F0 m 55 ls [.int (s_X6_in u0 ((s_X6_here (uZ u0 6 (u0.2 5))).toInt64) 97 122)]) rfl ?_
          refine lv_if_eq (tgt := 69) hx hb dX6_next_55 rfl (fun q3 => ?_) (fun q3 => ?_)
          · have hR := hR.trans (if_pos q3)
            refine lv_iload_n hx hb dX6_next_69 rfl (lv_at hl 0 rfl) ?_
            refine lv_i2l hx hb dX6_next_70 rfl ?_
            refine lv_ldc2 (v := 48) hx hb hown (hts (.constantLong RX6 261 (48)) (by decide +kernel)) dX6_next_71 ?_
            refine lv_ldc2 (v := 57) hx hb hown (hts (.constantLong RX6 263 (57)) (by decide +kernel)) dX6_next_74 ?_
            refine xRoS (nL := 2) ⟨hx, hb, hml, hown, hts⟩ (c_X6_in l E a (uZ u0 6 (u0.2 5)) ((s_X6_here (uZ u0 6 (u0.2 5))).toInt64) 48 57) (va_cwS 3 hts gX6_next_X6_in rfl rfl rfl hd_X6_in ⟨(Nat.le_of_ble_eq_true rfl), (Nat.le_of_ble_eq_true rfl)⟩) hF hS hA hP rfl hl.1 rfl (Nat.le_of_ble_eq_true rfl) ⟨(Nat.le_of_ble_eq_true rfl), (Nat.le_of_ble_eq_true rfl)⟩ dX6_next_77 ?_
            refine W.eq (g2 := F0 m 80 ls [.int (s_X6_in u0 ((s_X6_here (uZ u0 6 (u0.2 5))).toInt64) 48 57)]) rfl ?_
            refine lv_if_ne (tgt := 89) hx hb dX6_next_80 rfl (fun q4 => ?_) (fun q4 => ?_)
            · have hR := hR.trans (if_neg q4)
              refine lv_aload_n hx hb dX6_next_89 rfl (lv_at hl 1 rfl) ?_
              refine lv_aload_n hx hb dX6_next_90 rfl (lv_at hl 1 rfl) ?_
              refine xMdV (nL := 2) ⟨hx, hb, hml, hown, hts⟩ (c_X6_numberHere l E a (uZ u0 6 (u0.2 5))  (hI0) hL) (cwV 0 hts gX6_next_X6_numberHere rfl rfl rfl ⟨rfl, hd_X6_numberHere⟩ ⟨(Nat.le_of_ble_eq_true rfl), (Nat.le_of_ble_eq_true rfl)⟩) hF hS hL.2 (fun _ h => h) hP (va_recv (q := (RX6, TX6, 28)) hK hP (ci := 6) rfl (q0 := 0) rfl) rfl hl.1 rfl (Nat.le_of_ble_eq_true rfl) ⟨(Nat.le_of_ble_eq_true rfl), (Nat.le_of_ble_eq_true rfl)⟩ dX6_next_91 (fun H locs hP _ hS => ?_)
              refine W.eq (g2 := F0 m 94 ls [.int ((s_X6_numberHere (uZ u0 6 (u0.2 5))).1), .ref (a 0)]) rfl ?_
              refine va_put (D := xD E) (ci := 6) (v := .int ((s_X6_numberHere (uZ u0 6 (u0.2 5))).1)) (ty := .int) (C := RX6) (T := TX6) (N := 28) hx hb hts (by decide +kernel) tyX6 tyX6_ok nmX6 hown hK hP (xD_of (ws := wM E a ((s_X6_numberHere (uZ u0 6 (u0.2 5))).2)) (A := (· ∈ LM a)) hL.1 (fun _ h => h)) hS 0 rfl rfl 24 (by decide) (hts (.fieldLink RX6 268 "RailOffsetsModel" "token" "I") (by decide +kernel)) (fun _ h => h) rfl (by decide +kernel) rfl rfl (Nat.le_of_ble_eq_true rfl) dX6_next_94 (fun H locs hP _ hS => ?_)
              have hP : va_P (xD E) vwCl (wM E a (uZ ((s_X6_numberHere (uZ u0 6 (u0.2 5))).2) 7 ((s_X6_numberHere (uZ u0 6 (u0.2 5))).1))) H := hP
              refine lv_goto (tgt := 141) hx hb dX6_next_97 rfl ?_
              have hR : s_X6_next u = uZ ((s_X6_numberHere (uZ u0 6 (u0.2 5))).2) 7 ((s_X6_numberHere (uZ u0 6 (u0.2 5))).1) := hR
              exact W.vret hx hb hr (fun t ht _ => by rw [hR]; exact ⟨⟨rfl, by rw [ht]; exact hP⟩, hS.F ht⟩) hS.2.2 dX6_next_141
            · have hR := hR.trans (if_pos q4)
              refine lv_iload_n hx hb dX6_next_83 rfl (lv_at hl 0 rfl) ?_
              refine lv_bipush (v := 45) hx hb dX6_next_84 rfl ?_
              refine lv_icmp_ne (tgt := 100) hx hb dX6_next_86 rfl (fun q5 => ?_) (fun q5 => ?_)
              · have hR := hR.trans (if_neg q5)
                refine lv_iload_n hx hb dX6_next_100 rfl (lv_at hl 0 rfl) ?_
                refine lv_bipush (v := 59) hx hb dX6_next_101 rfl ?_
                refine lv_icmp_ne (tgt := 125) hx hb dX6_next_103 rfl (fun q6 => ?_) (fun q6 => ?_)
                · have hR := hR.trans (if_neg q6)
                  refine lv_aload_n hx hb dX6_next_125 rfl (lv_at hl 1 rfl) ?_
                  refine lv_iload_n hx hb dX6_next_126 rfl (lv_at hl 0 rfl) ?_
                  refine lv_iconst (v := (-1)) hx hb dX6_next_127 rfl ?_
                  have J7 : W p l e rm_X6_next s m ([.ref (a 0)] : List Value).toArray below meth c H locs 0 0 (xQmd E below (LM a) (none) (wM E a (s_X6_next u)) ([.ref (a 0)] : List Value).toArray s) (F0 m 138 ls [.int (if (s_X6_here (uZ u0 6 (u0.2 5))) = (-1) then 12 else 13), .ref (a 0)]) := by
                    refine va_put (D := xD E) (ci := 6) (v := .int (if (s_X6_here (uZ u0 6 (u0.2 5))) = (-1) then 12 else 13)) (ty := .int) (C := RX6) (T := TX6) (N := 28) hx hb hts (by decide +kernel) tyX6 tyX6_ok nmX6 hown hK hP (xD_of (ws := wM E a (uZ u0 6 (u0.2 5))) (A := (· ∈ LM a)) hL.1 (fun _ h => h)) hS 0 rfl rfl 24 (by decide) (hts (.fieldLink RX6 268 "RailOffsetsModel" "token" "I") (by decide +kernel)) (fun _ h => h) rfl (by decide +kernel) rfl rfl (Nat.le_of_ble_eq_true rfl) dX6_next_138 (fun H locs hP _ hS => ?_)
                    have hP : va_P (xD E) vwCl (wM E a (uZ (uZ u0 6 (u0.2 5)) 7 (if (s_X6_here (uZ u0 6 (u0.2 5))) = (-1) then 12 else 13))) H := hP
                    have hR : s_X6_next u = uZ (uZ u0 6 (u0.2 5)) 7 (if (s_X6_here (uZ u0 6 (u0.2 5))) = (-1) then 12 else 13) := hR
                    exact W.vret hx hb hr (fun t ht _ => by rw [hR]; exact ⟨⟨rfl, by rw [ht]; exact hP⟩, hS.F ht⟩) hS.2.2 dX6_next_141
                  refine lv_icmp_ne (tgt := 136) hx hb dX6_next_128 rfl (fun q8 => ?_) (fun q8 => ?_)
                  · refine lv_bipush (v := 13) hx hb dX6_next_136 rfl ?_
                    exact W.eq (congrArg (fun z => F0 m 138 ls [.int z, .ref (a 0)]) (if_neg q8).symm) J7
                  · refine lv_bipush (v := 12) hx hb dX6_next_131 rfl ?_
                    refine lv_goto (tgt := 138) hx hb dX6_next_133 rfl ?_
                    exact W.eq (congrArg (fun z => F0 m 138 ls [.int z, .ref (a 0)]) (if_pos q8).symm) J7
                · have hR := hR.trans (if_pos q6)
                  refine lv_aload_n hx hb dX6_next_106 rfl (lv_at hl 1 rfl) ?_
                  refine lv_bipush (v := 11) hx hb dX6_next_107 rfl ?_
                  refine va_put (D := xD E) (ci := 6) (v := .int 11) (ty := .int) (C := RX6) (T := TX6) (N := 28) hx hb hts (by decide +kernel) tyX6 tyX6_ok nmX6 hown hK hP (xD_of (ws := wM E a (uZ u0 6 (u0.2 5))) (A := (· ∈ LM a)) hL.1 (fun _ h => h)) hS 0 rfl rfl 24 (by decide) (hts (.fieldLink RX6 268 "RailOffsetsModel" "token" "I") (by decide +kernel)) (fun _ h => h) rfl (by decide +kernel) rfl rfl (Nat.le_of_ble_eq_true rfl) dX6_next_109 (fun H locs hP _ hS => ?_)
                  have hP : va_P (xD E) vwCl (wM E a (uZ (uZ u0 6 (u0.2 5)) 7 11)) H := hP
                  refine lv_aload_n hx hb dX6_next_112 rfl (lv_at hl 1 rfl) ?_
                  refine lv_dup hx hb dX6_next_113 rfl ?_
                  refine va_get (D := xD E) (ci := 6) (v := .int ((uZ (uZ u0 6 (u0.2 5)) 7 11).2 5)) (C := RX6) (T := TX6) (N := 28) hx hb hts (by decide +kernel) hown hK hP 0 rfl rfl 22 (by decide) (hts (.fieldLink RX6 245 "RailOffsetsModel" "at" "I") (by decide +kernel)) (fun _ h => h) rfl dX6_next_114 ?_
                  refine W.eq (g2 := F0 m 117 ls [.int (u0.2 5), .ref (a 0)]) rfl ?_
                  refine lv_iconst (v := 1) hx hb dX6_next_117 rfl ?_
                  refine lv_iadd hx hb dX6_next_118 ?_
                  refine va_put (D := xD E) (ci := 6) (v := .int ((u0.2 5) + 1)) (ty := .int) (C := RX6) (T := TX6) (N := 28) hx hb hts (by decide +kernel) tyX6 tyX6_ok nmX6 hown hK hP (xD_of (ws := wM E a (uZ (uZ u0 6 (u0.2 5)) 7 11)) (A := (· ∈ LM a)) hL.1 (fun _ h => h)) hS 0 rfl rfl 22 (by decide) (hts (.fieldLink RX6 245 "RailOffsetsModel" "at" "I") (by decide +kernel)) (fun _ h => h) rfl (by decide +kernel) rfl rfl (Nat.le_of_ble_eq_true rfl) dX6_next_119 (fun H locs hP _ hS => ?_)
                  have hP : va_P (xD E) vwCl (wM E a (uZ (uZ (uZ u0 6 (u0.2 5)) 7 11) 5 ((u0.2 5) + 1))) H := hP
                  refine lv_goto (tgt := 141) hx hb dX6_next_122 rfl ?_
                  have hR : s_X6_next u = uZ (uZ (uZ u0 6 (u0.2 5)) 7 11) 5 ((u0.2 5) + 1) := hR
                  exact W.vret hx hb hr (fun t ht _ => by rw [hR]; exact ⟨⟨rfl, by rw [ht]; exact hP⟩, hS.F ht⟩) hS.2.2 dX6_next_141
              · have hR := hR.trans (if_pos q5)
                refine lv_aload_n hx hb dX6_next_89 rfl (lv_at hl 1 rfl) ?_
                refine lv_aload_n hx hb dX6_next_90 rfl (lv_at hl 1 rfl) ?_
                refine xMdV (nL := 2) ⟨hx, hb, hml, hown, hts⟩ (c_X6_numberHere l E a (uZ u0 6 (u0.2 5))  (hI0) hL) (cwV 0 hts gX6_next_X6_numberHere rfl rfl rfl ⟨rfl, hd_X6_numberHere⟩ ⟨(Nat.le_of_ble_eq_true rfl), (Nat.le_of_ble_eq_true rfl)⟩) hF hS hL.2 (fun _ h => h) hP (va_recv (q := (RX6, TX6, 28)) hK hP (ci := 6) rfl (q0 := 0) rfl) rfl hl.1 rfl (Nat.le_of_ble_eq_true rfl) ⟨(Nat.le_of_ble_eq_true rfl), (Nat.le_of_ble_eq_true rfl)⟩ dX6_next_91 (fun H locs hP _ hS => ?_)
                refine W.eq (g2 := F0 m 94 ls [.int ((s_X6_numberHere (uZ u0 6 (u0.2 5))).1), .ref (a 0)]) rfl ?_
                refine va_put (D := xD E) (ci := 6) (v := .int ((s_X6_numberHere (uZ u0 6 (u0.2 5))).1)) (ty := .int) (C := RX6) (T := TX6) (N := 28) hx hb hts (by decide +kernel) tyX6 tyX6_ok nmX6 hown hK hP (xD_of (ws := wM E a ((s_X6_numberHere (uZ u0 6 (u0.2 5))).2)) (A := (· ∈ LM a)) hL.1 (fun _ h => h)) hS 0 rfl rfl 24 (by decide) (hts (.fieldLink RX6 268 "RailOffsetsModel" "token" "I") (by decide +kernel)) (fun _ h => h) rfl (by decide +kernel) rfl rfl (Nat.le_of_ble_eq_true rfl) dX6_next_94 (fun H locs hP _ hS => ?_)
                have hP : va_P (xD E) vwCl (wM E a (uZ ((s_X6_numberHere (uZ u0 6 (u0.2 5))).2) 7 ((s_X6_numberHere (uZ u0 6 (u0.2 5))).1))) H := hP
                refine lv_goto (tgt := 141) hx hb dX6_next_97 rfl ?_
                have hR : s_X6_next u = uZ ((s_X6_numberHere (uZ u0 6 (u0.2 5))).2) 7 ((s_X6_numberHere (uZ u0 6 (u0.2 5))).1) := hR
                exact W.vret hx hb hr (fun t ht _ => by rw [hR]; exact ⟨⟨rfl, by rw [ht]; exact hP⟩, hS.F ht⟩) hS.2.2 dX6_next_141
          · have hR := hR.trans (if_neg q3)
            refine lv_aload_n hx hb dX6_next_58 rfl (lv_at hl 1 rfl) ?_
            refine lv_aload_n hx hb dX6_next_59 rfl (lv_at hl 1 rfl) ?_
            refine xMdV (nL := 2) ⟨hx, hb, hml, hown, hts⟩ (c_X6_wordHere l E a (uZ u0 6 (u0.2 5))  (xtw0 hI0) hL) (cwV 0 hts gX6_next_X6_wordHere rfl rfl rfl ⟨rfl, hd_X6_wordHere⟩ ⟨(Nat.le_of_ble_eq_true rfl), (Nat.le_of_ble_eq_true rfl)⟩) hF hS hL.2 (fun _ h => h) hP (va_recv (q := (RX6, TX6, 28)) hK hP (ci := 6) rfl (q0 := 0) rfl) rfl hl.1 rfl (Nat.le_of_ble_eq_true rfl) ⟨(Nat.le_of_ble_eq_true rfl), (Nat.le_of_ble_eq_true rfl)⟩ dX6_next_60 (fun H locs hP _ hS => ?_)
            refine W.eq (g2 := F0 m 63 ls [.int ((s_X6_wordHere (uZ u0 6 (u0.2 5))).1), .ref (a 0)]) rfl ?_
            refine va_put (D := xD E) (ci := 6) (v := .int ((s_X6_wordHere (uZ u0 6 (u0.2 5))).1)) (ty := .int) (C := RX6) (T := TX6) (N := 28) hx hb hts (by decide +kernel) tyX6 tyX6_ok nmX6 hown hK hP (xD_of (ws := wM E a ((s_X6_wordHere (uZ u0 6 (u0.2 5))).2)) (A := (· ∈ LM a)) hL.1 (fun _ h => h)) hS 0 rfl rfl 24 (by decide) (hts (.fieldLink RX6 268 "RailOffsetsModel" "token" "I") (by decide +kernel)) (fun _ h => h) rfl (by decide +kernel) rfl rfl (Nat.le_of_ble_eq_true rfl) dX6_next_63 (fun H locs hP _ hS => ?_)
            have hP : va_P (xD E) vwCl (wM E a (uZ ((s_X6_wordHere (uZ u0 6 (u0.2 5))).2) 7 ((s_X6_wordHere (uZ u0 6 (u0.2 5))).1))) H := hP
            refine lv_goto (tgt := 141) hx hb dX6_next_66 rfl ?_
            have hR : s_X6_next u = uZ ((s_X6_wordHere (uZ u0 6 (u0.2 5))).2) 7 ((s_X6_wordHere (uZ u0 6 (u0.2 5))).1) := hR
            exact W.vret hx hb hr (fun t ht _ => by rw [hR]; exact ⟨⟨rfl, by rw [ht]; exact hP⟩, hS.F ht⟩) hS.2.2 dX6_next_141
        · have hR := hR.trans (if_pos q2)
          refine lv_aload_n hx hb dX6_next_18 rfl (lv_at hl 0 rfl) ?_
          refine lv_dup hx hb dX6_next_19 rfl ?_
          refine va_get (D := xD E) (ci := 6) (v := .int (u0.2 5)) (C := RX6) (T := TX6) (N := 28) hx hb hts (by decide +kernel) hown hK hP 0 rfl rfl 22 (by decide) (hts (.fieldLink RX6 245 "RailOffsetsModel" "at" "I") (by decide +kernel)) (fun _ h => h) rfl dX6_next_20 ?_
          refine lv_iconst (v := 1) hx hb dX6_next_23 rfl ?_
          refine lv_iadd hx hb dX6_next_24 ?_
          refine va_put (D := xD E) (ci := 6) (v := .int ((u0.2 5) + 1)) (ty := .int) (C := RX6) (T := TX6) (N := 28) hx hb hts (by decide +kernel) tyX6 tyX6_ok nmX6 hown hK hP (xD_of (ws := wM E a u0) (A := (· ∈ LM a)) hL.1 (fun _ h => h)) hS 0 rfl rfl 22 (by decide) (hts (.fieldLink RX6 245 "RailOffsetsModel" "at" "I") (by decide +kernel)) (fun _ h => h) rfl (by decide +kernel) rfl rfl (Nat.le_of_ble_eq_true rfl) dX6_next_25 (fun H locs hP _ hS => ?_)
          have hP : va_P (xD E) vwCl (wM E a (uZ u0 5 ((u0.2 5) + 1))) H := hP
          refine lv_goto (tgt := 0) hx hb dX6_next_28 rfl ?_
          exact ih0 (uZ u0 5 ((u0.2 5) + 1)) _ _ _ (xtq1 hI0 (by first | exact xheq q1 (by decide) | exact xheq q2 (by decide))) (Nat.lt_of_lt_of_le (xtd1 hI0 (by first | exact xheq q1 (by decide) | exact xheq q2 (by decide))) (Nat.le_of_lt_succ hM0)) hR (lv_sub hl [0] rfl) hP hS
  exact L0 (((u.2 4).toInt - (u.2 5).toInt).toNat + 1) u _ _ ls (hp0) (Nat.lt_succ_self _) hR hl hP hS
