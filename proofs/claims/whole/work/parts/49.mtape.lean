/-! ===== the reference's tape ===== -/
def tBeg (k : Nat) : Int32 := ([0, 5, 9, 13, 18, 22] : List Int32).getD k 0
def tWant (k : Nat) : Int32 := ([4, 2, 2, 1, 0] : List Int32).getD k 0
def tLet (k : Nat) : Int32 := ([112, 105, 101, 99, 101, 98, 101, 110, 100, 99, 97, 110, 116, 115, 112, 101, 101, 100, 100, 114, 111, 112] : List Int32).getD k 0
def XCv (c1 c2 c3 : Nat → Int32) : Prop := (∀ k, k < 22 → c1 k = tLet k) ∧ (∀ k, k < 6 → c2 k = tBeg k) ∧ ∀ k, k < 5 → c3 k = tWant k
abbrev XCn (u : xU) : Prop := XCv (u.1 15) (u.1 16) (u.1 17)
def XTv (c1 c2 c3 : Nat → Int32) (z a : Int32) : Prop := XCv c1 c2 c3 ∧ 0 ≤ a.toInt ∧ a.toInt ≤ z.toInt ∧ z.toInt ≤ 60
abbrev XTq (u : xU) : Prop := XTv (u.1 15) (u.1 16) (u.1 17) (u.2 4) (u.2 5)
def XTwv (c1 c2 c3 : Nat → Int32) (z a b : Int32) : Prop := XTv c1 c2 c3 z a ∧ 0 ≤ b.toInt ∧ b.toInt ≤ a.toInt
abbrev XTw (u : xU) : Prop := XTwv (u.1 15) (u.1 16) (u.1 17) (u.2 4) (u.2 5) (u.2 6)
theorem xhi {u : xU} (h : XTq u) (q : ¬ (u.2 4) ≤ (u.2 5)) : vp_in (u.2 5) 60 := by
  obtain ⟨h0, h1, h2, h3⟩ := h
  rw [fa_le] at q
  rw [vp_in_iff]
  omega
def s_X6_here (u : xU) : Int32 :=
  if (u.2 4) ≤ (u.2 5) then
    (-1)
  else
    u.1 14 (u.2 5).toNatClampNeg
abbrev rm_X6_here : Room := { frames := 0, cells := 0, slots := 0, locals := 0 }
set_option maxHeartbeats 8000000 in
set_option maxRecDepth 100000 in
theorem c_X6_here (l : Launch) (E : xG) (a : Nat → Nat) (u : xU)  (hp0 : XTq u) : xRo l E yX6_here wsX6_here rm_X6_here [.ref (a 0)] (wM E a u) (some (.int (s_X6_here u))) := by
  refine xRo.of (cc := cX6_here) (maxL := 1) (ret := (some .int)) (by decide) rfl (Nat.le_of_ble_eq_true rfl) ?_
  intro p e s m below meth c ls hAt hF hP hS hl
  obtain ⟨hx, hb, hr, hml, hown, hts, hlocks, -⟩ := hAt
  have hown : s.vm.findClass RX6 = some m.cls := hown
  have hl : lv_has ls 1 [(0, .ref (a 0))] := hl
  have hK := hF.1
  have hA : ∀ q : Nat, (fun _ => False) q → xA0 E q := fun _ h => h.elim
  change W p l e rm_X6_here s m ([.ref (a 0)] : List Value).toArray below meth c s.heap [] 0 0 (xQro below (some (.int (s_X6_here u))) ([.ref (a 0)] : List Value).toArray s) _
  have hR : s_X6_here u = s_X6_here u := rfl
  refine lv_aload_n hx hb dX6_here_0 rfl (lv_at hl 0 rfl) ?_
  refine va_get (D := xD E) (ci := 6) (v := .int (u.2 5)) (C := RX6) (T := TX6) (N := 28) hx hb hts (by decide +kernel) hown hK hP 0 rfl rfl 22 (by decide) (hts (.fieldLink RX6 245 "RailOffsetsModel" "at" "I") (by decide +kernel)) (fun _ h => h) rfl dX6_here_1 ?_
  refine lv_aload_n hx hb dX6_here_4 rfl (lv_at hl 0 rfl) ?_
  refine va_get (D := xD E) (ci := 6) (v := .int (u.2 4)) (C := RX6) (T := TX6) (N := 28) hx hb hts (by decide +kernel) hown hK hP 0 rfl rfl 18 (by decide) (hts (.fieldLink RX6 242 "RailOffsetsModel" "size" "I") (by decide +kernel)) (fun _ h => h) rfl dX6_here_5 ?_
  refine lv_icmp_ge (tgt := 23) hx hb dX6_here_8 rfl (fun q1 => ?_) (fun q1 => ?_)
  · have hR := hR.trans (if_pos q1)
    refine lv_iconst (v := (-1)) hx hb dX6_here_23 rfl ?_
    have hR : s_X6_here u = (-1) := hR
    exact W.iret (v := (-1)) hx hb hr (fun t ht _ => ⟨congrArg (fun z => Outcome.returned (some (Value.int z))) hR.symm, ht⟩) (fun _ h => by cases h) dX6_here_24
  · have hR := hR.trans (if_neg q1)
    refine lv_aload_n hx hb dX6_here_11 rfl (lv_at hl 0 rfl) ?_
    refine va_get (D := xD E) (ci := 6) (v := .ref (a 14)) (C := RX6) (T := TX6) (N := 28) hx hb hts (by decide +kernel) hown hK hP 0 rfl rfl 17 (by decide) (hts (.fieldLink RX6 51 "RailOffsetsModel" "tape" "[I") (by decide +kernel)) (fun _ h => h) rfl dX6_here_12 ?_
    refine lv_aload_n hx hb dX6_here_15 rfl (lv_at hl 0 rfl) ?_
    refine va_get (D := xD E) (ci := 6) (v := .int (u.2 5)) (C := RX6) (T := TX6) (N := 28) hx hb hts (by decide +kernel) hown hK hP 0 rfl rfl 22 (by decide) (hts (.fieldLink RX6 245 "RailOffsetsModel" "at" "I") (by decide +kernel)) (fun _ h => h) rfl dX6_here_16 ?_
    refine va_iald hx hb hK hP 14 0 rfl rfl (xhi hp0 q1) dX6_here_19 ?_
    refine lv_goto (tgt := 24) hx hb dX6_here_20 rfl ?_
    have hR : s_X6_here u = u.1 14 (u.2 5).toNatClampNeg := hR
    exact W.iret (v := u.1 14 (u.2 5).toNatClampNeg) hx hb hr (fun t ht _ => ⟨congrArg (fun z => Outcome.returned (some (Value.int z))) hR.symm, ht⟩) (fun _ h => by cases h) dX6_here_24
theorem xhr {u : xU} (h : ¬ s_X6_here u = -1) : (u.2 5).toInt < (u.2 4).toInt := by
  unfold s_X6_here at h
  split at h
  · exact absurd rfl h
  · rename_i q
    rw [fa_le] at q
    omega
theorem xhin {u v : xU} {lo hi : Int64} (q : ¬ s_X6_in v (s_X6_here u).toInt64 lo hi = 0) (hlo : 0 ≤ lo.toInt) : (u.2 5).toInt < (u.2 4).toInt := by
  apply xhr
  intro e
  have h := xin32 q
  rw [e, show (-1 : Int32).toInt = -1 from rfl] at h
  omega
theorem xheq {u : xU} {x : Int32} (q : s_X6_here u = x) (hx : 0 ≤ x.toInt) : (u.2 5).toInt < (u.2 4).toInt := by
  apply xhr
  intro e
  rw [← q, e, show (-1 : Int32).toInt = -1 from rfl] at hx
  omega
theorem xat1 {u : xU} (h : XTq u) (q : (u.2 5).toInt < (u.2 4).toInt) : (u.2 5 + 1).toInt = (u.2 5).toInt + 1 := by
  obtain ⟨h0, h1, h2, h3⟩ := h
  exact xinc (by omega)
theorem xtq1 {u : xU} (h : XTq u) (q : (u.2 5).toInt < (u.2 4).toInt) : XTv (u.1 15) (u.1 16) (u.1 17) (u.2 4) ((u.2 5) + 1) := by
  have e := xat1 h q
  obtain ⟨h0, h1, h2, h3⟩ := h
  exact ⟨h0, by omega, by omega, h3⟩
theorem xtw1 {u : xU} (h : XTw u) (q : (u.2 5).toInt < (u.2 4).toInt) : XTwv (u.1 15) (u.1 16) (u.1 17) (u.2 4) ((u.2 5) + 1) (u.2 6) := by
  obtain ⟨h0, h1, h2⟩ := h
  have e := xat1 h0 q
  exact ⟨xtq1 h0 q, h1, by omega⟩
theorem xtd1 {u : xU} (h : XTq u) (q : (u.2 5).toInt < (u.2 4).toInt) : ((u.2 4).toInt - (u.2 5 + 1).toInt).toNat < ((u.2 4).toInt - (u.2 5).toInt).toNat := by
  have e := xat1 h q
  omega
theorem xb6 {w : Int32} (h0 : ¬ w < 0) (q : ¬ 5 ≤ w) : vp_in w 6 ∧ vp_in (w + 1) 6 := by
  have h1 := xge0 h0
  rw [fa_le, show (5 : Int32).toInt = 5 from rfl] at q
  rw [vp_in_iff, vp_in_iff, xinc (by omega)]
  omega
def XWkv (c1 c2 c3 : Nat → Int32) (z a b w y k : Int32) : Prop := XTwv c1 c2 c3 z a b ∧ 0 ≤ w.toInt ∧ w.toInt < 5 ∧ b.toInt ≤ k.toInt ∧ (y = 0 ∨ a.toInt - b.toInt = (tBeg (w.toInt.toNat + 1)).toInt - (tBeg w.toInt.toNat).toInt) ∧ k.toInt ≤ a.toInt
abbrev XWk (u : xU) (w y k : Int32) : Prop := XWkv (u.1 15) (u.1 16) (u.1 17) (u.2 4) (u.2 5) (u.2 6) w y k
theorem tBeg_r : ∀ k, k < 6 → 0 ≤ (tBeg k).toInt ∧ (tBeg k).toInt ≤ 22 := by decide +kernel
theorem tBeg_d : ∀ k, k < 5 → 4 ≤ (tBeg (k + 1)).toInt - (tBeg k).toInt := by decide +kernel
theorem tWant_r : ∀ k, k < 5 → 0 ≤ (tWant k).toInt ∧ (tWant k).toInt ≤ 4 := by decide +kernel
theorem xbeg {u : xU} (h : XCn u) {w : Int32} (h0 : 0 ≤ w.toInt) (h1 : w.toInt < 5) : u.1 16 w.toNatClampNeg = tBeg w.toInt.toNat ∧ u.1 16 (w + 1).toNatClampNeg = tBeg (w.toInt.toNat + 1) := by
  refine ⟨h.2.1 w.toInt.toNat (by omega), ?_⟩
  have e : (w + 1).toNatClampNeg = w.toInt.toNat + 1 := by
    show (w + 1).toInt.toNat = _
    rw [xinc (by omega)]
    omega
  rw [e]
  exact h.2.1 _ (by omega)
theorem xwk0 {u : xU} {w : Int32} (h : XTw u) (h0 : ¬ w < 0) (q : ¬ 5 ≤ w) : XWk u w (if ((u.2 5) - (u.2 6)) = ((u.1 16 (w + 1).toNatClampNeg) - (u.1 16 w.toNatClampNeg)) then 1 else 0) (u.2 6) := by
  have h1 := xge0 h0
  rw [fa_le, show (5 : Int32).toInt = 5 from rfl] at q
  refine ⟨h, h1, by omega, by omega, ?_, h.2.2⟩
  split
  · rename_i e
    right
    obtain ⟨e1, e2⟩ := xbeg h.1.1 h1 (by omega)
    rw [e1, e2] at e
    have r1 := tBeg_r w.toInt.toNat (by omega)
    have r2 := tBeg_r (w.toInt.toNat + 1) (by omega)
    obtain ⟨⟨g0, g1, g2, g3⟩, g4, g5⟩ := h
    rw [fa_eq, fb_subI (by omega) (by omega), fb_subI (by omega) (by omega)] at e
    exact e
  · exact Or.inl rfl
theorem xwk1 {u : xU} {w y y2 k : Int32} (h : XWk u w y k) (q : ¬ (u.2 5) ≤ k) (q2 : ¬ y = 0) : XWk u w y2 (k + 1) := by
  obtain ⟨h1, h2, h3, h4, h5, h6⟩ := h
  rw [fa_le] at q
  have h7 := h5.resolve_left q2
  obtain ⟨⟨g0, g1, g2, g3⟩, g4, g5⟩ := h1
  have e := xinc (k := k) (by omega)
  exact ⟨⟨⟨g0, g1, g2, g3⟩, g4, g5⟩, h2, h3, by omega, Or.inr h7, by omega⟩
theorem xwkt {u : xU} {w y k : Int32} (h : XWk u w y k) (q : ¬ (u.2 5) ≤ k) : vp_in k 60 := by
  obtain ⟨⟨⟨g0, g1, g2, g3⟩, g4, g5⟩, h2, h3, h4, h5, h6⟩ := h
  rw [fa_le] at q
  rw [vp_in_iff]
  omega
theorem xwkb {u : xU} {w y k : Int32} (h : XWk u w y k) : vp_in w 6 := by
  obtain ⟨h1, h2, h3, h4, h5, h6⟩ := h
  rw [vp_in_iff]
  omega
theorem xwkl {u : xU} {w y k : Int32} (h : XWk u w y k) (q : ¬ (u.2 5) ≤ k) (q2 : ¬ y = 0) : vp_in (((u.1 16 w.toNatClampNeg) + k) - (u.2 6)) 22 := by
  obtain ⟨⟨⟨g0, g1, g2, g3⟩, g4, g5⟩, h2, h3, h4, h5, h6⟩ := h
  rw [fa_le] at q
  have h7 := h5.resolve_left q2
  have r1 := tBeg_r w.toInt.toNat (by omega)
  have r2 := tBeg_r (w.toInt.toNat + 1) (by omega)
  rw [(xbeg g0 h2 h3).1, vp_in_iff]
  have e1 : (tBeg w.toInt.toNat + k).toInt = (tBeg w.toInt.toNat).toInt + k.toInt := fb_addI (by omega) (by omega)
  rw [fb_subI (by omega) (by omega), e1]
  omega
theorem xwkn {u : xU} {w y k : Int32} (h : XWk u w y k) : ¬ w + 1 < 0 := by
  obtain ⟨h1, h2, h3, h4, h5, h6⟩ := h
  rw [fa_lt, xinc (by omega), show (0 : Int32).toInt = 0 from rfl]
  omega
