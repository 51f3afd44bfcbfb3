theorem xwh {w : Int32} (h0 : ¬ w < 0) (q : ¬ 4 ≤ w) : 0 ≤ w.toInt ∧ w.toInt < 9 := by
  rw [fa_lt, show (0 : Int32).toInt = 0 from rfl] at h0
  rw [fa_le, show (4 : Int32).toInt = 4 from rfl] at q
  exact ⟨by omega, by omega⟩
def s_X6_areAlike_L2 : Nat → xU → Int32 → Int32 → Int32 → Int32
  | 0, _, _, _, _ => 0
  | n + 1, u, x1, x2, x3 =>
    if 4 ≤ x3 then
      1
    else
      if (s_X6_of0 u x1 x3) = (s_X6_of0 u x2 x3) then
        s_X6_areAlike_L2 n u x1 x2 (x3 + 1)
      else
        0
def s_X6_areAlike (u : xU) (p1 : Int32) (p2 : Int32) : Int32 :=
  s_X6_areAlike_L2 (((4 : Int32).toInt - (0 : Int32).toInt).toNat + 1) u p1 p2 0
abbrev rm_X6_areAlike : Room := { frames := 1, cells := 0, slots := 0, locals := 22 }
set_option maxHeartbeats 8000000 in
set_option maxRecDepth 100000 in
theorem c_X6_areAlike (l : Launch) (E : xG) (a : Nat → Nat) (u : xU) (p1 : Int32) (p2 : Int32) (hp0 : XP p1) (hp1 : XP p2) : xRo l E yX6_areAlike wsX6_areAlike rm_X6_areAlike [.ref (a 0), .int p1, .int p2] (wM E a u) (some (.int (s_X6_areAlike u p1 p2))) := by
  refine xRo.of (cc := cX6_areAlike) (maxL := 4) (ret := (some .boolean)) (by decide) rfl (Nat.le_of_ble_eq_true rfl) ?_
  intro p e s m below meth c ls hAt hF hP hS hl
  obtain ⟨hx, hb, hr, hml, hown, hts, hlocks, -⟩ := hAt
  have hown : s.vm.findClass RX6 = some m.cls := hown
  have hl : lv_has ls 4 [(0, .ref (a 0)), (1, .int p1), (2, .int p2)] := hl
  have hK := hF.1
  have hA : ∀ q : Nat, (fun _ => False) q → xA0 E q := fun _ h => h.elim
  change W p l e rm_X6_areAlike s m ([.ref (a 0), .int p1, .int p2] : List Value).toArray below meth c s.heap [] 0 0 (xQro below (some (.int (s_X6_areAlike u p1 p2))) ([.ref (a 0), .int p1, .int p2] : List Value).toArray s) _
  have hR : s_X6_areAlike u p1 p2 = s_X6_areAlike u p1 p2 := rfl
  refine lv_iconst (v := 0) hx hb dX6_areAlike_0 rfl ?_
  refine lv_istore_n (lv' := [(3, .int 0), (0, .ref (a 0)), (1, .int p1), (2, .int p2)]) hx hb dX6_areAlike_1 rfl hl (by decide) rfl (fun ls hl => ?_)
  have L2 : ∀ (n2 : Nat) (x3 : Int32) (ls : Array Slot), (¬ x3 < 0) → ((4 : Int32).toInt - x3.toInt).toNat < n2 → s_X6_areAlike u p1 p2 = s_X6_areAlike_L2 n2 u p1 p2 x3 → lv_has ls 4 [(3, .int x3), (0, .ref (a 0)), (1, .int p1), (2, .int p2)] → W p l e rm_X6_areAlike s m ([.ref (a 0), .int p1, .int p2] : List Value).toArray below meth c s.heap [] 0 0 (xQro below (some (.int (s_X6_areAlike u p1 p2))) ([.ref (a 0), .int p1, .int p2] : List Value).toArray s) (F0 m 2 ls []) := by
    intro n2
    induction n2 with
    | zero => intro x3 ls hI0 hM2 hR hl; exact absurd hM2 (Nat.not_lt_zero _)
    | succ n2 ih2 =>
      intro x3 ls hI0 hM2 hR hl
      refine lv_iload_n hx hb dX6_areAlike_2 rfl (lv_at hl 0 rfl) ?_
      refine lv_iconst (v := 4) hx hb dX6_areAlike_3 rfl ?_
      refine lv_icmp_ge (tgt := 30) hx hb dX6_areAlike_4 rfl (fun q1 => ?_) (fun q1 => ?_)
      · have hR := hR.trans (if_pos q1)
        refine lv_iconst (v := 1) hx hb dX6_areAlike_30 rfl ?_
        have hR : s_X6_areAlike u p1 p2 = 1 := hR
        exact W.zret (v := 1) (ty := .boolean) hx hb hr (xnb (Or.inr rfl)) (fun t ht _ => ⟨congrArg (fun z => Outcome.returned (some (Value.int z))) hR.symm, ht⟩) (fun _ h => by cases h) dX6_areAlike_31
      · have hR := hR.trans (if_neg q1)
        refine lv_aload_n hx hb dX6_areAlike_7 rfl (lv_at hl 1 rfl) ?_
        refine lv_iload_n hx hb dX6_areAlike_8 rfl (lv_at hl 2 rfl) ?_
        refine lv_iload_n hx hb dX6_areAlike_9 rfl (lv_at hl 0 rfl) ?_
        refine xRoV (nL := 4) ⟨hx, hb, hml, hown, hts⟩ (c_X6_of0 l E a u p1 x3 (xof hp0 (xwh hI0 q1).1 (xwh hI0 q1).2)) (cwV 2 hts gX6_areAlike_X6_of0 rfl rfl rfl ⟨rfl, hd_X6_of0⟩ ⟨(Nat.le_of_ble_eq_true rfl), (Nat.le_of_ble_eq_true rfl)⟩) hF hS hA hP (va_recv (q := (RX6, TX6, 28)) hK hP (ci := 6) rfl (q0 := 0) rfl) rfl hl.1 rfl (Nat.le_of_ble_eq_true rfl) ⟨(Nat.le_of_ble_eq_true rfl), (Nat.le_of_ble_eq_true rfl)⟩ dX6_areAlike_10 ?_
        refine W.eq (g2 := F0 m 13 ls [.int (s_X6_of0 u p1 x3)]) rfl ?_
        refine lv_aload_n hx hb dX6_areAlike_13 rfl (lv_at hl 1 rfl) ?_
        refine lv_iload_n hx hb dX6_areAlike_14 rfl (lv_at hl 3 rfl) ?_
        refine lv_iload_n hx hb dX6_areAlike_15 rfl (lv_at hl 0 rfl) ?_
        refine xRoV (nL := 4) ⟨hx, hb, hml, hown, hts⟩ (c_X6_of0 l E a u p2 x3 (xof hp1 (xwh hI0 q1).1 (xwh hI0 q1).2)) (cwV 2 hts gX6_areAlike_X6_of0 rfl rfl rfl ⟨rfl, hd_X6_of0⟩ ⟨(Nat.le_of_ble_eq_true rfl), (Nat.le_of_ble_eq_true rfl)⟩) hF hS hA hP (va_recv (q := (RX6, TX6, 28)) hK hP (ci := 6) rfl (q0 := 0) rfl) rfl hl.1 rfl (Nat.le_of_ble_eq_true rfl) ⟨(Nat.le_of_ble_eq_true rfl), (Nat.le_of_ble_eq_true rfl)⟩ dX6_areAlike_16 ?_
        refine W.eq (g2 := F0 m 19 ls [.int (s_X6_of0 u p2 x3), .int (s_X6_of0 u p1 x3)]) rfl ?_
        refine lv_icmp_eq (tgt := 24) hx hb dX6_areAlike_19 rfl (fun q2 => ?_) (fun q2 => ?_)
        · have hR := hR.trans (if_pos q2)
          refine lv_iinc (k := 0) (v := x3 + 1) (lv' := [(3, .int (x3 + 1)), (0, .ref (a 0)), (1, .int p1), (2, .int p2)]) hx hb dX6_areAlike_24 hl rfl rfl (by decide) rfl (fun ls hl => ?_)
          refine lv_goto (tgt := 2) hx hb dX6_areAlike_27 rfl ?_
          exact ih2 (x3 + 1) _ (xup0 hI0 q1) (Nat.lt_of_lt_of_le (xupc q1) (Nat.le_of_lt_succ hM2)) hR (lv_sub hl [0, 1, 2, 3] rfl)
        · have hR := hR.trans (if_neg q2)
          refine lv_iconst (v := 0) hx hb dX6_areAlike_22 rfl ?_
          have hR : s_X6_areAlike u p1 p2 = 0 := hR
          exact W.zret (v := 0) (ty := .boolean) hx hb hr (xnb (Or.inl rfl)) (fun t ht _ => ⟨congrArg (fun z => Outcome.returned (some (Value.int z))) hR.symm, ht⟩) (fun _ h => by cases h) dX6_areAlike_23
  exact L2 (((4 : Int32).toInt - (0 : Int32).toInt).toNat + 1) 0 ls (by decide) (Nat.lt_succ_self _) hR hl
