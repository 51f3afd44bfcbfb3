def s_X6_otherwise_L6 : Nat → xU → Int32 → Int32 → Int32 → Int32 × xU
  | 0, u, _, _, _ => (0, u)
  | n + 1, u, x1, x2, x3 =>
    if (u.1 9 x1.toNatClampNeg) ≤ x3 then
      ((-1), u)
    else
      if (s_X6_isStation u (x2 + x3)) = 0 then
        (x3, u)
      else
        if (u.1 3 (x2 + x3).toNatClampNeg) = (u.1 10 ((40 * x1) + x3).toNatClampNeg) then
          s_X6_otherwise_L6 n u x1 x2 (x3 + 1)
        else
          (x3, u)
def s_X6_otherwise (u : xU) (p1 : Int32) (p2 : Int32) : Int32 × xU :=
  s_X6_otherwise_L6 ((((s_X6_lays u).1 9 p1.toNatClampNeg).toInt - (0 : Int32).toInt).toNat + 1) (s_X6_lays u) p1 p2 0
abbrev rm_X6_otherwise : Room := { frames := 2, cells := 0, slots := 0, locals := 50 }
set_option maxHeartbeats 8000000 in
set_option maxRecDepth 100000 in
theorem c_X6_otherwise (l : Launch) (E : xG) (a : Nat → Nat) (u : xU) (p1 : Int32) (p2 : Int32) (hp0 : XW u) (hp1 : XZ u) (hp2 : XS4 p1) (hL : xOK E (LM a)) : xMd l E yX6_otherwise wsX6_otherwise rm_X6_otherwise (LM a) [.ref (a 0), .int p1, .int p2] (wM E a u) (some (.int ((s_X6_otherwise u p1 p2).1))) (wM E a ((s_X6_otherwise u p1 p2).2)) := by
  refine xMd.of (cc := cX6_otherwise) (maxL := 4) (ret := (some .int)) (by decide) rfl (Nat.le_of_ble_eq_true rfl) ?_
  intro p e s m below meth c ls hAt hF hP hS hl
  obtain ⟨hx, hb, hr, hml, hown, hts, hlocks, -⟩ := hAt
  have hown : s.vm.findClass RX6 = some m.cls := hown
  have hl : lv_has ls 4 [(0, .ref (a 0)), (1, .int p1), (2, .int p2)] := hl
  have hK := hF.1
  have hA := hL.2
  change W p l e rm_X6_otherwise s m ([.ref (a 0), .int p1, .int p2] : List Value).toArray below meth c s.heap [] 0 0 (xQmd E below (LM a) (some (.int ((s_X6_otherwise u p1 p2).1))) (wM E a ((s_X6_otherwise u p1 p2).2)) ([.ref (a 0), .int p1, .int p2] : List Value).toArray s) _
  have hS : va_S (· ∈ LM a) s.heap s.heap [] := hS
  have hR : s_X6_otherwise u p1 p2 = s_X6_otherwise u p1 p2 := rfl
  refine lv_aload_n hx hb dX6_otherwise_0 rfl (lv_at hl 0 rfl) ?_
  refine xMdV (nL := 4) ⟨hx, hb, hml, hown, hts⟩ (c_X6_lays l E a u  (hp0) hL) (cwV 0 hts gX6_otherwise_X6_lays rfl rfl rfl ⟨rfl, hd_X6_lays⟩ ⟨(Nat.le_of_ble_eq_true rfl), (Nat.le_of_ble_eq_true rfl)⟩) hF hS hL.2 (fun _ h => h) hP (va_recv (q := (RX6, TX6, 28)) hK hP (ci := 6) rfl (q0 := 0) rfl) rfl hl.1 rfl (Nat.le_of_ble_eq_true rfl) ⟨(Nat.le_of_ble_eq_true rfl), (Nat.le_of_ble_eq_true rfl)⟩ dX6_otherwise_1 (fun H locs hP _ hS => ?_)
  refine W.eq (g2 := F0 m 4 ls []) rfl ?_
  refine lv_iconst (v := 0) hx hb dX6_otherwise_4 rfl ?_
  refine lv_istore_n (lv' := [(3, .int 0), (0, .ref (a 0)), (1, .int p1), (2, .int p2)]) hx hb dX6_otherwise_5 rfl hl (by decide) rfl (fun ls hl => ?_)
  have L6 : ∀ (n6 : Nat) (x3 : Int32) (H : Heap) (locs : List Loc) (ls : Array Slot), (¬ x3 < 0) → (((s_X6_lays u).1 9 p1.toNatClampNeg).toInt - x3.toInt).toNat < n6 → s_X6_otherwise u p1 p2 = s_X6_otherwise_L6 n6 (s_X6_lays u) p1 p2 x3 → lv_has ls 4 [(3, .int x3), (0, .ref (a 0)), (1, .int p1), (2, .int p2)] → va_P (xD E) vwCl (wM E a (s_X6_lays u)) H → va_S (· ∈ LM a) s.heap H locs → W p l e rm_X6_otherwise s m ([.ref (a 0), .int p1, .int p2] : List Value).toArray below meth c H locs 0 0 (xQmd E below (LM a) (some (.int ((s_X6_otherwise u p1 p2).1))) (wM E a ((s_X6_otherwise u p1 p2).2)) ([.ref (a 0), .int p1, .int p2] : List Value).toArray s) (F0 m 6 ls []) := by
    intro n6
    induction n6 with
    | zero => intro x3 H locs ls hI0 hM6 hR hl hP hS; exact absurd hM6 (Nat.not_lt_zero _)
    | succ n6 ih6 =>
      intro x3 H locs ls hI0 hM6 hR hl hP hS
      refine lv_iload_n hx hb dX6_otherwise_6 rfl (lv_at hl 0 rfl) ?_
      refine lv_aload_n hx hb dX6_otherwise_7 rfl (lv_at hl 1 rfl) ?_
      refine va_get (D := xD E) (ci := 6) (v := .ref (a 9)) (C := RX6) (T := TX6) (N := 28) hx hb hts (by decide +kernel) hown hK hP 0 rfl rfl 12 (by decide) (hts (.fieldLink RX6 36 "RailOffsetsModel" "sizes" "[I") (by decide +kernel)) (fun _ h => h) rfl dX6_otherwise_8 ?_
      refine lv_iload_n hx hb dX6_otherwise_11 rfl (lv_at hl 2 rfl) ?_
      refine va_iald hx hb hK hP 9 0 rfl rfl (xs4 hp2) dX6_otherwise_12 ?_
      refine lv_icmp_ge (tgt := 56) hx hb dX6_otherwise_13 rfl (fun q1 => ?_) (fun q1 => ?_)
      · have hR := hR.trans (if_pos q1)
        refine lv_iconst (v := (-1)) hx hb dX6_otherwise_56 rfl ?_
        have hR : s_X6_otherwise u p1 p2 = ((-1), s_X6_lays u) := hR
        exact W.iret (v := (-1)) hx hb hr (fun t ht _ => by rw [hR]; dsimp only; exact ⟨⟨rfl, by rw [ht]; exact hP⟩, hS.F ht⟩) hS.2.2 dX6_otherwise_57
      · have hR := hR.trans (if_neg q1)
        refine lv_aload_n hx hb dX6_otherwise_16 rfl (lv_at hl 1 rfl) ?_
        refine lv_iload_n hx hb dX6_otherwise_17 rfl (lv_at hl 3 rfl) ?_
        refine lv_iload_n hx hb dX6_otherwise_18 rfl (lv_at hl 0 rfl) ?_
        refine lv_iadd hx hb dX6_otherwise_19 ?_
        refine xRoV (nL := 4) ⟨hx, hb, hml, hown, hts⟩ (c_X6_isStation l E a (s_X6_lays u) (p2 + x3)) (cwV 1 hts gX6_otherwise_X6_isStation rfl rfl rfl ⟨rfl, hd_X6_isStation⟩ ⟨(Nat.le_of_ble_eq_true rfl), (Nat.le_of_ble_eq_true rfl)⟩) hF hS hA hP (va_recv (q := (RX6, TX6, 28)) hK hP (ci := 6) rfl (q0 := 0) rfl) rfl hl.1 rfl (Nat.le_of_ble_eq_true rfl) ⟨(Nat.le_of_ble_eq_true rfl), (Nat.le_of_ble_eq_true rfl)⟩ dX6_otherwise_20 ?_
        refine W.eq (g2 := F0 m 23 ls [.int (s_X6_isStation (s_X6_lays u) (p2 + x3))]) rfl ?_
        refine lv_if_eq (tgt := 48) hx hb dX6_otherwise_23 rfl (fun q2 => ?_) (fun q2 => ?_)
        · have hR := hR.trans (if_pos q2)
          refine lv_iload_n hx hb dX6_otherwise_48 rfl (lv_at hl 0 rfl) ?_
          have hR : s_X6_otherwise u p1 p2 = (x3, s_X6_lays u) := hR
          exact W.iret (v := x3) hx hb hr (fun t ht _ => by rw [hR]; dsimp only; exact ⟨⟨rfl, by rw [ht]; exact hP⟩, hS.F ht⟩) hS.2.2 dX6_otherwise_49
        · have hR := hR.trans (if_neg q2)
          refine lv_aload_n hx hb dX6_otherwise_26 rfl (lv_at hl 1 rfl) ?_
          refine va_get (D := xD E) (ci := 6) (v := .ref (a 3)) (C := RX6) (T := TX6) (N := 28) hx hb hts (by decide +kernel) hown hK hP 0 rfl rfl 3 (by decide) (hts (.fieldLink RX6 18 "RailOffsetsModel" "versine" "[I") (by decide +kernel)) (fun _ h => h) rfl dX6_otherwise_27 ?_
          refine lv_iload_n hx hb dX6_otherwise_30 rfl (lv_at hl 3 rfl) ?_
          refine lv_iload_n hx hb dX6_otherwise_31 rfl (lv_at hl 0 rfl) ?_
          refine lv_iadd hx hb dX6_otherwise_32 ?_
          refine va_iald hx hb hK hP 3 0 rfl rfl (xvst (xisSt (xlays_st hp0) q2).st) dX6_otherwise_33 ?_
          refine lv_aload_n hx hb dX6_otherwise_34 rfl (lv_at hl 1 rfl) ?_
          refine va_get (D := xD E) (ci := 6) (v := .ref (a 10)) (C := RX6) (T := TX6) (N := 28) hx hb hts (by decide +kernel) hown hK hP 0 rfl rfl 13 (by decide) (hts (.fieldLink RX6 39 "RailOffsetsModel" "items" "[I") (by decide +kernel)) (fun _ h => h) rfl dX6_otherwise_35 ?_
          refine lv_bipush (v := 40) hx hb dX6_otherwise_38 rfl ?_
          refine lv_iload_n hx hb dX6_otherwise_40 rfl (lv_at hl 2 rfl) ?_
          refine lv_imul hx hb dX6_otherwise_41 ?_
          refine lv_iload_n hx hb dX6_otherwise_42 rfl (lv_at hl 0 rfl) ?_
          refine lv_iadd hx hb dX6_otherwise_43 ?_
          refine va_iald hx hb hK hP 10 0 rfl rfl (xit4 hp2 (xge0 hI0) (xlt40 (xz4 (xlays_z hp1) hp2).2 q1)) dX6_otherwise_44 ?_
          refine lv_icmp_eq (tgt := 50) hx hb dX6_otherwise_45 rfl (fun q3 => ?_) (fun q3 => ?_)
          · have hR := hR.trans (if_pos q3)
            refine lv_iinc (k := 0) (v := x3 + 1) (lv' := [(3, .int (x3 + 1)), (0, .ref (a 0)), (1, .int p1), (2, .int p2)]) hx hb dX6_otherwise_50 hl rfl rfl (by decide) rfl (fun ls hl => ?_)
            refine lv_goto (tgt := 6) hx hb dX6_otherwise_53 rfl ?_
            exact ih6 (x3 + 1) _ _ _ (xup0 hI0 q1) (Nat.lt_of_lt_of_le (xupc q1) (Nat.le_of_lt_succ hM6)) hR (lv_sub hl [0, 1, 2, 3] rfl) hP hS
          · have hR := hR.trans (if_neg q3)
            refine lv_iload_n hx hb dX6_otherwise_48 rfl (lv_at hl 0 rfl) ?_
            have hR : s_X6_otherwise u p1 p2 = (x3, s_X6_lays u) := hR
            exact W.iret (v := x3) hx hb hr (fun t ht _ => by rw [hR]; dsimp only; exact ⟨⟨rfl, by rw [ht]; exact hP⟩, hS.F ht⟩) hS.2.2 dX6_otherwise_49
  exact L6 ((((s_X6_lays u).1 9 p1.toNatClampNeg).toInt - (0 : Int32).toInt).toNat + 1) 0 _ _ ls (by decide) (Nat.lt_succ_self _) hR hl hP hS
theorem xow_L : ∀ (n : Nat) (u : xU) (x1 x2 x3 : Int32), (s_X6_otherwise_L6 n u x1 x2 x3).2 = u := by
  intro n
  induction n with
  | zero => intros; rfl
  | succ n ih =>
    intro u x1 x2 x3
    rw [s_X6_otherwise_L6]
    split
    · rfl
    · split
      · rfl
      · split
        · exact ih _ _ _ _
        · rfl
theorem xow (u : xU) (a b : Int32) : (s_X6_otherwise u a b).2 = s_X6_lays u := xow_L _ _ _ _ _
theorem xok_kind6 {x : Int32} (h0 : ¬ x < 0) (h : ¬ 6 ≤ x) : okf 0 x := by
  rw [fa_lt, show (0 : Int32).toInt = 0 from rfl] at h0
  rw [fa_le, show (6 : Int32).toInt = 6 from rfl] at h
  exact ⟨by omega, by omega⟩
theorem xsh_L : ∀ (n : Nat) (u : xU) (x1 x2 x3 x4 : Int32), (s_X6_sheet_L68 n u x1 x2 x3 x4).2.2 = u.2 ∧ ∀ k, k ≠ 10 → (s_X6_sheet_L68 n u x1 x2 x3 x4).2.1 k = u.1 k := by
  intro n
  induction n with
  | zero => intros; exact ⟨rfl, fun _ _ => rfl⟩
  | succ n ih =>
    intro u x1 x2 x3 x4
    rw [s_X6_sheet_L68]
    split
    · exact ⟨rfl, fun _ _ => rfl⟩
    · obtain ⟨a, b⟩ := ih (uA u 10 ((40 * x1) + x4).toNatClampNeg 0) x1 x2 x3 (x4 + 1)
      refine ⟨a, fun k hk => (b k hk).trans ?_⟩
      simp only [uA]
      rw [if_neg hk]
theorem xsh_k (u : xU) (a b c : Int32) : (s_X6_sheet u a b c).2.2 = u.2 ∧ ∀ k, k ≠ 8 → k ≠ 9 → k ≠ 10 → (s_X6_sheet u a b c).2.1 k = u.1 k := by
  have h : ∀ (n : Nat) (x y : Int32) (i j : Nat), (s_X6_sheet_L68 n (uA (uA u 8 i x) 9 j y) a b c 0).2.2 = u.2 ∧ ∀ k, k ≠ 8 → k ≠ 9 → k ≠ 10 → (s_X6_sheet_L68 n (uA (uA u 8 i x) 9 j y) a b c 0).2.1 k = u.1 k := by
    intro n x y i j
    obtain ⟨p, q⟩ := xsh_L n (uA (uA u 8 i x) 9 j y) a b c 0
    refine ⟨p, fun k h8 h9 h10 => (q k h10).trans ?_⟩
    simp only [uA]
    rw [if_neg h9, if_neg h8]
  unfold s_X6_sheet
  split
  · exact ⟨rfl, fun _ _ _ _ => rfl⟩
  · split
    · exact ⟨rfl, fun _ _ _ _ => rfl⟩
    · split
      · exact h _ _ _ _ _
      · split
        · split
          · exact h _ _ _ _ _
          · exact ⟨rfl, fun _ _ _ _ => rfl⟩
        · exact ⟨rfl, fun _ _ _ _ => rfl⟩
theorem xsh_w {u : xU} {a b c : Int32} (h : XW u) : XW (s_X6_sheet u a b c).2 := by
  unfold XW
  rw [(xsh_k u a b c).2 1 (by decide) (by decide) (by decide)]
  exact h
theorem xltp {i n : Int32} (q : ¬ n ≤ i) (hn : n.toInt ≤ 40) : i.toInt < 40 := by
  rw [fa_le] at q
  omega
def XTS (u : xU) : Prop := 0 ≤ (u.2 4).toInt ∧ (u.2 4).toInt ≤ 60
def XFd (z n k : Int32) : Prop := 0 ≤ z.toInt ∧ 0 ≤ k.toInt ∧ z.toInt + (n.toInt - k.toInt) ≤ 60 ∧ n.toInt ≤ 5
theorem xfd0 {u : xU} {n : Int32} (h : XTS u) (q : (u.2 4) + n ≤ 60) (h1 : 1 ≤ n.toInt ∧ n.toInt ≤ 5) : XFd (u.2 4) n 0 := by
  obtain ⟨a, b⟩ := h
  rw [fa_le, fb_addI (by omega) (by omega), show (60 : Int32).toInt = 60 from rfl] at q
  exact ⟨a, by decide, by rw [show (0 : Int32).toInt = 0 from rfl]; omega, h1.2⟩
theorem xfd1 {z n k : Int32} (h : XFd z n k) (q : ¬ n ≤ k) : XFd (z + 1) n (k + 1) := by
  obtain ⟨h1, h2, h3, h4⟩ := h
  rw [fa_le] at q
  rw [show XFd (z + 1) n (k + 1) = (0 ≤ (z + 1).toInt ∧ 0 ≤ (k + 1).toInt ∧ (z + 1).toInt + (n.toInt - (k + 1).toInt) ≤ 60 ∧ n.toInt ≤ 5) from rfl, xinc (k := z) (by omega), xinc (k := k) (by omega)]
  omega
theorem xfdi {z n k : Int32} (h : XFd z n k) (q : ¬ n ≤ k) : vp_in z 60 := by
  obtain ⟨h1, h2, h3, h4⟩ := h
  rw [fa_le] at q
  rw [vp_in_iff]
  omega
def s_X6_tells_L87 : Nat → xU → Int32 → Int32 → Int32 → Int32 → Int32 → Int32 → Int32 × xU
  | 0, u, _, _, _, _, _, _ => (0, u)
  | n + 1, u, x1, x2, x3, x4, x5, x6 =>
    if 6 ≤ x6 then
      (x5, uA u 1 ((4 * x3) + 0).toNatClampNeg x4)
    else
      s_X6_tells_L87 n ((s_X6_otherwise (uA u 1 ((4 * x3) + 0).toNatClampNeg x6) x1 x2).2) x1 x2 x3 x4 (x5 ||| (if ((s_X6_otherwise (uA u 1 ((4 * x3) + 0).toNatClampNeg x6) x1 x2).1) = (-1) then (1 : Int32) <<< (x6 &&& 31) else 0)) (x6 + 1)
def s_X6_tells (u : xU) (p1 : Int32) (p2 : Int32) (p3 : Int32) : Int32 × xU :=
  if (s_X6_isSheet u p1) = 0 then
    ((-2), u)
  else
    if (s_X6_in u p2.toInt64 1 200) = 0 then
      ((-2), u)
    else
      if p3 = (-1) then
        if 0 ≤ (u.1 8 p1.toNatClampNeg) then
          if (u.1 9 p1.toNatClampNeg) ≤ 8 then
            if p3 = (-1) then
              ((s_X6_otherwise u p1 p2).1, (s_X6_otherwise u p1 p2).2)
            else
              s_X6_tells_L87 (((6 : Int32).toInt - (0 : Int32).toInt).toNat + 1) u p1 p2 p3 (s_X6_of0 u p3 0) 0 0
          else
            ((-2), u)
        else
          ((-11), u)
      else
        if (s_X6_isPiece u p3) = 0 then
          ((-2), u)
        else
          if 0 ≤ (u.1 8 p1.toNatClampNeg) then
            if (u.1 9 p1.toNatClampNeg) ≤ 8 then
              if p3 = (-1) then
                ((s_X6_otherwise u p1 p2).1, (s_X6_otherwise u p1 p2).2)
              else
                s_X6_tells_L87 (((6 : Int32).toInt - (0 : Int32).toInt).toNat + 1) u p1 p2 p3 (s_X6_of0 u p3 0) 0 0
            else
              ((-2), u)
          else
            ((-11), u)
abbrev rm_X6_tells : Room := { frames := 3, cells := 0, slots := 0, locals := 73 }
set_option maxHeartbeats 8000000 in
set_option maxRecDepth 100000 in
theorem c_X6_tells (l : Launch) (E : xG) (a : Nat → Nat) (u : xU) (p1 : Int32) (p2 : Int32) (p3 : Int32) (hp0 : XW u) (hp1 : XZ u) (hL : xOK E (LM a)) : xMd l E yX6_tells wsX6_tells rm_X6_tells (LM a) [.ref (a 0), .int p1, .int p2, .int p3] (wM E a u) (some (.int ((s_X6_tells u p1 p2 p3).1))) (wM E a ((s_X6_tells u p1 p2 p3).2)) := by
  refine xMd.of (cc := cX6_tells) (maxL := 7) (ret := (some .int)) (by decide) rfl (Nat.le_of_ble_eq_true rfl) ?_
  intro p e s m below meth c ls hAt hF hP hS hl
  obtain ⟨hx, hb, hr, hml, hown, hts, hlocks, -⟩ := hAt
  have hown : s.vm.findClass RX6 = some m.cls := hown
  have hl : lv_has ls 7 [(0, .ref (a 0)), (1, .int p1), (2, .int p2), (3, .int p3)] := hl
  have hK := hF.1
  have hA := hL.2
  change W p l e rm_X6_tells s m ([.ref (a 0), .int p1, .int p2, .int p3] : List Value).toArray below meth c s.heap [] 0 0 (xQmd E below (LM a) (some (.int ((s_X6_tells u p1 p2 p3).1))) (wM E a ((s_X6_tells u p1 p2 p3).2)) ([.ref (a 0), .int p1, .int p2, .int p3] : List Value).toArray s) _
  have hS : va_S (· ∈ LM a) s.heap s.heap [] := hS
  have hR : s_X6_tells u p1 p2 p3 = s_X6_tells u p1 p2 p3 := rfl
  refine lv_iload_n hx hb dX6_tells_0 rfl (lv_at hl 1 rfl) ?_
  refine xRoS (nL := 7) ⟨hx, hb, hml, hown, hts⟩ (c_X6_isSheet l E a u p1) (va_cwS 1 hts gX6_tells_X6_isSheet rfl rfl rfl hd_X6_isSheet ⟨(Nat.le_of_ble_eq_true rfl), (Nat.le_of_ble_eq_true rfl)⟩) hF hS hA hP rfl hl.1 rfl (Nat.le_of_ble_eq_true rfl) ⟨(Nat.le_of_ble_eq_true rfl), (Nat.le_of_ble_eq_true rfl)⟩ dX6_tells_1 ?_
  refine W.eq (g2 := F0 m 4 ls [.int (s_X6_isSheet u p1)]) rfl ?_
  refine lv_if_eq (tgt := 32) hx hb dX6_tells_4 rfl (fun q1 => ?_) (fun q1 => ?_)
  · have hR := hR.trans (if_pos q1)
    refine lv_bipush (v := (-2)) hx hb dX6_tells_32 rfl ?_
    have hR : s_X6_tells u p1 p2 p3 = ((-2), u) := hR
    exact W.iret (v := (-2)) hx hb hr (fun t ht _ => by rw [hR]; dsimp only; exact ⟨⟨rfl, by rw [ht]; exact hP⟩, hS.F ht⟩) hS.2.2 dX6_tells_34
  · have hR := hR.trans (if_neg q1)
    refine lv_iload_n hx hb dX6_tells_7 rfl (lv_at hl 2 rfl) ?_
    refine lv_i2l hx hb dX6_tells_8 rfl ?_
    refine lv_lconst (v := 1) hx hb dX6_tells_9 rfl ?_
    refine lv_ldc2 (v := 200) hx hb hown (hts (.constantLong RX6 112 (200)) (by decide +kernel)) dX6_tells_10 ?_
    refine xRoS (nL := 7) ⟨hx, hb, hml, hown, hts⟩ (c_X6_in l E a u p2.toInt64 1 200) (va_cwS 3 hts gX6_tells_X6_in rfl rfl rfl hd_X6_in ⟨(Nat.le_of_ble_eq_true rfl), (Nat.le_of_ble_eq_true rfl)⟩) hF hS hA hP rfl hl.1 rfl (Nat.le_of_ble_eq_true rfl) ⟨(Nat.le_of_ble_eq_true rfl), (Nat.le_of_ble_eq_true rfl)⟩ dX6_tells_13 ?_
    refine W.eq (g2 := F0 m 16 ls [.int (s_X6_in u p2.toInt64 1 200)]) rfl ?_
    refine lv_if_eq (tgt := 32) hx hb dX6_tells_16 rfl (fun q2 => ?_) (fun q2 => ?_)
    · have hR := hR.trans (if_pos q2)
      refine lv_bipush (v := (-2)) hx hb dX6_tells_32 rfl ?_
      have hR : s_X6_tells u p1 p2 p3 = ((-2), u) := hR
      exact W.iret (v := (-2)) hx hb hr (fun t ht _ => by rw [hR]; dsimp only; exact ⟨⟨rfl, by rw [ht]; exact hP⟩, hS.F ht⟩) hS.2.2 dX6_tells_34
    · have hR := hR.trans (if_neg q2)
      refine lv_iload_n hx hb dX6_tells_19 rfl (lv_at hl 3 rfl) ?_
      refine lv_iconst (v := (-1)) hx hb dX6_tells_20 rfl ?_
      refine lv_icmp_eq (tgt := 35) hx hb dX6_tells_21 rfl (fun q3 => ?_) (fun q3 => ?_)
      · have hR := hR.trans (if_pos q3)
        refine lv_aload_n hx hb dX6_tells_35 rfl (lv_at hl 0 rfl) ?_
        refine va_get (D := xD E) (ci := 6) (v := .ref (a 8)) (C := RX6) (T := TX6) (N := 28) hx hb hts (by decide +kernel) hown hK hP 0 rfl rfl 11 (by decide) (hts (.fieldLink RX6 33 "RailOffsetsModel" "sorts" "[I") (by decide +kernel)) (fun _ h => h) rfl dX6_tells_36 ?_
        refine lv_iload_n hx hb dX6_tells_39 rfl (lv_at hl 1 rfl) ?_
        refine va_iald hx hb hK hP 8 0 rfl rfl (xsh4 q1) dX6_tells_40 ?_
        refine lv_if_ge (tgt := 47) hx hb dX6_tells_41 rfl (fun q4 => ?_) (fun q4 => ?_)
        · have hR := hR.trans (if_pos q4)
          refine lv_aload_n hx hb dX6_tells_47 rfl (lv_at hl 0 rfl) ?_
          refine va_get (D := xD E) (ci := 6) (v := .ref (a 9)) (C := RX6) (T := TX6) (N := 28) hx hb hts (by decide +kernel) hown hK hP 0 rfl rfl 12 (by decide) (hts (.fieldLink RX6 36 "RailOffsetsModel" "sizes" "[I") (by decide +kernel)) (fun _ h => h) rfl dX6_tells_48 ?_
          refine lv_iload_n hx hb dX6_tells_51 rfl (lv_at hl 1 rfl) ?_
          refine va_iald hx hb hK hP 9 0 rfl rfl (xsh4 q1) dX6_tells_52 ?_
          refine lv_bipush (v := 8) hx hb dX6_tells_53 rfl ?_
          refine lv_icmp_le (tgt := 61) hx hb dX6_tells_55 rfl (fun q5 => ?_) (fun q5 => ?_)
          · have hR := hR.trans (if_pos q5)
            refine lv_iload_n hx hb dX6_tells_61 rfl (lv_at hl 3 rfl) ?_
            refine lv_iconst (v := (-1)) hx hb dX6_tells_62 rfl ?_
            refine lv_icmp_ne (tgt := 73) hx hb dX6_tells_63 rfl (fun q6 => ?_) (fun q6 => ?_)
            · have hR := hR.trans (if_neg q6)
              refine lv_aload_n hx hb dX6_tells_73 rfl (lv_at hl 0 rfl) ?_
              refine lv_iload_n hx hb dX6_tells_74 rfl (lv_at hl 3 rfl) ?_
              refine lv_iconst (v := 0) hx hb dX6_tells_75 rfl ?_
              refine xRoV (nL := 7) ⟨hx, hb, hml, hown, hts⟩ (c_X6_of0 l E a u p3 0 (xof (by first | exact xisP hp0 q10 | exact absurd q3 q6) (by decide) (by decide))) (cwV 2 hts gX6_tells_X6_of0 rfl rfl rfl ⟨rfl, hd_X6_of0⟩ ⟨(Nat.le_of_ble_eq_true rfl), (Nat.le_of_ble_eq_true rfl)⟩) hF hS hA hP (va_recv (q := (RX6, TX6, 28)) hK hP (ci := 6) rfl (q0 := 0) rfl) rfl hl.1 rfl (Nat.le_of_ble_eq_true rfl) ⟨(Nat.le_of_ble_eq_true rfl), (Nat.le_of_ble_eq_true rfl)⟩ dX6_tells_76 ?_
              refine W.eq (g2 := F0 m 79 ls [.int (s_X6_of0 u p3 0)]) rfl ?_
              refine lv_istore (lv' := [(4, .int (s_X6_of0 u p3 0)), (0, .ref (a 0)), (1, .int p1), (2, .int p2), (3, .int p3)]) hx hb dX6_tells_79 hl (by decide) rfl (fun ls hl => ?_)
              refine lv_iconst (v := 0) hx hb dX6_tells_81 rfl ?_
              refine lv_istore (lv' := [(5, .int 0), (4, .int (s_X6_of0 u p3 0)), (0, .ref (a 0)), (1, .int p1), (2, .int p2), (3, .int p3)]) hx hb dX6_tells_82 hl (by decide) rfl (fun ls hl => ?_)
              refine lv_iconst (v := 0) hx hb dX6_tells_84 rfl ?_
              refine lv_istore (lv' := [(6, .int 0), (5, .int 0), (4, .int (s_X6_of0 u p3 0)), (0, .ref (a 0)), (1, .int p1), (2, .int p2), (3, .int p3)]) hx hb dX6_tells_85 hl (by decide) rfl (fun ls hl => ?_)
              have L87 : ∀ (n87 : Nat) (u87 : xU) (x5 : Int32) (x6 : Int32) (H : Heap) (locs : List Loc) (ls : Array Slot), (XW u87) → (XZ u87) → (¬ x6 < 0) → (XP p3) → ((6 : Int32).toInt - x6.toInt).toNat < n87 → s_X6_tells u p1 p2 p3 = s_X6_tells_L87 n87 u87 p1 p2 p3 (s_X6_of0 u p3 0) x5 x6 → lv_has ls 7 [(6, .int x6), (5, .int x5), (4, .int (s_X6_of0 u p3 0)), (0, .ref (a 0)), (1, .int p1), (2, .int p2), (3, .int p3)] → va_P (xD E) vwCl (wM E a u87) H → va_S (· ∈ LM a) s.heap H locs → W p l e rm_X6_tells s m ([.ref (a 0), .int p1, .int p2, .int p3] : List Value).toArray below meth c H locs 0 0 (xQmd E below (LM a) (some (.int ((s_X6_tells u p1 p2 p3).1))) (wM E a ((s_X6_tells u p1 p2 p3).2)) ([.ref (a 0), .int p1, .int p2, .int p3] : List Value).toArray s) (F0 m 87 ls []) := by
                intro n87
                induction n87 with
                | zero => intro u87 x5 x6 H locs ls hI0 hI1 hI2 hI3 hM87 hR hl hP hS; exact absurd hM87 (Nat.not_lt_zero _)
                | succ n87 ih87 =>
                  intro u87 x5 x6 H locs ls hI0 hI1 hI2 hI3 hM87 hR hl hP hS
                  refine lv_iload hx hb dX6_tells_87 (lv_at hl 0 rfl) ?_
                  refine lv_bipush (v := 6) hx hb dX6_tells_89 rfl ?_
                  refine lv_icmp_ge (tgt := 135) hx hb dX6_tells_91 rfl (fun q7 => ?_) (fun q7 => ?_)
                  · have hR := hR.trans (if_pos q7)
                    refine lv_aload_n hx hb dX6_tells_135 rfl (lv_at hl 3 rfl) ?_
                    refine va_get (D := xD E) (ci := 6) (v := .ref (a 1)) (C := RX6) (T := TX6) (N := 28) hx hb hts (by decide +kernel) hown hK hP 0 rfl rfl 0 (by decide) (hts (.fieldLink RX6 11 "RailOffsetsModel" "now" "[I") (by decide +kernel)) (fun _ h => h) rfl dX6_tells_136 ?_
                    refine lv_iconst (v := 4) hx hb dX6_tells_139 rfl ?_
                    refine lv_iload_n hx hb dX6_tells_140 rfl (lv_at hl 6 rfl) ?_
                    refine lv_imul hx hb dX6_tells_141 ?_
                    refine lv_iconst (v := 0) hx hb dX6_tells_142 rfl ?_
                    refine lv_iadd hx hb dX6_tells_143 ?_
                    refine lv_iload hx hb dX6_tells_144 (lv_at hl 2 rfl) ?_
                    refine va_iast hx hb hK hP (xD_of (ws := wM E a u87) (A := (· ∈ LM a)) hL.1 (fun _ h => h)) hS 1 0 rfl rfl (xof hI3 (by decide) (by decide)) dX6_tells_146 (fun H locs hP _ hS => ?_)
                    have hP : va_P (xD E) vwCl (wM E a (uA u87 1 ((4 * p3) + 0).toNatClampNeg (s_X6_of0 u p3 0))) H := hP
                    refine lv_iload hx hb dX6_tells_147 (lv_at hl 1 rfl) ?_
                    have hR : s_X6_tells u p1 p2 p3 = (x5, uA u87 1 ((4 * p3) + 0).toNatClampNeg (s_X6_of0 u p3 0)) := hR
                    exact W.iret (v := x5) hx hb hr (fun t ht _ => by rw [hR]; dsimp only; exact ⟨⟨rfl, by rw [ht]; exact hP⟩, hS.F ht⟩) hS.2.2 dX6_tells_149
                  · have hR := hR.trans (if_neg q7)
                    refine lv_aload_n hx hb dX6_tells_94 rfl (lv_at hl 3 rfl) ?_
                    refine va_get (D := xD E) (ci := 6) (v := .ref (a 1)) (C := RX6) (T := TX6) (N := 28) hx hb hts (by decide +kernel) hown hK hP 0 rfl rfl 0 (by decide) (hts (.fieldLink RX6 11 "RailOffsetsModel" "now" "[I") (by decide +kernel)) (fun _ h => h) rfl dX6_tells_95 ?_
                    refine lv_iconst (v := 4) hx hb dX6_tells_98 rfl ?_
                    refine lv_iload_n hx hb dX6_tells_99 rfl (lv_at hl 6 rfl) ?_
                    refine lv_imul hx hb dX6_tells_100 ?_
                    refine lv_iconst (v := 0) hx hb dX6_tells_101 rfl ?_
                    refine lv_iadd hx hb dX6_tells_102 ?_
                    refine lv_iload hx hb dX6_tells_103 (lv_at hl 0 rfl) ?_
                    refine va_iast hx hb hK hP (xD_of (ws := wM E a u87) (A := (· ∈ LM a)) hL.1 (fun _ h => h)) hS 1 0 rfl rfl (xof hI3 (by decide) (by decide)) dX6_tells_105 (fun H locs hP _ hS => ?_)
                    have hP : va_P (xD E) vwCl (wM E a (uA u87 1 ((4 * p3) + 0).toNatClampNeg x6)) H := hP
                    refine lv_iload hx hb dX6_tells_106 (lv_at hl 1 rfl) ?_
                    refine lv_aload_n hx hb dX6_tells_108 rfl (lv_at hl 3 rfl) ?_
                    refine lv_iload_n hx hb dX6_tells_109 rfl (lv_at hl 4 rfl) ?_
                    refine lv_iload_n hx hb dX6_tells_110 rfl (lv_at hl 5 rfl) ?_
                    refine xMdV (nL := 7) ⟨hx, hb, hml, hown, hts⟩ (c_X6_otherwise l E a (uA u87 1 ((4 * p3) + 0).toNatClampNeg x6) p1 p2 (xwu hI0 hI3 (j := 0) (by decide) (xok_kind6 hI2 q7) (fun z => absurd z (by decide))) (hI1) (xsh q1) hL) (cwV 2 hts gX6_tells_X6_otherwise rfl rfl rfl ⟨rfl, hd_X6_otherwise⟩ ⟨(Nat.le_of_ble_eq_true rfl), (Nat.le_of_ble_eq_true rfl)⟩) hF hS hL.2 (fun _ h => h) hP (va_recv (q := (RX6, TX6, 28)) hK hP (ci := 6) rfl (q0 := 0) rfl) rfl hl.1 rfl (Nat.le_of_ble_eq_true rfl) ⟨(Nat.le_of_ble_eq_true rfl), (Nat.le_of_ble_eq_true rfl)⟩ dX6_tells_111 (fun H locs hP _ hS => ?_)
                    refine W.eq (g2 := F0 m 114 ls [.int ((s_X6_otherwise (uA u87 1 ((4 * p3) + 0).toNatClampNeg x6) p1 p2).1), .int x5]) rfl ?_
                    refine lv_iconst (v := (-1)) hx hb dX6_tells_114 rfl ?_
                    have J8 : W p l e rm_X6_tells s m ([.ref (a 0), .int p1, .int p2, .int p3] : List Value).toArray below meth c H locs 0 0 (xQmd E below (LM a) (some (.int ((s_X6_tells u p1 p2 p3).1))) (wM E a ((s_X6_tells u p1 p2 p3).2)) ([.ref (a 0), .int p1, .int p2, .int p3] : List Value).toArray s) (F0 m 126 ls [.int (if ((s_X6_otherwise (uA u87 1 ((4 * p3) + 0).toNatClampNeg x6) p1 p2).1) = (-1) then (1 : Int32) <<< (x6 &&& 31) else 0), .int x5]) := by
                      refine lv_ior hx hb dX6_tells_126 ?_
                      refine lv_istore (lv' := [(5, .int (x5 ||| (if ((s_X6_otherwise (uA u87 1 ((4 * p3) + 0).toNatClampNeg x6) p1 p2).1) = (-1) then (1 : Int32) <<< (x6 &&& 31) else 0))), (6, .int x6), (4, .int (s_X6_of0 u p3 0)), (0, .ref (a 0)), (1, .int p1), (2, .int p2), (3, .int p3)]) hx hb dX6_tells_127 hl (by decide) rfl (fun ls hl => ?_)
                      refine lv_iinc (k := 1) (v := x6 + 1) (lv' := [(6, .int (x6 + 1)), (5, .int (x5 ||| (if ((s_X6_otherwise (uA u87 1 ((4 * p3) + 0).toNatClampNeg x6) p1 p2).1) = (-1) then (1 : Int32) <<< (x6 &&& 31) else 0))), (4, .int (s_X6_of0 u p3 0)), (0, .ref (a 0)), (1, .int p1), (2, .int p2), (3, .int p3)]) hx hb dX6_tells_129 hl rfl rfl (by decide) rfl (fun ls hl => ?_)
                      refine lv_goto (tgt := 87) hx hb dX6_tells_132 rfl ?_
                      exact ih87 ((s_X6_otherwise (uA u87 1 ((4 * p3) + 0).toNatClampNeg x6) p1 p2).2) (x5 ||| (if ((s_X6_otherwise (uA u87 1 ((4 * p3) + 0).toNatClampNeg x6) p1 p2).1) = (-1) then (1 : Int32) <<< (x6 &&& 31) else 0)) (x6 + 1) _ _ _ (by rw [xow]; exact xlays_w (xwu hI0 hI3 (j := 0) (by decide) (xok_kind6 hI2 q7) (fun z => absurd z (by decide)))) (by rw [xow]; exact xlays_z (xzu hI1)) (xup0 hI2 q7) (hI3) (Nat.lt_of_lt_of_le (xupc q7) (Nat.le_of_lt_succ hM87)) hR (lv_sub hl [0, 1, 2, 3, 4, 5, 6] rfl) hP hS
                    refine lv_icmp_ne (tgt := 125) hx hb dX6_tells_115 rfl (fun q9 => ?_) (fun q9 => ?_)
                    · refine lv_iconst (v := 0) hx hb dX6_tells_125 rfl ?_
                      exact W.eq (congrArg (fun z => F0 m 126 ls [.int z, .int x5]) (if_neg q9).symm) J8
                    · refine lv_iconst (v := 1) hx hb dX6_tells_118 rfl ?_
                      refine lv_iload hx hb dX6_tells_119 (lv_at hl 0 rfl) ?_
                      refine lv_ishl hx hb dX6_tells_121 ?_
                      refine lv_goto (tgt := 126) hx hb dX6_tells_122 rfl ?_
                      exact W.eq (congrArg (fun z => F0 m 126 ls [.int z, .int x5]) (if_pos q9).symm) J8
              exact L87 (((6 : Int32).toInt - (0 : Int32).toInt).toNat + 1) u 0 0 _ _ ls (hp0) (hp1) (by decide) (by first | exact xisP hp0 q10 | exact absurd q3 q6) (Nat.lt_succ_self _) hR hl hP hS
            · have hR := hR.trans (if_pos q6)
              refine lv_aload_n hx hb dX6_tells_66 rfl (lv_at hl 0 rfl) ?_
              refine lv_iload_n hx hb dX6_tells_67 rfl (lv_at hl 1 rfl) ?_
              refine lv_iload_n hx hb dX6_tells_68 rfl (lv_at hl 2 rfl) ?_
              refine xMdV (nL := 7) ⟨hx, hb, hml, hown, hts⟩ (c_X6_otherwise l E a u p1 p2 (hp0) (hp1) (xsh q1) hL) (cwV 2 hts gX6_tells_X6_otherwise rfl rfl rfl ⟨rfl, hd_X6_otherwise⟩ ⟨(Nat.le_of_ble_eq_true rfl), (Nat.le_of_ble_eq_true rfl)⟩) hF hS hL.2 (fun _ h => h) hP (va_recv (q := (RX6, TX6, 28)) hK hP (ci := 6) rfl (q0 := 0) rfl) rfl hl.1 rfl (Nat.le_of_ble_eq_true rfl) ⟨(Nat.le_of_ble_eq_true rfl), (Nat.le_of_ble_eq_true rfl)⟩ dX6_tells_69 (fun H locs hP _ hS => ?_)
              refine W.eq (g2 := F0 m 72 ls [.int ((s_X6_otherwise u p1 p2).1)]) rfl ?_
              have hR : s_X6_tells u p1 p2 p3 = ((s_X6_otherwise u p1 p2).1, (s_X6_otherwise u p1 p2).2) := hR
              exact W.iret (v := (s_X6_otherwise u p1 p2).1) hx hb hr (fun t ht _ => by rw [hR]; dsimp only; exact ⟨⟨rfl, by rw [ht]; exact hP⟩, hS.F ht⟩) hS.2.2 dX6_tells_72
          · have hR := hR.trans (if_neg q5)
            refine lv_bipush (v := (-2)) hx hb dX6_tells_58 rfl ?_
            have hR : s_X6_tells u p1 p2 p3 = ((-2), u) := hR
            exact W.iret (v := (-2)) hx hb hr (fun t ht _ => by rw [hR]; dsimp only; exact ⟨⟨rfl, by rw [ht]; exact hP⟩, hS.F ht⟩) hS.2.2 dX6_tells_60
        · have hR := hR.trans (if_neg q4)
          refine lv_bipush (v := (-11)) hx hb dX6_tells_44 rfl ?_
          have hR : s_X6_tells u p1 p2 p3 = ((-11), u) := hR
          exact W.iret (v := (-11)) hx hb hr (fun t ht _ => by rw [hR]; dsimp only; exact ⟨⟨rfl, by rw [ht]; exact hP⟩, hS.F ht⟩) hS.2.2 dX6_tells_46
      · have hR := hR.trans (if_neg q3)
        refine lv_aload_n hx hb dX6_tells_24 rfl (lv_at hl 0 rfl) ?_
        refine lv_iload_n hx hb dX6_tells_25 rfl (lv_at hl 3 rfl) ?_
        refine xRoV (nL := 7) ⟨hx, hb, hml, hown, hts⟩ (c_X6_isPiece l E a u p3) (cwV 1 hts gX6_tells_X6_isPiece rfl rfl rfl ⟨rfl, hd_X6_isPiece⟩ ⟨(Nat.le_of_ble_eq_true rfl), (Nat.le_of_ble_eq_true rfl)⟩) hF hS hA hP (va_recv (q := (RX6, TX6, 28)) hK hP (ci := 6) rfl (q0 := 0) rfl) rfl hl.1 rfl (Nat.le_of_ble_eq_true rfl) ⟨(Nat.le_of_ble_eq_true rfl), (Nat.le_of_ble_eq_true rfl)⟩ dX6_tells_26 ?_
        refine W.eq (g2 := F0 m 29 ls [.int (s_X6_isPiece u p3)]) rfl ?_
        refine lv_if_ne (tgt := 35) hx hb dX6_tells_29 rfl (fun q10 => ?_) (fun q10 => ?_)
        · have hR := hR.trans (if_neg q10)
          refine lv_aload_n hx hb dX6_tells_35 rfl (lv_at hl 0 rfl) ?_
          refine va_get (D := xD E) (ci := 6) (v := .ref (a 8)) (C := RX6) (T := TX6) (N := 28) hx hb hts (by decide +kernel) hown hK hP 0 rfl rfl 11 (by decide) (hts (.fieldLink RX6 33 "RailOffsetsModel" "sorts" "[I") (by decide +kernel)) (fun _ h => h) rfl dX6_tells_36 ?_
          refine lv_iload_n hx hb dX6_tells_39 rfl (lv_at hl 1 rfl) ?_
          refine va_iald hx hb hK hP 8 0 rfl rfl (xsh4 q1) dX6_tells_40 ?_
          refine lv_if_ge (tgt := 47) hx hb dX6_tells_41 rfl (fun q11 => ?_) (fun q11 => ?_)
          · have hR := hR.trans (if_pos q11)
            refine lv_aload_n hx hb dX6_tells_47 rfl (lv_at hl 0 rfl) ?_
            refine va_get (D := xD E) (ci := 6) (v := .ref (a 9)) (C := RX6) (T := TX6) (N := 28) hx hb hts (by decide +kernel) hown hK hP 0 rfl rfl 12 (by decide) (hts (.fieldLink RX6 36 "RailOffsetsModel" "sizes" "[I") (by decide +kernel)) (fun _ h => h) rfl dX6_tells_48 ?_
            refine lv_iload_n hx hb dX6_tells_51 rfl (lv_at hl 1 rfl) ?_
            refine va_iald hx hb hK hP 9 0 rfl rfl (xsh4 q1) dX6_tells_52 ?_
            refine lv_bipush (v := 8) hx hb dX6_tells_53 rfl ?_
            refine lv_icmp_le (tgt := 61) hx hb dX6_tells_55 rfl (fun q12 => ?_) (fun q12 => ?_)
            · have hR := hR.trans (if_pos q12)
              refine lv_iload_n hx hb dX6_tells_61 rfl (lv_at hl 3 rfl) ?_
              refine lv_iconst (v := (-1)) hx hb dX6_tells_62 rfl ?_
              refine lv_icmp_ne (tgt := 73) hx hb dX6_tells_63 rfl (fun q13 => ?_) (fun q13 => ?_)
              · have hR := hR.trans (if_neg q13)
                refine lv_aload_n hx hb dX6_tells_73 rfl (lv_at hl 0 rfl) ?_
                refine lv_iload_n hx hb dX6_tells_74 rfl (lv_at hl 3 rfl) ?_
                refine lv_iconst (v := 0) hx hb dX6_tells_75 rfl ?_
                refine xRoV (nL := 7) ⟨hx, hb, hml, hown, hts⟩ (c_X6_of0 l E a u p3 0 (xof (by first | exact xisP hp0 q10 | exact absurd q3 q6) (by decide) (by decide))) (cwV 2 hts gX6_tells_X6_of0 rfl rfl rfl ⟨rfl, hd_X6_of0⟩ ⟨(Nat.le_of_ble_eq_true rfl), (Nat.le_of_ble_eq_true rfl)⟩) hF hS hA hP (va_recv (q := (RX6, TX6, 28)) hK hP (ci := 6) rfl (q0 := 0) rfl) rfl hl.1 rfl (Nat.le_of_ble_eq_true rfl) ⟨(Nat.le_of_ble_eq_true rfl), (Nat.le_of_ble_eq_true rfl)⟩ dX6_tells_76 ?_
                refine W.eq (g2 := F0 m 79 ls [.int (s_X6_of0 u p3 0)]) rfl ?_
                refine lv_istore (lv' := [(4, .int (s_X6_of0 u p3 0)), (0, .ref (a 0)), (1, .int p1), (2, .int p2), (3, .int p3)]) hx hb dX6_tells_79 hl (by decide) rfl (fun ls hl => ?_)
                refine lv_iconst (v := 0) hx hb dX6_tells_81 rfl ?_
                refine lv_istore (lv' := [(5, .int 0), (4, .int (s_X6_of0 u p3 0)), (0, .ref (a 0)), (1, .int p1), (2, .int p2), (3, .int p3)]) hx hb dX6_tells_82 hl (by decide) rfl (fun ls hl => ?_)
                refine lv_iconst (v := 0) hx hb dX6_tells_84 rfl ?_
                refine lv_istore (lv' := [(6, .int 0), (5, .int 0), (4, .int (s_X6_of0 u p3 0)), (0, .ref (a 0)), (1, .int p1), (2, .int p2), (3, .int p3)]) hx hb dX6_tells_85 hl (by decide) rfl (fun ls hl => ?_)
                have L87 : ∀ (n87 : Nat) (u87 : xU) (x5 : Int32) (x6 : Int32) (H : Heap) (locs : List Loc) (ls : Array Slot), (XW u87) → (XZ u87) → (¬ x6 < 0) → (XP p3) → ((6 : Int32).toInt - x6.toInt).toNat < n87 → s_X6_tells u p1 p2 p3 = s_X6_tells_L87 n87 u87 p1 p2 p3 (s_X6_of0 u p3 0) x5 x6 → lv_has ls 7 [(6, .int x6), (5, .int x5), (4, .int (s_X6_of0 u p3 0)), (0, .ref (a 0)), (1, .int p1), (2, .int p2), (3, .int p3)] → va_P (xD E) vwCl (wM E a u87) H → va_S (· ∈ LM a) s.heap H locs → W p l e rm_X6_tells s m ([.ref (a 0), .int p1, .int p2, .int p3] : List Value).toArray below meth c H locs 0 0 (xQmd E below (LM a) (some (.int ((s_X6_tells u p1 p2 p3).1))) (wM E a ((s_X6_tells u p1 p2 p3).2)) ([.ref (a 0), .int p1, .int p2, .int p3] : List Value).toArray s) (F0 m 87 ls []) := by
                  intro n87
                  induction n87 with
                  | zero => intro u87 x5 x6 H locs ls hI0 hI1 hI2 hI3 hM87 hR hl hP hS; exact absurd hM87 (Nat.not_lt_zero _)
                  | succ n87 ih87 =>
                    intro u87 x5 x6 H locs ls hI0 hI1 hI2 hI3 hM87 hR hl hP hS
                    refine lv_iload hx hb dX6_tells_87 (lv_at hl 0 rfl) ?_
                    refine lv_bipush (v := 6) hx hb dX6_tells_89 rfl ?_
                    refine lv_icmp_ge (tgt := 135) hx hb dX6_tells_91 rfl (fun q14 => ?_) (fun q14 => ?_)
                    · have hR := hR.trans (if_pos q14)
                      refine lv_aload_n hx hb dX6_tells_135 rfl (lv_at hl 3 rfl) ?_
                      refine va_get (D := xD E) (ci := 6) (v := .ref (a 1)) (C := RX6) (T := TX6) (N := 28) hx hb hts (by decide +kernel) hown hK hP 0 rfl rfl 0 (by decide) (hts (.fieldLink RX6 11 "RailOffsetsModel" "now" "[I") (by decide +kernel)) (fun _ h => h) rfl dX6_tells_136 ?_
                      refine lv_iconst (v := 4) hx hb dX6_tells_139 rfl ?_
                      refine lv_iload_n hx hb dX6_tells_140 rfl (lv_at hl 6 rfl) ?_
                      refine lv_imul hx hb dX6_tells_141 ?_
                      refine lv_iconst (v := 0) hx hb dX6_tells_142 rfl ?_
                      refine lv_iadd hx hb dX6_tells_143 ?_
                      refine lv_iload hx hb dX6_tells_144 (lv_at hl 2 rfl) ?_
                      refine va_iast hx hb hK hP (xD_of (ws := wM E a u87) (A := (· ∈ LM a)) hL.1 (fun _ h => h)) hS 1 0 rfl rfl (xof hI3 (by decide) (by decide)) dX6_tells_146 (fun H locs hP _ hS => ?_)
                      have hP : va_P (xD E) vwCl (wM E a (uA u87 1 ((4 * p3) + 0).toNatClampNeg (s_X6_of0 u p3 0))) H := hP
                      refine lv_iload hx hb dX6_tells_147 (lv_at hl 1 rfl) ?_
                      have hR : s_X6_tells u p1 p2 p3 = (x5, uA u87 1 ((4 * p3) + 0).toNatClampNeg (s_X6_of0 u p3 0)) := hR
                      exact W.iret (v := x5) hx hb hr (fun t ht _ => by rw [hR]; dsimp only; exact ⟨⟨rfl, by rw [ht]; exact hP⟩, hS.F ht⟩) hS.2.2 dX6_tells_149
                    · have hR := hR.trans (if_neg q14)
                      refine lv_aload_n hx hb dX6_tells_94 rfl (lv_at hl 3 rfl) ?_
                      refine va_get (D := xD E) (ci := 6) (v := .ref (a 1)) (C := RX6) (T := TX6) (N := 28) hx hb hts (by decide +kernel) hown hK hP 0 rfl rfl 0 (by decide) (hts (.fieldLink RX6 11 "RailOffsetsModel" "now" "[I") (by decide +kernel)) (fun _ h => h) rfl dX6_tells_95 ?_
                      refine lv_iconst (v := 4) hx hb dX6_tells_98 rfl ?_
                      refine lv_iload_n hx hb dX6_tells_99 rfl (lv_at hl 6 rfl) ?_
                      refine lv_imul hx hb dX6_tells_100 ?_
                      refine lv_iconst (v := 0) hx hb dX6_tells_101 rfl ?_
                      refine lv_iadd hx hb dX6_tells_102 ?_
                      refine lv_iload hx hb dX6_tells_103 (lv_at hl 0 rfl) ?_
                      refine va_iast hx hb hK hP (xD_of (ws := wM E a u87) (A := (· ∈ LM a)) hL.1 (fun _ h => h)) hS 1 0 rfl rfl (xof hI3 (by decide) (by decide)) dX6_tells_105 (fun H locs hP _ hS => ?_)
                      have hP : va_P (xD E) vwCl (wM E a (uA u87 1 ((4 * p3) + 0).toNatClampNeg x6)) H := hP
                      refine lv_iload hx hb dX6_tells_106 (lv_at hl 1 rfl) ?_
                      refine lv_aload_n hx hb dX6_tells_108 rfl (lv_at hl 3 rfl) ?_
                      refine lv_iload_n hx hb dX6_tells_109 rfl (lv_at hl 4 rfl) ?_
                      refine lv_iload_n hx hb dX6_tells_110 rfl (lv_at hl 5 rfl) ?_
                      refine xMdV (nL := 7) ⟨hx, hb, hml, hown, hts⟩ (c_X6_otherwise l E a (uA u87 1 ((4 * p3) + 0).toNatClampNeg x6) p1 p2 (xwu hI0 hI3 (j := 0) (by decide) (xok_kind6 hI2 q14) (fun z => absurd z (by decide))) (hI1) (xsh q1) hL) (cwV 2 hts gX6_tells_X6_otherwise rfl rfl rfl ⟨rfl, hd_X6_otherwise⟩ ⟨(Nat.le_of_ble_eq_true rfl), (Nat.le_of_ble_eq_true rfl)⟩) hF hS hL.2 (fun _ h => h) hP (va_recv (q := (RX6, TX6, 28)) hK hP (ci := 6) rfl (q0 := 0) rfl) rfl hl.1 rfl (Nat.le_of_ble_eq_true rfl) ⟨(Nat.le_of_ble_eq_true rfl), (Nat.le_of_ble_eq_true rfl)⟩ dX6_tells_111 (fun H locs hP _ hS => ?_)
                      refine W.eq (g2 := F0 m 114 ls [.int ((s_X6_otherwise (uA u87 1 ((4 * p3) + 0).toNatClampNeg x6) p1 p2).1), .int x5]) rfl ?_
                      refine lv_iconst (v := (-1)) hx hb dX6_tells_114 rfl ?_
                      have J15 : W p l e rm_X6_tells s m ([.ref (a 0), .int p1, .int p2, .int p3] : List Value).toArray below meth c H locs 0 0 (xQmd E below (LM a) (some (.int ((s_X6_tells u p1 p2 p3).1))) (wM E a ((s_X6_tells u p1 p2 p3).2)) ([.ref (a 0), .int p1, .int p2, .int p3] : List Value).toArray s) (F0 m 126 ls [.int (if ((s_X6_otherwise (uA u87 1 ((4 * p3) + 0).toNatClampNeg x6) p1 p2).1) = (-1) then (1 : Int32) <<< (x6 &&& 31) else 0), .int x5]) := by
                        refine lv_ior hx hb dX6_tells_126 ?_
                        refine lv_istore (lv' := [(5, .int (x5 ||| (if ((s_X6_otherwise (uA u87 1 ((4 * p3) + 0).toNatClampNeg x6) p1 p2).1) = (-1) then (1 : Int32) <<< (x6 &&& 31) else 0))), (6, .int x6), (4, .int (s_X6_of0 u p3 0)), (0, .ref (a 0)), (1, .int p1), (2, .int p2), (3, .int p3)]) hx hb dX6_tells_127 hl (by decide) rfl (fun ls hl => ?_)
                        refine lv_iinc (k := 1) (v := x6 + 1) (lv' := [(6, .int (x6 + 1)), (5, .int (x5 ||| (if ((s_X6_otherwise (uA u87 1 ((4 * p3) + 0).toNatClampNeg x6) p1 p2).1) = (-1) then (1 : Int32) <<< (x6 &&& 31) else 0))), (4, .int (s_X6_of0 u p3 0)), (0, .ref (a 0)), (1, .int p1), (2, .int p2), (3, .int p3)]) hx hb dX6_tells_129 hl rfl rfl (by decide) rfl (fun ls hl => ?_)
                        refine lv_goto (tgt := 87) hx hb dX6_tells_132 rfl ?_
                        exact ih87 ((s_X6_otherwise (uA u87 1 ((4 * p3) + 0).toNatClampNeg x6) p1 p2).2) (x5 ||| (if ((s_X6_otherwise (uA u87 1 ((4 * p3) + 0).toNatClampNeg x6) p1 p2).1) = (-1) then (1 : Int32) <<< (x6 &&& 31) else 0)) (x6 + 1) _ _ _ (by rw [xow]; exact xlays_w (xwu hI0 hI3 (j := 0) (by decide) (xok_kind6 hI2 q14) (fun z => absurd z (by decide)))) (by rw [xow]; exact xlays_z (xzu hI1)) (xup0 hI2 q14) (hI3) (Nat.lt_of_lt_of_le (xupc q14) (Nat.le_of_lt_succ hM87)) hR (lv_sub hl [0, 1, 2, 3, 4, 5, 6] rfl) hP hS
                      refine lv_icmp_ne (tgt := 125) hx hb dX6_tells_115 rfl (fun q16 => ?_) (fun q16 => ?_)
                      · refine lv_iconst (v := 0) hx hb dX6_tells_125 rfl ?_
                        exact W.eq (congrArg (fun z => F0 m 126 ls [.int z, .int x5]) (if_neg q16).symm) J15
                      · refine lv_iconst (v := 1) hx hb dX6_tells_118 rfl ?_
                        refine lv_iload hx hb dX6_tells_119 (lv_at hl 0 rfl) ?_
                        refine lv_ishl hx hb dX6_tells_121 ?_
                        refine lv_goto (tgt := 126) hx hb dX6_tells_122 rfl ?_
                        exact W.eq (congrArg (fun z => F0 m 126 ls [.int z, .int x5]) (if_pos q16).symm) J15
                exact L87 (((6 : Int32).toInt - (0 : Int32).toInt).toNat + 1) u 0 0 _ _ ls (hp0) (hp1) (by decide) (by first | exact xisP hp0 q10 | exact absurd q3 q6) (Nat.lt_succ_self _) hR hl hP hS
              · have hR := hR.trans (if_pos q13)
                refine lv_aload_n hx hb dX6_tells_66 rfl (lv_at hl 0 rfl) ?_
                refine lv_iload_n hx hb dX6_tells_67 rfl (lv_at hl 1 rfl) ?_
                refine lv_iload_n hx hb dX6_tells_68 rfl (lv_at hl 2 rfl) ?_
                refine xMdV (nL := 7) ⟨hx, hb, hml, hown, hts⟩ (c_X6_otherwise l E a u p1 p2 (hp0) (hp1) (xsh q1) hL) (cwV 2 hts gX6_tells_X6_otherwise rfl rfl rfl ⟨rfl, hd_X6_otherwise⟩ ⟨(Nat.le_of_ble_eq_true rfl), (Nat.le_of_ble_eq_true rfl)⟩) hF hS hL.2 (fun _ h => h) hP (va_recv (q := (RX6, TX6, 28)) hK hP (ci := 6) rfl (q0 := 0) rfl) rfl hl.1 rfl (Nat.le_of_ble_eq_true rfl) ⟨(Nat.le_of_ble_eq_true rfl), (Nat.le_of_ble_eq_true rfl)⟩ dX6_tells_69 (fun H locs hP _ hS => ?_)
                refine W.eq (g2 := F0 m 72 ls [.int ((s_X6_otherwise u p1 p2).1)]) rfl ?_
                have hR : s_X6_tells u p1 p2 p3 = ((s_X6_otherwise u p1 p2).1, (s_X6_otherwise u p1 p2).2) := hR
                exact W.iret (v := (s_X6_otherwise u p1 p2).1) hx hb hr (fun t ht _ => by rw [hR]; dsimp only; exact ⟨⟨rfl, by rw [ht]; exact hP⟩, hS.F ht⟩) hS.2.2 dX6_tells_72
            · have hR := hR.trans (if_neg q12)
              refine lv_bipush (v := (-2)) hx hb dX6_tells_58 rfl ?_
              have hR : s_X6_tells u p1 p2 p3 = ((-2), u) := hR
              exact W.iret (v := (-2)) hx hb hr (fun t ht _ => by rw [hR]; dsimp only; exact ⟨⟨rfl, by rw [ht]; exact hP⟩, hS.F ht⟩) hS.2.2 dX6_tells_60
          · have hR := hR.trans (if_neg q11)
            refine lv_bipush (v := (-11)) hx hb dX6_tells_44 rfl ?_
            have hR : s_X6_tells u p1 p2 p3 = ((-11), u) := hR
            exact W.iret (v := (-11)) hx hb hr (fun t ht _ => by rw [hR]; dsimp only; exact ⟨⟨rfl, by rw [ht]; exact hP⟩, hS.F ht⟩) hS.2.2 dX6_tells_46
        · have hR := hR.trans (if_pos q10)
          refine lv_bipush (v := (-2)) hx hb dX6_tells_32 rfl ?_
          have hR : s_X6_tells u p1 p2 p3 = ((-2), u) := hR
          exact W.iret (v := (-2)) hx hb hr (fun t ht _ => by rw [hR]; dsimp only; exact ⟨⟨rfl, by rw [ht]; exact hP⟩, hS.F ht⟩) hS.2.2 dX6_tells_34
def s_X6_film_L50 : Nat → xU → Int32 → Int32 → Int32 → Int32 → Int32 → Int32 × xU
  | 0, u, _, _, _, _, _ => (0, u)
  | n + 1, u, x1, x2, x3, x4, x5 =>
    if x3 ≤ x5 then
      (x3, u)
    else
      s_X6_film_L50 n (uA u 10 ((40 * x1) + x5).toNatClampNeg (if (s_X6_isStation u (x2 + x5)) = 0 then 0 else u.1 3 (x2 + x5).toNatClampNeg)) x1 x2 x3 x4 (x5 + 1)
def s_X6_film (u : xU) (p1 : Int32) (p2 : Int32) (p3 : Int32) : Int32 × xU :=
  if (s_X6_isSheet u p1) = 0 then
    ((-2), u)
  else
    if (s_X6_in u p2.toInt64 1 200) = 0 then
      ((-2), u)
    else
      if (s_X6_in u p3.toInt64 0 40) = 0 then
        ((-2), u)
      else
        s_X6_film_L50 ((p3.toInt - (0 : Int32).toInt).toNat + 1) (s_X6_lays ((s_X6_sheet u p1 0 p3).2)) p1 p2 p3 ((s_X6_sheet u p1 0 p3).1) 0
abbrev rm_X6_film : Room := { frames := 3, cells := 0, slots := 0, locals := 69 }
set_option maxHeartbeats 8000000 in
set_option maxRecDepth 100000 in
theorem c_X6_film (l : Launch) (E : xG) (a : Nat → Nat) (u : xU) (p1 : Int32) (p2 : Int32) (p3 : Int32) (hp0 : XW u) (hL : xOK E (LM a)) : xMd l E yX6_film wsX6_film rm_X6_film (LM a) [.ref (a 0), .int p1, .int p2, .int p3] (wM E a u) (some (.int ((s_X6_film u p1 p2 p3).1))) (wM E a ((s_X6_film u p1 p2 p3).2)) := by
  refine xMd.of (cc := cX6_film) (maxL := 6) (ret := (some .int)) (by decide) rfl (Nat.le_of_ble_eq_true rfl) ?_
  intro p e s m below meth c ls hAt hF hP hS hl
  obtain ⟨hx, hb, hr, hml, hown, hts, hlocks, -⟩ := hAt
  have hown : s.vm.findClass RX6 = some m.cls := hown
  have hl : lv_has ls 6 [(0, .ref (a 0)), (1, .int p1), (2, .int p2), (3, .int p3)] := hl
  have hK := hF.1
  have hA := hL.2
  change W p l e rm_X6_film s m ([.ref (a 0), .int p1, .int p2, .int p3] : List Value).toArray below meth c s.heap [] 0 0 (xQmd E below (LM a) (some (.int ((s_X6_film u p1 p2 p3).1))) (wM E a ((s_X6_film u p1 p2 p3).2)) ([.ref (a 0), .int p1, .int p2, .int p3] : List Value).toArray s) _
  have hS : va_S (· ∈ LM a) s.heap s.heap [] := hS
  have hR : s_X6_film u p1 p2 p3 = s_X6_film u p1 p2 p3 := rfl
  refine lv_iload_n hx hb dX6_film_0 rfl (lv_at hl 1 rfl) ?_
  refine xRoS (nL := 6) ⟨hx, hb, hml, hown, hts⟩ (c_X6_isSheet l E a u p1) (va_cwS 1 hts gX6_film_X6_isSheet rfl rfl rfl hd_X6_isSheet ⟨(Nat.le_of_ble_eq_true rfl), (Nat.le_of_ble_eq_true rfl)⟩) hF hS hA hP rfl hl.1 rfl (Nat.le_of_ble_eq_true rfl) ⟨(Nat.le_of_ble_eq_true rfl), (Nat.le_of_ble_eq_true rfl)⟩ dX6_film_1 ?_
  refine W.eq (g2 := F0 m 4 ls [.int (s_X6_isSheet u p1)]) rfl ?_
  refine lv_if_eq (tgt := 31) hx hb dX6_film_4 rfl (fun q1 => ?_) (fun q1 => ?_)
  · have hR := hR.trans (if_pos q1)
    refine lv_bipush (v := (-2)) hx hb dX6_film_31 rfl ?_
    have hR : s_X6_film u p1 p2 p3 = ((-2), u) := hR
    exact W.iret (v := (-2)) hx hb hr (fun t ht _ => by rw [hR]; dsimp only; exact ⟨⟨rfl, by rw [ht]; exact hP⟩, hS.F ht⟩) hS.2.2 dX6_film_33
  · have hR := hR.trans (if_neg q1)
    refine lv_iload_n hx hb dX6_film_7 rfl (lv_at hl 2 rfl) ?_
    refine lv_i2l hx hb dX6_film_8 rfl ?_
    refine lv_lconst (v := 1) hx hb dX6_film_9 rfl ?_
    refine lv_ldc2 (v := 200) hx hb hown (hts (.constantLong RX6 112 (200)) (by decide +kernel)) dX6_film_10 ?_
    refine xRoS (nL := 6) ⟨hx, hb, hml, hown, hts⟩ (c_X6_in l E a u p2.toInt64 1 200) (va_cwS 3 hts gX6_film_X6_in rfl rfl rfl hd_X6_in ⟨(Nat.le_of_ble_eq_true rfl), (Nat.le_of_ble_eq_true rfl)⟩) hF hS hA hP rfl hl.1 rfl (Nat.le_of_ble_eq_true rfl) ⟨(Nat.le_of_ble_eq_true rfl), (Nat.le_of_ble_eq_true rfl)⟩ dX6_film_13 ?_
    refine W.eq (g2 := F0 m 16 ls [.int (s_X6_in u p2.toInt64 1 200)]) rfl ?_
    refine lv_if_eq (tgt := 31) hx hb dX6_film_16 rfl (fun q2 => ?_) (fun q2 => ?_)
    · have hR := hR.trans (if_pos q2)
      refine lv_bipush (v := (-2)) hx hb dX6_film_31 rfl ?_
      have hR : s_X6_film u p1 p2 p3 = ((-2), u) := hR
      exact W.iret (v := (-2)) hx hb hr (fun t ht _ => by rw [hR]; dsimp only; exact ⟨⟨rfl, by rw [ht]; exact hP⟩, hS.F ht⟩) hS.2.2 dX6_film_33
    · have hR := hR.trans (if_neg q2)
      refine lv_iload_n hx hb dX6_film_19 rfl (lv_at hl 3 rfl) ?_
      refine lv_i2l hx hb dX6_film_20 rfl ?_
      refine lv_lconst (v := 0) hx hb dX6_film_21 rfl ?_
      refine lv_ldc2 (v := 40) hx hb hown (hts (.constantLong RX6 228 (40)) (by decide +kernel)) dX6_film_22 ?_
      refine xRoS (nL := 6) ⟨hx, hb, hml, hown, hts⟩ (c_X6_in l E a u p3.toInt64 0 40) (va_cwS 3 hts gX6_film_X6_in rfl rfl rfl hd_X6_in ⟨(Nat.le_of_ble_eq_true rfl), (Nat.le_of_ble_eq_true rfl)⟩) hF hS hA hP rfl hl.1 rfl (Nat.le_of_ble_eq_true rfl) ⟨(Nat.le_of_ble_eq_true rfl), (Nat.le_of_ble_eq_true rfl)⟩ dX6_film_25 ?_
      refine W.eq (g2 := F0 m 28 ls [.int (s_X6_in u p3.toInt64 0 40)]) rfl ?_
      refine lv_if_ne (tgt := 34) hx hb dX6_film_28 rfl (fun q3 => ?_) (fun q3 => ?_)
      · have hR := hR.trans (if_neg q3)
        refine lv_aload_n hx hb dX6_film_34 rfl (lv_at hl 0 rfl) ?_
        refine lv_iload_n hx hb dX6_film_35 rfl (lv_at hl 1 rfl) ?_
        refine lv_iconst (v := 0) hx hb dX6_film_36 rfl ?_
        refine lv_iload_n hx hb dX6_film_37 rfl (lv_at hl 3 rfl) ?_
        refine xMdV (nL := 6) ⟨hx, hb, hml, hown, hts⟩ (c_X6_sheet l E a u p1 0 p3 hL) (cwV 3 hts gX6_film_X6_sheet rfl rfl rfl ⟨rfl, hd_X6_sheet⟩ ⟨(Nat.le_of_ble_eq_true rfl), (Nat.le_of_ble_eq_true rfl)⟩) hF hS hL.2 (fun _ h => h) hP (va_recv (q := (RX6, TX6, 28)) hK hP (ci := 6) rfl (q0 := 0) rfl) rfl hl.1 rfl (Nat.le_of_ble_eq_true rfl) ⟨(Nat.le_of_ble_eq_true rfl), (Nat.le_of_ble_eq_true rfl)⟩ dX6_film_38 (fun H locs hP _ hS => ?_)
        refine W.eq (g2 := F0 m 41 ls [.int ((s_X6_sheet u p1 0 p3).1)]) rfl ?_
        refine lv_istore (lv' := [(4, .int ((s_X6_sheet u p1 0 p3).1)), (0, .ref (a 0)), (1, .int p1), (2, .int p2), (3, .int p3)]) hx hb dX6_film_41 hl (by decide) rfl (fun ls hl => ?_)
        refine lv_aload_n hx hb dX6_film_43 rfl (lv_at hl 1 rfl) ?_
        refine xMdV (nL := 6) ⟨hx, hb, hml, hown, hts⟩ (c_X6_lays l E a ((s_X6_sheet u p1 0 p3).2)  (xsh_w hp0) hL) (cwV 0 hts gX6_film_X6_lays rfl rfl rfl ⟨rfl, hd_X6_lays⟩ ⟨(Nat.le_of_ble_eq_true rfl), (Nat.le_of_ble_eq_true rfl)⟩) hF hS hL.2 (fun _ h => h) hP (va_recv (q := (RX6, TX6, 28)) hK hP (ci := 6) rfl (q0 := 0) rfl) rfl hl.1 rfl (Nat.le_of_ble_eq_true rfl) ⟨(Nat.le_of_ble_eq_true rfl), (Nat.le_of_ble_eq_true rfl)⟩ dX6_film_44 (fun H locs hP _ hS => ?_)
        refine W.eq (g2 := F0 m 47 ls []) rfl ?_
        refine lv_iconst (v := 0) hx hb dX6_film_47 rfl ?_
        refine lv_istore (lv' := [(5, .int 0), (4, .int ((s_X6_sheet u p1 0 p3).1)), (0, .ref (a 0)), (1, .int p1), (2, .int p2), (3, .int p3)]) hx hb dX6_film_48 hl (by decide) rfl (fun ls hl => ?_)
        have L50 : ∀ (n50 : Nat) (u50 : xU) (x5 : Int32) (H : Heap) (locs : List Loc) (ls : Array Slot), (XSt (u50.2 1)) → (¬ x5 < 0) → (p3.toInt - x5.toInt).toNat < n50 → s_X6_film u p1 p2 p3 = s_X6_film_L50 n50 u50 p1 p2 p3 ((s_X6_sheet u p1 0 p3).1) x5 → lv_has ls 6 [(5, .int x5), (4, .int ((s_X6_sheet u p1 0 p3).1)), (0, .ref (a 0)), (1, .int p1), (2, .int p2), (3, .int p3)] → va_P (xD E) vwCl (wM E a u50) H → va_S (· ∈ LM a) s.heap H locs → W p l e rm_X6_film s m ([.ref (a 0), .int p1, .int p2, .int p3] : List Value).toArray below meth c H locs 0 0 (xQmd E below (LM a) (some (.int ((s_X6_film u p1 p2 p3).1))) (wM E a ((s_X6_film u p1 p2 p3).2)) ([.ref (a 0), .int p1, .int p2, .int p3] : List Value).toArray s) (F0 m 50 ls []) := by
          intro n50
          induction n50 with
          | zero => intro u50 x5 H locs ls hI0 hI1 hM50 hR hl hP hS; exact absurd hM50 (Nat.not_lt_zero _)
          | succ n50 ih50 =>
            intro u50 x5 H locs ls hI0 hI1 hM50 hR hl hP hS
            refine lv_iload hx hb dX6_film_50 (lv_at hl 0 rfl) ?_
            refine lv_iload_n hx hb dX6_film_52 rfl (lv_at hl 5 rfl) ?_
            refine lv_icmp_ge (tgt := 98) hx hb dX6_film_53 rfl (fun q4 => ?_) (fun q4 => ?_)
            · have hR := hR.trans (if_pos q4)
              refine lv_iload_n hx hb dX6_film_98 rfl (lv_at hl 5 rfl) ?_
              have hR : s_X6_film u p1 p2 p3 = (p3, u50) := hR
              exact W.iret (v := p3) hx hb hr (fun t ht _ => by rw [hR]; dsimp only; exact ⟨⟨rfl, by rw [ht]; exact hP⟩, hS.F ht⟩) hS.2.2 dX6_film_99
            · have hR := hR.trans (if_neg q4)
              refine lv_aload_n hx hb dX6_film_56 rfl (lv_at hl 2 rfl) ?_
              refine va_get (D := xD E) (ci := 6) (v := .ref (a 10)) (C := RX6) (T := TX6) (N := 28) hx hb hts (by decide +kernel) hown hK hP 0 rfl rfl 13 (by decide) (hts (.fieldLink RX6 39 "RailOffsetsModel" "items" "[I") (by decide +kernel)) (fun _ h => h) rfl dX6_film_57 ?_
              refine lv_bipush (v := 40) hx hb dX6_film_60 rfl ?_
              refine lv_iload_n hx hb dX6_film_62 rfl (lv_at hl 3 rfl) ?_
              refine lv_imul hx hb dX6_film_63 ?_
              refine lv_iload hx hb dX6_film_64 (lv_at hl 0 rfl) ?_
              refine lv_iadd hx hb dX6_film_66 ?_
              refine lv_aload_n hx hb dX6_film_67 rfl (lv_at hl 2 rfl) ?_
              refine lv_iload_n hx hb dX6_film_68 rfl (lv_at hl 4 rfl) ?_
              refine lv_iload hx hb dX6_film_69 (lv_at hl 0 rfl) ?_
              refine lv_iadd hx hb dX6_film_71 ?_
              refine xRoV (nL := 6) ⟨hx, hb, hml, hown, hts⟩ (c_X6_isStation l E a u50 (p2 + x5)) (cwV 1 hts gX6_film_X6_isStation rfl rfl rfl ⟨rfl, hd_X6_isStation⟩ ⟨(Nat.le_of_ble_eq_true rfl), (Nat.le_of_ble_eq_true rfl)⟩) hF hS hA hP (va_recv (q := (RX6, TX6, 28)) hK hP (ci := 6) rfl (q0 := 0) rfl) rfl hl.1 rfl (Nat.le_of_ble_eq_true rfl) ⟨(Nat.le_of_ble_eq_true rfl), (Nat.le_of_ble_eq_true rfl)⟩ dX6_film_72 ?_
              refine W.eq (g2 := F0 m 75 ls [.int (s_X6_isStation u50 (p2 + x5)), .int ((40 * p1) + x5), .ref (a 10)]) rfl ?_
              have J5 : W p l e rm_X6_film s m ([.ref (a 0), .int p1, .int p2, .int p3] : List Value).toArray below meth c H locs 0 0 (xQmd E below (LM a) (some (.int ((s_X6_film u p1 p2 p3).1))) (wM E a ((s_X6_film u p1 p2 p3).2)) ([.ref (a 0), .int p1, .int p2, .int p3] : List Value).toArray s) (F0 m 91 ls [.int (if (s_X6_isStation u50 (p2 + x5)) = 0 then 0 else u50.1 3 (p2 + x5).toNatClampNeg), .int ((40 * p1) + x5), .ref (a 10)]) := by
                refine va_iast hx hb hK hP (xD_of (ws := wM E a u50) (A := (· ∈ LM a)) hL.1 (fun _ h => h)) hS 10 0 rfl rfl (xit q1 (xge0 hI1) (xltp q4 (xin32 (lo := 0) (hi := 40) q3).2)) dX6_film_91 (fun H locs hP _ hS => ?_)
                have hP : va_P (xD E) vwCl (wM E a (uA u50 10 ((40 * p1) + x5).toNatClampNeg (if (s_X6_isStation u50 (p2 + x5)) = 0 then 0 else u50.1 3 (p2 + x5).toNatClampNeg))) H := hP
                refine lv_iinc (k := 0) (v := x5 + 1) (lv' := [(5, .int (x5 + 1)), (4, .int ((s_X6_sheet u p1 0 p3).1)), (0, .ref (a 0)), (1, .int p1), (2, .int p2), (3, .int p3)]) hx hb dX6_film_92 hl rfl rfl (by decide) rfl (fun ls hl => ?_)
                refine lv_goto (tgt := 50) hx hb dX6_film_95 rfl ?_
                exact ih50 (uA u50 10 ((40 * p1) + x5).toNatClampNeg (if (s_X6_isStation u50 (p2 + x5)) = 0 then 0 else u50.1 3 (p2 + x5).toNatClampNeg)) (x5 + 1) _ _ _ (hI0) (xup0 hI1 q4) (Nat.lt_of_lt_of_le (xupc q4) (Nat.le_of_lt_succ hM50)) hR (lv_sub hl [0, 1, 2, 3, 4, 5] rfl) hP hS
              refine lv_if_eq (tgt := 90) hx hb dX6_film_75 rfl (fun q6 => ?_) (fun q6 => ?_)
              · refine lv_iconst (v := 0) hx hb dX6_film_90 rfl ?_
                exact W.eq (congrArg (fun z => F0 m 91 ls [.int z, .int ((40 * p1) + x5), .ref (a 10)]) (if_pos q6).symm) J5
              · refine lv_aload_n hx hb dX6_film_78 rfl (lv_at hl 2 rfl) ?_
                refine va_get (D := xD E) (ci := 6) (v := .ref (a 3)) (C := RX6) (T := TX6) (N := 28) hx hb hts (by decide +kernel) hown hK hP 0 rfl rfl 3 (by decide) (hts (.fieldLink RX6 18 "RailOffsetsModel" "versine" "[I") (by decide +kernel)) (fun _ h => h) rfl dX6_film_79 ?_
                refine lv_iload_n hx hb dX6_film_82 rfl (lv_at hl 4 rfl) ?_
                refine lv_iload hx hb dX6_film_83 (lv_at hl 0 rfl) ?_
                refine lv_iadd hx hb dX6_film_85 ?_
                refine va_iald hx hb hK hP 3 0 rfl rfl (xvst (xisSt hI0 q6).st) dX6_film_86 ?_
                refine lv_goto (tgt := 91) hx hb dX6_film_87 rfl ?_
                exact W.eq (congrArg (fun z => F0 m 91 ls [.int z, .int ((40 * p1) + x5), .ref (a 10)]) (if_neg q6).symm) J5
        exact L50 ((p3.toInt - (0 : Int32).toInt).toNat + 1) (s_X6_lays ((s_X6_sheet u p1 0 p3).2)) 0 _ _ ls (xlays_st (xsh_w hp0)) (by decide) (Nat.lt_succ_self _) hR hl hP hS
      · have hR := hR.trans (if_pos q3)
        refine lv_bipush (v := (-2)) hx hb dX6_film_31 rfl ?_
        have hR : s_X6_film u p1 p2 p3 = ((-2), u) := hR
        exact W.iret (v := (-2)) hx hb hr (fun t ht _ => by rw [hR]; dsimp only; exact ⟨⟨rfl, by rw [ht]; exact hP⟩, hS.F ht⟩) hS.2.2 dX6_film_33
def s_X6_feed_L95 : Nat → xU → Int32 → Int32 → Int32 → Int32 → Int32 → Int32 → Int32 → Int32 × xU
  | 0, u, _, _, _, _, _, _, _ => (0, u)
  | n + 1, u, x1, x2, x3, x4, x5, x6, x7 =>
    if x1 ≤ x7 then
      (u.2 4, u)
    else
      s_X6_feed_L95 n (uZ (uA u 14 (u.2 4).toNatClampNeg (if x7 = 0 then x2 else if x7 = 1 then x3 else if x7 = 2 then x4 else if x7 = 3 then x5 else x6)) 4 ((u.2 4) + 1)) x1 x2 x3 x4 x5 x6 (x7 + 1)
def s_X6_feed (u : xU) (p1 : Int32) (p2 : Int32) (p3 : Int32) (p4 : Int32) (p5 : Int32) (p6 : Int32) : Int32 × xU :=
  if (s_X6_in u p1.toInt64 1 5) = 0 then
    ((-2), u)
  else
    if (s_X6_in u p2.toInt64 0 255) = 0 then
      ((-2), u)
    else
      if (s_X6_in u p3.toInt64 0 255) = 0 then
        ((-2), u)
      else
        if (s_X6_in u p4.toInt64 0 255) = 0 then
          ((-2), u)
        else
          if (s_X6_in u p5.toInt64 0 255) = 0 then
            ((-2), u)
          else
            if (s_X6_in u p6.toInt64 0 255) = 0 then
              ((-2), u)
            else
              if ((u.2 4) + p1) ≤ 60 then
                s_X6_feed_L95 ((p1.toInt - (0 : Int32).toInt).toNat + 1) u p1 p2 p3 p4 p5 p6 0
              else
                ((-4), u)
abbrev rm_X6_feed : Room := { frames := 1, cells := 0, slots := 0, locals := 25 }
set_option maxHeartbeats 8000000 in
set_option maxRecDepth 100000 in
theorem c_X6_feed (l : Launch) (E : xG) (a : Nat → Nat) (u : xU) (p1 : Int32) (p2 : Int32) (p3 : Int32) (p4 : Int32) (p5 : Int32) (p6 : Int32) (hp0 : XTS u) (hL : xOK E (LM a)) : xMd l E yX6_feed wsX6_feed rm_X6_feed (LM a) [.ref (a 0), .int p1, .int p2, .int p3, .int p4, .int p5, .int p6] (wM E a u) (some (.int ((s_X6_feed u p1 p2 p3 p4 p5 p6).1))) (wM E a ((s_X6_feed u p1 p2 p3 p4 p5 p6).2)) := by
  refine xMd.of (cc := cX6_feed) (maxL := 8) (ret := (some .int)) (by decide) rfl (Nat.le_of_ble_eq_true rfl) ?_
  intro p e s m below meth c ls hAt hF hP hS hl
  obtain ⟨hx, hb, hr, hml, hown, hts, hlocks, -⟩ := hAt
  have hown : s.vm.findClass RX6 = some m.cls := hown
  have hl : lv_has ls 8 [(0, .ref (a 0)), (1, .int p1), (2, .int p2), (3, .int p3), (4, .int p4), (5, .int p5), (6, .int p6)] := hl
  have hK := hF.1
  have hA := hL.2
  change W p l e rm_X6_feed s m ([.ref (a 0), .int p1, .int p2, .int p3, .int p4, .int p5, .int p6] : List Value).toArray below meth c s.heap [] 0 0 (xQmd E below (LM a) (some (.int ((s_X6_feed u p1 p2 p3 p4 p5 p6).1))) (wM E a ((s_X6_feed u p1 p2 p3 p4 p5 p6).2)) ([.ref (a 0), .int p1, .int p2, .int p3, .int p4, .int p5, .int p6] : List Value).toArray s) _
  have hS : va_S (· ∈ LM a) s.heap s.heap [] := hS
  have hR : s_X6_feed u p1 p2 p3 p4 p5 p6 = s_X6_feed u p1 p2 p3 p4 p5 p6 := rfl
  refine lv_iload_n hx hb dX6_feed_0 rfl (lv_at hl 1 rfl) ?_
  refine lv_i2l hx hb dX6_feed_1 rfl ?_
  refine lv_lconst (v := 1) hx hb dX6_feed_2 rfl ?_
  refine lv_ldc2 (v := 5) hx hb hown (hts (.constantLong RX6 71 (5)) (by decide +kernel)) dX6_feed_3 ?_
  refine xRoS (nL := 8) ⟨hx, hb, hml, hown, hts⟩ (c_X6_in l E a u p1.toInt64 1 5) (va_cwS 3 hts gX6_feed_X6_in rfl rfl rfl hd_X6_in ⟨(Nat.le_of_ble_eq_true rfl), (Nat.le_of_ble_eq_true rfl)⟩) hF hS hA hP rfl hl.1 rfl (Nat.le_of_ble_eq_true rfl) ⟨(Nat.le_of_ble_eq_true rfl), (Nat.le_of_ble_eq_true rfl)⟩ dX6_feed_6 ?_
  refine W.eq (g2 := F0 m 9 ls [.int (s_X6_in u p1.toInt64 1 5)]) rfl ?_
  refine lv_if_eq (tgt := 75) hx hb dX6_feed_9 rfl (fun q1 => ?_) (fun q1 => ?_)
  · have hR := hR.trans (if_pos q1)
    refine lv_bipush (v := (-2)) hx hb dX6_feed_75 rfl ?_
    have hR : s_X6_feed u p1 p2 p3 p4 p5 p6 = ((-2), u) := hR
    exact W.iret (v := (-2)) hx hb hr (fun t ht _ => by rw [hR]; dsimp only; exact ⟨⟨rfl, by rw [ht]; exact hP⟩, hS.F ht⟩) hS.2.2 dX6_feed_77
  · have hR := hR.trans (if_neg q1)
    refine lv_iload_n hx hb dX6_feed_12 rfl (lv_at hl 2 rfl) ?_
    refine lv_i2l hx hb dX6_feed_13 rfl ?_
    refine lv_lconst (v := 0) hx hb dX6_feed_14 rfl ?_
    refine lv_ldc2 (v := 255) hx hb hown (hts (.constantLong RX6 240 (255)) (by decide +kernel)) dX6_feed_15 ?_
    refine xRoS (nL := 8) ⟨hx, hb, hml, hown, hts⟩ (c_X6_in l E a u p2.toInt64 0 255) (va_cwS 3 hts gX6_feed_X6_in rfl rfl rfl hd_X6_in ⟨(Nat.le_of_ble_eq_true rfl), (Nat.le_of_ble_eq_true rfl)⟩) hF hS hA hP rfl hl.1 rfl (Nat.le_of_ble_eq_true rfl) ⟨(Nat.le_of_ble_eq_true rfl), (Nat.le_of_ble_eq_true rfl)⟩ dX6_feed_18 ?_
    refine W.eq (g2 := F0 m 21 ls [.int (s_X6_in u p2.toInt64 0 255)]) rfl ?_
    refine lv_if_eq (tgt := 75) hx hb dX6_feed_21 rfl (fun q2 => ?_) (fun q2 => ?_)
    · have hR := hR.trans (if_pos q2)
      refine lv_bipush (v := (-2)) hx hb dX6_feed_75 rfl ?_
      have hR : s_X6_feed u p1 p2 p3 p4 p5 p6 = ((-2), u) := hR
      exact W.iret (v := (-2)) hx hb hr (fun t ht _ => by rw [hR]; dsimp only; exact ⟨⟨rfl, by rw [ht]; exact hP⟩, hS.F ht⟩) hS.2.2 dX6_feed_77
    · have hR := hR.trans (if_neg q2)
      refine lv_iload_n hx hb dX6_feed_24 rfl (lv_at hl 3 rfl) ?_
      refine lv_i2l hx hb dX6_feed_25 rfl ?_
      refine lv_lconst (v := 0) hx hb dX6_feed_26 rfl ?_
      refine lv_ldc2 (v := 255) hx hb hown (hts (.constantLong RX6 240 (255)) (by decide +kernel)) dX6_feed_27 ?_
      refine xRoS (nL := 8) ⟨hx, hb, hml, hown, hts⟩ (c_X6_in l E a u p3.toInt64 0 255) (va_cwS 3 hts gX6_feed_X6_in rfl rfl rfl hd_X6_in ⟨(Nat.le_of_ble_eq_true rfl), (Nat.le_of_ble_eq_true rfl)⟩) hF hS hA hP rfl hl.1 rfl (Nat.le_of_ble_eq_true rfl) ⟨(Nat.le_of_ble_eq_true rfl), (Nat.le_of_ble_eq_true rfl)⟩ dX6_feed_30 ?_
      refine W.eq (g2 := F0 m 33 ls [.int (s_X6_in u p3.toInt64 0 255)]) rfl ?_
      refine lv_if_eq (tgt := 75) hx hb dX6_feed_33 rfl (fun q3 => ?_) (fun q3 => ?_)
      · have hR := hR.trans (if_pos q3)
        refine lv_bipush (v := (-2)) hx hb dX6_feed_75 rfl ?_
        have hR : s_X6_feed u p1 p2 p3 p4 p5 p6 = ((-2), u) := hR
        exact W.iret (v := (-2)) hx hb hr (fun t ht _ => by rw [hR]; dsimp only; exact ⟨⟨rfl, by rw [ht]; exact hP⟩, hS.F ht⟩) hS.2.2 dX6_feed_77
      · have hR := hR.trans (if_neg q3)
        refine lv_iload hx hb dX6_feed_36 (lv_at hl 4 rfl) ?_
        refine lv_i2l hx hb dX6_feed_38 rfl ?_
        refine lv_lconst (v := 0) hx hb dX6_feed_39 rfl ?_
        refine lv_ldc2 (v := 255) hx hb hown (hts (.constantLong RX6 240 (255)) (by decide +kernel)) dX6_feed_40 ?_
        refine xRoS (nL := 8) ⟨hx, hb, hml, hown, hts⟩ (c_X6_in l E a u p4.toInt64 0 255) (va_cwS 3 hts gX6_feed_X6_in rfl rfl rfl hd_X6_in ⟨(Nat.le_of_ble_eq_true rfl), (Nat.le_of_ble_eq_true rfl)⟩) hF hS hA hP rfl hl.1 rfl (Nat.le_of_ble_eq_true rfl) ⟨(Nat.le_of_ble_eq_true rfl), (Nat.le_of_ble_eq_true rfl)⟩ dX6_feed_43 ?_
        refine W.eq (g2 := F0 m 46 ls [.int (s_X6_in u p4.toInt64 0 255)]) rfl ?_
        refine lv_if_eq (tgt := 75) hx hb dX6_feed_46 rfl (fun q4 => ?_) (fun q4 => ?_)
        · have hR := hR.trans (if_pos q4)
          refine lv_bipush (v := (-2)) hx hb dX6_feed_75 rfl ?_
          have hR : s_X6_feed u p1 p2 p3 p4 p5 p6 = ((-2), u) := hR
          exact W.iret (v := (-2)) hx hb hr (fun t ht _ => by rw [hR]; dsimp only; exact ⟨⟨rfl, by rw [ht]; exact hP⟩, hS.F ht⟩) hS.2.2 dX6_feed_77
        · have hR := hR.trans (if_neg q4)
          refine lv_iload hx hb dX6_feed_49 (lv_at hl 5 rfl) ?_
          refine lv_i2l hx hb dX6_feed_51 rfl ?_
          refine lv_lconst (v := 0) hx hb dX6_feed_52 rfl ?_
          refine lv_ldc2 (v := 255) hx hb hown (hts (.constantLong RX6 240 (255)) (by decide +kernel)) dX6_feed_53 ?_
          refine xRoS (nL := 8) ⟨hx, hb, hml, hown, hts⟩ (c_X6_in l E a u p5.toInt64 0 255) (va_cwS 3 hts gX6_feed_X6_in rfl rfl rfl hd_X6_in ⟨(Nat.le_of_ble_eq_true rfl), (Nat.le_of_ble_eq_true rfl)⟩) hF hS hA hP rfl hl.1 rfl (Nat.le_of_ble_eq_true rfl) ⟨(Nat.le_of_ble_eq_true rfl), (Nat.le_of_ble_eq_true rfl)⟩ dX6_feed_56 ?_
          refine W.eq (g2 := F0 m 59 ls [.int (s_X6_in u p5.toInt64 0 255)]) rfl ?_
          refine lv_if_eq (tgt := 75) hx hb dX6_feed_59 rfl (fun q5 => ?_) (fun q5 => ?_)
          · have hR := hR.trans (if_pos q5)
            refine lv_bipush (v := (-2)) hx hb dX6_feed_75 rfl ?_
            have hR : s_X6_feed u p1 p2 p3 p4 p5 p6 = ((-2), u) := hR
            exact W.iret (v := (-2)) hx hb hr (fun t ht _ => by rw [hR]; dsimp only; exact ⟨⟨rfl, by rw [ht]; exact hP⟩, hS.F ht⟩) hS.2.2 dX6_feed_77
          · have hR := hR.trans (if_neg q5)
            refine lv_iload hx hb dX6_feed_62 (lv_at hl 6 rfl) ?_
            refine lv_i2l hx hb dX6_feed_64 rfl ?_
            refine lv_lconst (v := 0) hx hb dX6_feed_65 rfl ?_
            refine lv_ldc2 (v := 255) hx hb hown (hts (.constantLong RX6 240 (255)) (by decide +kernel)) dX6_feed_66 ?_
            refine xRoS (nL := 8) ⟨hx, hb, hml, hown, hts⟩ (c_X6_in l E a u p6.toInt64 0 255) (va_cwS 3 hts gX6_feed_X6_in rfl rfl rfl hd_X6_in ⟨(Nat.le_of_ble_eq_true rfl), (Nat.le_of_ble_eq_true rfl)⟩) hF hS hA hP rfl hl.1 rfl (Nat.le_of_ble_eq_true rfl) ⟨(Nat.le_of_ble_eq_true rfl), (Nat.le_of_ble_eq_true rfl)⟩ dX6_feed_69 ?_
            refine W.eq (g2 := F0 m 72 ls [.int (s_X6_in u p6.toInt64 0 255)]) rfl ?_
            refine lv_if_ne (tgt := 78) hx hb dX6_feed_72 rfl (fun q6 => ?_) (fun q6 => ?_)
            · have hR := hR.trans (if_neg q6)
              refine lv_aload_n hx hb dX6_feed_78 rfl (lv_at hl 0 rfl) ?_
              refine va_get (D := xD E) (ci := 6) (v := .int (u.2 4)) (C := RX6) (T := TX6) (N := 28) hx hb hts (by decide +kernel) hown hK hP 0 rfl rfl 18 (by decide) (hts (.fieldLink RX6 242 "RailOffsetsModel" "size" "I") (by decide +kernel)) (fun _ h => h) rfl dX6_feed_79 ?_
              refine lv_iload_n hx hb dX6_feed_82 rfl (lv_at hl 1 rfl) ?_
              refine lv_iadd hx hb dX6_feed_83 ?_
              refine lv_bipush (v := 60) hx hb dX6_feed_84 rfl ?_
              refine lv_icmp_le (tgt := 92) hx hb dX6_feed_86 rfl (fun q7 => ?_) (fun q7 => ?_)
              · have hR := hR.trans (if_pos q7)
                refine lv_iconst (v := 0) hx hb dX6_feed_92 rfl ?_
                refine lv_istore (lv' := [(7, .int 0), (0, .ref (a 0)), (1, .int p1), (2, .int p2), (3, .int p3), (4, .int p4), (5, .int p5), (6, .int p6)]) hx hb dX6_feed_93 hl (by decide) rfl (fun ls hl => ?_)
                have L95 : ∀ (n95 : Nat) (u95 : xU) (x7 : Int32) (H : Heap) (locs : List Loc) (ls : Array Slot), (XFd (u95.2 4) p1 x7) → (p1.toInt - x7.toInt).toNat < n95 → s_X6_feed u p1 p2 p3 p4 p5 p6 = s_X6_feed_L95 n95 u95 p1 p2 p3 p4 p5 p6 x7 → lv_has ls 8 [(7, .int x7), (0, .ref (a 0)), (1, .int p1), (2, .int p2), (3, .int p3), (4, .int p4), (5, .int p5), (6, .int p6)] → va_P (xD E) vwCl (wM E a u95) H → va_S (· ∈ LM a) s.heap H locs → W p l e rm_X6_feed s m ([.ref (a 0), .int p1, .int p2, .int p3, .int p4, .int p5, .int p6] : List Value).toArray below meth c H locs 0 0 (xQmd E below (LM a) (some (.int ((s_X6_feed u p1 p2 p3 p4 p5 p6).1))) (wM E a ((s_X6_feed u p1 p2 p3 p4 p5 p6).2)) ([.ref (a 0), .int p1, .int p2, .int p3, .int p4, .int p5, .int p6] : List Value).toArray s) (F0 m 95 ls []) := by
                  intro n95
                  induction n95 with
                  | zero => intro u95 x7 H locs ls hI0 hM95 hR hl hP hS; exact absurd hM95 (Nat.not_lt_zero _)
                  | succ n95 ih95 =>
                    intro u95 x7 H locs ls hI0 hM95 hR hl hP hS
                    refine lv_iload hx hb dX6_feed_95 (lv_at hl 0 rfl) ?_
                    refine lv_iload_n hx hb dX6_feed_97 rfl (lv_at hl 2 rfl) ?_
                    refine lv_icmp_ge (tgt := 169) hx hb dX6_feed_98 rfl (fun q8 => ?_) (fun q8 => ?_)
                    · have hR := hR.trans (if_pos q8)
                      refine lv_aload_n hx hb dX6_feed_169 rfl (lv_at hl 1 rfl) ?_
                      refine va_get (D := xD E) (ci := 6) (v := .int (u95.2 4)) (C := RX6) (T := TX6) (N := 28) hx hb hts (by decide +kernel) hown hK hP 0 rfl rfl 18 (by decide) (hts (.fieldLink RX6 242 "RailOffsetsModel" "size" "I") (by decide +kernel)) (fun _ h => h) rfl dX6_feed_170 ?_
                      have hR : s_X6_feed u p1 p2 p3 p4 p5 p6 = (u95.2 4, u95) := hR
                      exact W.iret (v := u95.2 4) hx hb hr (fun t ht _ => by rw [hR]; dsimp only; exact ⟨⟨rfl, by rw [ht]; exact hP⟩, hS.F ht⟩) hS.2.2 dX6_feed_173
                    · have hR := hR.trans (if_neg q8)
                      refine lv_aload_n hx hb dX6_feed_101 rfl (lv_at hl 1 rfl) ?_
                      refine va_get (D := xD E) (ci := 6) (v := .ref (a 14)) (C := RX6) (T := TX6) (N := 28) hx hb hts (by decide +kernel) hown hK hP 0 rfl rfl 17 (by decide) (hts (.fieldLink RX6 51 "RailOffsetsModel" "tape" "[I") (by decide +kernel)) (fun _ h => h) rfl dX6_feed_102 ?_
                      refine lv_aload_n hx hb dX6_feed_105 rfl (lv_at hl 1 rfl) ?_
                      refine va_get (D := xD E) (ci := 6) (v := .int (u95.2 4)) (C := RX6) (T := TX6) (N := 28) hx hb hts (by decide +kernel) hown hK hP 0 rfl rfl 18 (by decide) (hts (.fieldLink RX6 242 "RailOffsetsModel" "size" "I") (by decide +kernel)) (fun _ h => h) rfl dX6_feed_106 ?_
                      refine lv_iload hx hb dX6_feed_109 (lv_at hl 0 rfl) ?_
                      have J9 : W p l e rm_X6_feed s m ([.ref (a 0), .int p1, .int p2, .int p3, .int p4, .int p5, .int p6] : List Value).toArray below meth c H locs 0 0 (xQmd E below (LM a) (some (.int ((s_X6_feed u p1 p2 p3 p4 p5 p6).1))) (wM E a ((s_X6_feed u p1 p2 p3 p4 p5 p6).2)) ([.ref (a 0), .int p1, .int p2, .int p3, .int p4, .int p5, .int p6] : List Value).toArray s) (F0 m 152 ls [.int (if x7 = 0 then p2 else if x7 = 1 then p3 else if x7 = 2 then p4 else if x7 = 3 then p5 else p6), .int (u95.2 4), .ref (a 14)]) := by
                        refine va_iast hx hb hK hP (xD_of (ws := wM E a u95) (A := (· ∈ LM a)) hL.1 (fun _ h => h)) hS 14 0 rfl rfl (xfdi hI0 q8) dX6_feed_152 (fun H locs hP _ hS => ?_)
                        have hP : va_P (xD E) vwCl (wM E a (uA u95 14 (u95.2 4).toNatClampNeg (if x7 = 0 then p2 else if x7 = 1 then p3 else if x7 = 2 then p4 else if x7 = 3 then p5 else p6))) H := hP
                        refine lv_aload_n hx hb dX6_feed_153 rfl (lv_at hl 1 rfl) ?_
                        refine lv_dup hx hb dX6_feed_154 rfl ?_
                        refine va_get (D := xD E) (ci := 6) (v := .int ((uA u95 14 (u95.2 4).toNatClampNeg (if x7 = 0 then p2 else if x7 = 1 then p3 else if x7 = 2 then p4 else if x7 = 3 then p5 else p6)).2 4)) (C := RX6) (T := TX6) (N := 28) hx hb hts (by decide +kernel) hown hK hP 0 rfl rfl 18 (by decide) (hts (.fieldLink RX6 242 "RailOffsetsModel" "size" "I") (by decide +kernel)) (fun _ h => h) rfl dX6_feed_155 ?_
                        refine W.eq (g2 := F0 m 158 ls [.int (u95.2 4), .ref (a 0)]) rfl ?_
                        refine lv_iconst (v := 1) hx hb dX6_feed_158 rfl ?_
                        refine lv_iadd hx hb dX6_feed_159 ?_
                        refine va_put (D := xD E) (ci := 6) (v := .int ((u95.2 4) + 1)) (ty := .int) (C := RX6) (T := TX6) (N := 28) hx hb hts (by decide +kernel) tyX6 tyX6_ok nmX6 hown hK hP (xD_of (ws := wM E a (uA u95 14 (u95.2 4).toNatClampNeg (if x7 = 0 then p2 else if x7 = 1 then p3 else if x7 = 2 then p4 else if x7 = 3 then p5 else p6))) (A := (· ∈ LM a)) hL.1 (fun _ h => h)) hS 0 rfl rfl 18 (by decide) (hts (.fieldLink RX6 242 "RailOffsetsModel" "size" "I") (by decide +kernel)) (fun _ h => h) rfl (by decide +kernel) rfl rfl (Nat.le_of_ble_eq_true rfl) dX6_feed_160 (fun H locs hP _ hS => ?_)
                        have hP : va_P (xD E) vwCl (wM E a (uZ (uA u95 14 (u95.2 4).toNatClampNeg (if x7 = 0 then p2 else if x7 = 1 then p3 else if x7 = 2 then p4 else if x7 = 3 then p5 else p6)) 4 ((u95.2 4) + 1))) H := hP
                        refine lv_iinc (k := 0) (v := x7 + 1) (lv' := [(7, .int (x7 + 1)), (0, .ref (a 0)), (1, .int p1), (2, .int p2), (3, .int p3), (4, .int p4), (5, .int p5), (6, .int p6)]) hx hb dX6_feed_163 hl rfl rfl (by decide) rfl (fun ls hl => ?_)
                        refine lv_goto (tgt := 95) hx hb dX6_feed_166 rfl ?_
                        exact ih95 (uZ (uA u95 14 (u95.2 4).toNatClampNeg (if x7 = 0 then p2 else if x7 = 1 then p3 else if x7 = 2 then p4 else if x7 = 3 then p5 else p6)) 4 ((u95.2 4) + 1)) (x7 + 1) _ _ _ (xfd1 hI0 q8) (Nat.lt_of_lt_of_le (xupc q8) (Nat.le_of_lt_succ hM95)) hR (lv_sub hl [0, 1, 2, 3, 4, 5, 6, 7] rfl) hP hS
                      refine lv_if_ne (tgt := 118) hx hb dX6_feed_111 rfl (fun q10 => ?_) (fun q10 => ?_)
                      · refine lv_iload hx hb dX6_feed_118 (lv_at hl 0 rfl) ?_
                        refine lv_iconst (v := 1) hx hb dX6_feed_120 rfl ?_
                        have J11 : W p l e rm_X6_feed s m ([.ref (a 0), .int p1, .int p2, .int p3, .int p4, .int p5, .int p6] : List Value).toArray below meth c H locs 0 0 (xQmd E below (LM a) (some (.int ((s_X6_feed u p1 p2 p3 p4 p5 p6).1))) (wM E a ((s_X6_feed u p1 p2 p3 p4 p5 p6).2)) ([.ref (a 0), .int p1, .int p2, .int p3, .int p4, .int p5, .int p6] : List Value).toArray s) (F0 m 152 ls [.int (if x7 = 1 then p3 else if x7 = 2 then p4 else if x7 = 3 then p5 else p6), .int (u95.2 4), .ref (a 14)]) := by
                          exact W.eq (congrArg (fun z => F0 m 152 ls [.int z, .int (u95.2 4), .ref (a 14)]) (if_neg q10).symm) J9
                        refine lv_icmp_ne (tgt := 128) hx hb dX6_feed_121 rfl (fun q12 => ?_) (fun q12 => ?_)
                        · refine lv_iload hx hb dX6_feed_128 (lv_at hl 0 rfl) ?_
                          refine lv_iconst (v := 2) hx hb dX6_feed_130 rfl ?_
                          have J13 : W p l e rm_X6_feed s m ([.ref (a 0), .int p1, .int p2, .int p3, .int p4, .int p5, .int p6] : List Value).toArray below meth c H locs 0 0 (xQmd E below (LM a) (some (.int ((s_X6_feed u p1 p2 p3 p4 p5 p6).1))) (wM E a ((s_X6_feed u p1 p2 p3 p4 p5 p6).2)) ([.ref (a 0), .int p1, .int p2, .int p3, .int p4, .int p5, .int p6] : List Value).toArray s) (F0 m 152 ls [.int (if x7 = 2 then p4 else if x7 = 3 then p5 else p6), .int (u95.2 4), .ref (a 14)]) := by
                            exact W.eq (congrArg (fun z => F0 m 152 ls [.int z, .int (u95.2 4), .ref (a 14)]) (if_neg q12).symm) J11
                          refine lv_icmp_ne (tgt := 139) hx hb dX6_feed_131 rfl (fun q14 => ?_) (fun q14 => ?_)
                          · refine lv_iload hx hb dX6_feed_139 (lv_at hl 0 rfl) ?_
                            refine lv_iconst (v := 3) hx hb dX6_feed_141 rfl ?_
                            have J15 : W p l e rm_X6_feed s m ([.ref (a 0), .int p1, .int p2, .int p3, .int p4, .int p5, .int p6] : List Value).toArray below meth c H locs 0 0 (xQmd E below (LM a) (some (.int ((s_X6_feed u p1 p2 p3 p4 p5 p6).1))) (wM E a ((s_X6_feed u p1 p2 p3 p4 p5 p6).2)) ([.ref (a 0), .int p1, .int p2, .int p3, .int p4, .int p5, .int p6] : List Value).toArray s) (F0 m 152 ls [.int (if x7 = 3 then p5 else p6), .int (u95.2 4), .ref (a 14)]) := by
                              exact W.eq (congrArg (fun z => F0 m 152 ls [.int z, .int (u95.2 4), .ref (a 14)]) (if_neg q14).symm) J13
                            refine lv_icmp_ne (tgt := 150) hx hb dX6_feed_142 rfl (fun q16 => ?_) (fun q16 => ?_)
                            · refine lv_iload hx hb dX6_feed_150 (lv_at hl 7 rfl) ?_
                              exact W.eq (congrArg (fun z => F0 m 152 ls [.int z, .int (u95.2 4), .ref (a 14)]) (if_neg q16).symm) J15
                            · refine lv_iload hx hb dX6_feed_145 (lv_at hl 6 rfl) ?_
                              refine lv_goto (tgt := 152) hx hb dX6_feed_147 rfl ?_
                              exact W.eq (congrArg (fun z => F0 m 152 ls [.int z, .int (u95.2 4), .ref (a 14)]) (if_pos q16).symm) J15
                          · refine lv_iload hx hb dX6_feed_134 (lv_at hl 5 rfl) ?_
                            refine lv_goto (tgt := 152) hx hb dX6_feed_136 rfl ?_
                            exact W.eq (congrArg (fun z => F0 m 152 ls [.int z, .int (u95.2 4), .ref (a 14)]) (if_pos q14).symm) J13
                        · refine lv_iload_n hx hb dX6_feed_124 rfl (lv_at hl 4 rfl) ?_
                          refine lv_goto (tgt := 152) hx hb dX6_feed_125 rfl ?_
                          exact W.eq (congrArg (fun z => F0 m 152 ls [.int z, .int (u95.2 4), .ref (a 14)]) (if_pos q12).symm) J11
                      · refine lv_iload_n hx hb dX6_feed_114 rfl (lv_at hl 3 rfl) ?_
                        refine lv_goto (tgt := 152) hx hb dX6_feed_115 rfl ?_
                        exact W.eq (congrArg (fun z => F0 m 152 ls [.int z, .int (u95.2 4), .ref (a 14)]) (if_pos q10).symm) J9
                exact L95 ((p1.toInt - (0 : Int32).toInt).toNat + 1) u 0 _ _ ls (xfd0 hp0 q7 (xin32 (lo := 1) (hi := 5) q1)) (Nat.lt_succ_self _) hR hl hP hS
              · have hR := hR.trans (if_neg q7)
                refine lv_bipush (v := (-4)) hx hb dX6_feed_89 rfl ?_
                have hR : s_X6_feed u p1 p2 p3 p4 p5 p6 = ((-4), u) := hR
                exact W.iret (v := (-4)) hx hb hr (fun t ht _ => by rw [hR]; dsimp only; exact ⟨⟨rfl, by rw [ht]; exact hP⟩, hS.F ht⟩) hS.2.2 dX6_feed_91
            · have hR := hR.trans (if_pos q6)
              refine lv_bipush (v := (-2)) hx hb dX6_feed_75 rfl ?_
              have hR : s_X6_feed u p1 p2 p3 p4 p5 p6 = ((-2), u) := hR
              exact W.iret (v := (-2)) hx hb hr (fun t ht _ => by rw [hR]; dsimp only; exact ⟨⟨rfl, by rw [ht]; exact hP⟩, hS.F ht⟩) hS.2.2 dX6_feed_77
def s_X6_count_L60 : Nat → xU → Int32 → Int32 → Int32 → Int32 × xU
  | 0, u, _, _, _ => (0, u)
  | n + 1, u, x1, x2, x3 =>
    if (u.1 1 (40 : Int32).toNatClampNeg) ≤ x3 then
      (x2, u)
    else
      s_X6_count_L60 n u x1 (x2 + (if (s_X6_of0 u x3 0) = 3 then s_X6_of0 u x3 1 else 0)) (x3 + 1)
def s_X6_count_L104 : Nat → xU → Int32 → Int32 → Int32 → Int32 × xU
  | 0, u, _, _, _ => (0, u)
  | n + 1, u, x1, x2, x3 =>
    if (u.2 1) < x3 then
      (x2, u)
    else
      s_X6_count_L104 n u x1 (x2 + (s_X6_bit u (if (u.1 4 x3.toNatClampNeg) ≤ 0 then 0 else 1))) (x3 + 1)
def s_X6_count (u : xU) (p1 : Int32) : Int32 × xU :=
  if p1 = 0 then
    ((s_X6_lays u).1 1 (40 : Int32).toNatClampNeg, s_X6_lays u)
  else
    if p1 = 1 then
      ((s_X6_lays u).2 1, s_X6_lays u)
    else
      if p1 = 2 then
        ((s_X6_lays u).2 4, s_X6_lays u)
      else
        if p1 = 3 then
          s_X6_count_L60 ((((s_X6_lays u).1 1 40).toInt - (0 : Int32).toInt).toNat + 1) (s_X6_lays u) p1 0 0
        else
          if p1 = 4 then
            s_X6_count_L104 ((((s_X6_lays u).2 1).toInt + 1 - (1 : Int32).toInt).toNat + 1) (s_X6_lays u) p1 0 1
          else
            ((-2), s_X6_lays u)
abbrev rm_X6_count : Room := { frames := 2, cells := 0, slots := 0, locals := 50 }
set_option maxHeartbeats 8000000 in
set_option maxRecDepth 100000 in
theorem c_X6_count (l : Launch) (E : xG) (a : Nat → Nat) (u : xU) (p1 : Int32) (hp0 : XW u) (hL : xOK E (LM a)) : xMd l E yX6_count wsX6_count rm_X6_count (LM a) [.ref (a 0), .int p1] (wM E a u) (some (.int ((s_X6_count u p1).1))) (wM E a ((s_X6_count u p1).2)) := by
  refine xMd.of (cc := cX6_count) (maxL := 4) (ret := (some .int)) (by decide) rfl (Nat.le_of_ble_eq_true rfl) ?_
  intro p e s m below meth c ls hAt hF hP hS hl
  obtain ⟨hx, hb, hr, hml, hown, hts, hlocks, -⟩ := hAt
  have hown : s.vm.findClass RX6 = some m.cls := hown
  have hl : lv_has ls 4 [(0, .ref (a 0)), (1, .int p1)] := hl
  have hK := hF.1
  have hA := hL.2
  change W p l e rm_X6_count s m ([.ref (a 0), .int p1] : List Value).toArray below meth c s.heap [] 0 0 (xQmd E below (LM a) (some (.int ((s_X6_count u p1).1))) (wM E a ((s_X6_count u p1).2)) ([.ref (a 0), .int p1] : List Value).toArray s) _
  have hS : va_S (· ∈ LM a) s.heap s.heap [] := hS
  have hR : s_X6_count u p1 = s_X6_count u p1 := rfl
  refine lv_aload_n hx hb dX6_count_0 rfl (lv_at hl 0 rfl) ?_
  refine xMdV (nL := 4) ⟨hx, hb, hml, hown, hts⟩ (c_X6_lays l E a u  (hp0) hL) (cwV 0 hts gX6_count_X6_lays rfl rfl rfl ⟨rfl, hd_X6_lays⟩ ⟨(Nat.le_of_ble_eq_true rfl), (Nat.le_of_ble_eq_true rfl)⟩) hF hS hL.2 (fun _ h => h) hP (va_recv (q := (RX6, TX6, 28)) hK hP (ci := 6) rfl (q0 := 0) rfl) rfl hl.1 rfl (Nat.le_of_ble_eq_true rfl) ⟨(Nat.le_of_ble_eq_true rfl), (Nat.le_of_ble_eq_true rfl)⟩ dX6_count_1 (fun H locs hP _ hS => ?_)
  refine W.eq (g2 := F0 m 4 ls []) rfl ?_
  refine lv_iconst (v := 0) hx hb dX6_count_4 rfl ?_
  refine lv_istore_n (lv' := [(2, .int 0), (0, .ref (a 0)), (1, .int p1)]) hx hb dX6_count_5 rfl hl (by decide) rfl (fun ls hl => ?_)
  refine lv_iload_n hx hb dX6_count_6 rfl (lv_at hl 2 rfl) ?_
  by_cases q1 : p1 = 0
  · have hR := hR.trans (if_pos q1)
    refine lv_tableIn (tgt := 40) (off := 33) hx hb dX6_count_7 (by rw [q1]; decide) (by rw [q1]; decide) (by rw [q1]; rfl) rfl ?_
    refine lv_aload_n hx hb dX6_count_40 rfl (lv_at hl 1 rfl) ?_
    refine va_get (D := xD E) (ci := 6) (v := .ref (a 1)) (C := RX6) (T := TX6) (N := 28) hx hb hts (by decide +kernel) hown hK hP 0 rfl rfl 0 (by decide) (hts (.fieldLink RX6 11 "RailOffsetsModel" "now" "[I") (by decide +kernel)) (fun _ h => h) rfl dX6_count_41 ?_
    refine lv_bipush (v := 40) hx hb dX6_count_44 rfl ?_
    refine va_iald hx hb hK hP 1 0 rfl rfl (v40) dX6_count_46 ?_
    have hR : s_X6_count u p1 = ((s_X6_lays u).1 1 (40 : Int32).toNatClampNeg, s_X6_lays u) := hR
    exact W.iret (v := (s_X6_lays u).1 1 (40 : Int32).toNatClampNeg) hx hb hr (fun t ht _ => by rw [hR]; dsimp only; exact ⟨⟨rfl, by rw [ht]; exact hP⟩, hS.F ht⟩) hS.2.2 dX6_count_47
  have hR := hR.trans (if_neg q1)
  by_cases q2 : p1 = 1
  · have hR := hR.trans (if_pos q2)
    refine lv_tableIn (tgt := 48) (off := 41) hx hb dX6_count_7 (by rw [q2]; decide) (by rw [q2]; decide) (by rw [q2]; rfl) rfl ?_
    refine lv_aload_n hx hb dX6_count_48 rfl (lv_at hl 1 rfl) ?_
    refine va_get (D := xD E) (ci := 6) (v := .int ((s_X6_lays u).2 1)) (C := RX6) (T := TX6) (N := 28) hx hb hts (by decide +kernel) hown hK hP 0 rfl rfl 8 (by decide) (hts (.fieldLink RX6 130 "RailOffsetsModel" "stations" "I") (by decide +kernel)) (fun _ h => h) rfl dX6_count_49 ?_
    have hR : s_X6_count u p1 = ((s_X6_lays u).2 1, s_X6_lays u) := hR
    exact W.iret (v := (s_X6_lays u).2 1) hx hb hr (fun t ht _ => by rw [hR]; dsimp only; exact ⟨⟨rfl, by rw [ht]; exact hP⟩, hS.F ht⟩) hS.2.2 dX6_count_52
  have hR := hR.trans (if_neg q2)
  by_cases q3 : p1 = 2
  · have hR := hR.trans (if_pos q3)
    refine lv_tableIn (tgt := 53) (off := 46) hx hb dX6_count_7 (by rw [q3]; decide) (by rw [q3]; decide) (by rw [q3]; rfl) rfl ?_
    refine lv_aload_n hx hb dX6_count_53 rfl (lv_at hl 1 rfl) ?_
    refine va_get (D := xD E) (ci := 6) (v := .int ((s_X6_lays u).2 4)) (C := RX6) (T := TX6) (N := 28) hx hb hts (by decide +kernel) hown hK hP 0 rfl rfl 18 (by decide) (hts (.fieldLink RX6 242 "RailOffsetsModel" "size" "I") (by decide +kernel)) (fun _ h => h) rfl dX6_count_54 ?_
    have hR : s_X6_count u p1 = ((s_X6_lays u).2 4, s_X6_lays u) := hR
    exact W.iret (v := (s_X6_lays u).2 4) hx hb hr (fun t ht _ => by rw [hR]; dsimp only; exact ⟨⟨rfl, by rw [ht]; exact hP⟩, hS.F ht⟩) hS.2.2 dX6_count_57
  have hR := hR.trans (if_neg q3)
  by_cases q4 : p1 = 3
  · have hR := hR.trans (if_pos q4)
    refine lv_tableIn (tgt := 58) (off := 51) hx hb dX6_count_7 (by rw [q4]; decide) (by rw [q4]; decide) (by rw [q4]; rfl) rfl ?_
    refine lv_iconst (v := 0) hx hb dX6_count_58 rfl ?_
    refine lv_istore_n (lv' := [(3, .int 0), (2, .int 0), (0, .ref (a 0)), (1, .int p1)]) hx hb dX6_count_59 rfl hl (by decide) rfl (fun ls hl => ?_)
    have L60 : ∀ (n60 : Nat) (x2 : Int32) (x3 : Int32) (H : Heap) (locs : List Loc) (ls : Array Slot), (¬ x3 < 0) → (((s_X6_lays u).1 1 40).toInt - x3.toInt).toNat < n60 → s_X6_count u p1 = s_X6_count_L60 n60 (s_X6_lays u) p1 x2 x3 → lv_has ls 4 [(3, .int x3), (2, .int x2), (0, .ref (a 0)), (1, .int p1)] → va_P (xD E) vwCl (wM E a (s_X6_lays u)) H → va_S (· ∈ LM a) s.heap H locs → W p l e rm_X6_count s m ([.ref (a 0), .int p1] : List Value).toArray below meth c H locs 0 0 (xQmd E below (LM a) (some (.int ((s_X6_count u p1).1))) (wM E a ((s_X6_count u p1).2)) ([.ref (a 0), .int p1] : List Value).toArray s) (F0 m 60 ls []) := by
      intro n60
      induction n60 with
      | zero => intro x2 x3 H locs ls hI0 hM60 hR hl hP hS; exact absurd hM60 (Nat.not_lt_zero _)
      | succ n60 ih60 =>
        intro x2 x3 H locs ls hI0 hM60 hR hl hP hS
        refine lv_iload_n hx hb dX6_count_60 rfl (lv_at hl 0 rfl) ?_
        refine lv_aload_n hx hb dX6_count_61 rfl (lv_at hl 2 rfl) ?_
        refine va_get (D := xD E) (ci := 6) (v := .ref (a 1)) (C := RX6) (T := TX6) (N := 28) hx hb hts (by decide +kernel) hown hK hP 0 rfl rfl 0 (by decide) (hts (.fieldLink RX6 11 "RailOffsetsModel" "now" "[I") (by decide +kernel)) (fun _ h => h) rfl dX6_count_62 ?_
        refine lv_bipush (v := 40) hx hb dX6_count_65 rfl ?_
        refine va_iald hx hb hK hP 1 0 rfl rfl (v40) dX6_count_67 ?_
        refine lv_icmp_ge (tgt := 100) hx hb dX6_count_68 rfl (fun q5 => ?_) (fun q5 => ?_)
        · have hR := hR.trans (if_pos q5)
          refine lv_iload_n hx hb dX6_count_100 rfl (lv_at hl 1 rfl) ?_
          have hR : s_X6_count u p1 = (x2, s_X6_lays u) := hR
          exact W.iret (v := x2) hx hb hr (fun t ht _ => by rw [hR]; dsimp only; exact ⟨⟨rfl, by rw [ht]; exact hP⟩, hS.F ht⟩) hS.2.2 dX6_count_101
        · have hR := hR.trans (if_neg q5)
          refine lv_iload_n hx hb dX6_count_71 rfl (lv_at hl 1 rfl) ?_
          refine lv_aload_n hx hb dX6_count_72 rfl (lv_at hl 2 rfl) ?_
          refine lv_iload_n hx hb dX6_count_73 rfl (lv_at hl 0 rfl) ?_
          refine lv_iconst (v := 0) hx hb dX6_count_74 rfl ?_
          refine xRoV (nL := 4) ⟨hx, hb, hml, hown, hts⟩ (c_X6_of0 l E a (s_X6_lays u) x3 0 (xof (xwp (xlays_w hp0) (xge0 hI0) q5) (by decide) (by decide))) (cwV 2 hts gX6_count_X6_of0 rfl rfl rfl ⟨rfl, hd_X6_of0⟩ ⟨(Nat.le_of_ble_eq_true rfl), (Nat.le_of_ble_eq_true rfl)⟩) hF hS hA hP (va_recv (q := (RX6, TX6, 28)) hK hP (ci := 6) rfl (q0 := 0) rfl) rfl hl.1 rfl (Nat.le_of_ble_eq_true rfl) ⟨(Nat.le_of_ble_eq_true rfl), (Nat.le_of_ble_eq_true rfl)⟩ dX6_count_75 ?_
          refine W.eq (g2 := F0 m 78 ls [.int (s_X6_of0 (s_X6_lays u) x3 0), .int x2]) rfl ?_
          refine lv_iconst (v := 3) hx hb dX6_count_78 rfl ?_
          have J6 : W p l e rm_X6_count s m ([.ref (a 0), .int p1] : List Value).toArray below meth c H locs 0 0 (xQmd E below (LM a) (some (.int ((s_X6_count u p1).1))) (wM E a ((s_X6_count u p1).2)) ([.ref (a 0), .int p1] : List Value).toArray s) (F0 m 92 ls [.int (if (s_X6_of0 (s_X6_lays u) x3 0) = 3 then s_X6_of0 (s_X6_lays u) x3 1 else 0), .int x2]) := by
            refine lv_iadd hx hb dX6_count_92 ?_
            refine lv_istore_n (lv' := [(2, .int (x2 + (if (s_X6_of0 (s_X6_lays u) x3 0) = 3 then s_X6_of0 (s_X6_lays u) x3 1 else 0))), (3, .int x3), (0, .ref (a 0)), (1, .int p1)]) hx hb dX6_count_93 rfl hl (by decide) rfl (fun ls hl => ?_)
            refine lv_iinc (k := 1) (v := x3 + 1) (lv' := [(3, .int (x3 + 1)), (2, .int (x2 + (if (s_X6_of0 (s_X6_lays u) x3 0) = 3 then s_X6_of0 (s_X6_lays u) x3 1 else 0))), (0, .ref (a 0)), (1, .int p1)]) hx hb dX6_count_94 hl rfl rfl (by decide) rfl (fun ls hl => ?_)
            refine lv_goto (tgt := 60) hx hb dX6_count_97 rfl ?_
            exact ih60 (x2 + (if (s_X6_of0 (s_X6_lays u) x3 0) = 3 then s_X6_of0 (s_X6_lays u) x3 1 else 0)) (x3 + 1) _ _ _ (xup0 hI0 q5) (Nat.lt_of_lt_of_le (xupc q5) (Nat.le_of_lt_succ hM60)) hR (lv_sub hl [0, 1, 2, 3] rfl) hP hS
          refine lv_icmp_ne (tgt := 91) hx hb dX6_count_79 rfl (fun q7 => ?_) (fun q7 => ?_)
          · refine lv_iconst (v := 0) hx hb dX6_count_91 rfl ?_
            exact W.eq (congrArg (fun z => F0 m 92 ls [.int z, .int x2]) (if_neg q7).symm) J6
          · refine lv_aload_n hx hb dX6_count_82 rfl (lv_at hl 2 rfl) ?_
            refine lv_iload_n hx hb dX6_count_83 rfl (lv_at hl 0 rfl) ?_
            refine lv_iconst (v := 1) hx hb dX6_count_84 rfl ?_
            refine xRoV (nL := 4) ⟨hx, hb, hml, hown, hts⟩ (c_X6_of0 l E a (s_X6_lays u) x3 1 (xof (xwp (xlays_w hp0) (xge0 hI0) q5) (by decide) (by decide))) (cwV 2 hts gX6_count_X6_of0 rfl rfl rfl ⟨rfl, hd_X6_of0⟩ ⟨(Nat.le_of_ble_eq_true rfl), (Nat.le_of_ble_eq_true rfl)⟩) hF hS hA hP (va_recv (q := (RX6, TX6, 28)) hK hP (ci := 6) rfl (q0 := 0) rfl) rfl hl.1 rfl (Nat.le_of_ble_eq_true rfl) ⟨(Nat.le_of_ble_eq_true rfl), (Nat.le_of_ble_eq_true rfl)⟩ dX6_count_85 ?_
            refine W.eq (g2 := F0 m 88 ls [.int (s_X6_of0 (s_X6_lays u) x3 1), .int x2]) rfl ?_
            refine lv_goto (tgt := 92) hx hb dX6_count_88 rfl ?_
            exact W.eq (congrArg (fun z => F0 m 92 ls [.int z, .int x2]) (if_pos q7).symm) J6
    exact L60 ((((s_X6_lays u).1 1 40).toInt - (0 : Int32).toInt).toNat + 1) 0 0 _ _ ls (by decide) (Nat.lt_succ_self _) hR hl hP hS
  have hR := hR.trans (if_neg q4)
  by_cases q8 : p1 = 4
  · have hR := hR.trans (if_pos q8)
    refine lv_tableIn (tgt := 102) (off := 95) hx hb dX6_count_7 (by rw [q8]; decide) (by rw [q8]; decide) (by rw [q8]; rfl) rfl ?_
    refine lv_iconst (v := 1) hx hb dX6_count_102 rfl ?_
    refine lv_istore_n (lv' := [(3, .int 1), (2, .int 0), (0, .ref (a 0)), (1, .int p1)]) hx hb dX6_count_103 rfl hl (by decide) rfl (fun ls hl => ?_)
    have L104 : ∀ (n104 : Nat) (x2 : Int32) (x3 : Int32) (H : Heap) (locs : List Loc) (ls : Array Slot), (1 ≤ x3.toInt) → (((s_X6_lays u).2 1).toInt + 1 - x3.toInt).toNat < n104 → s_X6_count u p1 = s_X6_count_L104 n104 (s_X6_lays u) p1 x2 x3 → lv_has ls 4 [(3, .int x3), (2, .int x2), (0, .ref (a 0)), (1, .int p1)] → va_P (xD E) vwCl (wM E a (s_X6_lays u)) H → va_S (· ∈ LM a) s.heap H locs → W p l e rm_X6_count s m ([.ref (a 0), .int p1] : List Value).toArray below meth c H locs 0 0 (xQmd E below (LM a) (some (.int ((s_X6_count u p1).1))) (wM E a ((s_X6_count u p1).2)) ([.ref (a 0), .int p1] : List Value).toArray s) (F0 m 104 ls []) := by
      intro n104
      induction n104 with
      | zero => intro x2 x3 H locs ls hI0 hM104 hR hl hP hS; exact absurd hM104 (Nat.not_lt_zero _)
      | succ n104 ih104 =>
        intro x2 x3 H locs ls hI0 hM104 hR hl hP hS
        refine lv_iload_n hx hb dX6_count_104 rfl (lv_at hl 0 rfl) ?_
        refine lv_aload_n hx hb dX6_count_105 rfl (lv_at hl 2 rfl) ?_
        refine va_get (D := xD E) (ci := 6) (v := .int ((s_X6_lays u).2 1)) (C := RX6) (T := TX6) (N := 28) hx hb hts (by decide +kernel) hown hK hP 0 rfl rfl 8 (by decide) (hts (.fieldLink RX6 130 "RailOffsetsModel" "stations" "I") (by decide +kernel)) (fun _ h => h) rfl dX6_count_106 ?_
        refine lv_icmp_gt (tgt := 138) hx hb dX6_count_109 rfl (fun q9 => ?_) (fun q9 => ?_)
        · have hR := hR.trans (if_pos q9)
          refine lv_iload_n hx hb dX6_count_138 rfl (lv_at hl 1 rfl) ?_
          have hR : s_X6_count u p1 = (x2, s_X6_lays u) := hR
          exact W.iret (v := x2) hx hb hr (fun t ht _ => by rw [hR]; dsimp only; exact ⟨⟨rfl, by rw [ht]; exact hP⟩, hS.F ht⟩) hS.2.2 dX6_count_139
        · have hR := hR.trans (if_neg q9)
          refine lv_iload_n hx hb dX6_count_112 rfl (lv_at hl 1 rfl) ?_
          refine lv_aload_n hx hb dX6_count_113 rfl (lv_at hl 2 rfl) ?_
          refine va_get (D := xD E) (ci := 6) (v := .ref (a 4)) (C := RX6) (T := TX6) (N := 28) hx hb hts (by decide +kernel) hown hK hP 0 rfl rfl 4 (by decide) (hts (.fieldLink RX6 21 "RailOffsetsModel" "height" "[I") (by decide +kernel)) (fun _ h => h) rfl dX6_count_114 ?_
          refine lv_iload_n hx hb dX6_count_117 rfl (lv_at hl 0 rfl) ?_
          refine va_iald hx hb hK hP 4 0 rfl rfl (xvst (xsup hI0 (xlays_st hp0) q9).st) dX6_count_118 ?_
          have J10 : W p l e rm_X6_count s m ([.ref (a 0), .int p1] : List Value).toArray below meth c H locs 0 0 (xQmd E below (LM a) (some (.int ((s_X6_count u p1).1))) (wM E a ((s_X6_count u p1).2)) ([.ref (a 0), .int p1] : List Value).toArray s) (F0 m 127 ls [.int (if ((s_X6_lays u).1 4 x3.toNatClampNeg) ≤ 0 then 0 else 1), .int x2]) := by
            refine xRoS (nL := 4) ⟨hx, hb, hml, hown, hts⟩ (c_X6_bit l E a (s_X6_lays u) (if ((s_X6_lays u).1 4 x3.toNatClampNeg) ≤ 0 then 0 else 1)) (va_cwS 1 hts gX6_count_X6_bit rfl rfl rfl hd_X6_bit ⟨(Nat.le_of_ble_eq_true rfl), (Nat.le_of_ble_eq_true rfl)⟩) hF hS hA hP rfl hl.1 rfl (Nat.le_of_ble_eq_true rfl) ⟨(Nat.le_of_ble_eq_true rfl), (Nat.le_of_ble_eq_true rfl)⟩ dX6_count_127 ?_
            refine W.eq (g2 := F0 m 130 ls [.int (s_X6_bit (s_X6_lays u) (if ((s_X6_lays u).1 4 x3.toNatClampNeg) ≤ 0 then 0 else 1)), .int x2]) rfl ?_
            refine lv_iadd hx hb dX6_count_130 ?_
            refine lv_istore_n (lv' := [(2, .int (x2 + (s_X6_bit (s_X6_lays u) (if ((s_X6_lays u).1 4 x3.toNatClampNeg) ≤ 0 then 0 else 1)))), (3, .int x3), (0, .ref (a 0)), (1, .int p1)]) hx hb dX6_count_131 rfl hl (by decide) rfl (fun ls hl => ?_)
            refine lv_iinc (k := 1) (v := x3 + 1) (lv' := [(3, .int (x3 + 1)), (2, .int (x2 + (s_X6_bit (s_X6_lays u) (if ((s_X6_lays u).1 4 x3.toNatClampNeg) ≤ 0 then 0 else 1)))), (0, .ref (a 0)), (1, .int p1)]) hx hb dX6_count_132 hl rfl rfl (by decide) rfl (fun ls hl => ?_)
            refine lv_goto (tgt := 104) hx hb dX6_count_135 rfl ?_
            exact ih104 (x2 + (s_X6_bit (s_X6_lays u) (if ((s_X6_lays u).1 4 x3.toNatClampNeg) ≤ 0 then 0 else 1))) (x3 + 1) _ _ _ (xs1u hI0 (xlays_st hp0) q9) (Nat.lt_of_lt_of_le (xupl q9 (xstl (xlays_st hp0))) (Nat.le_of_lt_succ hM104)) hR (lv_sub hl [0, 1, 2, 3] rfl) hP hS
          refine lv_if_le (tgt := 126) hx hb dX6_count_119 rfl (fun q11 => ?_) (fun q11 => ?_)
          · refine lv_iconst (v := 0) hx hb dX6_count_126 rfl ?_
            exact W.eq (congrArg (fun z => F0 m 127 ls [.int z, .int x2]) (if_pos q11).symm) J10
          · refine lv_iconst (v := 1) hx hb dX6_count_122 rfl ?_
            refine lv_goto (tgt := 127) hx hb dX6_count_123 rfl ?_
            exact W.eq (congrArg (fun z => F0 m 127 ls [.int z, .int x2]) (if_neg q11).symm) J10
    exact L104 ((((s_X6_lays u).2 1).toInt + 1 - (1 : Int32).toInt).toNat + 1) 0 1 _ _ ls (by decide) (Nat.lt_succ_self _) hR hl hP hS
  have hR := hR.trans (if_neg q8)
  refine lv_tableOut (tgt := 140) hx hb dX6_count_7 (xsw p1 (fun j h1 h2 h3 => by
    have h9 : j = 0 ∨ j = 1 ∨ j = 2 ∨ j = 3 ∨ j = 4 ∨ False := by omega
    rcases h9 with rfl | rfl | rfl | rfl | rfl | h9
    · exact q1 (Int32.toInt_inj.mp h3)
    · exact q2 (Int32.toInt_inj.mp h3)
    · exact q3 (Int32.toInt_inj.mp h3)
    · exact q4 (Int32.toInt_inj.mp h3)
    · exact q8 (Int32.toInt_inj.mp h3)
    · exact h9)) rfl ?_
  refine lv_bipush (v := (-2)) hx hb dX6_count_140 rfl ?_
  have hR : s_X6_count u p1 = ((-2), s_X6_lays u) := hR
  exact W.iret (v := (-2)) hx hb hr (fun t ht _ => by rw [hR]; dsimp only; exact ⟨⟨rfl, by rw [ht]; exact hP⟩, hS.F ht⟩) hS.2.2 dX6_count_142
