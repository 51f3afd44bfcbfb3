/-! ===== the reference's pieces: what piece, set, drop, rule leave ===== -/
theorem xmay {u : xU} {j : Nat} (hj : j < 4) {v : Int32} (q : ¬ s_X6_mayBe u (nI j) v = 0) : okf j v ∧ (j = 1 → 1 ≤ v.toInt) := by
  have h4 : j = 0 ∨ j = 1 ∨ j = 2 ∨ j = 3 := by omega
  rcases h4 with rfl | rfl | rfl | rfl
  · exact ⟨xin32 (u := u) (lo := 0) (hi := 5) q, fun h => absurd h (by decide)⟩
  · have h := xin32 (u := u) (lo := 1) (hi := 20) q
    exact ⟨⟨Int.le_trans (by decide) h.1, h.2⟩, fun _ => h.1⟩
  · exact ⟨xin32 (u := u) (lo := -99) (hi := 99) q, fun h => absurd h (by decide)⟩
  · exact ⟨xin32 (u := u) (lo := 0) (hi := 160) q, fun h => absurd h (by decide)⟩
theorem xv0_out {v : Nat → Int32} (h : XV0 v) {i : Nat} (hi : 40 ≤ i) {x : Int32} : XV0 (upd v i x) := by
  intro p j hp hj
  rw [pk_un (show 4 * p + j ≠ i by omega)]
  exact h p j hp hj
theorem xpc_w {u : xU} (h : XW u) (p1 p2 p3 p4 : Int32) : XW (s_X6_piece u p1 p2 p3 p4).2 := by
  unfold s_X6_piece
  split
  · exact h
  · rename_i q1
    split
    · exact h
    · rename_i q2
      split
      · exact h
      · rename_i q3
        split
        · exact h
        · rename_i q4
          split
          · exact h
          · rename_i q5
            have hP := xwn h q5
            obtain ⟨n, h1, h2, h3, h4⟩ := h
            have hn : (nI n).toInt = n := nI_toInt (by omega)
            rw [h2] at hP
            have hn10 : n < 10 := by have := hP.2; omega
            have i0 : (4 * nI n).toNatClampNeg = 4 * n := by
              show (4 * nI n).toInt.toNat = _
              rw [fb_mulI (x := 4) (y := nI n) (by rw [hn, show (4 : Int32).toInt = 4 from rfl]; omega) (by rw [hn, show (4 : Int32).toInt = 4 from rfl]; omega), hn, show (4 : Int32).toInt = 4 from rfl]
              omega
            have i1 := xat4 hP (j := 1) (by decide)
            have i2 := xat4 hP (j := 2) (by decide)
            have i3 := xat4 hP (j := 3) (by decide)
            rw [hn, Int.toNat_natCast] at i1 i2 i3
            have m1 := xmay (j := 0) (by decide) q1
            have m2 := xmay (j := 1) (by decide) q2
            have m3 := xmay (j := 2) (by decide) q3
            have m4 := xmay (j := 3) (by decide) q4
            have key : ∀ (w : Nat → Int32) (N : Int32), N = nI n → XV0 w → (∀ p, p < n → 1 ≤ (w (4 * p + 1)).toInt) → ∀ (a0 a1 a2 a3 : Nat), a0 = 4 * n + 0 → a1 = 4 * n + 1 → a2 = 4 * n + 2 → a3 = 4 * n + 3 →
                XV (upd (upd (upd (upd (upd w a0 p1) a1 p2) a2 p3) a3 p4) 40 (N + 1)) (upd (upd (upd (upd (upd w a0 p1) a1 p2) a2 p3) a3 p4) 40 (N + 1) 40) := by
              intro w N hN hw hl a0 a1 a2 a3 e0 e1 e2 e3
              rw [pk_us, hN, e0, e1, e2, e3]
              refine ⟨n + 1, by omega, nI_1 n, xv0_out (XV0.upd (XV0.upd (XV0.upd (XV0.upd hw (by decide) m1.1) (by decide) m2.1) (by decide) m3.1) (by decide) m4.1) (by decide), fun p hp => ?_⟩
              rw [pk_un (show 4 * p + 1 ≠ 40 by omega), pk_un (show 4 * p + 1 ≠ 4 * n + 3 by omega), pk_un (show 4 * p + 1 ≠ 4 * n + 2 by omega)]
              by_cases e : p = n
              · rw [e, pk_us]
                exact m2.2 rfl
              · rw [pk_un (show 4 * p + 1 ≠ 4 * n + 1 by omega), pk_un (show 4 * p + 1 ≠ 4 * n + 0 by omega)]
                exact hl p (by omega)
            have e40 : (upd (upd (upd (upd (u.1 1) (4 * (u.1 1 40)).toNatClampNeg p1) ((4 * (u.1 1 40)) + 1).toNatClampNeg p2) ((4 * (u.1 1 40)) + 2).toNatClampNeg p3) ((4 * (u.1 1 40)) + 3).toNatClampNeg p4) 40 = nI n := by
              rw [h2, i0, show (4 * nI n + 1).toNatClampNeg = 4 * n + 1 from i1, show (4 * nI n + 2).toNatClampNeg = 4 * n + 2 from i2, show (4 * nI n + 3).toNatClampNeg = 4 * n + 3 from i3]
              rw [pk_un (show 40 ≠ 4 * n + 3 by omega), pk_un (show 40 ≠ 4 * n + 2 by omega), pk_un (show 40 ≠ 4 * n + 1 by omega), pk_un (show 40 ≠ 4 * n by omega)]
              exact h2
            exact key (u.1 1) _ e40 h3 h4 _ _ _ _ (by rw [show u.1 1 (40 : Int32).toNatClampNeg = nI n from h2]; exact i0) (by rw [show u.1 1 (40 : Int32).toNatClampNeg = nI n from h2]; exact i1) (by rw [show u.1 1 (40 : Int32).toNatClampNeg = nI n from h2]; exact i2) (by rw [show u.1 1 (40 : Int32).toNatClampNeg = nI n from h2]; exact i3)
def xK1 (u w : xU) : Prop := w.2 = u.2 ∧ ∀ k, k ≠ 1 → w.1 k = u.1 k
theorem xK1.r (u : xU) : xK1 u u := ⟨rfl, fun _ _ => rfl⟩
theorem xK1.a {u w : xU} (h : xK1 u w) (i : Nat) (x : Int32) : xK1 u (uA w 1 i x) := ⟨h.1, fun k hk => by
  simp only [uA]
  rw [if_neg hk]
  exact h.2 k hk⟩
theorem xpc_k (u : xU) (p1 p2 p3 p4 : Int32) : xK1 u (s_X6_piece u p1 p2 p3 p4).2 := by
  unfold s_X6_piece
  split
  · exact xK1.r u
  · split
    · exact xK1.r u
    · split
      · exact xK1.r u
      · split
        · exact xK1.r u
        · split
          · exact xK1.r u
          · exact ((((((xK1.r u).a _ _).a _ _).a _ _).a _ _).a _ _)
theorem XZ.k1 {u w : xU} (h : XZ u) (hk : xK1 u w) : XZ w := by
  unfold XZ
  rw [hk.2 9 (by decide)]
  exact h
theorem xdr_k (u : xU) : xK1 u (s_X6_drop u).2 := by
  unfold s_X6_drop
  split
  · exact xK1.r u
  · exact (xK1.r u).a _ _
theorem xse_k (u : xU) (a b c : Int32) : xK1 u (s_X6_set u a b c).2 := by
  unfold s_X6_set
  split
  · exact xK1.r u
  · split
    · exact xK1.r u
    · by_cases q3 : s_X6_mayBe u (if b = 3 then 0 else b + 1) c = 0
      · rw [if_pos q3]; exact xK1.r u
      · rw [if_neg q3]; exact (xK1.r u).a _ _
theorem xru_k (u : xU) (a b : Int32) : xK1 u (s_X6_rule_ u a b).2 := by
  unfold s_X6_rule_
  split
  · exact xK1.r u
  · split
    · exact xK1.r u
    · exact (xK1.r u).a _ _
theorem xdr_w {u : xU} (h : XW u) : XW (s_X6_drop u).2 := by
  unfold s_X6_drop
  split
  · exact h
  · rename_i q
    obtain ⟨n, h1, h2, h3, h4⟩ := h
    have hn : 1 ≤ n := by
      apply Nat.le_of_not_lt
      intro z
      apply q
      rw [show u.1 1 (40 : Int32).toNatClampNeg = nI n from h2, show n = 0 by omega]
      rfl
    show XV (upd (u.1 1) 40 (u.1 1 40 - 1)) (upd (u.1 1) 40 (u.1 1 40 - 1) 40)
    rw [pk_us, h2]
    refine ⟨n - 1, by omega, pk_sub hn, xv0_out h3 (by decide), fun p hp => ?_⟩
    rw [pk_un (show 4 * p + 1 ≠ 40 by omega)]
    exact h4 p (by omega)
theorem xplj {u : xU} {w : Int32} (q : ¬ s_X6_in u w.toInt64 0 3 = 0) : ∃ j : Nat, j < 4 ∧ (if w = 3 then (0 : Int32) else w + 1) = nI j := by
  have h := xplc q
  have h0 := xin32 (lo := 0) (hi := 3) q
  rw [show (3 : Int64).toInt = 3 from rfl, show (0 : Int64).toInt = 0 from rfl] at h0
  obtain ⟨j, hj, e⟩ := nI_of_toInt h.1
  refine ⟨j, ?_, e⟩
  split at e
  · rw [fa_eq, nI_toInt hj, show (0 : Int32).toInt = 0 from rfl] at e
    omega
  · rename_i q3
    rw [fa_eq, show (3 : Int32).toInt = 3 from rfl] at q3
    rw [fa_eq, nI_toInt hj, xinc (by omega)] at e
    omega
theorem xse_w {u : xU} (h : XW u) (a b c : Int32) : XW (s_X6_set u a b c).2 := by
  unfold s_X6_set
  split
  · exact h
  · rename_i q1
    split
    · exact h
    · rename_i q2
      by_cases q3 : s_X6_mayBe u (if b = 3 then 0 else b + 1) c = 0
      · rw [if_pos q3]; exact h
      · rw [if_neg q3]
        obtain ⟨j, hj, e⟩ := xplj q2
        rw [e] at q3 ⊢
        have m := xmay hj q3
        exact xwu h (xisP h q1) hj m.1 m.2
theorem xru_w {u : xU} (h : XW u) (a b : Int32) : XW (s_X6_rule_ u a b).2 := by
  unfold s_X6_rule_
  split
  · exact h
  · rename_i q1
    split
    · exact h
    · have hr := xin32 (lo := 0) (hi := 7) q1
      have hv := xrul hr.1 hr.2
      have e : 41 ≤ (41 + a).toNatClampNeg := by
        show 41 ≤ (41 + a).toInt.toNat
        rw [show (0 : Int64).toInt = 0 from rfl, show (7 : Int64).toInt = 7 from rfl] at hr
        rw [fb_addI (x := 41) (y := a) (by rw [show (41 : Int32).toInt = 41 from rfl]; omega) (by rw [show (41 : Int32).toInt = 41 from rfl]; omega), show (41 : Int32).toInt = 41 from rfl]
        omega
      show XV (upd (u.1 1) (41 + a).toNatClampNeg b) (upd (u.1 1) (41 + a).toNatClampNeg b 40)
      rw [pk_un (show 40 ≠ (41 + a).toNatClampNeg by omega)]
      obtain ⟨n, h1, h2, h3, h4⟩ := h
      refine ⟨n, h1, h2, xv0_out h3 (by omega), fun p hp => ?_⟩
      rw [pk_un (show 4 * p + 1 ≠ (41 + a).toNatClampNeg by omega)]
      exact h4 p hp
/-! ===== load: places ===== -/
theorem xldw (x k : Int32) : (x.toInt64 + (4 * k.toInt64)).toInt = x.toInt + 4 * k.toInt := by
  have h1 := fb_rng x
  have h2 := fb_rng k
  have e : (4 * k.toInt64).toInt = 4 * k.toInt := by
    rw [fb_mulL (x := 4) (y := k.toInt64) (by rw [Int32.toInt_toInt64, show (4 : Int64).toInt = 4 from rfl]; omega) (by rw [Int32.toInt_toInt64, show (4 : Int64).toInt = 4 from rfl]; omega), Int32.toInt_toInt64]
    rfl
  rw [fb_addL (by rw [Int32.toInt_toInt64, e]; omega) (by rw [Int32.toInt_toInt64, e]; omega), Int32.toInt_toInt64, e]
theorem xldf {x k z : Int32} (q7 : ¬ lg_cmp (x.toInt64 + (4 * k.toInt64)) 0 < 0) (q8 : lg_cmp ((x.toInt64 + (4 * k.toInt64)) + 4) z.toInt64 ≤ 0) (hz : z.toInt ≤ 40) : 0 ≤ (x.toInt64 + (4 * k.toInt64)).toInt32.toInt ∧ (x.toInt64 + (4 * k.toInt64)).toInt32.toInt + 4 ≤ z.toInt ∧ (x.toInt64 + (4 * k.toInt64)).toInt32.toInt = x.toInt + 4 * k.toInt := by
  have h1 := fb_rng x
  have h2 := fb_rng k
  have hf := xldw x k
  rw [lg_cmp_lt, fa_lt64, show (0 : Int64).toInt = 0 from rfl, hf] at q7
  rw [lg_cmp_le, fa_le64, Int32.toInt_toInt64, fb_addL (by rw [hf, show (4 : Int64).toInt = 4 from rfl]; omega) (by rw [hf, show (4 : Int64).toInt = 4 from rfl]; omega), hf, show (4 : Int64).toInt = 4 from rfl] at q8
  have e : (x.toInt64 + (4 * k.toInt64)).toInt32.toInt = x.toInt + 4 * k.toInt := by
    rw [Int64.toInt_toInt32, hf]
    exact fb_bmod (by omega) (by omega)
  omega
theorem xld {s x k z : Int32} (hs : XS4 s) (q7 : ¬ lg_cmp (x.toInt64 + (4 * k.toInt64)) 0 < 0) (q8 : lg_cmp ((x.toInt64 + (4 * k.toInt64)) + 4) z.toInt64 ≤ 0) (hz : z.toInt ≤ 40) : vp_in ((40 * s) + (x.toInt64 + (4 * k.toInt64)).toInt32) 160 := by
  have h := xldf q7 q8 hz
  exact xit4 hs h.1 (by omega)
theorem xldj {s x k z : Int32} (hs : XS4 s) (q7 : ¬ lg_cmp (x.toInt64 + (4 * k.toInt64)) 0 < 0) (q8 : lg_cmp ((x.toInt64 + (4 * k.toInt64)) + 4) z.toInt64 ≤ 0) (hz : z.toInt ≤ 40) {j : Int32} (h0 : 0 ≤ j.toInt) (h3 : j.toInt ≤ 3) : vp_in (((40 * s) + (x.toInt64 + (4 * k.toInt64)).toInt32) + j) 160 := by
  have h := xldf q7 q8 hz
  exact xit4b hs h.1 (by omega) (by omega) (by omega)
def s_X6_load_L64 : Nat → xU → Int32 → Int32 → Int32 → Int32 → Int32 → Int32 → Int32 × xU
  | 0, u, _, _, _, _, _, _ => (0, u)
  | n + 1, u, x1, x2, x3, x4, x5, x6 =>
    if x4 ≤ x6 then
      (x5, u)
    else
      if (lg_cmp (x3.toInt64 + (4 * x6.toInt64)) 0) < 0 then
        ((-12), u)
      else
        if (lg_cmp ((x3.toInt64 + (4 * x6.toInt64)) + 4) ((u.1 9 x1.toNatClampNeg).toInt64)) ≤ 0 then
          s_X6_load_L64 n ((s_X6_piece u (u.1 10 ((40 * x1) + ((x3.toInt64 + (4 * x6.toInt64)).toInt32)).toNatClampNeg) (u.1 10 (((40 * x1) + ((x3.toInt64 + (4 * x6.toInt64)).toInt32)) + 1).toNatClampNeg) (u.1 10 (((40 * x1) + ((x3.toInt64 + (4 * x6.toInt64)).toInt32)) + 2).toNatClampNeg) (u.1 10 (((40 * x1) + ((x3.toInt64 + (4 * x6.toInt64)).toInt32)) + 3).toNatClampNeg)).2) x1 x2 x3 x4 (x5 + (s_X6_bit ((s_X6_piece u (u.1 10 ((40 * x1) + ((x3.toInt64 + (4 * x6.toInt64)).toInt32)).toNatClampNeg) (u.1 10 (((40 * x1) + ((x3.toInt64 + (4 * x6.toInt64)).toInt32)) + 1).toNatClampNeg) (u.1 10 (((40 * x1) + ((x3.toInt64 + (4 * x6.toInt64)).toInt32)) + 2).toNatClampNeg) (u.1 10 (((40 * x1) + ((x3.toInt64 + (4 * x6.toInt64)).toInt32)) + 3).toNatClampNeg)).2) (if ((s_X6_piece u (u.1 10 ((40 * x1) + ((x3.toInt64 + (4 * x6.toInt64)).toInt32)).toNatClampNeg) (u.1 10 (((40 * x1) + ((x3.toInt64 + (4 * x6.toInt64)).toInt32)) + 1).toNatClampNeg) (u.1 10 (((40 * x1) + ((x3.toInt64 + (4 * x6.toInt64)).toInt32)) + 2).toNatClampNeg) (u.1 10 (((40 * x1) + ((x3.toInt64 + (4 * x6.toInt64)).toInt32)) + 3).toNatClampNeg)).1) < 0 then 0 else 1))) (x6 + 1)
        else
          ((-12), u)
def s_X6_load (u : xU) (p1 : Int32) (p2 : Int32) (p3 : Int32) (p4 : Int32) : Int32 × xU :=
  if (s_X6_isSheet u p1) = 0 then
    ((-2), u)
  else
    if (s_X6_in u p2.toInt64 0 1) = 0 then
      ((-2), u)
    else
      if (s_X6_in u p4.toInt64 0 10) = 0 then
        ((-2), u)
      else
        if 0 ≤ (u.1 8 p1.toNatClampNeg) then
          if (u.1 8 p1.toNatClampNeg) = p2 then
            s_X6_load_L64 ((p4.toInt - (0 : Int32).toInt).toNat + 1) u p1 p2 p3 p4 0 0
          else
            ((-13), u)
        else
          ((-11), u)
abbrev rm_X6_load : Room := { frames := 3, cells := 0, slots := 0, locals := 71 }
set_option maxHeartbeats 8000000 in
set_option maxRecDepth 100000 in
theorem c_X6_load (l : Launch) (E : xG) (a : Nat → Nat) (u : xU) (p1 : Int32) (p2 : Int32) (p3 : Int32) (p4 : Int32) (hp0 : XW u) (hp1 : XZ u) (hL : xOK E (LM a)) : xMd l E yX6_load wsX6_load rm_X6_load (LM a) [.ref (a 0), .int p1, .int p2, .int p3, .int p4] (wM E a u) (some (.int ((s_X6_load u p1 p2 p3 p4).1))) (wM E a ((s_X6_load u p1 p2 p3 p4).2)) := by
  refine xMd.of (cc := cX6_load) (maxL := 10) (ret := (some .int)) (by decide) rfl (Nat.le_of_ble_eq_true rfl) ?_
  intro p e s m below meth c ls hAt hF hP hS hl
  obtain ⟨hx, hb, hr, hml, hown, hts, hlocks, -⟩ := hAt
  have hown : s.vm.findClass RX6 = some m.cls := hown
  have hl : lv_has ls 10 [(0, .ref (a 0)), (1, .int p1), (2, .int p2), (3, .int p3), (4, .int p4)] := hl
  have hK := hF.1
  have hA := hL.2
  change W p l e rm_X6_load s m ([.ref (a 0), .int p1, .int p2, .int p3, .int p4] : List Value).toArray below meth c s.heap [] 0 0 (xQmd E below (LM a) (some (.int ((s_X6_load u p1 p2 p3 p4).1))) (wM E a ((s_X6_load u p1 p2 p3 p4).2)) ([.ref (a 0), .int p1, .int p2, .int p3, .int p4] : List Value).toArray s) _
  have hS : va_S (· ∈ LM a) s.heap s.heap [] := hS
  have hR : s_X6_load u p1 p2 p3 p4 = s_X6_load u p1 p2 p3 p4 := rfl
  refine lv_iload_n hx hb dX6_load_0 rfl (lv_at hl 1 rfl) ?_
  refine xRoS (nL := 10) ⟨hx, hb, hml, hown, hts⟩ (c_X6_isSheet l E a u p1) (va_cwS 1 hts gX6_load_X6_isSheet rfl rfl rfl hd_X6_isSheet ⟨(Nat.le_of_ble_eq_true rfl), (Nat.le_of_ble_eq_true rfl)⟩) hF hS hA hP rfl hl.1 rfl (Nat.le_of_ble_eq_true rfl) ⟨(Nat.le_of_ble_eq_true rfl), (Nat.le_of_ble_eq_true rfl)⟩ dX6_load_1 ?_
  refine W.eq (g2 := F0 m 4 ls [.int (s_X6_isSheet u p1)]) rfl ?_
  refine lv_if_eq (tgt := 30) hx hb dX6_load_4 rfl (fun q1 => ?_) (fun q1 => ?_)
  · have hR := hR.trans (if_pos q1)
    refine lv_bipush (v := (-2)) hx hb dX6_load_30 rfl ?_
    have hR : s_X6_load u p1 p2 p3 p4 = ((-2), u) := hR
    exact W.iret (v := (-2)) hx hb hr (fun t ht _ => by rw [hR]; dsimp only; exact ⟨⟨rfl, by rw [ht]; exact hP⟩, hS.F ht⟩) hS.2.2 dX6_load_32
  · have hR := hR.trans (if_neg q1)
    refine lv_iload_n hx hb dX6_load_7 rfl (lv_at hl 2 rfl) ?_
    refine lv_i2l hx hb dX6_load_8 rfl ?_
    refine lv_lconst (v := 0) hx hb dX6_load_9 rfl ?_
    refine lv_lconst (v := 1) hx hb dX6_load_10 rfl ?_
    refine xRoS (nL := 10) ⟨hx, hb, hml, hown, hts⟩ (c_X6_in l E a u p2.toInt64 0 1) (va_cwS 3 hts gX6_load_X6_in rfl rfl rfl hd_X6_in ⟨(Nat.le_of_ble_eq_true rfl), (Nat.le_of_ble_eq_true rfl)⟩) hF hS hA hP rfl hl.1 rfl (Nat.le_of_ble_eq_true rfl) ⟨(Nat.le_of_ble_eq_true rfl), (Nat.le_of_ble_eq_true rfl)⟩ dX6_load_11 ?_
    refine W.eq (g2 := F0 m 14 ls [.int (s_X6_in u p2.toInt64 0 1)]) rfl ?_
    refine lv_if_eq (tgt := 30) hx hb dX6_load_14 rfl (fun q2 => ?_) (fun q2 => ?_)
    · have hR := hR.trans (if_pos q2)
      refine lv_bipush (v := (-2)) hx hb dX6_load_30 rfl ?_
      have hR : s_X6_load u p1 p2 p3 p4 = ((-2), u) := hR
      exact W.iret (v := (-2)) hx hb hr (fun t ht _ => by rw [hR]; dsimp only; exact ⟨⟨rfl, by rw [ht]; exact hP⟩, hS.F ht⟩) hS.2.2 dX6_load_32
    · have hR := hR.trans (if_neg q2)
      refine lv_iload hx hb dX6_load_17 (lv_at hl 4 rfl) ?_
      refine lv_i2l hx hb dX6_load_19 rfl ?_
      refine lv_lconst (v := 0) hx hb dX6_load_20 rfl ?_
      refine lv_ldc2 (v := 10) hx hb hown (hts (.constantLong RX6 234 (10)) (by decide +kernel)) dX6_load_21 ?_
      refine xRoS (nL := 10) ⟨hx, hb, hml, hown, hts⟩ (c_X6_in l E a u p4.toInt64 0 10) (va_cwS 3 hts gX6_load_X6_in rfl rfl rfl hd_X6_in ⟨(Nat.le_of_ble_eq_true rfl), (Nat.le_of_ble_eq_true rfl)⟩) hF hS hA hP rfl hl.1 rfl (Nat.le_of_ble_eq_true rfl) ⟨(Nat.le_of_ble_eq_true rfl), (Nat.le_of_ble_eq_true rfl)⟩ dX6_load_24 ?_
      refine W.eq (g2 := F0 m 27 ls [.int (s_X6_in u p4.toInt64 0 10)]) rfl ?_
      refine lv_if_ne (tgt := 33) hx hb dX6_load_27 rfl (fun q3 => ?_) (fun q3 => ?_)
      · have hR := hR.trans (if_neg q3)
        refine lv_aload_n hx hb dX6_load_33 rfl (lv_at hl 0 rfl) ?_
        refine va_get (D := xD E) (ci := 6) (v := .ref (a 8)) (C := RX6) (T := TX6) (N := 28) hx hb hts (by decide +kernel) hown hK hP 0 rfl rfl 11 (by decide) (hts (.fieldLink RX6 33 "RailOffsetsModel" "sorts" "[I") (by decide +kernel)) (fun _ h => h) rfl dX6_load_34 ?_
        refine lv_iload_n hx hb dX6_load_37 rfl (lv_at hl 1 rfl) ?_
        refine va_iald hx hb hK hP 8 0 rfl rfl (xsh4 q1) dX6_load_38 ?_
        refine lv_if_ge (tgt := 45) hx hb dX6_load_39 rfl (fun q4 => ?_) (fun q4 => ?_)
        · have hR := hR.trans (if_pos q4)
          refine lv_aload_n hx hb dX6_load_45 rfl (lv_at hl 0 rfl) ?_
          refine va_get (D := xD E) (ci := 6) (v := .ref (a 8)) (C := RX6) (T := TX6) (N := 28) hx hb hts (by decide +kernel) hown hK hP 0 rfl rfl 11 (by decide) (hts (.fieldLink RX6 33 "RailOffsetsModel" "sorts" "[I") (by decide +kernel)) (fun _ h => h) rfl dX6_load_46 ?_
          refine lv_iload_n hx hb dX6_load_49 rfl (lv_at hl 1 rfl) ?_
          refine va_iald hx hb hK hP 8 0 rfl rfl (xsh4 q1) dX6_load_50 ?_
          refine lv_iload_n hx hb dX6_load_51 rfl (lv_at hl 2 rfl) ?_
          refine lv_icmp_eq (tgt := 58) hx hb dX6_load_52 rfl (fun q5 => ?_) (fun q5 => ?_)
          · have hR := hR.trans (if_pos q5)
            refine lv_iconst (v := 0) hx hb dX6_load_58 rfl ?_
            refine lv_istore (lv' := [(5, .int 0), (0, .ref (a 0)), (1, .int p1), (2, .int p2), (3, .int p3), (4, .int p4)]) hx hb dX6_load_59 hl (by decide) rfl (fun ls hl => ?_)
            refine lv_iconst (v := 0) hx hb dX6_load_61 rfl ?_
            refine lv_istore (lv' := [(6, .int 0), (5, .int 0), (0, .ref (a 0)), (1, .int p1), (2, .int p2), (3, .int p3), (4, .int p4)]) hx hb dX6_load_62 hl (by decide) rfl (fun ls hl => ?_)
            have L64 : ∀ (n64 : Nat) (u64 : xU) (x5 : Int32) (x6 : Int32) (H : Heap) (locs : List Loc) (ls : Array Slot), (XW u64) → (XZ u64) → (p4.toInt - x6.toInt).toNat < n64 → s_X6_load u p1 p2 p3 p4 = s_X6_load_L64 n64 u64 p1 p2 p3 p4 x5 x6 → lv_has ls 10 [(6, .int x6), (5, .int x5), (0, .ref (a 0)), (1, .int p1), (2, .int p2), (3, .int p3), (4, .int p4)] → va_P (xD E) vwCl (wM E a u64) H → va_S (· ∈ LM a) s.heap H locs → W p l e rm_X6_load s m ([.ref (a 0), .int p1, .int p2, .int p3, .int p4] : List Value).toArray below meth c H locs 0 0 (xQmd E below (LM a) (some (.int ((s_X6_load u p1 p2 p3 p4).1))) (wM E a ((s_X6_load u p1 p2 p3 p4).2)) ([.ref (a 0), .int p1, .int p2, .int p3, .int p4] : List Value).toArray s) (F0 m 64 ls []) := by
              intro n64
              induction n64 with
              | zero => intro u64 x5 x6 H locs ls hI0 hI1 hM64 hR hl hP hS; exact absurd hM64 (Nat.not_lt_zero _)
              | succ n64 ih64 =>
                intro u64 x5 x6 H locs ls hI0 hI1 hM64 hR hl hP hS
                refine lv_iload hx hb dX6_load_64 (lv_at hl 0 rfl) ?_
                refine lv_iload hx hb dX6_load_66 (lv_at hl 6 rfl) ?_
                refine lv_icmp_ge (tgt := 180) hx hb dX6_load_68 rfl (fun q6 => ?_) (fun q6 => ?_)
                · have hR := hR.trans (if_pos q6)
                  refine lv_iload hx hb dX6_load_180 (lv_at hl 1 rfl) ?_
                  have hR : s_X6_load u p1 p2 p3 p4 = (x5, u64) := hR
                  exact W.iret (v := x5) hx hb hr (fun t ht _ => by rw [hR]; dsimp only; exact ⟨⟨rfl, by rw [ht]; exact hP⟩, hS.F ht⟩) hS.2.2 dX6_load_182
                · have hR := hR.trans (if_neg q6)
                  refine lv_iload_n hx hb dX6_load_71 rfl (lv_at hl 5 rfl) ?_
                  refine lv_i2l hx hb dX6_load_72 rfl ?_
                  refine lv_ldc2 (v := 4) hx hb hown (hts (.constantLong RX6 137 (4)) (by decide +kernel)) dX6_load_73 ?_
                  refine lv_iload hx hb dX6_load_76 (lv_at hl 0 rfl) ?_
                  refine lv_i2l hx hb dX6_load_78 rfl ?_
                  refine lv_lmul hx hb dX6_load_79 ?_
                  refine lv_ladd hx hb dX6_load_80 ?_
                  refine lv_lstore (lv' := [(7, .long (p3.toInt64 + (4 * x6.toInt64))), (6, .int x6), (5, .int x5), (0, .ref (a 0)), (1, .int p1), (2, .int p2), (3, .int p3), (4, .int p4)]) hx hb dX6_load_81 hl (by decide) rfl (fun ls hl => ?_)
                  refine lv_lload hx hb dX6_load_83 (lv_at hl 0 rfl) ?_
                  refine lv_lconst (v := 0) hx hb dX6_load_85 rfl ?_
                  refine W.lcmp hx hb dX6_load_86 ?_
                  refine lv_if_lt (tgt := 107) hx hb dX6_load_87 rfl (fun q7 => ?_) (fun q7 => ?_)
                  · have hR := hR.trans (if_pos q7)
                    refine lv_bipush (v := (-12)) hx hb dX6_load_107 rfl ?_
                    have hR : s_X6_load u p1 p2 p3 p4 = ((-12), u64) := hR
                    exact W.iret (v := (-12)) hx hb hr (fun t ht _ => by rw [hR]; dsimp only; exact ⟨⟨rfl, by rw [ht]; exact hP⟩, hS.F ht⟩) hS.2.2 dX6_load_109
                  · have hR := hR.trans (if_neg q7)
                    refine lv_lload hx hb dX6_load_90 (lv_at hl 0 rfl) ?_
                    refine lv_ldc2 (v := 4) hx hb hown (hts (.constantLong RX6 137 (4)) (by decide +kernel)) dX6_load_92 ?_
                    refine lv_ladd hx hb dX6_load_95 ?_
                    refine lv_aload_n hx hb dX6_load_96 rfl (lv_at hl 3 rfl) ?_
                    refine va_get (D := xD E) (ci := 6) (v := .ref (a 9)) (C := RX6) (T := TX6) (N := 28) hx hb hts (by decide +kernel) hown hK hP 0 rfl rfl 12 (by decide) (hts (.fieldLink RX6 36 "RailOffsetsModel" "sizes" "[I") (by decide +kernel)) (fun _ h => h) rfl dX6_load_97 ?_
                    refine lv_iload_n hx hb dX6_load_100 rfl (lv_at hl 4 rfl) ?_
                    refine va_iald hx hb hK hP 9 0 rfl rfl (xsh4 q1) dX6_load_101 ?_
                    refine lv_i2l hx hb dX6_load_102 rfl ?_
                    refine W.lcmp hx hb dX6_load_103 ?_
                    refine lv_if_le (tgt := 110) hx hb dX6_load_104 rfl (fun q8 => ?_) (fun q8 => ?_)
                    · have hR := hR.trans (if_pos q8)
                      refine lv_bipush (v := 40) hx hb dX6_load_110 rfl ?_
                      refine lv_iload_n hx hb dX6_load_112 rfl (lv_at hl 4 rfl) ?_
                      refine lv_imul hx hb dX6_load_113 ?_
                      refine lv_lload hx hb dX6_load_114 (lv_at hl 0 rfl) ?_
                      refine lv_l2i hx hb dX6_load_116 rfl ?_
                      refine lv_iadd hx hb dX6_load_117 ?_
                      refine lv_istore (lv' := [(9, .int ((40 * p1) + ((p3.toInt64 + (4 * x6.toInt64)).toInt32))), (7, .long (p3.toInt64 + (4 * x6.toInt64))), (6, .int x6), (5, .int x5), (0, .ref (a 0)), (1, .int p1), (2, .int p2), (3, .int p3), (4, .int p4)]) hx hb dX6_load_118 hl (by decide) rfl (fun ls hl => ?_)
                      refine lv_iload hx hb dX6_load_120 (lv_at hl 3 rfl) ?_
                      refine lv_aload_n hx hb dX6_load_122 rfl (lv_at hl 4 rfl) ?_
                      refine lv_aload_n hx hb dX6_load_123 rfl (lv_at hl 4 rfl) ?_
                      refine va_get (D := xD E) (ci := 6) (v := .ref (a 10)) (C := RX6) (T := TX6) (N := 28) hx hb hts (by decide +kernel) hown hK hP 0 rfl rfl 13 (by decide) (hts (.fieldLink RX6 39 "RailOffsetsModel" "items" "[I") (by decide +kernel)) (fun _ h => h) rfl dX6_load_124 ?_
                      refine lv_iload hx hb dX6_load_127 (lv_at hl 0 rfl) ?_
                      refine va_iald hx hb hK hP 10 0 rfl rfl (xld (xsh q1) q7 q8 (xz4 hI1 (xsh q1)).2) dX6_load_129 ?_
                      refine lv_aload_n hx hb dX6_load_130 rfl (lv_at hl 4 rfl) ?_
                      refine va_get (D := xD E) (ci := 6) (v := .ref (a 10)) (C := RX6) (T := TX6) (N := 28) hx hb hts (by decide +kernel) hown hK hP 0 rfl rfl 13 (by decide) (hts (.fieldLink RX6 39 "RailOffsetsModel" "items" "[I") (by decide +kernel)) (fun _ h => h) rfl dX6_load_131 ?_
                      refine lv_iload hx hb dX6_load_134 (lv_at hl 0 rfl) ?_
                      refine lv_iconst (v := 1) hx hb dX6_load_136 rfl ?_
                      refine lv_iadd hx hb dX6_load_137 ?_
                      refine va_iald hx hb hK hP 10 0 rfl rfl (xldj (xsh q1) q7 q8 (xz4 hI1 (xsh q1)).2 (by decide) (by decide)) dX6_load_138 ?_
                      refine lv_aload_n hx hb dX6_load_139 rfl (lv_at hl 4 rfl) ?_
                      refine va_get (D := xD E) (ci := 6) (v := .ref (a 10)) (C := RX6) (T := TX6) (N := 28) hx hb hts (by decide +kernel) hown hK hP 0 rfl rfl 13 (by decide) (hts (.fieldLink RX6 39 "RailOffsetsModel" "items" "[I") (by decide +kernel)) (fun _ h => h) rfl dX6_load_140 ?_
                      refine lv_iload hx hb dX6_load_143 (lv_at hl 0 rfl) ?_
                      refine lv_iconst (v := 2) hx hb dX6_load_145 rfl ?_
                      refine lv_iadd hx hb dX6_load_146 ?_
                      refine va_iald hx hb hK hP 10 0 rfl rfl (xldj (xsh q1) q7 q8 (xz4 hI1 (xsh q1)).2 (by decide) (by decide)) dX6_load_147 ?_
                      refine lv_aload_n hx hb dX6_load_148 rfl (lv_at hl 4 rfl) ?_
                      refine va_get (D := xD E) (ci := 6) (v := .ref (a 10)) (C := RX6) (T := TX6) (N := 28) hx hb hts (by decide +kernel) hown hK hP 0 rfl rfl 13 (by decide) (hts (.fieldLink RX6 39 "RailOffsetsModel" "items" "[I") (by decide +kernel)) (fun _ h => h) rfl dX6_load_149 ?_
                      refine lv_iload hx hb dX6_load_152 (lv_at hl 0 rfl) ?_
                      refine lv_iconst (v := 3) hx hb dX6_load_154 rfl ?_
                      refine lv_iadd hx hb dX6_load_155 ?_
                      refine va_iald hx hb hK hP 10 0 rfl rfl (xldj (xsh q1) q7 q8 (xz4 hI1 (xsh q1)).2 (by decide) (by decide)) dX6_load_156 ?_
                      refine xMdV (nL := 10) ⟨hx, hb, hml, hown, hts⟩ (c_X6_piece l E a u64 (u64.1 10 ((40 * p1) + ((p3.toInt64 + (4 * x6.toInt64)).toInt32)).toNatClampNeg) (u64.1 10 (((40 * p1) + ((p3.toInt64 + (4 * x6.toInt64)).toInt32)) + 1).toNatClampNeg) (u64.1 10 (((40 * p1) + ((p3.toInt64 + (4 * x6.toInt64)).toInt32)) + 2).toNatClampNeg) (u64.1 10 (((40 * p1) + ((p3.toInt64 + (4 * x6.toInt64)).toInt32)) + 3).toNatClampNeg) (hI0) hL) (cwV 4 hts gX6_load_X6_piece rfl rfl rfl ⟨rfl, hd_X6_piece⟩ ⟨(Nat.le_of_ble_eq_true rfl), (Nat.le_of_ble_eq_true rfl)⟩) hF hS hL.2 (fun _ h => h) hP (va_recv (q := (RX6, TX6, 28)) hK hP (ci := 6) rfl (q0 := 0) rfl) rfl hl.1 rfl (Nat.le_of_ble_eq_true rfl) ⟨(Nat.le_of_ble_eq_true rfl), (Nat.le_of_ble_eq_true rfl)⟩ dX6_load_157 (fun H locs hP _ hS => ?_)
                      refine W.eq (g2 := F0 m 160 ls [.int ((s_X6_piece u64 (u64.1 10 ((40 * p1) + ((p3.toInt64 + (4 * x6.toInt64)).toInt32)).toNatClampNeg) (u64.1 10 (((40 * p1) + ((p3.toInt64 + (4 * x6.toInt64)).toInt32)) + 1).toNatClampNeg) (u64.1 10 (((40 * p1) + ((p3.toInt64 + (4 * x6.toInt64)).toInt32)) + 2).toNatClampNeg) (u64.1 10 (((40 * p1) + ((p3.toInt64 + (4 * x6.toInt64)).toInt32)) + 3).toNatClampNeg)).1), .int x5]) rfl ?_
                      have J9 : W p l e rm_X6_load s m ([.ref (a 0), .int p1, .int p2, .int p3, .int p4] : List Value).toArray below meth c H locs 0 0 (xQmd E below (LM a) (some (.int ((s_X6_load u p1 p2 p3 p4).1))) (wM E a ((s_X6_load u p1 p2 p3 p4).2)) ([.ref (a 0), .int p1, .int p2, .int p3, .int p4] : List Value).toArray s) (F0 m 168 ls [.int (if ((s_X6_piece u64 (u64.1 10 ((40 * p1) + ((p3.toInt64 + (4 * x6.toInt64)).toInt32)).toNatClampNeg) (u64.1 10 (((40 * p1) + ((p3.toInt64 + (4 * x6.toInt64)).toInt32)) + 1).toNatClampNeg) (u64.1 10 (((40 * p1) + ((p3.toInt64 + (4 * x6.toInt64)).toInt32)) + 2).toNatClampNeg) (u64.1 10 (((40 * p1) + ((p3.toInt64 + (4 * x6.toInt64)).toInt32)) + 3).toNatClampNeg)).1) < 0 then 0 else 1), .int x5]) := by
                        refine xRoS (nL := 10) ⟨hx, hb, hml, hown, hts⟩ (c_X6_bit l E a ((s_X6_piece u64 (u64.1 10 ((40 * p1) + ((p3.toInt64 + (4 * x6.toInt64)).toInt32)).toNatClampNeg) (u64.1 10 (((40 * p1) + ((p3.toInt64 + (4 * x6.toInt64)).toInt32)) + 1).toNatClampNeg) (u64.1 10 (((40 * p1) + ((p3.toInt64 + (4 * x6.toInt64)).toInt32)) + 2).toNatClampNeg) (u64.1 10 (((40 * p1) + ((p3.toInt64 + (4 * x6.toInt64)).toInt32)) + 3).toNatClampNeg)).2) (if ((s_X6_piece u64 (u64.1 10 ((40 * p1) + ((p3.toInt64 + (4 * x6.toInt64)).toInt32)).toNatClampNeg) (u64.1 10 (((40 * p1) + ((p3.toInt64 + (4 * x6.toInt64)).toInt32)) + 1).toNatClampNeg) (u64.1 10 (((40 * p1) + ((p3.toInt64 + (4 * x6.toInt64)).toInt32)) + 2).toNatClampNeg) (u64.1 10 (((40 * p1) + ((p3.toInt64 + (4 * x6.toInt64)).toInt32)) + 3).toNatClampNeg)).1) < 0 then 0 else 1)) (va_cwS 1 hts gX6_load_X6_bit rfl rfl rfl hd_X6_bit ⟨(Nat.le_of_ble_eq_true rfl), (Nat.le_of_ble_eq_true rfl)⟩) hF hS hA hP rfl hl.1 rfl (Nat.le_of_ble_eq_true rfl) ⟨(Nat.le_of_ble_eq_true rfl), (Nat.le_of_ble_eq_true rfl)⟩ dX6_load_168 ?_
                        refine W.eq (g2 := F0 m 171 ls [.int (s_X6_bit ((s_X6_piece u64 (u64.1 10 ((40 * p1) + ((p3.toInt64 + (4 * x6.toInt64)).toInt32)).toNatClampNeg) (u64.1 10 (((40 * p1) + ((p3.toInt64 + (4 * x6.toInt64)).toInt32)) + 1).toNatClampNeg) (u64.1 10 (((40 * p1) + ((p3.toInt64 + (4 * x6.toInt64)).toInt32)) + 2).toNatClampNeg) (u64.1 10 (((40 * p1) + ((p3.toInt64 + (4 * x6.toInt64)).toInt32)) + 3).toNatClampNeg)).2) (if ((s_X6_piece u64 (u64.1 10 ((40 * p1) + ((p3.toInt64 + (4 * x6.toInt64)).toInt32)).toNatClampNeg) (u64.1 10 (((40 * p1) + ((p3.toInt64 + (4 * x6.toInt64)).toInt32)) + 1).toNatClampNeg) (u64.1 10 (((40 * p1) + ((p3.toInt64 + (4 * x6.toInt64)).toInt32)) + 2).toNatClampNeg) (u64.1 10 (((40 * p1) + ((p3.toInt64 + (4 * x6.toInt64)).toInt32)) + 3).toNatClampNeg)).1) < 0 then 0 else 1)), .int x5]) rfl ?_
                        refine lv_iadd hx hb dX6_load_171 ?_
                        refine lv_istore (lv' := [(5, .int (x5 + (s_X6_bit ((s_X6_piece u64 (u64.1 10 ((40 * p1) + ((p3.toInt64 + (4 * x6.toInt64)).toInt32)).toNatClampNeg) (u64.1 10 (((40 * p1) + ((p3.toInt64 + (4 * x6.toInt64)).toInt32)) + 1).toNatClampNeg) (u64.1 10 (((40 * p1) + ((p3.toInt64 + (4 * x6.toInt64)).toInt32)) + 2).toNatClampNeg) (u64.1 10 (((40 * p1) + ((p3.toInt64 + (4 * x6.toInt64)).toInt32)) + 3).toNatClampNeg)).2) (if ((s_X6_piece u64 (u64.1 10 ((40 * p1) + ((p3.toInt64 + (4 * x6.toInt64)).toInt32)).toNatClampNeg) (u64.1 10 (((40 * p1) + ((p3.toInt64 + (4 * x6.toInt64)).toInt32)) + 1).toNatClampNeg) (u64.1 10 (((40 * p1) + ((p3.toInt64 + (4 * x6.toInt64)).toInt32)) + 2).toNatClampNeg) (u64.1 10 (((40 * p1) + ((p3.toInt64 + (4 * x6.toInt64)).toInt32)) + 3).toNatClampNeg)).1) < 0 then 0 else 1)))), (9, .int ((40 * p1) + ((p3.toInt64 + (4 * x6.toInt64)).toInt32))), (7, .long (p3.toInt64 + (4 * x6.toInt64))), (6, .int x6), (0, .ref (a 0)), (1, .int p1), (2, .int p2), (3, .int p3), (4, .int p4)]) hx hb dX6_load_172 hl (by decide) rfl (fun ls hl => ?_)
                        refine lv_iinc (k := 3) (v := x6 + 1) (lv' := [(6, .int (x6 + 1)), (5, .int (x5 + (s_X6_bit ((s_X6_piece u64 (u64.1 10 ((40 * p1) + ((p3.toInt64 + (4 * x6.toInt64)).toInt32)).toNatClampNeg) (u64.1 10 (((40 * p1) + ((p3.toInt64 + (4 * x6.toInt64)).toInt32)) + 1).toNatClampNeg) (u64.1 10 (((40 * p1) + ((p3.toInt64 + (4 * x6.toInt64)).toInt32)) + 2).toNatClampNeg) (u64.1 10 (((40 * p1) + ((p3.toInt64 + (4 * x6.toInt64)).toInt32)) + 3).toNatClampNeg)).2) (if ((s_X6_piece u64 (u64.1 10 ((40 * p1) + ((p3.toInt64 + (4 * x6.toInt64)).toInt32)).toNatClampNeg) (u64.1 10 (((40 * p1) + ((p3.toInt64 + (4 * x6.toInt64)).toInt32)) + 1).toNatClampNeg) (u64.1 10 (((40 * p1) + ((p3.toInt64 + (4 * x6.toInt64)).toInt32)) + 2).toNatClampNeg) (u64.1 10 (((40 * p1) + ((p3.toInt64 + (4 * x6.toInt64)).toInt32)) + 3).toNatClampNeg)).1) < 0 then 0 else 1)))), (9, .int ((40 * p1) + ((p3.toInt64 + (4 * x6.toInt64)).toInt32))), (7, .long (p3.toInt64 + (4 * x6.toInt64))), (0, .ref (a 0)), (1, .int p1), (2, .int p2), (3, .int p3), (4, .int p4)]) hx hb dX6_load_174 hl rfl rfl (by decide) rfl (fun ls hl => ?_)
                        refine lv_goto (tgt := 64) hx hb dX6_load_177 rfl ?_
                        exact ih64 ((s_X6_piece u64 (u64.1 10 ((40 * p1) + ((p3.toInt64 + (4 * x6.toInt64)).toInt32)).toNatClampNeg) (u64.1 10 (((40 * p1) + ((p3.toInt64 + (4 * x6.toInt64)).toInt32)) + 1).toNatClampNeg) (u64.1 10 (((40 * p1) + ((p3.toInt64 + (4 * x6.toInt64)).toInt32)) + 2).toNatClampNeg) (u64.1 10 (((40 * p1) + ((p3.toInt64 + (4 * x6.toInt64)).toInt32)) + 3).toNatClampNeg)).2) (x5 + (s_X6_bit ((s_X6_piece u64 (u64.1 10 ((40 * p1) + ((p3.toInt64 + (4 * x6.toInt64)).toInt32)).toNatClampNeg) (u64.1 10 (((40 * p1) + ((p3.toInt64 + (4 * x6.toInt64)).toInt32)) + 1).toNatClampNeg) (u64.1 10 (((40 * p1) + ((p3.toInt64 + (4 * x6.toInt64)).toInt32)) + 2).toNatClampNeg) (u64.1 10 (((40 * p1) + ((p3.toInt64 + (4 * x6.toInt64)).toInt32)) + 3).toNatClampNeg)).2) (if ((s_X6_piece u64 (u64.1 10 ((40 * p1) + ((p3.toInt64 + (4 * x6.toInt64)).toInt32)).toNatClampNeg) (u64.1 10 (((40 * p1) + ((p3.toInt64 + (4 * x6.toInt64)).toInt32)) + 1).toNatClampNeg) (u64.1 10 (((40 * p1) + ((p3.toInt64 + (4 * x6.toInt64)).toInt32)) + 2).toNatClampNeg) (u64.1 10 (((40 * p1) + ((p3.toInt64 + (4 * x6.toInt64)).toInt32)) + 3).toNatClampNeg)).1) < 0 then 0 else 1))) (x6 + 1) _ _ _ (xpc_w hI0 _ _ _ _) (hI1.k1 (xpc_k _ _ _ _ _)) (Nat.lt_of_lt_of_le (xupc q6) (Nat.le_of_lt_succ hM64)) hR (lv_sub hl [0, 1, 4, 5, 6, 7, 8] rfl) hP hS
                      refine lv_if_lt (tgt := 167) hx hb dX6_load_160 rfl (fun q10 => ?_) (fun q10 => ?_)
                      · refine lv_iconst (v := 0) hx hb dX6_load_167 rfl ?_
                        exact W.eq (congrArg (fun z => F0 m 168 ls [.int z, .int x5]) (if_pos q10).symm) J9
                      · refine lv_iconst (v := 1) hx hb dX6_load_163 rfl ?_
                        refine lv_goto (tgt := 168) hx hb dX6_load_164 rfl ?_
                        exact W.eq (congrArg (fun z => F0 m 168 ls [.int z, .int x5]) (if_neg q10).symm) J9
                    · have hR := hR.trans (if_neg q8)
                      refine lv_bipush (v := (-12)) hx hb dX6_load_107 rfl ?_
                      have hR : s_X6_load u p1 p2 p3 p4 = ((-12), u64) := hR
                      exact W.iret (v := (-12)) hx hb hr (fun t ht _ => by rw [hR]; dsimp only; exact ⟨⟨rfl, by rw [ht]; exact hP⟩, hS.F ht⟩) hS.2.2 dX6_load_109
            exact L64 ((p4.toInt - (0 : Int32).toInt).toNat + 1) u 0 0 _ _ ls (hp0) (hp1) (Nat.lt_succ_self _) hR hl hP hS
          · have hR := hR.trans (if_neg q5)
            refine lv_bipush (v := (-13)) hx hb dX6_load_55 rfl ?_
            have hR : s_X6_load u p1 p2 p3 p4 = ((-13), u) := hR
            exact W.iret (v := (-13)) hx hb hr (fun t ht _ => by rw [hR]; dsimp only; exact ⟨⟨rfl, by rw [ht]; exact hP⟩, hS.F ht⟩) hS.2.2 dX6_load_57
        · have hR := hR.trans (if_neg q4)
          refine lv_bipush (v := (-11)) hx hb dX6_load_42 rfl ?_
          have hR : s_X6_load u p1 p2 p3 p4 = ((-11), u) := hR
          exact W.iret (v := (-11)) hx hb hr (fun t ht _ => by rw [hR]; dsimp only; exact ⟨⟨rfl, by rw [ht]; exact hP⟩, hS.F ht⟩) hS.2.2 dX6_load_44
      · have hR := hR.trans (if_pos q3)
        refine lv_bipush (v := (-2)) hx hb dX6_load_30 rfl ?_
        have hR : s_X6_load u p1 p2 p3 p4 = ((-2), u) := hR
        exact W.iret (v := (-2)) hx hb hr (fun t ht _ => by rw [hR]; dsimp only; exact ⟨⟨rfl, by rw [ht]; exact hP⟩, hS.F ht⟩) hS.2.2 dX6_load_32
