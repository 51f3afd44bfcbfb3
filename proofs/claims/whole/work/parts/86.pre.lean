/-! ===== what the contracts ask, out of the relation ===== -/
theorem zR.zS {u v : xU} {n : Nat} (h : zR u v n) : (u.2 3).toInt < 2147483647 := by
  have h1 := zpS_200 h.g
  rw [h.2.1.1, nI_toInt (by omega)]
  omega
theorem zR.zW {u v : xU} {n : Nat} (h : zR u v n) : XW v := by
  show XV (v.1 1) (v.1 1 40)
  rw [h.M]
  exact (h.g.cong h.1.1.2.2.2.1).xv
theorem zR.zC {u v : xU} {n : Nat} (h : zR u v n) : ∀ k, k < 4 → 0 ≤ (u.2 (8 + k)).toInt ∧ (u.2 (8 + k)).toInt ≤ 40 := fun _ hk => (h.sh hk).2.2.1
theorem zR.zZ {u v : xU} {n : Nat} (h : zR u v n) : XZ v := fun k hk => by
  rw [(h.sh hk).2.1]
  exact (h.sh hk).2.2.1
theorem zR.zT {u v : xU} {n : Nat} (h : zR u v n) : XTS v := by
  obtain ⟨h1, h2, -⟩ := h.1.2.2.2.2.1
  unfold XTS
  rw [h1]
  exact h2
theorem zR.zTs {u v : xU} {n : Nat} (h : zR u v n) : XTs v := ⟨h.1.2.2.2.2.2.2.2, h.zT⟩
theorem zR.zK {u v : xU} {n : Nat} (h : zR u v n) : ¬ u.2 0 = 0 → XV (u.1 4) (u.2 2) := fun h0 => by
  rcases h.1.2.2.1 with ⟨h1, -⟩ | ⟨-, -, m, hm⟩
  · exact absurd h1 h0
  · rw [hm.2.1]
    exact hm.1.xv
/-- least, of what is no piece -/
theorem c_X5_leastN (l : Launch) (E : xG) (a : Nat → Nat) (u : xU) (p1 : Int32) (h0 : s_X2_has u p1 = 0) (hL : xOK E (LX a)) : xMd l E yX5_least wsX5_least rm_X5_least (LX a) [.ref (a 0), .int p1] (wX E a u) (some (.int ((s_X5_least u p1).1))) (wX E a ((s_X5_least u p1).2)) := by
  refine xMd.of (cc := cX5_least) (maxL := 5) (ret := (some .int)) (by decide) rfl (Nat.le_of_ble_eq_true rfl) ?_
  intro p e s m below meth c ls hAt hF hP hS hl
  obtain ⟨hx, hb, hr, hml, hown, hts, hlocks, -⟩ := hAt
  have hown : s.vm.findClass RX5 = some m.cls := hown
  have hl : lv_has ls 5 [(0, .ref (a 0)), (1, .int p1)] := hl
  have hK := hF.1
  have hA := hL.2
  change W p l e rm_X5_least s m ([.ref (a 0), .int p1] : List Value).toArray below meth c s.heap [] 0 0 (xQmd E below (LX a) (some (.int ((s_X5_least u p1).1))) (wX E a ((s_X5_least u p1).2)) ([.ref (a 0), .int p1] : List Value).toArray s) _
  have hS : va_S (· ∈ LX a) s.heap s.heap [] := hS
  have hR : s_X5_least u p1 = ((-2), u) := if_pos h0
  refine lv_aload_n hx hb dX5_least_0 rfl (lv_at hl 0 rfl) ?_
  refine va_get (D := xD E) (ci := 5) (v := .ref (a 1)) (C := RX5) (T := TX5) (N := 9) hx hb hts (by decide +kernel) hown hK hP 0 rfl rfl 0 (by decide) (hts (.fieldLink RX5 12 "RailOffsets" "pieces" "LRailOffsets$Pieces;") (by decide +kernel)) (fun _ h => h) rfl dX5_least_1 ?_
  refine lv_iload_n hx hb dX5_least_4 rfl (lv_at hl 1 rfl) ?_
  refine xRoV (nL := 5) ⟨hx, hb, hml, hown, hts⟩ (c_X2_has l E a u p1) (cwV 1 hts gX5_least_X2_has rfl rfl rfl ⟨rfl, hd_X2_has⟩ ⟨(Nat.le_of_ble_eq_true rfl), (Nat.le_of_ble_eq_true rfl)⟩) hF hS hA hP (va_recv (q := (RX2, TX2, 2)) hK hP (ci := 2) rfl (q0 := 1) rfl) rfl hl.1 rfl (Nat.le_of_ble_eq_true rfl) ⟨(Nat.le_of_ble_eq_true rfl), (Nat.le_of_ble_eq_true rfl)⟩ dX5_least_5 ?_
  refine W.eq (g2 := F0 m 8 ls [.int (s_X2_has u p1)]) rfl ?_
  refine lv_if_ne (tgt := 14) hx hb dX5_least_8 rfl (fun q1 => absurd h0 q1) (fun q1 => ?_)
  refine lv_bipush (v := (-2)) hx hb dX5_least_11 rfl ?_
  exact W.iret (v := (-2)) hx hb hr (fun t ht _ => by rw [hR]; dsimp only; exact ⟨⟨rfl, by rw [ht]; exact hP⟩, hS.F ht⟩) hS.2.2 dX5_least_13
theorem zR.zL {u v : xU} {n : Nat} (h : zR u v n) (l : Launch) (E : xG) (a : Nat → Nat) (p1 : Int32) (hL : xOK E (LX a)) : xMd l E yX5_least wsX5_least rm_X5_least (LX a) [.ref (a 0), .int p1] (wX E a u) (some (.int ((s_X5_least u p1).1))) (wX E a ((s_X5_least u p1).2)) := by
  by_cases h0 : s_X2_has u p1 = 0
  · exact c_X5_leastN l E a u p1 h0 hL
  · refine c_X5_least l E a u p1 h.xv ?_ hL
    have h10 := h.n10
    have h200 := zpS_200 h.g
    have hp : ∃ p : Nat, p < n ∧ p1 = nI p := by
      unfold s_X2_has at h0
      rw [h.N] at h0
      rcases pk_ix p1 (show n < 2 ^ 31 by omega) with q | q | ⟨j, hj, rfl⟩
      · exact absurd (if_pos q) h0
      · exact absurd (by rw [if_pos q, ite_self]) h0
      · exact ⟨j, hj, rfl⟩
    obtain ⟨p, hp, rfl⟩ := hp
    rw [h.lst hp]
    have h1 := zpS_in (f := u.1 2) hp

    rw [nI_toInt (by omega)]
    omega
