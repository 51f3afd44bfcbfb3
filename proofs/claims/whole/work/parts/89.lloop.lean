/-! ===== the law's loop ===== -/
def R_law : String := "RailOffsetsLaw"
def lw_Q (_ : Array Value) (s : State) (o : Outcome) (t : State) : Prop := o = .returned (some (.int 1)) ∧ Framed s o t [] 600000 7302250
def lw_Z (below : List Frame) (a : Array Value) (s : State) : State → Prop := fun t => ∃ o, t.status = .running ∧ Ended t below o ∧ lw_Q a s o t
/-- the law's own end, with 1 on the stack, nothing written that was there before, its room as the claim has it -/
theorem lw_ret {p : Program} {l : Launch} {e : Env} {s : State} {m : MethodId} {below : List Frame} {meth : Method} {c : Code} {b : Nat} (hx : p.tables.exec = Jvm.exec) (hb : c.code = code) (hr : meth.sig.returnType = ret) (hlocks : meth.locks = false) {pc : Nat} {H : Heap} {ls : Array Slot} (hdg : decode code pc = .ok (.ireturn, 1)) : W p l e room_1 s m #[Value.ref b] below meth c H [] 600000 7302250 (lw_Z below #[Value.ref b] s) (F0 m pc ls [.int 1]) := by
  intro T hT X
  obtain ⟨fs, hret, hrun, hended, hW, hframe⟩ := X.leave (v := some (.int 1)) (hlocks := hlocks) (fun h => by rw [hr] at h; cases h)
  have hmeth' : T.vm.method? m = some meth := X.method'
  refine ⟨T.setFrames fs, ?_, .returned (some (.int 1)), hrun, hended, rfl, ⟨_, rfl⟩, hW, hframe⟩
  jvm_step X.here [X.here.top, hx, hb, hdg, hmeth', hr, ret, narrow_b1]
  (try refine ⟨rfl, ?_⟩); (try refine ⟨rfl, ?_⟩)
  first | (intro acts; rw [hret _ acts rfl rfl rfl]) | rw [hret _ _ rfl rfl rfl]
  exact Steps.refl _
section LAW3
variable {p : Program} {l : Launch} {e : Env} {s : State} {m : MethodId} {below : List Frame} {meth : Method} {c : Code} {b L : Nat} {xs : Nat → Int32} {E : xG} {a g : Nat → Nat} {u v : xU} {n : Nat} {H : Heap} {locs : List Loc} {cells slots : Nat} {Q : State → Prop} {ls : Array Slot} {i : Nat}
set_option maxHeartbeats 4000000 in
set_option maxRecDepth 100000 in
theorem lw_sw (C0 : lw_C p s m c b L xs E a g) (hz : zR u v n) (hW : lw_W E s a g u v H locs) (hi : i + 6 < L) (hl : lv_has ls 4 [(3, .int (nI i)), (0, .ref b), (1, .ref (a 0)), (2, .ref (g 0))]) (hf : cells + 0 ≤ room_1.cells ∧ slots + 0 ≤ room_1.slots) (kk : ∀ (u' v' : xU) (n' : Nat) (H1 : Heap) (locs1 : List Loc), zR u' v' n' → lw_W E s a g u' v' H1 locs1 → W p l e room_1 s m #[Value.ref b] below meth c H1 locs1 cells slots Q (F0 m 1342 ls [])) (x : Int32) : W p l e room_1 s m #[Value.ref b] below meth c H locs cells slots Q (F0 m 33 ls [.int x]) := by
  have hx := C0.1
  have hb := C0.2.1
  by_cases q0 : x = 0
  · exact lv_tableIn (tgt := 188) (off := 155) hx hb dL_law_33 (by rw [q0]; decide) (by rw [q0]; decide) (by rw [q0]; rfl) rfl (lw_case_0 C0 hz hW hi hl hf kk)
  by_cases q1 : x = 1
  · exact lv_tableIn (tgt := 241) (off := 208) hx hb dL_law_33 (by rw [q1]; decide) (by rw [q1]; decide) (by rw [q1]; rfl) rfl (lw_case_1 C0 hz hW hi hl hf kk)
  by_cases q2 : x = 2
  · exact lv_tableIn (tgt := 254) (off := 221) hx hb dL_law_33 (by rw [q2]; decide) (by rw [q2]; decide) (by rw [q2]; rfl) rfl (lw_case_2 C0 hz hW hi hl hf kk)
  by_cases q3 : x = 3
  · exact lv_tableIn (tgt := 297) (off := 264) hx hb dL_law_33 (by rw [q3]; decide) (by rw [q3]; decide) (by rw [q3]; rfl) rfl (lw_case_3 C0 hz hW hi hl hf kk)
  by_cases q4 : x = 4
  · exact lv_tableIn (tgt := 330) (off := 297) hx hb dL_law_33 (by rw [q4]; decide) (by rw [q4]; decide) (by rw [q4]; rfl) rfl (lw_case_4 C0 hz hW hi hl hf kk)
  by_cases q5 : x = 5
  · exact lv_tableIn (tgt := 363) (off := 330) hx hb dL_law_33 (by rw [q5]; decide) (by rw [q5]; decide) (by rw [q5]; rfl) rfl (lw_case_5 C0 hz hW hi hl hf kk)
  by_cases q6 : x = 6
  · exact lv_tableIn (tgt := 397) (off := 364) hx hb dL_law_33 (by rw [q6]; decide) (by rw [q6]; decide) (by rw [q6]; rfl) rfl (lw_case_6 C0 hz hW hi hl hf kk)
  by_cases q7 : x = 7
  · exact lv_tableIn (tgt := 431) (off := 398) hx hb dL_law_33 (by rw [q7]; decide) (by rw [q7]; decide) (by rw [q7]; rfl) rfl (lw_case_7 C0 hz hW hi hl hf kk)
  by_cases q8 : x = 8
  · exact lv_tableIn (tgt := 455) (off := 422) hx hb dL_law_33 (by rw [q8]; decide) (by rw [q8]; decide) (by rw [q8]; rfl) rfl (lw_case_8 C0 hz hW hi hl hf kk)
  by_cases q9 : x = 9
  · exact lv_tableIn (tgt := 488) (off := 455) hx hb dL_law_33 (by rw [q9]; decide) (by rw [q9]; decide) (by rw [q9]; rfl) rfl (lw_case_9 C0 hz hW hi hl hf kk)
  by_cases q10 : x = 10
  · exact lv_tableIn (tgt := 501) (off := 468) hx hb dL_law_33 (by rw [q10]; decide) (by rw [q10]; decide) (by rw [q10]; rfl) rfl (lw_case_10 C0 hz hW hi hl hf kk)
  by_cases q11 : x = 11
  · exact lv_tableIn (tgt := 534) (off := 501) hx hb dL_law_33 (by rw [q11]; decide) (by rw [q11]; decide) (by rw [q11]; rfl) rfl (lw_case_11 C0 hz hW hi hl hf kk)
  by_cases q12 : x = 12
  · exact lv_tableIn (tgt := 557) (off := 524) hx hb dL_law_33 (by rw [q12]; decide) (by rw [q12]; decide) (by rw [q12]; rfl) rfl (lw_case_12 C0 hz hW hi hl hf kk)
  by_cases q13 : x = 13
  · exact lv_tableIn (tgt := 580) (off := 547) hx hb dL_law_33 (by rw [q13]; decide) (by rw [q13]; decide) (by rw [q13]; rfl) rfl (lw_case_13 C0 hz hW hi hl hf kk)
  by_cases q14 : x = 14
  · exact lv_tableIn (tgt := 593) (off := 560) hx hb dL_law_33 (by rw [q14]; decide) (by rw [q14]; decide) (by rw [q14]; rfl) rfl (lw_case_14 C0 hz hW hi hl hf kk)
  by_cases q15 : x = 15
  · exact lv_tableIn (tgt := 616) (off := 583) hx hb dL_law_33 (by rw [q15]; decide) (by rw [q15]; decide) (by rw [q15]; rfl) rfl (lw_case_15 C0 hz hW hi hl hf kk)
  by_cases q16 : x = 16
  · exact lv_tableIn (tgt := 640) (off := 607) hx hb dL_law_33 (by rw [q16]; decide) (by rw [q16]; decide) (by rw [q16]; rfl) rfl (lw_case_16 C0 hz hW hi hl hf kk)
  by_cases q17 : x = 17
  · exact lv_tableIn (tgt := 663) (off := 630) hx hb dL_law_33 (by rw [q17]; decide) (by rw [q17]; decide) (by rw [q17]; rfl) rfl (lw_case_17 C0 hz hW hi hl hf kk)
  by_cases q18 : x = 18
  · exact lv_tableIn (tgt := 696) (off := 663) hx hb dL_law_33 (by rw [q18]; decide) (by rw [q18]; decide) (by rw [q18]; rfl) rfl (lw_case_18 C0 hz hW hi hl hf kk)
  by_cases q19 : x = 19
  · exact lv_tableIn (tgt := 719) (off := 686) hx hb dL_law_33 (by rw [q19]; decide) (by rw [q19]; decide) (by rw [q19]; rfl) rfl (lw_case_19 C0 hz hW hi hl hf kk)
  by_cases q20 : x = 20
  · exact lv_tableIn (tgt := 753) (off := 720) hx hb dL_law_33 (by rw [q20]; decide) (by rw [q20]; decide) (by rw [q20]; rfl) rfl (lw_case_20 C0 hz hW hi hl hf kk)
  by_cases q21 : x = 21
  · exact lv_tableIn (tgt := 787) (off := 754) hx hb dL_law_33 (by rw [q21]; decide) (by rw [q21]; decide) (by rw [q21]; rfl) rfl (lw_case_21 C0 hz hW hi hl hf kk)
  by_cases q22 : x = 22
  · exact lv_tableIn (tgt := 820) (off := 787) hx hb dL_law_33 (by rw [q22]; decide) (by rw [q22]; decide) (by rw [q22]; rfl) rfl (lw_case_22 C0 hz hW hi hl hf kk)
  by_cases q23 : x = 23
  · exact lv_tableIn (tgt := 854) (off := 821) hx hb dL_law_33 (by rw [q23]; decide) (by rw [q23]; decide) (by rw [q23]; rfl) rfl (lw_case_23 C0 hz hW hi hl hf kk)
  by_cases q24 : x = 24
  · exact lv_tableIn (tgt := 917) (off := 884) hx hb dL_law_33 (by rw [q24]; decide) (by rw [q24]; decide) (by rw [q24]; rfl) rfl (lw_case_24 C0 hz hW hi hl hf kk)
  by_cases q25 : x = 25
  · exact lv_tableIn (tgt := 960) (off := 927) hx hb dL_law_33 (by rw [q25]; decide) (by rw [q25]; decide) (by rw [q25]; rfl) rfl (lw_case_25 C0 hz hW hi hl hf kk)
  by_cases q26 : x = 26
  · exact lv_tableIn (tgt := 1003) (off := 970) hx hb dL_law_33 (by rw [q26]; decide) (by rw [q26]; decide) (by rw [q26]; rfl) rfl (lw_case_26 C0 hz hW hi hl hf kk)
  by_cases q27 : x = 27
  · exact lv_tableIn (tgt := 1078) (off := 1045) hx hb dL_law_33 (by rw [q27]; decide) (by rw [q27]; decide) (by rw [q27]; rfl) rfl (lw_case_27 C0 hz hW hi hl hf kk)
  by_cases q28 : x = 28
  · exact lv_tableIn (tgt := 1091) (off := 1058) hx hb dL_law_33 (by rw [q28]; decide) (by rw [q28]; decide) (by rw [q28]; rfl) rfl (lw_case_28 C0 hz hW hi hl hf kk)
  by_cases q29 : x = 29
  · exact lv_tableIn (tgt := 1104) (off := 1071) hx hb dL_law_33 (by rw [q29]; decide) (by rw [q29]; decide) (by rw [q29]; rfl) rfl (lw_case_29 C0 hz hW hi hl hf kk)
  by_cases q30 : x = 30
  · exact lv_tableIn (tgt := 1117) (off := 1084) hx hb dL_law_33 (by rw [q30]; decide) (by rw [q30]; decide) (by rw [q30]; rfl) rfl (lw_case_30 C0 hz hW hi hl hf kk)
  by_cases q31 : x = 31
  · exact lv_tableIn (tgt := 1170) (off := 1137) hx hb dL_law_33 (by rw [q31]; decide) (by rw [q31]; decide) (by rw [q31]; rfl) rfl (lw_case_31 C0 hz hW hi hl hf kk)
  by_cases q32 : x = 32
  · exact lv_tableIn (tgt := 1193) (off := 1160) hx hb dL_law_33 (by rw [q32]; decide) (by rw [q32]; decide) (by rw [q32]; rfl) rfl (lw_case_32 C0 hz hW hi hl hf kk)
  by_cases q33 : x = 33
  · exact lv_tableIn (tgt := 1236) (off := 1203) hx hb dL_law_33 (by rw [q33]; decide) (by rw [q33]; decide) (by rw [q33]; rfl) rfl (lw_case_33 C0 hz hW hi hl hf kk)
  by_cases q34 : x = 34
  · exact lv_tableIn (tgt := 1279) (off := 1246) hx hb dL_law_33 (by rw [q34]; decide) (by rw [q34]; decide) (by rw [q34]; rfl) rfl (lw_case_34 C0 hz hW hi hl hf kk)
  refine lv_tableOut (tgt := 1342) hx hb dL_law_33 (xsw x (fun j h1 h2 h3 => by
    have h9 : j = 0 ∨ j = 1 ∨ j = 2 ∨ j = 3 ∨ j = 4 ∨ j = 5 ∨ j = 6 ∨ j = 7 ∨ j = 8 ∨ j = 9 ∨ j = 10 ∨ j = 11 ∨ j = 12 ∨ j = 13 ∨ j = 14 ∨ j = 15 ∨ j = 16 ∨ j = 17 ∨ j = 18 ∨ j = 19 ∨ j = 20 ∨ j = 21 ∨ j = 22 ∨ j = 23 ∨ j = 24 ∨ j = 25 ∨ j = 26 ∨ j = 27 ∨ j = 28 ∨ j = 29 ∨ j = 30 ∨ j = 31 ∨ j = 32 ∨ j = 33 ∨ j = 34 := by omega
    rcases h9 with rfl | rfl | rfl | rfl | rfl | rfl | rfl | rfl | rfl | rfl | rfl | rfl | rfl | rfl | rfl | rfl | rfl | rfl | rfl | rfl | rfl | rfl | rfl | rfl | rfl | rfl | rfl | rfl | rfl | rfl | rfl | rfl | rfl | rfl | rfl
    · exact q0 (Int32.toInt_inj.mp h3)
    · exact q1 (Int32.toInt_inj.mp h3)
    · exact q2 (Int32.toInt_inj.mp h3)
    · exact q3 (Int32.toInt_inj.mp h3)
    · exact q4 (Int32.toInt_inj.mp h3)
    · exact q5 (Int32.toInt_inj.mp h3)
    · exact q6 (Int32.toInt_inj.mp h3)
    · exact q7 (Int32.toInt_inj.mp h3)
    · exact q8 (Int32.toInt_inj.mp h3)
    · exact q9 (Int32.toInt_inj.mp h3)
    · exact q10 (Int32.toInt_inj.mp h3)
    · exact q11 (Int32.toInt_inj.mp h3)
    · exact q12 (Int32.toInt_inj.mp h3)
    · exact q13 (Int32.toInt_inj.mp h3)
    · exact q14 (Int32.toInt_inj.mp h3)
    · exact q15 (Int32.toInt_inj.mp h3)
    · exact q16 (Int32.toInt_inj.mp h3)
    · exact q17 (Int32.toInt_inj.mp h3)
    · exact q18 (Int32.toInt_inj.mp h3)
    · exact q19 (Int32.toInt_inj.mp h3)
    · exact q20 (Int32.toInt_inj.mp h3)
    · exact q21 (Int32.toInt_inj.mp h3)
    · exact q22 (Int32.toInt_inj.mp h3)
    · exact q23 (Int32.toInt_inj.mp h3)
    · exact q24 (Int32.toInt_inj.mp h3)
    · exact q25 (Int32.toInt_inj.mp h3)
    · exact q26 (Int32.toInt_inj.mp h3)
    · exact q27 (Int32.toInt_inj.mp h3)
    · exact q28 (Int32.toInt_inj.mp h3)
    · exact q29 (Int32.toInt_inj.mp h3)
    · exact q30 (Int32.toInt_inj.mp h3)
    · exact q31 (Int32.toInt_inj.mp h3)
    · exact q32 (Int32.toInt_inj.mp h3)
    · exact q33 (Int32.toInt_inj.mp h3)
    · exact q34 (Int32.toInt_inj.mp h3)
    )) rfl (kk _ _ _ _ _ hz hW)
set_option maxHeartbeats 4000000 in
set_option maxRecDepth 100000 in
theorem lw_loop (C0 : lw_C p s m c b L xs E a g) (hr : meth.sig.returnType = ret) (hlocks : meth.locks = false) (hE : ∀ q, xA0 E q → s.heap.size ≤ q) (hf : cells + 0 ≤ room_1.cells ∧ slots + 0 ≤ room_1.slots) :
    ∀ (k i : Nat), L + 1 ≤ i + k → i ≤ L → ∀ (u v : xU) (n : Nat) (H : Heap) (locs : List Loc) (ls : Array Slot), zR u v n → lw_W E s a g u v H locs → lv_has ls 4 [(3, .int (nI i)), (0, .ref b), (1, .ref (a 0)), (2, .ref (g 0))] → W p l e room_1 s m #[Value.ref b] below meth c H locs cells slots (lw_Z below #[Value.ref b] s) (F0 m 18 ls []) := by
  have hx := C0.1
  have hb := C0.2.1
  have hX := C0.2.2.2.2.2.2.2.2.2.1
  have hbl := C0.2.2.2.2.2.2.2.2.2.2.1
  have hbA := C0.2.2.2.2.2.2.2.2.2.2.2.1
  have hL := C0.2.2.2.2.2.2.2.2.2.2.2.2
  intro k
  induction k with
  | zero => intro i h1 h2; exact absurd h1 (by omega)
  | succ k ih =>
    intro i h1 h2 u v n H locs ls hz hW hl
    refine lv_iload_n hx hb dL_law_18 rfl (lv_at hl 0 rfl) ?_
    refine lv_aload_n hx hb dL_law_19 rfl (lv_at hl 1 rfl) ?_
    refine va_slen hx hb hX hbl hbA hW.2.2 dL_law_20 ?_
    refine lv_bipush (v := 7) hx hb dL_law_21 rfl ?_
    refine lv_isub hx hb dL_law_23 ?_
    have e1 : (Int32.ofNat L - 7).toInt = (L : Int) - 7 := by
      have e2 : (Int32.ofNat L).toInt = (L : Int) := nI_toInt (n := L) (by omega)
      have e3 : (7 : Int32).toInt = 7 := rfl
      rw [fb_subI (by rw [e2, e3]; omega) (by rw [e2, e3]; omega), e2, e3]
    have e4 : (nI i).toInt = (i : Int) := nI_toInt (by omega)
    refine lv_icmp_gt (tgt := 1348) hx hb dL_law_24 rfl (fun q => ?_) (fun q => ?_)
    · refine lv_iconst (v := 1) hx hb dL_law_1348 rfl ?_
      refine va_forget (fun q hq => hE _ (hW.2.2.2.2 q hq)) ?_
      refine W.widen (k := 600000) (n := 7302250) hf.1 hf.2 ?_
      exact lw_ret hx hb hr hlocks dL_law_1349
    · have hi : i + 6 < L := by
        rw [fa_lt, e1, e4] at q
        omega
      refine lv_aload_n hx hb dL_law_27 rfl (lv_at hl 1 rfl) ?_
      refine lv_iload_n hx hb dL_law_28 rfl (lv_at hl 0 rfl) ?_
      refine va_sld hx hb hX hbl hbA hW.2.2 (vp_in_nI (by omega) (by omega)) dL_law_29 ?_
      refine lv_bipush (v := 63) hx hb dL_law_30 rfl ?_
      refine lv_iand hx hb dL_law_32 ?_
      refine lw_sw C0 hz hW hi hl hf (fun u' v' n' H1 locs1 hz hW => ?_) _
      have e5 : nI i + 7 = nI (i + 7) := nI_add i 7
      refine lv_iinc (k := 0) (v := nI (i + 7)) (lv' := [(3, .int (nI (i + 7))), (0, .ref b), (1, .ref (a 0)), (2, .ref (g 0))]) hx hb dL_law_1342 hl rfl e5 (by decide) rfl (fun ls hl => ?_)
      refine lv_goto (tgt := 18) hx hb dL_law_1345 rfl ?_
      exact ih (i + 7) (by omega) (by omega) u' v' n' H1 locs1 ls hz hW hl
end LAW3
