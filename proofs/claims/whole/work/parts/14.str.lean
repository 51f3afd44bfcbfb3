/-! ===== the JDK's own members, over the literals ===== -/
def s_str_length (k : Nat) : Int32 := nI (xTxL.getD k 0)
def s_str_charAt (k : Nat) (i : Int32) : Int32 := (((xTxB.getD k []).getD i.toNatClampNeg 0 &&& 255).toUInt32 % 65536).toInt32
theorem hd_J0c : yJ0_coder_7d493.cls ≠ "java/lang/invoke/MethodHandle" ∧ yJ0_coder_7d493.cls ≠ "java/lang/invoke/VarHandle" ∧ (parseMethodDescriptor yJ0_coder_7d493.desc).map (fun d => d.parameters.length) = some 0 := by decide +kernel
theorem hd_J0i : yJ0_isLatin1_aae02.cls ≠ "java/lang/invoke/MethodHandle" ∧ yJ0_isLatin1_aae02.cls ≠ "java/lang/invoke/VarHandle" ∧ (parseMethodDescriptor yJ0_isLatin1_aae02.desc).map (fun d => d.parameters.length) = some 0 := by decide +kernel
theorem hd_J1c : yJ1_charAt_3b067.cls ≠ "java/lang/invoke/MethodHandle" ∧ yJ1_charAt_3b067.cls ≠ "java/lang/invoke/VarHandle" ∧ (parseMethodDescriptor yJ1_charAt_3b067.desc).map (fun d => d.parameters.length) = some 2 := by decide +kernel
theorem hd_J0k : yJ0_checkIndex_df160.cls ≠ "java/lang/invoke/MethodHandle" ∧ yJ0_checkIndex_df160.cls ≠ "java/lang/invoke/VarHandle" ∧ (parseMethodDescriptor yJ0_checkIndex_df160.desc).map (fun d => d.parameters.length) = some 2 := by decide +kernel
theorem hd_J3k : yJ3_checkIndex_8e157.cls ≠ "java/lang/invoke/MethodHandle" ∧ yJ3_checkIndex_8e157.cls ≠ "java/lang/invoke/VarHandle" ∧ (parseMethodDescriptor yJ3_checkIndex_8e157.desc).map (fun d => d.parameters.length) = some 3 := by decide +kernel
theorem xstrRecv {E : xG} {s : State} {H : Heap} {locs : List Loc} {A : Nat → Prop} {k : Nat} (hF : xF E s) (hS : va_S A s.heap H locs) (hA : ∀ q, A q → xA0 E q) (hk : k < 5) : ∃ cellB : Cell, H[xaK E k]? = some cellB ∧ cellB.vm.isStatics = false ∧ s.vm.findClass RJ0 = some cellB.cls := by
  obtain ⟨cell, h1, h2, h3, h4⟩ := (hF.2.2.2.1.1 k hk).1
  exact ⟨cell, by rw [hS.2.1 _ (Array.getElem?_eq_some_iff.mp h1).1 (fun z => h4 (hA _ z))]; exact h1, h2, h3⟩
theorem sc_nc2 (x : Int32) : narrow .char (.int ((x &&& 255).toUInt32 % 65536).toInt32) = .int ((x &&& 255).toUInt32 % 65536).toInt32 := pk_nc (x &&& 255)
abbrev rm_J3_checkIndex_8e157 : Room := { frames := 0, cells := 0, slots := 0, locals := 0 }
set_option maxHeartbeats 8000000 in
set_option maxRecDepth 100000 in
theorem c_J3_checkIndex_n (l : Launch) (E : xG) (i n : Int32) (h0 : ¬ i < 0) (h1 : i < n) : xRo l E yJ3_checkIndex_8e157 wsJ3_checkIndex_8e157 rm_J3_checkIndex_8e157 [.int i, .int n, .null] [] (some (.int (i))) := by
  refine xRo.of (cc := cJ3_checkIndex_8e157) (maxL := 3) (ret := (some .int)) (by decide) rfl (Nat.le_of_ble_eq_true rfl) ?_
  intro p e s m below meth c ls hAt hF hP hS hl
  obtain ⟨hx, hb, hr, hml, hown, hts, hlocks, -⟩ := hAt
  have hown : s.vm.findClass RJ3 = some m.cls := hown
  have hl : lv_has ls 3 [(0, .int i), (1, .int n), (2, .null)] := hl
  have hK := hF.1
  have hA : ∀ q : Nat, (fun _ => False) q → xA0 E q := fun _ h => h.elim
  change W p l e rm_J3_checkIndex_8e157 s m ([.int i, .int n, .null] : List Value).toArray below meth c s.heap [] 0 0 (xQro below (some (.int (i))) ([.int i, .int n, .null] : List Value).toArray s) _
  refine lv_iload_n hx hb dJ3_checkIndex_8e157_0 rfl (lv_at hl 0 rfl) ?_
  refine lv_if_lt (tgt := 9) hx hb dJ3_checkIndex_8e157_1 rfl (fun q1 => absurd q1 h0) (fun _ => ?_)
  refine lv_iload_n hx hb dJ3_checkIndex_8e157_4 rfl (lv_at hl 0 rfl) ?_
  refine lv_iload_n hx hb dJ3_checkIndex_8e157_5 rfl (lv_at hl 1 rfl) ?_
  refine lv_icmp_lt (tgt := 16) hx hb dJ3_checkIndex_8e157_6 rfl (fun _ => ?_) (fun q1 => absurd h1 q1)
  refine lv_iload_n hx hb dJ3_checkIndex_8e157_16 rfl (lv_at hl 0 rfl) ?_
  exact W.iret (v := i) hx hb hr (fun t ht _ => ⟨congrArg (fun z => Outcome.returned (some (Value.int z))) (rfl), ht⟩) (fun _ h => by cases h) dJ3_checkIndex_8e157_17
set_option maxHeartbeats 8000000 in
set_option maxRecDepth 100000 in
theorem c_J3_checkIndex_r (l : Launch) (E : xG) (q : Nat) (i n : Int32) (h0 : ¬ i < 0) (h1 : i < n) : xRo l E yJ3_checkIndex_8e157 wsJ3_checkIndex_8e157 rm_J3_checkIndex_8e157 [.int i, .int n, .ref q] [] (some (.int (i))) := by
  refine xRo.of (cc := cJ3_checkIndex_8e157) (maxL := 3) (ret := (some .int)) (by decide) rfl (Nat.le_of_ble_eq_true rfl) ?_
  intro p e s m below meth c ls hAt hF hP hS hl
  obtain ⟨hx, hb, hr, hml, hown, hts, hlocks, -⟩ := hAt
  have hown : s.vm.findClass RJ3 = some m.cls := hown
  have hl : lv_has ls 3 [(0, .int i), (1, .int n), (2, .ref q)] := hl
  have hK := hF.1
  have hA : ∀ q : Nat, (fun _ => False) q → xA0 E q := fun _ h => h.elim
  change W p l e rm_J3_checkIndex_8e157 s m ([.int i, .int n, .ref q] : List Value).toArray below meth c s.heap [] 0 0 (xQro below (some (.int (i))) ([.int i, .int n, .ref q] : List Value).toArray s) _
  refine lv_iload_n hx hb dJ3_checkIndex_8e157_0 rfl (lv_at hl 0 rfl) ?_
  refine lv_if_lt (tgt := 9) hx hb dJ3_checkIndex_8e157_1 rfl (fun q1 => absurd q1 h0) (fun _ => ?_)
  refine lv_iload_n hx hb dJ3_checkIndex_8e157_4 rfl (lv_at hl 0 rfl) ?_
  refine lv_iload_n hx hb dJ3_checkIndex_8e157_5 rfl (lv_at hl 1 rfl) ?_
  refine lv_icmp_lt (tgt := 16) hx hb dJ3_checkIndex_8e157_6 rfl (fun _ => ?_) (fun q1 => absurd h1 q1)
  refine lv_iload_n hx hb dJ3_checkIndex_8e157_16 rfl (lv_at hl 0 rfl) ?_
  exact W.iret (v := i) hx hb hr (fun t ht _ => ⟨congrArg (fun z => Outcome.returned (some (Value.int z))) (rfl), ht⟩) (fun _ h => by cases h) dJ3_checkIndex_8e157_17
abbrev rm_J0_checkIndex_df160 : Room := { frames := 1, cells := 0, slots := 0, locals := 22 }
set_option maxHeartbeats 8000000 in
set_option maxRecDepth 100000 in
theorem c_J0_checkIndex (l : Launch) (E : xG) (i n : Int32) (h0 : ¬ i < 0) (h1 : i < n) : xRo l E yJ0_checkIndex_df160 wsJ0_checkIndex_df160 rm_J0_checkIndex_df160 [.int i, .int n] [] (none) := by
  refine xRo.of (cc := cJ0_checkIndex_df160) (maxL := 2) (ret := none) (by decide) rfl (Nat.le_of_ble_eq_true rfl) ?_
  intro p e s m below meth c ls hAt hF hP hS hl
  obtain ⟨hx, hb, hr, hml, hown, hts, hlocks, -⟩ := hAt
  have hown : s.vm.findClass RJ0 = some m.cls := hown
  have hl : lv_has ls 2 [(0, .int i), (1, .int n)] := hl
  have hK := hF.1
  have hA : ∀ q : Nat, (fun _ => False) q → xA0 E q := fun _ h => h.elim
  change W p l e rm_J0_checkIndex_df160 s m ([.int i, .int n] : List Value).toArray below meth c s.heap [] 0 0 (xQro below (none) ([.int i, .int n] : List Value).toArray s) _
  refine lv_iload_n hx hb dJ0_checkIndex_df160_0 rfl (lv_at hl 0 rfl) ?_
  refine lv_iload_n hx hb dJ0_checkIndex_df160_1 rfl (lv_at hl 1 rfl) ?_
  rcases (hF.2.2.2.2.2.2.narrow hA) with hz | ⟨q, hz⟩
  · refine va_gets (C := "jdk/internal/util/Preconditions") hx hb hz hS hown (hts (.fieldLink RJ0 1053 "jdk/internal/util/Preconditions" "SIOOBE_FORMATTER" "Ljava/util/function/BiFunction;") (by decide +kernel)) (fun _ h => h) dJ0_checkIndex_df160_2 ?_
    refine xRoS (nL := 2) ⟨hx, hb, hml, hown, hts⟩ (c_J3_checkIndex_n l E i n h0 h1) (va_cwS 3 hts gJ0_checkIndex_df160_J3_checkIndex_8e157 rfl rfl rfl hd_J3k ⟨(Nat.le_of_ble_eq_true rfl), (Nat.le_of_ble_eq_true rfl)⟩) hF hS hA (hP.sub [] rfl) rfl hl.1 rfl (Nat.le_of_ble_eq_true rfl) ⟨(Nat.le_of_ble_eq_true rfl), (Nat.le_of_ble_eq_true rfl)⟩ dJ0_checkIndex_df160_5 ?_
    refine W.eq (g2 := F0 m 8 ls [.int i]) rfl ?_
    refine lv_pop hx hb dJ0_checkIndex_df160_8 rfl ?_
    exact W.vret hx hb hr (fun t ht _ => ⟨rfl, ht⟩) (fun _ h => by cases h) dJ0_checkIndex_df160_9
  · refine va_gets (C := "jdk/internal/util/Preconditions") hx hb hz hS hown (hts (.fieldLink RJ0 1053 "jdk/internal/util/Preconditions" "SIOOBE_FORMATTER" "Ljava/util/function/BiFunction;") (by decide +kernel)) (fun _ h => h) dJ0_checkIndex_df160_2 ?_
    refine xRoS (nL := 2) ⟨hx, hb, hml, hown, hts⟩ (c_J3_checkIndex_r l E q i n h0 h1) (va_cwS 3 hts gJ0_checkIndex_df160_J3_checkIndex_8e157 rfl rfl rfl hd_J3k ⟨(Nat.le_of_ble_eq_true rfl), (Nat.le_of_ble_eq_true rfl)⟩) hF hS hA (hP.sub [] rfl) rfl hl.1 rfl (Nat.le_of_ble_eq_true rfl) ⟨(Nat.le_of_ble_eq_true rfl), (Nat.le_of_ble_eq_true rfl)⟩ dJ0_checkIndex_df160_5 ?_
    refine W.eq (g2 := F0 m 8 ls [.int i]) rfl ?_
    refine lv_pop hx hb dJ0_checkIndex_df160_8 rfl ?_
    exact W.vret hx hb hr (fun t ht _ => ⟨rfl, ht⟩) (fun _ h => by cases h) dJ0_checkIndex_df160_9
abbrev rm_J1_charAt_3b067 : Room := { frames := 2, cells := 0, slots := 0, locals := 43 }
set_option maxHeartbeats 8000000 in
set_option maxRecDepth 100000 in
theorem c_J1_charAt (l : Launch) (E : xG) (k : Nat) (hk : k < 5) (i : Int32) (h0 : ¬ i < 0) (h1 : i < s_str_length k) : xRo l E yJ1_charAt_3b067 wsJ1_charAt_3b067 rm_J1_charAt_3b067 [.ref (xaV E k), .int i] [] (some (.int (s_str_charAt k i))) := by
  refine xRo.of (cc := cJ1_charAt_3b067) (maxL := 2) (ret := (some .char)) (by decide) rfl (Nat.le_of_ble_eq_true rfl) ?_
  intro p e s m below meth c ls hAt hF hP hS hl
  obtain ⟨hx, hb, hr, hml, hown, hts, hlocks, -⟩ := hAt
  have hown : s.vm.findClass RJ1 = some m.cls := hown
  have hl : lv_has ls 2 [(0, .ref (xaV E k)), (1, .int i)] := hl
  have hK := hF.1
  have hA : ∀ q : Nat, (fun _ => False) q → xA0 E q := fun _ h => h.elim
  change W p l e rm_J1_charAt_3b067 s m ([.ref (xaV E k), .int i] : List Value).toArray below meth c s.heap [] 0 0 (xQro below (some (.int (s_str_charAt k i))) ([.ref (xaV E k), .int i] : List Value).toArray s) _
  have hlen : xTxL.getD k 0 < 2 ^ 31 := by
    have h5 : k = 0 ∨ k = 1 ∨ k = 2 ∨ k = 3 ∨ k = 4 := by omega
    rcases h5 with rfl | rfl | rfl | rfl | rfl <;> decide
  refine lv_iload_n hx hb dJ1_charAt_3b067_0 rfl (lv_at hl 1 rfl) ?_
  refine lv_aload_n hx hb dJ1_charAt_3b067_1 rfl (lv_at hl 0 rfl) ?_
  refine va_tlen (v := s_str_length k) hx hb ((hF.2.2.2.1.1 k hk).2.2.2.narrow hA) hS rfl dJ1_charAt_3b067_2 ?_
  refine xRoS (nL := 2) ⟨hx, hb, hml, hown, hts⟩ (c_J0_checkIndex l E i (s_str_length k) h0 h1) (va_cwS 2 hts gJ1_charAt_3b067_J0_checkIndex_df160 rfl rfl rfl hd_J0k ⟨(Nat.le_of_ble_eq_true rfl), (Nat.le_of_ble_eq_true rfl)⟩) hF hS hA (hP.sub [] rfl) rfl hl.1 rfl (Nat.le_of_ble_eq_true rfl) ⟨(Nat.le_of_ble_eq_true rfl), (Nat.le_of_ble_eq_true rfl)⟩ dJ1_charAt_3b067_3 ?_
  refine W.eq (g2 := F0 m 6 ls []) rfl ?_
  refine lv_aload_n hx hb dJ1_charAt_3b067_6 rfl (lv_at hl 0 rfl) ?_
  refine lv_iload_n hx hb dJ1_charAt_3b067_7 rfl (lv_at hl 1 rfl) ?_
  refine va_tb (v := .int ((xTxB.getD k []).getD i.toNatClampNeg 0)) hx hb ((hF.2.2.2.1.1 k hk).2.2.2.narrow hA) hS (xin_of hlen h0 (fun z => absurd h1 (Int32.not_lt.mpr z))) rfl dJ1_charAt_3b067_8 ?_
  refine lv_sipush (v := 255) hx hb dJ1_charAt_3b067_9 rfl ?_
  refine lv_iand hx hb dJ1_charAt_3b067_12 ?_
  refine lv_i2c (v := s_str_charAt k i) hx hb dJ1_charAt_3b067_13 rfl ?_
  exact W.zret (v := s_str_charAt k i) (ty := .char) hx hb hr (sc_nc2 _) (fun t ht _ => ⟨congrArg (fun z => Outcome.returned (some (Value.int z))) (rfl), ht⟩) (fun _ h => by cases h) dJ1_charAt_3b067_14
abbrev rm_J0_coder_7d493 : Room := { frames := 0, cells := 0, slots := 0, locals := 0 }
set_option maxHeartbeats 8000000 in
set_option maxRecDepth 100000 in
theorem c_J0_coder (l : Launch) (E : xG) (k : Nat) (hk : k < 5) : xRo l E yJ0_coder_7d493 wsJ0_coder_7d493 rm_J0_coder_7d493 [.ref (xaK E k)] [] (some (.int (0))) := by
  refine xRo.of (cc := cJ0_coder_7d493) (maxL := 1) (ret := (some .byte)) (by decide) rfl (Nat.le_of_ble_eq_true rfl) ?_
  intro p e s m below meth c ls hAt hF hP hS hl
  obtain ⟨hx, hb, hr, hml, hown, hts, hlocks, -⟩ := hAt
  have hown : s.vm.findClass RJ0 = some m.cls := hown
  have hl : lv_has ls 1 [(0, .ref (xaK E k))] := hl
  have hK := hF.1
  have hA : ∀ q : Nat, (fun _ => False) q → xA0 E q := fun _ h => h.elim
  change W p l e rm_J0_coder_7d493 s m ([.ref (xaK E k)] : List Value).toArray below meth c s.heap [] 0 0 (xQro below (some (.int (0))) ([.ref (xaK E k)] : List Value).toArray s) _
  refine va_gets (C := "java/lang/String") hx hb (hF.2.2.2.2.2.1.narrow hA) hS hown (hts (.fieldLink RJ0 38 "java/lang/String" "COMPACT_STRINGS" "Z") (by decide +kernel)) (fun _ h => h) dJ0_coder_7d493_0 ?_
  refine lv_if_eq (tgt := 13) hx hb dJ0_coder_7d493_3 rfl (fun q1 => absurd q1 (by decide)) (fun _ => ?_)
  refine lv_aload_n hx hb dJ0_coder_7d493_6 rfl (lv_at hl 0 rfl) ?_
  refine (va_getX (i := k) (N := 5) (v := fun _ => .int 0) (ad := xaK E) hx hb (fun i hi => ((hF.2.2.2.1.1 i hi).2.1).narrow hA) hk hS hown (hts (.fieldLink RJ0 15 "java/lang/String" "coder" "B") (by decide +kernel)) (fun _ h => h) dJ0_coder_7d493_7 ?_)
  refine lv_goto (tgt := 14) hx hb dJ0_coder_7d493_10 rfl ?_
  exact W.zret (v := 0) (ty := .byte) hx hb hr (rfl) (fun t ht _ => ⟨congrArg (fun z => Outcome.returned (some (Value.int z))) (rfl), ht⟩) (fun _ h => by cases h) dJ0_coder_7d493_14
abbrev rm_J0_isLatin1_aae02 : Room := { frames := 0, cells := 0, slots := 0, locals := 0 }
set_option maxHeartbeats 8000000 in
set_option maxRecDepth 100000 in
theorem c_J0_isLatin1 (l : Launch) (E : xG) (k : Nat) (hk : k < 5) : xRo l E yJ0_isLatin1_aae02 wsJ0_isLatin1_aae02 rm_J0_isLatin1_aae02 [.ref (xaK E k)] [] (some (.int (1))) := by
  refine xRo.of (cc := cJ0_isLatin1_aae02) (maxL := 1) (ret := (some .boolean)) (by decide) rfl (Nat.le_of_ble_eq_true rfl) ?_
  intro p e s m below meth c ls hAt hF hP hS hl
  obtain ⟨hx, hb, hr, hml, hown, hts, hlocks, -⟩ := hAt
  have hown : s.vm.findClass RJ0 = some m.cls := hown
  have hl : lv_has ls 1 [(0, .ref (xaK E k))] := hl
  have hK := hF.1
  have hA : ∀ q : Nat, (fun _ => False) q → xA0 E q := fun _ h => h.elim
  change W p l e rm_J0_isLatin1_aae02 s m ([.ref (xaK E k)] : List Value).toArray below meth c s.heap [] 0 0 (xQro below (some (.int (1))) ([.ref (xaK E k)] : List Value).toArray s) _
  refine va_gets (C := "java/lang/String") hx hb (hF.2.2.2.2.2.1.narrow hA) hS hown (hts (.fieldLink RJ0 38 "java/lang/String" "COMPACT_STRINGS" "Z") (by decide +kernel)) (fun _ h => h) dJ0_isLatin1_aae02_0 ?_
  refine lv_if_eq (tgt := 17) hx hb dJ0_isLatin1_aae02_3 rfl (fun q1 => absurd q1 (by decide)) (fun _ => ?_)
  refine lv_aload_n hx hb dJ0_isLatin1_aae02_6 rfl (lv_at hl 0 rfl) ?_
  refine (va_getX (i := k) (N := 5) (v := fun _ => .int 0) (ad := xaK E) hx hb (fun i hi => ((hF.2.2.2.1.1 i hi).2.1).narrow hA) hk hS hown (hts (.fieldLink RJ0 15 "java/lang/String" "coder" "B") (by decide +kernel)) (fun _ h => h) dJ0_isLatin1_aae02_7 ?_)
  refine lv_if_ne (tgt := 17) hx hb dJ0_isLatin1_aae02_10 rfl (fun q1 => absurd rfl q1) (fun _ => ?_)
  refine lv_iconst (v := 1) hx hb dJ0_isLatin1_aae02_13 rfl ?_
  refine lv_goto (tgt := 18) hx hb dJ0_isLatin1_aae02_14 rfl ?_
  exact W.zret (v := 1) (ty := .boolean) hx hb hr (rfl) (fun t ht _ => ⟨congrArg (fun z => Outcome.returned (some (Value.int z))) (rfl), ht⟩) (fun _ h => by cases h) dJ0_isLatin1_aae02_18
abbrev rm_J0_length_8abf5 : Room := { frames := 1, cells := 0, slots := 0, locals := 20 }
set_option maxHeartbeats 8000000 in
set_option maxRecDepth 100000 in
theorem c_str_length (l : Launch) (E : xG) (k : Nat) (hk : k < 5) : xRo l E yJ0_length_8abf5 wsJ0_length_8abf5 rm_J0_length_8abf5 [.ref (xaK E k)] [] (some (.int (s_str_length k))) := by
  refine xRo.of (cc := cJ0_length_8abf5) (maxL := 1) (ret := (some .int)) (by decide) rfl (Nat.le_of_ble_eq_true rfl) ?_
  intro p e s m below meth c ls hAt hF hP hS hl
  obtain ⟨hx, hb, hr, hml, hown, hts, hlocks, -⟩ := hAt
  have hown : s.vm.findClass RJ0 = some m.cls := hown
  have hl : lv_has ls 1 [(0, .ref (xaK E k))] := hl
  have hK := hF.1
  have hA : ∀ q : Nat, (fun _ => False) q → xA0 E q := fun _ h => h.elim
  change W p l e rm_J0_length_8abf5 s m ([.ref (xaK E k)] : List Value).toArray below meth c s.heap [] 0 0 (xQro below (some (.int (s_str_length k))) ([.ref (xaK E k)] : List Value).toArray s) _
  refine lv_aload_n hx hb dJ0_length_8abf5_0 rfl (lv_at hl 0 rfl) ?_
  refine (va_getX (i := k) (N := 5) (v := fun i => .ref (xaV E i)) (ad := xaK E) hx hb (fun i hi => ((hF.2.2.2.1.1 i hi).2.2.1).narrow hA) hk hS hown (hts (.fieldLink RJ0 9 "java/lang/String" "value" "[B") (by decide +kernel)) (fun _ h => h) dJ0_length_8abf5_1 ?_)
  refine va_tlen (v := s_str_length k) hx hb ((hF.2.2.2.1.1 k hk).2.2.2.narrow hA) hS rfl dJ0_length_8abf5_4 ?_
  refine lv_aload_n hx hb dJ0_length_8abf5_5 rfl (lv_at hl 0 rfl) ?_
  refine xRoV (nL := 1) ⟨hx, hb, hml, hown, hts⟩ (c_J0_coder l E k hk) (cwV 0 hts gJ0_length_8abf5_J0_coder_7d493 rfl rfl rfl ⟨rfl, hd_J0c⟩ ⟨(Nat.le_of_ble_eq_true rfl), (Nat.le_of_ble_eq_true rfl)⟩) hF hS hA (hP.sub [] rfl) (xstrRecv hF hS hA hk) rfl hl.1 rfl (Nat.le_of_ble_eq_true rfl) ⟨(Nat.le_of_ble_eq_true rfl), (Nat.le_of_ble_eq_true rfl)⟩ dJ0_length_8abf5_6 ?_
  refine W.eq (g2 := F0 m 9 ls [.int 0, .int (s_str_length k)]) rfl ?_
  refine lv_ishr hx hb dJ0_length_8abf5_9 ?_
  exact W.iret (v := s_str_length k >>> ((0 : Int32) &&& 31)) hx hb hr (fun t ht _ => ⟨congrArg (fun z => Outcome.returned (some (Value.int z))) (sb_shr0 _), ht⟩) (fun _ h => by cases h) dJ0_length_8abf5_10
abbrev rm_J0_charAt_5068e : Room := { frames := 3, cells := 0, slots := 0, locals := 64 }
set_option maxHeartbeats 8000000 in
set_option maxRecDepth 100000 in
theorem c_str_charAt (l : Launch) (E : xG) (k : Nat) (hk : k < 5) (i : Int32) (h0 : (¬ i < 0) ∧ ¬ s_str_length k ≤ i) : xRo l E yJ0_charAt_5068e wsJ0_charAt_5068e rm_J0_charAt_5068e [.ref (xaK E k), .int i] [] (some (.int (s_str_charAt k i))) := by
  refine xRo.of (cc := cJ0_charAt_5068e) (maxL := 2) (ret := (some .char)) (by decide) rfl (Nat.le_of_ble_eq_true rfl) ?_
  intro p e s m below meth c ls hAt hF hP hS hl
  obtain ⟨hx, hb, hr, hml, hown, hts, hlocks, -⟩ := hAt
  have hown : s.vm.findClass RJ0 = some m.cls := hown
  have hl : lv_has ls 2 [(0, .ref (xaK E k)), (1, .int i)] := hl
  have hK := hF.1
  have hA : ∀ q : Nat, (fun _ => False) q → xA0 E q := fun _ h => h.elim
  change W p l e rm_J0_charAt_5068e s m ([.ref (xaK E k), .int i] : List Value).toArray below meth c s.heap [] 0 0 (xQro below (some (.int (s_str_charAt k i))) ([.ref (xaK E k), .int i] : List Value).toArray s) _
  refine lv_aload_n hx hb dJ0_charAt_5068e_0 rfl (lv_at hl 0 rfl) ?_
  refine xRoV (nL := 2) ⟨hx, hb, hml, hown, hts⟩ (c_J0_isLatin1 l E k hk) (cwV 0 hts gJ0_charAt_5068e_J0_isLatin1_aae02 rfl rfl rfl ⟨rfl, hd_J0i⟩ ⟨(Nat.le_of_ble_eq_true rfl), (Nat.le_of_ble_eq_true rfl)⟩) hF hS hA (hP.sub [] rfl) (xstrRecv hF hS hA hk) rfl hl.1 rfl (Nat.le_of_ble_eq_true rfl) ⟨(Nat.le_of_ble_eq_true rfl), (Nat.le_of_ble_eq_true rfl)⟩ dJ0_charAt_5068e_1 ?_
  refine W.eq (g2 := F0 m 4 ls [.int 1]) rfl ?_
  refine lv_if_eq (tgt := 16) hx hb dJ0_charAt_5068e_4 rfl (fun q1 => absurd q1 (by decide)) (fun _ => ?_)
  refine lv_aload_n hx hb dJ0_charAt_5068e_7 rfl (lv_at hl 0 rfl) ?_
  refine (va_getX (i := k) (N := 5) (v := fun i => .ref (xaV E i)) (ad := xaK E) hx hb (fun i hi => ((hF.2.2.2.1.1 i hi).2.2.1).narrow hA) hk hS hown (hts (.fieldLink RJ0 9 "java/lang/String" "value" "[B") (by decide +kernel)) (fun _ h => h) dJ0_charAt_5068e_8 ?_)
  refine lv_iload_n hx hb dJ0_charAt_5068e_11 rfl (lv_at hl 1 rfl) ?_
  refine xRoS (nL := 2) ⟨hx, hb, hml, hown, hts⟩ (c_J1_charAt l E k hk i h0.1 (Int32.not_le.mp h0.2)) (va_cwS 2 hts gJ0_charAt_5068e_J1_charAt_3b067 rfl rfl rfl hd_J1c ⟨(Nat.le_of_ble_eq_true rfl), (Nat.le_of_ble_eq_true rfl)⟩) hF hS hA (hP.sub [] rfl) rfl hl.1 rfl (Nat.le_of_ble_eq_true rfl) ⟨(Nat.le_of_ble_eq_true rfl), (Nat.le_of_ble_eq_true rfl)⟩ dJ0_charAt_5068e_12 ?_
  refine W.eq (g2 := F0 m 15 ls [.int (s_str_charAt k i)]) rfl ?_
  exact W.zret (v := s_str_charAt k i) (ty := .char) hx hb hr (sc_nc2 _) (fun t ht _ => ⟨congrArg (fun z => Outcome.returned (some (Value.int z))) (rfl), ht⟩) (fun _ h => by cases h) dJ0_charAt_5068e_15
/-! ===== nameOf ===== -/
def s_X4_nameOf (p0 : Int32) : Nat := if p0 = 0 then 0 else if p0 = 1 then 1 else if p0 = 2 then 2 else if p0 = 3 then 3 else 4
theorem s_X4_nameOf_lt (p0 : Int32) : s_X4_nameOf p0 < 5 := by
  unfold s_X4_nameOf
  repeat (first | decide | split)
abbrev rm_X4_nameOf : Room := { frames := 0, cells := 0, slots := 0, locals := 0 }
set_option maxHeartbeats 8000000 in
set_option maxRecDepth 100000 in
theorem c_X4_nameOf (l : Launch) (E : xG) (p0 : Int32) : xRo l E yX4_nameOf wsX4_nameOf rm_X4_nameOf [.int p0] [] (some (.ref (xaK E (s_X4_nameOf p0)))) := by
  refine xRo.of (cc := cX4_nameOf) (maxL := 1) (ret := (some (.object "java/lang/String"))) (by decide) rfl (Nat.le_of_ble_eq_true rfl) ?_
  intro p e s m below meth c ls hAt hF hP hS hl
  obtain ⟨hx, hb, hr, hml, hown, hts, hlocks, -⟩ := hAt
  have hown : s.vm.findClass RX4 = some m.cls := hown
  have hl : lv_has ls 1 [(0, .int p0)] := hl
  have hR : s_X4_nameOf p0 = s_X4_nameOf p0 := rfl
  refine lv_iload_n hx hb dX4_nameOf_0 rfl (lv_at hl 0 rfl) ?_
  by_cases q0 : p0 = 0
  · have hR := hR.trans (if_pos q0)
    refine lv_tableIn (tgt := 32) (off := 31) hx hb dX4_nameOf_1 (by rw [q0]; decide) (by rw [q0]; decide) (by rw [q0]; rfl) rfl ?_
    refine va_ldcS (q := xaK E 0) (tx := xTxT 0) hx hb hown (hF.2.2.2.2.1 0 (by decide)) dX4_nameOf_32 ?_
    exact W.aret (v := .ref (xaK E 0)) hx hb hr (Or.inl ⟨_, rfl⟩) (Or.inr ⟨_, rfl⟩) (fun t ht _ => ⟨by rw [show s_X4_nameOf p0 = 0 from hR], ht⟩) (fun _ h => by cases h) dX4_nameOf_34
  have hR := hR.trans (if_neg q0)
  by_cases q1 : p0 = 1
  · have hR := hR.trans (if_pos q1)
    refine lv_tableIn (tgt := 35) (off := 34) hx hb dX4_nameOf_1 (by rw [q1]; decide) (by rw [q1]; decide) (by rw [q1]; rfl) rfl ?_
    refine va_ldcS (q := xaK E 1) (tx := xTxT 1) hx hb hown (hF.2.2.2.2.1 1 (by decide)) dX4_nameOf_35 ?_
    exact W.aret (v := .ref (xaK E 1)) hx hb hr (Or.inl ⟨_, rfl⟩) (Or.inr ⟨_, rfl⟩) (fun t ht _ => ⟨by rw [show s_X4_nameOf p0 = 1 from hR], ht⟩) (fun _ h => by cases h) dX4_nameOf_37
  have hR := hR.trans (if_neg q1)
  by_cases q2 : p0 = 2
  · have hR := hR.trans (if_pos q2)
    refine lv_tableIn (tgt := 38) (off := 37) hx hb dX4_nameOf_1 (by rw [q2]; decide) (by rw [q2]; decide) (by rw [q2]; rfl) rfl ?_
    refine va_ldcS (q := xaK E 2) (tx := xTxT 2) hx hb hown (hF.2.2.2.2.1 2 (by decide)) dX4_nameOf_38 ?_
    exact W.aret (v := .ref (xaK E 2)) hx hb hr (Or.inl ⟨_, rfl⟩) (Or.inr ⟨_, rfl⟩) (fun t ht _ => ⟨by rw [show s_X4_nameOf p0 = 2 from hR], ht⟩) (fun _ h => by cases h) dX4_nameOf_40
  have hR := hR.trans (if_neg q2)
  by_cases q3 : p0 = 3
  · have hR := hR.trans (if_pos q3)
    refine lv_tableIn (tgt := 41) (off := 40) hx hb dX4_nameOf_1 (by rw [q3]; decide) (by rw [q3]; decide) (by rw [q3]; rfl) rfl ?_
    refine va_ldcS (q := xaK E 3) (tx := xTxT 3) hx hb hown (hF.2.2.2.2.1 3 (by decide)) dX4_nameOf_41 ?_
    exact W.aret (v := .ref (xaK E 3)) hx hb hr (Or.inl ⟨_, rfl⟩) (Or.inr ⟨_, rfl⟩) (fun t ht _ => ⟨by rw [show s_X4_nameOf p0 = 3 from hR], ht⟩) (fun _ h => by cases h) dX4_nameOf_43
  have hR := hR.trans (if_neg q3)
  refine lv_tableOut (tgt := 44) hx hb dX4_nameOf_1 (xsw p0 (fun j h1 h2 h3 => by
    have h9 : j = 0 ∨ j = 1 ∨ j = 2 ∨ j = 3 := by omega
    rcases h9 with rfl | rfl | rfl | rfl
    · exact q0 (Int32.toInt_inj.mp h3)
    · exact q1 (Int32.toInt_inj.mp h3)
    · exact q2 (Int32.toInt_inj.mp h3)
    · exact q3 (Int32.toInt_inj.mp h3))) rfl ?_
  refine va_ldcS (q := xaK E 4) (tx := xTxT 4) hx hb hown (hF.2.2.2.2.1 4 (by decide)) dX4_nameOf_44 ?_
  exact W.aret (v := .ref (xaK E 4)) hx hb hr (Or.inl ⟨_, rfl⟩) (Or.inr ⟨_, rfl⟩) (fun t ht _ => ⟨by rw [show s_X4_nameOf p0 = 4 from hR], ht⟩) (fun _ h => by cases h) dX4_nameOf_46
