/-! ===== what the machine has at the start ===== -/
theorem xchoose {P : Nat → Nat → Prop} {n : Nat} (H : ∀ k, k < n → ∃ t, P k t) : ∃ f : Nat → Nat, ∀ k, k < n → P k (f k) :=
  ⟨fun k => if h : k < n then (H k h).choose else 0, fun k h => by
    show P k (if h : k < n then (H k h).choose else 0)
    rw [dif_pos h]
    exact (H k h).choose_spec⟩
/-- a row that stands at a term, by the words of the start -/
theorem xXof {args : Array Value} {s : State} {tm : Term} {N : Nat} {f : Nat → Int32} {cA : ClassId} (hN : N < 2 ^ 31) (harr : (Cond.arrayOf tm .int).before args s = true) (hlen : (Cond.eq (.length tm) (.int (Int32.ofNat N))).before args s = true) (hel : ∀ j, j < N → (Cond.eq (.elem tm (.int (Int32.ofNat j))) (.int (f j))).before args s = true) (hex : (Cond.exactly tm "[I").before args s = true) (hcA : s.vm.findClass "[I" = some cA) :
    ∃ t : Nat, tm.eval args s none [] s = some (.ref t) ∧ va_X t N f s s.heap ∧ t < s.heap.size ∧ ∃ cell : Cell, s.heap[t]? = some cell ∧ cell.cls = cA ∧ (∀ k, cell.vm ≠ .statics k) ∧ cell.vm ≠ .unknown ∧ cell.slots.size = N ∧ ∀ j, j < N → cell.slots[j]? = some (.int (f j)) := by
  have hv := va_eqt hlen
  obtain ⟨t, cell, ht, hat, hv2⟩ := Term.length_spec hv
  have hsz : cell.slots.size < 2 ^ 31 := by
    simp only [Term.eval, ht, hat, Option.bind_eq_bind, Option.bind_some] at hv
    by_cases hlt : cell.slots.size < 2147483648
    · exact hlt
    · simp [hlt] at hv
  obtain ⟨hcell, hkn, hst, -⟩ := State.arrayAt?_spec hat
  obtain ⟨hof, -⟩ := Cond.arrayOf_spec harr ht hcell
  obtain ⟨a2, c2, cell2, k2, h1, h2, h3, -, -, h6, -⟩ := Cond.exactly_spec hex
  cases ht.symm.trans h1
  cases hcell.symm.trans h3
  cases hcA.symm.trans h2
  have hsN : cell.slots.size = N := by
    have e1 : Int32.ofNat N = Int32.ofNat cell.slots.size := Value.int.inj hv2
    have e2 := congrArg Int32.toInt e1
    rw [Int32.toInt_ofNat_small hN, Int32.toInt_ofNat_small hsz] at e2
    omega
  have key : ∀ j : Nat, j < N → cell.slots[j]? = some (.int (f j)) := by
    intro j hj
    obtain ⟨a, i, cell3, g1, g2, g3, g4, g5⟩ := Term.elem_spec (va_eqt (hel j hj))
    cases ht.symm.trans g1
    cases hat.symm.trans g3
    have hi : i = Int32.ofNat j := by
      have e : (Term.int (Int32.ofNat j)).eval args s none [] s = some (.int (Int32.ofNat j)) := rfl
      cases g2.symm.trans e
      rfl
    have hc : i.toNatClampNeg = j := by rw [hi]; exact Int32.toNatClampNeg_ofNat_of_lt (Nat.lt_trans hj hN)
    rw [hc] at g5
    exact g5
  exact ⟨t, ht, ⟨cell, hcell, hof, hkn, hsN, key⟩, (Array.getElem?_eq_some_iff.mp hcell).1, cell, hcell, h6, (fun k h => by rw [h] at hst; cases hst), hkn, hsN, key⟩
theorem xArrK {args : Array Value} {s : State} {ty : FieldType} {c : ClassId} {k : Class} {comp : ClassId} (h2 : s.vm.classes[c]? = some k) (h3 : k.kind = .array comp ty) : ArrOfT s c ty := fun _ _ => ⟨(fun _ h => by cases h), k, h2, comp, h3⟩
set_option maxHeartbeats 8000000 in
set_option maxRecDepth 100000 in
theorem xstart {s : State} {b : Nat} (hts : ∀ w ∈ lw_tbl, w.before #[Value.ref b] s = true) (hgv : (Jvm.Cond.and given_1 narrow_1).before #[Value.ref b] s = true) : ∃ E : xG, xG5 E s ∧ (∀ q, s.heap.size ≤ q → xA0 E q) ∧ ∀ q, xA0 E q → s.heap.size ≤ q := by
  have hs := flat_of_before _ hgv
  have hA : ∀ a : Nat, a < s.heap.size → ¬ (fun q : Nat => s.heap.size ≤ q) a := fun a h => Nat.not_le.mpr h
  obtain ⟨d0, i0, k0⟩ := u_known (C := RX0) (T := TX0) (N := 8) (n := 8) hts inX0 (hts (.instantiable RX0 8) (by decide +kernel))
  obtain ⟨d1, i1, k1⟩ := u_known (C := RX1) (T := TX1) (N := 3) (n := 3) hts inX1 (hts (.instantiable RX1 3) (by decide +kernel))
  obtain ⟨d2, i2, k2⟩ := u_known (C := RX2) (T := TX2) (N := 2) (n := 2) hts inX2 (hts (.instantiable RX2 2) (by decide +kernel))
  obtain ⟨d3, i3, k3⟩ := u_known (C := RX3) (T := TX3) (N := 3) (n := 3) hts inX3 (hts (.instantiable RX3 3) (by decide +kernel))
  obtain ⟨d4, i4, k4⟩ := u_known (C := RX4) (T := TX4) (N := 9) (n := 9) hts inX4 (hts (.instantiable RX4 9) (by decide +kernel))
  obtain ⟨d5, i5, k5⟩ := u_known (C := RX5) (T := TX5) (N := 9) (n := 9) hts inX5 (hts (.instantiable RX5 9) (by decide +kernel))
  obtain ⟨d6, i6, k6⟩ := u_known (C := RX6) (T := TX6) (N := 28) (n := 28) hts inX6 (hts (.instantiable RX6 28) (by decide +kernel))
  obtain ⟨cI, kI, pI, hI1, hI2, hI3⟩ := Cond.arrayClass_spec (hts (.arrayClass .int) (by decide +kernel))
  obtain ⟨cC, kC, pC, hC1, hC2, hC3⟩ := Cond.arrayClass_spec (hts (.arrayClass .char) (by decide +kernel))
  have hao := hts (.arrayOver (.object RX3)) (by decide +kernel)
  obtain ⟨pS, cS, kS, hS0, -, hS2, hS3, hS1⟩ := Cond.arrayOver_spec hao
  have hI : s.vm.findClass "[I" = some cI := by
    have h := hI1
    rwa [show "[" ++ FieldType.int.toString = "[I" from by decide +kernel] at h
  have hst : ∀ k, k < 8 → ∃ t : Nat, (Term.static RX5 (xStN k) "[I").eval #[Value.ref b] s none [] s = some (.ref t) ∧ va_X t (xStL k) (xStV k) s s.heap ∧ t < s.heap.size ∧ ∃ cell : Cell, s.heap[t]? = some cell ∧ cell.cls = cI ∧ (∀ k, cell.vm ≠ .statics k) ∧ cell.vm ≠ .unknown ∧ cell.slots.size = xStL k ∧ ∀ j, j < xStL k → cell.slots[j]? = some (.int (xStV k j)) := by
    have m0 : ∀ k, k < 8 → xStL k < 2 ^ 31 := by decide +kernel
    have m1 : ∀ k, k < 8 → Cond.arrayOf (.static RX5 (xStN k) "[I") .int ∈ flatC (Jvm.Cond.and given_1 narrow_1) := by decide +kernel
    have m2 : ∀ k, k < 8 → Cond.eq (.length (.static RX5 (xStN k) "[I")) (.int (Int32.ofNat (xStL k))) ∈ flatC (Jvm.Cond.and given_1 narrow_1) := by decide +kernel
    have m3 : ∀ k, k < 8 → ∀ j, j < xStL k → Cond.eq (.elem (.static RX5 (xStN k) "[I") (.int (Int32.ofNat j))) (.int (xStV k j)) ∈ flatC (Jvm.Cond.and given_1 narrow_1) := by decide +kernel
    have m4 : ∀ k, k < 8 → Cond.exactly (.static RX5 (xStN k) "[I") "[I" ∈ flatC (Jvm.Cond.and given_1 narrow_1) := by decide +kernel
    exact fun k hk => xXof (m0 k hk) (hs _ (m1 k hk)) (hs _ (m2 k hk)) (fun j hj => hs _ (m3 k hk j hj)) (hs _ (m4 k hk)) hI
  obtain ⟨ad, had⟩ := xchoose hst
  obtain ⟨aK, aV, hvk, hvt⟩ := vk_Sof (args := #[Value.ref b]) (s := s) (N := 5) (tm := fun i => .string RX4 (xTxI i)) (len := xTxL) (byt := xTxB) (A := fun q : Nat => s.heap.size ≤ q) (by decide +kernel)
    (fun i hi => hs _ ((by decide +kernel : ∀ i, i < 5 → Cond.exactly (.string RX4 (xTxI i)) "java/lang/String" ∈ flatC (Jvm.Cond.and given_1 narrow_1)) i hi))
    (fun i hi => hs _ ((by decide +kernel : ∀ i, i < 5 → Cond.eq (.field (.string RX4 (xTxI i)) "java/lang/String" "coder" "B") (.int 0) ∈ flatC (Jvm.Cond.and given_1 narrow_1)) i hi))
    (fun i hi => hs _ ((by decide +kernel : ∀ i, i < 5 → Cond.arrayOf (.field (.string RX4 (xTxI i)) "java/lang/String" "value" "[B") .byte ∈ flatC (Jvm.Cond.and given_1 narrow_1)) i hi))
    (fun i hi => hs _ ((by decide +kernel : ∀ i, i < 5 → Cond.eq (.length (.field (.string RX4 (xTxI i)) "java/lang/String" "value" "[B")) (.int (Int32.ofNat (xTxL.getD i 0))) ∈ flatC (Jvm.Cond.and given_1 narrow_1)) i hi))
    (fun i hi j hj => hs _ ((by decide +kernel : ∀ i, i < 5 → ∀ j, j < xTxL.getD i 0 → Cond.eq (.elem (.field (.string RX4 (xTxI i)) "java/lang/String" "value" "[B") (.int (Int32.ofNat j))) (.int ((xTxB.getD i []).getD j 0)) ∈ flatC (Jvm.Cond.and given_1 narrow_1)) i hi j hj))
    (fun i j hi hj hne => by
      rcases (by decide +kernel : ∀ i, i < 5 → ∀ j, j < 5 → i ≠ j → (Cond.not (Cond.eq (.string RX4 (xTxI i)) (.string RX4 (xTxI j))) ∈ flatC (Jvm.Cond.and given_1 narrow_1) ∨ Cond.not (Cond.eq (.string RX4 (xTxI j)) (.string RX4 (xTxI i))) ∈ flatC (Jvm.Cond.and given_1 narrow_1))) i hi j hj hne with h | h
      · exact Or.inl (hs _ h)
      · exact Or.inr (hs _ h)) hA
  let dC : Nat → ClassId := fun k => match k with
    | 0 => d0
    | 1 => d1
    | 2 => d2
    | 3 => d3
    | 4 => d4
    | 5 => d5
    | _ => d6
  let dI : Nat → Nat → Nat := fun k => match k with
    | 0 => i0
    | 1 => i1
    | 2 => i2
    | 3 => i3
    | 4 => i4
    | 5 => i5
    | _ => i6
  let cT : Nat → ClassId := fun k => match k with
    | 0 => cI
    | 1 => cS
    | _ => cC
  have hF : xF ((dC, dI), cT, (fun q => s.heap.size ≤ q), ad, aK, aV) s := by
    refine ⟨⟨fun k q hq => ?_, fun k q hq => ?_⟩, ⟨fun q hq => va_Nw.of rfl (hts _ ((by decide +kernel : ∀ q ∈ xNest, Cond.methodLinkNest q.1 q.2.1 q.2.2 RX5 ∈ lw_tbl) q hq)), va_Nw.of rfl (hts (.fieldLinkNest RX4 55 RX5 "NUMBERS_OF_WORD" "[I" RX5) (by decide +kernel))⟩, fun k hk => ?_, hvk, fun i hi => ?_, ?_, ?_⟩
    · match k, hq with
      | 0, hq => cases hq; exact k0
      | 1, hq => cases hq; exact k1
      | 2, hq => cases hq; exact k2
      | 3, hq => cases hq; exact k3
      | 4, hq => cases hq; exact k4
      | 5, hq => cases hq; exact k5
      | 6, hq => cases hq; exact k6
      | k + 7, hq => simp [vwCl] at hq
    · match k, hq with
      | 0, hq => cases hq; exact ⟨xArrK (args := #[]) hI2 hI3, hI1⟩
      | 1, hq => cases hq; exact ⟨xArrK (args := #[]) hS2 hS3, kS, pS, hS2, hS3, hS0, hS1⟩
      | 2, hq => cases hq; exact ⟨xArrK (args := #[]) hC2 hC3, hC1⟩
      | k + 3, hq => simp [xT] at hq
    · obtain ⟨h1, h2, h3, -⟩ := had k hk
      exact ⟨va_Zof (hts _ ((by decide +kernel : ∀ k, k < 8 → Cond.laysStatic RX5 (xStN k) "[I" ∈ lw_tbl) k hk)) (hts (.initialized RX5) (by decide +kernel)) h1 hA, h2, h3, hA _ h3⟩
    · exact vk_R.of (hts _ ((by decide +kernel : ∀ i, i < 5 → Cond.stringRef RX4 (xTxI i) (xTxT i) ∈ lw_tbl) i hi)) (hvt i hi)
    · exact va_Zof (hts (.laysStatic "java/lang/String" "COMPACT_STRINGS" "Z") (by decide +kernel)) (hts (.initialized "java/lang/String") (by decide +kernel)) (va_eqi (hs _ (by decide +kernel))) hA
    · exact va_Zqof (hts (.laysStatic "jdk/internal/util/Preconditions" "SIOOBE_FORMATTER" "Ljava/util/function/BiFunction;") (by decide +kernel)) (hts (.initialized "jdk/internal/util/Preconditions") (by decide +kernel)) (hs _ (by decide +kernel)) hA
  refine ⟨_, ⟨hF, va_AO.of hao, va_Nw.of rfl (hts (.castable "[I" "java/lang/Cloneable") (by decide +kernel)), ?_⟩, fun _ h => h, fun _ h => h⟩
  obtain ⟨-, -, -, h4⟩ := had 3 (by decide)
  exact h4
