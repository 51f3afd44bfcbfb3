/-! ===== the logic of this proof: contracts that say exactly what is answered and what the world is behind ===== -/
abbrev xG : Type := va_G × (Nat → ClassId) × (Nat → Prop) × (Nat → Nat) × (Nat → Nat) × (Nat → Nat)
abbrev xD (E : xG) : va_G := E.1
abbrev xct (E : xG) : Nat → ClassId := E.2.1
abbrev xA0 (E : xG) : Nat → Prop := E.2.2.1
abbrev xad (E : xG) : Nat → Nat := E.2.2.2.1
abbrev xaK (E : xG) : Nat → Nat := E.2.2.2.2.1
abbrev xaV (E : xG) : Nat → Nat := E.2.2.2.2.2
abbrev xT (E : xG) : List (ClassId × FieldType) := [(xct E 0, .int), (xct E 1, .object RX3), (xct E 2, .char)]
def xNest : List (String × Nat × MethodName) := [(RX2, 27, yX5_mark), (RX0, 43, yX5_mark), (RX2, 19, yX5_cell), (RX0, 55, yX5_cell), (RX0, 70, yX5_along), (RX0, 78, yX5_isUnder), (RX3, 28, yX5_cell), (RX1, 37, yX5_mark), (RX1, 52, yX5_cell), (RX3, 32, yX5_mark), (RX4, 40, yX5_mark), (RX4, 44, yX5_cell), (RX4, 82, yX5_within)]
/-- the static rows: their names, lengths, numbers -/
def xStN : Nat → String := fun k => match k with
  | 0 => "PARENTS"
  | 1 => "FIELD_LEAST"
  | 2 => "FIELD_MOST"
  | 3 => "RULE_FIRST"
  | 4 => "RULE_LEAST"
  | 5 => "RULE_MOST"
  | 6 => "CAUSES_BY_ROOT"
  | _ => "NUMBERS_OF_WORD"
def xStT : Nat → List Int32 := fun k => match k with
  | 0 => [-1, 0, 0, 1, 2, 1]
  | 1 => [0, 1, -99, 0]
  | 2 => [5, 20, 99, 160]
  | 3 => [1, 75, 75, 20, 5, 60, 0, 0]
  | 4 => [1, 0, 0, 0, 0, 0, -1000000, -10000]
  | 5 => [1000000, 160, 160, 160, 99, 200, 1000000, 10000]
  | 6 => [0, 1, 2, 2, 2, 3]
  | _ => [4, 2, 2, 1, 0]
abbrev xStL (k : Nat) : Nat := (xStT k).length
abbrev xStV (k : Nat) : Nat → Int32 := fun j => (xStT k).getD j 0
/-- the texts: which entries of the pool they are, their bytes -/
def xTxI : Nat → Nat := fun i => match i with
  | 0 => 96
  | 1 => 98
  | 2 => 100
  | 3 => 102
  | _ => 104
def xTxT : Nat → String := fun i => match i with
  | 0 => "piece"
  | 1 => "bend"
  | 2 => "cant"
  | 3 => "speed"
  | _ => "drop"
def xTxL : List Nat := [5, 4, 4, 5, 4]
def xTxB : List (List Int32) := [[112, 105, 101, 99, 101], [98, 101, 110, 100], [99, 97, 110, 116], [115, 112, 101, 101, 100], [100, 114, 111, 112]]
/-- what stays: classes, nest mates' words, static rows, texts -/
def xF (E : xG) (U : State) : Prop :=
  va_K (xD E) vwCl (xT E) U ∧ ((∀ q ∈ xNest, va_Nw (.methodLinkNest q.1 q.2.1 q.2.2 RX5) U) ∧ va_Nw (.fieldLinkNest RX4 55 RX5 "NUMBERS_OF_WORD" "[I" RX5) U) ∧
  (∀ k, k < 8 → va_Z RX5 (xStN k) "[I" (.ref (xad E k)) (xA0 E) U U.heap ∧ va_X (xad E k) (xStL k) (xStV k) U U.heap ∧ xad E k < U.heap.size ∧ ¬ xA0 E (xad E k)) ∧
  vk_S 5 xTxL xTxB (xaK E) (xaV E) (xA0 E) U U.heap ∧ (∀ i, i < 5 → vk_R RX4 (xTxI i) (xTxT i) (xaK E i) U) ∧ va_Z "java/lang/String" "COMPACT_STRINGS" "Z" (.int 1) (xA0 E) U U.heap ∧ va_Zq "jdk/internal/util/Preconditions" "SIOOBE_FORMATTER" "Ljava/util/function/BiFunction;" (xA0 E) U U.heap
theorem xF_same {E : xG} {u U : State} (hv : U.vm = u.vm) (hh : U.heap = u.heap) (h : xF E u) : xF E U := by
  obtain ⟨h1, ⟨h2, h2'⟩, h3, h4, h5, h6, h7⟩ := h
  have hA : u.vm.Alike U.vm := by rw [hv]; exact Vm.Alike.refl _
  refine ⟨h1.moved hA, ⟨fun q hq => va_Nw.same rfl hv.symm (h2 q hq), va_Nw.same rfl hv.symm h2'⟩, fun k hk => ?_, ?_, fun i hi => vk_R.same hv (h5 i hi), ?_, ?_⟩
  · obtain ⟨a1, a2, a3, a4⟩ := h3 k hk
    rw [hh]
    exact ⟨a1.moved hA, a2.moved hA, a3, a4⟩
  · rw [hh]; exact h4.moved hA
  · rw [hh]; exact h6.moved hA
  · rw [hh]; exact h7.moved hA
theorem xF_at {E : xG} {s U : State} (hW : s.WarmedH U.vm) (hz : s.heap.size ≤ U.heap.size) (hq : ∀ q : Nat, q < s.heap.size → ¬ xA0 E q → U.heap[q]? = s.heap[q]?) (h : xF E s) : xF E U := by
  obtain ⟨h1, ⟨h2, h2'⟩, h3, h4, h5, h6, h7⟩ := h
  have hA : s.vm.Alike U.vm := hW.alike
  refine ⟨h1.moved hA, ⟨fun q hq => va_Nw.warmM hW (h2 q hq), va_Nw.warmF hW h2'⟩, fun k hk => ?_, (h4.moved hA).kept hq, fun i hi => vk_R.warm hW (h5 i hi), (h6.moved hA).kept hq, (h7.moved hA).kept hq⟩
  obtain ⟨a1, a2, a3, a4⟩ := h3 k hk
  exact ⟨(a1.moved hA).kept hq, (a2.moved hA).kept (hq _ a3 a4), Nat.lt_of_lt_of_le a3 hz, a4⟩
theorem xF_blind {E : xG} {av : List Value} {ws : va_W} : FrameBlind (va_Pc av (fun U => xF E U ∧ va_P (xD E) vwCl ws U.heap)) := by
  intro a U g mk h
  exact ⟨h.1, xF_same (u := U) (U := U.calling g mk a) rfl rfl h.2.1, h.2.2⟩
/-- a method that only reads -/
def xRo (l : Launch) (E : xG) (y : MethodName) (w : List Cond) (rm : Room) (av : List Value) (ws : va_W) (r : Option Value) : Prop :=
  Met l y w rm (va_Pc av (fun U => xF E U ∧ va_P (xD E) vwCl ws U.heap)) (fun _ st oc t => oc = .returned r ∧ t.heap = st.heap) 0 0 (fun _ => False)
/-- a method that writes into its world, whose cells stand at L -/
def xMd (l : Launch) (E : xG) (y : MethodName) (w : List Cond) (rm : Room) (L : List Nat) (av : List Value) (ws : va_W) (r : Option Value) (ws' : va_W) : Prop :=
  Met l y w rm (va_Pc av (fun U => xF E U ∧ va_P (xD E) vwCl ws U.heap)) (fun _ st oc t => (oc = .returned r ∧ va_P (xD E) vwCl ws' t.heap) ∧ va_F (· ∈ L) st t) 0 0 (· ∈ L)
/-- what holds at a method's entry -/
def xAt (p : Program) (s : State) (m : MethodId) (meth : Method) (c : Code) (y : MethodName) (w : List Cond) (cc : ByteArray) (maxL : Nat) (ret : Option FieldType) (args : Array Value) : Prop :=
  p.tables.exec = Jvm.exec ∧ c.code = cc ∧ meth.sig.returnType = ret ∧ c.maxLocals = maxL ∧ s.vm.findClass y.cls = some m.cls ∧ (∀ w' ∈ w, w'.before args s = true) ∧ meth.locks = false ∧ meth.name = y.name
theorem xRo.of {l : Launch} {E : xG} {y : MethodName} {w w' : List Cond} {rm : Room} {av : List Value} {ws : va_W} {r : Option Value} {cc : ByteArray} {maxL : Nat} {ret : Option FieldType} (hy : plainName y.cls = true) (hw : w = Cond.code y cc maxL ret :: w') (hvs : (lg_sl av).length ≤ maxL)
    (body : ∀ (p : Program) (e : Env) (s : State) (m : MethodId) (below : List Frame) (meth : Method) (c : Code) (ls : Array Slot), xAt p s m meth c y w cc maxL ret av.toArray → xF E s → va_P (xD E) vwCl ws s.heap → va_S (fun _ => False) s.heap s.heap [] → lv_has ls maxL (lv_args 0 av) →
      W p l e rm s m av.toArray below meth c s.heap [] 0 0 (MQ below (fun _ st oc t => oc = .returned r ∧ t.heap = st.heap) av.toArray s 0 0 (fun _ => False)) (F0 m 0 ls [])) : xRo l E y w rm av ws r := by
  refine Met.ofW (cc := cc) (maxL := maxL) (ret := ret) hy hw ?_
  intro p e s m args below meth c s₁ B hml hv
  obtain ⟨rfl, hF, hP⟩ := hv
  rw [lg_entry_eq]
  exact body p e s m below meth c _ ⟨B.exec, B.bytes, B.returns, hml, findClass_of_methodNamed B.named, atoms_spec (ws := w) B.pre, B.notSynchronized, (name_of_methodNamed B.named B.method).1⟩ hF hP va_S.rf (lv_entry av hvs)
theorem xMd.of {l : Launch} {E : xG} {y : MethodName} {w w' : List Cond} {rm : Room} {L : List Nat} {av : List Value} {ws ws' : va_W} {r : Option Value} {cc : ByteArray} {maxL : Nat} {ret : Option FieldType} (hy : plainName y.cls = true) (hw : w = Cond.code y cc maxL ret :: w') (hvs : (lg_sl av).length ≤ maxL)
    (body : ∀ (p : Program) (e : Env) (s : State) (m : MethodId) (below : List Frame) (meth : Method) (c : Code) (ls : Array Slot), xAt p s m meth c y w cc maxL ret av.toArray → xF E s → va_P (xD E) vwCl ws s.heap → va_S (· ∈ L) s.heap s.heap [] → lv_has ls maxL (lv_args 0 av) →
      W p l e rm s m av.toArray below meth c s.heap [] 0 0 (MQ below (fun _ st oc t => (oc = .returned r ∧ va_P (xD E) vwCl ws' t.heap) ∧ va_F (· ∈ L) st t) av.toArray s 0 0 (· ∈ L)) (F0 m 0 ls [])) : xMd l E y w rm L av ws r ws' := by
  refine Met.ofW (cc := cc) (maxL := maxL) (ret := ret) hy hw ?_
  intro p e s m args below meth c s₁ B hml hv
  obtain ⟨rfl, hF, hP⟩ := hv
  rw [lg_entry_eq]
  exact body p e s m below meth c _ ⟨B.exec, B.bytes, B.returns, hml, findClass_of_methodNamed B.named, atoms_spec (ws := w) B.pre, B.notSynchronized, (name_of_methodNamed B.named B.method).1⟩ hF hP va_S.rf (lv_entry av hvs)
section XC
variable {p : Program} {l : Launch} {e : Env} {R : Room} {s : State} {m : MethodId} {args : Array Value} {below : List Frame} {meth : Method} {c : Code} {H : Heap} {locs : List Loc} {cells slots : Nat} {Q : State → Prop}
variable {E : xG} {y : MethodName} {bytes cc : ByteArray} {maxL nL n index : Nat} {ret : Option FieldType} {w : List Cond} {rm : Room} {Ts : List Cond} {own C host : String} {b : Nat} {As av rest st0 : List Value} {pc : Nat} {ls : Array Slot} {A : Nat → Prop} {wc ws1 : va_W} {r : Option Value} {L : List Nat}
theorem xpre {E : xG} {s : State} {H : Heap} {locs : List Loc} {A : Nat → Prop} {wc : va_W} {av : List Value} (hF : xF E s) (hS : va_S A s.heap H locs) (hA : ∀ q, A q → xA0 E q) (hP : va_P (xD E) vwCl wc H) : ∀ U : State, U.heap = H → s.WarmedH U.vm → va_Pc av (fun U => xF E U ∧ va_P (xD E) vwCl wc U.heap) av.toArray U := by
  intro U hU hW
  refine ⟨rfl, xF_at hW (by rw [hU]; exact hS.1) (fun q h1 h2 => ?_) hF, by rw [hU]; exact hP⟩
  rw [hU]
  exact hS.2.1 q h1 (fun z => h2 (hA q z))
theorem xroEnd {a : Array Value} (hr : va_Run p l e R s m args below meth c H locs cells slots 0 0 (F0 m pc ls st0) rest ((fun (_ : Array Value) (st : State) (oc : Outcome) (t : State) => oc = .returned r ∧ t.heap = st.heap) a) (fun _ => False))
    (kk : W p l e R s m args below meth c H locs cells slots Q (F0 m (pc + 3) ls (r.toList ++ rest))) : W p l e R s m args below meth c H locs cells slots Q (F0 m pc ls st0) := by
  intro T hT X
  obtain ⟨v, st₀, t, T', L, h0, X', hL, e1, e2, ⟨hv, hh⟩, st⟩ := hr T hT X
  cases hv
  obtain ⟨t2, a1, b1⟩ := kk T' (by rw [e1, hh, h0]) (Stand.forget X' (fun q h => (hL q h).elim))
  exact ⟨t2, st t2 a1, b1⟩
theorem xRoS (S : CallFix p m c cc nL s args Ts own) (hM : xRo l E y w rm av wc r) (cw : CallB R s args own index y bytes maxL ret w rm 0 0 n ∧ (Cond.static y).before args s = true) (hF : xF E s) (hS : va_S A s.heap H locs) (hA : ∀ q, A q → xA0 E q) (hP : va_P (xD E) vwCl wc H)
    (hn : av.length = n) (hl : ls.size = nL) (hst : st0 = av.reverse ++ rest) (hW : (rest.map fun v => v.category).sum ≤ 8) (hf : cells + 0 ≤ R.cells ∧ slots + 0 ≤ R.slots) (hdg : decode cc pc = .ok (.invokestatic index, 3))
    (kk : W p l e R s m args below meth c H locs cells slots Q (F0 m (pc + 3) ls (r.toList ++ rest))) : W p l e R s m args below meth c H locs cells slots Q (F0 m pc ls st0) :=
  xroEnd (a := av.toArray) (va_runS S hM cw ⟨xF_blind, xpre hF hS hA hP⟩ rfl hn hl hst (lv_room hW) hdg hf) kk
theorem xRoSN (S : CallFix p m c cc nL s args Ts own) (hM : xRo l E y w rm av wc r) (cw : va_CN R s args own index y host bytes maxL ret w rm 0 0 n ∧ (Cond.static y).before args s = true ∧ True) (hF : xF E s) (hS : va_S A s.heap H locs) (hA : ∀ q, A q → xA0 E q) (hP : va_P (xD E) vwCl wc H)
    (hn : av.length = n) (hl : ls.size = nL) (hst : st0 = av.reverse ++ rest) (hW : (rest.map fun v => v.category).sum ≤ 8) (hf : cells + 0 ≤ R.cells ∧ slots + 0 ≤ R.slots) (hdg : decode cc pc = .ok (.invokestatic index, 3))
    (kk : W p l e R s m args below meth c H locs cells slots Q (F0 m (pc + 3) ls (r.toList ++ rest))) : W p l e R s m args below meth c H locs cells slots Q (F0 m pc ls st0) :=
  xroEnd (a := av.toArray) (va_runSN S hM cw ⟨xF_blind, xpre hF hS hA hP⟩ rfl hn hl hst (lv_room hW) hdg hf) kk
theorem xRoV (S : CallFix p m c cc nL s args Ts own) (hM : xRo l E y w rm (.ref b :: As) wc r) (cw : CallW R s args own C index y bytes maxL ret w rm 0 0 n) (hF : xF E s) (hS : va_S A s.heap H locs) (hA : ∀ q, A q → xA0 E q) (hP : va_P (xD E) vwCl wc H)
    (hb : ∃ cellB : Cell, H[b]? = some cellB ∧ cellB.vm.isStatics = false ∧ s.vm.findClass C = some cellB.cls)
    (hn : As.length = n) (hl : ls.size = nL) (hst : st0 = As.reverse ++ .ref b :: rest) (hW : (rest.map fun v => v.category).sum ≤ 8) (hf : cells + 0 ≤ R.cells ∧ slots + 0 ≤ R.slots) (hdg : decode cc pc = .ok (.invokevirtual index, 3))
    (kk : W p l e R s m args below meth c H locs cells slots Q (F0 m (pc + 3) ls (r.toList ++ rest))) : W p l e R s m args below meth c H locs cells slots Q (F0 m pc ls st0) :=
  xroEnd (a := (Value.ref b :: As).toArray) (va_runV S hM cw ⟨xF_blind, hb, xpre hF hS hA hP⟩ rfl hn hl hst (lv_room hW) hdg hf) kk
theorem xmdEnd {a : Array Value} (hS : va_S A s.heap H locs) (hL : ∀ q, q ∈ L → A q) (hr : va_Run p l e R s m args below meth c H locs cells slots 0 0 (F0 m pc ls st0) rest ((fun (_ : Array Value) (st : State) (oc : Outcome) (t : State) => (oc = .returned r ∧ va_P (xD E) vwCl ws1 t.heap) ∧ va_F (· ∈ L) st t) a) (· ∈ L))
    (kk : ∀ (H1 : Heap) (locs1 : List Loc), va_P (xD E) vwCl ws1 H1 → (∀ q : Nat, q < H.size → ¬ q ∈ L → H1[q]? = H[q]?) → va_S A s.heap H1 locs1 → W p l e R s m args below meth c H1 locs1 cells slots Q (F0 m (pc + 3) ls (r.toList ++ rest))) : W p l e R s m args below meth c H locs cells slots Q (F0 m pc ls st0) := by
  intro T hT X
  obtain ⟨v, st₀, t, T', L', h0, X', hL', e1, e2, ⟨⟨hv, hp⟩, hz, hk⟩, st⟩ := hr T hT X
  cases hv
  rw [h0] at hz hk
  obtain ⟨t2, a1, b1⟩ := kk t.heap (locs ++ L') hp hk ⟨Nat.le_trans hS.1 hz, fun q h1 h2 => (hk q (Nat.lt_of_lt_of_le h1 hS.1) (fun z => h2 (hL q z))).trans (hS.2.1 q h1 h2), fun q hq => (List.mem_append.mp hq).elim (hS.2.2 q) (fun z => hL _ (hL' q z))⟩ T' e1 X'
  exact ⟨t2, st t2 a1, b1⟩
theorem xMdS (S : CallFix p m c cc nL s args Ts own) (hM : xMd l E y w rm L av wc r ws1) (cw : CallB R s args own index y bytes maxL ret w rm 0 0 n ∧ (Cond.static y).before args s = true) (hF : xF E s) (hS : va_S A s.heap H locs) (hA : ∀ q, A q → xA0 E q) (hL : ∀ q, q ∈ L → A q) (hP : va_P (xD E) vwCl wc H)
    (hn : av.length = n) (hl : ls.size = nL) (hst : st0 = av.reverse ++ rest) (hW : (rest.map fun v => v.category).sum ≤ 8) (hf : cells + 0 ≤ R.cells ∧ slots + 0 ≤ R.slots) (hdg : decode cc pc = .ok (.invokestatic index, 3))
    (kk : ∀ (H1 : Heap) (locs1 : List Loc), va_P (xD E) vwCl ws1 H1 → (∀ q : Nat, q < H.size → ¬ q ∈ L → H1[q]? = H[q]?) → va_S A s.heap H1 locs1 → W p l e R s m args below meth c H1 locs1 cells slots Q (F0 m (pc + 3) ls (r.toList ++ rest))) : W p l e R s m args below meth c H locs cells slots Q (F0 m pc ls st0) :=
  xmdEnd (a := av.toArray) hS hL (va_runS S hM cw ⟨xF_blind, xpre hF hS hA hP⟩ rfl hn hl hst (lv_room hW) hdg hf) kk
theorem xMdSN (S : CallFix p m c cc nL s args Ts own) (hM : xMd l E y w rm L av wc r ws1) (cw : va_CN R s args own index y host bytes maxL ret w rm 0 0 n ∧ (Cond.static y).before args s = true ∧ True) (hF : xF E s) (hS : va_S A s.heap H locs) (hA : ∀ q, A q → xA0 E q) (hL : ∀ q, q ∈ L → A q) (hP : va_P (xD E) vwCl wc H)
    (hn : av.length = n) (hl : ls.size = nL) (hst : st0 = av.reverse ++ rest) (hW : (rest.map fun v => v.category).sum ≤ 8) (hf : cells + 0 ≤ R.cells ∧ slots + 0 ≤ R.slots) (hdg : decode cc pc = .ok (.invokestatic index, 3))
    (kk : ∀ (H1 : Heap) (locs1 : List Loc), va_P (xD E) vwCl ws1 H1 → (∀ q : Nat, q < H.size → ¬ q ∈ L → H1[q]? = H[q]?) → va_S A s.heap H1 locs1 → W p l e R s m args below meth c H1 locs1 cells slots Q (F0 m (pc + 3) ls (r.toList ++ rest))) : W p l e R s m args below meth c H locs cells slots Q (F0 m pc ls st0) :=
  xmdEnd (a := av.toArray) hS hL (va_runSN S hM cw ⟨xF_blind, xpre hF hS hA hP⟩ rfl hn hl hst (lv_room hW) hdg hf) kk
theorem xMdV (S : CallFix p m c cc nL s args Ts own) (hM : xMd l E y w rm L (.ref b :: As) wc r ws1) (cw : CallW R s args own C index y bytes maxL ret w rm 0 0 n) (hF : xF E s) (hS : va_S A s.heap H locs) (hA : ∀ q, A q → xA0 E q) (hL : ∀ q, q ∈ L → A q) (hP : va_P (xD E) vwCl wc H)
    (hb : ∃ cellB : Cell, H[b]? = some cellB ∧ cellB.vm.isStatics = false ∧ s.vm.findClass C = some cellB.cls)
    (hn : As.length = n) (hl : ls.size = nL) (hst : st0 = As.reverse ++ .ref b :: rest) (hW : (rest.map fun v => v.category).sum ≤ 8) (hf : cells + 0 ≤ R.cells ∧ slots + 0 ≤ R.slots) (hdg : decode cc pc = .ok (.invokevirtual index, 3))
    (kk : ∀ (H1 : Heap) (locs1 : List Loc), va_P (xD E) vwCl ws1 H1 → (∀ q : Nat, q < H.size → ¬ q ∈ L → H1[q]? = H[q]?) → va_S A s.heap H1 locs1 → W p l e R s m args below meth c H1 locs1 cells slots Q (F0 m (pc + 3) ls (r.toList ++ rest))) : W p l e R s m args below meth c H locs cells slots Q (F0 m pc ls st0) :=
  xmdEnd (a := (Value.ref b :: As).toArray) hS hL (va_runV S hM cw ⟨xF_blind, hb, xpre hF hS hA hP⟩ rfl hn hl hst (lv_room hW) hdg hf) kk
end XC
/-- one cell of a world written by a call -/
theorem xset1 {D : va_G} {cl : List vw_C} {A : Nat → Prop} {p b : Nat} {ws : va_W} {e0 e : va_E} {H H1 : Heap} (hP : va_P D cl ws H) (hD : va_D A ws) (hp : ws[p]? = some (b, e0)) (h1 : va_P D cl [(b, e)] H1) (hk : ∀ q : Nat, q < H.size → ¬ q ∈ [b] → H1[q]? = H[q]?) : va_P D cl (ws.set p (b, e)) H1 := by
  intro k q hq
  by_cases hkp : k = p
  · subst hkp
    have hlt : k < ws.length := (List.getElem?_eq_some_iff.mp hp).1
    rw [List.getElem?_set_self hlt] at hq
    cases hq
    exact h1 0 _ rfl
  · rw [List.getElem?_set_ne (Ne.symm hkp)] at hq
    refine (hP k q hq).kept (hk _ (hP k q hq).lt (fun z => ?_))
    rw [List.mem_singleton] at z
    exact hkp (hD.1 k p q _ hq hp z)
/-- two cells -/
theorem xset2 {D : va_G} {cl : List vw_C} {A : Nat → Prop} {p p' b b' : Nat} {ws : va_W} {e0 e0' e e' : va_E} {H H1 : Heap} (hP : va_P D cl ws H) (hD : va_D A ws) (hp : ws[p]? = some (b, e0)) (hp' : ws[p']? = some (b', e0')) (hne : p ≠ p') (h1 : va_P D cl [(b, e), (b', e')] H1) (hk : ∀ q : Nat, q < H.size → ¬ q ∈ [b, b'] → H1[q]? = H[q]?) : va_P D cl ((ws.set p (b, e)).set p' (b', e')) H1 := by
  intro k q hq
  have hlt : p < ws.length := (List.getElem?_eq_some_iff.mp hp).1
  have hlt' : p' < ws.length := (List.getElem?_eq_some_iff.mp hp').1
  by_cases hkp' : k = p'
  · subst hkp'
    rw [List.getElem?_set_self (by rw [List.length_set]; exact hlt')] at hq
    cases hq
    exact h1 1 _ rfl
  · rw [List.getElem?_set_ne (Ne.symm hkp')] at hq
    by_cases hkp : k = p
    · subst hkp
      rw [List.getElem?_set_self hlt] at hq
      cases hq
      exact h1 0 _ rfl
    · rw [List.getElem?_set_ne (Ne.symm hkp)] at hq
      refine (hP k q hq).kept (hk _ (hP k q hq).lt (fun z => ?_))
      rw [List.mem_cons, List.mem_singleton] at z
      rcases z with z | z
      · exact hkp (hD.1 k p q _ hq hp z)
      · exact hkp' (hD.1 k p' q _ hq hp' z)
/-- worlds at the same addresses are apart alike -/
theorem xD_of {A : Nat → Prop} {ws : va_W} (hn : (ws.map (·.1)).Nodup) (hA : ∀ q, q ∈ ws.map (·.1) → A q) : va_D A ws := by
  refine ⟨fun i j x z hi hj e => ?_, fun k q hk => hA _ (List.mem_map.mpr ⟨q, List.mem_of_getElem? hk, rfl⟩)⟩
  have h1 : (ws.map (·.1))[i]? = some x.1 := by rw [List.getElem?_map, hi]; rfl
  have h2 : (ws.map (·.1))[j]? = some x.1 := by rw [List.getElem?_map, hj, e]; rfl
  have hi' := (List.getElem?_eq_some_iff.mp h1).1
  exact (List.getElem?_inj hi' hn).mp (h1.trans h2.symm)
/-- a boolean's own numbers -/
theorem xnb {v : Int32} (h : v = 0 ∨ v = 1) : narrow .boolean (.int v) = .int v := by
  rcases h with rfl | rfl <;> rfl
theorem xfb {v : Int32} (h : v = 0 ∨ v = 1) : fits .boolean (.int v) = true := by
  rcases h with rfl | rfl <;> rfl
/-- the state of the rows and fields: rows by number, fields by number -/
abbrev xU : Type := (Nat → Nat → Int32) × (Nat → Int32)
def uA (u : xU) (k i : Nat) (x : Int32) : xU := (fun j => if j = k then upd (u.1 k) i x else u.1 j, u.2)
def uR (u : xU) (k : Nat) (f : Nat → Int32) : xU := (fun j => if j = k then f else u.1 j, u.2)
def uZ (u : xU) (k : Nat) (x : Int32) : xU := (u.1, fun j => if j = k then x else u.2 j)
