/-! ===== small words that the printed walks use ===== -/
abbrev xQro (below : List Frame) (r : Option Value) (args : Array Value) (s : State) : State → Prop := MQ below (fun _ st oc t => oc = .returned r ∧ t.heap = st.heap) args s 0 0 (fun _ => False)
abbrev xQmd (E : xG) (below : List Frame) (L : List Nat) (r : Option Value) (ws' : va_W) (args : Array Value) (s : State) : State → Prop := MQ below (fun _ st oc t => (oc = .returned r ∧ va_P (xD E) vwCl ws' t.heap) ∧ va_F (· ∈ L) st t) args s 0 0 (· ∈ L)
def iAbs (x : Int32) : Int32 := if 0 ≤ x then x else 0 - x
def lAbs (x : Int64) : Int64 := if 0 < x then x else -x
def iMax (x y : Int32) : Int32 := if x < y then y else x
def iMin (x y : Int32) : Int32 := if y < x then y else x
def lMax (x y : Int64) : Int64 := if y < x then x else y
def iUshr (x y : Int32) : Int32 := (x.toUInt32 >>> (y.toUInt32 &&& Int32.toUInt32 31)).toInt32
def iRem (x y : Int32) : Int32 := x - x / y * y
abbrev xNO : Int64 := -9223372036854775808
theorem xsub1 {x : Nat} {L : List Nat} (h : x ∈ L) : ∀ q, q ∈ [x] → q ∈ L := fun q hq => by rw [List.mem_singleton.mp hq]; exact h
theorem xsub2 {x y : Nat} {P : Nat → Prop} (h : P x) (h2 : P y) : ∀ q, q ∈ [x, y] → P q := fun q hq => by
  rcases List.mem_cons.mp hq with z | z
  · rw [z]; exact h
  · rw [List.mem_singleton.mp z]; exact h2
theorem xnd2 {L : List Nat} (hn : L.Nodup) {i j x y : Nat} (hi : L[i]? = some x) (hj : L[j]? = some y) (hij : i ≠ j) : [x, y].Nodup := by
  have hne : x ≠ y := fun e => hij ((List.getElem?_inj (List.getElem?_eq_some_iff.mp hi).1 hn).mp (hi.trans (by rw [e]; exact hj.symm)))
  simp [hne]
theorem xsw (x : Int32) {lo hi : Int} (h : ∀ j : Int, lo ≤ j → j ≤ hi → x.toInt = j → False) : x.toInt < lo ∨ hi < x.toInt := by
  rcases Int.lt_or_le x.toInt lo with q | q
  · exact Or.inl q
  · rcases Int.lt_or_le hi x.toInt with q2 | q2
    · exact Or.inr q2
    · exact (h _ q q2 rfl).elim
theorem xin_of {i : Int32} {n : Nat} (hn : n < 2 ^ 31) (h0 : ¬ i < 0) (h1 : ¬ nI n ≤ i) : vp_in i n := by
  rcases pk_ix i hn with q | q | ⟨j, hj, rfl⟩
  · exact absurd q h0
  · exact absurd q h1
  · exact vp_in_nI hj hn
theorem xmem2 {P : Nat → Prop} {b : Nat} (h : P b) : ∀ q, q ∈ [b] → P q := fun q hq => by rw [List.mem_singleton.mp hq]; exact h
/-! ===== loops' bounds ===== -/
theorem xupc {i N : Int32} (h : ¬ N ≤ i) : (N.toInt - (i + 1).toInt).toNat < (N.toInt - i.toInt).toNat := by
  rw [fa_le] at h
  have h1 := fb_rng i
  have h2 := fb_rng N
  have e : (i + 1).toInt = i.toInt + 1 := fb_addI (x := i) (y := 1) (by rw [show (1 : Int32).toInt = 1 from rfl]; omega) (by rw [show (1 : Int32).toInt = 1 from rfl]; omega)
  rw [e]
  omega
theorem xupl {i N : Int32} (h : ¬ N < i) (hN : N.toInt < 2147483647) : (N.toInt + 1 - (i + 1).toInt).toNat < (N.toInt + 1 - i.toInt).toNat := by
  rw [fa_lt] at h
  have h1 := fb_rng i
  have e : (i + 1).toInt = i.toInt + 1 := fb_addI (x := i) (y := 1) (by rw [show (1 : Int32).toInt = 1 from rfl]; omega) (by rw [show (1 : Int32).toInt = 1 from rfl]; omega)
  rw [e]
  omega
theorem xdn5 {i : Int32} (h : ¬ i < 0) : ((i + (-5)).toInt + 5).toNat < (i.toInt + 5).toNat := by
  rw [fa_lt, show (0 : Int32).toInt = 0 from rfl] at h
  have h1 := fb_rng i
  have e : (i + (-5)).toInt = i.toInt + (-5) := fb_addI (x := i) (y := -5) (by rw [show (-5 : Int32).toInt = -5 from rfl]; omega) (by rw [show (-5 : Int32).toInt = -5 from rfl]; omega)
  rw [e]
  omega
theorem xup0 {i N : Int32} (h0 : ¬ i < 0) (h : ¬ N ≤ i) : ¬ i + 1 < 0 := by
  rw [fa_lt, show (0 : Int32).toInt = 0 from rfl] at h0 ⊢
  rw [fa_le] at h
  have h1 := fb_rng N
  have e : (i + 1).toInt = i.toInt + 1 := fb_addI (x := i) (y := 1) (by rw [show (1 : Int32).toInt = 1 from rfl]; omega) (by rw [show (1 : Int32).toInt = 1 from rfl]; omega)
  rw [e]
  omega
theorem xne0 {x : Int32} (h : ¬ x ≤ 0) : ¬ x = 0 := fun e => by
  rw [e] at h
  exact h (by decide)
abbrev wX (E : xG) (a : Nat → Nat) (u : xU) : va_W := [(a 0, .inr (5, [.ref (a 1), .ref (a 3), .ref (a 5), .ref (a 6), .ref (a 7), .ref (a 14), .ref (a 16), .ref (a 25), .int (u.2 0)])), (a 1, .inr (2, [.ref (a 2), .int (u.2 1)])), (a 2, .inl (xct E 0, 40, .inl (u.1 2))), (a 3, .inr (2, [.ref (a 4), .int (u.2 2)])), (a 4, .inl (xct E 0, 40, .inl (u.1 4))), (a 5, .inl (xct E 0, 8, .inl (u.1 5))), (a 6, .inl (xct E 0, 8, .inl (u.1 6))), (a 7, .inr (0, [.ref (a 1), .ref (a 8), .ref (a 9), .ref (a 10), .ref (a 11), .ref (a 12), .ref (a 13), .int (u.2 3)])), (a 8, .inl (xct E 0, 10, .inl (u.1 8))), (a 9, .inl (xct E 0, 201, .inl (u.1 9))), (a 10, .inl (xct E 0, 201, .inl (u.1 10))), (a 11, .inl (xct E 0, 201, .inl (u.1 11))), (a 12, .inl (xct E 0, 201, .inl (u.1 12))), (a 13, .inl (xct E 0, 201, .inl (u.1 13))), (a 14, .inr (1, [.ref (a 7), .ref (a 15), .ref (a 29)])), (a 15, .inl (xct E 0, 201, .inl (u.1 15))), (a 16, .inl (xct E 1, 4, .inr (.inr (.inr (.inr (fun j => some (a (17 + j)))))))), (a 17, .inr (3, [.ref (a 21), .int (u.2 4), .int (u.2 8)])), (a 18, .inr (3, [.ref (a 22), .int (u.2 5), .int (u.2 9)])), (a 19, .inr (3, [.ref (a 23), .int (u.2 6), .int (u.2 10)])), (a 20, .inr (3, [.ref (a 24), .int (u.2 7), .int (u.2 11)])), (a 21, .inl (xct E 0, 40, .inl (u.1 21))), (a 22, .inl (xct E 0, 40, .inl (u.1 22))), (a 23, .inl (xct E 0, 40, .inl (u.1 23))), (a 24, .inl (xct E 0, 40, .inl (u.1 24))), (a 25, .inr (4, [.ref (a 26), .ref (a 27), .ref (a 28), .int (u.2 12), .int (u.2 13), .int (u.2 14), .int (u.2 15), .int (u.2 16), .int (u.2 17)])), (a 26, .inl (xct E 0, 60, .inl (u.1 26))), (a 27, .inl (xct E 0, 12, .inl (u.1 27))), (a 28, .inl (xct E 0, 48, .inl (u.1 28))), (a 29, .inl (xct E 0, 201, .inl (u.1 29)))]
abbrev LX (a : Nat → Nat) : List Nat := [a 0, a 1, a 2, a 3, a 4, a 5, a 6, a 7, a 8, a 9, a 10, a 11, a 12, a 13, a 14, a 15, a 16, a 17, a 18, a 19, a 20, a 21, a 22, a 23, a 24, a 25, a 26, a 27, a 28, a 29]
abbrev wM (E : xG) (a : Nat → Nat) (u : xU) : va_W := [(a 0, .inr (6, [.ref (a 1), .ref (a 2), .int (u.2 0), .ref (a 3), .ref (a 4), .ref (a 5), .ref (a 6), .ref (a 7), .int (u.2 1), .int (u.2 2), .int (u.2 3), .ref (a 8), .ref (a 9), .ref (a 10), .ref (a 11), .ref (a 12), .ref (a 13), .ref (a 14), .int (u.2 4), .ref (a 15), .ref (a 16), .ref (a 17), .int (u.2 5), .int (u.2 6), .int (u.2 7), .int (u.2 8), .ref (a 18), .int (u.2 9)])), (a 1, .inl (xct E 0, 49, .inl (u.1 1))), (a 2, .inl (xct E 0, 49, .inl (u.1 2))), (a 3, .inl (xct E 0, 201, .inl (u.1 3))), (a 4, .inl (xct E 0, 201, .inl (u.1 4))), (a 5, .inl (xct E 0, 201, .inl (u.1 5))), (a 6, .inl (xct E 0, 201, .inl (u.1 6))), (a 7, .inl (xct E 0, 201, .inl (u.1 7))), (a 8, .inl (xct E 0, 4, .inl (u.1 8))), (a 9, .inl (xct E 0, 4, .inl (u.1 9))), (a 10, .inl (xct E 0, 160, .inl (u.1 10))), (a 11, .inl (xct E 0, 40, .inl (u.1 11))), (a 12, .inl (xct E 0, 201, .inl (u.1 12))), (a 13, .inl (xct E 0, 201, .inl (u.1 13))), (a 14, .inl (xct E 0, 60, .inl (u.1 14))), (a 15, .inl (xct E 2, 22, .inl (u.1 15))), (a 16, .inl (xct E 0, 6, .inl (u.1 16))), (a 17, .inl (xct E 0, 5, .inl (u.1 17))), (a 18, .inl (xct E 0, 100, .inl (u.1 18)))]
abbrev LM (a : Nat → Nat) : List Nat := [a 0, a 1, a 2, a 3, a 4, a 5, a 6, a 7, a 8, a 9, a 10, a 11, a 12, a 13, a 14, a 15, a 16, a 17, a 18]
abbrev wS (E : xG) (h i : Nat) (u : xU) : va_W := [(h, .inr (3, [.ref i, .int (u.2 0), .int (u.2 1)])), (i, .inl (xct E 0, 40, .inl (u.1 0)))]
def xOK (E : xG) (L : List Nat) : Prop := L.Nodup ∧ ∀ q ∈ L, xA0 E q
def uS (u : xU) (k : Nat) : xU := (fun _ => u.1 (21 + k), fun j => if j = 0 then u.2 (4 + k) else u.2 (8 + k))
def uP (u : xU) (k : Nat) (v : xU) : xU := (fun j => if j = 21 + k then v.1 0 else u.1 j, fun j => if j = 4 + k then v.2 0 else if j = 8 + k then v.2 1 else u.2 j)
theorem hd_X0_attempt : yX0_attempt.cls ≠ "java/lang/invoke/MethodHandle" ∧ yX0_attempt.cls ≠ "java/lang/invoke/VarHandle" ∧ (parseMethodDescriptor yX0_attempt.desc).map (fun d => d.parameters.length) = some 3 := by decide +kernel
theorem hd_X0_endVersine : yX0_endVersine.cls ≠ "java/lang/invoke/MethodHandle" ∧ yX0_endVersine.cls ≠ "java/lang/invoke/VarHandle" ∧ (parseMethodDescriptor yX0_endVersine.desc).map (fun d => d.parameters.length) = some 1 := by decide +kernel
theorem hd_X0_fill : yX0_fill.cls ≠ "java/lang/invoke/MethodHandle" ∧ yX0_fill.cls ≠ "java/lang/invoke/VarHandle" ∧ (parseMethodDescriptor yX0_fill.desc).map (fun d => d.parameters.length) = some 1 := by decide +kernel
theorem hd_X0_firstOf : yX0_firstOf.cls ≠ "java/lang/invoke/MethodHandle" ∧ yX0_firstOf.cls ≠ "java/lang/invoke/VarHandle" ∧ (parseMethodDescriptor yX0_firstOf.desc).map (fun d => d.parameters.length) = some 1 := by decide +kernel
theorem hd_X0_init : yX0_init.cls ≠ "java/lang/invoke/MethodHandle" ∧ yX0_init.cls ≠ "java/lang/invoke/VarHandle" ∧ (parseMethodDescriptor yX0_init.desc).map (fun d => d.parameters.length) = some 1 := by decide +kernel
theorem hd_X0_lastOf : yX0_lastOf.cls ≠ "java/lang/invoke/MethodHandle" ∧ yX0_lastOf.cls ≠ "java/lang/invoke/VarHandle" ∧ (parseMethodDescriptor yX0_lastOf.desc).map (fun d => d.parameters.length) = some 1 := by decide +kernel
theorem hd_X0_lay : yX0_lay.cls ≠ "java/lang/invoke/MethodHandle" ∧ yX0_lay.cls ≠ "java/lang/invoke/VarHandle" ∧ (parseMethodDescriptor yX0_lay.desc).map (fun d => d.parameters.length) = some 0 := by decide +kernel
theorem hd_X0_offsetBut : yX0_offsetBut.cls ≠ "java/lang/invoke/MethodHandle" ∧ yX0_offsetBut.cls ≠ "java/lang/invoke/VarHandle" ∧ (parseMethodDescriptor yX0_offsetBut.desc).map (fun d => d.parameters.length) = some 1 := by decide +kernel
theorem hd_X0_offsetOf : yX0_offsetOf.cls ≠ "java/lang/invoke/MethodHandle" ∧ yX0_offsetOf.cls ≠ "java/lang/invoke/VarHandle" ∧ (parseMethodDescriptor yX0_offsetOf.desc).map (fun d => d.parameters.length) = some 1 := by decide +kernel
theorem hd_X0_offsetReached : yX0_offsetReached.cls ≠ "java/lang/invoke/MethodHandle" ∧ yX0_offsetReached.cls ≠ "java/lang/invoke/VarHandle" ∧ (parseMethodDescriptor yX0_offsetReached.desc).map (fun d => d.parameters.length) = some 1 := by decide +kernel
theorem hd_X0_turnBut : yX0_turnBut.cls ≠ "java/lang/invoke/MethodHandle" ∧ yX0_turnBut.cls ≠ "java/lang/invoke/VarHandle" ∧ (parseMethodDescriptor yX0_turnBut.desc).map (fun d => d.parameters.length) = some 1 := by decide +kernel
theorem hd_X0_turnOf : yX0_turnOf.cls ≠ "java/lang/invoke/MethodHandle" ∧ yX0_turnOf.cls ≠ "java/lang/invoke/VarHandle" ∧ (parseMethodDescriptor yX0_turnOf.desc).map (fun d => d.parameters.length) = some 1 := by decide +kernel
theorem hd_X0_turnReached : yX0_turnReached.cls ≠ "java/lang/invoke/MethodHandle" ∧ yX0_turnReached.cls ≠ "java/lang/invoke/VarHandle" ∧ (parseMethodDescriptor yX0_turnReached.desc).map (fun d => d.parameters.length) = some 1 := by decide +kernel
theorem hd_X1_err : yX1_err.cls ≠ "java/lang/invoke/MethodHandle" ∧ yX1_err.cls ≠ "java/lang/invoke/VarHandle" ∧ (parseMethodDescriptor yX1_err.desc).map (fun d => d.parameters.length) = some 2 := by decide +kernel
theorem hd_X1_greatest : yX1_greatest.cls ≠ "java/lang/invoke/MethodHandle" ∧ yX1_greatest.cls ≠ "java/lang/invoke/VarHandle" ∧ (parseMethodDescriptor yX1_greatest.desc).map (fun d => d.parameters.length) = some 0 := by decide +kernel
theorem hd_X1_init : yX1_init.cls ≠ "java/lang/invoke/MethodHandle" ∧ yX1_init.cls ≠ "java/lang/invoke/VarHandle" ∧ (parseMethodDescriptor yX1_init.desc).map (fun d => d.parameters.length) = some 1 := by decide +kernel
theorem hd_X1_slewAt : yX1_slewAt.cls ≠ "java/lang/invoke/MethodHandle" ∧ yX1_slewAt.cls ≠ "java/lang/invoke/VarHandle" ∧ (parseMethodDescriptor yX1_slewAt.desc).map (fun d => d.parameters.length) = some 1 := by decide +kernel
theorem hd_X1_sum : yX1_sum.cls ≠ "java/lang/invoke/MethodHandle" ∧ yX1_sum.cls ≠ "java/lang/invoke/VarHandle" ∧ (parseMethodDescriptor yX1_sum.desc).map (fun d => d.parameters.length) = some 0 := by decide +kernel
theorem hd_X1_tell : yX1_tell.cls ≠ "java/lang/invoke/MethodHandle" ∧ yX1_tell.cls ≠ "java/lang/invoke/VarHandle" ∧ (parseMethodDescriptor yX1_tell.desc).map (fun d => d.parameters.length) = some 1 := by decide +kernel
theorem hd_X1_together : yX1_together.cls ≠ "java/lang/invoke/MethodHandle" ∧ yX1_together.cls ≠ "java/lang/invoke/VarHandle" ∧ (parseMethodDescriptor yX1_together.desc).map (fun d => d.parameters.length) = some 0 := by decide +kernel
theorem hd_X1_widest : yX1_widest.cls ≠ "java/lang/invoke/MethodHandle" ∧ yX1_widest.cls ≠ "java/lang/invoke/VarHandle" ∧ (parseMethodDescriptor yX1_widest.desc).map (fun d => d.parameters.length) = some 0 := by decide +kernel
theorem hd_X2_has : yX2_has.cls ≠ "java/lang/invoke/MethodHandle" ∧ yX2_has.cls ≠ "java/lang/invoke/VarHandle" ∧ (parseMethodDescriptor yX2_has.desc).map (fun d => d.parameters.length) = some 1 := by decide +kernel
theorem hd_X2_init : yX2_init.cls ≠ "java/lang/invoke/MethodHandle" ∧ yX2_init.cls ≠ "java/lang/invoke/VarHandle" ∧ (parseMethodDescriptor yX2_init.desc).map (fun d => d.parameters.length) = some 0 := by decide +kernel
theorem hd_X2_read : yX2_read.cls ≠ "java/lang/invoke/MethodHandle" ∧ yX2_read.cls ≠ "java/lang/invoke/VarHandle" ∧ (parseMethodDescriptor yX2_read.desc).map (fun d => d.parameters.length) = some 2 := by decide +kernel
theorem hd_X2_same : yX2_same.cls ≠ "java/lang/invoke/MethodHandle" ∧ yX2_same.cls ≠ "java/lang/invoke/VarHandle" ∧ (parseMethodDescriptor yX2_same.desc).map (fun d => d.parameters.length) = some 2 := by decide +kernel
theorem hd_X2_takeFrom : yX2_takeFrom.cls ≠ "java/lang/invoke/MethodHandle" ∧ yX2_takeFrom.cls ≠ "java/lang/invoke/VarHandle" ∧ (parseMethodDescriptor yX2_takeFrom.desc).map (fun d => d.parameters.length) = some 1 := by decide +kernel
theorem hd_X2_write : yX2_write.cls ≠ "java/lang/invoke/MethodHandle" ∧ yX2_write.cls ≠ "java/lang/invoke/VarHandle" ∧ (parseMethodDescriptor yX2_write.desc).map (fun d => d.parameters.length) = some 3 := by decide +kernel
theorem hd_X3_become : yX3_become.cls ≠ "java/lang/invoke/MethodHandle" ∧ yX3_become.cls ≠ "java/lang/invoke/VarHandle" ∧ (parseMethodDescriptor yX3_become.desc).map (fun d => d.parameters.length) = some 2 := by decide +kernel
theorem hd_X3_init : yX3_init.cls ≠ "java/lang/invoke/MethodHandle" ∧ yX3_init.cls ≠ "java/lang/invoke/VarHandle" ∧ (parseMethodDescriptor yX3_init.desc).map (fun d => d.parameters.length) = some 0 := by decide +kernel
theorem hd_X3_isMissing : yX3_isMissing.cls ≠ "java/lang/invoke/MethodHandle" ∧ yX3_isMissing.cls ≠ "java/lang/invoke/VarHandle" ∧ (parseMethodDescriptor yX3_isMissing.desc).map (fun d => d.parameters.length) = some 0 := by decide +kernel
theorem hd_X3_read : yX3_read.cls ≠ "java/lang/invoke/MethodHandle" ∧ yX3_read.cls ≠ "java/lang/invoke/VarHandle" ∧ (parseMethodDescriptor yX3_read.desc).map (fun d => d.parameters.length) = some 1 := by decide +kernel
theorem hd_X3_write : yX3_write.cls ≠ "java/lang/invoke/MethodHandle" ∧ yX3_write.cls ≠ "java/lang/invoke/VarHandle" ∧ (parseMethodDescriptor yX3_write.desc).map (fun d => d.parameters.length) = some 2 := by decide +kernel
theorem hd_X4_append : yX4_append.cls ≠ "java/lang/invoke/MethodHandle" ∧ yX4_append.cls ≠ "java/lang/invoke/VarHandle" ∧ (parseMethodDescriptor yX4_append.desc).map (fun d => d.parameters.length) = some 1 := by decide +kernel
theorem hd_X4_faultOf : yX4_faultOf.cls ≠ "java/lang/invoke/MethodHandle" ∧ yX4_faultOf.cls ≠ "java/lang/invoke/VarHandle" ∧ (parseMethodDescriptor yX4_faultOf.desc).map (fun d => d.parameters.length) = some 0 := by decide +kernel
theorem hd_X4_init : yX4_init.cls ≠ "java/lang/invoke/MethodHandle" ∧ yX4_init.cls ≠ "java/lang/invoke/VarHandle" ∧ (parseMethodDescriptor yX4_init.desc).map (fun d => d.parameters.length) = some 0 := by decide +kernel
theorem hd_X4_isBlank : yX4_isBlank.cls ≠ "java/lang/invoke/MethodHandle" ∧ yX4_isBlank.cls ≠ "java/lang/invoke/VarHandle" ∧ (parseMethodDescriptor yX4_isBlank.desc).map (fun d => d.parameters.length) = some 1 := by decide +kernel
theorem hd_X4_isDigit : yX4_isDigit.cls ≠ "java/lang/invoke/MethodHandle" ∧ yX4_isDigit.cls ≠ "java/lang/invoke/VarHandle" ∧ (parseMethodDescriptor yX4_isDigit.desc).map (fun d => d.parameters.length) = some 1 := by decide +kernel
theorem hd_X4_isLetter : yX4_isLetter.cls ≠ "java/lang/invoke/MethodHandle" ∧ yX4_isLetter.cls ≠ "java/lang/invoke/VarHandle" ∧ (parseMethodDescriptor yX4_isLetter.desc).map (fun d => d.parameters.length) = some 1 := by decide +kernel
theorem hd_X4_nameOf : yX4_nameOf.cls ≠ "java/lang/invoke/MethodHandle" ∧ yX4_nameOf.cls ≠ "java/lang/invoke/VarHandle" ∧ (parseMethodDescriptor yX4_nameOf.desc).map (fun d => d.parameters.length) = some 1 := by decide +kernel
theorem hd_X4_nextToken : yX4_nextToken.cls ≠ "java/lang/invoke/MethodHandle" ∧ yX4_nextToken.cls ≠ "java/lang/invoke/VarHandle" ∧ (parseMethodDescriptor yX4_nextToken.desc).map (fun d => d.parameters.length) = some 0 := by decide +kernel
theorem hd_X4_numberOf : yX4_numberOf.cls ≠ "java/lang/invoke/MethodHandle" ∧ yX4_numberOf.cls ≠ "java/lang/invoke/VarHandle" ∧ (parseMethodDescriptor yX4_numberOf.desc).map (fun d => d.parameters.length) = some 2 := by decide +kernel
theorem hd_X4_readClause : yX4_readClause.cls ≠ "java/lang/invoke/MethodHandle" ∧ yX4_readClause.cls ≠ "java/lang/invoke/VarHandle" ∧ (parseMethodDescriptor yX4_readClause.desc).map (fun d => d.parameters.length) = some 0 := by decide +kernel
theorem hd_X4_readNumber : yX4_readNumber.cls ≠ "java/lang/invoke/MethodHandle" ∧ yX4_readNumber.cls ≠ "java/lang/invoke/VarHandle" ∧ (parseMethodDescriptor yX4_readNumber.desc).map (fun d => d.parameters.length) = some 0 := by decide +kernel
theorem hd_X4_readWord : yX4_readWord.cls ≠ "java/lang/invoke/MethodHandle" ∧ yX4_readWord.cls ≠ "java/lang/invoke/VarHandle" ∧ (parseMethodDescriptor yX4_readWord.desc).map (fun d => d.parameters.length) = some 0 := by decide +kernel
theorem hd_X4_spells : yX4_spells.cls ≠ "java/lang/invoke/MethodHandle" ∧ yX4_spells.cls ≠ "java/lang/invoke/VarHandle" ∧ (parseMethodDescriptor yX4_spells.desc).map (fun d => d.parameters.length) = some 1 := by decide +kernel
theorem hd_X4_wordOf : yX4_wordOf.cls ≠ "java/lang/invoke/MethodHandle" ∧ yX4_wordOf.cls ≠ "java/lang/invoke/VarHandle" ∧ (parseMethodDescriptor yX4_wordOf.desc).map (fun d => d.parameters.length) = some 1 := by decide +kernel
theorem hd_X5_alike : yX5_alike.cls ≠ "java/lang/invoke/MethodHandle" ∧ yX5_alike.cls ≠ "java/lang/invoke/VarHandle" ∧ (parseMethodDescriptor yX5_alike.desc).map (fun d => d.parameters.length) = some 1 := by decide +kernel
theorem hd_X5_alikeTo : yX5_alikeTo.cls ≠ "java/lang/invoke/MethodHandle" ∧ yX5_alikeTo.cls ≠ "java/lang/invoke/VarHandle" ∧ (parseMethodDescriptor yX5_alikeTo.desc).map (fun d => d.parameters.length) = some 1 := by decide +kernel
theorem hd_X5_along : yX5_along.cls ≠ "java/lang/invoke/MethodHandle" ∧ yX5_along.cls ≠ "java/lang/invoke/VarHandle" ∧ (parseMethodDescriptor yX5_along.desc).map (fun d => d.parameters.length) = some 5 := by decide +kernel
theorem hd_X5_apartAhead : yX5_apartAhead.cls ≠ "java/lang/invoke/MethodHandle" ∧ yX5_apartAhead.cls ≠ "java/lang/invoke/VarHandle" ∧ (parseMethodDescriptor yX5_apartAhead.desc).map (fun d => d.parameters.length) = some 2 := by decide +kernel
theorem hd_X5_at : yX5_at.cls ≠ "java/lang/invoke/MethodHandle" ∧ yX5_at.cls ≠ "java/lang/invoke/VarHandle" ∧ (parseMethodDescriptor yX5_at.desc).map (fun d => d.parameters.length) = some 2 := by decide +kernel
theorem hd_X5_back : yX5_back.cls ≠ "java/lang/invoke/MethodHandle" ∧ yX5_back.cls ≠ "java/lang/invoke/VarHandle" ∧ (parseMethodDescriptor yX5_back.desc).map (fun d => d.parameters.length) = some 0 := by decide +kernel
theorem hd_X5_both : yX5_both.cls ≠ "java/lang/invoke/MethodHandle" ∧ yX5_both.cls ≠ "java/lang/invoke/VarHandle" ∧ (parseMethodDescriptor yX5_both.desc).map (fun d => d.parameters.length) = some 2 := by decide +kernel
theorem hd_X5_by : yX5_by.cls ≠ "java/lang/invoke/MethodHandle" ∧ yX5_by.cls ≠ "java/lang/invoke/VarHandle" ∧ (parseMethodDescriptor yX5_by.desc).map (fun d => d.parameters.length) = some 2 := by decide +kernel
theorem hd_X5_carryOut : yX5_carryOut.cls ≠ "java/lang/invoke/MethodHandle" ∧ yX5_carryOut.cls ≠ "java/lang/invoke/VarHandle" ∧ (parseMethodDescriptor yX5_carryOut.desc).map (fun d => d.parameters.length) = some 1 := by decide +kernel
theorem hd_X5_cell : yX5_cell.cls ≠ "java/lang/invoke/MethodHandle" ∧ yX5_cell.cls ≠ "java/lang/invoke/VarHandle" ∧ (parseMethodDescriptor yX5_cell.desc).map (fun d => d.parameters.length) = some 2 := by decide +kernel
theorem hd_X5_chance : yX5_chance.cls ≠ "java/lang/invoke/MethodHandle" ∧ yX5_chance.cls ≠ "java/lang/invoke/VarHandle" ∧ (parseMethodDescriptor yX5_chance.desc).map (fun d => d.parameters.length) = some 5 := by decide +kernel
theorem hd_X5_commonDivisor : yX5_commonDivisor.cls ≠ "java/lang/invoke/MethodHandle" ∧ yX5_commonDivisor.cls ≠ "java/lang/invoke/VarHandle" ∧ (parseMethodDescriptor yX5_commonDivisor.desc).map (fun d => d.parameters.length) = some 2 := by decide +kernel
theorem hd_X5_copy : yX5_copy.cls ≠ "java/lang/invoke/MethodHandle" ∧ yX5_copy.cls ≠ "java/lang/invoke/VarHandle" ∧ (parseMethodDescriptor yX5_copy.desc).map (fun d => d.parameters.length) = some 5 := by decide +kernel
theorem hd_X5_count : yX5_count.cls ≠ "java/lang/invoke/MethodHandle" ∧ yX5_count.cls ≠ "java/lang/invoke/VarHandle" ∧ (parseMethodDescriptor yX5_count.desc).map (fun d => d.parameters.length) = some 1 := by decide +kernel
theorem hd_X5_drop : yX5_drop.cls ≠ "java/lang/invoke/MethodHandle" ∧ yX5_drop.cls ≠ "java/lang/invoke/VarHandle" ∧ (parseMethodDescriptor yX5_drop.desc).map (fun d => d.parameters.length) = some 0 := by decide +kernel
theorem hd_X5_errors : yX5_errors.cls ≠ "java/lang/invoke/MethodHandle" ∧ yX5_errors.cls ≠ "java/lang/invoke/VarHandle" ∧ (parseMethodDescriptor yX5_errors.desc).map (fun d => d.parameters.length) = some 2 := by decide +kernel
theorem hd_X5_fault : yX5_fault.cls ≠ "java/lang/invoke/MethodHandle" ∧ yX5_fault.cls ≠ "java/lang/invoke/VarHandle" ∧ (parseMethodDescriptor yX5_fault.desc).map (fun d => d.parameters.length) = some 1 := by decide +kernel
theorem hd_X5_feed : yX5_feed.cls ≠ "java/lang/invoke/MethodHandle" ∧ yX5_feed.cls ≠ "java/lang/invoke/VarHandle" ∧ (parseMethodDescriptor yX5_feed.desc).map (fun d => d.parameters.length) = some 6 := by decide +kernel
theorem hd_X5_film : yX5_film.cls ≠ "java/lang/invoke/MethodHandle" ∧ yX5_film.cls ≠ "java/lang/invoke/VarHandle" ∧ (parseMethodDescriptor yX5_film.desc).map (fun d => d.parameters.length) = some 3 := by decide +kernel
theorem hd_X5_firstFault : yX5_firstFault.cls ≠ "java/lang/invoke/MethodHandle" ∧ yX5_firstFault.cls ≠ "java/lang/invoke/VarHandle" ∧ (parseMethodDescriptor yX5_firstFault.desc).map (fun d => d.parameters.length) = some 0 := by decide +kernel
theorem hd_X5_firstOtherwise : yX5_firstOtherwise.cls ≠ "java/lang/invoke/MethodHandle" ∧ yX5_firstOtherwise.cls ≠ "java/lang/invoke/VarHandle" ∧ (parseMethodDescriptor yX5_firstOtherwise.desc).map (fun d => d.parameters.length) = some 2 := by decide +kernel
theorem hd_X5_firstToMeet : yX5_firstToMeet.cls ≠ "java/lang/invoke/MethodHandle" ∧ yX5_firstToMeet.cls ≠ "java/lang/invoke/VarHandle" ∧ (parseMethodDescriptor yX5_firstToMeet.desc).map (fun d => d.parameters.length) = some 1 := by decide +kernel
theorem hd_X5_fits : yX5_fits.cls ≠ "java/lang/invoke/MethodHandle" ∧ yX5_fits.cls ≠ "java/lang/invoke/VarHandle" ∧ (parseMethodDescriptor yX5_fits.desc).map (fun d => d.parameters.length) = some 2 := by decide +kernel
theorem hd_X5_image : yX5_image.cls ≠ "java/lang/invoke/MethodHandle" ∧ yX5_image.cls ≠ "java/lang/invoke/VarHandle" ∧ (parseMethodDescriptor yX5_image.desc).map (fun d => d.parameters.length) = some 0 := by decide +kernel
theorem hd_X5_init : yX5_init.cls ≠ "java/lang/invoke/MethodHandle" ∧ yX5_init.cls ≠ "java/lang/invoke/VarHandle" ∧ (parseMethodDescriptor yX5_init.desc).map (fun d => d.parameters.length) = some 0 := by decide +kernel
theorem hd_X5_isByte : yX5_isByte.cls ≠ "java/lang/invoke/MethodHandle" ∧ yX5_isByte.cls ≠ "java/lang/invoke/VarHandle" ∧ (parseMethodDescriptor yX5_isByte.desc).map (fun d => d.parameters.length) = some 1 := by decide +kernel
theorem hd_X5_isUnder : yX5_isUnder.cls ≠ "java/lang/invoke/MethodHandle" ∧ yX5_isUnder.cls ≠ "java/lang/invoke/VarHandle" ∧ (parseMethodDescriptor yX5_isUnder.desc).map (fun d => d.parameters.length) = some 2 := by decide +kernel
theorem hd_X5_join : yX5_join.cls ≠ "java/lang/invoke/MethodHandle" ∧ yX5_join.cls ≠ "java/lang/invoke/VarHandle" ∧ (parseMethodDescriptor yX5_join.desc).map (fun d => d.parameters.length) = some 2 := by decide +kernel
theorem hd_X5_joins : yX5_joins.cls ≠ "java/lang/invoke/MethodHandle" ∧ yX5_joins.cls ≠ "java/lang/invoke/VarHandle" ∧ (parseMethodDescriptor yX5_joins.desc).map (fun d => d.parameters.length) = some 0 := by decide +kernel
theorem hd_X5_jumps : yX5_jumps.cls ≠ "java/lang/invoke/MethodHandle" ∧ yX5_jumps.cls ≠ "java/lang/invoke/VarHandle" ∧ (parseMethodDescriptor yX5_jumps.desc).map (fun d => d.parameters.length) = some 1 := by decide +kernel
theorem hd_X5_kindsTold : yX5_kindsTold.cls ≠ "java/lang/invoke/MethodHandle" ∧ yX5_kindsTold.cls ≠ "java/lang/invoke/VarHandle" ∧ (parseMethodDescriptor yX5_kindsTold.desc).map (fun d => d.parameters.length) = some 3 := by decide +kernel
theorem hd_X5_lacks : yX5_lacks.cls ≠ "java/lang/invoke/MethodHandle" ∧ yX5_lacks.cls ≠ "java/lang/invoke/VarHandle" ∧ (parseMethodDescriptor yX5_lacks.desc).map (fun d => d.parameters.length) = some 2 := by decide +kernel
theorem hd_X5_lacksWithin : yX5_lacksWithin.cls ≠ "java/lang/invoke/MethodHandle" ∧ yX5_lacksWithin.cls ≠ "java/lang/invoke/VarHandle" ∧ (parseMethodDescriptor yX5_lacksWithin.desc).map (fun d => d.parameters.length) = some 1 := by decide +kernel
theorem hd_X5_least : yX5_least.cls ≠ "java/lang/invoke/MethodHandle" ∧ yX5_least.cls ≠ "java/lang/invoke/VarHandle" ∧ (parseMethodDescriptor yX5_least.desc).map (fun d => d.parameters.length) = some 1 := by decide +kernel
theorem hd_X5_limit : yX5_limit.cls ≠ "java/lang/invoke/MethodHandle" ∧ yX5_limit.cls ≠ "java/lang/invoke/VarHandle" ∧ (parseMethodDescriptor yX5_limit.desc).map (fun d => d.parameters.length) = some 0 := by decide +kernel
theorem hd_X5_load : yX5_load.cls ≠ "java/lang/invoke/MethodHandle" ∧ yX5_load.cls ≠ "java/lang/invoke/VarHandle" ∧ (parseMethodDescriptor yX5_load.desc).map (fun d => d.parameters.length) = some 4 := by decide +kernel
theorem hd_X5_made : yX5_made.cls ≠ "java/lang/invoke/MethodHandle" ∧ yX5_made.cls ≠ "java/lang/invoke/VarHandle" ∧ (parseMethodDescriptor yX5_made.desc).map (fun d => d.parameters.length) = some 2 := by decide +kernel
theorem hd_X5_mark : yX5_mark.cls ≠ "java/lang/invoke/MethodHandle" ∧ yX5_mark.cls ≠ "java/lang/invoke/VarHandle" ∧ (parseMethodDescriptor yX5_mark.desc).map (fun d => d.parameters.length) = some 3 := by decide +kernel
theorem hd_X5_may : yX5_may.cls ≠ "java/lang/invoke/MethodHandle" ∧ yX5_may.cls ≠ "java/lang/invoke/VarHandle" ∧ (parseMethodDescriptor yX5_may.desc).map (fun d => d.parameters.length) = some 1 := by decide +kernel
theorem hd_X5_meets : yX5_meets.cls ≠ "java/lang/invoke/MethodHandle" ∧ yX5_meets.cls ≠ "java/lang/invoke/VarHandle" ∧ (parseMethodDescriptor yX5_meets.desc).map (fun d => d.parameters.length) = some 1 := by decide +kernel
theorem hd_X5_meetsBy : yX5_meetsBy.cls ≠ "java/lang/invoke/MethodHandle" ∧ yX5_meetsBy.cls ≠ "java/lang/invoke/VarHandle" ∧ (parseMethodDescriptor yX5_meetsBy.desc).map (fun d => d.parameters.length) = some 4 := by decide +kernel
theorem hd_X5_miss : yX5_miss.cls ≠ "java/lang/invoke/MethodHandle" ∧ yX5_miss.cls ≠ "java/lang/invoke/VarHandle" ∧ (parseMethodDescriptor yX5_miss.desc).map (fun d => d.parameters.length) = some 1 := by decide +kernel
theorem hd_X5_need : yX5_need.cls ≠ "java/lang/invoke/MethodHandle" ∧ yX5_need.cls ≠ "java/lang/invoke/VarHandle" ∧ (parseMethodDescriptor yX5_need.desc).map (fun d => d.parameters.length) = some 2 := by decide +kernel
theorem hd_X5_needBy : yX5_needBy.cls ≠ "java/lang/invoke/MethodHandle" ∧ yX5_needBy.cls ≠ "java/lang/invoke/VarHandle" ∧ (parseMethodDescriptor yX5_needBy.desc).map (fun d => d.parameters.length) = some 2 := by decide +kernel
theorem hd_X5_of : yX5_of.cls ≠ "java/lang/invoke/MethodHandle" ∧ yX5_of.cls ≠ "java/lang/invoke/VarHandle" ∧ (parseMethodDescriptor yX5_of.desc).map (fun d => d.parameters.length) = some 2 := by decide +kernel
theorem hd_X5_piece : yX5_piece.cls ≠ "java/lang/invoke/MethodHandle" ∧ yX5_piece.cls ≠ "java/lang/invoke/VarHandle" ∧ (parseMethodDescriptor yX5_piece.desc).map (fun d => d.parameters.length) = some 4 := by decide +kernel
theorem hd_X5_put : yX5_put.cls ≠ "java/lang/invoke/MethodHandle" ∧ yX5_put.cls ≠ "java/lang/invoke/VarHandle" ∧ (parseMethodDescriptor yX5_put.desc).map (fun d => d.parameters.length) = some 3 := by decide +kernel
theorem hd_X5_raised : yX5_raised.cls ≠ "java/lang/invoke/MethodHandle" ∧ yX5_raised.cls ≠ "java/lang/invoke/VarHandle" ∧ (parseMethodDescriptor yX5_raised.desc).map (fun d => d.parameters.length) = some 0 := by decide +kernel
theorem hd_X5_reversed : yX5_reversed.cls ≠ "java/lang/invoke/MethodHandle" ∧ yX5_reversed.cls ≠ "java/lang/invoke/VarHandle" ∧ (parseMethodDescriptor yX5_reversed.desc).map (fun d => d.parameters.length) = some 0 := by decide +kernel
theorem hd_X5_rootOf : yX5_rootOf.cls ≠ "java/lang/invoke/MethodHandle" ∧ yX5_rootOf.cls ≠ "java/lang/invoke/VarHandle" ∧ (parseMethodDescriptor yX5_rootOf.desc).map (fun d => d.parameters.length) = some 2 := by decide +kernel
theorem hd_X5_rule : yX5_rule.cls ≠ "java/lang/invoke/MethodHandle" ∧ yX5_rule.cls ≠ "java/lang/invoke/VarHandle" ∧ (parseMethodDescriptor yX5_rule.desc).map (fun d => d.parameters.length) = some 2 := by decide +kernel
theorem hd_X5_runs : yX5_runs.cls ≠ "java/lang/invoke/MethodHandle" ∧ yX5_runs.cls ≠ "java/lang/invoke/VarHandle" ∧ (parseMethodDescriptor yX5_runs.desc).map (fun d => d.parameters.length) = some 2 := by decide +kernel
theorem hd_X5_runsAll : yX5_runsAll.cls ≠ "java/lang/invoke/MethodHandle" ∧ yX5_runsAll.cls ≠ "java/lang/invoke/VarHandle" ∧ (parseMethodDescriptor yX5_runsAll.desc).map (fun d => d.parameters.length) = some 1 := by decide +kernel
theorem hd_X5_scaled : yX5_scaled.cls ≠ "java/lang/invoke/MethodHandle" ∧ yX5_scaled.cls ≠ "java/lang/invoke/VarHandle" ∧ (parseMethodDescriptor yX5_scaled.desc).map (fun d => d.parameters.length) = some 1 := by decide +kernel
theorem hd_X5_set : yX5_set.cls ≠ "java/lang/invoke/MethodHandle" ∧ yX5_set.cls ≠ "java/lang/invoke/VarHandle" ∧ (parseMethodDescriptor yX5_set.desc).map (fun d => d.parameters.length) = some 3 := by decide +kernel
theorem hd_X5_share : yX5_share.cls ≠ "java/lang/invoke/MethodHandle" ∧ yX5_share.cls ≠ "java/lang/invoke/VarHandle" ∧ (parseMethodDescriptor yX5_share.desc).map (fun d => d.parameters.length) = some 2 := by decide +kernel
theorem hd_X5_sheet : yX5_sheet.cls ≠ "java/lang/invoke/MethodHandle" ∧ yX5_sheet.cls ≠ "java/lang/invoke/VarHandle" ∧ (parseMethodDescriptor yX5_sheet.desc).map (fun d => d.parameters.length) = some 3 := by decide +kernel
theorem hd_X5_sheetOf : yX5_sheetOf.cls ≠ "java/lang/invoke/MethodHandle" ∧ yX5_sheetOf.cls ≠ "java/lang/invoke/VarHandle" ∧ (parseMethodDescriptor yX5_sheetOf.desc).map (fun d => d.parameters.length) = some 1 := by decide +kernel
theorem hd_X5_slew : yX5_slew.cls ≠ "java/lang/invoke/MethodHandle" ∧ yX5_slew.cls ≠ "java/lang/invoke/VarHandle" ∧ (parseMethodDescriptor yX5_slew.desc).map (fun d => d.parameters.length) = some 2 := by decide +kernel
theorem hd_X5_slews : yX5_slews.cls ≠ "java/lang/invoke/MethodHandle" ∧ yX5_slews.cls ≠ "java/lang/invoke/VarHandle" ∧ (parseMethodDescriptor yX5_slews.desc).map (fun d => d.parameters.length) = some 2 := by decide +kernel
theorem hd_X5_steep : yX5_steep.cls ≠ "java/lang/invoke/MethodHandle" ∧ yX5_steep.cls ≠ "java/lang/invoke/VarHandle" ∧ (parseMethodDescriptor yX5_steep.desc).map (fun d => d.parameters.length) = some 1 := by decide +kernel
theorem hd_X5_taken : yX5_taken.cls ≠ "java/lang/invoke/MethodHandle" ∧ yX5_taken.cls ≠ "java/lang/invoke/VarHandle" ∧ (parseMethodDescriptor yX5_taken.desc).map (fun d => d.parameters.length) = some 2 := by decide +kernel
theorem hd_X5_tells : yX5_tells.cls ≠ "java/lang/invoke/MethodHandle" ∧ yX5_tells.cls ≠ "java/lang/invoke/VarHandle" ∧ (parseMethodDescriptor yX5_tells.desc).map (fun d => d.parameters.length) = some 3 := by decide +kernel
theorem hd_X5_text : yX5_text.cls ≠ "java/lang/invoke/MethodHandle" ∧ yX5_text.cls ≠ "java/lang/invoke/VarHandle" ∧ (parseMethodDescriptor yX5_text.desc).map (fun d => d.parameters.length) = some 0 := by decide +kernel
theorem hd_X5_tooHigh : yX5_tooHigh.cls ≠ "java/lang/invoke/MethodHandle" ∧ yX5_tooHigh.cls ≠ "java/lang/invoke/VarHandle" ∧ (parseMethodDescriptor yX5_tooHigh.desc).map (fun d => d.parameters.length) = some 2 := by decide +kernel
theorem hd_X5_unlike : yX5_unlike.cls ≠ "java/lang/invoke/MethodHandle" ∧ yX5_unlike.cls ≠ "java/lang/invoke/VarHandle" ∧ (parseMethodDescriptor yX5_unlike.desc).map (fun d => d.parameters.length) = some 0 := by decide +kernel
theorem hd_X5_whyAt : yX5_whyAt.cls ≠ "java/lang/invoke/MethodHandle" ∧ yX5_whyAt.cls ≠ "java/lang/invoke/VarHandle" ∧ (parseMethodDescriptor yX5_whyAt.desc).map (fun d => d.parameters.length) = some 1 := by decide +kernel
theorem hd_X5_within : yX5_within.cls ≠ "java/lang/invoke/MethodHandle" ∧ yX5_within.cls ≠ "java/lang/invoke/VarHandle" ∧ (parseMethodDescriptor yX5_within.desc).map (fun d => d.parameters.length) = some 3 := by decide +kernel
theorem hd_X6_abs : yX6_abs.cls ≠ "java/lang/invoke/MethodHandle" ∧ yX6_abs.cls ≠ "java/lang/invoke/VarHandle" ∧ (parseMethodDescriptor yX6_abs.desc).map (fun d => d.parameters.length) = some 1 := by decide +kernel
theorem hd_X6_alike : yX6_alike.cls ≠ "java/lang/invoke/MethodHandle" ∧ yX6_alike.cls ≠ "java/lang/invoke/VarHandle" ∧ (parseMethodDescriptor yX6_alike.desc).map (fun d => d.parameters.length) = some 1 := by decide +kernel
theorem hd_X6_areAlike : yX6_areAlike.cls ≠ "java/lang/invoke/MethodHandle" ∧ yX6_areAlike.cls ≠ "java/lang/invoke/VarHandle" ∧ (parseMethodDescriptor yX6_areAlike.desc).map (fun d => d.parameters.length) = some 2 := by decide +kernel
theorem hd_X6_at : yX6_at.cls ≠ "java/lang/invoke/MethodHandle" ∧ yX6_at.cls ≠ "java/lang/invoke/VarHandle" ∧ (parseMethodDescriptor yX6_at.desc).map (fun d => d.parameters.length) = some 2 := by decide +kernel
theorem hd_X6_back : yX6_back.cls ≠ "java/lang/invoke/MethodHandle" ∧ yX6_back.cls ≠ "java/lang/invoke/VarHandle" ∧ (parseMethodDescriptor yX6_back.desc).map (fun d => d.parameters.length) = some 0 := by decide +kernel
theorem hd_X6_bit : yX6_bit.cls ≠ "java/lang/invoke/MethodHandle" ∧ yX6_bit.cls ≠ "java/lang/invoke/VarHandle" ∧ (parseMethodDescriptor yX6_bit.desc).map (fun d => d.parameters.length) = some 1 := by decide +kernel
theorem hd_X6_both : yX6_both.cls ≠ "java/lang/invoke/MethodHandle" ∧ yX6_both.cls ≠ "java/lang/invoke/VarHandle" ∧ (parseMethodDescriptor yX6_both.desc).map (fun d => d.parameters.length) = some 2 := by decide +kernel
theorem hd_X6_by : yX6_by.cls ≠ "java/lang/invoke/MethodHandle" ∧ yX6_by.cls ≠ "java/lang/invoke/VarHandle" ∧ (parseMethodDescriptor yX6_by.desc).map (fun d => d.parameters.length) = some 2 := by decide +kernel
theorem hd_X6_chance : yX6_chance.cls ≠ "java/lang/invoke/MethodHandle" ∧ yX6_chance.cls ≠ "java/lang/invoke/VarHandle" ∧ (parseMethodDescriptor yX6_chance.desc).map (fun d => d.parameters.length) = some 5 := by decide +kernel
theorem hd_X6_clause : yX6_clause.cls ≠ "java/lang/invoke/MethodHandle" ∧ yX6_clause.cls ≠ "java/lang/invoke/VarHandle" ∧ (parseMethodDescriptor yX6_clause.desc).map (fun d => d.parameters.length) = some 0 := by decide +kernel
theorem hd_X6_copy : yX6_copy.cls ≠ "java/lang/invoke/MethodHandle" ∧ yX6_copy.cls ≠ "java/lang/invoke/VarHandle" ∧ (parseMethodDescriptor yX6_copy.desc).map (fun d => d.parameters.length) = some 5 := by decide +kernel
theorem hd_X6_count : yX6_count.cls ≠ "java/lang/invoke/MethodHandle" ∧ yX6_count.cls ≠ "java/lang/invoke/VarHandle" ∧ (parseMethodDescriptor yX6_count.desc).map (fun d => d.parameters.length) = some 1 := by decide +kernel
theorem hd_X6_doMeet : yX6_doMeet.cls ≠ "java/lang/invoke/MethodHandle" ∧ yX6_doMeet.cls ≠ "java/lang/invoke/VarHandle" ∧ (parseMethodDescriptor yX6_doMeet.desc).map (fun d => d.parameters.length) = some 0 := by decide +kernel
theorem hd_X6_does : yX6_does.cls ≠ "java/lang/invoke/MethodHandle" ∧ yX6_does.cls ≠ "java/lang/invoke/VarHandle" ∧ (parseMethodDescriptor yX6_does.desc).map (fun d => d.parameters.length) = some 1 := by decide +kernel
theorem hd_X6_drop : yX6_drop.cls ≠ "java/lang/invoke/MethodHandle" ∧ yX6_drop.cls ≠ "java/lang/invoke/VarHandle" ∧ (parseMethodDescriptor yX6_drop.desc).map (fun d => d.parameters.length) = some 0 := by decide +kernel
theorem hd_X6_errors : yX6_errors.cls ≠ "java/lang/invoke/MethodHandle" ∧ yX6_errors.cls ≠ "java/lang/invoke/VarHandle" ∧ (parseMethodDescriptor yX6_errors.desc).map (fun d => d.parameters.length) = some 2 := by decide +kernel
theorem hd_X6_errorsBy : yX6_errorsBy.cls ≠ "java/lang/invoke/MethodHandle" ∧ yX6_errorsBy.cls ≠ "java/lang/invoke/VarHandle" ∧ (parseMethodDescriptor yX6_errorsBy.desc).map (fun d => d.parameters.length) = some 2 := by decide +kernel
theorem hd_X6_fault : yX6_fault.cls ≠ "java/lang/invoke/MethodHandle" ∧ yX6_fault.cls ≠ "java/lang/invoke/VarHandle" ∧ (parseMethodDescriptor yX6_fault.desc).map (fun d => d.parameters.length) = some 1 := by decide +kernel
theorem hd_X6_feed : yX6_feed.cls ≠ "java/lang/invoke/MethodHandle" ∧ yX6_feed.cls ≠ "java/lang/invoke/VarHandle" ∧ (parseMethodDescriptor yX6_feed.desc).map (fun d => d.parameters.length) = some 6 := by decide +kernel
theorem hd_X6_film : yX6_film.cls ≠ "java/lang/invoke/MethodHandle" ∧ yX6_film.cls ≠ "java/lang/invoke/VarHandle" ∧ (parseMethodDescriptor yX6_film.desc).map (fun d => d.parameters.length) = some 3 := by decide +kernel
theorem hd_X6_findsCauses : yX6_findsCauses.cls ≠ "java/lang/invoke/MethodHandle" ∧ yX6_findsCauses.cls ≠ "java/lang/invoke/VarHandle" ∧ (parseMethodDescriptor yX6_findsCauses.desc).map (fun d => d.parameters.length) = some 1 := by decide +kernel
theorem hd_X6_firstOf : yX6_firstOf.cls ≠ "java/lang/invoke/MethodHandle" ∧ yX6_firstOf.cls ≠ "java/lang/invoke/VarHandle" ∧ (parseMethodDescriptor yX6_firstOf.desc).map (fun d => d.parameters.length) = some 1 := by decide +kernel
theorem hd_X6_heightsApart : yX6_heightsApart.cls ≠ "java/lang/invoke/MethodHandle" ∧ yX6_heightsApart.cls ≠ "java/lang/invoke/VarHandle" ∧ (parseMethodDescriptor yX6_heightsApart.desc).map (fun d => d.parameters.length) = some 1 := by decide +kernel
theorem hd_X6_here : yX6_here.cls ≠ "java/lang/invoke/MethodHandle" ∧ yX6_here.cls ≠ "java/lang/invoke/VarHandle" ∧ (parseMethodDescriptor yX6_here.desc).map (fun d => d.parameters.length) = some 0 := by decide +kernel
theorem hd_X6_image : yX6_image.cls ≠ "java/lang/invoke/MethodHandle" ∧ yX6_image.cls ≠ "java/lang/invoke/VarHandle" ∧ (parseMethodDescriptor yX6_image.desc).map (fun d => d.parameters.length) = some 0 := by decide +kernel
theorem hd_X6_in : yX6_in.cls ≠ "java/lang/invoke/MethodHandle" ∧ yX6_in.cls ≠ "java/lang/invoke/VarHandle" ∧ (parseMethodDescriptor yX6_in.desc).map (fun d => d.parameters.length) = some 3 := by decide +kernel
theorem hd_X6_init : yX6_init.cls ≠ "java/lang/invoke/MethodHandle" ∧ yX6_init.cls ≠ "java/lang/invoke/VarHandle" ∧ (parseMethodDescriptor yX6_init.desc).map (fun d => d.parameters.length) = some 0 := by decide +kernel
theorem hd_X6_isCaused : yX6_isCaused.cls ≠ "java/lang/invoke/MethodHandle" ∧ yX6_isCaused.cls ≠ "java/lang/invoke/VarHandle" ∧ (parseMethodDescriptor yX6_isCaused.desc).map (fun d => d.parameters.length) = some 1 := by decide +kernel
theorem hd_X6_isHigh : yX6_isHigh.cls ≠ "java/lang/invoke/MethodHandle" ∧ yX6_isHigh.cls ≠ "java/lang/invoke/VarHandle" ∧ (parseMethodDescriptor yX6_isHigh.desc).map (fun d => d.parameters.length) = some 2 := by decide +kernel
theorem hd_X6_isPiece : yX6_isPiece.cls ≠ "java/lang/invoke/MethodHandle" ∧ yX6_isPiece.cls ≠ "java/lang/invoke/VarHandle" ∧ (parseMethodDescriptor yX6_isPiece.desc).map (fun d => d.parameters.length) = some 1 := by decide +kernel
theorem hd_X6_isSheet : yX6_isSheet.cls ≠ "java/lang/invoke/MethodHandle" ∧ yX6_isSheet.cls ≠ "java/lang/invoke/VarHandle" ∧ (parseMethodDescriptor yX6_isSheet.desc).map (fun d => d.parameters.length) = some 1 := by decide +kernel
theorem hd_X6_isStation : yX6_isStation.cls ≠ "java/lang/invoke/MethodHandle" ∧ yX6_isStation.cls ≠ "java/lang/invoke/VarHandle" ∧ (parseMethodDescriptor yX6_isStation.desc).map (fun d => d.parameters.length) = some 1 := by decide +kernel
theorem hd_X6_isSteep : yX6_isSteep.cls ≠ "java/lang/invoke/MethodHandle" ∧ yX6_isSteep.cls ≠ "java/lang/invoke/VarHandle" ∧ (parseMethodDescriptor yX6_isSteep.desc).map (fun d => d.parameters.length) = some 1 := by decide +kernel
theorem hd_X6_isUnder : yX6_isUnder.cls ≠ "java/lang/invoke/MethodHandle" ∧ yX6_isUnder.cls ≠ "java/lang/invoke/VarHandle" ∧ (parseMethodDescriptor yX6_isUnder.desc).map (fun d => d.parameters.length) = some 2 := by decide +kernel
theorem hd_X6_join : yX6_join.cls ≠ "java/lang/invoke/MethodHandle" ∧ yX6_join.cls ≠ "java/lang/invoke/VarHandle" ∧ (parseMethodDescriptor yX6_join.desc).map (fun d => d.parameters.length) = some 2 := by decide +kernel
theorem hd_X6_joins : yX6_joins.cls ≠ "java/lang/invoke/MethodHandle" ∧ yX6_joins.cls ≠ "java/lang/invoke/VarHandle" ∧ (parseMethodDescriptor yX6_joins.desc).map (fun d => d.parameters.length) = some 0 := by decide +kernel
theorem hd_X6_jumps : yX6_jumps.cls ≠ "java/lang/invoke/MethodHandle" ∧ yX6_jumps.cls ≠ "java/lang/invoke/VarHandle" ∧ (parseMethodDescriptor yX6_jumps.desc).map (fun d => d.parameters.length) = some 1 := by decide +kernel
theorem hd_X6_lacks : yX6_lacks.cls ≠ "java/lang/invoke/MethodHandle" ∧ yX6_lacks.cls ≠ "java/lang/invoke/VarHandle" ∧ (parseMethodDescriptor yX6_lacks.desc).map (fun d => d.parameters.length) = some 2 := by decide +kernel
theorem hd_X6_lastOf : yX6_lastOf.cls ≠ "java/lang/invoke/MethodHandle" ∧ yX6_lastOf.cls ≠ "java/lang/invoke/VarHandle" ∧ (parseMethodDescriptor yX6_lastOf.desc).map (fun d => d.parameters.length) = some 1 := by decide +kernel
theorem hd_X6_lays : yX6_lays.cls ≠ "java/lang/invoke/MethodHandle" ∧ yX6_lays.cls ≠ "java/lang/invoke/VarHandle" ∧ (parseMethodDescriptor yX6_lays.desc).map (fun d => d.parameters.length) = some 0 := by decide +kernel
theorem hd_X6_laysOld : yX6_laysOld.cls ≠ "java/lang/invoke/MethodHandle" ∧ yX6_laysOld.cls ≠ "java/lang/invoke/VarHandle" ∧ (parseMethodDescriptor yX6_laysOld.desc).map (fun d => d.parameters.length) = some 1 := by decide +kernel
theorem hd_X6_least : yX6_least.cls ≠ "java/lang/invoke/MethodHandle" ∧ yX6_least.cls ≠ "java/lang/invoke/VarHandle" ∧ (parseMethodDescriptor yX6_least.desc).map (fun d => d.parameters.length) = some 1 := by decide +kernel
theorem hd_X6_limit : yX6_limit.cls ≠ "java/lang/invoke/MethodHandle" ∧ yX6_limit.cls ≠ "java/lang/invoke/VarHandle" ∧ (parseMethodDescriptor yX6_limit.desc).map (fun d => d.parameters.length) = some 0 := by decide +kernel
theorem hd_X6_load : yX6_load.cls ≠ "java/lang/invoke/MethodHandle" ∧ yX6_load.cls ≠ "java/lang/invoke/VarHandle" ∧ (parseMethodDescriptor yX6_load.desc).map (fun d => d.parameters.length) = some 4 := by decide +kernel
theorem hd_X6_madeOf : yX6_madeOf.cls ≠ "java/lang/invoke/MethodHandle" ∧ yX6_madeOf.cls ≠ "java/lang/invoke/VarHandle" ∧ (parseMethodDescriptor yX6_madeOf.desc).map (fun d => d.parameters.length) = some 1 := by decide +kernel
theorem hd_X6_may : yX6_may.cls ≠ "java/lang/invoke/MethodHandle" ∧ yX6_may.cls ≠ "java/lang/invoke/VarHandle" ∧ (parseMethodDescriptor yX6_may.desc).map (fun d => d.parameters.length) = some 2 := by decide +kernel
theorem hd_X6_mayBe : yX6_mayBe.cls ≠ "java/lang/invoke/MethodHandle" ∧ yX6_mayBe.cls ≠ "java/lang/invoke/VarHandle" ∧ (parseMethodDescriptor yX6_mayBe.desc).map (fun d => d.parameters.length) = some 2 := by decide +kernel
theorem hd_X6_mayRule : yX6_mayRule.cls ≠ "java/lang/invoke/MethodHandle" ∧ yX6_mayRule.cls ≠ "java/lang/invoke/VarHandle" ∧ (parseMethodDescriptor yX6_mayRule.desc).map (fun d => d.parameters.length) = some 2 := by decide +kernel
theorem hd_X6_may_ : yX6_may_.cls ≠ "java/lang/invoke/MethodHandle" ∧ yX6_may_.cls ≠ "java/lang/invoke/VarHandle" ∧ (parseMethodDescriptor yX6_may_.desc).map (fun d => d.parameters.length) = some 1 := by decide +kernel
theorem hd_X6_meets : yX6_meets.cls ≠ "java/lang/invoke/MethodHandle" ∧ yX6_meets.cls ≠ "java/lang/invoke/VarHandle" ∧ (parseMethodDescriptor yX6_meets.desc).map (fun d => d.parameters.length) = some 1 := by decide +kernel
theorem hd_X6_miss : yX6_miss.cls ≠ "java/lang/invoke/MethodHandle" ∧ yX6_miss.cls ≠ "java/lang/invoke/VarHandle" ∧ (parseMethodDescriptor yX6_miss.desc).map (fun d => d.parameters.length) = some 1 := by decide +kernel
theorem hd_X6_most : yX6_most.cls ≠ "java/lang/invoke/MethodHandle" ∧ yX6_most.cls ≠ "java/lang/invoke/VarHandle" ∧ (parseMethodDescriptor yX6_most.desc).map (fun d => d.parameters.length) = some 0 := by decide +kernel
theorem hd_X6_need : yX6_need.cls ≠ "java/lang/invoke/MethodHandle" ∧ yX6_need.cls ≠ "java/lang/invoke/VarHandle" ∧ (parseMethodDescriptor yX6_need.desc).map (fun d => d.parameters.length) = some 2 := by decide +kernel
theorem hd_X6_needAt : yX6_needAt.cls ≠ "java/lang/invoke/MethodHandle" ∧ yX6_needAt.cls ≠ "java/lang/invoke/VarHandle" ∧ (parseMethodDescriptor yX6_needAt.desc).map (fun d => d.parameters.length) = some 2 := by decide +kernel
theorem hd_X6_next : yX6_next.cls ≠ "java/lang/invoke/MethodHandle" ∧ yX6_next.cls ≠ "java/lang/invoke/VarHandle" ∧ (parseMethodDescriptor yX6_next.desc).map (fun d => d.parameters.length) = some 0 := by decide +kernel
theorem hd_X6_numberHere : yX6_numberHere.cls ≠ "java/lang/invoke/MethodHandle" ∧ yX6_numberHere.cls ≠ "java/lang/invoke/VarHandle" ∧ (parseMethodDescriptor yX6_numberHere.desc).map (fun d => d.parameters.length) = some 0 := by decide +kernel
theorem hd_X6_of : yX6_of.cls ≠ "java/lang/invoke/MethodHandle" ∧ yX6_of.cls ≠ "java/lang/invoke/VarHandle" ∧ (parseMethodDescriptor yX6_of.desc).map (fun d => d.parameters.length) = some 2 := by decide +kernel
theorem hd_X6_of0 : yX6_of0.cls ≠ "java/lang/invoke/MethodHandle" ∧ yX6_of0.cls ≠ "java/lang/invoke/VarHandle" ∧ (parseMethodDescriptor yX6_of0.desc).map (fun d => d.parameters.length) = some 2 := by decide +kernel
theorem hd_X6_otherwise : yX6_otherwise.cls ≠ "java/lang/invoke/MethodHandle" ∧ yX6_otherwise.cls ≠ "java/lang/invoke/VarHandle" ∧ (parseMethodDescriptor yX6_otherwise.desc).map (fun d => d.parameters.length) = some 2 := by decide +kernel
theorem hd_X6_piece : yX6_piece.cls ≠ "java/lang/invoke/MethodHandle" ∧ yX6_piece.cls ≠ "java/lang/invoke/VarHandle" ∧ (parseMethodDescriptor yX6_piece.desc).map (fun d => d.parameters.length) = some 4 := by decide +kernel
theorem hd_X6_piecelacks : yX6_piecelacks.cls ≠ "java/lang/invoke/MethodHandle" ∧ yX6_piecelacks.cls ≠ "java/lang/invoke/VarHandle" ∧ (parseMethodDescriptor yX6_piecelacks.desc).map (fun d => d.parameters.length) = some 1 := by decide +kernel
theorem hd_X6_put : yX6_put.cls ≠ "java/lang/invoke/MethodHandle" ∧ yX6_put.cls ≠ "java/lang/invoke/VarHandle" ∧ (parseMethodDescriptor yX6_put.desc).map (fun d => d.parameters.length) = some 3 := by decide +kernel
theorem hd_X6_rule : yX6_rule.cls ≠ "java/lang/invoke/MethodHandle" ∧ yX6_rule.cls ≠ "java/lang/invoke/VarHandle" ∧ (parseMethodDescriptor yX6_rule.desc).map (fun d => d.parameters.length) = some 1 := by decide +kernel
theorem hd_X6_rule_ : yX6_rule_.cls ≠ "java/lang/invoke/MethodHandle" ∧ yX6_rule_.cls ≠ "java/lang/invoke/VarHandle" ∧ (parseMethodDescriptor yX6_rule_.desc).map (fun d => d.parameters.length) = some 2 := by decide +kernel
theorem hd_X6_scaled : yX6_scaled.cls ≠ "java/lang/invoke/MethodHandle" ∧ yX6_scaled.cls ≠ "java/lang/invoke/VarHandle" ∧ (parseMethodDescriptor yX6_scaled.desc).map (fun d => d.parameters.length) = some 1 := by decide +kernel
theorem hd_X6_set : yX6_set.cls ≠ "java/lang/invoke/MethodHandle" ∧ yX6_set.cls ≠ "java/lang/invoke/VarHandle" ∧ (parseMethodDescriptor yX6_set.desc).map (fun d => d.parameters.length) = some 3 := by decide +kernel
theorem hd_X6_sheet : yX6_sheet.cls ≠ "java/lang/invoke/MethodHandle" ∧ yX6_sheet.cls ≠ "java/lang/invoke/VarHandle" ∧ (parseMethodDescriptor yX6_sheet.desc).map (fun d => d.parameters.length) = some 3 := by decide +kernel
theorem hd_X6_slew : yX6_slew.cls ≠ "java/lang/invoke/MethodHandle" ∧ yX6_slew.cls ≠ "java/lang/invoke/VarHandle" ∧ (parseMethodDescriptor yX6_slew.desc).map (fun d => d.parameters.length) = some 2 := by decide +kernel
theorem hd_X6_slews : yX6_slews.cls ≠ "java/lang/invoke/MethodHandle" ∧ yX6_slews.cls ≠ "java/lang/invoke/VarHandle" ∧ (parseMethodDescriptor yX6_slews.desc).map (fun d => d.parameters.length) = some 0 := by decide +kernel
theorem hd_X6_slews_ : yX6_slews_.cls ≠ "java/lang/invoke/MethodHandle" ∧ yX6_slews_.cls ≠ "java/lang/invoke/VarHandle" ∧ (parseMethodDescriptor yX6_slews_.desc).map (fun d => d.parameters.length) = some 2 := by decide +kernel
theorem hd_X6_taken : yX6_taken.cls ≠ "java/lang/invoke/MethodHandle" ∧ yX6_taken.cls ≠ "java/lang/invoke/VarHandle" ∧ (parseMethodDescriptor yX6_taken.desc).map (fun d => d.parameters.length) = some 2 := by decide +kernel
theorem hd_X6_tells : yX6_tells.cls ≠ "java/lang/invoke/MethodHandle" ∧ yX6_tells.cls ≠ "java/lang/invoke/VarHandle" ∧ (parseMethodDescriptor yX6_tells.desc).map (fun d => d.parameters.length) = some 3 := by decide +kernel
theorem hd_X6_text : yX6_text.cls ≠ "java/lang/invoke/MethodHandle" ∧ yX6_text.cls ≠ "java/lang/invoke/VarHandle" ∧ (parseMethodDescriptor yX6_text.desc).map (fun d => d.parameters.length) = some 0 := by decide +kernel
theorem hd_X6_versinesApart : yX6_versinesApart.cls ≠ "java/lang/invoke/MethodHandle" ∧ yX6_versinesApart.cls ≠ "java/lang/invoke/VarHandle" ∧ (parseMethodDescriptor yX6_versinesApart.desc).map (fun d => d.parameters.length) = some 1 := by decide +kernel
theorem hd_X6_why : yX6_why.cls ≠ "java/lang/invoke/MethodHandle" ∧ yX6_why.cls ≠ "java/lang/invoke/VarHandle" ∧ (parseMethodDescriptor yX6_why.desc).map (fun d => d.parameters.length) = some 1 := by decide +kernel
theorem hd_X6_widest : yX6_widest.cls ≠ "java/lang/invoke/MethodHandle" ∧ yX6_widest.cls ≠ "java/lang/invoke/VarHandle" ∧ (parseMethodDescriptor yX6_widest.desc).map (fun d => d.parameters.length) = some 0 := by decide +kernel
theorem hd_X6_wordHere : yX6_wordHere.cls ≠ "java/lang/invoke/MethodHandle" ∧ yX6_wordHere.cls ≠ "java/lang/invoke/VarHandle" ∧ (parseMethodDescriptor yX6_wordHere.desc).map (fun d => d.parameters.length) = some 0 := by decide +kernel
theorem hd_J0_length_8abf5 : yJ0_length_8abf5.cls ≠ "java/lang/invoke/MethodHandle" ∧ yJ0_length_8abf5.cls ≠ "java/lang/invoke/VarHandle" ∧ (parseMethodDescriptor yJ0_length_8abf5.desc).map (fun d => d.parameters.length) = some 0 := by decide +kernel
theorem hd_J0_charAt_5068e : yJ0_charAt_5068e.cls ≠ "java/lang/invoke/MethodHandle" ∧ yJ0_charAt_5068e.cls ≠ "java/lang/invoke/VarHandle" ∧ (parseMethodDescriptor yJ0_charAt_5068e.desc).map (fun d => d.parameters.length) = some 1 := by decide +kernel
/-! ===== cell and mark: rows by their places ===== -/
def s_X5_cell (n : Nat) (f : Nat → Int32) (i : Int32) : Int32 := if i < 0 then 0 else if nI n ≤ i then 0 else f i.toNatClampNeg
def s_X5_mark (n : Nat) (f : Nat → Int32) (i v : Int32) : Nat → Int32 := if i < 0 then f else if nI n ≤ i then f else upd f i.toNatClampNeg v
abbrev rm_X5_cell : Room := { frames := 0, cells := 0, slots := 0, locals := 0 }
abbrev rm_X5_mark : Room := { frames := 0, cells := 0, slots := 0, locals := 0 }
set_option maxHeartbeats 8000000 in
set_option maxRecDepth 100000 in
theorem c_X5_cell (l : Launch) (E : xG) (b n : Nat) (f : Nat → Int32) (i : Int32) (hn : n < 2 ^ 31 := by decide) : xRo l E yX5_cell wsX5_cell rm_X5_cell [.ref (b), .int i] [(b, .inl (xct E 0, n, .inl f))] (some (.int (s_X5_cell n f i))) := by
  refine xRo.of (cc := cX5_cell) (maxL := 2) (ret := (some .int)) (by decide) rfl (Nat.le_of_ble_eq_true rfl) ?_
  intro p e s m below meth c ls hAt hF hP hS hl
  obtain ⟨hx, hb, hr, hml, hown, hts, hlocks, -⟩ := hAt
  have hown : s.vm.findClass RX5 = some m.cls := hown
  have hK := hF.1
  have hl : lv_has ls 2 [(0, .ref (b)), (1, .int i)] := hl
  have hA : ∀ q : Nat, (fun _ => False) q → xA0 E q := fun _ h => h.elim
  change W p l e rm_X5_cell s m ([.ref (b), .int i] : List Value).toArray below meth c s.heap [] 0 0 (xQro below (some (.int (s_X5_cell n f i))) ([.ref (b), .int i] : List Value).toArray s) _
  have hR : s_X5_cell n f i = s_X5_cell n f i := rfl
  refine lv_iload_n hx hb dX5_cell_0 rfl (lv_at hl 1 rfl) ?_
  refine lv_if_lt (tgt := 16) hx hb dX5_cell_1 rfl (fun q => ?_) (fun q => ?_)
  · have hR := hR.trans (if_pos q)
    refine lv_iconst (v := 0) hx hb dX5_cell_16 rfl ?_
    exact W.iret (v := 0) hx hb hr (fun t ht _ => ⟨congrArg (fun z => Outcome.returned (some (Value.int z))) hR.symm, ht⟩) (fun _ h => by cases h) dX5_cell_17
  · have hR := hR.trans (if_neg q)
    refine lv_iload_n hx hb dX5_cell_4 rfl (lv_at hl 1 rfl) ?_
    refine lv_aload_n hx hb dX5_cell_5 rfl (lv_at hl 0 rfl) ?_
    refine va_alen (v := nI n) hx hb hK hP 0 0 rfl rfl rfl dX5_cell_6 ?_
    refine lv_icmp_ge (tgt := 16) hx hb dX5_cell_7 rfl (fun q2 => ?_) (fun q2 => ?_)
    · have hR := hR.trans (if_pos q2)
      refine lv_iconst (v := 0) hx hb dX5_cell_16 rfl ?_
      exact W.iret (v := 0) hx hb hr (fun t ht _ => ⟨congrArg (fun z => Outcome.returned (some (Value.int z))) hR.symm, ht⟩) (fun _ h => by cases h) dX5_cell_17
    · have hR := hR.trans (if_neg q2)
      refine lv_aload_n hx hb dX5_cell_10 rfl (lv_at hl 0 rfl) ?_
      refine lv_iload_n hx hb dX5_cell_11 rfl (lv_at hl 1 rfl) ?_
      refine va_iald hx hb hK hP 0 0 rfl rfl (xin_of hn q q2) dX5_cell_12 ?_
      refine lv_goto (tgt := 17) hx hb dX5_cell_13 rfl ?_
      exact W.iret (v := f i.toNatClampNeg) hx hb hr (fun t ht _ => ⟨congrArg (fun z => Outcome.returned (some (Value.int z))) hR.symm, ht⟩) (fun _ h => by cases h) dX5_cell_17
set_option maxHeartbeats 8000000 in
set_option maxRecDepth 100000 in
theorem c_X5_cell_st (l : Launch) (E : xG) (k : Nat) (hk : k < 8) (i : Int32) : xRo l E yX5_cell wsX5_cell rm_X5_cell [.ref (xad E k), .int i] [] (some (.int (s_X5_cell (xStL k) (xStV k) i))) := by
  have hn : xStL k < 2 ^ 31 := by
    have h8 : k = 0 ∨ k = 1 ∨ k = 2 ∨ k = 3 ∨ k = 4 ∨ k = 5 ∨ k = 6 ∨ k = 7 := by omega
    rcases h8 with rfl | rfl | rfl | rfl | rfl | rfl | rfl | rfl <;> decide
  refine xRo.of (cc := cX5_cell) (maxL := 2) (ret := (some .int)) (by decide) rfl (Nat.le_of_ble_eq_true rfl) ?_
  intro p e s m below meth c ls hAt hF hP hS hl
  obtain ⟨hx, hb, hr, hml, hown, hts, hlocks, -⟩ := hAt
  have hown : s.vm.findClass RX5 = some m.cls := hown
  have hK := hF.1
  have hl : lv_has ls 2 [(0, .ref (xad E k)), (1, .int i)] := hl
  have hA : ∀ q : Nat, (fun _ => False) q → xA0 E q := fun _ h => h.elim
  change W p l e rm_X5_cell s m ([.ref (xad E k), .int i] : List Value).toArray below meth c s.heap [] 0 0 (xQro below (some (.int (s_X5_cell (xStL k) (xStV k) i))) ([.ref (xad E k), .int i] : List Value).toArray s) _
  have hR : s_X5_cell (xStL k) (xStV k) i = s_X5_cell (xStL k) (xStV k) i := rfl
  refine lv_iload_n hx hb dX5_cell_0 rfl (lv_at hl 1 rfl) ?_
  refine lv_if_lt (tgt := 16) hx hb dX5_cell_1 rfl (fun q => ?_) (fun q => ?_)
  · have hR := hR.trans (if_pos q)
    refine lv_iconst (v := 0) hx hb dX5_cell_16 rfl ?_
    exact W.iret (v := 0) hx hb hr (fun t ht _ => ⟨congrArg (fun z => Outcome.returned (some (Value.int z))) hR.symm, ht⟩) (fun _ h => by cases h) dX5_cell_17
  · have hR := hR.trans (if_neg q)
    refine lv_iload_n hx hb dX5_cell_4 rfl (lv_at hl 1 rfl) ?_
    refine lv_aload_n hx hb dX5_cell_5 rfl (lv_at hl 0 rfl) ?_
    refine va_slen hx hb (hF.2.2.1 k hk).2.1 (hF.2.2.1 k hk).2.2.1 (fun h => (hF.2.2.1 k hk).2.2.2 (hA _ h)) hS dX5_cell_6 ?_
    refine lv_icmp_ge (tgt := 16) hx hb dX5_cell_7 rfl (fun q2 => ?_) (fun q2 => ?_)
    · have hR := hR.trans (if_pos q2)
      refine lv_iconst (v := 0) hx hb dX5_cell_16 rfl ?_
      exact W.iret (v := 0) hx hb hr (fun t ht _ => ⟨congrArg (fun z => Outcome.returned (some (Value.int z))) hR.symm, ht⟩) (fun _ h => by cases h) dX5_cell_17
    · have hR := hR.trans (if_neg q2)
      refine lv_aload_n hx hb dX5_cell_10 rfl (lv_at hl 0 rfl) ?_
      refine lv_iload_n hx hb dX5_cell_11 rfl (lv_at hl 1 rfl) ?_
      refine va_sld hx hb (hF.2.2.1 k hk).2.1 (hF.2.2.1 k hk).2.2.1 (fun h => (hF.2.2.1 k hk).2.2.2 (hA _ h)) hS (xin_of hn q q2) dX5_cell_12 ?_
      refine lv_goto (tgt := 17) hx hb dX5_cell_13 rfl ?_
      exact W.iret (v := (xStV k) i.toNatClampNeg) hx hb hr (fun t ht _ => ⟨congrArg (fun z => Outcome.returned (some (Value.int z))) hR.symm, ht⟩) (fun _ h => by cases h) dX5_cell_17
set_option maxHeartbeats 8000000 in
set_option maxRecDepth 100000 in
theorem c_X5_mark (l : Launch) (E : xG) (b n : Nat) (f : Nat → Int32) (i v : Int32) (hb0 : xA0 E b) (hn : n < 2 ^ 31 := by decide) : xMd l E yX5_mark wsX5_mark rm_X5_mark [b] [.ref b, .int i, .int v] [(b, .inl (xct E 0, n, .inl f))] none [(b, .inl (xct E 0, n, .inl (s_X5_mark n f i v)))] := by
  refine xMd.of (cc := cX5_mark) (maxL := 3) (ret := none) (by decide) rfl (Nat.le_of_ble_eq_true rfl) ?_
  intro p e s m below meth c ls hAt hF hP hS hl
  obtain ⟨hx, hb, hr, hml, hown, hts, hlocks, -⟩ := hAt
  have hown : s.vm.findClass RX5 = some m.cls := hown
  have hK := hF.1
  have hl : lv_has ls 3 [(0, .ref b), (1, .int i), (2, .int v)] := hl
  have hR : s_X5_mark n f i v = s_X5_mark n f i v := rfl
  refine lv_iload_n hx hb dX5_mark_0 rfl (lv_at hl 1 rfl) ?_
  refine lv_if_lt (tgt := 14) hx hb dX5_mark_1 rfl (fun q => ?_) (fun q => ?_)
  · have hR : s_X5_mark n f i v = f := hR.trans (if_pos q)
    exact W.vret hx hb hr (fun t ht _ => by rw [hR]; exact ⟨⟨rfl, by rw [ht]; exact hP⟩, hS.F ht⟩) hS.2.2 dX5_mark_14
  · have hR := hR.trans (if_neg q)
    refine lv_iload_n hx hb dX5_mark_4 rfl (lv_at hl 1 rfl) ?_
    refine lv_aload_n hx hb dX5_mark_5 rfl (lv_at hl 0 rfl) ?_
    refine va_alen (v := nI n) hx hb hK hP 0 0 rfl rfl rfl dX5_mark_6 ?_
    refine lv_icmp_ge (tgt := 14) hx hb dX5_mark_7 rfl (fun q2 => ?_) (fun q2 => ?_)
    · have hR : s_X5_mark n f i v = f := hR.trans (if_pos q2)
      exact W.vret hx hb hr (fun t ht _ => by rw [hR]; exact ⟨⟨rfl, by rw [ht]; exact hP⟩, hS.F ht⟩) hS.2.2 dX5_mark_14
    · have hR : s_X5_mark n f i v = upd f i.toNatClampNeg v := hR.trans (if_neg q2)
      refine lv_aload_n hx hb dX5_mark_10 rfl (lv_at hl 0 rfl) ?_
      refine lv_iload_n hx hb dX5_mark_11 rfl (lv_at hl 1 rfl) ?_
      refine lv_iload_n hx hb dX5_mark_12 rfl (lv_at hl 2 rfl) ?_
      refine va_iast hx hb hK hP (xD_of (ws := [(b, .inl (xct E 0, n, .inl f))]) (A := (· ∈ [b])) (by simp) (fun _ h => h)) hS 0 0 rfl rfl (xin_of hn q q2) dX5_mark_13 (fun H locs hP _ hS => ?_)
      have hP : va_P (xD E) vwCl [(b, .inl (xct E 0, n, .inl (upd f i.toNatClampNeg v)))] H := hP
      exact W.vret hx hb hr (fun t ht _ => by rw [hR]; exact ⟨⟨rfl, by rw [ht]; exact hP⟩, hS.F ht⟩) hS.2.2 dX5_mark_14
