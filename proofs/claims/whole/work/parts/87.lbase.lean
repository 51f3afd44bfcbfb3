/-! ===== the law: what stays from its first call to its last, and its steps ===== -/
def lw_C (p : Program) (s : State) (m : MethodId) (c : Code) (b L : Nat) (xs : Nat → Int32) (E : xG) (a g : Nat → Nat) : Prop :=
  p.tables.exec = Jvm.exec ∧ c.code = code ∧ c.maxLocals = 4 ∧ s.vm.findClass RL = some m.cls ∧ (∀ w ∈ lw_tbl, w.before #[Value.ref b] s = true) ∧ xF E s ∧ xOK E (LX a) ∧ xOK E (LM g) ∧ (∀ q, q ∈ LX a → ¬ q ∈ LM g) ∧ va_X b L xs s s.heap ∧ b < s.heap.size ∧ ¬ xA0 E b ∧ L ≤ 3584
/-- the two worlds -/
def lw_W (E : xG) (s : State) (a g : Nat → Nat) (u v : xU) (H : Heap) (locs : List Loc) : Prop := va_P (xD E) vwCl (wX E a u) H ∧ va_P (xD E) vwCl (wM E g v) H ∧ va_S (xA0 E) s.heap H locs
theorem lw_in {i k L : Nat} (h : i + k < L) (hL : L ≤ 3584) : vp_in (nI i + nI k) L := by
  rw [nI_add]
  exact vp_in_nI h (by omega)
section LAW
variable {p : Program} {l : Launch} {e : Env} {s : State} {m : MethodId} {below : List Frame} {meth : Method} {c : Code} {b L : Nat} {xs : Nat → Int32} {E : xG} {a g : Nat → Nat} {u v u' v' : xU} {H : Heap} {locs : List Loc} {cells slots : Nat} {Q : State → Prop} {ls : Array Slot}
variable {y : MethodName} {bytes : ByteArray} {maxL n index : Nat} {ret : Option FieldType} {w : List Cond} {rm : Room} {As rest st : List Value} {r : Option Value} {pc i k : Nat} {z : Int} {x : Int32}
theorem lw_arg (C0 : lw_C p s m c b L xs E a g) (hW : lw_W E s a g u v H locs) (hi : i + 6 < L) (hl : lv_has ls 4 [(3, .int (nI i)), (0, .ref b), (1, .ref (a 0)), (2, .ref (g 0))]) (d0 : decode code pc = .ok (.aload_n 0, 1)) (d1 : decode code (pc + 1) = .ok (.iload_n 3, 1)) (d2 : decode code (pc + 2) = .ok (.iconst z, 1)) (d3 : decode code (pc + 3) = .ok (.iadd, 1)) (d4 : decode code (pc + 4) = .ok (.iaload, 1)) (hz : Int32.ofInt z = x) (hk : x = nI k) (hk6 : k ≤ 6)
    (kk : W p l e room_1 s m #[Value.ref b] below meth c H locs cells slots Q (F0 m (pc + 5) ls (.int (xs (nI i + x).toNatClampNeg) :: st))) : W p l e room_1 s m #[Value.ref b] below meth c H locs cells slots Q (F0 m pc ls st) := by
  obtain ⟨hx, hb, -, -, -, -, -, -, -, hX, hbl, hbA, hL⟩ := C0
  refine lv_aload_n hx hb d0 rfl (lv_at hl 1 rfl) ?_
  refine lv_iload_n hx hb d1 rfl (lv_at hl 0 rfl) ?_
  refine lv_iconst hx hb d2 hz ?_
  refine lv_iadd hx hb d3 ?_
  exact va_sld hx hb hX hbl hbA hW.2.2 (by rw [hk]; exact lw_in (by omega) hL) d4 kk
theorem lw_arg6 (C0 : lw_C p s m c b L xs E a g) (hW : lw_W E s a g u v H locs) (hi : i + 6 < L) (hl : lv_has ls 4 [(3, .int (nI i)), (0, .ref b), (1, .ref (a 0)), (2, .ref (g 0))]) (d0 : decode code pc = .ok (.aload_n 0, 1)) (d1 : decode code (pc + 1) = .ok (.iload_n 3, 1)) (d2 : decode code (pc + 2) = .ok (.bipush z, 2)) (d3 : decode code (pc + 4) = .ok (.iadd, 1)) (d4 : decode code (pc + 5) = .ok (.iaload, 1)) (hz : (Int8.ofInt z).toInt32 = x) (hk : x = nI k) (hk6 : k ≤ 6)
    (kk : W p l e room_1 s m #[Value.ref b] below meth c H locs cells slots Q (F0 m (pc + 6) ls (.int (xs (nI i + x).toNatClampNeg) :: st))) : W p l e room_1 s m #[Value.ref b] below meth c H locs cells slots Q (F0 m pc ls st) := by
  obtain ⟨hx, hb, -, -, -, -, -, -, -, hX, hbl, hbA, hL⟩ := C0
  refine lv_aload_n hx hb d0 rfl (lv_at hl 1 rfl) ?_
  refine lv_iload_n hx hb d1 rfl (lv_at hl 0 rfl) ?_
  refine lv_bipush hx hb d2 hz ?_
  refine lv_iadd hx hb d3 ?_
  exact va_sld hx hb hX hbl hbA hW.2.2 (by rw [hk]; exact lw_in (by omega) hL) d4 kk
theorem lw_c5 (C0 : lw_C p s m c b L xs E a g) (hW : lw_W E s a g u v H locs) (hM : xMd l E y w rm (LX a) (.ref (a 0) :: As) (wX E a u) r (wX E a u')) (cw : CallW room_1 s #[Value.ref b] RL RX5 index y bytes maxL ret w rm 0 0 n) (hn : As.length = n) (hl : ls.size = 4) (hst : st = As.reverse ++ .ref (a 0) :: rest) (hc : (rest.map fun v => v.category).sum ≤ 8) (hf : cells + 0 ≤ room_1.cells ∧ slots + 0 ≤ room_1.slots) (hdg : decode code pc = .ok (.invokevirtual index, 3))
    (kk : ∀ (H1 : Heap) (locs1 : List Loc), lw_W E s a g u' v H1 locs1 → W p l e room_1 s m #[Value.ref b] below meth c H1 locs1 cells slots Q (F0 m (pc + 3) ls (r.toList ++ rest))) : W p l e room_1 s m #[Value.ref b] below meth c H locs cells slots Q (F0 m pc ls st) := by
  obtain ⟨hx, hb, hml, hown, hts, hF, hOa, hOg, hdis, hX, hbl, hbA, hL⟩ := C0
  obtain ⟨hP, hPm, hS⟩ := hW
  exact xMdV (nL := 4) ⟨hx, hb, hml, hown, hts⟩ hM cw hF hS (fun _ h => h) hOa.2 hP (va_recv (q := (RX5, TX5, 9)) hF.1 hP (ci := 5) rfl (q0 := 0) rfl) hn hl hst hc hf hdg (fun H1 locs1 hP1 hk hS1 => kk H1 locs1 ⟨hP1, hPm.kept (fun k q hq => hk q.1 (hPm k q hq).lt (fun z => hdis q.1 z (show q.1 ∈ (wM E g v).map (·.1) from List.mem_map.mpr ⟨q, List.mem_of_getElem? hq, rfl⟩))), hS1⟩)
theorem lw_c6 (C0 : lw_C p s m c b L xs E a g) (hW : lw_W E s a g u v H locs) (hM : xMd l E y w rm (LM g) (.ref (g 0) :: As) (wM E g v) r (wM E g v')) (cw : CallW room_1 s #[Value.ref b] RL RX6 index y bytes maxL ret w rm 0 0 n) (hn : As.length = n) (hl : ls.size = 4) (hst : st = As.reverse ++ .ref (g 0) :: rest) (hc : (rest.map fun v => v.category).sum ≤ 8) (hf : cells + 0 ≤ room_1.cells ∧ slots + 0 ≤ room_1.slots) (hdg : decode code pc = .ok (.invokevirtual index, 3))
    (kk : ∀ (H1 : Heap) (locs1 : List Loc), lw_W E s a g u v' H1 locs1 → W p l e room_1 s m #[Value.ref b] below meth c H1 locs1 cells slots Q (F0 m (pc + 3) ls (r.toList ++ rest))) : W p l e room_1 s m #[Value.ref b] below meth c H locs cells slots Q (F0 m pc ls st) := by
  obtain ⟨hx, hb, hml, hown, hts, hF, hOa, hOg, hdis, hX, hbl, hbA, hL⟩ := C0
  obtain ⟨hPx, hP, hS⟩ := hW
  exact xMdV (nL := 4) ⟨hx, hb, hml, hown, hts⟩ hM cw hF hS (fun _ h => h) hOg.2 hP (va_recv (q := (RX6, TX6, 28)) hF.1 hP (ci := 6) rfl (q0 := 0) rfl) hn hl hst hc hf hdg (fun H1 locs1 hP1 hk hS1 => kk H1 locs1 ⟨hPx.kept (fun k q hq => hk q.1 (hPx k q hq).lt (fun z => hdis q.1 (show q.1 ∈ (wX E a u).map (·.1) from List.mem_map.mpr ⟨q, List.mem_of_getElem? hq, rfl⟩) z)), hP1, hS1⟩)
theorem lw_c5r (C0 : lw_C p s m c b L xs E a g) (hW : lw_W E s a g u v H locs) (hM : xRo l E y w rm (.ref (a 0) :: As) (wX E a u) r) (cw : CallW room_1 s #[Value.ref b] RL RX5 index y bytes maxL ret w rm 0 0 n) (hn : As.length = n) (hl : ls.size = 4) (hst : st = As.reverse ++ .ref (a 0) :: rest) (hc : (rest.map fun v => v.category).sum ≤ 8) (hf : cells + 0 ≤ room_1.cells ∧ slots + 0 ≤ room_1.slots) (hdg : decode code pc = .ok (.invokevirtual index, 3))
    (kk : W p l e room_1 s m #[Value.ref b] below meth c H locs cells slots Q (F0 m (pc + 3) ls (r.toList ++ rest))) : W p l e room_1 s m #[Value.ref b] below meth c H locs cells slots Q (F0 m pc ls st) := by
  obtain ⟨hx, hb, hml, hown, hts, hF, hOa, hOg, hdis, hX, hbl, hbA, hL⟩ := C0
  obtain ⟨hP, hPm, hS⟩ := hW
  exact xRoV (nL := 4) ⟨hx, hb, hml, hown, hts⟩ hM cw hF hS (fun _ h => h) hP (va_recv (q := (RX5, TX5, 9)) hF.1 hP (ci := 5) rfl (q0 := 0) rfl) hn hl hst hc hf hdg kk
theorem lw_c6r (C0 : lw_C p s m c b L xs E a g) (hW : lw_W E s a g u v H locs) (hM : xRo l E y w rm (.ref (g 0) :: As) (wM E g v) r) (cw : CallW room_1 s #[Value.ref b] RL RX6 index y bytes maxL ret w rm 0 0 n) (hn : As.length = n) (hl : ls.size = 4) (hst : st = As.reverse ++ .ref (g 0) :: rest) (hc : (rest.map fun v => v.category).sum ≤ 8) (hf : cells + 0 ≤ room_1.cells ∧ slots + 0 ≤ room_1.slots) (hdg : decode code pc = .ok (.invokevirtual index, 3))
    (kk : W p l e room_1 s m #[Value.ref b] below meth c H locs cells slots Q (F0 m (pc + 3) ls (r.toList ++ rest))) : W p l e room_1 s m #[Value.ref b] below meth c H locs cells slots Q (F0 m pc ls st) := by
  obtain ⟨hx, hb, hml, hown, hts, hF, hOa, hOg, hdis, hX, hbl, hbA, hL⟩ := C0
  obtain ⟨hPx, hP, hS⟩ := hW
  exact xRoV (nL := 4) ⟨hx, hb, hml, hown, hts⟩ hM cw hF hS (fun _ h => h) hP (va_recv (q := (RX6, TX6, 28)) hF.1 hP (ci := 6) rfl (q0 := 0) rfl) hn hl hst hc hf hdg kk
end LAW
