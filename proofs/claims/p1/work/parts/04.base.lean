abbrev TY (cB cC cI cJ cZ : ClassId) : List (ClassId × FieldType) := [(cB, .byte), (cC, .char), (cI, .int), (cJ, .long), (cZ, .boolean)]
section BS
variable {p : Program} {l : Launch} {e : Env} {R : Room} {s : State} {m : MethodId} {args : Array Value} {below : List Frame} {meth : Method} {c : Code} {H : Heap} {locs : List Loc} {cells slots : Nat} {Q : State → Prop}
variable {cc : ByteArray} {pc : Nat} {ls : Array Slot} {rest : List Value} {D : va_G} {cl : List vw_C} {A : Nat → Prop} {ws : va_W} {H0 : Heap} {cB cC cI cJ cZ : ClassId}
theorem tp_i {x y : Int32} (h : x = y) (k : W p l e R s m args below meth c H locs cells slots Q (F0 m pc ls (.int y :: rest))) : W p l e R s m args below meth c H locs cells slots Q (F0 m pc ls (.int x :: rest)) := h ▸ k
theorem tp_l {x y : Int64} (h : x = y) (k : W p l e R s m args below meth c H locs cells slots Q (F0 m pc ls (.long y :: rest))) : W p l e R s m args below meth c H locs cells slots Q (F0 m pc ls (.long x :: rest)) := h ▸ k
theorem na_byte (hexec : p.tables.exec = Jvm.exec) (hb : c.code = cc) (harr : (Cond.arrayClass .byte).before args s = true) (hK : va_K D cl (TY cB cC cI cJ cZ) s) (hP : va_P D cl ws H) (hD : va_D A ws) (hS : va_S A H0 H locs) (hA : ∀ q, H0.size ≤ q → A q) {n : Int32} {N' : Nat} (hn : ¬ n < 0) (hN : n.toNatClampNeg = N') (hby : N' * componentBytes .byte ≤ 536870912) (hcells : cells + 1 ≤ R.cells) (hslots : slots + N' ≤ R.slots) (hdg : decode cc pc = .ok (.newarray .byte, 2))
    (kk : ∀ (q : Nat) (H1 : Heap), va_P D cl (ws ++ [(q, .inl (cB, N', .inl (fun _ => 0)))]) H1 → va_D A (ws ++ [(q, .inl (cB, N', .inl (fun _ => 0)))]) → va_S A H0 H1 locs → W p l e R s m args below meth c H1 locs (cells + 1) (slots + N') Q (F0 m (pc + 2) ls (.ref q :: rest))) : W p l e R s m args below meth c H locs cells slots Q (F0 m pc ls (.int n :: rest)) := by
  refine va_newa hexec hb (atype := .byte) harr rfl hK hP hD hS hA (a0 := (N', .inl (fun _ => 0))) (fun cA => rfl) hn hN hby hcells hslots hdg (fun q cA H1 hK1 hP1 hD1 hS1 => ?_)
  have e : cA = cB := Option.some.inj ((va_nm_byte (hK1.2 5 (cA, .byte) rfl).2).symm.trans (va_nm_byte (hK.2 0 (cB, .byte) rfl).2))
  subst e
  exact kk q H1 hP1 hD1 hS1
theorem ak_byte {args : Array Value} {s : State} (h : (Cond.arrayClass .byte).before args s = true) : ∃ cA : ClassId, ArrOfT s cA .byte ∧ va_RA s cA .byte := by
  obtain ⟨c, k, comp, h1, h2, h3⟩ := Cond.arrayClass_spec h
  exact ⟨c, fun n z => ⟨fun k h => (by cases h), k, h2, comp, h3⟩, h1⟩
theorem na_char (hexec : p.tables.exec = Jvm.exec) (hb : c.code = cc) (harr : (Cond.arrayClass .char).before args s = true) (hK : va_K D cl (TY cB cC cI cJ cZ) s) (hP : va_P D cl ws H) (hD : va_D A ws) (hS : va_S A H0 H locs) (hA : ∀ q, H0.size ≤ q → A q) {n : Int32} {N' : Nat} (hn : ¬ n < 0) (hN : n.toNatClampNeg = N') (hby : N' * componentBytes .char ≤ 536870912) (hcells : cells + 1 ≤ R.cells) (hslots : slots + N' ≤ R.slots) (hdg : decode cc pc = .ok (.newarray .char, 2))
    (kk : ∀ (q : Nat) (H1 : Heap), va_P D cl (ws ++ [(q, .inl (cC, N', .inl (fun _ => 0)))]) H1 → va_D A (ws ++ [(q, .inl (cC, N', .inl (fun _ => 0)))]) → va_S A H0 H1 locs → W p l e R s m args below meth c H1 locs (cells + 1) (slots + N') Q (F0 m (pc + 2) ls (.ref q :: rest))) : W p l e R s m args below meth c H locs cells slots Q (F0 m pc ls (.int n :: rest)) := by
  refine va_newa hexec hb (atype := .char) harr rfl hK hP hD hS hA (a0 := (N', .inl (fun _ => 0))) (fun cA => rfl) hn hN hby hcells hslots hdg (fun q cA H1 hK1 hP1 hD1 hS1 => ?_)
  have e : cA = cC := Option.some.inj ((va_nm_char (hK1.2 5 (cA, .char) rfl).2).symm.trans (va_nm_char (hK.2 1 (cC, .char) rfl).2))
  subst e
  exact kk q H1 hP1 hD1 hS1
theorem ak_char {args : Array Value} {s : State} (h : (Cond.arrayClass .char).before args s = true) : ∃ cA : ClassId, ArrOfT s cA .char ∧ va_RA s cA .char := by
  obtain ⟨c, k, comp, h1, h2, h3⟩ := Cond.arrayClass_spec h
  exact ⟨c, fun n z => ⟨fun k h => (by cases h), k, h2, comp, h3⟩, h1⟩
theorem na_int (hexec : p.tables.exec = Jvm.exec) (hb : c.code = cc) (harr : (Cond.arrayClass .int).before args s = true) (hK : va_K D cl (TY cB cC cI cJ cZ) s) (hP : va_P D cl ws H) (hD : va_D A ws) (hS : va_S A H0 H locs) (hA : ∀ q, H0.size ≤ q → A q) {n : Int32} {N' : Nat} (hn : ¬ n < 0) (hN : n.toNatClampNeg = N') (hby : N' * componentBytes .int ≤ 536870912) (hcells : cells + 1 ≤ R.cells) (hslots : slots + N' ≤ R.slots) (hdg : decode cc pc = .ok (.newarray .int, 2))
    (kk : ∀ (q : Nat) (H1 : Heap), va_P D cl (ws ++ [(q, .inl (cI, N', .inl (fun _ => 0)))]) H1 → va_D A (ws ++ [(q, .inl (cI, N', .inl (fun _ => 0)))]) → va_S A H0 H1 locs → W p l e R s m args below meth c H1 locs (cells + 1) (slots + N') Q (F0 m (pc + 2) ls (.ref q :: rest))) : W p l e R s m args below meth c H locs cells slots Q (F0 m pc ls (.int n :: rest)) := by
  refine va_newa hexec hb (atype := .int) harr rfl hK hP hD hS hA (a0 := (N', .inl (fun _ => 0))) (fun cA => rfl) hn hN hby hcells hslots hdg (fun q cA H1 hK1 hP1 hD1 hS1 => ?_)
  have e : cA = cI := Option.some.inj ((va_nm_int (hK1.2 5 (cA, .int) rfl).2).symm.trans (va_nm_int (hK.2 2 (cI, .int) rfl).2))
  subst e
  exact kk q H1 hP1 hD1 hS1
theorem ak_int {args : Array Value} {s : State} (h : (Cond.arrayClass .int).before args s = true) : ∃ cA : ClassId, ArrOfT s cA .int ∧ va_RA s cA .int := by
  obtain ⟨c, k, comp, h1, h2, h3⟩ := Cond.arrayClass_spec h
  exact ⟨c, fun n z => ⟨fun k h => (by cases h), k, h2, comp, h3⟩, h1⟩
theorem na_long (hexec : p.tables.exec = Jvm.exec) (hb : c.code = cc) (harr : (Cond.arrayClass .long).before args s = true) (hK : va_K D cl (TY cB cC cI cJ cZ) s) (hP : va_P D cl ws H) (hD : va_D A ws) (hS : va_S A H0 H locs) (hA : ∀ q, H0.size ≤ q → A q) {n : Int32} {N' : Nat} (hn : ¬ n < 0) (hN : n.toNatClampNeg = N') (hby : N' * componentBytes .long ≤ 536870912) (hcells : cells + 1 ≤ R.cells) (hslots : slots + N' ≤ R.slots) (hdg : decode cc pc = .ok (.newarray .long, 2))
    (kk : ∀ (q : Nat) (H1 : Heap), va_P D cl (ws ++ [(q, .inl (cJ, N', .inr (.inl (fun _ => 0))))]) H1 → va_D A (ws ++ [(q, .inl (cJ, N', .inr (.inl (fun _ => 0))))]) → va_S A H0 H1 locs → W p l e R s m args below meth c H1 locs (cells + 1) (slots + N') Q (F0 m (pc + 2) ls (.ref q :: rest))) : W p l e R s m args below meth c H locs cells slots Q (F0 m pc ls (.int n :: rest)) := by
  refine va_newa hexec hb (atype := .long) harr rfl hK hP hD hS hA (a0 := (N', .inr (.inl (fun _ => 0)))) (fun cA => rfl) hn hN hby hcells hslots hdg (fun q cA H1 hK1 hP1 hD1 hS1 => ?_)
  have e : cA = cJ := Option.some.inj ((va_nm_long (hK1.2 5 (cA, .long) rfl).2).symm.trans (va_nm_long (hK.2 3 (cJ, .long) rfl).2))
  subst e
  exact kk q H1 hP1 hD1 hS1
theorem ak_long {args : Array Value} {s : State} (h : (Cond.arrayClass .long).before args s = true) : ∃ cA : ClassId, ArrOfT s cA .long ∧ va_RA s cA .long := by
  obtain ⟨c, k, comp, h1, h2, h3⟩ := Cond.arrayClass_spec h
  exact ⟨c, fun n z => ⟨fun k h => (by cases h), k, h2, comp, h3⟩, h1⟩
theorem na_boolean (hexec : p.tables.exec = Jvm.exec) (hb : c.code = cc) (harr : (Cond.arrayClass .boolean).before args s = true) (hK : va_K D cl (TY cB cC cI cJ cZ) s) (hP : va_P D cl ws H) (hD : va_D A ws) (hS : va_S A H0 H locs) (hA : ∀ q, H0.size ≤ q → A q) {n : Int32} {N' : Nat} (hn : ¬ n < 0) (hN : n.toNatClampNeg = N') (hby : N' * componentBytes .boolean ≤ 536870912) (hcells : cells + 1 ≤ R.cells) (hslots : slots + N' ≤ R.slots) (hdg : decode cc pc = .ok (.newarray .boolean, 2))
    (kk : ∀ (q : Nat) (H1 : Heap), va_P D cl (ws ++ [(q, .inl (cZ, N', .inl (fun _ => 0)))]) H1 → va_D A (ws ++ [(q, .inl (cZ, N', .inl (fun _ => 0)))]) → va_S A H0 H1 locs → W p l e R s m args below meth c H1 locs (cells + 1) (slots + N') Q (F0 m (pc + 2) ls (.ref q :: rest))) : W p l e R s m args below meth c H locs cells slots Q (F0 m pc ls (.int n :: rest)) := by
  refine va_newa hexec hb (atype := .boolean) harr rfl hK hP hD hS hA (a0 := (N', .inl (fun _ => 0))) (fun cA => rfl) hn hN hby hcells hslots hdg (fun q cA H1 hK1 hP1 hD1 hS1 => ?_)
  have e : cA = cZ := Option.some.inj ((va_nm_boolean (hK1.2 5 (cA, .boolean) rfl).2).symm.trans (va_nm_boolean (hK.2 4 (cZ, .boolean) rfl).2))
  subst e
  exact kk q H1 hP1 hD1 hS1
theorem ak_boolean {args : Array Value} {s : State} (h : (Cond.arrayClass .boolean).before args s = true) : ∃ cA : ClassId, ArrOfT s cA .boolean ∧ va_RA s cA .boolean := by
  obtain ⟨c, k, comp, h1, h2, h3⟩ := Cond.arrayClass_spec h
  exact ⟨c, fun n z => ⟨fun k h => (by cases h), k, h2, comp, h3⟩, h1⟩
end BS
abbrev NW (U : State) : Prop := va_Nw (Cond.methodLinkNest RX0 11 yX2_init "MacroScopes") U ∧ va_Nw (Cond.methodLinkNest RX0 42 yX5_init "MacroScopes") U ∧ va_Nw (Cond.fieldLinkNest RX0 94 "MacroScopes$Forms" "top" "I" "MacroScopes") U ∧ va_Nw (Cond.fieldLinkNest RX0 100 "MacroScopes$Frames" "top" "I" "MacroScopes") U ∧ va_Nw (Cond.fieldLinkNest RX0 142 "MacroScopes$Told" "length" "I" "MacroScopes") U ∧ va_Nw (Cond.fieldLinkNest RX9 42 "MacroScopes$Names" "binding" "[I" "MacroScopes") U ∧ va_Nw (Cond.methodLinkNest RX11 22 yX1_init "MacroScopes") U ∧ va_Nw (Cond.methodLinkNest RX11 29 yX10_init "MacroScopes") U ∧ va_Nw (Cond.fieldLinkNest RX11 72 "MacroScopes$Forms" "kept" "I" "MacroScopes") U ∧ va_Nw (Cond.fieldLinkNest RX11 88 "MacroScopes$Expander" "place" "I" "MacroScopes") U ∧ va_Nw (Cond.fieldLinkNest RX11 96 "MacroScopes$Told" "takenLength" "I" "MacroScopes") U ∧ va_Nw (Cond.fieldLinkNest RX11 130 "MacroScopes$Expander" "uses" "I" "MacroScopes") U ∧ va_Nw (Cond.fieldLinkNest RX11 131 "MacroScopes$Expander" "variables" "I" "MacroScopes") U
theorem NW.same {u U : State} (h : u.vm = U.vm) (q : NW u) : NW U := ⟨va_Nw.same rfl h q.1, va_Nw.same rfl h q.2.1, va_Nw.same rfl h q.2.2.1, va_Nw.same rfl h q.2.2.2.1, va_Nw.same rfl h q.2.2.2.2.1, va_Nw.same rfl h q.2.2.2.2.2.1, va_Nw.same rfl h q.2.2.2.2.2.2.1, va_Nw.same rfl h q.2.2.2.2.2.2.2.1, va_Nw.same rfl h q.2.2.2.2.2.2.2.2.1, va_Nw.same rfl h q.2.2.2.2.2.2.2.2.2.1, va_Nw.same rfl h q.2.2.2.2.2.2.2.2.2.2.1, va_Nw.same rfl h q.2.2.2.2.2.2.2.2.2.2.2.1, va_Nw.same rfl h q.2.2.2.2.2.2.2.2.2.2.2.2⟩
theorem NW.same2 {u U : State} (q : NW u) (h : u.vm = U.vm) : NW U := NW.same h q
theorem NW.warm {s U : State} (q : NW s) (hW : s.WarmedH U.vm) : NW U := ⟨va_Nw.warmM hW q.1, va_Nw.warmM hW q.2.1, va_Nw.warmF hW q.2.2.1, va_Nw.warmF hW q.2.2.2.1, va_Nw.warmF hW q.2.2.2.2.1, va_Nw.warmF hW q.2.2.2.2.2.1, va_Nw.warmM hW q.2.2.2.2.2.2.1, va_Nw.warmM hW q.2.2.2.2.2.2.2.1, va_Nw.warmF hW q.2.2.2.2.2.2.2.2.1, va_Nw.warmF hW q.2.2.2.2.2.2.2.2.2.1, va_Nw.warmF hW q.2.2.2.2.2.2.2.2.2.2.1, va_Nw.warmF hW q.2.2.2.2.2.2.2.2.2.2.2.1, va_Nw.warmF hW q.2.2.2.2.2.2.2.2.2.2.2.2⟩
theorem df_X0 : ∀ j, j < 15 → defaultValue (tyX0 j) = vp_V [.null, .null, .null, .null, .null, .null, .null, .null, .int 0, .int 0, .int 0, .int 0, .int 0, .int 0, .int 0] j := by decide +kernel
theorem df_X1 : ∀ j, j < 4 → defaultValue (tyX1 j) = vp_V [.null, .null, .int 0, .int 0] j := by decide +kernel
theorem df_X2 : ∀ j, j < 7 → defaultValue (tyX2 j) = vp_V [.null, .null, .null, .null, .null, .null, .int 0] j := by decide +kernel
theorem df_X3 : ∀ j, j < 6 → defaultValue (tyX3 j) = vp_V [.null, .null, .null, .int 0, .int 0, .int 0] j := by decide +kernel
theorem df_X4 : ∀ j, j < 6 → defaultValue (tyX4 j) = vp_V [.null, .null, .null, .null, .int 0, .int 0] j := by decide +kernel
theorem df_X5 : ∀ j, j < 6 → defaultValue (tyX5 j) = vp_V [.null, .null, .null, .null, .int 0, .int 0] j := by decide +kernel
theorem df_X6 : ∀ j, j < 13 → defaultValue (tyX6 j) = vp_V [.null, .null, .null, .null, .int 0, .int 0, .null, .null, .null, .null, .null, .int 0, .int 0] j := by decide +kernel
theorem df_X7 : ∀ j, j < 4 → defaultValue (tyX7 j) = vp_V [.null, .null, .null, .int 0] j := by decide +kernel
theorem df_X8 : ∀ j, j < 4 → defaultValue (tyX8 j) = vp_V [.null, .null, .null, .int 0] j := by decide +kernel
theorem df_X9 : ∀ j, j < 6 → defaultValue (tyX9 j) = vp_V [.null, .null, .null, .null, .null, .int 0] j := by decide +kernel
theorem df_X10 : ∀ j, j < 5 → defaultValue (tyX10 j) = vp_V [.null, .int 0, .null, .int 0, .int 0] j := by decide +kernel
theorem df_X11 : ∀ j, j < 11 → defaultValue (tyX11 j) = vp_V [.null, .null, .null, .null, .null, .null, .int 0, .int 0, .int 0, .int 0, .int 0] j := by decide +kernel
theorem df_X12 : ∀ j, j < 64 → defaultValue (tyX12 j) = vp_V [.int 0, .null, .int 0, .int 0, .null, .null, .int 0, .null, .null, .int 0, .null, .null, .null, .null, .int 0, .int 0, .int 0, .int 0, .null, .null, .int 0, .null, .null, .int 0, .null, .null, .null, .int 0, .null, .null, .null, .null, .int 0, .int 0, .int 0, .int 0, .int 0, .null, .int 0, .null, .int 0, .int 0, .int 0, .int 0, .null, .int 0, .null, .null, .null, .int 0, .null, .null, .null, .int 0, .null, .null, .null, .null, .null, .null, .null, .null, .int 0, .int 0] j := by decide +kernel
/-- a String constant of at most 16 bytes, in the short form -/
def StrOK (a : Nat) (A : Nat → Prop) (U : State) (H : Heap) : Prop := va_Z "java/lang/String" "COMPACT_STRINGS" "Z" (.int 1) A U H ∧ va_O "java/lang/String" a A U H ∧ va_OF "java/lang/String" "coder" "B" (.int 0) a A U H ∧ ∃ (v n : Nat) (f : Nat → Int32), n ≤ 16 ∧ va_OF "java/lang/String" "value" "[B" (.ref v) a A U H ∧ va_T .byte v n (fun j => .int (f j)) A U H
theorem StrOK.moved {a : Nat} {A : Nat → Prop} {u U : State} {H : Heap} (h : StrOK a A u H) (hvm : u.vm.Alike U.vm) : StrOK a A U H := by
  obtain ⟨h1, h2, h3, v, n, f, hn, h4, h5⟩ := h
  exact ⟨va_Z.moved hvm h1, va_O.moved hvm h2, va_OF.moved hvm h3, v, n, f, hn, va_OF.moved hvm h4, va_T.moved hvm h5⟩
theorem StrOK.kept {a : Nat} {A : Nat → Prop} {U : State} {H H1 : Heap} (h : StrOK a A U H) (hq : ∀ a : Nat, a < H.size → ¬ A a → H1[a]? = H[a]?) : StrOK a A U H1 := by
  obtain ⟨h1, h2, h3, v, n, f, hn, h4, h5⟩ := h
  exact ⟨h1.kept hq, h2.kept hq, h3.kept hq, v, n, f, hn, h4.kept hq, h5.kept hq⟩
theorem StrOK.narrow {a : Nat} {A B : Nat → Prop} {U : State} {H : Heap} (h : StrOK a A U H) (hAB : ∀ q, B q → A q) : StrOK a B U H := by
  obtain ⟨h1, h2, h3, v, n, f, hn, h4, h5⟩ := h
  exact ⟨h1.narrow hAB, h2.narrow hAB, h3.narrow hAB, v, n, f, hn, h4.narrow hAB, h5.narrow hAB⟩
