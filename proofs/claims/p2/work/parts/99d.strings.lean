def oJ1_inflate_03870 : List Cond := []
def vJ1_inflate_03870 : List Cond := .code yJ1_inflate_03870 cJ1_inflate_03870 6 none :: (oJ1_inflate_03870)
def oJ1_toChars_9d188 : List Cond := [Cond.arrayClass .char, Cond.methodLink RJ1 13 yJ1_inflate_03870, Cond.static yJ1_inflate_03870, Cond.initialized RJ1]
def vJ1_toChars_9d188 : List Cond := .code yJ1_toChars_9d188 cJ1_toChars_9d188 2 (some (.array .char)) :: (oJ1_toChars_9d188 ++ (vJ1_inflate_03870))
theorem lkJ1_toChars_9d188_achar : Cond.arrayClass .char ∈ vJ1_toChars_9d188 := List.mem_cons_of_mem _ (List.mem_append_left _ (List.mem_of_getElem? (i := 0) rfl))
theorem kJ1_toChars_9d188_J1_inflate_03870_13 : GoodIn vJ1_toChars_9d188 (va_wsS RJ1 13 yJ1_inflate_03870 vJ1_inflate_03870) := goodIn_sub (fun w h => (List.mem_append.mp h).elim (fun h => List.mem_cons_of_mem _ (List.mem_append_left _ ((by decide +kernel : ∀ w ∈ ([.methodLink RJ1 13 yJ1_inflate_03870, .static yJ1_inflate_03870, .initialized yJ1_inflate_03870.cls] : List Cond), w ∈ oJ1_toChars_9d188) w h))) (fun h => List.mem_cons_of_mem _ (List.mem_append_right _ (h)))) (by decide +kernel)
def oJ0_isLatin1_aae02 : List Cond := [Cond.fieldLink RJ0 38 "java/lang/String" "COMPACT_STRINGS" "Z", Cond.fieldLink RJ0 15 "java/lang/String" "coder" "B"]
def vJ0_isLatin1_aae02 : List Cond := .code yJ0_isLatin1_aae02 cJ0_isLatin1_aae02 1 (some .boolean) :: (oJ0_isLatin1_aae02)
theorem lkJ0_isLatin1_aae02_f38 : Cond.fieldLink RJ0 38 "java/lang/String" "COMPACT_STRINGS" "Z" ∈ vJ0_isLatin1_aae02 := List.mem_cons_of_mem _ (List.mem_of_getElem? (i := 0) rfl)
theorem lkJ0_isLatin1_aae02_f15 : Cond.fieldLink RJ0 15 "java/lang/String" "coder" "B" ∈ vJ0_isLatin1_aae02 := List.mem_cons_of_mem _ (List.mem_of_getElem? (i := 1) rfl)
def oJ0_toCharArray_70df3 : List Cond := [Cond.methodLink RJ0 492 yJ0_isLatin1_aae02, Cond.instanceMethod yJ0_isLatin1_aae02, Cond.selects RJ0 yJ0_isLatin1_aae02 yJ0_isLatin1_aae02, Cond.initialized RJ0, Cond.fieldLink RJ0 9 "java/lang/String" "value" "[B", Cond.methodLink RJ0 299 yJ1_toChars_9d188, Cond.static yJ1_toChars_9d188, Cond.initialized RJ1]
def vJ0_toCharArray_70df3 : List Cond := .code yJ0_toCharArray_70df3 cJ0_toCharArray_70df3 1 (some (.array .char)) :: (oJ0_toCharArray_70df3 ++ (vJ0_isLatin1_aae02 ++ (vJ1_toChars_9d188)))
theorem lkJ0_toCharArray_70df3_f9 : Cond.fieldLink RJ0 9 "java/lang/String" "value" "[B" ∈ vJ0_toCharArray_70df3 := List.mem_cons_of_mem _ (List.mem_append_left _ (List.mem_of_getElem? (i := 4) rfl))
theorem kJ0_toCharArray_70df3_J0_isLatin1_aae02_492 : GoodIn vJ0_toCharArray_70df3 (wsV RJ0 492 RJ0 yJ0_isLatin1_aae02 vJ0_isLatin1_aae02) := goodIn_sub (fun w h => (List.mem_append.mp h).elim (fun h => List.mem_cons_of_mem _ (List.mem_append_left _ ((by decide +kernel : ∀ w ∈ ([.methodLink RJ0 492 yJ0_isLatin1_aae02, .instanceMethod yJ0_isLatin1_aae02, .selects RJ0 yJ0_isLatin1_aae02 yJ0_isLatin1_aae02, .initialized RJ0] : List Cond), w ∈ oJ0_toCharArray_70df3) w h))) (fun h => List.mem_cons_of_mem _ (List.mem_append_right _ (List.mem_append_left _ (h))))) (by decide +kernel)
theorem kJ0_toCharArray_70df3_J1_toChars_9d188_299 : GoodIn vJ0_toCharArray_70df3 (va_wsS RJ0 299 yJ1_toChars_9d188 vJ1_toChars_9d188) := goodIn_sub (fun w h => (List.mem_append.mp h).elim (fun h => List.mem_cons_of_mem _ (List.mem_append_left _ ((by decide +kernel : ∀ w ∈ ([.methodLink RJ0 299 yJ1_toChars_9d188, .static yJ1_toChars_9d188, .initialized yJ1_toChars_9d188.cls] : List Cond), w ∈ oJ0_toCharArray_70df3) w h))) (fun h => List.mem_cons_of_mem _ (List.mem_append_right _ (List.mem_append_right _ (h))))) (by decide +kernel)
set_option maxHeartbeats 4000000 in
set_option maxRecDepth 100000 in
theorem ilp_inflate {p : Program} {l : Launch} {e : Env} {R : Room} {s : State} {m : MethodId} {args : Array Value} {below : List Frame} {meth : Method} {c : Code} {Q : State → Prop} {A : Nat → Prop} {dC : Nat → ClassId} {dI : Nat → Nat → Nat} {cB cC cI cJ cZ : ClassId} {cells slots : Nat} (hx : p.tables.exec = Jvm.exec) (hb : c.code = cJ1_inflate_03870) (hml : c.maxLocals = 6) (hown : s.vm.findClass RJ1 = some m.cls) (hts : ∀ w ∈ vJ1_inflate_03870, w.before args s = true) (hK : va_K (dC, dI) vwCl (TY cB cC cI cJ cZ) s) (hA : ∀ q : Nat, s.heap.size ≤ q → A q) (v q n : Nat) (f : Nat → Int32) (hn : n ≤ 16) (hT : va_T .byte v n (fun j => .int (f j)) A s s.heap) (kk : ∀ (g1 : Nat → Int32) (H : Heap) (locs : List Loc), va_P (dC, dI) vwCl [(q, .inl (cC, n, .inl g1))] H → va_D A [(q, .inl (cC, n, .inl g1))] → va_S A s.heap H locs → ∀ (ls : Array Slot), lv_has ls 6 [] → W p l e R s m args below meth c H locs cells slots Q (F0 m 33 ls [])) : ∀ (k : Nat) (i : Nat) (g : Nat → Int32) (x1 x3 x5 : Int32), i ≤ n → n + 1 ≤ i + k → x1 = nI i → x3 = nI i → x5 = nI i → ∀ (H : Heap) (locs : List Loc), va_P (dC, dI) vwCl [(q, .inl (cC, n, .inl g))] H → va_D A [(q, .inl (cC, n, .inl g))] → va_S A s.heap H locs → ∀ (ls : Array Slot), lv_has ls 6 [(0, .ref v), (1, .int x1), (2, .ref q), (3, .int x3), (4, .int (nI n)), (5, .int x5)] → W p l e R s m args below meth c H locs cells slots Q (F0 m 3 ls []) := by
  intro k
  induction k with
  | zero =>
    intro i g x1 x3 x5 hi hk h1 h3 h5
    omega
  | succ k ih =>
    intro i g x1 x3 x5 hi hk h1 h3 h5 H locs hP hD hS ls hl
    refine lv_iload hx hb dJ1_inflate_03870_3 (lv_at hl 5 rfl) ?_
    refine lv_iload hx hb dJ1_inflate_03870_5 (lv_at hl 4 rfl) ?_
    refine lv_icmp_ge (tgt := 33) hx hb dJ1_inflate_03870_7 (by decide) (fun c1 => ?_) (fun c1 => ?_)
    · exact kk g H locs (hP.sub [0] rfl) (hD.sub [0] (by decide) rfl) hS ls (lv_sub hl [] rfl)
    · have hlt : i < n := by
        rcases Nat.lt_or_ge i n with q9 | q9
        · exact q9
        · exact absurd (by rw [h5]; exact nI_le q9 (by omega)) c1
      have hin1 : vp_in x1 n := by rw [h1]; exact vp_in_nI hlt (by omega)
      have hin3 : vp_in x3 n := by rw [h3]; exact vp_in_nI hlt (by omega)
      refine lv_aload_n hx hb dJ1_inflate_03870_10 rfl (lv_at hl 2 rfl) ?_
      refine lv_iload_n hx hb dJ1_inflate_03870_11 rfl (lv_at hl 3 rfl) ?_
      obtain ⟨x_1, ex_1⟩ : ∃ y : Int32, y = x3 + 1 := ⟨_, rfl⟩
      refine lv_iinc (v := x_1) (lv' := [(3, .int x_1), (0, .ref v), (1, .int x1), (2, .ref q), (4, .int (nI n)), (5, .int x5)]) hx hb dJ1_inflate_03870_12 hl (k := 3) rfl (by rw [ex_1]; rfl) (by decide) rfl (fun ls hl => ?_)
      refine lv_aload_n hx hb dJ1_inflate_03870_15 rfl (lv_at hl 1 rfl) ?_
      refine lv_iload_n hx hb dJ1_inflate_03870_16 rfl (lv_at hl 2 rfl) ?_
      obtain ⟨x_2, ex_2⟩ : ∃ y : Int32, y = x1 + 1 := ⟨_, rfl⟩
      refine lv_iinc (v := x_2) (lv' := [(1, .int x_2), (3, .int x_1), (0, .ref v), (2, .ref q), (4, .int (nI n)), (5, .int x5)]) hx hb dJ1_inflate_03870_17 hl (k := 2) rfl (by rw [ex_2]; rfl) (by decide) rfl (fun ls hl => ?_)
      refine va_tb hx hb hT hS hin1 (v := .int (f x1.toNatClampNeg)) rfl dJ1_inflate_03870_20 ?_
      refine lv_sipush (v := 255) hx hb dJ1_inflate_03870_21 (by decide) ?_
      refine lv_iand hx hb dJ1_inflate_03870_24 ?_
      refine lv_i2c hx hb dJ1_inflate_03870_25 rfl ?_
      refine va_cast hx hb hK hP hD hS 0 1 rfl rfl (hin3) dJ1_inflate_03870_26 (fun H locs hP hD hS => ?_)
      have hP : va_P (dC, dI) vwCl [(q, .inl (cC, n, .inl (upd g x3.toNatClampNeg (vp_nar .char ((((f x1.toNatClampNeg) &&& 255).toUInt32 % 65536).toInt32)))))] H := hP
      have hD : va_D A [(q, .inl (cC, n, .inl (upd g x3.toNatClampNeg (vp_nar .char ((((f x1.toNatClampNeg) &&& 255).toUInt32 % 65536).toInt32)))))] := hD
      generalize eg2 : upd g x3.toNatClampNeg (vp_nar .char ((((f x1.toNatClampNeg) &&& 255).toUInt32 % 65536).toInt32)) = g2 at hP hD
      obtain ⟨x_3, ex_3⟩ : ∃ y : Int32, y = x5 + 1 := ⟨_, rfl⟩
      refine lv_iinc (v := x_3) (lv' := [(5, .int x_3), (1, .int x_2), (3, .int x_1), (0, .ref v), (2, .ref q), (4, .int (nI n))]) hx hb dJ1_inflate_03870_27 hl (k := 5) rfl (by rw [ex_3]; rfl) (by decide) rfl (fun ls hl => ?_)
      refine lv_goto (tgt := 3) hx hb dJ1_inflate_03870_30 (by decide) ?_
      exact ih (i + 1) g2 x_2 x_1 x_3 hlt (by omega) (by rw [ex_2, h1]; exact nI_1 i) (by rw [ex_1, h3]; exact nI_1 i) (by rw [ex_3, h5]; exact nI_1 i) _ _ (hP.sub [0] rfl) (hD.sub [0] (by decide) rfl) hS ls (lv_sub hl [3, 1, 4, 2, 5, 0] rfl)

set_option maxHeartbeats 4000000 in
set_option maxRecDepth 100000 in
/-- inflate: the chars are written, whatever they are -/
theorem i_inflate (l : Launch) (dC : Nat → ClassId) (dI : Nat → Nat → Nat) (cB cC cI cJ cZ : ClassId) (v q n : Nat) (f g : Nat → Int32) (hn : n ≤ 16) (sz : Nat) : Met l yJ1_inflate_03870 vJ1_inflate_03870 { frames := 0, cells := 0, slots := 0, locals := 0 } (va_Pc [.ref v, .int 0, .ref q, .int 0, .int (nI n)] (fun U => U.heap.size = sz ∧ va_P (dC, dI) vwCl [(q, .inl (cC, n, .inl g))] U.heap ∧ va_K (dC, dI) vwCl (TY cB cC cI cJ cZ) U ∧ va_D (fun _ => True) [(q, .inl (cC, n, .inl g))] ∧ va_T .byte v n (fun j => .int (f j)) (va_A [(q, .inl (cC, n, .inl g))] sz) U U.heap)) (va_Qv (fun (_ : Unit) => True) (fun (_ : Unit) (t : State) => ∃ (g1 : Nat → Int32), va_P (dC, dI) vwCl [(q, .inl (cC, n, .inl g1))] t.heap ∧ va_K (dC, dI) vwCl (TY cB cC cI cJ cZ) t ∧ va_D (va_A [(q, .inl (cC, n, .inl g))] sz) [(q, .inl (cC, n, .inl g1))]) (va_A [(q, .inl (cC, n, .inl g))] sz)) 0 0 (va_A [(q, .inl (cC, n, .inl g))] sz) := by
  refine Met.ofW (cc := cJ1_inflate_03870) (maxL := 6) (ret := none) (by decide) rfl ?_
  intro p e s m args below meth c s₁ B hml hv
  obtain ⟨rfl, hsz, hP, hK, hD0, hX⟩ := hv
  have hx := B.exec
  have hb := B.bytes
  have hr := B.returns
  have hts := atoms_spec (ws := vJ1_inflate_03870) B.pre
  have hown : s.vm.findClass RJ1 = some m.cls := findClass_of_methodNamed B.named
  have hlocks := B.notSynchronized
  subst hsz
  have hD := hD0.self (sz := s.heap.size)
  generalize hAe : va_A [(q, .inl (cC, n, .inl g))] s.heap.size = A at hD hX ⊢
  have hA : ∀ q : Nat, s.heap.size ≤ q → A q := fun q h => by rw [← hAe]; exact Or.inr h
  have hS : va_S A s.heap s.heap [] := va_S.rf
  have hP : va_P (dC, dI) vwCl [(q, .inl (cC, n, .inl g))] s.heap := hP
  have hl := lv_entry ([.ref v, .int 0, .ref q, .int 0, .int (nI n)]) (n := 6) (Nat.le_of_ble_eq_true rfl)
  rw [lg_entry_eq]
  generalize (lg_sl ([.ref v, .int 0, .ref q, .int 0, .int (nI n)]) ++ List.replicate (6 - (lg_sl ([.ref v, .int 0, .ref q, .int 0, .int (nI n)])).length) Slot.unset).toArray = ls at hl ⊢
  have hl : lv_has ls 6 [(0, .ref v), (1, .int 0), (2, .ref q), (3, .int 0), (4, .int (nI n))] := hl
  have hT := hX
  refine lv_iconst (v := 0) hx hb dJ1_inflate_03870_0 (by decide) ?_
  refine lv_istore (lv' := [(5, .int 0), (0, .ref v), (1, .int 0), (2, .ref q), (3, .int 0), (4, .int (nI n))]) hx hb dJ1_inflate_03870_1 hl (by decide) rfl (fun ls hl => ?_)
  refine ilp_inflate hx hb hml hown hts hK hA v q n f hn hT (fun g1 H locs hP hD hS ls hl => ?_) (n + 1) 0 g 0 0 0 (Nat.zero_le n) (by omega) nI_0.symm nI_0.symm nI_0.symm _ _ (hP.sub [0] rfl) (hD.sub [0] (by decide) rfl) hS ls (lv_sub hl [1, 2, 3, 4, 5, 0] rfl)
  refine W.widen (k := 0) (n := 0) (Nat.le_of_ble_eq_true rfl) (Nat.le_of_ble_eq_true rfl) ?_
  have hP9 := hP.sub (ws' := [(q, .inl (cC, n, .inl g1))]) [0] rfl
  have hD9 := hD.sub (ws' := [(q, .inl (cC, n, .inl g1))]) [0] (by decide) rfl
  exact W.vret hx hb hr (fun t ht hW => ⟨⟨(), rfl, trivial, g1, by rw [ht]; exact hP9, va_K.moved hW.alike hK, hD9⟩, hS.F ht⟩) hS.2.2 dJ1_inflate_03870_33

set_option maxHeartbeats 4000000 in
set_option maxRecDepth 100000 in
/-- StringLatin1.toChars: a new array of as many chars -/
theorem i_toChars (l : Launch) (dC : Nat → ClassId) (dI : Nat → Nat → Nat) (cB cC cI cJ cZ : ClassId) (v n : Nat) (f : Nat → Int32) (hn : n ≤ 16) (sz : Nat) : Met l yJ1_toChars_9d188 vJ1_toChars_9d188 { frames := 1, cells := 1, slots := 16, locals := 25 } (va_Pc [.ref v] (fun U => U.heap.size = sz ∧ va_P (dC, dI) vwCl [] U.heap ∧ va_K (dC, dI) vwCl (TY cB cC cI cJ cZ) U ∧ va_D (fun _ => True) [] ∧ va_T .byte v n (fun j => .int (f j)) (va_A [] sz) U U.heap)) (va_Qr (fun (_ : Unit) => True) (fun (_ : Unit) (ra : Nat) (t : State) => ∃ (g : Nat → Int32), va_P (dC, dI) vwCl [(ra, .inl (cC, n, .inl g))] t.heap ∧ va_K (dC, dI) vwCl (TY cB cC cI cJ cZ) t ∧ va_D (va_A [] sz) [(ra, .inl (cC, n, .inl g))]) (va_A [] sz)) 1 16 (va_A [] sz) := by
  refine Met.ofW (cc := cJ1_toChars_9d188) (maxL := 2) (ret := (some (.array .char))) (by decide) rfl ?_
  intro p e s m args below meth c s₁ B hml hv
  obtain ⟨rfl, hsz, hP, hK, hD0, hX⟩ := hv
  have hx := B.exec
  have hb := B.bytes
  have hr := B.returns
  have hts := atoms_spec (ws := vJ1_toChars_9d188) B.pre
  have hown : s.vm.findClass RJ1 = some m.cls := findClass_of_methodNamed B.named
  have hlocks := B.notSynchronized
  subst hsz
  have hD := hD0.self (sz := s.heap.size)
  generalize hAe : va_A [] s.heap.size = A at hD hX ⊢
  have hA : ∀ q : Nat, s.heap.size ≤ q → A q := fun q h => by rw [← hAe]; exact Or.inr h
  have hS : va_S A s.heap s.heap [] := va_S.rf
  have hP : va_P (dC, dI) vwCl [] s.heap := hP
  have hl := lv_entry ([.ref v]) (n := 2) (Nat.le_of_ble_eq_true rfl)
  rw [lg_entry_eq]
  generalize (lg_sl ([.ref v]) ++ List.replicate (2 - (lg_sl ([.ref v])).length) Slot.unset).toArray = ls at hl ⊢
  have hl : lv_has ls 2 [(0, .ref v)] := hl
  have hT := hX
  refine lv_aload_n hx hb dJ1_toChars_9d188_0 rfl (lv_at hl 0 rfl) ?_
  refine va_tlen hx hb hT hS (v := nI n) rfl dJ1_toChars_9d188_1 ?_
  refine na_char (N' := n) hx hb (hts _ lkJ1_toChars_9d188_achar) hK hP hD hS hA (nI_pos (by omega)) (nI_clamp (by omega)) (by show n * 2 ≤ 536870912; omega) (Nat.le_of_ble_eq_true rfl) (by show 0 + n ≤ 16; omega) dJ1_toChars_9d188_2 (fun q2 H hP hD hS => ?_)
  have hP : va_P (dC, dI) vwCl [(q2, .inl (cC, n, .inl (fun _ => 0)))] H := hP
  have hD : va_D A [(q2, .inl (cC, n, .inl (fun _ => 0)))] := hD
  refine W.widen (k := 1) (n := 16) (by omega) (by omega) ?_
  refine lv_astore_n (lv' := [(1, .ref q2), (0, .ref v)]) hx hb dJ1_toChars_9d188_4 rfl hl (by decide) rfl (fun ls hl => ?_)
  refine lv_aload_n hx hb dJ1_toChars_9d188_5 rfl (lv_at hl 1 rfl) ?_
  refine lv_iconst (v := 0) hx hb dJ1_toChars_9d188_6 (by decide) ?_
  refine lv_aload_n hx hb dJ1_toChars_9d188_7 rfl (lv_at hl 0 rfl) ?_
  refine lv_iconst (v := 0) hx hb dJ1_toChars_9d188_8 (by decide) ?_
  refine lv_aload_n hx hb dJ1_toChars_9d188_9 rfl (lv_at hl 1 rfl) ?_
  refine va_tlen hx hb hT hS (v := nI n) rfl dJ1_toChars_9d188_10 ?_
  have hPc := hP.sub (ws' := [(q2, .inl (cC, n, .inl (fun _ => 0)))]) [0] rfl
  have hDc := hD.sub (ws' := [(q2, .inl (cC, n, .inl (fun _ => 0)))]) [0] (by decide) rfl
  have hFc := va_free (wc := [(q2, .inl (cC, n, .inl (fun _ => 0)))]) hD hS hA [0] rfl
  refine va_callv (va_runS (As := [.ref v, .int 0, .ref q2, .int 0, .int (nI n)]) (rest := []) ⟨hx, hb, hml, hown, hts⟩ (i_inflate l dC dI cB cC cI cJ cZ v q2 n f (fun _ => 0) hn H.size) (va_cwS 5 hts kJ1_toChars_9d188_J1_inflate_03870_13 rfl rfl rfl (by decide +kernel) ⟨Nat.le_of_ble_eq_true rfl, Nat.le_of_ble_eq_true rfl⟩) ⟨fun a U g mk q => by obtain ⟨q0, q1, qP, qK, qD, qX⟩ := q; exact ⟨q0, q1, qP, va_K.moved (u := U) (U := U.calling g mk a) (Vm.Alike.refl U.vm) qK, qD, va_T.moved (u := U) (U := U.calling g mk a) (Vm.Alike.refl U.vm) qX⟩, fun U hU hW => ⟨rfl, by rw [hU], by rw [hU]; exact hPc, va_K.moved hW.alike hK, hDc.weaken (fun _ _ _ _ => trivial), by rw [hU]; exact va_T.moved hW.alike ((hT.kept hS.2.1).narrow hFc)⟩⟩ rfl rfl hl.1 rfl (lv_room (Nat.le_of_ble_eq_true rfl)) dJ1_toChars_9d188_11 ⟨Nat.le_of_ble_eq_true rfl, Nat.le_of_ble_eq_true rfl⟩) hS (fun q _ h => hFc q h) hFc (fun _u t H locs ht hvm hw hB hz1 hk1 hS => ?_)
  obtain ⟨g_1, hP1, hK1, hD1⟩ := hB
  rw [ht] at hP1
  obtain ⟨hP, hD⟩ := va_join (wr := []) (w1 := [(q2, .inl (cC, n, .inl g_1))]) hP hD [0] [] rfl rfl (by decide) (by decide) hk1 hFc hP1 hD1
  have hP : va_P (dC, dI) vwCl [(q2, .inl (cC, n, .inl g_1))] H := hP
  have hD : va_D A [(q2, .inl (cC, n, .inl g_1))] := hD
  refine W.widen (k := 1) (n := 16) (Nat.le_of_ble_eq_true rfl) (Nat.le_of_ble_eq_true rfl) ?_
  refine lv_aload_n hx hb dJ1_toChars_9d188_14 rfl (lv_at hl 0 rfl) ?_
  refine W.widen (k := 1) (n := 16) (Nat.le_of_ble_eq_true rfl) (Nat.le_of_ble_eq_true rfl) ?_
  have hP9 := hP.sub (ws' := [(q2, .inl (cC, n, .inl g_1))]) [0] rfl
  have hD9 := hD.sub (ws' := [(q2, .inl (cC, n, .inl g_1))]) [0] (by decide) rfl
  exact W.aret hx hb hr (Or.inr ⟨_, rfl⟩) (Or.inr ⟨_, rfl⟩) (fun t ht hW => ⟨⟨(), q2, rfl, trivial, g_1, by rw [ht]; exact hP9, va_K.moved hW.alike hK, hD9⟩, hS.F ht⟩) hS.2.2 dJ1_toChars_9d188_15

set_option maxHeartbeats 4000000 in
set_option maxRecDepth 100000 in
/-- String.isLatin1 of such a constant -/
theorem i_isLatin1 (l : Launch) (dC : Nat → ClassId) (dI : Nat → Nat → Nat) (cB cC cI cJ cZ : ClassId) (a : Nat)  (sz : Nat) : Met l yJ0_isLatin1_aae02 vJ0_isLatin1_aae02 { frames := 0, cells := 0, slots := 0, locals := 0 } (va_Pc [.ref a] (fun U => U.heap.size = sz ∧ va_P (dC, dI) vwCl [] U.heap ∧ va_K (dC, dI) vwCl (TY cB cC cI cJ cZ) U ∧ va_D (fun _ => True) [] ∧ StrOK a (va_A [] sz) U U.heap)) (va_Qi (fun (r : Int32) (_ : Unit) => r = 1) (fun (_ : Unit) (t : State) => va_P (dC, dI) vwCl [] t.heap ∧ va_K (dC, dI) vwCl (TY cB cC cI cJ cZ) t ∧ va_D (va_A [] sz) []) (va_A [] sz)) 0 0 (va_A [] sz) := by
  refine Met.ofW (cc := cJ0_isLatin1_aae02) (maxL := 1) (ret := (some .boolean)) (by decide) rfl ?_
  intro p e s m args below meth c s₁ B hml hv
  obtain ⟨rfl, hsz, hP, hK, hD0, hX⟩ := hv
  have hx := B.exec
  have hb := B.bytes
  have hr := B.returns
  have hts := atoms_spec (ws := vJ0_isLatin1_aae02) B.pre
  have hown : s.vm.findClass RJ0 = some m.cls := findClass_of_methodNamed B.named
  have hlocks := B.notSynchronized
  subst hsz
  have hD := hD0.self (sz := s.heap.size)
  generalize hAe : va_A [] s.heap.size = A at hD hX ⊢
  have hA : ∀ q : Nat, s.heap.size ≤ q → A q := fun q h => by rw [← hAe]; exact Or.inr h
  have hS : va_S A s.heap s.heap [] := va_S.rf
  have hP : va_P (dC, dI) vwCl [] s.heap := hP
  have hl := lv_entry ([.ref a]) (n := 1) (Nat.le_of_ble_eq_true rfl)
  rw [lg_entry_eq]
  generalize (lg_sl ([.ref a]) ++ List.replicate (1 - (lg_sl ([.ref a])).length) Slot.unset).toArray = ls at hl ⊢
  have hl : lv_has ls 1 [(0, .ref a)] := hl
  obtain ⟨hz, ho, hc, v, n, f, hn, hv, hT⟩ := hX
  refine va_gets hx hb hz hS hown (hts _ lkJ0_isLatin1_aae02_f38) (fun _ h9 => h9) dJ0_isLatin1_aae02_0 ?_
  refine lv_if_eq (tgt := 17) hx hb dJ0_isLatin1_aae02_3 (by decide) (fun q9 => absurd q9 (by decide)) (fun _ => ?_)
  refine lv_aload_n hx hb dJ0_isLatin1_aae02_6 rfl (lv_at hl 0 rfl) ?_
  refine vk_getf hx hb hc hS hown (hts _ lkJ0_isLatin1_aae02_f15) (fun _ h9 => h9) dJ0_isLatin1_aae02_7 ?_
  refine lv_if_ne (tgt := 17) hx hb dJ0_isLatin1_aae02_10 (by decide) (fun q9 => absurd q9 (by decide)) (fun _ => ?_)
  refine lv_iconst (v := 1) hx hb dJ0_isLatin1_aae02_13 (by decide) ?_
  refine lv_goto (tgt := 18) hx hb dJ0_isLatin1_aae02_14 (by decide) ?_
  refine W.widen (k := 0) (n := 0) (Nat.le_of_ble_eq_true rfl) (Nat.le_of_ble_eq_true rfl) ?_
  have hP9 := hP.sub (ws' := []) [] rfl
  have hD9 := hD.sub (ws' := []) [] (by decide) rfl
  exact W.zret (v := 1) hx hb hr (by rfl) (fun t ht hW => ⟨⟨1, (), rfl, rfl, by rw [ht]; exact hP9, va_K.moved hW.alike hK, hD9⟩, hS.F ht⟩) hS.2.2 dJ0_isLatin1_aae02_18

set_option maxHeartbeats 4000000 in
set_option maxRecDepth 100000 in
/-- String.toCharArray of such a constant -/
theorem i_toCharArray (l : Launch) (dC : Nat → ClassId) (dI : Nat → Nat → Nat) (cB cC cI cJ cZ : ClassId) (a : Nat)  (sz : Nat) : Met l yJ0_toCharArray_70df3 vJ0_toCharArray_70df3 { frames := 2, cells := 1, slots := 16, locals := 46 } (va_Pc [.ref a] (fun U => U.heap.size = sz ∧ va_P (dC, dI) vwCl [] U.heap ∧ va_K (dC, dI) vwCl (TY cB cC cI cJ cZ) U ∧ va_D (fun _ => True) [] ∧ StrOK a (va_A [] sz) U U.heap)) (va_Qr (fun (_ : Unit) => True) (fun (_ : Unit) (ra : Nat) (t : State) => ∃ (n : Nat), ∃ (g : Nat → Int32), (n ≤ 16) ∧ va_P (dC, dI) vwCl [(ra, .inl (cC, n, .inl g))] t.heap ∧ va_K (dC, dI) vwCl (TY cB cC cI cJ cZ) t ∧ va_D (va_A [] sz) [(ra, .inl (cC, n, .inl g))]) (va_A [] sz)) 1 16 (va_A [] sz) := by
  refine Met.ofW (cc := cJ0_toCharArray_70df3) (maxL := 1) (ret := (some (.array .char))) (by decide) rfl ?_
  intro p e s m args below meth c s₁ B hml hv
  obtain ⟨rfl, hsz, hP, hK, hD0, hX⟩ := hv
  have hx := B.exec
  have hb := B.bytes
  have hr := B.returns
  have hts := atoms_spec (ws := vJ0_toCharArray_70df3) B.pre
  have hown : s.vm.findClass RJ0 = some m.cls := findClass_of_methodNamed B.named
  have hlocks := B.notSynchronized
  subst hsz
  have hD := hD0.self (sz := s.heap.size)
  generalize hAe : va_A [] s.heap.size = A at hD hX ⊢
  have hA : ∀ q : Nat, s.heap.size ≤ q → A q := fun q h => by rw [← hAe]; exact Or.inr h
  have hS : va_S A s.heap s.heap [] := va_S.rf
  have hP : va_P (dC, dI) vwCl [] s.heap := hP
  have hl := lv_entry ([.ref a]) (n := 1) (Nat.le_of_ble_eq_true rfl)
  rw [lg_entry_eq]
  generalize (lg_sl ([.ref a]) ++ List.replicate (1 - (lg_sl ([.ref a])).length) Slot.unset).toArray = ls at hl ⊢
  have hl : lv_has ls 1 [(0, .ref a)] := hl
  obtain ⟨hz, ho, hc, v, n, f, hn, hv, hT⟩ := id hX
  refine lv_aload_n hx hb dJ0_toCharArray_70df3_0 rfl (lv_at hl 0 rfl) ?_
  have hPc : va_P (dC, dI) vwCl [] s.heap := hP.sub (ws' := []) [] rfl
  have hDc : va_D A [] := hD.sub (ws' := []) [] (by decide) rfl
  have hFc := va_free (wc := []) hD hS hA [] rfl
  refine va_calli (va_runV (As := []) (rest := []) ⟨hx, hb, hml, hown, hts⟩ (i_isLatin1 l dC dI cB cC cI cJ cZ a  s.heap.size) (cwV 0 hts kJ0_toCharArray_70df3_J0_isLatin1_aae02_492 rfl rfl rfl (by decide +kernel) ⟨Nat.le_of_ble_eq_true rfl, Nat.le_of_ble_eq_true rfl⟩) ⟨fun a U g mk q => by obtain ⟨q0, q1, qP, qK, qD, qX⟩ := q; exact ⟨q0, q1, qP, va_K.moved (u := U) (U := U.calling g mk a) (Vm.Alike.refl U.vm) qK, qD, qX.moved (u := U) (U := U.calling g mk a) (Vm.Alike.refl U.vm)⟩, (by obtain ⟨cell, q1, q2, q3, -⟩ := ho.kept hS.2.1; exact ⟨cell, q1, q2, q3⟩), fun U hU hW => ⟨rfl, by rw [hU], by rw [hU]; exact hPc, va_K.moved hW.alike hK, hDc.weaken (fun _ _ _ _ => trivial), by rw [hU]; exact (((hX.kept hS.2.1).narrow hFc).moved hW.alike)⟩⟩ rfl rfl hl.1 rfl (lv_room (Nat.le_of_ble_eq_true rfl)) dJ0_toCharArray_70df3_1 ⟨Nat.le_of_ble_eq_true rfl, Nat.le_of_ble_eq_true rfl⟩) hS (fun q _ h => hFc q h) hFc (fun r_1 _u t H locs ht hvm hw hB hz1 hk1 hS => ?_)
  obtain ⟨hP1, hK1, hD1⟩ := hB
  rw [ht] at hP1
  obtain ⟨hP, hD⟩ := va_join (wr := []) (w1 := []) hP hD [] [] rfl rfl (by decide) (by decide) hk1 hFc hP1 hD1
  have hP : va_P (dC, dI) vwCl [] H := hP
  have hD : va_D A [] := hD
  refine W.widen (k := 0) (n := 0) (Nat.le_of_ble_eq_true rfl) (Nat.le_of_ble_eq_true rfl) ?_
  subst hw
  refine lv_if_eq (tgt := 17) hx hb dJ0_toCharArray_70df3_4 (by decide) (fun q9 => absurd q9 (by decide)) (fun _ => ?_)
  refine lv_aload_n hx hb dJ0_toCharArray_70df3_7 rfl (lv_at hl 0 rfl) ?_
  refine vk_getf hx hb hv hS hown (hts _ lkJ0_toCharArray_70df3_f9) (fun _ h9 => h9) dJ0_toCharArray_70df3_8 ?_
  have hPc : va_P (dC, dI) vwCl [] H := hP.sub (ws' := []) [] rfl
  have hDc : va_D A [] := hD.sub (ws' := []) [] (by decide) rfl
  have hFc := va_free (wc := []) hD hS hA [] rfl
  refine va_callr (va_runS (As := [.ref v]) (rest := []) ⟨hx, hb, hml, hown, hts⟩ (i_toChars l dC dI cB cC cI cJ cZ v n f hn H.size) (va_cwS 1 hts kJ0_toCharArray_70df3_J1_toChars_9d188_299 rfl rfl rfl (by decide +kernel) ⟨Nat.le_of_ble_eq_true rfl, Nat.le_of_ble_eq_true rfl⟩) ⟨fun a U g mk q => by obtain ⟨q0, q1, qP, qK, qD, qX⟩ := q; exact ⟨q0, q1, qP, va_K.moved (u := U) (U := U.calling g mk a) (Vm.Alike.refl U.vm) qK, qD, va_T.moved (u := U) (U := U.calling g mk a) (Vm.Alike.refl U.vm) qX⟩, fun U hU hW => ⟨rfl, by rw [hU], by rw [hU]; exact hPc, va_K.moved hW.alike hK, hDc.weaken (fun _ _ _ _ => trivial), by rw [hU]; exact va_T.moved hW.alike ((hT.kept hS.2.1).narrow hFc)⟩⟩ rfl rfl hl.1 rfl (lv_room (Nat.le_of_ble_eq_true rfl)) dJ0_toCharArray_70df3_11 ⟨Nat.le_of_ble_eq_true rfl, Nat.le_of_ble_eq_true rfl⟩) hS (fun q _ h => hFc q h) hFc (fun _u q_2 t H locs ht hvm hw hB hz1 hk1 hS => ?_)
  obtain ⟨g_3, hP1, hK1, hD1⟩ := hB
  rw [ht] at hP1
  obtain ⟨hP, hD⟩ := va_join (wr := []) (w1 := [(q_2, .inl (cC, n, .inl g_3))]) hP hD [] [] rfl rfl (by decide) (by decide) hk1 hFc hP1 hD1
  have hP : va_P (dC, dI) vwCl [(q_2, .inl (cC, n, .inl g_3))] H := hP
  have hD : va_D A [(q_2, .inl (cC, n, .inl g_3))] := hD
  refine W.widen (k := 1) (n := 16) (Nat.le_of_ble_eq_true rfl) (Nat.le_of_ble_eq_true rfl) ?_
  refine lv_goto (tgt := 24) hx hb dJ0_toCharArray_70df3_14 (by decide) ?_
  refine W.widen (k := 1) (n := 16) (Nat.le_of_ble_eq_true rfl) (Nat.le_of_ble_eq_true rfl) ?_
  have hP9 := hP.sub (ws' := [(q_2, .inl (cC, n, .inl g_3))]) [0] rfl
  have hD9 := hD.sub (ws' := [(q_2, .inl (cC, n, .inl g_3))]) [0] (by decide) rfl
  exact W.aret hx hb hr (Or.inr ⟨_, rfl⟩) (Or.inr ⟨_, rfl⟩) (fun t ht hW => ⟨⟨(), q_2, rfl, trivial, n, g_3, hn, by rw [ht]; exact hP9, va_K.moved hW.alike hK, hD9⟩, hS.F ht⟩) hS.2.2 dJ0_toCharArray_70df3_24
