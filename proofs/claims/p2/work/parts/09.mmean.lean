def oX12_meaning : List Cond := [Cond.fieldLink RX12 54 "MacroScopesModel" "bindingFrom" "[I", Cond.fieldLink RX12 57 "MacroScopesModel" "boundNames" "[I", Cond.fieldLink RX12 51 "MacroScopesModel" "around" "[I", Cond.fieldLink RX12 48 "MacroScopesModel" "aliasIn" "[I", Cond.fieldLink RX12 45 "MacroScopesModel" "aliasFor" "[I"]
def vX12_meaning : List Cond := .code yX12_meaning cX12_meaning 7 (some .int) :: (oX12_meaning ++ (wsX120))
theorem lkX12_meaning_f54 : Cond.fieldLink RX12 54 "MacroScopesModel" "bindingFrom" "[I" ∈ vX12_meaning := List.mem_cons_of_mem _ (List.mem_append_left _ (List.mem_of_getElem? (i := 0) rfl))
theorem lkX12_meaning_f57 : Cond.fieldLink RX12 57 "MacroScopesModel" "boundNames" "[I" ∈ vX12_meaning := List.mem_cons_of_mem _ (List.mem_append_left _ (List.mem_of_getElem? (i := 1) rfl))
theorem lkX12_meaning_f51 : Cond.fieldLink RX12 51 "MacroScopesModel" "around" "[I" ∈ vX12_meaning := List.mem_cons_of_mem _ (List.mem_append_left _ (List.mem_of_getElem? (i := 2) rfl))
theorem lkX12_meaning_f48 : Cond.fieldLink RX12 48 "MacroScopesModel" "aliasIn" "[I" ∈ vX12_meaning := List.mem_cons_of_mem _ (List.mem_append_left _ (List.mem_of_getElem? (i := 3) rfl))
theorem lkX12_meaning_f45 : Cond.fieldLink RX12 45 "MacroScopesModel" "aliasFor" "[I" ∈ vX12_meaning := List.mem_cons_of_mem _ (List.mem_append_left _ (List.mem_of_getElem? (i := 4) rfl))
theorem inX12_meaning : ∀ w ∈ wsX120, w ∈ vX12_meaning := fun w h => List.mem_cons_of_mem _ (List.mem_append_right _ (h))
def oX12_isRepeated : List Cond := [Cond.methodLink RX12 180 yX12_isName, Cond.instanceMethod yX12_isName, Cond.selects RX12 yX12_isName yX12_isName, Cond.initialized RX12, Cond.fieldLink RX12 35 "MacroScopesModel" "values" "[I", Cond.methodLink RX12 327 yX12_variable, Cond.instanceMethod yX12_variable, Cond.selects RX12 yX12_variable yX12_variable, Cond.fieldLink RX12 94 "MacroScopesModel" "repeated" "[Z"]
def vX12_isRepeated : List Cond := .code yX12_isRepeated cX12_isRepeated 3 (some .boolean) :: (oX12_isRepeated ++ (vX12_isName ++ (vX12_variable ++ (wsX120))))
theorem lkX12_isRepeated_f35 : Cond.fieldLink RX12 35 "MacroScopesModel" "values" "[I" ∈ vX12_isRepeated := List.mem_cons_of_mem _ (List.mem_append_left _ (List.mem_of_getElem? (i := 4) rfl))
theorem lkX12_isRepeated_f94 : Cond.fieldLink RX12 94 "MacroScopesModel" "repeated" "[Z" ∈ vX12_isRepeated := List.mem_cons_of_mem _ (List.mem_append_left _ (List.mem_of_getElem? (i := 8) rfl))
theorem inX12_isRepeated : ∀ w ∈ wsX120, w ∈ vX12_isRepeated := fun w h => List.mem_cons_of_mem _ (List.mem_append_right _ (List.mem_append_right _ (List.mem_append_right _ (h))))
theorem kX12_isRepeated_X12_isName_180 : GoodIn vX12_isRepeated (wsV RX12 180 RX12 yX12_isName vX12_isName) := goodIn_sub (fun w h => (List.mem_append.mp h).elim (fun h => List.mem_cons_of_mem _ (List.mem_append_left _ ((by decide +kernel : ∀ w ∈ ([.methodLink RX12 180 yX12_isName, .instanceMethod yX12_isName, .selects RX12 yX12_isName yX12_isName, .initialized RX12] : List Cond), w ∈ oX12_isRepeated) w h))) (fun h => List.mem_cons_of_mem _ (List.mem_append_right _ (List.mem_append_left _ (h))))) (by decide +kernel)
theorem kX12_isRepeated_X12_variable_327 : GoodIn vX12_isRepeated (wsV RX12 327 RX12 yX12_variable vX12_variable) := goodIn_sub (fun w h => (List.mem_append.mp h).elim (fun h => List.mem_cons_of_mem _ (List.mem_append_left _ ((by decide +kernel : ∀ w ∈ ([.methodLink RX12 327 yX12_variable, .instanceMethod yX12_variable, .selects RX12 yX12_variable yX12_variable, .initialized RX12] : List Cond), w ∈ oX12_isRepeated) w h))) (fun h => List.mem_cons_of_mem _ (List.mem_append_right _ (List.mem_append_right _ (List.mem_append_left _ (h)))))) (by decide +kernel)
set_option maxHeartbeats 4000000 in
set_option maxRecDepth 100000 in
theorem lp_mean1 {p : Program} {l : Launch} {e : Env} {s : State} {m : MethodId} {args : Array Value} {below : List Frame} {meth : Method} {c : Code} {Q : State → Prop} {A : Nat → Prop} {dC : Nat → ClassId} {dI : Nat → Nat → Nat} {cB cC cI cJ cZ : ClassId} {z0 : Nat} {R : Nat → Nat} (hx : p.tables.exec = Jvm.exec) (hb : c.code = cX12_meaning) (hml : c.maxLocals = 7) (hown : s.vm.findClass RX12 = some m.cls) (hts : ∀ w ∈ vX12_meaning, w.before args s = true) (hK : va_K (dC, dI) vwCl (TY cB cC cI cJ cZ) s) (hA : ∀ q : Nat, s.heap.size ≤ q → A q) {pl : Int32} {N : Nat → Nat} {G : Nat → Nat → Nat} {B : Nat → Nat → Int32} (hG : ∀ k i, G k i < 1048576) (hev : EV N G) (x e0 : Nat) (hx3 : x < 1048576) (he : e0 < N 23) (kk : ∀  (H : Heap) (locs : List Loc), va_P (dC, dI) vwCl (MW cB cC cI cJ cZ z0 R pl N G B) H → va_D A (MW cB cC cI cJ cZ z0 R pl N G B) → va_S A s.heap H locs → ∀ (ls : Array Slot), lv_has ls 7 [(0, .ref z0), (3, .int (nI x)), (5, .int (nI e0))] → W p l e (headSpec vX12_meaning { frames := 0, cells := 0, slots := 0, locals := 0 }).room s m args below meth c H locs 0 0 Q (F0 m 57 ls [])) (kf : ∀ (b : Nat) (H : Heap) (locs : List Loc), b < N 27 → va_P (dC, dI) vwCl (MW cB cC cI cJ cZ z0 R pl N G B) H → va_D A (MW cB cC cI cJ cZ z0 R pl N G B) → va_S A s.heap H locs → ∀ (ls : Array Slot), lv_has ls 7 [(6, .int (nI b))] → W p l e (headSpec vX12_meaning { frames := 0, cells := 0, slots := 0, locals := 0 }).room s m args below meth c H locs 0 0 Q (F0 m 48 ls [])) : ∀ (k : Nat) (b : Nat), G 22 (e0 + 1) - b < k → b ≤ 1048576 → ∀ (H : Heap) (locs : List Loc), va_P (dC, dI) vwCl (MW cB cC cI cJ cZ z0 R pl N G B) H → va_D A (MW cB cC cI cJ cZ z0 R pl N G B) → va_S A s.heap H locs → ∀ (ls : Array Slot), lv_has ls 7 [(0, .ref z0), (3, .int (nI x)), (5, .int (nI e0)), (6, .int (nI b))] → W p l e (headSpec vX12_meaning { frames := 0, cells := 0, slots := 0, locals := 0 }).room s m args below meth c H locs 0 0 Q (F0 m 23 ls []) := by
  have hcs : 0 + 0 ≤ (0 : Nat) ∧ 0 + 0 ≤ (0 : Nat) := ⟨Nat.le_refl 0, Nat.le_refl 0⟩
  intro k
  induction k with
  | zero =>
    intro b hk hb5
    omega
  | succ k ih =>
    intro b hk hb5 H locs hP hD hS ls hl
    obtain ⟨v1, v2, v3, v4, v5, v6⟩ := hev
    have g1 := hG 22 (e0 + 1)
    have v7 := v5 (e0 + 1) (by omega) (by omega)
    refine lv_iload hx hb dX12_meaning_23 (lv_at hl 3 rfl) ?_
    refine lv_aload_n hx hb dX12_meaning_25 rfl (lv_at hl 0 rfl) ?_
    refine mg_22 hx hb hts inX12_meaning hown hK hP (hts _ lkX12_meaning_f54) dX12_meaning_26 ?_
    refine lv_iload hx hb dX12_meaning_29 (lv_at hl 2 rfl) ?_
    refine lv_iconst (v := nI 1) hx hb dX12_meaning_31 (by decide) ?_
    refine lv_iadd hx hb dX12_meaning_32 ?_
    refine tp_i (nI_add e0 1) ?_
    refine ml_22 hx hb hK hP (by omega) dX12_meaning_33 ?_
    refine bn_ge (tgt := 57) hx hb (by omega) (by omega) dX12_meaning_34 (by decide) (fun c1 => ?_) (fun c1 => ?_)
    · exact kk H locs hP hD hS ls (lv_sub hl [0, 1, 2] rfl)
    · have g2 := hG 24 b
      refine lv_aload_n hx hb dX12_meaning_37 rfl (lv_at hl 0 rfl) ?_
      refine mg_24 hx hb hts inX12_meaning hown hK hP (hts _ lkX12_meaning_f57) dX12_meaning_38 ?_
      refine lv_iload hx hb dX12_meaning_41 (lv_at hl 3 rfl) ?_
      refine ml_24 hx hb hK hP (by omega) dX12_meaning_43 ?_
      refine lv_iload_n hx hb dX12_meaning_44 rfl (lv_at hl 1 rfl) ?_
      refine bn_ne (tgt := 51) hx hb (by omega) (by omega) dX12_meaning_45 (by decide) (fun c2 => ?_) (fun c2 => ?_)
      · refine lv_iinc (v := nI (b + 1)) (lv' := [(6, .int (nI (b + 1))), (0, .ref z0), (3, .int (nI x)), (5, .int (nI e0))]) hx hb dX12_meaning_51 hl (k := 3) rfl (nI_add b 1) (by decide) rfl (fun ls hl => ?_)
        refine lv_goto (tgt := 23) hx hb dX12_meaning_54 (by decide) ?_
        exact ih (b + 1) (by omega) (by omega) _ _ hP hD hS ls (lv_sub hl [1, 2, 3, 0] rfl)
      · exact kf b H locs (by omega) hP hD hS ls (lv_sub hl [3] rfl)

set_option maxHeartbeats 4000000 in
set_option maxRecDepth 100000 in
theorem lp_mean2 {p : Program} {l : Launch} {e : Env} {s : State} {m : MethodId} {args : Array Value} {below : List Frame} {meth : Method} {c : Code} {Q : State → Prop} {A : Nat → Prop} {dC : Nat → ClassId} {dI : Nat → Nat → Nat} {cB cC cI cJ cZ : ClassId} {z0 : Nat} {R : Nat → Nat} (hx : p.tables.exec = Jvm.exec) (hb : c.code = cX12_meaning) (hml : c.maxLocals = 7) (hown : s.vm.findClass RX12 = some m.cls) (hts : ∀ w ∈ vX12_meaning, w.before args s = true) (hK : va_K (dC, dI) vwCl (TY cB cC cI cJ cZ) s) (hA : ∀ q : Nat, s.heap.size ≤ q → A q) {pl : Int32} {N : Nat → Nat} {G : Nat → Nat → Nat} {B : Nat → Nat → Int32} (hG : ∀ k i, G k i < 1048576) (hev : EV N G) (x : Nat) (hx3 : x < 1048576) (kk : ∀  (H : Heap) (locs : List Loc), va_P (dC, dI) vwCl (MW cB cC cI cJ cZ z0 R pl N G B) H → va_D A (MW cB cC cI cJ cZ z0 R pl N G B) → va_S A s.heap H locs → ∀ (ls : Array Slot), lv_has ls 7 [(0, .ref z0), (3, .int (nI x))] → W p l e (headSpec vX12_meaning { frames := 0, cells := 0, slots := 0, locals := 0 }).room s m args below meth c H locs 0 0 Q (F0 m 69 ls [])) (kf : ∀ (b : Nat) (H : Heap) (locs : List Loc), b < N 27 → va_P (dC, dI) vwCl (MW cB cC cI cJ cZ z0 R pl N G B) H → va_D A (MW cB cC cI cJ cZ z0 R pl N G B) → va_S A s.heap H locs → ∀ (ls : Array Slot), lv_has ls 7 [(6, .int (nI b))] → W p l e (headSpec vX12_meaning { frames := 0, cells := 0, slots := 0, locals := 0 }).room s m args below meth c H locs 0 0 Q (F0 m 48 ls [])) : ∀ (k : Nat) (e0 : Nat), e0 < k → e0 < N 23 → ∀ (H : Heap) (locs : List Loc), va_P (dC, dI) vwCl (MW cB cC cI cJ cZ z0 R pl N G B) H → va_D A (MW cB cC cI cJ cZ z0 R pl N G B) → va_S A s.heap H locs → ∀ (ls : Array Slot), lv_has ls 7 [(0, .ref z0), (3, .int (nI x)), (5, .int (nI e0))] → W p l e (headSpec vX12_meaning { frames := 0, cells := 0, slots := 0, locals := 0 }).room s m args below meth c H locs 0 0 Q (F0 m 9 ls []) := by
  have hcs : 0 + 0 ≤ (0 : Nat) ∧ 0 + 0 ≤ (0 : Nat) := ⟨Nat.le_refl 0, Nat.le_refl 0⟩
  intro k
  induction k with
  | zero =>
    intro e0 hk he
    exact absurd hk (Nat.not_lt_zero e0)
  | succ k ih =>
    intro e0 hk he H locs hP hD hS ls hl
    have hev2 := hev
    obtain ⟨v1, v2, v3, v4, v5, v6⟩ := hev
    refine lv_iload hx hb dX12_meaning_9 (lv_at hl 2 rfl) ?_
    refine bz_le (tgt := 69) hx hb (by omega) dX12_meaning_11 (by decide) (fun c1 => ?_) (fun c1 => ?_)
    · exact kk H locs hP hD hS ls (lv_sub hl [0, 1] rfl)
    · have v7 := v4 e0 c1 he
      refine lv_aload_n hx hb dX12_meaning_14 rfl (lv_at hl 0 rfl) ?_
      refine mg_22 hx hb hts inX12_meaning hown hK hP (hts _ lkX12_meaning_f54) dX12_meaning_15 ?_
      refine lv_iload hx hb dX12_meaning_18 (lv_at hl 2 rfl) ?_
      refine ml_22 hx hb hK hP (by omega) dX12_meaning_20 ?_
      refine lv_istore (lv' := [(6, .int (nI (G 22 e0))), (0, .ref z0), (3, .int (nI x)), (5, .int (nI e0))]) hx hb dX12_meaning_21 hl (by decide) rfl (fun ls hl => ?_)
      refine lp_mean1 hx hb hml hown hts hK hA hG hev2 x e0 hx3 he (fun H locs hP hD hS ls hl => ?_) kf _ (G 22 e0) (Nat.lt_succ_self _) (Nat.le_of_lt (hG 22 e0)) _ _ hP hD hS ls (lv_sub hl [1, 2, 3, 0] rfl)
      refine lv_aload_n hx hb dX12_meaning_57 rfl (lv_at hl 0 rfl) ?_
      refine mg_21 hx hb hts inX12_meaning hown hK hP (hts _ lkX12_meaning_f51) dX12_meaning_58 ?_
      refine lv_iload hx hb dX12_meaning_61 (lv_at hl 2 rfl) ?_
      refine ml_21 hx hb hK hP (by omega) dX12_meaning_63 ?_
      refine lv_istore (lv' := [(5, .int (nI (G 21 e0))), (0, .ref z0), (3, .int (nI x))]) hx hb dX12_meaning_64 hl (by decide) rfl (fun ls hl => ?_)
      refine lv_goto (tgt := 9) hx hb dX12_meaning_66 (by decide) ?_
      exact ih (G 21 e0) (by omega) (by omega) _ _ hP hD hS ls (lv_sub hl [1, 2, 0] rfl)

set_option maxHeartbeats 4000000 in
set_option maxRecDepth 100000 in
theorem lp_mean3 {p : Program} {l : Launch} {e : Env} {s : State} {m : MethodId} {args : Array Value} {below : List Frame} {meth : Method} {c : Code} {Q : State → Prop} {A : Nat → Prop} {dC : Nat → ClassId} {dI : Nat → Nat → Nat} {cB cC cI cJ cZ : ClassId} {z0 : Nat} {R : Nat → Nat} (hx : p.tables.exec = Jvm.exec) (hb : c.code = cX12_meaning) (hml : c.maxLocals = 7) (hown : s.vm.findClass RX12 = some m.cls) (hts : ∀ w ∈ vX12_meaning, w.before args s = true) (hK : va_K (dC, dI) vwCl (TY cB cC cI cJ cZ) s) (hA : ∀ q : Nat, s.heap.size ≤ q → A q) {pl : Int32} {N : Nat → Nat} {G : Nat → Nat → Nat} {B : Nat → Nat → Int32} (hG : ∀ k i, G k i < 1048576) (hal : AL N G) (hev : EV N G) (kf : ∀ (b : Nat) (H : Heap) (locs : List Loc), b < N 27 → va_P (dC, dI) vwCl (MW cB cC cI cJ cZ z0 R pl N G B) H → va_D A (MW cB cC cI cJ cZ z0 R pl N G B) → va_S A s.heap H locs → ∀ (ls : Array Slot), lv_has ls 7 [(6, .int (nI b))] → W p l e (headSpec vX12_meaning { frames := 0, cells := 0, slots := 0, locals := 0 }).room s m args below meth c H locs 0 0 Q (F0 m 48 ls [])) (kg : ∀ (y : Nat) (H : Heap) (locs : List Loc), y < 5000 → nmOK N y → va_P (dC, dI) vwCl (MW cB cC cI cJ cZ z0 R pl N G B) H → va_D A (MW cB cC cI cJ cZ z0 R pl N G B) → va_S A s.heap H locs → ∀ (ls : Array Slot), lv_has ls 7 [(3, .int (nI y))] → W p l e (headSpec vX12_meaning { frames := 0, cells := 0, slots := 0, locals := 0 }).room s m args below meth c H locs 0 0 Q (F0 m 76 ls [])) : ∀ (k : Nat) (y en : Nat), y < k → nmOK N y → en < N 23 → ∀ (H : Heap) (locs : List Loc), va_P (dC, dI) vwCl (MW cB cC cI cJ cZ z0 R pl N G B) H → va_D A (MW cB cC cI cJ cZ z0 R pl N G B) → va_S A s.heap H locs → ∀ (ls : Array Slot), lv_has ls 7 [(0, .ref z0), (3, .int (nI y)), (4, .int (nI en))] → W p l e (headSpec vX12_meaning { frames := 0, cells := 0, slots := 0, locals := 0 }).room s m args below meth c H locs 0 0 Q (F0 m 5 ls []) := by
  have hcs : 0 + 0 ≤ (0 : Nat) ∧ 0 + 0 ≤ (0 : Nat) := ⟨Nat.le_refl 0, Nat.le_refl 0⟩
  intro k
  induction k with
  | zero =>
    intro y en hk hyo hen
    exact absurd hk (Nat.not_lt_zero y)
  | succ k ih =>
    intro y en hk hyo hen H locs hP hD hS ls hl
    have hev2 := hev
    obtain ⟨v1, v2, v3, v4, v5, v6⟩ := hev
    have hy2 : y < 70000 := by
      obtain ⟨q1, q2, q3⟩ := hal
      rcases hyo with q | q <;> omega
    refine lv_iload hx hb dX12_meaning_5 (lv_at hl 2 rfl) ?_
    refine lv_istore (lv' := [(5, .int (nI en)), (0, .ref z0), (3, .int (nI y)), (4, .int (nI en))]) hx hb dX12_meaning_7 hl (by decide) rfl (fun ls hl => ?_)
    refine lp_mean2 hx hb hml hown hts hK hA hG hev2 y (by omega) (fun H locs hP hD hS ls hl => ?_) kf _ en (Nat.lt_succ_self _) hen _ _ hP hD hS ls (lv_sub hl [1, 2, 0] rfl)
    refine lv_iload_n hx hb dX12_meaning_69 rfl (lv_at hl 1 rfl) ?_
    refine lv_sipush (v := nI 5000) hx hb dX12_meaning_70 (by decide) ?_
    refine bn_ge (tgt := 80) hx hb (by omega) (by omega) dX12_meaning_73 (by decide) (fun c1 => ?_) (fun c1 => ?_)
    · obtain ⟨t1, t2, t3⟩ := ROOT_step hal c1 hyo
      have t4 : y - 5000 < N 20 := by
        have := hal.1
        rcases hyo with q | q <;> omega
      have t5 := hal.2.1
      have t6 := v6 _ t4
      refine lv_aload_n hx hb dX12_meaning_80 rfl (lv_at hl 0 rfl) ?_
      refine mg_19 hx hb hts inX12_meaning hown hK hP (hts _ lkX12_meaning_f48) dX12_meaning_81 ?_
      refine lv_iload_n hx hb dX12_meaning_84 rfl (lv_at hl 1 rfl) ?_
      refine lv_sipush (v := nI 5000) hx hb dX12_meaning_85 (by decide) ?_
      refine lv_isub hx hb dX12_meaning_88 ?_
      refine tp_i (pk_sub (a := y) (b := 5000) (by omega)) ?_
      refine ml_19 hx hb hK hP (by omega) dX12_meaning_89 ?_
      refine lv_istore (lv' := [(4, .int (nI (G 19 (y - 5000)))), (0, .ref z0), (3, .int (nI y))]) hx hb dX12_meaning_90 hl (by decide) rfl (fun ls hl => ?_)
      refine lv_aload_n hx hb dX12_meaning_92 rfl (lv_at hl 1 rfl) ?_
      refine mg_18 hx hb hts inX12_meaning hown hK hP (hts _ lkX12_meaning_f45) dX12_meaning_93 ?_
      refine lv_iload_n hx hb dX12_meaning_96 rfl (lv_at hl 2 rfl) ?_
      refine lv_sipush (v := nI 5000) hx hb dX12_meaning_97 (by decide) ?_
      refine lv_isub hx hb dX12_meaning_100 ?_
      refine tp_i (pk_sub (a := y) (b := 5000) (by omega)) ?_
      refine ml_18 hx hb hK hP (by omega) dX12_meaning_101 ?_
      refine lv_istore_n (lv' := [(3, .int (nI (G 18 (y - 5000)))), (4, .int (nI (G 19 (y - 5000)))), (0, .ref z0)]) hx hb dX12_meaning_102 rfl hl (by decide) rfl (fun ls hl => ?_)
      refine lv_goto (tgt := 5) hx hb dX12_meaning_103 (by decide) ?_
      exact ih _ _ (by omega) t1 t6 _ _ hP hD hS ls (lv_sub hl [2, 0, 1] rfl)
    · exact kg y H locs c1 hyo hP hD hS ls (lv_sub hl [1] rfl)

set_option maxHeartbeats 4000000 in
set_option maxRecDepth 100000 in
/-- meaning -/
theorem m_meaning (l : Launch) (dC : Nat → ClassId) (dI : Nat → Nat → Nat) (cB cC cI cJ cZ : ClassId) (z0 : Nat) (R : Nat → Nat) (pl : Int32) (N : Nat → Nat) (G : Nat → Nat → Nat) (B : Nat → Nat → Int32) (x en : Nat) (hG : ∀ k i, G k i < 1048576) (hal : AL N G) (hev : EV N G) (hxo : nmOK N x) (hen : en < N 23) (s0 : Nat) : Met l yX12_meaning vX12_meaning { frames := 0, cells := 0, slots := 0, locals := 0 } (va_Pc [.ref z0, .int (nI x), .int (nI en)] (mPre dC dI cB cC cI cJ cZ z0 R pl N G B s0)) (va_Qi (fun (r : Int32) (u : ((Nat → Nat) × (Nat → Nat → Nat) × (Nat → Nat → Int32) × Int32)) => match u with | (N1, G1, B1, pl1) => N1 = N ∧ G1 = G ∧ B1 = B ∧ pl1 = pl ∧ MEAN N r) (mPost dC dI cB cC cI cJ cZ z0 R (va_A (MW cB cC cI cJ cZ z0 R pl N G B) s0)) (va_A (MW cB cC cI cJ cZ z0 R pl N G B) s0)) 0 0 (va_A (MW cB cC cI cJ cZ z0 R pl N G B) s0) := by
  refine Met.ofW (cc := cX12_meaning) (maxL := 7) (ret := (some .int)) (by decide) rfl ?_
  intro p e s m args below meth c s₁ B9 hml hv
  obtain ⟨rfl, hsz, hP, hK, hD0⟩ := hv
  have hx := B9.exec
  have hb := B9.bytes
  have hr := B9.returns
  have hts := atoms_spec (ws := vX12_meaning) B9.pre
  have hown : s.vm.findClass RX12 = some m.cls := findClass_of_methodNamed B9.named
  have hlocks := B9.notSynchronized
  subst hsz
  have hD := hD0.self (sz := s.heap.size)
  generalize hAe : va_A (MW cB cC cI cJ cZ z0 R pl N G B) s.heap.size = A at hD ⊢
  have hA : ∀ q : Nat, s.heap.size ≤ q → A q := fun q h => by rw [← hAe]; exact Or.inr h
  have hS : va_S A s.heap s.heap [] := va_S.rf
  have hcs : 0 + 0 ≤ (0 : Nat) ∧ 0 + 0 ≤ (0 : Nat) := ⟨Nat.le_refl 0, Nat.le_refl 0⟩
  have hl := lv_entry ([.ref z0, .int (nI x), .int (nI en)]) (n := 7) (Nat.le_of_ble_eq_true rfl)
  rw [lg_entry_eq]
  generalize (lg_sl ([.ref z0, .int (nI x), .int (nI en)]) ++ List.replicate (7 - (lg_sl ([.ref z0, .int (nI x), .int (nI en)])).length) Slot.unset).toArray = ls at hl ⊢
  have hl : lv_has ls 7 [(0, .ref z0), (1, .int (nI x)), (2, .int (nI en))] := hl
  refine lv_iload_n hx hb dX12_meaning_0 rfl (lv_at hl 1 rfl) ?_
  refine lv_istore_n (lv' := [(3, .int (nI x)), (0, .ref z0), (1, .int (nI x)), (2, .int (nI en))]) hx hb dX12_meaning_1 rfl hl (by decide) rfl (fun ls hl => ?_)
  refine lv_iload_n hx hb dX12_meaning_2 rfl (lv_at hl 3 rfl) ?_
  refine lv_istore (lv' := [(4, .int (nI en)), (3, .int (nI x)), (0, .ref z0), (1, .int (nI x)), (2, .int (nI en))]) hx hb dX12_meaning_3 hl (by decide) rfl (fun ls hl => ?_)
  refine lp_mean3 hx hb hml hown hts hK hA hG hal hev (fun b H locs hb9 hP hD hS ls hl => ?_) (fun y H locs h5 hyo hP hD hS ls hl => ?_) _ x en (Nat.lt_succ_self _) hxo hen _ _ hP hD hS ls (lv_sub hl [2, 1, 0] rfl)
  · refine lv_iload hx hb dX12_meaning_48 (lv_at hl 0 rfl) ?_
    exact W.iret (v := (nI b)) hx hb hr (fun t ht hW => ⟨⟨(nI b), (N, G, B, pl), rfl, ⟨rfl, rfl, rfl, rfl, Or.inl ⟨b, hb9, rfl⟩⟩, by rw [ht]; exact hP, va_K.moved hW.alike hK, hD⟩, hS.F ht⟩) hS.2.2 dX12_meaning_50
  · refine lv_iconst (v := nI 0 - 1) hx hb dX12_meaning_76 (by decide) ?_
    refine lv_iload_n hx hb dX12_meaning_77 rfl (lv_at hl 0 rfl) ?_
    refine lv_isub hx hb dX12_meaning_78 ?_
    exact W.iret (v := ((nI 0 - 1) - nI y)) hx hb hr (fun t ht hW => ⟨⟨((nI 0 - 1) - nI y), (N, G, B, pl), rfl, ⟨rfl, rfl, rfl, rfl, Or.inr ⟨y, by rcases hyo with q | q <;> omega, rfl⟩⟩, by rw [ht]; exact hP, va_K.moved hW.alike hK, hD⟩, hS.F ht⟩) hS.2.2 dX12_meaning_79

/-- 1: the form is a variable that is repeated -/
abbrev REP (N : Nat → Nat) (G : Nat → Nat → Nat) (f : Nat) : Prop := G 10 f = 1 ∧ 0 < VAR N G (G 11 f) ∧ 0 < G 48 (VAR N G (G 11 f) - 1)
set_option maxHeartbeats 4000000 in
set_option maxRecDepth 100000 in
/-- isRepeated -/
theorem m_isRepeated (l : Launch) (dC : Nat → ClassId) (dI : Nat → Nat → Nat) (cB cC cI cJ cZ : ClassId) (z0 : Nat) (R : Nat → Nat) (pl : Int32) (N : Nat → Nat) (G : Nat → Nat → Nat) (B : Nat → Nat → Int32) (f : Nat) (hG : ∀ k i, G k i < 1048576) (hN : N 49 ≤ 1600) (hf : f < 90000) (s0 : Nat) : Met l yX12_isRepeated vX12_isRepeated { frames := 1, cells := 0, slots := 0, locals := 23 } (va_Pc [.ref z0, .int (nI f)] (mPre dC dI cB cC cI cJ cZ z0 R pl N G B s0)) (va_Qi (fun (r : Int32) (u : ((Nat → Nat) × (Nat → Nat → Nat) × (Nat → Nat → Int32) × Int32)) => match u with | (N1, G1, B1, pl1) => N1 = N ∧ G1 = G ∧ B1 = B ∧ pl1 = pl ∧ r = nI (if REP N G f then 1 else 0)) (mPost dC dI cB cC cI cJ cZ z0 R (va_A (MW cB cC cI cJ cZ z0 R pl N G B) s0)) (va_A (MW cB cC cI cJ cZ z0 R pl N G B) s0)) 0 0 (va_A (MW cB cC cI cJ cZ z0 R pl N G B) s0) := by
  refine Met.ofW (cc := cX12_isRepeated) (maxL := 3) (ret := (some .boolean)) (by decide) rfl ?_
  intro p e s m args below meth c s₁ B9 hml hv
  obtain ⟨rfl, hsz, hP, hK, hD0⟩ := hv
  have hx := B9.exec
  have hb := B9.bytes
  have hr := B9.returns
  have hts := atoms_spec (ws := vX12_isRepeated) B9.pre
  have hown : s.vm.findClass RX12 = some m.cls := findClass_of_methodNamed B9.named
  have hlocks := B9.notSynchronized
  subst hsz
  have hD := hD0.self (sz := s.heap.size)
  generalize hAe : va_A (MW cB cC cI cJ cZ z0 R pl N G B) s.heap.size = A at hD ⊢
  have hA : ∀ q : Nat, s.heap.size ≤ q → A q := fun q h => by rw [← hAe]; exact Or.inr h
  have hS : va_S A s.heap s.heap [] := va_S.rf
  have hcs : 0 + 0 ≤ (0 : Nat) ∧ 0 + 0 ≤ (0 : Nat) := ⟨Nat.le_refl 0, Nat.le_refl 0⟩
  have hl := lv_entry ([.ref z0, .int (nI f)]) (n := 3) (Nat.le_of_ble_eq_true rfl)
  rw [lg_entry_eq]
  generalize (lg_sl ([.ref z0, .int (nI f)]) ++ List.replicate (3 - (lg_sl ([.ref z0, .int (nI f)])).length) Slot.unset).toArray = ls at hl ⊢
  have hl : lv_has ls 3 [(0, .ref z0), (1, .int (nI f))] := hl
  refine lv_aload_n hx hb dX12_isRepeated_0 rfl (lv_at hl 0 rfl) ?_
  refine lv_iload_n hx hb dX12_isRepeated_1 rfl (lv_at hl 1 rfl) ?_
  refine mcl_i (As := [.int (nI f)]) (rest := []) ⟨hx, hb, hml, hown, hts⟩ (m_isName l dC dI cB cC cI cJ cZ z0 R pl N G B f hG hf s.heap.size) (cwV 1 hts kX12_isRepeated_X12_isName_180 rfl rfl rfl (by decide +kernel) ⟨Nat.le_of_ble_eq_true rfl, Nat.le_of_ble_eq_true rfl⟩) hK hP hD hS hA rfl rfl hl.1 (lv_room (Nat.le_of_ble_eq_true rfl)) dX12_isRepeated_2 hcs (fun r_5 N_1 G_2 B_3 pl_4 hw H locs hP hD hS => ?_)
  dsimp only at hw
  obtain ⟨e1, e2, e3, e4, hw⟩ := hw
  rw [e1, e2, e3, e4] at hP hD
  by_cases c1 : G 10 f = 1
  · rw [if_pos c1] at hw
    subst hw
    refine bz_eq (tgt := 21) hx hb (by omega) dX12_isRepeated_5 (by decide) (fun q9 => absurd q9 (by omega)) (fun c => ?_)
    refine lv_aload_n hx hb dX12_isRepeated_8 rfl (lv_at hl 0 rfl) ?_
    refine lv_aload_n hx hb dX12_isRepeated_9 rfl (lv_at hl 0 rfl) ?_
    refine mg_11 hx hb hts inX12_isRepeated hown hK hP (hts _ lkX12_isRepeated_f35) dX12_isRepeated_10 ?_
    refine lv_iload_n hx hb dX12_isRepeated_13 rfl (lv_at hl 1 rfl) ?_
    refine ml_11 hx hb hK hP (by omega) dX12_isRepeated_14 ?_
    refine mcl_i (As := [.int (nI (G 11 f))]) (rest := []) ⟨hx, hb, hml, hown, hts⟩ (m_variable l dC dI cB cC cI cJ cZ z0 R pl N G B (G 11 f) hG hN (hG 11 f) H.size) (cwV 1 hts kX12_isRepeated_X12_variable_327 rfl rfl rfl (by decide +kernel) ⟨Nat.le_of_ble_eq_true rfl, Nat.le_of_ble_eq_true rfl⟩) hK hP hD hS hA rfl rfl hl.1 (lv_room (Nat.le_of_ble_eq_true rfl)) dX12_isRepeated_15 hcs (fun r_10 N_6 G_7 B_8 pl_9 hw H locs hP hD hS => ?_)
    dsimp only at hw
    obtain ⟨e1, e2, e3, e4, hw⟩ := hw
    rw [e1, e2, e3, e4] at hP hD
    subst hw
    have t1 : VAR N G (G 11 f) ≤ N 49 := varF_le (G 47) (G 11 f) (N 49)
    refine lv_goto (tgt := 22) hx hb dX12_isRepeated_18 (by decide) ?_
    refine lv_istore_n (lv' := [(2, .int (nI (VAR N G (G 11 f)) - 1)), (0, .ref z0), (1, .int (nI f))]) hx hb dX12_isRepeated_22 rfl hl (by decide) rfl (fun ls hl => ?_)
    refine lv_iload_n hx hb dX12_isRepeated_23 rfl (lv_at hl 0 rfl) ?_
    refine bo_lt (tgt := 40) hx hb (by omega) dX12_isRepeated_24 (by decide) (fun c2 => ?_) (fun c2 => ?_)
    · refine lv_iconst (v := nI 0) hx hb dX12_isRepeated_40 (by decide) ?_
      exact W.zret (v := (nI 0)) hx hb hr (by first | rfl | decide) (fun t ht hW => ⟨⟨(nI 0), (N, G, B, pl), rfl, ⟨rfl, rfl, rfl, rfl, by rw [if_neg (fun h => absurd h.2.1 (by omega))]⟩, by rw [ht]; exact hP, va_K.moved hW.alike hK, hD⟩, hS.F ht⟩) hS.2.2 dX12_isRepeated_41
    · refine lv_aload_n hx hb dX12_isRepeated_27 rfl (lv_at hl 1 rfl) ?_
      refine mg_48 hx hb hts inX12_isRepeated hown hK hP (hts _ lkX12_isRepeated_f94) dX12_isRepeated_28 ?_
      refine lv_iload_n hx hb dX12_isRepeated_31 rfl (lv_at hl 0 rfl) ?_
      refine tp_i (om1 (c2)) ?_
      have t2 := hG 48 (VAR N G (G 11 f) - 1)
      refine ml_48 hx hb hK hP (by omega) dX12_isRepeated_32 ?_
      refine bz_eq (tgt := 40) hx hb (by omega) dX12_isRepeated_33 (by decide) (fun c3 => ?_) (fun c3 => ?_)
      · refine lv_iconst (v := nI 0) hx hb dX12_isRepeated_40 (by decide) ?_
        exact W.zret (v := (nI 0)) hx hb hr (by first | rfl | decide) (fun t ht hW => ⟨⟨(nI 0), (N, G, B, pl), rfl, ⟨rfl, rfl, rfl, rfl, by rw [if_neg (fun h => absurd h.2.2 (by omega))]⟩, by rw [ht]; exact hP, va_K.moved hW.alike hK, hD⟩, hS.F ht⟩) hS.2.2 dX12_isRepeated_41
      · refine lv_iconst (v := nI 1) hx hb dX12_isRepeated_36 (by decide) ?_
        refine lv_goto (tgt := 41) hx hb dX12_isRepeated_37 (by decide) ?_
        exact W.zret (v := (nI 1)) hx hb hr (by first | rfl | decide) (fun t ht hW => ⟨⟨(nI 1), (N, G, B, pl), rfl, ⟨rfl, rfl, rfl, rfl, by rw [if_pos ⟨c1, c2, c3⟩]⟩, by rw [ht]; exact hP, va_K.moved hW.alike hK, hD⟩, hS.F ht⟩) hS.2.2 dX12_isRepeated_41
  · rw [if_neg c1] at hw
    subst hw
    refine bz_eq (tgt := 21) hx hb (by omega) dX12_isRepeated_5 (by decide) (fun c => ?_) (fun q9 => absurd q9 (by omega))
    refine lv_iconst (v := nI 0 - 1) hx hb dX12_isRepeated_21 (by decide) ?_
    refine lv_istore_n (lv' := [(2, .int (nI 0 - 1)), (0, .ref z0), (1, .int (nI f))]) hx hb dX12_isRepeated_22 rfl hl (by decide) rfl (fun ls hl => ?_)
    refine lv_iload_n hx hb dX12_isRepeated_23 rfl (lv_at hl 0 rfl) ?_
    refine bo_lt (tgt := 40) hx hb (by omega) dX12_isRepeated_24 (by decide) (fun c2 => ?_) (fun c2 => ?_)
    · refine lv_iconst (v := nI 0) hx hb dX12_isRepeated_40 (by decide) ?_
      exact W.zret (v := (nI 0)) hx hb hr (by first | rfl | decide) (fun t ht hW => ⟨⟨(nI 0), (N, G, B, pl), rfl, ⟨rfl, rfl, rfl, rfl, by rw [if_neg (fun h => c1 h.1)]⟩, by rw [ht]; exact hP, va_K.moved hW.alike hK, hD⟩, hS.F ht⟩) hS.2.2 dX12_isRepeated_41
    · exact absurd c2 (by decide)
