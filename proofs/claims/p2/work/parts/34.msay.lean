def oX12_say : List Cond := [Cond.fieldLink RX12 223 "MacroScopesModel" "toldSize" "I", Cond.fieldLink RX12 79 "MacroScopesModel" "told" "[B"]
def vX12_say : List Cond := .code yX12_say cX12_say 2 none :: (oX12_say ++ (wsX120))
theorem lkX12_say_f223 : Cond.fieldLink RX12 223 "MacroScopesModel" "toldSize" "I" ∈ vX12_say := List.mem_cons_of_mem _ (List.mem_append_left _ (List.mem_of_getElem? (i := 0) rfl))
theorem lkX12_say_f79 : Cond.fieldLink RX12 79 "MacroScopesModel" "told" "[B" ∈ vX12_say := List.mem_cons_of_mem _ (List.mem_append_left _ (List.mem_of_getElem? (i := 1) rfl))
theorem inX12_say : ∀ w ∈ wsX120, w ∈ vX12_say := fun w h => List.mem_cons_of_mem _ (List.mem_append_right _ (h))
def oX12_sayNumber : List Cond := [Cond.methodLink RX12 226 yX12_say, Cond.instanceMethod yX12_say, Cond.selects RX12 yX12_say yX12_say, Cond.initialized RX12]
def vX12_sayNumber : List Cond := .code yX12_sayNumber cX12_sayNumber 4 none :: (oX12_sayNumber ++ (vX12_say ++ (wsX120)))
theorem inX12_sayNumber : ∀ w ∈ wsX120, w ∈ vX12_sayNumber := fun w h => List.mem_cons_of_mem _ (List.mem_append_right _ (List.mem_append_right _ (h)))
theorem kX12_sayNumber_X12_say_226 : GoodIn vX12_sayNumber (wsV RX12 226 RX12 yX12_say vX12_say) := goodIn_sub (fun w h => (List.mem_append.mp h).elim (fun h => List.mem_cons_of_mem _ (List.mem_append_left _ ((by decide +kernel : ∀ w ∈ ([.methodLink RX12 226 yX12_say, .instanceMethod yX12_say, .selects RX12 yX12_say yX12_say, .initialized RX12] : List Cond), w ∈ oX12_sayNumber) w h))) (fun h => List.mem_cons_of_mem _ (List.mem_append_right _ (List.mem_append_left _ (h))))) (by decide +kernel)
def oX12_saySymbol : List Cond := [Cond.fieldLink RX12 21 "MacroScopesModel" "letterFrom" "[I", Cond.fieldLink RX12 18 "MacroScopesModel" "letters" "[B", Cond.methodLink RX12 226 yX12_say, Cond.instanceMethod yX12_say, Cond.selects RX12 yX12_say yX12_say, Cond.initialized RX12]
def vX12_saySymbol : List Cond := .code yX12_saySymbol cX12_saySymbol 3 none :: (oX12_saySymbol ++ (vX12_say ++ (wsX120)))
theorem lkX12_saySymbol_f21 : Cond.fieldLink RX12 21 "MacroScopesModel" "letterFrom" "[I" ∈ vX12_saySymbol := List.mem_cons_of_mem _ (List.mem_append_left _ (List.mem_of_getElem? (i := 0) rfl))
theorem lkX12_saySymbol_f18 : Cond.fieldLink RX12 18 "MacroScopesModel" "letters" "[B" ∈ vX12_saySymbol := List.mem_cons_of_mem _ (List.mem_append_left _ (List.mem_of_getElem? (i := 1) rfl))
theorem inX12_saySymbol : ∀ w ∈ wsX120, w ∈ vX12_saySymbol := fun w h => List.mem_cons_of_mem _ (List.mem_append_right _ (List.mem_append_right _ (h)))
theorem kX12_saySymbol_X12_say_226 : GoodIn vX12_saySymbol (wsV RX12 226 RX12 yX12_say vX12_say) := goodIn_sub (fun w h => (List.mem_append.mp h).elim (fun h => List.mem_cons_of_mem _ (List.mem_append_left _ ((by decide +kernel : ∀ w ∈ ([.methodLink RX12 226 yX12_say, .instanceMethod yX12_say, .selects RX12 yX12_say yX12_say, .initialized RX12] : List Cond), w ∈ oX12_saySymbol) w h))) (fun h => List.mem_cons_of_mem _ (List.mem_append_right _ (List.mem_append_left _ (h))))) (by decide +kernel)
def oX12_task : List Cond := [Cond.fieldLink RX12 67 "MacroScopesModel" "tasks" "[B", Cond.fieldLink RX12 229 "MacroScopesModel" "todo" "I", Cond.fieldLink RX12 70 "MacroScopesModel" "taskForms" "[I", Cond.fieldLink RX12 73 "MacroScopesModel" "taskIn" "[I", Cond.fieldLink RX12 76 "MacroScopesModel" "taskDeep" "[I"]
def vX12_task : List Cond := .code yX12_task cX12_task 5 none :: (oX12_task ++ (wsX120))
theorem lkX12_task_f67 : Cond.fieldLink RX12 67 "MacroScopesModel" "tasks" "[B" ∈ vX12_task := List.mem_cons_of_mem _ (List.mem_append_left _ (List.mem_of_getElem? (i := 0) rfl))
theorem lkX12_task_f229 : Cond.fieldLink RX12 229 "MacroScopesModel" "todo" "I" ∈ vX12_task := List.mem_cons_of_mem _ (List.mem_append_left _ (List.mem_of_getElem? (i := 1) rfl))
theorem lkX12_task_f70 : Cond.fieldLink RX12 70 "MacroScopesModel" "taskForms" "[I" ∈ vX12_task := List.mem_cons_of_mem _ (List.mem_append_left _ (List.mem_of_getElem? (i := 2) rfl))
theorem lkX12_task_f73 : Cond.fieldLink RX12 73 "MacroScopesModel" "taskIn" "[I" ∈ vX12_task := List.mem_cons_of_mem _ (List.mem_append_left _ (List.mem_of_getElem? (i := 3) rfl))
theorem lkX12_task_f76 : Cond.fieldLink RX12 76 "MacroScopesModel" "taskDeep" "[I" ∈ vX12_task := List.mem_cons_of_mem _ (List.mem_append_left _ (List.mem_of_getElem? (i := 4) rfl))
theorem inX12_task : ∀ w ∈ wsX120, w ∈ vX12_task := fun w h => List.mem_cons_of_mem _ (List.mem_append_right _ (h))
def oX12_fail : List Cond := [Cond.fieldLink RX12 236 "MacroScopesModel" "fault" "I"]
def vX12_fail : List Cond := .code yX12_fail cX12_fail 2 none :: (oX12_fail ++ (wsX120))
theorem lkX12_fail_f236 : Cond.fieldLink RX12 236 "MacroScopesModel" "fault" "I" ∈ vX12_fail := List.mem_cons_of_mem _ (List.mem_append_left _ (List.mem_of_getElem? (i := 0) rfl))
theorem inX12_fail : ∀ w ∈ wsX120, w ∈ vX12_fail := fun w h => List.mem_cons_of_mem _ (List.mem_append_right _ (h))
def oX12_need : List Cond := [Cond.fieldLink RX12 236 "MacroScopesModel" "fault" "I", Cond.methodLink RX12 239 yX12_fail, Cond.instanceMethod yX12_fail, Cond.selects RX12 yX12_fail yX12_fail, Cond.initialized RX12]
def vX12_need : List Cond := .code yX12_need cX12_need 3 (some .boolean) :: (oX12_need ++ (vX12_fail ++ (wsX120)))
theorem lkX12_need_f236 : Cond.fieldLink RX12 236 "MacroScopesModel" "fault" "I" ∈ vX12_need := List.mem_cons_of_mem _ (List.mem_append_left _ (List.mem_of_getElem? (i := 0) rfl))
theorem inX12_need : ∀ w ∈ wsX120, w ∈ vX12_need := fun w h => List.mem_cons_of_mem _ (List.mem_append_right _ (List.mem_append_right _ (h)))
theorem kX12_need_X12_fail_239 : GoodIn vX12_need (wsV RX12 239 RX12 yX12_fail vX12_fail) := goodIn_sub (fun w h => (List.mem_append.mp h).elim (fun h => List.mem_cons_of_mem _ (List.mem_append_left _ ((by decide +kernel : ∀ w ∈ ([.methodLink RX12 239 yX12_fail, .instanceMethod yX12_fail, .selects RX12 yX12_fail yX12_fail, .initialized RX12] : List Cond), w ∈ oX12_need) w h))) (fun h => List.mem_cons_of_mem _ (List.mem_append_right _ (List.mem_append_left _ (h))))) (by decide +kernel)
def oX12_environmentOf : List Cond := [Cond.fieldLink RX12 54 "MacroScopesModel" "bindingFrom" "[I"]
def vX12_environmentOf : List Cond := .code yX12_environmentOf cX12_environmentOf 3 (some .int) :: (oX12_environmentOf ++ (wsX120))
theorem lkX12_environmentOf_f54 : Cond.fieldLink RX12 54 "MacroScopesModel" "bindingFrom" "[I" ∈ vX12_environmentOf := List.mem_cons_of_mem _ (List.mem_append_left _ (List.mem_of_getElem? (i := 0) rfl))
theorem inX12_environmentOf : ∀ w ∈ wsX120, w ∈ vX12_environmentOf := fun w h => List.mem_cons_of_mem _ (List.mem_append_right _ (h))
def oX12_bind : List Cond := [Cond.fieldLink RX12 57 "MacroScopesModel" "boundNames" "[I", Cond.fieldLink RX12 288 "MacroScopesModel" "bindings" "I", Cond.fieldLink RX12 60 "MacroScopesModel" "variableOf" "[I", Cond.fieldLink RX12 63 "MacroScopesModel" "rulesOf" "[I", Cond.fieldLink RX12 54 "MacroScopesModel" "bindingFrom" "[I", Cond.fieldLink RX12 162 "MacroScopesModel" "environments" "I"]
def vX12_bind : List Cond := .code yX12_bind cX12_bind 4 none :: (oX12_bind ++ (wsX120))
theorem lkX12_bind_f57 : Cond.fieldLink RX12 57 "MacroScopesModel" "boundNames" "[I" ∈ vX12_bind := List.mem_cons_of_mem _ (List.mem_append_left _ (List.mem_of_getElem? (i := 0) rfl))
theorem lkX12_bind_f288 : Cond.fieldLink RX12 288 "MacroScopesModel" "bindings" "I" ∈ vX12_bind := List.mem_cons_of_mem _ (List.mem_append_left _ (List.mem_of_getElem? (i := 1) rfl))
theorem lkX12_bind_f60 : Cond.fieldLink RX12 60 "MacroScopesModel" "variableOf" "[I" ∈ vX12_bind := List.mem_cons_of_mem _ (List.mem_append_left _ (List.mem_of_getElem? (i := 2) rfl))
theorem lkX12_bind_f63 : Cond.fieldLink RX12 63 "MacroScopesModel" "rulesOf" "[I" ∈ vX12_bind := List.mem_cons_of_mem _ (List.mem_append_left _ (List.mem_of_getElem? (i := 3) rfl))
theorem lkX12_bind_f54 : Cond.fieldLink RX12 54 "MacroScopesModel" "bindingFrom" "[I" ∈ vX12_bind := List.mem_cons_of_mem _ (List.mem_append_left _ (List.mem_of_getElem? (i := 4) rfl))
theorem lkX12_bind_f162 : Cond.fieldLink RX12 162 "MacroScopesModel" "environments" "I" ∈ vX12_bind := List.mem_cons_of_mem _ (List.mem_append_left _ (List.mem_of_getElem? (i := 5) rfl))
theorem inX12_bind : ∀ w ∈ wsX120, w ∈ vX12_bind := fun w h => List.mem_cons_of_mem _ (List.mem_append_right _ (h))
def oX12_newEnvironment : List Cond := [Cond.fieldLink RX12 51 "MacroScopesModel" "around" "[I", Cond.fieldLink RX12 162 "MacroScopesModel" "environments" "I", Cond.fieldLink RX12 54 "MacroScopesModel" "bindingFrom" "[I", Cond.fieldLink RX12 288 "MacroScopesModel" "bindings" "I"]
def vX12_newEnvironment : List Cond := .code yX12_newEnvironment cX12_newEnvironment 2 (some .int) :: (oX12_newEnvironment ++ (wsX120))
theorem lkX12_newEnvironment_f51 : Cond.fieldLink RX12 51 "MacroScopesModel" "around" "[I" ∈ vX12_newEnvironment := List.mem_cons_of_mem _ (List.mem_append_left _ (List.mem_of_getElem? (i := 0) rfl))
theorem lkX12_newEnvironment_f162 : Cond.fieldLink RX12 162 "MacroScopesModel" "environments" "I" ∈ vX12_newEnvironment := List.mem_cons_of_mem _ (List.mem_append_left _ (List.mem_of_getElem? (i := 1) rfl))
theorem lkX12_newEnvironment_f54 : Cond.fieldLink RX12 54 "MacroScopesModel" "bindingFrom" "[I" ∈ vX12_newEnvironment := List.mem_cons_of_mem _ (List.mem_append_left _ (List.mem_of_getElem? (i := 2) rfl))
theorem lkX12_newEnvironment_f288 : Cond.fieldLink RX12 288 "MacroScopesModel" "bindings" "I" ∈ vX12_newEnvironment := List.mem_cons_of_mem _ (List.mem_append_left _ (List.mem_of_getElem? (i := 3) rfl))
theorem inX12_newEnvironment : ∀ w ∈ wsX120, w ∈ vX12_newEnvironment := fun w h => List.mem_cons_of_mem _ (List.mem_append_right _ (h))
theorem nd_ne0 {d : Nat} (h0 : 0 < d) (hd : d < 2 ^ 31) : ¬ nI d = 0 := fun h => absurd ((nI_eq hd (by decide)).mp (show nI d = nI 0 from h)) (by omega)
theorem va_upB (B : Nat → Nat → Int32) (k : Nat) : va_up B k (B k) = B := va_upid B k
set_option maxHeartbeats 4000000 in
set_option maxRecDepth 100000 in
/-- say -/
theorem m_say (l : Launch) (dC : Nat → ClassId) (dI : Nat → Nat → Nat) (cB cC cI cJ cZ : ClassId) (z0 : Nat) (R : Nat → Nat) (pl : Int32) (N : Nat → Nat) (G : Nat → Nat → Nat) (B : Nat → Nat → Int32) (x : Int32) (ht38 : N 38 + 100 ≤ 2000000000) (s0 : Nat) : Met l yX12_say vX12_say { frames := 0, cells := 0, slots := 0, locals := 0 } (va_Pc [.ref z0, .int x] (mPre dC dI cB cC cI cJ cZ z0 R pl N G B s0)) (va_Qv (fun u : ((Nat → Nat) × (Nat → Nat → Nat) × (Nat → Nat → Int32) × Int32) => match u with | (N1, G1, B1, pl1) => G1 = G ∧ pl1 = pl ∧ N1 = va_up N 38 (N 38 + 1) ∧ ∃ X, B1 = va_up B 37 X) (mPost dC dI cB cC cI cJ cZ z0 R (va_A (MW cB cC cI cJ cZ z0 R pl N G B) s0)) (va_A (MW cB cC cI cJ cZ z0 R pl N G B) s0)) 0 0 (va_A (MW cB cC cI cJ cZ z0 R pl N G B) s0) := by
  refine Met.ofW (cc := cX12_say) (maxL := 2) (ret := none) (by decide) rfl ?_
  intro p e s m args below meth c s₁ B9 hml hv
  obtain ⟨rfl, hsz, hP, hK, hD0⟩ := hv
  have hx := B9.exec
  have hb := B9.bytes
  have hr := B9.returns
  have hts := atoms_spec (ws := vX12_say) B9.pre
  have hown : s.vm.findClass RX12 = some m.cls := findClass_of_methodNamed B9.named
  have hlocks := B9.notSynchronized
  subst hsz
  have hD := hD0.self (sz := s.heap.size)
  generalize hAe : va_A (MW cB cC cI cJ cZ z0 R pl N G B) s.heap.size = A at hD ⊢
  have hA : ∀ q : Nat, s.heap.size ≤ q → A q := fun q h => by rw [← hAe]; exact Or.inr h
  have hS : va_S A s.heap s.heap [] := va_S.rf
  have hcs : 0 + 0 ≤ (0 : Nat) ∧ 0 + 0 ≤ (0 : Nat) := ⟨Nat.le_refl 0, Nat.le_refl 0⟩
  have hl := lv_entry ([.ref z0, .int x]) (n := 2) (Nat.le_of_ble_eq_true rfl)
  rw [lg_entry_eq]
  generalize (lg_sl ([.ref z0, .int x]) ++ List.replicate (2 - (lg_sl ([.ref z0, .int x])).length) Slot.unset).toArray = ls at hl ⊢
  have hl : lv_has ls 2 [(0, .ref z0), (1, .int x)] := hl
  refine lv_aload_n hx hb dX12_say_0 rfl (lv_at hl 0 rfl) ?_
  refine mg_38 hx hb hts inX12_say hown hK hP (hts _ lkX12_say_f223) dX12_say_1 ?_
  refine lv_sipush (v := nI 4000) hx hb dX12_say_4 (by decide) ?_
  refine bn_ge (tgt := 21) hx hb (by first | omega | exact Nat.lt_of_lt_of_le (hG _ _) (by decide)) (by first | omega | exact Nat.lt_of_lt_of_le (hG _ _) (by decide)) dX12_say_7 (by decide) (fun c1 => ?_) (fun c1 => ?_)
  · refine lv_aload_n hx hb dX12_say_21 rfl (lv_at hl 0 rfl) ?_
    refine lv_dup hx hb dX12_say_22 rfl ?_
    refine mg_38 hx hb hts inX12_say hown hK hP (hts _ lkX12_say_f223) dX12_say_23 ?_
    refine lv_iconst (v := nI 1) hx hb dX12_say_26 (by decide) ?_
    refine lv_iadd hx hb dX12_say_27 ?_
    refine tp_i (nI_add (N 38) 1) ?_
    refine mp_38 hx hb hts inX12_say hown hK hP hD hS (hts _ lkX12_say_f223) dX12_say_28 (fun H locs hP hD hS => ?_)
    exact W.vret hx hb hr (fun t ht hW => ⟨⟨(va_up N 38 ((N 38) + 1), G, B, pl), rfl, ⟨rfl, rfl, rfl, B 37, (va_upB B 37).symm⟩, by rw [ht]; exact hP, va_K.moved hW.alike hK, hD⟩, hS.F ht⟩) hS.2.2 dX12_say_31
  · refine lv_aload_n hx hb dX12_say_10 rfl (lv_at hl 0 rfl) ?_
    refine mg_37 hx hb hts inX12_say hown hK hP (hts _ lkX12_say_f79) dX12_say_11 ?_
    refine lv_aload_n hx hb dX12_say_14 rfl (lv_at hl 0 rfl) ?_
    refine mg_38 hx hb hts inX12_say hown hK hP (hts _ lkX12_say_f223) dX12_say_15 ?_
    refine lv_iload_n hx hb dX12_say_18 rfl (lv_at hl 1 rfl) ?_
    refine lv_i2b (v := x.toInt8.toInt32) hx hb dX12_say_19 rfl ?_
    refine ms_37 hx hb hK hP hD hS (by omega) dX12_say_20 (fun H locs hP hD hS => ?_)
    refine lv_aload_n hx hb dX12_say_21 rfl (lv_at hl 0 rfl) ?_
    refine lv_dup hx hb dX12_say_22 rfl ?_
    refine mg_38 hx hb hts inX12_say hown hK hP (hts _ lkX12_say_f223) dX12_say_23 ?_
    refine lv_iconst (v := nI 1) hx hb dX12_say_26 (by decide) ?_
    refine lv_iadd hx hb dX12_say_27 ?_
    refine tp_i (nI_add (N 38) 1) ?_
    refine mp_38 hx hb hts inX12_say hown hK hP hD hS (hts _ lkX12_say_f223) dX12_say_28 (fun H locs hP hD hS => ?_)
    exact W.vret hx hb hr (fun t ht hW => ⟨⟨(va_up N 38 ((N 38) + 1), G, va_up B 37 (upd (B 37) (N 38) (vp_nar .byte x.toInt8.toInt32)), pl), rfl, ⟨rfl, rfl, rfl, _, rfl⟩, by rw [ht]; exact hP, va_K.moved hW.alike hK, hD⟩, hS.F ht⟩) hS.2.2 dX12_say_31

set_option maxHeartbeats 4000000 in
set_option maxRecDepth 100000 in
theorem lp_num1 {p : Program} {l : Launch} {e : Env} {s : State} {m : MethodId} {args : Array Value} {below : List Frame} {meth : Method} {c : Code} {Q : State → Prop} {A : Nat → Prop} {dC : Nat → ClassId} {dI : Nat → Nat → Nat} {cB cC cI cJ cZ : ClassId} {z0 : Nat} {R : Nat → Nat} (hx : p.tables.exec = Jvm.exec) (hb : c.code = cX12_sayNumber) (hml : c.maxLocals = 4) (hown : s.vm.findClass RX12 = some m.cls) (hts : ∀ w ∈ vX12_sayNumber, w.before args s = true) (hK : va_K (dC, dI) vwCl (TY cB cC cI cJ cZ) s) (hA : ∀ q : Nat, s.heap.size ≤ q → A q) {pl : Int32} {N : Nat → Nat} {G : Nat → Nat → Nat} {B : Nat → Nat → Int32} (v : Nat) (hv : v < 1048576) (ke : ∀ (un : Nat) (H : Heap) (locs : List Loc), 0 < un → un < 100000000 → va_P (dC, dI) vwCl (MW cB cC cI cJ cZ z0 R pl N G B) H → va_D A (MW cB cC cI cJ cZ z0 R pl N G B) → va_S A s.heap H locs → ∀ (ls : Array Slot), lv_has ls 4 [(0, .ref z0), (1, .int (nI v)), (2, .int (nI un))] → W p l e (headSpec vX12_sayNumber { frames := 1, cells := 0, slots := 0, locals := 21 }).room s m args below meth c H locs 0 0 Q (F0 m 18 ls [])) : ∀ (k : Nat) (un : Nat), v + 1 - un < k → 0 < un → un ≤ 10000000 → ∀ (H : Heap) (locs : List Loc), va_P (dC, dI) vwCl (MW cB cC cI cJ cZ z0 R pl N G B) H → va_D A (MW cB cC cI cJ cZ z0 R pl N G B) → va_S A s.heap H locs → ∀ (ls : Array Slot), lv_has ls 4 [(0, .ref z0), (1, .int (nI v)), (2, .int (nI un))] → W p l e (headSpec vX12_sayNumber { frames := 1, cells := 0, slots := 0, locals := 21 }).room s m args below meth c H locs 0 0 Q (F0 m 2 ls []) := by
  have hcs : 0 + 0 ≤ (0 : Nat) ∧ 0 + 0 ≤ (0 : Nat) := ⟨Nat.le_refl 0, Nat.le_refl 0⟩
  intro k
  induction k with
  | zero =>
    intro un hk hu0 hu1
    omega
  | succ k ih =>
    intro un hk hu0 hu1 H locs hP hD hS ls hl
    have dv := Nat.div_le_self v un
    refine lv_iload_n hx hb dX12_sayNumber_2 rfl (lv_at hl 1 rfl) ?_
    refine lv_iload_n hx hb dX12_sayNumber_3 rfl (lv_at hl 2 rfl) ?_
    refine lv_idiv hx hb dX12_sayNumber_4 (nd_ne0 (by omega) (by omega)) ?_
    refine tp_i (pk_div (a := v) (d := un) (by omega) (by omega) (by omega)) ?_
    refine lv_bipush (v := nI 9) hx hb dX12_sayNumber_5 (by decide) ?_
    refine bn_le (tgt := 18) hx hb (by first | omega | exact Nat.lt_of_lt_of_le (hG _ _) (by decide)) (by first | omega | exact Nat.lt_of_lt_of_le (hG _ _) (by decide)) dX12_sayNumber_7 (by decide) (fun c1 => ?_) (fun c1 => ?_)
    · exact ke un H locs hu0 (by omega) hP hD hS ls (lv_sub hl [0, 1, 2] rfl)
    · have d1 : 10 * un ≤ v := by
        have := (Nat.le_div_iff_mul_le hu0).mp (show 10 ≤ v / un by omega)
        omega
      refine lv_iload_n hx hb dX12_sayNumber_10 rfl (lv_at hl 2 rfl) ?_
      refine lv_bipush (v := nI 10) hx hb dX12_sayNumber_11 (by decide) ?_
      refine lv_imul hx hb dX12_sayNumber_13 ?_
      refine tp_i (pk_mul un 10) ?_
      refine lv_istore_n (lv' := [(2, .int (nI (un * 10))), (0, .ref z0), (1, .int (nI v))]) hx hb dX12_sayNumber_14 rfl hl (by decide) rfl (fun ls hl => ?_)
      refine lv_goto (tgt := 2) hx hb dX12_sayNumber_15 (by decide) ?_
      exact ih (un * 10) (by omega) (by omega) (by omega) _ _ hP hD hS ls (lv_sub hl [1, 2, 0] rfl)

set_option maxHeartbeats 4000000 in
set_option maxRecDepth 100000 in
theorem lp_num2 {p : Program} {l : Launch} {e : Env} {s : State} {m : MethodId} {args : Array Value} {below : List Frame} {meth : Method} {c : Code} {Q : State → Prop} {A : Nat → Prop} {dC : Nat → ClassId} {dI : Nat → Nat → Nat} {cB cC cI cJ cZ : ClassId} {z0 : Nat} {R : Nat → Nat} (hx : p.tables.exec = Jvm.exec) (hb : c.code = cX12_sayNumber) (hml : c.maxLocals = 4) (hown : s.vm.findClass RX12 = some m.cls) (hts : ∀ w ∈ vX12_sayNumber, w.before args s = true) (hK : va_K (dC, dI) vwCl (TY cB cC cI cJ cZ) s) (hA : ∀ q : Nat, s.heap.size ≤ q → A q) {pl : Int32} {N : Nat → Nat} {G : Nat → Nat → Nat} {B : Nat → Nat → Int32} (v : Nat) (hv : v < 1048576) (ht38 : N 38 + 5000 ≤ 2000000000) (ke : ∀ (n : Nat) (X : Nat → Int32) (H : Heap) (locs : List Loc), n ≤ 8 → va_P (dC, dI) vwCl (MW cB cC cI cJ cZ z0 R pl (va_up N 38 (N 38 + n)) G (va_up B 37 X)) H → va_D A (MW cB cC cI cJ cZ z0 R pl (va_up N 38 (N 38 + n)) G (va_up B 37 X)) → va_S A s.heap H locs → ∀ (ls : Array Slot), lv_has ls 4 [] → W p l e (headSpec vX12_sayNumber { frames := 1, cells := 0, slots := 0, locals := 21 }).room s m args below meth c H locs 0 0 Q (F0 m 45 ls [])) : ∀ (k : Nat) (un n : Nat) (X : Nat → Int32), un < 10 ^ k → un < 100000000 → n + k ≤ 8 → ∀ (H : Heap) (locs : List Loc), va_P (dC, dI) vwCl (MW cB cC cI cJ cZ z0 R pl (va_up N 38 (N 38 + n)) G (va_up B 37 X)) H → va_D A (MW cB cC cI cJ cZ z0 R pl (va_up N 38 (N 38 + n)) G (va_up B 37 X)) → va_S A s.heap H locs → ∀ (ls : Array Slot), lv_has ls 4 [(0, .ref z0), (1, .int (nI v)), (3, .int (nI un))] → W p l e (headSpec vX12_sayNumber { frames := 1, cells := 0, slots := 0, locals := 21 }).room s m args below meth c H locs 0 0 Q (F0 m 20 ls []) := by
  have hcs : 0 + 0 ≤ (0 : Nat) ∧ 0 + 0 ≤ (0 : Nat) := ⟨Nat.le_refl 0, Nat.le_refl 0⟩
  intro k
  induction k with
  | zero =>
    intro un n X hu hub hn H locs hP hD hS ls hl
    have hz : un = 0 := by rw [Nat.pow_zero] at hu; omega
    subst hz
    refine lv_iload_n hx hb dX12_sayNumber_20 rfl (lv_at hl 2 rfl) ?_
    refine bz_le (tgt := 45) hx hb (by first | omega | exact Nat.lt_of_lt_of_le (hG _ _) (by decide)) dX12_sayNumber_21 (by decide) (fun c => ?_) (fun q9 => absurd q9 (by omega))
    exact ke n X H locs (by omega) hP hD hS ls (lv_sub hl [] rfl)
  | succ k ih =>
    intro un n X hu hub hn H locs hP hD hS ls hl
    refine lv_iload_n hx hb dX12_sayNumber_20 rfl (lv_at hl 2 rfl) ?_
    refine bz_le (tgt := 45) hx hb (by first | omega | exact Nat.lt_of_lt_of_le (hG _ _) (by decide)) dX12_sayNumber_21 (by decide) (fun c1 => ?_) (fun c1 => ?_)
    · exact ke n X H locs (by omega) hP hD hS ls (lv_sub hl [] rfl)
    · have dv := Nat.div_le_self v un
      refine lv_aload_n hx hb dX12_sayNumber_24 rfl (lv_at hl 0 rfl) ?_
      refine lv_bipush (v := nI 48) hx hb dX12_sayNumber_25 (by decide) ?_
      refine lv_iload_n hx hb dX12_sayNumber_27 rfl (lv_at hl 1 rfl) ?_
      refine lv_iload_n hx hb dX12_sayNumber_28 rfl (lv_at hl 2 rfl) ?_
      refine lv_idiv hx hb dX12_sayNumber_29 (nd_ne0 (by omega) (by omega)) ?_
      refine tp_i (pk_div (a := v) (d := un) (by omega) (by omega) (by omega)) ?_
      refine lv_bipush (v := nI 10) hx hb dX12_sayNumber_30 (by decide) ?_
      refine lv_irem hx hb dX12_sayNumber_32 (nd_ne0 (by omega) (by omega)) ?_
      refine tp_i (pk_rem (a := v / un) (d := 10) (by omega) (by omega) (by omega)) ?_
      refine lv_iadd hx hb dX12_sayNumber_33 ?_
      refine tp_i (nI_add 48 ((v / un) % 10)) ?_
      refine mcl_v (As := [.int (nI (48 + ((v / un) % 10)))]) (rest := []) ⟨hx, hb, hml, hown, hts⟩ (m_say l dC dI cB cC cI cJ cZ z0 R pl (va_up N 38 (N 38 + n)) G (va_up B 37 X) (nI (48 + v / un % 10)) (show N 38 + n + 100 ≤ 2000000000 by omega) H.size) (cwV 1 hts kX12_sayNumber_X12_say_226 rfl rfl rfl (by decide +kernel) ⟨Nat.le_of_ble_eq_true rfl, Nat.le_of_ble_eq_true rfl⟩) hK hP hD hS hA rfl rfl hl.1 (lv_room (Nat.le_of_ble_eq_true rfl)) dX12_sayNumber_34 hcs (fun  N_1 G_2 B_3 pl_4 hw H locs hP hD hS => ?_)
      dsimp only at hw
      obtain ⟨e2, e4, e1, X2, e3⟩ := hw
      rw [e1, e2, e3, e4, bx_uu, bx_uu] at hP hD
      have hP : va_P (dC, dI) vwCl (MW cB cC cI cJ cZ z0 R pl (va_up N 38 (N 38 + (n + 1))) G (va_up B 37 X2)) H := hP
      have hD : va_D A (MW cB cC cI cJ cZ z0 R pl (va_up N 38 (N 38 + (n + 1))) G (va_up B 37 X2)) := hD
      have d1 : un / 10 < 10 ^ k := by
        rw [Nat.div_lt_iff_lt_mul (by decide)]
        rw [Nat.pow_succ] at hu; exact hu
      refine lv_iload_n hx hb dX12_sayNumber_37 rfl (lv_at hl 2 rfl) ?_
      refine lv_bipush (v := nI 10) hx hb dX12_sayNumber_38 (by decide) ?_
      refine lv_idiv hx hb dX12_sayNumber_40 (nd_ne0 (by omega) (by omega)) ?_
      refine tp_i (pk_div (a := un) (d := 10) (by omega) (by omega) (by omega)) ?_
      refine lv_istore_n (lv' := [(3, .int (nI (un / 10))), (0, .ref z0), (1, .int (nI v))]) hx hb dX12_sayNumber_41 rfl hl (by decide) rfl (fun ls hl => ?_)
      refine lv_goto (tgt := 20) hx hb dX12_sayNumber_42 (by decide) ?_
      exact ih (un / 10) (n + 1) X2 d1 (by omega) (by omega) _ _ hP hD hS ls (lv_sub hl [1, 2, 0] rfl)

set_option maxHeartbeats 4000000 in
set_option maxRecDepth 100000 in
/-- sayNumber -/
theorem m_sayNumber (l : Launch) (dC : Nat → ClassId) (dI : Nat → Nat → Nat) (cB cC cI cJ cZ : ClassId) (z0 : Nat) (R : Nat → Nat) (pl : Int32) (N : Nat → Nat) (G : Nat → Nat → Nat) (B : Nat → Nat → Int32) (v : Nat) (hv : v < 1048576) (ht38 : N 38 + 5000 ≤ 2000000000) (s0 : Nat) : Met l yX12_sayNumber vX12_sayNumber { frames := 1, cells := 0, slots := 0, locals := 21 } (va_Pc [.ref z0, .int (nI v)] (mPre dC dI cB cC cI cJ cZ z0 R pl N G B s0)) (va_Qv (fun u : ((Nat → Nat) × (Nat → Nat → Nat) × (Nat → Nat → Int32) × Int32) => match u with | (N1, G1, B1, pl1) => G1 = G ∧ pl1 = pl ∧ ∃ n X, n ≤ 8 ∧ N1 = va_up N 38 (N 38 + n) ∧ B1 = va_up B 37 X) (mPost dC dI cB cC cI cJ cZ z0 R (va_A (MW cB cC cI cJ cZ z0 R pl N G B) s0)) (va_A (MW cB cC cI cJ cZ z0 R pl N G B) s0)) 0 0 (va_A (MW cB cC cI cJ cZ z0 R pl N G B) s0) := by
  refine Met.ofW (cc := cX12_sayNumber) (maxL := 4) (ret := none) (by decide) rfl ?_
  intro p e s m args below meth c s₁ B9 hml hv
  obtain ⟨rfl, hsz, hP, hK, hD0⟩ := hv
  have hx := B9.exec
  have hb := B9.bytes
  have hr := B9.returns
  have hts := atoms_spec (ws := vX12_sayNumber) B9.pre
  have hown : s.vm.findClass RX12 = some m.cls := findClass_of_methodNamed B9.named
  have hlocks := B9.notSynchronized
  subst hsz
  have hD := hD0.self (sz := s.heap.size)
  generalize hAe : va_A (MW cB cC cI cJ cZ z0 R pl N G B) s.heap.size = A at hD ⊢
  have hA : ∀ q : Nat, s.heap.size ≤ q → A q := fun q h => by rw [← hAe]; exact Or.inr h
  have hS : va_S A s.heap s.heap [] := va_S.rf
  have hcs : 0 + 0 ≤ (0 : Nat) ∧ 0 + 0 ≤ (0 : Nat) := ⟨Nat.le_refl 0, Nat.le_refl 0⟩
  have hl := lv_entry ([.ref z0, .int (nI v)]) (n := 4) (Nat.le_of_ble_eq_true rfl)
  rw [lg_entry_eq]
  generalize (lg_sl ([.ref z0, .int (nI v)]) ++ List.replicate (4 - (lg_sl ([.ref z0, .int (nI v)])).length) Slot.unset).toArray = ls at hl ⊢
  have hl : lv_has ls 4 [(0, .ref z0), (1, .int (nI v))] := hl
  refine lv_iconst (v := nI 1) hx hb dX12_sayNumber_0 (by decide) ?_
  refine lv_istore_n (lv' := [(2, .int (nI 1)), (0, .ref z0), (1, .int (nI v))]) hx hb dX12_sayNumber_1 rfl hl (by decide) rfl (fun ls hl => ?_)
  refine lp_num1 hx hb hml hown hts hK hA v hv (fun un H locs hu0 hu1 hP hD hS ls hl => ?_) _ 1 (Nat.lt_succ_self _) (by decide) (by decide) _ _ hP hD hS ls (lv_sub hl [1, 2, 0] rfl)
  refine lv_iload_n hx hb dX12_sayNumber_18 rfl (lv_at hl 2 rfl) ?_
  refine lv_istore_n (lv' := [(3, .int (nI un)), (0, .ref z0), (1, .int (nI v)), (2, .int (nI un))]) hx hb dX12_sayNumber_19 rfl hl (by decide) rfl (fun ls hl => ?_)
  have hP : va_P (dC, dI) vwCl (MW cB cC cI cJ cZ z0 R pl (va_up N 38 (N 38 + 0)) G (va_up B 37 (B 37))) H := by rw [Nat.add_zero, va_upid, va_upB]; exact hP
  have hD : va_D A (MW cB cC cI cJ cZ z0 R pl (va_up N 38 (N 38 + 0)) G (va_up B 37 (B 37))) := by rw [Nat.add_zero, va_upid, va_upB]; exact hD
  refine lp_num2 hx hb hml hown hts hK hA v hv ht38 (fun n X H locs hn hP hD hS ls hl => ?_) 8 un 0 (B 37) (by omega) hu1 (by decide) _ _ hP hD hS ls (lv_sub hl [1, 2, 0] rfl)
  exact W.vret hx hb hr (fun t ht hW => ⟨⟨(va_up N 38 (N 38 + n), G, va_up B 37 X, pl), rfl, ⟨rfl, rfl, n, X, hn, rfl, rfl⟩, by rw [ht]; exact hP, va_K.moved hW.alike hK, hD⟩, hS.F ht⟩) hS.2.2 dX12_sayNumber_45

set_option maxHeartbeats 4000000 in
set_option maxRecDepth 100000 in
theorem lp_sym {p : Program} {l : Launch} {e : Env} {s : State} {m : MethodId} {args : Array Value} {below : List Frame} {meth : Method} {c : Code} {Q : State → Prop} {A : Nat → Prop} {dC : Nat → ClassId} {dI : Nat → Nat → Nat} {cB cC cI cJ cZ : ClassId} {z0 : Nat} {R : Nat → Nat} (hx : p.tables.exec = Jvm.exec) (hb : c.code = cX12_saySymbol) (hml : c.maxLocals = 3) (hown : s.vm.findClass RX12 = some m.cls) (hts : ∀ w ∈ vX12_saySymbol, w.before args s = true) (hK : va_K (dC, dI) vwCl (TY cB cC cI cJ cZ) s) (hA : ∀ q : Nat, s.heap.size ≤ q → A q) {pl : Int32} {N : Nat → Nat} {G : Nat → Nat → Nat} {B : Nat → Nat → Int32} (hG : ∀ k i, G k i < 1048576) (y : Nat) (hy : y < 5000) (hy1 : G 5 (y + 1) ≤ 4200) (ht38 : N 38 + 5000 ≤ 2000000000) (ke : ∀ (n : Nat) (X : Nat → Int32) (H : Heap) (locs : List Loc), n ≤ 4200 → va_P (dC, dI) vwCl (MW cB cC cI cJ cZ z0 R pl (va_up N 38 (N 38 + n)) G (va_up B 37 X)) H → va_D A (MW cB cC cI cJ cZ z0 R pl (va_up N 38 (N 38 + n)) G (va_up B 37 X)) → va_S A s.heap H locs → ∀ (ls : Array Slot), lv_has ls 3 [] → W p l e (headSpec vX12_saySymbol { frames := 1, cells := 0, slots := 0, locals := 21 }).room s m args below meth c H locs 0 0 Q (F0 m 35 ls [])) : ∀ (k : Nat) (j n : Nat) (X : Nat → Int32), G 5 (y + 1) - j < k → j ≤ 1048576 → n ≤ j ∧ n ≤ 4200 → ∀ (H : Heap) (locs : List Loc), va_P (dC, dI) vwCl (MW cB cC cI cJ cZ z0 R pl (va_up N 38 (N 38 + n)) G (va_up B 37 X)) H → va_D A (MW cB cC cI cJ cZ z0 R pl (va_up N 38 (N 38 + n)) G (va_up B 37 X)) → va_S A s.heap H locs → ∀ (ls : Array Slot), lv_has ls 3 [(0, .ref z0), (1, .int (nI y)), (2, .int (nI j))] → W p l e (headSpec vX12_saySymbol { frames := 1, cells := 0, slots := 0, locals := 21 }).room s m args below meth c H locs 0 0 Q (F0 m 7 ls []) := by
  have hcs : 0 + 0 ≤ (0 : Nat) ∧ 0 + 0 ≤ (0 : Nat) := ⟨Nat.le_refl 0, Nat.le_refl 0⟩
  intro k
  induction k with
  | zero =>
    intro j n X hk hj hn
    omega
  | succ k ih =>
    intro j n X hk hj hn H locs hP hD hS ls hl
    have g1 := hG 5 (y + 1)
    refine lv_iload_n hx hb dX12_saySymbol_7 rfl (lv_at hl 2 rfl) ?_
    refine lv_aload_n hx hb dX12_saySymbol_8 rfl (lv_at hl 0 rfl) ?_
    refine mg_5 hx hb hts inX12_saySymbol hown hK hP (hts _ lkX12_saySymbol_f21) dX12_saySymbol_9 ?_
    refine lv_iload_n hx hb dX12_saySymbol_12 rfl (lv_at hl 1 rfl) ?_
    refine lv_iconst (v := nI 1) hx hb dX12_saySymbol_13 (by decide) ?_
    refine lv_iadd hx hb dX12_saySymbol_14 ?_
    refine tp_i (nI_add y 1) ?_
    refine ml_5 hx hb hK hP (by omega) dX12_saySymbol_15 ?_
    refine bn_ge (tgt := 35) hx hb (by first | omega | exact Nat.lt_of_lt_of_le (hG _ _) (by decide)) (by first | omega | exact Nat.lt_of_lt_of_le (hG _ _) (by decide)) dX12_saySymbol_16 (by decide) (fun c1 => ?_) (fun c1 => ?_)
    · exact ke n X H locs (by omega) hP hD hS ls (lv_sub hl [] rfl)
    · refine lv_aload_n hx hb dX12_saySymbol_19 rfl (lv_at hl 0 rfl) ?_
      refine lv_aload_n hx hb dX12_saySymbol_20 rfl (lv_at hl 0 rfl) ?_
      refine mg_4 hx hb hts inX12_saySymbol hown hK hP (hts _ lkX12_saySymbol_f18) dX12_saySymbol_21 ?_
      refine lv_iload_n hx hb dX12_saySymbol_24 rfl (lv_at hl 2 rfl) ?_
      refine ml_4 hx hb hK hP (by omega) dX12_saySymbol_25 ?_
      refine mcl_v (As := [.int ((va_up B 37 X) 4 j)]) (rest := []) ⟨hx, hb, hml, hown, hts⟩ (m_say l dC dI cB cC cI cJ cZ z0 R pl (va_up N 38 (N 38 + n)) G (va_up B 37 X) ((va_up B 37 X) 4 j) (show N 38 + n + 100 ≤ 2000000000 by omega) H.size) (cwV 1 hts kX12_saySymbol_X12_say_226 rfl rfl rfl (by decide +kernel) ⟨Nat.le_of_ble_eq_true rfl, Nat.le_of_ble_eq_true rfl⟩) hK hP hD hS hA rfl rfl hl.1 (lv_room (Nat.le_of_ble_eq_true rfl)) dX12_saySymbol_26 hcs (fun  N_1 G_2 B_3 pl_4 hw H locs hP hD hS => ?_)
      dsimp only at hw
      obtain ⟨e2, e4, e1, X2, e3⟩ := hw
      rw [e1, e2, e3, e4, bx_uu, bx_uu] at hP hD
      have hP : va_P (dC, dI) vwCl (MW cB cC cI cJ cZ z0 R pl (va_up N 38 (N 38 + (n + 1))) G (va_up B 37 X2)) H := hP
      have hD : va_D A (MW cB cC cI cJ cZ z0 R pl (va_up N 38 (N 38 + (n + 1))) G (va_up B 37 X2)) := hD
      refine lv_iinc (v := nI (j + 1)) (lv' := [(2, .int (nI (j + 1))), (0, .ref z0), (1, .int (nI y))]) hx hb dX12_saySymbol_29 hl (k := 2) rfl (nI_add j 1) (by decide) rfl (fun ls hl => ?_)
      refine lv_goto (tgt := 7) hx hb dX12_saySymbol_32 (by decide) ?_
      exact ih (j + 1) (n + 1) X2 (by omega) (by omega) (by omega) _ _ hP hD hS ls (lv_sub hl [1, 2, 0] rfl)

set_option maxHeartbeats 4000000 in
set_option maxRecDepth 100000 in
/-- saySymbol -/
theorem m_saySymbol (l : Launch) (dC : Nat → ClassId) (dI : Nat → Nat → Nat) (cB cC cI cJ cZ : ClassId) (z0 : Nat) (R : Nat → Nat) (pl : Int32) (N : Nat → Nat) (G : Nat → Nat → Nat) (B : Nat → Nat → Int32) (y : Nat) (hG : ∀ k i, G k i < 1048576) (hy : y < 5000) (hy1 : G 5 (y + 1) ≤ 4200) (ht38 : N 38 + 5000 ≤ 2000000000) (s0 : Nat) : Met l yX12_saySymbol vX12_saySymbol { frames := 1, cells := 0, slots := 0, locals := 21 } (va_Pc [.ref z0, .int (nI y)] (mPre dC dI cB cC cI cJ cZ z0 R pl N G B s0)) (va_Qv (fun u : ((Nat → Nat) × (Nat → Nat → Nat) × (Nat → Nat → Int32) × Int32) => match u with | (N1, G1, B1, pl1) => G1 = G ∧ pl1 = pl ∧ ∃ n X, n ≤ 4200 ∧ N1 = va_up N 38 (N 38 + n) ∧ B1 = va_up B 37 X) (mPost dC dI cB cC cI cJ cZ z0 R (va_A (MW cB cC cI cJ cZ z0 R pl N G B) s0)) (va_A (MW cB cC cI cJ cZ z0 R pl N G B) s0)) 0 0 (va_A (MW cB cC cI cJ cZ z0 R pl N G B) s0) := by
  refine Met.ofW (cc := cX12_saySymbol) (maxL := 3) (ret := none) (by decide) rfl ?_
  intro p e s m args below meth c s₁ B9 hml hv
  obtain ⟨rfl, hsz, hP, hK, hD0⟩ := hv
  have hx := B9.exec
  have hb := B9.bytes
  have hr := B9.returns
  have hts := atoms_spec (ws := vX12_saySymbol) B9.pre
  have hown : s.vm.findClass RX12 = some m.cls := findClass_of_methodNamed B9.named
  have hlocks := B9.notSynchronized
  subst hsz
  have hD := hD0.self (sz := s.heap.size)
  generalize hAe : va_A (MW cB cC cI cJ cZ z0 R pl N G B) s.heap.size = A at hD ⊢
  have hA : ∀ q : Nat, s.heap.size ≤ q → A q := fun q h => by rw [← hAe]; exact Or.inr h
  have hS : va_S A s.heap s.heap [] := va_S.rf
  have hcs : 0 + 0 ≤ (0 : Nat) ∧ 0 + 0 ≤ (0 : Nat) := ⟨Nat.le_refl 0, Nat.le_refl 0⟩
  have hl := lv_entry ([.ref z0, .int (nI y)]) (n := 3) (Nat.le_of_ble_eq_true rfl)
  rw [lg_entry_eq]
  generalize (lg_sl ([.ref z0, .int (nI y)]) ++ List.replicate (3 - (lg_sl ([.ref z0, .int (nI y)])).length) Slot.unset).toArray = ls at hl ⊢
  have hl : lv_has ls 3 [(0, .ref z0), (1, .int (nI y))] := hl
  have g1 := hG 5 y
  refine lv_aload_n hx hb dX12_saySymbol_0 rfl (lv_at hl 0 rfl) ?_
  refine mg_5 hx hb hts inX12_saySymbol hown hK hP (hts _ lkX12_saySymbol_f21) dX12_saySymbol_1 ?_
  refine lv_iload_n hx hb dX12_saySymbol_4 rfl (lv_at hl 1 rfl) ?_
  refine ml_5 hx hb hK hP (by omega) dX12_saySymbol_5 ?_
  refine lv_istore_n (lv' := [(2, .int (nI (G 5 y))), (0, .ref z0), (1, .int (nI y))]) hx hb dX12_saySymbol_6 rfl hl (by decide) rfl (fun ls hl => ?_)
  have hP : va_P (dC, dI) vwCl (MW cB cC cI cJ cZ z0 R pl (va_up N 38 (N 38 + 0)) G (va_up B 37 (B 37))) s.heap := by rw [Nat.add_zero, va_upid, va_upB]; exact hP
  have hD : va_D A (MW cB cC cI cJ cZ z0 R pl (va_up N 38 (N 38 + 0)) G (va_up B 37 (B 37))) := by rw [Nat.add_zero, va_upid, va_upB]; exact hD
  refine lp_sym hx hb hml hown hts hK hA hG y hy hy1 ht38 (fun n X H locs hn hP hD hS ls hl => ?_) _ (G 5 y) 0 (B 37) (Nat.lt_succ_self _) (by omega) ⟨Nat.zero_le _, by decide⟩ _ _ hP hD hS ls (lv_sub hl [1, 2, 0] rfl)
  exact W.vret hx hb hr (fun t ht hW => ⟨⟨(va_up N 38 (N 38 + n), G, va_up B 37 X, pl), rfl, ⟨rfl, rfl, n, X, hn, rfl, rfl⟩, by rw [ht]; exact hP, va_K.moved hW.alike hK, hD⟩, hS.F ht⟩) hS.2.2 dX12_saySymbol_35

/-- a task is put down -/
abbrev TG (G : Nat → Nat → Nat) (j a b c d : Nat) : Nat → Nat → Nat := va_up (va_up (va_up (va_up G 28 (va_up (G 28) j a)) 29 (va_up (G 29) j b)) 30 (va_up (G 30) j c)) 31 (va_up (G 31) j d)
set_option maxHeartbeats 4000000 in
set_option maxRecDepth 100000 in
/-- task -/
theorem m_task (l : Launch) (dC : Nat → ClassId) (dI : Nat → Nat → Nat) (cB cC cI cJ cZ : ClassId) (z0 : Nat) (R : Nat → Nat) (pl : Int32) (N : Nat → Nat) (G : Nat → Nat → Nat) (B : Nat → Nat → Int32) (a b en dp : Nat) (ha : a < 128) (h32 : N 32 < 200000) (s0 : Nat) : Met l yX12_task vX12_task { frames := 0, cells := 0, slots := 0, locals := 0 } (va_Pc [.ref z0, .int (nI a), .int (nI b), .int (nI en), .int (nI dp)] (mPre dC dI cB cC cI cJ cZ z0 R pl N G B s0)) (va_Qv (fun u : ((Nat → Nat) × (Nat → Nat → Nat) × (Nat → Nat → Int32) × Int32) => match u with | (N1, G1, B1, pl1) => B1 = B ∧ pl1 = pl ∧ N1 = va_up N 32 (N 32 + 1) ∧ G1 = TG G (N 32) a b en dp) (mPost dC dI cB cC cI cJ cZ z0 R (va_A (MW cB cC cI cJ cZ z0 R pl N G B) s0)) (va_A (MW cB cC cI cJ cZ z0 R pl N G B) s0)) 0 0 (va_A (MW cB cC cI cJ cZ z0 R pl N G B) s0) := by
  refine Met.ofW (cc := cX12_task) (maxL := 5) (ret := none) (by decide) rfl ?_
  intro p e s m args below meth c s₁ B9 hml hv
  obtain ⟨rfl, hsz, hP, hK, hD0⟩ := hv
  have hx := B9.exec
  have hb := B9.bytes
  have hr := B9.returns
  have hts := atoms_spec (ws := vX12_task) B9.pre
  have hown : s.vm.findClass RX12 = some m.cls := findClass_of_methodNamed B9.named
  have hlocks := B9.notSynchronized
  subst hsz
  have hD := hD0.self (sz := s.heap.size)
  generalize hAe : va_A (MW cB cC cI cJ cZ z0 R pl N G B) s.heap.size = A at hD ⊢
  have hA : ∀ q : Nat, s.heap.size ≤ q → A q := fun q h => by rw [← hAe]; exact Or.inr h
  have hS : va_S A s.heap s.heap [] := va_S.rf
  have hcs : 0 + 0 ≤ (0 : Nat) ∧ 0 + 0 ≤ (0 : Nat) := ⟨Nat.le_refl 0, Nat.le_refl 0⟩
  have hl := lv_entry ([.ref z0, .int (nI a), .int (nI b), .int (nI en), .int (nI dp)]) (n := 5) (Nat.le_of_ble_eq_true rfl)
  rw [lg_entry_eq]
  generalize (lg_sl ([.ref z0, .int (nI a), .int (nI b), .int (nI en), .int (nI dp)]) ++ List.replicate (5 - (lg_sl ([.ref z0, .int (nI a), .int (nI b), .int (nI en), .int (nI dp)])).length) Slot.unset).toArray = ls at hl ⊢
  have hl : lv_has ls 5 [(0, .ref z0), (1, .int (nI a)), (2, .int (nI b)), (3, .int (nI en)), (4, .int (nI dp))] := hl
  refine lv_aload_n hx hb dX12_task_0 rfl (lv_at hl 0 rfl) ?_
  refine mg_28 hx hb hts inX12_task hown hK hP (hts _ lkX12_task_f67) dX12_task_1 ?_
  refine lv_aload_n hx hb dX12_task_4 rfl (lv_at hl 0 rfl) ?_
  refine mg_32 hx hb hts inX12_task hown hK hP (hts _ lkX12_task_f229) dX12_task_5 ?_
  refine lv_iload_n hx hb dX12_task_8 rfl (lv_at hl 1 rfl) ?_
  refine lv_i2b (v := nI a) hx hb dX12_task_9 (narb _ (by omega)) ?_
  refine ms_28 hx hb hK hP hD hS (by omega) (by omega) dX12_task_10 (fun H locs hP hD hS => ?_)
  refine lv_aload_n hx hb dX12_task_11 rfl (lv_at hl 0 rfl) ?_
  refine mg_29 hx hb hts inX12_task hown hK hP (hts _ lkX12_task_f70) dX12_task_12 ?_
  refine lv_aload_n hx hb dX12_task_15 rfl (lv_at hl 0 rfl) ?_
  refine mg_32 hx hb hts inX12_task hown hK hP (hts _ lkX12_task_f229) dX12_task_16 ?_
  refine lv_iload_n hx hb dX12_task_19 rfl (lv_at hl 2 rfl) ?_
  refine ms_29 hx hb hK hP hD hS (by omega) dX12_task_20 (fun H locs hP hD hS => ?_)
  refine lv_aload_n hx hb dX12_task_21 rfl (lv_at hl 0 rfl) ?_
  refine mg_30 hx hb hts inX12_task hown hK hP (hts _ lkX12_task_f73) dX12_task_22 ?_
  refine lv_aload_n hx hb dX12_task_25 rfl (lv_at hl 0 rfl) ?_
  refine mg_32 hx hb hts inX12_task hown hK hP (hts _ lkX12_task_f229) dX12_task_26 ?_
  refine lv_iload_n hx hb dX12_task_29 rfl (lv_at hl 3 rfl) ?_
  refine ms_30 hx hb hK hP hD hS (by omega) dX12_task_30 (fun H locs hP hD hS => ?_)
  refine lv_aload_n hx hb dX12_task_31 rfl (lv_at hl 0 rfl) ?_
  refine mg_31 hx hb hts inX12_task hown hK hP (hts _ lkX12_task_f76) dX12_task_32 ?_
  refine lv_aload_n hx hb dX12_task_35 rfl (lv_at hl 0 rfl) ?_
  refine mg_32 hx hb hts inX12_task hown hK hP (hts _ lkX12_task_f229) dX12_task_36 ?_
  refine lv_iload hx hb dX12_task_39 (lv_at hl 4 rfl) ?_
  refine ms_31 hx hb hK hP hD hS (by omega) dX12_task_41 (fun H locs hP hD hS => ?_)
  refine lv_aload_n hx hb dX12_task_42 rfl (lv_at hl 0 rfl) ?_
  refine lv_dup hx hb dX12_task_43 rfl ?_
  refine mg_32 hx hb hts inX12_task hown hK hP (hts _ lkX12_task_f229) dX12_task_44 ?_
  refine lv_iconst (v := nI 1) hx hb dX12_task_47 (by decide) ?_
  refine lv_iadd hx hb dX12_task_48 ?_
  refine tp_i (nI_add (N 32) 1) ?_
  refine mp_32 hx hb hts inX12_task hown hK hP hD hS (hts _ lkX12_task_f229) dX12_task_49 (fun H locs hP hD hS => ?_)
  exact W.vret hx hb hr (fun t ht hW => ⟨⟨(va_up N 32 ((N 32) + 1), va_up (va_up (va_up (va_up G 28 (va_up (G 28) (N 32) a)) 29 (va_up (G 29) (N 32) b)) 30 (va_up (G 30) (N 32) en)) 31 (va_up (G 31) (N 32) dp), B, pl), rfl, ⟨rfl, rfl, rfl, rfl⟩, by rw [ht]; exact hP, va_K.moved hW.alike hK, hD⟩, hS.F ht⟩) hS.2.2 dX12_task_52

set_option maxHeartbeats 4000000 in
set_option maxRecDepth 100000 in
/-- fail -/
theorem m_fail (l : Launch) (dC : Nat → ClassId) (dI : Nat → Nat → Nat) (cB cC cI cJ cZ : ClassId) (z0 : Nat) (R : Nat → Nat) (pl : Int32) (N : Nat → Nat) (G : Nat → Nat → Nat) (B : Nat → Nat → Int32) (cd : Nat) (h33 : N 33 < 100) (s0 : Nat) : Met l yX12_fail vX12_fail { frames := 0, cells := 0, slots := 0, locals := 0 } (va_Pc [.ref z0, .int (nI cd)] (mPre dC dI cB cC cI cJ cZ z0 R pl N G B s0)) (va_Qv (fun u : ((Nat → Nat) × (Nat → Nat → Nat) × (Nat → Nat → Int32) × Int32) => match u with | (N1, G1, B1, pl1) => B1 = B ∧ pl1 = pl ∧ G1 = G ∧ N1 = va_up N 33 (if N 33 = 0 then cd else N 33)) (mPost dC dI cB cC cI cJ cZ z0 R (va_A (MW cB cC cI cJ cZ z0 R pl N G B) s0)) (va_A (MW cB cC cI cJ cZ z0 R pl N G B) s0)) 0 0 (va_A (MW cB cC cI cJ cZ z0 R pl N G B) s0) := by
  refine Met.ofW (cc := cX12_fail) (maxL := 2) (ret := none) (by decide) rfl ?_
  intro p e s m args below meth c s₁ B9 hml hv
  obtain ⟨rfl, hsz, hP, hK, hD0⟩ := hv
  have hx := B9.exec
  have hb := B9.bytes
  have hr := B9.returns
  have hts := atoms_spec (ws := vX12_fail) B9.pre
  have hown : s.vm.findClass RX12 = some m.cls := findClass_of_methodNamed B9.named
  have hlocks := B9.notSynchronized
  subst hsz
  have hD := hD0.self (sz := s.heap.size)
  generalize hAe : va_A (MW cB cC cI cJ cZ z0 R pl N G B) s.heap.size = A at hD ⊢
  have hA : ∀ q : Nat, s.heap.size ≤ q → A q := fun q h => by rw [← hAe]; exact Or.inr h
  have hS : va_S A s.heap s.heap [] := va_S.rf
  have hcs : 0 + 0 ≤ (0 : Nat) ∧ 0 + 0 ≤ (0 : Nat) := ⟨Nat.le_refl 0, Nat.le_refl 0⟩
  have hl := lv_entry ([.ref z0, .int (nI cd)]) (n := 2) (Nat.le_of_ble_eq_true rfl)
  rw [lg_entry_eq]
  generalize (lg_sl ([.ref z0, .int (nI cd)]) ++ List.replicate (2 - (lg_sl ([.ref z0, .int (nI cd)])).length) Slot.unset).toArray = ls at hl ⊢
  have hl : lv_has ls 2 [(0, .ref z0), (1, .int (nI cd))] := hl
  refine lv_aload_n hx hb dX12_fail_0 rfl (lv_at hl 0 rfl) ?_
  refine lv_aload_n hx hb dX12_fail_1 rfl (lv_at hl 0 rfl) ?_
  refine mg_33 hx hb hts inX12_fail hown hK hP (hts _ lkX12_fail_f236) dX12_fail_2 ?_
  refine bz_ne (tgt := 12) hx hb (by first | omega | exact Nat.lt_of_lt_of_le (hG _ _) (by decide)) dX12_fail_5 (by decide) (fun c1 => ?_) (fun c1 => ?_)
  · refine lv_aload_n hx hb dX12_fail_12 rfl (lv_at hl 0 rfl) ?_
    refine mg_33 hx hb hts inX12_fail hown hK hP (hts _ lkX12_fail_f236) dX12_fail_13 ?_
    refine mp_33 hx hb hts inX12_fail hown hK hP hD hS (hts _ lkX12_fail_f236) dX12_fail_16 (fun H locs hP hD hS => ?_)
    exact W.vret hx hb hr (fun t ht hW => ⟨⟨(va_up N 33 (N 33), G, B, pl), rfl, ⟨rfl, rfl, rfl, by rw [if_neg (by omega)]⟩, by rw [ht]; exact hP, va_K.moved hW.alike hK, hD⟩, hS.F ht⟩) hS.2.2 dX12_fail_19
  · refine lv_iload_n hx hb dX12_fail_8 rfl (lv_at hl 1 rfl) ?_
    refine lv_goto (tgt := 16) hx hb dX12_fail_9 (by decide) ?_
    refine mp_33 hx hb hts inX12_fail hown hK hP hD hS (hts _ lkX12_fail_f236) dX12_fail_16 (fun H locs hP hD hS => ?_)
    exact W.vret hx hb hr (fun t ht hW => ⟨⟨(va_up N 33 cd, G, B, pl), rfl, ⟨rfl, rfl, rfl, by rw [if_pos c1]⟩, by rw [ht]; exact hP, va_K.moved hW.alike hK, hD⟩, hS.F ht⟩) hS.2.2 dX12_fail_19

set_option maxHeartbeats 4000000 in
set_option maxRecDepth 100000 in
/-- need -/
theorem m_need (l : Launch) (dC : Nat → ClassId) (dI : Nat → Nat → Nat) (cB cC cI cJ cZ : ClassId) (z0 : Nat) (R : Nat → Nat) (pl : Int32) (N : Nat → Nat) (G : Nat → Nat → Nat) (B : Nat → Nat → Int32) (fi cd : Nat) (hfi : fi ≤ 1) (hcd : 0 < cd ∧ cd < 100) (h33 : N 33 = 0) (s0 : Nat) : Met l yX12_need vX12_need { frames := 1, cells := 0, slots := 0, locals := 21 } (va_Pc [.ref z0, .int (nI fi), .int (nI cd)] (mPre dC dI cB cC cI cJ cZ z0 R pl N G B s0)) (va_Qi (fun (r : Int32) (u : ((Nat → Nat) × (Nat → Nat → Nat) × (Nat → Nat → Int32) × Int32)) => match u with | (N1, G1, B1, pl1) => B1 = B ∧ pl1 = pl ∧ G1 = G ∧ r = nI fi ∧ (fi = 1 → N1 = N) ∧ (fi = 0 → N1 = va_up N 33 cd)) (mPost dC dI cB cC cI cJ cZ z0 R (va_A (MW cB cC cI cJ cZ z0 R pl N G B) s0)) (va_A (MW cB cC cI cJ cZ z0 R pl N G B) s0)) 0 0 (va_A (MW cB cC cI cJ cZ z0 R pl N G B) s0) := by
  refine Met.ofW (cc := cX12_need) (maxL := 3) (ret := (some .boolean)) (by decide) rfl ?_
  intro p e s m args below meth c s₁ B9 hml hv
  obtain ⟨rfl, hsz, hP, hK, hD0⟩ := hv
  have hx := B9.exec
  have hb := B9.bytes
  have hr := B9.returns
  have hts := atoms_spec (ws := vX12_need) B9.pre
  have hown : s.vm.findClass RX12 = some m.cls := findClass_of_methodNamed B9.named
  have hlocks := B9.notSynchronized
  subst hsz
  have hD := hD0.self (sz := s.heap.size)
  generalize hAe : va_A (MW cB cC cI cJ cZ z0 R pl N G B) s.heap.size = A at hD ⊢
  have hA : ∀ q : Nat, s.heap.size ≤ q → A q := fun q h => by rw [← hAe]; exact Or.inr h
  have hS : va_S A s.heap s.heap [] := va_S.rf
  have hcs : 0 + 0 ≤ (0 : Nat) ∧ 0 + 0 ≤ (0 : Nat) := ⟨Nat.le_refl 0, Nat.le_refl 0⟩
  have hl := lv_entry ([.ref z0, .int (nI fi), .int (nI cd)]) (n := 3) (Nat.le_of_ble_eq_true rfl)
  rw [lg_entry_eq]
  generalize (lg_sl ([.ref z0, .int (nI fi), .int (nI cd)]) ++ List.replicate (3 - (lg_sl ([.ref z0, .int (nI fi), .int (nI cd)])).length) Slot.unset).toArray = ls at hl ⊢
  have hl : lv_has ls 3 [(0, .ref z0), (1, .int (nI fi)), (2, .int (nI cd))] := hl
  refine lv_iload_n hx hb dX12_need_0 rfl (lv_at hl 1 rfl) ?_
  refine bz_ne (tgt := 9) hx hb (by first | omega | exact Nat.lt_of_lt_of_le (hG _ _) (by decide)) dX12_need_1 (by decide) (fun c1 => ?_) (fun c1 => ?_)
  · obtain rfl : fi = 1 := by omega
    refine lv_aload_n hx hb dX12_need_9 rfl (lv_at hl 0 rfl) ?_
    refine mg_33 hx hb hts inX12_need hown hK hP (hts _ lkX12_need_f236) dX12_need_10 ?_
    refine bz_ne (tgt := 20) hx hb (by first | omega | exact Nat.lt_of_lt_of_le (hG _ _) (by decide)) dX12_need_13 (by decide) (fun q9 => absurd q9 (by omega)) (fun c2 => ?_)
    refine lv_iconst (v := nI 1) hx hb dX12_need_16 (by decide) ?_
    refine lv_goto (tgt := 21) hx hb dX12_need_17 (by decide) ?_
    exact W.zret (v := (nI 1)) hx hb hr (by first | rfl | decide) (fun t ht hW => ⟨⟨(nI 1), (N, G, B, pl), rfl, ⟨rfl, rfl, rfl, rfl, fun _ => rfl, fun z => absurd z (by decide)⟩, by rw [ht]; exact hP, va_K.moved hW.alike hK, hD⟩, hS.F ht⟩) hS.2.2 dX12_need_21
  · subst c1
    refine lv_aload_n hx hb dX12_need_4 rfl (lv_at hl 0 rfl) ?_
    refine lv_iload_n hx hb dX12_need_5 rfl (lv_at hl 2 rfl) ?_
    refine mcl_v (As := [.int (nI cd)]) (rest := []) ⟨hx, hb, hml, hown, hts⟩ (m_fail l dC dI cB cC cI cJ cZ z0 R pl N G B cd (by omega) s.heap.size) (cwV 1 hts kX12_need_X12_fail_239 rfl rfl rfl (by decide +kernel) ⟨Nat.le_of_ble_eq_true rfl, Nat.le_of_ble_eq_true rfl⟩) hK hP hD hS hA rfl rfl hl.1 (lv_room (Nat.le_of_ble_eq_true rfl)) dX12_need_6 hcs (fun  N_1 G_2 B_3 pl_4 hw H locs hP hD hS => ?_)
    dsimp only at hw
    obtain ⟨e3, e4, e2, e1⟩ := hw
    rw [if_pos h33] at e1
    rw [e1, e2, e3, e4] at hP hD
    refine lv_aload_n hx hb dX12_need_9 rfl (lv_at hl 0 rfl) ?_
    refine mg_33 hx hb hts inX12_need hown hK hP (hts _ lkX12_need_f236) dX12_need_10 ?_
    refine tp_i (y := nI cd) rfl ?_
    refine bz_ne (tgt := 20) hx hb (by first | omega | exact Nat.lt_of_lt_of_le (hG _ _) (by decide)) dX12_need_13 (by decide) (fun c2 => ?_) (fun q9 => absurd q9 (by omega))
    refine lv_iconst (v := nI 0) hx hb dX12_need_20 (by decide) ?_
    exact W.zret (v := (nI 0)) hx hb hr (by first | rfl | decide) (fun t ht hW => ⟨⟨(nI 0), (va_up N 33 cd, G, B, pl), rfl, ⟨rfl, rfl, rfl, rfl, fun z => absurd z (by decide), fun _ => rfl⟩, by rw [ht]; exact hP, va_K.moved hW.alike hK, hD⟩, hS.F ht⟩) hS.2.2 dX12_need_21

set_option maxHeartbeats 4000000 in
set_option maxRecDepth 100000 in
theorem lp_envOf {p : Program} {l : Launch} {e : Env} {s : State} {m : MethodId} {args : Array Value} {below : List Frame} {meth : Method} {c : Code} {Q : State → Prop} {A : Nat → Prop} {dC : Nat → ClassId} {dI : Nat → Nat → Nat} {cB cC cI cJ cZ : ClassId} {z0 : Nat} {R : Nat → Nat} (hx : p.tables.exec = Jvm.exec) (hb : c.code = cX12_environmentOf) (hml : c.maxLocals = 3) (hown : s.vm.findClass RX12 = some m.cls) (hts : ∀ w ∈ vX12_environmentOf, w.before args s = true) (hK : va_K (dC, dI) vwCl (TY cB cC cI cJ cZ) s) (hA : ∀ q : Nat, s.heap.size ≤ q → A q) {pl : Int32} {N : Nat → Nat} {G : Nat → Nat → Nat} {B : Nat → Nat → Int32} (hG : ∀ k i, G k i < 1048576) (b9 : Nat) (hbb : b9 < 1048576) (hb9 : b9 < N 27) (he2 : G 22 (N 23) = N 27) (he4 : N 23 ≤ 255) (ke : ∀ (e1 : Nat) (H : Heap) (locs : List Loc), e1 < N 23 → va_P (dC, dI) vwCl (MW cB cC cI cJ cZ z0 R pl N G B) H → va_D A (MW cB cC cI cJ cZ z0 R pl N G B) → va_S A s.heap H locs → ∀ (ls : Array Slot), lv_has ls 3 [(2, .int (nI e1))] → W p l e (headSpec vX12_environmentOf { frames := 0, cells := 0, slots := 0, locals := 0 }).room s m args below meth c H locs 0 0 Q (F0 m 20 ls [])) : ∀ (k : Nat) (e1 : Nat), N 23 - e1 < k → e1 < N 23 → ∀ (H : Heap) (locs : List Loc), va_P (dC, dI) vwCl (MW cB cC cI cJ cZ z0 R pl N G B) H → va_D A (MW cB cC cI cJ cZ z0 R pl N G B) → va_S A s.heap H locs → ∀ (ls : Array Slot), lv_has ls 3 [(0, .ref z0), (1, .int (nI b9)), (2, .int (nI e1))] → W p l e (headSpec vX12_environmentOf { frames := 0, cells := 0, slots := 0, locals := 0 }).room s m args below meth c H locs 0 0 Q (F0 m 2 ls []) := by
  have hcs : 0 + 0 ≤ (0 : Nat) ∧ 0 + 0 ≤ (0 : Nat) := ⟨Nat.le_refl 0, Nat.le_refl 0⟩
  intro k
  induction k with
  | zero =>
    intro e1 hk he
    omega
  | succ k ih =>
    intro e1 hk he H locs hP hD hS ls hl
    have g1 := hG 22 (e1 + 1)
    have g2 : e1 + 1 = N 23 → G 22 (e1 + 1) = N 27 := fun z => by rw [z]; exact he2
    refine lv_aload_n hx hb dX12_environmentOf_2 rfl (lv_at hl 0 rfl) ?_
    refine mg_22 hx hb hts inX12_environmentOf hown hK hP (hts _ lkX12_environmentOf_f54) dX12_environmentOf_3 ?_
    refine lv_iload_n hx hb dX12_environmentOf_6 rfl (lv_at hl 2 rfl) ?_
    refine lv_iconst (v := nI 1) hx hb dX12_environmentOf_7 (by decide) ?_
    refine lv_iadd hx hb dX12_environmentOf_8 ?_
    refine tp_i (nI_add e1 1) ?_
    refine ml_22 hx hb hK hP (by omega) dX12_environmentOf_9 ?_
    refine lv_iload_n hx hb dX12_environmentOf_10 rfl (lv_at hl 1 rfl) ?_
    refine bn_gt (tgt := 20) hx hb (by first | omega | exact Nat.lt_of_lt_of_le (hG _ _) (by decide)) (by first | omega | exact Nat.lt_of_lt_of_le (hG _ _) (by decide)) dX12_environmentOf_11 (by decide) (fun c1 => ?_) (fun c1 => ?_)
    · exact ke e1 H locs he hP hD hS ls (lv_sub hl [2] rfl)
    · have g3 : e1 + 1 ≠ N 23 := fun z => by have := g2 z; omega
      refine lv_iinc (v := nI (e1 + 1)) (lv' := [(2, .int (nI (e1 + 1))), (0, .ref z0), (1, .int (nI b9))]) hx hb dX12_environmentOf_14 hl (k := 2) rfl (nI_add e1 1) (by decide) rfl (fun ls hl => ?_)
      refine lv_goto (tgt := 2) hx hb dX12_environmentOf_17 (by decide) ?_
      exact ih (e1 + 1) (by omega) (by omega) _ _ hP hD hS ls (lv_sub hl [1, 2, 0] rfl)

set_option maxHeartbeats 4000000 in
set_option maxRecDepth 100000 in
/-- environmentOf -/
theorem m_environmentOf (l : Launch) (dC : Nat → ClassId) (dI : Nat → Nat → Nat) (cB cC cI cJ cZ : ClassId) (z0 : Nat) (R : Nat → Nat) (pl : Int32) (N : Nat → Nat) (G : Nat → Nat → Nat) (B : Nat → Nat → Int32) (b9 : Nat) (hG : ∀ k i, G k i < 1048576) (hb9 : b9 < N 27) (he1 : G 22 1 = 0) (he2 : G 22 (N 23) = N 27) (he3 : 1 ≤ N 23) (he4 : N 23 ≤ 255) (s0 : Nat) : Met l yX12_environmentOf vX12_environmentOf { frames := 0, cells := 0, slots := 0, locals := 0 } (va_Pc [.ref z0, .int (nI b9)] (mPre dC dI cB cC cI cJ cZ z0 R pl N G B s0)) (va_Qi (fun (r : Int32) (u : ((Nat → Nat) × (Nat → Nat → Nat) × (Nat → Nat → Int32) × Int32)) => match u with | (N1, G1, B1, pl1) => N1 = N ∧ G1 = G ∧ B1 = B ∧ pl1 = pl ∧ ∃ e1, r = nI e1 ∧ e1 < N 23) (mPost dC dI cB cC cI cJ cZ z0 R (va_A (MW cB cC cI cJ cZ z0 R pl N G B) s0)) (va_A (MW cB cC cI cJ cZ z0 R pl N G B) s0)) 0 0 (va_A (MW cB cC cI cJ cZ z0 R pl N G B) s0) := by
  refine Met.ofW (cc := cX12_environmentOf) (maxL := 3) (ret := (some .int)) (by decide) rfl ?_
  intro p e s m args below meth c s₁ B9 hml hv
  obtain ⟨rfl, hsz, hP, hK, hD0⟩ := hv
  have hx := B9.exec
  have hb := B9.bytes
  have hr := B9.returns
  have hts := atoms_spec (ws := vX12_environmentOf) B9.pre
  have hown : s.vm.findClass RX12 = some m.cls := findClass_of_methodNamed B9.named
  have hlocks := B9.notSynchronized
  subst hsz
  have hD := hD0.self (sz := s.heap.size)
  generalize hAe : va_A (MW cB cC cI cJ cZ z0 R pl N G B) s.heap.size = A at hD ⊢
  have hA : ∀ q : Nat, s.heap.size ≤ q → A q := fun q h => by rw [← hAe]; exact Or.inr h
  have hS : va_S A s.heap s.heap [] := va_S.rf
  have hcs : 0 + 0 ≤ (0 : Nat) ∧ 0 + 0 ≤ (0 : Nat) := ⟨Nat.le_refl 0, Nat.le_refl 0⟩
  have hl := lv_entry ([.ref z0, .int (nI b9)]) (n := 3) (Nat.le_of_ble_eq_true rfl)
  rw [lg_entry_eq]
  generalize (lg_sl ([.ref z0, .int (nI b9)]) ++ List.replicate (3 - (lg_sl ([.ref z0, .int (nI b9)])).length) Slot.unset).toArray = ls at hl ⊢
  have hl : lv_has ls 3 [(0, .ref z0), (1, .int (nI b9))] := hl
  have h23 : 1 < N 23 := by
    by_cases z : N 23 = 1
    · rw [z, he1] at he2; omega
    · omega
  have g1 := hG 22 (N 23)
  refine lv_iconst (v := nI 1) hx hb dX12_environmentOf_0 (by decide) ?_
  refine lv_istore_n (lv' := [(2, .int (nI 1)), (0, .ref z0), (1, .int (nI b9))]) hx hb dX12_environmentOf_1 rfl hl (by decide) rfl (fun ls hl => ?_)
  refine lp_envOf hx hb hml hown hts hK hA hG b9 (by omega) hb9 he2 he4 (fun e1 H locs he hP hD hS ls hl => ?_) _ 1 (Nat.lt_succ_self _) h23 _ _ hP hD hS ls (lv_sub hl [1, 2, 0] rfl)
  refine lv_iload_n hx hb dX12_environmentOf_20 rfl (lv_at hl 0 rfl) ?_
  exact W.iret (v := (nI e1)) hx hb hr (fun t ht hW => ⟨⟨(nI e1), (N, G, B, pl), rfl, ⟨rfl, rfl, rfl, rfl, ⟨e1, rfl, he⟩⟩, by rw [ht]; exact hP, va_K.moved hW.alike hK, hD⟩, hS.F ht⟩) hS.2.2 dX12_environmentOf_21

set_option maxHeartbeats 4000000 in
set_option maxRecDepth 100000 in
/-- bind -/
theorem m_bind (l : Launch) (dC : Nat → ClassId) (dI : Nat → Nat → Nat) (cB cC cI cJ cZ : ClassId) (z0 : Nat) (R : Nat → Nat) (pl : Int32) (N : Nat → Nat) (G : Nat → Nat → Nat) (B : Nat → Nat → Int32) (x vr ru : Nat) (h27 : N 27 < 1600) (h23 : N 23 < 261) (s0 : Nat) : Met l yX12_bind vX12_bind { frames := 0, cells := 0, slots := 0, locals := 0 } (va_Pc [.ref z0, .int (nI x), .int (nI vr - 1), .int (nI ru - 1)] (mPre dC dI cB cC cI cJ cZ z0 R pl N G B s0)) (va_Qv (fun u : ((Nat → Nat) × (Nat → Nat → Nat) × (Nat → Nat → Int32) × Int32) => match u with | (N1, G1, B1, pl1) => B1 = B ∧ pl1 = pl ∧ N1 = va_up N 27 (N 27 + 1) ∧ G1 = va_up (va_up (va_up (va_up G 24 (va_up (G 24) (N 27) x)) 25 (va_up (G 25) (N 27) vr)) 26 (va_up (G 26) (N 27) ru)) 22 (va_up (G 22) (N 23) (N 27 + 1))) (mPost dC dI cB cC cI cJ cZ z0 R (va_A (MW cB cC cI cJ cZ z0 R pl N G B) s0)) (va_A (MW cB cC cI cJ cZ z0 R pl N G B) s0)) 0 0 (va_A (MW cB cC cI cJ cZ z0 R pl N G B) s0) := by
  refine Met.ofW (cc := cX12_bind) (maxL := 4) (ret := none) (by decide) rfl ?_
  intro p e s m args below meth c s₁ B9 hml hv
  obtain ⟨rfl, hsz, hP, hK, hD0⟩ := hv
  have hx := B9.exec
  have hb := B9.bytes
  have hr := B9.returns
  have hts := atoms_spec (ws := vX12_bind) B9.pre
  have hown : s.vm.findClass RX12 = some m.cls := findClass_of_methodNamed B9.named
  have hlocks := B9.notSynchronized
  subst hsz
  have hD := hD0.self (sz := s.heap.size)
  generalize hAe : va_A (MW cB cC cI cJ cZ z0 R pl N G B) s.heap.size = A at hD ⊢
  have hA : ∀ q : Nat, s.heap.size ≤ q → A q := fun q h => by rw [← hAe]; exact Or.inr h
  have hS : va_S A s.heap s.heap [] := va_S.rf
  have hcs : 0 + 0 ≤ (0 : Nat) ∧ 0 + 0 ≤ (0 : Nat) := ⟨Nat.le_refl 0, Nat.le_refl 0⟩
  have hl := lv_entry ([.ref z0, .int (nI x), .int (nI vr - 1), .int (nI ru - 1)]) (n := 4) (Nat.le_of_ble_eq_true rfl)
  rw [lg_entry_eq]
  generalize (lg_sl ([.ref z0, .int (nI x), .int (nI vr - 1), .int (nI ru - 1)]) ++ List.replicate (4 - (lg_sl ([.ref z0, .int (nI x), .int (nI vr - 1), .int (nI ru - 1)])).length) Slot.unset).toArray = ls at hl ⊢
  have hl : lv_has ls 4 [(0, .ref z0), (1, .int (nI x)), (2, .int (nI vr - 1)), (3, .int (nI ru - 1))] := hl
  refine lv_aload_n hx hb dX12_bind_0 rfl (lv_at hl 0 rfl) ?_
  refine mg_24 hx hb hts inX12_bind hown hK hP (hts _ lkX12_bind_f57) dX12_bind_1 ?_
  refine lv_aload_n hx hb dX12_bind_4 rfl (lv_at hl 0 rfl) ?_
  refine mg_27 hx hb hts inX12_bind hown hK hP (hts _ lkX12_bind_f288) dX12_bind_5 ?_
  refine lv_iload_n hx hb dX12_bind_8 rfl (lv_at hl 1 rfl) ?_
  refine ms_24 hx hb hK hP hD hS (by omega) dX12_bind_9 (fun H locs hP hD hS => ?_)
  refine lv_aload_n hx hb dX12_bind_10 rfl (lv_at hl 0 rfl) ?_
  refine mg_25 hx hb hts inX12_bind hown hK hP (hts _ lkX12_bind_f60) dX12_bind_11 ?_
  refine lv_aload_n hx hb dX12_bind_14 rfl (lv_at hl 0 rfl) ?_
  refine mg_27 hx hb hts inX12_bind hown hK hP (hts _ lkX12_bind_f288) dX12_bind_15 ?_
  refine lv_iload_n hx hb dX12_bind_18 rfl (lv_at hl 2 rfl) ?_
  refine ms_25 hx hb hK hP hD hS (by omega) dX12_bind_19 (fun H locs hP hD hS => ?_)
  refine lv_aload_n hx hb dX12_bind_20 rfl (lv_at hl 0 rfl) ?_
  refine mg_26 hx hb hts inX12_bind hown hK hP (hts _ lkX12_bind_f63) dX12_bind_21 ?_
  refine lv_aload_n hx hb dX12_bind_24 rfl (lv_at hl 0 rfl) ?_
  refine mg_27 hx hb hts inX12_bind hown hK hP (hts _ lkX12_bind_f288) dX12_bind_25 ?_
  refine lv_iload_n hx hb dX12_bind_28 rfl (lv_at hl 3 rfl) ?_
  refine ms_26 hx hb hK hP hD hS (by omega) dX12_bind_29 (fun H locs hP hD hS => ?_)
  refine lv_aload_n hx hb dX12_bind_30 rfl (lv_at hl 0 rfl) ?_
  refine lv_dup hx hb dX12_bind_31 rfl ?_
  refine mg_27 hx hb hts inX12_bind hown hK hP (hts _ lkX12_bind_f288) dX12_bind_32 ?_
  refine lv_iconst (v := nI 1) hx hb dX12_bind_35 (by decide) ?_
  refine lv_iadd hx hb dX12_bind_36 ?_
  refine tp_i (nI_add (N 27) 1) ?_
  refine mp_27 hx hb hts inX12_bind hown hK hP hD hS (hts _ lkX12_bind_f288) dX12_bind_37 (fun H locs hP hD hS => ?_)
  refine lv_aload_n hx hb dX12_bind_40 rfl (lv_at hl 0 rfl) ?_
  refine mg_22 hx hb hts inX12_bind hown hK hP (hts _ lkX12_bind_f54) dX12_bind_41 ?_
  refine lv_aload_n hx hb dX12_bind_44 rfl (lv_at hl 0 rfl) ?_
  refine mg_23 hx hb hts inX12_bind hown hK hP (hts _ lkX12_bind_f162) dX12_bind_45 ?_
  refine tp_i (y := nI (N 23)) rfl ?_
  refine lv_aload_n hx hb dX12_bind_48 rfl (lv_at hl 0 rfl) ?_
  refine mg_27 hx hb hts inX12_bind hown hK hP (hts _ lkX12_bind_f288) dX12_bind_49 ?_
  refine tp_i (y := nI ((N 27) + 1)) rfl ?_
  refine ms_22 hx hb hK hP hD hS (by omega) dX12_bind_52 (fun H locs hP hD hS => ?_)
  exact W.vret hx hb hr (fun t ht hW => ⟨⟨(va_up N 27 ((N 27) + 1), va_up (va_up (va_up (va_up G 24 (va_up (G 24) (N 27) x)) 25 (va_up (G 25) (N 27) vr)) 26 (va_up (G 26) (N 27) ru)) 22 (va_up (G 22) (N 23) ((N 27) + 1)), B, pl), rfl, ⟨rfl, rfl, rfl, rfl⟩, by rw [ht]; exact hP, va_K.moved hW.alike hK, hD⟩, hS.F ht⟩) hS.2.2 dX12_bind_53

set_option maxHeartbeats 4000000 in
set_option maxRecDepth 100000 in
/-- newEnvironment -/
theorem m_newEnvironment (l : Launch) (dC : Nat → ClassId) (dI : Nat → Nat → Nat) (cB cC cI cJ cZ : ClassId) (z0 : Nat) (R : Nat → Nat) (pl : Int32) (N : Nat → Nat) (G : Nat → Nat → Nat) (B : Nat → Nat → Int32) (en : Nat) (h23 : N 23 < 260) (s0 : Nat) : Met l yX12_newEnvironment vX12_newEnvironment { frames := 0, cells := 0, slots := 0, locals := 0 } (va_Pc [.ref z0, .int (nI en)] (mPre dC dI cB cC cI cJ cZ z0 R pl N G B s0)) (va_Qi (fun (r : Int32) (u : ((Nat → Nat) × (Nat → Nat → Nat) × (Nat → Nat → Int32) × Int32)) => match u with | (N1, G1, B1, pl1) => B1 = B ∧ pl1 = pl ∧ N1 = va_up N 23 (N 23 + 1) ∧ G1 = va_up (va_up G 21 (va_up (G 21) (N 23) en)) 22 (va_up (G 22) (N 23 + 1) (N 27)) ∧ r = nI (N 23)) (mPost dC dI cB cC cI cJ cZ z0 R (va_A (MW cB cC cI cJ cZ z0 R pl N G B) s0)) (va_A (MW cB cC cI cJ cZ z0 R pl N G B) s0)) 0 0 (va_A (MW cB cC cI cJ cZ z0 R pl N G B) s0) := by
  refine Met.ofW (cc := cX12_newEnvironment) (maxL := 2) (ret := (some .int)) (by decide) rfl ?_
  intro p e s m args below meth c s₁ B9 hml hv
  obtain ⟨rfl, hsz, hP, hK, hD0⟩ := hv
  have hx := B9.exec
  have hb := B9.bytes
  have hr := B9.returns
  have hts := atoms_spec (ws := vX12_newEnvironment) B9.pre
  have hown : s.vm.findClass RX12 = some m.cls := findClass_of_methodNamed B9.named
  have hlocks := B9.notSynchronized
  subst hsz
  have hD := hD0.self (sz := s.heap.size)
  generalize hAe : va_A (MW cB cC cI cJ cZ z0 R pl N G B) s.heap.size = A at hD ⊢
  have hA : ∀ q : Nat, s.heap.size ≤ q → A q := fun q h => by rw [← hAe]; exact Or.inr h
  have hS : va_S A s.heap s.heap [] := va_S.rf
  have hcs : 0 + 0 ≤ (0 : Nat) ∧ 0 + 0 ≤ (0 : Nat) := ⟨Nat.le_refl 0, Nat.le_refl 0⟩
  have hl := lv_entry ([.ref z0, .int (nI en)]) (n := 2) (Nat.le_of_ble_eq_true rfl)
  rw [lg_entry_eq]
  generalize (lg_sl ([.ref z0, .int (nI en)]) ++ List.replicate (2 - (lg_sl ([.ref z0, .int (nI en)])).length) Slot.unset).toArray = ls at hl ⊢
  have hl : lv_has ls 2 [(0, .ref z0), (1, .int (nI en))] := hl
  refine lv_aload_n hx hb dX12_newEnvironment_0 rfl (lv_at hl 0 rfl) ?_
  refine mg_21 hx hb hts inX12_newEnvironment hown hK hP (hts _ lkX12_newEnvironment_f51) dX12_newEnvironment_1 ?_
  refine lv_aload_n hx hb dX12_newEnvironment_4 rfl (lv_at hl 0 rfl) ?_
  refine mg_23 hx hb hts inX12_newEnvironment hown hK hP (hts _ lkX12_newEnvironment_f162) dX12_newEnvironment_5 ?_
  refine lv_iload_n hx hb dX12_newEnvironment_8 rfl (lv_at hl 1 rfl) ?_
  refine ms_21 hx hb hK hP hD hS (by omega) dX12_newEnvironment_9 (fun H locs hP hD hS => ?_)
  refine lv_aload_n hx hb dX12_newEnvironment_10 rfl (lv_at hl 0 rfl) ?_
  refine lv_dup hx hb dX12_newEnvironment_11 rfl ?_
  refine mg_23 hx hb hts inX12_newEnvironment hown hK hP (hts _ lkX12_newEnvironment_f162) dX12_newEnvironment_12 ?_
  refine lv_iconst (v := nI 1) hx hb dX12_newEnvironment_15 (by decide) ?_
  refine lv_iadd hx hb dX12_newEnvironment_16 ?_
  refine tp_i (nI_add (N 23) 1) ?_
  refine mp_23 hx hb hts inX12_newEnvironment hown hK hP hD hS (hts _ lkX12_newEnvironment_f162) dX12_newEnvironment_17 (fun H locs hP hD hS => ?_)
  refine lv_aload_n hx hb dX12_newEnvironment_20 rfl (lv_at hl 0 rfl) ?_
  refine mg_22 hx hb hts inX12_newEnvironment hown hK hP (hts _ lkX12_newEnvironment_f54) dX12_newEnvironment_21 ?_
  refine lv_aload_n hx hb dX12_newEnvironment_24 rfl (lv_at hl 0 rfl) ?_
  refine mg_23 hx hb hts inX12_newEnvironment hown hK hP (hts _ lkX12_newEnvironment_f162) dX12_newEnvironment_25 ?_
  refine tp_i (y := nI ((N 23) + 1)) rfl ?_
  refine lv_aload_n hx hb dX12_newEnvironment_28 rfl (lv_at hl 0 rfl) ?_
  refine mg_27 hx hb hts inX12_newEnvironment hown hK hP (hts _ lkX12_newEnvironment_f288) dX12_newEnvironment_29 ?_
  refine tp_i (y := nI (N 27)) rfl ?_
  refine ms_22 hx hb hK hP hD hS (by omega) dX12_newEnvironment_32 (fun H locs hP hD hS => ?_)
  refine lv_aload_n hx hb dX12_newEnvironment_33 rfl (lv_at hl 0 rfl) ?_
  refine mg_23 hx hb hts inX12_newEnvironment hown hK hP (hts _ lkX12_newEnvironment_f162) dX12_newEnvironment_34 ?_
  refine tp_i (y := nI ((N 23) + 1)) rfl ?_
  refine lv_iconst (v := nI 1) hx hb dX12_newEnvironment_37 (by decide) ?_
  refine lv_isub hx hb dX12_newEnvironment_38 ?_
  refine tp_i (pk_sub (a := (N 23) + 1) (b := 1) (by omega)) ?_
  exact W.iret (v := (nI (((N 23) + 1) - 1))) hx hb hr (fun t ht hW => ⟨⟨(nI (((N 23) + 1) - 1)), (va_up N 23 ((N 23) + 1), va_up (va_up G 21 (va_up (G 21) (N 23) en)) 22 (va_up (G 22) ((N 23) + 1) (N 27)), B, pl), rfl, ⟨rfl, rfl, rfl, rfl, by congr 1⟩, by rw [ht]; exact hP, va_K.moved hW.alike hK, hD⟩, hS.F ht⟩) hS.2.2 dX12_newEnvironment_39
