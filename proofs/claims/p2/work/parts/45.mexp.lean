def oX12_expandList : List Cond := [Cond.methodLink RX12 226 yX12_say, Cond.instanceMethod yX12_say, Cond.selects RX12 yX12_say yX12_say, Cond.initialized RX12, Cond.methodLink RX12 232 yX12_task, Cond.instanceMethod yX12_task, Cond.selects RX12 yX12_task yX12_task, Cond.methodLink RX12 248 yX12_taskParts, Cond.instanceMethod yX12_taskParts, Cond.selects RX12 yX12_taskParts yX12_taskParts, Cond.methodLink RX12 192 yX12_part, Cond.instanceMethod yX12_part, Cond.selects RX12 yX12_part yX12_part, Cond.methodLink RX12 180 yX12_isName, Cond.instanceMethod yX12_isName, Cond.selects RX12 yX12_isName yX12_isName, Cond.fieldLink RX12 35 "MacroScopesModel" "values" "[I", Cond.methodLink RX12 252 yX12_meaning, Cond.instanceMethod yX12_meaning, Cond.selects RX12 yX12_meaning yX12_meaning, Cond.fieldLink RX12 60 "MacroScopesModel" "variableOf" "[I", Cond.fieldLink RX12 63 "MacroScopesModel" "rulesOf" "[I", Cond.methodLink RX12 267 yX12_environmentOf, Cond.instanceMethod yX12_environmentOf, Cond.selects RX12 yX12_environmentOf yX12_environmentOf, Cond.methodLink RX12 270 yX12_use, Cond.instanceMethod yX12_use, Cond.selects RX12 yX12_use yX12_use, Cond.methodLink RX12 273 yX12_expandWord, Cond.instanceMethod yX12_expandWord, Cond.selects RX12 yX12_expandWord yX12_expandWord, Cond.fieldLink RX12 25 "MacroScopesModel" "defined" "[I"]
def vX12_expandList : List Cond := .code yX12_expandList cX12_expandList 8 none :: (oX12_expandList ++ (vX12_say ++ (vX12_task ++ (vX12_taskParts ++ (vX12_part ++ (vX12_isName ++ (vX12_meaning ++ (vX12_environmentOf ++ (vX12_use ++ (vX12_expandWord ++ (wsX120)))))))))))
theorem lkX12_expandList_f35 : Cond.fieldLink RX12 35 "MacroScopesModel" "values" "[I" ∈ vX12_expandList := List.mem_cons_of_mem _ (List.mem_append_left _ (List.mem_of_getElem? (i := 16) rfl))
theorem lkX12_expandList_f60 : Cond.fieldLink RX12 60 "MacroScopesModel" "variableOf" "[I" ∈ vX12_expandList := List.mem_cons_of_mem _ (List.mem_append_left _ (List.mem_of_getElem? (i := 20) rfl))
theorem lkX12_expandList_f63 : Cond.fieldLink RX12 63 "MacroScopesModel" "rulesOf" "[I" ∈ vX12_expandList := List.mem_cons_of_mem _ (List.mem_append_left _ (List.mem_of_getElem? (i := 21) rfl))
theorem lkX12_expandList_f25 : Cond.fieldLink RX12 25 "MacroScopesModel" "defined" "[I" ∈ vX12_expandList := List.mem_cons_of_mem _ (List.mem_append_left _ (List.mem_of_getElem? (i := 31) rfl))
theorem inX12_expandList : ∀ w ∈ wsX120, w ∈ vX12_expandList := fun w h => List.mem_cons_of_mem _ (List.mem_append_right _ (List.mem_append_right _ (List.mem_append_right _ (List.mem_append_right _ (List.mem_append_right _ (List.mem_append_right _ (List.mem_append_right _ (List.mem_append_right _ (List.mem_append_right _ (List.mem_append_right _ (h)))))))))))
theorem kX12_expandList_X12_say_226 : GoodIn vX12_expandList (wsV RX12 226 RX12 yX12_say vX12_say) := goodIn_sub (fun w h => (List.mem_append.mp h).elim (fun h => List.mem_cons_of_mem _ (List.mem_append_left _ ((by decide +kernel : ∀ w ∈ ([.methodLink RX12 226 yX12_say, .instanceMethod yX12_say, .selects RX12 yX12_say yX12_say, .initialized RX12] : List Cond), w ∈ oX12_expandList) w h))) (fun h => List.mem_cons_of_mem _ (List.mem_append_right _ (List.mem_append_left _ (h))))) (by decide +kernel)
theorem kX12_expandList_X12_task_232 : GoodIn vX12_expandList (wsV RX12 232 RX12 yX12_task vX12_task) := goodIn_sub (fun w h => (List.mem_append.mp h).elim (fun h => List.mem_cons_of_mem _ (List.mem_append_left _ ((by decide +kernel : ∀ w ∈ ([.methodLink RX12 232 yX12_task, .instanceMethod yX12_task, .selects RX12 yX12_task yX12_task, .initialized RX12] : List Cond), w ∈ oX12_expandList) w h))) (fun h => List.mem_cons_of_mem _ (List.mem_append_right _ (List.mem_append_right _ (List.mem_append_left _ (h)))))) (by decide +kernel)
theorem kX12_expandList_X12_taskParts_248 : GoodIn vX12_expandList (wsV RX12 248 RX12 yX12_taskParts vX12_taskParts) := goodIn_sub (fun w h => (List.mem_append.mp h).elim (fun h => List.mem_cons_of_mem _ (List.mem_append_left _ ((by decide +kernel : ∀ w ∈ ([.methodLink RX12 248 yX12_taskParts, .instanceMethod yX12_taskParts, .selects RX12 yX12_taskParts yX12_taskParts, .initialized RX12] : List Cond), w ∈ oX12_expandList) w h))) (fun h => List.mem_cons_of_mem _ (List.mem_append_right _ (List.mem_append_right _ (List.mem_append_right _ (List.mem_append_left _ (h))))))) (by decide +kernel)
theorem kX12_expandList_X12_part_192 : GoodIn vX12_expandList (wsV RX12 192 RX12 yX12_part vX12_part) := goodIn_sub (fun w h => (List.mem_append.mp h).elim (fun h => List.mem_cons_of_mem _ (List.mem_append_left _ ((by decide +kernel : ∀ w ∈ ([.methodLink RX12 192 yX12_part, .instanceMethod yX12_part, .selects RX12 yX12_part yX12_part, .initialized RX12] : List Cond), w ∈ oX12_expandList) w h))) (fun h => List.mem_cons_of_mem _ (List.mem_append_right _ (List.mem_append_right _ (List.mem_append_right _ (List.mem_append_right _ (List.mem_append_left _ (h)))))))) (by decide +kernel)
theorem kX12_expandList_X12_isName_180 : GoodIn vX12_expandList (wsV RX12 180 RX12 yX12_isName vX12_isName) := goodIn_sub (fun w h => (List.mem_append.mp h).elim (fun h => List.mem_cons_of_mem _ (List.mem_append_left _ ((by decide +kernel : ∀ w ∈ ([.methodLink RX12 180 yX12_isName, .instanceMethod yX12_isName, .selects RX12 yX12_isName yX12_isName, .initialized RX12] : List Cond), w ∈ oX12_expandList) w h))) (fun h => List.mem_cons_of_mem _ (List.mem_append_right _ (List.mem_append_right _ (List.mem_append_right _ (List.mem_append_right _ (List.mem_append_right _ (List.mem_append_left _ (h))))))))) (by decide +kernel)
theorem kX12_expandList_X12_meaning_252 : GoodIn vX12_expandList (wsV RX12 252 RX12 yX12_meaning vX12_meaning) := goodIn_sub (fun w h => (List.mem_append.mp h).elim (fun h => List.mem_cons_of_mem _ (List.mem_append_left _ ((by decide +kernel : ∀ w ∈ ([.methodLink RX12 252 yX12_meaning, .instanceMethod yX12_meaning, .selects RX12 yX12_meaning yX12_meaning, .initialized RX12] : List Cond), w ∈ oX12_expandList) w h))) (fun h => List.mem_cons_of_mem _ (List.mem_append_right _ (List.mem_append_right _ (List.mem_append_right _ (List.mem_append_right _ (List.mem_append_right _ (List.mem_append_right _ (List.mem_append_left _ (h)))))))))) (by decide +kernel)
theorem kX12_expandList_X12_environmentOf_267 : GoodIn vX12_expandList (wsV RX12 267 RX12 yX12_environmentOf vX12_environmentOf) := goodIn_sub (fun w h => (List.mem_append.mp h).elim (fun h => List.mem_cons_of_mem _ (List.mem_append_left _ ((by decide +kernel : ∀ w ∈ ([.methodLink RX12 267 yX12_environmentOf, .instanceMethod yX12_environmentOf, .selects RX12 yX12_environmentOf yX12_environmentOf, .initialized RX12] : List Cond), w ∈ oX12_expandList) w h))) (fun h => List.mem_cons_of_mem _ (List.mem_append_right _ (List.mem_append_right _ (List.mem_append_right _ (List.mem_append_right _ (List.mem_append_right _ (List.mem_append_right _ (List.mem_append_right _ (List.mem_append_left _ (h))))))))))) (by decide +kernel)
theorem kX12_expandList_X12_use_270 : GoodIn vX12_expandList (wsV RX12 270 RX12 yX12_use vX12_use) := goodIn_sub (fun w h => (List.mem_append.mp h).elim (fun h => List.mem_cons_of_mem _ (List.mem_append_left _ ((by decide +kernel : ∀ w ∈ ([.methodLink RX12 270 yX12_use, .instanceMethod yX12_use, .selects RX12 yX12_use yX12_use, .initialized RX12] : List Cond), w ∈ oX12_expandList) w h))) (fun h => List.mem_cons_of_mem _ (List.mem_append_right _ (List.mem_append_right _ (List.mem_append_right _ (List.mem_append_right _ (List.mem_append_right _ (List.mem_append_right _ (List.mem_append_right _ (List.mem_append_right _ (List.mem_append_left _ (h)))))))))))) (by decide +kernel)
theorem kX12_expandList_X12_expandWord_273 : GoodIn vX12_expandList (wsV RX12 273 RX12 yX12_expandWord vX12_expandWord) := goodIn_sub (fun w h => (List.mem_append.mp h).elim (fun h => List.mem_cons_of_mem _ (List.mem_append_left _ ((by decide +kernel : ∀ w ∈ ([.methodLink RX12 273 yX12_expandWord, .instanceMethod yX12_expandWord, .selects RX12 yX12_expandWord yX12_expandWord, .initialized RX12] : List Cond), w ∈ oX12_expandList) w h))) (fun h => List.mem_cons_of_mem _ (List.mem_append_right _ (List.mem_append_right _ (List.mem_append_right _ (List.mem_append_right _ (List.mem_append_right _ (List.mem_append_right _ (List.mem_append_right _ (List.mem_append_right _ (List.mem_append_right _ (List.mem_append_left _ (h))))))))))))) (by decide +kernel)
def oX12_expand : List Cond := [Cond.fieldLink RX12 32 "MacroScopesModel" "kinds" "[B", Cond.fieldLink RX12 35 "MacroScopesModel" "values" "[I", Cond.methodLink RX12 242 yX12_sayNumber, Cond.instanceMethod yX12_sayNumber, Cond.selects RX12 yX12_sayNumber yX12_sayNumber, Cond.initialized RX12, Cond.methodLink RX12 180 yX12_isName, Cond.instanceMethod yX12_isName, Cond.selects RX12 yX12_isName yX12_isName, Cond.methodLink RX12 259 yX12_sayName, Cond.instanceMethod yX12_sayName, Cond.selects RX12 yX12_sayName yX12_sayName, Cond.methodLink RX12 255 yX12_need, Cond.instanceMethod yX12_need, Cond.selects RX12 yX12_need yX12_need, Cond.fieldLink RX12 38 "MacroScopesModel" "counts" "[I", Cond.methodLink RX12 263 yX12_expandList, Cond.instanceMethod yX12_expandList, Cond.selects RX12 yX12_expandList yX12_expandList]
def vX12_expand : List Cond := .code yX12_expand cX12_expand 4 none :: (oX12_expand ++ (vX12_sayNumber ++ (vX12_isName ++ (vX12_sayName ++ (vX12_need ++ (vX12_expandList ++ (wsX120)))))))
theorem lkX12_expand_f32 : Cond.fieldLink RX12 32 "MacroScopesModel" "kinds" "[B" ∈ vX12_expand := List.mem_cons_of_mem _ (List.mem_append_left _ (List.mem_of_getElem? (i := 0) rfl))
theorem lkX12_expand_f35 : Cond.fieldLink RX12 35 "MacroScopesModel" "values" "[I" ∈ vX12_expand := List.mem_cons_of_mem _ (List.mem_append_left _ (List.mem_of_getElem? (i := 1) rfl))
theorem lkX12_expand_f38 : Cond.fieldLink RX12 38 "MacroScopesModel" "counts" "[I" ∈ vX12_expand := List.mem_cons_of_mem _ (List.mem_append_left _ (List.mem_of_getElem? (i := 15) rfl))
theorem inX12_expand : ∀ w ∈ wsX120, w ∈ vX12_expand := fun w h => List.mem_cons_of_mem _ (List.mem_append_right _ (List.mem_append_right _ (List.mem_append_right _ (List.mem_append_right _ (List.mem_append_right _ (List.mem_append_right _ (h)))))))
theorem kX12_expand_X12_sayNumber_242 : GoodIn vX12_expand (wsV RX12 242 RX12 yX12_sayNumber vX12_sayNumber) := goodIn_sub (fun w h => (List.mem_append.mp h).elim (fun h => List.mem_cons_of_mem _ (List.mem_append_left _ ((by decide +kernel : ∀ w ∈ ([.methodLink RX12 242 yX12_sayNumber, .instanceMethod yX12_sayNumber, .selects RX12 yX12_sayNumber yX12_sayNumber, .initialized RX12] : List Cond), w ∈ oX12_expand) w h))) (fun h => List.mem_cons_of_mem _ (List.mem_append_right _ (List.mem_append_left _ (h))))) (by decide +kernel)
theorem kX12_expand_X12_isName_180 : GoodIn vX12_expand (wsV RX12 180 RX12 yX12_isName vX12_isName) := goodIn_sub (fun w h => (List.mem_append.mp h).elim (fun h => List.mem_cons_of_mem _ (List.mem_append_left _ ((by decide +kernel : ∀ w ∈ ([.methodLink RX12 180 yX12_isName, .instanceMethod yX12_isName, .selects RX12 yX12_isName yX12_isName, .initialized RX12] : List Cond), w ∈ oX12_expand) w h))) (fun h => List.mem_cons_of_mem _ (List.mem_append_right _ (List.mem_append_right _ (List.mem_append_left _ (h)))))) (by decide +kernel)
theorem kX12_expand_X12_sayName_259 : GoodIn vX12_expand (wsV RX12 259 RX12 yX12_sayName vX12_sayName) := goodIn_sub (fun w h => (List.mem_append.mp h).elim (fun h => List.mem_cons_of_mem _ (List.mem_append_left _ ((by decide +kernel : ∀ w ∈ ([.methodLink RX12 259 yX12_sayName, .instanceMethod yX12_sayName, .selects RX12 yX12_sayName yX12_sayName, .initialized RX12] : List Cond), w ∈ oX12_expand) w h))) (fun h => List.mem_cons_of_mem _ (List.mem_append_right _ (List.mem_append_right _ (List.mem_append_right _ (List.mem_append_left _ (h))))))) (by decide +kernel)
theorem kX12_expand_X12_need_255 : GoodIn vX12_expand (wsV RX12 255 RX12 yX12_need vX12_need) := goodIn_sub (fun w h => (List.mem_append.mp h).elim (fun h => List.mem_cons_of_mem _ (List.mem_append_left _ ((by decide +kernel : ∀ w ∈ ([.methodLink RX12 255 yX12_need, .instanceMethod yX12_need, .selects RX12 yX12_need yX12_need, .initialized RX12] : List Cond), w ∈ oX12_expand) w h))) (fun h => List.mem_cons_of_mem _ (List.mem_append_right _ (List.mem_append_right _ (List.mem_append_right _ (List.mem_append_right _ (List.mem_append_left _ (h)))))))) (by decide +kernel)
theorem kX12_expand_X12_expandList_263 : GoodIn vX12_expand (wsV RX12 263 RX12 yX12_expandList vX12_expandList) := goodIn_sub (fun w h => (List.mem_append.mp h).elim (fun h => List.mem_cons_of_mem _ (List.mem_append_left _ ((by decide +kernel : ∀ w ∈ ([.methodLink RX12 263 yX12_expandList, .instanceMethod yX12_expandList, .selects RX12 yX12_expandList yX12_expandList, .initialized RX12] : List Cond), w ∈ oX12_expand) w h))) (fun h => List.mem_cons_of_mem _ (List.mem_append_right _ (List.mem_append_right _ (List.mem_append_right _ (List.mem_append_right _ (List.mem_append_right _ (List.mem_append_left _ (h))))))))) (by decide +kernel)
theorem mnge {n : Nat} (h : n < 2 ^ 30) : ¬ (0 : Int32) ≤ (nI 0 - 1) - nI n := fun z => absurd (mneg h) (by rw [Int32.not_lt]; exact z)
set_option maxHeartbeats 4000000 in
set_option maxRecDepth 100000 in
theorem lp_plain {p : Program} {l : Launch} {e : Env} {s : State} {m : MethodId} {args : Array Value} {below : List Frame} {meth : Method} {c : Code} {Q : State → Prop} {A : Nat → Prop} {dC : Nat → ClassId} {dI : Nat → Nat → Nat} {cB cC cI cJ cZ : ClassId} {z0 : Nat} {R : Nat → Nat} (hx : p.tables.exec = Jvm.exec) (hb : c.code = cX12_expandList) (hml : c.maxLocals = 8) (hown : s.vm.findClass RX12 = some m.cls) (hts : ∀ w ∈ vX12_expandList, w.before args s = true) (hK : va_K (dC, dI) vwCl (TY cB cC cI cJ cZ) s) (hA : ∀ q : Nat, s.heap.size ≤ q → A q) {pl : Int32} {N : Nat → Nat} {G : Nat → Nat → Nat} {B : Nat → Nat → Int32} {sz az : Nat → Nat} {f en dp w x : Nat} (hxi : XI N G sz az) (htk : TSK N G sz w) (h33 : N 33 = 0) (hf : f < N 14) (hen : en < N 23) (hdp : dp ≤ 100) (hbu : BUD N (w + (3 * sz f - 1)) x) (kr : ∀ (N1 : Nat → Nat) (G1 : Nat → Nat → Nat) (B1 : Nat → Nat → Int32) (H : Heap) (locs : List Loc), XPOST N G B sz x N1 G1 B1 → va_P (dC, dI) vwCl (MW cB cC cI cJ cZ z0 R pl N1 G1 B1) H → va_D A (MW cB cC cI cJ cZ z0 R pl N1 G1 B1) → va_S A s.heap H locs → ∀ (ls : Array Slot), lv_has ls 8 [] → W p l e (headSpec vX12_expandList { frames := 7, cells := 0, slots := 0, locals := 173 }).room s m args below meth c H locs 0 0 Q (F0 m 204 ls [])) : ∀ (H : Heap) (locs : List Loc), va_P (dC, dI) vwCl (MW cB cC cI cJ cZ z0 R pl N G B) H → va_D A (MW cB cC cI cJ cZ z0 R pl N G B) → va_S A s.heap H locs → ∀ (ls : Array Slot), lv_has ls 8 [(0, .ref z0), (1, .int (nI f)), (2, .int (nI en)), (3, .int (nI dp))] → W p l e (headSpec vX12_expandList { frames := 7, cells := 0, slots := 0, locals := 173 }).room s m args below meth c H locs 0 0 Q (F0 m 178 ls []) := by
  have hcs : 0 + 0 ≤ (0 : Nat) ∧ 0 + 0 ≤ (0 : Nat) := ⟨Nat.le_refl 0, Nat.le_refl 0⟩
  intro H locs hP hD hS ls hl
  have ht9 := hxi.1.2.2.1
  have hG := hxi.1.1
  have hG2 := hG
  have hal := hxi.1.2.1
  have u6 := ht9.1
  have u1 := ht9.one hf
  have hf8 : f < 90000 := by omega
  have hnf := hxi.2.2.2.2.2.1
  have hlt := hxi.2.2.2.2.1
  have hev := hxi.2.2.2.1
  have hbb : w + (3 * sz f - 1) ≤ 190000 := by have := hbu.1; omega
  have hrun : RUN N G B sz N G B az w 0 := RUN.start hxi htk h33
  have hnum := hrun.num hbu (by omega) (by omega)
  have hG2 := hrun.1.1.1
  have htr := hrun.1.1.2.2.1
  have hal2 := hrun.1.1.2.1
  have n14 := hrun.2.2.2.2.2.2.2.1
  have n23 := hrun.2.2.2.2.2.2.2.2
  have n33 := hrun.2.2.2.2.2.1
  refine lv_aload_n hx hb dX12_expandList_178 rfl (lv_at hl 0 rfl) ?_
  refine lv_bipush (v := nI 40) hx hb dX12_expandList_179 (by decide) ?_
  refine mcl_v (As := [.int (nI 40)]) (rest := []) ⟨hx, hb, hml, hown, hts⟩ (m_say l dC dI cB cC cI cJ cZ z0 R pl N G B ((nI 40)) (by omega) H.size) (cwV 1 hts kX12_expandList_X12_say_226 rfl rfl rfl (by decide +kernel) ⟨Nat.le_of_ble_eq_true rfl, Nat.le_of_ble_eq_true rfl⟩) hK hP hD hS hA rfl rfl hl.1 (lv_room (Nat.le_of_ble_eq_true rfl)) dX12_expandList_181 hcs (fun  N_1 G_2 B_3 pl_4 hw H locs hP hD hS => ?_)
  dsimp only at hw
  obtain ⟨e2, e4, e1, X, e3⟩ := hw
  have hrun : RUN N G B sz N_1 G B_3 az w 1 := by rw [e1, e3]; exact hrun.say 1 X (by omega)
  rw [e2, e4] at hP hD
  have hnum := hrun.num hbu (by omega) (by omega)
  have hG2 := hrun.1.1.1
  have htr := hrun.1.1.2.2.1
  have hal2 := hrun.1.1.2.1
  have n14 := hrun.2.2.2.2.2.2.2.1
  have n23 := hrun.2.2.2.2.2.2.2.2
  have n33 := hrun.2.2.2.2.2.1
  refine lv_aload_n hx hb dX12_expandList_184 rfl (lv_at hl 0 rfl) ?_
  refine lv_iconst (v := nI 2) hx hb dX12_expandList_185 (by decide) ?_
  refine lv_bipush (v := nI 41) hx hb dX12_expandList_186 (by decide) ?_
  refine lv_iconst (v := nI 0) hx hb dX12_expandList_188 (by decide) ?_
  refine lv_iconst (v := nI 0) hx hb dX12_expandList_189 (by decide) ?_
  refine mcl_v (As := [.int (nI 2), .int (nI 41), .int (nI 0), .int (nI 0)]) (rest := []) ⟨hx, hb, hml, hown, hts⟩ (m_task l dC dI cB cC cI cJ cZ z0 R pl N_1 G B_3 2 41 0 0 (by decide) (by omega) H.size) (cwV 4 hts kX12_expandList_X12_task_232 rfl rfl rfl (by decide +kernel) ⟨Nat.le_of_ble_eq_true rfl, Nat.le_of_ble_eq_true rfl⟩) hK hP hD hS hA rfl rfl hl.1 (lv_room (Nat.le_of_ble_eq_true rfl)) dX12_expandList_190 hcs (fun  N_6 G_7 B_8 pl_9 hw H locs hP hD hS => ?_)
  dsimp only at hw
  obtain ⟨e3, e4, e1, e2⟩ := hw
  have hrun : RUN N G B sz N_6 G_7 B_3 az (w + 1) 1 := by rw [e1, e2]; exact hrun.task (by decide) (fun z => absurd rfl z) (fun z => absurd z (by decide)) (by omega) (by omega) (by omega) (by rw [if_pos rfl]; omega)
  rw [e3, e4] at hP hD
  have hnum := hrun.num hbu (by omega) (by omega)
  have hG2 := hrun.1.1.1
  have htr := hrun.1.1.2.2.1
  have hal2 := hrun.1.1.2.1
  have n14 := hrun.2.2.2.2.2.2.2.1
  have n23 := hrun.2.2.2.2.2.2.2.2
  have n33 := hrun.2.2.2.2.2.1
  refine lv_aload_n hx hb dX12_expandList_193 rfl (lv_at hl 0 rfl) ?_
  refine lv_iconst (v := nI 0) hx hb dX12_expandList_194 (by decide) ?_
  refine lv_iload_n hx hb dX12_expandList_195 rfl (lv_at hl 1 rfl) ?_
  refine lv_iconst (v := nI 0) hx hb dX12_expandList_196 (by decide) ?_
  refine lv_iload_n hx hb dX12_expandList_197 rfl (lv_at hl 2 rfl) ?_
  refine lv_iload_n hx hb dX12_expandList_198 rfl (lv_at hl 3 rfl) ?_
  refine lv_iconst (v := nI 1) hx hb dX12_expandList_199 (by decide) ?_
  refine lv_iadd hx hb dX12_expandList_200 ?_
  refine tp_i (nI_add dp 1) ?_
  refine mcl_v (As := [.int (nI 0), .int (nI f), .int (nI 0), .int (nI en), .int (nI (dp + 1))]) (rest := []) ⟨hx, hb, hml, hown, hts⟩ (m_taskParts l dC dI cB cC cI cJ cZ z0 R pl N_6 G_7 B_3 0 f 0 en (dp + 1) (w + 1) sz hG2 htr hrun.2.1 (by omega) (by omega) (by decide) (fun _ => ⟨by omega, by omega⟩) (by omega) (by omega) (by omega) H.size) (cwV 5 hts kX12_expandList_X12_taskParts_248 rfl rfl rfl (by decide +kernel) ⟨Nat.le_of_ble_eq_true rfl, Nat.le_of_ble_eq_true rfl⟩) hK hP hD hS hA rfl rfl hl.1 (lv_room (Nat.le_of_ble_eq_true rfl)) dX12_expandList_201 hcs (fun  N_11 G_12 B_13 pl_14 hw H locs hP hD hS => ?_)
  dsimp only at hw
  obtain ⟨e3, e4, q9, w_16, e1, hg9, hk9, ht9, hw9⟩ := hw
  have hrun : RUN N G B sz N_11 G_12 B_3 az w_16 1 := by rw [e1] at ht9 ⊢; exact hrun.parts hg9 hk9 ht9
  rw [e3, e4] at hP hD
  have hnum := hrun.num hbu (by omega) (by omega)
  have hG2 := hrun.1.1.1
  have htr := hrun.1.1.2.2.1
  have hal2 := hrun.1.1.2.1
  have n14 := hrun.2.2.2.2.2.2.2.1
  have n23 := hrun.2.2.2.2.2.2.2.2
  have n33 := hrun.2.2.2.2.2.1
  exact kr N_11 G_12 B_3 H locs (hrun.post hbu (by omega) (by decide)) hP hD hS ls (lv_sub hl [] rfl)

set_option maxHeartbeats 4000000 in
set_option maxRecDepth 100000 in
/-- expandList -/
theorem m_expandList (l : Launch) (dC : Nat → ClassId) (dI : Nat → Nat → Nat) (cB cC cI cJ cZ : ClassId) (z0 : Nat) (R : Nat → Nat) (pl : Int32) (N : Nat → Nat) (G : Nat → Nat → Nat) (B : Nat → Nat → Int32) (f en dp w x : Nat) (sz az : Nat → Nat) (hxi : XI N G sz az) (htk : TSK N G sz w) (h33 : N 33 = 0) (hf : f < N 14) (hen : en < N 23) (hdp : dp ≤ 100) (hbu : BUD N (w + (3 * sz f - 1)) x) (h12 : 0 < G 12 f) (s0 : Nat) : Met l yX12_expandList vX12_expandList { frames := 7, cells := 0, slots := 0, locals := 173 } (va_Pc [.ref z0, .int (nI f), .int (nI en), .int (nI dp)] (mPre dC dI cB cC cI cJ cZ z0 R pl N G B s0)) (va_Qv (fun u : ((Nat → Nat) × (Nat → Nat → Nat) × (Nat → Nat → Int32) × Int32) => match u with | (N1, G1, B1, pl1) => pl1 = pl ∧ XPOST N G B sz x N1 G1 B1) (mPost dC dI cB cC cI cJ cZ z0 R (va_A (MW cB cC cI cJ cZ z0 R pl N G B) s0)) (va_A (MW cB cC cI cJ cZ z0 R pl N G B) s0)) 0 0 (va_A (MW cB cC cI cJ cZ z0 R pl N G B) s0) := by
  refine Met.ofW (cc := cX12_expandList) (maxL := 8) (ret := none) (by decide) rfl ?_
  intro p e s m args below meth c s₁ B9 hml hv
  obtain ⟨rfl, hsz, hP, hK, hD0⟩ := hv
  have hx := B9.exec
  have hb := B9.bytes
  have hr := B9.returns
  have hts := atoms_spec (ws := vX12_expandList) B9.pre
  have hown : s.vm.findClass RX12 = some m.cls := findClass_of_methodNamed B9.named
  have hlocks := B9.notSynchronized
  subst hsz
  have hD := hD0.self (sz := s.heap.size)
  generalize hAe : va_A (MW cB cC cI cJ cZ z0 R pl N G B) s.heap.size = A at hD ⊢
  have hA : ∀ q : Nat, s.heap.size ≤ q → A q := fun q h => by rw [← hAe]; exact Or.inr h
  have hS : va_S A s.heap s.heap [] := va_S.rf
  have hcs : 0 + 0 ≤ (0 : Nat) ∧ 0 + 0 ≤ (0 : Nat) := ⟨Nat.le_refl 0, Nat.le_refl 0⟩
  have hl := lv_entry ([.ref z0, .int (nI f), .int (nI en), .int (nI dp)]) (n := 8) (Nat.le_of_ble_eq_true rfl)
  rw [lg_entry_eq]
  generalize (lg_sl ([.ref z0, .int (nI f), .int (nI en), .int (nI dp)]) ++ List.replicate (8 - (lg_sl ([.ref z0, .int (nI f), .int (nI en), .int (nI dp)])).length) Slot.unset).toArray = ls at hl ⊢
  have hl : lv_has ls 8 [(0, .ref z0), (1, .int (nI f)), (2, .int (nI en)), (3, .int (nI dp))] := hl
  have ht9 := hxi.1.2.2.1
  have hG := hxi.1.1
  have hG2 := hG
  have hal := hxi.1.2.1
  have u6 := ht9.1
  have u1 := ht9.one hf
  have hf8 : f < 90000 := by omega
  have hnf := hxi.2.2.2.2.2.1
  have hlt := hxi.2.2.2.2.1
  have hev := hxi.2.2.2.1
  have hbb : w + (3 * sz f - 1) ≤ 190000 := by have := hbu.1; omega
  obtain ⟨hd, ehd⟩ : ∃ hd, hd = CH G f 0 := ⟨_, rfl⟩
  have hhd := (ht9.pt hf h12).2.1
  rw [← ehd] at hhd
  have hnn := (ht9.2 _ hhd).2.2.2.1
  have hhd8 : hd < 90000 := by omega
  have h27 := hev.2.2.1
  have h6 := hal.1
  refine lv_aload_n hx hb dX12_expandList_0 rfl (lv_at hl 0 rfl) ?_
  refine lv_iload_n hx hb dX12_expandList_1 rfl (lv_at hl 1 rfl) ?_
  refine lv_iconst (v := nI 0) hx hb dX12_expandList_2 (by decide) ?_
  obtain ⟨t_1, t_1b, t_1c, t_1d⟩ := ht9.pt (f := f) (k := 0) (hf) (h12)
  refine mcl_i (As := [.int (nI f), .int (nI 0)]) (rest := []) ⟨hx, hb, hml, hown, hts⟩ (m_part l dC dI cB cC cI cJ cZ z0 R pl N G B f 0 hG2 t_1d t_1 s.heap.size) (cwV 2 hts kX12_expandList_X12_part_192 rfl rfl rfl (by decide +kernel) ⟨Nat.le_of_ble_eq_true rfl, Nat.le_of_ble_eq_true rfl⟩) hK hP hD hS hA rfl rfl hl.1 (lv_room (Nat.le_of_ble_eq_true rfl)) dX12_expandList_3 hcs (fun r_6 N_2 G_3 B_4 pl_5 hw H locs hP hD hS => ?_)
  dsimp only at hw
  obtain ⟨e1, e2, e3, e4, hw⟩ := hw
  rw [e1, e2, e3, e4] at hP hD
  have hw : r_6 = nI (CH G f 0) := hw
  subst hw
  refine tp_i (y := nI hd) (by rw [ehd]) ?_
  refine lv_istore (lv' := [(4, .int (nI hd)), (0, .ref z0), (1, .int (nI f)), (2, .int (nI en)), (3, .int (nI dp))]) hx hb dX12_expandList_6 hl (by decide) rfl (fun ls hl => ?_)
  refine lv_aload_n hx hb dX12_expandList_8 rfl (lv_at hl 1 rfl) ?_
  refine lv_iload hx hb dX12_expandList_9 (lv_at hl 0 rfl) ?_
  refine mcl_i (As := [.int (nI hd)]) (rest := []) ⟨hx, hb, hml, hown, hts⟩ (m_isName l dC dI cB cC cI cJ cZ z0 R pl N G B hd hG2 hhd8 H.size) (cwV 1 hts kX12_expandList_X12_isName_180 rfl rfl rfl (by decide +kernel) ⟨Nat.le_of_ble_eq_true rfl, Nat.le_of_ble_eq_true rfl⟩) hK hP hD hS hA rfl rfl hl.1 (lv_room (Nat.le_of_ble_eq_true rfl)) dX12_expandList_11 hcs (fun r_11 N_7 G_8 B_9 pl_10 hw H locs hP hD hS => ?_)
  dsimp only at hw
  obtain ⟨e1, e2, e3, e4, hw⟩ := hw
  rw [e1, e2, e3, e4] at hP hD
  have hw : r_11 = nI (if G 10 hd = 1 then 1 else 0) := hw
  by_cases hcn : G 10 hd = 1
  · rw [if_pos hcn] at hw
    subst hw
    have hnm := hnn hcn
    refine bz_eq (tgt := 32) hx hb (by first | omega | exact Nat.lt_of_lt_of_le (hG _ _) (by decide)) dX12_expandList_14 (by decide) (fun q9 => absurd q9 (by omega)) (fun c => ?_)
    refine lv_aload_n hx hb dX12_expandList_17 rfl (lv_at hl 1 rfl) ?_
    refine lv_aload_n hx hb dX12_expandList_18 rfl (lv_at hl 1 rfl) ?_
    refine mg_11 hx hb hts inX12_expandList hown hK hP (hts _ lkX12_expandList_f35) dX12_expandList_19 ?_
    refine lv_iload hx hb dX12_expandList_22 (lv_at hl 0 rfl) ?_
    refine ml_11 hx hb hK hP (by omega) dX12_expandList_24 ?_
    refine lv_iload_n hx hb dX12_expandList_25 rfl (lv_at hl 3 rfl) ?_
    refine mcl_i (As := [.int (nI (G 11 hd)), .int (nI en)]) (rest := []) ⟨hx, hb, hml, hown, hts⟩ (m_meaning l dC dI cB cC cI cJ cZ z0 R pl N G B (G 11 hd) en hG2 hal hev hnm hen H.size) (cwV 2 hts kX12_expandList_X12_meaning_252 rfl rfl rfl (by decide +kernel) ⟨Nat.le_of_ble_eq_true rfl, Nat.le_of_ble_eq_true rfl⟩) hK hP hD hS hA rfl rfl hl.1 (lv_room (Nat.le_of_ble_eq_true rfl)) dX12_expandList_26 hcs (fun r_26 N_22 G_23 B_24 pl_25 hw H locs hP hD hS => ?_)
    dsimp only at hw
    obtain ⟨e1, e2, e3, e4, hw⟩ := hw
    rw [e1, e2, e3, e4] at hP hD
    rcases hw with ⟨b9, hb9, hw⟩ | ⟨n8, hn8, hw⟩
    · subst hw
      have g25 := hG 25 b9
      refine lv_goto (tgt := 33) hx hb dX12_expandList_29 (by decide) ?_
      refine lv_istore (lv' := [(5, .int (nI b9)), (4, .int (nI hd)), (0, .ref z0), (1, .int (nI f)), (2, .int (nI en)), (3, .int (nI dp))]) hx hb dX12_expandList_33 hl (by decide) rfl (fun ls hl => ?_)
      refine lv_aload_n hx hb dX12_expandList_35 rfl (lv_at hl 2 rfl) ?_
      refine lv_iload hx hb dX12_expandList_36 (lv_at hl 1 rfl) ?_
      refine mcl_i (As := [.int (nI hd)]) (rest := []) ⟨hx, hb, hml, hown, hts⟩ (m_isName l dC dI cB cC cI cJ cZ z0 R pl N G B hd hG2 hhd8 H.size) (cwV 1 hts kX12_expandList_X12_isName_180 rfl rfl rfl (by decide +kernel) ⟨Nat.le_of_ble_eq_true rfl, Nat.le_of_ble_eq_true rfl⟩) hK hP hD hS hA rfl rfl hl.1 (lv_room (Nat.le_of_ble_eq_true rfl)) dX12_expandList_38 hcs (fun r_31 N_27 G_28 B_29 pl_30 hw H locs hP hD hS => ?_)
      dsimp only at hw
      obtain ⟨e1, e2, e3, e4, hw⟩ := hw
      rw [e1, e2, e3, e4] at hP hD
      rw [if_pos hcn] at hw
      subst hw
      refine bz_eq (tgt := 53) hx hb (by first | omega | exact Nat.lt_of_lt_of_le (hG _ _) (by decide)) dX12_expandList_41 (by decide) (fun q9 => absurd q9 (by omega)) (fun c => ?_)
      refine lv_iload hx hb dX12_expandList_44 (lv_at hl 0 rfl) ?_
      refine bz_lt (tgt := 53) hx hb (by omega) dX12_expandList_46 (by decide) (fun z => z.elim) (fun _ => ?_)
      refine lv_iconst (v := nI 1) hx hb dX12_expandList_49 (by decide) ?_
      refine lv_goto (tgt := 54) hx hb dX12_expandList_50 (by decide) ?_
      refine lv_istore (lv' := [(6, .int (nI 1)), (5, .int (nI b9)), (4, .int (nI hd)), (0, .ref z0), (1, .int (nI f)), (2, .int (nI en)), (3, .int (nI dp))]) hx hb dX12_expandList_54 hl (by decide) rfl (fun ls hl => ?_)
      refine lv_aload_n hx hb dX12_expandList_56 rfl (lv_at hl 3 rfl) ?_
      refine lv_iload hx hb dX12_expandList_57 (lv_at hl 2 rfl) ?_
      refine mcl_i (As := [.int (nI hd)]) (rest := []) ⟨hx, hb, hml, hown, hts⟩ (m_isName l dC dI cB cC cI cJ cZ z0 R pl N G B hd hG2 hhd8 H.size) (cwV 1 hts kX12_expandList_X12_isName_180 rfl rfl rfl (by decide +kernel) ⟨Nat.le_of_ble_eq_true rfl, Nat.le_of_ble_eq_true rfl⟩) hK hP hD hS hA rfl rfl hl.1 (lv_room (Nat.le_of_ble_eq_true rfl)) dX12_expandList_59 hcs (fun r_36 N_32 G_33 B_34 pl_35 hw H locs hP hD hS => ?_)
      dsimp only at hw
      obtain ⟨e1, e2, e3, e4, hw⟩ := hw
      rw [e1, e2, e3, e4] at hP hD
      rw [if_pos hcn] at hw
      subst hw
      refine bz_eq (tgt := 77) hx hb (by first | omega | exact Nat.lt_of_lt_of_le (hG _ _) (by decide)) dX12_expandList_62 (by decide) (fun q9 => absurd q9 (by omega)) (fun c => ?_)
      refine lv_iload hx hb dX12_expandList_65 (lv_at hl 1 rfl) ?_
      refine bz_ge (tgt := 77) hx hb (by omega) dX12_expandList_67 (by decide) (fun _ => ?_) (fun z => z.elim)
      refine lv_iconst (v := nI 0 - 1) hx hb dX12_expandList_77 (by decide) ?_
      refine lv_istore (lv' := [(7, .int (nI 0 - 1)), (6, .int (nI 1)), (5, .int (nI b9)), (4, .int (nI hd)), (0, .ref z0), (1, .int (nI f)), (2, .int (nI en)), (3, .int (nI dp))]) hx hb dX12_expandList_78 hl (by decide) rfl (fun ls hl => ?_)
      refine lv_iload hx hb dX12_expandList_80 (lv_at hl 1 rfl) ?_
      refine bz_eq (tgt := 118) hx hb (by first | omega | exact Nat.lt_of_lt_of_le (hG _ _) (by decide)) dX12_expandList_82 (by decide) (fun q9 => absurd q9 (by omega)) (fun c => ?_)
      refine lv_aload_n hx hb dX12_expandList_85 rfl (lv_at hl 4 rfl) ?_
      refine mg_25 hx hb hts inX12_expandList hown hK hP (hts _ lkX12_expandList_f60) dX12_expandList_86 ?_
      refine lv_iload hx hb dX12_expandList_89 (lv_at hl 2 rfl) ?_
      refine ml_25 hx hb hK hP (by omega) dX12_expandList_91 ?_
      refine bo_ge (tgt := 118) hx hb (by first | omega | exact Nat.lt_of_lt_of_le (hG _ _) (by decide)) dX12_expandList_92 (by decide) (fun c1 => ?_) (fun c1 => ?_)
      · refine lv_iload hx hb dX12_expandList_118 (lv_at hl 0 rfl) ?_
        refine bo_lt (tgt := 141) hx hb (by decide) dX12_expandList_120 (by decide) (fun _ => ?_) (fun z => absurd z (by decide))
        refine lv_iload hx hb dX12_expandList_141 (lv_at hl 0 rfl) ?_
        refine lv_bipush (v := nI 8) hx hb dX12_expandList_143 (by decide) ?_
        refine lv_icmp_le (tgt := 178) hx hb dX12_expandList_145 (by decide) (fun _ => ?_) (fun z => absurd (by decide) z)
        refine lp_plain hx hb hml hown hts hK hA hxi htk h33 hf hen hdp hbu (fun N1 G1 B1 H locs hpo hP hD hS ls hl => ?_) _ _ hP hD hS ls (lv_sub hl [4, 5, 6, 7] rfl)
        exact W.vret hx hb hr (fun t ht hW => ⟨⟨(N1, G1, B1, pl), rfl, ⟨rfl, hpo⟩, by rw [ht]; exact hP, va_K.moved hW.alike hK, hD⟩, hS.F ht⟩) hS.2.2 dX12_expandList_204
      · have hmm := hxi.2.2.2.2.2.2.1 h33 b9 hb9 c1
        have g26 := hG 26 b9
        refine lv_aload_n hx hb dX12_expandList_95 rfl (lv_at hl 4 rfl) ?_
        refine lv_aload_n hx hb dX12_expandList_96 rfl (lv_at hl 4 rfl) ?_
        refine mg_26 hx hb hts inX12_expandList hown hK hP (hts _ lkX12_expandList_f63) dX12_expandList_97 ?_
        refine lv_iload hx hb dX12_expandList_100 (lv_at hl 2 rfl) ?_
        refine ml_26 hx hb hK hP (by omega) dX12_expandList_102 ?_
        refine tp_i (om1 (hmm.1)) ?_
        refine lv_aload_n hx hb dX12_expandList_103 rfl (lv_at hl 4 rfl) ?_
        refine lv_iload hx hb dX12_expandList_104 (lv_at hl 2 rfl) ?_
        refine mcl_i (As := [.int (nI b9)]) (rest := [.int (nI ((G 26 b9) - 1)), .ref z0]) ⟨hx, hb, hml, hown, hts⟩ (m_environmentOf l dC dI cB cC cI cJ cZ z0 R pl N G B b9 hG2 hb9 hlt.1 hlt.2.1 hev.1 hev.2.1 H.size) (cwV 1 hts kX12_expandList_X12_environmentOf_267 rfl rfl rfl (by decide +kernel) ⟨Nat.le_of_ble_eq_true rfl, Nat.le_of_ble_eq_true rfl⟩) hK hP hD hS hA rfl rfl hl.1 (lv_room (Nat.le_of_ble_eq_true rfl)) dX12_expandList_106 hcs (fun r_41 N_37 G_38 B_39 pl_40 hw H locs hP hD hS => ?_)
        dsimp only at hw
        obtain ⟨e1, e2, e3, e4, ev9, hw, hev9⟩ := hw
        rw [e1, e2, e3, e4] at hP hD
        subst hw
        refine lv_iload_n hx hb dX12_expandList_109 rfl (lv_at hl 5 rfl) ?_
        refine lv_iload_n hx hb dX12_expandList_110 rfl (lv_at hl 6 rfl) ?_
        refine lv_iload_n hx hb dX12_expandList_111 rfl (lv_at hl 7 rfl) ?_
        refine mcl_v (As := [.int (nI ((G 26 b9) - 1)), .int (nI ev9), .int (nI f), .int (nI en), .int (nI dp)]) (rest := []) ⟨hx, hb, hml, hown, hts⟩ (m_use l dC dI cB cC cI cJ cZ z0 R pl N G B (G 26 b9 - 1) ev9 f en dp w x sz az hxi h33 hmm.2.2 hmm.2.1 hev9 hf hen hdp htk hbu H.size) (cwV 5 hts kX12_expandList_X12_use_270 rfl rfl rfl (by decide +kernel) ⟨Nat.le_of_ble_eq_true rfl, Nat.le_of_ble_eq_true rfl⟩) hK hP hD hS hA rfl rfl hl.1 (lv_room (Nat.le_of_ble_eq_true rfl)) dX12_expandList_112 hcs (fun  N_42 G_43 B_44 pl_45 hw H locs hP hD hS => ?_)
        dsimp only at hw
        obtain ⟨e4, hw⟩ := hw
        rw [e4] at hP hD
        refine lv_goto (tgt := 204) hx hb dX12_expandList_115 (by decide) ?_
        exact W.vret hx hb hr (fun t ht hW => ⟨⟨(N_42, G_43, B_44, pl), rfl, ⟨rfl, hw⟩, by rw [ht]; exact hP, va_K.moved hW.alike hK, hD⟩, hS.F ht⟩) hS.2.2 dX12_expandList_204
    · subst hw
      refine lv_goto (tgt := 33) hx hb dX12_expandList_29 (by decide) ?_
      refine lv_istore (lv' := [(5, .int ((nI 0 - 1) - nI n8)), (4, .int (nI hd)), (0, .ref z0), (1, .int (nI f)), (2, .int (nI en)), (3, .int (nI dp))]) hx hb dX12_expandList_33 hl (by decide) rfl (fun ls hl => ?_)
      refine lv_aload_n hx hb dX12_expandList_35 rfl (lv_at hl 2 rfl) ?_
      refine lv_iload hx hb dX12_expandList_36 (lv_at hl 1 rfl) ?_
      refine mcl_i (As := [.int (nI hd)]) (rest := []) ⟨hx, hb, hml, hown, hts⟩ (m_isName l dC dI cB cC cI cJ cZ z0 R pl N G B hd hG2 hhd8 H.size) (cwV 1 hts kX12_expandList_X12_isName_180 rfl rfl rfl (by decide +kernel) ⟨Nat.le_of_ble_eq_true rfl, Nat.le_of_ble_eq_true rfl⟩) hK hP hD hS hA rfl rfl hl.1 (lv_room (Nat.le_of_ble_eq_true rfl)) dX12_expandList_38 hcs (fun r_51 N_47 G_48 B_49 pl_50 hw H locs hP hD hS => ?_)
      dsimp only at hw
      obtain ⟨e1, e2, e3, e4, hw⟩ := hw
      rw [e1, e2, e3, e4] at hP hD
      rw [if_pos hcn] at hw
      subst hw
      refine bz_eq (tgt := 53) hx hb (by first | omega | exact Nat.lt_of_lt_of_le (hG _ _) (by decide)) dX12_expandList_41 (by decide) (fun q9 => absurd q9 (by omega)) (fun c => ?_)
      refine lv_iload hx hb dX12_expandList_44 (lv_at hl 0 rfl) ?_
      refine lv_if_lt (tgt := 53) hx hb dX12_expandList_46 (by decide) (fun _ => ?_) (fun z => absurd (mneg (by omega)) z)
      refine lv_iconst (v := nI 0) hx hb dX12_expandList_53 (by decide) ?_
      refine lv_istore (lv' := [(6, .int (nI 0)), (5, .int ((nI 0 - 1) - nI n8)), (4, .int (nI hd)), (0, .ref z0), (1, .int (nI f)), (2, .int (nI en)), (3, .int (nI dp))]) hx hb dX12_expandList_54 hl (by decide) rfl (fun ls hl => ?_)
      refine lv_aload_n hx hb dX12_expandList_56 rfl (lv_at hl 3 rfl) ?_
      refine lv_iload hx hb dX12_expandList_57 (lv_at hl 2 rfl) ?_
      refine mcl_i (As := [.int (nI hd)]) (rest := []) ⟨hx, hb, hml, hown, hts⟩ (m_isName l dC dI cB cC cI cJ cZ z0 R pl N G B hd hG2 hhd8 H.size) (cwV 1 hts kX12_expandList_X12_isName_180 rfl rfl rfl (by decide +kernel) ⟨Nat.le_of_ble_eq_true rfl, Nat.le_of_ble_eq_true rfl⟩) hK hP hD hS hA rfl rfl hl.1 (lv_room (Nat.le_of_ble_eq_true rfl)) dX12_expandList_59 hcs (fun r_56 N_52 G_53 B_54 pl_55 hw H locs hP hD hS => ?_)
      dsimp only at hw
      obtain ⟨e1, e2, e3, e4, hw⟩ := hw
      rw [e1, e2, e3, e4] at hP hD
      rw [if_pos hcn] at hw
      subst hw
      refine bz_eq (tgt := 77) hx hb (by first | omega | exact Nat.lt_of_lt_of_le (hG _ _) (by decide)) dX12_expandList_62 (by decide) (fun q9 => absurd q9 (by omega)) (fun c => ?_)
      refine lv_iload hx hb dX12_expandList_65 (lv_at hl 1 rfl) ?_
      refine lv_if_ge (tgt := 77) hx hb dX12_expandList_67 (by decide) (fun z => absurd z (mnge (by omega))) (fun _ => ?_)
      refine lv_iconst (v := nI 0 - 1) hx hb dX12_expandList_70 (by decide) ?_
      refine lv_iload hx hb dX12_expandList_71 (lv_at hl 1 rfl) ?_
      refine lv_isub hx hb dX12_expandList_73 ?_
      refine tp_i mback ?_
      refine lv_goto (tgt := 78) hx hb dX12_expandList_74 (by decide) ?_
      refine lv_istore (lv' := [(7, .int (nI n8)), (6, .int (nI 0)), (5, .int ((nI 0 - 1) - nI n8)), (4, .int (nI hd)), (0, .ref z0), (1, .int (nI f)), (2, .int (nI en)), (3, .int (nI dp))]) hx hb dX12_expandList_78 hl (by decide) rfl (fun ls hl => ?_)
      refine lv_iload hx hb dX12_expandList_80 (lv_at hl 1 rfl) ?_
      refine bz_eq (tgt := 118) hx hb (by first | omega | exact Nat.lt_of_lt_of_le (hG _ _) (by decide)) dX12_expandList_82 (by decide) (fun c => ?_) (fun q9 => absurd q9 (by omega))
      refine lv_iload hx hb dX12_expandList_118 (lv_at hl 0 rfl) ?_
      refine bz_lt (tgt := 141) hx hb (by omega) dX12_expandList_120 (by decide) (fun z => z.elim) (fun _ => ?_)
      refine lv_iload hx hb dX12_expandList_123 (lv_at hl 0 rfl) ?_
      refine lv_iconst (v := nI 4) hx hb dX12_expandList_125 (by decide) ?_
      refine bn_gt (tgt := 141) hx hb (by first | omega | exact Nat.lt_of_lt_of_le (hG _ _) (by decide)) (by first | omega | exact Nat.lt_of_lt_of_le (hG _ _) (by decide)) dX12_expandList_126 (by decide) (fun c1 => ?_) (fun c1 => ?_)
      · refine lv_iload hx hb dX12_expandList_141 (lv_at hl 0 rfl) ?_
        refine lv_bipush (v := nI 8) hx hb dX12_expandList_143 (by decide) ?_
        refine bn_le (tgt := 178) hx hb (by first | omega | exact Nat.lt_of_lt_of_le (hG _ _) (by decide)) (by first | omega | exact Nat.lt_of_lt_of_le (hG _ _) (by decide)) dX12_expandList_145 (by decide) (fun c2 => ?_) (fun c2 => ?_)
        · refine lp_plain hx hb hml hown hts hK hA hxi htk h33 hf hen hdp hbu (fun N1 G1 B1 H locs hpo hP hD hS ls hl => ?_) _ _ hP hD hS ls (lv_sub hl [4, 5, 6, 7] rfl)
          exact W.vret hx hb hr (fun t ht hW => ⟨⟨(N1, G1, B1, pl), rfl, ⟨rfl, hpo⟩, by rw [ht]; exact hP, va_K.moved hW.alike hK, hD⟩, hS.F ht⟩) hS.2.2 dX12_expandList_204
        · have g7 := hG 7 n8
          refine lv_aload_n hx hb dX12_expandList_148 rfl (lv_at hl 4 rfl) ?_
          refine mg_7 hx hb hts inX12_expandList hown hK hP (hts _ lkX12_expandList_f25) dX12_expandList_149 ?_
          refine lv_iload hx hb dX12_expandList_152 (lv_at hl 0 rfl) ?_
          refine ml_7 hx hb hK hP (by omega) dX12_expandList_154 ?_
          refine bz_le (tgt := 178) hx hb (by first | omega | exact Nat.lt_of_lt_of_le (hG _ _) (by decide)) dX12_expandList_155 (by decide) (fun c3 => ?_) (fun c3 => ?_)
          · refine lp_plain hx hb hml hown hts hK hA hxi htk h33 hf hen hdp hbu (fun N1 G1 B1 H locs hpo hP hD hS ls hl => ?_) _ _ hP hD hS ls (lv_sub hl [4, 5, 6, 7] rfl)
            exact W.vret hx hb hr (fun t ht hW => ⟨⟨(N1, G1, B1, pl), rfl, ⟨rfl, hpo⟩, by rw [ht]; exact hP, va_K.moved hW.alike hK, hD⟩, hS.F ht⟩) hS.2.2 dX12_expandList_204
          · have hmm := hxi.2.2.2.2.2.2.2.1 n8 (by omega) c3
            refine lv_aload_n hx hb dX12_expandList_158 rfl (lv_at hl 4 rfl) ?_
            refine lv_aload_n hx hb dX12_expandList_159 rfl (lv_at hl 4 rfl) ?_
            refine mg_7 hx hb hts inX12_expandList hown hK hP (hts _ lkX12_expandList_f25) dX12_expandList_160 ?_
            refine lv_iload hx hb dX12_expandList_163 (lv_at hl 0 rfl) ?_
            refine ml_7 hx hb hK hP (by omega) dX12_expandList_165 ?_
            refine lv_iconst (v := nI 1) hx hb dX12_expandList_166 (by decide) ?_
            refine lv_isub hx hb dX12_expandList_167 ?_
            refine tp_i (pk_sub (a := G 7 n8) (b := 1) (by omega)) ?_
            refine lv_iconst (v := nI 0) hx hb dX12_expandList_168 (by decide) ?_
            refine lv_iload_n hx hb dX12_expandList_169 rfl (lv_at hl 5 rfl) ?_
            refine lv_iload_n hx hb dX12_expandList_170 rfl (lv_at hl 6 rfl) ?_
            refine lv_iload_n hx hb dX12_expandList_171 rfl (lv_at hl 7 rfl) ?_
            refine mcl_v (As := [.int (nI ((G 7 n8) - 1)), .int (nI 0), .int (nI f), .int (nI en), .int (nI dp)]) (rest := []) ⟨hx, hb, hml, hown, hts⟩ (m_use l dC dI cB cC cI cJ cZ z0 R pl N G B (G 7 n8 - 1) 0 f en dp w x sz az hxi h33 hmm.2 hmm.1 hev.1 hf hen hdp htk hbu H.size) (cwV 5 hts kX12_expandList_X12_use_270 rfl rfl rfl (by decide +kernel) ⟨Nat.le_of_ble_eq_true rfl, Nat.le_of_ble_eq_true rfl⟩) hK hP hD hS hA rfl rfl hl.1 (lv_room (Nat.le_of_ble_eq_true rfl)) dX12_expandList_172 hcs (fun  N_62 G_63 B_64 pl_65 hw H locs hP hD hS => ?_)
            dsimp only at hw
            obtain ⟨e4, hw⟩ := hw
            rw [e4] at hP hD
            refine lv_goto (tgt := 204) hx hb dX12_expandList_175 (by decide) ?_
            exact W.vret hx hb hr (fun t ht hW => ⟨⟨(N_62, G_63, B_64, pl), rfl, ⟨rfl, hw⟩, by rw [ht]; exact hP, va_K.moved hW.alike hK, hD⟩, hS.F ht⟩) hS.2.2 dX12_expandList_204
      · refine lv_aload_n hx hb dX12_expandList_129 rfl (lv_at hl 4 rfl) ?_
        refine lv_iload hx hb dX12_expandList_130 (lv_at hl 0 rfl) ?_
        refine lv_iload_n hx hb dX12_expandList_132 rfl (lv_at hl 5 rfl) ?_
        refine lv_iload_n hx hb dX12_expandList_133 rfl (lv_at hl 6 rfl) ?_
        refine lv_iload_n hx hb dX12_expandList_134 rfl (lv_at hl 7 rfl) ?_
        refine mcl_v (As := [.int (nI n8), .int (nI f), .int (nI en), .int (nI dp)]) (rest := []) ⟨hx, hb, hml, hown, hts⟩ (m_expandWord l dC dI cB cC cI cJ cZ z0 R pl N G B n8 f en dp w x sz az hxi htk h33 hf hen hdp hbu c1 H.size) (cwV 4 hts kX12_expandList_X12_expandWord_273 rfl rfl rfl (by decide +kernel) ⟨Nat.le_of_ble_eq_true rfl, Nat.le_of_ble_eq_true rfl⟩) hK hP hD hS hA rfl rfl hl.1 (lv_room (Nat.le_of_ble_eq_true rfl)) dX12_expandList_135 hcs (fun  N_57 G_58 B_59 pl_60 hw H locs hP hD hS => ?_)
        dsimp only at hw
        obtain ⟨e4, hw⟩ := hw
        rw [e4] at hP hD
        refine lv_goto (tgt := 204) hx hb dX12_expandList_138 (by decide) ?_
        exact W.vret hx hb hr (fun t ht hW => ⟨⟨(N_57, G_58, B_59, pl), rfl, ⟨rfl, hw⟩, by rw [ht]; exact hP, va_K.moved hW.alike hK, hD⟩, hS.F ht⟩) hS.2.2 dX12_expandList_204
  · rw [if_neg hcn] at hw
    subst hw
    refine bz_eq (tgt := 32) hx hb (by first | omega | exact Nat.lt_of_lt_of_le (hG _ _) (by decide)) dX12_expandList_14 (by decide) (fun c => ?_) (fun q9 => absurd q9 (by omega))
    refine lv_iconst (v := nI 0 - 1) hx hb dX12_expandList_32 (by decide) ?_
    refine lv_istore (lv' := [(5, .int (nI 0 - 1)), (4, .int (nI hd)), (0, .ref z0), (1, .int (nI f)), (2, .int (nI en)), (3, .int (nI dp))]) hx hb dX12_expandList_33 hl (by decide) rfl (fun ls hl => ?_)
    refine lv_aload_n hx hb dX12_expandList_35 rfl (lv_at hl 2 rfl) ?_
    refine lv_iload hx hb dX12_expandList_36 (lv_at hl 1 rfl) ?_
    refine mcl_i (As := [.int (nI hd)]) (rest := []) ⟨hx, hb, hml, hown, hts⟩ (m_isName l dC dI cB cC cI cJ cZ z0 R pl N G B hd hG2 hhd8 H.size) (cwV 1 hts kX12_expandList_X12_isName_180 rfl rfl rfl (by decide +kernel) ⟨Nat.le_of_ble_eq_true rfl, Nat.le_of_ble_eq_true rfl⟩) hK hP hD hS hA rfl rfl hl.1 (lv_room (Nat.le_of_ble_eq_true rfl)) dX12_expandList_38 hcs (fun r_16 N_12 G_13 B_14 pl_15 hw H locs hP hD hS => ?_)
    dsimp only at hw
    obtain ⟨e1, e2, e3, e4, hw⟩ := hw
    rw [e1, e2, e3, e4] at hP hD
    rw [if_neg hcn] at hw
    subst hw
    refine bz_eq (tgt := 53) hx hb (by first | omega | exact Nat.lt_of_lt_of_le (hG _ _) (by decide)) dX12_expandList_41 (by decide) (fun c => ?_) (fun q9 => absurd q9 (by omega))
    refine lv_iconst (v := nI 0) hx hb dX12_expandList_53 (by decide) ?_
    refine lv_istore (lv' := [(6, .int (nI 0)), (5, .int (nI 0 - 1)), (4, .int (nI hd)), (0, .ref z0), (1, .int (nI f)), (2, .int (nI en)), (3, .int (nI dp))]) hx hb dX12_expandList_54 hl (by decide) rfl (fun ls hl => ?_)
    refine lv_aload_n hx hb dX12_expandList_56 rfl (lv_at hl 3 rfl) ?_
    refine lv_iload hx hb dX12_expandList_57 (lv_at hl 2 rfl) ?_
    refine mcl_i (As := [.int (nI hd)]) (rest := []) ⟨hx, hb, hml, hown, hts⟩ (m_isName l dC dI cB cC cI cJ cZ z0 R pl N G B hd hG2 hhd8 H.size) (cwV 1 hts kX12_expandList_X12_isName_180 rfl rfl rfl (by decide +kernel) ⟨Nat.le_of_ble_eq_true rfl, Nat.le_of_ble_eq_true rfl⟩) hK hP hD hS hA rfl rfl hl.1 (lv_room (Nat.le_of_ble_eq_true rfl)) dX12_expandList_59 hcs (fun r_21 N_17 G_18 B_19 pl_20 hw H locs hP hD hS => ?_)
    dsimp only at hw
    obtain ⟨e1, e2, e3, e4, hw⟩ := hw
    rw [e1, e2, e3, e4] at hP hD
    rw [if_neg hcn] at hw
    subst hw
    refine bz_eq (tgt := 77) hx hb (by first | omega | exact Nat.lt_of_lt_of_le (hG _ _) (by decide)) dX12_expandList_62 (by decide) (fun c => ?_) (fun q9 => absurd q9 (by omega))
    refine lv_iconst (v := nI 0 - 1) hx hb dX12_expandList_77 (by decide) ?_
    refine lv_istore (lv' := [(7, .int (nI 0 - 1)), (6, .int (nI 0)), (5, .int (nI 0 - 1)), (4, .int (nI hd)), (0, .ref z0), (1, .int (nI f)), (2, .int (nI en)), (3, .int (nI dp))]) hx hb dX12_expandList_78 hl (by decide) rfl (fun ls hl => ?_)
    refine lv_iload hx hb dX12_expandList_80 (lv_at hl 1 rfl) ?_
    refine bz_eq (tgt := 118) hx hb (by first | omega | exact Nat.lt_of_lt_of_le (hG _ _) (by decide)) dX12_expandList_82 (by decide) (fun c => ?_) (fun q9 => absurd q9 (by omega))
    refine lv_iload hx hb dX12_expandList_118 (lv_at hl 0 rfl) ?_
    refine bo_lt (tgt := 141) hx hb (by decide) dX12_expandList_120 (by decide) (fun _ => ?_) (fun z => absurd z (by decide))
    refine lv_iload hx hb dX12_expandList_141 (lv_at hl 0 rfl) ?_
    refine lv_bipush (v := nI 8) hx hb dX12_expandList_143 (by decide) ?_
    refine lv_icmp_le (tgt := 178) hx hb dX12_expandList_145 (by decide) (fun _ => ?_) (fun z => absurd (by decide) z)
    refine lp_plain hx hb hml hown hts hK hA hxi htk h33 hf hen hdp hbu (fun N1 G1 B1 H locs hpo hP hD hS ls hl => ?_) _ _ hP hD hS ls (lv_sub hl [4, 5, 6, 7] rfl)
    exact W.vret hx hb hr (fun t ht hW => ⟨⟨(N1, G1, B1, pl), rfl, ⟨rfl, hpo⟩, by rw [ht]; exact hP, va_K.moved hW.alike hK, hD⟩, hS.F ht⟩) hS.2.2 dX12_expandList_204

set_option maxHeartbeats 4000000 in
set_option maxRecDepth 100000 in
/-- expand -/
theorem m_expand (l : Launch) (dC : Nat → ClassId) (dI : Nat → Nat → Nat) (cB cC cI cJ cZ : ClassId) (z0 : Nat) (R : Nat → Nat) (pl : Int32) (N : Nat → Nat) (G : Nat → Nat → Nat) (B : Nat → Nat → Int32) (f en dp w x : Nat) (sz az : Nat → Nat) (hxi : XI N G sz az) (htk : TSK N G sz w) (h33 : N 33 = 0) (hf : f < N 14) (hen : en < N 23) (hdp : dp ≤ 101) (hbu : BUD N (w + (3 * sz f - 1)) x) (s0 : Nat) : Met l yX12_expand vX12_expand { frames := 8, cells := 0, slots := 0, locals := 200 } (va_Pc [.ref z0, .int (nI f), .int (nI en), .int (nI dp)] (mPre dC dI cB cC cI cJ cZ z0 R pl N G B s0)) (va_Qv (fun u : ((Nat → Nat) × (Nat → Nat → Nat) × (Nat → Nat → Int32) × Int32) => match u with | (N1, G1, B1, pl1) => pl1 = pl ∧ XPOST N G B sz x N1 G1 B1) (mPost dC dI cB cC cI cJ cZ z0 R (va_A (MW cB cC cI cJ cZ z0 R pl N G B) s0)) (va_A (MW cB cC cI cJ cZ z0 R pl N G B) s0)) 0 0 (va_A (MW cB cC cI cJ cZ z0 R pl N G B) s0) := by
  refine Met.ofW (cc := cX12_expand) (maxL := 4) (ret := none) (by decide) rfl ?_
  intro p e s m args below meth c s₁ B9 hml hv
  obtain ⟨rfl, hsz, hP, hK, hD0⟩ := hv
  have hx := B9.exec
  have hb := B9.bytes
  have hr := B9.returns
  have hts := atoms_spec (ws := vX12_expand) B9.pre
  have hown : s.vm.findClass RX12 = some m.cls := findClass_of_methodNamed B9.named
  have hlocks := B9.notSynchronized
  subst hsz
  have hD := hD0.self (sz := s.heap.size)
  generalize hAe : va_A (MW cB cC cI cJ cZ z0 R pl N G B) s.heap.size = A at hD ⊢
  have hA : ∀ q : Nat, s.heap.size ≤ q → A q := fun q h => by rw [← hAe]; exact Or.inr h
  have hS : va_S A s.heap s.heap [] := va_S.rf
  have hcs : 0 + 0 ≤ (0 : Nat) ∧ 0 + 0 ≤ (0 : Nat) := ⟨Nat.le_refl 0, Nat.le_refl 0⟩
  have hl := lv_entry ([.ref z0, .int (nI f), .int (nI en), .int (nI dp)]) (n := 4) (Nat.le_of_ble_eq_true rfl)
  rw [lg_entry_eq]
  generalize (lg_sl ([.ref z0, .int (nI f), .int (nI en), .int (nI dp)]) ++ List.replicate (4 - (lg_sl ([.ref z0, .int (nI f), .int (nI en), .int (nI dp)])).length) Slot.unset).toArray = ls at hl ⊢
  have hl : lv_has ls 4 [(0, .ref z0), (1, .int (nI f)), (2, .int (nI en)), (3, .int (nI dp))] := hl
  have ht9 := hxi.1.2.2.1
  have hG := hxi.1.1
  have hG2 := hG
  have hal := hxi.1.2.1
  have u6 := ht9.1
  have u1 := ht9.one hf
  have hf8 : f < 90000 := by omega
  have hnf := hxi.2.2.2.2.2.1
  have hlt := hxi.2.2.2.2.1
  have hev := hxi.2.2.2.1
  have hbb : w + (3 * sz f - 1) ≤ 190000 := by have := hbu.1; omega
  have g10 := hG 10 f
  have g12 := hG 12 f
  have hrun : RUN N G B sz N G B az w 0 := RUN.start hxi htk h33
  have hnum := hrun.num hbu (by omega) (by omega)
  have hG2 := hrun.1.1.1
  have htr := hrun.1.1.2.2.1
  have hal2 := hrun.1.1.2.1
  have n14 := hrun.2.2.2.2.2.2.2.1
  have n23 := hrun.2.2.2.2.2.2.2.2
  have n33 := hrun.2.2.2.2.2.1
  refine lv_aload_n hx hb dX12_expand_0 rfl (lv_at hl 0 rfl) ?_
  refine mg_10 hx hb hts inX12_expand hown hK hP (hts _ lkX12_expand_f32) dX12_expand_1 ?_
  refine lv_iload_n hx hb dX12_expand_4 rfl (lv_at hl 1 rfl) ?_
  refine ml_10 hx hb hK hP (by omega) dX12_expand_5 ?_
  refine bz_ne (tgt := 22) hx hb (by first | omega | exact Nat.lt_of_lt_of_le (hG _ _) (by decide)) dX12_expand_6 (by decide) (fun c1 => ?_) (fun c1 => ?_)
  · refine lv_aload_n hx hb dX12_expand_22 rfl (lv_at hl 0 rfl) ?_
    refine lv_iload_n hx hb dX12_expand_23 rfl (lv_at hl 1 rfl) ?_
    refine mcl_i (As := [.int (nI f)]) (rest := []) ⟨hx, hb, hml, hown, hts⟩ (m_isName l dC dI cB cC cI cJ cZ z0 R pl N G B f hG2 (by omega) s.heap.size) (cwV 1 hts kX12_expand_X12_isName_180 rfl rfl rfl (by decide +kernel) ⟨Nat.le_of_ble_eq_true rfl, Nat.le_of_ble_eq_true rfl⟩) hK hP hD hS hA rfl rfl hl.1 (lv_room (Nat.le_of_ble_eq_true rfl)) dX12_expand_24 hcs (fun r_11 N_7 G_8 B_9 pl_10 hw H locs hP hD hS => ?_)
    dsimp only at hw
    obtain ⟨e1, e2, e3, e4, hw⟩ := hw
    rw [e1, e2, e3, e4] at hP hD
    have hw : r_11 = nI (if G 10 f = 1 then 1 else 0) := hw
    by_cases c_6 : G 10 f = 1
    · rw [if_pos c_6] at hw
      subst hw
      refine bz_eq (tgt := 39) hx hb (by first | omega | exact Nat.lt_of_lt_of_le (hG _ _) (by decide)) dX12_expand_27 (by decide) (fun q9 => absurd q9 (by omega)) (fun c => ?_)
      refine lv_aload_n hx hb dX12_expand_30 rfl (lv_at hl 0 rfl) ?_
      refine lv_iload_n hx hb dX12_expand_31 rfl (lv_at hl 1 rfl) ?_
      refine lv_iload_n hx hb dX12_expand_32 rfl (lv_at hl 2 rfl) ?_
      refine mcl_v (As := [.int (nI f), .int (nI en)]) (rest := []) ⟨hx, hb, hml, hown, hts⟩ (m_sayName l dC dI cB cC cI cJ cZ z0 R pl N G B f en w (w + (3 * sz f - 1)) x sz az hxi htk hbu (by omega) h33 hf c_6 hen H.size) (cwV 2 hts kX12_expand_X12_sayName_259 rfl rfl rfl (by decide +kernel) ⟨Nat.le_of_ble_eq_true rfl, Nat.le_of_ble_eq_true rfl⟩) hK hP hD hS hA rfl rfl hl.1 (lv_room (Nat.le_of_ble_eq_true rfl)) dX12_expand_33 hcs (fun  N_12 G_13 B_14 pl_15 hw H locs hP hD hS => ?_)
      dsimp only at hw
      obtain ⟨e4, hw⟩ := hw
      rw [e4] at hP hD
      refine lv_goto (tgt := 87) hx hb dX12_expand_36 (by decide) ?_
      exact W.vret hx hb hr (fun t ht hW => ⟨⟨(N_12, G_13, B_14, pl), rfl, ⟨rfl, hw⟩, by rw [ht]; exact hP, va_K.moved hW.alike hK, hD⟩, hS.F ht⟩) hS.2.2 dX12_expand_87
    · rw [if_neg c_6] at hw
      subst hw
      refine bz_eq (tgt := 39) hx hb (by first | omega | exact Nat.lt_of_lt_of_le (hG _ _) (by decide)) dX12_expand_27 (by decide) (fun c => ?_) (fun q9 => absurd q9 (by omega))
      refine lv_aload_n hx hb dX12_expand_39 rfl (lv_at hl 0 rfl) ?_
      refine lv_iload_n hx hb dX12_expand_40 rfl (lv_at hl 3 rfl) ?_
      refine lv_bipush (v := nI 100) hx hb dX12_expand_41 (by decide) ?_
      refine bn_gt (tgt := 50) hx hb (by first | omega | exact Nat.lt_of_lt_of_le (hG _ _) (by decide)) (by first | omega | exact Nat.lt_of_lt_of_le (hG _ _) (by decide)) dX12_expand_43 (by decide) (fun c2 => ?_) (fun c2 => ?_)
      · refine lv_iconst (v := nI 0) hx hb dX12_expand_50 (by decide) ?_
        refine lv_iconst (v := nI 2) hx hb dX12_expand_51 (by decide) ?_
        refine mcl_i (As := [.int (nI 0), .int (nI 2)]) (rest := []) ⟨hx, hb, hml, hown, hts⟩ (m_need l dC dI cB cC cI cJ cZ z0 R pl N G B 0 2 (by decide) ⟨by decide, by decide⟩ n33 H.size) (cwV 2 hts kX12_expand_X12_need_255 rfl rfl rfl (by decide +kernel) ⟨Nat.le_of_ble_eq_true rfl, Nat.le_of_ble_eq_true rfl⟩) hK hP hD hS hA rfl rfl hl.1 (lv_room (Nat.le_of_ble_eq_true rfl)) dX12_expand_52 hcs (fun r_21 N_17 G_18 B_19 pl_20 hw H locs hP hD hS => ?_)
        dsimp only at hw
        obtain ⟨e3, e4, e2, hw, e5, e6⟩ := hw
        rw [e6 rfl, e2, e3, e4] at hP hD
        subst hw
        refine bz_eq (tgt := 87) hx hb (by first | omega | exact Nat.lt_of_lt_of_le (hG _ _) (by decide)) dX12_expand_55 (by decide) (fun c => ?_) (fun q9 => absurd q9 (by omega))
        exact W.vret hx hb hr (fun t ht hW => ⟨⟨(va_up N 33 2, G, B, pl), rfl, ⟨rfl, hrun.fail hbu (by omega) (Or.inl rfl) (by decide) (by decide)⟩, by rw [ht]; exact hP, va_K.moved hW.alike hK, hD⟩, hS.F ht⟩) hS.2.2 dX12_expand_87
      · refine lv_iconst (v := nI 1) hx hb dX12_expand_46 (by decide) ?_
        refine lv_goto (tgt := 51) hx hb dX12_expand_47 (by decide) ?_
        refine lv_iconst (v := nI 2) hx hb dX12_expand_51 (by decide) ?_
        refine mcl_i (As := [.int (nI 1), .int (nI 2)]) (rest := []) ⟨hx, hb, hml, hown, hts⟩ (m_need l dC dI cB cC cI cJ cZ z0 R pl N G B 1 2 (by decide) ⟨by decide, by decide⟩ n33 H.size) (cwV 2 hts kX12_expand_X12_need_255 rfl rfl rfl (by decide +kernel) ⟨Nat.le_of_ble_eq_true rfl, Nat.le_of_ble_eq_true rfl⟩) hK hP hD hS hA rfl rfl hl.1 (lv_room (Nat.le_of_ble_eq_true rfl)) dX12_expand_52 hcs (fun r_26 N_22 G_23 B_24 pl_25 hw H locs hP hD hS => ?_)
        dsimp only at hw
        obtain ⟨e3, e4, e2, hw, e5, e6⟩ := hw
        rw [e5 rfl, e2, e3, e4] at hP hD
        subst hw
        refine bz_eq (tgt := 87) hx hb (by first | omega | exact Nat.lt_of_lt_of_le (hG _ _) (by decide)) dX12_expand_55 (by decide) (fun q9 => absurd q9 (by omega)) (fun c => ?_)
        refine lv_aload_n hx hb dX12_expand_58 rfl (lv_at hl 0 rfl) ?_
        refine lv_aload_n hx hb dX12_expand_59 rfl (lv_at hl 0 rfl) ?_
        refine mg_12 hx hb hts inX12_expand hown hK hP (hts _ lkX12_expand_f38) dX12_expand_60 ?_
        refine lv_iload_n hx hb dX12_expand_63 rfl (lv_at hl 1 rfl) ?_
        refine ml_12 hx hb hK hP (by omega) dX12_expand_64 ?_
        refine bz_le (tgt := 72) hx hb (by first | omega | exact Nat.lt_of_lt_of_le (hG _ _) (by decide)) dX12_expand_65 (by decide) (fun c3 => ?_) (fun c3 => ?_)
        · refine lv_iconst (v := nI 0) hx hb dX12_expand_72 (by decide) ?_
          refine lv_iconst (v := nI 3) hx hb dX12_expand_73 (by decide) ?_
          refine mcl_i (As := [.int (nI 0), .int (nI 3)]) (rest := []) ⟨hx, hb, hml, hown, hts⟩ (m_need l dC dI cB cC cI cJ cZ z0 R pl N G B 0 3 (by decide) ⟨by decide, by decide⟩ n33 H.size) (cwV 2 hts kX12_expand_X12_need_255 rfl rfl rfl (by decide +kernel) ⟨Nat.le_of_ble_eq_true rfl, Nat.le_of_ble_eq_true rfl⟩) hK hP hD hS hA rfl rfl hl.1 (lv_room (Nat.le_of_ble_eq_true rfl)) dX12_expand_74 hcs (fun r_31 N_27 G_28 B_29 pl_30 hw H locs hP hD hS => ?_)
          dsimp only at hw
          obtain ⟨e3, e4, e2, hw, e5, e6⟩ := hw
          rw [e6 rfl, e2, e3, e4] at hP hD
          subst hw
          refine bz_eq (tgt := 87) hx hb (by first | omega | exact Nat.lt_of_lt_of_le (hG _ _) (by decide)) dX12_expand_77 (by decide) (fun c => ?_) (fun q9 => absurd q9 (by omega))
          exact W.vret hx hb hr (fun t ht hW => ⟨⟨(va_up N 33 3, G, B, pl), rfl, ⟨rfl, hrun.fail hbu (by omega) (Or.inl rfl) (by decide) (by decide)⟩, by rw [ht]; exact hP, va_K.moved hW.alike hK, hD⟩, hS.F ht⟩) hS.2.2 dX12_expand_87
        · refine lv_iconst (v := nI 1) hx hb dX12_expand_68 (by decide) ?_
          refine lv_goto (tgt := 73) hx hb dX12_expand_69 (by decide) ?_
          refine lv_iconst (v := nI 3) hx hb dX12_expand_73 (by decide) ?_
          refine mcl_i (As := [.int (nI 1), .int (nI 3)]) (rest := []) ⟨hx, hb, hml, hown, hts⟩ (m_need l dC dI cB cC cI cJ cZ z0 R pl N G B 1 3 (by decide) ⟨by decide, by decide⟩ n33 H.size) (cwV 2 hts kX12_expand_X12_need_255 rfl rfl rfl (by decide +kernel) ⟨Nat.le_of_ble_eq_true rfl, Nat.le_of_ble_eq_true rfl⟩) hK hP hD hS hA rfl rfl hl.1 (lv_room (Nat.le_of_ble_eq_true rfl)) dX12_expand_74 hcs (fun r_36 N_32 G_33 B_34 pl_35 hw H locs hP hD hS => ?_)
          dsimp only at hw
          obtain ⟨e3, e4, e2, hw, e5, e6⟩ := hw
          rw [e5 rfl, e2, e3, e4] at hP hD
          subst hw
          refine bz_eq (tgt := 87) hx hb (by first | omega | exact Nat.lt_of_lt_of_le (hG _ _) (by decide)) dX12_expand_77 (by decide) (fun q9 => absurd q9 (by omega)) (fun c => ?_)
          refine lv_aload_n hx hb dX12_expand_80 rfl (lv_at hl 0 rfl) ?_
          refine lv_iload_n hx hb dX12_expand_81 rfl (lv_at hl 1 rfl) ?_
          refine lv_iload_n hx hb dX12_expand_82 rfl (lv_at hl 2 rfl) ?_
          refine lv_iload_n hx hb dX12_expand_83 rfl (lv_at hl 3 rfl) ?_
          refine mcl_v (As := [.int (nI f), .int (nI en), .int (nI dp)]) (rest := []) ⟨hx, hb, hml, hown, hts⟩ (m_expandList l dC dI cB cC cI cJ cZ z0 R pl N G B f en dp w x sz az hxi htk h33 hf hen c2 hbu c3 H.size) (cwV 3 hts kX12_expand_X12_expandList_263 rfl rfl rfl (by decide +kernel) ⟨Nat.le_of_ble_eq_true rfl, Nat.le_of_ble_eq_true rfl⟩) hK hP hD hS hA rfl rfl hl.1 (lv_room (Nat.le_of_ble_eq_true rfl)) dX12_expand_84 hcs (fun  N_37 G_38 B_39 pl_40 hw H locs hP hD hS => ?_)
          dsimp only at hw
          obtain ⟨e4, hw⟩ := hw
          rw [e4] at hP hD
          exact W.vret hx hb hr (fun t ht hW => ⟨⟨(N_37, G_38, B_39, pl), rfl, ⟨rfl, hw⟩, by rw [ht]; exact hP, va_K.moved hW.alike hK, hD⟩, hS.F ht⟩) hS.2.2 dX12_expand_87
  · refine lv_aload_n hx hb dX12_expand_9 rfl (lv_at hl 0 rfl) ?_
    refine lv_aload_n hx hb dX12_expand_10 rfl (lv_at hl 0 rfl) ?_
    refine mg_11 hx hb hts inX12_expand hown hK hP (hts _ lkX12_expand_f35) dX12_expand_11 ?_
    refine lv_iload_n hx hb dX12_expand_14 rfl (lv_at hl 1 rfl) ?_
    refine ml_11 hx hb hK hP (by omega) dX12_expand_15 ?_
    refine mcl_v (As := [.int (nI (G 11 f))]) (rest := []) ⟨hx, hb, hml, hown, hts⟩ (m_sayNumber l dC dI cB cC cI cJ cZ z0 R pl N G B (G 11 f) (hG 11 f) (by omega) s.heap.size) (cwV 1 hts kX12_expand_X12_sayNumber_242 rfl rfl rfl (by decide +kernel) ⟨Nat.le_of_ble_eq_true rfl, Nat.le_of_ble_eq_true rfl⟩) hK hP hD hS hA rfl rfl hl.1 (lv_room (Nat.le_of_ble_eq_true rfl)) dX12_expand_16 hcs (fun  N_1 G_2 B_3 pl_4 hw H locs hP hD hS => ?_)
    dsimp only at hw
    obtain ⟨e2, e4, n9, X, hn9, e1, e3⟩ := hw
    have hrun : RUN N G B sz N_1 G B_3 az w 8 := by rw [e1, e3]; exact hrun.say n9 X (by omega)
    rw [e2, e4] at hP hD
    have hnum := hrun.num hbu (by omega) (by omega)
    have hG2 := hrun.1.1.1
    have htr := hrun.1.1.2.2.1
    have hal2 := hrun.1.1.2.1
    have n14 := hrun.2.2.2.2.2.2.2.1
    have n23 := hrun.2.2.2.2.2.2.2.2
    have n33 := hrun.2.2.2.2.2.1
    refine lv_goto (tgt := 87) hx hb dX12_expand_19 (by decide) ?_
    exact W.vret hx hb hr (fun t ht hW => ⟨⟨(N_1, G, B_3, pl), rfl, ⟨rfl, hrun.post hbu (by omega) (by decide)⟩, by rw [ht]; exact hP, va_K.moved hW.alike hK, hD⟩, hS.F ht⟩) hS.2.2 dX12_expand_87
