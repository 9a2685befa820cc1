def oX3_turnsOf : List Cond := [Cond.fieldLink RX3 22 "MacroScopes$Maker" "forms" "LMacroScopes$Forms;", Cond.methodLink RX3 53 yX1_after, Cond.instanceMethod yX1_after, Cond.selects RX1 yX1_after yX1_after, Cond.initialized RX1, Cond.fieldLink RX3 30 "MacroScopes$Maker" "matches" "LMacroScopes$Matches;", Cond.fieldLink RX3 26 "MacroScopes$Maker" "names" "LMacroScopes$Names;", Cond.methodLink RX3 66 yX1_nameOf, Cond.instanceMethod yX1_nameOf, Cond.selects RX1 yX1_nameOf yX1_nameOf, Cond.methodLink RX3 69 yX6_noteOf, Cond.instanceMethod yX6_noteOf, Cond.selects RX6 yX6_noteOf yX6_noteOf, Cond.initialized RX6, Cond.methodLink RX3 72 yX5_timesOf, Cond.instanceMethod yX5_timesOf, Cond.selects RX5 yX5_timesOf yX5_timesOf, Cond.initialized RX5, Cond.methodLink RX3 75 Lib.Math.max.name, Cond.static Lib.Math.max.name, Cond.initialized "java/lang/Math", Cond.code Lib.Math.max.name Lib.Math.max.code 2 (some .int)]
def vX3_turnsOf : List Cond := .code yX3_turnsOf cX3_turnsOf 5 (some .int) :: (oX3_turnsOf ++ (vX1_after ++ (vX1_nameOf ++ (vX6_noteOf ++ (vX5_timesOf ++ (wsX30))))))
theorem lkX3_turnsOf_f22 : Cond.fieldLink RX3 22 "MacroScopes$Maker" "forms" "LMacroScopes$Forms;" ∈ vX3_turnsOf := List.mem_cons_of_mem _ (List.mem_append_left _ (List.mem_of_getElem? (i := 0) rfl))
theorem lkX3_turnsOf_f30 : Cond.fieldLink RX3 30 "MacroScopes$Maker" "matches" "LMacroScopes$Matches;" ∈ vX3_turnsOf := List.mem_cons_of_mem _ (List.mem_append_left _ (List.mem_of_getElem? (i := 5) rfl))
theorem lkX3_turnsOf_f26 : Cond.fieldLink RX3 26 "MacroScopes$Maker" "names" "LMacroScopes$Names;" ∈ vX3_turnsOf := List.mem_cons_of_mem _ (List.mem_append_left _ (List.mem_of_getElem? (i := 6) rfl))
theorem lkX3_turnsOf_l75 : Cond.methodLink RX3 75 Lib.Math.max.name ∈ vX3_turnsOf := List.mem_cons_of_mem _ (List.mem_append_left _ (List.mem_of_getElem? (i := 18) rfl))
theorem lkX3_turnsOf_smax : Cond.static Lib.Math.max.name ∈ vX3_turnsOf := List.mem_cons_of_mem _ (List.mem_append_left _ (List.mem_of_getElem? (i := 19) rfl))
theorem lkX3_turnsOf_zmath : Cond.initialized "java/lang/Math" ∈ vX3_turnsOf := List.mem_cons_of_mem _ (List.mem_append_left _ (List.mem_of_getElem? (i := 20) rfl))
theorem lkX3_turnsOf_kmax : Cond.code Lib.Math.max.name Lib.Math.max.code 2 (some .int) ∈ vX3_turnsOf := List.mem_cons_of_mem _ (List.mem_append_left _ (List.mem_of_getElem? (i := 21) rfl))
theorem inX3_turnsOf_X3 : ∀ w ∈ wsX30, w ∈ vX3_turnsOf := fun w h => List.mem_cons_of_mem _ (List.mem_append_right _ (List.mem_append_right _ (List.mem_append_right _ (List.mem_append_right _ (List.mem_append_right _ (h))))))
theorem kX3_turnsOf_X1_after_53 : GoodIn vX3_turnsOf (wsV RX3 53 RX1 yX1_after vX1_after) := goodIn_sub (fun w h => (List.mem_append.mp h).elim (fun h => List.mem_cons_of_mem _ (List.mem_append_left _ ((by decide +kernel : ∀ w ∈ ([.methodLink RX3 53 yX1_after, .instanceMethod yX1_after, .selects RX1 yX1_after yX1_after, .initialized RX1] : List Cond), w ∈ oX3_turnsOf) w h))) (fun h => List.mem_cons_of_mem _ (List.mem_append_right _ (List.mem_append_left _ (h))))) (by decide +kernel)
theorem kX3_turnsOf_X1_nameOf_66 : GoodIn vX3_turnsOf (wsV RX3 66 RX1 yX1_nameOf vX1_nameOf) := goodIn_sub (fun w h => (List.mem_append.mp h).elim (fun h => List.mem_cons_of_mem _ (List.mem_append_left _ ((by decide +kernel : ∀ w ∈ ([.methodLink RX3 66 yX1_nameOf, .instanceMethod yX1_nameOf, .selects RX1 yX1_nameOf yX1_nameOf, .initialized RX1] : List Cond), w ∈ oX3_turnsOf) w h))) (fun h => List.mem_cons_of_mem _ (List.mem_append_right _ (List.mem_append_right _ (List.mem_append_left _ (h)))))) (by decide +kernel)
theorem kX3_turnsOf_X6_noteOf_69 : GoodIn vX3_turnsOf (wsV RX3 69 RX6 yX6_noteOf vX6_noteOf) := goodIn_sub (fun w h => (List.mem_append.mp h).elim (fun h => List.mem_cons_of_mem _ (List.mem_append_left _ ((by decide +kernel : ∀ w ∈ ([.methodLink RX3 69 yX6_noteOf, .instanceMethod yX6_noteOf, .selects RX6 yX6_noteOf yX6_noteOf, .initialized RX6] : List Cond), w ∈ oX3_turnsOf) w h))) (fun h => List.mem_cons_of_mem _ (List.mem_append_right _ (List.mem_append_right _ (List.mem_append_right _ (List.mem_append_left _ (h))))))) (by decide +kernel)
theorem kX3_turnsOf_X5_timesOf_72 : GoodIn vX3_turnsOf (wsV RX3 72 RX5 yX5_timesOf vX5_timesOf) := goodIn_sub (fun w h => (List.mem_append.mp h).elim (fun h => List.mem_cons_of_mem _ (List.mem_append_left _ ((by decide +kernel : ∀ w ∈ ([.methodLink RX3 72 yX5_timesOf, .instanceMethod yX5_timesOf, .selects RX5 yX5_timesOf yX5_timesOf, .initialized RX5] : List Cond), w ∈ oX3_turnsOf) w h))) (fun h => List.mem_cons_of_mem _ (List.mem_append_right _ (List.mem_append_right _ (List.mem_append_right _ (List.mem_append_right _ (List.mem_append_left _ (h)))))))) (by decide +kernel)
def oX3_isEven : List Cond := [Cond.fieldLink RX3 22 "MacroScopes$Maker" "forms" "LMacroScopes$Forms;", Cond.methodLink RX3 57 yX1_isRepeated, Cond.instanceMethod yX1_isRepeated, Cond.selects RX1 yX1_isRepeated yX1_isRepeated, Cond.initialized RX1, Cond.methodLink RX3 61 yX3_turnsOf, Cond.instanceMethod yX3_turnsOf, Cond.selects RX3 yX3_turnsOf yX3_turnsOf, Cond.initialized RX3, Cond.methodLink RX3 53 yX1_after, Cond.instanceMethod yX1_after, Cond.selects RX1 yX1_after yX1_after]
def vX3_isEven : List Cond := .code yX3_isEven cX3_isEven 4 (some .boolean) :: (oX3_isEven ++ (vX1_isRepeated ++ (vX3_turnsOf ++ (vX1_after ++ (wsX30)))))
theorem lkX3_isEven_f22 : Cond.fieldLink RX3 22 "MacroScopes$Maker" "forms" "LMacroScopes$Forms;" ∈ vX3_isEven := List.mem_cons_of_mem _ (List.mem_append_left _ (List.mem_of_getElem? (i := 0) rfl))
theorem inX3_isEven_X3 : ∀ w ∈ wsX30, w ∈ vX3_isEven := fun w h => List.mem_cons_of_mem _ (List.mem_append_right _ (List.mem_append_right _ (List.mem_append_right _ (List.mem_append_right _ (h)))))
theorem kX3_isEven_X1_isRepeated_57 : GoodIn vX3_isEven (wsV RX3 57 RX1 yX1_isRepeated vX1_isRepeated) := goodIn_sub (fun w h => (List.mem_append.mp h).elim (fun h => List.mem_cons_of_mem _ (List.mem_append_left _ ((by decide +kernel : ∀ w ∈ ([.methodLink RX3 57 yX1_isRepeated, .instanceMethod yX1_isRepeated, .selects RX1 yX1_isRepeated yX1_isRepeated, .initialized RX1] : List Cond), w ∈ oX3_isEven) w h))) (fun h => List.mem_cons_of_mem _ (List.mem_append_right _ (List.mem_append_left _ (h))))) (by decide +kernel)
theorem kX3_isEven_X3_turnsOf_61 : GoodIn vX3_isEven (wsV RX3 61 RX3 yX3_turnsOf vX3_turnsOf) := goodIn_sub (fun w h => (List.mem_append.mp h).elim (fun h => List.mem_cons_of_mem _ (List.mem_append_left _ ((by decide +kernel : ∀ w ∈ ([.methodLink RX3 61 yX3_turnsOf, .instanceMethod yX3_turnsOf, .selects RX3 yX3_turnsOf yX3_turnsOf, .initialized RX3] : List Cond), w ∈ oX3_isEven) w h))) (fun h => List.mem_cons_of_mem _ (List.mem_append_right _ (List.mem_append_right _ (List.mem_append_left _ (h)))))) (by decide +kernel)
theorem kX3_isEven_X1_after_53 : GoodIn vX3_isEven (wsV RX3 53 RX1 yX1_after vX1_after) := goodIn_sub (fun w h => (List.mem_append.mp h).elim (fun h => List.mem_cons_of_mem _ (List.mem_append_left _ ((by decide +kernel : ∀ w ∈ ([.methodLink RX3 53 yX1_after, .instanceMethod yX1_after, .selects RX1 yX1_after yX1_after, .initialized RX1] : List Cond), w ∈ oX3_isEven) w h))) (fun h => List.mem_cons_of_mem _ (List.mem_append_right _ (List.mem_append_right _ (List.mem_append_right _ (List.mem_append_left _ (h))))))) (by decide +kernel)
def oX3_build : List Cond := [Cond.fieldLink RX3 22 "MacroScopes$Maker" "forms" "LMacroScopes$Forms;", Cond.methodLink RX3 94 yX1_endList, Cond.instanceMethod yX1_endList, Cond.selects RX1 yX1_endList yX1_endList, Cond.initialized RX1, Cond.fieldLink RX3 18 "MacroScopes$Maker" "tooMuch" "Z", Cond.methodLink RX3 53 yX1_after, Cond.instanceMethod yX1_after, Cond.selects RX1 yX1_after yX1_after, Cond.methodLink RX3 57 yX1_isRepeated, Cond.instanceMethod yX1_isRepeated, Cond.selects RX1 yX1_isRepeated yX1_isRepeated, Cond.methodLink RX3 49 yX3_build, Cond.instanceMethod yX3_build, Cond.selects RX3 yX3_build yX3_build, Cond.initialized RX3, Cond.methodLink RX3 90 yX3_buildTurns, Cond.instanceMethod yX3_buildTurns, Cond.selects RX3 yX3_buildTurns yX3_buildTurns, Cond.methodLink RX3 81 yX1_isList, Cond.instanceMethod yX1_isList, Cond.selects RX1 yX1_isList yX1_isList, Cond.methodLink RX3 87 yX3_addList, Cond.instanceMethod yX3_addList, Cond.selects RX3 yX3_addList yX3_addList, Cond.methodLink RX3 84 yX3_buildPart, Cond.instanceMethod yX3_buildPart, Cond.selects RX3 yX3_buildPart yX3_buildPart]
def oX3_buildTurns : List Cond := [Cond.fieldLink RX3 18 "MacroScopes$Maker" "tooMuch" "Z", Cond.methodLink RX3 49 yX3_build, Cond.instanceMethod yX3_build, Cond.selects RX3 yX3_build yX3_build, Cond.initialized RX3, Cond.methodLink RX3 61 yX3_turnsOf, Cond.instanceMethod yX3_turnsOf, Cond.selects RX3 yX3_turnsOf yX3_turnsOf]
def qgBD : List Cond := [.code yX3_build cX3_build 8 none, .code yX3_buildTurns cX3_buildTurns 5 none]
def bgBD : List Cond := qgBD ++ (oX3_build ++ (oX3_buildTurns ++ (vX1_endList ++ (vX1_after ++ (vX1_isRepeated ++ (vX1_isList ++ (vX3_addList ++ (vX3_buildPart ++ (vX3_turnsOf ++ (wsX30))))))))))
def vX3_build : List Cond := .code yX3_build cX3_build 8 none :: bgBD
def vX3_buildTurns : List Cond := .code yX3_buildTurns cX3_buildTurns 5 none :: bgBD
theorem lkX3_build_f22 : Cond.fieldLink RX3 22 "MacroScopes$Maker" "forms" "LMacroScopes$Forms;" ∈ vX3_build := List.mem_cons_of_mem _ (List.mem_append_right _ (List.mem_append_left _ (List.mem_of_getElem? (i := 0) rfl)))
theorem lkX3_build_f18 : Cond.fieldLink RX3 18 "MacroScopes$Maker" "tooMuch" "Z" ∈ vX3_build := List.mem_cons_of_mem _ (List.mem_append_right _ (List.mem_append_left _ (List.mem_of_getElem? (i := 5) rfl)))
theorem inX3_build_X3 : ∀ w ∈ wsX30, w ∈ vX3_build := fun w h => List.mem_cons_of_mem _ (List.mem_append_right _ (List.mem_append_right _ (List.mem_append_right _ (List.mem_append_right _ (List.mem_append_right _ (List.mem_append_right _ (List.mem_append_right _ (List.mem_append_right _ (List.mem_append_right _ (List.mem_append_right _ (h)))))))))))
theorem kX3_build_X1_endList_94 : GoodIn vX3_build (wsV RX3 94 RX1 yX1_endList vX1_endList) := goodIn_sub (fun w h => (List.mem_append.mp h).elim (fun h => List.mem_cons_of_mem _ (List.mem_append_right _ (List.mem_append_left _ ((by decide +kernel : ∀ w ∈ ([.methodLink RX3 94 yX1_endList, .instanceMethod yX1_endList, .selects RX1 yX1_endList yX1_endList, .initialized RX1] : List Cond), w ∈ oX3_build) w h)))) (fun h => List.mem_cons_of_mem _ (List.mem_append_right _ (List.mem_append_right _ (List.mem_append_right _ (List.mem_append_left _ (h))))))) (by decide +kernel)
theorem kX3_build_X1_after_53 : GoodIn vX3_build (wsV RX3 53 RX1 yX1_after vX1_after) := goodIn_sub (fun w h => (List.mem_append.mp h).elim (fun h => List.mem_cons_of_mem _ (List.mem_append_right _ (List.mem_append_left _ ((by decide +kernel : ∀ w ∈ ([.methodLink RX3 53 yX1_after, .instanceMethod yX1_after, .selects RX1 yX1_after yX1_after, .initialized RX1] : List Cond), w ∈ oX3_build) w h)))) (fun h => List.mem_cons_of_mem _ (List.mem_append_right _ (List.mem_append_right _ (List.mem_append_right _ (List.mem_append_right _ (List.mem_append_left _ (h)))))))) (by decide +kernel)
theorem kX3_build_X1_isRepeated_57 : GoodIn vX3_build (wsV RX3 57 RX1 yX1_isRepeated vX1_isRepeated) := goodIn_sub (fun w h => (List.mem_append.mp h).elim (fun h => List.mem_cons_of_mem _ (List.mem_append_right _ (List.mem_append_left _ ((by decide +kernel : ∀ w ∈ ([.methodLink RX3 57 yX1_isRepeated, .instanceMethod yX1_isRepeated, .selects RX1 yX1_isRepeated yX1_isRepeated, .initialized RX1] : List Cond), w ∈ oX3_build) w h)))) (fun h => List.mem_cons_of_mem _ (List.mem_append_right _ (List.mem_append_right _ (List.mem_append_right _ (List.mem_append_right _ (List.mem_append_right _ (List.mem_append_left _ (h))))))))) (by decide +kernel)
theorem kX3_build_X3_build_49 : GoodIn vX3_build (wsV RX3 49 RX3 yX3_build vX3_build) := goodIn_sub (fun w h => (List.mem_append.mp h).elim (fun h => List.mem_cons_of_mem _ (List.mem_append_right _ (List.mem_append_left _ ((by decide +kernel : ∀ w ∈ ([.methodLink RX3 49 yX3_build, .instanceMethod yX3_build, .selects RX3 yX3_build yX3_build, .initialized RX3] : List Cond), w ∈ oX3_build) w h)))) (fun h => (List.mem_cons.mp h).elim (fun h => h ▸ List.mem_cons_of_mem _ (List.mem_append_left _ (List.mem_of_getElem? (i := 0) rfl))) (fun h => List.mem_cons_of_mem _ h))) (by decide +kernel)
theorem kX3_build_X3_buildTurns_90 : GoodIn vX3_build (wsV RX3 90 RX3 yX3_buildTurns vX3_buildTurns) := goodIn_sub (fun w h => (List.mem_append.mp h).elim (fun h => List.mem_cons_of_mem _ (List.mem_append_right _ (List.mem_append_left _ ((by decide +kernel : ∀ w ∈ ([.methodLink RX3 90 yX3_buildTurns, .instanceMethod yX3_buildTurns, .selects RX3 yX3_buildTurns yX3_buildTurns, .initialized RX3] : List Cond), w ∈ oX3_build) w h)))) (fun h => (List.mem_cons.mp h).elim (fun h => h ▸ List.mem_cons_of_mem _ (List.mem_append_left _ (List.mem_of_getElem? (i := 1) rfl))) (fun h => List.mem_cons_of_mem _ h))) (by decide +kernel)
theorem kX3_build_X1_isList_81 : GoodIn vX3_build (wsV RX3 81 RX1 yX1_isList vX1_isList) := goodIn_sub (fun w h => (List.mem_append.mp h).elim (fun h => List.mem_cons_of_mem _ (List.mem_append_right _ (List.mem_append_left _ ((by decide +kernel : ∀ w ∈ ([.methodLink RX3 81 yX1_isList, .instanceMethod yX1_isList, .selects RX1 yX1_isList yX1_isList, .initialized RX1] : List Cond), w ∈ oX3_build) w h)))) (fun h => List.mem_cons_of_mem _ (List.mem_append_right _ (List.mem_append_right _ (List.mem_append_right _ (List.mem_append_right _ (List.mem_append_right _ (List.mem_append_right _ (List.mem_append_left _ (h)))))))))) (by decide +kernel)
theorem kX3_build_X3_addList_87 : GoodIn vX3_build (wsV RX3 87 RX3 yX3_addList vX3_addList) := goodIn_sub (fun w h => (List.mem_append.mp h).elim (fun h => List.mem_cons_of_mem _ (List.mem_append_right _ (List.mem_append_left _ ((by decide +kernel : ∀ w ∈ ([.methodLink RX3 87 yX3_addList, .instanceMethod yX3_addList, .selects RX3 yX3_addList yX3_addList, .initialized RX3] : List Cond), w ∈ oX3_build) w h)))) (fun h => List.mem_cons_of_mem _ (List.mem_append_right _ (List.mem_append_right _ (List.mem_append_right _ (List.mem_append_right _ (List.mem_append_right _ (List.mem_append_right _ (List.mem_append_right _ (List.mem_append_left _ (h))))))))))) (by decide +kernel)
theorem kX3_build_X3_buildPart_84 : GoodIn vX3_build (wsV RX3 84 RX3 yX3_buildPart vX3_buildPart) := goodIn_sub (fun w h => (List.mem_append.mp h).elim (fun h => List.mem_cons_of_mem _ (List.mem_append_right _ (List.mem_append_left _ ((by decide +kernel : ∀ w ∈ ([.methodLink RX3 84 yX3_buildPart, .instanceMethod yX3_buildPart, .selects RX3 yX3_buildPart yX3_buildPart, .initialized RX3] : List Cond), w ∈ oX3_build) w h)))) (fun h => List.mem_cons_of_mem _ (List.mem_append_right _ (List.mem_append_right _ (List.mem_append_right _ (List.mem_append_right _ (List.mem_append_right _ (List.mem_append_right _ (List.mem_append_right _ (List.mem_append_right _ (List.mem_append_left _ (h)))))))))))) (by decide +kernel)
theorem lkX3_buildTurns_f18 : Cond.fieldLink RX3 18 "MacroScopes$Maker" "tooMuch" "Z" ∈ vX3_buildTurns := List.mem_cons_of_mem _ (List.mem_append_right _ (List.mem_append_right _ (List.mem_append_left _ (List.mem_of_getElem? (i := 0) rfl))))
theorem inX3_buildTurns_X3 : ∀ w ∈ wsX30, w ∈ vX3_buildTurns := fun w h => List.mem_cons_of_mem _ (List.mem_append_right _ (List.mem_append_right _ (List.mem_append_right _ (List.mem_append_right _ (List.mem_append_right _ (List.mem_append_right _ (List.mem_append_right _ (List.mem_append_right _ (List.mem_append_right _ (List.mem_append_right _ (h)))))))))))
theorem kX3_buildTurns_X3_build_49 : GoodIn vX3_buildTurns (wsV RX3 49 RX3 yX3_build vX3_build) := goodIn_sub (fun w h => (List.mem_append.mp h).elim (fun h => List.mem_cons_of_mem _ (List.mem_append_right _ (List.mem_append_right _ (List.mem_append_left _ ((by decide +kernel : ∀ w ∈ ([.methodLink RX3 49 yX3_build, .instanceMethod yX3_build, .selects RX3 yX3_build yX3_build, .initialized RX3] : List Cond), w ∈ oX3_buildTurns) w h))))) (fun h => (List.mem_cons.mp h).elim (fun h => h ▸ List.mem_cons_of_mem _ (List.mem_append_left _ (List.mem_of_getElem? (i := 0) rfl))) (fun h => List.mem_cons_of_mem _ h))) (by decide +kernel)
theorem kX3_buildTurns_X3_turnsOf_61 : GoodIn vX3_buildTurns (wsV RX3 61 RX3 yX3_turnsOf vX3_turnsOf) := goodIn_sub (fun w h => (List.mem_append.mp h).elim (fun h => List.mem_cons_of_mem _ (List.mem_append_right _ (List.mem_append_right _ (List.mem_append_left _ ((by decide +kernel : ∀ w ∈ ([.methodLink RX3 61 yX3_turnsOf, .instanceMethod yX3_turnsOf, .selects RX3 yX3_turnsOf yX3_turnsOf, .initialized RX3] : List Cond), w ∈ oX3_buildTurns) w h))))) (fun h => List.mem_cons_of_mem _ (List.mem_append_right _ (List.mem_append_right _ (List.mem_append_right _ (List.mem_append_right _ (List.mem_append_right _ (List.mem_append_right _ (List.mem_append_right _ (List.mem_append_right _ (List.mem_append_right _ (List.mem_append_left _ (h))))))))))))) (by decide +kernel)
set_option maxHeartbeats 4000000 in
set_option maxRecDepth 100000 in
theorem lq_turnsOf {p : Program} {l : Launch} {e : Env} {s : State} {m : MethodId} {args : Array Value} {below : List Frame} {meth : Method} {c : Code} {A : Nat → Prop} {dC : Nat → ClassId} {dI : Nat → Nat → Nat} {cB cC cI cJ cZ : ClassId} {a : Nat → Nat} {F : Nat → Int32} {X : Nat → Nat → Int32} {J : Nat → Nat → Int64} {R : Nat → Nat} {gf gn : Nat} (hx : p.tables.exec = Jvm.exec) (hb : c.code = cX3_turnsOf) (hml : c.maxLocals = 5) (hown : s.vm.findClass RX3 = some m.cls) (hts : ∀ w ∈ vX3_turnsOf, w.before args s = true) (hK : va_K (dC, dI) vwCl (TY cB cC cI cJ cZ) s) (hNW : NW s) (hA : ∀ q : Nat, s.heap.size ≤ q → A q) (hr : meth.sig.returnType = (some .int)) (hlocks : meth.locks = false) (x : Int)  (ix : (-2147483648 ≤ x ∧ x < 2147483648)) (hgf : gf ≤ 67600) (hgn : gn ≤ 63261) (hsp : SPR (X 1)) (hnt : 0 ≤ (F 13).toInt ∧ (F 13).toInt ≤ (gn : Int)) (hms : 0 ≤ (F 19).toInt ∧ (F 19).toInt ≤ 3000 ∧ 0 ≤ (F 20).toInt ∧ (F 20).toInt ≤ 3000) (hx2 : x < 1073741824)   : ∀ (k : Nat) (tu : Int) (q : Int), (AF (X 1) gf x - q).toNat < k → (-2147483648 ≤ tu ∧ tu < 2147483648) → (-2147483648 ≤ q ∧ q < 2147483648) → (x ≤ q ∧ q ≤ x + 67601) → ∀ (H : Heap) (locs : List Loc), va_P (dC, dI) vwCl (CW cB cC cI cJ cZ a F X J R gf gn) H → va_D A (CW cB cC cI cJ cZ a F X J R gf gn) → va_S A s.heap H locs → ∀ (ls : Array Slot), lv_has ls 5 [(0, .ref (a 3)), (1, .int (oI x)), (2, .int (oI tu)), (3, .int (oI q))] → W p l e (headSpec vX3_turnsOf { frames := 2, cells := 0, slots := 0, locals := 82 }).room s m args below meth c H locs 0 0 (MQ below (va_Qi (fun (r : Int32) (_ : Unit) => True) (fun _ => cPost dC dI cB cC cI cJ cZ a F X J R gf gn A) A) args s 0 0 A) (F0 m 4 ls []) := by
  have hcs : 0 + 0 ≤ (0 : Nat) ∧ 0 + 0 ≤ (0 : Nat) := ⟨Nat.le_refl 0, Nat.le_refl 0⟩
  intro k
  induction k with
  | zero =>
    intro tu q hk itu9 iq9 hq
    exact absurd hk (Nat.not_lt_zero _)
  | succ k ih =>
    intro tu q hk itu9 iq9 hq H locs hP hD hS ls hl
    have eb := AF_b hsp gf x
    refine lv_iload_n hx hb dX3_turnsOf_4 rfl (lv_at hl 3 rfl) ?_
    refine lv_aload_n hx hb dX3_turnsOf_5 rfl (lv_at hl 0 rfl) ?_
    refine cg_3_0 hx hb hts inX3_turnsOf_X3 hown hK hP (hts _ lkX3_turnsOf_f22) dX3_turnsOf_6 ?_
    refine lv_iload_n hx hb dX3_turnsOf_9 rfl (lv_at hl 1 rfl) ?_
    refine ccs_iV (As := [.int (oI x)]) (rest := [.int (oI q)]) ⟨hx, hb, hml, hown, hts⟩ (c_after l dC dI cB cC cI cJ cZ a F X J R gf gn x  (by omega) (show gf ≤ 67600 from by first | assumption | omega) (show SPR (X 1) from by first | assumption | omega) (show x < 2147483647 from by first | assumption | omega) H.size) (cwV 1 hts kX3_turnsOf_X1_after_53 rfl rfl rfl (by decide +kernel) ⟨Nat.le_of_ble_eq_true rfl, Nat.le_of_ble_eq_true rfl⟩) (va_recv hK hP (ci := 1) (q0 := 1) rfl rfl) hK hNW hP hD hS hA rfl rfl hl.1 (lv_room (Nat.le_of_ble_eq_true rfl)) dX3_turnsOf_10 hcs (fun r_1 hw_2 H locs hP hD hS => ?_)
    have hw_2 : (r_1).toInt = AF (X 1) gf x ∧ x < (r_1).toInt ∧ (r_1).toInt ≤ x + 67600 := hw_2
    obtain ⟨ea, la, ua⟩ := hw_2
    have i_3 := i32r r_1
    refine ci_ge (tgt := 73) hx hb (by omega) (i32r _) dX3_turnsOf_13 (by decide) (fun c_4 => ?_) (fun c_4 => ?_)
    · refine lv_iload_n hx hb dX3_turnsOf_73 rfl (lv_at hl 2 rfl) ?_
      have hpost : True := trivial
      exact W.iret (v := (oI tu)) hx hb hr (fun t ht hW => ⟨⟨(oI tu), (), rfl, hpost, by rw [ht]; exact hP, va_K.moved hW.alike hK, hD⟩, hS.F ht⟩) hS.2.2 dX3_turnsOf_74
    · refine lv_aload_n hx hb dX3_turnsOf_16 rfl (lv_at hl 0 rfl) ?_
      refine cg_3_2 hx hb hts inX3_turnsOf_X3 hown hK hP (hts _ lkX3_turnsOf_f30) dX3_turnsOf_17 ?_
      refine lv_aload_n hx hb dX3_turnsOf_20 rfl (lv_at hl 0 rfl) ?_
      refine cg_3_1 hx hb hts inX3_turnsOf_X3 hown hK hP (hts _ lkX3_turnsOf_f26) dX3_turnsOf_21 ?_
      refine lv_aload_n hx hb dX3_turnsOf_24 rfl (lv_at hl 0 rfl) ?_
      refine cg_3_0 hx hb hts inX3_turnsOf_X3 hown hK hP (hts _ lkX3_turnsOf_f22) dX3_turnsOf_25 ?_
      refine lv_iload_n hx hb dX3_turnsOf_28 rfl (lv_at hl 3 rfl) ?_
      refine ccs_iV (As := [.int (oI q)]) (rest := [.ref (a 6), .ref (a 5)]) ⟨hx, hb, hml, hown, hts⟩ (c_nameOf l dC dI cB cC cI cJ cZ a F X J R gf gn q  (by omega) (show gf ≤ 67600 from by first | assumption | omega)  H.size) (cwV 1 hts kX3_turnsOf_X1_nameOf_66 rfl rfl rfl (by decide +kernel) ⟨Nat.le_of_ble_eq_true rfl, Nat.le_of_ble_eq_true rfl⟩) (va_recv hK hP (ci := 1) (q0 := 1) rfl rfl) hK hNW hP hD hS hA rfl rfl hl.1 (lv_room (Nat.le_of_ble_eq_true rfl)) dX3_turnsOf_29 hcs (fun r_5 hw_6 H locs hP hD hS => ?_)
      have i_7 := i32r r_5
      refine ccs_iV (As := [.int (oI r_5.toInt)]) (rest := [.ref (a 5)]) ⟨hx, hb, hml, hown, hts⟩ (c_noteOf l dC dI cB cC cI cJ cZ a F X J R gf gn r_5.toInt  (i32r _) (show gn ≤ 63261 from by first | assumption | omega) (show 0 ≤ (F 13).toInt ∧ (F 13).toInt ≤ (gn : Int) from by first | assumption | omega)  H.size) (cwV 1 hts kX3_turnsOf_X6_noteOf_69 rfl rfl rfl (by decide +kernel) ⟨Nat.le_of_ble_eq_true rfl, Nat.le_of_ble_eq_true rfl⟩) (va_recv hK hP (ci := 6) (q0 := 6) rfl rfl) hK hNW hP hD hS hA rfl rfl hl.1 (lv_room (Nat.le_of_ble_eq_true rfl)) dX3_turnsOf_32 hcs (fun r_8 hw_9 H locs hP hD hS => ?_)
      have i_10 := i32r r_8
      refine ccs_iV (As := [.int (oI r_8.toInt)]) (rest := []) ⟨hx, hb, hml, hown, hts⟩ (c_timesOf l dC dI cB cC cI cJ cZ a F X J R gf gn r_8.toInt  (i32r _) (show 0 ≤ (F 19).toInt ∧ (F 19).toInt ≤ 3000 ∧ 0 ≤ (F 20).toInt ∧ (F 20).toInt ≤ 3000 from by first | assumption | omega)  H.size) (cwV 1 hts kX3_turnsOf_X5_timesOf_72 rfl rfl rfl (by decide +kernel) ⟨Nat.le_of_ble_eq_true rfl, Nat.le_of_ble_eq_true rfl⟩) (va_recv hK hP (ci := 5) (q0 := 5) rfl rfl) hK hNW hP hD hS hA rfl rfl hl.1 (lv_room (Nat.le_of_ble_eq_true rfl)) dX3_turnsOf_35 hcs (fun r_11 hw_12 H locs hP hD hS => ?_)
      have i_13 := i32r r_11
      refine lv_istore (lv' := [(4, .int (oI r_11.toInt)), (0, .ref (a 3)), (1, .int (oI x)), (2, .int (oI tu)), (3, .int (oI q))]) hx hb dX3_turnsOf_38 hl (by decide) rfl (fun ls hl => ?_)
      refine lv_iload_n hx hb dX3_turnsOf_40 rfl (lv_at hl 3 rfl) ?_
      refine lv_iconst (v := oI (-1)) hx hb dX3_turnsOf_41 (by decide) ?_
      refine ci_eq (tgt := 60) hx hb (by omega) (by decide) dX3_turnsOf_42 (by decide) (fun c_14 => ?_) (fun c_14 => ?_)
      · refine lv_iload_n hx hb dX3_turnsOf_60 rfl (lv_at hl 3 rfl) ?_
        refine lv_iload hx hb dX3_turnsOf_61 (lv_at hl 0 rfl) ?_
        refine cm_max hx hb (hml.trans hl.1.symm) hown (hts _ lkX3_turnsOf_l75) (hts _ lkX3_turnsOf_smax) (hts _ lkX3_turnsOf_zmath) (hts _ lkX3_turnsOf_kmax) (Nat.le_of_ble_eq_true rfl) (Nat.le_of_ble_eq_true rfl) hcs.1 hcs.2 (by omega) (i32r _) dX3_turnsOf_63 (fun m_15 hm_15 => ?_)
        refine lv_istore_n (lv' := [(2, .int (oI m_15)), (4, .int (oI r_11.toInt)), (0, .ref (a 3)), (1, .int (oI x)), (3, .int (oI q))]) hx hb dX3_turnsOf_66 rfl hl (by decide) rfl (fun ls hl => ?_)
        refine lv_iinc (v := oI (q + 1)) (lv' := [(3, .int (oI (q + 1))), (2, .int (oI m_15)), (4, .int (oI r_11.toInt)), (0, .ref (a 3)), (1, .int (oI x))]) hx hb dX3_turnsOf_67 hl (k := 4) rfl (oI_add q 1) (by decide) rfl (fun ls hl => ?_)
        refine lv_goto (tgt := 4) hx hb dX3_turnsOf_70 (by decide) ?_
        exact ih m_15 (q + 1) (show (AF (X 1) gf x - (q + 1)).toNat < k from by omega) (by omega) (by omega) (show x ≤ (q + 1) ∧ (q + 1) ≤ x + 67601 from by first | assumption | omega | (with_reducible rfl) | ((repeat' apply And.intro) <;> first | assumption | omega | (with_reducible rfl))) _ _ hP hD hS ls (lv_sub hl [3, 4, 1, 0] rfl)
      · refine lv_iload hx hb dX3_turnsOf_45 (lv_at hl 0 rfl) ?_
        refine lv_iconst (v := oI (-1)) hx hb dX3_turnsOf_47 (by decide) ?_
        refine ci_eq (tgt := 60) hx hb (i32r _) (by decide) dX3_turnsOf_48 (by decide) (fun c_16 => ?_) (fun c_16 => ?_)
        · refine lv_iload_n hx hb dX3_turnsOf_60 rfl (lv_at hl 3 rfl) ?_
          refine lv_iload hx hb dX3_turnsOf_61 (lv_at hl 0 rfl) ?_
          refine cm_max hx hb (hml.trans hl.1.symm) hown (hts _ lkX3_turnsOf_l75) (hts _ lkX3_turnsOf_smax) (hts _ lkX3_turnsOf_zmath) (hts _ lkX3_turnsOf_kmax) (Nat.le_of_ble_eq_true rfl) (Nat.le_of_ble_eq_true rfl) hcs.1 hcs.2 (by omega) (i32r _) dX3_turnsOf_63 (fun m_17 hm_17 => ?_)
          refine lv_istore_n (lv' := [(2, .int (oI m_17)), (4, .int (oI r_11.toInt)), (0, .ref (a 3)), (1, .int (oI x)), (3, .int (oI q))]) hx hb dX3_turnsOf_66 rfl hl (by decide) rfl (fun ls hl => ?_)
          refine lv_iinc (v := oI (q + 1)) (lv' := [(3, .int (oI (q + 1))), (2, .int (oI m_17)), (4, .int (oI r_11.toInt)), (0, .ref (a 3)), (1, .int (oI x))]) hx hb dX3_turnsOf_67 hl (k := 4) rfl (oI_add q 1) (by decide) rfl (fun ls hl => ?_)
          refine lv_goto (tgt := 4) hx hb dX3_turnsOf_70 (by decide) ?_
          exact ih m_17 (q + 1) (show (AF (X 1) gf x - (q + 1)).toNat < k from by omega) (by omega) (by omega) (show x ≤ (q + 1) ∧ (q + 1) ≤ x + 67601 from by first | assumption | omega | (with_reducible rfl) | ((repeat' apply And.intro) <;> first | assumption | omega | (with_reducible rfl))) _ _ hP hD hS ls (lv_sub hl [3, 4, 1, 0] rfl)
        · refine lv_iload hx hb dX3_turnsOf_51 (lv_at hl 0 rfl) ?_
          refine lv_iload_n hx hb dX3_turnsOf_53 rfl (lv_at hl 3 rfl) ?_
          refine ci_eq (tgt := 60) hx hb (i32r _) (by omega) dX3_turnsOf_54 (by decide) (fun c_18 => ?_) (fun c_18 => ?_)
          · refine lv_iload_n hx hb dX3_turnsOf_60 rfl (lv_at hl 3 rfl) ?_
            refine lv_iload hx hb dX3_turnsOf_61 (lv_at hl 0 rfl) ?_
            refine cm_max hx hb (hml.trans hl.1.symm) hown (hts _ lkX3_turnsOf_l75) (hts _ lkX3_turnsOf_smax) (hts _ lkX3_turnsOf_zmath) (hts _ lkX3_turnsOf_kmax) (Nat.le_of_ble_eq_true rfl) (Nat.le_of_ble_eq_true rfl) hcs.1 hcs.2 (by omega) (i32r _) dX3_turnsOf_63 (fun m_19 hm_19 => ?_)
            refine lv_istore_n (lv' := [(2, .int (oI m_19)), (4, .int (oI r_11.toInt)), (0, .ref (a 3)), (1, .int (oI x)), (3, .int (oI q))]) hx hb dX3_turnsOf_66 rfl hl (by decide) rfl (fun ls hl => ?_)
            refine lv_iinc (v := oI (q + 1)) (lv' := [(3, .int (oI (q + 1))), (2, .int (oI m_19)), (4, .int (oI r_11.toInt)), (0, .ref (a 3)), (1, .int (oI x))]) hx hb dX3_turnsOf_67 hl (k := 4) rfl (oI_add q 1) (by decide) rfl (fun ls hl => ?_)
            refine lv_goto (tgt := 4) hx hb dX3_turnsOf_70 (by decide) ?_
            exact ih m_19 (q + 1) (show (AF (X 1) gf x - (q + 1)).toNat < k from by omega) (by omega) (by omega) (show x ≤ (q + 1) ∧ (q + 1) ≤ x + 67601 from by first | assumption | omega | (with_reducible rfl) | ((repeat' apply And.intro) <;> first | assumption | omega | (with_reducible rfl))) _ _ hP hD hS ls (lv_sub hl [3, 4, 1, 0] rfl)
          · refine lv_bipush (v := oI (-2)) hx hb dX3_turnsOf_57 (by decide) ?_
            have hpost : True := trivial
            exact W.iret (v := (oI ((-2)))) hx hb hr (fun t ht hW => ⟨⟨(oI ((-2))), (), rfl, hpost, by rw [ht]; exact hP, va_K.moved hW.alike hK, hD⟩, hS.F ht⟩) hS.2.2 dX3_turnsOf_59

set_option maxHeartbeats 4000000 in
set_option maxRecDepth 100000 in
/-- X3_turnsOf -/
theorem c_turnsOf (l : Launch) (dC : Nat → ClassId) (dI : Nat → Nat → Nat) (cB cC cI cJ cZ : ClassId) (a : Nat → Nat) (F : Nat → Int32) (X : Nat → Nat → Int32) (J : Nat → Nat → Int64) (R : Nat → Nat) (gf gn : Nat) (x : Int)  (ix : (-2147483648 ≤ x ∧ x < 2147483648)) (hgf : gf ≤ 67600) (hgn : gn ≤ 63261) (hsp : SPR (X 1)) (hnt : 0 ≤ (F 13).toInt ∧ (F 13).toInt ≤ (gn : Int)) (hms : 0 ≤ (F 19).toInt ∧ (F 19).toInt ≤ 3000 ∧ 0 ≤ (F 20).toInt ∧ (F 20).toInt ≤ 3000) (hx2 : x < 1073741824) (s0 : Nat) : Met l yX3_turnsOf vX3_turnsOf { frames := 2, cells := 0, slots := 0, locals := 82 } (va_Pc [.ref (a 3), .int (oI x)] (cPre dC dI cB cC cI cJ cZ a F X J R gf gn s0)) (va_Qi (fun (r : Int32) (_ : Unit) => True) (fun _ => cPost dC dI cB cC cI cJ cZ a F X J R gf gn (va_A (CW cB cC cI cJ cZ a F X J R gf gn) s0)) (va_A (CW cB cC cI cJ cZ a F X J R gf gn) s0)) 0 0 (va_A (CW cB cC cI cJ cZ a F X J R gf gn) s0) := by
  refine Met.ofW (cc := cX3_turnsOf) (maxL := 5) (ret := (some .int)) (by decide) rfl ?_
  intro p e s m args below meth c s₁ B9 hml hv
  obtain ⟨rfl, hsz0, hP, hK, hD0, hNW⟩ := hv
  have hx := B9.exec
  have hb := B9.bytes
  have hr := B9.returns
  have hts := atoms_spec (ws := vX3_turnsOf) B9.pre
  have hown : s.vm.findClass RX3 = some m.cls := findClass_of_methodNamed B9.named
  have hlocks := B9.notSynchronized
  clear B9
  subst hsz0
  have hD := hD0.self (sz := s.heap.size)
  generalize hAe : va_A (CW cB cC cI cJ cZ a F X J R gf gn) s.heap.size = A at hD ⊢
  have hA : ∀ q : Nat, s.heap.size ≤ q → A q := fun q h => by rw [← hAe]; exact Or.inr h
  have hS : va_S A s.heap s.heap [] := va_S.rf
  have hcs : 0 + 0 ≤ (0 : Nat) ∧ 0 + 0 ≤ (0 : Nat) := ⟨Nat.le_refl 0, Nat.le_refl 0⟩
  have hl := lv_entry ([.ref (a 3), .int (oI x)]) (n := 5) (Nat.le_of_ble_eq_true rfl)
  rw [lg_entry_eq]
  generalize (lg_sl ([.ref (a 3), .int (oI x)]) ++ List.replicate (5 - (lg_sl ([.ref (a 3), .int (oI x)])).length) Slot.unset).toArray = ls at hl ⊢
  have hl : lv_has ls 5 [(0, .ref (a 3)), (1, .int (oI x))] := hl
  have eb := AF_b hsp gf x
  refine lv_iconst (v := oI (-1)) hx hb dX3_turnsOf_0 (by decide) ?_
  refine lv_istore_n (lv' := [(2, .int (oI ((-1)))), (0, .ref (a 3)), (1, .int (oI x))]) hx hb dX3_turnsOf_1 rfl hl (by decide) rfl (fun ls hl => ?_)
  refine lv_iload_n hx hb dX3_turnsOf_2 rfl (lv_at hl 2 rfl) ?_
  refine lv_istore_n (lv' := [(3, .int (oI x)), (2, .int (oI ((-1)))), (0, .ref (a 3)), (1, .int (oI x))]) hx hb dX3_turnsOf_3 rfl hl (by decide) rfl (fun ls hl => ?_)
  exact lq_turnsOf hx hb hml hown hts hK hNW hA hr hlocks x ix (by assumption) (by assumption) (by assumption) (by assumption) (by assumption) (by assumption)  _ ((-1)) x (Nat.lt_succ_self _) (by decide) (by omega) (show x ≤ x ∧ x ≤ x + 67601 from by first | assumption | omega | (with_reducible rfl) | ((repeat' apply And.intro) <;> first | assumption | omega | (with_reducible rfl))) _ _ hP hD hS ls (lv_sub hl [2, 3, 1, 0] rfl)

set_option maxHeartbeats 4000000 in
set_option maxRecDepth 100000 in
theorem lq_isEven {p : Program} {l : Launch} {e : Env} {s : State} {m : MethodId} {args : Array Value} {below : List Frame} {meth : Method} {c : Code} {A : Nat → Prop} {dC : Nat → ClassId} {dI : Nat → Nat → Nat} {cB cC cI cJ cZ : ClassId} {a : Nat → Nat} {F : Nat → Int32} {X : Nat → Nat → Int32} {J : Nat → Nat → Int64} {R : Nat → Nat} {gf gn : Nat} (hx : p.tables.exec = Jvm.exec) (hb : c.code = cX3_isEven) (hml : c.maxLocals = 4) (hown : s.vm.findClass RX3 = some m.cls) (hts : ∀ w ∈ vX3_isEven, w.before args s = true) (hK : va_K (dC, dI) vwCl (TY cB cC cI cJ cZ) s) (hNW : NW s) (hA : ∀ q : Nat, s.heap.size ≤ q → A q) (hr : meth.sig.returnType = (some .boolean)) (hlocks : meth.locks = false) (x : Int)  (ix : (-2147483648 ≤ x ∧ x < 2147483648)) (hgf : gf ≤ 67600) (hgn : gn ≤ 63261) (hsp : SPR (X 1)) (hnt : 0 ≤ (F 13).toInt ∧ (F 13).toInt ≤ (gn : Int)) (hms : 0 ≤ (F 19).toInt ∧ (F 19).toInt ≤ 3000 ∧ 0 ≤ (F 20).toInt ∧ (F 20).toInt ≤ 3000) (hx2 : x < 1073600000)   : ∀ (k : Nat) (en : Int) (q : Int), (en - q).toNat < k → (-2147483648 ≤ en ∧ en < 2147483648) → (-2147483648 ≤ q ∧ q < 2147483648) → (x ≤ q ∧ en ≤ x + 67600) → ∀ (H : Heap) (locs : List Loc), va_P (dC, dI) vwCl (CW cB cC cI cJ cZ a F X J R gf gn) H → va_D A (CW cB cC cI cJ cZ a F X J R gf gn) → va_S A s.heap H locs → ∀ (ls : Array Slot), lv_has ls 4 [(0, .ref (a 3)), (1, .int (oI x)), (2, .int (oI en)), (3, .int (oI q))] → W p l e (headSpec vX3_isEven { frames := 3, cells := 0, slots := 0, locals := 106 }).room s m args below meth c H locs 0 0 (MQ below (va_Qi (fun (r : Int32) (_ : Unit) => (r).toInt = 0 ∨ (r).toInt = 1) (fun _ => cPost dC dI cB cC cI cJ cZ a F X J R gf gn A) A) args s 0 0 A) (F0 m 11 ls []) := by
  have hcs : 0 + 0 ≤ (0 : Nat) ∧ 0 + 0 ≤ (0 : Nat) := ⟨Nat.le_refl 0, Nat.le_refl 0⟩
  intro k
  induction k with
  | zero =>
    intro en q hk ien9 iq9 hq
    exact absurd hk (Nat.not_lt_zero _)
  | succ k ih =>
    intro en q hk ien9 iq9 hq H locs hP hD hS ls hl
    refine lv_iload_n hx hb dX3_isEven_11 rfl (lv_at hl 3 rfl) ?_
    refine lv_iload_n hx hb dX3_isEven_12 rfl (lv_at hl 2 rfl) ?_
    refine ci_ge (tgt := 46) hx hb (by omega) (by omega) dX3_isEven_13 (by decide) (fun c_1 => ?_) (fun c_1 => ?_)
    · refine lv_iconst (v := oI 1) hx hb dX3_isEven_46 (by decide) ?_
      have e0 : (oI 1).toInt = 1 := by decide
      have hpost : (oI 1).toInt = 0 ∨ (oI 1).toInt = 1 := by first | assumption | omega | (with_reducible rfl) | ((repeat' apply And.intro) <;> first | assumption | omega | (with_reducible rfl))
      exact W.zret (v := (oI 1)) hx hb hr (by first | rfl | decide | exact zb9 (by omega)) (fun t ht hW => ⟨⟨(oI 1), (), rfl, hpost, by rw [ht]; exact hP, va_K.moved hW.alike hK, hD⟩, hS.F ht⟩) hS.2.2 dX3_isEven_47
    · refine lv_aload_n hx hb dX3_isEven_16 rfl (lv_at hl 0 rfl) ?_
      refine cg_3_0 hx hb hts inX3_isEven_X3 hown hK hP (hts _ lkX3_isEven_f22) dX3_isEven_17 ?_
      refine lv_iload_n hx hb dX3_isEven_20 rfl (lv_at hl 3 rfl) ?_
      refine lv_iload_n hx hb dX3_isEven_21 rfl (lv_at hl 2 rfl) ?_
      refine ccs_iV (As := [.int (oI q), .int (oI en)]) (rest := []) ⟨hx, hb, hml, hown, hts⟩ (c_isRepeated l dC dI cB cC cI cJ cZ a F X J R gf gn q en  (by omega) (by omega) (show gf ≤ 67600 from by first | assumption | omega) (show SPR (X 1) from by first | assumption | omega) (show q < 1073741824 from by first | assumption | omega) H.size) (cwV 2 hts kX3_isEven_X1_isRepeated_57 rfl rfl rfl (by decide +kernel) ⟨Nat.le_of_ble_eq_true rfl, Nat.le_of_ble_eq_true rfl⟩) (va_recv hK hP (ci := 1) (q0 := 1) rfl rfl) hK hNW hP hD hS hA rfl rfl hl.1 (lv_room (Nat.le_of_ble_eq_true rfl)) dX3_isEven_22 hcs (fun r_2 hw_3 H locs hP hD hS => ?_)
      have hw_3 : ((r_2).toInt = 1 ∧ AF (X 1) gf q < en) ∨ (r_2).toInt = 0 := hw_3
      have hrp := hw_3
      have i_4 := i32r r_2
      refine cz_eq (tgt := 40) hx hb (i32r _) dX3_isEven_25 (by decide) (fun c_5 => ?_) (fun c_5 => ?_)
      · refine lv_iinc (v := oI (q + 1)) (lv' := [(3, .int (oI (q + 1))), (0, .ref (a 3)), (1, .int (oI x)), (2, .int (oI en))]) hx hb dX3_isEven_40 hl (k := 3) rfl (oI_add q 1) (by decide) rfl (fun ls hl => ?_)
        refine lv_goto (tgt := 11) hx hb dX3_isEven_43 (by decide) ?_
        exact ih en (q + 1) (show (en - (q + 1)).toNat < k from by omega) (by omega) (by omega) (show x ≤ (q + 1) ∧ en ≤ x + 67600 from by first | assumption | omega | (with_reducible rfl) | ((repeat' apply And.intro) <;> first | assumption | omega | (with_reducible rfl))) _ _ hP hD hS ls (lv_sub hl [1, 2, 3, 0] rfl)
      · refine lv_aload_n hx hb dX3_isEven_28 rfl (lv_at hl 0 rfl) ?_
        refine lv_iload_n hx hb dX3_isEven_29 rfl (lv_at hl 3 rfl) ?_
        refine ccs_iV (As := [.int (oI q)]) (rest := []) ⟨hx, hb, hml, hown, hts⟩ (c_turnsOf l dC dI cB cC cI cJ cZ a F X J R gf gn q  (by omega) (show gf ≤ 67600 from by first | assumption | omega) (show gn ≤ 63261 from by first | assumption | omega) (show SPR (X 1) from by first | assumption | omega) (show 0 ≤ (F 13).toInt ∧ (F 13).toInt ≤ (gn : Int) from by first | assumption | omega) (show 0 ≤ (F 19).toInt ∧ (F 19).toInt ≤ 3000 ∧ 0 ≤ (F 20).toInt ∧ (F 20).toInt ≤ 3000 from by first | assumption | omega) (show q < 1073741824 from by first | assumption | omega) H.size) (cwV 1 hts kX3_isEven_X3_turnsOf_61 rfl rfl rfl (by decide +kernel) ⟨Nat.le_of_ble_eq_true rfl, Nat.le_of_ble_eq_true rfl⟩) (va_recv hK hP (ci := 3) (q0 := 3) rfl rfl) hK hNW hP hD hS hA rfl rfl hl.1 (lv_room (Nat.le_of_ble_eq_true rfl)) dX3_isEven_30 hcs (fun r_6 hw_7 H locs hP hD hS => ?_)
        have i_8 := i32r r_6
        refine lv_bipush (v := oI (-2)) hx hb dX3_isEven_33 (by decide) ?_
        refine ci_ne (tgt := 40) hx hb (i32r _) (by decide) dX3_isEven_35 (by decide) (fun c_9 => ?_) (fun c_9 => ?_)
        · refine lv_iinc (v := oI (q + 1)) (lv' := [(3, .int (oI (q + 1))), (0, .ref (a 3)), (1, .int (oI x)), (2, .int (oI en))]) hx hb dX3_isEven_40 hl (k := 3) rfl (oI_add q 1) (by decide) rfl (fun ls hl => ?_)
          refine lv_goto (tgt := 11) hx hb dX3_isEven_43 (by decide) ?_
          exact ih en (q + 1) (show (en - (q + 1)).toNat < k from by omega) (by omega) (by omega) (show x ≤ (q + 1) ∧ en ≤ x + 67600 from by first | assumption | omega | (with_reducible rfl) | ((repeat' apply And.intro) <;> first | assumption | omega | (with_reducible rfl))) _ _ hP hD hS ls (lv_sub hl [1, 2, 3, 0] rfl)
        · refine lv_iconst (v := oI 0) hx hb dX3_isEven_38 (by decide) ?_
          have e0 : (oI 0).toInt = 0 := by decide
          have hpost : (oI 0).toInt = 0 ∨ (oI 0).toInt = 1 := by first | assumption | omega | (with_reducible rfl) | ((repeat' apply And.intro) <;> first | assumption | omega | (with_reducible rfl))
          exact W.zret (v := (oI 0)) hx hb hr (by first | rfl | decide | exact zb9 (by omega)) (fun t ht hW => ⟨⟨(oI 0), (), rfl, hpost, by rw [ht]; exact hP, va_K.moved hW.alike hK, hD⟩, hS.F ht⟩) hS.2.2 dX3_isEven_39

set_option maxHeartbeats 4000000 in
set_option maxRecDepth 100000 in
/-- X3_isEven -/
theorem c_isEven (l : Launch) (dC : Nat → ClassId) (dI : Nat → Nat → Nat) (cB cC cI cJ cZ : ClassId) (a : Nat → Nat) (F : Nat → Int32) (X : Nat → Nat → Int32) (J : Nat → Nat → Int64) (R : Nat → Nat) (gf gn : Nat) (x : Int)  (ix : (-2147483648 ≤ x ∧ x < 2147483648)) (hgf : gf ≤ 67600) (hgn : gn ≤ 63261) (hsp : SPR (X 1)) (hnt : 0 ≤ (F 13).toInt ∧ (F 13).toInt ≤ (gn : Int)) (hms : 0 ≤ (F 19).toInt ∧ (F 19).toInt ≤ 3000 ∧ 0 ≤ (F 20).toInt ∧ (F 20).toInt ≤ 3000) (hx2 : x < 1073600000) (s0 : Nat) : Met l yX3_isEven vX3_isEven { frames := 3, cells := 0, slots := 0, locals := 106 } (va_Pc [.ref (a 3), .int (oI x)] (cPre dC dI cB cC cI cJ cZ a F X J R gf gn s0)) (va_Qi (fun (r : Int32) (_ : Unit) => (r).toInt = 0 ∨ (r).toInt = 1) (fun _ => cPost dC dI cB cC cI cJ cZ a F X J R gf gn (va_A (CW cB cC cI cJ cZ a F X J R gf gn) s0)) (va_A (CW cB cC cI cJ cZ a F X J R gf gn) s0)) 0 0 (va_A (CW cB cC cI cJ cZ a F X J R gf gn) s0) := by
  refine Met.ofW (cc := cX3_isEven) (maxL := 4) (ret := (some .boolean)) (by decide) rfl ?_
  intro p e s m args below meth c s₁ B9 hml hv
  obtain ⟨rfl, hsz0, hP, hK, hD0, hNW⟩ := hv
  have hx := B9.exec
  have hb := B9.bytes
  have hr := B9.returns
  have hts := atoms_spec (ws := vX3_isEven) B9.pre
  have hown : s.vm.findClass RX3 = some m.cls := findClass_of_methodNamed B9.named
  have hlocks := B9.notSynchronized
  clear B9
  subst hsz0
  have hD := hD0.self (sz := s.heap.size)
  generalize hAe : va_A (CW cB cC cI cJ cZ a F X J R gf gn) s.heap.size = A at hD ⊢
  have hA : ∀ q : Nat, s.heap.size ≤ q → A q := fun q h => by rw [← hAe]; exact Or.inr h
  have hS : va_S A s.heap s.heap [] := va_S.rf
  have hcs : 0 + 0 ≤ (0 : Nat) ∧ 0 + 0 ≤ (0 : Nat) := ⟨Nat.le_refl 0, Nat.le_refl 0⟩
  have hl := lv_entry ([.ref (a 3), .int (oI x)]) (n := 4) (Nat.le_of_ble_eq_true rfl)
  rw [lg_entry_eq]
  generalize (lg_sl ([.ref (a 3), .int (oI x)]) ++ List.replicate (4 - (lg_sl ([.ref (a 3), .int (oI x)])).length) Slot.unset).toArray = ls at hl ⊢
  have hl : lv_has ls 4 [(0, .ref (a 3)), (1, .int (oI x))] := hl
  refine lv_aload_n hx hb dX3_isEven_0 rfl (lv_at hl 0 rfl) ?_
  refine cg_3_0 hx hb hts inX3_isEven_X3 hown hK hP (hts _ lkX3_isEven_f22) dX3_isEven_1 ?_
  refine lv_iload_n hx hb dX3_isEven_4 rfl (lv_at hl 1 rfl) ?_
  refine ccs_iV (As := [.int (oI x)]) (rest := []) ⟨hx, hb, hml, hown, hts⟩ (c_after l dC dI cB cC cI cJ cZ a F X J R gf gn x  (by omega) (show gf ≤ 67600 from by first | assumption | omega) (show SPR (X 1) from by first | assumption | omega) (show x < 2147483647 from by first | assumption | omega) s.heap.size) (cwV 1 hts kX3_isEven_X1_after_53 rfl rfl rfl (by decide +kernel) ⟨Nat.le_of_ble_eq_true rfl, Nat.le_of_ble_eq_true rfl⟩) (va_recv hK hP (ci := 1) (q0 := 1) rfl rfl) hK hNW hP hD hS hA rfl rfl hl.1 (lv_room (Nat.le_of_ble_eq_true rfl)) dX3_isEven_5 hcs (fun r_1 hw_2 H locs hP hD hS => ?_)
  have hw_2 : (r_1).toInt = AF (X 1) gf x ∧ x < (r_1).toInt ∧ (r_1).toInt ≤ x + 67600 := hw_2
  obtain ⟨ea, la, ua⟩ := hw_2
  have i_3 := i32r r_1
  refine lv_istore_n (lv' := [(2, .int (oI r_1.toInt)), (0, .ref (a 3)), (1, .int (oI x))]) hx hb dX3_isEven_8 rfl hl (by decide) rfl (fun ls hl => ?_)
  refine lv_iload_n hx hb dX3_isEven_9 rfl (lv_at hl 2 rfl) ?_
  refine lv_istore_n (lv' := [(3, .int (oI x)), (2, .int (oI r_1.toInt)), (0, .ref (a 3)), (1, .int (oI x))]) hx hb dX3_isEven_10 rfl hl (by decide) rfl (fun ls hl => ?_)
  exact lq_isEven hx hb hml hown hts hK hNW hA hr hlocks x ix (by assumption) (by assumption) (by assumption) (by assumption) (by assumption) (by assumption)  _ r_1.toInt x (Nat.lt_succ_self _) (i32r _) (by omega) (show x ≤ x ∧ r_1.toInt ≤ x + 67600 from by first | assumption | omega | (with_reducible rfl) | ((repeat' apply And.intro) <;> first | assumption | omega | (with_reducible rfl))) _ _ hP hD hS ls (lv_sub hl [2, 3, 1, 0] rfl)

def P_X3_build (l : Launch) (d : Nat) : Prop := ∀ (dC : Nat → ClassId) (dI : Nat → Nat → Nat) (cB cC cI cJ cZ : ClassId) (a : Nat → Nat) (F : Nat → Int32) (X : Nat → Nat → Int32) (J : Nat → Nat → Int64) (R : Nat → Nat) (gf gn : Nat) (x y z : Int) (D : Int → Nat) (ix : (-2147483648 ≤ x ∧ x < 2147483648)) (iy : (-2147483648 ≤ y ∧ y < 2147483648)) (iz : (-2147483648 ≤ z ∧ z < 2147483648)) (hgf : gf ≤ 67600) (hgn : gn ≤ 63261) (hnt : 0 ≤ (F 13).toInt ∧ (F 13).toInt ≤ (gn : Int)) (hms : 0 ≤ (F 19).toInt ∧ (F 19).toInt ≤ 3000 ∧ 0 ≤ (F 20).toInt ∧ (F 20).toInt ≤ 3000) (hsa : 0 ≤ (F 10).toInt ∧ (F 10).toInt ≤ 67600) (hx2 : x < 1073741824) (hz : 0 ≤ z ∧ z ≤ 61 ∧ 62 ≤ z + ((d : Nat) : Int)) (hfi : FI (X 1) D gf (F 0).toInt (F 12).toInt) (s0 : Nat), Met l yX3_build vX3_build { frames := 2 * d + 68, cells := 0, slots := 0, locals := 60 * d + 2032 } (va_Pc [.ref (a 3), .int (oI x), .int (oI y), .int (oI z)] (cPre dC dI cB cC cI cJ cZ a F X J R gf gn s0)) (va_Qv (fun (u : (Nat → Int32) × (Nat → Nat → Int32)) => match u with | (F1, X1) => (∃ D9 : Int → Nat, FI (X1 1) D9 gf (F 0).toInt (F1 12).toInt ∧ GR (X 1) D (F 12).toInt (X1 1) D9 (F1 12).toInt (61 - z)) ∧ (0 ≤ (F1 13).toInt ∧ (F1 13).toInt ≤ (gn : Int))) (fun u => cPost dC dI cB cC cI cJ cZ a (rg 11 13 F u.1) (rg 14 18 (rg 0 1 X u.2) u.2) J R gf gn (va_A (CW cB cC cI cJ cZ a F X J R gf gn) s0)) (va_A (CW cB cC cI cJ cZ a F X J R gf gn) s0)) 0 0 (va_A (CW cB cC cI cJ cZ a F X J R gf gn) s0)
def P_X3_buildTurns (l : Launch) (d : Nat) : Prop := ∀ (dC : Nat → ClassId) (dI : Nat → Nat → Nat) (cB cC cI cJ cZ : ClassId) (a : Nat → Nat) (F : Nat → Int32) (X : Nat → Nat → Int32) (J : Nat → Nat → Int64) (R : Nat → Nat) (gf gn : Nat) (x y : Int) (D : Int → Nat) (ix : (-2147483648 ≤ x ∧ x < 2147483648)) (iy : (-2147483648 ≤ y ∧ y < 2147483648)) (hgf : gf ≤ 67600) (hgn : gn ≤ 63261) (hnt : 0 ≤ (F 13).toInt ∧ (F 13).toInt ≤ (gn : Int)) (hms : 0 ≤ (F 19).toInt ∧ (F 19).toInt ≤ 3000 ∧ 0 ≤ (F 20).toInt ∧ (F 20).toInt ≤ 3000) (hsa : 0 ≤ (F 10).toInt ∧ (F 10).toInt ≤ 67600) (hx2 : x < 1073741824) (hz : 0 ≤ y ∧ y ≤ 61 ∧ 62 ≤ y + ((d : Nat) : Int)) (hfi : FI (X 1) D gf (F 0).toInt (F 12).toInt) (s0 : Nat), Met l yX3_buildTurns vX3_buildTurns { frames := 2 * d + 69, cells := 0, slots := 0, locals := 60 * d + 2062 } (va_Pc [.ref (a 3), .int (oI x), .int (oI y)] (cPre dC dI cB cC cI cJ cZ a F X J R gf gn s0)) (va_Qv (fun (u : (Nat → Int32) × (Nat → Nat → Int32)) => match u with | (F1, X1) => (∃ D9 : Int → Nat, FI (X1 1) D9 gf (F 0).toInt (F1 12).toInt ∧ GR (X 1) D (F 12).toInt (X1 1) D9 (F1 12).toInt (61 - y)) ∧ (0 ≤ (F1 13).toInt ∧ (F1 13).toInt ≤ (gn : Int))) (fun u => cPost dC dI cB cC cI cJ cZ a (rg 11 13 F u.1) (rg 14 18 (rg 0 1 X u.2) u.2) J R gf gn (va_A (CW cB cC cI cJ cZ a F X J R gf gn) s0)) (va_A (CW cB cC cI cJ cZ a F X J R gf gn) s0)) 0 0 (va_A (CW cB cC cI cJ cZ a F X J R gf gn) s0)
set_option maxHeartbeats 4000000 in
set_option maxRecDepth 100000 in
theorem lq_buildTurns {p : Program} {l : Launch} {e : Env} {s : State} {m : MethodId} {args : Array Value} {below : List Frame} {meth : Method} {c : Code} {A : Nat → Prop} {dC : Nat → ClassId} {dI : Nat → Nat → Nat} {cB cC cI cJ cZ : ClassId} {a : Nat → Nat} {F : Nat → Int32} {X : Nat → Nat → Int32} {J : Nat → Nat → Int64} {R : Nat → Nat} {gf gn : Nat} (hx : p.tables.exec = Jvm.exec) (hb : c.code = cX3_buildTurns) (hml : c.maxLocals = 5) (hown : s.vm.findClass RX3 = some m.cls) (hts : ∀ w ∈ vX3_buildTurns, w.before args s = true) (hK : va_K (dC, dI) vwCl (TY cB cC cI cJ cZ) s) (hNW : NW s) (hA : ∀ q : Nat, s.heap.size ≤ q → A q) (hr : meth.sig.returnType = none) (hlocks : meth.locks = false) (x y : Int) (d : Nat) (D : Int → Nat) (ix : (-2147483648 ≤ x ∧ x < 2147483648)) (iy : (-2147483648 ≤ y ∧ y < 2147483648)) (hgf : gf ≤ 67600) (hgn : gn ≤ 63261) (hnt : 0 ≤ (F 13).toInt ∧ (F 13).toInt ≤ (gn : Int)) (hms : 0 ≤ (F 19).toInt ∧ (F 19).toInt ≤ 3000 ∧ 0 ≤ (F 20).toInt ∧ (F 20).toInt ≤ 3000) (hsa : 0 ≤ (F 10).toInt ∧ (F 10).toInt ≤ 67600) (hx2 : x < 1073741824) (hz : 0 ≤ y ∧ y ≤ 61 ∧ 62 ≤ y + ((d : Nat) : Int)) (hfi : FI (X 1) D gf (F 0).toInt (F 12).toInt)  (hI : P_X3_build l d) : ∀ (k : Nat) (F1 : Nat → Int32) (X1 : Nat → Nat → Int32) (tu : Int) (q : Int) (D1 : Int → Nat), (tu - q).toNat < k → (-2147483648 ≤ tu ∧ tu < 2147483648) → (-2147483648 ≤ q ∧ q < 2147483648) → (0 ≤ q) → (FI (X1 1) D1 gf (F 0).toInt (F1 12).toInt) → (GR (X 1) D (F 12).toInt (X1 1) D1 (F1 12).toInt (61 - y)) → (0 ≤ (F1 13).toInt ∧ (F1 13).toInt ≤ (gn : Int)) → ∀ (H : Heap) (locs : List Loc), va_P (dC, dI) vwCl (CW cB cC cI cJ cZ a (rg 11 13 F F1) (rg 14 18 (rg 0 1 X X1) X1) J R gf gn) H → va_D A (CW cB cC cI cJ cZ a (rg 11 13 F F1) (rg 14 18 (rg 0 1 X X1) X1) J R gf gn) → va_S A s.heap H locs → ∀ (ls : Array Slot), lv_has ls 5 [(0, .ref (a 3)), (1, .int (oI x)), (2, .int (oI y)), (3, .int (oI tu)), (4, .int (oI q))] → W p l e (headSpec vX3_buildTurns { frames := 2 * d + 69, cells := 0, slots := 0, locals := 60 * d + 2062 }).room s m args below meth c H locs 0 0 (MQ below (va_Qv (fun (u : (Nat → Int32) × (Nat → Nat → Int32)) => match u with | (F1, X1) => (∃ D9 : Int → Nat, FI (X1 1) D9 gf (F 0).toInt (F1 12).toInt ∧ GR (X 1) D (F 12).toInt (X1 1) D9 (F1 12).toInt (61 - y)) ∧ (0 ≤ (F1 13).toInt ∧ (F1 13).toInt ≤ (gn : Int))) (fun u => cPost dC dI cB cC cI cJ cZ a (rg 11 13 F u.1) (rg 14 18 (rg 0 1 X u.2) u.2) J R gf gn A) A) args s 0 0 A) (F0 m 9 ls []) := by
  have hcs : 0 + 0 ≤ (0 : Nat) ∧ 0 + 0 ≤ (0 : Nat) := ⟨Nat.le_refl 0, Nat.le_refl 0⟩
  intro k
  induction k with
  | zero =>
    intro F1 X1 tu q D1 hk itu9 iq9 hq hf1 hG hnt1
    exact absurd hk (Nat.not_lt_zero _)
  | succ k ih =>
    intro F1 X1 tu q D1 hk itu9 iq9 hq hf1 hG hnt1 H locs hP hD hS ls hl
    have hf0 := hfi
    have hfi := hf1
    have hsp := FI_sp hfi
    refine lv_iload hx hb dX3_buildTurns_9 (lv_at hl 4 rfl) ?_
    refine lv_iload_n hx hb dX3_buildTurns_11 rfl (lv_at hl 3 rfl) ?_
    refine ci_ge (tgt := 36) hx hb (by omega) (by omega) dX3_buildTurns_12 (by decide) (fun c_1 => ?_) (fun c_1 => ?_)
    · have eF9 : rg 11 13 F (rg 11 13 F F1) = rg 11 13 F F1 := by funext k; simp only [rg, va_up]; (repeat' split) <;> first | with_reducible rfl | omega
      have eX9 : rg 14 18 (rg 0 1 X (rg 14 18 (rg 0 1 X X1) X1)) (rg 14 18 (rg 0 1 X X1) X1) = rg 14 18 (rg 0 1 X X1) X1 := by funext k; simp only [rg, va_up]; (repeat' split) <;> first | with_reducible rfl | omega
      have hP9 : va_P (dC, dI) vwCl (CW cB cC cI cJ cZ a (rg 11 13 F (rg 11 13 F F1)) (rg 14 18 (rg 0 1 X (rg 14 18 (rg 0 1 X X1) X1)) (rg 14 18 (rg 0 1 X X1) X1)) J R gf gn) H := by rw [eF9, eX9]; exact hP
      have hD9 : va_D A (CW cB cC cI cJ cZ a (rg 11 13 F (rg 11 13 F F1)) (rg 14 18 (rg 0 1 X (rg 14 18 (rg 0 1 X X1) X1)) (rg 14 18 (rg 0 1 X X1) X1)) J R gf gn) := by rw [eF9, eX9]; exact hD
      have hpost : (∃ D9 : Int → Nat, FI (X1 1) D9 gf (F 0).toInt (F1 12).toInt ∧ GR (X 1) D (F 12).toInt (X1 1) D9 (F1 12).toInt (61 - y)) ∧ (0 ≤ (F1 13).toInt ∧ (F1 13).toInt ≤ (gn : Int)) := ⟨⟨D1, hf1, hG⟩, by omega⟩
      exact W.vret hx hb hr (fun t ht hW => ⟨⟨(rg 11 13 F F1, rg 14 18 (rg 0 1 X X1) X1), rfl, hpost, by rw [ht]; exact hP9, va_K.moved hW.alike hK, hD9⟩, hS.F ht⟩) hS.2.2 dX3_buildTurns_36
    · refine lv_aload_n hx hb dX3_buildTurns_15 rfl (lv_at hl 0 rfl) ?_
      refine cg_3_5 hx hb hts inX3_buildTurns_X3 hown hK hP (hts _ lkX3_buildTurns_f18) dX3_buildTurns_16 ?_
      refine tp_i (y := oI (F1 11).toInt) rfl ?_
      have i_2 := i32r (F1 11)
      refine cz_ne (tgt := 36) hx hb (i32r _) dX3_buildTurns_19 (by decide) (fun c_3 => ?_) (fun c_3 => ?_)
      · have eF9 : rg 11 13 F (rg 11 13 F F1) = rg 11 13 F F1 := by funext k; simp only [rg, va_up]; (repeat' split) <;> first | with_reducible rfl | omega
        have eX9 : rg 14 18 (rg 0 1 X (rg 14 18 (rg 0 1 X X1) X1)) (rg 14 18 (rg 0 1 X X1) X1) = rg 14 18 (rg 0 1 X X1) X1 := by funext k; simp only [rg, va_up]; (repeat' split) <;> first | with_reducible rfl | omega
        have hP9 : va_P (dC, dI) vwCl (CW cB cC cI cJ cZ a (rg 11 13 F (rg 11 13 F F1)) (rg 14 18 (rg 0 1 X (rg 14 18 (rg 0 1 X X1) X1)) (rg 14 18 (rg 0 1 X X1) X1)) J R gf gn) H := by rw [eF9, eX9]; exact hP
        have hD9 : va_D A (CW cB cC cI cJ cZ a (rg 11 13 F (rg 11 13 F F1)) (rg 14 18 (rg 0 1 X (rg 14 18 (rg 0 1 X X1) X1)) (rg 14 18 (rg 0 1 X X1) X1)) J R gf gn) := by rw [eF9, eX9]; exact hD
        have hpost : (∃ D9 : Int → Nat, FI (X1 1) D9 gf (F 0).toInt (F1 12).toInt ∧ GR (X 1) D (F 12).toInt (X1 1) D9 (F1 12).toInt (61 - y)) ∧ (0 ≤ (F1 13).toInt ∧ (F1 13).toInt ≤ (gn : Int)) := ⟨⟨D1, hf1, hG⟩, by omega⟩
        exact W.vret hx hb hr (fun t ht hW => ⟨⟨(rg 11 13 F F1, rg 14 18 (rg 0 1 X X1) X1), rfl, hpost, by rw [ht]; exact hP9, va_K.moved hW.alike hK, hD9⟩, hS.F ht⟩) hS.2.2 dX3_buildTurns_36
      · refine lv_aload_n hx hb dX3_buildTurns_22 rfl (lv_at hl 0 rfl) ?_
        refine lv_iload_n hx hb dX3_buildTurns_23 rfl (lv_at hl 1 rfl) ?_
        refine lv_iload hx hb dX3_buildTurns_24 (lv_at hl 4 rfl) ?_
        refine lv_iload_n hx hb dX3_buildTurns_26 rfl (lv_at hl 2 rfl) ?_
        refine ccp_vV (As := [.int (oI x), .int (oI q), .int (oI y)]) (rest := []) (gF := fun F9 => rg 11 13 (rg 11 13 F F1) F9) (gX := fun X9 => rg 14 18 (rg 0 1 (rg 14 18 (rg 0 1 X X1) X1) X9) X9) ⟨hx, hb, hml, hown, hts⟩ (hI dC dI cB cC cI cJ cZ a (rg 11 13 F F1) (rg 14 18 (rg 0 1 X X1) X1) J R gf gn x q y D1 (by omega) (by omega) (by omega) (show gf ≤ 67600 from by first | assumption | omega) (show gn ≤ 63261 from by first | assumption | omega) (show 0 ≤ (F1 13).toInt ∧ (F1 13).toInt ≤ (gn : Int) from by first | assumption | omega) (show 0 ≤ (F 19).toInt ∧ (F 19).toInt ≤ 3000 ∧ 0 ≤ (F 20).toInt ∧ (F 20).toInt ≤ 3000 from by first | assumption | omega) (show 0 ≤ (F 10).toInt ∧ (F 10).toInt ≤ 67600 from by first | assumption | omega) (show x < 1073741824 from by first | assumption | omega) (show 0 ≤ y ∧ y ≤ 61 ∧ 62 ≤ y + ((d : Nat) : Int) from by first | assumption | omega) (show FI (X1 1) D1 gf (F 0).toInt (F1 12).toInt from by assumption) H.size) (cwV 3 hts kX3_buildTurns_X3_build_49 rfl rfl rfl (by decide +kernel) ⟨show (2 * d + 68) + 1 ≤ 2 * d + 69 from by omega, show 8 + (8 + 11) + (60 * d + 2032) ≤ 60 * d + 2062 from by omega⟩) (va_recv hK hP (ci := 3) (q0 := 3) rfl rfl) hK hNW hP hD hS hA rfl rfl hl.1 (lv_room (Nat.le_of_ble_eq_true rfl)) dX3_buildTurns_27 hcs (fun F_4 X_5 hw_6 H locs hP hD hS => ?_)
        have hw_6 : (∃ D9 : Int → Nat, FI (X_5 1) D9 gf (F 0).toInt (F_4 12).toInt ∧ GR (X1 1) D1 (F1 12).toInt (X_5 1) D9 (F_4 12).toInt (61 - y)) ∧ (0 ≤ (F_4 13).toInt ∧ (F_4 13).toInt ≤ (gn : Int)) := hw_6
        obtain ⟨⟨D2, hfi, hG2⟩, hnt⟩ := hw_6
        have hsp := FI_sp hfi
        have hG3 := GR_tr hG hG2 (Int.le_refl _) (Int.le_refl _)
        refine lv_iinc (v := oI (q + 1)) (lv' := [(4, .int (oI (q + 1))), (0, .ref (a 3)), (1, .int (oI x)), (2, .int (oI y)), (3, .int (oI tu))]) hx hb dX3_buildTurns_30 hl (k := 4) rfl (oI_add q 1) (by decide) rfl (fun ls hl => ?_)
        refine lv_goto (tgt := 9) hx hb dX3_buildTurns_33 (by decide) ?_
        have eF9 : rg 11 13 F (rg 11 13 (rg 11 13 F F1) F_4) = rg 11 13 (rg 11 13 F F1) F_4 := by funext k; simp only [rg, va_up]; (repeat' split) <;> first | with_reducible rfl | omega
        have eX9 : rg 14 18 (rg 0 1 X (rg 14 18 (rg 0 1 (rg 14 18 (rg 0 1 X X1) X1) X_5) X_5)) (rg 14 18 (rg 0 1 (rg 14 18 (rg 0 1 X X1) X1) X_5) X_5) = rg 14 18 (rg 0 1 (rg 14 18 (rg 0 1 X X1) X1) X_5) X_5 := by funext k; simp only [rg, va_up]; (repeat' split) <;> first | with_reducible rfl | omega
        have hP9 : va_P (dC, dI) vwCl (CW cB cC cI cJ cZ a (rg 11 13 F (rg 11 13 (rg 11 13 F F1) F_4)) (rg 14 18 (rg 0 1 X (rg 14 18 (rg 0 1 (rg 14 18 (rg 0 1 X X1) X1) X_5) X_5)) (rg 14 18 (rg 0 1 (rg 14 18 (rg 0 1 X X1) X1) X_5) X_5)) J R gf gn) H := by rw [eF9, eX9]; exact hP
        have hD9 : va_D A (CW cB cC cI cJ cZ a (rg 11 13 F (rg 11 13 (rg 11 13 F F1) F_4)) (rg 14 18 (rg 0 1 X (rg 14 18 (rg 0 1 (rg 14 18 (rg 0 1 X X1) X1) X_5) X_5)) (rg 14 18 (rg 0 1 (rg 14 18 (rg 0 1 X X1) X1) X_5) X_5)) J R gf gn) := by rw [eF9, eX9]; exact hD
        exact ih (rg 11 13 (rg 11 13 F F1) F_4) (rg 14 18 (rg 0 1 (rg 14 18 (rg 0 1 X X1) X1) X_5) X_5) tu (q + 1) D2 (show (tu - (q + 1)).toNat < k from by omega) (by omega) (by omega) (show 0 ≤ (q + 1) from by first | assumption | omega | (with_reducible rfl) | ((repeat' apply And.intro) <;> first | assumption | omega | (with_reducible rfl))) (show FI (X_5 1) D2 gf (F 0).toInt (F_4 12).toInt from hfi) (show GR (X 1) D (F 12).toInt (X_5 1) D2 (F_4 12).toInt (61 - y) from hG3) (show 0 ≤ (F_4 13).toInt ∧ (F_4 13).toInt ≤ (gn : Int) from by first | assumption | omega | (with_reducible rfl) | ((repeat' apply And.intro) <;> first | assumption | omega | (with_reducible rfl))) _ _ hP9 hD9 hS ls (lv_sub hl [1, 2, 3, 4, 0] rfl)

set_option maxHeartbeats 4000000 in
set_option maxRecDepth 100000 in
theorem st_buildTurns (l : Launch) (d : Nat) (hI : P_X3_build l d) : P_X3_buildTurns l d := by
  unfold P_X3_buildTurns
  intro dC dI cB cC cI cJ cZ a F X J R gf gn x y D ix iy hgf hgn hnt hms hsa hx2 hz hfi s0
  refine Met.ofW (cc := cX3_buildTurns) (maxL := 5) (ret := none) (by decide) rfl ?_
  intro p e s m args below meth c s₁ B9 hml hv
  obtain ⟨rfl, hsz0, hP, hK, hD0, hNW⟩ := hv
  have hx := B9.exec
  have hb := B9.bytes
  have hr := B9.returns
  have hts := atoms_spec (ws := vX3_buildTurns) B9.pre
  have hown : s.vm.findClass RX3 = some m.cls := findClass_of_methodNamed B9.named
  have hlocks := B9.notSynchronized
  clear B9
  subst hsz0
  have hD := hD0.self (sz := s.heap.size)
  generalize hAe : va_A (CW cB cC cI cJ cZ a F X J R gf gn) s.heap.size = A at hD ⊢
  have hA : ∀ q : Nat, s.heap.size ≤ q → A q := fun q h => by rw [← hAe]; exact Or.inr h
  have hS : va_S A s.heap s.heap [] := va_S.rf
  have hcs : 0 + 0 ≤ (0 : Nat) ∧ 0 + 0 ≤ (0 : Nat) := ⟨Nat.le_refl 0, Nat.le_refl 0⟩
  have hl := lv_entry ([.ref (a 3), .int (oI x), .int (oI y)]) (n := 5) (Nat.le_of_ble_eq_true rfl)
  rw [lg_entry_eq]
  generalize (lg_sl ([.ref (a 3), .int (oI x), .int (oI y)]) ++ List.replicate (5 - (lg_sl ([.ref (a 3), .int (oI x), .int (oI y)])).length) Slot.unset).toArray = ls at hl ⊢
  have hl : lv_has ls 5 [(0, .ref (a 3)), (1, .int (oI x)), (2, .int (oI y))] := hl
  have hsp := FI_sp hfi
  refine lv_aload_n hx hb dX3_buildTurns_0 rfl (lv_at hl 0 rfl) ?_
  refine lv_iload_n hx hb dX3_buildTurns_1 rfl (lv_at hl 1 rfl) ?_
  refine ccs_iV (As := [.int (oI x)]) (rest := []) ⟨hx, hb, hml, hown, hts⟩ (c_turnsOf l dC dI cB cC cI cJ cZ a F X J R gf gn x  (by omega) (show gf ≤ 67600 from by first | assumption | omega) (show gn ≤ 63261 from by first | assumption | omega) (show SPR (X 1) from by first | assumption | omega) (show 0 ≤ (F 13).toInt ∧ (F 13).toInt ≤ (gn : Int) from by first | assumption | omega) (show 0 ≤ (F 19).toInt ∧ (F 19).toInt ≤ 3000 ∧ 0 ≤ (F 20).toInt ∧ (F 20).toInt ≤ 3000 from by first | assumption | omega) (show x < 1073741824 from by first | assumption | omega) s.heap.size) (cwV 1 hts kX3_buildTurns_X3_turnsOf_61 rfl rfl rfl (by decide +kernel) ⟨show 2 + 1 ≤ 2 * d + 69 from by omega, show 8 + (5 + 11) + 82 ≤ 60 * d + 2062 from by omega⟩) (va_recv hK hP (ci := 3) (q0 := 3) rfl rfl) hK hNW hP hD hS hA rfl rfl hl.1 (lv_room (Nat.le_of_ble_eq_true rfl)) dX3_buildTurns_2 hcs (fun r_1 hw_2 H locs hP hD hS => ?_)
  have i_3 := i32r r_1
  refine lv_istore_n (lv' := [(3, .int (oI r_1.toInt)), (0, .ref (a 3)), (1, .int (oI x)), (2, .int (oI y))]) hx hb dX3_buildTurns_5 rfl hl (by decide) rfl (fun ls hl => ?_)
  refine lv_iconst (v := oI 0) hx hb dX3_buildTurns_6 (by decide) ?_
  refine lv_istore (lv' := [(4, .int (oI 0)), (3, .int (oI r_1.toInt)), (0, .ref (a 3)), (1, .int (oI x)), (2, .int (oI y))]) hx hb dX3_buildTurns_7 hl (by decide) rfl (fun ls hl => ?_)
  have eF9 : rg 11 13 F F = F := by funext k; simp only [rg, va_up]; (repeat' split) <;> first | with_reducible rfl | omega
  have eX9 : rg 14 18 (rg 0 1 X X) X = X := by funext k; simp only [rg, va_up]; (repeat' split) <;> first | with_reducible rfl | omega
  have hP9 : va_P (dC, dI) vwCl (CW cB cC cI cJ cZ a (rg 11 13 F F) (rg 14 18 (rg 0 1 X X) X) J R gf gn) H := by rw [eF9, eX9]; exact hP
  have hD9 : va_D A (CW cB cC cI cJ cZ a (rg 11 13 F F) (rg 14 18 (rg 0 1 X X) X) J R gf gn) := by rw [eF9, eX9]; exact hD
  exact lq_buildTurns hx hb hml hown hts hK hNW hA hr hlocks x y d D ix iy (by assumption) (by assumption) (by assumption) (by assumption) (by assumption) (by assumption) (by assumption) (by assumption) hI _ F X r_1.toInt 0 D (Nat.lt_succ_self _) (i32r _) (by decide) (show 0 ≤ 0 from by first | assumption | omega | (with_reducible rfl) | ((repeat' apply And.intro) <;> first | assumption | omega | (with_reducible rfl))) (show FI (X 1) D gf (F 0).toInt (F 12).toInt from hfi) (show GR (X 1) D (F 12).toInt (X 1) D (F 12).toInt (61 - y) from GR_rf) (show 0 ≤ (F 13).toInt ∧ (F 13).toInt ≤ (gn : Int) from by first | assumption | omega | (with_reducible rfl) | ((repeat' apply And.intro) <;> first | assumption | omega | (with_reducible rfl))) _ _ hP9 hD9 hS ls (lv_sub hl [2, 3, 4, 1, 0] rfl)

set_option maxHeartbeats 4000000 in
set_option maxRecDepth 100000 in
theorem lq_build {p : Program} {l : Launch} {e : Env} {s : State} {m : MethodId} {args : Array Value} {below : List Frame} {meth : Method} {c : Code} {A : Nat → Prop} {dC : Nat → ClassId} {dI : Nat → Nat → Nat} {cB cC cI cJ cZ : ClassId} {a : Nat → Nat} {F : Nat → Int32} {X : Nat → Nat → Int32} {J : Nat → Nat → Int64} {R : Nat → Nat} {gf gn : Nat} (hx : p.tables.exec = Jvm.exec) (hb : c.code = cX3_build) (hml : c.maxLocals = 8) (hown : s.vm.findClass RX3 = some m.cls) (hts : ∀ w ∈ vX3_build, w.before args s = true) (hK : va_K (dC, dI) vwCl (TY cB cC cI cJ cZ) s) (hNW : NW s) (hA : ∀ q : Nat, s.heap.size ≤ q → A q) (hr : meth.sig.returnType = none) (hlocks : meth.locks = false) (x y z : Int) (d : Nat) (D : Int → Nat) (ix : (-2147483648 ≤ x ∧ x < 2147483648)) (iy : (-2147483648 ≤ y ∧ y < 2147483648)) (iz : (-2147483648 ≤ z ∧ z < 2147483648)) (hgf : gf ≤ 67600) (hgn : gn ≤ 63261) (hnt : 0 ≤ (F 13).toInt ∧ (F 13).toInt ≤ (gn : Int)) (hms : 0 ≤ (F 19).toInt ∧ (F 19).toInt ≤ 3000 ∧ 0 ≤ (F 20).toInt ∧ (F 20).toInt ≤ 3000) (hsa : 0 ≤ (F 10).toInt ∧ (F 10).toInt ≤ 67600) (hx2 : x < 1073741824) (hz : 0 ≤ z ∧ z ≤ 61 ∧ 62 ≤ z + ((d : Nat) : Int)) (hfi : FI (X 1) D gf (F 0).toInt (F 12).toInt)  (hI : ∀ d1, d1 < d → P_X3_build l d1) (hJ : ∀ d1, d1 < d → P_X3_buildTurns l d1) (hx0 : 0 ≤ x ∧ x < (gf : Int)) : ∀ (k : Nat) (F1 : Nat → Int32) (X1 : Nat → Nat → Int32) (li : Int) (en : Int) (q : Int) (D1 : Int → Nat), (en - q).toNat < k → (-2147483648 ≤ li ∧ li < 2147483648) → (-2147483648 ≤ en ∧ en < 2147483648) → (-2147483648 ≤ q ∧ q < 2147483648) → (x < q ∧ q ≤ x + 300000 ∧ en ≤ x + 67600) → (FI (X1 1) D1 gf (F 0).toInt (F1 12).toInt) → (GR (X 1) D (F 12).toInt (X1 1) D1 (F1 12).toInt (61 - z)) → (LI D1 (F 12).toInt (F1 12).toInt li z) → (60 < z → (F1 11).toInt = 1) → (0 ≤ (F1 13).toInt ∧ (F1 13).toInt ≤ (gn : Int)) → ∀ (H : Heap) (locs : List Loc), va_P (dC, dI) vwCl (CW cB cC cI cJ cZ a (rg 11 13 F F1) (rg 14 18 (rg 0 1 X X1) X1) J R gf gn) H → va_D A (CW cB cC cI cJ cZ a (rg 11 13 F F1) (rg 14 18 (rg 0 1 X X1) X1) J R gf gn) → va_S A s.heap H locs → ∀ (ls : Array Slot), lv_has ls 8 [(0, .ref (a 3)), (1, .int (oI x)), (2, .int (oI y)), (3, .int (oI z)), (4, .int (oI li)), (5, .int (oI en)), (7, .int (oI q))] → W p l e (headSpec vX3_build { frames := 2 * d + 68, cells := 0, slots := 0, locals := 60 * d + 2032 }).room s m args below meth c H locs 0 0 (MQ below (va_Qv (fun (u : (Nat → Int32) × (Nat → Nat → Int32)) => match u with | (F1, X1) => (∃ D9 : Int → Nat, FI (X1 1) D9 gf (F 0).toInt (F1 12).toInt ∧ GR (X 1) D (F 12).toInt (X1 1) D9 (F1 12).toInt (61 - z)) ∧ (0 ≤ (F1 13).toInt ∧ (F1 13).toInt ≤ (gn : Int))) (fun u => cPost dC dI cB cC cI cJ cZ a (rg 11 13 F u.1) (rg 14 18 (rg 0 1 X u.2) u.2) J R gf gn A) A) args s 0 0 A) (F0 m 44 ls []) := by
  have hcs : 0 + 0 ≤ (0 : Nat) ∧ 0 + 0 ≤ (0 : Nat) := ⟨Nat.le_refl 0, Nat.le_refl 0⟩
  intro k
  induction k with
  | zero =>
    intro F1 X1 li en q D1 hk ili9 ien9 iq9 hq hf1 hG hL htm hnt1
    exact absurd hk (Nat.not_lt_zero _)
  | succ k ih =>
    intro F1 X1 li en q D1 hk ili9 ien9 iq9 hq hf1 hG hL htm hnt1 H locs hP hD hS ls hl
    have hf0 := hfi
    have hfi := hf1
    have hsp := FI_sp hfi
    have hbb := FI_b hfi
    refine lv_iload hx hb dX3_build_44 (lv_at hl 6 rfl) ?_
    refine lv_iload hx hb dX3_build_46 (lv_at hl 5 rfl) ?_
    refine ci_ge (tgt := 123) hx hb (by omega) (by omega) dX3_build_48 (by decide) (fun c_1 => ?_) (fun c_1 => ?_)
    · refine lv_aload_n hx hb dX3_build_123 rfl (lv_at hl 0 rfl) ?_
      refine cg_3_0 hx hb hts inX3_build_X3 hown hK hP (hts _ lkX3_build_f22) dX3_build_124 ?_
      refine lv_iload hx hb dX3_build_127 (lv_at hl 4 rfl) ?_
      refine ccp_vV (As := [.int (oI li)]) (rest := []) (gF := fun _ => rg 11 13 F F1) (gX := fun X9 => rg 1 1 (rg 14 18 (rg 0 1 X X1) X1) X9) ⟨hx, hb, hml, hown, hts⟩ (c_endList l dC dI cB cC cI cJ cZ a (rg 11 13 F F1) (rg 14 18 (rg 0 1 X X1) X1) J R gf gn li  (by omega) (show gf ≤ 67600 from by first | assumption | omega)  H.size) (cwV 1 hts kX3_build_X1_endList_94 rfl rfl rfl (by decide +kernel) ⟨show 1 + 1 ≤ 2 * d + 68 from by omega, show 8 + (2 + 11) + 60 ≤ 60 * d + 2032 from by omega⟩) (va_recv hK hP (ci := 1) (q0 := 1) rfl rfl) hK hNW hP hD hS hA rfl rfl hl.1 (lv_room (Nat.le_of_ble_eq_true rfl)) dX3_build_129 hcs (fun F_2 X_3 hw_4 H locs hP hD hS => ?_)
      have hw_4 : ((0 ≤ li ∧ li < (F1 12).toInt ∧ li < (gf : Int)) ∧ X_3 1 = upd (X1 1) (li).toNat (oI ((F1 12).toInt - li))) ∨ (¬ (0 ≤ li ∧ li < (F1 12).toInt ∧ li < (gf : Int)) ∧ X_3 1 = (X1 1)) := hw_4
      have hend := hw_4
      obtain ⟨m1, m2⟩ := MK_end hgf hf0 hf1 hG hL hend
      have eF9 : rg 11 13 F (rg 11 13 F F1) = rg 11 13 F F1 := by funext k; simp only [rg, va_up]; (repeat' split) <;> first | with_reducible rfl | omega
      have eX9 : rg 14 18 (rg 0 1 X (rg 1 1 (rg 14 18 (rg 0 1 X X1) X1) X_3)) (rg 1 1 (rg 14 18 (rg 0 1 X X1) X1) X_3) = rg 1 1 (rg 14 18 (rg 0 1 X X1) X1) X_3 := by funext k; simp only [rg, va_up]; (repeat' split) <;> first | with_reducible rfl | omega
      have hP9 : va_P (dC, dI) vwCl (CW cB cC cI cJ cZ a (rg 11 13 F (rg 11 13 F F1)) (rg 14 18 (rg 0 1 X (rg 1 1 (rg 14 18 (rg 0 1 X X1) X1) X_3)) (rg 1 1 (rg 14 18 (rg 0 1 X X1) X1) X_3)) J R gf gn) H := by rw [eF9, eX9]; exact hP
      have hD9 : va_D A (CW cB cC cI cJ cZ a (rg 11 13 F (rg 11 13 F F1)) (rg 14 18 (rg 0 1 X (rg 1 1 (rg 14 18 (rg 0 1 X X1) X1) X_3)) (rg 1 1 (rg 14 18 (rg 0 1 X X1) X1) X_3)) J R gf gn) := by rw [eF9, eX9]; exact hD
      have hpost : (∃ D9 : Int → Nat, FI (X_3 1) D9 gf (F 0).toInt (F1 12).toInt ∧ GR (X 1) D (F 12).toInt (X_3 1) D9 (F1 12).toInt (61 - z)) ∧ (0 ≤ (F1 13).toInt ∧ (F1 13).toInt ≤ (gn : Int)) := ⟨⟨D1, m1, m2⟩, by omega⟩
      exact W.vret hx hb hr (fun t ht hW => ⟨⟨(rg 11 13 F F1, rg 1 1 (rg 14 18 (rg 0 1 X X1) X1) X_3), rfl, hpost, by rw [ht]; exact hP9, va_K.moved hW.alike hK, hD9⟩, hS.F ht⟩) hS.2.2 dX3_build_132
    · refine lv_aload_n hx hb dX3_build_51 rfl (lv_at hl 0 rfl) ?_
      refine cg_3_5 hx hb hts inX3_build_X3 hown hK hP (hts _ lkX3_build_f18) dX3_build_52 ?_
      refine tp_i (y := oI (F1 11).toInt) rfl ?_
      have i_5 := i32r (F1 11)
      refine cz_ne (tgt := 123) hx hb (i32r _) dX3_build_55 (by decide) (fun c_6 => ?_) (fun c_6 => ?_)
      · refine lv_aload_n hx hb dX3_build_123 rfl (lv_at hl 0 rfl) ?_
        refine cg_3_0 hx hb hts inX3_build_X3 hown hK hP (hts _ lkX3_build_f22) dX3_build_124 ?_
        refine lv_iload hx hb dX3_build_127 (lv_at hl 4 rfl) ?_
        refine ccp_vV (As := [.int (oI li)]) (rest := []) (gF := fun _ => rg 11 13 F F1) (gX := fun X9 => rg 1 1 (rg 14 18 (rg 0 1 X X1) X1) X9) ⟨hx, hb, hml, hown, hts⟩ (c_endList l dC dI cB cC cI cJ cZ a (rg 11 13 F F1) (rg 14 18 (rg 0 1 X X1) X1) J R gf gn li  (by omega) (show gf ≤ 67600 from by first | assumption | omega)  H.size) (cwV 1 hts kX3_build_X1_endList_94 rfl rfl rfl (by decide +kernel) ⟨show 1 + 1 ≤ 2 * d + 68 from by omega, show 8 + (2 + 11) + 60 ≤ 60 * d + 2032 from by omega⟩) (va_recv hK hP (ci := 1) (q0 := 1) rfl rfl) hK hNW hP hD hS hA rfl rfl hl.1 (lv_room (Nat.le_of_ble_eq_true rfl)) dX3_build_129 hcs (fun F_7 X_8 hw_9 H locs hP hD hS => ?_)
        have hw_9 : ((0 ≤ li ∧ li < (F1 12).toInt ∧ li < (gf : Int)) ∧ X_8 1 = upd (X1 1) (li).toNat (oI ((F1 12).toInt - li))) ∨ (¬ (0 ≤ li ∧ li < (F1 12).toInt ∧ li < (gf : Int)) ∧ X_8 1 = (X1 1)) := hw_9
        have hend := hw_9
        obtain ⟨m1, m2⟩ := MK_end hgf hf0 hf1 hG hL hend
        have eF9 : rg 11 13 F (rg 11 13 F F1) = rg 11 13 F F1 := by funext k; simp only [rg, va_up]; (repeat' split) <;> first | with_reducible rfl | omega
        have eX9 : rg 14 18 (rg 0 1 X (rg 1 1 (rg 14 18 (rg 0 1 X X1) X1) X_8)) (rg 1 1 (rg 14 18 (rg 0 1 X X1) X1) X_8) = rg 1 1 (rg 14 18 (rg 0 1 X X1) X1) X_8 := by funext k; simp only [rg, va_up]; (repeat' split) <;> first | with_reducible rfl | omega
        have hP9 : va_P (dC, dI) vwCl (CW cB cC cI cJ cZ a (rg 11 13 F (rg 11 13 F F1)) (rg 14 18 (rg 0 1 X (rg 1 1 (rg 14 18 (rg 0 1 X X1) X1) X_8)) (rg 1 1 (rg 14 18 (rg 0 1 X X1) X1) X_8)) J R gf gn) H := by rw [eF9, eX9]; exact hP
        have hD9 : va_D A (CW cB cC cI cJ cZ a (rg 11 13 F (rg 11 13 F F1)) (rg 14 18 (rg 0 1 X (rg 1 1 (rg 14 18 (rg 0 1 X X1) X1) X_8)) (rg 1 1 (rg 14 18 (rg 0 1 X X1) X1) X_8)) J R gf gn) := by rw [eF9, eX9]; exact hD
        have hpost : (∃ D9 : Int → Nat, FI (X_8 1) D9 gf (F 0).toInt (F1 12).toInt ∧ GR (X 1) D (F 12).toInt (X_8 1) D9 (F1 12).toInt (61 - z)) ∧ (0 ≤ (F1 13).toInt ∧ (F1 13).toInt ≤ (gn : Int)) := ⟨⟨D1, m1, m2⟩, by omega⟩
        exact W.vret hx hb hr (fun t ht hW => ⟨⟨(rg 11 13 F F1, rg 1 1 (rg 14 18 (rg 0 1 X X1) X1) X_8), rfl, hpost, by rw [ht]; exact hP9, va_K.moved hW.alike hK, hD9⟩, hS.F ht⟩) hS.2.2 dX3_build_132
      · refine lv_aload_n hx hb dX3_build_58 rfl (lv_at hl 0 rfl) ?_
        refine cg_3_0 hx hb hts inX3_build_X3 hown hK hP (hts _ lkX3_build_f22) dX3_build_59 ?_
        refine lv_iload hx hb dX3_build_62 (lv_at hl 6 rfl) ?_
        refine ccs_iV (As := [.int (oI q)]) (rest := []) ⟨hx, hb, hml, hown, hts⟩ (c_after l dC dI cB cC cI cJ cZ a (rg 11 13 F F1) (rg 14 18 (rg 0 1 X X1) X1) J R gf gn q  (by omega) (show gf ≤ 67600 from by first | assumption | omega) (show SPR (X1 1) from by first | assumption | omega) (show q < 2147483647 from by first | assumption | omega) H.size) (cwV 1 hts kX3_build_X1_after_53 rfl rfl rfl (by decide +kernel) ⟨show 1 + 1 ≤ 2 * d + 68 from by omega, show 8 + (2 + 11) + 60 ≤ 60 * d + 2032 from by omega⟩) (va_recv hK hP (ci := 1) (q0 := 1) rfl rfl) hK hNW hP hD hS hA rfl rfl hl.1 (lv_room (Nat.le_of_ble_eq_true rfl)) dX3_build_64 hcs (fun r_10 hw_11 H locs hP hD hS => ?_)
        have hw_11 : (r_10).toInt = AF (X1 1) gf q ∧ q < (r_10).toInt ∧ (r_10).toInt ≤ q + 67600 := hw_11
        obtain ⟨_, la, ua⟩ := hw_11
        have i_12 := i32r r_10
        refine lv_istore (lv' := [(6, .int (oI r_10.toInt)), (0, .ref (a 3)), (1, .int (oI x)), (2, .int (oI y)), (3, .int (oI z)), (4, .int (oI li)), (5, .int (oI en)), (7, .int (oI q))]) hx hb dX3_build_67 hl (by decide) rfl (fun ls hl => ?_)
        refine lv_aload_n hx hb dX3_build_69 rfl (lv_at hl 1 rfl) ?_
        refine cg_3_0 hx hb hts inX3_build_X3 hown hK hP (hts _ lkX3_build_f22) dX3_build_70 ?_
        refine lv_iload hx hb dX3_build_73 (lv_at hl 7 rfl) ?_
        refine lv_iload hx hb dX3_build_75 (lv_at hl 6 rfl) ?_
        refine ccs_iV (As := [.int (oI q), .int (oI en)]) (rest := []) ⟨hx, hb, hml, hown, hts⟩ (c_isRepeated l dC dI cB cC cI cJ cZ a (rg 11 13 F F1) (rg 14 18 (rg 0 1 X X1) X1) J R gf gn q en  (by omega) (by omega) (show gf ≤ 67600 from by first | assumption | omega) (show SPR (X1 1) from by first | assumption | omega) (show q < 1073741824 from by first | assumption | omega) H.size) (cwV 2 hts kX3_build_X1_isRepeated_57 rfl rfl rfl (by decide +kernel) ⟨show 2 + 1 ≤ 2 * d + 68 from by omega, show 8 + (3 + 11) + 82 ≤ 60 * d + 2032 from by omega⟩) (va_recv hK hP (ci := 1) (q0 := 1) rfl rfl) hK hNW hP hD hS hA rfl rfl hl.1 (lv_room (Nat.le_of_ble_eq_true rfl)) dX3_build_77 hcs (fun r_13 hw_14 H locs hP hD hS => ?_)
        have hw_14 : ((r_13).toInt = 1 ∧ AF (X1 1) gf q < en) ∨ (r_13).toInt = 0 := hw_14
        have _ := hw_14
        have i_15 := i32r r_13
        refine cz_eq (tgt := 106) hx hb (i32r _) dX3_build_80 (by decide) (fun c_16 => ?_) (fun c_16 => ?_)
        · refine lv_aload_n hx hb dX3_build_106 rfl (lv_at hl 1 rfl) ?_
          refine lv_iload hx hb dX3_build_107 (lv_at hl 7 rfl) ?_
          refine lv_iload_n hx hb dX3_build_109 rfl (lv_at hl 3 rfl) ?_
          refine lv_iload_n hx hb dX3_build_110 rfl (lv_at hl 4 rfl) ?_
          refine lv_iconst (v := oI 1) hx hb dX3_build_111 (by decide) ?_
          refine lv_iadd hx hb dX3_build_112 ?_
          refine tp_i (oI_add z 1) ?_
          refine ccp_vV (As := [.int (oI q), .int (oI y), .int (oI (z + 1))]) (rest := []) (gF := fun F9 => rg 11 13 (rg 11 13 F F1) F9) (gX := fun X9 => rg 14 18 (rg 0 1 (rg 14 18 (rg 0 1 X X1) X1) X9) X9) ⟨hx, hb, hml, hown, hts⟩ ((hI (d - 1) (by omega)) dC dI cB cC cI cJ cZ a (rg 11 13 F F1) (rg 14 18 (rg 0 1 X X1) X1) J R gf gn q y (z + 1) D1 (by omega) (by omega) (by omega) (show gf ≤ 67600 from by first | assumption | omega) (show gn ≤ 63261 from by first | assumption | omega) (show 0 ≤ (F1 13).toInt ∧ (F1 13).toInt ≤ (gn : Int) from by first | assumption | omega) (show 0 ≤ (F 19).toInt ∧ (F 19).toInt ≤ 3000 ∧ 0 ≤ (F 20).toInt ∧ (F 20).toInt ≤ 3000 from by first | assumption | omega) (show 0 ≤ (F 10).toInt ∧ (F 10).toInt ≤ 67600 from by first | assumption | omega) (show q < 1073741824 from by first | assumption | omega) (show 0 ≤ (z + 1) ∧ (z + 1) ≤ 61 ∧ 62 ≤ (z + 1) + ((d - 1 : Nat) : Int) from by first | assumption | omega) (show FI (X1 1) D1 gf (F 0).toInt (F1 12).toInt from by assumption) H.size) (cwV 3 hts kX3_build_X3_build_49 rfl rfl rfl (by decide +kernel) ⟨show (2 * (d - 1) + 68) + 1 ≤ 2 * d + 68 from by omega, show 8 + (8 + 11) + (60 * (d - 1) + 2032) ≤ 60 * d + 2032 from by omega⟩) (va_recv hK hP (ci := 3) (q0 := 3) rfl rfl) hK hNW hP hD hS hA rfl rfl hl.1 (lv_room (Nat.le_of_ble_eq_true rfl)) dX3_build_113 hcs (fun F_17 X_18 hw_19 H locs hP hD hS => ?_)
          have hw_19 : (∃ D9 : Int → Nat, FI (X_18 1) D9 gf (F 0).toInt (F_17 12).toInt ∧ GR (X1 1) D1 (F1 12).toInt (X_18 1) D9 (F_17 12).toInt (61 - (z + 1))) ∧ (0 ≤ (F_17 13).toInt ∧ (F_17 13).toInt ≤ (gn : Int)) := hw_19
          obtain ⟨⟨D2, hfi, hG2⟩, hnt⟩ := hw_19
          have hsp := FI_sp hfi
          obtain ⟨hG3, hL3⟩ := MK_step hG hL hG2
          refine lv_iload hx hb dX3_build_116 (lv_at hl 0 rfl) ?_
          refine lv_istore (lv' := [(7, .int (oI r_10.toInt)), (6, .int (oI r_10.toInt)), (0, .ref (a 3)), (1, .int (oI x)), (2, .int (oI y)), (3, .int (oI z)), (4, .int (oI li)), (5, .int (oI en))]) hx hb dX3_build_118 hl (by decide) rfl (fun ls hl => ?_)
          refine lv_goto (tgt := 44) hx hb dX3_build_120 (by decide) ?_
          have eF9 : rg 11 13 F (rg 11 13 (rg 11 13 F F1) F_17) = rg 11 13 (rg 11 13 F F1) F_17 := by funext k; simp only [rg, va_up]; (repeat' split) <;> first | with_reducible rfl | omega
          have eX9 : rg 14 18 (rg 0 1 X (rg 14 18 (rg 0 1 (rg 14 18 (rg 0 1 X X1) X1) X_18) X_18)) (rg 14 18 (rg 0 1 (rg 14 18 (rg 0 1 X X1) X1) X_18) X_18) = rg 14 18 (rg 0 1 (rg 14 18 (rg 0 1 X X1) X1) X_18) X_18 := by funext k; simp only [rg, va_up]; (repeat' split) <;> first | with_reducible rfl | omega
          have hP9 : va_P (dC, dI) vwCl (CW cB cC cI cJ cZ a (rg 11 13 F (rg 11 13 (rg 11 13 F F1) F_17)) (rg 14 18 (rg 0 1 X (rg 14 18 (rg 0 1 (rg 14 18 (rg 0 1 X X1) X1) X_18) X_18)) (rg 14 18 (rg 0 1 (rg 14 18 (rg 0 1 X X1) X1) X_18) X_18)) J R gf gn) H := by rw [eF9, eX9]; exact hP
          have hD9 : va_D A (CW cB cC cI cJ cZ a (rg 11 13 F (rg 11 13 (rg 11 13 F F1) F_17)) (rg 14 18 (rg 0 1 X (rg 14 18 (rg 0 1 (rg 14 18 (rg 0 1 X X1) X1) X_18) X_18)) (rg 14 18 (rg 0 1 (rg 14 18 (rg 0 1 X X1) X1) X_18) X_18)) J R gf gn) := by rw [eF9, eX9]; exact hD
          exact ih (rg 11 13 (rg 11 13 F F1) F_17) (rg 14 18 (rg 0 1 (rg 14 18 (rg 0 1 X X1) X1) X_18) X_18) li en r_10.toInt D2 (show (en - r_10.toInt).toNat < k from by omega) (by omega) (by omega) (i32r _) (show x < r_10.toInt ∧ r_10.toInt ≤ x + 300000 ∧ en ≤ x + 67600 from by first | assumption | omega | (with_reducible rfl) | ((repeat' apply And.intro) <;> first | assumption | omega | (with_reducible rfl))) (show FI (X_18 1) D2 gf (F 0).toInt (F_17 12).toInt from hfi) (show GR (X 1) D (F 12).toInt (X_18 1) D2 (F_17 12).toInt (61 - z) from hG3) (show LI D2 (F 12).toInt (F_17 12).toInt li z from hL3) (show 60 < z → (F_17 11).toInt = 1 from by first | assumption | omega | (with_reducible rfl) | ((repeat' apply And.intro) <;> first | assumption | omega | (with_reducible rfl))) (show 0 ≤ (F_17 13).toInt ∧ (F_17 13).toInt ≤ (gn : Int) from by first | assumption | omega | (with_reducible rfl) | ((repeat' apply And.intro) <;> first | assumption | omega | (with_reducible rfl))) _ _ hP9 hD9 hS ls (lv_sub hl [2, 3, 4, 5, 6, 7, 0] rfl)
        · refine lv_aload_n hx hb dX3_build_83 rfl (lv_at hl 1 rfl) ?_
          refine cg_3_0 hx hb hts inX3_build_X3 hown hK hP (hts _ lkX3_build_f22) dX3_build_84 ?_
          refine lv_iload hx hb dX3_build_87 (lv_at hl 0 rfl) ?_
          refine ccs_iV (As := [.int (oI r_10.toInt)]) (rest := []) ⟨hx, hb, hml, hown, hts⟩ (c_after l dC dI cB cC cI cJ cZ a (rg 11 13 F F1) (rg 14 18 (rg 0 1 X X1) X1) J R gf gn r_10.toInt  (i32r _) (show gf ≤ 67600 from by first | assumption | omega) (show SPR (X1 1) from by first | assumption | omega) (show r_10.toInt < 2147483647 from by first | assumption | omega) H.size) (cwV 1 hts kX3_build_X1_after_53 rfl rfl rfl (by decide +kernel) ⟨show 1 + 1 ≤ 2 * d + 68 from by omega, show 8 + (2 + 11) + 60 ≤ 60 * d + 2032 from by omega⟩) (va_recv hK hP (ci := 1) (q0 := 1) rfl rfl) hK hNW hP hD hS hA rfl rfl hl.1 (lv_room (Nat.le_of_ble_eq_true rfl)) dX3_build_89 hcs (fun r_20 hw_21 H locs hP hD hS => ?_)
          have hw_21 : (r_20).toInt = AF (X1 1) gf r_10.toInt ∧ r_10.toInt < (r_20).toInt ∧ (r_20).toInt ≤ r_10.toInt + 67600 := hw_21
          obtain ⟨_, la, ua⟩ := hw_21
          have i_22 := i32r r_20
          refine lv_istore (lv' := [(6, .int (oI r_20.toInt)), (0, .ref (a 3)), (1, .int (oI x)), (2, .int (oI y)), (3, .int (oI z)), (4, .int (oI li)), (5, .int (oI en)), (7, .int (oI q))]) hx hb dX3_build_92 hl (by decide) rfl (fun ls hl => ?_)
          refine lv_aload_n hx hb dX3_build_94 rfl (lv_at hl 1 rfl) ?_
          refine lv_iload hx hb dX3_build_95 (lv_at hl 7 rfl) ?_
          refine lv_iload_n hx hb dX3_build_97 rfl (lv_at hl 4 rfl) ?_
          refine lv_iconst (v := oI 1) hx hb dX3_build_98 (by decide) ?_
          refine lv_iadd hx hb dX3_build_99 ?_
          refine tp_i (oI_add z 1) ?_
          refine ccp_vV (As := [.int (oI q), .int (oI (z + 1))]) (rest := []) (gF := fun F9 => rg 11 13 (rg 11 13 F F1) F9) (gX := fun X9 => rg 14 18 (rg 0 1 (rg 14 18 (rg 0 1 X X1) X1) X9) X9) ⟨hx, hb, hml, hown, hts⟩ ((hJ (d - 1) (by omega)) dC dI cB cC cI cJ cZ a (rg 11 13 F F1) (rg 14 18 (rg 0 1 X X1) X1) J R gf gn q (z + 1) D1 (by omega) (by omega) (show gf ≤ 67600 from by first | assumption | omega) (show gn ≤ 63261 from by first | assumption | omega) (show 0 ≤ (F1 13).toInt ∧ (F1 13).toInt ≤ (gn : Int) from by first | assumption | omega) (show 0 ≤ (F 19).toInt ∧ (F 19).toInt ≤ 3000 ∧ 0 ≤ (F 20).toInt ∧ (F 20).toInt ≤ 3000 from by first | assumption | omega) (show 0 ≤ (F 10).toInt ∧ (F 10).toInt ≤ 67600 from by first | assumption | omega) (show q < 1073741824 from by first | assumption | omega) (show 0 ≤ (z + 1) ∧ (z + 1) ≤ 61 ∧ 62 ≤ (z + 1) + ((d - 1 : Nat) : Int) from by first | assumption | omega) (show FI (X1 1) D1 gf (F 0).toInt (F1 12).toInt from by assumption) H.size) (cwV 2 hts kX3_build_X3_buildTurns_90 rfl rfl rfl (by decide +kernel) ⟨show (2 * (d - 1) + 69) + 1 ≤ 2 * d + 68 from by omega, show 8 + (5 + 11) + (60 * (d - 1) + 2062) ≤ 60 * d + 2032 from by omega⟩) (va_recv hK hP (ci := 3) (q0 := 3) rfl rfl) hK hNW hP hD hS hA rfl rfl hl.1 (lv_room (Nat.le_of_ble_eq_true rfl)) dX3_build_100 hcs (fun F_23 X_24 hw_25 H locs hP hD hS => ?_)
          have hw_25 : (∃ D9 : Int → Nat, FI (X_24 1) D9 gf (F 0).toInt (F_23 12).toInt ∧ GR (X1 1) D1 (F1 12).toInt (X_24 1) D9 (F_23 12).toInt (61 - (z + 1))) ∧ (0 ≤ (F_23 13).toInt ∧ (F_23 13).toInt ≤ (gn : Int)) := hw_25
          obtain ⟨⟨D2, hfi, hG2⟩, hnt⟩ := hw_25
          have hsp := FI_sp hfi
          obtain ⟨hG3, hL3⟩ := MK_step hG hL hG2
          refine lv_goto (tgt := 116) hx hb dX3_build_103 (by decide) ?_
          refine lv_iload hx hb dX3_build_116 (lv_at hl 0 rfl) ?_
          refine lv_istore (lv' := [(7, .int (oI r_20.toInt)), (6, .int (oI r_20.toInt)), (0, .ref (a 3)), (1, .int (oI x)), (2, .int (oI y)), (3, .int (oI z)), (4, .int (oI li)), (5, .int (oI en))]) hx hb dX3_build_118 hl (by decide) rfl (fun ls hl => ?_)
          refine lv_goto (tgt := 44) hx hb dX3_build_120 (by decide) ?_
          have eF9 : rg 11 13 F (rg 11 13 (rg 11 13 F F1) F_23) = rg 11 13 (rg 11 13 F F1) F_23 := by funext k; simp only [rg, va_up]; (repeat' split) <;> first | with_reducible rfl | omega
          have eX9 : rg 14 18 (rg 0 1 X (rg 14 18 (rg 0 1 (rg 14 18 (rg 0 1 X X1) X1) X_24) X_24)) (rg 14 18 (rg 0 1 (rg 14 18 (rg 0 1 X X1) X1) X_24) X_24) = rg 14 18 (rg 0 1 (rg 14 18 (rg 0 1 X X1) X1) X_24) X_24 := by funext k; simp only [rg, va_up]; (repeat' split) <;> first | with_reducible rfl | omega
          have hP9 : va_P (dC, dI) vwCl (CW cB cC cI cJ cZ a (rg 11 13 F (rg 11 13 (rg 11 13 F F1) F_23)) (rg 14 18 (rg 0 1 X (rg 14 18 (rg 0 1 (rg 14 18 (rg 0 1 X X1) X1) X_24) X_24)) (rg 14 18 (rg 0 1 (rg 14 18 (rg 0 1 X X1) X1) X_24) X_24)) J R gf gn) H := by rw [eF9, eX9]; exact hP
          have hD9 : va_D A (CW cB cC cI cJ cZ a (rg 11 13 F (rg 11 13 (rg 11 13 F F1) F_23)) (rg 14 18 (rg 0 1 X (rg 14 18 (rg 0 1 (rg 14 18 (rg 0 1 X X1) X1) X_24) X_24)) (rg 14 18 (rg 0 1 (rg 14 18 (rg 0 1 X X1) X1) X_24) X_24)) J R gf gn) := by rw [eF9, eX9]; exact hD
          exact ih (rg 11 13 (rg 11 13 F F1) F_23) (rg 14 18 (rg 0 1 (rg 14 18 (rg 0 1 X X1) X1) X_24) X_24) li en r_20.toInt D2 (show (en - r_20.toInt).toNat < k from by omega) (by omega) (by omega) (i32r _) (show x < r_20.toInt ∧ r_20.toInt ≤ x + 300000 ∧ en ≤ x + 67600 from by first | assumption | omega | (with_reducible rfl) | ((repeat' apply And.intro) <;> first | assumption | omega | (with_reducible rfl))) (show FI (X_24 1) D2 gf (F 0).toInt (F_23 12).toInt from hfi) (show GR (X 1) D (F 12).toInt (X_24 1) D2 (F_23 12).toInt (61 - z) from hG3) (show LI D2 (F 12).toInt (F_23 12).toInt li z from hL3) (show 60 < z → (F_23 11).toInt = 1 from by first | assumption | omega | (with_reducible rfl) | ((repeat' apply And.intro) <;> first | assumption | omega | (with_reducible rfl))) (show 0 ≤ (F_23 13).toInt ∧ (F_23 13).toInt ≤ (gn : Int) from by first | assumption | omega | (with_reducible rfl) | ((repeat' apply And.intro) <;> first | assumption | omega | (with_reducible rfl))) _ _ hP9 hD9 hS ls (lv_sub hl [2, 3, 4, 5, 6, 7, 0] rfl)

set_option maxHeartbeats 4000000 in
set_option maxRecDepth 100000 in
theorem st_build (l : Launch) (d : Nat) (hI : ∀ d1, d1 < d → P_X3_build l d1) (hJ : ∀ d1, d1 < d → P_X3_buildTurns l d1) : P_X3_build l d := by
  unfold P_X3_build
  intro dC dI cB cC cI cJ cZ a F X J R gf gn x y z D ix iy iz hgf hgn hnt hms hsa hx2 hz hfi s0
  refine Met.ofW (cc := cX3_build) (maxL := 8) (ret := none) (by decide) rfl ?_
  intro p e s m args below meth c s₁ B9 hml hv
  obtain ⟨rfl, hsz0, hP, hK, hD0, hNW⟩ := hv
  have hx := B9.exec
  have hb := B9.bytes
  have hr := B9.returns
  have hts := atoms_spec (ws := vX3_build) B9.pre
  have hown : s.vm.findClass RX3 = some m.cls := findClass_of_methodNamed B9.named
  have hlocks := B9.notSynchronized
  clear B9
  subst hsz0
  have hD := hD0.self (sz := s.heap.size)
  generalize hAe : va_A (CW cB cC cI cJ cZ a F X J R gf gn) s.heap.size = A at hD ⊢
  have hA : ∀ q : Nat, s.heap.size ≤ q → A q := fun q h => by rw [← hAe]; exact Or.inr h
  have hS : va_S A s.heap s.heap [] := va_S.rf
  have hcs : 0 + 0 ≤ (0 : Nat) ∧ 0 + 0 ≤ (0 : Nat) := ⟨Nat.le_refl 0, Nat.le_refl 0⟩
  have hl := lv_entry ([.ref (a 3), .int (oI x), .int (oI y), .int (oI z)]) (n := 8) (Nat.le_of_ble_eq_true rfl)
  rw [lg_entry_eq]
  generalize (lg_sl ([.ref (a 3), .int (oI x), .int (oI y), .int (oI z)]) ++ List.replicate (8 - (lg_sl ([.ref (a 3), .int (oI x), .int (oI y), .int (oI z)])).length) Slot.unset).toArray = ls at hl ⊢
  have hl : lv_has ls 8 [(0, .ref (a 3)), (1, .int (oI x)), (2, .int (oI y)), (3, .int (oI z))] := hl
  have hbb := FI_b hfi
  have hsp := FI_sp hfi
  refine lv_aload_n hx hb dX3_build_0 rfl (lv_at hl 0 rfl) ?_
  refine cg_3_0 hx hb hts inX3_build_X3 hown hK hP (hts _ lkX3_build_f22) dX3_build_1 ?_
  refine lv_iload_n hx hb dX3_build_4 rfl (lv_at hl 1 rfl) ?_
  refine ccs_iV (As := [.int (oI x)]) (rest := []) ⟨hx, hb, hml, hown, hts⟩ (c_isList l dC dI cB cC cI cJ cZ a F X J R gf gn x  (by omega) (show gf ≤ 67600 from by first | assumption | omega)  s.heap.size) (cwV 1 hts kX3_build_X1_isList_81 rfl rfl rfl (by decide +kernel) ⟨show 1 + 1 ≤ 2 * d + 68 from by omega, show 8 + (2 + 11) + 60 ≤ 60 * d + 2032 from by omega⟩) (va_recv hK hP (ci := 1) (q0 := 1) rfl rfl) hK hNW hP hD hS hA rfl rfl hl.1 (lv_room (Nat.le_of_ble_eq_true rfl)) dX3_build_5 hcs (fun r_1 hw_2 H locs hP hD hS => ?_)
  have hw_2 : ((r_1).toInt = 1 ∧ 0 ≤ x ∧ x < (gf : Int)) ∨ (r_1).toInt = 0 := hw_2
  have hil := hw_2
  have i_3 := i32r r_1
  refine cz_ne (tgt := 19) hx hb (i32r _) dX3_build_8 (by decide) (fun c_4 => ?_) (fun c_4 => ?_)
  · refine lv_aload_n hx hb dX3_build_19 rfl (lv_at hl 0 rfl) ?_
    refine lv_iload_n hx hb dX3_build_20 rfl (lv_at hl 3 rfl) ?_
    refine ccp_iV (As := [.int (oI z)]) (rest := []) (gF := fun F9 => rg 11 12 F F9) (gX := fun X9 => rg 0 1 X X9) ⟨hx, hb, hml, hown, hts⟩ (c_addList l dC dI cB cC cI cJ cZ a F X J R gf gn z D (by omega) (show gf ≤ 67600 from by first | assumption | omega) (show 0 ≤ (F 10).toInt ∧ (F 10).toInt ≤ 67600 from by first | assumption | omega) (show 0 ≤ (F 12).toInt ∧ (F 12).toInt ≤ (gf : Int) from by first | assumption | omega) (show 0 ≤ z ∧ z ≤ 61 from by first | assumption | omega) (show FI (X 1) D gf (F 0).toInt (F 12).toInt from by assumption) H.size) (cwV 1 hts kX3_build_X3_addList_87 rfl rfl rfl (by decide +kernel) ⟨show 3 + 1 ≤ 2 * d + 68 from by omega, show 8 + (2 + 11) + 102 ≤ 60 * d + 2032 from by omega⟩) (va_recv hK hP (ci := 3) (q0 := 3) rfl rfl) hK hNW hP hD hS hA rfl rfl hl.1 (lv_room (Nat.le_of_ble_eq_true rfl)) dX3_build_21 hcs (fun r_5 F_6 X_7 hw_8 H locs hP hD hS => ?_)
    have hw_8 : ∃ D9 : Int → Nat, FI (X_7 1) D9 gf (F 0).toInt (F_6 12).toInt ∧ GR (X 1) D (F 12).toInt (X_7 1) D9 (F_6 12).toInt (61 - z) ∧ LI D9 (F 12).toInt (F_6 12).toInt ((r_5).toInt) z ∧ (60 < z → (F_6 11).toInt = 1) := hw_8
    obtain ⟨D1, hf2, hG, hL, htm⟩ := hw_8
    have i_9 := i32r r_5
    have hsp := FI_sp hf2
    refine lv_istore (lv' := [(4, .int (oI r_5.toInt)), (0, .ref (a 3)), (1, .int (oI x)), (2, .int (oI y)), (3, .int (oI z))]) hx hb dX3_build_24 hl (by decide) rfl (fun ls hl => ?_)
    refine lv_aload_n hx hb dX3_build_26 rfl (lv_at hl 1 rfl) ?_
    refine cg_3_0 hx hb hts inX3_build_X3 hown hK hP (hts _ lkX3_build_f22) dX3_build_27 ?_
    refine lv_iload_n hx hb dX3_build_30 rfl (lv_at hl 2 rfl) ?_
    refine ccs_iV (As := [.int (oI x)]) (rest := []) ⟨hx, hb, hml, hown, hts⟩ (c_after l dC dI cB cC cI cJ cZ a (rg 11 12 F F_6) (rg 0 1 X X_7) J R gf gn x  (by omega) (show gf ≤ 67600 from by first | assumption | omega) (show SPR (X_7 1) from by first | assumption | omega) (show x < 2147483647 from by first | assumption | omega) H.size) (cwV 1 hts kX3_build_X1_after_53 rfl rfl rfl (by decide +kernel) ⟨show 1 + 1 ≤ 2 * d + 68 from by omega, show 8 + (2 + 11) + 60 ≤ 60 * d + 2032 from by omega⟩) (va_recv hK hP (ci := 1) (q0 := 1) rfl rfl) hK hNW hP hD hS hA rfl rfl hl.1 (lv_room (Nat.le_of_ble_eq_true rfl)) dX3_build_31 hcs (fun r_10 hw_11 H locs hP hD hS => ?_)
    have hw_11 : (r_10).toInt = AF (X_7 1) gf x ∧ x < (r_10).toInt ∧ (r_10).toInt ≤ x + 67600 := hw_11
    obtain ⟨ea, la, ua⟩ := hw_11
    have i_12 := i32r r_10
    refine lv_istore (lv' := [(5, .int (oI r_10.toInt)), (4, .int (oI r_5.toInt)), (0, .ref (a 3)), (1, .int (oI x)), (2, .int (oI y)), (3, .int (oI z))]) hx hb dX3_build_34 hl (by decide) rfl (fun ls hl => ?_)
    refine lv_iconst (v := oI 0) hx hb dX3_build_36 (by decide) ?_
    refine lv_istore (lv' := [(6, .int (oI 0)), (5, .int (oI r_10.toInt)), (4, .int (oI r_5.toInt)), (0, .ref (a 3)), (1, .int (oI x)), (2, .int (oI y)), (3, .int (oI z))]) hx hb dX3_build_37 hl (by decide) rfl (fun ls hl => ?_)
    refine lv_iload_n hx hb dX3_build_39 rfl (lv_at hl 4 rfl) ?_
    refine lv_iconst (v := oI 1) hx hb dX3_build_40 (by decide) ?_
    refine lv_iadd hx hb dX3_build_41 ?_
    refine tp_i (oI_add x 1) ?_
    refine lv_istore (lv' := [(7, .int (oI (x + 1))), (6, .int (oI 0)), (5, .int (oI r_10.toInt)), (4, .int (oI r_5.toInt)), (0, .ref (a 3)), (1, .int (oI x)), (2, .int (oI y)), (3, .int (oI z))]) hx hb dX3_build_42 hl (by decide) rfl (fun ls hl => ?_)
    have hx0 : 0 ≤ x ∧ x < (gf : Int) := by omega
    have eF9 : rg 11 13 F (rg 11 12 F F_6) = rg 11 12 F F_6 := by funext k; simp only [rg, va_up]; (repeat' split) <;> first | with_reducible rfl | omega
    have eX9 : rg 14 18 (rg 0 1 X (rg 0 1 X X_7)) (rg 0 1 X X_7) = rg 0 1 X X_7 := by funext k; simp only [rg, va_up]; (repeat' split) <;> first | with_reducible rfl | omega
    have hP9 : va_P (dC, dI) vwCl (CW cB cC cI cJ cZ a (rg 11 13 F (rg 11 12 F F_6)) (rg 14 18 (rg 0 1 X (rg 0 1 X X_7)) (rg 0 1 X X_7)) J R gf gn) H := by rw [eF9, eX9]; exact hP
    have hD9 : va_D A (CW cB cC cI cJ cZ a (rg 11 13 F (rg 11 12 F F_6)) (rg 14 18 (rg 0 1 X (rg 0 1 X X_7)) (rg 0 1 X X_7)) J R gf gn) := by rw [eF9, eX9]; exact hD
    exact lq_build hx hb hml hown hts hK hNW hA hr hlocks x y z d D ix iy iz (by assumption) (by assumption) (by assumption) (by assumption) (by assumption) (by assumption) (by assumption) (by assumption) hI hJ hx0 _ (rg 11 12 F F_6) (rg 0 1 X X_7) r_5.toInt r_10.toInt (x + 1) D1 (Nat.lt_succ_self _) (i32r _) (i32r _) (by omega) (show x < (x + 1) ∧ (x + 1) ≤ x + 300000 ∧ r_10.toInt ≤ x + 67600 from by first | assumption | omega | (with_reducible rfl) | ((repeat' apply And.intro) <;> first | assumption | omega | (with_reducible rfl))) (show FI (X_7 1) D1 gf (F 0).toInt (F_6 12).toInt from hf2) (show GR (X 1) D (F 12).toInt (X_7 1) D1 (F_6 12).toInt (61 - z) from hG) (show LI D1 (F 12).toInt (F_6 12).toInt r_5.toInt z from hL) (show 60 < z → (F_6 11).toInt = 1 from htm) (show 0 ≤ (F 13).toInt ∧ (F 13).toInt ≤ (gn : Int) from by first | assumption | omega | (with_reducible rfl) | ((repeat' apply And.intro) <;> first | assumption | omega | (with_reducible rfl))) _ _ hP9 hD9 hS ls (lv_sub hl [4, 5, 6, 7, 3, 2, 0] rfl)
  · refine lv_aload_n hx hb dX3_build_11 rfl (lv_at hl 0 rfl) ?_
    refine lv_iload_n hx hb dX3_build_12 rfl (lv_at hl 1 rfl) ?_
    refine lv_iload_n hx hb dX3_build_13 rfl (lv_at hl 2 rfl) ?_
    refine lv_iload_n hx hb dX3_build_14 rfl (lv_at hl 3 rfl) ?_
    refine ccp_vV (As := [.int (oI x), .int (oI y), .int (oI z)]) (rest := []) (gF := fun F9 => rg 11 13 F F9) (gX := fun X9 => rg 14 18 (rg 0 1 X X9) X9) ⟨hx, hb, hml, hown, hts⟩ (c_buildPart l dC dI cB cC cI cJ cZ a F X J R gf gn x y z D (by omega) (by omega) (by omega) (show gf ≤ 67600 from by first | assumption | omega) (show gn ≤ 63261 from by first | assumption | omega) (show 0 ≤ (F 13).toInt ∧ (F 13).toInt ≤ (gn : Int) from by first | assumption | omega) (show 0 ≤ (F 19).toInt ∧ (F 19).toInt ≤ 3000 ∧ 0 ≤ (F 20).toInt ∧ (F 20).toInt ≤ 3000 from by first | assumption | omega) (show 0 ≤ (F 10).toInt ∧ (F 10).toInt ≤ 67600 from by first | assumption | omega) (show 0 ≤ z ∧ z ≤ 61 from by first | assumption | omega) (show FI (X 1) D gf (F 0).toInt (F 12).toInt from by assumption) H.size) (cwV 3 hts kX3_build_X3_buildPart_84 rfl rfl rfl (by decide +kernel) ⟨show 67 + 1 ≤ 2 * d + 68 from by omega, show 8 + (6 + 11) + 2007 ≤ 60 * d + 2032 from by omega⟩) (va_recv hK hP (ci := 3) (q0 := 3) rfl rfl) hK hNW hP hD hS hA rfl rfl hl.1 (lv_room (Nat.le_of_ble_eq_true rfl)) dX3_build_15 hcs (fun F_13 X_14 hw_15 H locs hP hD hS => ?_)
    have hw_15 : (∃ D9 : Int → Nat, FI (X_14 1) D9 gf (F 0).toInt (F_13 12).toInt ∧ GR (X 1) D (F 12).toInt (X_14 1) D9 (F_13 12).toInt (61 - z)) ∧ (0 ≤ (F_13 13).toInt ∧ (F_13 13).toInt ≤ (gn : Int)) := hw_15
    obtain ⟨⟨D2, hf2, hG2⟩, hnt⟩ := hw_15
    have eF9 : rg 11 13 F (rg 11 13 F F_13) = rg 11 13 F F_13 := by funext k; simp only [rg, va_up]; (repeat' split) <;> first | with_reducible rfl | omega
    have eX9 : rg 14 18 (rg 0 1 X (rg 14 18 (rg 0 1 X X_14) X_14)) (rg 14 18 (rg 0 1 X X_14) X_14) = rg 14 18 (rg 0 1 X X_14) X_14 := by funext k; simp only [rg, va_up]; (repeat' split) <;> first | with_reducible rfl | omega
    have hP9 : va_P (dC, dI) vwCl (CW cB cC cI cJ cZ a (rg 11 13 F (rg 11 13 F F_13)) (rg 14 18 (rg 0 1 X (rg 14 18 (rg 0 1 X X_14) X_14)) (rg 14 18 (rg 0 1 X X_14) X_14)) J R gf gn) H := by rw [eF9, eX9]; exact hP
    have hD9 : va_D A (CW cB cC cI cJ cZ a (rg 11 13 F (rg 11 13 F F_13)) (rg 14 18 (rg 0 1 X (rg 14 18 (rg 0 1 X X_14) X_14)) (rg 14 18 (rg 0 1 X X_14) X_14)) J R gf gn) := by rw [eF9, eX9]; exact hD
    have hpost : (∃ D9 : Int → Nat, FI (X_14 1) D9 gf (F 0).toInt (F_13 12).toInt ∧ GR (X 1) D (F 12).toInt (X_14 1) D9 (F_13 12).toInt (61 - z)) ∧ (0 ≤ (F_13 13).toInt ∧ (F_13 13).toInt ≤ (gn : Int)) := ⟨⟨D2, hf2, hG2⟩, by omega⟩
    exact W.vret hx hb hr (fun t ht hW => ⟨⟨(rg 11 13 F F_13, rg 14 18 (rg 0 1 X X_14) X_14), rfl, hpost, by rw [ht]; exact hP9, va_K.moved hW.alike hK, hD9⟩, hS.F ht⟩) hS.2.2 dX3_build_18

theorem all_build2 (l : Launch) (d : Nat) : P_X3_build l d ∧ P_X3_buildTurns l d := by
  induction d using Nat.strongRecOn with
  | ind d ih =>
    have h := st_build l d (fun d1 h => (ih d1 h).1) (fun d1 h => (ih d1 h).2)
    exact ⟨h, st_buildTurns l d h⟩
theorem all_build (l : Launch) (d : Nat) : P_X3_build l d := (all_build2 l d).1
theorem c_build (l : Launch) (dC : Nat → ClassId) (dI : Nat → Nat → Nat) (cB cC cI cJ cZ : ClassId) (a : Nat → Nat) (F : Nat → Int32) (X : Nat → Nat → Int32) (J : Nat → Nat → Int64) (R : Nat → Nat) (gf gn : Nat) (x y z : Int) (d : Nat) (D : Int → Nat) (ix : (-2147483648 ≤ x ∧ x < 2147483648)) (iy : (-2147483648 ≤ y ∧ y < 2147483648)) (iz : (-2147483648 ≤ z ∧ z < 2147483648)) (hgf : gf ≤ 67600) (hgn : gn ≤ 63261) (hnt : 0 ≤ (F 13).toInt ∧ (F 13).toInt ≤ (gn : Int)) (hms : 0 ≤ (F 19).toInt ∧ (F 19).toInt ≤ 3000 ∧ 0 ≤ (F 20).toInt ∧ (F 20).toInt ≤ 3000) (hsa : 0 ≤ (F 10).toInt ∧ (F 10).toInt ≤ 67600) (hx2 : x < 1073741824) (hz : 0 ≤ z ∧ z ≤ 61 ∧ 62 ≤ z + ((d : Nat) : Int)) (hfi : FI (X 1) D gf (F 0).toInt (F 12).toInt) (s0 : Nat) : Met l yX3_build vX3_build { frames := 2 * d + 68, cells := 0, slots := 0, locals := 60 * d + 2032 } (va_Pc [.ref (a 3), .int (oI x), .int (oI y), .int (oI z)] (cPre dC dI cB cC cI cJ cZ a F X J R gf gn s0)) (va_Qv (fun (u : (Nat → Int32) × (Nat → Nat → Int32)) => match u with | (F1, X1) => (∃ D9 : Int → Nat, FI (X1 1) D9 gf (F 0).toInt (F1 12).toInt ∧ GR (X 1) D (F 12).toInt (X1 1) D9 (F1 12).toInt (61 - z)) ∧ (0 ≤ (F1 13).toInt ∧ (F1 13).toInt ≤ (gn : Int))) (fun u => cPost dC dI cB cC cI cJ cZ a (rg 11 13 F u.1) (rg 14 18 (rg 0 1 X u.2) u.2) J R gf gn (va_A (CW cB cC cI cJ cZ a F X J R gf gn) s0)) (va_A (CW cB cC cI cJ cZ a F X J R gf gn) s0)) 0 0 (va_A (CW cB cC cI cJ cZ a F X J R gf gn) s0) := (all_build l d) dC dI cB cC cI cJ cZ a F X J R gf gn x y z D ix iy iz hgf hgn hnt hms hsa hx2 hz hfi s0