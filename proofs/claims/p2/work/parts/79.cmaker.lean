def oX3_add : List Cond := [Cond.fieldLink RX3 18 "MacroScopes$Maker" "tooMuch" "Z", Cond.fieldLink RX3 22 "MacroScopes$Maker" "forms" "LMacroScopes$Forms;", Cond.fieldLink RX3 15 "MacroScopes$Maker" "start" "I", Cond.methodLink RX3 128 yX1_add, Cond.instanceMethod yX1_add, Cond.selects RX1 yX1_add yX1_add, Cond.initialized RX1]
def vX3_add : List Cond := .code yX3_add cX3_add 2 (some .int) :: (oX3_add ++ (vX1_add ++ (wsX30 ++ (wsX10))))
theorem lkX3_add_f18 : Cond.fieldLink RX3 18 "MacroScopes$Maker" "tooMuch" "Z" ∈ vX3_add := List.mem_cons_of_mem _ (List.mem_append_left _ (List.mem_of_getElem? (i := 0) rfl))
theorem lkX3_add_f22 : Cond.fieldLink RX3 22 "MacroScopes$Maker" "forms" "LMacroScopes$Forms;" ∈ vX3_add := List.mem_cons_of_mem _ (List.mem_append_left _ (List.mem_of_getElem? (i := 1) rfl))
theorem lkX3_add_f15 : Cond.fieldLink RX3 15 "MacroScopes$Maker" "start" "I" ∈ vX3_add := List.mem_cons_of_mem _ (List.mem_append_left _ (List.mem_of_getElem? (i := 2) rfl))
theorem inX3_add_X3 : ∀ w ∈ wsX30, w ∈ vX3_add := fun w h => List.mem_cons_of_mem _ (List.mem_append_right _ (List.mem_append_right _ (List.mem_append_left _ (h))))
theorem inX3_add_X1 : ∀ w ∈ wsX10, w ∈ vX3_add := fun w h => List.mem_cons_of_mem _ (List.mem_append_right _ (List.mem_append_right _ (List.mem_append_right _ (h))))
theorem kX3_add_X1_add_128 : GoodIn vX3_add (wsV RX3 128 RX1 yX1_add vX1_add) := goodIn_sub (fun w h => (List.mem_append.mp h).elim (fun h => List.mem_cons_of_mem _ (List.mem_append_left _ ((by decide +kernel : ∀ w ∈ ([.methodLink RX3 128 yX1_add, .instanceMethod yX1_add, .selects RX1 yX1_add yX1_add, .initialized RX1] : List Cond), w ∈ oX3_add) w h))) (fun h => List.mem_cons_of_mem _ (List.mem_append_right _ (List.mem_append_left _ (h))))) (by decide +kernel)
def oX3_addList : List Cond := [Cond.methodLink RX3 104 yX3_add, Cond.instanceMethod yX3_add, Cond.selects RX3 yX3_add yX3_add, Cond.initialized RX3, Cond.fieldLink RX3 18 "MacroScopes$Maker" "tooMuch" "Z"]
def vX3_addList : List Cond := .code yX3_addList cX3_addList 2 (some .int) :: (oX3_addList ++ (vX3_add ++ (wsX30)))
theorem lkX3_addList_f18 : Cond.fieldLink RX3 18 "MacroScopes$Maker" "tooMuch" "Z" ∈ vX3_addList := List.mem_cons_of_mem _ (List.mem_append_left _ (List.mem_of_getElem? (i := 4) rfl))
theorem inX3_addList_X3 : ∀ w ∈ wsX30, w ∈ vX3_addList := fun w h => List.mem_cons_of_mem _ (List.mem_append_right _ (List.mem_append_right _ (h)))
theorem kX3_addList_X3_add_104 : GoodIn vX3_addList (wsV RX3 104 RX3 yX3_add vX3_add) := goodIn_sub (fun w h => (List.mem_append.mp h).elim (fun h => List.mem_cons_of_mem _ (List.mem_append_left _ ((by decide +kernel : ∀ w ∈ ([.methodLink RX3 104 yX3_add, .instanceMethod yX3_add, .selects RX3 yX3_add yX3_add, .initialized RX3] : List Cond), w ∈ oX3_addList) w h))) (fun h => List.mem_cons_of_mem _ (List.mem_append_right _ (List.mem_append_left _ (h))))) (by decide +kernel)
def oX3_copy : List Cond := [Cond.fieldLink RX3 22 "MacroScopes$Maker" "forms" "LMacroScopes$Forms;", Cond.methodLink RX3 53 yX1_after, Cond.instanceMethod yX1_after, Cond.selects RX1 yX1_after yX1_after, Cond.initialized RX1, Cond.methodLink RX3 94 yX1_endList, Cond.instanceMethod yX1_endList, Cond.selects RX1 yX1_endList yX1_endList, Cond.fieldLink RX3 18 "MacroScopes$Maker" "tooMuch" "Z", Cond.methodLink RX3 110 yX3_copy, Cond.instanceMethod yX3_copy, Cond.selects RX3 yX3_copy yX3_copy, Cond.initialized RX3, Cond.methodLink RX3 81 yX1_isList, Cond.instanceMethod yX1_isList, Cond.selects RX1 yX1_isList yX1_isList, Cond.methodLink RX3 87 yX3_addList, Cond.instanceMethod yX3_addList, Cond.selects RX3 yX3_addList yX3_addList, Cond.methodLink RX3 101 yX1_whatIs, Cond.instanceMethod yX1_whatIs, Cond.selects RX1 yX1_whatIs yX1_whatIs, Cond.methodLink RX3 104 yX3_add, Cond.instanceMethod yX3_add, Cond.selects RX3 yX3_add yX3_add]
def vX3_copy : List Cond := .code yX3_copy cX3_copy 5 none :: (oX3_copy ++ (vX1_after ++ (vX1_endList ++ (vX1_isList ++ (vX3_addList ++ (vX1_whatIs ++ (vX3_add ++ (wsX30))))))))
theorem lkX3_copy_f22 : Cond.fieldLink RX3 22 "MacroScopes$Maker" "forms" "LMacroScopes$Forms;" ∈ vX3_copy := List.mem_cons_of_mem _ (List.mem_append_left _ (List.mem_of_getElem? (i := 0) rfl))
theorem lkX3_copy_f18 : Cond.fieldLink RX3 18 "MacroScopes$Maker" "tooMuch" "Z" ∈ vX3_copy := List.mem_cons_of_mem _ (List.mem_append_left _ (List.mem_of_getElem? (i := 8) rfl))
theorem inX3_copy_X3 : ∀ w ∈ wsX30, w ∈ vX3_copy := fun w h => List.mem_cons_of_mem _ (List.mem_append_right _ (List.mem_append_right _ (List.mem_append_right _ (List.mem_append_right _ (List.mem_append_right _ (List.mem_append_right _ (List.mem_append_right _ (h))))))))
theorem kX3_copy_X1_after_53 : GoodIn vX3_copy (wsV RX3 53 RX1 yX1_after vX1_after) := goodIn_sub (fun w h => (List.mem_append.mp h).elim (fun h => List.mem_cons_of_mem _ (List.mem_append_left _ ((by decide +kernel : ∀ w ∈ ([.methodLink RX3 53 yX1_after, .instanceMethod yX1_after, .selects RX1 yX1_after yX1_after, .initialized RX1] : List Cond), w ∈ oX3_copy) w h))) (fun h => List.mem_cons_of_mem _ (List.mem_append_right _ (List.mem_append_left _ (h))))) (by decide +kernel)
theorem kX3_copy_X1_endList_94 : GoodIn vX3_copy (wsV RX3 94 RX1 yX1_endList vX1_endList) := goodIn_sub (fun w h => (List.mem_append.mp h).elim (fun h => List.mem_cons_of_mem _ (List.mem_append_left _ ((by decide +kernel : ∀ w ∈ ([.methodLink RX3 94 yX1_endList, .instanceMethod yX1_endList, .selects RX1 yX1_endList yX1_endList, .initialized RX1] : List Cond), w ∈ oX3_copy) w h))) (fun h => List.mem_cons_of_mem _ (List.mem_append_right _ (List.mem_append_right _ (List.mem_append_left _ (h)))))) (by decide +kernel)
theorem kX3_copy_X3_copy_110 : GoodIn vX3_copy (wsV RX3 110 RX3 yX3_copy vX3_copy) := goodIn_sub (fun w h => (List.mem_append.mp h).elim (fun h => List.mem_cons_of_mem _ (List.mem_append_left _ ((by decide +kernel : ∀ w ∈ ([.methodLink RX3 110 yX3_copy, .instanceMethod yX3_copy, .selects RX3 yX3_copy yX3_copy, .initialized RX3] : List Cond), w ∈ oX3_copy) w h))) (fun h => h)) (by decide +kernel)
theorem kX3_copy_X1_isList_81 : GoodIn vX3_copy (wsV RX3 81 RX1 yX1_isList vX1_isList) := goodIn_sub (fun w h => (List.mem_append.mp h).elim (fun h => List.mem_cons_of_mem _ (List.mem_append_left _ ((by decide +kernel : ∀ w ∈ ([.methodLink RX3 81 yX1_isList, .instanceMethod yX1_isList, .selects RX1 yX1_isList yX1_isList, .initialized RX1] : List Cond), w ∈ oX3_copy) w h))) (fun h => List.mem_cons_of_mem _ (List.mem_append_right _ (List.mem_append_right _ (List.mem_append_right _ (List.mem_append_left _ (h))))))) (by decide +kernel)
theorem kX3_copy_X3_addList_87 : GoodIn vX3_copy (wsV RX3 87 RX3 yX3_addList vX3_addList) := goodIn_sub (fun w h => (List.mem_append.mp h).elim (fun h => List.mem_cons_of_mem _ (List.mem_append_left _ ((by decide +kernel : ∀ w ∈ ([.methodLink RX3 87 yX3_addList, .instanceMethod yX3_addList, .selects RX3 yX3_addList yX3_addList, .initialized RX3] : List Cond), w ∈ oX3_copy) w h))) (fun h => List.mem_cons_of_mem _ (List.mem_append_right _ (List.mem_append_right _ (List.mem_append_right _ (List.mem_append_right _ (List.mem_append_left _ (h)))))))) (by decide +kernel)
theorem kX3_copy_X1_whatIs_101 : GoodIn vX3_copy (wsV RX3 101 RX1 yX1_whatIs vX1_whatIs) := goodIn_sub (fun w h => (List.mem_append.mp h).elim (fun h => List.mem_cons_of_mem _ (List.mem_append_left _ ((by decide +kernel : ∀ w ∈ ([.methodLink RX3 101 yX1_whatIs, .instanceMethod yX1_whatIs, .selects RX1 yX1_whatIs yX1_whatIs, .initialized RX1] : List Cond), w ∈ oX3_copy) w h))) (fun h => List.mem_cons_of_mem _ (List.mem_append_right _ (List.mem_append_right _ (List.mem_append_right _ (List.mem_append_right _ (List.mem_append_right _ (List.mem_append_left _ (h))))))))) (by decide +kernel)
theorem kX3_copy_X3_add_104 : GoodIn vX3_copy (wsV RX3 104 RX3 yX3_add vX3_add) := goodIn_sub (fun w h => (List.mem_append.mp h).elim (fun h => List.mem_cons_of_mem _ (List.mem_append_left _ ((by decide +kernel : ∀ w ∈ ([.methodLink RX3 104 yX3_add, .instanceMethod yX3_add, .selects RX3 yX3_add yX3_add, .initialized RX3] : List Cond), w ∈ oX3_copy) w h))) (fun h => List.mem_cons_of_mem _ (List.mem_append_right _ (List.mem_append_right _ (List.mem_append_right _ (List.mem_append_right _ (List.mem_append_right _ (List.mem_append_right _ (List.mem_append_left _ (h)))))))))) (by decide +kernel)
def oX3_aliasOf : List Cond := [Cond.fieldLink RX3 26 "MacroScopes$Maker" "names" "LMacroScopes$Names;", Cond.methodLink RX3 119 yX6_isNoted, Cond.instanceMethod yX6_isNoted, Cond.selects RX6 yX6_isNoted yX6_isNoted, Cond.initialized RX6, Cond.methodLink RX3 69 yX6_noteOf, Cond.instanceMethod yX6_noteOf, Cond.selects RX6 yX6_noteOf yX6_noteOf, Cond.fieldLink RX3 9 "MacroScopes$Maker" "home" "I", Cond.methodLink RX3 122 yX6_addName, Cond.instanceMethod yX6_addName, Cond.selects RX6 yX6_addName yX6_addName, Cond.methodLink RX3 125 yX6_setNote, Cond.instanceMethod yX6_setNote, Cond.selects RX6 yX6_setNote yX6_setNote]
def vX3_aliasOf : List Cond := .code yX3_aliasOf cX3_aliasOf 2 (some .int) :: (oX3_aliasOf ++ (vX6_isNoted ++ (vX6_noteOf ++ (vX6_addName ++ (vX6_setNote ++ (wsX30))))))
theorem lkX3_aliasOf_f26 : Cond.fieldLink RX3 26 "MacroScopes$Maker" "names" "LMacroScopes$Names;" ∈ vX3_aliasOf := List.mem_cons_of_mem _ (List.mem_append_left _ (List.mem_of_getElem? (i := 0) rfl))
theorem lkX3_aliasOf_f9 : Cond.fieldLink RX3 9 "MacroScopes$Maker" "home" "I" ∈ vX3_aliasOf := List.mem_cons_of_mem _ (List.mem_append_left _ (List.mem_of_getElem? (i := 8) rfl))
theorem inX3_aliasOf_X3 : ∀ w ∈ wsX30, w ∈ vX3_aliasOf := fun w h => List.mem_cons_of_mem _ (List.mem_append_right _ (List.mem_append_right _ (List.mem_append_right _ (List.mem_append_right _ (List.mem_append_right _ (h))))))
theorem kX3_aliasOf_X6_isNoted_119 : GoodIn vX3_aliasOf (wsV RX3 119 RX6 yX6_isNoted vX6_isNoted) := goodIn_sub (fun w h => (List.mem_append.mp h).elim (fun h => List.mem_cons_of_mem _ (List.mem_append_left _ ((by decide +kernel : ∀ w ∈ ([.methodLink RX3 119 yX6_isNoted, .instanceMethod yX6_isNoted, .selects RX6 yX6_isNoted yX6_isNoted, .initialized RX6] : List Cond), w ∈ oX3_aliasOf) w h))) (fun h => List.mem_cons_of_mem _ (List.mem_append_right _ (List.mem_append_left _ (h))))) (by decide +kernel)
theorem kX3_aliasOf_X6_noteOf_69 : GoodIn vX3_aliasOf (wsV RX3 69 RX6 yX6_noteOf vX6_noteOf) := goodIn_sub (fun w h => (List.mem_append.mp h).elim (fun h => List.mem_cons_of_mem _ (List.mem_append_left _ ((by decide +kernel : ∀ w ∈ ([.methodLink RX3 69 yX6_noteOf, .instanceMethod yX6_noteOf, .selects RX6 yX6_noteOf yX6_noteOf, .initialized RX6] : List Cond), w ∈ oX3_aliasOf) w h))) (fun h => List.mem_cons_of_mem _ (List.mem_append_right _ (List.mem_append_right _ (List.mem_append_left _ (h)))))) (by decide +kernel)
theorem kX3_aliasOf_X6_addName_122 : GoodIn vX3_aliasOf (wsV RX3 122 RX6 yX6_addName vX6_addName) := goodIn_sub (fun w h => (List.mem_append.mp h).elim (fun h => List.mem_cons_of_mem _ (List.mem_append_left _ ((by decide +kernel : ∀ w ∈ ([.methodLink RX3 122 yX6_addName, .instanceMethod yX6_addName, .selects RX6 yX6_addName yX6_addName, .initialized RX6] : List Cond), w ∈ oX3_aliasOf) w h))) (fun h => List.mem_cons_of_mem _ (List.mem_append_right _ (List.mem_append_right _ (List.mem_append_right _ (List.mem_append_left _ (h))))))) (by decide +kernel)
theorem kX3_aliasOf_X6_setNote_125 : GoodIn vX3_aliasOf (wsV RX3 125 RX6 yX6_setNote vX6_setNote) := goodIn_sub (fun w h => (List.mem_append.mp h).elim (fun h => List.mem_cons_of_mem _ (List.mem_append_left _ ((by decide +kernel : ∀ w ∈ ([.methodLink RX3 125 yX6_setNote, .instanceMethod yX6_setNote, .selects RX6 yX6_setNote yX6_setNote, .initialized RX6] : List Cond), w ∈ oX3_aliasOf) w h))) (fun h => List.mem_cons_of_mem _ (List.mem_append_right _ (List.mem_append_right _ (List.mem_append_right _ (List.mem_append_right _ (List.mem_append_left _ (h)))))))) (by decide +kernel)
def oX3_buildPart : List Cond := [Cond.fieldLink RX3 22 "MacroScopes$Maker" "forms" "LMacroScopes$Forms;", Cond.methodLink RX3 66 yX1_nameOf, Cond.instanceMethod yX1_nameOf, Cond.selects RX1 yX1_nameOf yX1_nameOf, Cond.initialized RX1, Cond.fieldLink RX3 26 "MacroScopes$Maker" "names" "LMacroScopes$Names;", Cond.methodLink RX3 69 yX6_noteOf, Cond.instanceMethod yX6_noteOf, Cond.selects RX6 yX6_noteOf yX6_noteOf, Cond.initialized RX6, Cond.methodLink RX3 98 yX6_canBeBound, Cond.static yX6_canBeBound, Cond.methodLink RX3 113 yX3_aliasOf, Cond.instanceMethod yX3_aliasOf, Cond.selects RX3 yX3_aliasOf yX3_aliasOf, Cond.initialized RX3, Cond.methodLink RX3 116 yX1_ofName, Cond.static yX1_ofName, Cond.methodLink RX3 104 yX3_add, Cond.instanceMethod yX3_add, Cond.selects RX3 yX3_add yX3_add, Cond.fieldLink RX3 30 "MacroScopes$Maker" "matches" "LMacroScopes$Matches;", Cond.methodLink RX3 107 yX5_formOf, Cond.instanceMethod yX5_formOf, Cond.selects RX5 yX5_formOf yX5_formOf, Cond.initialized RX5, Cond.methodLink RX3 110 yX3_copy, Cond.instanceMethod yX3_copy, Cond.selects RX3 yX3_copy yX3_copy, Cond.methodLink RX3 101 yX1_whatIs, Cond.instanceMethod yX1_whatIs, Cond.selects RX1 yX1_whatIs yX1_whatIs]
def vX3_buildPart : List Cond := .code yX3_buildPart cX3_buildPart 6 none :: (oX3_buildPart ++ (vX1_nameOf ++ (vX6_noteOf ++ (vX6_canBeBound ++ (vX3_aliasOf ++ (vX1_ofName ++ (vX3_add ++ (vX5_formOf ++ (vX3_copy ++ (vX1_whatIs ++ (wsX30)))))))))))
theorem lkX3_buildPart_f22 : Cond.fieldLink RX3 22 "MacroScopes$Maker" "forms" "LMacroScopes$Forms;" ∈ vX3_buildPart := List.mem_cons_of_mem _ (List.mem_append_left _ (List.mem_of_getElem? (i := 0) rfl))
theorem lkX3_buildPart_f26 : Cond.fieldLink RX3 26 "MacroScopes$Maker" "names" "LMacroScopes$Names;" ∈ vX3_buildPart := List.mem_cons_of_mem _ (List.mem_append_left _ (List.mem_of_getElem? (i := 5) rfl))
theorem lkX3_buildPart_f30 : Cond.fieldLink RX3 30 "MacroScopes$Maker" "matches" "LMacroScopes$Matches;" ∈ vX3_buildPart := List.mem_cons_of_mem _ (List.mem_append_left _ (List.mem_of_getElem? (i := 21) rfl))
theorem inX3_buildPart_X3 : ∀ w ∈ wsX30, w ∈ vX3_buildPart := fun w h => List.mem_cons_of_mem _ (List.mem_append_right _ (List.mem_append_right _ (List.mem_append_right _ (List.mem_append_right _ (List.mem_append_right _ (List.mem_append_right _ (List.mem_append_right _ (List.mem_append_right _ (List.mem_append_right _ (List.mem_append_right _ (h)))))))))))
theorem kX3_buildPart_X1_nameOf_66 : GoodIn vX3_buildPart (wsV RX3 66 RX1 yX1_nameOf vX1_nameOf) := goodIn_sub (fun w h => (List.mem_append.mp h).elim (fun h => List.mem_cons_of_mem _ (List.mem_append_left _ ((by decide +kernel : ∀ w ∈ ([.methodLink RX3 66 yX1_nameOf, .instanceMethod yX1_nameOf, .selects RX1 yX1_nameOf yX1_nameOf, .initialized RX1] : List Cond), w ∈ oX3_buildPart) w h))) (fun h => List.mem_cons_of_mem _ (List.mem_append_right _ (List.mem_append_left _ (h))))) (by decide +kernel)
theorem kX3_buildPart_X6_noteOf_69 : GoodIn vX3_buildPart (wsV RX3 69 RX6 yX6_noteOf vX6_noteOf) := goodIn_sub (fun w h => (List.mem_append.mp h).elim (fun h => List.mem_cons_of_mem _ (List.mem_append_left _ ((by decide +kernel : ∀ w ∈ ([.methodLink RX3 69 yX6_noteOf, .instanceMethod yX6_noteOf, .selects RX6 yX6_noteOf yX6_noteOf, .initialized RX6] : List Cond), w ∈ oX3_buildPart) w h))) (fun h => List.mem_cons_of_mem _ (List.mem_append_right _ (List.mem_append_right _ (List.mem_append_left _ (h)))))) (by decide +kernel)
theorem kX3_buildPart_X6_canBeBound_98 : GoodIn vX3_buildPart (va_wsS RX3 98 yX6_canBeBound vX6_canBeBound) := goodIn_sub (fun w h => (List.mem_append.mp h).elim (fun h => List.mem_cons_of_mem _ (List.mem_append_left _ ((by decide +kernel : ∀ w ∈ ([.methodLink RX3 98 yX6_canBeBound, .static yX6_canBeBound, .initialized yX6_canBeBound.cls] : List Cond), w ∈ oX3_buildPart) w h))) (fun h => List.mem_cons_of_mem _ (List.mem_append_right _ (List.mem_append_right _ (List.mem_append_right _ (List.mem_append_left _ (h))))))) (by decide +kernel)
theorem kX3_buildPart_X3_aliasOf_113 : GoodIn vX3_buildPart (wsV RX3 113 RX3 yX3_aliasOf vX3_aliasOf) := goodIn_sub (fun w h => (List.mem_append.mp h).elim (fun h => List.mem_cons_of_mem _ (List.mem_append_left _ ((by decide +kernel : ∀ w ∈ ([.methodLink RX3 113 yX3_aliasOf, .instanceMethod yX3_aliasOf, .selects RX3 yX3_aliasOf yX3_aliasOf, .initialized RX3] : List Cond), w ∈ oX3_buildPart) w h))) (fun h => List.mem_cons_of_mem _ (List.mem_append_right _ (List.mem_append_right _ (List.mem_append_right _ (List.mem_append_right _ (List.mem_append_left _ (h)))))))) (by decide +kernel)
theorem kX3_buildPart_X1_ofName_116 : GoodIn vX3_buildPart (va_wsS RX3 116 yX1_ofName vX1_ofName) := goodIn_sub (fun w h => (List.mem_append.mp h).elim (fun h => List.mem_cons_of_mem _ (List.mem_append_left _ ((by decide +kernel : ∀ w ∈ ([.methodLink RX3 116 yX1_ofName, .static yX1_ofName, .initialized yX1_ofName.cls] : List Cond), w ∈ oX3_buildPart) w h))) (fun h => List.mem_cons_of_mem _ (List.mem_append_right _ (List.mem_append_right _ (List.mem_append_right _ (List.mem_append_right _ (List.mem_append_right _ (List.mem_append_left _ (h))))))))) (by decide +kernel)
theorem kX3_buildPart_X3_add_104 : GoodIn vX3_buildPart (wsV RX3 104 RX3 yX3_add vX3_add) := goodIn_sub (fun w h => (List.mem_append.mp h).elim (fun h => List.mem_cons_of_mem _ (List.mem_append_left _ ((by decide +kernel : ∀ w ∈ ([.methodLink RX3 104 yX3_add, .instanceMethod yX3_add, .selects RX3 yX3_add yX3_add, .initialized RX3] : List Cond), w ∈ oX3_buildPart) w h))) (fun h => List.mem_cons_of_mem _ (List.mem_append_right _ (List.mem_append_right _ (List.mem_append_right _ (List.mem_append_right _ (List.mem_append_right _ (List.mem_append_right _ (List.mem_append_left _ (h)))))))))) (by decide +kernel)
theorem kX3_buildPart_X5_formOf_107 : GoodIn vX3_buildPart (wsV RX3 107 RX5 yX5_formOf vX5_formOf) := goodIn_sub (fun w h => (List.mem_append.mp h).elim (fun h => List.mem_cons_of_mem _ (List.mem_append_left _ ((by decide +kernel : ∀ w ∈ ([.methodLink RX3 107 yX5_formOf, .instanceMethod yX5_formOf, .selects RX5 yX5_formOf yX5_formOf, .initialized RX5] : List Cond), w ∈ oX3_buildPart) w h))) (fun h => List.mem_cons_of_mem _ (List.mem_append_right _ (List.mem_append_right _ (List.mem_append_right _ (List.mem_append_right _ (List.mem_append_right _ (List.mem_append_right _ (List.mem_append_right _ (List.mem_append_left _ (h))))))))))) (by decide +kernel)
theorem kX3_buildPart_X3_copy_110 : GoodIn vX3_buildPart (wsV RX3 110 RX3 yX3_copy vX3_copy) := goodIn_sub (fun w h => (List.mem_append.mp h).elim (fun h => List.mem_cons_of_mem _ (List.mem_append_left _ ((by decide +kernel : ∀ w ∈ ([.methodLink RX3 110 yX3_copy, .instanceMethod yX3_copy, .selects RX3 yX3_copy yX3_copy, .initialized RX3] : List Cond), w ∈ oX3_buildPart) w h))) (fun h => List.mem_cons_of_mem _ (List.mem_append_right _ (List.mem_append_right _ (List.mem_append_right _ (List.mem_append_right _ (List.mem_append_right _ (List.mem_append_right _ (List.mem_append_right _ (List.mem_append_right _ (List.mem_append_left _ (h)))))))))))) (by decide +kernel)
theorem kX3_buildPart_X1_whatIs_101 : GoodIn vX3_buildPart (wsV RX3 101 RX1 yX1_whatIs vX1_whatIs) := goodIn_sub (fun w h => (List.mem_append.mp h).elim (fun h => List.mem_cons_of_mem _ (List.mem_append_left _ ((by decide +kernel : ∀ w ∈ ([.methodLink RX3 101 yX1_whatIs, .instanceMethod yX1_whatIs, .selects RX1 yX1_whatIs yX1_whatIs, .initialized RX1] : List Cond), w ∈ oX3_buildPart) w h))) (fun h => List.mem_cons_of_mem _ (List.mem_append_right _ (List.mem_append_right _ (List.mem_append_right _ (List.mem_append_right _ (List.mem_append_right _ (List.mem_append_right _ (List.mem_append_right _ (List.mem_append_right _ (List.mem_append_right _ (List.mem_append_left _ (h))))))))))))) (by decide +kernel)
set_option maxHeartbeats 4000000 in
set_option maxRecDepth 100000 in
/-- X3_add -/
theorem c_addM (l : Launch) (dC : Nat → ClassId) (dI : Nat → Nat → Nat) (cB cC cI cJ cZ : ClassId) (a : Nat → Nat) (F : Nat → Int32) (X : Nat → Nat → Int32) (J : Nat → Nat → Int64) (R : Nat → Nat) (gf gn : Nat) (x : Int)  (ix : (-2147483648 ≤ x ∧ x < 2147483648)) (hgf : gf ≤ 67600) (hsa : 0 ≤ (F 10).toInt ∧ (F 10).toInt ≤ 67600) (htp : 0 ≤ (F 12).toInt ∧ (F 12).toInt ≤ (gf : Int)) (s0 : Nat) : Met l yX3_add vX3_add { frames := 2, cells := 0, slots := 0, locals := 81 } (va_Pc [.ref (a 3), .int (oI x)] (cPre dC dI cB cC cI cJ cZ a F X J R gf gn s0)) (va_Qi (fun (r : Int32) (u : (Nat → Int32) × (Nat → Nat → Int32)) => match u with | (F1, X1) => (((0 ≤ (F 12).toInt ∧ (F 12).toInt < (gf : Int)) ∧ (r).toInt = (F 12).toInt ∧ (F1 12).toInt = (F 12).toInt + 1 ∧ X1 1 = upd (X 1) (F 12).toInt.toNat (oI 1)) ∨ ((r).toInt = -1 ∧ (F1 12).toInt = (F 12).toInt ∧ X1 1 = (X 1))) ∧ ((F 11).toInt ≠ 0 → (F1 11).toInt = 1)) (fun u => cPost dC dI cB cC cI cJ cZ a (rg 11 12 F u.1) (rg 0 1 X u.2) J R gf gn (va_A (CW cB cC cI cJ cZ a F X J R gf gn) s0)) (va_A (CW cB cC cI cJ cZ a F X J R gf gn) s0)) 0 0 (va_A (CW cB cC cI cJ cZ a F X J R gf gn) s0) := by
  refine Met.ofW (cc := cX3_add) (maxL := 2) (ret := (some .int)) (by decide) rfl ?_
  intro p e s m args below meth c s₁ B9 hml hv
  obtain ⟨rfl, hsz0, hP, hK, hD0, hNW⟩ := hv
  have hx := B9.exec
  have hb := B9.bytes
  have hr := B9.returns
  have hts := atoms_spec (ws := vX3_add) B9.pre
  have hown : s.vm.findClass RX3 = some m.cls := findClass_of_methodNamed B9.named
  have hlocks := B9.notSynchronized
  clear B9
  subst hsz0
  have hD := hD0.self (sz := s.heap.size)
  generalize hAe : va_A (CW cB cC cI cJ cZ a F X J R gf gn) s.heap.size = A at hD ⊢
  have hA : ∀ q : Nat, s.heap.size ≤ q → A q := fun q h => by rw [← hAe]; exact Or.inr h
  have hS : va_S A s.heap s.heap [] := va_S.rf
  have hcs : 0 + 0 ≤ (0 : Nat) ∧ 0 + 0 ≤ (0 : Nat) := ⟨Nat.le_refl 0, Nat.le_refl 0⟩
  have hl := lv_entry ([.ref (a 3), .int (oI x)]) (n := 2) (Nat.le_of_ble_eq_true rfl)
  rw [lg_entry_eq]
  generalize (lg_sl ([.ref (a 3), .int (oI x)]) ++ List.replicate (2 - (lg_sl ([.ref (a 3), .int (oI x)])).length) Slot.unset).toArray = ls at hl ⊢
  have hl : lv_has ls 2 [(0, .ref (a 3)), (1, .int (oI x))] := hl
  refine lv_aload_n hx hb dX3_add_0 rfl (lv_at hl 0 rfl) ?_
  refine cg_3_5 hx hb hts inX3_add_X3 hown hK hP (hts _ lkX3_add_f18) dX3_add_1 ?_
  have i_1 := i32r (F 11)
  refine cz_ne (tgt := 25) hx hb (i32r _) dX3_add_4 (by decide) (fun c_2 => ?_) (fun c_2 => ?_)
  · refine lv_aload_n hx hb dX3_add_25 rfl (lv_at hl 0 rfl) ?_
    refine lv_iconst (v := oI 1) hx hb dX3_add_26 (by decide) ?_
    refine cp_3_5 hx hb hts inX3_add_X3 hown hK hP hD hS (by decide) (hts _ lkX3_add_f18) dX3_add_27 (fun H locs hP hD hS => ?_)
    have hP : va_P (dC, dI) vwCl (CW cB cC cI cJ cZ a (va_up F 11 (oI 1)) X J R gf gn) H := hP
    have hD : va_D A (CW cB cC cI cJ cZ a (va_up F 11 (oI 1)) X J R gf gn) := hD
    have e_3 : (oI 1).toInt = 1 := by decide
    refine lv_iconst (v := oI (-1)) hx hb dX3_add_30 (by decide) ?_
    have e0 : (oI ((-1))).toInt = (-1) := by decide
    have eF9 : rg 11 12 F (va_up F 11 (oI 1)) = va_up F 11 (oI 1) := by funext k; simp only [rg, va_up]; (repeat' split) <;> first | with_reducible rfl | omega
    have eX9 : rg 0 1 X X = X := by funext k; simp only [rg, va_up]; (repeat' split) <;> first | with_reducible rfl | omega
    have hP9 : va_P (dC, dI) vwCl (CW cB cC cI cJ cZ a (rg 11 12 F (va_up F 11 (oI 1))) (rg 0 1 X X) J R gf gn) H := by rw [eF9, eX9]; exact hP
    have hD9 : va_D A (CW cB cC cI cJ cZ a (rg 11 12 F (va_up F 11 (oI 1))) (rg 0 1 X X) J R gf gn) := by rw [eF9, eX9]; exact hD
    have hpost : (((0 ≤ (F 12).toInt ∧ (F 12).toInt < (gf : Int)) ∧ (oI ((-1))).toInt = (F 12).toInt ∧ (F 12).toInt = (F 12).toInt + 1 ∧ X 1 = upd (X 1) (F 12).toInt.toNat (oI 1)) ∨ ((oI ((-1))).toInt = -1 ∧ (F 12).toInt = (F 12).toInt ∧ X 1 = (X 1))) ∧ ((F 11).toInt ≠ 0 → (oI 1).toInt = 1) := by rw [e0]; exact ⟨Or.inr ⟨rfl, rfl, rfl⟩, by omega⟩
    exact W.iret (v := (oI ((-1)))) hx hb hr (fun t ht hW => ⟨⟨(oI ((-1))), (va_up F 11 (oI 1), X), rfl, hpost, by rw [ht]; exact hP9, va_K.moved hW.alike hK, hD9⟩, hS.F ht⟩) hS.2.2 dX3_add_31
  · refine lv_aload_n hx hb dX3_add_7 rfl (lv_at hl 0 rfl) ?_
    refine cg_3_0 hx hb hts inX3_add_X3 hown hK hP (hts _ lkX3_add_f22) dX3_add_8 ?_
    refine cgN_1_2 hx hb hts inX3_add_X1 hown hK hP (va_Nw.use rfl hNW.2.2.2.2.2.2.2.2.2.2.2.1) dX3_add_11 ?_
    have i_4 := i32r (F 12)
    refine lv_aload_n hx hb dX3_add_14 rfl (lv_at hl 0 rfl) ?_
    refine cg_3_4 hx hb hts inX3_add_X3 hown hK hP (hts _ lkX3_add_f15) dX3_add_15 ?_
    have i_5 := i32r (F 10)
    refine lv_isub hx hb dX3_add_18 ?_
    refine tp_i (oI_sub ((F 12).toInt) ((F 10).toInt)) ?_
    refine lv_sipush (v := oI 600) hx hb dX3_add_19 (by decide) ?_
    refine ci_lt (tgt := 32) hx hb (by omega) (by decide) dX3_add_22 (by decide) (fun c_6 => ?_) (fun c_6 => ?_)
    · refine lv_aload_n hx hb dX3_add_32 rfl (lv_at hl 0 rfl) ?_
      refine cg_3_0 hx hb hts inX3_add_X3 hown hK hP (hts _ lkX3_add_f22) dX3_add_33 ?_
      refine lv_iload_n hx hb dX3_add_36 rfl (lv_at hl 1 rfl) ?_
      refine ccp_iV (As := [.int (oI x)]) (rest := []) (gF := fun F9 => rg 12 12 F F9) (gX := fun X9 => rg 0 1 X X9) ⟨hx, hb, hml, hown, hts⟩ (c_addF l dC dI cB cC cI cJ cZ a F X J R gf gn x  (by omega) (show gf ≤ 67600 from by first | assumption | omega)  s.heap.size) (cwV 1 hts kX3_add_X1_add_128 rfl rfl rfl (by decide +kernel) ⟨Nat.le_of_ble_eq_true rfl, Nat.le_of_ble_eq_true rfl⟩) (va_recv hK hP (ci := 1) (q0 := 1) rfl rfl) hK hNW hP hD hS hA rfl rfl hl.1 (lv_room (Nat.le_of_ble_eq_true rfl)) dX3_add_37 hcs (fun r_7 F_8 X_9 hw_10 H locs hP hD hS => ?_)
      have hw_10 : ((0 ≤ (F 12).toInt ∧ (F 12).toInt < (gf : Int)) ∧ (r_7).toInt = (F 12).toInt ∧ (F_8 12).toInt = (F 12).toInt + 1 ∧ X_9 1 = upd (X 1) (F 12).toInt.toNat (oI 1)) ∨ (¬ (0 ≤ (F 12).toInt ∧ (F 12).toInt < (gf : Int)) ∧ (r_7).toInt = -1 ∧ (F_8 12).toInt = (F 12).toInt ∧ X_9 1 = (X 1)) := hw_10
      have hadd := hw_10
      have i_11 := i32r r_7
      have e0 : (oI r_7.toInt).toInt = r_7.toInt := congrArg Int32.toInt (oI_toInt _)
      have eF9 : rg 11 12 F (rg 12 12 F F_8) = rg 12 12 F F_8 := by funext k; simp only [rg, va_up]; (repeat' split) <;> first | with_reducible rfl | omega
      have eX9 : rg 0 1 X (rg 0 1 X X_9) = rg 0 1 X X_9 := by funext k; simp only [rg, va_up]; (repeat' split) <;> first | with_reducible rfl | omega
      have hP9 : va_P (dC, dI) vwCl (CW cB cC cI cJ cZ a (rg 11 12 F (rg 12 12 F F_8)) (rg 0 1 X (rg 0 1 X X_9)) J R gf gn) H := by rw [eF9, eX9]; exact hP
      have hD9 : va_D A (CW cB cC cI cJ cZ a (rg 11 12 F (rg 12 12 F F_8)) (rg 0 1 X (rg 0 1 X X_9)) J R gf gn) := by rw [eF9, eX9]; exact hD
      have hpost : (((0 ≤ (F 12).toInt ∧ (F 12).toInt < (gf : Int)) ∧ (oI r_7.toInt).toInt = (F 12).toInt ∧ (F_8 12).toInt = (F 12).toInt + 1 ∧ X_9 1 = upd (X 1) (F 12).toInt.toNat (oI 1)) ∨ ((oI r_7.toInt).toInt = -1 ∧ (F_8 12).toInt = (F 12).toInt ∧ X_9 1 = (X 1))) ∧ ((F 11).toInt ≠ 0 → (F 11).toInt = 1) := by rw [e0]; exact ⟨hadd.elim Or.inl (fun h => Or.inr h.2), by omega⟩
      exact W.iret (v := (oI r_7.toInt)) hx hb hr (fun t ht hW => ⟨⟨(oI r_7.toInt), (rg 12 12 F F_8, rg 0 1 X X_9), rfl, hpost, by rw [ht]; exact hP9, va_K.moved hW.alike hK, hD9⟩, hS.F ht⟩) hS.2.2 dX3_add_40
    · refine lv_aload_n hx hb dX3_add_25 rfl (lv_at hl 0 rfl) ?_
      refine lv_iconst (v := oI 1) hx hb dX3_add_26 (by decide) ?_
      refine cp_3_5 hx hb hts inX3_add_X3 hown hK hP hD hS (by decide) (hts _ lkX3_add_f18) dX3_add_27 (fun H locs hP hD hS => ?_)
      have hP : va_P (dC, dI) vwCl (CW cB cC cI cJ cZ a (va_up F 11 (oI 1)) X J R gf gn) H := hP
      have hD : va_D A (CW cB cC cI cJ cZ a (va_up F 11 (oI 1)) X J R gf gn) := hD
      have e_12 : (oI 1).toInt = 1 := by decide
      refine lv_iconst (v := oI (-1)) hx hb dX3_add_30 (by decide) ?_
      have e0 : (oI ((-1))).toInt = (-1) := by decide
      have eF9 : rg 11 12 F (va_up F 11 (oI 1)) = va_up F 11 (oI 1) := by funext k; simp only [rg, va_up]; (repeat' split) <;> first | with_reducible rfl | omega
      have eX9 : rg 0 1 X X = X := by funext k; simp only [rg, va_up]; (repeat' split) <;> first | with_reducible rfl | omega
      have hP9 : va_P (dC, dI) vwCl (CW cB cC cI cJ cZ a (rg 11 12 F (va_up F 11 (oI 1))) (rg 0 1 X X) J R gf gn) H := by rw [eF9, eX9]; exact hP
      have hD9 : va_D A (CW cB cC cI cJ cZ a (rg 11 12 F (va_up F 11 (oI 1))) (rg 0 1 X X) J R gf gn) := by rw [eF9, eX9]; exact hD
      have hpost : (((0 ≤ (F 12).toInt ∧ (F 12).toInt < (gf : Int)) ∧ (oI ((-1))).toInt = (F 12).toInt ∧ (F 12).toInt = (F 12).toInt + 1 ∧ X 1 = upd (X 1) (F 12).toInt.toNat (oI 1)) ∨ ((oI ((-1))).toInt = -1 ∧ (F 12).toInt = (F 12).toInt ∧ X 1 = (X 1))) ∧ ((F 11).toInt ≠ 0 → (oI 1).toInt = 1) := by rw [e0]; exact ⟨Or.inr ⟨rfl, rfl, rfl⟩, by omega⟩
      exact W.iret (v := (oI ((-1)))) hx hb hr (fun t ht hW => ⟨⟨(oI ((-1))), (va_up F 11 (oI 1), X), rfl, hpost, by rw [ht]; exact hP9, va_K.moved hW.alike hK, hD9⟩, hS.F ht⟩) hS.2.2 dX3_add_31

set_option maxHeartbeats 4000000 in
set_option maxRecDepth 100000 in
/-- X3_addList -/
theorem c_addList (l : Launch) (dC : Nat → ClassId) (dI : Nat → Nat → Nat) (cB cC cI cJ cZ : ClassId) (a : Nat → Nat) (F : Nat → Int32) (X : Nat → Nat → Int32) (J : Nat → Nat → Int64) (R : Nat → Nat) (gf gn : Nat) (x : Int) (D : Int → Nat) (ix : (-2147483648 ≤ x ∧ x < 2147483648)) (hgf : gf ≤ 67600) (hsa : 0 ≤ (F 10).toInt ∧ (F 10).toInt ≤ 67600) (htp : 0 ≤ (F 12).toInt ∧ (F 12).toInt ≤ (gf : Int)) (hz : 0 ≤ x ∧ x ≤ 61) (hfi : FI (X 1) D gf (F 0).toInt (F 12).toInt) (s0 : Nat) : Met l yX3_addList vX3_addList { frames := 3, cells := 0, slots := 0, locals := 102 } (va_Pc [.ref (a 3), .int (oI x)] (cPre dC dI cB cC cI cJ cZ a F X J R gf gn s0)) (va_Qi (fun (r : Int32) (u : (Nat → Int32) × (Nat → Nat → Int32)) => match u with | (F1, X1) => ∃ D9 : Int → Nat, FI (X1 1) D9 gf (F 0).toInt (F1 12).toInt ∧ GR (X 1) D (F 12).toInt (X1 1) D9 (F1 12).toInt (61 - x) ∧ LI D9 (F 12).toInt (F1 12).toInt ((r).toInt) x ∧ (60 < x → (F1 11).toInt = 1)) (fun u => cPost dC dI cB cC cI cJ cZ a (rg 11 12 F u.1) (rg 0 1 X u.2) J R gf gn (va_A (CW cB cC cI cJ cZ a F X J R gf gn) s0)) (va_A (CW cB cC cI cJ cZ a F X J R gf gn) s0)) 0 0 (va_A (CW cB cC cI cJ cZ a F X J R gf gn) s0) := by
  refine Met.ofW (cc := cX3_addList) (maxL := 2) (ret := (some .int)) (by decide) rfl ?_
  intro p e s m args below meth c s₁ B9 hml hv
  obtain ⟨rfl, hsz0, hP, hK, hD0, hNW⟩ := hv
  have hx := B9.exec
  have hb := B9.bytes
  have hr := B9.returns
  have hts := atoms_spec (ws := vX3_addList) B9.pre
  have hown : s.vm.findClass RX3 = some m.cls := findClass_of_methodNamed B9.named
  have hlocks := B9.notSynchronized
  clear B9
  subst hsz0
  have hD := hD0.self (sz := s.heap.size)
  generalize hAe : va_A (CW cB cC cI cJ cZ a F X J R gf gn) s.heap.size = A at hD ⊢
  have hA : ∀ q : Nat, s.heap.size ≤ q → A q := fun q h => by rw [← hAe]; exact Or.inr h
  have hS : va_S A s.heap s.heap [] := va_S.rf
  have hcs : 0 + 0 ≤ (0 : Nat) ∧ 0 + 0 ≤ (0 : Nat) := ⟨Nat.le_refl 0, Nat.le_refl 0⟩
  have hl := lv_entry ([.ref (a 3), .int (oI x)]) (n := 2) (Nat.le_of_ble_eq_true rfl)
  rw [lg_entry_eq]
  generalize (lg_sl ([.ref (a 3), .int (oI x)]) ++ List.replicate (2 - (lg_sl ([.ref (a 3), .int (oI x)])).length) Slot.unset).toArray = ls at hl ⊢
  have hl : lv_has ls 2 [(0, .ref (a 3)), (1, .int (oI x))] := hl
  refine lv_iload_n hx hb dX3_addList_0 rfl (lv_at hl 1 rfl) ?_
  refine lv_bipush (v := oI 60) hx hb dX3_addList_1 (by decide) ?_
  refine ci_le (tgt := 11) hx hb (by omega) (by decide) dX3_addList_3 (by decide) (fun c_1 => ?_) (fun c_1 => ?_)
  · refine lv_aload_n hx hb dX3_addList_11 rfl (lv_at hl 0 rfl) ?_
    refine lv_iconst (v := oI (-1)) hx hb dX3_addList_12 (by decide) ?_
    refine ccp_iV (As := [.int (oI ((-1)))]) (rest := []) (gF := fun F9 => rg 11 12 F F9) (gX := fun X9 => rg 0 1 X X9) ⟨hx, hb, hml, hown, hts⟩ (c_addM l dC dI cB cC cI cJ cZ a F X J R gf gn ((-1))  (by decide) (show gf ≤ 67600 from by first | assumption | omega) (show 0 ≤ (F 10).toInt ∧ (F 10).toInt ≤ 67600 from by first | assumption | omega) (show 0 ≤ (F 12).toInt ∧ (F 12).toInt ≤ (gf : Int) from by first | assumption | omega)  s.heap.size) (cwV 1 hts kX3_addList_X3_add_104 rfl rfl rfl (by decide +kernel) ⟨Nat.le_of_ble_eq_true rfl, Nat.le_of_ble_eq_true rfl⟩) (va_recv hK hP (ci := 3) (q0 := 3) rfl rfl) hK hNW hP hD hS hA rfl rfl hl.1 (lv_room (Nat.le_of_ble_eq_true rfl)) dX3_addList_13 hcs (fun r_2 F_3 X_4 hw_5 H locs hP hD hS => ?_)
    have hw_5 : (((0 ≤ (F 12).toInt ∧ (F 12).toInt < (gf : Int)) ∧ (r_2).toInt = (F 12).toInt ∧ (F_3 12).toInt = (F 12).toInt + 1 ∧ X_4 1 = upd (X 1) (F 12).toInt.toNat (oI 1)) ∨ ((r_2).toInt = -1 ∧ (F_3 12).toInt = (F 12).toInt ∧ X_4 1 = (X 1))) ∧ ((F 11).toInt ≠ 0 → (F_3 11).toInt = 1) := hw_5
    obtain ⟨had, hto⟩ := hw_5
    have i_6 := i32r r_2
    obtain ⟨D2, hf2, hG2, hL2⟩ := MK_add (z := x) hfi (by omega) had
    have e0 : (oI r_2.toInt).toInt = r_2.toInt := congrArg Int32.toInt (oI_toInt _)
    have eF9 : rg 11 12 F (rg 11 12 F F_3) = rg 11 12 F F_3 := by funext k; simp only [rg, va_up]; (repeat' split) <;> first | with_reducible rfl | omega
    have eX9 : rg 0 1 X (rg 0 1 X X_4) = rg 0 1 X X_4 := by funext k; simp only [rg, va_up]; (repeat' split) <;> first | with_reducible rfl | omega
    have hP9 : va_P (dC, dI) vwCl (CW cB cC cI cJ cZ a (rg 11 12 F (rg 11 12 F F_3)) (rg 0 1 X (rg 0 1 X X_4)) J R gf gn) H := by rw [eF9, eX9]; exact hP
    have hD9 : va_D A (CW cB cC cI cJ cZ a (rg 11 12 F (rg 11 12 F F_3)) (rg 0 1 X (rg 0 1 X X_4)) J R gf gn) := by rw [eF9, eX9]; exact hD
    have hpost : ∃ D9 : Int → Nat, FI (X_4 1) D9 gf (F 0).toInt (F_3 12).toInt ∧ GR (X 1) D (F 12).toInt (X_4 1) D9 (F_3 12).toInt (61 - x) ∧ LI D9 (F 12).toInt (F_3 12).toInt ((oI r_2.toInt).toInt) x ∧ (60 < x → (F_3 11).toInt = 1) := by rw [e0]; exact ⟨D2, hf2, hG2, hL2, by omega⟩
    exact W.iret (v := (oI r_2.toInt)) hx hb hr (fun t ht hW => ⟨⟨(oI r_2.toInt), (rg 11 12 F F_3, rg 0 1 X X_4), rfl, hpost, by rw [ht]; exact hP9, va_K.moved hW.alike hK, hD9⟩, hS.F ht⟩) hS.2.2 dX3_addList_16
  · refine lv_aload_n hx hb dX3_addList_6 rfl (lv_at hl 0 rfl) ?_
    refine lv_iconst (v := oI 1) hx hb dX3_addList_7 (by decide) ?_
    refine cp_3_5 hx hb hts inX3_addList_X3 hown hK hP hD hS (by decide) (hts _ lkX3_addList_f18) dX3_addList_8 (fun H locs hP hD hS => ?_)
    have hP : va_P (dC, dI) vwCl (CW cB cC cI cJ cZ a (va_up F 11 (oI 1)) X J R gf gn) H := hP
    have hD : va_D A (CW cB cC cI cJ cZ a (va_up F 11 (oI 1)) X J R gf gn) := hD
    have e_7 : (oI 1).toInt = 1 := by decide
    refine lv_aload_n hx hb dX3_addList_11 rfl (lv_at hl 0 rfl) ?_
    refine lv_iconst (v := oI (-1)) hx hb dX3_addList_12 (by decide) ?_
    refine ccp_iV (As := [.int (oI ((-1)))]) (rest := []) (gF := fun F9 => rg 11 12 (va_up F 11 (oI 1)) F9) (gX := fun X9 => rg 0 1 X X9) ⟨hx, hb, hml, hown, hts⟩ (c_addM l dC dI cB cC cI cJ cZ a (va_up F 11 (oI 1)) X J R gf gn ((-1))  (by decide) (show gf ≤ 67600 from by first | assumption | omega) (show 0 ≤ (F 10).toInt ∧ (F 10).toInt ≤ 67600 from by first | assumption | omega) (show 0 ≤ (F 12).toInt ∧ (F 12).toInt ≤ (gf : Int) from by first | assumption | omega)  H.size) (cwV 1 hts kX3_addList_X3_add_104 rfl rfl rfl (by decide +kernel) ⟨Nat.le_of_ble_eq_true rfl, Nat.le_of_ble_eq_true rfl⟩) (va_recv hK hP (ci := 3) (q0 := 3) rfl rfl) hK hNW hP hD hS hA rfl rfl hl.1 (lv_room (Nat.le_of_ble_eq_true rfl)) dX3_addList_13 hcs (fun r_8 F_9 X_10 hw_11 H locs hP hD hS => ?_)
    have hw_11 : (((0 ≤ (F 12).toInt ∧ (F 12).toInt < (gf : Int)) ∧ (r_8).toInt = (F 12).toInt ∧ (F_9 12).toInt = (F 12).toInt + 1 ∧ X_10 1 = upd (X 1) (F 12).toInt.toNat (oI 1)) ∨ ((r_8).toInt = -1 ∧ (F_9 12).toInt = (F 12).toInt ∧ X_10 1 = (X 1))) ∧ ((oI 1).toInt ≠ 0 → (F_9 11).toInt = 1) := hw_11
    obtain ⟨had, hto⟩ := hw_11
    have i_12 := i32r r_8
    obtain ⟨D2, hf2, hG2, hL2⟩ := MK_add (z := x) hfi (by omega) had
    have e0 : (oI r_8.toInt).toInt = r_8.toInt := congrArg Int32.toInt (oI_toInt _)
    have eF9 : rg 11 12 F (rg 11 12 (va_up F 11 (oI 1)) F_9) = rg 11 12 (va_up F 11 (oI 1)) F_9 := by funext k; simp only [rg, va_up]; (repeat' split) <;> first | with_reducible rfl | omega
    have eX9 : rg 0 1 X (rg 0 1 X X_10) = rg 0 1 X X_10 := by funext k; simp only [rg, va_up]; (repeat' split) <;> first | with_reducible rfl | omega
    have hP9 : va_P (dC, dI) vwCl (CW cB cC cI cJ cZ a (rg 11 12 F (rg 11 12 (va_up F 11 (oI 1)) F_9)) (rg 0 1 X (rg 0 1 X X_10)) J R gf gn) H := by rw [eF9, eX9]; exact hP
    have hD9 : va_D A (CW cB cC cI cJ cZ a (rg 11 12 F (rg 11 12 (va_up F 11 (oI 1)) F_9)) (rg 0 1 X (rg 0 1 X X_10)) J R gf gn) := by rw [eF9, eX9]; exact hD
    have hpost : ∃ D9 : Int → Nat, FI (X_10 1) D9 gf (F 0).toInt (F_9 12).toInt ∧ GR (X 1) D (F 12).toInt (X_10 1) D9 (F_9 12).toInt (61 - x) ∧ LI D9 (F 12).toInt (F_9 12).toInt ((oI r_8.toInt).toInt) x ∧ (60 < x → (F_9 11).toInt = 1) := by rw [e0]; exact ⟨D2, hf2, hG2, hL2, by omega⟩
    exact W.iret (v := (oI r_8.toInt)) hx hb hr (fun t ht hW => ⟨⟨(oI r_8.toInt), (rg 11 12 (va_up F 11 (oI 1)) F_9, rg 0 1 X X_10), rfl, hpost, by rw [ht]; exact hP9, va_K.moved hW.alike hK, hD9⟩, hS.F ht⟩) hS.2.2 dX3_addList_16

def P_X3_copy (l : Launch) (d : Nat) : Prop := ∀ (dC : Nat → ClassId) (dI : Nat → Nat → Nat) (cB cC cI cJ cZ : ClassId) (a : Nat → Nat) (F : Nat → Int32) (X : Nat → Nat → Int32) (J : Nat → Nat → Int64) (R : Nat → Nat) (gf gn : Nat) (x y : Int) (D : Int → Nat) (ix : (-2147483648 ≤ x ∧ x < 2147483648)) (iy : (-2147483648 ≤ y ∧ y < 2147483648)) (hgf : gf ≤ 67600) (hsa : 0 ≤ (F 10).toInt ∧ (F 10).toInt ≤ 67600) (hz : 0 ≤ y ∧ y ≤ 61 ∧ 62 ≤ y + ((d : Nat) : Int)) (hfi : FI (X 1) D gf (F 0).toInt (F 12).toInt) (s0 : Nat), Met l yX3_copy vX3_copy { frames := d + 4, cells := 0, slots := 0, locals := 30 * d + 123 } (va_Pc [.ref (a 3), .int (oI x), .int (oI y)] (cPre dC dI cB cC cI cJ cZ a F X J R gf gn s0)) (va_Qv (fun (u : (Nat → Int32) × (Nat → Nat → Int32)) => match u with | (F1, X1) => ∃ D9 : Int → Nat, FI (X1 1) D9 gf (F 0).toInt (F1 12).toInt ∧ GR (X 1) D (F 12).toInt (X1 1) D9 (F1 12).toInt (61 - y)) (fun u => cPost dC dI cB cC cI cJ cZ a (rg 11 12 F u.1) (rg 0 1 X u.2) J R gf gn (va_A (CW cB cC cI cJ cZ a F X J R gf gn) s0)) (va_A (CW cB cC cI cJ cZ a F X J R gf gn) s0)) 0 0 (va_A (CW cB cC cI cJ cZ a F X J R gf gn) s0)
set_option maxHeartbeats 4000000 in
set_option maxRecDepth 100000 in
theorem lq_copy {p : Program} {l : Launch} {e : Env} {s : State} {m : MethodId} {args : Array Value} {below : List Frame} {meth : Method} {c : Code} {A : Nat → Prop} {dC : Nat → ClassId} {dI : Nat → Nat → Nat} {cB cC cI cJ cZ : ClassId} {a : Nat → Nat} {F : Nat → Int32} {X : Nat → Nat → Int32} {J : Nat → Nat → Int64} {R : Nat → Nat} {gf gn : Nat} (hx : p.tables.exec = Jvm.exec) (hb : c.code = cX3_copy) (hml : c.maxLocals = 5) (hown : s.vm.findClass RX3 = some m.cls) (hts : ∀ w ∈ vX3_copy, w.before args s = true) (hK : va_K (dC, dI) vwCl (TY cB cC cI cJ cZ) s) (hNW : NW s) (hA : ∀ q : Nat, s.heap.size ≤ q → A q) (hr : meth.sig.returnType = none) (hlocks : meth.locks = false) (x y : Int) (d : Nat) (D : Int → Nat) (ix : (-2147483648 ≤ x ∧ x < 2147483648)) (iy : (-2147483648 ≤ y ∧ y < 2147483648)) (hgf : gf ≤ 67600) (hsa : 0 ≤ (F 10).toInt ∧ (F 10).toInt ≤ 67600) (hz : 0 ≤ y ∧ y ≤ 61 ∧ 62 ≤ y + ((d : Nat) : Int)) (hfi : FI (X 1) D gf (F 0).toInt (F 12).toInt)  (hI : ∀ d1, d1 < d → P_X3_copy l d1) (hx0 : 0 ≤ x ∧ x < (gf : Int)) : ∀ (k : Nat) (F1 : Nat → Int32) (X1 : Nat → Nat → Int32) (li : Int) (q : Int) (D1 : Int → Nat), (x + 67601 - q).toNat < k → (-2147483648 ≤ li ∧ li < 2147483648) → (-2147483648 ≤ q ∧ q < 2147483648) → (x < q ∧ q ≤ x + 300000) → (FI (X1 1) D1 gf (F 0).toInt (F1 12).toInt) → (GR (X 1) D (F 12).toInt (X1 1) D1 (F1 12).toInt (61 - y)) → (LI D1 (F 12).toInt (F1 12).toInt li y) → (60 < y → (F1 11).toInt = 1) → ∀ (H : Heap) (locs : List Loc), va_P (dC, dI) vwCl (CW cB cC cI cJ cZ a (rg 11 12 F F1) (rg 0 1 X X1) J R gf gn) H → va_D A (CW cB cC cI cJ cZ a (rg 11 12 F F1) (rg 0 1 X X1) J R gf gn) → va_S A s.heap H locs → ∀ (ls : Array Slot), lv_has ls 5 [(0, .ref (a 3)), (1, .int (oI x)), (2, .int (oI y)), (3, .int (oI li)), (4, .int (oI q))] → W p l e (headSpec vX3_copy { frames := d + 4, cells := 0, slots := 0, locals := 30 * d + 123 }).room s m args below meth c H locs 0 0 (MQ below (va_Qv (fun (u : (Nat → Int32) × (Nat → Nat → Int32)) => match u with | (F1, X1) => ∃ D9 : Int → Nat, FI (X1 1) D9 gf (F 0).toInt (F1 12).toInt ∧ GR (X 1) D (F 12).toInt (X1 1) D9 (F1 12).toInt (61 - y)) (fun u => cPost dC dI cB cC cI cJ cZ a (rg 11 12 F u.1) (rg 0 1 X u.2) J R gf gn A) A) args s 0 0 A) (F0 m 36 ls []) := by
  have hcs : 0 + 0 ≤ (0 : Nat) ∧ 0 + 0 ≤ (0 : Nat) := ⟨Nat.le_refl 0, Nat.le_refl 0⟩
  intro k
  induction k with
  | zero =>
    intro F1 X1 li q D1 hk ili9 iq9 hq hf1 hG hL htm
    exact absurd hk (Nat.not_lt_zero _)
  | succ k ih =>
    intro F1 X1 li q D1 hk ili9 iq9 hq hf1 hG hL htm H locs hP hD hS ls hl
    have hf0 := hfi
    have hfi := hf1
    have hsp := FI_sp hfi
    have hbb := FI_b hfi
    refine lv_iload hx hb dX3_copy_36 (lv_at hl 4 rfl) ?_
    refine lv_aload_n hx hb dX3_copy_38 rfl (lv_at hl 0 rfl) ?_
    refine cg_3_0 hx hb hts inX3_copy_X3 hown hK hP (hts _ lkX3_copy_f22) dX3_copy_39 ?_
    refine lv_iload_n hx hb dX3_copy_42 rfl (lv_at hl 1 rfl) ?_
    refine ccs_iV (As := [.int (oI x)]) (rest := [.int (oI q)]) ⟨hx, hb, hml, hown, hts⟩ (c_after l dC dI cB cC cI cJ cZ a (rg 11 12 F F1) (rg 0 1 X X1) J R gf gn x  (by omega) (show gf ≤ 67600 from by first | assumption | omega) (show SPR (X1 1) from by first | assumption | omega) (show x < 2147483647 from by first | assumption | omega) H.size) (cwV 1 hts kX3_copy_X1_after_53 rfl rfl rfl (by decide +kernel) ⟨show 1 + 1 ≤ d + 4 from by omega, show 8 + (2 + 11) + 60 ≤ 30 * d + 123 from by omega⟩) (va_recv hK hP (ci := 1) (q0 := 1) rfl rfl) hK hNW hP hD hS hA rfl rfl hl.1 (lv_room (Nat.le_of_ble_eq_true rfl)) dX3_copy_43 hcs (fun r_1 hw_2 H locs hP hD hS => ?_)
    have hw_2 : (r_1).toInt = AF (X1 1) gf x ∧ x < (r_1).toInt ∧ (r_1).toInt ≤ x + 67600 := hw_2
    obtain ⟨_, la, ua⟩ := hw_2
    have i_3 := i32r r_1
    refine ci_ge (tgt := 79) hx hb (by omega) (i32r _) dX3_copy_46 (by decide) (fun c_4 => ?_) (fun c_4 => ?_)
    · refine lv_aload_n hx hb dX3_copy_79 rfl (lv_at hl 0 rfl) ?_
      refine cg_3_0 hx hb hts inX3_copy_X3 hown hK hP (hts _ lkX3_copy_f22) dX3_copy_80 ?_
      refine lv_iload_n hx hb dX3_copy_83 rfl (lv_at hl 3 rfl) ?_
      refine ccp_vV (As := [.int (oI li)]) (rest := []) (gF := fun _ => rg 11 12 F F1) (gX := fun X9 => rg 1 1 (rg 0 1 X X1) X9) ⟨hx, hb, hml, hown, hts⟩ (c_endList l dC dI cB cC cI cJ cZ a (rg 11 12 F F1) (rg 0 1 X X1) J R gf gn li  (by omega) (show gf ≤ 67600 from by first | assumption | omega)  H.size) (cwV 1 hts kX3_copy_X1_endList_94 rfl rfl rfl (by decide +kernel) ⟨show 1 + 1 ≤ d + 4 from by omega, show 8 + (2 + 11) + 60 ≤ 30 * d + 123 from by omega⟩) (va_recv hK hP (ci := 1) (q0 := 1) rfl rfl) hK hNW hP hD hS hA rfl rfl hl.1 (lv_room (Nat.le_of_ble_eq_true rfl)) dX3_copy_84 hcs (fun F_5 X_6 hw_7 H locs hP hD hS => ?_)
      have hw_7 : ((0 ≤ li ∧ li < (F1 12).toInt ∧ li < (gf : Int)) ∧ X_6 1 = upd (X1 1) (li).toNat (oI ((F1 12).toInt - li))) ∨ (¬ (0 ≤ li ∧ li < (F1 12).toInt ∧ li < (gf : Int)) ∧ X_6 1 = (X1 1)) := hw_7
      have hend := hw_7
      obtain ⟨m1, m2⟩ := MK_end hgf hf0 hfi hG hL hend
      have eF9 : rg 11 12 F (rg 11 12 F F1) = rg 11 12 F F1 := by funext k; simp only [rg, va_up]; (repeat' split) <;> first | with_reducible rfl | omega
      have eX9 : rg 0 1 X (rg 1 1 (rg 0 1 X X1) X_6) = rg 1 1 (rg 0 1 X X1) X_6 := by funext k; simp only [rg, va_up]; (repeat' split) <;> first | with_reducible rfl | omega
      have hP9 : va_P (dC, dI) vwCl (CW cB cC cI cJ cZ a (rg 11 12 F (rg 11 12 F F1)) (rg 0 1 X (rg 1 1 (rg 0 1 X X1) X_6)) J R gf gn) H := by rw [eF9, eX9]; exact hP
      have hD9 : va_D A (CW cB cC cI cJ cZ a (rg 11 12 F (rg 11 12 F F1)) (rg 0 1 X (rg 1 1 (rg 0 1 X X1) X_6)) J R gf gn) := by rw [eF9, eX9]; exact hD
      have hpost : ∃ D9 : Int → Nat, FI (X_6 1) D9 gf (F 0).toInt (F1 12).toInt ∧ GR (X 1) D (F 12).toInt (X_6 1) D9 (F1 12).toInt (61 - y) := ⟨D1, m1, m2⟩
      exact W.vret hx hb hr (fun t ht hW => ⟨⟨(rg 11 12 F F1, rg 1 1 (rg 0 1 X X1) X_6), rfl, hpost, by rw [ht]; exact hP9, va_K.moved hW.alike hK, hD9⟩, hS.F ht⟩) hS.2.2 dX3_copy_87
    · refine lv_aload_n hx hb dX3_copy_49 rfl (lv_at hl 0 rfl) ?_
      refine cg_3_5 hx hb hts inX3_copy_X3 hown hK hP (hts _ lkX3_copy_f18) dX3_copy_50 ?_
      refine tp_i (y := oI (F1 11).toInt) rfl ?_
      have i_8 := i32r (F1 11)
      refine cz_ne (tgt := 79) hx hb (i32r _) dX3_copy_53 (by decide) (fun c_9 => ?_) (fun c_9 => ?_)
      · refine lv_aload_n hx hb dX3_copy_79 rfl (lv_at hl 0 rfl) ?_
        refine cg_3_0 hx hb hts inX3_copy_X3 hown hK hP (hts _ lkX3_copy_f22) dX3_copy_80 ?_
        refine lv_iload_n hx hb dX3_copy_83 rfl (lv_at hl 3 rfl) ?_
        refine ccp_vV (As := [.int (oI li)]) (rest := []) (gF := fun _ => rg 11 12 F F1) (gX := fun X9 => rg 1 1 (rg 0 1 X X1) X9) ⟨hx, hb, hml, hown, hts⟩ (c_endList l dC dI cB cC cI cJ cZ a (rg 11 12 F F1) (rg 0 1 X X1) J R gf gn li  (by omega) (show gf ≤ 67600 from by first | assumption | omega)  H.size) (cwV 1 hts kX3_copy_X1_endList_94 rfl rfl rfl (by decide +kernel) ⟨show 1 + 1 ≤ d + 4 from by omega, show 8 + (2 + 11) + 60 ≤ 30 * d + 123 from by omega⟩) (va_recv hK hP (ci := 1) (q0 := 1) rfl rfl) hK hNW hP hD hS hA rfl rfl hl.1 (lv_room (Nat.le_of_ble_eq_true rfl)) dX3_copy_84 hcs (fun F_10 X_11 hw_12 H locs hP hD hS => ?_)
        have hw_12 : ((0 ≤ li ∧ li < (F1 12).toInt ∧ li < (gf : Int)) ∧ X_11 1 = upd (X1 1) (li).toNat (oI ((F1 12).toInt - li))) ∨ (¬ (0 ≤ li ∧ li < (F1 12).toInt ∧ li < (gf : Int)) ∧ X_11 1 = (X1 1)) := hw_12
        have hend := hw_12
        obtain ⟨m1, m2⟩ := MK_end hgf hf0 hfi hG hL hend
        have eF9 : rg 11 12 F (rg 11 12 F F1) = rg 11 12 F F1 := by funext k; simp only [rg, va_up]; (repeat' split) <;> first | with_reducible rfl | omega
        have eX9 : rg 0 1 X (rg 1 1 (rg 0 1 X X1) X_11) = rg 1 1 (rg 0 1 X X1) X_11 := by funext k; simp only [rg, va_up]; (repeat' split) <;> first | with_reducible rfl | omega
        have hP9 : va_P (dC, dI) vwCl (CW cB cC cI cJ cZ a (rg 11 12 F (rg 11 12 F F1)) (rg 0 1 X (rg 1 1 (rg 0 1 X X1) X_11)) J R gf gn) H := by rw [eF9, eX9]; exact hP
        have hD9 : va_D A (CW cB cC cI cJ cZ a (rg 11 12 F (rg 11 12 F F1)) (rg 0 1 X (rg 1 1 (rg 0 1 X X1) X_11)) J R gf gn) := by rw [eF9, eX9]; exact hD
        have hpost : ∃ D9 : Int → Nat, FI (X_11 1) D9 gf (F 0).toInt (F1 12).toInt ∧ GR (X 1) D (F 12).toInt (X_11 1) D9 (F1 12).toInt (61 - y) := ⟨D1, m1, m2⟩
        exact W.vret hx hb hr (fun t ht hW => ⟨⟨(rg 11 12 F F1, rg 1 1 (rg 0 1 X X1) X_11), rfl, hpost, by rw [ht]; exact hP9, va_K.moved hW.alike hK, hD9⟩, hS.F ht⟩) hS.2.2 dX3_copy_87
      · refine lv_aload_n hx hb dX3_copy_56 rfl (lv_at hl 0 rfl) ?_
        refine lv_iload hx hb dX3_copy_57 (lv_at hl 4 rfl) ?_
        refine lv_iload_n hx hb dX3_copy_59 rfl (lv_at hl 2 rfl) ?_
        refine lv_iconst (v := oI 1) hx hb dX3_copy_60 (by decide) ?_
        refine lv_iadd hx hb dX3_copy_61 ?_
        refine tp_i (oI_add y 1) ?_
        refine ccp_vV (As := [.int (oI q), .int (oI (y + 1))]) (rest := []) (gF := fun F9 => rg 11 12 (rg 11 12 F F1) F9) (gX := fun X9 => rg 0 1 (rg 0 1 X X1) X9) ⟨hx, hb, hml, hown, hts⟩ ((hI (d - 1) (by omega)) dC dI cB cC cI cJ cZ a (rg 11 12 F F1) (rg 0 1 X X1) J R gf gn q (y + 1) D1 (by omega) (by omega) (show gf ≤ 67600 from by first | assumption | omega) (show 0 ≤ (F 10).toInt ∧ (F 10).toInt ≤ 67600 from by first | assumption | omega) (show 0 ≤ (y + 1) ∧ (y + 1) ≤ 61 ∧ 62 ≤ (y + 1) + ((d - 1 : Nat) : Int) from by first | assumption | omega) (show FI (X1 1) D1 gf (F 0).toInt (F1 12).toInt from by assumption) H.size) (cwV 2 hts kX3_copy_X3_copy_110 rfl rfl rfl (by decide +kernel) ⟨show ((d - 1) + 4) + 1 ≤ d + 4 from by omega, show 8 + (5 + 11) + (30 * (d - 1) + 123) ≤ 30 * d + 123 from by omega⟩) (va_recv hK hP (ci := 3) (q0 := 3) rfl rfl) hK hNW hP hD hS hA rfl rfl hl.1 (lv_room (Nat.le_of_ble_eq_true rfl)) dX3_copy_62 hcs (fun F_13 X_14 hw_15 H locs hP hD hS => ?_)
        have hw_15 : ∃ D9 : Int → Nat, FI (X_14 1) D9 gf (F 0).toInt (F_13 12).toInt ∧ GR (X1 1) D1 (F1 12).toInt (X_14 1) D9 (F_13 12).toInt (61 - (y + 1)) := hw_15
        obtain ⟨D2, hfi, hG2⟩ := hw_15
        have hsp := FI_sp hfi
        obtain ⟨hG3, hL3⟩ := MK_step hG hL hG2
        refine lv_aload_n hx hb dX3_copy_65 rfl (lv_at hl 0 rfl) ?_
        refine cg_3_0 hx hb hts inX3_copy_X3 hown hK hP (hts _ lkX3_copy_f22) dX3_copy_66 ?_
        refine lv_iload hx hb dX3_copy_69 (lv_at hl 4 rfl) ?_
        refine ccs_iV (As := [.int (oI q)]) (rest := []) ⟨hx, hb, hml, hown, hts⟩ (c_after l dC dI cB cC cI cJ cZ a (rg 11 12 (rg 11 12 F F1) F_13) (rg 0 1 (rg 0 1 X X1) X_14) J R gf gn q  (by omega) (show gf ≤ 67600 from by first | assumption | omega) (show SPR (X_14 1) from by first | assumption | omega) (show q < 2147483647 from by first | assumption | omega) H.size) (cwV 1 hts kX3_copy_X1_after_53 rfl rfl rfl (by decide +kernel) ⟨show 1 + 1 ≤ d + 4 from by omega, show 8 + (2 + 11) + 60 ≤ 30 * d + 123 from by omega⟩) (va_recv hK hP (ci := 1) (q0 := 1) rfl rfl) hK hNW hP hD hS hA rfl rfl hl.1 (lv_room (Nat.le_of_ble_eq_true rfl)) dX3_copy_71 hcs (fun r_16 hw_17 H locs hP hD hS => ?_)
        have hw_17 : (r_16).toInt = AF (X_14 1) gf q ∧ q < (r_16).toInt ∧ (r_16).toInt ≤ q + 67600 := hw_17
        obtain ⟨_, la, ua⟩ := hw_17
        have i_18 := i32r r_16
        refine lv_istore (lv' := [(4, .int (oI r_16.toInt)), (0, .ref (a 3)), (1, .int (oI x)), (2, .int (oI y)), (3, .int (oI li))]) hx hb dX3_copy_74 hl (by decide) rfl (fun ls hl => ?_)
        refine lv_goto (tgt := 36) hx hb dX3_copy_76 (by decide) ?_
        have eF9 : rg 11 12 F (rg 11 12 (rg 11 12 F F1) F_13) = rg 11 12 (rg 11 12 F F1) F_13 := by funext k; simp only [rg, va_up]; (repeat' split) <;> first | with_reducible rfl | omega
        have eX9 : rg 0 1 X (rg 0 1 (rg 0 1 X X1) X_14) = rg 0 1 (rg 0 1 X X1) X_14 := by funext k; simp only [rg, va_up]; (repeat' split) <;> first | with_reducible rfl | omega
        have hP9 : va_P (dC, dI) vwCl (CW cB cC cI cJ cZ a (rg 11 12 F (rg 11 12 (rg 11 12 F F1) F_13)) (rg 0 1 X (rg 0 1 (rg 0 1 X X1) X_14)) J R gf gn) H := by rw [eF9, eX9]; exact hP
        have hD9 : va_D A (CW cB cC cI cJ cZ a (rg 11 12 F (rg 11 12 (rg 11 12 F F1) F_13)) (rg 0 1 X (rg 0 1 (rg 0 1 X X1) X_14)) J R gf gn) := by rw [eF9, eX9]; exact hD
        exact ih (rg 11 12 (rg 11 12 F F1) F_13) (rg 0 1 (rg 0 1 X X1) X_14) li r_16.toInt D2 (show (x + 67601 - r_16.toInt).toNat < k from by omega) (by omega) (i32r _) (show x < r_16.toInt ∧ r_16.toInt ≤ x + 300000 from by first | assumption | omega | (with_reducible rfl) | ((repeat' apply And.intro) <;> first | assumption | omega | (with_reducible rfl))) (show FI (X_14 1) D2 gf (F 0).toInt (F_13 12).toInt from hfi) (show GR (X 1) D (F 12).toInt (X_14 1) D2 (F_13 12).toInt (61 - y) from hG3) (show LI D2 (F 12).toInt (F_13 12).toInt li y from hL3) (show 60 < y → (F_13 11).toInt = 1 from by first | assumption | omega | (with_reducible rfl) | ((repeat' apply And.intro) <;> first | assumption | omega | (with_reducible rfl))) _ _ hP9 hD9 hS ls (lv_sub hl [1, 2, 3, 4, 0] rfl)

set_option maxHeartbeats 4000000 in
set_option maxRecDepth 100000 in
theorem st_copy (l : Launch) (d : Nat) (hI : ∀ d1, d1 < d → P_X3_copy l d1) : P_X3_copy l d := by
  unfold P_X3_copy
  intro dC dI cB cC cI cJ cZ a F X J R gf gn x y D ix iy hgf hsa hz hfi s0
  refine Met.ofW (cc := cX3_copy) (maxL := 5) (ret := none) (by decide) rfl ?_
  intro p e s m args below meth c s₁ B9 hml hv
  obtain ⟨rfl, hsz0, hP, hK, hD0, hNW⟩ := hv
  have hx := B9.exec
  have hb := B9.bytes
  have hr := B9.returns
  have hts := atoms_spec (ws := vX3_copy) B9.pre
  have hown : s.vm.findClass RX3 = some m.cls := findClass_of_methodNamed B9.named
  have hlocks := B9.notSynchronized
  clear B9
  subst hsz0
  have hD := hD0.self (sz := s.heap.size)
  generalize hAe : va_A (CW cB cC cI cJ cZ a F X J R gf gn) s.heap.size = A at hD ⊢
  have hA : ∀ q : Nat, s.heap.size ≤ q → A q := fun q h => by rw [← hAe]; exact Or.inr h
  have hS : va_S A s.heap s.heap [] := va_S.rf
  have hcs : 0 + 0 ≤ (0 : Nat) ∧ 0 + 0 ≤ (0 : Nat) := ⟨Nat.le_refl 0, Nat.le_refl 0⟩
  have hl := lv_entry ([.ref (a 3), .int (oI x), .int (oI y)]) (n := 5) (Nat.le_of_ble_eq_true rfl)
  rw [lg_entry_eq]
  generalize (lg_sl ([.ref (a 3), .int (oI x), .int (oI y)]) ++ List.replicate (5 - (lg_sl ([.ref (a 3), .int (oI x), .int (oI y)])).length) Slot.unset).toArray = ls at hl ⊢
  have hl : lv_has ls 5 [(0, .ref (a 3)), (1, .int (oI x)), (2, .int (oI y))] := hl
  have hbb := FI_b hfi
  have hsp := FI_sp hfi
  refine lv_aload_n hx hb dX3_copy_0 rfl (lv_at hl 0 rfl) ?_
  refine cg_3_0 hx hb hts inX3_copy_X3 hown hK hP (hts _ lkX3_copy_f22) dX3_copy_1 ?_
  refine lv_iload_n hx hb dX3_copy_4 rfl (lv_at hl 1 rfl) ?_
  refine ccs_iV (As := [.int (oI x)]) (rest := []) ⟨hx, hb, hml, hown, hts⟩ (c_isList l dC dI cB cC cI cJ cZ a F X J R gf gn x  (by omega) (show gf ≤ 67600 from by first | assumption | omega)  s.heap.size) (cwV 1 hts kX3_copy_X1_isList_81 rfl rfl rfl (by decide +kernel) ⟨show 1 + 1 ≤ d + 4 from by omega, show 8 + (2 + 11) + 60 ≤ 30 * d + 123 from by omega⟩) (va_recv hK hP (ci := 1) (q0 := 1) rfl rfl) hK hNW hP hD hS hA rfl rfl hl.1 (lv_room (Nat.le_of_ble_eq_true rfl)) dX3_copy_5 hcs (fun r_1 hw_2 H locs hP hD hS => ?_)
  have hw_2 : ((r_1).toInt = 1 ∧ 0 ≤ x ∧ x < (gf : Int)) ∨ (r_1).toInt = 0 := hw_2
  have hil := hw_2
  have i_3 := i32r r_1
  refine cz_ne (tgt := 25) hx hb (i32r _) dX3_copy_8 (by decide) (fun c_4 => ?_) (fun c_4 => ?_)
  · refine lv_aload_n hx hb dX3_copy_25 rfl (lv_at hl 0 rfl) ?_
    refine lv_iload_n hx hb dX3_copy_26 rfl (lv_at hl 2 rfl) ?_
    refine ccp_iV (As := [.int (oI y)]) (rest := []) (gF := fun F9 => rg 11 12 F F9) (gX := fun X9 => rg 0 1 X X9) ⟨hx, hb, hml, hown, hts⟩ (c_addList l dC dI cB cC cI cJ cZ a F X J R gf gn y D (by omega) (show gf ≤ 67600 from by first | assumption | omega) (show 0 ≤ (F 10).toInt ∧ (F 10).toInt ≤ 67600 from by first | assumption | omega) (show 0 ≤ (F 12).toInt ∧ (F 12).toInt ≤ (gf : Int) from by first | assumption | omega) (show 0 ≤ y ∧ y ≤ 61 from by first | assumption | omega) (show FI (X 1) D gf (F 0).toInt (F 12).toInt from by assumption) H.size) (cwV 1 hts kX3_copy_X3_addList_87 rfl rfl rfl (by decide +kernel) ⟨show 3 + 1 ≤ d + 4 from by omega, show 8 + (2 + 11) + 102 ≤ 30 * d + 123 from by omega⟩) (va_recv hK hP (ci := 3) (q0 := 3) rfl rfl) hK hNW hP hD hS hA rfl rfl hl.1 (lv_room (Nat.le_of_ble_eq_true rfl)) dX3_copy_27 hcs (fun r_5 F_6 X_7 hw_8 H locs hP hD hS => ?_)
    have hw_8 : ∃ D9 : Int → Nat, FI (X_7 1) D9 gf (F 0).toInt (F_6 12).toInt ∧ GR (X 1) D (F 12).toInt (X_7 1) D9 (F_6 12).toInt (61 - y) ∧ LI D9 (F 12).toInt (F_6 12).toInt ((r_5).toInt) y ∧ (60 < y → (F_6 11).toInt = 1) := hw_8
    obtain ⟨D1, hf2, hG, hL, htm⟩ := hw_8
    have i_9 := i32r r_5
    refine lv_istore_n (lv' := [(3, .int (oI r_5.toInt)), (0, .ref (a 3)), (1, .int (oI x)), (2, .int (oI y))]) hx hb dX3_copy_30 rfl hl (by decide) rfl (fun ls hl => ?_)
    refine lv_iload_n hx hb dX3_copy_31 rfl (lv_at hl 2 rfl) ?_
    refine lv_iconst (v := oI 1) hx hb dX3_copy_32 (by decide) ?_
    refine lv_iadd hx hb dX3_copy_33 ?_
    refine tp_i (oI_add x 1) ?_
    refine lv_istore (lv' := [(4, .int (oI (x + 1))), (3, .int (oI r_5.toInt)), (0, .ref (a 3)), (1, .int (oI x)), (2, .int (oI y))]) hx hb dX3_copy_34 hl (by decide) rfl (fun ls hl => ?_)
    have hx0 : 0 ≤ x ∧ x < (gf : Int) := by omega
    have eF9 : rg 11 12 F (rg 11 12 F F_6) = rg 11 12 F F_6 := by funext k; simp only [rg, va_up]; (repeat' split) <;> first | with_reducible rfl | omega
    have eX9 : rg 0 1 X (rg 0 1 X X_7) = rg 0 1 X X_7 := by funext k; simp only [rg, va_up]; (repeat' split) <;> first | with_reducible rfl | omega
    have hP9 : va_P (dC, dI) vwCl (CW cB cC cI cJ cZ a (rg 11 12 F (rg 11 12 F F_6)) (rg 0 1 X (rg 0 1 X X_7)) J R gf gn) H := by rw [eF9, eX9]; exact hP
    have hD9 : va_D A (CW cB cC cI cJ cZ a (rg 11 12 F (rg 11 12 F F_6)) (rg 0 1 X (rg 0 1 X X_7)) J R gf gn) := by rw [eF9, eX9]; exact hD
    exact lq_copy hx hb hml hown hts hK hNW hA hr hlocks x y d D ix iy (by assumption) (by assumption) (by assumption) (by assumption) hI hx0 _ (rg 11 12 F F_6) (rg 0 1 X X_7) r_5.toInt (x + 1) D1 (Nat.lt_succ_self _) (i32r _) (by omega) (show x < (x + 1) ∧ (x + 1) ≤ x + 300000 from by first | assumption | omega | (with_reducible rfl) | ((repeat' apply And.intro) <;> first | assumption | omega | (with_reducible rfl))) (show FI (X_7 1) D1 gf (F 0).toInt (F_6 12).toInt from hf2) (show GR (X 1) D (F 12).toInt (X_7 1) D1 (F_6 12).toInt (61 - y) from hG) (show LI D1 (F 12).toInt (F_6 12).toInt r_5.toInt y from hL) (show 60 < y → (F_6 11).toInt = 1 from htm) _ _ hP9 hD9 hS ls (lv_sub hl [2, 3, 4, 1, 0] rfl)
  · refine lv_aload_n hx hb dX3_copy_11 rfl (lv_at hl 0 rfl) ?_
    refine lv_aload_n hx hb dX3_copy_12 rfl (lv_at hl 0 rfl) ?_
    refine cg_3_0 hx hb hts inX3_copy_X3 hown hK hP (hts _ lkX3_copy_f22) dX3_copy_13 ?_
    refine lv_iload_n hx hb dX3_copy_16 rfl (lv_at hl 1 rfl) ?_
    refine ccs_iV (As := [.int (oI x)]) (rest := [.ref (a 3)]) ⟨hx, hb, hml, hown, hts⟩ (c_whatIs l dC dI cB cC cI cJ cZ a F X J R gf gn x  (by omega) (show gf ≤ 67600 from by first | assumption | omega)  H.size) (cwV 1 hts kX3_copy_X1_whatIs_101 rfl rfl rfl (by decide +kernel) ⟨show 1 + 1 ≤ d + 4 from by omega, show 8 + (2 + 11) + 60 ≤ 30 * d + 123 from by omega⟩) (va_recv hK hP (ci := 1) (q0 := 1) rfl rfl) hK hNW hP hD hS hA rfl rfl hl.1 (lv_room (Nat.le_of_ble_eq_true rfl)) dX3_copy_17 hcs (fun r_10 hw_11 H locs hP hD hS => ?_)
    have i_12 := i32r r_10
    refine ccp_iV (As := [.int (oI r_10.toInt)]) (rest := []) (gF := fun F9 => rg 11 12 F F9) (gX := fun X9 => rg 0 1 X X9) ⟨hx, hb, hml, hown, hts⟩ (c_addM l dC dI cB cC cI cJ cZ a F X J R gf gn r_10.toInt  (i32r _) (show gf ≤ 67600 from by first | assumption | omega) (show 0 ≤ (F 10).toInt ∧ (F 10).toInt ≤ 67600 from by first | assumption | omega) (show 0 ≤ (F 12).toInt ∧ (F 12).toInt ≤ (gf : Int) from by first | assumption | omega)  H.size) (cwV 1 hts kX3_copy_X3_add_104 rfl rfl rfl (by decide +kernel) ⟨show 2 + 1 ≤ d + 4 from by omega, show 8 + (2 + 11) + 81 ≤ 30 * d + 123 from by omega⟩) (va_recv hK hP (ci := 3) (q0 := 3) rfl rfl) hK hNW hP hD hS hA rfl rfl hl.1 (lv_room (Nat.le_of_ble_eq_true rfl)) dX3_copy_20 hcs (fun r_13 F_14 X_15 hw_16 H locs hP hD hS => ?_)
    have hw_16 : (((0 ≤ (F 12).toInt ∧ (F 12).toInt < (gf : Int)) ∧ (r_13).toInt = (F 12).toInt ∧ (F_14 12).toInt = (F 12).toInt + 1 ∧ X_15 1 = upd (X 1) (F 12).toInt.toNat (oI 1)) ∨ ((r_13).toInt = -1 ∧ (F_14 12).toInt = (F 12).toInt ∧ X_15 1 = (X 1))) ∧ ((F 11).toInt ≠ 0 → (F_14 11).toInt = 1) := hw_16
    obtain ⟨had, hto⟩ := hw_16
    have i_17 := i32r r_13
    refine lv_pop hx hb dX3_copy_23 rfl ?_
    obtain ⟨D2, hf2, hG2, hL2⟩ := MK_add (z := y) hfi (by omega) had
    have eF9 : rg 11 12 F (rg 11 12 F F_14) = rg 11 12 F F_14 := by funext k; simp only [rg, va_up]; (repeat' split) <;> first | with_reducible rfl | omega
    have eX9 : rg 0 1 X (rg 0 1 X X_15) = rg 0 1 X X_15 := by funext k; simp only [rg, va_up]; (repeat' split) <;> first | with_reducible rfl | omega
    have hP9 : va_P (dC, dI) vwCl (CW cB cC cI cJ cZ a (rg 11 12 F (rg 11 12 F F_14)) (rg 0 1 X (rg 0 1 X X_15)) J R gf gn) H := by rw [eF9, eX9]; exact hP
    have hD9 : va_D A (CW cB cC cI cJ cZ a (rg 11 12 F (rg 11 12 F F_14)) (rg 0 1 X (rg 0 1 X X_15)) J R gf gn) := by rw [eF9, eX9]; exact hD
    have hpost : ∃ D9 : Int → Nat, FI (X_15 1) D9 gf (F 0).toInt (F_14 12).toInt ∧ GR (X 1) D (F 12).toInt (X_15 1) D9 (F_14 12).toInt (61 - y) := ⟨D2, hf2, hG2⟩
    exact W.vret hx hb hr (fun t ht hW => ⟨⟨(rg 11 12 F F_14, rg 0 1 X X_15), rfl, hpost, by rw [ht]; exact hP9, va_K.moved hW.alike hK, hD9⟩, hS.F ht⟩) hS.2.2 dX3_copy_24

theorem all_copy (l : Launch) (d : Nat) : P_X3_copy l d := by
  induction d using Nat.strongRecOn with
  | ind d ih => exact st_copy l d ih
theorem c_copy (l : Launch) (dC : Nat → ClassId) (dI : Nat → Nat → Nat) (cB cC cI cJ cZ : ClassId) (a : Nat → Nat) (F : Nat → Int32) (X : Nat → Nat → Int32) (J : Nat → Nat → Int64) (R : Nat → Nat) (gf gn : Nat) (x y : Int) (d : Nat) (D : Int → Nat) (ix : (-2147483648 ≤ x ∧ x < 2147483648)) (iy : (-2147483648 ≤ y ∧ y < 2147483648)) (hgf : gf ≤ 67600) (hsa : 0 ≤ (F 10).toInt ∧ (F 10).toInt ≤ 67600) (hz : 0 ≤ y ∧ y ≤ 61 ∧ 62 ≤ y + ((d : Nat) : Int)) (hfi : FI (X 1) D gf (F 0).toInt (F 12).toInt) (s0 : Nat) : Met l yX3_copy vX3_copy { frames := d + 4, cells := 0, slots := 0, locals := 30 * d + 123 } (va_Pc [.ref (a 3), .int (oI x), .int (oI y)] (cPre dC dI cB cC cI cJ cZ a F X J R gf gn s0)) (va_Qv (fun (u : (Nat → Int32) × (Nat → Nat → Int32)) => match u with | (F1, X1) => ∃ D9 : Int → Nat, FI (X1 1) D9 gf (F 0).toInt (F1 12).toInt ∧ GR (X 1) D (F 12).toInt (X1 1) D9 (F1 12).toInt (61 - y)) (fun u => cPost dC dI cB cC cI cJ cZ a (rg 11 12 F u.1) (rg 0 1 X u.2) J R gf gn (va_A (CW cB cC cI cJ cZ a F X J R gf gn) s0)) (va_A (CW cB cC cI cJ cZ a F X J R gf gn) s0)) 0 0 (va_A (CW cB cC cI cJ cZ a F X J R gf gn) s0) := (all_copy l d) dC dI cB cC cI cJ cZ a F X J R gf gn x y D ix iy hgf hsa hz hfi s0
set_option maxHeartbeats 4000000 in
set_option maxRecDepth 100000 in
/-- X3_aliasOf -/
theorem c_aliasOf (l : Launch) (dC : Nat → ClassId) (dI : Nat → Nat → Nat) (cB cC cI cJ cZ : ClassId) (a : Nat → Nat) (F : Nat → Int32) (X : Nat → Nat → Int32) (J : Nat → Nat → Int64) (R : Nat → Nat) (gf gn : Nat) (x : Int)  (ix : (-2147483648 ≤ x ∧ x < 2147483648)) (hgn : gn ≤ 63261) (hnt : 0 ≤ (F 13).toInt ∧ (F 13).toInt ≤ (gn : Int)) (s0 : Nat) : Met l yX3_aliasOf vX3_aliasOf { frames := 3, cells := 0, slots := 0, locals := 103 } (va_Pc [.ref (a 3), .int (oI x)] (cPre dC dI cB cC cI cJ cZ a F X J R gf gn s0)) (va_Qi (fun (r : Int32) (u : (Nat → Int32) × (Nat → Nat → Int32)) => match u with | (F1, X1) => 0 ≤ (F1 13).toInt ∧ (F1 13).toInt ≤ (gn : Int)) (fun u => cPost dC dI cB cC cI cJ cZ a (rg 13 13 F u.1) (rg 14 18 X u.2) J R gf gn (va_A (CW cB cC cI cJ cZ a F X J R gf gn) s0)) (va_A (CW cB cC cI cJ cZ a F X J R gf gn) s0)) 0 0 (va_A (CW cB cC cI cJ cZ a F X J R gf gn) s0) := by
  refine Met.ofW (cc := cX3_aliasOf) (maxL := 2) (ret := (some .int)) (by decide) rfl ?_
  intro p e s m args below meth c s₁ B9 hml hv
  obtain ⟨rfl, hsz0, hP, hK, hD0, hNW⟩ := hv
  have hx := B9.exec
  have hb := B9.bytes
  have hr := B9.returns
  have hts := atoms_spec (ws := vX3_aliasOf) B9.pre
  have hown : s.vm.findClass RX3 = some m.cls := findClass_of_methodNamed B9.named
  have hlocks := B9.notSynchronized
  clear B9
  subst hsz0
  have hD := hD0.self (sz := s.heap.size)
  generalize hAe : va_A (CW cB cC cI cJ cZ a F X J R gf gn) s.heap.size = A at hD ⊢
  have hA : ∀ q : Nat, s.heap.size ≤ q → A q := fun q h => by rw [← hAe]; exact Or.inr h
  have hS : va_S A s.heap s.heap [] := va_S.rf
  have hcs : 0 + 0 ≤ (0 : Nat) ∧ 0 + 0 ≤ (0 : Nat) := ⟨Nat.le_refl 0, Nat.le_refl 0⟩
  have hl := lv_entry ([.ref (a 3), .int (oI x)]) (n := 2) (Nat.le_of_ble_eq_true rfl)
  rw [lg_entry_eq]
  generalize (lg_sl ([.ref (a 3), .int (oI x)]) ++ List.replicate (2 - (lg_sl ([.ref (a 3), .int (oI x)])).length) Slot.unset).toArray = ls at hl ⊢
  have hl : lv_has ls 2 [(0, .ref (a 3)), (1, .int (oI x))] := hl
  have i9 := i32r (F 9)
  refine lv_aload_n hx hb dX3_aliasOf_0 rfl (lv_at hl 0 rfl) ?_
  refine cg_3_1 hx hb hts inX3_aliasOf_X3 hown hK hP (hts _ lkX3_aliasOf_f26) dX3_aliasOf_1 ?_
  refine lv_iload_n hx hb dX3_aliasOf_4 rfl (lv_at hl 1 rfl) ?_
  refine ccs_iV (As := [.int (oI x)]) (rest := []) ⟨hx, hb, hml, hown, hts⟩ (c_isNoted l dC dI cB cC cI cJ cZ a F X J R gf gn x  (by omega) (show gn ≤ 63261 from by first | assumption | omega) (show 0 ≤ (F 13).toInt ∧ (F 13).toInt ≤ (gn : Int) from by first | assumption | omega)  s.heap.size) (cwV 1 hts kX3_aliasOf_X6_isNoted_119 rfl rfl rfl (by decide +kernel) ⟨Nat.le_of_ble_eq_true rfl, Nat.le_of_ble_eq_true rfl⟩) (va_recv hK hP (ci := 6) (q0 := 6) rfl rfl) hK hNW hP hD hS hA rfl rfl hl.1 (lv_room (Nat.le_of_ble_eq_true rfl)) dX3_aliasOf_5 hcs (fun r_1 hw_2 H locs hP hD hS => ?_)
  have i_3 := i32r r_1
  refine cz_ne (tgt := 34) hx hb (i32r _) dX3_aliasOf_8 (by decide) (fun c_4 => ?_) (fun c_4 => ?_)
  · refine lv_bipush (v := oI (-2)) hx hb dX3_aliasOf_34 (by decide) ?_
    refine lv_aload_n hx hb dX3_aliasOf_36 rfl (lv_at hl 0 rfl) ?_
    refine cg_3_1 hx hb hts inX3_aliasOf_X3 hown hK hP (hts _ lkX3_aliasOf_f26) dX3_aliasOf_37 ?_
    refine lv_iload_n hx hb dX3_aliasOf_40 rfl (lv_at hl 1 rfl) ?_
    refine ccs_iV (As := [.int (oI x)]) (rest := [.int (oI ((-2)))]) ⟨hx, hb, hml, hown, hts⟩ (c_noteOf l dC dI cB cC cI cJ cZ a F X J R gf gn x  (by omega) (show gn ≤ 63261 from by first | assumption | omega) (show 0 ≤ (F 13).toInt ∧ (F 13).toInt ≤ (gn : Int) from by first | assumption | omega)  H.size) (cwV 1 hts kX3_aliasOf_X6_noteOf_69 rfl rfl rfl (by decide +kernel) ⟨Nat.le_of_ble_eq_true rfl, Nat.le_of_ble_eq_true rfl⟩) (va_recv hK hP (ci := 6) (q0 := 6) rfl rfl) hK hNW hP hD hS hA rfl rfl hl.1 (lv_room (Nat.le_of_ble_eq_true rfl)) dX3_aliasOf_41 hcs (fun r_5 hw_6 H locs hP hD hS => ?_)
    have i_7 := i32r r_5
    refine lv_isub hx hb dX3_aliasOf_44 ?_
    refine tp_i (oI_sub ((-2)) r_5.toInt) ?_
    refine lv_topi (fun v_8 ev_8 => ?_)
    refine tp_i (oI_toInt v_8).symm ?_
    have i_9 := i32r v_8
    have eF9 : rg 13 13 F F = F := by funext k; simp only [rg, va_up]; (repeat' split) <;> first | with_reducible rfl | omega
    have eX9 : rg 14 18 X X = X := by funext k; simp only [rg, va_up]; (repeat' split) <;> first | with_reducible rfl | omega
    have hP9 : va_P (dC, dI) vwCl (CW cB cC cI cJ cZ a (rg 13 13 F F) (rg 14 18 X X) J R gf gn) H := by rw [eF9, eX9]; exact hP
    have hD9 : va_D A (CW cB cC cI cJ cZ a (rg 13 13 F F) (rg 14 18 X X) J R gf gn) := by rw [eF9, eX9]; exact hD
    have hpost : 0 ≤ (F 13).toInt ∧ (F 13).toInt ≤ (gn : Int) := by first | assumption | omega | (with_reducible rfl) | ((repeat' apply And.intro) <;> first | assumption | omega | (with_reducible rfl))
    exact W.iret (v := (oI v_8.toInt)) hx hb hr (fun t ht hW => ⟨⟨(oI v_8.toInt), (F, X), rfl, hpost, by rw [ht]; exact hP9, va_K.moved hW.alike hK, hD9⟩, hS.F ht⟩) hS.2.2 dX3_aliasOf_45
  · refine lv_aload_n hx hb dX3_aliasOf_11 rfl (lv_at hl 0 rfl) ?_
    refine cg_3_1 hx hb hts inX3_aliasOf_X3 hown hK hP (hts _ lkX3_aliasOf_f26) dX3_aliasOf_12 ?_
    refine lv_iload_n hx hb dX3_aliasOf_15 rfl (lv_at hl 1 rfl) ?_
    refine lv_bipush (v := oI (-2)) hx hb dX3_aliasOf_16 (by decide) ?_
    refine lv_aload_n hx hb dX3_aliasOf_18 rfl (lv_at hl 0 rfl) ?_
    refine cg_3_1 hx hb hts inX3_aliasOf_X3 hown hK hP (hts _ lkX3_aliasOf_f26) dX3_aliasOf_19 ?_
    refine lv_iload_n hx hb dX3_aliasOf_22 rfl (lv_at hl 1 rfl) ?_
    refine lv_aload_n hx hb dX3_aliasOf_23 rfl (lv_at hl 0 rfl) ?_
    refine cg_3_3 hx hb hts inX3_aliasOf_X3 hown hK hP (hts _ lkX3_aliasOf_f9) dX3_aliasOf_24 ?_
    have i_10 := i32r (F 9)
    refine ccp_iV (As := [.int (oI x), .int (oI ((F 9).toInt))]) (rest := [.int (oI ((-2))), .int (oI x), .ref (a 6)]) (gF := fun F9 => rg 13 13 F F9) (gX := fun X9 => rg 14 17 X X9) ⟨hx, hb, hml, hown, hts⟩ (c_addName l dC dI cB cC cI cJ cZ a F X J R gf gn x ((F 9).toInt)  (by omega) (i32r _) (show gn ≤ 63261 from by first | assumption | omega) (show 0 ≤ (F 13).toInt ∧ (F 13).toInt ≤ (gn : Int) from by first | assumption | omega)  H.size) (cwV 2 hts kX3_aliasOf_X6_addName_122 rfl rfl rfl (by decide +kernel) ⟨Nat.le_of_ble_eq_true rfl, Nat.le_of_ble_eq_true rfl⟩) (va_recv hK hP (ci := 6) (q0 := 6) rfl rfl) hK hNW hP hD hS hA rfl rfl hl.1 (lv_room (Nat.le_of_ble_eq_true rfl)) dX3_aliasOf_27 hcs (fun r_11 F_12 X_13 hw_14 H locs hP hD hS => ?_)
    have hw_14 : 0 ≤ (F_12 13).toInt ∧ (F_12 13).toInt ≤ (gn : Int) := hw_14
    have hnt := hw_14
    have i_15 := i32r r_11
    refine lv_isub hx hb dX3_aliasOf_30 ?_
    refine tp_i (oI_sub ((-2)) r_11.toInt) ?_
    refine lv_topi (fun v_16 ev_16 => ?_)
    refine tp_i (oI_toInt v_16).symm ?_
    have i_17 := i32r v_16
    refine ccp_vV (As := [.int (oI x), .int (oI v_16.toInt)]) (rest := []) (gF := fun _ => rg 13 13 F F_12) (gX := fun X9 => rg 17 18 (rg 14 17 X X_13) X9) ⟨hx, hb, hml, hown, hts⟩ (c_setNote l dC dI cB cC cI cJ cZ a (rg 13 13 F F_12) (rg 14 17 X X_13) J R gf gn x v_16.toInt  (by omega) (i32r _) (show gn ≤ 63261 from by first | assumption | omega) (show 0 ≤ (F_12 13).toInt ∧ (F_12 13).toInt ≤ (gn : Int) from by first | assumption | omega)  H.size) (cwV 2 hts kX3_aliasOf_X6_setNote_125 rfl rfl rfl (by decide +kernel) ⟨Nat.le_of_ble_eq_true rfl, Nat.le_of_ble_eq_true rfl⟩) (va_recv hK hP (ci := 6) (q0 := 6) rfl rfl) hK hNW hP hD hS hA rfl rfl hl.1 (lv_room (Nat.le_of_ble_eq_true rfl)) dX3_aliasOf_31 hcs (fun F_18 X_19 hw_20 H locs hP hD hS => ?_)
    refine lv_bipush (v := oI (-2)) hx hb dX3_aliasOf_34 (by decide) ?_
    refine lv_aload_n hx hb dX3_aliasOf_36 rfl (lv_at hl 0 rfl) ?_
    refine cg_3_1 hx hb hts inX3_aliasOf_X3 hown hK hP (hts _ lkX3_aliasOf_f26) dX3_aliasOf_37 ?_
    refine lv_iload_n hx hb dX3_aliasOf_40 rfl (lv_at hl 1 rfl) ?_
    refine ccs_iV (As := [.int (oI x)]) (rest := [.int (oI ((-2)))]) ⟨hx, hb, hml, hown, hts⟩ (c_noteOf l dC dI cB cC cI cJ cZ a (rg 13 13 F F_12) (rg 17 18 (rg 14 17 X X_13) X_19) J R gf gn x  (by omega) (show gn ≤ 63261 from by first | assumption | omega) (show 0 ≤ (F_12 13).toInt ∧ (F_12 13).toInt ≤ (gn : Int) from by first | assumption | omega)  H.size) (cwV 1 hts kX3_aliasOf_X6_noteOf_69 rfl rfl rfl (by decide +kernel) ⟨Nat.le_of_ble_eq_true rfl, Nat.le_of_ble_eq_true rfl⟩) (va_recv hK hP (ci := 6) (q0 := 6) rfl rfl) hK hNW hP hD hS hA rfl rfl hl.1 (lv_room (Nat.le_of_ble_eq_true rfl)) dX3_aliasOf_41 hcs (fun r_21 hw_22 H locs hP hD hS => ?_)
    have i_23 := i32r r_21
    refine lv_isub hx hb dX3_aliasOf_44 ?_
    refine tp_i (oI_sub ((-2)) r_21.toInt) ?_
    refine lv_topi (fun v_24 ev_24 => ?_)
    refine tp_i (oI_toInt v_24).symm ?_
    have i_25 := i32r v_24
    have eF9 : rg 13 13 F (rg 13 13 F F_12) = rg 13 13 F F_12 := by funext k; simp only [rg, va_up]; (repeat' split) <;> first | with_reducible rfl | omega
    have eX9 : rg 14 18 X (rg 17 18 (rg 14 17 X X_13) X_19) = rg 17 18 (rg 14 17 X X_13) X_19 := by funext k; simp only [rg, va_up]; (repeat' split) <;> first | with_reducible rfl | omega
    have hP9 : va_P (dC, dI) vwCl (CW cB cC cI cJ cZ a (rg 13 13 F (rg 13 13 F F_12)) (rg 14 18 X (rg 17 18 (rg 14 17 X X_13) X_19)) J R gf gn) H := by rw [eF9, eX9]; exact hP
    have hD9 : va_D A (CW cB cC cI cJ cZ a (rg 13 13 F (rg 13 13 F F_12)) (rg 14 18 X (rg 17 18 (rg 14 17 X X_13) X_19)) J R gf gn) := by rw [eF9, eX9]; exact hD
    have hpost : 0 ≤ (F_12 13).toInt ∧ (F_12 13).toInt ≤ (gn : Int) := by first | assumption | omega | (with_reducible rfl) | ((repeat' apply And.intro) <;> first | assumption | omega | (with_reducible rfl))
    exact W.iret (v := (oI v_24.toInt)) hx hb hr (fun t ht hW => ⟨⟨(oI v_24.toInt), (rg 13 13 F F_12, rg 17 18 (rg 14 17 X X_13) X_19), rfl, hpost, by rw [ht]; exact hP9, va_K.moved hW.alike hK, hD9⟩, hS.F ht⟩) hS.2.2 dX3_aliasOf_45

set_option maxHeartbeats 4000000 in
set_option maxRecDepth 100000 in
/-- X3_buildPart -/
theorem c_buildPart (l : Launch) (dC : Nat → ClassId) (dI : Nat → Nat → Nat) (cB cC cI cJ cZ : ClassId) (a : Nat → Nat) (F : Nat → Int32) (X : Nat → Nat → Int32) (J : Nat → Nat → Int64) (R : Nat → Nat) (gf gn : Nat) (x y z : Int) (D : Int → Nat) (ix : (-2147483648 ≤ x ∧ x < 2147483648)) (iy : (-2147483648 ≤ y ∧ y < 2147483648)) (iz : (-2147483648 ≤ z ∧ z < 2147483648)) (hgf : gf ≤ 67600) (hgn : gn ≤ 63261) (hnt : 0 ≤ (F 13).toInt ∧ (F 13).toInt ≤ (gn : Int)) (hms : 0 ≤ (F 19).toInt ∧ (F 19).toInt ≤ 3000 ∧ 0 ≤ (F 20).toInt ∧ (F 20).toInt ≤ 3000) (hsa : 0 ≤ (F 10).toInt ∧ (F 10).toInt ≤ 67600) (hz : 0 ≤ z ∧ z ≤ 61) (hfi : FI (X 1) D gf (F 0).toInt (F 12).toInt) (s0 : Nat) : Met l yX3_buildPart vX3_buildPart { frames := 67, cells := 0, slots := 0, locals := 2007 } (va_Pc [.ref (a 3), .int (oI x), .int (oI y), .int (oI z)] (cPre dC dI cB cC cI cJ cZ a F X J R gf gn s0)) (va_Qv (fun (u : (Nat → Int32) × (Nat → Nat → Int32)) => match u with | (F1, X1) => (∃ D9 : Int → Nat, FI (X1 1) D9 gf (F 0).toInt (F1 12).toInt ∧ GR (X 1) D (F 12).toInt (X1 1) D9 (F1 12).toInt (61 - z)) ∧ (0 ≤ (F1 13).toInt ∧ (F1 13).toInt ≤ (gn : Int))) (fun u => cPost dC dI cB cC cI cJ cZ a (rg 11 13 F u.1) (rg 14 18 (rg 0 1 X u.2) u.2) J R gf gn (va_A (CW cB cC cI cJ cZ a F X J R gf gn) s0)) (va_A (CW cB cC cI cJ cZ a F X J R gf gn) s0)) 0 0 (va_A (CW cB cC cI cJ cZ a F X J R gf gn) s0) := by
  refine Met.ofW (cc := cX3_buildPart) (maxL := 6) (ret := none) (by decide) rfl ?_
  intro p e s m args below meth c s₁ B9 hml hv
  obtain ⟨rfl, hsz0, hP, hK, hD0, hNW⟩ := hv
  have hx := B9.exec
  have hb := B9.bytes
  have hr := B9.returns
  have hts := atoms_spec (ws := vX3_buildPart) B9.pre
  have hown : s.vm.findClass RX3 = some m.cls := findClass_of_methodNamed B9.named
  have hlocks := B9.notSynchronized
  clear B9
  subst hsz0
  have hD := hD0.self (sz := s.heap.size)
  generalize hAe : va_A (CW cB cC cI cJ cZ a F X J R gf gn) s.heap.size = A at hD ⊢
  have hA : ∀ q : Nat, s.heap.size ≤ q → A q := fun q h => by rw [← hAe]; exact Or.inr h
  have hS : va_S A s.heap s.heap [] := va_S.rf
  have hcs : 0 + 0 ≤ (0 : Nat) ∧ 0 + 0 ≤ (0 : Nat) := ⟨Nat.le_refl 0, Nat.le_refl 0⟩
  have hl := lv_entry ([.ref (a 3), .int (oI x), .int (oI y), .int (oI z)]) (n := 6) (Nat.le_of_ble_eq_true rfl)
  rw [lg_entry_eq]
  generalize (lg_sl ([.ref (a 3), .int (oI x), .int (oI y), .int (oI z)]) ++ List.replicate (6 - (lg_sl ([.ref (a 3), .int (oI x), .int (oI y), .int (oI z)])).length) Slot.unset).toArray = ls at hl ⊢
  have hl : lv_has ls 6 [(0, .ref (a 3)), (1, .int (oI x)), (2, .int (oI y)), (3, .int (oI z))] := hl
  have hbb := FI_b hfi
  refine lv_aload_n hx hb dX3_buildPart_0 rfl (lv_at hl 0 rfl) ?_
  refine cg_3_0 hx hb hts inX3_buildPart_X3 hown hK hP (hts _ lkX3_buildPart_f22) dX3_buildPart_1 ?_
  refine lv_iload_n hx hb dX3_buildPart_4 rfl (lv_at hl 1 rfl) ?_
  refine ccs_iV (As := [.int (oI x)]) (rest := []) ⟨hx, hb, hml, hown, hts⟩ (c_nameOf l dC dI cB cC cI cJ cZ a F X J R gf gn x  (by omega) (show gf ≤ 67600 from by first | assumption | omega)  s.heap.size) (cwV 1 hts kX3_buildPart_X1_nameOf_66 rfl rfl rfl (by decide +kernel) ⟨Nat.le_of_ble_eq_true rfl, Nat.le_of_ble_eq_true rfl⟩) (va_recv hK hP (ci := 1) (q0 := 1) rfl rfl) hK hNW hP hD hS hA rfl rfl hl.1 (lv_room (Nat.le_of_ble_eq_true rfl)) dX3_buildPart_5 hcs (fun r_1 hw_2 H locs hP hD hS => ?_)
  have i_3 := i32r r_1
  refine lv_istore (lv' := [(4, .int (oI r_1.toInt)), (0, .ref (a 3)), (1, .int (oI x)), (2, .int (oI y)), (3, .int (oI z))]) hx hb dX3_buildPart_8 hl (by decide) rfl (fun ls hl => ?_)
  refine lv_aload_n hx hb dX3_buildPart_10 rfl (lv_at hl 1 rfl) ?_
  refine cg_3_1 hx hb hts inX3_buildPart_X3 hown hK hP (hts _ lkX3_buildPart_f26) dX3_buildPart_11 ?_
  refine lv_iload hx hb dX3_buildPart_14 (lv_at hl 0 rfl) ?_
  refine ccs_iV (As := [.int (oI r_1.toInt)]) (rest := []) ⟨hx, hb, hml, hown, hts⟩ (c_noteOf l dC dI cB cC cI cJ cZ a F X J R gf gn r_1.toInt  (i32r _) (show gn ≤ 63261 from by first | assumption | omega) (show 0 ≤ (F 13).toInt ∧ (F 13).toInt ≤ (gn : Int) from by first | assumption | omega)  H.size) (cwV 1 hts kX3_buildPart_X6_noteOf_69 rfl rfl rfl (by decide +kernel) ⟨Nat.le_of_ble_eq_true rfl, Nat.le_of_ble_eq_true rfl⟩) (va_recv hK hP (ci := 6) (q0 := 6) rfl rfl) hK hNW hP hD hS hA rfl rfl hl.1 (lv_room (Nat.le_of_ble_eq_true rfl)) dX3_buildPart_16 hcs (fun r_4 hw_5 H locs hP hD hS => ?_)
  have i_6 := i32r r_4
  refine lv_istore (lv' := [(5, .int (oI r_4.toInt)), (4, .int (oI r_1.toInt)), (0, .ref (a 3)), (1, .int (oI x)), (2, .int (oI y)), (3, .int (oI z))]) hx hb dX3_buildPart_19 hl (by decide) rfl (fun ls hl => ?_)
  refine lv_iload hx hb dX3_buildPart_21 (lv_at hl 1 rfl) ?_
  refine ccs_iS (As := [.int (oI r_1.toInt)]) (rest := []) ⟨hx, hb, hml, hown, hts⟩ (c_canBeBound l dC dI cB cC cI cJ cZ a F X J R gf gn r_1.toInt  (i32r _)   H.size) (va_cwS 1 hts kX3_buildPart_X6_canBeBound_98 rfl rfl rfl (by decide +kernel) ⟨Nat.le_of_ble_eq_true rfl, Nat.le_of_ble_eq_true rfl⟩) hK hNW hP hD hS hA rfl rfl hl.1 (lv_room (Nat.le_of_ble_eq_true rfl)) dX3_buildPart_23 hcs (fun r_7 hw_8 H locs hP hD hS => ?_)
  have i_9 := i32r r_7
  refine cz_ne (tgt := 45) hx hb (i32r _) dX3_buildPart_26 (by decide) (fun c_10 => ?_) (fun c_10 => ?_)
  · refine lv_iload hx hb dX3_buildPart_45 (lv_at hl 0 rfl) ?_
    refine cz_lt (tgt := 68) hx hb (i32r _) dX3_buildPart_47 (by decide) (fun c_11 => ?_) (fun c_11 => ?_)
    · refine lv_aload_n hx hb dX3_buildPart_68 rfl (lv_at hl 2 rfl) ?_
      refine lv_aload_n hx hb dX3_buildPart_69 rfl (lv_at hl 2 rfl) ?_
      refine lv_iload hx hb dX3_buildPart_70 (lv_at hl 1 rfl) ?_
      refine ccp_iV (As := [.int (oI r_1.toInt)]) (rest := [.ref (a 3)]) (gF := fun F9 => rg 13 13 F F9) (gX := fun X9 => rg 14 18 X X9) ⟨hx, hb, hml, hown, hts⟩ (c_aliasOf l dC dI cB cC cI cJ cZ a F X J R gf gn r_1.toInt  (i32r _) (show gn ≤ 63261 from by first | assumption | omega) (show 0 ≤ (F 13).toInt ∧ (F 13).toInt ≤ (gn : Int) from by first | assumption | omega)  H.size) (cwV 1 hts kX3_buildPart_X3_aliasOf_113 rfl rfl rfl (by decide +kernel) ⟨Nat.le_of_ble_eq_true rfl, Nat.le_of_ble_eq_true rfl⟩) (va_recv hK hP (ci := 3) (q0 := 3) rfl rfl) hK hNW hP hD hS hA rfl rfl hl.1 (lv_room (Nat.le_of_ble_eq_true rfl)) dX3_buildPart_72 hcs (fun r_12 F_13 X_14 hw_15 H locs hP hD hS => ?_)
      have hw_15 : 0 ≤ (F_13 13).toInt ∧ (F_13 13).toInt ≤ (gn : Int) := hw_15
      have hnt := hw_15
      have i_16 := i32r r_12
      refine ccs_iS (As := [.int (oI r_12.toInt)]) (rest := [.ref (a 3)]) ⟨hx, hb, hml, hown, hts⟩ (c_ofName l dC dI cB cC cI cJ cZ a (rg 13 13 F F_13) (rg 14 18 X X_14) J R gf gn r_12.toInt  (i32r _)   H.size) (va_cwS 1 hts kX3_buildPart_X1_ofName_116 rfl rfl rfl (by decide +kernel) ⟨Nat.le_of_ble_eq_true rfl, Nat.le_of_ble_eq_true rfl⟩) hK hNW hP hD hS hA rfl rfl hl.1 (lv_room (Nat.le_of_ble_eq_true rfl)) dX3_buildPart_75 hcs (fun r_17 hw_18 H locs hP hD hS => ?_)
      have i_19 := i32r r_17
      refine ccp_iV (As := [.int (oI r_17.toInt)]) (rest := []) (gF := fun F9 => rg 11 12 (rg 13 13 F F_13) F9) (gX := fun X9 => rg 0 1 (rg 14 18 X X_14) X9) ⟨hx, hb, hml, hown, hts⟩ (c_addM l dC dI cB cC cI cJ cZ a (rg 13 13 F F_13) (rg 14 18 X X_14) J R gf gn r_17.toInt  (i32r _) (show gf ≤ 67600 from by first | assumption | omega) (show 0 ≤ (F 10).toInt ∧ (F 10).toInt ≤ 67600 from by first | assumption | omega) (show 0 ≤ (F 12).toInt ∧ (F 12).toInt ≤ (gf : Int) from by first | assumption | omega)  H.size) (cwV 1 hts kX3_buildPart_X3_add_104 rfl rfl rfl (by decide +kernel) ⟨Nat.le_of_ble_eq_true rfl, Nat.le_of_ble_eq_true rfl⟩) (va_recv hK hP (ci := 3) (q0 := 3) rfl rfl) hK hNW hP hD hS hA rfl rfl hl.1 (lv_room (Nat.le_of_ble_eq_true rfl)) dX3_buildPart_78 hcs (fun r_20 F_21 X_22 hw_23 H locs hP hD hS => ?_)
      have hw_23 : (((0 ≤ (F 12).toInt ∧ (F 12).toInt < (gf : Int)) ∧ (r_20).toInt = (F 12).toInt ∧ (F_21 12).toInt = (F 12).toInt + 1 ∧ X_22 1 = upd (X 1) (F 12).toInt.toNat (oI 1)) ∨ ((r_20).toInt = -1 ∧ (F_21 12).toInt = (F 12).toInt ∧ X_22 1 = (X 1))) ∧ ((F 11).toInt ≠ 0 → (F_21 11).toInt = 1) := hw_23
      obtain ⟨had, hto⟩ := hw_23
      have i_24 := i32r r_20
      refine lv_pop hx hb dX3_buildPart_81 rfl ?_
      obtain ⟨D2, hf2, hG2, hL2⟩ := MK_add (z := z) hfi (by omega) had
      have eF9 : rg 11 13 F (rg 11 12 (rg 13 13 F F_13) F_21) = rg 11 12 (rg 13 13 F F_13) F_21 := by funext k; simp only [rg, va_up]; (repeat' split) <;> first | with_reducible rfl | omega
      have eX9 : rg 14 18 (rg 0 1 X (rg 0 1 (rg 14 18 X X_14) X_22)) (rg 0 1 (rg 14 18 X X_14) X_22) = rg 0 1 (rg 14 18 X X_14) X_22 := by funext k; simp only [rg, va_up]; (repeat' split) <;> first | with_reducible rfl | omega
      have hP9 : va_P (dC, dI) vwCl (CW cB cC cI cJ cZ a (rg 11 13 F (rg 11 12 (rg 13 13 F F_13) F_21)) (rg 14 18 (rg 0 1 X (rg 0 1 (rg 14 18 X X_14) X_22)) (rg 0 1 (rg 14 18 X X_14) X_22)) J R gf gn) H := by rw [eF9, eX9]; exact hP
      have hD9 : va_D A (CW cB cC cI cJ cZ a (rg 11 13 F (rg 11 12 (rg 13 13 F F_13) F_21)) (rg 14 18 (rg 0 1 X (rg 0 1 (rg 14 18 X X_14) X_22)) (rg 0 1 (rg 14 18 X X_14) X_22)) J R gf gn) := by rw [eF9, eX9]; exact hD
      have hpost : (∃ D9 : Int → Nat, FI (X_22 1) D9 gf (F 0).toInt (F_21 12).toInt ∧ GR (X 1) D (F 12).toInt (X_22 1) D9 (F_21 12).toInt (61 - z)) ∧ (0 ≤ (F_13 13).toInt ∧ (F_13 13).toInt ≤ (gn : Int)) := ⟨⟨D2, hf2, hG2⟩, by omega⟩
      exact W.vret hx hb hr (fun t ht hW => ⟨⟨(rg 11 12 (rg 13 13 F F_13) F_21, rg 0 1 (rg 14 18 X X_14) X_22), rfl, hpost, by rw [ht]; exact hP9, va_K.moved hW.alike hK, hD9⟩, hS.F ht⟩) hS.2.2 dX3_buildPart_82
    · refine lv_aload_n hx hb dX3_buildPart_50 rfl (lv_at hl 2 rfl) ?_
      refine lv_aload_n hx hb dX3_buildPart_51 rfl (lv_at hl 2 rfl) ?_
      refine cg_3_2 hx hb hts inX3_buildPart_X3 hown hK hP (hts _ lkX3_buildPart_f30) dX3_buildPart_52 ?_
      refine lv_iload hx hb dX3_buildPart_55 (lv_at hl 0 rfl) ?_
      refine lv_iload_n hx hb dX3_buildPart_57 rfl (lv_at hl 4 rfl) ?_
      refine ccs_iV (As := [.int (oI r_4.toInt), .int (oI y)]) (rest := [.ref (a 3)]) ⟨hx, hb, hml, hown, hts⟩ (c_formOf l dC dI cB cC cI cJ cZ a F X J R gf gn r_4.toInt y  (i32r _) (by omega) (show 0 ≤ (F 19).toInt ∧ (F 19).toInt ≤ 3000 ∧ 0 ≤ (F 20).toInt ∧ (F 20).toInt ≤ 3000 from by first | assumption | omega)  H.size) (cwV 2 hts kX3_buildPart_X5_formOf_107 rfl rfl rfl (by decide +kernel) ⟨Nat.le_of_ble_eq_true rfl, Nat.le_of_ble_eq_true rfl⟩) (va_recv hK hP (ci := 5) (q0 := 5) rfl rfl) hK hNW hP hD hS hA rfl rfl hl.1 (lv_room (Nat.le_of_ble_eq_true rfl)) dX3_buildPart_58 hcs (fun r_25 hw_26 H locs hP hD hS => ?_)
      have i_27 := i32r r_25
      refine lv_iload_n hx hb dX3_buildPart_61 rfl (lv_at hl 5 rfl) ?_
      refine ccp_vV (As := [.int (oI r_25.toInt), .int (oI z)]) (rest := []) (gF := fun F9 => rg 11 12 F F9) (gX := fun X9 => rg 0 1 X X9) ⟨hx, hb, hml, hown, hts⟩ (c_copy l dC dI cB cC cI cJ cZ a F X J R gf gn r_25.toInt z 62 D (i32r _) (by omega) (show gf ≤ 67600 from by first | assumption | omega) (show 0 ≤ (F 10).toInt ∧ (F 10).toInt ≤ 67600 from by first | assumption | omega) (show 0 ≤ z ∧ z ≤ 61 ∧ 62 ≤ z + ((62 : Nat) : Int) from by first | assumption | omega) (show FI (X 1) D gf (F 0).toInt (F 12).toInt from by assumption) H.size) (cwV 2 hts kX3_buildPart_X3_copy_110 rfl rfl rfl (by decide +kernel) ⟨show (62 + 4) + 1 ≤ 67 from by omega, show 8 + (5 + 11) + (30 * 62 + 123) ≤ 2007 from by omega⟩) (va_recv hK hP (ci := 3) (q0 := 3) rfl rfl) hK hNW hP hD hS hA rfl rfl hl.1 (lv_room (Nat.le_of_ble_eq_true rfl)) dX3_buildPart_62 hcs (fun F_28 X_29 hw_30 H locs hP hD hS => ?_)
      have hw_30 : ∃ D9 : Int → Nat, FI (X_29 1) D9 gf (F 0).toInt (F_28 12).toInt ∧ GR (X 1) D (F 12).toInt (X_29 1) D9 (F_28 12).toInt (61 - z) := hw_30
      obtain ⟨D2, hf2, hG2⟩ := hw_30
      refine lv_goto (tgt := 82) hx hb dX3_buildPart_65 (by decide) ?_
      have eF9 : rg 11 13 F (rg 11 12 F F_28) = rg 11 12 F F_28 := by funext k; simp only [rg, va_up]; (repeat' split) <;> first | with_reducible rfl | omega
      have eX9 : rg 14 18 (rg 0 1 X (rg 0 1 X X_29)) (rg 0 1 X X_29) = rg 0 1 X X_29 := by funext k; simp only [rg, va_up]; (repeat' split) <;> first | with_reducible rfl | omega
      have hP9 : va_P (dC, dI) vwCl (CW cB cC cI cJ cZ a (rg 11 13 F (rg 11 12 F F_28)) (rg 14 18 (rg 0 1 X (rg 0 1 X X_29)) (rg 0 1 X X_29)) J R gf gn) H := by rw [eF9, eX9]; exact hP
      have hD9 : va_D A (CW cB cC cI cJ cZ a (rg 11 13 F (rg 11 12 F F_28)) (rg 14 18 (rg 0 1 X (rg 0 1 X X_29)) (rg 0 1 X X_29)) J R gf gn) := by rw [eF9, eX9]; exact hD
      have hpost : (∃ D9 : Int → Nat, FI (X_29 1) D9 gf (F 0).toInt (F_28 12).toInt ∧ GR (X 1) D (F 12).toInt (X_29 1) D9 (F_28 12).toInt (61 - z)) ∧ (0 ≤ (F 13).toInt ∧ (F 13).toInt ≤ (gn : Int)) := ⟨⟨D2, hf2, hG2⟩, by omega⟩
      exact W.vret hx hb hr (fun t ht hW => ⟨⟨(rg 11 12 F F_28, rg 0 1 X X_29), rfl, hpost, by rw [ht]; exact hP9, va_K.moved hW.alike hK, hD9⟩, hS.F ht⟩) hS.2.2 dX3_buildPart_82
  · refine lv_aload_n hx hb dX3_buildPart_29 rfl (lv_at hl 2 rfl) ?_
    refine lv_aload_n hx hb dX3_buildPart_30 rfl (lv_at hl 2 rfl) ?_
    refine cg_3_0 hx hb hts inX3_buildPart_X3 hown hK hP (hts _ lkX3_buildPart_f22) dX3_buildPart_31 ?_
    refine lv_iload_n hx hb dX3_buildPart_34 rfl (lv_at hl 3 rfl) ?_
    refine ccs_iV (As := [.int (oI x)]) (rest := [.ref (a 3)]) ⟨hx, hb, hml, hown, hts⟩ (c_whatIs l dC dI cB cC cI cJ cZ a F X J R gf gn x  (by omega) (show gf ≤ 67600 from by first | assumption | omega)  H.size) (cwV 1 hts kX3_buildPart_X1_whatIs_101 rfl rfl rfl (by decide +kernel) ⟨Nat.le_of_ble_eq_true rfl, Nat.le_of_ble_eq_true rfl⟩) (va_recv hK hP (ci := 1) (q0 := 1) rfl rfl) hK hNW hP hD hS hA rfl rfl hl.1 (lv_room (Nat.le_of_ble_eq_true rfl)) dX3_buildPart_35 hcs (fun r_31 hw_32 H locs hP hD hS => ?_)
    have i_33 := i32r r_31
    refine ccp_iV (As := [.int (oI r_31.toInt)]) (rest := []) (gF := fun F9 => rg 11 12 F F9) (gX := fun X9 => rg 0 1 X X9) ⟨hx, hb, hml, hown, hts⟩ (c_addM l dC dI cB cC cI cJ cZ a F X J R gf gn r_31.toInt  (i32r _) (show gf ≤ 67600 from by first | assumption | omega) (show 0 ≤ (F 10).toInt ∧ (F 10).toInt ≤ 67600 from by first | assumption | omega) (show 0 ≤ (F 12).toInt ∧ (F 12).toInt ≤ (gf : Int) from by first | assumption | omega)  H.size) (cwV 1 hts kX3_buildPart_X3_add_104 rfl rfl rfl (by decide +kernel) ⟨Nat.le_of_ble_eq_true rfl, Nat.le_of_ble_eq_true rfl⟩) (va_recv hK hP (ci := 3) (q0 := 3) rfl rfl) hK hNW hP hD hS hA rfl rfl hl.1 (lv_room (Nat.le_of_ble_eq_true rfl)) dX3_buildPart_38 hcs (fun r_34 F_35 X_36 hw_37 H locs hP hD hS => ?_)
    have hw_37 : (((0 ≤ (F 12).toInt ∧ (F 12).toInt < (gf : Int)) ∧ (r_34).toInt = (F 12).toInt ∧ (F_35 12).toInt = (F 12).toInt + 1 ∧ X_36 1 = upd (X 1) (F 12).toInt.toNat (oI 1)) ∨ ((r_34).toInt = -1 ∧ (F_35 12).toInt = (F 12).toInt ∧ X_36 1 = (X 1))) ∧ ((F 11).toInt ≠ 0 → (F_35 11).toInt = 1) := hw_37
    obtain ⟨had, hto⟩ := hw_37
    have i_38 := i32r r_34
    refine lv_pop hx hb dX3_buildPart_41 rfl ?_
    refine lv_goto (tgt := 82) hx hb dX3_buildPart_42 (by decide) ?_
    obtain ⟨D2, hf2, hG2, hL2⟩ := MK_add (z := z) hfi (by omega) had
    have eF9 : rg 11 13 F (rg 11 12 F F_35) = rg 11 12 F F_35 := by funext k; simp only [rg, va_up]; (repeat' split) <;> first | with_reducible rfl | omega
    have eX9 : rg 14 18 (rg 0 1 X (rg 0 1 X X_36)) (rg 0 1 X X_36) = rg 0 1 X X_36 := by funext k; simp only [rg, va_up]; (repeat' split) <;> first | with_reducible rfl | omega
    have hP9 : va_P (dC, dI) vwCl (CW cB cC cI cJ cZ a (rg 11 13 F (rg 11 12 F F_35)) (rg 14 18 (rg 0 1 X (rg 0 1 X X_36)) (rg 0 1 X X_36)) J R gf gn) H := by rw [eF9, eX9]; exact hP
    have hD9 : va_D A (CW cB cC cI cJ cZ a (rg 11 13 F (rg 11 12 F F_35)) (rg 14 18 (rg 0 1 X (rg 0 1 X X_36)) (rg 0 1 X X_36)) J R gf gn) := by rw [eF9, eX9]; exact hD
    have hpost : (∃ D9 : Int → Nat, FI (X_36 1) D9 gf (F 0).toInt (F_35 12).toInt ∧ GR (X 1) D (F 12).toInt (X_36 1) D9 (F_35 12).toInt (61 - z)) ∧ (0 ≤ (F 13).toInt ∧ (F 13).toInt ≤ (gn : Int)) := ⟨⟨D2, hf2, hG2⟩, by omega⟩
    exact W.vret hx hb hr (fun t ht hW => ⟨⟨(rg 11 12 F F_35, rg 0 1 X X_36), rfl, hpost, by rw [ht]; exact hP9, va_K.moved hW.alike hK, hD9⟩, hS.F ht⟩) hS.2.2 dX3_buildPart_82
