def oX4_isVariable : List Cond := [Cond.methodLink RX4 108 yX6_canBeBound, Cond.static yX6_canBeBound, Cond.initialized RX6, Cond.fieldLink RX4 18 "MacroScopes$Matcher" "forms" "LMacroScopes$Forms;", Cond.fieldLink RX4 9 "MacroScopes$Matcher" "literals" "I", Cond.methodLink RX4 111 yX8_isLiteral, Cond.static yX8_isLiteral, Cond.initialized RX8]
def vX4_isVariable : List Cond := .code yX4_isVariable cX4_isVariable 2 (some .boolean) :: (oX4_isVariable ++ (vX6_canBeBound ++ (vX8_isLiteral ++ (wsX40))))
theorem lkX4_isVariable_f18 : Cond.fieldLink RX4 18 "MacroScopes$Matcher" "forms" "LMacroScopes$Forms;" ∈ vX4_isVariable := List.mem_cons_of_mem _ (List.mem_append_left _ (List.mem_of_getElem? (i := 3) rfl))
theorem lkX4_isVariable_f9 : Cond.fieldLink RX4 9 "MacroScopes$Matcher" "literals" "I" ∈ vX4_isVariable := List.mem_cons_of_mem _ (List.mem_append_left _ (List.mem_of_getElem? (i := 4) rfl))
theorem inX4_isVariable_X4 : ∀ w ∈ wsX40, w ∈ vX4_isVariable := fun w h => List.mem_cons_of_mem _ (List.mem_append_right _ (List.mem_append_right _ (List.mem_append_right _ (h))))
theorem kX4_isVariable_X6_canBeBound_108 : GoodIn vX4_isVariable (va_wsS RX4 108 yX6_canBeBound vX6_canBeBound) := goodIn_sub (fun w h => (List.mem_append.mp h).elim (fun h => List.mem_cons_of_mem _ (List.mem_append_left _ ((by decide +kernel : ∀ w ∈ ([.methodLink RX4 108 yX6_canBeBound, .static yX6_canBeBound, .initialized yX6_canBeBound.cls] : List Cond), w ∈ oX4_isVariable) w h))) (fun h => List.mem_cons_of_mem _ (List.mem_append_right _ (List.mem_append_left _ (h))))) (by decide +kernel)
theorem kX4_isVariable_X8_isLiteral_111 : GoodIn vX4_isVariable (va_wsS RX4 111 yX8_isLiteral vX8_isLiteral) := goodIn_sub (fun w h => (List.mem_append.mp h).elim (fun h => List.mem_cons_of_mem _ (List.mem_append_left _ ((by decide +kernel : ∀ w ∈ ([.methodLink RX4 111 yX8_isLiteral, .static yX8_isLiteral, .initialized yX8_isLiteral.cls] : List Cond), w ∈ oX4_isVariable) w h))) (fun h => List.mem_cons_of_mem _ (List.mem_append_right _ (List.mem_append_right _ (List.mem_append_left _ (h)))))) (by decide +kernel)
def oX4_isMeant : List Cond := [Cond.fieldLink RX4 26 "MacroScopes$Matcher" "scopes" "LMacroScopes$Scopes;", Cond.fieldLink RX4 15 "MacroScopes$Matcher" "home" "I", Cond.methodLink RX4 117 yX9_meaning, Cond.instanceMethod yX9_meaning, Cond.selects RX9 yX9_meaning yX9_meaning, Cond.initialized RX9]
def vX4_isMeant : List Cond := .code yX4_isMeant cX4_isMeant 3 (some .boolean) :: (oX4_isMeant ++ (vX9_meaning ++ (wsX40 ++ (wsX90))))
theorem lkX4_isMeant_f26 : Cond.fieldLink RX4 26 "MacroScopes$Matcher" "scopes" "LMacroScopes$Scopes;" ∈ vX4_isMeant := List.mem_cons_of_mem _ (List.mem_append_left _ (List.mem_of_getElem? (i := 0) rfl))
theorem lkX4_isMeant_f15 : Cond.fieldLink RX4 15 "MacroScopes$Matcher" "home" "I" ∈ vX4_isMeant := List.mem_cons_of_mem _ (List.mem_append_left _ (List.mem_of_getElem? (i := 1) rfl))
theorem inX4_isMeant_X4 : ∀ w ∈ wsX40, w ∈ vX4_isMeant := fun w h => List.mem_cons_of_mem _ (List.mem_append_right _ (List.mem_append_right _ (List.mem_append_left _ (h))))
theorem inX4_isMeant_X9 : ∀ w ∈ wsX90, w ∈ vX4_isMeant := fun w h => List.mem_cons_of_mem _ (List.mem_append_right _ (List.mem_append_right _ (List.mem_append_right _ (h))))
theorem kX4_isMeant_X9_meaning_117 : GoodIn vX4_isMeant (wsV RX4 117 RX9 yX9_meaning vX9_meaning) := goodIn_sub (fun w h => (List.mem_append.mp h).elim (fun h => List.mem_cons_of_mem _ (List.mem_append_left _ ((by decide +kernel : ∀ w ∈ ([.methodLink RX4 117 yX9_meaning, .instanceMethod yX9_meaning, .selects RX9 yX9_meaning yX9_meaning, .initialized RX9] : List Cond), w ∈ oX4_isMeant) w h))) (fun h => List.mem_cons_of_mem _ (List.mem_append_right _ (List.mem_append_left _ (h))))) (by decide +kernel)
def oX4_addVariables : List Cond := [Cond.fieldLink RX4 18 "MacroScopes$Matcher" "forms" "LMacroScopes$Forms;", Cond.methodLink RX4 40 yX1_after, Cond.instanceMethod yX1_after, Cond.selects RX1 yX1_after yX1_after, Cond.initialized RX1, Cond.methodLink RX4 83 yX1_nameOf, Cond.instanceMethod yX1_nameOf, Cond.selects RX1 yX1_nameOf yX1_nameOf, Cond.methodLink RX4 86 yX4_isVariable, Cond.instanceMethod yX4_isVariable, Cond.selects RX4 yX4_isVariable yX4_isVariable, Cond.initialized RX4, Cond.fieldLink RX4 22 "MacroScopes$Matcher" "names" "LMacroScopes$Names;", Cond.fieldLink RX4 30 "MacroScopes$Matcher" "matches" "LMacroScopes$Matches;", Cond.methodLink RX4 90 yX5_addVariable, Cond.instanceMethod yX5_addVariable, Cond.selects RX5 yX5_addVariable yX5_addVariable, Cond.initialized RX5, Cond.methodLink RX4 93 yX6_setNote, Cond.instanceMethod yX6_setNote, Cond.selects RX6 yX6_setNote yX6_setNote, Cond.initialized RX6]
def vX4_addVariables : List Cond := .code yX4_addVariables cX4_addVariables 5 none :: (oX4_addVariables ++ (vX1_after ++ (vX1_nameOf ++ (vX4_isVariable ++ (vX5_addVariable ++ (vX6_setNote ++ (wsX40 ++ (wsX50))))))))
theorem lkX4_addVariables_f18 : Cond.fieldLink RX4 18 "MacroScopes$Matcher" "forms" "LMacroScopes$Forms;" ∈ vX4_addVariables := List.mem_cons_of_mem _ (List.mem_append_left _ (List.mem_of_getElem? (i := 0) rfl))
theorem lkX4_addVariables_f22 : Cond.fieldLink RX4 22 "MacroScopes$Matcher" "names" "LMacroScopes$Names;" ∈ vX4_addVariables := List.mem_cons_of_mem _ (List.mem_append_left _ (List.mem_of_getElem? (i := 12) rfl))
theorem lkX4_addVariables_f30 : Cond.fieldLink RX4 30 "MacroScopes$Matcher" "matches" "LMacroScopes$Matches;" ∈ vX4_addVariables := List.mem_cons_of_mem _ (List.mem_append_left _ (List.mem_of_getElem? (i := 13) rfl))
theorem inX4_addVariables_X4 : ∀ w ∈ wsX40, w ∈ vX4_addVariables := fun w h => List.mem_cons_of_mem _ (List.mem_append_right _ (List.mem_append_right _ (List.mem_append_right _ (List.mem_append_right _ (List.mem_append_right _ (List.mem_append_right _ (List.mem_append_left _ (h))))))))
theorem inX4_addVariables_X5 : ∀ w ∈ wsX50, w ∈ vX4_addVariables := fun w h => List.mem_cons_of_mem _ (List.mem_append_right _ (List.mem_append_right _ (List.mem_append_right _ (List.mem_append_right _ (List.mem_append_right _ (List.mem_append_right _ (List.mem_append_right _ (h))))))))
theorem kX4_addVariables_X1_after_40 : GoodIn vX4_addVariables (wsV RX4 40 RX1 yX1_after vX1_after) := goodIn_sub (fun w h => (List.mem_append.mp h).elim (fun h => List.mem_cons_of_mem _ (List.mem_append_left _ ((by decide +kernel : ∀ w ∈ ([.methodLink RX4 40 yX1_after, .instanceMethod yX1_after, .selects RX1 yX1_after yX1_after, .initialized RX1] : List Cond), w ∈ oX4_addVariables) w h))) (fun h => List.mem_cons_of_mem _ (List.mem_append_right _ (List.mem_append_left _ (h))))) (by decide +kernel)
theorem kX4_addVariables_X1_nameOf_83 : GoodIn vX4_addVariables (wsV RX4 83 RX1 yX1_nameOf vX1_nameOf) := goodIn_sub (fun w h => (List.mem_append.mp h).elim (fun h => List.mem_cons_of_mem _ (List.mem_append_left _ ((by decide +kernel : ∀ w ∈ ([.methodLink RX4 83 yX1_nameOf, .instanceMethod yX1_nameOf, .selects RX1 yX1_nameOf yX1_nameOf, .initialized RX1] : List Cond), w ∈ oX4_addVariables) w h))) (fun h => List.mem_cons_of_mem _ (List.mem_append_right _ (List.mem_append_right _ (List.mem_append_left _ (h)))))) (by decide +kernel)
theorem kX4_addVariables_X4_isVariable_86 : GoodIn vX4_addVariables (wsV RX4 86 RX4 yX4_isVariable vX4_isVariable) := goodIn_sub (fun w h => (List.mem_append.mp h).elim (fun h => List.mem_cons_of_mem _ (List.mem_append_left _ ((by decide +kernel : ∀ w ∈ ([.methodLink RX4 86 yX4_isVariable, .instanceMethod yX4_isVariable, .selects RX4 yX4_isVariable yX4_isVariable, .initialized RX4] : List Cond), w ∈ oX4_addVariables) w h))) (fun h => List.mem_cons_of_mem _ (List.mem_append_right _ (List.mem_append_right _ (List.mem_append_right _ (List.mem_append_left _ (h))))))) (by decide +kernel)
theorem kX4_addVariables_X5_addVariable_90 : GoodIn vX4_addVariables (wsV RX4 90 RX5 yX5_addVariable vX5_addVariable) := goodIn_sub (fun w h => (List.mem_append.mp h).elim (fun h => List.mem_cons_of_mem _ (List.mem_append_left _ ((by decide +kernel : ∀ w ∈ ([.methodLink RX4 90 yX5_addVariable, .instanceMethod yX5_addVariable, .selects RX5 yX5_addVariable yX5_addVariable, .initialized RX5] : List Cond), w ∈ oX4_addVariables) w h))) (fun h => List.mem_cons_of_mem _ (List.mem_append_right _ (List.mem_append_right _ (List.mem_append_right _ (List.mem_append_right _ (List.mem_append_left _ (h)))))))) (by decide +kernel)
theorem kX4_addVariables_X6_setNote_93 : GoodIn vX4_addVariables (wsV RX4 93 RX6 yX6_setNote vX6_setNote) := goodIn_sub (fun w h => (List.mem_append.mp h).elim (fun h => List.mem_cons_of_mem _ (List.mem_append_left _ ((by decide +kernel : ∀ w ∈ ([.methodLink RX4 93 yX6_setNote, .instanceMethod yX6_setNote, .selects RX6 yX6_setNote yX6_setNote, .initialized RX6] : List Cond), w ∈ oX4_addVariables) w h))) (fun h => List.mem_cons_of_mem _ (List.mem_append_right _ (List.mem_append_right _ (List.mem_append_right _ (List.mem_append_right _ (List.mem_append_right _ (List.mem_append_left _ (h))))))))) (by decide +kernel)
def oX4_formMatches : List Cond := [Cond.fieldLink RX4 18 "MacroScopes$Matcher" "forms" "LMacroScopes$Forms;", Cond.methodLink RX4 83 yX1_nameOf, Cond.instanceMethod yX1_nameOf, Cond.selects RX1 yX1_nameOf yX1_nameOf, Cond.initialized RX1, Cond.methodLink RX4 86 yX4_isVariable, Cond.instanceMethod yX4_isVariable, Cond.selects RX4 yX4_isVariable yX4_isVariable, Cond.initialized RX4, Cond.methodLink RX4 102 yX1_isList, Cond.instanceMethod yX1_isList, Cond.selects RX1 yX1_isList yX1_isList, Cond.methodLink RX4 54 yX4_rowMatches, Cond.instanceMethod yX4_rowMatches, Cond.selects RX4 yX4_rowMatches yX4_rowMatches, Cond.methodLink RX4 105 yX1_whatIs, Cond.instanceMethod yX1_whatIs, Cond.selects RX1 yX1_whatIs yX1_whatIs, Cond.methodLink RX4 99 yX4_isMeant, Cond.instanceMethod yX4_isMeant, Cond.selects RX4 yX4_isMeant yX4_isMeant, Cond.fieldLink RX4 30 "MacroScopes$Matcher" "matches" "LMacroScopes$Matches;", Cond.methodLink RX4 96 yX5_addForm, Cond.instanceMethod yX5_addForm, Cond.selects RX5 yX5_addForm yX5_addForm, Cond.initialized RX5, Cond.fieldLink RX4 22 "MacroScopes$Matcher" "names" "LMacroScopes$Names;", Cond.methodLink RX4 90 yX5_addVariable, Cond.instanceMethod yX5_addVariable, Cond.selects RX5 yX5_addVariable yX5_addVariable, Cond.methodLink RX4 93 yX6_setNote, Cond.instanceMethod yX6_setNote, Cond.selects RX6 yX6_setNote yX6_setNote, Cond.initialized RX6]
def oX4_restMatches : List Cond := [Cond.fieldLink RX4 30 "MacroScopes$Matcher" "matches" "LMacroScopes$Matches;", Cond.methodLink RX4 77 yX5_repeat, Cond.instanceMethod yX5_repeat, Cond.selects RX5 yX5_repeat yX5_repeat, Cond.initialized RX5, Cond.methodLink RX4 66 yX4_formMatches, Cond.instanceMethod yX4_formMatches, Cond.selects RX4 yX4_formMatches yX4_formMatches, Cond.initialized RX4, Cond.fieldLink RX4 18 "MacroScopes$Matcher" "forms" "LMacroScopes$Forms;", Cond.methodLink RX4 40 yX1_after, Cond.instanceMethod yX1_after, Cond.selects RX1 yX1_after yX1_after, Cond.initialized RX1, Cond.methodLink RX4 73 yX4_addVariables, Cond.instanceMethod yX4_addVariables, Cond.selects RX4 yX4_addVariables yX4_addVariables]
def oX4_rowMatches : List Cond := [Cond.fieldLink RX4 18 "MacroScopes$Matcher" "forms" "LMacroScopes$Forms;", Cond.methodLink RX4 40 yX1_after, Cond.instanceMethod yX1_after, Cond.selects RX1 yX1_after yX1_after, Cond.initialized RX1, Cond.methodLink RX4 58 yX1_isRepeated, Cond.instanceMethod yX1_isRepeated, Cond.selects RX1 yX1_isRepeated yX1_isRepeated, Cond.methodLink RX4 66 yX4_formMatches, Cond.instanceMethod yX4_formMatches, Cond.selects RX4 yX4_formMatches yX4_formMatches, Cond.initialized RX4, Cond.methodLink RX4 62 yX4_restMatches, Cond.instanceMethod yX4_restMatches, Cond.selects RX4 yX4_restMatches yX4_restMatches]
def qgRM : List Cond := [.code yX4_formMatches cX4_formMatches 5 (some .boolean), .code yX4_restMatches cX4_restMatches 7 (some .boolean), .code yX4_rowMatches cX4_rowMatches 9 (some .boolean)]
def bgRM : List Cond := qgRM ++ (oX4_formMatches ++ (oX4_restMatches ++ (oX4_rowMatches ++ (vX1_nameOf ++ (vX4_isVariable ++ (vX1_isList ++ (vX1_whatIs ++ (vX4_isMeant ++ (vX5_addForm ++ (vX5_addVariable ++ (vX6_setNote ++ (vX5_repeat ++ (vX1_after ++ (vX4_addVariables ++ (vX1_isRepeated ++ (wsX40 ++ (wsX50)))))))))))))))))
def vX4_formMatches : List Cond := .code yX4_formMatches cX4_formMatches 5 (some .boolean) :: bgRM
def vX4_restMatches : List Cond := .code yX4_restMatches cX4_restMatches 7 (some .boolean) :: bgRM
def vX4_rowMatches : List Cond := .code yX4_rowMatches cX4_rowMatches 9 (some .boolean) :: bgRM
theorem lkX4_formMatches_f18 : Cond.fieldLink RX4 18 "MacroScopes$Matcher" "forms" "LMacroScopes$Forms;" ∈ vX4_formMatches := List.mem_cons_of_mem _ (List.mem_append_right _ (List.mem_append_left _ (List.mem_of_getElem? (i := 0) rfl)))
theorem lkX4_formMatches_f30 : Cond.fieldLink RX4 30 "MacroScopes$Matcher" "matches" "LMacroScopes$Matches;" ∈ vX4_formMatches := List.mem_cons_of_mem _ (List.mem_append_right _ (List.mem_append_left _ (List.mem_of_getElem? (i := 21) rfl)))
theorem lkX4_formMatches_f22 : Cond.fieldLink RX4 22 "MacroScopes$Matcher" "names" "LMacroScopes$Names;" ∈ vX4_formMatches := List.mem_cons_of_mem _ (List.mem_append_right _ (List.mem_append_left _ (List.mem_of_getElem? (i := 26) rfl)))
theorem inX4_formMatches_X4 : ∀ w ∈ wsX40, w ∈ vX4_formMatches := fun w h => List.mem_cons_of_mem _ (List.mem_append_right _ (List.mem_append_right _ (List.mem_append_right _ (List.mem_append_right _ (List.mem_append_right _ (List.mem_append_right _ (List.mem_append_right _ (List.mem_append_right _ (List.mem_append_right _ (List.mem_append_right _ (List.mem_append_right _ (List.mem_append_right _ (List.mem_append_right _ (List.mem_append_right _ (List.mem_append_right _ (List.mem_append_right _ (List.mem_append_left _ (h))))))))))))))))))
theorem inX4_formMatches_X5 : ∀ w ∈ wsX50, w ∈ vX4_formMatches := fun w h => List.mem_cons_of_mem _ (List.mem_append_right _ (List.mem_append_right _ (List.mem_append_right _ (List.mem_append_right _ (List.mem_append_right _ (List.mem_append_right _ (List.mem_append_right _ (List.mem_append_right _ (List.mem_append_right _ (List.mem_append_right _ (List.mem_append_right _ (List.mem_append_right _ (List.mem_append_right _ (List.mem_append_right _ (List.mem_append_right _ (List.mem_append_right _ (List.mem_append_right _ (h))))))))))))))))))
theorem kX4_formMatches_X1_nameOf_83 : GoodIn vX4_formMatches (wsV RX4 83 RX1 yX1_nameOf vX1_nameOf) := goodIn_sub (fun w h => (List.mem_append.mp h).elim (fun h => List.mem_cons_of_mem _ (List.mem_append_right _ (List.mem_append_left _ ((by decide +kernel : ∀ w ∈ ([.methodLink RX4 83 yX1_nameOf, .instanceMethod yX1_nameOf, .selects RX1 yX1_nameOf yX1_nameOf, .initialized RX1] : List Cond), w ∈ oX4_formMatches) w h)))) (fun h => List.mem_cons_of_mem _ (List.mem_append_right _ (List.mem_append_right _ (List.mem_append_right _ (List.mem_append_right _ (List.mem_append_left _ (h)))))))) (by decide +kernel)
theorem kX4_formMatches_X4_isVariable_86 : GoodIn vX4_formMatches (wsV RX4 86 RX4 yX4_isVariable vX4_isVariable) := goodIn_sub (fun w h => (List.mem_append.mp h).elim (fun h => List.mem_cons_of_mem _ (List.mem_append_right _ (List.mem_append_left _ ((by decide +kernel : ∀ w ∈ ([.methodLink RX4 86 yX4_isVariable, .instanceMethod yX4_isVariable, .selects RX4 yX4_isVariable yX4_isVariable, .initialized RX4] : List Cond), w ∈ oX4_formMatches) w h)))) (fun h => List.mem_cons_of_mem _ (List.mem_append_right _ (List.mem_append_right _ (List.mem_append_right _ (List.mem_append_right _ (List.mem_append_right _ (List.mem_append_left _ (h))))))))) (by decide +kernel)
theorem kX4_formMatches_X1_isList_102 : GoodIn vX4_formMatches (wsV RX4 102 RX1 yX1_isList vX1_isList) := goodIn_sub (fun w h => (List.mem_append.mp h).elim (fun h => List.mem_cons_of_mem _ (List.mem_append_right _ (List.mem_append_left _ ((by decide +kernel : ∀ w ∈ ([.methodLink RX4 102 yX1_isList, .instanceMethod yX1_isList, .selects RX1 yX1_isList yX1_isList, .initialized RX1] : List Cond), w ∈ oX4_formMatches) w h)))) (fun h => List.mem_cons_of_mem _ (List.mem_append_right _ (List.mem_append_right _ (List.mem_append_right _ (List.mem_append_right _ (List.mem_append_right _ (List.mem_append_right _ (List.mem_append_left _ (h)))))))))) (by decide +kernel)
theorem kX4_formMatches_X4_rowMatches_54 : GoodIn vX4_formMatches (wsV RX4 54 RX4 yX4_rowMatches vX4_rowMatches) := goodIn_sub (fun w h => (List.mem_append.mp h).elim (fun h => List.mem_cons_of_mem _ (List.mem_append_right _ (List.mem_append_left _ ((by decide +kernel : ∀ w ∈ ([.methodLink RX4 54 yX4_rowMatches, .instanceMethod yX4_rowMatches, .selects RX4 yX4_rowMatches yX4_rowMatches, .initialized RX4] : List Cond), w ∈ oX4_formMatches) w h)))) (fun h => (List.mem_cons.mp h).elim (fun h => h ▸ List.mem_cons_of_mem _ (List.mem_append_left _ (List.mem_of_getElem? (i := 2) rfl))) (fun h => List.mem_cons_of_mem _ h))) (by decide +kernel)
theorem kX4_formMatches_X1_whatIs_105 : GoodIn vX4_formMatches (wsV RX4 105 RX1 yX1_whatIs vX1_whatIs) := goodIn_sub (fun w h => (List.mem_append.mp h).elim (fun h => List.mem_cons_of_mem _ (List.mem_append_right _ (List.mem_append_left _ ((by decide +kernel : ∀ w ∈ ([.methodLink RX4 105 yX1_whatIs, .instanceMethod yX1_whatIs, .selects RX1 yX1_whatIs yX1_whatIs, .initialized RX1] : List Cond), w ∈ oX4_formMatches) w h)))) (fun h => List.mem_cons_of_mem _ (List.mem_append_right _ (List.mem_append_right _ (List.mem_append_right _ (List.mem_append_right _ (List.mem_append_right _ (List.mem_append_right _ (List.mem_append_right _ (List.mem_append_left _ (h))))))))))) (by decide +kernel)
theorem kX4_formMatches_X4_isMeant_99 : GoodIn vX4_formMatches (wsV RX4 99 RX4 yX4_isMeant vX4_isMeant) := goodIn_sub (fun w h => (List.mem_append.mp h).elim (fun h => List.mem_cons_of_mem _ (List.mem_append_right _ (List.mem_append_left _ ((by decide +kernel : ∀ w ∈ ([.methodLink RX4 99 yX4_isMeant, .instanceMethod yX4_isMeant, .selects RX4 yX4_isMeant yX4_isMeant, .initialized RX4] : List Cond), w ∈ oX4_formMatches) w h)))) (fun h => List.mem_cons_of_mem _ (List.mem_append_right _ (List.mem_append_right _ (List.mem_append_right _ (List.mem_append_right _ (List.mem_append_right _ (List.mem_append_right _ (List.mem_append_right _ (List.mem_append_right _ (List.mem_append_left _ (h)))))))))))) (by decide +kernel)
theorem kX4_formMatches_X5_addForm_96 : GoodIn vX4_formMatches (wsV RX4 96 RX5 yX5_addForm vX5_addForm) := goodIn_sub (fun w h => (List.mem_append.mp h).elim (fun h => List.mem_cons_of_mem _ (List.mem_append_right _ (List.mem_append_left _ ((by decide +kernel : ∀ w ∈ ([.methodLink RX4 96 yX5_addForm, .instanceMethod yX5_addForm, .selects RX5 yX5_addForm yX5_addForm, .initialized RX5] : List Cond), w ∈ oX4_formMatches) w h)))) (fun h => List.mem_cons_of_mem _ (List.mem_append_right _ (List.mem_append_right _ (List.mem_append_right _ (List.mem_append_right _ (List.mem_append_right _ (List.mem_append_right _ (List.mem_append_right _ (List.mem_append_right _ (List.mem_append_right _ (List.mem_append_left _ (h))))))))))))) (by decide +kernel)
theorem kX4_formMatches_X5_addVariable_90 : GoodIn vX4_formMatches (wsV RX4 90 RX5 yX5_addVariable vX5_addVariable) := goodIn_sub (fun w h => (List.mem_append.mp h).elim (fun h => List.mem_cons_of_mem _ (List.mem_append_right _ (List.mem_append_left _ ((by decide +kernel : ∀ w ∈ ([.methodLink RX4 90 yX5_addVariable, .instanceMethod yX5_addVariable, .selects RX5 yX5_addVariable yX5_addVariable, .initialized RX5] : List Cond), w ∈ oX4_formMatches) w h)))) (fun h => List.mem_cons_of_mem _ (List.mem_append_right _ (List.mem_append_right _ (List.mem_append_right _ (List.mem_append_right _ (List.mem_append_right _ (List.mem_append_right _ (List.mem_append_right _ (List.mem_append_right _ (List.mem_append_right _ (List.mem_append_right _ (List.mem_append_left _ (h)))))))))))))) (by decide +kernel)
theorem kX4_formMatches_X6_setNote_93 : GoodIn vX4_formMatches (wsV RX4 93 RX6 yX6_setNote vX6_setNote) := goodIn_sub (fun w h => (List.mem_append.mp h).elim (fun h => List.mem_cons_of_mem _ (List.mem_append_right _ (List.mem_append_left _ ((by decide +kernel : ∀ w ∈ ([.methodLink RX4 93 yX6_setNote, .instanceMethod yX6_setNote, .selects RX6 yX6_setNote yX6_setNote, .initialized RX6] : List Cond), w ∈ oX4_formMatches) w h)))) (fun h => List.mem_cons_of_mem _ (List.mem_append_right _ (List.mem_append_right _ (List.mem_append_right _ (List.mem_append_right _ (List.mem_append_right _ (List.mem_append_right _ (List.mem_append_right _ (List.mem_append_right _ (List.mem_append_right _ (List.mem_append_right _ (List.mem_append_right _ (List.mem_append_left _ (h))))))))))))))) (by decide +kernel)
theorem lkX4_restMatches_f30 : Cond.fieldLink RX4 30 "MacroScopes$Matcher" "matches" "LMacroScopes$Matches;" ∈ vX4_restMatches := List.mem_cons_of_mem _ (List.mem_append_right _ (List.mem_append_right _ (List.mem_append_left _ (List.mem_of_getElem? (i := 0) rfl))))
theorem lkX4_restMatches_f18 : Cond.fieldLink RX4 18 "MacroScopes$Matcher" "forms" "LMacroScopes$Forms;" ∈ vX4_restMatches := List.mem_cons_of_mem _ (List.mem_append_right _ (List.mem_append_right _ (List.mem_append_left _ (List.mem_of_getElem? (i := 9) rfl))))
theorem inX4_restMatches_X4 : ∀ w ∈ wsX40, w ∈ vX4_restMatches := fun w h => List.mem_cons_of_mem _ (List.mem_append_right _ (List.mem_append_right _ (List.mem_append_right _ (List.mem_append_right _ (List.mem_append_right _ (List.mem_append_right _ (List.mem_append_right _ (List.mem_append_right _ (List.mem_append_right _ (List.mem_append_right _ (List.mem_append_right _ (List.mem_append_right _ (List.mem_append_right _ (List.mem_append_right _ (List.mem_append_right _ (List.mem_append_right _ (List.mem_append_left _ (h))))))))))))))))))
theorem inX4_restMatches_X5 : ∀ w ∈ wsX50, w ∈ vX4_restMatches := fun w h => List.mem_cons_of_mem _ (List.mem_append_right _ (List.mem_append_right _ (List.mem_append_right _ (List.mem_append_right _ (List.mem_append_right _ (List.mem_append_right _ (List.mem_append_right _ (List.mem_append_right _ (List.mem_append_right _ (List.mem_append_right _ (List.mem_append_right _ (List.mem_append_right _ (List.mem_append_right _ (List.mem_append_right _ (List.mem_append_right _ (List.mem_append_right _ (List.mem_append_right _ (h))))))))))))))))))
theorem kX4_restMatches_X5_repeat_77 : GoodIn vX4_restMatches (wsV RX4 77 RX5 yX5_repeat vX5_repeat) := goodIn_sub (fun w h => (List.mem_append.mp h).elim (fun h => List.mem_cons_of_mem _ (List.mem_append_right _ (List.mem_append_right _ (List.mem_append_left _ ((by decide +kernel : ∀ w ∈ ([.methodLink RX4 77 yX5_repeat, .instanceMethod yX5_repeat, .selects RX5 yX5_repeat yX5_repeat, .initialized RX5] : List Cond), w ∈ oX4_restMatches) w h))))) (fun h => List.mem_cons_of_mem _ (List.mem_append_right _ (List.mem_append_right _ (List.mem_append_right _ (List.mem_append_right _ (List.mem_append_right _ (List.mem_append_right _ (List.mem_append_right _ (List.mem_append_right _ (List.mem_append_right _ (List.mem_append_right _ (List.mem_append_right _ (List.mem_append_right _ (List.mem_append_left _ (h)))))))))))))))) (by decide +kernel)
theorem kX4_restMatches_X4_formMatches_66 : GoodIn vX4_restMatches (wsV RX4 66 RX4 yX4_formMatches vX4_formMatches) := goodIn_sub (fun w h => (List.mem_append.mp h).elim (fun h => List.mem_cons_of_mem _ (List.mem_append_right _ (List.mem_append_right _ (List.mem_append_left _ ((by decide +kernel : ∀ w ∈ ([.methodLink RX4 66 yX4_formMatches, .instanceMethod yX4_formMatches, .selects RX4 yX4_formMatches yX4_formMatches, .initialized RX4] : List Cond), w ∈ oX4_restMatches) w h))))) (fun h => (List.mem_cons.mp h).elim (fun h => h ▸ List.mem_cons_of_mem _ (List.mem_append_left _ (List.mem_of_getElem? (i := 0) rfl))) (fun h => List.mem_cons_of_mem _ h))) (by decide +kernel)
theorem kX4_restMatches_X1_after_40 : GoodIn vX4_restMatches (wsV RX4 40 RX1 yX1_after vX1_after) := goodIn_sub (fun w h => (List.mem_append.mp h).elim (fun h => List.mem_cons_of_mem _ (List.mem_append_right _ (List.mem_append_right _ (List.mem_append_left _ ((by decide +kernel : ∀ w ∈ ([.methodLink RX4 40 yX1_after, .instanceMethod yX1_after, .selects RX1 yX1_after yX1_after, .initialized RX1] : List Cond), w ∈ oX4_restMatches) w h))))) (fun h => List.mem_cons_of_mem _ (List.mem_append_right _ (List.mem_append_right _ (List.mem_append_right _ (List.mem_append_right _ (List.mem_append_right _ (List.mem_append_right _ (List.mem_append_right _ (List.mem_append_right _ (List.mem_append_right _ (List.mem_append_right _ (List.mem_append_right _ (List.mem_append_right _ (List.mem_append_right _ (List.mem_append_left _ (h))))))))))))))))) (by decide +kernel)
theorem kX4_restMatches_X4_addVariables_73 : GoodIn vX4_restMatches (wsV RX4 73 RX4 yX4_addVariables vX4_addVariables) := goodIn_sub (fun w h => (List.mem_append.mp h).elim (fun h => List.mem_cons_of_mem _ (List.mem_append_right _ (List.mem_append_right _ (List.mem_append_left _ ((by decide +kernel : ∀ w ∈ ([.methodLink RX4 73 yX4_addVariables, .instanceMethod yX4_addVariables, .selects RX4 yX4_addVariables yX4_addVariables, .initialized RX4] : List Cond), w ∈ oX4_restMatches) w h))))) (fun h => List.mem_cons_of_mem _ (List.mem_append_right _ (List.mem_append_right _ (List.mem_append_right _ (List.mem_append_right _ (List.mem_append_right _ (List.mem_append_right _ (List.mem_append_right _ (List.mem_append_right _ (List.mem_append_right _ (List.mem_append_right _ (List.mem_append_right _ (List.mem_append_right _ (List.mem_append_right _ (List.mem_append_right _ (List.mem_append_left _ (h)))))))))))))))))) (by decide +kernel)
theorem lkX4_rowMatches_f18 : Cond.fieldLink RX4 18 "MacroScopes$Matcher" "forms" "LMacroScopes$Forms;" ∈ vX4_rowMatches := List.mem_cons_of_mem _ (List.mem_append_right _ (List.mem_append_right _ (List.mem_append_right _ (List.mem_append_left _ (List.mem_of_getElem? (i := 0) rfl)))))
theorem inX4_rowMatches_X4 : ∀ w ∈ wsX40, w ∈ vX4_rowMatches := fun w h => List.mem_cons_of_mem _ (List.mem_append_right _ (List.mem_append_right _ (List.mem_append_right _ (List.mem_append_right _ (List.mem_append_right _ (List.mem_append_right _ (List.mem_append_right _ (List.mem_append_right _ (List.mem_append_right _ (List.mem_append_right _ (List.mem_append_right _ (List.mem_append_right _ (List.mem_append_right _ (List.mem_append_right _ (List.mem_append_right _ (List.mem_append_right _ (List.mem_append_left _ (h))))))))))))))))))
theorem kX4_rowMatches_X1_after_40 : GoodIn vX4_rowMatches (wsV RX4 40 RX1 yX1_after vX1_after) := goodIn_sub (fun w h => (List.mem_append.mp h).elim (fun h => List.mem_cons_of_mem _ (List.mem_append_right _ (List.mem_append_right _ (List.mem_append_right _ (List.mem_append_left _ ((by decide +kernel : ∀ w ∈ ([.methodLink RX4 40 yX1_after, .instanceMethod yX1_after, .selects RX1 yX1_after yX1_after, .initialized RX1] : List Cond), w ∈ oX4_rowMatches) w h)))))) (fun h => List.mem_cons_of_mem _ (List.mem_append_right _ (List.mem_append_right _ (List.mem_append_right _ (List.mem_append_right _ (List.mem_append_right _ (List.mem_append_right _ (List.mem_append_right _ (List.mem_append_right _ (List.mem_append_right _ (List.mem_append_right _ (List.mem_append_right _ (List.mem_append_right _ (List.mem_append_right _ (List.mem_append_left _ (h))))))))))))))))) (by decide +kernel)
theorem kX4_rowMatches_X1_isRepeated_58 : GoodIn vX4_rowMatches (wsV RX4 58 RX1 yX1_isRepeated vX1_isRepeated) := goodIn_sub (fun w h => (List.mem_append.mp h).elim (fun h => List.mem_cons_of_mem _ (List.mem_append_right _ (List.mem_append_right _ (List.mem_append_right _ (List.mem_append_left _ ((by decide +kernel : ∀ w ∈ ([.methodLink RX4 58 yX1_isRepeated, .instanceMethod yX1_isRepeated, .selects RX1 yX1_isRepeated yX1_isRepeated, .initialized RX1] : List Cond), w ∈ oX4_rowMatches) w h)))))) (fun h => List.mem_cons_of_mem _ (List.mem_append_right _ (List.mem_append_right _ (List.mem_append_right _ (List.mem_append_right _ (List.mem_append_right _ (List.mem_append_right _ (List.mem_append_right _ (List.mem_append_right _ (List.mem_append_right _ (List.mem_append_right _ (List.mem_append_right _ (List.mem_append_right _ (List.mem_append_right _ (List.mem_append_right _ (List.mem_append_right _ (List.mem_append_left _ (h))))))))))))))))))) (by decide +kernel)
theorem kX4_rowMatches_X4_formMatches_66 : GoodIn vX4_rowMatches (wsV RX4 66 RX4 yX4_formMatches vX4_formMatches) := goodIn_sub (fun w h => (List.mem_append.mp h).elim (fun h => List.mem_cons_of_mem _ (List.mem_append_right _ (List.mem_append_right _ (List.mem_append_right _ (List.mem_append_left _ ((by decide +kernel : ∀ w ∈ ([.methodLink RX4 66 yX4_formMatches, .instanceMethod yX4_formMatches, .selects RX4 yX4_formMatches yX4_formMatches, .initialized RX4] : List Cond), w ∈ oX4_rowMatches) w h)))))) (fun h => (List.mem_cons.mp h).elim (fun h => h ▸ List.mem_cons_of_mem _ (List.mem_append_left _ (List.mem_of_getElem? (i := 0) rfl))) (fun h => List.mem_cons_of_mem _ h))) (by decide +kernel)
theorem kX4_rowMatches_X4_restMatches_62 : GoodIn vX4_rowMatches (wsV RX4 62 RX4 yX4_restMatches vX4_restMatches) := goodIn_sub (fun w h => (List.mem_append.mp h).elim (fun h => List.mem_cons_of_mem _ (List.mem_append_right _ (List.mem_append_right _ (List.mem_append_right _ (List.mem_append_left _ ((by decide +kernel : ∀ w ∈ ([.methodLink RX4 62 yX4_restMatches, .instanceMethod yX4_restMatches, .selects RX4 yX4_restMatches yX4_restMatches, .initialized RX4] : List Cond), w ∈ oX4_rowMatches) w h)))))) (fun h => (List.mem_cons.mp h).elim (fun h => h ▸ List.mem_cons_of_mem _ (List.mem_append_left _ (List.mem_of_getElem? (i := 1) rfl))) (fun h => List.mem_cons_of_mem _ h))) (by decide +kernel)
def oX4_ruleFor : List Cond := [Cond.fieldLink RX4 18 "MacroScopes$Matcher" "forms" "LMacroScopes$Forms;", Cond.methodLink RX4 40 yX1_after, Cond.instanceMethod yX1_after, Cond.selects RX1 yX1_after yX1_after, Cond.initialized RX1, Cond.fieldLink RX4 22 "MacroScopes$Matcher" "names" "LMacroScopes$Names;", Cond.methodLink RX4 44 yX6_clearNotes, Cond.instanceMethod yX6_clearNotes, Cond.selects RX6 yX6_clearNotes yX6_clearNotes, Cond.initialized RX6, Cond.fieldLink RX4 30 "MacroScopes$Matcher" "matches" "LMacroScopes$Matches;", Cond.methodLink RX4 49 yX5_clear, Cond.instanceMethod yX5_clear, Cond.selects RX5 yX5_clear yX5_clear, Cond.initialized RX5, Cond.methodLink RX4 34 yX1_part, Cond.instanceMethod yX1_part, Cond.selects RX1 yX1_part yX1_part, Cond.methodLink RX4 54 yX4_rowMatches, Cond.instanceMethod yX4_rowMatches, Cond.selects RX4 yX4_rowMatches yX4_rowMatches, Cond.initialized RX4, Cond.fieldLink RX4 9 "MacroScopes$Matcher" "literals" "I", Cond.fieldLink RX4 15 "MacroScopes$Matcher" "home" "I"]
def vX4_ruleFor : List Cond := .code yX4_ruleFor cX4_ruleFor 6 (some .int) :: (oX4_ruleFor ++ (vX1_after ++ (vX6_clearNotes ++ (vX5_clear ++ (vX1_part ++ (vX4_rowMatches ++ (wsX40)))))))
theorem lkX4_ruleFor_f18 : Cond.fieldLink RX4 18 "MacroScopes$Matcher" "forms" "LMacroScopes$Forms;" ∈ vX4_ruleFor := List.mem_cons_of_mem _ (List.mem_append_left _ (List.mem_of_getElem? (i := 0) rfl))
theorem lkX4_ruleFor_f22 : Cond.fieldLink RX4 22 "MacroScopes$Matcher" "names" "LMacroScopes$Names;" ∈ vX4_ruleFor := List.mem_cons_of_mem _ (List.mem_append_left _ (List.mem_of_getElem? (i := 5) rfl))
theorem lkX4_ruleFor_f30 : Cond.fieldLink RX4 30 "MacroScopes$Matcher" "matches" "LMacroScopes$Matches;" ∈ vX4_ruleFor := List.mem_cons_of_mem _ (List.mem_append_left _ (List.mem_of_getElem? (i := 10) rfl))
theorem lkX4_ruleFor_f9 : Cond.fieldLink RX4 9 "MacroScopes$Matcher" "literals" "I" ∈ vX4_ruleFor := List.mem_cons_of_mem _ (List.mem_append_left _ (List.mem_of_getElem? (i := 22) rfl))
theorem lkX4_ruleFor_f15 : Cond.fieldLink RX4 15 "MacroScopes$Matcher" "home" "I" ∈ vX4_ruleFor := List.mem_cons_of_mem _ (List.mem_append_left _ (List.mem_of_getElem? (i := 23) rfl))
theorem inX4_ruleFor_X4 : ∀ w ∈ wsX40, w ∈ vX4_ruleFor := fun w h => List.mem_cons_of_mem _ (List.mem_append_right _ (List.mem_append_right _ (List.mem_append_right _ (List.mem_append_right _ (List.mem_append_right _ (List.mem_append_right _ (h)))))))
theorem kX4_ruleFor_X1_after_40 : GoodIn vX4_ruleFor (wsV RX4 40 RX1 yX1_after vX1_after) := goodIn_sub (fun w h => (List.mem_append.mp h).elim (fun h => List.mem_cons_of_mem _ (List.mem_append_left _ ((by decide +kernel : ∀ w ∈ ([.methodLink RX4 40 yX1_after, .instanceMethod yX1_after, .selects RX1 yX1_after yX1_after, .initialized RX1] : List Cond), w ∈ oX4_ruleFor) w h))) (fun h => List.mem_cons_of_mem _ (List.mem_append_right _ (List.mem_append_left _ (h))))) (by decide +kernel)
theorem kX4_ruleFor_X6_clearNotes_44 : GoodIn vX4_ruleFor (wsV RX4 44 RX6 yX6_clearNotes vX6_clearNotes) := goodIn_sub (fun w h => (List.mem_append.mp h).elim (fun h => List.mem_cons_of_mem _ (List.mem_append_left _ ((by decide +kernel : ∀ w ∈ ([.methodLink RX4 44 yX6_clearNotes, .instanceMethod yX6_clearNotes, .selects RX6 yX6_clearNotes yX6_clearNotes, .initialized RX6] : List Cond), w ∈ oX4_ruleFor) w h))) (fun h => List.mem_cons_of_mem _ (List.mem_append_right _ (List.mem_append_right _ (List.mem_append_left _ (h)))))) (by decide +kernel)
theorem kX4_ruleFor_X5_clear_49 : GoodIn vX4_ruleFor (wsV RX4 49 RX5 yX5_clear vX5_clear) := goodIn_sub (fun w h => (List.mem_append.mp h).elim (fun h => List.mem_cons_of_mem _ (List.mem_append_left _ ((by decide +kernel : ∀ w ∈ ([.methodLink RX4 49 yX5_clear, .instanceMethod yX5_clear, .selects RX5 yX5_clear yX5_clear, .initialized RX5] : List Cond), w ∈ oX4_ruleFor) w h))) (fun h => List.mem_cons_of_mem _ (List.mem_append_right _ (List.mem_append_right _ (List.mem_append_right _ (List.mem_append_left _ (h))))))) (by decide +kernel)
theorem kX4_ruleFor_X1_part_34 : GoodIn vX4_ruleFor (wsV RX4 34 RX1 yX1_part vX1_part) := goodIn_sub (fun w h => (List.mem_append.mp h).elim (fun h => List.mem_cons_of_mem _ (List.mem_append_left _ ((by decide +kernel : ∀ w ∈ ([.methodLink RX4 34 yX1_part, .instanceMethod yX1_part, .selects RX1 yX1_part yX1_part, .initialized RX1] : List Cond), w ∈ oX4_ruleFor) w h))) (fun h => List.mem_cons_of_mem _ (List.mem_append_right _ (List.mem_append_right _ (List.mem_append_right _ (List.mem_append_right _ (List.mem_append_left _ (h)))))))) (by decide +kernel)
theorem kX4_ruleFor_X4_rowMatches_54 : GoodIn vX4_ruleFor (wsV RX4 54 RX4 yX4_rowMatches vX4_rowMatches) := goodIn_sub (fun w h => (List.mem_append.mp h).elim (fun h => List.mem_cons_of_mem _ (List.mem_append_left _ ((by decide +kernel : ∀ w ∈ ([.methodLink RX4 54 yX4_rowMatches, .instanceMethod yX4_rowMatches, .selects RX4 yX4_rowMatches yX4_rowMatches, .initialized RX4] : List Cond), w ∈ oX4_ruleFor) w h))) (fun h => List.mem_cons_of_mem _ (List.mem_append_right _ (List.mem_append_right _ (List.mem_append_right _ (List.mem_append_right _ (List.mem_append_right _ (List.mem_append_left _ (h))))))))) (by decide +kernel)
set_option maxHeartbeats 4000000 in
set_option maxRecDepth 100000 in
/-- X4_isVariable -/
theorem c_isVariable (l : Launch) (dC : Nat → ClassId) (dI : Nat → Nat → Nat) (cB cC cI cJ cZ : ClassId) (a : Nat → Nat) (F : Nat → Int32) (X : Nat → Nat → Int32) (J : Nat → Nat → Int64) (R : Nat → Nat) (gf gn : Nat) (x : Int)  (ix : (-2147483648 ≤ x ∧ x < 2147483648)) (hgf : gf ≤ 67600) (hsp : SPR (X 1)) (hl4 : (F 17).toInt < 2000000000) (s0 : Nat) : Met l yX4_isVariable vX4_isVariable { frames := 3, cells := 0, slots := 0, locals := 105 } (va_Pc [.ref (a 4), .int (oI x)] (cPre dC dI cB cC cI cJ cZ a F X J R gf gn s0)) (va_Qi (fun (r : Int32) (_ : Unit) => (r).toInt = 0 ∨ (r).toInt = 1) (fun _ => cPost dC dI cB cC cI cJ cZ a F X J R gf gn (va_A (CW cB cC cI cJ cZ a F X J R gf gn) s0)) (va_A (CW cB cC cI cJ cZ a F X J R gf gn) s0)) 0 0 (va_A (CW cB cC cI cJ cZ a F X J R gf gn) s0) := by
  refine Met.ofW (cc := cX4_isVariable) (maxL := 2) (ret := (some .boolean)) (by decide) rfl ?_
  intro p e s m args below meth c s₁ B9 hml hv
  obtain ⟨rfl, hsz0, hP, hK, hD0, hNW⟩ := hv
  have hx := B9.exec
  have hb := B9.bytes
  have hr := B9.returns
  have hts := atoms_spec (ws := vX4_isVariable) B9.pre
  have hown : s.vm.findClass RX4 = some m.cls := findClass_of_methodNamed B9.named
  have hlocks := B9.notSynchronized
  clear B9
  subst hsz0
  have hD := hD0.self (sz := s.heap.size)
  generalize hAe : va_A (CW cB cC cI cJ cZ a F X J R gf gn) s.heap.size = A at hD ⊢
  have hA : ∀ q : Nat, s.heap.size ≤ q → A q := fun q h => by rw [← hAe]; exact Or.inr h
  have hS : va_S A s.heap s.heap [] := va_S.rf
  have hcs : 0 + 0 ≤ (0 : Nat) ∧ 0 + 0 ≤ (0 : Nat) := ⟨Nat.le_refl 0, Nat.le_refl 0⟩
  have hl := lv_entry ([.ref (a 4), .int (oI x)]) (n := 2) (Nat.le_of_ble_eq_true rfl)
  rw [lg_entry_eq]
  generalize (lg_sl ([.ref (a 4), .int (oI x)]) ++ List.replicate (2 - (lg_sl ([.ref (a 4), .int (oI x)])).length) Slot.unset).toArray = ls at hl ⊢
  have hl : lv_has ls 2 [(0, .ref (a 4)), (1, .int (oI x))] := hl
  have i9 := i32r (F 17)
  refine lv_iload_n hx hb dX4_isVariable_0 rfl (lv_at hl 1 rfl) ?_
  refine ccs_iS (As := [.int (oI x)]) (rest := []) ⟨hx, hb, hml, hown, hts⟩ (c_canBeBound l dC dI cB cC cI cJ cZ a F X J R gf gn x  (by omega)   s.heap.size) (va_cwS 1 hts kX4_isVariable_X6_canBeBound_108 rfl rfl rfl (by decide +kernel) ⟨Nat.le_of_ble_eq_true rfl, Nat.le_of_ble_eq_true rfl⟩) hK hNW hP hD hS hA rfl rfl hl.1 (lv_room (Nat.le_of_ble_eq_true rfl)) dX4_isVariable_1 hcs (fun r_1 hw_2 H locs hP hD hS => ?_)
  have i_3 := i32r r_1
  refine cz_eq (tgt := 26) hx hb (i32r _) dX4_isVariable_4 (by decide) (fun c_4 => ?_) (fun c_4 => ?_)
  · refine lv_iconst (v := oI 0) hx hb dX4_isVariable_26 (by decide) ?_
    have e0 : (oI 0).toInt = 0 := by decide
    have hpost : (oI 0).toInt = 0 ∨ (oI 0).toInt = 1 := by first | assumption | omega | (with_reducible rfl) | ((repeat' apply And.intro) <;> first | assumption | omega | (with_reducible rfl))
    exact W.zret (v := (oI 0)) hx hb hr (by first | rfl | decide | exact zb9 (by omega)) (fun t ht hW => ⟨⟨(oI 0), (), rfl, hpost, by rw [ht]; exact hP, va_K.moved hW.alike hK, hD⟩, hS.F ht⟩) hS.2.2 dX4_isVariable_27
  · refine lv_aload_n hx hb dX4_isVariable_7 rfl (lv_at hl 0 rfl) ?_
    refine cg_4_0 hx hb hts inX4_isVariable_X4 hown hK hP (hts _ lkX4_isVariable_f18) dX4_isVariable_8 ?_
    refine lv_aload_n hx hb dX4_isVariable_11 rfl (lv_at hl 0 rfl) ?_
    refine cg_4_4 hx hb hts inX4_isVariable_X4 hown hK hP (hts _ lkX4_isVariable_f9) dX4_isVariable_12 ?_
    have i_5 := i32r (F 17)
    refine lv_iload_n hx hb dX4_isVariable_15 rfl (lv_at hl 1 rfl) ?_
    refine ccs_iS (As := [.ref (a 1), .int (oI ((F 17).toInt)), .int (oI x)]) (rest := []) ⟨hx, hb, hml, hown, hts⟩ (c_isLiteral l dC dI cB cC cI cJ cZ a F X J R gf gn ((F 17).toInt) x  (i32r _) (by omega) (show gf ≤ 67600 from by first | assumption | omega) (show SPR (X 1) from by first | assumption | omega) (show (F 17).toInt < 2000000000 from by first | assumption | omega) H.size) (va_cwS 3 hts kX4_isVariable_X8_isLiteral_111 rfl rfl rfl (by decide +kernel) ⟨Nat.le_of_ble_eq_true rfl, Nat.le_of_ble_eq_true rfl⟩) hK hNW hP hD hS hA rfl rfl hl.1 (lv_room (Nat.le_of_ble_eq_true rfl)) dX4_isVariable_16 hcs (fun r_6 hw_7 H locs hP hD hS => ?_)
    have hw_7 : (r_6).toInt = 0 ∨ (r_6).toInt = 1 := hw_7
    have hz := hw_7
    have i_8 := i32r r_6
    refine cz_ne (tgt := 26) hx hb (i32r _) dX4_isVariable_19 (by decide) (fun c_9 => ?_) (fun c_9 => ?_)
    · refine lv_iconst (v := oI 0) hx hb dX4_isVariable_26 (by decide) ?_
      have e0 : (oI 0).toInt = 0 := by decide
      have hpost : (oI 0).toInt = 0 ∨ (oI 0).toInt = 1 := by first | assumption | omega | (with_reducible rfl) | ((repeat' apply And.intro) <;> first | assumption | omega | (with_reducible rfl))
      exact W.zret (v := (oI 0)) hx hb hr (by first | rfl | decide | exact zb9 (by omega)) (fun t ht hW => ⟨⟨(oI 0), (), rfl, hpost, by rw [ht]; exact hP, va_K.moved hW.alike hK, hD⟩, hS.F ht⟩) hS.2.2 dX4_isVariable_27
    · refine lv_iconst (v := oI 1) hx hb dX4_isVariable_22 (by decide) ?_
      refine lv_goto (tgt := 27) hx hb dX4_isVariable_23 (by decide) ?_
      have e0 : (oI 1).toInt = 1 := by decide
      have hpost : (oI 1).toInt = 0 ∨ (oI 1).toInt = 1 := by first | assumption | omega | (with_reducible rfl) | ((repeat' apply And.intro) <;> first | assumption | omega | (with_reducible rfl))
      exact W.zret (v := (oI 1)) hx hb hr (by first | rfl | decide | exact zb9 (by omega)) (fun t ht hW => ⟨⟨(oI 1), (), rfl, hpost, by rw [ht]; exact hP, va_K.moved hW.alike hK, hD⟩, hS.F ht⟩) hS.2.2 dX4_isVariable_27

set_option maxHeartbeats 4000000 in
set_option maxRecDepth 100000 in
/-- X4_isMeant -/
theorem c_isMeant (l : Launch) (dC : Nat → ClassId) (dI : Nat → Nat → Nat) (cB cC cI cJ cZ : ClassId) (a : Nat → Nat) (F : Nat → Int32) (X : Nat → Nat → Int32) (J : Nat → Nat → Int64) (R : Nat → Nat) (gf gn : Nat) (x y : Int)  (ix : (-2147483648 ≤ x ∧ x < 2147483648)) (iy : (-2147483648 ≤ y ∧ y < 2147483648)) (hgn : gn ≤ 63261) (hnt : 0 ≤ (F 13).toInt ∧ (F 13).toInt ≤ (gn : Int)) (hst : 0 ≤ (F 23).toInt ∧ (F 23).toInt ≤ 606) (hsy : 0 ≤ (F 15).toInt ∧ (F 15).toInt ≤ 2560) (hru : VB (X 12)) (s0 : Nat) : Met l yX4_isMeant vX4_isMeant { frames := 3, cells := 0, slots := 0, locals := 106 } (va_Pc [.ref (a 4), .int (oI x), .int (oI y)] (cPre dC dI cB cC cI cJ cZ a F X J R gf gn s0)) (va_Qi (fun (r : Int32) (_ : Unit) => (r).toInt = 0 ∨ (r).toInt = 1) (fun _ => cPost dC dI cB cC cI cJ cZ a F X J R gf gn (va_A (CW cB cC cI cJ cZ a F X J R gf gn) s0)) (va_A (CW cB cC cI cJ cZ a F X J R gf gn) s0)) 0 0 (va_A (CW cB cC cI cJ cZ a F X J R gf gn) s0) := by
  refine Met.ofW (cc := cX4_isMeant) (maxL := 3) (ret := (some .boolean)) (by decide) rfl ?_
  intro p e s m args below meth c s₁ B9 hml hv
  obtain ⟨rfl, hsz0, hP, hK, hD0, hNW⟩ := hv
  have hx := B9.exec
  have hb := B9.bytes
  have hr := B9.returns
  have hts := atoms_spec (ws := vX4_isMeant) B9.pre
  have hown : s.vm.findClass RX4 = some m.cls := findClass_of_methodNamed B9.named
  have hlocks := B9.notSynchronized
  clear B9
  subst hsz0
  have hD := hD0.self (sz := s.heap.size)
  generalize hAe : va_A (CW cB cC cI cJ cZ a F X J R gf gn) s.heap.size = A at hD ⊢
  have hA : ∀ q : Nat, s.heap.size ≤ q → A q := fun q h => by rw [← hAe]; exact Or.inr h
  have hS : va_S A s.heap s.heap [] := va_S.rf
  have hcs : 0 + 0 ≤ (0 : Nat) ∧ 0 + 0 ≤ (0 : Nat) := ⟨Nat.le_refl 0, Nat.le_refl 0⟩
  have hl := lv_entry ([.ref (a 4), .int (oI x), .int (oI y)]) (n := 3) (Nat.le_of_ble_eq_true rfl)
  rw [lg_entry_eq]
  generalize (lg_sl ([.ref (a 4), .int (oI x), .int (oI y)]) ++ List.replicate (3 - (lg_sl ([.ref (a 4), .int (oI x), .int (oI y)])).length) Slot.unset).toArray = ls at hl ⊢
  have hl : lv_has ls 3 [(0, .ref (a 4)), (1, .int (oI x)), (2, .int (oI y))] := hl
  refine lv_iload_n hx hb dX4_isMeant_0 rfl (lv_at hl 2 rfl) ?_
  refine lv_iconst (v := oI (-1)) hx hb dX4_isMeant_1 (by decide) ?_
  refine ci_eq (tgt := 39) hx hb (by omega) (by decide) dX4_isMeant_2 (by decide) (fun c_1 => ?_) (fun c_1 => ?_)
  · refine lv_iconst (v := oI 0) hx hb dX4_isMeant_39 (by decide) ?_
    have e0 : (oI 0).toInt = 0 := by decide
    have hpost : (oI 0).toInt = 0 ∨ (oI 0).toInt = 1 := by first | assumption | omega | (with_reducible rfl) | ((repeat' apply And.intro) <;> first | assumption | omega | (with_reducible rfl))
    exact W.zret (v := (oI 0)) hx hb hr (by first | rfl | decide | exact zb9 (by omega)) (fun t ht hW => ⟨⟨(oI 0), (), rfl, hpost, by rw [ht]; exact hP, va_K.moved hW.alike hK, hD⟩, hS.F ht⟩) hS.2.2 dX4_isMeant_40
  · refine lv_aload_n hx hb dX4_isMeant_5 rfl (lv_at hl 0 rfl) ?_
    refine cg_4_2 hx hb hts inX4_isMeant_X4 hown hK hP (hts _ lkX4_isMeant_f26) dX4_isMeant_6 ?_
    refine lv_iload_n hx hb dX4_isMeant_9 rfl (lv_at hl 1 rfl) ?_
    refine lv_aload_n hx hb dX4_isMeant_10 rfl (lv_at hl 0 rfl) ?_
    refine cg_4_5 hx hb hts inX4_isMeant_X4 hown hK hP (hts _ lkX4_isMeant_f15) dX4_isMeant_11 ?_
    have i_2 := i32r (F 18)
    refine ccs_iV (As := [.int (oI x), .int (oI ((F 18).toInt))]) (rest := []) ⟨hx, hb, hml, hown, hts⟩ (c_meaning l dC dI cB cC cI cJ cZ a F X J R gf gn x ((F 18).toInt)  (by omega) (i32r _) (show gn ≤ 63261 from by first | assumption | omega) (show 0 ≤ (F 13).toInt ∧ (F 13).toInt ≤ (gn : Int) from by first | assumption | omega) (show 0 ≤ (F 23).toInt ∧ (F 23).toInt ≤ 606 from by first | assumption | omega) (show 0 ≤ (F 15).toInt ∧ (F 15).toInt ≤ 2560 from by first | assumption | omega) (show VB (X 12) from by first | assumption | omega)  s.heap.size) (cwV 2 hts kX4_isMeant_X9_meaning_117 rfl rfl rfl (by decide +kernel) ⟨Nat.le_of_ble_eq_true rfl, Nat.le_of_ble_eq_true rfl⟩) (va_recv hK hP (ci := 9) (q0 := 9) rfl rfl) hK hNW hP hD hS hA rfl rfl hl.1 (lv_room (Nat.le_of_ble_eq_true rfl)) dX4_isMeant_14 hcs (fun r_3 hw_4 H locs hP hD hS => ?_)
    have i_5 := i32r r_3
    refine lv_aload_n hx hb dX4_isMeant_17 rfl (lv_at hl 0 rfl) ?_
    refine cg_4_2 hx hb hts inX4_isMeant_X4 hown hK hP (hts _ lkX4_isMeant_f26) dX4_isMeant_18 ?_
    refine lv_iload_n hx hb dX4_isMeant_21 rfl (lv_at hl 2 rfl) ?_
    refine lv_aload_n hx hb dX4_isMeant_22 rfl (lv_at hl 0 rfl) ?_
    refine cg_4_2 hx hb hts inX4_isMeant_X4 hown hK hP (hts _ lkX4_isMeant_f26) dX4_isMeant_23 ?_
    refine cgN_9_5 hx hb hts inX4_isMeant_X9 hown hK hP (va_Nw.use rfl hNW.2.2.2.2.2.2.2.2.2.2.2.2.2.2.1) dX4_isMeant_26 ?_
    have i_6 := i32r (F 23)
    refine ccs_iV (As := [.int (oI y), .int (oI ((F 23).toInt))]) (rest := [.int (oI r_3.toInt)]) ⟨hx, hb, hml, hown, hts⟩ (c_meaning l dC dI cB cC cI cJ cZ a F X J R gf gn y ((F 23).toInt)  (by omega) (i32r _) (show gn ≤ 63261 from by first | assumption | omega) (show 0 ≤ (F 13).toInt ∧ (F 13).toInt ≤ (gn : Int) from by first | assumption | omega) (show 0 ≤ (F 23).toInt ∧ (F 23).toInt ≤ 606 from by first | assumption | omega) (show 0 ≤ (F 15).toInt ∧ (F 15).toInt ≤ 2560 from by first | assumption | omega) (show VB (X 12) from by first | assumption | omega)  H.size) (cwV 2 hts kX4_isMeant_X9_meaning_117 rfl rfl rfl (by decide +kernel) ⟨Nat.le_of_ble_eq_true rfl, Nat.le_of_ble_eq_true rfl⟩) (va_recv hK hP (ci := 9) (q0 := 9) rfl rfl) hK hNW hP hD hS hA rfl rfl hl.1 (lv_room (Nat.le_of_ble_eq_true rfl)) dX4_isMeant_29 hcs (fun r_7 hw_8 H locs hP hD hS => ?_)
    have i_9 := i32r r_7
    refine ci_ne (tgt := 39) hx hb (i32r _) (i32r _) dX4_isMeant_32 (by decide) (fun c_10 => ?_) (fun c_10 => ?_)
    · refine lv_iconst (v := oI 0) hx hb dX4_isMeant_39 (by decide) ?_
      have e0 : (oI 0).toInt = 0 := by decide
      have hpost : (oI 0).toInt = 0 ∨ (oI 0).toInt = 1 := by first | assumption | omega | (with_reducible rfl) | ((repeat' apply And.intro) <;> first | assumption | omega | (with_reducible rfl))
      exact W.zret (v := (oI 0)) hx hb hr (by first | rfl | decide | exact zb9 (by omega)) (fun t ht hW => ⟨⟨(oI 0), (), rfl, hpost, by rw [ht]; exact hP, va_K.moved hW.alike hK, hD⟩, hS.F ht⟩) hS.2.2 dX4_isMeant_40
    · refine lv_iconst (v := oI 1) hx hb dX4_isMeant_35 (by decide) ?_
      refine lv_goto (tgt := 40) hx hb dX4_isMeant_36 (by decide) ?_
      have e0 : (oI 1).toInt = 1 := by decide
      have hpost : (oI 1).toInt = 0 ∨ (oI 1).toInt = 1 := by first | assumption | omega | (with_reducible rfl) | ((repeat' apply And.intro) <;> first | assumption | omega | (with_reducible rfl))
      exact W.zret (v := (oI 1)) hx hb hr (by first | rfl | decide | exact zb9 (by omega)) (fun t ht hW => ⟨⟨(oI 1), (), rfl, hpost, by rw [ht]; exact hP, va_K.moved hW.alike hK, hD⟩, hS.F ht⟩) hS.2.2 dX4_isMeant_40

set_option maxHeartbeats 4000000 in
set_option maxRecDepth 100000 in
theorem lq_addVariables {p : Program} {l : Launch} {e : Env} {s : State} {m : MethodId} {args : Array Value} {below : List Frame} {meth : Method} {c : Code} {A : Nat → Prop} {dC : Nat → ClassId} {dI : Nat → Nat → Nat} {cB cC cI cJ cZ : ClassId} {a : Nat → Nat} {F : Nat → Int32} {X : Nat → Nat → Int32} {J : Nat → Nat → Int64} {R : Nat → Nat} {gf gn : Nat} (hx : p.tables.exec = Jvm.exec) (hb : c.code = cX4_addVariables) (hml : c.maxLocals = 5) (hown : s.vm.findClass RX4 = some m.cls) (hts : ∀ w ∈ vX4_addVariables, w.before args s = true) (hK : va_K (dC, dI) vwCl (TY cB cC cI cJ cZ) s) (hNW : NW s) (hA : ∀ q : Nat, s.heap.size ≤ q → A q) (hr : meth.sig.returnType = none) (hlocks : meth.locks = false) (x : Int)  (ix : (-2147483648 ≤ x ∧ x < 2147483648)) (hgf : gf ≤ 67600) (hgn : gn ≤ 63261) (hsp : SPR (X 1)) (hnt : 0 ≤ (F 13).toInt ∧ (F 13).toInt ≤ (gn : Int)) (hms : 0 ≤ (F 19).toInt ∧ (F 19).toInt ≤ 3000 ∧ 0 ≤ (F 20).toInt ∧ (F 20).toInt ≤ 3000) (hl4 : (F 17).toInt < 2000000000) (hx2 : x < 1073741824)   : ∀ (k : Nat) (F1 : Nat → Int32) (X1 : Nat → Nat → Int32) (fi : Int) (q : Int), (AF (X 1) gf x - q).toNat < k → (-2147483648 ≤ fi ∧ fi < 2147483648) → (-2147483648 ≤ q ∧ q < 2147483648) → (x ≤ q ∧ q ≤ x + 67601 ∧ 0 ≤ fi ∧ fi ≤ 3000 + (q - x)) → (0 ≤ (F1 19).toInt ∧ (F1 19).toInt ≤ 3000 ∧ 0 ≤ (F 20).toInt ∧ (F 20).toInt ≤ 3000) → ∀ (H : Heap) (locs : List Loc), va_P (dC, dI) vwCl (CW cB cC cI cJ cZ a (rg 19 19 F F1) (rg 17 18 (rg 8 10 X X1) X1) J R gf gn) H → va_D A (CW cB cC cI cJ cZ a (rg 19 19 F F1) (rg 17 18 (rg 8 10 X X1) X1) J R gf gn) → va_S A s.heap H locs → ∀ (ls : Array Slot), lv_has ls 5 [(0, .ref (a 4)), (1, .int (oI x)), (2, .int (oI fi)), (3, .int (oI q))] → W p l e (headSpec vX4_addVariables { frames := 4, cells := 0, slots := 0, locals := 126 }).room s m args below meth c H locs 0 0 (MQ below (va_Qv (fun (u : (Nat → Int32) × (Nat → Nat → Int32)) => match u with | (F1, X1) => 0 ≤ (F1 19).toInt ∧ (F1 19).toInt ≤ 3000 ∧ 0 ≤ (F 20).toInt ∧ (F 20).toInt ≤ 3000) (fun u => cPost dC dI cB cC cI cJ cZ a (rg 19 19 F u.1) (rg 17 18 (rg 8 10 X u.2) u.2) J R gf gn A) A) args s 0 0 A) (F0 m 10 ls []) := by
  have hcs : 0 + 0 ≤ (0 : Nat) ∧ 0 + 0 ≤ (0 : Nat) := ⟨Nat.le_refl 0, Nat.le_refl 0⟩
  intro k
  induction k with
  | zero =>
    intro F1 X1 fi q hk ifi9 iq9 hq hms
    exact absurd hk (Nat.not_lt_zero _)
  | succ k ih =>
    intro F1 X1 fi q hk ifi9 iq9 hq hms H locs hP hD hS ls hl
    have eb := AF_b hsp gf x
    refine lv_iload_n hx hb dX4_addVariables_10 rfl (lv_at hl 3 rfl) ?_
    refine lv_aload_n hx hb dX4_addVariables_11 rfl (lv_at hl 0 rfl) ?_
    refine cg_4_0 hx hb hts inX4_addVariables_X4 hown hK hP (hts _ lkX4_addVariables_f18) dX4_addVariables_12 ?_
    refine lv_iload_n hx hb dX4_addVariables_15 rfl (lv_at hl 1 rfl) ?_
    refine ccs_iV (As := [.int (oI x)]) (rest := [.int (oI q)]) ⟨hx, hb, hml, hown, hts⟩ (c_after l dC dI cB cC cI cJ cZ a (rg 19 19 F F1) (rg 17 18 (rg 8 10 X X1) X1) J R gf gn x  (by omega) (show gf ≤ 67600 from by first | assumption | omega) (show SPR (X 1) from by first | assumption | omega) (show x < 2147483647 from by first | assumption | omega) H.size) (cwV 1 hts kX4_addVariables_X1_after_40 rfl rfl rfl (by decide +kernel) ⟨Nat.le_of_ble_eq_true rfl, Nat.le_of_ble_eq_true rfl⟩) (va_recv hK hP (ci := 1) (q0 := 1) rfl rfl) hK hNW hP hD hS hA rfl rfl hl.1 (lv_room (Nat.le_of_ble_eq_true rfl)) dX4_addVariables_16 hcs (fun r_1 hw_2 H locs hP hD hS => ?_)
    have hw_2 : (r_1).toInt = AF (X 1) gf x ∧ x < (r_1).toInt ∧ (r_1).toInt ≤ x + 67600 := hw_2
    obtain ⟨ea, la, ua⟩ := hw_2
    have i_3 := i32r r_1
    refine ci_ge (tgt := 67) hx hb (by omega) (i32r _) dX4_addVariables_19 (by decide) (fun c_4 => ?_) (fun c_4 => ?_)
    · have eF9 : rg 19 19 F (rg 19 19 F F1) = rg 19 19 F F1 := by funext k; simp only [rg, va_up]; (repeat' split) <;> first | with_reducible rfl | omega
      have eX9 : rg 17 18 (rg 8 10 X (rg 17 18 (rg 8 10 X X1) X1)) (rg 17 18 (rg 8 10 X X1) X1) = rg 17 18 (rg 8 10 X X1) X1 := by funext k; simp only [rg, va_up]; (repeat' split) <;> first | with_reducible rfl | omega
      have hP9 : va_P (dC, dI) vwCl (CW cB cC cI cJ cZ a (rg 19 19 F (rg 19 19 F F1)) (rg 17 18 (rg 8 10 X (rg 17 18 (rg 8 10 X X1) X1)) (rg 17 18 (rg 8 10 X X1) X1)) J R gf gn) H := by rw [eF9, eX9]; exact hP
      have hD9 : va_D A (CW cB cC cI cJ cZ a (rg 19 19 F (rg 19 19 F F1)) (rg 17 18 (rg 8 10 X (rg 17 18 (rg 8 10 X X1) X1)) (rg 17 18 (rg 8 10 X X1) X1)) J R gf gn) := by rw [eF9, eX9]; exact hD
      have hpost : 0 ≤ (F1 19).toInt ∧ (F1 19).toInt ≤ 3000 ∧ 0 ≤ (F 20).toInt ∧ (F 20).toInt ≤ 3000 := by first | assumption | omega | (with_reducible rfl) | ((repeat' apply And.intro) <;> first | assumption | omega | (with_reducible rfl))
      exact W.vret hx hb hr (fun t ht hW => ⟨⟨(rg 19 19 F F1, rg 17 18 (rg 8 10 X X1) X1), rfl, hpost, by rw [ht]; exact hP9, va_K.moved hW.alike hK, hD9⟩, hS.F ht⟩) hS.2.2 dX4_addVariables_67
    · refine lv_aload_n hx hb dX4_addVariables_22 rfl (lv_at hl 0 rfl) ?_
      refine cg_4_0 hx hb hts inX4_addVariables_X4 hown hK hP (hts _ lkX4_addVariables_f18) dX4_addVariables_23 ?_
      refine lv_iload_n hx hb dX4_addVariables_26 rfl (lv_at hl 3 rfl) ?_
      refine ccs_iV (As := [.int (oI q)]) (rest := []) ⟨hx, hb, hml, hown, hts⟩ (c_nameOf l dC dI cB cC cI cJ cZ a (rg 19 19 F F1) (rg 17 18 (rg 8 10 X X1) X1) J R gf gn q  (by omega) (show gf ≤ 67600 from by first | assumption | omega)  H.size) (cwV 1 hts kX4_addVariables_X1_nameOf_83 rfl rfl rfl (by decide +kernel) ⟨Nat.le_of_ble_eq_true rfl, Nat.le_of_ble_eq_true rfl⟩) (va_recv hK hP (ci := 1) (q0 := 1) rfl rfl) hK hNW hP hD hS hA rfl rfl hl.1 (lv_room (Nat.le_of_ble_eq_true rfl)) dX4_addVariables_27 hcs (fun r_5 hw_6 H locs hP hD hS => ?_)
      have i_7 := i32r r_5
      refine lv_istore (lv' := [(4, .int (oI r_5.toInt)), (0, .ref (a 4)), (1, .int (oI x)), (2, .int (oI fi)), (3, .int (oI q))]) hx hb dX4_addVariables_30 hl (by decide) rfl (fun ls hl => ?_)
      refine lv_aload_n hx hb dX4_addVariables_32 rfl (lv_at hl 1 rfl) ?_
      refine lv_iload hx hb dX4_addVariables_33 (lv_at hl 0 rfl) ?_
      refine ccs_iV (As := [.int (oI r_5.toInt)]) (rest := []) ⟨hx, hb, hml, hown, hts⟩ (c_isVariable l dC dI cB cC cI cJ cZ a (rg 19 19 F F1) (rg 17 18 (rg 8 10 X X1) X1) J R gf gn r_5.toInt  (i32r _) (show gf ≤ 67600 from by first | assumption | omega) (show SPR (X 1) from by first | assumption | omega) (show (F 17).toInt < 2000000000 from by first | assumption | omega)  H.size) (cwV 1 hts kX4_addVariables_X4_isVariable_86 rfl rfl rfl (by decide +kernel) ⟨Nat.le_of_ble_eq_true rfl, Nat.le_of_ble_eq_true rfl⟩) (va_recv hK hP (ci := 4) (q0 := 4) rfl rfl) hK hNW hP hD hS hA rfl rfl hl.1 (lv_room (Nat.le_of_ble_eq_true rfl)) dX4_addVariables_35 hcs (fun r_8 hw_9 H locs hP hD hS => ?_)
      have hw_9 : (r_8).toInt = 0 ∨ (r_8).toInt = 1 := hw_9
      have hz := hw_9
      have i_10 := i32r r_8
      refine cz_eq (tgt := 61) hx hb (i32r _) dX4_addVariables_38 (by decide) (fun c_11 => ?_) (fun c_11 => ?_)
      · refine lv_iinc (v := oI (q + 1)) (lv' := [(3, .int (oI (q + 1))), (4, .int (oI r_5.toInt)), (0, .ref (a 4)), (1, .int (oI x)), (2, .int (oI fi))]) hx hb dX4_addVariables_61 hl (k := 4) rfl (oI_add q 1) (by decide) rfl (fun ls hl => ?_)
        refine lv_goto (tgt := 10) hx hb dX4_addVariables_64 (by decide) ?_
        have eF9 : rg 19 19 F (rg 19 19 F F1) = rg 19 19 F F1 := by funext k; simp only [rg, va_up]; (repeat' split) <;> first | with_reducible rfl | omega
        have eX9 : rg 17 18 (rg 8 10 X (rg 17 18 (rg 8 10 X X1) X1)) (rg 17 18 (rg 8 10 X X1) X1) = rg 17 18 (rg 8 10 X X1) X1 := by funext k; simp only [rg, va_up]; (repeat' split) <;> first | with_reducible rfl | omega
        have hP9 : va_P (dC, dI) vwCl (CW cB cC cI cJ cZ a (rg 19 19 F (rg 19 19 F F1)) (rg 17 18 (rg 8 10 X (rg 17 18 (rg 8 10 X X1) X1)) (rg 17 18 (rg 8 10 X X1) X1)) J R gf gn) H := by rw [eF9, eX9]; exact hP
        have hD9 : va_D A (CW cB cC cI cJ cZ a (rg 19 19 F (rg 19 19 F F1)) (rg 17 18 (rg 8 10 X (rg 17 18 (rg 8 10 X X1) X1)) (rg 17 18 (rg 8 10 X X1) X1)) J R gf gn) := by rw [eF9, eX9]; exact hD
        exact ih (rg 19 19 F F1) (rg 17 18 (rg 8 10 X X1) X1) fi (q + 1) (show (AF (X 1) gf x - (q + 1)).toNat < k from by omega) (by omega) (by omega) (show x ≤ (q + 1) ∧ (q + 1) ≤ x + 67601 ∧ 0 ≤ fi ∧ fi ≤ 3000 + ((q + 1) - x) from by first | assumption | omega | (with_reducible rfl) | ((repeat' apply And.intro) <;> first | assumption | omega | (with_reducible rfl))) (show 0 ≤ (F1 19).toInt ∧ (F1 19).toInt ≤ 3000 ∧ 0 ≤ (F 20).toInt ∧ (F 20).toInt ≤ 3000 from by first | assumption | omega | (with_reducible rfl) | ((repeat' apply And.intro) <;> first | assumption | omega | (with_reducible rfl))) _ _ hP9 hD9 hS ls (lv_sub hl [2, 3, 4, 0] rfl)
      · refine lv_aload_n hx hb dX4_addVariables_41 rfl (lv_at hl 1 rfl) ?_
        refine cg_4_1 hx hb hts inX4_addVariables_X4 hown hK hP (hts _ lkX4_addVariables_f22) dX4_addVariables_42 ?_
        refine lv_iload hx hb dX4_addVariables_45 (lv_at hl 0 rfl) ?_
        refine lv_aload_n hx hb dX4_addVariables_47 rfl (lv_at hl 1 rfl) ?_
        refine cg_4_3 hx hb hts inX4_addVariables_X4 hown hK hP (hts _ lkX4_addVariables_f30) dX4_addVariables_48 ?_
        refine lv_iload_n hx hb dX4_addVariables_51 rfl (lv_at hl 3 rfl) ?_
        refine ccp_iV (As := [.int (oI fi)]) (rest := [.int (oI r_5.toInt), .ref (a 6)]) (gF := fun F9 => rg 19 19 (rg 19 19 F F1) F9) (gX := fun X9 => rg 8 10 (rg 17 18 (rg 8 10 X X1) X1) X9) ⟨hx, hb, hml, hown, hts⟩ (c_addVariableM l dC dI cB cC cI cJ cZ a (rg 19 19 F F1) (rg 17 18 (rg 8 10 X X1) X1) J R gf gn fi  (by omega) (show 0 ≤ (F1 19).toInt ∧ (F1 19).toInt ≤ 3000 ∧ 0 ≤ (F 20).toInt ∧ (F 20).toInt ≤ 3000 from by first | assumption | omega)  H.size) (cwV 1 hts kX4_addVariables_X5_addVariable_90 rfl rfl rfl (by decide +kernel) ⟨Nat.le_of_ble_eq_true rfl, Nat.le_of_ble_eq_true rfl⟩) (va_recv hK hP (ci := 5) (q0 := 5) rfl rfl) hK hNW hP hD hS hA rfl rfl hl.1 (lv_room (Nat.le_of_ble_eq_true rfl)) dX4_addVariables_52 hcs (fun r_12 F_13 X_14 hw_15 H locs hP hD hS => ?_)
        have hw_15 : 0 ≤ (F_13 19).toInt ∧ (F_13 19).toInt ≤ 3000 ∧ 0 ≤ (F 20).toInt ∧ (F 20).toInt ≤ 3000 := hw_15
        have hms := hw_15
        have i_16 := i32r r_12
        refine ccp_vV (As := [.int (oI r_5.toInt), .int (oI r_12.toInt)]) (rest := []) (gF := fun _ => rg 19 19 (rg 19 19 F F1) F_13) (gX := fun X9 => rg 17 18 (rg 8 10 (rg 17 18 (rg 8 10 X X1) X1) X_14) X9) ⟨hx, hb, hml, hown, hts⟩ (c_setNote l dC dI cB cC cI cJ cZ a (rg 19 19 (rg 19 19 F F1) F_13) (rg 8 10 (rg 17 18 (rg 8 10 X X1) X1) X_14) J R gf gn r_5.toInt r_12.toInt  (i32r _) (i32r _) (show gn ≤ 63261 from by first | assumption | omega) (show 0 ≤ (F 13).toInt ∧ (F 13).toInt ≤ (gn : Int) from by first | assumption | omega)  H.size) (cwV 2 hts kX4_addVariables_X6_setNote_93 rfl rfl rfl (by decide +kernel) ⟨Nat.le_of_ble_eq_true rfl, Nat.le_of_ble_eq_true rfl⟩) (va_recv hK hP (ci := 6) (q0 := 6) rfl rfl) hK hNW hP hD hS hA rfl rfl hl.1 (lv_room (Nat.le_of_ble_eq_true rfl)) dX4_addVariables_55 hcs (fun F_17 X_18 hw_19 H locs hP hD hS => ?_)
        refine lv_iinc (v := oI (fi + 1)) (lv' := [(2, .int (oI (fi + 1))), (4, .int (oI r_5.toInt)), (0, .ref (a 4)), (1, .int (oI x)), (3, .int (oI q))]) hx hb dX4_addVariables_58 hl (k := 3) rfl (oI_add fi 1) (by decide) rfl (fun ls hl => ?_)
        refine lv_iinc (v := oI (q + 1)) (lv' := [(3, .int (oI (q + 1))), (2, .int (oI (fi + 1))), (4, .int (oI r_5.toInt)), (0, .ref (a 4)), (1, .int (oI x))]) hx hb dX4_addVariables_61 hl (k := 4) rfl (oI_add q 1) (by decide) rfl (fun ls hl => ?_)
        refine lv_goto (tgt := 10) hx hb dX4_addVariables_64 (by decide) ?_
        have eF9 : rg 19 19 F (rg 19 19 (rg 19 19 F F1) F_13) = rg 19 19 (rg 19 19 F F1) F_13 := by funext k; simp only [rg, va_up]; (repeat' split) <;> first | with_reducible rfl | omega
        have eX9 : rg 17 18 (rg 8 10 X (rg 17 18 (rg 8 10 (rg 17 18 (rg 8 10 X X1) X1) X_14) X_18)) (rg 17 18 (rg 8 10 (rg 17 18 (rg 8 10 X X1) X1) X_14) X_18) = rg 17 18 (rg 8 10 (rg 17 18 (rg 8 10 X X1) X1) X_14) X_18 := by funext k; simp only [rg, va_up]; (repeat' split) <;> first | with_reducible rfl | omega
        have hP9 : va_P (dC, dI) vwCl (CW cB cC cI cJ cZ a (rg 19 19 F (rg 19 19 (rg 19 19 F F1) F_13)) (rg 17 18 (rg 8 10 X (rg 17 18 (rg 8 10 (rg 17 18 (rg 8 10 X X1) X1) X_14) X_18)) (rg 17 18 (rg 8 10 (rg 17 18 (rg 8 10 X X1) X1) X_14) X_18)) J R gf gn) H := by rw [eF9, eX9]; exact hP
        have hD9 : va_D A (CW cB cC cI cJ cZ a (rg 19 19 F (rg 19 19 (rg 19 19 F F1) F_13)) (rg 17 18 (rg 8 10 X (rg 17 18 (rg 8 10 (rg 17 18 (rg 8 10 X X1) X1) X_14) X_18)) (rg 17 18 (rg 8 10 (rg 17 18 (rg 8 10 X X1) X1) X_14) X_18)) J R gf gn) := by rw [eF9, eX9]; exact hD
        exact ih (rg 19 19 (rg 19 19 F F1) F_13) (rg 17 18 (rg 8 10 (rg 17 18 (rg 8 10 X X1) X1) X_14) X_18) (fi + 1) (q + 1) (show (AF (X 1) gf x - (q + 1)).toNat < k from by omega) (by omega) (by omega) (show x ≤ (q + 1) ∧ (q + 1) ≤ x + 67601 ∧ 0 ≤ (fi + 1) ∧ (fi + 1) ≤ 3000 + ((q + 1) - x) from by first | assumption | omega | (with_reducible rfl) | ((repeat' apply And.intro) <;> first | assumption | omega | (with_reducible rfl))) (show 0 ≤ (F_13 19).toInt ∧ (F_13 19).toInt ≤ 3000 ∧ 0 ≤ (F 20).toInt ∧ (F 20).toInt ≤ 3000 from by first | assumption | omega | (with_reducible rfl) | ((repeat' apply And.intro) <;> first | assumption | omega | (with_reducible rfl))) _ _ hP9 hD9 hS ls (lv_sub hl [3, 4, 1, 0] rfl)

set_option maxHeartbeats 4000000 in
set_option maxRecDepth 100000 in
/-- X4_addVariables -/
theorem c_addVariables (l : Launch) (dC : Nat → ClassId) (dI : Nat → Nat → Nat) (cB cC cI cJ cZ : ClassId) (a : Nat → Nat) (F : Nat → Int32) (X : Nat → Nat → Int32) (J : Nat → Nat → Int64) (R : Nat → Nat) (gf gn : Nat) (x : Int)  (ix : (-2147483648 ≤ x ∧ x < 2147483648)) (hgf : gf ≤ 67600) (hgn : gn ≤ 63261) (hsp : SPR (X 1)) (hnt : 0 ≤ (F 13).toInt ∧ (F 13).toInt ≤ (gn : Int)) (hms : 0 ≤ (F 19).toInt ∧ (F 19).toInt ≤ 3000 ∧ 0 ≤ (F 20).toInt ∧ (F 20).toInt ≤ 3000) (hl4 : (F 17).toInt < 2000000000) (hx2 : x < 1073741824) (s0 : Nat) : Met l yX4_addVariables vX4_addVariables { frames := 4, cells := 0, slots := 0, locals := 126 } (va_Pc [.ref (a 4), .int (oI x)] (cPre dC dI cB cC cI cJ cZ a F X J R gf gn s0)) (va_Qv (fun (u : (Nat → Int32) × (Nat → Nat → Int32)) => match u with | (F1, X1) => 0 ≤ (F1 19).toInt ∧ (F1 19).toInt ≤ 3000 ∧ 0 ≤ (F 20).toInt ∧ (F 20).toInt ≤ 3000) (fun u => cPost dC dI cB cC cI cJ cZ a (rg 19 19 F u.1) (rg 17 18 (rg 8 10 X u.2) u.2) J R gf gn (va_A (CW cB cC cI cJ cZ a F X J R gf gn) s0)) (va_A (CW cB cC cI cJ cZ a F X J R gf gn) s0)) 0 0 (va_A (CW cB cC cI cJ cZ a F X J R gf gn) s0) := by
  refine Met.ofW (cc := cX4_addVariables) (maxL := 5) (ret := none) (by decide) rfl ?_
  intro p e s m args below meth c s₁ B9 hml hv
  obtain ⟨rfl, hsz0, hP, hK, hD0, hNW⟩ := hv
  have hx := B9.exec
  have hb := B9.bytes
  have hr := B9.returns
  have hts := atoms_spec (ws := vX4_addVariables) B9.pre
  have hown : s.vm.findClass RX4 = some m.cls := findClass_of_methodNamed B9.named
  have hlocks := B9.notSynchronized
  clear B9
  subst hsz0
  have hD := hD0.self (sz := s.heap.size)
  generalize hAe : va_A (CW cB cC cI cJ cZ a F X J R gf gn) s.heap.size = A at hD ⊢
  have hA : ∀ q : Nat, s.heap.size ≤ q → A q := fun q h => by rw [← hAe]; exact Or.inr h
  have hS : va_S A s.heap s.heap [] := va_S.rf
  have hcs : 0 + 0 ≤ (0 : Nat) ∧ 0 + 0 ≤ (0 : Nat) := ⟨Nat.le_refl 0, Nat.le_refl 0⟩
  have hl := lv_entry ([.ref (a 4), .int (oI x)]) (n := 5) (Nat.le_of_ble_eq_true rfl)
  rw [lg_entry_eq]
  generalize (lg_sl ([.ref (a 4), .int (oI x)]) ++ List.replicate (5 - (lg_sl ([.ref (a 4), .int (oI x)])).length) Slot.unset).toArray = ls at hl ⊢
  have hl : lv_has ls 5 [(0, .ref (a 4)), (1, .int (oI x))] := hl
  have eb := AF_b hsp gf x
  refine lv_aload_n hx hb dX4_addVariables_0 rfl (lv_at hl 0 rfl) ?_
  refine cg_4_3 hx hb hts inX4_addVariables_X4 hown hK hP (hts _ lkX4_addVariables_f30) dX4_addVariables_1 ?_
  refine cgN_5_5 hx hb hts inX4_addVariables_X5 hown hK hP (va_Nw.use rfl hNW.2.2.2.2.2.2.2.2.2.2.2.2.2.1) dX4_addVariables_4 ?_
  have i_1 := i32r (F 20)
  refine lv_istore_n (lv' := [(2, .int (oI ((F 20).toInt))), (0, .ref (a 4)), (1, .int (oI x))]) hx hb dX4_addVariables_7 rfl hl (by decide) rfl (fun ls hl => ?_)
  refine lv_iload_n hx hb dX4_addVariables_8 rfl (lv_at hl 2 rfl) ?_
  refine lv_istore_n (lv' := [(3, .int (oI x)), (2, .int (oI ((F 20).toInt))), (0, .ref (a 4)), (1, .int (oI x))]) hx hb dX4_addVariables_9 rfl hl (by decide) rfl (fun ls hl => ?_)
  have eF9 : rg 19 19 F F = F := by funext k; simp only [rg, va_up]; (repeat' split) <;> first | with_reducible rfl | omega
  have eX9 : rg 17 18 (rg 8 10 X X) X = X := by funext k; simp only [rg, va_up]; (repeat' split) <;> first | with_reducible rfl | omega
  have hP9 : va_P (dC, dI) vwCl (CW cB cC cI cJ cZ a (rg 19 19 F F) (rg 17 18 (rg 8 10 X X) X) J R gf gn) s.heap := by rw [eF9, eX9]; exact hP
  have hD9 : va_D A (CW cB cC cI cJ cZ a (rg 19 19 F F) (rg 17 18 (rg 8 10 X X) X) J R gf gn) := by rw [eF9, eX9]; exact hD
  exact lq_addVariables hx hb hml hown hts hK hNW hA hr hlocks x ix (by assumption) (by assumption) (by assumption) (by assumption) (by assumption) (by assumption) (by assumption)  _ F X ((F 20).toInt) x (Nat.lt_succ_self _) (i32r _) (by omega) (show x ≤ x ∧ x ≤ x + 67601 ∧ 0 ≤ ((F 20).toInt) ∧ ((F 20).toInt) ≤ 3000 + (x - x) from by first | assumption | omega | (with_reducible rfl) | ((repeat' apply And.intro) <;> first | assumption | omega | (with_reducible rfl))) (show 0 ≤ (F 19).toInt ∧ (F 19).toInt ≤ 3000 ∧ 0 ≤ (F 20).toInt ∧ (F 20).toInt ≤ 3000 from by first | assumption | omega | (with_reducible rfl) | ((repeat' apply And.intro) <;> first | assumption | omega | (with_reducible rfl))) _ _ hP9 hD9 hS ls (lv_sub hl [2, 3, 1, 0] rfl)

def P_X4_formMatches (l : Launch) (d : Nat) : Prop := ∀ (dC : Nat → ClassId) (dI : Nat → Nat → Nat) (cB cC cI cJ cZ : ClassId) (a : Nat → Nat) (F : Nat → Int32) (X : Nat → Nat → Int32) (J : Nat → Nat → Int64) (R : Nat → Nat) (gf gn : Nat) (x y z : Int) (D : Int → Nat) (ix : (-2147483648 ≤ x ∧ x < 2147483648)) (iy : (-2147483648 ≤ y ∧ y < 2147483648)) (iz : (-2147483648 ≤ z ∧ z < 2147483648)) (hgf : gf ≤ 67600) (hgn : gn ≤ 63261) (hsp : SPR (X 1)) (hnt : 0 ≤ (F 13).toInt ∧ (F 13).toInt ≤ (gn : Int)) (hst : 0 ≤ (F 23).toInt ∧ (F 23).toInt ≤ 606) (hsy : 0 ≤ (F 15).toInt ∧ (F 15).toInt ≤ 2560) (hru : VB (X 12)) (hms : 0 ≤ (F 19).toInt ∧ (F 19).toInt ≤ 3000 ∧ 0 ≤ (F 20).toInt ∧ (F 20).toInt ≤ 3000) (hl4 : (F 17).toInt < 2000000000) (hx2 : x < 1073741824 ∧ y < 1200000000) (hdp : D x < d) (hne : NST (X 1) D gf) (s0 : Nat), Met l yX4_formMatches vX4_formMatches { frames := 3 * d + 5, cells := 0, slots := 0, locals := 90 * d + 150 } (va_Pc [.ref (a 4), .int (oI x), .int (oI y), .int (oI z)] (cPre dC dI cB cC cI cJ cZ a F X J R gf gn s0)) (va_Qi (fun (r : Int32) (u : (Nat → Int32) × (Nat → Nat → Int32)) => match u with | (F1, X1) => (0 ≤ (F1 19).toInt ∧ (F1 19).toInt ≤ 3000 ∧ 0 ≤ (F1 20).toInt ∧ (F1 20).toInt ≤ 3000) ∧ ((r).toInt = 0 ∨ (r).toInt = 1)) (fun u => cPost dC dI cB cC cI cJ cZ a (rg 19 20 F u.1) (rg 17 18 (rg 8 11 X u.2) u.2) J R gf gn (va_A (CW cB cC cI cJ cZ a F X J R gf gn) s0)) (va_A (CW cB cC cI cJ cZ a F X J R gf gn) s0)) 0 0 (va_A (CW cB cC cI cJ cZ a F X J R gf gn) s0)
def P_X4_restMatches (l : Launch) (d : Nat) : Prop := ∀ (dC : Nat → ClassId) (dI : Nat → Nat → Nat) (cB cC cI cJ cZ : ClassId) (a : Nat → Nat) (F : Nat → Int32) (X : Nat → Nat → Int32) (J : Nat → Nat → Int64) (R : Nat → Nat) (gf gn : Nat) (x y z : Int) (D : Int → Nat) (ix : (-2147483648 ≤ x ∧ x < 2147483648)) (iy : (-2147483648 ≤ y ∧ y < 2147483648)) (iz : (-2147483648 ≤ z ∧ z < 2147483648)) (hgf : gf ≤ 67600) (hgn : gn ≤ 63261) (hsp : SPR (X 1)) (hnt : 0 ≤ (F 13).toInt ∧ (F 13).toInt ≤ (gn : Int)) (hst : 0 ≤ (F 23).toInt ∧ (F 23).toInt ≤ 606) (hsy : 0 ≤ (F 15).toInt ∧ (F 15).toInt ≤ 2560) (hru : VB (X 12)) (hms : 0 ≤ (F 19).toInt ∧ (F 19).toInt ≤ 3000 ∧ 0 ≤ (F 20).toInt ∧ (F 20).toInt ≤ 3000) (hl4 : (F 17).toInt < 2000000000) (hx2 : x < 1073741824 ∧ 0 ≤ y ∧ y < 1200000000 ∧ z < 1200000000) (hdp : D x < d) (hne : NST (X 1) D gf) (s0 : Nat), Met l yX4_restMatches vX4_restMatches { frames := 3 * d + 6, cells := 0, slots := 0, locals := 90 * d + 174 } (va_Pc [.ref (a 4), .int (oI x), .int (oI y), .int (oI z)] (cPre dC dI cB cC cI cJ cZ a F X J R gf gn s0)) (va_Qi (fun (r : Int32) (u : (Nat → Int32) × (Nat → Nat → Int32)) => match u with | (F1, X1) => (0 ≤ (F1 19).toInt ∧ (F1 19).toInt ≤ 3000 ∧ 0 ≤ (F1 20).toInt ∧ (F1 20).toInt ≤ 3000) ∧ ((r).toInt = 0 ∨ (r).toInt = 1)) (fun u => cPost dC dI cB cC cI cJ cZ a (rg 19 20 F u.1) (rg 17 18 (rg 8 11 X u.2) u.2) J R gf gn (va_A (CW cB cC cI cJ cZ a F X J R gf gn) s0)) (va_A (CW cB cC cI cJ cZ a F X J R gf gn) s0)) 0 0 (va_A (CW cB cC cI cJ cZ a F X J R gf gn) s0)
def P_X4_rowMatches (l : Launch) (d : Nat) : Prop := ∀ (dC : Nat → ClassId) (dI : Nat → Nat → Nat) (cB cC cI cJ cZ : ClassId) (a : Nat → Nat) (F : Nat → Int32) (X : Nat → Nat → Int32) (J : Nat → Nat → Int64) (R : Nat → Nat) (gf gn : Nat) (x y z p4 p5 : Int) (D : Int → Nat) (ix : (-2147483648 ≤ x ∧ x < 2147483648)) (iy : (-2147483648 ≤ y ∧ y < 2147483648)) (iz : (-2147483648 ≤ z ∧ z < 2147483648)) (ip4 : (-2147483648 ≤ p4 ∧ p4 < 2147483648)) (ip5 : (-2147483648 ≤ p5 ∧ p5 < 2147483648)) (hgf : gf ≤ 67600) (hgn : gn ≤ 63261) (hsp : SPR (X 1)) (hnt : 0 ≤ (F 13).toInt ∧ (F 13).toInt ≤ (gn : Int)) (hst : 0 ≤ (F 23).toInt ∧ (F 23).toInt ≤ 606) (hsy : 0 ≤ (F 15).toInt ∧ (F 15).toInt ≤ 2560) (hru : VB (X 12)) (hms : 0 ≤ (F 19).toInt ∧ (F 19).toInt ≤ 3000 ∧ 0 ≤ (F 20).toInt ∧ (F 20).toInt ≤ 3000) (hl4 : (F 17).toInt < 2000000000) (hx2 : x < 1073741824 ∧ x < y ∧ y < 1100000000 ∧ z < 1100000000 ∧ 0 ≤ p4 ∧ p4 < 1200000000) (hdp : D x ≤ d) (hne : NST (X 1) D gf) (s0 : Nat), Met l yX4_rowMatches vX4_rowMatches { frames := 3 * d + 7, cells := 0, slots := 0, locals := 90 * d + 200 } (va_Pc [.ref (a 4), .int (oI x), .int (oI y), .int (oI z), .int (oI p4), .int (oI p5)] (cPre dC dI cB cC cI cJ cZ a F X J R gf gn s0)) (va_Qi (fun (r : Int32) (u : (Nat → Int32) × (Nat → Nat → Int32)) => match u with | (F1, X1) => (0 ≤ (F1 19).toInt ∧ (F1 19).toInt ≤ 3000 ∧ 0 ≤ (F1 20).toInt ∧ (F1 20).toInt ≤ 3000) ∧ ((r).toInt = 0 ∨ (r).toInt = 1)) (fun u => cPost dC dI cB cC cI cJ cZ a (rg 19 20 F u.1) (rg 17 18 (rg 8 11 X u.2) u.2) J R gf gn (va_A (CW cB cC cI cJ cZ a F X J R gf gn) s0)) (va_A (CW cB cC cI cJ cZ a F X J R gf gn) s0)) 0 0 (va_A (CW cB cC cI cJ cZ a F X J R gf gn) s0)
set_option maxHeartbeats 4000000 in
set_option maxRecDepth 100000 in
theorem st_formMatches (l : Launch) (d : Nat) (hI : ∀ d1, d1 < d → P_X4_rowMatches l d1) : P_X4_formMatches l d := by
  unfold P_X4_formMatches
  intro dC dI cB cC cI cJ cZ a F X J R gf gn x y z D ix iy iz hgf hgn hsp hnt hst hsy hru hms hl4 hx2 hdp hne s0
  refine Met.ofW (cc := cX4_formMatches) (maxL := 5) (ret := (some .boolean)) (by decide) rfl ?_
  intro p e s m args below meth c s₁ B9 hml hv
  obtain ⟨rfl, hsz0, hP, hK, hD0, hNW⟩ := hv
  have hx := B9.exec
  have hb := B9.bytes
  have hr := B9.returns
  have hts := atoms_spec (ws := vX4_formMatches) B9.pre
  have hown : s.vm.findClass RX4 = some m.cls := findClass_of_methodNamed B9.named
  have hlocks := B9.notSynchronized
  clear B9
  subst hsz0
  have hD := hD0.self (sz := s.heap.size)
  generalize hAe : va_A (CW cB cC cI cJ cZ a F X J R gf gn) s.heap.size = A at hD ⊢
  have hA : ∀ q : Nat, s.heap.size ≤ q → A q := fun q h => by rw [← hAe]; exact Or.inr h
  have hS : va_S A s.heap s.heap [] := va_S.rf
  have hcs : 0 + 0 ≤ (0 : Nat) ∧ 0 + 0 ≤ (0 : Nat) := ⟨Nat.le_refl 0, Nat.le_refl 0⟩
  have hl := lv_entry ([.ref (a 4), .int (oI x), .int (oI y), .int (oI z)]) (n := 5) (Nat.le_of_ble_eq_true rfl)
  rw [lg_entry_eq]
  generalize (lg_sl ([.ref (a 4), .int (oI x), .int (oI y), .int (oI z)]) ++ List.replicate (5 - (lg_sl ([.ref (a 4), .int (oI x), .int (oI y), .int (oI z)])).length) Slot.unset).toArray = ls at hl ⊢
  have hl : lv_has ls 5 [(0, .ref (a 4)), (1, .int (oI x)), (2, .int (oI y)), (3, .int (oI z))] := hl
  refine lv_aload_n hx hb dX4_formMatches_0 rfl (lv_at hl 0 rfl) ?_
  refine cg_4_0 hx hb hts inX4_formMatches_X4 hown hK hP (hts _ lkX4_formMatches_f18) dX4_formMatches_1 ?_
  refine lv_iload_n hx hb dX4_formMatches_4 rfl (lv_at hl 1 rfl) ?_
  refine ccs_iV (As := [.int (oI x)]) (rest := []) ⟨hx, hb, hml, hown, hts⟩ (c_nameOf l dC dI cB cC cI cJ cZ a F X J R gf gn x  (by omega) (show gf ≤ 67600 from by first | assumption | omega)  s.heap.size) (cwV 1 hts kX4_formMatches_X1_nameOf_83 rfl rfl rfl (by decide +kernel) ⟨show 1 + 1 ≤ 3 * d + 5 from by omega, show 8 + (3 + 11) + 60 ≤ 90 * d + 150 from by omega⟩) (va_recv hK hP (ci := 1) (q0 := 1) rfl rfl) hK hNW hP hD hS hA rfl rfl hl.1 (lv_room (Nat.le_of_ble_eq_true rfl)) dX4_formMatches_5 hcs (fun r_1 hw_2 H locs hP hD hS => ?_)
  have i_3 := i32r r_1
  refine lv_istore (lv' := [(4, .int (oI r_1.toInt)), (0, .ref (a 4)), (1, .int (oI x)), (2, .int (oI y)), (3, .int (oI z))]) hx hb dX4_formMatches_8 hl (by decide) rfl (fun ls hl => ?_)
  refine lv_iload hx hb dX4_formMatches_10 (lv_at hl 0 rfl) ?_
  refine lv_bipush (v := oI 8) hx hb dX4_formMatches_12 (by decide) ?_
  refine ci_ne (tgt := 19) hx hb (i32r _) (by decide) dX4_formMatches_14 (by decide) (fun c_4 => ?_) (fun c_4 => ?_)
  · refine lv_aload_n hx hb dX4_formMatches_19 rfl (lv_at hl 1 rfl) ?_
    refine lv_iload hx hb dX4_formMatches_20 (lv_at hl 0 rfl) ?_
    refine ccs_iV (As := [.int (oI r_1.toInt)]) (rest := []) ⟨hx, hb, hml, hown, hts⟩ (c_isVariable l dC dI cB cC cI cJ cZ a F X J R gf gn r_1.toInt  (i32r _) (show gf ≤ 67600 from by first | assumption | omega) (show SPR (X 1) from by first | assumption | omega) (show (F 17).toInt < 2000000000 from by first | assumption | omega)  H.size) (cwV 1 hts kX4_formMatches_X4_isVariable_86 rfl rfl rfl (by decide +kernel) ⟨show 3 + 1 ≤ 3 * d + 5 from by omega, show 8 + (2 + 11) + 105 ≤ 90 * d + 150 from by omega⟩) (va_recv hK hP (ci := 4) (q0 := 4) rfl rfl) hK hNW hP hD hS hA rfl rfl hl.1 (lv_room (Nat.le_of_ble_eq_true rfl)) dX4_formMatches_22 hcs (fun r_5 hw_6 H locs hP hD hS => ?_)
    have hw_6 : (r_5).toInt = 0 ∨ (r_5).toInt = 1 := hw_6
    have hz := hw_6
    have i_7 := i32r r_5
    refine cz_eq (tgt := 65) hx hb (i32r _) dX4_formMatches_25 (by decide) (fun c_8 => ?_) (fun c_8 => ?_)
    · refine lv_iload hx hb dX4_formMatches_65 (lv_at hl 0 rfl) ?_
      refine lv_iconst (v := oI (-1)) hx hb dX4_formMatches_67 (by decide) ?_
      refine ci_eq (tgt := 86) hx hb (i32r _) (by decide) dX4_formMatches_68 (by decide) (fun c_9 => ?_) (fun c_9 => ?_)
      · refine lv_aload_n hx hb dX4_formMatches_86 rfl (lv_at hl 1 rfl) ?_
        refine cg_4_0 hx hb hts inX4_formMatches_X4 hown hK hP (hts _ lkX4_formMatches_f18) dX4_formMatches_87 ?_
        refine lv_iload_n hx hb dX4_formMatches_90 rfl (lv_at hl 2 rfl) ?_
        refine ccs_iV (As := [.int (oI x)]) (rest := []) ⟨hx, hb, hml, hown, hts⟩ (c_isList l dC dI cB cC cI cJ cZ a F X J R gf gn x  (by omega) (show gf ≤ 67600 from by first | assumption | omega)  H.size) (cwV 1 hts kX4_formMatches_X1_isList_102 rfl rfl rfl (by decide +kernel) ⟨show 1 + 1 ≤ 3 * d + 5 from by omega, show 8 + (2 + 11) + 60 ≤ 90 * d + 150 from by omega⟩) (va_recv hK hP (ci := 1) (q0 := 1) rfl rfl) hK hNW hP hD hS hA rfl rfl hl.1 (lv_room (Nat.le_of_ble_eq_true rfl)) dX4_formMatches_91 hcs (fun r_10 hw_11 H locs hP hD hS => ?_)
        have hw_11 : ((r_10).toInt = 1 ∧ 0 ≤ x ∧ x < (gf : Int)) ∨ (r_10).toInt = 0 := hw_11
        have hil := hw_11
        have i_12 := i32r r_10
        refine cz_ne (tgt := 122) hx hb (i32r _) dX4_formMatches_94 (by decide) (fun c_13 => ?_) (fun c_13 => ?_)
        · refine lv_aload_n hx hb dX4_formMatches_122 rfl (lv_at hl 1 rfl) ?_
          refine cg_4_0 hx hb hts inX4_formMatches_X4 hown hK hP (hts _ lkX4_formMatches_f18) dX4_formMatches_123 ?_
          refine lv_iload_n hx hb dX4_formMatches_126 rfl (lv_at hl 3 rfl) ?_
          refine ccs_iV (As := [.int (oI y)]) (rest := []) ⟨hx, hb, hml, hown, hts⟩ (c_isList l dC dI cB cC cI cJ cZ a F X J R gf gn y  (by omega) (show gf ≤ 67600 from by first | assumption | omega)  H.size) (cwV 1 hts kX4_formMatches_X1_isList_102 rfl rfl rfl (by decide +kernel) ⟨show 1 + 1 ≤ 3 * d + 5 from by omega, show 8 + (2 + 11) + 60 ≤ 90 * d + 150 from by omega⟩) (va_recv hK hP (ci := 1) (q0 := 1) rfl rfl) hK hNW hP hD hS hA rfl rfl hl.1 (lv_room (Nat.le_of_ble_eq_true rfl)) dX4_formMatches_127 hcs (fun r_14 hw_15 H locs hP hD hS => ?_)
          have hw_15 : ((r_14).toInt = 1 ∧ 0 ≤ y ∧ y < (gf : Int)) ∨ (r_14).toInt = 0 := hw_15
          have hil := hw_15
          have i_16 := i32r r_14
          refine cz_eq (tgt := 153) hx hb (i32r _) dX4_formMatches_130 (by decide) (fun c_17 => ?_) (fun c_17 => ?_)
          · refine lv_iconst (v := oI 0) hx hb dX4_formMatches_153 (by decide) ?_
            have e0 : (oI 0).toInt = 0 := by decide
            have eF9 : rg 19 20 F F = F := by funext k; simp only [rg, va_up]; (repeat' split) <;> first | with_reducible rfl | omega
            have eX9 : rg 17 18 (rg 8 11 X X) X = X := by funext k; simp only [rg, va_up]; (repeat' split) <;> first | with_reducible rfl | omega
            have hP9 : va_P (dC, dI) vwCl (CW cB cC cI cJ cZ a (rg 19 20 F F) (rg 17 18 (rg 8 11 X X) X) J R gf gn) H := by rw [eF9, eX9]; exact hP
            have hD9 : va_D A (CW cB cC cI cJ cZ a (rg 19 20 F F) (rg 17 18 (rg 8 11 X X) X) J R gf gn) := by rw [eF9, eX9]; exact hD
            have hpost : (0 ≤ (F 19).toInt ∧ (F 19).toInt ≤ 3000 ∧ 0 ≤ (F 20).toInt ∧ (F 20).toInt ≤ 3000) ∧ ((oI 0).toInt = 0 ∨ (oI 0).toInt = 1) := by first | assumption | omega | (with_reducible rfl) | ((repeat' apply And.intro) <;> first | assumption | omega | (with_reducible rfl))
            exact W.zret (v := (oI 0)) hx hb hr (by first | rfl | decide | exact zb9 (by omega)) (fun t ht hW => ⟨⟨(oI 0), (F, X), rfl, hpost, by rw [ht]; exact hP9, va_K.moved hW.alike hK, hD9⟩, hS.F ht⟩) hS.2.2 dX4_formMatches_154
          · refine lv_aload_n hx hb dX4_formMatches_133 rfl (lv_at hl 1 rfl) ?_
            refine lv_iload_n hx hb dX4_formMatches_134 rfl (lv_at hl 2 rfl) ?_
            refine lv_iload_n hx hb dX4_formMatches_135 rfl (lv_at hl 2 rfl) ?_
            refine lv_iconst (v := oI 1) hx hb dX4_formMatches_136 (by decide) ?_
            refine lv_iadd hx hb dX4_formMatches_137 ?_
            refine tp_i (oI_add x 1) ?_
            refine lv_iload_n hx hb dX4_formMatches_138 rfl (lv_at hl 3 rfl) ?_
            refine lv_iload_n hx hb dX4_formMatches_139 rfl (lv_at hl 3 rfl) ?_
            refine lv_iconst (v := oI 1) hx hb dX4_formMatches_140 (by decide) ?_
            refine lv_iadd hx hb dX4_formMatches_141 ?_
            refine tp_i (oI_add y 1) ?_
            refine lv_iload_n hx hb dX4_formMatches_142 rfl (lv_at hl 4 rfl) ?_
            refine ccp_iV (As := [.int (oI x), .int (oI (x + 1)), .int (oI y), .int (oI (y + 1)), .int (oI z)]) (rest := []) (gF := fun F9 => rg 19 20 F F9) (gX := fun X9 => rg 17 18 (rg 8 11 X X9) X9) ⟨hx, hb, hml, hown, hts⟩ ((hI (d - 1) (by omega)) dC dI cB cC cI cJ cZ a F X J R gf gn x (x + 1) y (y + 1) z D (by omega) (by omega) (by omega) (by omega) (by omega) (show gf ≤ 67600 from by first | assumption | omega) (show gn ≤ 63261 from by first | assumption | omega) (show SPR (X 1) from by first | assumption | omega) (show 0 ≤ (F 13).toInt ∧ (F 13).toInt ≤ (gn : Int) from by first | assumption | omega) (show 0 ≤ (F 23).toInt ∧ (F 23).toInt ≤ 606 from by first | assumption | omega) (show 0 ≤ (F 15).toInt ∧ (F 15).toInt ≤ 2560 from by first | assumption | omega) (show VB (X 12) from by first | assumption | omega) (show 0 ≤ (F 19).toInt ∧ (F 19).toInt ≤ 3000 ∧ 0 ≤ (F 20).toInt ∧ (F 20).toInt ≤ 3000 from by first | assumption | omega) (show (F 17).toInt < 2000000000 from by first | assumption | omega) (show x < 1073741824 ∧ x < (x + 1) ∧ x + 1 < 1100000000 ∧ y < 1100000000 ∧ 0 ≤ (y + 1) ∧ y + 1 < 1200000000 from by first | assumption | omega) (show D x ≤ d - 1 from by first | assumption | omega) (show NST (X 1) D gf from by assumption) H.size) (cwV 5 hts kX4_formMatches_X4_rowMatches_54 rfl rfl rfl (by decide +kernel) ⟨show (3 * (d - 1) + 7) + 1 ≤ 3 * d + 5 from by omega, show 8 + (9 + 11) + (90 * (d - 1) + 200) ≤ 90 * d + 150 from by omega⟩) (va_recv hK hP (ci := 4) (q0 := 4) rfl rfl) hK hNW hP hD hS hA rfl rfl hl.1 (lv_room (Nat.le_of_ble_eq_true rfl)) dX4_formMatches_143 hcs (fun r_18 F_19 X_20 hw_21 H locs hP hD hS => ?_)
            have hw_21 : (0 ≤ (F_19 19).toInt ∧ (F_19 19).toInt ≤ 3000 ∧ 0 ≤ (F_19 20).toInt ∧ (F_19 20).toInt ≤ 3000) ∧ ((r_18).toInt = 0 ∨ (r_18).toInt = 1) := hw_21
            obtain ⟨hms, hz⟩ := hw_21
            have i_22 := i32r r_18
            refine cz_eq (tgt := 153) hx hb (i32r _) dX4_formMatches_146 (by decide) (fun c_23 => ?_) (fun c_23 => ?_)
            · refine lv_iconst (v := oI 0) hx hb dX4_formMatches_153 (by decide) ?_
              have e0 : (oI 0).toInt = 0 := by decide
              have eF9 : rg 19 20 F (rg 19 20 F F_19) = rg 19 20 F F_19 := by funext k; simp only [rg, va_up]; (repeat' split) <;> first | with_reducible rfl | omega
              have eX9 : rg 17 18 (rg 8 11 X (rg 17 18 (rg 8 11 X X_20) X_20)) (rg 17 18 (rg 8 11 X X_20) X_20) = rg 17 18 (rg 8 11 X X_20) X_20 := by funext k; simp only [rg, va_up]; (repeat' split) <;> first | with_reducible rfl | omega
              have hP9 : va_P (dC, dI) vwCl (CW cB cC cI cJ cZ a (rg 19 20 F (rg 19 20 F F_19)) (rg 17 18 (rg 8 11 X (rg 17 18 (rg 8 11 X X_20) X_20)) (rg 17 18 (rg 8 11 X X_20) X_20)) J R gf gn) H := by rw [eF9, eX9]; exact hP
              have hD9 : va_D A (CW cB cC cI cJ cZ a (rg 19 20 F (rg 19 20 F F_19)) (rg 17 18 (rg 8 11 X (rg 17 18 (rg 8 11 X X_20) X_20)) (rg 17 18 (rg 8 11 X X_20) X_20)) J R gf gn) := by rw [eF9, eX9]; exact hD
              have hpost : (0 ≤ (F_19 19).toInt ∧ (F_19 19).toInt ≤ 3000 ∧ 0 ≤ (F_19 20).toInt ∧ (F_19 20).toInt ≤ 3000) ∧ ((oI 0).toInt = 0 ∨ (oI 0).toInt = 1) := by first | assumption | omega | (with_reducible rfl) | ((repeat' apply And.intro) <;> first | assumption | omega | (with_reducible rfl))
              exact W.zret (v := (oI 0)) hx hb hr (by first | rfl | decide | exact zb9 (by omega)) (fun t ht hW => ⟨⟨(oI 0), (rg 19 20 F F_19, rg 17 18 (rg 8 11 X X_20) X_20), rfl, hpost, by rw [ht]; exact hP9, va_K.moved hW.alike hK, hD9⟩, hS.F ht⟩) hS.2.2 dX4_formMatches_154
            · refine lv_iconst (v := oI 1) hx hb dX4_formMatches_149 (by decide) ?_
              refine lv_goto (tgt := 154) hx hb dX4_formMatches_150 (by decide) ?_
              have e0 : (oI 1).toInt = 1 := by decide
              have eF9 : rg 19 20 F (rg 19 20 F F_19) = rg 19 20 F F_19 := by funext k; simp only [rg, va_up]; (repeat' split) <;> first | with_reducible rfl | omega
              have eX9 : rg 17 18 (rg 8 11 X (rg 17 18 (rg 8 11 X X_20) X_20)) (rg 17 18 (rg 8 11 X X_20) X_20) = rg 17 18 (rg 8 11 X X_20) X_20 := by funext k; simp only [rg, va_up]; (repeat' split) <;> first | with_reducible rfl | omega
              have hP9 : va_P (dC, dI) vwCl (CW cB cC cI cJ cZ a (rg 19 20 F (rg 19 20 F F_19)) (rg 17 18 (rg 8 11 X (rg 17 18 (rg 8 11 X X_20) X_20)) (rg 17 18 (rg 8 11 X X_20) X_20)) J R gf gn) H := by rw [eF9, eX9]; exact hP
              have hD9 : va_D A (CW cB cC cI cJ cZ a (rg 19 20 F (rg 19 20 F F_19)) (rg 17 18 (rg 8 11 X (rg 17 18 (rg 8 11 X X_20) X_20)) (rg 17 18 (rg 8 11 X X_20) X_20)) J R gf gn) := by rw [eF9, eX9]; exact hD
              have hpost : (0 ≤ (F_19 19).toInt ∧ (F_19 19).toInt ≤ 3000 ∧ 0 ≤ (F_19 20).toInt ∧ (F_19 20).toInt ≤ 3000) ∧ ((oI 1).toInt = 0 ∨ (oI 1).toInt = 1) := by first | assumption | omega | (with_reducible rfl) | ((repeat' apply And.intro) <;> first | assumption | omega | (with_reducible rfl))
              exact W.zret (v := (oI 1)) hx hb hr (by first | rfl | decide | exact zb9 (by omega)) (fun t ht hW => ⟨⟨(oI 1), (rg 19 20 F F_19, rg 17 18 (rg 8 11 X X_20) X_20), rfl, hpost, by rw [ht]; exact hP9, va_K.moved hW.alike hK, hD9⟩, hS.F ht⟩) hS.2.2 dX4_formMatches_154
        · refine lv_aload_n hx hb dX4_formMatches_97 rfl (lv_at hl 1 rfl) ?_
          refine cg_4_0 hx hb hts inX4_formMatches_X4 hown hK hP (hts _ lkX4_formMatches_f18) dX4_formMatches_98 ?_
          refine lv_iload_n hx hb dX4_formMatches_101 rfl (lv_at hl 2 rfl) ?_
          refine ccs_iV (As := [.int (oI x)]) (rest := []) ⟨hx, hb, hml, hown, hts⟩ (c_whatIs l dC dI cB cC cI cJ cZ a F X J R gf gn x  (by omega) (show gf ≤ 67600 from by first | assumption | omega)  H.size) (cwV 1 hts kX4_formMatches_X1_whatIs_105 rfl rfl rfl (by decide +kernel) ⟨show 1 + 1 ≤ 3 * d + 5 from by omega, show 8 + (2 + 11) + 60 ≤ 90 * d + 150 from by omega⟩) (va_recv hK hP (ci := 1) (q0 := 1) rfl rfl) hK hNW hP hD hS hA rfl rfl hl.1 (lv_room (Nat.le_of_ble_eq_true rfl)) dX4_formMatches_102 hcs (fun r_24 hw_25 H locs hP hD hS => ?_)
          have i_26 := i32r r_24
          refine lv_aload_n hx hb dX4_formMatches_105 rfl (lv_at hl 1 rfl) ?_
          refine cg_4_0 hx hb hts inX4_formMatches_X4 hown hK hP (hts _ lkX4_formMatches_f18) dX4_formMatches_106 ?_
          refine lv_iload_n hx hb dX4_formMatches_109 rfl (lv_at hl 3 rfl) ?_
          refine ccs_iV (As := [.int (oI y)]) (rest := [.int (oI r_24.toInt)]) ⟨hx, hb, hml, hown, hts⟩ (c_whatIs l dC dI cB cC cI cJ cZ a F X J R gf gn y  (by omega) (show gf ≤ 67600 from by first | assumption | omega)  H.size) (cwV 1 hts kX4_formMatches_X1_whatIs_105 rfl rfl rfl (by decide +kernel) ⟨show 1 + 1 ≤ 3 * d + 5 from by omega, show 8 + (2 + 11) + 60 ≤ 90 * d + 150 from by omega⟩) (va_recv hK hP (ci := 1) (q0 := 1) rfl rfl) hK hNW hP hD hS hA rfl rfl hl.1 (lv_room (Nat.le_of_ble_eq_true rfl)) dX4_formMatches_110 hcs (fun r_27 hw_28 H locs hP hD hS => ?_)
          have i_29 := i32r r_27
          refine ci_ne (tgt := 120) hx hb (i32r _) (i32r _) dX4_formMatches_113 (by decide) (fun c_30 => ?_) (fun c_30 => ?_)
          · refine lv_iconst (v := oI 0) hx hb dX4_formMatches_120 (by decide) ?_
            have e0 : (oI 0).toInt = 0 := by decide
            have eF9 : rg 19 20 F F = F := by funext k; simp only [rg, va_up]; (repeat' split) <;> first | with_reducible rfl | omega
            have eX9 : rg 17 18 (rg 8 11 X X) X = X := by funext k; simp only [rg, va_up]; (repeat' split) <;> first | with_reducible rfl | omega
            have hP9 : va_P (dC, dI) vwCl (CW cB cC cI cJ cZ a (rg 19 20 F F) (rg 17 18 (rg 8 11 X X) X) J R gf gn) H := by rw [eF9, eX9]; exact hP
            have hD9 : va_D A (CW cB cC cI cJ cZ a (rg 19 20 F F) (rg 17 18 (rg 8 11 X X) X) J R gf gn) := by rw [eF9, eX9]; exact hD
            have hpost : (0 ≤ (F 19).toInt ∧ (F 19).toInt ≤ 3000 ∧ 0 ≤ (F 20).toInt ∧ (F 20).toInt ≤ 3000) ∧ ((oI 0).toInt = 0 ∨ (oI 0).toInt = 1) := by first | assumption | omega | (with_reducible rfl) | ((repeat' apply And.intro) <;> first | assumption | omega | (with_reducible rfl))
            exact W.zret (v := (oI 0)) hx hb hr (by first | rfl | decide | exact zb9 (by omega)) (fun t ht hW => ⟨⟨(oI 0), (F, X), rfl, hpost, by rw [ht]; exact hP9, va_K.moved hW.alike hK, hD9⟩, hS.F ht⟩) hS.2.2 dX4_formMatches_121
          · refine lv_iconst (v := oI 1) hx hb dX4_formMatches_116 (by decide) ?_
            refine lv_goto (tgt := 121) hx hb dX4_formMatches_117 (by decide) ?_
            have e0 : (oI 1).toInt = 1 := by decide
            have eF9 : rg 19 20 F F = F := by funext k; simp only [rg, va_up]; (repeat' split) <;> first | with_reducible rfl | omega
            have eX9 : rg 17 18 (rg 8 11 X X) X = X := by funext k; simp only [rg, va_up]; (repeat' split) <;> first | with_reducible rfl | omega
            have hP9 : va_P (dC, dI) vwCl (CW cB cC cI cJ cZ a (rg 19 20 F F) (rg 17 18 (rg 8 11 X X) X) J R gf gn) H := by rw [eF9, eX9]; exact hP
            have hD9 : va_D A (CW cB cC cI cJ cZ a (rg 19 20 F F) (rg 17 18 (rg 8 11 X X) X) J R gf gn) := by rw [eF9, eX9]; exact hD
            have hpost : (0 ≤ (F 19).toInt ∧ (F 19).toInt ≤ 3000 ∧ 0 ≤ (F 20).toInt ∧ (F 20).toInt ≤ 3000) ∧ ((oI 1).toInt = 0 ∨ (oI 1).toInt = 1) := by first | assumption | omega | (with_reducible rfl) | ((repeat' apply And.intro) <;> first | assumption | omega | (with_reducible rfl))
            exact W.zret (v := (oI 1)) hx hb hr (by first | rfl | decide | exact zb9 (by omega)) (fun t ht hW => ⟨⟨(oI 1), (F, X), rfl, hpost, by rw [ht]; exact hP9, va_K.moved hW.alike hK, hD9⟩, hS.F ht⟩) hS.2.2 dX4_formMatches_121
      · refine lv_aload_n hx hb dX4_formMatches_71 rfl (lv_at hl 1 rfl) ?_
        refine lv_iload hx hb dX4_formMatches_72 (lv_at hl 0 rfl) ?_
        refine lv_aload_n hx hb dX4_formMatches_74 rfl (lv_at hl 1 rfl) ?_
        refine cg_4_0 hx hb hts inX4_formMatches_X4 hown hK hP (hts _ lkX4_formMatches_f18) dX4_formMatches_75 ?_
        refine lv_iload_n hx hb dX4_formMatches_78 rfl (lv_at hl 3 rfl) ?_
        refine ccs_iV (As := [.int (oI y)]) (rest := [.int (oI r_1.toInt), .ref (a 4)]) ⟨hx, hb, hml, hown, hts⟩ (c_nameOf l dC dI cB cC cI cJ cZ a F X J R gf gn y  (by omega) (show gf ≤ 67600 from by first | assumption | omega)  H.size) (cwV 1 hts kX4_formMatches_X1_nameOf_83 rfl rfl rfl (by decide +kernel) ⟨show 1 + 1 ≤ 3 * d + 5 from by omega, show 8 + (3 + 11) + 60 ≤ 90 * d + 150 from by omega⟩) (va_recv hK hP (ci := 1) (q0 := 1) rfl rfl) hK hNW hP hD hS hA rfl rfl hl.1 (lv_room (Nat.le_of_ble_eq_true rfl)) dX4_formMatches_79 hcs (fun r_31 hw_32 H locs hP hD hS => ?_)
        have i_33 := i32r r_31
        refine ccs_iV (As := [.int (oI r_1.toInt), .int (oI r_31.toInt)]) (rest := []) ⟨hx, hb, hml, hown, hts⟩ (c_isMeant l dC dI cB cC cI cJ cZ a F X J R gf gn r_1.toInt r_31.toInt  (i32r _) (i32r _) (show gn ≤ 63261 from by first | assumption | omega) (show 0 ≤ (F 13).toInt ∧ (F 13).toInt ≤ (gn : Int) from by first | assumption | omega) (show 0 ≤ (F 23).toInt ∧ (F 23).toInt ≤ 606 from by first | assumption | omega) (show 0 ≤ (F 15).toInt ∧ (F 15).toInt ≤ 2560 from by first | assumption | omega) (show VB (X 12) from by first | assumption | omega)  H.size) (cwV 2 hts kX4_formMatches_X4_isMeant_99 rfl rfl rfl (by decide +kernel) ⟨show 3 + 1 ≤ 3 * d + 5 from by omega, show 8 + (3 + 11) + 106 ≤ 90 * d + 150 from by omega⟩) (va_recv hK hP (ci := 4) (q0 := 4) rfl rfl) hK hNW hP hD hS hA rfl rfl hl.1 (lv_room (Nat.le_of_ble_eq_true rfl)) dX4_formMatches_82 hcs (fun r_34 hw_35 H locs hP hD hS => ?_)
        have hw_35 : (r_34).toInt = 0 ∨ (r_34).toInt = 1 := hw_35
        have hz := hw_35
        have i_36 := i32r r_34
        have e0 : (oI r_34.toInt).toInt = r_34.toInt := congrArg Int32.toInt (oI_toInt _)
        have eF9 : rg 19 20 F F = F := by funext k; simp only [rg, va_up]; (repeat' split) <;> first | with_reducible rfl | omega
        have eX9 : rg 17 18 (rg 8 11 X X) X = X := by funext k; simp only [rg, va_up]; (repeat' split) <;> first | with_reducible rfl | omega
        have hP9 : va_P (dC, dI) vwCl (CW cB cC cI cJ cZ a (rg 19 20 F F) (rg 17 18 (rg 8 11 X X) X) J R gf gn) H := by rw [eF9, eX9]; exact hP
        have hD9 : va_D A (CW cB cC cI cJ cZ a (rg 19 20 F F) (rg 17 18 (rg 8 11 X X) X) J R gf gn) := by rw [eF9, eX9]; exact hD
        have hpost : (0 ≤ (F 19).toInt ∧ (F 19).toInt ≤ 3000 ∧ 0 ≤ (F 20).toInt ∧ (F 20).toInt ≤ 3000) ∧ ((oI r_34.toInt).toInt = 0 ∨ (oI r_34.toInt).toInt = 1) := by first | assumption | omega | (with_reducible rfl) | ((repeat' apply And.intro) <;> first | assumption | omega | (with_reducible rfl))
        exact W.zret (v := (oI r_34.toInt)) hx hb hr (by first | rfl | decide | exact zb9 (by omega)) (fun t ht hW => ⟨⟨(oI r_34.toInt), (F, X), rfl, hpost, by rw [ht]; exact hP9, va_K.moved hW.alike hK, hD9⟩, hS.F ht⟩) hS.2.2 dX4_formMatches_85
    · refine lv_iload_n hx hb dX4_formMatches_28 rfl (lv_at hl 4 rfl) ?_
      refine cz_ne (tgt := 55) hx hb (by omega) dX4_formMatches_29 (by decide) (fun c_37 => ?_) (fun c_37 => ?_)
      · refine lv_aload_n hx hb dX4_formMatches_55 rfl (lv_at hl 1 rfl) ?_
        refine cg_4_3 hx hb hts inX4_formMatches_X4 hown hK hP (hts _ lkX4_formMatches_f30) dX4_formMatches_56 ?_
        refine lv_iload_n hx hb dX4_formMatches_59 rfl (lv_at hl 3 rfl) ?_
        refine ccp_vV (As := [.int (oI y)]) (rest := []) (gF := fun F9 => rg 20 20 F F9) (gX := fun X9 => rg 11 11 X X9) ⟨hx, hb, hml, hown, hts⟩ (c_addForm l dC dI cB cC cI cJ cZ a F X J R gf gn y  (by omega) (show 0 ≤ (F 19).toInt ∧ (F 19).toInt ≤ 3000 ∧ 0 ≤ (F 20).toInt ∧ (F 20).toInt ≤ 3000 from by first | assumption | omega)  H.size) (cwV 1 hts kX4_formMatches_X5_addForm_96 rfl rfl rfl (by decide +kernel) ⟨show 1 + 1 ≤ 3 * d + 5 from by omega, show 8 + (2 + 11) + 60 ≤ 90 * d + 150 from by omega⟩) (va_recv hK hP (ci := 5) (q0 := 5) rfl rfl) hK hNW hP hD hS hA rfl rfl hl.1 (lv_room (Nat.le_of_ble_eq_true rfl)) dX4_formMatches_60 hcs (fun F_38 X_39 hw_40 H locs hP hD hS => ?_)
        have hw_40 : 0 ≤ (F 19).toInt ∧ (F 19).toInt ≤ 3000 ∧ 0 ≤ (F_38 20).toInt ∧ (F_38 20).toInt ≤ 3000 := hw_40
        have hms := hw_40
        refine lv_iconst (v := oI 1) hx hb dX4_formMatches_63 (by decide) ?_
        have e0 : (oI 1).toInt = 1 := by decide
        have eF9 : rg 19 20 F (rg 20 20 F F_38) = rg 20 20 F F_38 := by funext k; simp only [rg, va_up]; (repeat' split) <;> first | with_reducible rfl | omega
        have eX9 : rg 17 18 (rg 8 11 X (rg 11 11 X X_39)) (rg 11 11 X X_39) = rg 11 11 X X_39 := by funext k; simp only [rg, va_up]; (repeat' split) <;> first | with_reducible rfl | omega
        have hP9 : va_P (dC, dI) vwCl (CW cB cC cI cJ cZ a (rg 19 20 F (rg 20 20 F F_38)) (rg 17 18 (rg 8 11 X (rg 11 11 X X_39)) (rg 11 11 X X_39)) J R gf gn) H := by rw [eF9, eX9]; exact hP
        have hD9 : va_D A (CW cB cC cI cJ cZ a (rg 19 20 F (rg 20 20 F F_38)) (rg 17 18 (rg 8 11 X (rg 11 11 X X_39)) (rg 11 11 X X_39)) J R gf gn) := by rw [eF9, eX9]; exact hD
        have hpost : (0 ≤ (F 19).toInt ∧ (F 19).toInt ≤ 3000 ∧ 0 ≤ (F_38 20).toInt ∧ (F_38 20).toInt ≤ 3000) ∧ ((oI 1).toInt = 0 ∨ (oI 1).toInt = 1) := by first | assumption | omega | (with_reducible rfl) | ((repeat' apply And.intro) <;> first | assumption | omega | (with_reducible rfl))
        exact W.zret (v := (oI 1)) hx hb hr (by first | rfl | decide | exact zb9 (by omega)) (fun t ht hW => ⟨⟨(oI 1), (rg 20 20 F F_38, rg 11 11 X X_39), rfl, hpost, by rw [ht]; exact hP9, va_K.moved hW.alike hK, hD9⟩, hS.F ht⟩) hS.2.2 dX4_formMatches_64
      · refine lv_aload_n hx hb dX4_formMatches_32 rfl (lv_at hl 1 rfl) ?_
        refine cg_4_1 hx hb hts inX4_formMatches_X4 hown hK hP (hts _ lkX4_formMatches_f22) dX4_formMatches_33 ?_
        refine lv_iload hx hb dX4_formMatches_36 (lv_at hl 0 rfl) ?_
        refine lv_aload_n hx hb dX4_formMatches_38 rfl (lv_at hl 1 rfl) ?_
        refine cg_4_3 hx hb hts inX4_formMatches_X4 hown hK hP (hts _ lkX4_formMatches_f30) dX4_formMatches_39 ?_
        refine lv_aload_n hx hb dX4_formMatches_42 rfl (lv_at hl 1 rfl) ?_
        refine cg_4_3 hx hb hts inX4_formMatches_X4 hown hK hP (hts _ lkX4_formMatches_f30) dX4_formMatches_43 ?_
        refine cgN_5_5 hx hb hts inX4_formMatches_X5 hown hK hP (va_Nw.use rfl hNW.2.2.2.2.2.2.2.2.2.2.2.2.2.1) dX4_formMatches_46 ?_
        have i_41 := i32r (F 20)
        refine ccp_iV (As := [.int (oI ((F 20).toInt))]) (rest := [.int (oI r_1.toInt), .ref (a 6)]) (gF := fun F9 => rg 19 19 F F9) (gX := fun X9 => rg 8 10 X X9) ⟨hx, hb, hml, hown, hts⟩ (c_addVariableM l dC dI cB cC cI cJ cZ a F X J R gf gn ((F 20).toInt)  (i32r _) (show 0 ≤ (F 19).toInt ∧ (F 19).toInt ≤ 3000 ∧ 0 ≤ (F 20).toInt ∧ (F 20).toInt ≤ 3000 from by first | assumption | omega)  H.size) (cwV 1 hts kX4_formMatches_X5_addVariable_90 rfl rfl rfl (by decide +kernel) ⟨show 1 + 1 ≤ 3 * d + 5 from by omega, show 8 + (2 + 11) + 60 ≤ 90 * d + 150 from by omega⟩) (va_recv hK hP (ci := 5) (q0 := 5) rfl rfl) hK hNW hP hD hS hA rfl rfl hl.1 (lv_room (Nat.le_of_ble_eq_true rfl)) dX4_formMatches_49 hcs (fun r_42 F_43 X_44 hw_45 H locs hP hD hS => ?_)
        have hw_45 : 0 ≤ (F_43 19).toInt ∧ (F_43 19).toInt ≤ 3000 ∧ 0 ≤ (F 20).toInt ∧ (F 20).toInt ≤ 3000 := hw_45
        have hms := hw_45
        have i_46 := i32r r_42
        refine ccp_vV (As := [.int (oI r_1.toInt), .int (oI r_42.toInt)]) (rest := []) (gF := fun _ => rg 19 19 F F_43) (gX := fun X9 => rg 17 18 (rg 8 10 X X_44) X9) ⟨hx, hb, hml, hown, hts⟩ (c_setNote l dC dI cB cC cI cJ cZ a (rg 19 19 F F_43) (rg 8 10 X X_44) J R gf gn r_1.toInt r_42.toInt  (i32r _) (i32r _) (show gn ≤ 63261 from by first | assumption | omega) (show 0 ≤ (F 13).toInt ∧ (F 13).toInt ≤ (gn : Int) from by first | assumption | omega)  H.size) (cwV 2 hts kX4_formMatches_X6_setNote_93 rfl rfl rfl (by decide +kernel) ⟨show 2 + 1 ≤ 3 * d + 5 from by omega, show 8 + (3 + 11) + 81 ≤ 90 * d + 150 from by omega⟩) (va_recv hK hP (ci := 6) (q0 := 6) rfl rfl) hK hNW hP hD hS hA rfl rfl hl.1 (lv_room (Nat.le_of_ble_eq_true rfl)) dX4_formMatches_52 hcs (fun F_47 X_48 hw_49 H locs hP hD hS => ?_)
        refine lv_aload_n hx hb dX4_formMatches_55 rfl (lv_at hl 1 rfl) ?_
        refine cg_4_3 hx hb hts inX4_formMatches_X4 hown hK hP (hts _ lkX4_formMatches_f30) dX4_formMatches_56 ?_
        refine lv_iload_n hx hb dX4_formMatches_59 rfl (lv_at hl 3 rfl) ?_
        refine ccp_vV (As := [.int (oI y)]) (rest := []) (gF := fun F9 => rg 20 20 (rg 19 19 F F_43) F9) (gX := fun X9 => rg 11 11 (rg 17 18 (rg 8 10 X X_44) X_48) X9) ⟨hx, hb, hml, hown, hts⟩ (c_addForm l dC dI cB cC cI cJ cZ a (rg 19 19 F F_43) (rg 17 18 (rg 8 10 X X_44) X_48) J R gf gn y  (by omega) (show 0 ≤ (F_43 19).toInt ∧ (F_43 19).toInt ≤ 3000 ∧ 0 ≤ (F 20).toInt ∧ (F 20).toInt ≤ 3000 from by first | assumption | omega)  H.size) (cwV 1 hts kX4_formMatches_X5_addForm_96 rfl rfl rfl (by decide +kernel) ⟨show 1 + 1 ≤ 3 * d + 5 from by omega, show 8 + (2 + 11) + 60 ≤ 90 * d + 150 from by omega⟩) (va_recv hK hP (ci := 5) (q0 := 5) rfl rfl) hK hNW hP hD hS hA rfl rfl hl.1 (lv_room (Nat.le_of_ble_eq_true rfl)) dX4_formMatches_60 hcs (fun F_50 X_51 hw_52 H locs hP hD hS => ?_)
        have hw_52 : 0 ≤ (F_43 19).toInt ∧ (F_43 19).toInt ≤ 3000 ∧ 0 ≤ (F_50 20).toInt ∧ (F_50 20).toInt ≤ 3000 := hw_52
        have hms := hw_52
        refine lv_iconst (v := oI 1) hx hb dX4_formMatches_63 (by decide) ?_
        have e0 : (oI 1).toInt = 1 := by decide
        have eF9 : rg 19 20 F (rg 20 20 (rg 19 19 F F_43) F_50) = rg 20 20 (rg 19 19 F F_43) F_50 := by funext k; simp only [rg, va_up]; (repeat' split) <;> first | with_reducible rfl | omega
        have eX9 : rg 17 18 (rg 8 11 X (rg 11 11 (rg 17 18 (rg 8 10 X X_44) X_48) X_51)) (rg 11 11 (rg 17 18 (rg 8 10 X X_44) X_48) X_51) = rg 11 11 (rg 17 18 (rg 8 10 X X_44) X_48) X_51 := by funext k; simp only [rg, va_up]; (repeat' split) <;> first | with_reducible rfl | omega
        have hP9 : va_P (dC, dI) vwCl (CW cB cC cI cJ cZ a (rg 19 20 F (rg 20 20 (rg 19 19 F F_43) F_50)) (rg 17 18 (rg 8 11 X (rg 11 11 (rg 17 18 (rg 8 10 X X_44) X_48) X_51)) (rg 11 11 (rg 17 18 (rg 8 10 X X_44) X_48) X_51)) J R gf gn) H := by rw [eF9, eX9]; exact hP
        have hD9 : va_D A (CW cB cC cI cJ cZ a (rg 19 20 F (rg 20 20 (rg 19 19 F F_43) F_50)) (rg 17 18 (rg 8 11 X (rg 11 11 (rg 17 18 (rg 8 10 X X_44) X_48) X_51)) (rg 11 11 (rg 17 18 (rg 8 10 X X_44) X_48) X_51)) J R gf gn) := by rw [eF9, eX9]; exact hD
        have hpost : (0 ≤ (F_43 19).toInt ∧ (F_43 19).toInt ≤ 3000 ∧ 0 ≤ (F_50 20).toInt ∧ (F_50 20).toInt ≤ 3000) ∧ ((oI 1).toInt = 0 ∨ (oI 1).toInt = 1) := by first | assumption | omega | (with_reducible rfl) | ((repeat' apply And.intro) <;> first | assumption | omega | (with_reducible rfl))
        exact W.zret (v := (oI 1)) hx hb hr (by first | rfl | decide | exact zb9 (by omega)) (fun t ht hW => ⟨⟨(oI 1), (rg 20 20 (rg 19 19 F F_43) F_50, rg 11 11 (rg 17 18 (rg 8 10 X X_44) X_48) X_51), rfl, hpost, by rw [ht]; exact hP9, va_K.moved hW.alike hK, hD9⟩, hS.F ht⟩) hS.2.2 dX4_formMatches_64
  · refine lv_iconst (v := oI 1) hx hb dX4_formMatches_17 (by decide) ?_
    have e0 : (oI 1).toInt = 1 := by decide
    have eF9 : rg 19 20 F F = F := by funext k; simp only [rg, va_up]; (repeat' split) <;> first | with_reducible rfl | omega
    have eX9 : rg 17 18 (rg 8 11 X X) X = X := by funext k; simp only [rg, va_up]; (repeat' split) <;> first | with_reducible rfl | omega
    have hP9 : va_P (dC, dI) vwCl (CW cB cC cI cJ cZ a (rg 19 20 F F) (rg 17 18 (rg 8 11 X X) X) J R gf gn) H := by rw [eF9, eX9]; exact hP
    have hD9 : va_D A (CW cB cC cI cJ cZ a (rg 19 20 F F) (rg 17 18 (rg 8 11 X X) X) J R gf gn) := by rw [eF9, eX9]; exact hD
    have hpost : (0 ≤ (F 19).toInt ∧ (F 19).toInt ≤ 3000 ∧ 0 ≤ (F 20).toInt ∧ (F 20).toInt ≤ 3000) ∧ ((oI 1).toInt = 0 ∨ (oI 1).toInt = 1) := by first | assumption | omega | (with_reducible rfl) | ((repeat' apply And.intro) <;> first | assumption | omega | (with_reducible rfl))
    exact W.zret (v := (oI 1)) hx hb hr (by first | rfl | decide | exact zb9 (by omega)) (fun t ht hW => ⟨⟨(oI 1), (F, X), rfl, hpost, by rw [ht]; exact hP9, va_K.moved hW.alike hK, hD9⟩, hS.F ht⟩) hS.2.2 dX4_formMatches_18

set_option maxHeartbeats 4000000 in
set_option maxRecDepth 100000 in
theorem lq_restMatches {p : Program} {l : Launch} {e : Env} {s : State} {m : MethodId} {args : Array Value} {below : List Frame} {meth : Method} {c : Code} {A : Nat → Prop} {dC : Nat → ClassId} {dI : Nat → Nat → Nat} {cB cC cI cJ cZ : ClassId} {a : Nat → Nat} {F : Nat → Int32} {X : Nat → Nat → Int32} {J : Nat → Nat → Int64} {R : Nat → Nat} {gf gn : Nat} (hx : p.tables.exec = Jvm.exec) (hb : c.code = cX4_restMatches) (hml : c.maxLocals = 7) (hown : s.vm.findClass RX4 = some m.cls) (hts : ∀ w ∈ vX4_restMatches, w.before args s = true) (hK : va_K (dC, dI) vwCl (TY cB cC cI cJ cZ) s) (hNW : NW s) (hA : ∀ q : Nat, s.heap.size ≤ q → A q) (hr : meth.sig.returnType = (some .boolean)) (hlocks : meth.locks = false) (x y z : Int) (d : Nat) (D : Int → Nat) (ix : (-2147483648 ≤ x ∧ x < 2147483648)) (iy : (-2147483648 ≤ y ∧ y < 2147483648)) (iz : (-2147483648 ≤ z ∧ z < 2147483648)) (hgf : gf ≤ 67600) (hgn : gn ≤ 63261) (hsp : SPR (X 1)) (hnt : 0 ≤ (F 13).toInt ∧ (F 13).toInt ≤ (gn : Int)) (hst : 0 ≤ (F 23).toInt ∧ (F 23).toInt ≤ 606) (hsy : 0 ≤ (F 15).toInt ∧ (F 15).toInt ≤ 2560) (hru : VB (X 12)) (hms : 0 ≤ (F 19).toInt ∧ (F 19).toInt ≤ 3000 ∧ 0 ≤ (F 20).toInt ∧ (F 20).toInt ≤ 3000) (hl4 : (F 17).toInt < 2000000000) (hx2 : x < 1073741824 ∧ 0 ≤ y ∧ y < 1200000000 ∧ z < 1200000000) (hdp : D x < d) (hne : NST (X 1) D gf)  (hI : P_X4_formMatches l d) : ∀ (k : Nat) (F1 : Nat → Int32) (X1 : Nat → Nat → Int32) (si : Int) (tu : Int) (q : Int), (z - q).toNat < k → (-2147483648 ≤ si ∧ si < 2147483648) → (-2147483648 ≤ tu ∧ tu < 2147483648) → (-2147483648 ≤ q ∧ q < 2147483648) → (y ≤ q ∧ 0 ≤ tu ∧ tu ≤ q - y ∧ (tu = 0 ∨ tu ≤ z - y + 67600)) → (0 ≤ (F1 19).toInt ∧ (F1 19).toInt ≤ 3000 ∧ 0 ≤ (F1 20).toInt ∧ (F1 20).toInt ≤ 3000) → ∀ (H : Heap) (locs : List Loc), va_P (dC, dI) vwCl (CW cB cC cI cJ cZ a (rg 19 20 F F1) (rg 17 18 (rg 8 11 X X1) X1) J R gf gn) H → va_D A (CW cB cC cI cJ cZ a (rg 19 20 F F1) (rg 17 18 (rg 8 11 X X1) X1) J R gf gn) → va_S A s.heap H locs → ∀ (ls : Array Slot), lv_has ls 7 [(0, .ref (a 4)), (1, .int (oI x)), (3, .int (oI z)), (4, .int (oI si)), (5, .int (oI tu)), (6, .int (oI q))] → W p l e (headSpec vX4_restMatches { frames := 3 * d + 6, cells := 0, slots := 0, locals := 90 * d + 174 }).room s m args below meth c H locs 0 0 (MQ below (va_Qi (fun (r : Int32) (u : (Nat → Int32) × (Nat → Nat → Int32)) => match u with | (F1, X1) => (0 ≤ (F1 19).toInt ∧ (F1 19).toInt ≤ 3000 ∧ 0 ≤ (F1 20).toInt ∧ (F1 20).toInt ≤ 3000) ∧ ((r).toInt = 0 ∨ (r).toInt = 1)) (fun u => cPost dC dI cB cC cI cJ cZ a (rg 19 20 F u.1) (rg 17 18 (rg 8 11 X u.2) u.2) J R gf gn A) A) args s 0 0 A) (F0 m 20 ls []) := by
  have hcs : 0 + 0 ≤ (0 : Nat) ∧ 0 + 0 ≤ (0 : Nat) := ⟨Nat.le_refl 0, Nat.le_refl 0⟩
  intro k
  induction k with
  | zero =>
    intro F1 X1 si tu q hk isi9 itu9 iq9 hq hms
    exact absurd hk (Nat.not_lt_zero _)
  | succ k ih =>
    intro F1 X1 si tu q hk isi9 itu9 iq9 hq hms H locs hP hD hS ls hl
    refine lv_iload hx hb dX4_restMatches_20 (lv_at hl 5 rfl) ?_
    refine lv_iload_n hx hb dX4_restMatches_22 rfl (lv_at hl 2 rfl) ?_
    refine ci_ge (tgt := 56) hx hb (by omega) (by omega) dX4_restMatches_23 (by decide) (fun c_1 => ?_) (fun c_1 => ?_)
    · refine lv_aload_n hx hb dX4_restMatches_56 rfl (lv_at hl 0 rfl) ?_
      refine cg_4_3 hx hb hts inX4_restMatches_X4 hown hK hP (hts _ lkX4_restMatches_f30) dX4_restMatches_57 ?_
      refine lv_iload hx hb dX4_restMatches_60 (lv_at hl 3 rfl) ?_
      refine lv_iload hx hb dX4_restMatches_62 (lv_at hl 4 rfl) ?_
      refine ccp_vV (As := [.int (oI si), .int (oI tu)]) (rest := []) (gF := fun _ => rg 19 20 F F1) (gX := fun X9 => rg 9 10 (rg 17 18 (rg 8 11 X X1) X1) X9) ⟨hx, hb, hml, hown, hts⟩ (c_repeat l dC dI cB cC cI cJ cZ a (rg 19 20 F F1) (rg 17 18 (rg 8 11 X X1) X1) J R gf gn si tu  (by omega) (by omega) (show 0 ≤ (F1 19).toInt ∧ (F1 19).toInt ≤ 3000 ∧ 0 ≤ (F1 20).toInt ∧ (F1 20).toInt ≤ 3000 from by first | assumption | omega)  H.size) (cwV 2 hts kX4_restMatches_X5_repeat_77 rfl rfl rfl (by decide +kernel) ⟨show 1 + 1 ≤ 3 * d + 6 from by omega, show 8 + (4 + 11) + 60 ≤ 90 * d + 174 from by omega⟩) (va_recv hK hP (ci := 5) (q0 := 5) rfl rfl) hK hNW hP hD hS hA rfl rfl hl.1 (lv_room (Nat.le_of_ble_eq_true rfl)) dX4_restMatches_64 hcs (fun F_2 X_3 hw_4 H locs hP hD hS => ?_)
      refine lv_iconst (v := oI 1) hx hb dX4_restMatches_67 (by decide) ?_
      have e0 : (oI 1).toInt = 1 := by decide
      have eF9 : rg 19 20 F (rg 19 20 F F1) = rg 19 20 F F1 := by funext k; simp only [rg, va_up]; (repeat' split) <;> first | with_reducible rfl | omega
      have eX9 : rg 17 18 (rg 8 11 X (rg 9 10 (rg 17 18 (rg 8 11 X X1) X1) X_3)) (rg 9 10 (rg 17 18 (rg 8 11 X X1) X1) X_3) = rg 9 10 (rg 17 18 (rg 8 11 X X1) X1) X_3 := by funext k; simp only [rg, va_up]; (repeat' split) <;> first | with_reducible rfl | omega
      have hP9 : va_P (dC, dI) vwCl (CW cB cC cI cJ cZ a (rg 19 20 F (rg 19 20 F F1)) (rg 17 18 (rg 8 11 X (rg 9 10 (rg 17 18 (rg 8 11 X X1) X1) X_3)) (rg 9 10 (rg 17 18 (rg 8 11 X X1) X1) X_3)) J R gf gn) H := by rw [eF9, eX9]; exact hP
      have hD9 : va_D A (CW cB cC cI cJ cZ a (rg 19 20 F (rg 19 20 F F1)) (rg 17 18 (rg 8 11 X (rg 9 10 (rg 17 18 (rg 8 11 X X1) X1) X_3)) (rg 9 10 (rg 17 18 (rg 8 11 X X1) X1) X_3)) J R gf gn) := by rw [eF9, eX9]; exact hD
      have hpost : (0 ≤ (F1 19).toInt ∧ (F1 19).toInt ≤ 3000 ∧ 0 ≤ (F1 20).toInt ∧ (F1 20).toInt ≤ 3000) ∧ ((oI 1).toInt = 0 ∨ (oI 1).toInt = 1) := by first | assumption | omega | (with_reducible rfl) | ((repeat' apply And.intro) <;> first | assumption | omega | (with_reducible rfl))
      exact W.zret (v := (oI 1)) hx hb hr (by first | rfl | decide | exact zb9 (by omega)) (fun t ht hW => ⟨⟨(oI 1), (rg 19 20 F F1, rg 9 10 (rg 17 18 (rg 8 11 X X1) X1) X_3), rfl, hpost, by rw [ht]; exact hP9, va_K.moved hW.alike hK, hD9⟩, hS.F ht⟩) hS.2.2 dX4_restMatches_68
    · refine lv_aload_n hx hb dX4_restMatches_26 rfl (lv_at hl 0 rfl) ?_
      refine lv_iload_n hx hb dX4_restMatches_27 rfl (lv_at hl 1 rfl) ?_
      refine lv_iload hx hb dX4_restMatches_28 (lv_at hl 5 rfl) ?_
      refine lv_iconst (v := oI 1) hx hb dX4_restMatches_30 (by decide) ?_
      refine ccp_iV (As := [.int (oI x), .int (oI q), .int (oI 1)]) (rest := []) (gF := fun F9 => rg 19 20 (rg 19 20 F F1) F9) (gX := fun X9 => rg 17 18 (rg 8 11 (rg 17 18 (rg 8 11 X X1) X1) X9) X9) ⟨hx, hb, hml, hown, hts⟩ (hI dC dI cB cC cI cJ cZ a (rg 19 20 F F1) (rg 17 18 (rg 8 11 X X1) X1) J R gf gn x q 1 D (by omega) (by omega) (by decide) (show gf ≤ 67600 from by first | assumption | omega) (show gn ≤ 63261 from by first | assumption | omega) (show SPR (X 1) from by first | assumption | omega) (show 0 ≤ (F 13).toInt ∧ (F 13).toInt ≤ (gn : Int) from by first | assumption | omega) (show 0 ≤ (F 23).toInt ∧ (F 23).toInt ≤ 606 from by first | assumption | omega) (show 0 ≤ (F 15).toInt ∧ (F 15).toInt ≤ 2560 from by first | assumption | omega) (show VB (X 12) from by first | assumption | omega) (show 0 ≤ (F1 19).toInt ∧ (F1 19).toInt ≤ 3000 ∧ 0 ≤ (F1 20).toInt ∧ (F1 20).toInt ≤ 3000 from by first | assumption | omega) (show (F 17).toInt < 2000000000 from by first | assumption | omega) (show x < 1073741824 ∧ q < 1200000000 from by first | assumption | omega) (show D x < d from by first | assumption | omega) (show NST (X 1) D gf from by assumption) H.size) (cwV 3 hts kX4_restMatches_X4_formMatches_66 rfl rfl rfl (by decide +kernel) ⟨show (3 * d + 5) + 1 ≤ 3 * d + 6 from by omega, show 8 + (5 + 11) + (90 * d + 150) ≤ 90 * d + 174 from by omega⟩) (va_recv hK hP (ci := 4) (q0 := 4) rfl rfl) hK hNW hP hD hS hA rfl rfl hl.1 (lv_room (Nat.le_of_ble_eq_true rfl)) dX4_restMatches_31 hcs (fun r_5 F_6 X_7 hw_8 H locs hP hD hS => ?_)
      have hw_8 : (0 ≤ (F_6 19).toInt ∧ (F_6 19).toInt ≤ 3000 ∧ 0 ≤ (F_6 20).toInt ∧ (F_6 20).toInt ≤ 3000) ∧ ((r_5).toInt = 0 ∨ (r_5).toInt = 1) := hw_8
      obtain ⟨hms, hz⟩ := hw_8
      have i_9 := i32r r_5
      refine cz_ne (tgt := 39) hx hb (i32r _) dX4_restMatches_34 (by decide) (fun c_10 => ?_) (fun c_10 => ?_)
      · refine lv_iinc (v := oI (tu + 1)) (lv' := [(5, .int (oI (tu + 1))), (0, .ref (a 4)), (1, .int (oI x)), (3, .int (oI z)), (4, .int (oI si)), (6, .int (oI q))]) hx hb dX4_restMatches_39 hl (k := 4) rfl (oI_add tu 1) (by decide) rfl (fun ls hl => ?_)
        refine lv_aload_n hx hb dX4_restMatches_42 rfl (lv_at hl 1 rfl) ?_
        refine cg_4_0 hx hb hts inX4_restMatches_X4 hown hK hP (hts _ lkX4_restMatches_f18) dX4_restMatches_43 ?_
        refine lv_iload hx hb dX4_restMatches_46 (lv_at hl 5 rfl) ?_
        refine ccs_iV (As := [.int (oI q)]) (rest := []) ⟨hx, hb, hml, hown, hts⟩ (c_after l dC dI cB cC cI cJ cZ a (rg 19 20 (rg 19 20 F F1) F_6) (rg 17 18 (rg 8 11 (rg 17 18 (rg 8 11 X X1) X1) X_7) X_7) J R gf gn q  (by omega) (show gf ≤ 67600 from by first | assumption | omega) (show SPR (X 1) from by first | assumption | omega) (show q < 2147483647 from by first | assumption | omega) H.size) (cwV 1 hts kX4_restMatches_X1_after_40 rfl rfl rfl (by decide +kernel) ⟨show 1 + 1 ≤ 3 * d + 6 from by omega, show 8 + (2 + 11) + 60 ≤ 90 * d + 174 from by omega⟩) (va_recv hK hP (ci := 1) (q0 := 1) rfl rfl) hK hNW hP hD hS hA rfl rfl hl.1 (lv_room (Nat.le_of_ble_eq_true rfl)) dX4_restMatches_48 hcs (fun r_11 hw_12 H locs hP hD hS => ?_)
        have hw_12 : (r_11).toInt = AF (X 1) gf q ∧ q < (r_11).toInt ∧ (r_11).toInt ≤ q + 67600 := hw_12
        obtain ⟨ea, la, ua⟩ := hw_12
        have i_13 := i32r r_11
        refine lv_istore (lv' := [(6, .int (oI r_11.toInt)), (5, .int (oI (tu + 1))), (0, .ref (a 4)), (1, .int (oI x)), (3, .int (oI z)), (4, .int (oI si))]) hx hb dX4_restMatches_51 hl (by decide) rfl (fun ls hl => ?_)
        refine lv_goto (tgt := 20) hx hb dX4_restMatches_53 (by decide) ?_
        have eF9 : rg 19 20 F (rg 19 20 (rg 19 20 F F1) F_6) = rg 19 20 (rg 19 20 F F1) F_6 := by funext k; simp only [rg, va_up]; (repeat' split) <;> first | with_reducible rfl | omega
        have eX9 : rg 17 18 (rg 8 11 X (rg 17 18 (rg 8 11 (rg 17 18 (rg 8 11 X X1) X1) X_7) X_7)) (rg 17 18 (rg 8 11 (rg 17 18 (rg 8 11 X X1) X1) X_7) X_7) = rg 17 18 (rg 8 11 (rg 17 18 (rg 8 11 X X1) X1) X_7) X_7 := by funext k; simp only [rg, va_up]; (repeat' split) <;> first | with_reducible rfl | omega
        have hP9 : va_P (dC, dI) vwCl (CW cB cC cI cJ cZ a (rg 19 20 F (rg 19 20 (rg 19 20 F F1) F_6)) (rg 17 18 (rg 8 11 X (rg 17 18 (rg 8 11 (rg 17 18 (rg 8 11 X X1) X1) X_7) X_7)) (rg 17 18 (rg 8 11 (rg 17 18 (rg 8 11 X X1) X1) X_7) X_7)) J R gf gn) H := by rw [eF9, eX9]; exact hP
        have hD9 : va_D A (CW cB cC cI cJ cZ a (rg 19 20 F (rg 19 20 (rg 19 20 F F1) F_6)) (rg 17 18 (rg 8 11 X (rg 17 18 (rg 8 11 (rg 17 18 (rg 8 11 X X1) X1) X_7) X_7)) (rg 17 18 (rg 8 11 (rg 17 18 (rg 8 11 X X1) X1) X_7) X_7)) J R gf gn) := by rw [eF9, eX9]; exact hD
        exact ih (rg 19 20 (rg 19 20 F F1) F_6) (rg 17 18 (rg 8 11 (rg 17 18 (rg 8 11 X X1) X1) X_7) X_7) si (tu + 1) r_11.toInt (show (z - r_11.toInt).toNat < k from by omega) (by omega) (by omega) (i32r _) (show y ≤ r_11.toInt ∧ 0 ≤ (tu + 1) ∧ (tu + 1) ≤ r_11.toInt - y ∧ ((tu + 1) = 0 ∨ (tu + 1) ≤ z - y + 67600) from by first | assumption | omega | (with_reducible rfl) | ((repeat' apply And.intro) <;> first | assumption | omega | (with_reducible rfl))) (show 0 ≤ (F_6 19).toInt ∧ (F_6 19).toInt ≤ 3000 ∧ 0 ≤ (F_6 20).toInt ∧ (F_6 20).toInt ≤ 3000 from by first | assumption | omega | (with_reducible rfl) | ((repeat' apply And.intro) <;> first | assumption | omega | (with_reducible rfl))) _ _ hP9 hD9 hS ls (lv_sub hl [2, 3, 4, 5, 1, 0] rfl)
      · refine lv_iconst (v := oI 0) hx hb dX4_restMatches_37 (by decide) ?_
        have e0 : (oI 0).toInt = 0 := by decide
        have eF9 : rg 19 20 F (rg 19 20 (rg 19 20 F F1) F_6) = rg 19 20 (rg 19 20 F F1) F_6 := by funext k; simp only [rg, va_up]; (repeat' split) <;> first | with_reducible rfl | omega
        have eX9 : rg 17 18 (rg 8 11 X (rg 17 18 (rg 8 11 (rg 17 18 (rg 8 11 X X1) X1) X_7) X_7)) (rg 17 18 (rg 8 11 (rg 17 18 (rg 8 11 X X1) X1) X_7) X_7) = rg 17 18 (rg 8 11 (rg 17 18 (rg 8 11 X X1) X1) X_7) X_7 := by funext k; simp only [rg, va_up]; (repeat' split) <;> first | with_reducible rfl | omega
        have hP9 : va_P (dC, dI) vwCl (CW cB cC cI cJ cZ a (rg 19 20 F (rg 19 20 (rg 19 20 F F1) F_6)) (rg 17 18 (rg 8 11 X (rg 17 18 (rg 8 11 (rg 17 18 (rg 8 11 X X1) X1) X_7) X_7)) (rg 17 18 (rg 8 11 (rg 17 18 (rg 8 11 X X1) X1) X_7) X_7)) J R gf gn) H := by rw [eF9, eX9]; exact hP
        have hD9 : va_D A (CW cB cC cI cJ cZ a (rg 19 20 F (rg 19 20 (rg 19 20 F F1) F_6)) (rg 17 18 (rg 8 11 X (rg 17 18 (rg 8 11 (rg 17 18 (rg 8 11 X X1) X1) X_7) X_7)) (rg 17 18 (rg 8 11 (rg 17 18 (rg 8 11 X X1) X1) X_7) X_7)) J R gf gn) := by rw [eF9, eX9]; exact hD
        have hpost : (0 ≤ (F_6 19).toInt ∧ (F_6 19).toInt ≤ 3000 ∧ 0 ≤ (F_6 20).toInt ∧ (F_6 20).toInt ≤ 3000) ∧ ((oI 0).toInt = 0 ∨ (oI 0).toInt = 1) := by first | assumption | omega | (with_reducible rfl) | ((repeat' apply And.intro) <;> first | assumption | omega | (with_reducible rfl))
        exact W.zret (v := (oI 0)) hx hb hr (by first | rfl | decide | exact zb9 (by omega)) (fun t ht hW => ⟨⟨(oI 0), (rg 19 20 (rg 19 20 F F1) F_6, rg 17 18 (rg 8 11 (rg 17 18 (rg 8 11 X X1) X1) X_7) X_7), rfl, hpost, by rw [ht]; exact hP9, va_K.moved hW.alike hK, hD9⟩, hS.F ht⟩) hS.2.2 dX4_restMatches_38

set_option maxHeartbeats 4000000 in
set_option maxRecDepth 100000 in
theorem st_restMatches (l : Launch) (d : Nat) (hI : P_X4_formMatches l d) : P_X4_restMatches l d := by
  unfold P_X4_restMatches
  intro dC dI cB cC cI cJ cZ a F X J R gf gn x y z D ix iy iz hgf hgn hsp hnt hst hsy hru hms hl4 hx2 hdp hne s0
  refine Met.ofW (cc := cX4_restMatches) (maxL := 7) (ret := (some .boolean)) (by decide) rfl ?_
  intro p e s m args below meth c s₁ B9 hml hv
  obtain ⟨rfl, hsz0, hP, hK, hD0, hNW⟩ := hv
  have hx := B9.exec
  have hb := B9.bytes
  have hr := B9.returns
  have hts := atoms_spec (ws := vX4_restMatches) B9.pre
  have hown : s.vm.findClass RX4 = some m.cls := findClass_of_methodNamed B9.named
  have hlocks := B9.notSynchronized
  clear B9
  subst hsz0
  have hD := hD0.self (sz := s.heap.size)
  generalize hAe : va_A (CW cB cC cI cJ cZ a F X J R gf gn) s.heap.size = A at hD ⊢
  have hA : ∀ q : Nat, s.heap.size ≤ q → A q := fun q h => by rw [← hAe]; exact Or.inr h
  have hS : va_S A s.heap s.heap [] := va_S.rf
  have hcs : 0 + 0 ≤ (0 : Nat) ∧ 0 + 0 ≤ (0 : Nat) := ⟨Nat.le_refl 0, Nat.le_refl 0⟩
  have hl := lv_entry ([.ref (a 4), .int (oI x), .int (oI y), .int (oI z)]) (n := 7) (Nat.le_of_ble_eq_true rfl)
  rw [lg_entry_eq]
  generalize (lg_sl ([.ref (a 4), .int (oI x), .int (oI y), .int (oI z)]) ++ List.replicate (7 - (lg_sl ([.ref (a 4), .int (oI x), .int (oI y), .int (oI z)])).length) Slot.unset).toArray = ls at hl ⊢
  have hl : lv_has ls 7 [(0, .ref (a 4)), (1, .int (oI x)), (2, .int (oI y)), (3, .int (oI z))] := hl
  refine lv_aload_n hx hb dX4_restMatches_0 rfl (lv_at hl 0 rfl) ?_
  refine cg_4_3 hx hb hts inX4_restMatches_X4 hown hK hP (hts _ lkX4_restMatches_f30) dX4_restMatches_1 ?_
  refine cgN_5_4 hx hb hts inX4_restMatches_X5 hown hK hP (va_Nw.use rfl hNW.2.2.2.2.2.2.2.2.2.2.2.2.1) dX4_restMatches_4 ?_
  have i_1 := i32r (F 19)
  refine lv_istore (lv' := [(4, .int (oI ((F 19).toInt))), (0, .ref (a 4)), (1, .int (oI x)), (2, .int (oI y)), (3, .int (oI z))]) hx hb dX4_restMatches_7 hl (by decide) rfl (fun ls hl => ?_)
  refine lv_aload_n hx hb dX4_restMatches_9 rfl (lv_at hl 1 rfl) ?_
  refine lv_iload_n hx hb dX4_restMatches_10 rfl (lv_at hl 2 rfl) ?_
  refine ccp_vV (As := [.int (oI x)]) (rest := []) (gF := fun F9 => rg 19 19 F F9) (gX := fun X9 => rg 17 18 (rg 8 10 X X9) X9) ⟨hx, hb, hml, hown, hts⟩ (c_addVariables l dC dI cB cC cI cJ cZ a F X J R gf gn x  (by omega) (show gf ≤ 67600 from by first | assumption | omega) (show gn ≤ 63261 from by first | assumption | omega) (show SPR (X 1) from by first | assumption | omega) (show 0 ≤ (F 13).toInt ∧ (F 13).toInt ≤ (gn : Int) from by first | assumption | omega) (show 0 ≤ (F 19).toInt ∧ (F 19).toInt ≤ 3000 ∧ 0 ≤ (F 20).toInt ∧ (F 20).toInt ≤ 3000 from by first | assumption | omega) (show (F 17).toInt < 2000000000 from by first | assumption | omega) (show x < 1073741824 from by first | assumption | omega) s.heap.size) (cwV 1 hts kX4_restMatches_X4_addVariables_73 rfl rfl rfl (by decide +kernel) ⟨show 4 + 1 ≤ 3 * d + 6 from by omega, show 8 + (5 + 11) + 126 ≤ 90 * d + 174 from by omega⟩) (va_recv hK hP (ci := 4) (q0 := 4) rfl rfl) hK hNW hP hD hS hA rfl rfl hl.1 (lv_room (Nat.le_of_ble_eq_true rfl)) dX4_restMatches_11 hcs (fun F_2 X_3 hw_4 H locs hP hD hS => ?_)
  have hw_4 : 0 ≤ (F_2 19).toInt ∧ (F_2 19).toInt ≤ 3000 ∧ 0 ≤ (F 20).toInt ∧ (F 20).toInt ≤ 3000 := hw_4
  have hms := hw_4
  refine lv_iconst (v := oI 0) hx hb dX4_restMatches_14 (by decide) ?_
  refine lv_istore (lv' := [(5, .int (oI 0)), (4, .int (oI ((F 19).toInt))), (0, .ref (a 4)), (1, .int (oI x)), (2, .int (oI y)), (3, .int (oI z))]) hx hb dX4_restMatches_15 hl (by decide) rfl (fun ls hl => ?_)
  refine lv_iload_n hx hb dX4_restMatches_17 rfl (lv_at hl 4 rfl) ?_
  refine lv_istore (lv' := [(6, .int (oI y)), (5, .int (oI 0)), (4, .int (oI ((F 19).toInt))), (0, .ref (a 4)), (1, .int (oI x)), (2, .int (oI y)), (3, .int (oI z))]) hx hb dX4_restMatches_18 hl (by decide) rfl (fun ls hl => ?_)
  have eF9 : rg 19 20 F (rg 19 19 F F_2) = rg 19 19 F F_2 := by funext k; simp only [rg, va_up]; (repeat' split) <;> first | with_reducible rfl | omega
  have eX9 : rg 17 18 (rg 8 11 X (rg 17 18 (rg 8 10 X X_3) X_3)) (rg 17 18 (rg 8 10 X X_3) X_3) = rg 17 18 (rg 8 10 X X_3) X_3 := by funext k; simp only [rg, va_up]; (repeat' split) <;> first | with_reducible rfl | omega
  have hP9 : va_P (dC, dI) vwCl (CW cB cC cI cJ cZ a (rg 19 20 F (rg 19 19 F F_2)) (rg 17 18 (rg 8 11 X (rg 17 18 (rg 8 10 X X_3) X_3)) (rg 17 18 (rg 8 10 X X_3) X_3)) J R gf gn) H := by rw [eF9, eX9]; exact hP
  have hD9 : va_D A (CW cB cC cI cJ cZ a (rg 19 20 F (rg 19 19 F F_2)) (rg 17 18 (rg 8 11 X (rg 17 18 (rg 8 10 X X_3) X_3)) (rg 17 18 (rg 8 10 X X_3) X_3)) J R gf gn) := by rw [eF9, eX9]; exact hD
  exact lq_restMatches hx hb hml hown hts hK hNW hA hr hlocks x y z d D ix iy iz (by assumption) (by assumption) (by assumption) (by assumption) (by assumption) (by assumption) (by assumption) (by assumption) (by assumption) (by assumption) (by assumption) (by assumption) hI _ (rg 19 19 F F_2) (rg 17 18 (rg 8 10 X X_3) X_3) ((F 19).toInt) 0 y (Nat.lt_succ_self _) (i32r _) (by decide) (by omega) (show y ≤ y ∧ 0 ≤ 0 ∧ 0 ≤ y - y ∧ (0 = 0 ∨ 0 ≤ z - y + 67600) from by first | assumption | omega | (with_reducible rfl) | ((repeat' apply And.intro) <;> first | assumption | omega | (with_reducible rfl))) (show 0 ≤ (F_2 19).toInt ∧ (F_2 19).toInt ≤ 3000 ∧ 0 ≤ (F 20).toInt ∧ (F 20).toInt ≤ 3000 from by first | assumption | omega | (with_reducible rfl) | ((repeat' apply And.intro) <;> first | assumption | omega | (with_reducible rfl))) _ _ hP9 hD9 hS ls (lv_sub hl [3, 4, 6, 2, 1, 0] rfl)

set_option maxHeartbeats 4000000 in
set_option maxRecDepth 100000 in
theorem lq_rowMatches {p : Program} {l : Launch} {e : Env} {s : State} {m : MethodId} {args : Array Value} {below : List Frame} {meth : Method} {c : Code} {A : Nat → Prop} {dC : Nat → ClassId} {dI : Nat → Nat → Nat} {cB cC cI cJ cZ : ClassId} {a : Nat → Nat} {F : Nat → Int32} {X : Nat → Nat → Int32} {J : Nat → Nat → Int64} {R : Nat → Nat} {gf gn : Nat} (hx : p.tables.exec = Jvm.exec) (hb : c.code = cX4_rowMatches) (hml : c.maxLocals = 9) (hown : s.vm.findClass RX4 = some m.cls) (hts : ∀ w ∈ vX4_rowMatches, w.before args s = true) (hK : va_K (dC, dI) vwCl (TY cB cC cI cJ cZ) s) (hNW : NW s) (hA : ∀ q : Nat, s.heap.size ≤ q → A q) (hr : meth.sig.returnType = (some .boolean)) (hlocks : meth.locks = false) (x y z p4 p5 : Int) (d : Nat) (D : Int → Nat) (ix : (-2147483648 ≤ x ∧ x < 2147483648)) (iy : (-2147483648 ≤ y ∧ y < 2147483648)) (iz : (-2147483648 ≤ z ∧ z < 2147483648)) (ip4 : (-2147483648 ≤ p4 ∧ p4 < 2147483648)) (ip5 : (-2147483648 ≤ p5 ∧ p5 < 2147483648)) (hgf : gf ≤ 67600) (hgn : gn ≤ 63261) (hsp : SPR (X 1)) (hnt : 0 ≤ (F 13).toInt ∧ (F 13).toInt ≤ (gn : Int)) (hst : 0 ≤ (F 23).toInt ∧ (F 23).toInt ≤ 606) (hsy : 0 ≤ (F 15).toInt ∧ (F 15).toInt ≤ 2560) (hru : VB (X 12)) (hms : 0 ≤ (F 19).toInt ∧ (F 19).toInt ≤ 3000 ∧ 0 ≤ (F 20).toInt ∧ (F 20).toInt ≤ 3000) (hl4 : (F 17).toInt < 2000000000) (hx2 : x < 1073741824 ∧ x < y ∧ y < 1100000000 ∧ z < 1100000000 ∧ 0 ≤ p4 ∧ p4 < 1200000000) (hdp : D x ≤ d) (hne : NST (X 1) D gf)  (hI : P_X4_formMatches l d) (hJ : P_X4_restMatches l d) : ∀ (k : Nat) (F1 : Nat → Int32) (X1 : Nat → Nat → Int32) (en : Int) (fo : Int) (q : Int), (AF (X 1) gf x - q).toNat < k → (-2147483648 ≤ en ∧ en < 2147483648) → (-2147483648 ≤ fo ∧ fo < 2147483648) → (-2147483648 ≤ q ∧ q < 2147483648) → (x < q ∧ q < 1200000000 ∧ 0 ≤ fo ∧ fo < 1200000000 ∧ en < 1110000000) → (0 ≤ (F1 19).toInt ∧ (F1 19).toInt ≤ 3000 ∧ 0 ≤ (F1 20).toInt ∧ (F1 20).toInt ≤ 3000) → ∀ (H : Heap) (locs : List Loc), va_P (dC, dI) vwCl (CW cB cC cI cJ cZ a (rg 19 20 F F1) (rg 17 18 (rg 8 11 X X1) X1) J R gf gn) H → va_D A (CW cB cC cI cJ cZ a (rg 19 20 F F1) (rg 17 18 (rg 8 11 X X1) X1) J R gf gn) → va_S A s.heap H locs → ∀ (ls : Array Slot), lv_has ls 9 [(0, .ref (a 4)), (1, .int (oI x)), (5, .int (oI p5)), (6, .int (oI en)), (7, .int (oI fo)), (8, .int (oI q))] → W p l e (headSpec vX4_rowMatches { frames := 3 * d + 7, cells := 0, slots := 0, locals := 90 * d + 200 }).room s m args below meth c H locs 0 0 (MQ below (va_Qi (fun (r : Int32) (u : (Nat → Int32) × (Nat → Nat → Int32)) => match u with | (F1, X1) => (0 ≤ (F1 19).toInt ∧ (F1 19).toInt ≤ 3000 ∧ 0 ≤ (F1 20).toInt ∧ (F1 20).toInt ≤ 3000) ∧ ((r).toInt = 0 ∨ (r).toInt = 1)) (fun u => cPost dC dI cB cC cI cJ cZ a (rg 19 20 F u.1) (rg 17 18 (rg 8 11 X u.2) u.2) J R gf gn A) A) args s 0 0 A) (F0 m 17 ls []) := by
  have hcs : 0 + 0 ≤ (0 : Nat) ∧ 0 + 0 ≤ (0 : Nat) := ⟨Nat.le_refl 0, Nat.le_refl 0⟩
  intro k
  induction k with
  | zero =>
    intro F1 X1 en fo q hk ien9 ifo9 iq9 hq hms
    exact absurd hk (Nat.not_lt_zero _)
  | succ k ih =>
    intro F1 X1 en fo q hk ien9 ifo9 iq9 hq hms H locs hP hD hS ls hl
    have eb := AF_b hsp gf x
    refine lv_iload hx hb dX4_rowMatches_17 (lv_at hl 5 rfl) ?_
    refine lv_aload_n hx hb dX4_rowMatches_19 rfl (lv_at hl 0 rfl) ?_
    refine cg_4_0 hx hb hts inX4_rowMatches_X4 hown hK hP (hts _ lkX4_rowMatches_f18) dX4_rowMatches_20 ?_
    refine lv_iload_n hx hb dX4_rowMatches_23 rfl (lv_at hl 1 rfl) ?_
    refine ccs_iV (As := [.int (oI x)]) (rest := [.int (oI q)]) ⟨hx, hb, hml, hown, hts⟩ (c_after l dC dI cB cC cI cJ cZ a (rg 19 20 F F1) (rg 17 18 (rg 8 11 X X1) X1) J R gf gn x  (by omega) (show gf ≤ 67600 from by first | assumption | omega) (show SPR (X 1) from by first | assumption | omega) (show x < 2147483647 from by first | assumption | omega) H.size) (cwV 1 hts kX4_rowMatches_X1_after_40 rfl rfl rfl (by decide +kernel) ⟨show 1 + 1 ≤ 3 * d + 7 from by omega, show 8 + (2 + 11) + 60 ≤ 90 * d + 200 from by omega⟩) (va_recv hK hP (ci := 1) (q0 := 1) rfl rfl) hK hNW hP hD hS hA rfl rfl hl.1 (lv_room (Nat.le_of_ble_eq_true rfl)) dX4_rowMatches_24 hcs (fun r_1 hw_2 H locs hP hD hS => ?_)
    have hw_2 : (r_1).toInt = AF (X 1) gf x ∧ x < (r_1).toInt ∧ (r_1).toInt ≤ x + 67600 := hw_2
    obtain ⟨ea, la, ua⟩ := hw_2
    have i_3 := i32r r_1
    refine ci_ge (tgt := 108) hx hb (by omega) (i32r _) dX4_rowMatches_27 (by decide) (fun c_4 => ?_) (fun c_4 => ?_)
    · refine lv_iload hx hb dX4_rowMatches_108 (lv_at hl 4 rfl) ?_
      refine lv_iload hx hb dX4_rowMatches_110 (lv_at hl 3 rfl) ?_
      refine ci_lt (tgt := 119) hx hb (by omega) (by omega) dX4_rowMatches_112 (by decide) (fun c_5 => ?_) (fun c_5 => ?_)
      · refine lv_iconst (v := oI 0) hx hb dX4_rowMatches_119 (by decide) ?_
        have e0 : (oI 0).toInt = 0 := by decide
        have eF9 : rg 19 20 F (rg 19 20 F F1) = rg 19 20 F F1 := by funext k; simp only [rg, va_up]; (repeat' split) <;> first | with_reducible rfl | omega
        have eX9 : rg 17 18 (rg 8 11 X (rg 17 18 (rg 8 11 X X1) X1)) (rg 17 18 (rg 8 11 X X1) X1) = rg 17 18 (rg 8 11 X X1) X1 := by funext k; simp only [rg, va_up]; (repeat' split) <;> first | with_reducible rfl | omega
        have hP9 : va_P (dC, dI) vwCl (CW cB cC cI cJ cZ a (rg 19 20 F (rg 19 20 F F1)) (rg 17 18 (rg 8 11 X (rg 17 18 (rg 8 11 X X1) X1)) (rg 17 18 (rg 8 11 X X1) X1)) J R gf gn) H := by rw [eF9, eX9]; exact hP
        have hD9 : va_D A (CW cB cC cI cJ cZ a (rg 19 20 F (rg 19 20 F F1)) (rg 17 18 (rg 8 11 X (rg 17 18 (rg 8 11 X X1) X1)) (rg 17 18 (rg 8 11 X X1) X1)) J R gf gn) := by rw [eF9, eX9]; exact hD
        have hpost : (0 ≤ (F1 19).toInt ∧ (F1 19).toInt ≤ 3000 ∧ 0 ≤ (F1 20).toInt ∧ (F1 20).toInt ≤ 3000) ∧ ((oI 0).toInt = 0 ∨ (oI 0).toInt = 1) := by first | assumption | omega | (with_reducible rfl) | ((repeat' apply And.intro) <;> first | assumption | omega | (with_reducible rfl))
        exact W.zret (v := (oI 0)) hx hb hr (by first | rfl | decide | exact zb9 (by omega)) (fun t ht hW => ⟨⟨(oI 0), (rg 19 20 F F1, rg 17 18 (rg 8 11 X X1) X1), rfl, hpost, by rw [ht]; exact hP9, va_K.moved hW.alike hK, hD9⟩, hS.F ht⟩) hS.2.2 dX4_rowMatches_120
      · refine lv_iconst (v := oI 1) hx hb dX4_rowMatches_115 (by decide) ?_
        refine lv_goto (tgt := 120) hx hb dX4_rowMatches_116 (by decide) ?_
        have e0 : (oI 1).toInt = 1 := by decide
        have eF9 : rg 19 20 F (rg 19 20 F F1) = rg 19 20 F F1 := by funext k; simp only [rg, va_up]; (repeat' split) <;> first | with_reducible rfl | omega
        have eX9 : rg 17 18 (rg 8 11 X (rg 17 18 (rg 8 11 X X1) X1)) (rg 17 18 (rg 8 11 X X1) X1) = rg 17 18 (rg 8 11 X X1) X1 := by funext k; simp only [rg, va_up]; (repeat' split) <;> first | with_reducible rfl | omega
        have hP9 : va_P (dC, dI) vwCl (CW cB cC cI cJ cZ a (rg 19 20 F (rg 19 20 F F1)) (rg 17 18 (rg 8 11 X (rg 17 18 (rg 8 11 X X1) X1)) (rg 17 18 (rg 8 11 X X1) X1)) J R gf gn) H := by rw [eF9, eX9]; exact hP
        have hD9 : va_D A (CW cB cC cI cJ cZ a (rg 19 20 F (rg 19 20 F F1)) (rg 17 18 (rg 8 11 X (rg 17 18 (rg 8 11 X X1) X1)) (rg 17 18 (rg 8 11 X X1) X1)) J R gf gn) := by rw [eF9, eX9]; exact hD
        have hpost : (0 ≤ (F1 19).toInt ∧ (F1 19).toInt ≤ 3000 ∧ 0 ≤ (F1 20).toInt ∧ (F1 20).toInt ≤ 3000) ∧ ((oI 1).toInt = 0 ∨ (oI 1).toInt = 1) := by first | assumption | omega | (with_reducible rfl) | ((repeat' apply And.intro) <;> first | assumption | omega | (with_reducible rfl))
        exact W.zret (v := (oI 1)) hx hb hr (by first | rfl | decide | exact zb9 (by omega)) (fun t ht hW => ⟨⟨(oI 1), (rg 19 20 F F1, rg 17 18 (rg 8 11 X X1) X1), rfl, hpost, by rw [ht]; exact hP9, va_K.moved hW.alike hK, hD9⟩, hS.F ht⟩) hS.2.2 dX4_rowMatches_120
    · refine lv_aload_n hx hb dX4_rowMatches_30 rfl (lv_at hl 0 rfl) ?_
      refine cg_4_0 hx hb hts inX4_rowMatches_X4 hown hK hP (hts _ lkX4_rowMatches_f18) dX4_rowMatches_31 ?_
      refine lv_iload hx hb dX4_rowMatches_34 (lv_at hl 5 rfl) ?_
      refine lv_aload_n hx hb dX4_rowMatches_36 rfl (lv_at hl 0 rfl) ?_
      refine cg_4_0 hx hb hts inX4_rowMatches_X4 hown hK hP (hts _ lkX4_rowMatches_f18) dX4_rowMatches_37 ?_
      refine lv_iload_n hx hb dX4_rowMatches_40 rfl (lv_at hl 1 rfl) ?_
      refine ccs_iV (As := [.int (oI x)]) (rest := [.int (oI q), .ref (a 1)]) ⟨hx, hb, hml, hown, hts⟩ (c_after l dC dI cB cC cI cJ cZ a (rg 19 20 F F1) (rg 17 18 (rg 8 11 X X1) X1) J R gf gn x  (by omega) (show gf ≤ 67600 from by first | assumption | omega) (show SPR (X 1) from by first | assumption | omega) (show x < 2147483647 from by first | assumption | omega) H.size) (cwV 1 hts kX4_rowMatches_X1_after_40 rfl rfl rfl (by decide +kernel) ⟨show 1 + 1 ≤ 3 * d + 7 from by omega, show 8 + (2 + 11) + 60 ≤ 90 * d + 200 from by omega⟩) (va_recv hK hP (ci := 1) (q0 := 1) rfl rfl) hK hNW hP hD hS hA rfl rfl hl.1 (lv_room (Nat.le_of_ble_eq_true rfl)) dX4_rowMatches_41 hcs (fun r_6 hw_7 H locs hP hD hS => ?_)
      have hw_7 : (r_6).toInt = AF (X 1) gf x ∧ x < (r_6).toInt ∧ (r_6).toInt ≤ x + 67600 := hw_7
      obtain ⟨ea, la, ua⟩ := hw_7
      have i_8 := i32r r_6
      have nq := NST_af hne (p := x) (q := q) (by omega) (by omega)
      refine ccs_iV (As := [.int (oI q), .int (oI r_6.toInt)]) (rest := []) ⟨hx, hb, hml, hown, hts⟩ (c_isRepeated l dC dI cB cC cI cJ cZ a (rg 19 20 F F1) (rg 17 18 (rg 8 11 X X1) X1) J R gf gn q r_6.toInt  (by omega) (i32r _) (show gf ≤ 67600 from by first | assumption | omega) (show SPR (X 1) from by first | assumption | omega) (show q < 1073741824 from by first | assumption | omega) H.size) (cwV 2 hts kX4_rowMatches_X1_isRepeated_58 rfl rfl rfl (by decide +kernel) ⟨show 2 + 1 ≤ 3 * d + 7 from by omega, show 8 + (3 + 11) + 82 ≤ 90 * d + 200 from by omega⟩) (va_recv hK hP (ci := 1) (q0 := 1) rfl rfl) hK hNW hP hD hS hA rfl rfl hl.1 (lv_room (Nat.le_of_ble_eq_true rfl)) dX4_rowMatches_44 hcs (fun r_9 hw_10 H locs hP hD hS => ?_)
      have hw_10 : ((r_9).toInt = 1 ∧ AF (X 1) gf q < r_6.toInt) ∨ (r_9).toInt = 0 := hw_10
      have hrp := hw_10
      have i_11 := i32r r_9
      refine cz_eq (tgt := 61) hx hb (i32r _) dX4_rowMatches_47 (by decide) (fun c_12 => ?_) (fun c_12 => ?_)
      · refine lv_iload hx hb dX4_rowMatches_61 (lv_at hl 4 rfl) ?_
        refine lv_iload hx hb dX4_rowMatches_63 (lv_at hl 3 rfl) ?_
        refine ci_ge (tgt := 81) hx hb (by omega) (by omega) dX4_rowMatches_65 (by decide) (fun c_13 => ?_) (fun c_13 => ?_)
        · refine lv_iconst (v := oI 0) hx hb dX4_rowMatches_81 (by decide) ?_
          have e0 : (oI 0).toInt = 0 := by decide
          have eF9 : rg 19 20 F (rg 19 20 F F1) = rg 19 20 F F1 := by funext k; simp only [rg, va_up]; (repeat' split) <;> first | with_reducible rfl | omega
          have eX9 : rg 17 18 (rg 8 11 X (rg 17 18 (rg 8 11 X X1) X1)) (rg 17 18 (rg 8 11 X X1) X1) = rg 17 18 (rg 8 11 X X1) X1 := by funext k; simp only [rg, va_up]; (repeat' split) <;> first | with_reducible rfl | omega
          have hP9 : va_P (dC, dI) vwCl (CW cB cC cI cJ cZ a (rg 19 20 F (rg 19 20 F F1)) (rg 17 18 (rg 8 11 X (rg 17 18 (rg 8 11 X X1) X1)) (rg 17 18 (rg 8 11 X X1) X1)) J R gf gn) H := by rw [eF9, eX9]; exact hP
          have hD9 : va_D A (CW cB cC cI cJ cZ a (rg 19 20 F (rg 19 20 F F1)) (rg 17 18 (rg 8 11 X (rg 17 18 (rg 8 11 X X1) X1)) (rg 17 18 (rg 8 11 X X1) X1)) J R gf gn) := by rw [eF9, eX9]; exact hD
          have hpost : (0 ≤ (F1 19).toInt ∧ (F1 19).toInt ≤ 3000 ∧ 0 ≤ (F1 20).toInt ∧ (F1 20).toInt ≤ 3000) ∧ ((oI 0).toInt = 0 ∨ (oI 0).toInt = 1) := by first | assumption | omega | (with_reducible rfl) | ((repeat' apply And.intro) <;> first | assumption | omega | (with_reducible rfl))
          exact W.zret (v := (oI 0)) hx hb hr (by first | rfl | decide | exact zb9 (by omega)) (fun t ht hW => ⟨⟨(oI 0), (rg 19 20 F F1, rg 17 18 (rg 8 11 X X1) X1), rfl, hpost, by rw [ht]; exact hP9, va_K.moved hW.alike hK, hD9⟩, hS.F ht⟩) hS.2.2 dX4_rowMatches_82
        · refine lv_aload_n hx hb dX4_rowMatches_68 rfl (lv_at hl 0 rfl) ?_
          refine lv_iload hx hb dX4_rowMatches_69 (lv_at hl 5 rfl) ?_
          refine lv_iload hx hb dX4_rowMatches_71 (lv_at hl 4 rfl) ?_
          refine lv_iload hx hb dX4_rowMatches_73 (lv_at hl 2 rfl) ?_
          have nq := NST_af hne (p := x) (q := q) (by omega) (by omega)
          refine ccp_iV (As := [.int (oI q), .int (oI fo), .int (oI p5)]) (rest := []) (gF := fun F9 => rg 19 20 (rg 19 20 F F1) F9) (gX := fun X9 => rg 17 18 (rg 8 11 (rg 17 18 (rg 8 11 X X1) X1) X9) X9) ⟨hx, hb, hml, hown, hts⟩ (hI dC dI cB cC cI cJ cZ a (rg 19 20 F F1) (rg 17 18 (rg 8 11 X X1) X1) J R gf gn q fo p5 D (by omega) (by omega) (by omega) (show gf ≤ 67600 from by first | assumption | omega) (show gn ≤ 63261 from by first | assumption | omega) (show SPR (X 1) from by first | assumption | omega) (show 0 ≤ (F 13).toInt ∧ (F 13).toInt ≤ (gn : Int) from by first | assumption | omega) (show 0 ≤ (F 23).toInt ∧ (F 23).toInt ≤ 606 from by first | assumption | omega) (show 0 ≤ (F 15).toInt ∧ (F 15).toInt ≤ 2560 from by first | assumption | omega) (show VB (X 12) from by first | assumption | omega) (show 0 ≤ (F1 19).toInt ∧ (F1 19).toInt ≤ 3000 ∧ 0 ≤ (F1 20).toInt ∧ (F1 20).toInt ≤ 3000 from by first | assumption | omega) (show (F 17).toInt < 2000000000 from by first | assumption | omega) (show q < 1073741824 ∧ fo < 1200000000 from by first | assumption | omega) (show D q < d from by first | assumption | omega) (show NST (X 1) D gf from by assumption) H.size) (cwV 3 hts kX4_rowMatches_X4_formMatches_66 rfl rfl rfl (by decide +kernel) ⟨show (3 * d + 5) + 1 ≤ 3 * d + 7 from by omega, show 8 + (5 + 11) + (90 * d + 150) ≤ 90 * d + 200 from by omega⟩) (va_recv hK hP (ci := 4) (q0 := 4) rfl rfl) hK hNW hP hD hS hA rfl rfl hl.1 (lv_room (Nat.le_of_ble_eq_true rfl)) dX4_rowMatches_75 hcs (fun r_14 F_15 X_16 hw_17 H locs hP hD hS => ?_)
          have hw_17 : (0 ≤ (F_15 19).toInt ∧ (F_15 19).toInt ≤ 3000 ∧ 0 ≤ (F_15 20).toInt ∧ (F_15 20).toInt ≤ 3000) ∧ ((r_14).toInt = 0 ∨ (r_14).toInt = 1) := hw_17
          obtain ⟨hms, hz⟩ := hw_17
          have i_18 := i32r r_14
          refine cz_ne (tgt := 83) hx hb (i32r _) dX4_rowMatches_78 (by decide) (fun c_19 => ?_) (fun c_19 => ?_)
          · refine lv_aload_n hx hb dX4_rowMatches_83 rfl (lv_at hl 0 rfl) ?_
            refine cg_4_0 hx hb hts inX4_rowMatches_X4 hown hK hP (hts _ lkX4_rowMatches_f18) dX4_rowMatches_84 ?_
            refine lv_iload hx hb dX4_rowMatches_87 (lv_at hl 4 rfl) ?_
            refine ccs_iV (As := [.int (oI fo)]) (rest := []) ⟨hx, hb, hml, hown, hts⟩ (c_after l dC dI cB cC cI cJ cZ a (rg 19 20 (rg 19 20 F F1) F_15) (rg 17 18 (rg 8 11 (rg 17 18 (rg 8 11 X X1) X1) X_16) X_16) J R gf gn fo  (by omega) (show gf ≤ 67600 from by first | assumption | omega) (show SPR (X 1) from by first | assumption | omega) (show fo < 2147483647 from by first | assumption | omega) H.size) (cwV 1 hts kX4_rowMatches_X1_after_40 rfl rfl rfl (by decide +kernel) ⟨show 1 + 1 ≤ 3 * d + 7 from by omega, show 8 + (2 + 11) + 60 ≤ 90 * d + 200 from by omega⟩) (va_recv hK hP (ci := 1) (q0 := 1) rfl rfl) hK hNW hP hD hS hA rfl rfl hl.1 (lv_room (Nat.le_of_ble_eq_true rfl)) dX4_rowMatches_89 hcs (fun r_20 hw_21 H locs hP hD hS => ?_)
            have hw_21 : (r_20).toInt = AF (X 1) gf fo ∧ fo < (r_20).toInt ∧ (r_20).toInt ≤ fo + 67600 := hw_21
            obtain ⟨ea, la, ua⟩ := hw_21
            have i_22 := i32r r_20
            refine lv_istore (lv' := [(7, .int (oI r_20.toInt)), (0, .ref (a 4)), (1, .int (oI x)), (5, .int (oI p5)), (6, .int (oI en)), (8, .int (oI q))]) hx hb dX4_rowMatches_92 hl (by decide) rfl (fun ls hl => ?_)
            refine lv_aload_n hx hb dX4_rowMatches_94 rfl (lv_at hl 1 rfl) ?_
            refine cg_4_0 hx hb hts inX4_rowMatches_X4 hown hK hP (hts _ lkX4_rowMatches_f18) dX4_rowMatches_95 ?_
            refine lv_iload hx hb dX4_rowMatches_98 (lv_at hl 5 rfl) ?_
            refine ccs_iV (As := [.int (oI q)]) (rest := []) ⟨hx, hb, hml, hown, hts⟩ (c_after l dC dI cB cC cI cJ cZ a (rg 19 20 (rg 19 20 F F1) F_15) (rg 17 18 (rg 8 11 (rg 17 18 (rg 8 11 X X1) X1) X_16) X_16) J R gf gn q  (by omega) (show gf ≤ 67600 from by first | assumption | omega) (show SPR (X 1) from by first | assumption | omega) (show q < 2147483647 from by first | assumption | omega) H.size) (cwV 1 hts kX4_rowMatches_X1_after_40 rfl rfl rfl (by decide +kernel) ⟨show 1 + 1 ≤ 3 * d + 7 from by omega, show 8 + (2 + 11) + 60 ≤ 90 * d + 200 from by omega⟩) (va_recv hK hP (ci := 1) (q0 := 1) rfl rfl) hK hNW hP hD hS hA rfl rfl hl.1 (lv_room (Nat.le_of_ble_eq_true rfl)) dX4_rowMatches_100 hcs (fun r_23 hw_24 H locs hP hD hS => ?_)
            have hw_24 : (r_23).toInt = AF (X 1) gf q ∧ q < (r_23).toInt ∧ (r_23).toInt ≤ q + 67600 := hw_24
            obtain ⟨ea, la, ua⟩ := hw_24
            have i_25 := i32r r_23
            refine lv_istore (lv' := [(8, .int (oI r_23.toInt)), (7, .int (oI r_20.toInt)), (0, .ref (a 4)), (1, .int (oI x)), (5, .int (oI p5)), (6, .int (oI en))]) hx hb dX4_rowMatches_103 hl (by decide) rfl (fun ls hl => ?_)
            refine lv_goto (tgt := 17) hx hb dX4_rowMatches_105 (by decide) ?_
            have eF9 : rg 19 20 F (rg 19 20 (rg 19 20 F F1) F_15) = rg 19 20 (rg 19 20 F F1) F_15 := by funext k; simp only [rg, va_up]; (repeat' split) <;> first | with_reducible rfl | omega
            have eX9 : rg 17 18 (rg 8 11 X (rg 17 18 (rg 8 11 (rg 17 18 (rg 8 11 X X1) X1) X_16) X_16)) (rg 17 18 (rg 8 11 (rg 17 18 (rg 8 11 X X1) X1) X_16) X_16) = rg 17 18 (rg 8 11 (rg 17 18 (rg 8 11 X X1) X1) X_16) X_16 := by funext k; simp only [rg, va_up]; (repeat' split) <;> first | with_reducible rfl | omega
            have hP9 : va_P (dC, dI) vwCl (CW cB cC cI cJ cZ a (rg 19 20 F (rg 19 20 (rg 19 20 F F1) F_15)) (rg 17 18 (rg 8 11 X (rg 17 18 (rg 8 11 (rg 17 18 (rg 8 11 X X1) X1) X_16) X_16)) (rg 17 18 (rg 8 11 (rg 17 18 (rg 8 11 X X1) X1) X_16) X_16)) J R gf gn) H := by rw [eF9, eX9]; exact hP
            have hD9 : va_D A (CW cB cC cI cJ cZ a (rg 19 20 F (rg 19 20 (rg 19 20 F F1) F_15)) (rg 17 18 (rg 8 11 X (rg 17 18 (rg 8 11 (rg 17 18 (rg 8 11 X X1) X1) X_16) X_16)) (rg 17 18 (rg 8 11 (rg 17 18 (rg 8 11 X X1) X1) X_16) X_16)) J R gf gn) := by rw [eF9, eX9]; exact hD
            exact ih (rg 19 20 (rg 19 20 F F1) F_15) (rg 17 18 (rg 8 11 (rg 17 18 (rg 8 11 X X1) X1) X_16) X_16) en r_20.toInt r_23.toInt (show (AF (X 1) gf x - r_23.toInt).toNat < k from by omega) (by omega) (i32r _) (i32r _) (show x < r_23.toInt ∧ r_23.toInt < 1200000000 ∧ 0 ≤ r_20.toInt ∧ r_20.toInt < 1200000000 ∧ en < 1110000000 from by first | assumption | omega | (with_reducible rfl) | ((repeat' apply And.intro) <;> first | assumption | omega | (with_reducible rfl))) (show 0 ≤ (F_15 19).toInt ∧ (F_15 19).toInt ≤ 3000 ∧ 0 ≤ (F_15 20).toInt ∧ (F_15 20).toInt ≤ 3000 from by first | assumption | omega | (with_reducible rfl) | ((repeat' apply And.intro) <;> first | assumption | omega | (with_reducible rfl))) _ _ hP9 hD9 hS ls (lv_sub hl [2, 3, 4, 5, 1, 0] rfl)
          · refine lv_iconst (v := oI 0) hx hb dX4_rowMatches_81 (by decide) ?_
            have e0 : (oI 0).toInt = 0 := by decide
            have eF9 : rg 19 20 F (rg 19 20 (rg 19 20 F F1) F_15) = rg 19 20 (rg 19 20 F F1) F_15 := by funext k; simp only [rg, va_up]; (repeat' split) <;> first | with_reducible rfl | omega
            have eX9 : rg 17 18 (rg 8 11 X (rg 17 18 (rg 8 11 (rg 17 18 (rg 8 11 X X1) X1) X_16) X_16)) (rg 17 18 (rg 8 11 (rg 17 18 (rg 8 11 X X1) X1) X_16) X_16) = rg 17 18 (rg 8 11 (rg 17 18 (rg 8 11 X X1) X1) X_16) X_16 := by funext k; simp only [rg, va_up]; (repeat' split) <;> first | with_reducible rfl | omega
            have hP9 : va_P (dC, dI) vwCl (CW cB cC cI cJ cZ a (rg 19 20 F (rg 19 20 (rg 19 20 F F1) F_15)) (rg 17 18 (rg 8 11 X (rg 17 18 (rg 8 11 (rg 17 18 (rg 8 11 X X1) X1) X_16) X_16)) (rg 17 18 (rg 8 11 (rg 17 18 (rg 8 11 X X1) X1) X_16) X_16)) J R gf gn) H := by rw [eF9, eX9]; exact hP
            have hD9 : va_D A (CW cB cC cI cJ cZ a (rg 19 20 F (rg 19 20 (rg 19 20 F F1) F_15)) (rg 17 18 (rg 8 11 X (rg 17 18 (rg 8 11 (rg 17 18 (rg 8 11 X X1) X1) X_16) X_16)) (rg 17 18 (rg 8 11 (rg 17 18 (rg 8 11 X X1) X1) X_16) X_16)) J R gf gn) := by rw [eF9, eX9]; exact hD
            have hpost : (0 ≤ (F_15 19).toInt ∧ (F_15 19).toInt ≤ 3000 ∧ 0 ≤ (F_15 20).toInt ∧ (F_15 20).toInt ≤ 3000) ∧ ((oI 0).toInt = 0 ∨ (oI 0).toInt = 1) := by first | assumption | omega | (with_reducible rfl) | ((repeat' apply And.intro) <;> first | assumption | omega | (with_reducible rfl))
            exact W.zret (v := (oI 0)) hx hb hr (by first | rfl | decide | exact zb9 (by omega)) (fun t ht hW => ⟨⟨(oI 0), (rg 19 20 (rg 19 20 F F1) F_15, rg 17 18 (rg 8 11 (rg 17 18 (rg 8 11 X X1) X1) X_16) X_16), rfl, hpost, by rw [ht]; exact hP9, va_K.moved hW.alike hK, hD9⟩, hS.F ht⟩) hS.2.2 dX4_rowMatches_82
      · refine lv_aload_n hx hb dX4_rowMatches_50 rfl (lv_at hl 0 rfl) ?_
        refine lv_iload hx hb dX4_rowMatches_51 (lv_at hl 5 rfl) ?_
        refine lv_iload hx hb dX4_rowMatches_53 (lv_at hl 4 rfl) ?_
        refine lv_iload hx hb dX4_rowMatches_55 (lv_at hl 3 rfl) ?_
        have nq := NST_af hne (p := x) (q := q) (by omega) (by omega)
        refine ccp_iV (As := [.int (oI q), .int (oI fo), .int (oI en)]) (rest := []) (gF := fun F9 => rg 19 20 (rg 19 20 F F1) F9) (gX := fun X9 => rg 17 18 (rg 8 11 (rg 17 18 (rg 8 11 X X1) X1) X9) X9) ⟨hx, hb, hml, hown, hts⟩ (hJ dC dI cB cC cI cJ cZ a (rg 19 20 F F1) (rg 17 18 (rg 8 11 X X1) X1) J R gf gn q fo en D (by omega) (by omega) (by omega) (show gf ≤ 67600 from by first | assumption | omega) (show gn ≤ 63261 from by first | assumption | omega) (show SPR (X 1) from by first | assumption | omega) (show 0 ≤ (F 13).toInt ∧ (F 13).toInt ≤ (gn : Int) from by first | assumption | omega) (show 0 ≤ (F 23).toInt ∧ (F 23).toInt ≤ 606 from by first | assumption | omega) (show 0 ≤ (F 15).toInt ∧ (F 15).toInt ≤ 2560 from by first | assumption | omega) (show VB (X 12) from by first | assumption | omega) (show 0 ≤ (F1 19).toInt ∧ (F1 19).toInt ≤ 3000 ∧ 0 ≤ (F1 20).toInt ∧ (F1 20).toInt ≤ 3000 from by first | assumption | omega) (show (F 17).toInt < 2000000000 from by first | assumption | omega) (show q < 1073741824 ∧ 0 ≤ fo ∧ fo < 1200000000 ∧ en < 1200000000 from by first | assumption | omega) (show D q < d from by first | assumption | omega) (show NST (X 1) D gf from by assumption) H.size) (cwV 3 hts kX4_rowMatches_X4_restMatches_62 rfl rfl rfl (by decide +kernel) ⟨show (3 * d + 6) + 1 ≤ 3 * d + 7 from by omega, show 8 + (7 + 11) + (90 * d + 174) ≤ 90 * d + 200 from by omega⟩) (va_recv hK hP (ci := 4) (q0 := 4) rfl rfl) hK hNW hP hD hS hA rfl rfl hl.1 (lv_room (Nat.le_of_ble_eq_true rfl)) dX4_rowMatches_57 hcs (fun r_26 F_27 X_28 hw_29 H locs hP hD hS => ?_)
        have hw_29 : (0 ≤ (F_27 19).toInt ∧ (F_27 19).toInt ≤ 3000 ∧ 0 ≤ (F_27 20).toInt ∧ (F_27 20).toInt ≤ 3000) ∧ ((r_26).toInt = 0 ∨ (r_26).toInt = 1) := hw_29
        obtain ⟨hms, hz⟩ := hw_29
        have i_30 := i32r r_26
        have e0 : (oI r_26.toInt).toInt = r_26.toInt := congrArg Int32.toInt (oI_toInt _)
        have eF9 : rg 19 20 F (rg 19 20 (rg 19 20 F F1) F_27) = rg 19 20 (rg 19 20 F F1) F_27 := by funext k; simp only [rg, va_up]; (repeat' split) <;> first | with_reducible rfl | omega
        have eX9 : rg 17 18 (rg 8 11 X (rg 17 18 (rg 8 11 (rg 17 18 (rg 8 11 X X1) X1) X_28) X_28)) (rg 17 18 (rg 8 11 (rg 17 18 (rg 8 11 X X1) X1) X_28) X_28) = rg 17 18 (rg 8 11 (rg 17 18 (rg 8 11 X X1) X1) X_28) X_28 := by funext k; simp only [rg, va_up]; (repeat' split) <;> first | with_reducible rfl | omega
        have hP9 : va_P (dC, dI) vwCl (CW cB cC cI cJ cZ a (rg 19 20 F (rg 19 20 (rg 19 20 F F1) F_27)) (rg 17 18 (rg 8 11 X (rg 17 18 (rg 8 11 (rg 17 18 (rg 8 11 X X1) X1) X_28) X_28)) (rg 17 18 (rg 8 11 (rg 17 18 (rg 8 11 X X1) X1) X_28) X_28)) J R gf gn) H := by rw [eF9, eX9]; exact hP
        have hD9 : va_D A (CW cB cC cI cJ cZ a (rg 19 20 F (rg 19 20 (rg 19 20 F F1) F_27)) (rg 17 18 (rg 8 11 X (rg 17 18 (rg 8 11 (rg 17 18 (rg 8 11 X X1) X1) X_28) X_28)) (rg 17 18 (rg 8 11 (rg 17 18 (rg 8 11 X X1) X1) X_28) X_28)) J R gf gn) := by rw [eF9, eX9]; exact hD
        have hpost : (0 ≤ (F_27 19).toInt ∧ (F_27 19).toInt ≤ 3000 ∧ 0 ≤ (F_27 20).toInt ∧ (F_27 20).toInt ≤ 3000) ∧ ((oI r_26.toInt).toInt = 0 ∨ (oI r_26.toInt).toInt = 1) := by first | assumption | omega | (with_reducible rfl) | ((repeat' apply And.intro) <;> first | assumption | omega | (with_reducible rfl))
        exact W.zret (v := (oI r_26.toInt)) hx hb hr (by first | rfl | decide | exact zb9 (by omega)) (fun t ht hW => ⟨⟨(oI r_26.toInt), (rg 19 20 (rg 19 20 F F1) F_27, rg 17 18 (rg 8 11 (rg 17 18 (rg 8 11 X X1) X1) X_28) X_28), rfl, hpost, by rw [ht]; exact hP9, va_K.moved hW.alike hK, hD9⟩, hS.F ht⟩) hS.2.2 dX4_rowMatches_60

set_option maxHeartbeats 4000000 in
set_option maxRecDepth 100000 in
theorem st_rowMatches (l : Launch) (d : Nat) (hI : P_X4_formMatches l d) (hJ : P_X4_restMatches l d) : P_X4_rowMatches l d := by
  unfold P_X4_rowMatches
  intro dC dI cB cC cI cJ cZ a F X J R gf gn x y z p4 p5 D ix iy iz ip4 ip5 hgf hgn hsp hnt hst hsy hru hms hl4 hx2 hdp hne s0
  refine Met.ofW (cc := cX4_rowMatches) (maxL := 9) (ret := (some .boolean)) (by decide) rfl ?_
  intro p e s m args below meth c s₁ B9 hml hv
  obtain ⟨rfl, hsz0, hP, hK, hD0, hNW⟩ := hv
  have hx := B9.exec
  have hb := B9.bytes
  have hr := B9.returns
  have hts := atoms_spec (ws := vX4_rowMatches) B9.pre
  have hown : s.vm.findClass RX4 = some m.cls := findClass_of_methodNamed B9.named
  have hlocks := B9.notSynchronized
  clear B9
  subst hsz0
  have hD := hD0.self (sz := s.heap.size)
  generalize hAe : va_A (CW cB cC cI cJ cZ a F X J R gf gn) s.heap.size = A at hD ⊢
  have hA : ∀ q : Nat, s.heap.size ≤ q → A q := fun q h => by rw [← hAe]; exact Or.inr h
  have hS : va_S A s.heap s.heap [] := va_S.rf
  have hcs : 0 + 0 ≤ (0 : Nat) ∧ 0 + 0 ≤ (0 : Nat) := ⟨Nat.le_refl 0, Nat.le_refl 0⟩
  have hl := lv_entry ([.ref (a 4), .int (oI x), .int (oI y), .int (oI z), .int (oI p4), .int (oI p5)]) (n := 9) (Nat.le_of_ble_eq_true rfl)
  rw [lg_entry_eq]
  generalize (lg_sl ([.ref (a 4), .int (oI x), .int (oI y), .int (oI z), .int (oI p4), .int (oI p5)]) ++ List.replicate (9 - (lg_sl ([.ref (a 4), .int (oI x), .int (oI y), .int (oI z), .int (oI p4), .int (oI p5)])).length) Slot.unset).toArray = ls at hl ⊢
  have hl : lv_has ls 9 [(0, .ref (a 4)), (1, .int (oI x)), (2, .int (oI y)), (3, .int (oI z)), (4, .int (oI p4)), (5, .int (oI p5))] := hl
  refine lv_aload_n hx hb dX4_rowMatches_0 rfl (lv_at hl 0 rfl) ?_
  refine cg_4_0 hx hb hts inX4_rowMatches_X4 hown hK hP (hts _ lkX4_rowMatches_f18) dX4_rowMatches_1 ?_
  refine lv_iload_n hx hb dX4_rowMatches_4 rfl (lv_at hl 3 rfl) ?_
  refine ccs_iV (As := [.int (oI z)]) (rest := []) ⟨hx, hb, hml, hown, hts⟩ (c_after l dC dI cB cC cI cJ cZ a F X J R gf gn z  (by omega) (show gf ≤ 67600 from by first | assumption | omega) (show SPR (X 1) from by first | assumption | omega) (show z < 2147483647 from by first | assumption | omega) s.heap.size) (cwV 1 hts kX4_rowMatches_X1_after_40 rfl rfl rfl (by decide +kernel) ⟨show 1 + 1 ≤ 3 * d + 7 from by omega, show 8 + (2 + 11) + 60 ≤ 90 * d + 200 from by omega⟩) (va_recv hK hP (ci := 1) (q0 := 1) rfl rfl) hK hNW hP hD hS hA rfl rfl hl.1 (lv_room (Nat.le_of_ble_eq_true rfl)) dX4_rowMatches_5 hcs (fun r_1 hw_2 H locs hP hD hS => ?_)
  have hw_2 : (r_1).toInt = AF (X 1) gf z ∧ z < (r_1).toInt ∧ (r_1).toInt ≤ z + 67600 := hw_2
  obtain ⟨ea, la, ua⟩ := hw_2
  have i_3 := i32r r_1
  refine lv_istore (lv' := [(6, .int (oI r_1.toInt)), (0, .ref (a 4)), (1, .int (oI x)), (2, .int (oI y)), (3, .int (oI z)), (4, .int (oI p4)), (5, .int (oI p5))]) hx hb dX4_rowMatches_8 hl (by decide) rfl (fun ls hl => ?_)
  refine lv_iload hx hb dX4_rowMatches_10 (lv_at hl 5 rfl) ?_
  refine lv_istore (lv' := [(7, .int (oI p4)), (6, .int (oI r_1.toInt)), (0, .ref (a 4)), (1, .int (oI x)), (2, .int (oI y)), (3, .int (oI z)), (4, .int (oI p4)), (5, .int (oI p5))]) hx hb dX4_rowMatches_12 hl (by decide) rfl (fun ls hl => ?_)
  refine lv_iload_n hx hb dX4_rowMatches_14 rfl (lv_at hl 4 rfl) ?_
  refine lv_istore (lv' := [(8, .int (oI y)), (7, .int (oI p4)), (6, .int (oI r_1.toInt)), (0, .ref (a 4)), (1, .int (oI x)), (2, .int (oI y)), (3, .int (oI z)), (4, .int (oI p4)), (5, .int (oI p5))]) hx hb dX4_rowMatches_15 hl (by decide) rfl (fun ls hl => ?_)
  have eF9 : rg 19 20 F F = F := by funext k; simp only [rg, va_up]; (repeat' split) <;> first | with_reducible rfl | omega
  have eX9 : rg 17 18 (rg 8 11 X X) X = X := by funext k; simp only [rg, va_up]; (repeat' split) <;> first | with_reducible rfl | omega
  have hP9 : va_P (dC, dI) vwCl (CW cB cC cI cJ cZ a (rg 19 20 F F) (rg 17 18 (rg 8 11 X X) X) J R gf gn) H := by rw [eF9, eX9]; exact hP
  have hD9 : va_D A (CW cB cC cI cJ cZ a (rg 19 20 F F) (rg 17 18 (rg 8 11 X X) X) J R gf gn) := by rw [eF9, eX9]; exact hD
  exact lq_rowMatches hx hb hml hown hts hK hNW hA hr hlocks x y z p4 p5 d D ix iy iz ip4 ip5 (by assumption) (by assumption) (by assumption) (by assumption) (by assumption) (by assumption) (by assumption) (by assumption) (by assumption) (by assumption) (by assumption) (by assumption) hI hJ _ F X r_1.toInt p4 y (Nat.lt_succ_self _) (i32r _) (by omega) (by omega) (show x < y ∧ y < 1200000000 ∧ 0 ≤ p4 ∧ p4 < 1200000000 ∧ r_1.toInt < 1110000000 from by first | assumption | omega | (with_reducible rfl) | ((repeat' apply And.intro) <;> first | assumption | omega | (with_reducible rfl))) (show 0 ≤ (F 19).toInt ∧ (F 19).toInt ≤ 3000 ∧ 0 ≤ (F 20).toInt ∧ (F 20).toInt ≤ 3000 from by first | assumption | omega | (with_reducible rfl) | ((repeat' apply And.intro) <;> first | assumption | omega | (with_reducible rfl))) _ _ hP9 hD9 hS ls (lv_sub hl [3, 4, 8, 2, 1, 0] rfl)

theorem all_rowMatches (l : Launch) (d : Nat) : P_X4_rowMatches l d := by
  induction d using Nat.strongRecOn with
  | ind d ih =>
    have hI := st_formMatches l d ih
    exact st_rowMatches l d hI (st_restMatches l d hI)
theorem c_rowMatches (l : Launch) (dC : Nat → ClassId) (dI : Nat → Nat → Nat) (cB cC cI cJ cZ : ClassId) (a : Nat → Nat) (F : Nat → Int32) (X : Nat → Nat → Int32) (J : Nat → Nat → Int64) (R : Nat → Nat) (gf gn : Nat) (x y z p4 p5 : Int) (d : Nat) (D : Int → Nat) (ix : (-2147483648 ≤ x ∧ x < 2147483648)) (iy : (-2147483648 ≤ y ∧ y < 2147483648)) (iz : (-2147483648 ≤ z ∧ z < 2147483648)) (ip4 : (-2147483648 ≤ p4 ∧ p4 < 2147483648)) (ip5 : (-2147483648 ≤ p5 ∧ p5 < 2147483648)) (hgf : gf ≤ 67600) (hgn : gn ≤ 63261) (hsp : SPR (X 1)) (hnt : 0 ≤ (F 13).toInt ∧ (F 13).toInt ≤ (gn : Int)) (hst : 0 ≤ (F 23).toInt ∧ (F 23).toInt ≤ 606) (hsy : 0 ≤ (F 15).toInt ∧ (F 15).toInt ≤ 2560) (hru : VB (X 12)) (hms : 0 ≤ (F 19).toInt ∧ (F 19).toInt ≤ 3000 ∧ 0 ≤ (F 20).toInt ∧ (F 20).toInt ≤ 3000) (hl4 : (F 17).toInt < 2000000000) (hx2 : x < 1073741824 ∧ x < y ∧ y < 1100000000 ∧ z < 1100000000 ∧ 0 ≤ p4 ∧ p4 < 1200000000) (hdp : D x ≤ d) (hne : NST (X 1) D gf) (s0 : Nat) : Met l yX4_rowMatches vX4_rowMatches { frames := 3 * d + 7, cells := 0, slots := 0, locals := 90 * d + 200 } (va_Pc [.ref (a 4), .int (oI x), .int (oI y), .int (oI z), .int (oI p4), .int (oI p5)] (cPre dC dI cB cC cI cJ cZ a F X J R gf gn s0)) (va_Qi (fun (r : Int32) (u : (Nat → Int32) × (Nat → Nat → Int32)) => match u with | (F1, X1) => (0 ≤ (F1 19).toInt ∧ (F1 19).toInt ≤ 3000 ∧ 0 ≤ (F1 20).toInt ∧ (F1 20).toInt ≤ 3000) ∧ ((r).toInt = 0 ∨ (r).toInt = 1)) (fun u => cPost dC dI cB cC cI cJ cZ a (rg 19 20 F u.1) (rg 17 18 (rg 8 11 X u.2) u.2) J R gf gn (va_A (CW cB cC cI cJ cZ a F X J R gf gn) s0)) (va_A (CW cB cC cI cJ cZ a F X J R gf gn) s0)) 0 0 (va_A (CW cB cC cI cJ cZ a F X J R gf gn) s0) := (all_rowMatches l d) dC dI cB cC cI cJ cZ a F X J R gf gn x y z p4 p5 D ix iy iz ip4 ip5 hgf hgn hsp hnt hst hsy hru hms hl4 hx2 hdp hne s0
set_option maxHeartbeats 4000000 in
set_option maxRecDepth 100000 in
theorem lq_ruleFor {p : Program} {l : Launch} {e : Env} {s : State} {m : MethodId} {args : Array Value} {below : List Frame} {meth : Method} {c : Code} {A : Nat → Prop} {dC : Nat → ClassId} {dI : Nat → Nat → Nat} {cB cC cI cJ cZ : ClassId} {a : Nat → Nat} {F : Nat → Int32} {X : Nat → Nat → Int32} {J : Nat → Nat → Int64} {R : Nat → Nat} {gf gn : Nat} (hx : p.tables.exec = Jvm.exec) (hb : c.code = cX4_ruleFor) (hml : c.maxLocals = 6) (hown : s.vm.findClass RX4 = some m.cls) (hts : ∀ w ∈ vX4_ruleFor, w.before args s = true) (hK : va_K (dC, dI) vwCl (TY cB cC cI cJ cZ) s) (hNW : NW s) (hA : ∀ q : Nat, s.heap.size ≤ q → A q) (hr : meth.sig.returnType = (some .int)) (hlocks : meth.locks = false) (x y z : Int) (D : Int → Nat) (ix : (-2147483648 ≤ x ∧ x < 2147483648)) (iy : (-2147483648 ≤ y ∧ y < 2147483648)) (iz : (-2147483648 ≤ z ∧ z < 2147483648)) (hgf : gf ≤ 67600) (hgn : gn ≤ 63261) (hsp : SPR (X 1)) (hnt : 0 ≤ (F 13).toInt ∧ (F 13).toInt ≤ (gn : Int)) (hst : 0 ≤ (F 23).toInt ∧ (F 23).toInt ≤ 606) (hsy : 0 ≤ (F 15).toInt ∧ (F 15).toInt ≤ 2560) (hru : VB (X 12)) (hms : 0 ≤ (F 19).toInt ∧ (F 19).toInt ≤ 3000 ∧ 0 ≤ (F 20).toInt ∧ (F 20).toInt ≤ 3000) (hx2 : 0 ≤ x ∧ x < 1000000000 ∧ y < 1073741824) (hne : NST (X 1) D gf)   : ∀ (k : Nat) (F1 : Nat → Int32) (X1 : Nat → Nat → Int32) (q : Int), (AF (X 1) gf y - q).toNat < k → (-2147483648 ≤ q ∧ q < 2147483648) → (y < q ∧ q ≤ y + 300000) → (0 ≤ (F1 19).toInt ∧ (F1 19).toInt ≤ 3000 ∧ 0 ≤ (F1 20).toInt ∧ (F1 20).toInt ≤ 3000) → ((F1 17).toInt < 2000000000) → ∀ (H : Heap) (locs : List Loc), va_P (dC, dI) vwCl (CW cB cC cI cJ cZ a (rg 17 20 (rg 14 14 F F1) F1) (rg 17 18 (rg 8 11 X X1) X1) J R gf gn) H → va_D A (CW cB cC cI cJ cZ a (rg 17 20 (rg 14 14 F F1) F1) (rg 17 18 (rg 8 11 X X1) X1) J R gf gn) → va_S A s.heap H locs → ∀ (ls : Array Slot), lv_has ls 6 [(0, .ref (a 4)), (1, .int (oI x)), (2, .int (oI y)), (4, .int (oI q))] → W p l e (headSpec vX4_ruleFor { frames := 194, cells := 0, slots := 0, locals := 5808 }).room s m args below meth c H locs 0 0 (MQ below (va_Qi (fun (r : Int32) (u : (Nat → Int32) × (Nat → Nat → Int32)) => match u with | (F1, X1) => (0 ≤ (F1 19).toInt ∧ (F1 19).toInt ≤ 3000 ∧ 0 ≤ (F1 20).toInt ∧ (F1 20).toInt ≤ 3000) ∧ (r).toInt < 1000000000) (fun u => cPost dC dI cB cC cI cJ cZ a (rg 17 20 (rg 14 14 F u.1) u.1) (rg 17 18 (rg 8 11 X u.2) u.2) J R gf gn A) A) args s 0 0 A) (F0 m 29 ls []) := by
  have hcs : 0 + 0 ≤ (0 : Nat) ∧ 0 + 0 ≤ (0 : Nat) := ⟨Nat.le_refl 0, Nat.le_refl 0⟩
  intro k
  induction k with
  | zero =>
    intro F1 X1 q hk iq9 hq hms hl4
    exact absurd hk (Nat.not_lt_zero _)
  | succ k ih =>
    intro F1 X1 q hk iq9 hq hms hl4 H locs hP hD hS ls hl
    have eb := AF_b hsp gf y
    refine lv_iload hx hb dX4_ruleFor_29 (lv_at hl 3 rfl) ?_
    refine lv_aload_n hx hb dX4_ruleFor_31 rfl (lv_at hl 0 rfl) ?_
    refine cg_4_0 hx hb hts inX4_ruleFor_X4 hown hK hP (hts _ lkX4_ruleFor_f18) dX4_ruleFor_32 ?_
    refine lv_iload_n hx hb dX4_ruleFor_35 rfl (lv_at hl 2 rfl) ?_
    refine ccs_iV (As := [.int (oI y)]) (rest := [.int (oI q)]) ⟨hx, hb, hml, hown, hts⟩ (c_after l dC dI cB cC cI cJ cZ a (rg 17 20 (rg 14 14 F F1) F1) (rg 17 18 (rg 8 11 X X1) X1) J R gf gn y  (by omega) (show gf ≤ 67600 from by first | assumption | omega) (show SPR (X 1) from by first | assumption | omega) (show y < 2147483647 from by first | assumption | omega) H.size) (cwV 1 hts kX4_ruleFor_X1_after_40 rfl rfl rfl (by decide +kernel) ⟨Nat.le_of_ble_eq_true rfl, Nat.le_of_ble_eq_true rfl⟩) (va_recv hK hP (ci := 1) (q0 := 1) rfl rfl) hK hNW hP hD hS hA rfl rfl hl.1 (lv_room (Nat.le_of_ble_eq_true rfl)) dX4_ruleFor_36 hcs (fun r_1 hw_2 H locs hP hD hS => ?_)
    have hw_2 : (r_1).toInt = AF (X 1) gf y ∧ y < (r_1).toInt ∧ (r_1).toInt ≤ y + 67600 := hw_2
    obtain ⟨ea, la, ua⟩ := hw_2
    have i_3 := i32r r_1
    refine ci_ge (tgt := 109) hx hb (by omega) (i32r _) dX4_ruleFor_39 (by decide) (fun c_4 => ?_) (fun c_4 => ?_)
    · refine lv_iconst (v := oI (-1)) hx hb dX4_ruleFor_109 (by decide) ?_
      have e0 : (oI ((-1))).toInt = (-1) := by decide
      have eF9 : rg 17 20 (rg 14 14 F (rg 17 20 (rg 14 14 F F1) F1)) (rg 17 20 (rg 14 14 F F1) F1) = rg 17 20 (rg 14 14 F F1) F1 := by funext k; simp only [rg, va_up]; (repeat' split) <;> first | with_reducible rfl | omega
      have eX9 : rg 17 18 (rg 8 11 X (rg 17 18 (rg 8 11 X X1) X1)) (rg 17 18 (rg 8 11 X X1) X1) = rg 17 18 (rg 8 11 X X1) X1 := by funext k; simp only [rg, va_up]; (repeat' split) <;> first | with_reducible rfl | omega
      have hP9 : va_P (dC, dI) vwCl (CW cB cC cI cJ cZ a (rg 17 20 (rg 14 14 F (rg 17 20 (rg 14 14 F F1) F1)) (rg 17 20 (rg 14 14 F F1) F1)) (rg 17 18 (rg 8 11 X (rg 17 18 (rg 8 11 X X1) X1)) (rg 17 18 (rg 8 11 X X1) X1)) J R gf gn) H := by rw [eF9, eX9]; exact hP
      have hD9 : va_D A (CW cB cC cI cJ cZ a (rg 17 20 (rg 14 14 F (rg 17 20 (rg 14 14 F F1) F1)) (rg 17 20 (rg 14 14 F F1) F1)) (rg 17 18 (rg 8 11 X (rg 17 18 (rg 8 11 X X1) X1)) (rg 17 18 (rg 8 11 X X1) X1)) J R gf gn) := by rw [eF9, eX9]; exact hD
      have hpost : (0 ≤ (F1 19).toInt ∧ (F1 19).toInt ≤ 3000 ∧ 0 ≤ (F1 20).toInt ∧ (F1 20).toInt ≤ 3000) ∧ (oI ((-1))).toInt < 1000000000 := by first | assumption | omega | (with_reducible rfl) | ((repeat' apply And.intro) <;> first | assumption | omega | (with_reducible rfl))
      exact W.iret (v := (oI ((-1)))) hx hb hr (fun t ht hW => ⟨⟨(oI ((-1))), (rg 17 20 (rg 14 14 F F1) F1, rg 17 18 (rg 8 11 X X1) X1), rfl, hpost, by rw [ht]; exact hP9, va_K.moved hW.alike hK, hD9⟩, hS.F ht⟩) hS.2.2 dX4_ruleFor_110
    · refine lv_aload_n hx hb dX4_ruleFor_42 rfl (lv_at hl 0 rfl) ?_
      refine cg_4_1 hx hb hts inX4_ruleFor_X4 hown hK hP (hts _ lkX4_ruleFor_f22) dX4_ruleFor_43 ?_
      have nq := NST_af hne (p := y) (q := q) (by omega) (by omega)
      refine ccp_vV (As := []) (rest := []) (gF := fun F9 => rg 14 14 (rg 17 20 (rg 14 14 F F1) F1) F9) (gX := fun _ => rg 17 18 (rg 8 11 X X1) X1) ⟨hx, hb, hml, hown, hts⟩ (c_clearNotes l dC dI cB cC cI cJ cZ a (rg 17 20 (rg 14 14 F F1) F1) (rg 17 18 (rg 8 11 X X1) X1) J R gf gn      H.size) (cwV 0 hts kX4_ruleFor_X6_clearNotes_44 rfl rfl rfl (by decide +kernel) ⟨Nat.le_of_ble_eq_true rfl, Nat.le_of_ble_eq_true rfl⟩) (va_recv hK hP (ci := 6) (q0 := 6) rfl rfl) hK hNW hP hD hS hA rfl rfl hl.1 (lv_room (Nat.le_of_ble_eq_true rfl)) dX4_ruleFor_46 hcs (fun F_5 X_6 hw_7 H locs hP hD hS => ?_)
      refine lv_aload_n hx hb dX4_ruleFor_49 rfl (lv_at hl 0 rfl) ?_
      refine cg_4_3 hx hb hts inX4_ruleFor_X4 hown hK hP (hts _ lkX4_ruleFor_f30) dX4_ruleFor_50 ?_
      refine ccp_vV (As := []) (rest := []) (gF := fun F9 => rg 19 20 (rg 14 14 (rg 17 20 (rg 14 14 F F1) F1) F_5) F9) (gX := fun _ => rg 17 18 (rg 8 11 X X1) X1) ⟨hx, hb, hml, hown, hts⟩ (c_clearM l dC dI cB cC cI cJ cZ a (rg 14 14 (rg 17 20 (rg 14 14 F F1) F1) F_5) (rg 17 18 (rg 8 11 X X1) X1) J R gf gn      H.size) (cwV 0 hts kX4_ruleFor_X5_clear_49 rfl rfl rfl (by decide +kernel) ⟨Nat.le_of_ble_eq_true rfl, Nat.le_of_ble_eq_true rfl⟩) (va_recv hK hP (ci := 5) (q0 := 5) rfl rfl) hK hNW hP hD hS hA rfl rfl hl.1 (lv_room (Nat.le_of_ble_eq_true rfl)) dX4_ruleFor_53 hcs (fun F_8 X_9 hw_10 H locs hP hD hS => ?_)
      have hw_10 : 0 ≤ (F_8 19).toInt ∧ (F_8 19).toInt ≤ 3000 ∧ 0 ≤ (F_8 20).toInt ∧ (F_8 20).toInt ≤ 3000 := hw_10
      have hms := hw_10
      refine lv_iload hx hb dX4_ruleFor_56 (lv_at hl 3 rfl) ?_
      refine lv_iconst (v := oI 1) hx hb dX4_ruleFor_58 (by decide) ?_
      refine lv_iadd hx hb dX4_ruleFor_59 ?_
      refine tp_i (oI_add q 1) ?_
      refine lv_istore (lv' := [(5, .int (oI (q + 1))), (0, .ref (a 4)), (1, .int (oI x)), (2, .int (oI y)), (4, .int (oI q))]) hx hb dX4_ruleFor_60 hl (by decide) rfl (fun ls hl => ?_)
      refine lv_aload_n hx hb dX4_ruleFor_62 rfl (lv_at hl 1 rfl) ?_
      refine lv_iload hx hb dX4_ruleFor_63 (lv_at hl 0 rfl) ?_
      refine lv_aload_n hx hb dX4_ruleFor_65 rfl (lv_at hl 1 rfl) ?_
      refine cg_4_0 hx hb hts inX4_ruleFor_X4 hown hK hP (hts _ lkX4_ruleFor_f18) dX4_ruleFor_66 ?_
      refine lv_iload hx hb dX4_ruleFor_69 (lv_at hl 0 rfl) ?_
      refine lv_iconst (v := oI 1) hx hb dX4_ruleFor_71 (by decide) ?_
      refine ccs_iV (As := [.int (oI (q + 1)), .int (oI 1)]) (rest := [.int (oI (q + 1)), .ref (a 4)]) ⟨hx, hb, hml, hown, hts⟩ (c_part1 l dC dI cB cC cI cJ cZ a (rg 19 20 (rg 14 14 (rg 17 20 (rg 14 14 F F1) F1) F_5) F_8) (rg 17 18 (rg 8 11 X X1) X1) J R gf gn (q + 1)  (by omega) (show gf ≤ 67600 from by first | assumption | omega) (show SPR (X 1) from by first | assumption | omega) (show q + 1 < 1073741824 from by first | assumption | omega) H.size) (cwV 2 hts kX4_ruleFor_X1_part_34 rfl rfl rfl (by decide +kernel) ⟨Nat.le_of_ble_eq_true rfl, Nat.le_of_ble_eq_true rfl⟩) (va_recv hK hP (ci := 1) (q0 := 1) rfl rfl) hK hNW hP hD hS hA rfl rfl hl.1 (lv_room (Nat.le_of_ble_eq_true rfl)) dX4_ruleFor_72 hcs (fun r_11 hw_12 H locs hP hD hS => ?_)
      have hw_12 : (r_11).toInt = AF (X 1) gf ((q + 1) + 1) ∧ (q + 1) + 1 < (r_11).toInt ∧ (r_11).toInt ≤ (q + 1) + 67601 := hw_12
      obtain ⟨ep1, lp1, up1⟩ := hw_12
      have i_13 := i32r r_11
      refine lv_iload_n hx hb dX4_ruleFor_75 rfl (lv_at hl 2 rfl) ?_
      refine lv_aload_n hx hb dX4_ruleFor_76 rfl (lv_at hl 1 rfl) ?_
      refine cg_4_0 hx hb hts inX4_ruleFor_X4 hown hK hP (hts _ lkX4_ruleFor_f18) dX4_ruleFor_77 ?_
      refine lv_iload_n hx hb dX4_ruleFor_80 rfl (lv_at hl 2 rfl) ?_
      refine lv_iconst (v := oI 1) hx hb dX4_ruleFor_81 (by decide) ?_
      refine ccs_iV (As := [.int (oI x), .int (oI 1)]) (rest := [.int (oI x), .int (oI r_11.toInt), .int (oI (q + 1)), .ref (a 4)]) ⟨hx, hb, hml, hown, hts⟩ (c_part1 l dC dI cB cC cI cJ cZ a (rg 19 20 (rg 14 14 (rg 17 20 (rg 14 14 F F1) F1) F_5) F_8) (rg 17 18 (rg 8 11 X X1) X1) J R gf gn x  (by omega) (show gf ≤ 67600 from by first | assumption | omega) (show SPR (X 1) from by first | assumption | omega) (show x < 1073741824 from by first | assumption | omega) H.size) (cwV 2 hts kX4_ruleFor_X1_part_34 rfl rfl rfl (by decide +kernel) ⟨Nat.le_of_ble_eq_true rfl, Nat.le_of_ble_eq_true rfl⟩) (va_recv hK hP (ci := 1) (q0 := 1) rfl rfl) hK hNW hP hD hS hA rfl rfl hl.1 (lv_room (Nat.le_of_ble_eq_true rfl)) dX4_ruleFor_82 hcs (fun r_14 hw_15 H locs hP hD hS => ?_)
      have hw_15 : (r_14).toInt = AF (X 1) gf (x + 1) ∧ x + 1 < (r_14).toInt ∧ (r_14).toInt ≤ x + 67601 := hw_15
      obtain ⟨ep1, lp1, up1⟩ := hw_15
      have i_16 := i32r r_14
      refine lv_iconst (v := oI 0) hx hb dX4_ruleFor_85 (by decide) ?_
      have hn1 := hne.1 (q + 1)
      refine ccp_iV (As := [.int (oI (q + 1)), .int (oI r_11.toInt), .int (oI x), .int (oI r_14.toInt), .int (oI 0)]) (rest := []) (gF := fun F9 => rg 19 20 (rg 19 20 (rg 14 14 (rg 17 20 (rg 14 14 F F1) F1) F_5) F_8) F9) (gX := fun X9 => rg 17 18 (rg 8 11 (rg 17 18 (rg 8 11 X X1) X1) X9) X9) ⟨hx, hb, hml, hown, hts⟩ (c_rowMatches l dC dI cB cC cI cJ cZ a (rg 19 20 (rg 14 14 (rg 17 20 (rg 14 14 F F1) F1) F_5) F_8) (rg 17 18 (rg 8 11 X X1) X1) J R gf gn (q + 1) r_11.toInt x r_14.toInt 0 62 D (by omega) (i32r _) (by omega) (i32r _) (by decide) (show gf ≤ 67600 from by first | assumption | omega) (show gn ≤ 63261 from by first | assumption | omega) (show SPR (X 1) from by first | assumption | omega) (show 0 ≤ (F 13).toInt ∧ (F 13).toInt ≤ (gn : Int) from by first | assumption | omega) (show 0 ≤ (F 23).toInt ∧ (F 23).toInt ≤ 606 from by first | assumption | omega) (show 0 ≤ (F 15).toInt ∧ (F 15).toInt ≤ 2560 from by first | assumption | omega) (show VB (X 12) from by first | assumption | omega) (show 0 ≤ (F_8 19).toInt ∧ (F_8 19).toInt ≤ 3000 ∧ 0 ≤ (F_8 20).toInt ∧ (F_8 20).toInt ≤ 3000 from by first | assumption | omega) (show (F1 17).toInt < 2000000000 from by first | assumption | omega) (show q + 1 < 1073741824 ∧ q + 1 < r_11.toInt ∧ r_11.toInt < 1100000000 ∧ x < 1100000000 ∧ 0 ≤ r_14.toInt ∧ r_14.toInt < 1200000000 from by first | assumption | omega) (show D (q + 1) ≤ 62 from by first | assumption | omega) (show NST (X 1) D gf from by assumption) H.size) (cwV 5 hts kX4_ruleFor_X4_rowMatches_54 rfl rfl rfl (by decide +kernel) ⟨show (3 * 62 + 7) + 1 ≤ 194 from by omega, show 8 + (9 + 11) + (90 * 62 + 200) ≤ 5808 from by omega⟩) (va_recv hK hP (ci := 4) (q0 := 4) rfl rfl) hK hNW hP hD hS hA rfl rfl hl.1 (lv_room (Nat.le_of_ble_eq_true rfl)) dX4_ruleFor_86 hcs (fun r_17 F_18 X_19 hw_20 H locs hP hD hS => ?_)
      have hw_20 : (0 ≤ (F_18 19).toInt ∧ (F_18 19).toInt ≤ 3000 ∧ 0 ≤ (F_18 20).toInt ∧ (F_18 20).toInt ≤ 3000) ∧ ((r_17).toInt = 0 ∨ (r_17).toInt = 1) := hw_20
      obtain ⟨hms, hz⟩ := hw_20
      have i_21 := i32r r_17
      refine cz_eq (tgt := 95) hx hb (i32r _) dX4_ruleFor_89 (by decide) (fun c_22 => ?_) (fun c_22 => ?_)
      · refine lv_aload_n hx hb dX4_ruleFor_95 rfl (lv_at hl 1 rfl) ?_
        refine cg_4_0 hx hb hts inX4_ruleFor_X4 hown hK hP (hts _ lkX4_ruleFor_f18) dX4_ruleFor_96 ?_
        refine lv_iload hx hb dX4_ruleFor_99 (lv_at hl 4 rfl) ?_
        refine ccs_iV (As := [.int (oI q)]) (rest := []) ⟨hx, hb, hml, hown, hts⟩ (c_after l dC dI cB cC cI cJ cZ a (rg 19 20 (rg 19 20 (rg 14 14 (rg 17 20 (rg 14 14 F F1) F1) F_5) F_8) F_18) (rg 17 18 (rg 8 11 (rg 17 18 (rg 8 11 X X1) X1) X_19) X_19) J R gf gn q  (by omega) (show gf ≤ 67600 from by first | assumption | omega) (show SPR (X 1) from by first | assumption | omega) (show q < 2147483647 from by first | assumption | omega) H.size) (cwV 1 hts kX4_ruleFor_X1_after_40 rfl rfl rfl (by decide +kernel) ⟨Nat.le_of_ble_eq_true rfl, Nat.le_of_ble_eq_true rfl⟩) (va_recv hK hP (ci := 1) (q0 := 1) rfl rfl) hK hNW hP hD hS hA rfl rfl hl.1 (lv_room (Nat.le_of_ble_eq_true rfl)) dX4_ruleFor_101 hcs (fun r_23 hw_24 H locs hP hD hS => ?_)
        have hw_24 : (r_23).toInt = AF (X 1) gf q ∧ q < (r_23).toInt ∧ (r_23).toInt ≤ q + 67600 := hw_24
        obtain ⟨ea, la, ua⟩ := hw_24
        have i_25 := i32r r_23
        refine lv_istore (lv' := [(4, .int (oI r_23.toInt)), (5, .int (oI (q + 1))), (0, .ref (a 4)), (1, .int (oI x)), (2, .int (oI y))]) hx hb dX4_ruleFor_104 hl (by decide) rfl (fun ls hl => ?_)
        refine lv_goto (tgt := 29) hx hb dX4_ruleFor_106 (by decide) ?_
        have eF9 : rg 17 20 (rg 14 14 F (rg 19 20 (rg 19 20 (rg 14 14 (rg 17 20 (rg 14 14 F F1) F1) F_5) F_8) F_18)) (rg 19 20 (rg 19 20 (rg 14 14 (rg 17 20 (rg 14 14 F F1) F1) F_5) F_8) F_18) = rg 19 20 (rg 19 20 (rg 14 14 (rg 17 20 (rg 14 14 F F1) F1) F_5) F_8) F_18 := by funext k; simp only [rg, va_up]; (repeat' split) <;> first | with_reducible rfl | omega
        have eX9 : rg 17 18 (rg 8 11 X (rg 17 18 (rg 8 11 (rg 17 18 (rg 8 11 X X1) X1) X_19) X_19)) (rg 17 18 (rg 8 11 (rg 17 18 (rg 8 11 X X1) X1) X_19) X_19) = rg 17 18 (rg 8 11 (rg 17 18 (rg 8 11 X X1) X1) X_19) X_19 := by funext k; simp only [rg, va_up]; (repeat' split) <;> first | with_reducible rfl | omega
        have hP9 : va_P (dC, dI) vwCl (CW cB cC cI cJ cZ a (rg 17 20 (rg 14 14 F (rg 19 20 (rg 19 20 (rg 14 14 (rg 17 20 (rg 14 14 F F1) F1) F_5) F_8) F_18)) (rg 19 20 (rg 19 20 (rg 14 14 (rg 17 20 (rg 14 14 F F1) F1) F_5) F_8) F_18)) (rg 17 18 (rg 8 11 X (rg 17 18 (rg 8 11 (rg 17 18 (rg 8 11 X X1) X1) X_19) X_19)) (rg 17 18 (rg 8 11 (rg 17 18 (rg 8 11 X X1) X1) X_19) X_19)) J R gf gn) H := by rw [eF9, eX9]; exact hP
        have hD9 : va_D A (CW cB cC cI cJ cZ a (rg 17 20 (rg 14 14 F (rg 19 20 (rg 19 20 (rg 14 14 (rg 17 20 (rg 14 14 F F1) F1) F_5) F_8) F_18)) (rg 19 20 (rg 19 20 (rg 14 14 (rg 17 20 (rg 14 14 F F1) F1) F_5) F_8) F_18)) (rg 17 18 (rg 8 11 X (rg 17 18 (rg 8 11 (rg 17 18 (rg 8 11 X X1) X1) X_19) X_19)) (rg 17 18 (rg 8 11 (rg 17 18 (rg 8 11 X X1) X1) X_19) X_19)) J R gf gn) := by rw [eF9, eX9]; exact hD
        exact ih (rg 19 20 (rg 19 20 (rg 14 14 (rg 17 20 (rg 14 14 F F1) F1) F_5) F_8) F_18) (rg 17 18 (rg 8 11 (rg 17 18 (rg 8 11 X X1) X1) X_19) X_19) r_23.toInt (show (AF (X 1) gf y - r_23.toInt).toNat < k from by omega) (i32r _) (show y < r_23.toInt ∧ r_23.toInt ≤ y + 300000 from by first | assumption | omega | (with_reducible rfl) | ((repeat' apply And.intro) <;> first | assumption | omega | (with_reducible rfl))) (show 0 ≤ (F_18 19).toInt ∧ (F_18 19).toInt ≤ 3000 ∧ 0 ≤ (F_18 20).toInt ∧ (F_18 20).toInt ≤ 3000 from by first | assumption | omega | (with_reducible rfl) | ((repeat' apply And.intro) <;> first | assumption | omega | (with_reducible rfl))) (show (F1 17).toInt < 2000000000 from by first | assumption | omega | (with_reducible rfl) | ((repeat' apply And.intro) <;> first | assumption | omega | (with_reducible rfl))) _ _ hP9 hD9 hS ls (lv_sub hl [2, 3, 4, 0] rfl)
      · refine lv_iload hx hb dX4_ruleFor_92 (lv_at hl 4 rfl) ?_
        have e0 : (oI q).toInt = q := toInt_oI (by omega)
        have eF9 : rg 17 20 (rg 14 14 F (rg 19 20 (rg 19 20 (rg 14 14 (rg 17 20 (rg 14 14 F F1) F1) F_5) F_8) F_18)) (rg 19 20 (rg 19 20 (rg 14 14 (rg 17 20 (rg 14 14 F F1) F1) F_5) F_8) F_18) = rg 19 20 (rg 19 20 (rg 14 14 (rg 17 20 (rg 14 14 F F1) F1) F_5) F_8) F_18 := by funext k; simp only [rg, va_up]; (repeat' split) <;> first | with_reducible rfl | omega
        have eX9 : rg 17 18 (rg 8 11 X (rg 17 18 (rg 8 11 (rg 17 18 (rg 8 11 X X1) X1) X_19) X_19)) (rg 17 18 (rg 8 11 (rg 17 18 (rg 8 11 X X1) X1) X_19) X_19) = rg 17 18 (rg 8 11 (rg 17 18 (rg 8 11 X X1) X1) X_19) X_19 := by funext k; simp only [rg, va_up]; (repeat' split) <;> first | with_reducible rfl | omega
        have hP9 : va_P (dC, dI) vwCl (CW cB cC cI cJ cZ a (rg 17 20 (rg 14 14 F (rg 19 20 (rg 19 20 (rg 14 14 (rg 17 20 (rg 14 14 F F1) F1) F_5) F_8) F_18)) (rg 19 20 (rg 19 20 (rg 14 14 (rg 17 20 (rg 14 14 F F1) F1) F_5) F_8) F_18)) (rg 17 18 (rg 8 11 X (rg 17 18 (rg 8 11 (rg 17 18 (rg 8 11 X X1) X1) X_19) X_19)) (rg 17 18 (rg 8 11 (rg 17 18 (rg 8 11 X X1) X1) X_19) X_19)) J R gf gn) H := by rw [eF9, eX9]; exact hP
        have hD9 : va_D A (CW cB cC cI cJ cZ a (rg 17 20 (rg 14 14 F (rg 19 20 (rg 19 20 (rg 14 14 (rg 17 20 (rg 14 14 F F1) F1) F_5) F_8) F_18)) (rg 19 20 (rg 19 20 (rg 14 14 (rg 17 20 (rg 14 14 F F1) F1) F_5) F_8) F_18)) (rg 17 18 (rg 8 11 X (rg 17 18 (rg 8 11 (rg 17 18 (rg 8 11 X X1) X1) X_19) X_19)) (rg 17 18 (rg 8 11 (rg 17 18 (rg 8 11 X X1) X1) X_19) X_19)) J R gf gn) := by rw [eF9, eX9]; exact hD
        have hpost : (0 ≤ (F_18 19).toInt ∧ (F_18 19).toInt ≤ 3000 ∧ 0 ≤ (F_18 20).toInt ∧ (F_18 20).toInt ≤ 3000) ∧ (oI q).toInt < 1000000000 := by first | assumption | omega | (with_reducible rfl) | ((repeat' apply And.intro) <;> first | assumption | omega | (with_reducible rfl))
        exact W.iret (v := (oI q)) hx hb hr (fun t ht hW => ⟨⟨(oI q), (rg 19 20 (rg 19 20 (rg 14 14 (rg 17 20 (rg 14 14 F F1) F1) F_5) F_8) F_18, rg 17 18 (rg 8 11 (rg 17 18 (rg 8 11 X X1) X1) X_19) X_19), rfl, hpost, by rw [ht]; exact hP9, va_K.moved hW.alike hK, hD9⟩, hS.F ht⟩) hS.2.2 dX4_ruleFor_94

set_option maxHeartbeats 4000000 in
set_option maxRecDepth 100000 in
theorem c_ruleFor (l : Launch) (dC : Nat → ClassId) (dI : Nat → Nat → Nat) (cB cC cI cJ cZ : ClassId) (a : Nat → Nat) (F : Nat → Int32) (X : Nat → Nat → Int32) (J : Nat → Nat → Int64) (R : Nat → Nat) (gf gn : Nat) (x y z : Int) (D : Int → Nat) (ix : (-2147483648 ≤ x ∧ x < 2147483648)) (iy : (-2147483648 ≤ y ∧ y < 2147483648)) (iz : (-2147483648 ≤ z ∧ z < 2147483648)) (hgf : gf ≤ 67600) (hgn : gn ≤ 63261) (hsp : SPR (X 1)) (hnt : 0 ≤ (F 13).toInt ∧ (F 13).toInt ≤ (gn : Int)) (hst : 0 ≤ (F 23).toInt ∧ (F 23).toInt ≤ 606) (hsy : 0 ≤ (F 15).toInt ∧ (F 15).toInt ≤ 2560) (hru : VB (X 12)) (hms : 0 ≤ (F 19).toInt ∧ (F 19).toInt ≤ 3000 ∧ 0 ≤ (F 20).toInt ∧ (F 20).toInt ≤ 3000) (hx2 : 0 ≤ x ∧ x < 1000000000 ∧ y < 1073741824) (hne : NST (X 1) D gf) (s0 : Nat) : Met l yX4_ruleFor vX4_ruleFor { frames := 194, cells := 0, slots := 0, locals := 5808 } (va_Pc [.ref (a 4), .int (oI x), .int (oI y), .int (oI z)] (cPre dC dI cB cC cI cJ cZ a F X J R gf gn s0)) (va_Qi (fun (r : Int32) (u : (Nat → Int32) × (Nat → Nat → Int32)) => match u with | (F1, X1) => (0 ≤ (F1 19).toInt ∧ (F1 19).toInt ≤ 3000 ∧ 0 ≤ (F1 20).toInt ∧ (F1 20).toInt ≤ 3000) ∧ (r).toInt < 1000000000) (fun u => cPost dC dI cB cC cI cJ cZ a (rg 17 20 (rg 14 14 F u.1) u.1) (rg 17 18 (rg 8 11 X u.2) u.2) J R gf gn (va_A (CW cB cC cI cJ cZ a F X J R gf gn) s0)) (va_A (CW cB cC cI cJ cZ a F X J R gf gn) s0)) 0 0 (va_A (CW cB cC cI cJ cZ a F X J R gf gn) s0) := by
  refine Met.ofW (cc := cX4_ruleFor) (maxL := 6) (ret := (some .int)) (by decide) rfl ?_
  intro p e s m args below meth c s₁ B9 hml hv
  obtain ⟨rfl, hsz0, hP, hK, hD0, hNW⟩ := hv
  have hx := B9.exec
  have hb := B9.bytes
  have hr := B9.returns
  have hts := atoms_spec (ws := vX4_ruleFor) B9.pre
  have hown : s.vm.findClass RX4 = some m.cls := findClass_of_methodNamed B9.named
  have hlocks := B9.notSynchronized
  clear B9
  subst hsz0
  have hD := hD0.self (sz := s.heap.size)
  generalize hAe : va_A (CW cB cC cI cJ cZ a F X J R gf gn) s.heap.size = A at hD ⊢
  have hA : ∀ q : Nat, s.heap.size ≤ q → A q := fun q h => by rw [← hAe]; exact Or.inr h
  have hS : va_S A s.heap s.heap [] := va_S.rf
  have hcs : 0 + 0 ≤ (0 : Nat) ∧ 0 + 0 ≤ (0 : Nat) := ⟨Nat.le_refl 0, Nat.le_refl 0⟩
  have hl := lv_entry ([.ref (a 4), .int (oI x), .int (oI y), .int (oI z)]) (n := 6) (Nat.le_of_ble_eq_true rfl)
  rw [lg_entry_eq]
  generalize (lg_sl ([.ref (a 4), .int (oI x), .int (oI y), .int (oI z)]) ++ List.replicate (6 - (lg_sl ([.ref (a 4), .int (oI x), .int (oI y), .int (oI z)])).length) Slot.unset).toArray = ls at hl ⊢
  have hl : lv_has ls 6 [(0, .ref (a 4)), (1, .int (oI x)), (2, .int (oI y)), (3, .int (oI z))] := hl
  refine lv_aload_n hx hb dX4_ruleFor_0 rfl (lv_at hl 0 rfl) ?_
  refine lv_aload_n hx hb dX4_ruleFor_1 rfl (lv_at hl 0 rfl) ?_
  refine cg_4_0 hx hb hts inX4_ruleFor_X4 hown hK hP (hts _ lkX4_ruleFor_f18) dX4_ruleFor_2 ?_
  refine lv_iload_n hx hb dX4_ruleFor_5 rfl (lv_at hl 2 rfl) ?_
  refine lv_iconst (v := oI 1) hx hb dX4_ruleFor_6 (by decide) ?_
  refine ccs_iV (As := [.int (oI y), .int (oI 1)]) (rest := [.ref (a 4)]) ⟨hx, hb, hml, hown, hts⟩ (c_part1 l dC dI cB cC cI cJ cZ a F X J R gf gn y  (by omega) (show gf ≤ 67600 from by first | assumption | omega) (show SPR (X 1) from by first | assumption | omega) (show y < 1073741824 from by first | assumption | omega) s.heap.size) (cwV 2 hts kX4_ruleFor_X1_part_34 rfl rfl rfl (by decide +kernel) ⟨Nat.le_of_ble_eq_true rfl, Nat.le_of_ble_eq_true rfl⟩) (va_recv hK hP (ci := 1) (q0 := 1) rfl rfl) hK hNW hP hD hS hA rfl rfl hl.1 (lv_room (Nat.le_of_ble_eq_true rfl)) dX4_ruleFor_7 hcs (fun r_1 hw_2 H locs hP hD hS => ?_)
  have hw_2 : (r_1).toInt = AF (X 1) gf (y + 1) ∧ y + 1 < (r_1).toInt ∧ (r_1).toInt ≤ y + 67601 := hw_2
  obtain ⟨ep1, lp1, up1⟩ := hw_2
  have i_3 := i32r r_1
  refine cp_4_4 hx hb hts inX4_ruleFor_X4 hown hK hP hD hS (hts _ lkX4_ruleFor_f9) dX4_ruleFor_10 (fun H locs hP hD hS => ?_)
  have hP : va_P (dC, dI) vwCl (CW cB cC cI cJ cZ a (va_up F 17 (oI r_1.toInt)) X J R gf gn) H := hP
  have hD : va_D A (CW cB cC cI cJ cZ a (va_up F 17 (oI r_1.toInt)) X J R gf gn) := hD
  have e_4 : (oI r_1.toInt).toInt = r_1.toInt := congrArg Int32.toInt (oI_toInt _)
  refine lv_aload_n hx hb dX4_ruleFor_13 rfl (lv_at hl 0 rfl) ?_
  refine lv_iload_n hx hb dX4_ruleFor_14 rfl (lv_at hl 3 rfl) ?_
  refine cp_4_5 hx hb hts inX4_ruleFor_X4 hown hK hP hD hS (hts _ lkX4_ruleFor_f15) dX4_ruleFor_15 (fun H locs hP hD hS => ?_)
  have hP : va_P (dC, dI) vwCl (CW cB cC cI cJ cZ a (va_up (va_up F 17 (oI r_1.toInt)) 18 (oI z)) X J R gf gn) H := hP
  have hD : va_D A (CW cB cC cI cJ cZ a (va_up (va_up F 17 (oI r_1.toInt)) 18 (oI z)) X J R gf gn) := hD
  refine lv_aload_n hx hb dX4_ruleFor_18 rfl (lv_at hl 0 rfl) ?_
  refine cg_4_0 hx hb hts inX4_ruleFor_X4 hown hK hP (hts _ lkX4_ruleFor_f18) dX4_ruleFor_19 ?_
  refine lv_iload_n hx hb dX4_ruleFor_22 rfl (lv_at hl 2 rfl) ?_
  refine lv_iconst (v := oI 2) hx hb dX4_ruleFor_23 (by decide) ?_
  refine ccs_iV (As := [.int (oI y), .int (oI 2)]) (rest := []) ⟨hx, hb, hml, hown, hts⟩ (c_part2 l dC dI cB cC cI cJ cZ a (va_up (va_up F 17 (oI r_1.toInt)) 18 (oI z)) X J R gf gn y  (by omega) (show gf ≤ 67600 from by first | assumption | omega) (show SPR (X 1) from by first | assumption | omega) (show y < 1073741824 from by first | assumption | omega) H.size) (cwV 2 hts kX4_ruleFor_X1_part_34 rfl rfl rfl (by decide +kernel) ⟨Nat.le_of_ble_eq_true rfl, Nat.le_of_ble_eq_true rfl⟩) (va_recv hK hP (ci := 1) (q0 := 1) rfl rfl) hK hNW hP hD hS hA rfl rfl hl.1 (lv_room (Nat.le_of_ble_eq_true rfl)) dX4_ruleFor_24 hcs (fun r_5 hw_6 H locs hP hD hS => ?_)
  have hw_6 : (r_5).toInt = AF (X 1) gf (AF (X 1) gf (y + 1)) ∧ y + 2 < (r_5).toInt ∧ (r_5).toInt ≤ y + 135201 := hw_6
  obtain ⟨ep2, lp2, up2⟩ := hw_6
  have i_7 := i32r r_5
  refine lv_istore (lv' := [(4, .int (oI r_5.toInt)), (0, .ref (a 4)), (1, .int (oI x)), (2, .int (oI y)), (3, .int (oI z))]) hx hb dX4_ruleFor_27 hl (by decide) rfl (fun ls hl => ?_)
  have eF9 : rg 17 20 (rg 14 14 F (va_up (va_up F 17 (oI r_1.toInt)) 18 (oI z))) (va_up (va_up F 17 (oI r_1.toInt)) 18 (oI z)) = va_up (va_up F 17 (oI r_1.toInt)) 18 (oI z) := by funext k; simp only [rg, va_up]; (repeat' split) <;> first | with_reducible rfl | omega
  have eX9 : rg 17 18 (rg 8 11 X X) X = X := by funext k; simp only [rg, va_up]; (repeat' split) <;> first | with_reducible rfl | omega
  have hP9 : va_P (dC, dI) vwCl (CW cB cC cI cJ cZ a (rg 17 20 (rg 14 14 F (va_up (va_up F 17 (oI r_1.toInt)) 18 (oI z))) (va_up (va_up F 17 (oI r_1.toInt)) 18 (oI z))) (rg 17 18 (rg 8 11 X X) X) J R gf gn) H := by rw [eF9, eX9]; exact hP
  have hD9 : va_D A (CW cB cC cI cJ cZ a (rg 17 20 (rg 14 14 F (va_up (va_up F 17 (oI r_1.toInt)) 18 (oI z))) (va_up (va_up F 17 (oI r_1.toInt)) 18 (oI z))) (rg 17 18 (rg 8 11 X X) X) J R gf gn) := by rw [eF9, eX9]; exact hD
  exact lq_ruleFor hx hb hml hown hts hK hNW hA hr hlocks x y z D ix iy iz (by assumption) (by assumption) (by assumption) (by assumption) (by assumption) (by assumption) (by assumption) (by assumption) (by assumption) (by assumption)  _ (va_up (va_up F 17 (oI r_1.toInt)) 18 (oI z)) X r_5.toInt (Nat.lt_succ_self _) (i32r _) (show y < r_5.toInt ∧ r_5.toInt ≤ y + 300000 from by first | assumption | omega | (with_reducible rfl) | ((repeat' apply And.intro) <;> first | assumption | omega | (with_reducible rfl))) (show 0 ≤ (F 19).toInt ∧ (F 19).toInt ≤ 3000 ∧ 0 ≤ (F 20).toInt ∧ (F 20).toInt ≤ 3000 from by first | assumption | omega | (with_reducible rfl) | ((repeat' apply And.intro) <;> first | assumption | omega | (with_reducible rfl))) (show (oI r_1.toInt).toInt < 2000000000 from by first | assumption | omega | (with_reducible rfl) | ((repeat' apply And.intro) <;> first | assumption | omega | (with_reducible rfl))) _ _ hP9 hD9 hS ls (lv_sub hl [1, 2, 3, 0] rfl)
