def oX0_expandPlain : List Cond := [Cond.fieldLink RX0 51 "MacroScopes$Expander" "told" "LMacroScopes$Told;", Cond.methodLink RX0 209 yX10_open, Cond.instanceMethod yX10_open, Cond.selects RX10 yX10_open yX10_open, Cond.initialized RX10, Cond.fieldLink RX0 12 "MacroScopes$Expander" "frames" "LMacroScopes$Frames;", Cond.fieldLink RX0 43 "MacroScopes$Expander" "forms" "LMacroScopes$Forms;", Cond.methodLink RX0 177 yX1_after, Cond.instanceMethod yX1_after, Cond.selects RX1 yX1_after yX1_after, Cond.initialized RX1, Cond.methodLink RX0 216 yX2_enter, Cond.instanceMethod yX2_enter, Cond.selects RX2 yX2_enter yX2_enter, Cond.initialized RX2]
def vX0_expandPlain : List Cond := .code yX0_expandPlain cX0_expandPlain 2 none :: (oX0_expandPlain ++ (vX10_open ++ (vX1_after ++ (vX2_enter ++ (wsX00)))))
theorem lkX0_expandPlain_f51 : Cond.fieldLink RX0 51 "MacroScopes$Expander" "told" "LMacroScopes$Told;" ∈ vX0_expandPlain := List.mem_cons_of_mem _ (List.mem_append_left _ (List.mem_of_getElem? (i := 0) rfl))
theorem lkX0_expandPlain_f12 : Cond.fieldLink RX0 12 "MacroScopes$Expander" "frames" "LMacroScopes$Frames;" ∈ vX0_expandPlain := List.mem_cons_of_mem _ (List.mem_append_left _ (List.mem_of_getElem? (i := 5) rfl))
theorem lkX0_expandPlain_f43 : Cond.fieldLink RX0 43 "MacroScopes$Expander" "forms" "LMacroScopes$Forms;" ∈ vX0_expandPlain := List.mem_cons_of_mem _ (List.mem_append_left _ (List.mem_of_getElem? (i := 6) rfl))
theorem inX0_expandPlain_X0 : ∀ w ∈ wsX00, w ∈ vX0_expandPlain := fun w h => List.mem_cons_of_mem _ (List.mem_append_right _ (List.mem_append_right _ (List.mem_append_right _ (List.mem_append_right _ (h)))))
theorem kX0_expandPlain_X10_open_209 : GoodIn vX0_expandPlain (wsV RX0 209 RX10 yX10_open vX10_open) := goodIn_sub (fun w h => (List.mem_append.mp h).elim (fun h => List.mem_cons_of_mem _ (List.mem_append_left _ ((by decide +kernel : ∀ w ∈ ([.methodLink RX0 209 yX10_open, .instanceMethod yX10_open, .selects RX10 yX10_open yX10_open, .initialized RX10] : List Cond), w ∈ oX0_expandPlain) w h))) (fun h => List.mem_cons_of_mem _ (List.mem_append_right _ (List.mem_append_left _ (h))))) (by decide +kernel)
theorem kX0_expandPlain_X1_after_177 : GoodIn vX0_expandPlain (wsV RX0 177 RX1 yX1_after vX1_after) := goodIn_sub (fun w h => (List.mem_append.mp h).elim (fun h => List.mem_cons_of_mem _ (List.mem_append_left _ ((by decide +kernel : ∀ w ∈ ([.methodLink RX0 177 yX1_after, .instanceMethod yX1_after, .selects RX1 yX1_after yX1_after, .initialized RX1] : List Cond), w ∈ oX0_expandPlain) w h))) (fun h => List.mem_cons_of_mem _ (List.mem_append_right _ (List.mem_append_right _ (List.mem_append_left _ (h)))))) (by decide +kernel)
theorem kX0_expandPlain_X2_enter_216 : GoodIn vX0_expandPlain (wsV RX0 216 RX2 yX2_enter vX2_enter) := goodIn_sub (fun w h => (List.mem_append.mp h).elim (fun h => List.mem_cons_of_mem _ (List.mem_append_left _ ((by decide +kernel : ∀ w ∈ ([.methodLink RX0 216 yX2_enter, .instanceMethod yX2_enter, .selects RX2 yX2_enter yX2_enter, .initialized RX2] : List Cond), w ∈ oX0_expandPlain) w h))) (fun h => List.mem_cons_of_mem _ (List.mem_append_right _ (List.mem_append_right _ (List.mem_append_right _ (List.mem_append_left _ (h))))))) (by decide +kernel)
def oX0_expandIf : List Cond := [Cond.fieldLink RX0 43 "MacroScopes$Expander" "forms" "LMacroScopes$Forms;", Cond.methodLink RX0 203 yX1_parts, Cond.instanceMethod yX1_parts, Cond.selects RX1 yX1_parts yX1_parts, Cond.initialized RX1, Cond.fieldLink RX0 51 "MacroScopes$Expander" "told" "LMacroScopes$Told;", Cond.methodLink RX0 209 yX10_open, Cond.instanceMethod yX10_open, Cond.selects RX10 yX10_open yX10_open, Cond.initialized RX10, Cond.fieldLink RX0 47 "MacroScopes$Expander" "names" "LMacroScopes$Names;", Cond.methodLink RX0 212 yX10_addSymbol, Cond.instanceMethod yX10_addSymbol, Cond.selects RX10 yX10_addSymbol yX10_addSymbol, Cond.fieldLink RX0 12 "MacroScopes$Expander" "frames" "LMacroScopes$Frames;", Cond.methodLink RX0 196 yX1_part, Cond.instanceMethod yX1_part, Cond.selects RX1 yX1_part yX1_part, Cond.methodLink RX0 177 yX1_after, Cond.instanceMethod yX1_after, Cond.selects RX1 yX1_after yX1_after, Cond.methodLink RX0 216 yX2_enter, Cond.instanceMethod yX2_enter, Cond.selects RX2 yX2_enter yX2_enter, Cond.initialized RX2, Cond.fieldLink RX0 25 "MacroScopes$Expander" "fault" "I"]
def vX0_expandIf : List Cond := .code yX0_expandIf cX0_expandIf 2 none :: (oX0_expandIf ++ (vX1_parts ++ (vX10_open ++ (vX10_addSymbol ++ (vX1_part ++ (vX1_after ++ (vX2_enter ++ (wsX00))))))))
theorem lkX0_expandIf_f43 : Cond.fieldLink RX0 43 "MacroScopes$Expander" "forms" "LMacroScopes$Forms;" ∈ vX0_expandIf := List.mem_cons_of_mem _ (List.mem_append_left _ (List.mem_of_getElem? (i := 0) rfl))
theorem lkX0_expandIf_f51 : Cond.fieldLink RX0 51 "MacroScopes$Expander" "told" "LMacroScopes$Told;" ∈ vX0_expandIf := List.mem_cons_of_mem _ (List.mem_append_left _ (List.mem_of_getElem? (i := 5) rfl))
theorem lkX0_expandIf_f47 : Cond.fieldLink RX0 47 "MacroScopes$Expander" "names" "LMacroScopes$Names;" ∈ vX0_expandIf := List.mem_cons_of_mem _ (List.mem_append_left _ (List.mem_of_getElem? (i := 10) rfl))
theorem lkX0_expandIf_f12 : Cond.fieldLink RX0 12 "MacroScopes$Expander" "frames" "LMacroScopes$Frames;" ∈ vX0_expandIf := List.mem_cons_of_mem _ (List.mem_append_left _ (List.mem_of_getElem? (i := 14) rfl))
theorem lkX0_expandIf_f25 : Cond.fieldLink RX0 25 "MacroScopes$Expander" "fault" "I" ∈ vX0_expandIf := List.mem_cons_of_mem _ (List.mem_append_left _ (List.mem_of_getElem? (i := 25) rfl))
theorem inX0_expandIf_X0 : ∀ w ∈ wsX00, w ∈ vX0_expandIf := fun w h => List.mem_cons_of_mem _ (List.mem_append_right _ (List.mem_append_right _ (List.mem_append_right _ (List.mem_append_right _ (List.mem_append_right _ (List.mem_append_right _ (List.mem_append_right _ (h))))))))
theorem kX0_expandIf_X1_parts_203 : GoodIn vX0_expandIf (wsV RX0 203 RX1 yX1_parts vX1_parts) := goodIn_sub (fun w h => (List.mem_append.mp h).elim (fun h => List.mem_cons_of_mem _ (List.mem_append_left _ ((by decide +kernel : ∀ w ∈ ([.methodLink RX0 203 yX1_parts, .instanceMethod yX1_parts, .selects RX1 yX1_parts yX1_parts, .initialized RX1] : List Cond), w ∈ oX0_expandIf) w h))) (fun h => List.mem_cons_of_mem _ (List.mem_append_right _ (List.mem_append_left _ (h))))) (by decide +kernel)
theorem kX0_expandIf_X10_open_209 : GoodIn vX0_expandIf (wsV RX0 209 RX10 yX10_open vX10_open) := goodIn_sub (fun w h => (List.mem_append.mp h).elim (fun h => List.mem_cons_of_mem _ (List.mem_append_left _ ((by decide +kernel : ∀ w ∈ ([.methodLink RX0 209 yX10_open, .instanceMethod yX10_open, .selects RX10 yX10_open yX10_open, .initialized RX10] : List Cond), w ∈ oX0_expandIf) w h))) (fun h => List.mem_cons_of_mem _ (List.mem_append_right _ (List.mem_append_right _ (List.mem_append_left _ (h)))))) (by decide +kernel)
theorem kX0_expandIf_X10_addSymbol_212 : GoodIn vX0_expandIf (wsV RX0 212 RX10 yX10_addSymbol vX10_addSymbol) := goodIn_sub (fun w h => (List.mem_append.mp h).elim (fun h => List.mem_cons_of_mem _ (List.mem_append_left _ ((by decide +kernel : ∀ w ∈ ([.methodLink RX0 212 yX10_addSymbol, .instanceMethod yX10_addSymbol, .selects RX10 yX10_addSymbol yX10_addSymbol, .initialized RX10] : List Cond), w ∈ oX0_expandIf) w h))) (fun h => List.mem_cons_of_mem _ (List.mem_append_right _ (List.mem_append_right _ (List.mem_append_right _ (List.mem_append_left _ (h))))))) (by decide +kernel)
theorem kX0_expandIf_X1_part_196 : GoodIn vX0_expandIf (wsV RX0 196 RX1 yX1_part vX1_part) := goodIn_sub (fun w h => (List.mem_append.mp h).elim (fun h => List.mem_cons_of_mem _ (List.mem_append_left _ ((by decide +kernel : ∀ w ∈ ([.methodLink RX0 196 yX1_part, .instanceMethod yX1_part, .selects RX1 yX1_part yX1_part, .initialized RX1] : List Cond), w ∈ oX0_expandIf) w h))) (fun h => List.mem_cons_of_mem _ (List.mem_append_right _ (List.mem_append_right _ (List.mem_append_right _ (List.mem_append_right _ (List.mem_append_left _ (h)))))))) (by decide +kernel)
theorem kX0_expandIf_X1_after_177 : GoodIn vX0_expandIf (wsV RX0 177 RX1 yX1_after vX1_after) := goodIn_sub (fun w h => (List.mem_append.mp h).elim (fun h => List.mem_cons_of_mem _ (List.mem_append_left _ ((by decide +kernel : ∀ w ∈ ([.methodLink RX0 177 yX1_after, .instanceMethod yX1_after, .selects RX1 yX1_after yX1_after, .initialized RX1] : List Cond), w ∈ oX0_expandIf) w h))) (fun h => List.mem_cons_of_mem _ (List.mem_append_right _ (List.mem_append_right _ (List.mem_append_right _ (List.mem_append_right _ (List.mem_append_right _ (List.mem_append_left _ (h))))))))) (by decide +kernel)
theorem kX0_expandIf_X2_enter_216 : GoodIn vX0_expandIf (wsV RX0 216 RX2 yX2_enter vX2_enter) := goodIn_sub (fun w h => (List.mem_append.mp h).elim (fun h => List.mem_cons_of_mem _ (List.mem_append_left _ ((by decide +kernel : ∀ w ∈ ([.methodLink RX0 216 yX2_enter, .instanceMethod yX2_enter, .selects RX2 yX2_enter yX2_enter, .initialized RX2] : List Cond), w ∈ oX0_expandIf) w h))) (fun h => List.mem_cons_of_mem _ (List.mem_append_right _ (List.mem_append_right _ (List.mem_append_right _ (List.mem_append_right _ (List.mem_append_right _ (List.mem_append_right _ (List.mem_append_left _ (h)))))))))) (by decide +kernel)
def oX0_expandAlone : List Cond := [Cond.fieldLink RX0 43 "MacroScopes$Expander" "forms" "LMacroScopes$Forms;", Cond.methodLink RX0 200 yX1_nameOf, Cond.instanceMethod yX1_nameOf, Cond.selects RX1 yX1_nameOf yX1_nameOf, Cond.initialized RX1, Cond.fieldLink RX0 60 "MacroScopes$Expander" "scopes" "LMacroScopes$Scopes;", Cond.methodLink RX0 227 yX9_meaning, Cond.instanceMethod yX9_meaning, Cond.selects RX9 yX9_meaning yX9_meaning, Cond.initialized RX9, Cond.methodLink RX0 130 yX9_isWord, Cond.static yX9_isWord, Cond.fieldLink RX0 25 "MacroScopes$Expander" "fault" "I", Cond.methodLink RX0 123 yX9_isMacro, Cond.static yX9_isMacro, Cond.fieldLink RX0 51 "MacroScopes$Expander" "told" "LMacroScopes$Told;", Cond.fieldLink RX0 47 "MacroScopes$Expander" "names" "LMacroScopes$Names;", Cond.methodLink RX0 239 yX6_root, Cond.instanceMethod yX6_root, Cond.selects RX6 yX6_root yX6_root, Cond.initialized RX6, Cond.methodLink RX0 212 yX10_addSymbol, Cond.instanceMethod yX10_addSymbol, Cond.selects RX10 yX10_addSymbol yX10_addSymbol, Cond.initialized RX10, Cond.methodLink RX0 236 yX10_addVariable, Cond.instanceMethod yX10_addVariable, Cond.selects RX10 yX10_addVariable yX10_addVariable, Cond.methodLink RX0 230 yX1_numberOf, Cond.instanceMethod yX1_numberOf, Cond.selects RX1 yX1_numberOf yX1_numberOf, Cond.methodLink RX0 233 yX10_addNumber, Cond.instanceMethod yX10_addNumber, Cond.selects RX10 yX10_addNumber yX10_addNumber]
def vX0_expandAlone : List Cond := .code yX0_expandAlone cX0_expandAlone 4 none :: (oX0_expandAlone ++ (vX1_nameOf ++ (vX9_meaning ++ (vX9_isWord ++ (vX9_isMacro ++ (vX6_root ++ (vX10_addSymbol ++ (vX10_addVariable ++ (vX1_numberOf ++ (vX10_addNumber ++ (wsX00 ++ (wsX90))))))))))))
theorem lkX0_expandAlone_f43 : Cond.fieldLink RX0 43 "MacroScopes$Expander" "forms" "LMacroScopes$Forms;" ∈ vX0_expandAlone := List.mem_cons_of_mem _ (List.mem_append_left _ (List.mem_of_getElem? (i := 0) rfl))
theorem lkX0_expandAlone_f60 : Cond.fieldLink RX0 60 "MacroScopes$Expander" "scopes" "LMacroScopes$Scopes;" ∈ vX0_expandAlone := List.mem_cons_of_mem _ (List.mem_append_left _ (List.mem_of_getElem? (i := 5) rfl))
theorem lkX0_expandAlone_f25 : Cond.fieldLink RX0 25 "MacroScopes$Expander" "fault" "I" ∈ vX0_expandAlone := List.mem_cons_of_mem _ (List.mem_append_left _ (List.mem_of_getElem? (i := 12) rfl))
theorem lkX0_expandAlone_f51 : Cond.fieldLink RX0 51 "MacroScopes$Expander" "told" "LMacroScopes$Told;" ∈ vX0_expandAlone := List.mem_cons_of_mem _ (List.mem_append_left _ (List.mem_of_getElem? (i := 15) rfl))
theorem lkX0_expandAlone_f47 : Cond.fieldLink RX0 47 "MacroScopes$Expander" "names" "LMacroScopes$Names;" ∈ vX0_expandAlone := List.mem_cons_of_mem _ (List.mem_append_left _ (List.mem_of_getElem? (i := 16) rfl))
theorem inX0_expandAlone_X0 : ∀ w ∈ wsX00, w ∈ vX0_expandAlone := fun w h => List.mem_cons_of_mem _ (List.mem_append_right _ (List.mem_append_right _ (List.mem_append_right _ (List.mem_append_right _ (List.mem_append_right _ (List.mem_append_right _ (List.mem_append_right _ (List.mem_append_right _ (List.mem_append_right _ (List.mem_append_right _ (List.mem_append_left _ (h))))))))))))
theorem inX0_expandAlone_X9 : ∀ w ∈ wsX90, w ∈ vX0_expandAlone := fun w h => List.mem_cons_of_mem _ (List.mem_append_right _ (List.mem_append_right _ (List.mem_append_right _ (List.mem_append_right _ (List.mem_append_right _ (List.mem_append_right _ (List.mem_append_right _ (List.mem_append_right _ (List.mem_append_right _ (List.mem_append_right _ (List.mem_append_right _ (h))))))))))))
theorem kX0_expandAlone_X1_nameOf_200 : GoodIn vX0_expandAlone (wsV RX0 200 RX1 yX1_nameOf vX1_nameOf) := goodIn_sub (fun w h => (List.mem_append.mp h).elim (fun h => List.mem_cons_of_mem _ (List.mem_append_left _ ((by decide +kernel : ∀ w ∈ ([.methodLink RX0 200 yX1_nameOf, .instanceMethod yX1_nameOf, .selects RX1 yX1_nameOf yX1_nameOf, .initialized RX1] : List Cond), w ∈ oX0_expandAlone) w h))) (fun h => List.mem_cons_of_mem _ (List.mem_append_right _ (List.mem_append_left _ (h))))) (by decide +kernel)
theorem kX0_expandAlone_X9_meaning_227 : GoodIn vX0_expandAlone (wsV RX0 227 RX9 yX9_meaning vX9_meaning) := goodIn_sub (fun w h => (List.mem_append.mp h).elim (fun h => List.mem_cons_of_mem _ (List.mem_append_left _ ((by decide +kernel : ∀ w ∈ ([.methodLink RX0 227 yX9_meaning, .instanceMethod yX9_meaning, .selects RX9 yX9_meaning yX9_meaning, .initialized RX9] : List Cond), w ∈ oX0_expandAlone) w h))) (fun h => List.mem_cons_of_mem _ (List.mem_append_right _ (List.mem_append_right _ (List.mem_append_left _ (h)))))) (by decide +kernel)
theorem kX0_expandAlone_X9_isWord_130 : GoodIn vX0_expandAlone (va_wsS RX0 130 yX9_isWord vX9_isWord) := goodIn_sub (fun w h => (List.mem_append.mp h).elim (fun h => List.mem_cons_of_mem _ (List.mem_append_left _ ((by decide +kernel : ∀ w ∈ ([.methodLink RX0 130 yX9_isWord, .static yX9_isWord, .initialized yX9_isWord.cls] : List Cond), w ∈ oX0_expandAlone) w h))) (fun h => List.mem_cons_of_mem _ (List.mem_append_right _ (List.mem_append_right _ (List.mem_append_right _ (List.mem_append_left _ (h))))))) (by decide +kernel)
theorem kX0_expandAlone_X9_isMacro_123 : GoodIn vX0_expandAlone (va_wsS RX0 123 yX9_isMacro vX9_isMacro) := goodIn_sub (fun w h => (List.mem_append.mp h).elim (fun h => List.mem_cons_of_mem _ (List.mem_append_left _ ((by decide +kernel : ∀ w ∈ ([.methodLink RX0 123 yX9_isMacro, .static yX9_isMacro, .initialized yX9_isMacro.cls] : List Cond), w ∈ oX0_expandAlone) w h))) (fun h => List.mem_cons_of_mem _ (List.mem_append_right _ (List.mem_append_right _ (List.mem_append_right _ (List.mem_append_right _ (List.mem_append_left _ (h)))))))) (by decide +kernel)
theorem kX0_expandAlone_X6_root_239 : GoodIn vX0_expandAlone (wsV RX0 239 RX6 yX6_root vX6_root) := goodIn_sub (fun w h => (List.mem_append.mp h).elim (fun h => List.mem_cons_of_mem _ (List.mem_append_left _ ((by decide +kernel : ∀ w ∈ ([.methodLink RX0 239 yX6_root, .instanceMethod yX6_root, .selects RX6 yX6_root yX6_root, .initialized RX6] : List Cond), w ∈ oX0_expandAlone) w h))) (fun h => List.mem_cons_of_mem _ (List.mem_append_right _ (List.mem_append_right _ (List.mem_append_right _ (List.mem_append_right _ (List.mem_append_right _ (List.mem_append_left _ (h))))))))) (by decide +kernel)
theorem kX0_expandAlone_X10_addSymbol_212 : GoodIn vX0_expandAlone (wsV RX0 212 RX10 yX10_addSymbol vX10_addSymbol) := goodIn_sub (fun w h => (List.mem_append.mp h).elim (fun h => List.mem_cons_of_mem _ (List.mem_append_left _ ((by decide +kernel : ∀ w ∈ ([.methodLink RX0 212 yX10_addSymbol, .instanceMethod yX10_addSymbol, .selects RX10 yX10_addSymbol yX10_addSymbol, .initialized RX10] : List Cond), w ∈ oX0_expandAlone) w h))) (fun h => List.mem_cons_of_mem _ (List.mem_append_right _ (List.mem_append_right _ (List.mem_append_right _ (List.mem_append_right _ (List.mem_append_right _ (List.mem_append_right _ (List.mem_append_left _ (h)))))))))) (by decide +kernel)
theorem kX0_expandAlone_X10_addVariable_236 : GoodIn vX0_expandAlone (wsV RX0 236 RX10 yX10_addVariable vX10_addVariable) := goodIn_sub (fun w h => (List.mem_append.mp h).elim (fun h => List.mem_cons_of_mem _ (List.mem_append_left _ ((by decide +kernel : ∀ w ∈ ([.methodLink RX0 236 yX10_addVariable, .instanceMethod yX10_addVariable, .selects RX10 yX10_addVariable yX10_addVariable, .initialized RX10] : List Cond), w ∈ oX0_expandAlone) w h))) (fun h => List.mem_cons_of_mem _ (List.mem_append_right _ (List.mem_append_right _ (List.mem_append_right _ (List.mem_append_right _ (List.mem_append_right _ (List.mem_append_right _ (List.mem_append_right _ (List.mem_append_left _ (h))))))))))) (by decide +kernel)
theorem kX0_expandAlone_X1_numberOf_230 : GoodIn vX0_expandAlone (wsV RX0 230 RX1 yX1_numberOf vX1_numberOf) := goodIn_sub (fun w h => (List.mem_append.mp h).elim (fun h => List.mem_cons_of_mem _ (List.mem_append_left _ ((by decide +kernel : ∀ w ∈ ([.methodLink RX0 230 yX1_numberOf, .instanceMethod yX1_numberOf, .selects RX1 yX1_numberOf yX1_numberOf, .initialized RX1] : List Cond), w ∈ oX0_expandAlone) w h))) (fun h => List.mem_cons_of_mem _ (List.mem_append_right _ (List.mem_append_right _ (List.mem_append_right _ (List.mem_append_right _ (List.mem_append_right _ (List.mem_append_right _ (List.mem_append_right _ (List.mem_append_right _ (List.mem_append_left _ (h)))))))))))) (by decide +kernel)
theorem kX0_expandAlone_X10_addNumber_233 : GoodIn vX0_expandAlone (wsV RX0 233 RX10 yX10_addNumber vX10_addNumber) := goodIn_sub (fun w h => (List.mem_append.mp h).elim (fun h => List.mem_cons_of_mem _ (List.mem_append_left _ ((by decide +kernel : ∀ w ∈ ([.methodLink RX0 233 yX10_addNumber, .instanceMethod yX10_addNumber, .selects RX10 yX10_addNumber yX10_addNumber, .initialized RX10] : List Cond), w ∈ oX0_expandAlone) w h))) (fun h => List.mem_cons_of_mem _ (List.mem_append_right _ (List.mem_append_right _ (List.mem_append_right _ (List.mem_append_right _ (List.mem_append_right _ (List.mem_append_right _ (List.mem_append_right _ (List.mem_append_right _ (List.mem_append_right _ (List.mem_append_left _ (h))))))))))))) (by decide +kernel)
def oX0_expandQuote : List Cond := [Cond.fieldLink RX0 43 "MacroScopes$Expander" "forms" "LMacroScopes$Forms;", Cond.methodLink RX0 203 yX1_parts, Cond.instanceMethod yX1_parts, Cond.selects RX1 yX1_parts yX1_parts, Cond.initialized RX1, Cond.fieldLink RX0 51 "MacroScopes$Expander" "told" "LMacroScopes$Told;", Cond.methodLink RX0 209 yX10_open, Cond.instanceMethod yX10_open, Cond.selects RX10 yX10_open yX10_open, Cond.initialized RX10, Cond.fieldLink RX0 47 "MacroScopes$Expander" "names" "LMacroScopes$Names;", Cond.methodLink RX0 212 yX10_addSymbol, Cond.instanceMethod yX10_addSymbol, Cond.selects RX10 yX10_addSymbol yX10_addSymbol, Cond.methodLink RX0 196 yX1_part, Cond.instanceMethod yX1_part, Cond.selects RX1 yX1_part yX1_part, Cond.methodLink RX0 270 yX0_tellRoots, Cond.instanceMethod yX0_tellRoots, Cond.selects RX0 yX0_tellRoots yX0_tellRoots, Cond.initialized RX0, Cond.methodLink RX0 158 yX10_close, Cond.instanceMethod yX10_close, Cond.selects RX10 yX10_close yX10_close, Cond.fieldLink RX0 25 "MacroScopes$Expander" "fault" "I"]
def vX0_expandQuote : List Cond := .code yX0_expandQuote cX0_expandQuote 2 none :: (oX0_expandQuote ++ (vX1_parts ++ (vX10_open ++ (vX10_addSymbol ++ (vX1_part ++ (vX0_tellRoots ++ (vX10_close ++ (wsX00))))))))
theorem lkX0_expandQuote_f43 : Cond.fieldLink RX0 43 "MacroScopes$Expander" "forms" "LMacroScopes$Forms;" ∈ vX0_expandQuote := List.mem_cons_of_mem _ (List.mem_append_left _ (List.mem_of_getElem? (i := 0) rfl))
theorem lkX0_expandQuote_f51 : Cond.fieldLink RX0 51 "MacroScopes$Expander" "told" "LMacroScopes$Told;" ∈ vX0_expandQuote := List.mem_cons_of_mem _ (List.mem_append_left _ (List.mem_of_getElem? (i := 5) rfl))
theorem lkX0_expandQuote_f47 : Cond.fieldLink RX0 47 "MacroScopes$Expander" "names" "LMacroScopes$Names;" ∈ vX0_expandQuote := List.mem_cons_of_mem _ (List.mem_append_left _ (List.mem_of_getElem? (i := 10) rfl))
theorem lkX0_expandQuote_f25 : Cond.fieldLink RX0 25 "MacroScopes$Expander" "fault" "I" ∈ vX0_expandQuote := List.mem_cons_of_mem _ (List.mem_append_left _ (List.mem_of_getElem? (i := 24) rfl))
theorem inX0_expandQuote_X0 : ∀ w ∈ wsX00, w ∈ vX0_expandQuote := fun w h => List.mem_cons_of_mem _ (List.mem_append_right _ (List.mem_append_right _ (List.mem_append_right _ (List.mem_append_right _ (List.mem_append_right _ (List.mem_append_right _ (List.mem_append_right _ (h))))))))
theorem kX0_expandQuote_X1_parts_203 : GoodIn vX0_expandQuote (wsV RX0 203 RX1 yX1_parts vX1_parts) := goodIn_sub (fun w h => (List.mem_append.mp h).elim (fun h => List.mem_cons_of_mem _ (List.mem_append_left _ ((by decide +kernel : ∀ w ∈ ([.methodLink RX0 203 yX1_parts, .instanceMethod yX1_parts, .selects RX1 yX1_parts yX1_parts, .initialized RX1] : List Cond), w ∈ oX0_expandQuote) w h))) (fun h => List.mem_cons_of_mem _ (List.mem_append_right _ (List.mem_append_left _ (h))))) (by decide +kernel)
theorem kX0_expandQuote_X10_open_209 : GoodIn vX0_expandQuote (wsV RX0 209 RX10 yX10_open vX10_open) := goodIn_sub (fun w h => (List.mem_append.mp h).elim (fun h => List.mem_cons_of_mem _ (List.mem_append_left _ ((by decide +kernel : ∀ w ∈ ([.methodLink RX0 209 yX10_open, .instanceMethod yX10_open, .selects RX10 yX10_open yX10_open, .initialized RX10] : List Cond), w ∈ oX0_expandQuote) w h))) (fun h => List.mem_cons_of_mem _ (List.mem_append_right _ (List.mem_append_right _ (List.mem_append_left _ (h)))))) (by decide +kernel)
theorem kX0_expandQuote_X10_addSymbol_212 : GoodIn vX0_expandQuote (wsV RX0 212 RX10 yX10_addSymbol vX10_addSymbol) := goodIn_sub (fun w h => (List.mem_append.mp h).elim (fun h => List.mem_cons_of_mem _ (List.mem_append_left _ ((by decide +kernel : ∀ w ∈ ([.methodLink RX0 212 yX10_addSymbol, .instanceMethod yX10_addSymbol, .selects RX10 yX10_addSymbol yX10_addSymbol, .initialized RX10] : List Cond), w ∈ oX0_expandQuote) w h))) (fun h => List.mem_cons_of_mem _ (List.mem_append_right _ (List.mem_append_right _ (List.mem_append_right _ (List.mem_append_left _ (h))))))) (by decide +kernel)
theorem kX0_expandQuote_X1_part_196 : GoodIn vX0_expandQuote (wsV RX0 196 RX1 yX1_part vX1_part) := goodIn_sub (fun w h => (List.mem_append.mp h).elim (fun h => List.mem_cons_of_mem _ (List.mem_append_left _ ((by decide +kernel : ∀ w ∈ ([.methodLink RX0 196 yX1_part, .instanceMethod yX1_part, .selects RX1 yX1_part yX1_part, .initialized RX1] : List Cond), w ∈ oX0_expandQuote) w h))) (fun h => List.mem_cons_of_mem _ (List.mem_append_right _ (List.mem_append_right _ (List.mem_append_right _ (List.mem_append_right _ (List.mem_append_left _ (h)))))))) (by decide +kernel)
theorem kX0_expandQuote_X0_tellRoots_270 : GoodIn vX0_expandQuote (wsV RX0 270 RX0 yX0_tellRoots vX0_tellRoots) := goodIn_sub (fun w h => (List.mem_append.mp h).elim (fun h => List.mem_cons_of_mem _ (List.mem_append_left _ ((by decide +kernel : ∀ w ∈ ([.methodLink RX0 270 yX0_tellRoots, .instanceMethod yX0_tellRoots, .selects RX0 yX0_tellRoots yX0_tellRoots, .initialized RX0] : List Cond), w ∈ oX0_expandQuote) w h))) (fun h => List.mem_cons_of_mem _ (List.mem_append_right _ (List.mem_append_right _ (List.mem_append_right _ (List.mem_append_right _ (List.mem_append_right _ (List.mem_append_left _ (h))))))))) (by decide +kernel)
theorem kX0_expandQuote_X10_close_158 : GoodIn vX0_expandQuote (wsV RX0 158 RX10 yX10_close vX10_close) := goodIn_sub (fun w h => (List.mem_append.mp h).elim (fun h => List.mem_cons_of_mem _ (List.mem_append_left _ ((by decide +kernel : ∀ w ∈ ([.methodLink RX0 158 yX10_close, .instanceMethod yX10_close, .selects RX10 yX10_close yX10_close, .initialized RX10] : List Cond), w ∈ oX0_expandQuote) w h))) (fun h => List.mem_cons_of_mem _ (List.mem_append_right _ (List.mem_append_right _ (List.mem_append_right _ (List.mem_append_right _ (List.mem_append_right _ (List.mem_append_right _ (List.mem_append_left _ (h)))))))))) (by decide +kernel)
def oX0_define : List Cond := [Cond.methodLink RX0 206 yX0_definesSymbol, Cond.instanceMethod yX0_definesSymbol, Cond.selects RX0 yX0_definesSymbol yX0_definesSymbol, Cond.initialized RX0, Cond.fieldLink RX0 43 "MacroScopes$Expander" "forms" "LMacroScopes$Forms;", Cond.methodLink RX0 196 yX1_part, Cond.instanceMethod yX1_part, Cond.selects RX1 yX1_part yX1_part, Cond.initialized RX1, Cond.methodLink RX0 200 yX1_nameOf, Cond.instanceMethod yX1_nameOf, Cond.selects RX1 yX1_nameOf yX1_nameOf, Cond.fieldLink RX0 22 "MacroScopes$Expander" "defined" "I", Cond.fieldLink RX0 51 "MacroScopes$Expander" "told" "LMacroScopes$Told;", Cond.methodLink RX0 209 yX10_open, Cond.instanceMethod yX10_open, Cond.selects RX10 yX10_open yX10_open, Cond.initialized RX10, Cond.fieldLink RX0 47 "MacroScopes$Expander" "names" "LMacroScopes$Names;", Cond.methodLink RX0 212 yX10_addSymbol, Cond.instanceMethod yX10_addSymbol, Cond.selects RX10 yX10_addSymbol yX10_addSymbol, Cond.fieldLink RX0 12 "MacroScopes$Expander" "frames" "LMacroScopes$Frames;", Cond.methodLink RX0 177 yX1_after, Cond.instanceMethod yX1_after, Cond.selects RX1 yX1_after yX1_after, Cond.methodLink RX0 216 yX2_enter, Cond.instanceMethod yX2_enter, Cond.selects RX2 yX2_enter yX2_enter, Cond.initialized RX2, Cond.fieldLink RX0 25 "MacroScopes$Expander" "fault" "I"]
def vX0_define : List Cond := .code yX0_define cX0_define 2 none :: (oX0_define ++ (vX0_definesSymbol ++ (vX1_part ++ (vX1_nameOf ++ (vX10_open ++ (vX10_addSymbol ++ (vX1_after ++ (vX2_enter ++ (wsX00)))))))))
theorem lkX0_define_f43 : Cond.fieldLink RX0 43 "MacroScopes$Expander" "forms" "LMacroScopes$Forms;" ∈ vX0_define := List.mem_cons_of_mem _ (List.mem_append_left _ (List.mem_of_getElem? (i := 4) rfl))
theorem lkX0_define_f22 : Cond.fieldLink RX0 22 "MacroScopes$Expander" "defined" "I" ∈ vX0_define := List.mem_cons_of_mem _ (List.mem_append_left _ (List.mem_of_getElem? (i := 12) rfl))
theorem lkX0_define_f51 : Cond.fieldLink RX0 51 "MacroScopes$Expander" "told" "LMacroScopes$Told;" ∈ vX0_define := List.mem_cons_of_mem _ (List.mem_append_left _ (List.mem_of_getElem? (i := 13) rfl))
theorem lkX0_define_f47 : Cond.fieldLink RX0 47 "MacroScopes$Expander" "names" "LMacroScopes$Names;" ∈ vX0_define := List.mem_cons_of_mem _ (List.mem_append_left _ (List.mem_of_getElem? (i := 18) rfl))
theorem lkX0_define_f12 : Cond.fieldLink RX0 12 "MacroScopes$Expander" "frames" "LMacroScopes$Frames;" ∈ vX0_define := List.mem_cons_of_mem _ (List.mem_append_left _ (List.mem_of_getElem? (i := 22) rfl))
theorem lkX0_define_f25 : Cond.fieldLink RX0 25 "MacroScopes$Expander" "fault" "I" ∈ vX0_define := List.mem_cons_of_mem _ (List.mem_append_left _ (List.mem_of_getElem? (i := 30) rfl))
theorem inX0_define_X0 : ∀ w ∈ wsX00, w ∈ vX0_define := fun w h => List.mem_cons_of_mem _ (List.mem_append_right _ (List.mem_append_right _ (List.mem_append_right _ (List.mem_append_right _ (List.mem_append_right _ (List.mem_append_right _ (List.mem_append_right _ (List.mem_append_right _ (h)))))))))
theorem kX0_define_X0_definesSymbol_206 : GoodIn vX0_define (wsV RX0 206 RX0 yX0_definesSymbol vX0_definesSymbol) := goodIn_sub (fun w h => (List.mem_append.mp h).elim (fun h => List.mem_cons_of_mem _ (List.mem_append_left _ ((by decide +kernel : ∀ w ∈ ([.methodLink RX0 206 yX0_definesSymbol, .instanceMethod yX0_definesSymbol, .selects RX0 yX0_definesSymbol yX0_definesSymbol, .initialized RX0] : List Cond), w ∈ oX0_define) w h))) (fun h => List.mem_cons_of_mem _ (List.mem_append_right _ (List.mem_append_left _ (h))))) (by decide +kernel)
theorem kX0_define_X1_part_196 : GoodIn vX0_define (wsV RX0 196 RX1 yX1_part vX1_part) := goodIn_sub (fun w h => (List.mem_append.mp h).elim (fun h => List.mem_cons_of_mem _ (List.mem_append_left _ ((by decide +kernel : ∀ w ∈ ([.methodLink RX0 196 yX1_part, .instanceMethod yX1_part, .selects RX1 yX1_part yX1_part, .initialized RX1] : List Cond), w ∈ oX0_define) w h))) (fun h => List.mem_cons_of_mem _ (List.mem_append_right _ (List.mem_append_right _ (List.mem_append_left _ (h)))))) (by decide +kernel)
theorem kX0_define_X1_nameOf_200 : GoodIn vX0_define (wsV RX0 200 RX1 yX1_nameOf vX1_nameOf) := goodIn_sub (fun w h => (List.mem_append.mp h).elim (fun h => List.mem_cons_of_mem _ (List.mem_append_left _ ((by decide +kernel : ∀ w ∈ ([.methodLink RX0 200 yX1_nameOf, .instanceMethod yX1_nameOf, .selects RX1 yX1_nameOf yX1_nameOf, .initialized RX1] : List Cond), w ∈ oX0_define) w h))) (fun h => List.mem_cons_of_mem _ (List.mem_append_right _ (List.mem_append_right _ (List.mem_append_right _ (List.mem_append_left _ (h))))))) (by decide +kernel)
theorem kX0_define_X10_open_209 : GoodIn vX0_define (wsV RX0 209 RX10 yX10_open vX10_open) := goodIn_sub (fun w h => (List.mem_append.mp h).elim (fun h => List.mem_cons_of_mem _ (List.mem_append_left _ ((by decide +kernel : ∀ w ∈ ([.methodLink RX0 209 yX10_open, .instanceMethod yX10_open, .selects RX10 yX10_open yX10_open, .initialized RX10] : List Cond), w ∈ oX0_define) w h))) (fun h => List.mem_cons_of_mem _ (List.mem_append_right _ (List.mem_append_right _ (List.mem_append_right _ (List.mem_append_right _ (List.mem_append_left _ (h)))))))) (by decide +kernel)
theorem kX0_define_X10_addSymbol_212 : GoodIn vX0_define (wsV RX0 212 RX10 yX10_addSymbol vX10_addSymbol) := goodIn_sub (fun w h => (List.mem_append.mp h).elim (fun h => List.mem_cons_of_mem _ (List.mem_append_left _ ((by decide +kernel : ∀ w ∈ ([.methodLink RX0 212 yX10_addSymbol, .instanceMethod yX10_addSymbol, .selects RX10 yX10_addSymbol yX10_addSymbol, .initialized RX10] : List Cond), w ∈ oX0_define) w h))) (fun h => List.mem_cons_of_mem _ (List.mem_append_right _ (List.mem_append_right _ (List.mem_append_right _ (List.mem_append_right _ (List.mem_append_right _ (List.mem_append_left _ (h))))))))) (by decide +kernel)
theorem kX0_define_X1_after_177 : GoodIn vX0_define (wsV RX0 177 RX1 yX1_after vX1_after) := goodIn_sub (fun w h => (List.mem_append.mp h).elim (fun h => List.mem_cons_of_mem _ (List.mem_append_left _ ((by decide +kernel : ∀ w ∈ ([.methodLink RX0 177 yX1_after, .instanceMethod yX1_after, .selects RX1 yX1_after yX1_after, .initialized RX1] : List Cond), w ∈ oX0_define) w h))) (fun h => List.mem_cons_of_mem _ (List.mem_append_right _ (List.mem_append_right _ (List.mem_append_right _ (List.mem_append_right _ (List.mem_append_right _ (List.mem_append_right _ (List.mem_append_left _ (h)))))))))) (by decide +kernel)
theorem kX0_define_X2_enter_216 : GoodIn vX0_define (wsV RX0 216 RX2 yX2_enter vX2_enter) := goodIn_sub (fun w h => (List.mem_append.mp h).elim (fun h => List.mem_cons_of_mem _ (List.mem_append_left _ ((by decide +kernel : ∀ w ∈ ([.methodLink RX0 216 yX2_enter, .instanceMethod yX2_enter, .selects RX2 yX2_enter yX2_enter, .initialized RX2] : List Cond), w ∈ oX0_define) w h))) (fun h => List.mem_cons_of_mem _ (List.mem_append_right _ (List.mem_append_right _ (List.mem_append_right _ (List.mem_append_right _ (List.mem_append_right _ (List.mem_append_right _ (List.mem_append_right _ (List.mem_append_left _ (h))))))))))) (by decide +kernel)
set_option maxHeartbeats 4000000 in
set_option maxRecDepth 100000 in
/-- X0_expandPlain -/
theorem c_expandPlain (l : Launch) (dC : Nat → ClassId) (dI : Nat → Nat → Nat) (cB cC cI cJ cZ : ClassId) (a : Nat → Nat) (F : Nat → Int32) (X : Nat → Nat → Int32) (J : Nat → Nat → Int64) (R : Nat → Nat) (gf gn : Nat) (x : Int) (D : Int → Nat) (ee K : Int) (ix : (-2147483648 ≤ x ∧ x < 2147483648)) (hgf : gf ≤ 67600) (hgn : gn ≤ 63261) (hnt : 0 ≤ (F 13).toInt ∧ (F 13).toInt ≤ (gn : Int)) (hft : 0 ≤ (F 1).toInt ∧ (F 1).toInt ≤ 101) (hv2 : VB (X 2)) (hx2 : 4000 ≤ x ∧ AF (X 1) gf x ≤ (F 12).toInt) (hfi : FI (X 1) D gf (F 0).toInt (F 12).toInt) (hfr : FRM (X 1) (X 2) (X 3) (X 5) (F 1).toInt (F 12).toInt ee) (hpn : PND (X 1) (X 3) (X 5) (F 1).toInt (F 12).toInt ee) (hpo : 0 ≤ (F 25).toInt ∧ 0 ≤ (F 6).toInt ∧ (F 6).toInt ≤ 100 ∧ K ≤ 1700000000 ∧ (F 25).toInt + 40 * (((PSI (X 2) (X 3) (F 1).toInt.toNat : Nat) : Int) + ((ee - (F 2).toInt).toNat : Int) + 67600 * (100 - (F 6).toInt) + (AF (X 1) gf x - x)) + (F 1).toInt ≤ K) (s0 : Nat) : Met l yX0_expandPlain vX0_expandPlain { frames := 4, cells := 0, slots := 0, locals := 121 } (va_Pc [.ref (a 0), .int (oI x)] (cPre dC dI cB cC cI cJ cZ a F X J R gf gn s0)) (va_Qv (fun (u : (Nat → Int32) × (Nat → Nat → Int32)) => match u with | (F1, X1) => FRM (X 1) (X1 2) (X1 3) (X 5) (F1 1).toInt (F 12).toInt ee ∧ (0 ≤ (F1 1).toInt ∧ (F1 1).toInt ≤ 101) ∧ VB (X1 2) ∧ (F 25).toInt ≤ (F1 25).toInt ∧ (F1 25).toInt + 40 * (((PSI (X1 2) (X1 3) (F1 1).toInt.toNat : Nat) : Int) + ((ee - (F 2).toInt).toNat : Int) + 67600 * (100 - (F 6).toInt) + 0) + (F1 1).toInt ≤ K) (fun u => cPost dC dI cB cC cI cJ cZ a (rg 25 26 (rg 4 4 (rg 1 1 F u.1) u.1) u.1) (rg 25 25 (rg 2 4 X u.2) u.2) J R gf gn (va_A (CW cB cC cI cJ cZ a F X J R gf gn) s0)) (va_A (CW cB cC cI cJ cZ a F X J R gf gn) s0)) 0 0 (va_A (CW cB cC cI cJ cZ a F X J R gf gn) s0) := by
  refine Met.ofW (cc := cX0_expandPlain) (maxL := 2) (ret := none) (by decide) rfl ?_
  intro p e s m args below meth c s₁ B9 hml hv
  obtain ⟨rfl, hsz0, hP, hK, hD0, hNW⟩ := hv
  have hx := B9.exec
  have hb := B9.bytes
  have hr := B9.returns
  have hts := atoms_spec (ws := vX0_expandPlain) B9.pre
  have hown : s.vm.findClass RX0 = some m.cls := findClass_of_methodNamed B9.named
  have hlocks := B9.notSynchronized
  clear B9
  subst hsz0
  have hD := hD0.self (sz := s.heap.size)
  generalize hAe : va_A (CW cB cC cI cJ cZ a F X J R gf gn) s.heap.size = A at hD ⊢
  have hA : ∀ q : Nat, s.heap.size ≤ q → A q := fun q h => by rw [← hAe]; exact Or.inr h
  have hS : va_S A s.heap s.heap [] := va_S.rf
  have hcs : 0 + 0 ≤ (0 : Nat) ∧ 0 + 0 ≤ (0 : Nat) := ⟨Nat.le_refl 0, Nat.le_refl 0⟩
  have hl := lv_entry ([.ref (a 0), .int (oI x)]) (n := 2) (Nat.le_of_ble_eq_true rfl)
  rw [lg_entry_eq]
  generalize (lg_sl ([.ref (a 0), .int (oI x)]) ++ List.replicate (2 - (lg_sl ([.ref (a 0), .int (oI x)])).length) Slot.unset).toArray = ls at hl ⊢
  have hl : lv_has ls 2 [(0, .ref (a 0)), (1, .int (oI x))] := hl
  have hsp := FI_sp hfi
  have hne := FI_ns hfi
  have hbb := FI_b hfi
  have eb := AF_b hsp gf x
  refine lv_aload_n hx hb dX0_expandPlain_0 rfl (lv_at hl 0 rfl) ?_
  refine cg_0_2 hx hb hts inX0_expandPlain_X0 hown hK hP (hts _ lkX0_expandPlain_f51) dX0_expandPlain_1 ?_
  refine ccp_vV (As := []) (rest := []) (gF := fun F9 => rg 25 26 F F9) (gX := fun X9 => rg 25 25 X X9) ⟨hx, hb, hml, hown, hts⟩ (c_open l dC dI cB cC cI cJ cZ a F X J R gf gn    (show 0 ≤ (F 25).toInt ∧ (F 25).toInt ≤ 2000000000 from by first | assumption | omega) (show (F 25).toInt ≤ 1900000000 from by first | assumption | omega) s.heap.size) (cwV 0 hts kX0_expandPlain_X10_open_209 rfl rfl rfl (by decide +kernel) ⟨Nat.le_of_ble_eq_true rfl, Nat.le_of_ble_eq_true rfl⟩) (va_recv hK hP (ci := 10) (q0 := 10) rfl rfl) hK hNW hP hD hS hA rfl rfl hl.1 (lv_room (Nat.le_of_ble_eq_true rfl)) dX0_expandPlain_4 hcs (fun F_1 X_2 hw_3 H locs hP hD hS => ?_)
  replace hw_3 : (F 25).toInt + 1 ≤ (F_1 25).toInt ∧ (F_1 25).toInt ≤ (F 25).toInt + 2 := hw_3
  have hto := hw_3
  clear hw_3
  refine lv_aload_n hx hb dX0_expandPlain_7 rfl (lv_at hl 0 rfl) ?_
  refine cg_0_7 hx hb hts inX0_expandPlain_X0 hown hK hP (hts _ lkX0_expandPlain_f12) dX0_expandPlain_8 ?_
  refine lv_iload_n hx hb dX0_expandPlain_11 rfl (lv_at hl 1 rfl) ?_
  refine lv_iconst (v := oI 1) hx hb dX0_expandPlain_12 (by decide) ?_
  refine lv_iadd hx hb dX0_expandPlain_13 ?_
  refine tp_i (oI_add x 1) ?_
  refine lv_aload_n hx hb dX0_expandPlain_14 rfl (lv_at hl 0 rfl) ?_
  refine cg_0_0 hx hb hts inX0_expandPlain_X0 hown hK hP (hts _ lkX0_expandPlain_f43) dX0_expandPlain_15 ?_
  refine lv_iload_n hx hb dX0_expandPlain_18 rfl (lv_at hl 1 rfl) ?_
  refine ccs_iV (As := [.int (oI x)]) (rest := [.int (oI (x + 1)), .ref (a 2)]) ⟨hx, hb, hml, hown, hts⟩ (c_after l dC dI cB cC cI cJ cZ a (rg 25 26 F F_1) (rg 25 25 X X_2) J R gf gn x  (by omega) (show gf ≤ 67600 from by first | assumption | omega) (show SPR (X 1) from by first | assumption | omega) (show x < 2147483647 from by first | assumption | omega) H.size) (cwV 1 hts kX0_expandPlain_X1_after_177 rfl rfl rfl (by decide +kernel) ⟨Nat.le_of_ble_eq_true rfl, Nat.le_of_ble_eq_true rfl⟩) (va_recv hK hP (ci := 1) (q0 := 1) rfl rfl) hK hNW hP hD hS hA rfl rfl hl.1 (lv_room (Nat.le_of_ble_eq_true rfl)) dX0_expandPlain_19 hcs (fun r_4 hw_5 H locs hP hD hS => ?_)
  replace hw_5 : (r_4).toInt = AF (X 1) gf x ∧ x < (r_4).toInt ∧ (r_4).toInt ≤ x + 67600 := hw_5
  obtain ⟨ea, la, ua⟩ := hw_5
  have i_6 := i32r r_4
  refine lv_iconst (v := oI 1) hx hb dX0_expandPlain_22 (by decide) ?_
  refine ccp_vV (As := [.int (oI (x + 1)), .int (oI r_4.toInt), .int (oI 1)]) (rest := []) (gF := fun F9 => rg 1 1 (rg 25 26 F F_1) F9) (gX := fun X9 => rg 2 4 (rg 25 25 X X_2) X9) ⟨hx, hb, hml, hown, hts⟩ (c_enter l dC dI cB cC cI cJ cZ a (rg 25 26 F F_1) (rg 25 25 X X_2) J R gf gn (x + 1) r_4.toInt 1  (by omega) (i32r _) (by decide) (show 0 ≤ (F 1).toInt ∧ (F 1).toInt ≤ 101 from by first | assumption | omega)  H.size) (cwV 3 hts kX0_expandPlain_X2_enter_216 rfl rfl rfl (by decide +kernel) ⟨Nat.le_of_ble_eq_true rfl, Nat.le_of_ble_eq_true rfl⟩) (va_recv hK hP (ci := 2) (q0 := 2) rfl rfl) hK hNW hP hD hS hA rfl rfl hl.1 (lv_room (Nat.le_of_ble_eq_true rfl)) dX0_expandPlain_23 hcs (fun F_7 X_8 hw_9 H locs hP hD hS => ?_)
  replace hw_9 : ((F 1).toInt < 101 ∧ (F_7 1).toInt = (F 1).toInt + 1 ∧ X_8 2 = upd (X 2) (F 1).toInt.toNat (oI (x + 1)) ∧ X_8 3 = upd (X 3) (F 1).toInt.toNat (oI r_4.toInt)) ∨ ((F 1).toInt = 101 ∧ (F_7 1).toInt = (F 1).toInt ∧ X_8 2 = (X 2) ∧ X_8 3 = (X 3)) := hw_9
  have hen := hw_9
  clear hw_9
  have hcut : CUT (X 1) (x + 1) (r_4.toInt) := by rw [show (r_4.toInt : Int) = AF (X 1) gf x by omega]; exact CUT_in hsp hne (p := x) (by omega)
  have hv2 : VB (X_8 2) := hen.elim (fun h => by rw [h.2.2.1]; exact VB_upd hv2 (by omega)) (fun h => by rw [h.2.2.1]; exact hv2)
  obtain ⟨hfr, hph, hn1, hn2, hn3⟩ := FRM_en hfr hpn hft hen (by omega) (by omega) hcut
  clear hen
  have eF9 : rg 25 26 (rg 4 4 (rg 1 1 F (rg 1 1 (rg 25 26 F F_1) F_7)) (rg 1 1 (rg 25 26 F F_1) F_7)) (rg 1 1 (rg 25 26 F F_1) F_7) = rg 1 1 (rg 25 26 F F_1) F_7 := by funext k; simp only [rg, va_up]; (repeat' split) <;> first | with_reducible rfl | omega
  have eX9 : rg 25 25 (rg 2 4 X (rg 2 4 (rg 25 25 X X_2) X_8)) (rg 2 4 (rg 25 25 X X_2) X_8) = rg 2 4 (rg 25 25 X X_2) X_8 := by funext k; simp only [rg, va_up]; (repeat' split) <;> first | with_reducible rfl | omega
  have hP9 : va_P (dC, dI) vwCl (CW cB cC cI cJ cZ a (rg 25 26 (rg 4 4 (rg 1 1 F (rg 1 1 (rg 25 26 F F_1) F_7)) (rg 1 1 (rg 25 26 F F_1) F_7)) (rg 1 1 (rg 25 26 F F_1) F_7)) (rg 25 25 (rg 2 4 X (rg 2 4 (rg 25 25 X X_2) X_8)) (rg 2 4 (rg 25 25 X X_2) X_8)) J R gf gn) H := by rw [eF9, eX9]; exact hP
  have hD9 : va_D A (CW cB cC cI cJ cZ a (rg 25 26 (rg 4 4 (rg 1 1 F (rg 1 1 (rg 25 26 F F_1) F_7)) (rg 1 1 (rg 25 26 F F_1) F_7)) (rg 1 1 (rg 25 26 F F_1) F_7)) (rg 25 25 (rg 2 4 X (rg 2 4 (rg 25 25 X X_2) X_8)) (rg 2 4 (rg 25 25 X X_2) X_8)) J R gf gn) := by rw [eF9, eX9]; exact hD
  have hpost : FRM (X 1) (X_8 2) (X_8 3) (X 5) (F_7 1).toInt (F 12).toInt ee ∧ (0 ≤ (F_7 1).toInt ∧ (F_7 1).toInt ≤ 101) ∧ VB (X_8 2) ∧ (F 25).toInt ≤ (F_1 25).toInt ∧ (F_1 25).toInt + 40 * (((PSI (X_8 2) (X_8 3) (F_7 1).toInt.toNat : Nat) : Int) + ((ee - (F 2).toInt).toNat : Int) + 67600 * (100 - (F 6).toInt) + 0) + (F_7 1).toInt ≤ K := ⟨hfr, by omega, hv2, by omega, by omega⟩
  exact W.vret hx hb hr (fun t ht hW => ⟨⟨(rg 1 1 (rg 25 26 F F_1) F_7, rg 2 4 (rg 25 25 X X_2) X_8), rfl, hpost, by rw [ht]; exact hP9, va_K.moved hW.alike hK, hD9⟩, hS.F ht⟩) hS.2.2 dX0_expandPlain_26

set_option maxHeartbeats 4000000 in
set_option maxRecDepth 100000 in
/-- X0_expandIf -/
theorem c_expandIf (l : Launch) (dC : Nat → ClassId) (dI : Nat → Nat → Nat) (cB cC cI cJ cZ : ClassId) (a : Nat → Nat) (F : Nat → Int32) (X : Nat → Nat → Int32) (J : Nat → Nat → Int64) (R : Nat → Nat) (gf gn : Nat) (x : Int) (D : Int → Nat) (ee K : Int) (ix : (-2147483648 ≤ x ∧ x < 2147483648)) (hgf : gf ≤ 67600) (hgn : gn ≤ 63261) (hnt : 0 ≤ (F 13).toInt ∧ (F 13).toInt ≤ (gn : Int)) (hft : 0 ≤ (F 1).toInt ∧ (F 1).toInt ≤ 101) (hv2 : VB (X 2)) (hx2 : 4000 ≤ x ∧ AF (X 1) gf x ≤ (F 12).toInt) (hfi : FI (X 1) D gf (F 0).toInt (F 12).toInt) (hfr : FRM (X 1) (X 2) (X 3) (X 5) (F 1).toInt (F 12).toInt ee) (hpn : PND (X 1) (X 3) (X 5) (F 1).toInt (F 12).toInt ee) (hpo : 0 ≤ (F 25).toInt ∧ 0 ≤ (F 6).toInt ∧ (F 6).toInt ≤ 100 ∧ K ≤ 1700000000 ∧ (F 25).toInt + 40 * (((PSI (X 2) (X 3) (F 1).toInt.toNat : Nat) : Int) + ((ee - (F 2).toInt).toNat : Int) + 67600 * (100 - (F 6).toInt) + (AF (X 1) gf x - x)) + (F 1).toInt ≤ K) (s0 : Nat) : Met l yX0_expandIf vX0_expandIf { frames := 4, cells := 0, slots := 0, locals := 127 } (va_Pc [.ref (a 0), .int (oI x)] (cPre dC dI cB cC cI cJ cZ a F X J R gf gn s0)) (va_Qv (fun (u : (Nat → Int32) × (Nat → Nat → Int32)) => match u with | (F1, X1) => FRM (X 1) (X1 2) (X1 3) (X 5) (F1 1).toInt (F 12).toInt ee ∧ (0 ≤ (F1 1).toInt ∧ (F1 1).toInt ≤ 101) ∧ VB (X1 2) ∧ (F 25).toInt ≤ (F1 25).toInt ∧ (F1 25).toInt + 40 * (((PSI (X1 2) (X1 3) (F1 1).toInt.toNat : Nat) : Int) + ((ee - (F 2).toInt).toNat : Int) + 67600 * (100 - (F 6).toInt) + 0) + (F1 1).toInt ≤ K) (fun u => cPost dC dI cB cC cI cJ cZ a (rg 25 26 (rg 4 4 (rg 1 1 F u.1) u.1) u.1) (rg 25 25 (rg 2 4 X u.2) u.2) J R gf gn (va_A (CW cB cC cI cJ cZ a F X J R gf gn) s0)) (va_A (CW cB cC cI cJ cZ a F X J R gf gn) s0)) 0 0 (va_A (CW cB cC cI cJ cZ a F X J R gf gn) s0) := by
  refine Met.ofW (cc := cX0_expandIf) (maxL := 2) (ret := none) (by decide) rfl ?_
  intro p e s m args below meth c s₁ B9 hml hv
  obtain ⟨rfl, hsz0, hP, hK, hD0, hNW⟩ := hv
  have hx := B9.exec
  have hb := B9.bytes
  have hr := B9.returns
  have hts := atoms_spec (ws := vX0_expandIf) B9.pre
  have hown : s.vm.findClass RX0 = some m.cls := findClass_of_methodNamed B9.named
  have hlocks := B9.notSynchronized
  clear B9
  subst hsz0
  have hD := hD0.self (sz := s.heap.size)
  generalize hAe : va_A (CW cB cC cI cJ cZ a F X J R gf gn) s.heap.size = A at hD ⊢
  have hA : ∀ q : Nat, s.heap.size ≤ q → A q := fun q h => by rw [← hAe]; exact Or.inr h
  have hS : va_S A s.heap s.heap [] := va_S.rf
  have hcs : 0 + 0 ≤ (0 : Nat) ∧ 0 + 0 ≤ (0 : Nat) := ⟨Nat.le_refl 0, Nat.le_refl 0⟩
  have hl := lv_entry ([.ref (a 0), .int (oI x)]) (n := 2) (Nat.le_of_ble_eq_true rfl)
  rw [lg_entry_eq]
  generalize (lg_sl ([.ref (a 0), .int (oI x)]) ++ List.replicate (2 - (lg_sl ([.ref (a 0), .int (oI x)])).length) Slot.unset).toArray = ls at hl ⊢
  have hl : lv_has ls 2 [(0, .ref (a 0)), (1, .int (oI x))] := hl
  have hsp := FI_sp hfi
  have hne := FI_ns hfi
  have hbb := FI_b hfi
  have eb := AF_b hsp gf x
  refine lv_aload_n hx hb dX0_expandIf_0 rfl (lv_at hl 0 rfl) ?_
  refine cg_0_0 hx hb hts inX0_expandIf_X0 hown hK hP (hts _ lkX0_expandIf_f43) dX0_expandIf_1 ?_
  refine lv_iload_n hx hb dX0_expandIf_4 rfl (lv_at hl 1 rfl) ?_
  refine ccs_iV (As := [.int (oI x)]) (rest := []) ⟨hx, hb, hml, hown, hts⟩ (c_parts l dC dI cB cC cI cJ cZ a F X J R gf gn x  (by omega) (show gf ≤ 67600 from by first | assumption | omega) (show SPR (X 1) from by first | assumption | omega)  s.heap.size) (cwV 1 hts kX0_expandIf_X1_parts_203 rfl rfl rfl (by decide +kernel) ⟨Nat.le_of_ble_eq_true rfl, Nat.le_of_ble_eq_true rfl⟩) (va_recv hK hP (ci := 1) (q0 := 1) rfl rfl) hK hNW hP hD hS hA rfl rfl hl.1 (lv_room (Nat.le_of_ble_eq_true rfl)) dX0_expandIf_5 hcs (fun r_1 hw_2 H locs hP hD hS => ?_)
  replace hw_2 : 0 ≤ (r_1).toInt ∧ (r_1).toInt ≤ 67600 ∧ (1 ≤ (r_1).toInt → x + 1 < AF (X 1) gf x ∧ 0 ≤ x ∧ x < (gf : Int)) ∧ (2 ≤ (r_1).toInt → AF (X 1) gf (x + 1) < AF (X 1) gf x) ∧ (3 ≤ (r_1).toInt → AF (X 1) gf (AF (X 1) gf (x + 1)) < AF (X 1) gf x) := hw_2
  have hpa := hw_2
  clear hw_2
  have i_3 := i32r r_1
  clear hpa
  refine lv_iconst (v := oI 4) hx hb dX0_expandIf_8 (by decide) ?_
  refine ci_eq (tgt := 18) hx hb (i32r _) (by decide) dX0_expandIf_9 (by decide) (fun c_4 => ?_) (fun c_4 => ?_)
  · refine lv_aload_n hx hb dX0_expandIf_18 rfl (lv_at hl 0 rfl) ?_
    refine cg_0_2 hx hb hts inX0_expandIf_X0 hown hK hP (hts _ lkX0_expandIf_f51) dX0_expandIf_19 ?_
    refine ccp_vV (As := []) (rest := []) (gF := fun F9 => rg 25 26 F F9) (gX := fun X9 => rg 25 25 X X9) ⟨hx, hb, hml, hown, hts⟩ (c_open l dC dI cB cC cI cJ cZ a F X J R gf gn    (show 0 ≤ (F 25).toInt ∧ (F 25).toInt ≤ 2000000000 from by first | assumption | omega) (show (F 25).toInt ≤ 1900000000 from by first | assumption | omega) H.size) (cwV 0 hts kX0_expandIf_X10_open_209 rfl rfl rfl (by decide +kernel) ⟨Nat.le_of_ble_eq_true rfl, Nat.le_of_ble_eq_true rfl⟩) (va_recv hK hP (ci := 10) (q0 := 10) rfl rfl) hK hNW hP hD hS hA rfl rfl hl.1 (lv_room (Nat.le_of_ble_eq_true rfl)) dX0_expandIf_22 hcs (fun F_5 X_6 hw_7 H locs hP hD hS => ?_)
    replace hw_7 : (F 25).toInt + 1 ≤ (F_5 25).toInt ∧ (F_5 25).toInt ≤ (F 25).toInt + 2 := hw_7
    have hto := hw_7
    clear hw_7
    refine lv_aload_n hx hb dX0_expandIf_25 rfl (lv_at hl 0 rfl) ?_
    refine cg_0_2 hx hb hts inX0_expandIf_X0 hown hK hP (hts _ lkX0_expandIf_f51) dX0_expandIf_26 ?_
    refine lv_aload_n hx hb dX0_expandIf_29 rfl (lv_at hl 0 rfl) ?_
    refine cg_0_1 hx hb hts inX0_expandIf_X0 hown hK hP (hts _ lkX0_expandIf_f47) dX0_expandIf_30 ?_
    refine lv_iconst (v := oI 1) hx hb dX0_expandIf_33 (by decide) ?_
    refine ccp_vV (As := [.ref (a 6), .int (oI 1)]) (rest := []) (gF := fun F9 => rg 25 26 (rg 25 26 F F_5) F9) (gX := fun X9 => rg 25 25 (rg 25 25 X X_6) X9) ⟨hx, hb, hml, hown, hts⟩ (c_addSymbolT l dC dI cB cC cI cJ cZ a (rg 25 26 F F_5) (rg 25 25 X X_6) J R gf gn 1  (by decide) (show 0 ≤ (F_5 25).toInt ∧ (F_5 25).toInt ≤ 2000000000 from by first | assumption | omega) (show (F_5 25).toInt ≤ 1800000000 from by first | assumption | omega) H.size) (cwV 2 hts kX0_expandIf_X10_addSymbol_212 rfl rfl rfl (by decide +kernel) ⟨Nat.le_of_ble_eq_true rfl, Nat.le_of_ble_eq_true rfl⟩) (va_recv hK hP (ci := 10) (q0 := 10) rfl rfl) hK hNW hP hD hS hA rfl rfl hl.1 (lv_room (Nat.le_of_ble_eq_true rfl)) dX0_expandIf_34 hcs (fun F_8 X_9 hw_10 H locs hP hD hS => ?_)
    replace hw_10 : (F_5 25).toInt + 0 ≤ (F_8 25).toInt ∧ (F_8 25).toInt ≤ (F_5 25).toInt + 17 := hw_10
    have hto := hw_10
    clear hw_10
    refine lv_aload_n hx hb dX0_expandIf_37 rfl (lv_at hl 0 rfl) ?_
    refine cg_0_7 hx hb hts inX0_expandIf_X0 hown hK hP (hts _ lkX0_expandIf_f12) dX0_expandIf_38 ?_
    refine lv_aload_n hx hb dX0_expandIf_41 rfl (lv_at hl 0 rfl) ?_
    refine cg_0_0 hx hb hts inX0_expandIf_X0 hown hK hP (hts _ lkX0_expandIf_f43) dX0_expandIf_42 ?_
    refine lv_iload_n hx hb dX0_expandIf_45 rfl (lv_at hl 1 rfl) ?_
    refine lv_iconst (v := oI 1) hx hb dX0_expandIf_46 (by decide) ?_
    refine ccs_iV (As := [.int (oI x), .int (oI 1)]) (rest := [.ref (a 2)]) ⟨hx, hb, hml, hown, hts⟩ (c_part1 l dC dI cB cC cI cJ cZ a (rg 25 26 (rg 25 26 F F_5) F_8) (rg 25 25 (rg 25 25 X X_6) X_9) J R gf gn x  (by omega) (show gf ≤ 67600 from by first | assumption | omega) (show SPR (X 1) from by first | assumption | omega) (show x < 1073741824 from by first | assumption | omega) H.size) (cwV 2 hts kX0_expandIf_X1_part_196 rfl rfl rfl (by decide +kernel) ⟨Nat.le_of_ble_eq_true rfl, Nat.le_of_ble_eq_true rfl⟩) (va_recv hK hP (ci := 1) (q0 := 1) rfl rfl) hK hNW hP hD hS hA rfl rfl hl.1 (lv_room (Nat.le_of_ble_eq_true rfl)) dX0_expandIf_47 hcs (fun r_11 hw_12 H locs hP hD hS => ?_)
    replace hw_12 : (r_11).toInt = AF (X 1) gf (x + 1) ∧ x + 1 < (r_11).toInt ∧ (r_11).toInt ≤ x + 67601 := hw_12
    obtain ⟨ep1, lp1, up1⟩ := hw_12
    have i_13 := i32r r_11
    refine lv_aload_n hx hb dX0_expandIf_50 rfl (lv_at hl 0 rfl) ?_
    refine cg_0_0 hx hb hts inX0_expandIf_X0 hown hK hP (hts _ lkX0_expandIf_f43) dX0_expandIf_51 ?_
    refine lv_iload_n hx hb dX0_expandIf_54 rfl (lv_at hl 1 rfl) ?_
    refine ccs_iV (As := [.int (oI x)]) (rest := [.int (oI r_11.toInt), .ref (a 2)]) ⟨hx, hb, hml, hown, hts⟩ (c_after l dC dI cB cC cI cJ cZ a (rg 25 26 (rg 25 26 F F_5) F_8) (rg 25 25 (rg 25 25 X X_6) X_9) J R gf gn x  (by omega) (show gf ≤ 67600 from by first | assumption | omega) (show SPR (X 1) from by first | assumption | omega) (show x < 2147483647 from by first | assumption | omega) H.size) (cwV 1 hts kX0_expandIf_X1_after_177 rfl rfl rfl (by decide +kernel) ⟨Nat.le_of_ble_eq_true rfl, Nat.le_of_ble_eq_true rfl⟩) (va_recv hK hP (ci := 1) (q0 := 1) rfl rfl) hK hNW hP hD hS hA rfl rfl hl.1 (lv_room (Nat.le_of_ble_eq_true rfl)) dX0_expandIf_55 hcs (fun r_14 hw_15 H locs hP hD hS => ?_)
    replace hw_15 : (r_14).toInt = AF (X 1) gf x ∧ x < (r_14).toInt ∧ (r_14).toInt ≤ x + 67600 := hw_15
    obtain ⟨ea, la, ua⟩ := hw_15
    have i_16 := i32r r_14
    refine lv_iconst (v := oI 1) hx hb dX0_expandIf_58 (by decide) ?_
    refine ccp_vV (As := [.int (oI r_11.toInt), .int (oI r_14.toInt), .int (oI 1)]) (rest := []) (gF := fun F9 => rg 1 1 (rg 25 26 (rg 25 26 F F_5) F_8) F9) (gX := fun X9 => rg 2 4 (rg 25 25 (rg 25 25 X X_6) X_9) X9) ⟨hx, hb, hml, hown, hts⟩ (c_enter l dC dI cB cC cI cJ cZ a (rg 25 26 (rg 25 26 F F_5) F_8) (rg 25 25 (rg 25 25 X X_6) X_9) J R gf gn r_11.toInt r_14.toInt 1  (i32r _) (i32r _) (by decide) (show 0 ≤ (F 1).toInt ∧ (F 1).toInt ≤ 101 from by first | assumption | omega)  H.size) (cwV 3 hts kX0_expandIf_X2_enter_216 rfl rfl rfl (by decide +kernel) ⟨Nat.le_of_ble_eq_true rfl, Nat.le_of_ble_eq_true rfl⟩) (va_recv hK hP (ci := 2) (q0 := 2) rfl rfl) hK hNW hP hD hS hA rfl rfl hl.1 (lv_room (Nat.le_of_ble_eq_true rfl)) dX0_expandIf_59 hcs (fun F_17 X_18 hw_19 H locs hP hD hS => ?_)
    replace hw_19 : ((F 1).toInt < 101 ∧ (F_17 1).toInt = (F 1).toInt + 1 ∧ X_18 2 = upd (X 2) (F 1).toInt.toNat (oI r_11.toInt) ∧ X_18 3 = upd (X 3) (F 1).toInt.toNat (oI r_14.toInt)) ∨ ((F 1).toInt = 101 ∧ (F_17 1).toInt = (F 1).toInt ∧ X_18 2 = (X 2) ∧ X_18 3 = (X 3)) := hw_19
    have hen := hw_19
    clear hw_19
    have hcut : CUT (X 1) (r_11.toInt) (r_14.toInt) := by rw [show (r_14.toInt : Int) = AF (X 1) gf x by omega]; exact CUT_in hsp hne (p := x) (by omega)
    have hv2 : VB (X_18 2) := hen.elim (fun h => by rw [h.2.2.1]; exact VB_upd hv2 (by omega)) (fun h => by rw [h.2.2.1]; exact hv2)
    obtain ⟨hfr, hph, hn1, hn2, hn3⟩ := FRM_en hfr hpn hft hen (by omega) (by omega) hcut
    clear hen
    have eF9 : rg 25 26 (rg 4 4 (rg 1 1 F (rg 1 1 (rg 25 26 (rg 25 26 F F_5) F_8) F_17)) (rg 1 1 (rg 25 26 (rg 25 26 F F_5) F_8) F_17)) (rg 1 1 (rg 25 26 (rg 25 26 F F_5) F_8) F_17) = rg 1 1 (rg 25 26 (rg 25 26 F F_5) F_8) F_17 := by funext k; simp only [rg, va_up]; (repeat' split) <;> first | with_reducible rfl | omega
    have eX9 : rg 25 25 (rg 2 4 X (rg 2 4 (rg 25 25 (rg 25 25 X X_6) X_9) X_18)) (rg 2 4 (rg 25 25 (rg 25 25 X X_6) X_9) X_18) = rg 2 4 (rg 25 25 (rg 25 25 X X_6) X_9) X_18 := by funext k; simp only [rg, va_up]; (repeat' split) <;> first | with_reducible rfl | omega
    have hP9 : va_P (dC, dI) vwCl (CW cB cC cI cJ cZ a (rg 25 26 (rg 4 4 (rg 1 1 F (rg 1 1 (rg 25 26 (rg 25 26 F F_5) F_8) F_17)) (rg 1 1 (rg 25 26 (rg 25 26 F F_5) F_8) F_17)) (rg 1 1 (rg 25 26 (rg 25 26 F F_5) F_8) F_17)) (rg 25 25 (rg 2 4 X (rg 2 4 (rg 25 25 (rg 25 25 X X_6) X_9) X_18)) (rg 2 4 (rg 25 25 (rg 25 25 X X_6) X_9) X_18)) J R gf gn) H := by rw [eF9, eX9]; exact hP
    have hD9 : va_D A (CW cB cC cI cJ cZ a (rg 25 26 (rg 4 4 (rg 1 1 F (rg 1 1 (rg 25 26 (rg 25 26 F F_5) F_8) F_17)) (rg 1 1 (rg 25 26 (rg 25 26 F F_5) F_8) F_17)) (rg 1 1 (rg 25 26 (rg 25 26 F F_5) F_8) F_17)) (rg 25 25 (rg 2 4 X (rg 2 4 (rg 25 25 (rg 25 25 X X_6) X_9) X_18)) (rg 2 4 (rg 25 25 (rg 25 25 X X_6) X_9) X_18)) J R gf gn) := by rw [eF9, eX9]; exact hD
    have hpost : FRM (X 1) (X_18 2) (X_18 3) (X 5) (F_17 1).toInt (F 12).toInt ee ∧ (0 ≤ (F_17 1).toInt ∧ (F_17 1).toInt ≤ 101) ∧ VB (X_18 2) ∧ (F 25).toInt ≤ (F_8 25).toInt ∧ (F_8 25).toInt + 40 * (((PSI (X_18 2) (X_18 3) (F_17 1).toInt.toNat : Nat) : Int) + ((ee - (F 2).toInt).toNat : Int) + 67600 * (100 - (F 6).toInt) + 0) + (F_17 1).toInt ≤ K := ⟨hfr, by omega, hv2, by omega, by omega⟩
    exact W.vret hx hb hr (fun t ht hW => ⟨⟨(rg 1 1 (rg 25 26 (rg 25 26 F F_5) F_8) F_17, rg 2 4 (rg 25 25 (rg 25 25 X X_6) X_9) X_18), rfl, hpost, by rw [ht]; exact hP9, va_K.moved hW.alike hK, hD9⟩, hS.F ht⟩) hS.2.2 dX0_expandIf_62
  · refine lv_aload_n hx hb dX0_expandIf_12 rfl (lv_at hl 0 rfl) ?_
    refine lv_iconst (v := oI 3) hx hb dX0_expandIf_13 (by decide) ?_
    refine cp_0_10 hx hb hts inX0_expandIf_X0 hown hK hP hD hS (hts _ lkX0_expandIf_f25) dX0_expandIf_14 (fun H locs hP hD hS => ?_)
    have hP : va_P (dC, dI) vwCl (CW cB cC cI cJ cZ a (va_up F 4 (oI 3)) X J R gf gn) H := hP
    have hD : va_D A (CW cB cC cI cJ cZ a (va_up F 4 (oI 3)) X J R gf gn) := hD
    have eF9 : rg 25 26 (rg 4 4 (rg 1 1 F (va_up F 4 (oI 3))) (va_up F 4 (oI 3))) (va_up F 4 (oI 3)) = va_up F 4 (oI 3) := by funext k; simp only [rg, va_up]; (repeat' split) <;> first | with_reducible rfl | omega
    have eX9 : rg 25 25 (rg 2 4 X X) X = X := by funext k; simp only [rg, va_up]; (repeat' split) <;> first | with_reducible rfl | omega
    have hP9 : va_P (dC, dI) vwCl (CW cB cC cI cJ cZ a (rg 25 26 (rg 4 4 (rg 1 1 F (va_up F 4 (oI 3))) (va_up F 4 (oI 3))) (va_up F 4 (oI 3))) (rg 25 25 (rg 2 4 X X) X) J R gf gn) H := by rw [eF9, eX9]; exact hP
    have hD9 : va_D A (CW cB cC cI cJ cZ a (rg 25 26 (rg 4 4 (rg 1 1 F (va_up F 4 (oI 3))) (va_up F 4 (oI 3))) (va_up F 4 (oI 3))) (rg 25 25 (rg 2 4 X X) X) J R gf gn) := by rw [eF9, eX9]; exact hD
    have hpost : FRM (X 1) (X 2) (X 3) (X 5) (F 1).toInt (F 12).toInt ee ∧ (0 ≤ (F 1).toInt ∧ (F 1).toInt ≤ 101) ∧ VB (X 2) ∧ (F 25).toInt ≤ (F 25).toInt ∧ (F 25).toInt + 40 * (((PSI (X 2) (X 3) (F 1).toInt.toNat : Nat) : Int) + ((ee - (F 2).toInt).toNat : Int) + 67600 * (100 - (F 6).toInt) + 0) + (F 1).toInt ≤ K := ⟨hfr, hft, hv2, by omega, by omega⟩
    exact W.vret hx hb hr (fun t ht hW => ⟨⟨(va_up F 4 (oI 3), X), rfl, hpost, by rw [ht]; exact hP9, va_K.moved hW.alike hK, hD9⟩, hS.F ht⟩) hS.2.2 dX0_expandIf_17

set_option maxHeartbeats 4000000 in
set_option maxRecDepth 100000 in
/-- X0_expandAlone -/
theorem c_expandAlone (l : Launch) (dC : Nat → ClassId) (dI : Nat → Nat → Nat) (cB cC cI cJ cZ : ClassId) (a : Nat → Nat) (F : Nat → Int32) (X : Nat → Nat → Int32) (J : Nat → Nat → Int64) (R : Nat → Nat) (gf gn : Nat) (x : Int) (D : Int → Nat) (ee K : Int) (ix : (-2147483648 ≤ x ∧ x < 2147483648)) (hgf : gf ≤ 67600) (hgn : gn ≤ 63261) (hnt : 0 ≤ (F 13).toInt ∧ (F 13).toInt ≤ (gn : Int)) (hft : 0 ≤ (F 1).toInt ∧ (F 1).toInt ≤ 101) (hv2 : VB (X 2)) (hst : 0 ≤ (F 23).toInt ∧ (F 23).toInt ≤ 606) (hsy : 0 ≤ (F 15).toInt ∧ (F 15).toInt ≤ 2560) (hru : VB (X 12)) (hx2 : 4000 ≤ x ∧ AF (X 1) gf x ≤ (F 12).toInt) (hfi : FI (X 1) D gf (F 0).toInt (F 12).toInt) (hfr : FRM (X 1) (X 2) (X 3) (X 5) (F 1).toInt (F 12).toInt ee) (hpo : 0 ≤ (F 25).toInt ∧ 0 ≤ (F 6).toInt ∧ (F 6).toInt ≤ 100 ∧ K ≤ 1700000000 ∧ (F 25).toInt + 40 * (((PSI (X 2) (X 3) (F 1).toInt.toNat : Nat) : Int) + ((ee - (F 2).toInt).toNat : Int) + 67600 * (100 - (F 6).toInt) + (AF (X 1) gf x - x)) + (F 1).toInt ≤ K) (s0 : Nat) : Met l yX0_expandAlone vX0_expandAlone { frames := 4, cells := 0, slots := 0, locals := 127 } (va_Pc [.ref (a 0), .int (oI x)] (cPre dC dI cB cC cI cJ cZ a F X J R gf gn s0)) (va_Qv (fun (u : (Nat → Int32) × (Nat → Nat → Int32)) => match u with | (F1, X1) => FRM (X 1) (X1 2) (X1 3) (X 5) (F1 1).toInt (F 12).toInt ee ∧ (0 ≤ (F1 1).toInt ∧ (F1 1).toInt ≤ 101) ∧ VB (X1 2) ∧ (F 25).toInt ≤ (F1 25).toInt ∧ (F1 25).toInt + 40 * (((PSI (X1 2) (X1 3) (F1 1).toInt.toNat : Nat) : Int) + ((ee - (F 2).toInt).toNat : Int) + 67600 * (100 - (F 6).toInt) + 0) + (F1 1).toInt ≤ K) (fun u => cPost dC dI cB cC cI cJ cZ a (rg 25 26 (rg 4 4 (rg 1 1 F u.1) u.1) u.1) (rg 25 25 (rg 2 4 X u.2) u.2) J R gf gn (va_A (CW cB cC cI cJ cZ a F X J R gf gn) s0)) (va_A (CW cB cC cI cJ cZ a F X J R gf gn) s0)) 0 0 (va_A (CW cB cC cI cJ cZ a F X J R gf gn) s0) := by
  refine Met.ofW (cc := cX0_expandAlone) (maxL := 4) (ret := none) (by decide) rfl ?_
  intro p e s m args below meth c s₁ B9 hml hv
  obtain ⟨rfl, hsz0, hP, hK, hD0, hNW⟩ := hv
  have hx := B9.exec
  have hb := B9.bytes
  have hr := B9.returns
  have hts := atoms_spec (ws := vX0_expandAlone) B9.pre
  have hown : s.vm.findClass RX0 = some m.cls := findClass_of_methodNamed B9.named
  have hlocks := B9.notSynchronized
  clear B9
  subst hsz0
  have hD := hD0.self (sz := s.heap.size)
  generalize hAe : va_A (CW cB cC cI cJ cZ a F X J R gf gn) s.heap.size = A at hD ⊢
  have hA : ∀ q : Nat, s.heap.size ≤ q → A q := fun q h => by rw [← hAe]; exact Or.inr h
  have hS : va_S A s.heap s.heap [] := va_S.rf
  have hcs : 0 + 0 ≤ (0 : Nat) ∧ 0 + 0 ≤ (0 : Nat) := ⟨Nat.le_refl 0, Nat.le_refl 0⟩
  have hl := lv_entry ([.ref (a 0), .int (oI x)]) (n := 4) (Nat.le_of_ble_eq_true rfl)
  rw [lg_entry_eq]
  generalize (lg_sl ([.ref (a 0), .int (oI x)]) ++ List.replicate (4 - (lg_sl ([.ref (a 0), .int (oI x)])).length) Slot.unset).toArray = ls at hl ⊢
  have hl : lv_has ls 4 [(0, .ref (a 0)), (1, .int (oI x))] := hl
  have hsp := FI_sp hfi
  have hne := FI_ns hfi
  have hbb := FI_b hfi
  have eb := AF_b hsp gf x
  refine lv_aload_n hx hb dX0_expandAlone_0 rfl (lv_at hl 0 rfl) ?_
  refine cg_0_0 hx hb hts inX0_expandAlone_X0 hown hK hP (hts _ lkX0_expandAlone_f43) dX0_expandAlone_1 ?_
  refine lv_iload_n hx hb dX0_expandAlone_4 rfl (lv_at hl 1 rfl) ?_
  refine ccs_iV (As := [.int (oI x)]) (rest := []) ⟨hx, hb, hml, hown, hts⟩ (c_nameOf l dC dI cB cC cI cJ cZ a F X J R gf gn x  (by omega) (show gf ≤ 67600 from by first | assumption | omega)  s.heap.size) (cwV 1 hts kX0_expandAlone_X1_nameOf_200 rfl rfl rfl (by decide +kernel) ⟨Nat.le_of_ble_eq_true rfl, Nat.le_of_ble_eq_true rfl⟩) (va_recv hK hP (ci := 1) (q0 := 1) rfl rfl) hK hNW hP hD hS hA rfl rfl hl.1 (lv_room (Nat.le_of_ble_eq_true rfl)) dX0_expandAlone_5 hcs (fun r_1 hw_2 H locs hP hD hS => ?_)
  have i_3 := i32r r_1
  refine lv_istore_n (lv' := [(2, .int (oI r_1.toInt)), (0, .ref (a 0)), (1, .int (oI x))]) hx hb dX0_expandAlone_8 rfl hl (by decide) rfl (fun ls hl => ?_)
  refine lv_iload_n hx hb dX0_expandAlone_9 rfl (lv_at hl 0 rfl) ?_
  refine lv_iconst (v := oI (-1)) hx hb dX0_expandAlone_10 (by decide) ?_
  refine ci_ne (tgt := 18) hx hb (i32r _) (by decide) dX0_expandAlone_11 (by decide) (fun c_4 => ?_) (fun c_4 => ?_)
  · refine lv_aload_n hx hb dX0_expandAlone_18 rfl (lv_at hl 1 rfl) ?_
    refine cg_0_3 hx hb hts inX0_expandAlone_X0 hown hK hP (hts _ lkX0_expandAlone_f60) dX0_expandAlone_19 ?_
    refine lv_iload_n hx hb dX0_expandAlone_22 rfl (lv_at hl 0 rfl) ?_
    refine lv_aload_n hx hb dX0_expandAlone_23 rfl (lv_at hl 1 rfl) ?_
    refine cg_0_3 hx hb hts inX0_expandAlone_X0 hown hK hP (hts _ lkX0_expandAlone_f60) dX0_expandAlone_24 ?_
    refine cgN_9_5 hx hb hts inX0_expandAlone_X9 hown hK hP (va_Nw.use rfl hNW.2.2.2.2.2.2.2.2.2.2.1) dX0_expandAlone_27 ?_
    have i_5 := i32r (F 23)
    refine ccs_iV (As := [.int (oI r_1.toInt), .int (oI ((F 23).toInt))]) (rest := []) ⟨hx, hb, hml, hown, hts⟩ (c_meaning l dC dI cB cC cI cJ cZ a F X J R gf gn r_1.toInt ((F 23).toInt)  (i32r _) (i32r _) (show gn ≤ 63261 from by first | assumption | omega) (show 0 ≤ (F 13).toInt ∧ (F 13).toInt ≤ (gn : Int) from by first | assumption | omega) (show 0 ≤ (F 23).toInt ∧ (F 23).toInt ≤ 606 from by first | assumption | omega) (show 0 ≤ (F 15).toInt ∧ (F 15).toInt ≤ 2560 from by first | assumption | omega) (show VB (X 12) from by first | assumption | omega)  H.size) (cwV 2 hts kX0_expandAlone_X9_meaning_227 rfl rfl rfl (by decide +kernel) ⟨Nat.le_of_ble_eq_true rfl, Nat.le_of_ble_eq_true rfl⟩) (va_recv hK hP (ci := 9) (q0 := 9) rfl rfl) hK hNW hP hD hS hA rfl rfl hl.1 (lv_room (Nat.le_of_ble_eq_true rfl)) dX0_expandAlone_30 hcs (fun r_6 hw_7 H locs hP hD hS => ?_)
    have i_8 := i32r r_6
    refine lv_istore_n (lv' := [(3, .int (oI r_6.toInt)), (2, .int (oI r_1.toInt)), (0, .ref (a 0)), (1, .int (oI x))]) hx hb dX0_expandAlone_33 rfl hl (by decide) rfl (fun ls hl => ?_)
    refine lv_iload_n hx hb dX0_expandAlone_34 rfl (lv_at hl 1 rfl) ?_
    refine lv_iconst (v := oI (-1)) hx hb dX0_expandAlone_35 (by decide) ?_
    refine ci_ne (tgt := 57) hx hb (i32r _) (by decide) dX0_expandAlone_36 (by decide) (fun c_9 => ?_) (fun c_9 => ?_)
    · refine lv_iload_n hx hb dX0_expandAlone_57 rfl (lv_at hl 0 rfl) ?_
      refine ccs_iS (As := [.int (oI r_6.toInt)]) (rest := []) ⟨hx, hb, hml, hown, hts⟩ (c_isWord l dC dI cB cC cI cJ cZ a F X J R gf gn r_6.toInt  (i32r _)   H.size) (va_cwS 1 hts kX0_expandAlone_X9_isWord_130 rfl rfl rfl (by decide +kernel) ⟨Nat.le_of_ble_eq_true rfl, Nat.le_of_ble_eq_true rfl⟩) hK hNW hP hD hS hA rfl rfl hl.1 (lv_room (Nat.le_of_ble_eq_true rfl)) dX0_expandAlone_58 hcs (fun r_10 hw_11 H locs hP hD hS => ?_)
      have i_12 := i32r r_10
      refine cz_ne (tgt := 71) hx hb (i32r _) dX0_expandAlone_61 (by decide) (fun c_13 => ?_) (fun c_13 => ?_)
      · refine lv_aload_n hx hb dX0_expandAlone_71 rfl (lv_at hl 2 rfl) ?_
        refine lv_iconst (v := oI 4) hx hb dX0_expandAlone_72 (by decide) ?_
        refine cp_0_10 hx hb hts inX0_expandAlone_X0 hown hK hP hD hS (hts _ lkX0_expandAlone_f25) dX0_expandAlone_73 (fun H locs hP hD hS => ?_)
        have hP : va_P (dC, dI) vwCl (CW cB cC cI cJ cZ a (va_up F 4 (oI 4)) X J R gf gn) H := hP
        have hD : va_D A (CW cB cC cI cJ cZ a (va_up F 4 (oI 4)) X J R gf gn) := hD
        refine lv_goto (tgt := 118) hx hb dX0_expandAlone_76 (by decide) ?_
        have eF9 : rg 25 26 (rg 4 4 (rg 1 1 F (va_up F 4 (oI 4))) (va_up F 4 (oI 4))) (va_up F 4 (oI 4)) = va_up F 4 (oI 4) := by funext k; simp only [rg, va_up]; (repeat' split) <;> first | with_reducible rfl | omega
        have eX9 : rg 25 25 (rg 2 4 X X) X = X := by funext k; simp only [rg, va_up]; (repeat' split) <;> first | with_reducible rfl | omega
        have hP9 : va_P (dC, dI) vwCl (CW cB cC cI cJ cZ a (rg 25 26 (rg 4 4 (rg 1 1 F (va_up F 4 (oI 4))) (va_up F 4 (oI 4))) (va_up F 4 (oI 4))) (rg 25 25 (rg 2 4 X X) X) J R gf gn) H := by rw [eF9, eX9]; exact hP
        have hD9 : va_D A (CW cB cC cI cJ cZ a (rg 25 26 (rg 4 4 (rg 1 1 F (va_up F 4 (oI 4))) (va_up F 4 (oI 4))) (va_up F 4 (oI 4))) (rg 25 25 (rg 2 4 X X) X) J R gf gn) := by rw [eF9, eX9]; exact hD
        have hpost : FRM (X 1) (X 2) (X 3) (X 5) (F 1).toInt (F 12).toInt ee ∧ (0 ≤ (F 1).toInt ∧ (F 1).toInt ≤ 101) ∧ VB (X 2) ∧ (F 25).toInt ≤ (F 25).toInt ∧ (F 25).toInt + 40 * (((PSI (X 2) (X 3) (F 1).toInt.toNat : Nat) : Int) + ((ee - (F 2).toInt).toNat : Int) + 67600 * (100 - (F 6).toInt) + 0) + (F 1).toInt ≤ K := ⟨hfr, hft, hv2, by omega, by omega⟩
        exact W.vret hx hb hr (fun t ht hW => ⟨⟨(va_up F 4 (oI 4), X), rfl, hpost, by rw [ht]; exact hP9, va_K.moved hW.alike hK, hD9⟩, hS.F ht⟩) hS.2.2 dX0_expandAlone_118
      · refine lv_iload_n hx hb dX0_expandAlone_64 rfl (lv_at hl 0 rfl) ?_
        refine ccs_iS (As := [.int (oI r_6.toInt)]) (rest := []) ⟨hx, hb, hml, hown, hts⟩ (c_isMacro l dC dI cB cC cI cJ cZ a F X J R gf gn r_6.toInt  (i32r _)   H.size) (va_cwS 1 hts kX0_expandAlone_X9_isMacro_123 rfl rfl rfl (by decide +kernel) ⟨Nat.le_of_ble_eq_true rfl, Nat.le_of_ble_eq_true rfl⟩) hK hNW hP hD hS hA rfl rfl hl.1 (lv_room (Nat.le_of_ble_eq_true rfl)) dX0_expandAlone_65 hcs (fun r_14 hw_15 H locs hP hD hS => ?_)
        have i_16 := i32r r_14
        refine cz_eq (tgt := 79) hx hb (i32r _) dX0_expandAlone_68 (by decide) (fun c_17 => ?_) (fun c_17 => ?_)
        · refine lv_iload_n hx hb dX0_expandAlone_79 rfl (lv_at hl 0 rfl) ?_
          refine lv_iconst (v := oI 3) hx hb dX0_expandAlone_80 (by decide) ?_
          refine lv_iand hx hb dX0_expandAlone_81 ?_
          refine lv_topi (fun v_18 ev_18 => ?_)
          refine tp_i (oI_toInt v_18).symm ?_
          have i_19 := i32r v_18
          refine lv_iconst (v := oI 1) hx hb dX0_expandAlone_82 (by decide) ?_
          refine ci_ne (tgt := 99) hx hb (i32r _) (by decide) dX0_expandAlone_83 (by decide) (fun c_20 => ?_) (fun c_20 => ?_)
          · refine lv_aload_n hx hb dX0_expandAlone_99 rfl (lv_at hl 2 rfl) ?_
            refine cg_0_2 hx hb hts inX0_expandAlone_X0 hown hK hP (hts _ lkX0_expandAlone_f51) dX0_expandAlone_100 ?_
            refine lv_aload_n hx hb dX0_expandAlone_103 rfl (lv_at hl 2 rfl) ?_
            refine cg_0_1 hx hb hts inX0_expandAlone_X0 hown hK hP (hts _ lkX0_expandAlone_f47) dX0_expandAlone_104 ?_
            refine lv_aload_n hx hb dX0_expandAlone_107 rfl (lv_at hl 2 rfl) ?_
            refine cg_0_1 hx hb hts inX0_expandAlone_X0 hown hK hP (hts _ lkX0_expandAlone_f47) dX0_expandAlone_108 ?_
            refine lv_iload_n hx hb dX0_expandAlone_111 rfl (lv_at hl 1 rfl) ?_
            refine ccs_iV (As := [.int (oI r_1.toInt)]) (rest := [.ref (a 6), .ref (a 10)]) ⟨hx, hb, hml, hown, hts⟩ (c_root l dC dI cB cC cI cJ cZ a F X J R gf gn r_1.toInt  (i32r _) (show gn ≤ 63261 from by first | assumption | omega) (show 0 ≤ (F 13).toInt ∧ (F 13).toInt ≤ (gn : Int) from by first | assumption | omega)  H.size) (cwV 1 hts kX0_expandAlone_X6_root_239 rfl rfl rfl (by decide +kernel) ⟨Nat.le_of_ble_eq_true rfl, Nat.le_of_ble_eq_true rfl⟩) (va_recv hK hP (ci := 6) (q0 := 6) rfl rfl) hK hNW hP hD hS hA rfl rfl hl.1 (lv_room (Nat.le_of_ble_eq_true rfl)) dX0_expandAlone_112 hcs (fun r_21 hw_22 H locs hP hD hS => ?_)
            have i_23 := i32r r_21
            refine ccp_vV (As := [.ref (a 6), .int (oI r_21.toInt)]) (rest := []) (gF := fun F9 => rg 25 26 F F9) (gX := fun X9 => rg 25 25 X X9) ⟨hx, hb, hml, hown, hts⟩ (c_addSymbolT l dC dI cB cC cI cJ cZ a F X J R gf gn r_21.toInt  (i32r _) (show 0 ≤ (F 25).toInt ∧ (F 25).toInt ≤ 2000000000 from by first | assumption | omega) (show (F 25).toInt ≤ 1800000000 from by first | assumption | omega) H.size) (cwV 2 hts kX0_expandAlone_X10_addSymbol_212 rfl rfl rfl (by decide +kernel) ⟨Nat.le_of_ble_eq_true rfl, Nat.le_of_ble_eq_true rfl⟩) (va_recv hK hP (ci := 10) (q0 := 10) rfl rfl) hK hNW hP hD hS hA rfl rfl hl.1 (lv_room (Nat.le_of_ble_eq_true rfl)) dX0_expandAlone_115 hcs (fun F_24 X_25 hw_26 H locs hP hD hS => ?_)
            replace hw_26 : (F 25).toInt + 0 ≤ (F_24 25).toInt ∧ (F_24 25).toInt ≤ (F 25).toInt + 17 := hw_26
            have hto := hw_26
            clear hw_26
            have eF9 : rg 25 26 (rg 4 4 (rg 1 1 F (rg 25 26 F F_24)) (rg 25 26 F F_24)) (rg 25 26 F F_24) = rg 25 26 F F_24 := by funext k; simp only [rg, va_up]; (repeat' split) <;> first | with_reducible rfl | omega
            have eX9 : rg 25 25 (rg 2 4 X (rg 25 25 X X_25)) (rg 25 25 X X_25) = rg 25 25 X X_25 := by funext k; simp only [rg, va_up]; (repeat' split) <;> first | with_reducible rfl | omega
            have hP9 : va_P (dC, dI) vwCl (CW cB cC cI cJ cZ a (rg 25 26 (rg 4 4 (rg 1 1 F (rg 25 26 F F_24)) (rg 25 26 F F_24)) (rg 25 26 F F_24)) (rg 25 25 (rg 2 4 X (rg 25 25 X X_25)) (rg 25 25 X X_25)) J R gf gn) H := by rw [eF9, eX9]; exact hP
            have hD9 : va_D A (CW cB cC cI cJ cZ a (rg 25 26 (rg 4 4 (rg 1 1 F (rg 25 26 F F_24)) (rg 25 26 F F_24)) (rg 25 26 F F_24)) (rg 25 25 (rg 2 4 X (rg 25 25 X X_25)) (rg 25 25 X X_25)) J R gf gn) := by rw [eF9, eX9]; exact hD
            have hpost : FRM (X 1) (X 2) (X 3) (X 5) (F 1).toInt (F 12).toInt ee ∧ (0 ≤ (F 1).toInt ∧ (F 1).toInt ≤ 101) ∧ VB (X 2) ∧ (F 25).toInt ≤ (F_24 25).toInt ∧ (F_24 25).toInt + 40 * (((PSI (X 2) (X 3) (F 1).toInt.toNat : Nat) : Int) + ((ee - (F 2).toInt).toNat : Int) + 67600 * (100 - (F 6).toInt) + 0) + (F 1).toInt ≤ K := ⟨hfr, hft, hv2, by omega, by omega⟩
            exact W.vret hx hb hr (fun t ht hW => ⟨⟨(rg 25 26 F F_24, rg 25 25 X X_25), rfl, hpost, by rw [ht]; exact hP9, va_K.moved hW.alike hK, hD9⟩, hS.F ht⟩) hS.2.2 dX0_expandAlone_118
          · refine lv_aload_n hx hb dX0_expandAlone_86 rfl (lv_at hl 2 rfl) ?_
            refine cg_0_2 hx hb hts inX0_expandAlone_X0 hown hK hP (hts _ lkX0_expandAlone_f51) dX0_expandAlone_87 ?_
            refine lv_iload_n hx hb dX0_expandAlone_90 rfl (lv_at hl 0 rfl) ?_
            refine lv_iconst (v := oI 2) hx hb dX0_expandAlone_91 (by decide) ?_
            refine lv_ishr hx hb dX0_expandAlone_92 ?_
            refine lv_topi (fun v_27 ev_27 => ?_)
            refine tp_i (oI_toInt v_27).symm ?_
            have i_28 := i32r v_27
            refine ccp_vV (As := [.int (oI v_27.toInt)]) (rest := []) (gF := fun F9 => rg 25 26 F F9) (gX := fun X9 => rg 25 25 X X9) ⟨hx, hb, hml, hown, hts⟩ (c_addVariableT l dC dI cB cC cI cJ cZ a F X J R gf gn v_27.toInt  (i32r _) (show 0 ≤ (F 25).toInt ∧ (F 25).toInt ≤ 2000000000 from by first | assumption | omega) (show (F 25).toInt ≤ 1800000000 from by first | assumption | omega) H.size) (cwV 1 hts kX0_expandAlone_X10_addVariable_236 rfl rfl rfl (by decide +kernel) ⟨Nat.le_of_ble_eq_true rfl, Nat.le_of_ble_eq_true rfl⟩) (va_recv hK hP (ci := 10) (q0 := 10) rfl rfl) hK hNW hP hD hS hA rfl rfl hl.1 (lv_room (Nat.le_of_ble_eq_true rfl)) dX0_expandAlone_93 hcs (fun F_29 X_30 hw_31 H locs hP hD hS => ?_)
            replace hw_31 : (F 25).toInt + 1 ≤ (F_29 25).toInt ∧ (F_29 25).toInt ≤ (F 25).toInt + 12 := hw_31
            have hto := hw_31
            clear hw_31
            refine lv_goto (tgt := 118) hx hb dX0_expandAlone_96 (by decide) ?_
            have eF9 : rg 25 26 (rg 4 4 (rg 1 1 F (rg 25 26 F F_29)) (rg 25 26 F F_29)) (rg 25 26 F F_29) = rg 25 26 F F_29 := by funext k; simp only [rg, va_up]; (repeat' split) <;> first | with_reducible rfl | omega
            have eX9 : rg 25 25 (rg 2 4 X (rg 25 25 X X_30)) (rg 25 25 X X_30) = rg 25 25 X X_30 := by funext k; simp only [rg, va_up]; (repeat' split) <;> first | with_reducible rfl | omega
            have hP9 : va_P (dC, dI) vwCl (CW cB cC cI cJ cZ a (rg 25 26 (rg 4 4 (rg 1 1 F (rg 25 26 F F_29)) (rg 25 26 F F_29)) (rg 25 26 F F_29)) (rg 25 25 (rg 2 4 X (rg 25 25 X X_30)) (rg 25 25 X X_30)) J R gf gn) H := by rw [eF9, eX9]; exact hP
            have hD9 : va_D A (CW cB cC cI cJ cZ a (rg 25 26 (rg 4 4 (rg 1 1 F (rg 25 26 F F_29)) (rg 25 26 F F_29)) (rg 25 26 F F_29)) (rg 25 25 (rg 2 4 X (rg 25 25 X X_30)) (rg 25 25 X X_30)) J R gf gn) := by rw [eF9, eX9]; exact hD
            have hpost : FRM (X 1) (X 2) (X 3) (X 5) (F 1).toInt (F 12).toInt ee ∧ (0 ≤ (F 1).toInt ∧ (F 1).toInt ≤ 101) ∧ VB (X 2) ∧ (F 25).toInt ≤ (F_29 25).toInt ∧ (F_29 25).toInt + 40 * (((PSI (X 2) (X 3) (F 1).toInt.toNat : Nat) : Int) + ((ee - (F 2).toInt).toNat : Int) + 67600 * (100 - (F 6).toInt) + 0) + (F 1).toInt ≤ K := ⟨hfr, hft, hv2, by omega, by omega⟩
            exact W.vret hx hb hr (fun t ht hW => ⟨⟨(rg 25 26 F F_29, rg 25 25 X X_30), rfl, hpost, by rw [ht]; exact hP9, va_K.moved hW.alike hK, hD9⟩, hS.F ht⟩) hS.2.2 dX0_expandAlone_118
        · refine lv_aload_n hx hb dX0_expandAlone_71 rfl (lv_at hl 2 rfl) ?_
          refine lv_iconst (v := oI 4) hx hb dX0_expandAlone_72 (by decide) ?_
          refine cp_0_10 hx hb hts inX0_expandAlone_X0 hown hK hP hD hS (hts _ lkX0_expandAlone_f25) dX0_expandAlone_73 (fun H locs hP hD hS => ?_)
          have hP : va_P (dC, dI) vwCl (CW cB cC cI cJ cZ a (va_up F 4 (oI 4)) X J R gf gn) H := hP
          have hD : va_D A (CW cB cC cI cJ cZ a (va_up F 4 (oI 4)) X J R gf gn) := hD
          refine lv_goto (tgt := 118) hx hb dX0_expandAlone_76 (by decide) ?_
          have eF9 : rg 25 26 (rg 4 4 (rg 1 1 F (va_up F 4 (oI 4))) (va_up F 4 (oI 4))) (va_up F 4 (oI 4)) = va_up F 4 (oI 4) := by funext k; simp only [rg, va_up]; (repeat' split) <;> first | with_reducible rfl | omega
          have eX9 : rg 25 25 (rg 2 4 X X) X = X := by funext k; simp only [rg, va_up]; (repeat' split) <;> first | with_reducible rfl | omega
          have hP9 : va_P (dC, dI) vwCl (CW cB cC cI cJ cZ a (rg 25 26 (rg 4 4 (rg 1 1 F (va_up F 4 (oI 4))) (va_up F 4 (oI 4))) (va_up F 4 (oI 4))) (rg 25 25 (rg 2 4 X X) X) J R gf gn) H := by rw [eF9, eX9]; exact hP
          have hD9 : va_D A (CW cB cC cI cJ cZ a (rg 25 26 (rg 4 4 (rg 1 1 F (va_up F 4 (oI 4))) (va_up F 4 (oI 4))) (va_up F 4 (oI 4))) (rg 25 25 (rg 2 4 X X) X) J R gf gn) := by rw [eF9, eX9]; exact hD
          have hpost : FRM (X 1) (X 2) (X 3) (X 5) (F 1).toInt (F 12).toInt ee ∧ (0 ≤ (F 1).toInt ∧ (F 1).toInt ≤ 101) ∧ VB (X 2) ∧ (F 25).toInt ≤ (F 25).toInt ∧ (F 25).toInt + 40 * (((PSI (X 2) (X 3) (F 1).toInt.toNat : Nat) : Int) + ((ee - (F 2).toInt).toNat : Int) + 67600 * (100 - (F 6).toInt) + 0) + (F 1).toInt ≤ K := ⟨hfr, hft, hv2, by omega, by omega⟩
          exact W.vret hx hb hr (fun t ht hW => ⟨⟨(va_up F 4 (oI 4), X), rfl, hpost, by rw [ht]; exact hP9, va_K.moved hW.alike hK, hD9⟩, hS.F ht⟩) hS.2.2 dX0_expandAlone_118
    · refine lv_aload_n hx hb dX0_expandAlone_39 rfl (lv_at hl 2 rfl) ?_
      refine cg_0_2 hx hb hts inX0_expandAlone_X0 hown hK hP (hts _ lkX0_expandAlone_f51) dX0_expandAlone_40 ?_
      refine lv_aload_n hx hb dX0_expandAlone_43 rfl (lv_at hl 2 rfl) ?_
      refine cg_0_0 hx hb hts inX0_expandAlone_X0 hown hK hP (hts _ lkX0_expandAlone_f43) dX0_expandAlone_44 ?_
      refine lv_iload_n hx hb dX0_expandAlone_47 rfl (lv_at hl 3 rfl) ?_
      refine ccs_iV (As := [.int (oI x)]) (rest := [.ref (a 10)]) ⟨hx, hb, hml, hown, hts⟩ (c_numberOf l dC dI cB cC cI cJ cZ a F X J R gf gn x  (by omega) (show gf ≤ 67600 from by first | assumption | omega)  H.size) (cwV 1 hts kX0_expandAlone_X1_numberOf_230 rfl rfl rfl (by decide +kernel) ⟨Nat.le_of_ble_eq_true rfl, Nat.le_of_ble_eq_true rfl⟩) (va_recv hK hP (ci := 1) (q0 := 1) rfl rfl) hK hNW hP hD hS hA rfl rfl hl.1 (lv_room (Nat.le_of_ble_eq_true rfl)) dX0_expandAlone_48 hcs (fun r_32 hw_33 H locs hP hD hS => ?_)
      have i_34 := i32r r_32
      refine ccp_vV (As := [.int (oI r_32.toInt)]) (rest := []) (gF := fun F9 => rg 25 26 F F9) (gX := fun X9 => rg 25 25 X X9) ⟨hx, hb, hml, hown, hts⟩ (c_addNumberT l dC dI cB cC cI cJ cZ a F X J R gf gn r_32.toInt  (i32r _) (show 0 ≤ (F 25).toInt ∧ (F 25).toInt ≤ 2000000000 from by first | assumption | omega) (show (F 25).toInt ≤ 1800000000 from by first | assumption | omega) H.size) (cwV 1 hts kX0_expandAlone_X10_addNumber_233 rfl rfl rfl (by decide +kernel) ⟨Nat.le_of_ble_eq_true rfl, Nat.le_of_ble_eq_true rfl⟩) (va_recv hK hP (ci := 10) (q0 := 10) rfl rfl) hK hNW hP hD hS hA rfl rfl hl.1 (lv_room (Nat.le_of_ble_eq_true rfl)) dX0_expandAlone_51 hcs (fun F_35 X_36 hw_37 H locs hP hD hS => ?_)
      replace hw_37 : (F 25).toInt + 0 ≤ (F_35 25).toInt ∧ (F_35 25).toInt ≤ (F 25).toInt + 11 := hw_37
      have hto := hw_37
      clear hw_37
      refine lv_goto (tgt := 118) hx hb dX0_expandAlone_54 (by decide) ?_
      have eF9 : rg 25 26 (rg 4 4 (rg 1 1 F (rg 25 26 F F_35)) (rg 25 26 F F_35)) (rg 25 26 F F_35) = rg 25 26 F F_35 := by funext k; simp only [rg, va_up]; (repeat' split) <;> first | with_reducible rfl | omega
      have eX9 : rg 25 25 (rg 2 4 X (rg 25 25 X X_36)) (rg 25 25 X X_36) = rg 25 25 X X_36 := by funext k; simp only [rg, va_up]; (repeat' split) <;> first | with_reducible rfl | omega
      have hP9 : va_P (dC, dI) vwCl (CW cB cC cI cJ cZ a (rg 25 26 (rg 4 4 (rg 1 1 F (rg 25 26 F F_35)) (rg 25 26 F F_35)) (rg 25 26 F F_35)) (rg 25 25 (rg 2 4 X (rg 25 25 X X_36)) (rg 25 25 X X_36)) J R gf gn) H := by rw [eF9, eX9]; exact hP
      have hD9 : va_D A (CW cB cC cI cJ cZ a (rg 25 26 (rg 4 4 (rg 1 1 F (rg 25 26 F F_35)) (rg 25 26 F F_35)) (rg 25 26 F F_35)) (rg 25 25 (rg 2 4 X (rg 25 25 X X_36)) (rg 25 25 X X_36)) J R gf gn) := by rw [eF9, eX9]; exact hD
      have hpost : FRM (X 1) (X 2) (X 3) (X 5) (F 1).toInt (F 12).toInt ee ∧ (0 ≤ (F 1).toInt ∧ (F 1).toInt ≤ 101) ∧ VB (X 2) ∧ (F 25).toInt ≤ (F_35 25).toInt ∧ (F_35 25).toInt + 40 * (((PSI (X 2) (X 3) (F 1).toInt.toNat : Nat) : Int) + ((ee - (F 2).toInt).toNat : Int) + 67600 * (100 - (F 6).toInt) + 0) + (F 1).toInt ≤ K := ⟨hfr, hft, hv2, by omega, by omega⟩
      exact W.vret hx hb hr (fun t ht hW => ⟨⟨(rg 25 26 F F_35, rg 25 25 X X_36), rfl, hpost, by rw [ht]; exact hP9, va_K.moved hW.alike hK, hD9⟩, hS.F ht⟩) hS.2.2 dX0_expandAlone_118
  · refine lv_iconst (v := oI (-1)) hx hb dX0_expandAlone_14 (by decide) ?_
    refine lv_goto (tgt := 33) hx hb dX0_expandAlone_15 (by decide) ?_
    refine lv_istore_n (lv' := [(3, .int (oI ((-1)))), (2, .int (oI r_1.toInt)), (0, .ref (a 0)), (1, .int (oI x))]) hx hb dX0_expandAlone_33 rfl hl (by decide) rfl (fun ls hl => ?_)
    refine lv_iload_n hx hb dX0_expandAlone_34 rfl (lv_at hl 1 rfl) ?_
    refine lv_iconst (v := oI (-1)) hx hb dX0_expandAlone_35 (by decide) ?_
    refine ci_ne (tgt := 57) hx hb (i32r _) (by decide) dX0_expandAlone_36 (by decide) (fun c_38 => ?_) (fun c_38 => ?_)
    · refine lv_iload_n hx hb dX0_expandAlone_57 rfl (lv_at hl 0 rfl) ?_
      refine ccs_iS (As := [.int (oI ((-1)))]) (rest := []) ⟨hx, hb, hml, hown, hts⟩ (c_isWord l dC dI cB cC cI cJ cZ a F X J R gf gn ((-1))  (by decide)   H.size) (va_cwS 1 hts kX0_expandAlone_X9_isWord_130 rfl rfl rfl (by decide +kernel) ⟨Nat.le_of_ble_eq_true rfl, Nat.le_of_ble_eq_true rfl⟩) hK hNW hP hD hS hA rfl rfl hl.1 (lv_room (Nat.le_of_ble_eq_true rfl)) dX0_expandAlone_58 hcs (fun r_39 hw_40 H locs hP hD hS => ?_)
      have i_41 := i32r r_39
      refine cz_ne (tgt := 71) hx hb (i32r _) dX0_expandAlone_61 (by decide) (fun c_42 => ?_) (fun c_42 => ?_)
      · refine lv_aload_n hx hb dX0_expandAlone_71 rfl (lv_at hl 2 rfl) ?_
        refine lv_iconst (v := oI 4) hx hb dX0_expandAlone_72 (by decide) ?_
        refine cp_0_10 hx hb hts inX0_expandAlone_X0 hown hK hP hD hS (hts _ lkX0_expandAlone_f25) dX0_expandAlone_73 (fun H locs hP hD hS => ?_)
        have hP : va_P (dC, dI) vwCl (CW cB cC cI cJ cZ a (va_up F 4 (oI 4)) X J R gf gn) H := hP
        have hD : va_D A (CW cB cC cI cJ cZ a (va_up F 4 (oI 4)) X J R gf gn) := hD
        refine lv_goto (tgt := 118) hx hb dX0_expandAlone_76 (by decide) ?_
        have eF9 : rg 25 26 (rg 4 4 (rg 1 1 F (va_up F 4 (oI 4))) (va_up F 4 (oI 4))) (va_up F 4 (oI 4)) = va_up F 4 (oI 4) := by funext k; simp only [rg, va_up]; (repeat' split) <;> first | with_reducible rfl | omega
        have eX9 : rg 25 25 (rg 2 4 X X) X = X := by funext k; simp only [rg, va_up]; (repeat' split) <;> first | with_reducible rfl | omega
        have hP9 : va_P (dC, dI) vwCl (CW cB cC cI cJ cZ a (rg 25 26 (rg 4 4 (rg 1 1 F (va_up F 4 (oI 4))) (va_up F 4 (oI 4))) (va_up F 4 (oI 4))) (rg 25 25 (rg 2 4 X X) X) J R gf gn) H := by rw [eF9, eX9]; exact hP
        have hD9 : va_D A (CW cB cC cI cJ cZ a (rg 25 26 (rg 4 4 (rg 1 1 F (va_up F 4 (oI 4))) (va_up F 4 (oI 4))) (va_up F 4 (oI 4))) (rg 25 25 (rg 2 4 X X) X) J R gf gn) := by rw [eF9, eX9]; exact hD
        have hpost : FRM (X 1) (X 2) (X 3) (X 5) (F 1).toInt (F 12).toInt ee ∧ (0 ≤ (F 1).toInt ∧ (F 1).toInt ≤ 101) ∧ VB (X 2) ∧ (F 25).toInt ≤ (F 25).toInt ∧ (F 25).toInt + 40 * (((PSI (X 2) (X 3) (F 1).toInt.toNat : Nat) : Int) + ((ee - (F 2).toInt).toNat : Int) + 67600 * (100 - (F 6).toInt) + 0) + (F 1).toInt ≤ K := ⟨hfr, hft, hv2, by omega, by omega⟩
        exact W.vret hx hb hr (fun t ht hW => ⟨⟨(va_up F 4 (oI 4), X), rfl, hpost, by rw [ht]; exact hP9, va_K.moved hW.alike hK, hD9⟩, hS.F ht⟩) hS.2.2 dX0_expandAlone_118
      · refine lv_iload_n hx hb dX0_expandAlone_64 rfl (lv_at hl 0 rfl) ?_
        refine ccs_iS (As := [.int (oI ((-1)))]) (rest := []) ⟨hx, hb, hml, hown, hts⟩ (c_isMacro l dC dI cB cC cI cJ cZ a F X J R gf gn ((-1))  (by decide)   H.size) (va_cwS 1 hts kX0_expandAlone_X9_isMacro_123 rfl rfl rfl (by decide +kernel) ⟨Nat.le_of_ble_eq_true rfl, Nat.le_of_ble_eq_true rfl⟩) hK hNW hP hD hS hA rfl rfl hl.1 (lv_room (Nat.le_of_ble_eq_true rfl)) dX0_expandAlone_65 hcs (fun r_43 hw_44 H locs hP hD hS => ?_)
        have i_45 := i32r r_43
        refine cz_eq (tgt := 79) hx hb (i32r _) dX0_expandAlone_68 (by decide) (fun c_46 => ?_) (fun c_46 => ?_)
        · refine lv_iload_n hx hb dX0_expandAlone_79 rfl (lv_at hl 0 rfl) ?_
          refine lv_iconst (v := oI 3) hx hb dX0_expandAlone_80 (by decide) ?_
          refine lv_iand hx hb dX0_expandAlone_81 ?_
          refine lv_topi (fun v_47 ev_47 => ?_)
          refine tp_i (oI_toInt v_47).symm ?_
          have i_48 := i32r v_47
          refine lv_iconst (v := oI 1) hx hb dX0_expandAlone_82 (by decide) ?_
          refine ci_ne (tgt := 99) hx hb (i32r _) (by decide) dX0_expandAlone_83 (by decide) (fun c_49 => ?_) (fun c_49 => ?_)
          · refine lv_aload_n hx hb dX0_expandAlone_99 rfl (lv_at hl 2 rfl) ?_
            refine cg_0_2 hx hb hts inX0_expandAlone_X0 hown hK hP (hts _ lkX0_expandAlone_f51) dX0_expandAlone_100 ?_
            refine lv_aload_n hx hb dX0_expandAlone_103 rfl (lv_at hl 2 rfl) ?_
            refine cg_0_1 hx hb hts inX0_expandAlone_X0 hown hK hP (hts _ lkX0_expandAlone_f47) dX0_expandAlone_104 ?_
            refine lv_aload_n hx hb dX0_expandAlone_107 rfl (lv_at hl 2 rfl) ?_
            refine cg_0_1 hx hb hts inX0_expandAlone_X0 hown hK hP (hts _ lkX0_expandAlone_f47) dX0_expandAlone_108 ?_
            refine lv_iload_n hx hb dX0_expandAlone_111 rfl (lv_at hl 1 rfl) ?_
            refine ccs_iV (As := [.int (oI r_1.toInt)]) (rest := [.ref (a 6), .ref (a 10)]) ⟨hx, hb, hml, hown, hts⟩ (c_root l dC dI cB cC cI cJ cZ a F X J R gf gn r_1.toInt  (i32r _) (show gn ≤ 63261 from by first | assumption | omega) (show 0 ≤ (F 13).toInt ∧ (F 13).toInt ≤ (gn : Int) from by first | assumption | omega)  H.size) (cwV 1 hts kX0_expandAlone_X6_root_239 rfl rfl rfl (by decide +kernel) ⟨Nat.le_of_ble_eq_true rfl, Nat.le_of_ble_eq_true rfl⟩) (va_recv hK hP (ci := 6) (q0 := 6) rfl rfl) hK hNW hP hD hS hA rfl rfl hl.1 (lv_room (Nat.le_of_ble_eq_true rfl)) dX0_expandAlone_112 hcs (fun r_50 hw_51 H locs hP hD hS => ?_)
            have i_52 := i32r r_50
            refine ccp_vV (As := [.ref (a 6), .int (oI r_50.toInt)]) (rest := []) (gF := fun F9 => rg 25 26 F F9) (gX := fun X9 => rg 25 25 X X9) ⟨hx, hb, hml, hown, hts⟩ (c_addSymbolT l dC dI cB cC cI cJ cZ a F X J R gf gn r_50.toInt  (i32r _) (show 0 ≤ (F 25).toInt ∧ (F 25).toInt ≤ 2000000000 from by first | assumption | omega) (show (F 25).toInt ≤ 1800000000 from by first | assumption | omega) H.size) (cwV 2 hts kX0_expandAlone_X10_addSymbol_212 rfl rfl rfl (by decide +kernel) ⟨Nat.le_of_ble_eq_true rfl, Nat.le_of_ble_eq_true rfl⟩) (va_recv hK hP (ci := 10) (q0 := 10) rfl rfl) hK hNW hP hD hS hA rfl rfl hl.1 (lv_room (Nat.le_of_ble_eq_true rfl)) dX0_expandAlone_115 hcs (fun F_53 X_54 hw_55 H locs hP hD hS => ?_)
            replace hw_55 : (F 25).toInt + 0 ≤ (F_53 25).toInt ∧ (F_53 25).toInt ≤ (F 25).toInt + 17 := hw_55
            have hto := hw_55
            clear hw_55
            have eF9 : rg 25 26 (rg 4 4 (rg 1 1 F (rg 25 26 F F_53)) (rg 25 26 F F_53)) (rg 25 26 F F_53) = rg 25 26 F F_53 := by funext k; simp only [rg, va_up]; (repeat' split) <;> first | with_reducible rfl | omega
            have eX9 : rg 25 25 (rg 2 4 X (rg 25 25 X X_54)) (rg 25 25 X X_54) = rg 25 25 X X_54 := by funext k; simp only [rg, va_up]; (repeat' split) <;> first | with_reducible rfl | omega
            have hP9 : va_P (dC, dI) vwCl (CW cB cC cI cJ cZ a (rg 25 26 (rg 4 4 (rg 1 1 F (rg 25 26 F F_53)) (rg 25 26 F F_53)) (rg 25 26 F F_53)) (rg 25 25 (rg 2 4 X (rg 25 25 X X_54)) (rg 25 25 X X_54)) J R gf gn) H := by rw [eF9, eX9]; exact hP
            have hD9 : va_D A (CW cB cC cI cJ cZ a (rg 25 26 (rg 4 4 (rg 1 1 F (rg 25 26 F F_53)) (rg 25 26 F F_53)) (rg 25 26 F F_53)) (rg 25 25 (rg 2 4 X (rg 25 25 X X_54)) (rg 25 25 X X_54)) J R gf gn) := by rw [eF9, eX9]; exact hD
            have hpost : FRM (X 1) (X 2) (X 3) (X 5) (F 1).toInt (F 12).toInt ee ∧ (0 ≤ (F 1).toInt ∧ (F 1).toInt ≤ 101) ∧ VB (X 2) ∧ (F 25).toInt ≤ (F_53 25).toInt ∧ (F_53 25).toInt + 40 * (((PSI (X 2) (X 3) (F 1).toInt.toNat : Nat) : Int) + ((ee - (F 2).toInt).toNat : Int) + 67600 * (100 - (F 6).toInt) + 0) + (F 1).toInt ≤ K := ⟨hfr, hft, hv2, by omega, by omega⟩
            exact W.vret hx hb hr (fun t ht hW => ⟨⟨(rg 25 26 F F_53, rg 25 25 X X_54), rfl, hpost, by rw [ht]; exact hP9, va_K.moved hW.alike hK, hD9⟩, hS.F ht⟩) hS.2.2 dX0_expandAlone_118
          · refine lv_aload_n hx hb dX0_expandAlone_86 rfl (lv_at hl 2 rfl) ?_
            refine cg_0_2 hx hb hts inX0_expandAlone_X0 hown hK hP (hts _ lkX0_expandAlone_f51) dX0_expandAlone_87 ?_
            refine lv_iload_n hx hb dX0_expandAlone_90 rfl (lv_at hl 0 rfl) ?_
            refine lv_iconst (v := oI 2) hx hb dX0_expandAlone_91 (by decide) ?_
            refine lv_ishr hx hb dX0_expandAlone_92 ?_
            refine lv_topi (fun v_56 ev_56 => ?_)
            refine tp_i (oI_toInt v_56).symm ?_
            have i_57 := i32r v_56
            refine ccp_vV (As := [.int (oI v_56.toInt)]) (rest := []) (gF := fun F9 => rg 25 26 F F9) (gX := fun X9 => rg 25 25 X X9) ⟨hx, hb, hml, hown, hts⟩ (c_addVariableT l dC dI cB cC cI cJ cZ a F X J R gf gn v_56.toInt  (i32r _) (show 0 ≤ (F 25).toInt ∧ (F 25).toInt ≤ 2000000000 from by first | assumption | omega) (show (F 25).toInt ≤ 1800000000 from by first | assumption | omega) H.size) (cwV 1 hts kX0_expandAlone_X10_addVariable_236 rfl rfl rfl (by decide +kernel) ⟨Nat.le_of_ble_eq_true rfl, Nat.le_of_ble_eq_true rfl⟩) (va_recv hK hP (ci := 10) (q0 := 10) rfl rfl) hK hNW hP hD hS hA rfl rfl hl.1 (lv_room (Nat.le_of_ble_eq_true rfl)) dX0_expandAlone_93 hcs (fun F_58 X_59 hw_60 H locs hP hD hS => ?_)
            replace hw_60 : (F 25).toInt + 1 ≤ (F_58 25).toInt ∧ (F_58 25).toInt ≤ (F 25).toInt + 12 := hw_60
            have hto := hw_60
            clear hw_60
            refine lv_goto (tgt := 118) hx hb dX0_expandAlone_96 (by decide) ?_
            have eF9 : rg 25 26 (rg 4 4 (rg 1 1 F (rg 25 26 F F_58)) (rg 25 26 F F_58)) (rg 25 26 F F_58) = rg 25 26 F F_58 := by funext k; simp only [rg, va_up]; (repeat' split) <;> first | with_reducible rfl | omega
            have eX9 : rg 25 25 (rg 2 4 X (rg 25 25 X X_59)) (rg 25 25 X X_59) = rg 25 25 X X_59 := by funext k; simp only [rg, va_up]; (repeat' split) <;> first | with_reducible rfl | omega
            have hP9 : va_P (dC, dI) vwCl (CW cB cC cI cJ cZ a (rg 25 26 (rg 4 4 (rg 1 1 F (rg 25 26 F F_58)) (rg 25 26 F F_58)) (rg 25 26 F F_58)) (rg 25 25 (rg 2 4 X (rg 25 25 X X_59)) (rg 25 25 X X_59)) J R gf gn) H := by rw [eF9, eX9]; exact hP
            have hD9 : va_D A (CW cB cC cI cJ cZ a (rg 25 26 (rg 4 4 (rg 1 1 F (rg 25 26 F F_58)) (rg 25 26 F F_58)) (rg 25 26 F F_58)) (rg 25 25 (rg 2 4 X (rg 25 25 X X_59)) (rg 25 25 X X_59)) J R gf gn) := by rw [eF9, eX9]; exact hD
            have hpost : FRM (X 1) (X 2) (X 3) (X 5) (F 1).toInt (F 12).toInt ee ∧ (0 ≤ (F 1).toInt ∧ (F 1).toInt ≤ 101) ∧ VB (X 2) ∧ (F 25).toInt ≤ (F_58 25).toInt ∧ (F_58 25).toInt + 40 * (((PSI (X 2) (X 3) (F 1).toInt.toNat : Nat) : Int) + ((ee - (F 2).toInt).toNat : Int) + 67600 * (100 - (F 6).toInt) + 0) + (F 1).toInt ≤ K := ⟨hfr, hft, hv2, by omega, by omega⟩
            exact W.vret hx hb hr (fun t ht hW => ⟨⟨(rg 25 26 F F_58, rg 25 25 X X_59), rfl, hpost, by rw [ht]; exact hP9, va_K.moved hW.alike hK, hD9⟩, hS.F ht⟩) hS.2.2 dX0_expandAlone_118
        · refine lv_aload_n hx hb dX0_expandAlone_71 rfl (lv_at hl 2 rfl) ?_
          refine lv_iconst (v := oI 4) hx hb dX0_expandAlone_72 (by decide) ?_
          refine cp_0_10 hx hb hts inX0_expandAlone_X0 hown hK hP hD hS (hts _ lkX0_expandAlone_f25) dX0_expandAlone_73 (fun H locs hP hD hS => ?_)
          have hP : va_P (dC, dI) vwCl (CW cB cC cI cJ cZ a (va_up F 4 (oI 4)) X J R gf gn) H := hP
          have hD : va_D A (CW cB cC cI cJ cZ a (va_up F 4 (oI 4)) X J R gf gn) := hD
          refine lv_goto (tgt := 118) hx hb dX0_expandAlone_76 (by decide) ?_
          have eF9 : rg 25 26 (rg 4 4 (rg 1 1 F (va_up F 4 (oI 4))) (va_up F 4 (oI 4))) (va_up F 4 (oI 4)) = va_up F 4 (oI 4) := by funext k; simp only [rg, va_up]; (repeat' split) <;> first | with_reducible rfl | omega
          have eX9 : rg 25 25 (rg 2 4 X X) X = X := by funext k; simp only [rg, va_up]; (repeat' split) <;> first | with_reducible rfl | omega
          have hP9 : va_P (dC, dI) vwCl (CW cB cC cI cJ cZ a (rg 25 26 (rg 4 4 (rg 1 1 F (va_up F 4 (oI 4))) (va_up F 4 (oI 4))) (va_up F 4 (oI 4))) (rg 25 25 (rg 2 4 X X) X) J R gf gn) H := by rw [eF9, eX9]; exact hP
          have hD9 : va_D A (CW cB cC cI cJ cZ a (rg 25 26 (rg 4 4 (rg 1 1 F (va_up F 4 (oI 4))) (va_up F 4 (oI 4))) (va_up F 4 (oI 4))) (rg 25 25 (rg 2 4 X X) X) J R gf gn) := by rw [eF9, eX9]; exact hD
          have hpost : FRM (X 1) (X 2) (X 3) (X 5) (F 1).toInt (F 12).toInt ee ∧ (0 ≤ (F 1).toInt ∧ (F 1).toInt ≤ 101) ∧ VB (X 2) ∧ (F 25).toInt ≤ (F 25).toInt ∧ (F 25).toInt + 40 * (((PSI (X 2) (X 3) (F 1).toInt.toNat : Nat) : Int) + ((ee - (F 2).toInt).toNat : Int) + 67600 * (100 - (F 6).toInt) + 0) + (F 1).toInt ≤ K := ⟨hfr, hft, hv2, by omega, by omega⟩
          exact W.vret hx hb hr (fun t ht hW => ⟨⟨(va_up F 4 (oI 4), X), rfl, hpost, by rw [ht]; exact hP9, va_K.moved hW.alike hK, hD9⟩, hS.F ht⟩) hS.2.2 dX0_expandAlone_118
    · refine lv_aload_n hx hb dX0_expandAlone_39 rfl (lv_at hl 2 rfl) ?_
      refine cg_0_2 hx hb hts inX0_expandAlone_X0 hown hK hP (hts _ lkX0_expandAlone_f51) dX0_expandAlone_40 ?_
      refine lv_aload_n hx hb dX0_expandAlone_43 rfl (lv_at hl 2 rfl) ?_
      refine cg_0_0 hx hb hts inX0_expandAlone_X0 hown hK hP (hts _ lkX0_expandAlone_f43) dX0_expandAlone_44 ?_
      refine lv_iload_n hx hb dX0_expandAlone_47 rfl (lv_at hl 3 rfl) ?_
      refine ccs_iV (As := [.int (oI x)]) (rest := [.ref (a 10)]) ⟨hx, hb, hml, hown, hts⟩ (c_numberOf l dC dI cB cC cI cJ cZ a F X J R gf gn x  (by omega) (show gf ≤ 67600 from by first | assumption | omega)  H.size) (cwV 1 hts kX0_expandAlone_X1_numberOf_230 rfl rfl rfl (by decide +kernel) ⟨Nat.le_of_ble_eq_true rfl, Nat.le_of_ble_eq_true rfl⟩) (va_recv hK hP (ci := 1) (q0 := 1) rfl rfl) hK hNW hP hD hS hA rfl rfl hl.1 (lv_room (Nat.le_of_ble_eq_true rfl)) dX0_expandAlone_48 hcs (fun r_61 hw_62 H locs hP hD hS => ?_)
      have i_63 := i32r r_61
      refine ccp_vV (As := [.int (oI r_61.toInt)]) (rest := []) (gF := fun F9 => rg 25 26 F F9) (gX := fun X9 => rg 25 25 X X9) ⟨hx, hb, hml, hown, hts⟩ (c_addNumberT l dC dI cB cC cI cJ cZ a F X J R gf gn r_61.toInt  (i32r _) (show 0 ≤ (F 25).toInt ∧ (F 25).toInt ≤ 2000000000 from by first | assumption | omega) (show (F 25).toInt ≤ 1800000000 from by first | assumption | omega) H.size) (cwV 1 hts kX0_expandAlone_X10_addNumber_233 rfl rfl rfl (by decide +kernel) ⟨Nat.le_of_ble_eq_true rfl, Nat.le_of_ble_eq_true rfl⟩) (va_recv hK hP (ci := 10) (q0 := 10) rfl rfl) hK hNW hP hD hS hA rfl rfl hl.1 (lv_room (Nat.le_of_ble_eq_true rfl)) dX0_expandAlone_51 hcs (fun F_64 X_65 hw_66 H locs hP hD hS => ?_)
      replace hw_66 : (F 25).toInt + 0 ≤ (F_64 25).toInt ∧ (F_64 25).toInt ≤ (F 25).toInt + 11 := hw_66
      have hto := hw_66
      clear hw_66
      refine lv_goto (tgt := 118) hx hb dX0_expandAlone_54 (by decide) ?_
      have eF9 : rg 25 26 (rg 4 4 (rg 1 1 F (rg 25 26 F F_64)) (rg 25 26 F F_64)) (rg 25 26 F F_64) = rg 25 26 F F_64 := by funext k; simp only [rg, va_up]; (repeat' split) <;> first | with_reducible rfl | omega
      have eX9 : rg 25 25 (rg 2 4 X (rg 25 25 X X_65)) (rg 25 25 X X_65) = rg 25 25 X X_65 := by funext k; simp only [rg, va_up]; (repeat' split) <;> first | with_reducible rfl | omega
      have hP9 : va_P (dC, dI) vwCl (CW cB cC cI cJ cZ a (rg 25 26 (rg 4 4 (rg 1 1 F (rg 25 26 F F_64)) (rg 25 26 F F_64)) (rg 25 26 F F_64)) (rg 25 25 (rg 2 4 X (rg 25 25 X X_65)) (rg 25 25 X X_65)) J R gf gn) H := by rw [eF9, eX9]; exact hP
      have hD9 : va_D A (CW cB cC cI cJ cZ a (rg 25 26 (rg 4 4 (rg 1 1 F (rg 25 26 F F_64)) (rg 25 26 F F_64)) (rg 25 26 F F_64)) (rg 25 25 (rg 2 4 X (rg 25 25 X X_65)) (rg 25 25 X X_65)) J R gf gn) := by rw [eF9, eX9]; exact hD
      have hpost : FRM (X 1) (X 2) (X 3) (X 5) (F 1).toInt (F 12).toInt ee ∧ (0 ≤ (F 1).toInt ∧ (F 1).toInt ≤ 101) ∧ VB (X 2) ∧ (F 25).toInt ≤ (F_64 25).toInt ∧ (F_64 25).toInt + 40 * (((PSI (X 2) (X 3) (F 1).toInt.toNat : Nat) : Int) + ((ee - (F 2).toInt).toNat : Int) + 67600 * (100 - (F 6).toInt) + 0) + (F 1).toInt ≤ K := ⟨hfr, hft, hv2, by omega, by omega⟩
      exact W.vret hx hb hr (fun t ht hW => ⟨⟨(rg 25 26 F F_64, rg 25 25 X X_65), rfl, hpost, by rw [ht]; exact hP9, va_K.moved hW.alike hK, hD9⟩, hS.F ht⟩) hS.2.2 dX0_expandAlone_118

set_option maxHeartbeats 4000000 in
set_option maxRecDepth 100000 in
/-- X0_expandQuote -/
theorem c_expandQuote (l : Launch) (dC : Nat → ClassId) (dI : Nat → Nat → Nat) (cB cC cI cJ cZ : ClassId) (a : Nat → Nat) (F : Nat → Int32) (X : Nat → Nat → Int32) (J : Nat → Nat → Int64) (R : Nat → Nat) (gf gn : Nat) (x : Int) (D : Int → Nat) (ee K : Int) (ix : (-2147483648 ≤ x ∧ x < 2147483648)) (hgf : gf ≤ 67600) (hgn : gn ≤ 63261) (hnt : 0 ≤ (F 13).toInt ∧ (F 13).toInt ≤ (gn : Int)) (hft : 0 ≤ (F 1).toInt ∧ (F 1).toInt ≤ 101) (hv2 : VB (X 2)) (hx2 : 4000 ≤ x ∧ AF (X 1) gf x ≤ (F 12).toInt) (hfi : FI (X 1) D gf (F 0).toInt (F 12).toInt) (hfr : FRM (X 1) (X 2) (X 3) (X 5) (F 1).toInt (F 12).toInt ee) (hpn : PND (X 1) (X 3) (X 5) (F 1).toInt (F 12).toInt ee) (hpo : 0 ≤ (F 25).toInt ∧ 0 ≤ (F 6).toInt ∧ (F 6).toInt ≤ 100 ∧ K ≤ 1700000000 ∧ (F 25).toInt + 40 * (((PSI (X 2) (X 3) (F 1).toInt.toNat : Nat) : Int) + ((ee - (F 2).toInt).toNat : Int) + 67600 * (100 - (F 6).toInt) + (AF (X 1) gf x - x)) + (F 1).toInt ≤ K) (s0 : Nat) : Met l yX0_expandQuote vX0_expandQuote { frames := 67, cells := 0, slots := 0, locals := 2009 } (va_Pc [.ref (a 0), .int (oI x)] (cPre dC dI cB cC cI cJ cZ a F X J R gf gn s0)) (va_Qv (fun (u : (Nat → Int32) × (Nat → Nat → Int32)) => match u with | (F1, X1) => FRM (X 1) (X1 2) (X1 3) (X 5) (F1 1).toInt (F 12).toInt ee ∧ (0 ≤ (F1 1).toInt ∧ (F1 1).toInt ≤ 101) ∧ VB (X1 2) ∧ (F 25).toInt ≤ (F1 25).toInt ∧ (F1 25).toInt + 40 * (((PSI (X1 2) (X1 3) (F1 1).toInt.toNat : Nat) : Int) + ((ee - (F 2).toInt).toNat : Int) + 67600 * (100 - (F 6).toInt) + 0) + (F1 1).toInt ≤ K) (fun u => cPost dC dI cB cC cI cJ cZ a (rg 25 26 (rg 4 4 (rg 1 1 F u.1) u.1) u.1) (rg 25 25 (rg 2 4 X u.2) u.2) J R gf gn (va_A (CW cB cC cI cJ cZ a F X J R gf gn) s0)) (va_A (CW cB cC cI cJ cZ a F X J R gf gn) s0)) 0 0 (va_A (CW cB cC cI cJ cZ a F X J R gf gn) s0) := by
  refine Met.ofW (cc := cX0_expandQuote) (maxL := 2) (ret := none) (by decide) rfl ?_
  intro p e s m args below meth c s₁ B9 hml hv
  obtain ⟨rfl, hsz0, hP, hK, hD0, hNW⟩ := hv
  have hx := B9.exec
  have hb := B9.bytes
  have hr := B9.returns
  have hts := atoms_spec (ws := vX0_expandQuote) B9.pre
  have hown : s.vm.findClass RX0 = some m.cls := findClass_of_methodNamed B9.named
  have hlocks := B9.notSynchronized
  clear B9
  subst hsz0
  have hD := hD0.self (sz := s.heap.size)
  generalize hAe : va_A (CW cB cC cI cJ cZ a F X J R gf gn) s.heap.size = A at hD ⊢
  have hA : ∀ q : Nat, s.heap.size ≤ q → A q := fun q h => by rw [← hAe]; exact Or.inr h
  have hS : va_S A s.heap s.heap [] := va_S.rf
  have hcs : 0 + 0 ≤ (0 : Nat) ∧ 0 + 0 ≤ (0 : Nat) := ⟨Nat.le_refl 0, Nat.le_refl 0⟩
  have hl := lv_entry ([.ref (a 0), .int (oI x)]) (n := 2) (Nat.le_of_ble_eq_true rfl)
  rw [lg_entry_eq]
  generalize (lg_sl ([.ref (a 0), .int (oI x)]) ++ List.replicate (2 - (lg_sl ([.ref (a 0), .int (oI x)])).length) Slot.unset).toArray = ls at hl ⊢
  have hl : lv_has ls 2 [(0, .ref (a 0)), (1, .int (oI x))] := hl
  have hsp := FI_sp hfi
  have hne := FI_ns hfi
  have hbb := FI_b hfi
  have eb := AF_b hsp gf x
  refine lv_aload_n hx hb dX0_expandQuote_0 rfl (lv_at hl 0 rfl) ?_
  refine cg_0_0 hx hb hts inX0_expandQuote_X0 hown hK hP (hts _ lkX0_expandQuote_f43) dX0_expandQuote_1 ?_
  refine lv_iload_n hx hb dX0_expandQuote_4 rfl (lv_at hl 1 rfl) ?_
  refine ccs_iV (As := [.int (oI x)]) (rest := []) ⟨hx, hb, hml, hown, hts⟩ (c_parts l dC dI cB cC cI cJ cZ a F X J R gf gn x  (by omega) (show gf ≤ 67600 from by first | assumption | omega) (show SPR (X 1) from by first | assumption | omega)  s.heap.size) (cwV 1 hts kX0_expandQuote_X1_parts_203 rfl rfl rfl (by decide +kernel) ⟨Nat.le_of_ble_eq_true rfl, Nat.le_of_ble_eq_true rfl⟩) (va_recv hK hP (ci := 1) (q0 := 1) rfl rfl) hK hNW hP hD hS hA rfl rfl hl.1 (lv_room (Nat.le_of_ble_eq_true rfl)) dX0_expandQuote_5 hcs (fun r_1 hw_2 H locs hP hD hS => ?_)
  replace hw_2 : 0 ≤ (r_1).toInt ∧ (r_1).toInt ≤ 67600 ∧ (1 ≤ (r_1).toInt → x + 1 < AF (X 1) gf x ∧ 0 ≤ x ∧ x < (gf : Int)) ∧ (2 ≤ (r_1).toInt → AF (X 1) gf (x + 1) < AF (X 1) gf x) ∧ (3 ≤ (r_1).toInt → AF (X 1) gf (AF (X 1) gf (x + 1)) < AF (X 1) gf x) := hw_2
  have hpa := hw_2
  clear hw_2
  have i_3 := i32r r_1
  have hp2 : r_1.toInt = 2 → AF (X 1) gf (x + 1) < AF (X 1) gf x := fun h => hpa.2.2.2.1 (by omega)
  clear hpa
  refine lv_iconst (v := oI 2) hx hb dX0_expandQuote_8 (by decide) ?_
  refine ci_eq (tgt := 18) hx hb (i32r _) (by decide) dX0_expandQuote_9 (by decide) (fun c_4 => ?_) (fun c_4 => ?_)
  · refine lv_aload_n hx hb dX0_expandQuote_18 rfl (lv_at hl 0 rfl) ?_
    refine cg_0_2 hx hb hts inX0_expandQuote_X0 hown hK hP (hts _ lkX0_expandQuote_f51) dX0_expandQuote_19 ?_
    refine ccp_vV (As := []) (rest := []) (gF := fun F9 => rg 25 26 F F9) (gX := fun X9 => rg 25 25 X X9) ⟨hx, hb, hml, hown, hts⟩ (c_open l dC dI cB cC cI cJ cZ a F X J R gf gn    (show 0 ≤ (F 25).toInt ∧ (F 25).toInt ≤ 2000000000 from by first | assumption | omega) (show (F 25).toInt ≤ 1900000000 from by first | assumption | omega) H.size) (cwV 0 hts kX0_expandQuote_X10_open_209 rfl rfl rfl (by decide +kernel) ⟨Nat.le_of_ble_eq_true rfl, Nat.le_of_ble_eq_true rfl⟩) (va_recv hK hP (ci := 10) (q0 := 10) rfl rfl) hK hNW hP hD hS hA rfl rfl hl.1 (lv_room (Nat.le_of_ble_eq_true rfl)) dX0_expandQuote_22 hcs (fun F_5 X_6 hw_7 H locs hP hD hS => ?_)
    replace hw_7 : (F 25).toInt + 1 ≤ (F_5 25).toInt ∧ (F_5 25).toInt ≤ (F 25).toInt + 2 := hw_7
    have hto := hw_7
    clear hw_7
    refine lv_aload_n hx hb dX0_expandQuote_25 rfl (lv_at hl 0 rfl) ?_
    refine cg_0_2 hx hb hts inX0_expandQuote_X0 hown hK hP (hts _ lkX0_expandQuote_f51) dX0_expandQuote_26 ?_
    refine lv_aload_n hx hb dX0_expandQuote_29 rfl (lv_at hl 0 rfl) ?_
    refine cg_0_1 hx hb hts inX0_expandQuote_X0 hown hK hP (hts _ lkX0_expandQuote_f47) dX0_expandQuote_30 ?_
    refine lv_iconst (v := oI 2) hx hb dX0_expandQuote_33 (by decide) ?_
    refine ccp_vV (As := [.ref (a 6), .int (oI 2)]) (rest := []) (gF := fun F9 => rg 25 26 (rg 25 26 F F_5) F9) (gX := fun X9 => rg 25 25 (rg 25 25 X X_6) X9) ⟨hx, hb, hml, hown, hts⟩ (c_addSymbolT l dC dI cB cC cI cJ cZ a (rg 25 26 F F_5) (rg 25 25 X X_6) J R gf gn 2  (by decide) (show 0 ≤ (F_5 25).toInt ∧ (F_5 25).toInt ≤ 2000000000 from by first | assumption | omega) (show (F_5 25).toInt ≤ 1800000000 from by first | assumption | omega) H.size) (cwV 2 hts kX0_expandQuote_X10_addSymbol_212 rfl rfl rfl (by decide +kernel) ⟨Nat.le_of_ble_eq_true rfl, Nat.le_of_ble_eq_true rfl⟩) (va_recv hK hP (ci := 10) (q0 := 10) rfl rfl) hK hNW hP hD hS hA rfl rfl hl.1 (lv_room (Nat.le_of_ble_eq_true rfl)) dX0_expandQuote_34 hcs (fun F_8 X_9 hw_10 H locs hP hD hS => ?_)
    replace hw_10 : (F_5 25).toInt + 0 ≤ (F_8 25).toInt ∧ (F_8 25).toInt ≤ (F_5 25).toInt + 17 := hw_10
    have hto := hw_10
    clear hw_10
    refine lv_aload_n hx hb dX0_expandQuote_37 rfl (lv_at hl 0 rfl) ?_
    refine lv_aload_n hx hb dX0_expandQuote_38 rfl (lv_at hl 0 rfl) ?_
    refine cg_0_0 hx hb hts inX0_expandQuote_X0 hown hK hP (hts _ lkX0_expandQuote_f43) dX0_expandQuote_39 ?_
    refine lv_iload_n hx hb dX0_expandQuote_42 rfl (lv_at hl 1 rfl) ?_
    refine lv_iconst (v := oI 1) hx hb dX0_expandQuote_43 (by decide) ?_
    refine ccs_iV (As := [.int (oI x), .int (oI 1)]) (rest := [.ref (a 0)]) ⟨hx, hb, hml, hown, hts⟩ (c_part1 l dC dI cB cC cI cJ cZ a (rg 25 26 (rg 25 26 F F_5) F_8) (rg 25 25 (rg 25 25 X X_6) X_9) J R gf gn x  (by omega) (show gf ≤ 67600 from by first | assumption | omega) (show SPR (X 1) from by first | assumption | omega) (show x < 1073741824 from by first | assumption | omega) H.size) (cwV 2 hts kX0_expandQuote_X1_part_196 rfl rfl rfl (by decide +kernel) ⟨Nat.le_of_ble_eq_true rfl, Nat.le_of_ble_eq_true rfl⟩) (va_recv hK hP (ci := 1) (q0 := 1) rfl rfl) hK hNW hP hD hS hA rfl rfl hl.1 (lv_room (Nat.le_of_ble_eq_true rfl)) dX0_expandQuote_44 hcs (fun r_11 hw_12 H locs hP hD hS => ?_)
    replace hw_12 : (r_11).toInt = AF (X 1) gf (x + 1) ∧ x + 1 < (r_11).toInt ∧ (r_11).toInt ≤ x + 67601 := hw_12
    obtain ⟨ep1, lp1, up1⟩ := hw_12
    have i_13 := i32r r_11
    have hn1 := hne.1 (r_11.toInt)
    have nq := NST_af hne (p := x) (q := r_11.toInt) (by omega) (by omega)
    have bq := AF_b hsp gf (r_11.toInt)
    refine ccp_vV (As := [.int (oI r_11.toInt)]) (rest := []) (gF := fun F9 => rg 25 26 (rg 25 26 (rg 25 26 F F_5) F_8) F9) (gX := fun X9 => rg 25 25 (rg 25 25 (rg 25 25 X X_6) X_9) X9) ⟨hx, hb, hml, hown, hts⟩ (c_tellRoots l dC dI cB cC cI cJ cZ a (rg 25 26 (rg 25 26 F F_5) F_8) (rg 25 25 (rg 25 25 X X_6) X_9) J R gf gn r_11.toInt 62 D (i32r _) (show gf ≤ 67600 from by first | assumption | omega) (show gn ≤ 63261 from by first | assumption | omega) (show SPR (X 1) from by first | assumption | omega) (show 0 ≤ (F 13).toInt ∧ (F 13).toInt ≤ (gn : Int) from by first | assumption | omega) (show r_11.toInt < 1073741824 from by first | assumption | omega) (show 0 ≤ (F_8 25).toInt ∧ (F_8 25).toInt + 20 * (AF (X 1) gf r_11.toInt - r_11.toInt) ≤ 1750000000 from by first | assumption | omega) (show D r_11.toInt < 62 from by first | assumption | omega) (show NST (X 1) D gf from by assumption) H.size) (cwV 1 hts kX0_expandQuote_X0_tellRoots_270 rfl rfl rfl (by decide +kernel) ⟨show (62 + 4) + 1 ≤ 67 from by omega, show 8 + (3 + 11) + (30 * 62 + 127) ≤ 2009 from by omega⟩) (va_recv hK hP (ci := 0) (q0 := 0) rfl rfl) hK hNW hP hD hS hA rfl rfl hl.1 (lv_room (Nat.le_of_ble_eq_true rfl)) dX0_expandQuote_47 hcs (fun F_14 X_15 hw_16 H locs hP hD hS => ?_)
    replace hw_16 : (F_8 25).toInt ≤ (F_14 25).toInt ∧ (F_14 25).toInt ≤ (F_8 25).toInt + 20 * (AF (X 1) gf r_11.toInt - r_11.toInt) := hw_16
    obtain ⟨ht1, ht2⟩ := hw_16
    refine lv_aload_n hx hb dX0_expandQuote_50 rfl (lv_at hl 0 rfl) ?_
    refine cg_0_2 hx hb hts inX0_expandQuote_X0 hown hK hP (hts _ lkX0_expandQuote_f51) dX0_expandQuote_51 ?_
    refine ccp_vV (As := []) (rest := []) (gF := fun F9 => rg 25 26 (rg 25 26 (rg 25 26 (rg 25 26 F F_5) F_8) F_14) F9) (gX := fun X9 => rg 25 25 (rg 25 25 (rg 25 25 (rg 25 25 X X_6) X_9) X_15) X9) ⟨hx, hb, hml, hown, hts⟩ (c_close l dC dI cB cC cI cJ cZ a (rg 25 26 (rg 25 26 (rg 25 26 F F_5) F_8) F_14) (rg 25 25 (rg 25 25 (rg 25 25 X X_6) X_9) X_15) J R gf gn    (show 0 ≤ (F_14 25).toInt ∧ (F_14 25).toInt ≤ 2000000000 from by first | assumption | omega)  H.size) (cwV 0 hts kX0_expandQuote_X10_close_158 rfl rfl rfl (by decide +kernel) ⟨Nat.le_of_ble_eq_true rfl, Nat.le_of_ble_eq_true rfl⟩) (va_recv hK hP (ci := 10) (q0 := 10) rfl rfl) hK hNW hP hD hS hA rfl rfl hl.1 (lv_room (Nat.le_of_ble_eq_true rfl)) dX0_expandQuote_54 hcs (fun F_17 X_18 hw_19 H locs hP hD hS => ?_)
    replace hw_19 : (F_14 25).toInt + 1 ≤ (F_17 25).toInt ∧ (F_17 25).toInt ≤ (F_14 25).toInt + 1 := hw_19
    have hto := hw_19
    clear hw_19
    have eF9 : rg 25 26 (rg 4 4 (rg 1 1 F (rg 25 26 (rg 25 26 (rg 25 26 (rg 25 26 F F_5) F_8) F_14) F_17)) (rg 25 26 (rg 25 26 (rg 25 26 (rg 25 26 F F_5) F_8) F_14) F_17)) (rg 25 26 (rg 25 26 (rg 25 26 (rg 25 26 F F_5) F_8) F_14) F_17) = rg 25 26 (rg 25 26 (rg 25 26 (rg 25 26 F F_5) F_8) F_14) F_17 := by funext k; simp only [rg, va_up]; (repeat' split) <;> first | with_reducible rfl | omega
    have eX9 : rg 25 25 (rg 2 4 X (rg 25 25 (rg 25 25 (rg 25 25 (rg 25 25 X X_6) X_9) X_15) X_18)) (rg 25 25 (rg 25 25 (rg 25 25 (rg 25 25 X X_6) X_9) X_15) X_18) = rg 25 25 (rg 25 25 (rg 25 25 (rg 25 25 X X_6) X_9) X_15) X_18 := by funext k; simp only [rg, va_up]; (repeat' split) <;> first | with_reducible rfl | omega
    have hP9 : va_P (dC, dI) vwCl (CW cB cC cI cJ cZ a (rg 25 26 (rg 4 4 (rg 1 1 F (rg 25 26 (rg 25 26 (rg 25 26 (rg 25 26 F F_5) F_8) F_14) F_17)) (rg 25 26 (rg 25 26 (rg 25 26 (rg 25 26 F F_5) F_8) F_14) F_17)) (rg 25 26 (rg 25 26 (rg 25 26 (rg 25 26 F F_5) F_8) F_14) F_17)) (rg 25 25 (rg 2 4 X (rg 25 25 (rg 25 25 (rg 25 25 (rg 25 25 X X_6) X_9) X_15) X_18)) (rg 25 25 (rg 25 25 (rg 25 25 (rg 25 25 X X_6) X_9) X_15) X_18)) J R gf gn) H := by rw [eF9, eX9]; exact hP
    have hD9 : va_D A (CW cB cC cI cJ cZ a (rg 25 26 (rg 4 4 (rg 1 1 F (rg 25 26 (rg 25 26 (rg 25 26 (rg 25 26 F F_5) F_8) F_14) F_17)) (rg 25 26 (rg 25 26 (rg 25 26 (rg 25 26 F F_5) F_8) F_14) F_17)) (rg 25 26 (rg 25 26 (rg 25 26 (rg 25 26 F F_5) F_8) F_14) F_17)) (rg 25 25 (rg 2 4 X (rg 25 25 (rg 25 25 (rg 25 25 (rg 25 25 X X_6) X_9) X_15) X_18)) (rg 25 25 (rg 25 25 (rg 25 25 (rg 25 25 X X_6) X_9) X_15) X_18)) J R gf gn) := by rw [eF9, eX9]; exact hD
    have hpost : FRM (X 1) (X 2) (X 3) (X 5) (F 1).toInt (F 12).toInt ee ∧ (0 ≤ (F 1).toInt ∧ (F 1).toInt ≤ 101) ∧ VB (X 2) ∧ (F 25).toInt ≤ (F_17 25).toInt ∧ (F_17 25).toInt + 40 * (((PSI (X 2) (X 3) (F 1).toInt.toNat : Nat) : Int) + ((ee - (F 2).toInt).toNat : Int) + 67600 * (100 - (F 6).toInt) + 0) + (F 1).toInt ≤ K := ⟨hfr, hft, hv2, by omega, by omega⟩
    exact W.vret hx hb hr (fun t ht hW => ⟨⟨(rg 25 26 (rg 25 26 (rg 25 26 (rg 25 26 F F_5) F_8) F_14) F_17, rg 25 25 (rg 25 25 (rg 25 25 (rg 25 25 X X_6) X_9) X_15) X_18), rfl, hpost, by rw [ht]; exact hP9, va_K.moved hW.alike hK, hD9⟩, hS.F ht⟩) hS.2.2 dX0_expandQuote_57
  · refine lv_aload_n hx hb dX0_expandQuote_12 rfl (lv_at hl 0 rfl) ?_
    refine lv_iconst (v := oI 3) hx hb dX0_expandQuote_13 (by decide) ?_
    refine cp_0_10 hx hb hts inX0_expandQuote_X0 hown hK hP hD hS (hts _ lkX0_expandQuote_f25) dX0_expandQuote_14 (fun H locs hP hD hS => ?_)
    have hP : va_P (dC, dI) vwCl (CW cB cC cI cJ cZ a (va_up F 4 (oI 3)) X J R gf gn) H := hP
    have hD : va_D A (CW cB cC cI cJ cZ a (va_up F 4 (oI 3)) X J R gf gn) := hD
    have eF9 : rg 25 26 (rg 4 4 (rg 1 1 F (va_up F 4 (oI 3))) (va_up F 4 (oI 3))) (va_up F 4 (oI 3)) = va_up F 4 (oI 3) := by funext k; simp only [rg, va_up]; (repeat' split) <;> first | with_reducible rfl | omega
    have eX9 : rg 25 25 (rg 2 4 X X) X = X := by funext k; simp only [rg, va_up]; (repeat' split) <;> first | with_reducible rfl | omega
    have hP9 : va_P (dC, dI) vwCl (CW cB cC cI cJ cZ a (rg 25 26 (rg 4 4 (rg 1 1 F (va_up F 4 (oI 3))) (va_up F 4 (oI 3))) (va_up F 4 (oI 3))) (rg 25 25 (rg 2 4 X X) X) J R gf gn) H := by rw [eF9, eX9]; exact hP
    have hD9 : va_D A (CW cB cC cI cJ cZ a (rg 25 26 (rg 4 4 (rg 1 1 F (va_up F 4 (oI 3))) (va_up F 4 (oI 3))) (va_up F 4 (oI 3))) (rg 25 25 (rg 2 4 X X) X) J R gf gn) := by rw [eF9, eX9]; exact hD
    have hpost : FRM (X 1) (X 2) (X 3) (X 5) (F 1).toInt (F 12).toInt ee ∧ (0 ≤ (F 1).toInt ∧ (F 1).toInt ≤ 101) ∧ VB (X 2) ∧ (F 25).toInt ≤ (F 25).toInt ∧ (F 25).toInt + 40 * (((PSI (X 2) (X 3) (F 1).toInt.toNat : Nat) : Int) + ((ee - (F 2).toInt).toNat : Int) + 67600 * (100 - (F 6).toInt) + 0) + (F 1).toInt ≤ K := ⟨hfr, hft, hv2, by omega, by omega⟩
    exact W.vret hx hb hr (fun t ht hW => ⟨⟨(va_up F 4 (oI 3), X), rfl, hpost, by rw [ht]; exact hP9, va_K.moved hW.alike hK, hD9⟩, hS.F ht⟩) hS.2.2 dX0_expandQuote_17

set_option maxHeartbeats 4000000 in
set_option maxRecDepth 100000 in
/-- X0_define -/
theorem c_define (l : Launch) (dC : Nat → ClassId) (dI : Nat → Nat → Nat) (cB cC cI cJ cZ : ClassId) (a : Nat → Nat) (F : Nat → Int32) (X : Nat → Nat → Int32) (J : Nat → Nat → Int64) (R : Nat → Nat) (gf gn : Nat) (x : Int) (D : Int → Nat) (ee K : Int) (ix : (-2147483648 ≤ x ∧ x < 2147483648)) (hgf : gf ≤ 67600) (hgn : gn ≤ 63261) (hnt : 0 ≤ (F 13).toInt ∧ (F 13).toInt ≤ (gn : Int)) (hft : 0 ≤ (F 1).toInt ∧ (F 1).toInt ≤ 101) (hv2 : VB (X 2)) (hx2 : 4000 ≤ x ∧ AF (X 1) gf x ≤ (F 12).toInt) (hfi : FI (X 1) D gf (F 0).toInt (F 12).toInt) (hfr : FRM (X 1) (X 2) (X 3) (X 5) (F 1).toInt (F 12).toInt ee) (hpn : PND (X 1) (X 3) (X 5) (F 1).toInt (F 12).toInt ee) (hpo : 0 ≤ (F 25).toInt ∧ 0 ≤ (F 6).toInt ∧ (F 6).toInt ≤ 100 ∧ K ≤ 1700000000 ∧ (F 25).toInt + 40 * (((PSI (X 2) (X 3) (F 1).toInt.toNat : Nat) : Int) + ((ee - (F 2).toInt).toNat : Int) + 67600 * (100 - (F 6).toInt) + (AF (X 1) gf x - x)) + (F 1).toInt ≤ K) (s0 : Nat) : Met l yX0_define vX0_define { frames := 4, cells := 0, slots := 0, locals := 127 } (va_Pc [.ref (a 0), .int (oI x)] (cPre dC dI cB cC cI cJ cZ a F X J R gf gn s0)) (va_Qv (fun (u : (Nat → Int32) × (Nat → Nat → Int32)) => match u with | (F1, X1) => FRM (X 1) (X1 2) (X1 3) (X 5) (F1 1).toInt (F 12).toInt ee ∧ (0 ≤ (F1 1).toInt ∧ (F1 1).toInt ≤ 101) ∧ VB (X1 2) ∧ (F 25).toInt ≤ (F1 25).toInt ∧ (F1 25).toInt + 40 * (((PSI (X1 2) (X1 3) (F1 1).toInt.toNat : Nat) : Int) + ((ee - (F 2).toInt).toNat : Int) + 67600 * (100 - (F 6).toInt) + 0) + (F1 1).toInt ≤ K) (fun u => cPost dC dI cB cC cI cJ cZ a (rg 25 26 (rg 3 4 (rg 1 1 F u.1) u.1) u.1) (rg 25 25 (rg 2 4 X u.2) u.2) J R gf gn (va_A (CW cB cC cI cJ cZ a F X J R gf gn) s0)) (va_A (CW cB cC cI cJ cZ a F X J R gf gn) s0)) 0 0 (va_A (CW cB cC cI cJ cZ a F X J R gf gn) s0) := by
  refine Met.ofW (cc := cX0_define) (maxL := 2) (ret := none) (by decide) rfl ?_
  intro p e s m args below meth c s₁ B9 hml hv
  obtain ⟨rfl, hsz0, hP, hK, hD0, hNW⟩ := hv
  have hx := B9.exec
  have hb := B9.bytes
  have hr := B9.returns
  have hts := atoms_spec (ws := vX0_define) B9.pre
  have hown : s.vm.findClass RX0 = some m.cls := findClass_of_methodNamed B9.named
  have hlocks := B9.notSynchronized
  clear B9
  subst hsz0
  have hD := hD0.self (sz := s.heap.size)
  generalize hAe : va_A (CW cB cC cI cJ cZ a F X J R gf gn) s.heap.size = A at hD ⊢
  have hA : ∀ q : Nat, s.heap.size ≤ q → A q := fun q h => by rw [← hAe]; exact Or.inr h
  have hS : va_S A s.heap s.heap [] := va_S.rf
  have hcs : 0 + 0 ≤ (0 : Nat) ∧ 0 + 0 ≤ (0 : Nat) := ⟨Nat.le_refl 0, Nat.le_refl 0⟩
  have hl := lv_entry ([.ref (a 0), .int (oI x)]) (n := 2) (Nat.le_of_ble_eq_true rfl)
  rw [lg_entry_eq]
  generalize (lg_sl ([.ref (a 0), .int (oI x)]) ++ List.replicate (2 - (lg_sl ([.ref (a 0), .int (oI x)])).length) Slot.unset).toArray = ls at hl ⊢
  have hl : lv_has ls 2 [(0, .ref (a 0)), (1, .int (oI x))] := hl
  have hsp := FI_sp hfi
  have hne := FI_ns hfi
  have hbb := FI_b hfi
  have eb := AF_b hsp gf x
  refine lv_aload_n hx hb dX0_define_0 rfl (lv_at hl 0 rfl) ?_
  refine lv_iload_n hx hb dX0_define_1 rfl (lv_at hl 1 rfl) ?_
  refine ccs_iV (As := [.int (oI x)]) (rest := []) ⟨hx, hb, hml, hown, hts⟩ (c_definesSymbol l dC dI cB cC cI cJ cZ a F X J R gf gn x  (by omega) (show gf ≤ 67600 from by first | assumption | omega) (show SPR (X 1) from by first | assumption | omega) (show x < 1073741824 from by first | assumption | omega) s.heap.size) (cwV 1 hts kX0_define_X0_definesSymbol_206 rfl rfl rfl (by decide +kernel) ⟨Nat.le_of_ble_eq_true rfl, Nat.le_of_ble_eq_true rfl⟩) (va_recv hK hP (ci := 0) (q0 := 0) rfl rfl) hK hNW hP hD hS hA rfl rfl hl.1 (lv_room (Nat.le_of_ble_eq_true rfl)) dX0_define_2 hcs (fun r_1 hw_2 H locs hP hD hS => ?_)
  replace hw_2 : (r_1).toInt = 0 ∨ ((r_1).toInt = 1 ∧ AF (X 1) gf (AF (X 1) gf (x + 1)) < AF (X 1) gf x ∧ 0 ≤ x ∧ x < (gf : Int)) := hw_2
  have hds := hw_2
  clear hw_2
  have i_3 := i32r r_1
  refine cz_ne (tgt := 14) hx hb (i32r _) dX0_define_5 (by decide) (fun c_4 => ?_) (fun c_4 => ?_)
  · refine lv_aload_n hx hb dX0_define_14 rfl (lv_at hl 0 rfl) ?_
    refine lv_aload_n hx hb dX0_define_15 rfl (lv_at hl 0 rfl) ?_
    refine cg_0_0 hx hb hts inX0_define_X0 hown hK hP (hts _ lkX0_define_f43) dX0_define_16 ?_
    refine lv_aload_n hx hb dX0_define_19 rfl (lv_at hl 0 rfl) ?_
    refine cg_0_0 hx hb hts inX0_define_X0 hown hK hP (hts _ lkX0_define_f43) dX0_define_20 ?_
    refine lv_iload_n hx hb dX0_define_23 rfl (lv_at hl 1 rfl) ?_
    refine lv_iconst (v := oI 1) hx hb dX0_define_24 (by decide) ?_
    refine ccs_iV (As := [.int (oI x), .int (oI 1)]) (rest := [.ref (a 1), .ref (a 0)]) ⟨hx, hb, hml, hown, hts⟩ (c_part1 l dC dI cB cC cI cJ cZ a F X J R gf gn x  (by omega) (show gf ≤ 67600 from by first | assumption | omega) (show SPR (X 1) from by first | assumption | omega) (show x < 1073741824 from by first | assumption | omega) H.size) (cwV 2 hts kX0_define_X1_part_196 rfl rfl rfl (by decide +kernel) ⟨Nat.le_of_ble_eq_true rfl, Nat.le_of_ble_eq_true rfl⟩) (va_recv hK hP (ci := 1) (q0 := 1) rfl rfl) hK hNW hP hD hS hA rfl rfl hl.1 (lv_room (Nat.le_of_ble_eq_true rfl)) dX0_define_25 hcs (fun r_5 hw_6 H locs hP hD hS => ?_)
    replace hw_6 : (r_5).toInt = AF (X 1) gf (x + 1) ∧ x + 1 < (r_5).toInt ∧ (r_5).toInt ≤ x + 67601 := hw_6
    obtain ⟨ep1, lp1, up1⟩ := hw_6
    have i_7 := i32r r_5
    refine ccs_iV (As := [.int (oI r_5.toInt)]) (rest := [.ref (a 0)]) ⟨hx, hb, hml, hown, hts⟩ (c_nameOf l dC dI cB cC cI cJ cZ a F X J R gf gn r_5.toInt  (i32r _) (show gf ≤ 67600 from by first | assumption | omega)  H.size) (cwV 1 hts kX0_define_X1_nameOf_200 rfl rfl rfl (by decide +kernel) ⟨Nat.le_of_ble_eq_true rfl, Nat.le_of_ble_eq_true rfl⟩) (va_recv hK hP (ci := 1) (q0 := 1) rfl rfl) hK hNW hP hD hS hA rfl rfl hl.1 (lv_room (Nat.le_of_ble_eq_true rfl)) dX0_define_28 hcs (fun r_8 hw_9 H locs hP hD hS => ?_)
    have i_10 := i32r r_8
    refine cp_0_9 hx hb hts inX0_define_X0 hown hK hP hD hS (hts _ lkX0_define_f22) dX0_define_31 (fun H locs hP hD hS => ?_)
    have hP : va_P (dC, dI) vwCl (CW cB cC cI cJ cZ a (va_up F 3 (oI r_8.toInt)) X J R gf gn) H := hP
    have hD : va_D A (CW cB cC cI cJ cZ a (va_up F 3 (oI r_8.toInt)) X J R gf gn) := hD
    refine lv_aload_n hx hb dX0_define_34 rfl (lv_at hl 0 rfl) ?_
    refine cg_0_2 hx hb hts inX0_define_X0 hown hK hP (hts _ lkX0_define_f51) dX0_define_35 ?_
    refine ccp_vV (As := []) (rest := []) (gF := fun F9 => rg 25 26 (va_up F 3 (oI r_8.toInt)) F9) (gX := fun X9 => rg 25 25 X X9) ⟨hx, hb, hml, hown, hts⟩ (c_open l dC dI cB cC cI cJ cZ a (va_up F 3 (oI r_8.toInt)) X J R gf gn    (show 0 ≤ (F 25).toInt ∧ (F 25).toInt ≤ 2000000000 from by first | assumption | omega) (show (F 25).toInt ≤ 1900000000 from by first | assumption | omega) H.size) (cwV 0 hts kX0_define_X10_open_209 rfl rfl rfl (by decide +kernel) ⟨Nat.le_of_ble_eq_true rfl, Nat.le_of_ble_eq_true rfl⟩) (va_recv hK hP (ci := 10) (q0 := 10) rfl rfl) hK hNW hP hD hS hA rfl rfl hl.1 (lv_room (Nat.le_of_ble_eq_true rfl)) dX0_define_38 hcs (fun F_11 X_12 hw_13 H locs hP hD hS => ?_)
    replace hw_13 : (F 25).toInt + 1 ≤ (F_11 25).toInt ∧ (F_11 25).toInt ≤ (F 25).toInt + 2 := hw_13
    have hto := hw_13
    clear hw_13
    refine lv_aload_n hx hb dX0_define_41 rfl (lv_at hl 0 rfl) ?_
    refine cg_0_2 hx hb hts inX0_define_X0 hown hK hP (hts _ lkX0_define_f51) dX0_define_42 ?_
    refine lv_aload_n hx hb dX0_define_45 rfl (lv_at hl 0 rfl) ?_
    refine cg_0_1 hx hb hts inX0_define_X0 hown hK hP (hts _ lkX0_define_f47) dX0_define_46 ?_
    refine lv_iconst (v := oI 5) hx hb dX0_define_49 (by decide) ?_
    refine ccp_vV (As := [.ref (a 6), .int (oI 5)]) (rest := []) (gF := fun F9 => rg 25 26 (rg 25 26 (va_up F 3 (oI r_8.toInt)) F_11) F9) (gX := fun X9 => rg 25 25 (rg 25 25 X X_12) X9) ⟨hx, hb, hml, hown, hts⟩ (c_addSymbolT l dC dI cB cC cI cJ cZ a (rg 25 26 (va_up F 3 (oI r_8.toInt)) F_11) (rg 25 25 X X_12) J R gf gn 5  (by decide) (show 0 ≤ (F_11 25).toInt ∧ (F_11 25).toInt ≤ 2000000000 from by first | assumption | omega) (show (F_11 25).toInt ≤ 1800000000 from by first | assumption | omega) H.size) (cwV 2 hts kX0_define_X10_addSymbol_212 rfl rfl rfl (by decide +kernel) ⟨Nat.le_of_ble_eq_true rfl, Nat.le_of_ble_eq_true rfl⟩) (va_recv hK hP (ci := 10) (q0 := 10) rfl rfl) hK hNW hP hD hS hA rfl rfl hl.1 (lv_room (Nat.le_of_ble_eq_true rfl)) dX0_define_50 hcs (fun F_14 X_15 hw_16 H locs hP hD hS => ?_)
    replace hw_16 : (F_11 25).toInt + 0 ≤ (F_14 25).toInt ∧ (F_14 25).toInt ≤ (F_11 25).toInt + 17 := hw_16
    have hto := hw_16
    clear hw_16
    refine lv_aload_n hx hb dX0_define_53 rfl (lv_at hl 0 rfl) ?_
    refine cg_0_2 hx hb hts inX0_define_X0 hown hK hP (hts _ lkX0_define_f51) dX0_define_54 ?_
    refine lv_aload_n hx hb dX0_define_57 rfl (lv_at hl 0 rfl) ?_
    refine cg_0_1 hx hb hts inX0_define_X0 hown hK hP (hts _ lkX0_define_f47) dX0_define_58 ?_
    refine lv_aload_n hx hb dX0_define_61 rfl (lv_at hl 0 rfl) ?_
    refine cg_0_9 hx hb hts inX0_define_X0 hown hK hP (hts _ lkX0_define_f22) dX0_define_62 ?_
    refine tp_i (y := oI r_8.toInt) (oI_toInt _) ?_
    refine ccp_vV (As := [.ref (a 6), .int (oI r_8.toInt)]) (rest := []) (gF := fun F9 => rg 25 26 (rg 25 26 (rg 25 26 (va_up F 3 (oI r_8.toInt)) F_11) F_14) F9) (gX := fun X9 => rg 25 25 (rg 25 25 (rg 25 25 X X_12) X_15) X9) ⟨hx, hb, hml, hown, hts⟩ (c_addSymbolT l dC dI cB cC cI cJ cZ a (rg 25 26 (rg 25 26 (va_up F 3 (oI r_8.toInt)) F_11) F_14) (rg 25 25 (rg 25 25 X X_12) X_15) J R gf gn r_8.toInt  (i32r _) (show 0 ≤ (F_14 25).toInt ∧ (F_14 25).toInt ≤ 2000000000 from by first | assumption | omega) (show (F_14 25).toInt ≤ 1800000000 from by first | assumption | omega) H.size) (cwV 2 hts kX0_define_X10_addSymbol_212 rfl rfl rfl (by decide +kernel) ⟨Nat.le_of_ble_eq_true rfl, Nat.le_of_ble_eq_true rfl⟩) (va_recv hK hP (ci := 10) (q0 := 10) rfl rfl) hK hNW hP hD hS hA rfl rfl hl.1 (lv_room (Nat.le_of_ble_eq_true rfl)) dX0_define_65 hcs (fun F_17 X_18 hw_19 H locs hP hD hS => ?_)
    replace hw_19 : (F_14 25).toInt + 0 ≤ (F_17 25).toInt ∧ (F_17 25).toInt ≤ (F_14 25).toInt + 17 := hw_19
    have hto := hw_19
    clear hw_19
    refine lv_aload_n hx hb dX0_define_68 rfl (lv_at hl 0 rfl) ?_
    refine cg_0_7 hx hb hts inX0_define_X0 hown hK hP (hts _ lkX0_define_f12) dX0_define_69 ?_
    refine lv_aload_n hx hb dX0_define_72 rfl (lv_at hl 0 rfl) ?_
    refine cg_0_0 hx hb hts inX0_define_X0 hown hK hP (hts _ lkX0_define_f43) dX0_define_73 ?_
    refine lv_iload_n hx hb dX0_define_76 rfl (lv_at hl 1 rfl) ?_
    refine lv_iconst (v := oI 2) hx hb dX0_define_77 (by decide) ?_
    refine ccs_iV (As := [.int (oI x), .int (oI 2)]) (rest := [.ref (a 2)]) ⟨hx, hb, hml, hown, hts⟩ (c_part2 l dC dI cB cC cI cJ cZ a (rg 25 26 (rg 25 26 (rg 25 26 (va_up F 3 (oI r_8.toInt)) F_11) F_14) F_17) (rg 25 25 (rg 25 25 (rg 25 25 X X_12) X_15) X_18) J R gf gn x  (by omega) (show gf ≤ 67600 from by first | assumption | omega) (show SPR (X 1) from by first | assumption | omega) (show x < 1073741824 from by first | assumption | omega) H.size) (cwV 2 hts kX0_define_X1_part_196 rfl rfl rfl (by decide +kernel) ⟨Nat.le_of_ble_eq_true rfl, Nat.le_of_ble_eq_true rfl⟩) (va_recv hK hP (ci := 1) (q0 := 1) rfl rfl) hK hNW hP hD hS hA rfl rfl hl.1 (lv_room (Nat.le_of_ble_eq_true rfl)) dX0_define_78 hcs (fun r_20 hw_21 H locs hP hD hS => ?_)
    replace hw_21 : (r_20).toInt = AF (X 1) gf (AF (X 1) gf (x + 1)) ∧ x + 2 < (r_20).toInt ∧ (r_20).toInt ≤ x + 135201 := hw_21
    obtain ⟨ep2, lp2, up2⟩ := hw_21
    have i_22 := i32r r_20
    refine lv_aload_n hx hb dX0_define_81 rfl (lv_at hl 0 rfl) ?_
    refine cg_0_0 hx hb hts inX0_define_X0 hown hK hP (hts _ lkX0_define_f43) dX0_define_82 ?_
    refine lv_iload_n hx hb dX0_define_85 rfl (lv_at hl 1 rfl) ?_
    refine ccs_iV (As := [.int (oI x)]) (rest := [.int (oI r_20.toInt), .ref (a 2)]) ⟨hx, hb, hml, hown, hts⟩ (c_after l dC dI cB cC cI cJ cZ a (rg 25 26 (rg 25 26 (rg 25 26 (va_up F 3 (oI r_8.toInt)) F_11) F_14) F_17) (rg 25 25 (rg 25 25 (rg 25 25 X X_12) X_15) X_18) J R gf gn x  (by omega) (show gf ≤ 67600 from by first | assumption | omega) (show SPR (X 1) from by first | assumption | omega) (show x < 2147483647 from by first | assumption | omega) H.size) (cwV 1 hts kX0_define_X1_after_177 rfl rfl rfl (by decide +kernel) ⟨Nat.le_of_ble_eq_true rfl, Nat.le_of_ble_eq_true rfl⟩) (va_recv hK hP (ci := 1) (q0 := 1) rfl rfl) hK hNW hP hD hS hA rfl rfl hl.1 (lv_room (Nat.le_of_ble_eq_true rfl)) dX0_define_86 hcs (fun r_23 hw_24 H locs hP hD hS => ?_)
    replace hw_24 : (r_23).toInt = AF (X 1) gf x ∧ x < (r_23).toInt ∧ (r_23).toInt ≤ x + 67600 := hw_24
    obtain ⟨ea, la, ua⟩ := hw_24
    have i_25 := i32r r_23
    refine lv_iconst (v := oI 1) hx hb dX0_define_89 (by decide) ?_
    refine ccp_vV (As := [.int (oI r_20.toInt), .int (oI r_23.toInt), .int (oI 1)]) (rest := []) (gF := fun F9 => rg 1 1 (rg 25 26 (rg 25 26 (rg 25 26 (va_up F 3 (oI r_8.toInt)) F_11) F_14) F_17) F9) (gX := fun X9 => rg 2 4 (rg 25 25 (rg 25 25 (rg 25 25 X X_12) X_15) X_18) X9) ⟨hx, hb, hml, hown, hts⟩ (c_enter l dC dI cB cC cI cJ cZ a (rg 25 26 (rg 25 26 (rg 25 26 (va_up F 3 (oI r_8.toInt)) F_11) F_14) F_17) (rg 25 25 (rg 25 25 (rg 25 25 X X_12) X_15) X_18) J R gf gn r_20.toInt r_23.toInt 1  (i32r _) (i32r _) (by decide) (show 0 ≤ (F 1).toInt ∧ (F 1).toInt ≤ 101 from by first | assumption | omega)  H.size) (cwV 3 hts kX0_define_X2_enter_216 rfl rfl rfl (by decide +kernel) ⟨Nat.le_of_ble_eq_true rfl, Nat.le_of_ble_eq_true rfl⟩) (va_recv hK hP (ci := 2) (q0 := 2) rfl rfl) hK hNW hP hD hS hA rfl rfl hl.1 (lv_room (Nat.le_of_ble_eq_true rfl)) dX0_define_90 hcs (fun F_26 X_27 hw_28 H locs hP hD hS => ?_)
    replace hw_28 : ((F 1).toInt < 101 ∧ (F_26 1).toInt = (F 1).toInt + 1 ∧ X_27 2 = upd (X 2) (F 1).toInt.toNat (oI r_20.toInt) ∧ X_27 3 = upd (X 3) (F 1).toInt.toNat (oI r_23.toInt)) ∨ ((F 1).toInt = 101 ∧ (F_26 1).toInt = (F 1).toInt ∧ X_27 2 = (X 2) ∧ X_27 3 = (X 3)) := hw_28
    have hen := hw_28
    clear hw_28
    have hcut : CUT (X 1) (r_20.toInt) (r_23.toInt) := by rw [show (r_23.toInt : Int) = AF (X 1) gf x by omega]; exact CUT_in hsp hne (p := x) (by omega)
    have hv2 : VB (X_27 2) := hen.elim (fun h => by rw [h.2.2.1]; exact VB_upd hv2 (by omega)) (fun h => by rw [h.2.2.1]; exact hv2)
    obtain ⟨hfr, hph, hn1, hn2, hn3⟩ := FRM_en hfr hpn hft hen (by omega) (by omega) hcut
    clear hen
    have eF9 : rg 25 26 (rg 3 4 (rg 1 1 F (rg 1 1 (rg 25 26 (rg 25 26 (rg 25 26 (va_up F 3 (oI r_8.toInt)) F_11) F_14) F_17) F_26)) (rg 1 1 (rg 25 26 (rg 25 26 (rg 25 26 (va_up F 3 (oI r_8.toInt)) F_11) F_14) F_17) F_26)) (rg 1 1 (rg 25 26 (rg 25 26 (rg 25 26 (va_up F 3 (oI r_8.toInt)) F_11) F_14) F_17) F_26) = rg 1 1 (rg 25 26 (rg 25 26 (rg 25 26 (va_up F 3 (oI r_8.toInt)) F_11) F_14) F_17) F_26 := by funext k; simp only [rg, va_up]; (repeat' split) <;> first | with_reducible rfl | omega
    have eX9 : rg 25 25 (rg 2 4 X (rg 2 4 (rg 25 25 (rg 25 25 (rg 25 25 X X_12) X_15) X_18) X_27)) (rg 2 4 (rg 25 25 (rg 25 25 (rg 25 25 X X_12) X_15) X_18) X_27) = rg 2 4 (rg 25 25 (rg 25 25 (rg 25 25 X X_12) X_15) X_18) X_27 := by funext k; simp only [rg, va_up]; (repeat' split) <;> first | with_reducible rfl | omega
    have hP9 : va_P (dC, dI) vwCl (CW cB cC cI cJ cZ a (rg 25 26 (rg 3 4 (rg 1 1 F (rg 1 1 (rg 25 26 (rg 25 26 (rg 25 26 (va_up F 3 (oI r_8.toInt)) F_11) F_14) F_17) F_26)) (rg 1 1 (rg 25 26 (rg 25 26 (rg 25 26 (va_up F 3 (oI r_8.toInt)) F_11) F_14) F_17) F_26)) (rg 1 1 (rg 25 26 (rg 25 26 (rg 25 26 (va_up F 3 (oI r_8.toInt)) F_11) F_14) F_17) F_26)) (rg 25 25 (rg 2 4 X (rg 2 4 (rg 25 25 (rg 25 25 (rg 25 25 X X_12) X_15) X_18) X_27)) (rg 2 4 (rg 25 25 (rg 25 25 (rg 25 25 X X_12) X_15) X_18) X_27)) J R gf gn) H := by rw [eF9, eX9]; exact hP
    have hD9 : va_D A (CW cB cC cI cJ cZ a (rg 25 26 (rg 3 4 (rg 1 1 F (rg 1 1 (rg 25 26 (rg 25 26 (rg 25 26 (va_up F 3 (oI r_8.toInt)) F_11) F_14) F_17) F_26)) (rg 1 1 (rg 25 26 (rg 25 26 (rg 25 26 (va_up F 3 (oI r_8.toInt)) F_11) F_14) F_17) F_26)) (rg 1 1 (rg 25 26 (rg 25 26 (rg 25 26 (va_up F 3 (oI r_8.toInt)) F_11) F_14) F_17) F_26)) (rg 25 25 (rg 2 4 X (rg 2 4 (rg 25 25 (rg 25 25 (rg 25 25 X X_12) X_15) X_18) X_27)) (rg 2 4 (rg 25 25 (rg 25 25 (rg 25 25 X X_12) X_15) X_18) X_27)) J R gf gn) := by rw [eF9, eX9]; exact hD
    have hpost : FRM (X 1) (X_27 2) (X_27 3) (X 5) (F_26 1).toInt (F 12).toInt ee ∧ (0 ≤ (F_26 1).toInt ∧ (F_26 1).toInt ≤ 101) ∧ VB (X_27 2) ∧ (F 25).toInt ≤ (F_17 25).toInt ∧ (F_17 25).toInt + 40 * (((PSI (X_27 2) (X_27 3) (F_26 1).toInt.toNat : Nat) : Int) + ((ee - (F 2).toInt).toNat : Int) + 67600 * (100 - (F 6).toInt) + 0) + (F_26 1).toInt ≤ K := ⟨hfr, by omega, hv2, by omega, by omega⟩
    exact W.vret hx hb hr (fun t ht hW => ⟨⟨(rg 1 1 (rg 25 26 (rg 25 26 (rg 25 26 (va_up F 3 (oI r_8.toInt)) F_11) F_14) F_17) F_26, rg 2 4 (rg 25 25 (rg 25 25 (rg 25 25 X X_12) X_15) X_18) X_27), rfl, hpost, by rw [ht]; exact hP9, va_K.moved hW.alike hK, hD9⟩, hS.F ht⟩) hS.2.2 dX0_define_93
  · refine lv_aload_n hx hb dX0_define_8 rfl (lv_at hl 0 rfl) ?_
    refine lv_iconst (v := oI 3) hx hb dX0_define_9 (by decide) ?_
    refine cp_0_10 hx hb hts inX0_define_X0 hown hK hP hD hS (hts _ lkX0_define_f25) dX0_define_10 (fun H locs hP hD hS => ?_)
    have hP : va_P (dC, dI) vwCl (CW cB cC cI cJ cZ a (va_up F 4 (oI 3)) X J R gf gn) H := hP
    have hD : va_D A (CW cB cC cI cJ cZ a (va_up F 4 (oI 3)) X J R gf gn) := hD
    have eF9 : rg 25 26 (rg 3 4 (rg 1 1 F (va_up F 4 (oI 3))) (va_up F 4 (oI 3))) (va_up F 4 (oI 3)) = va_up F 4 (oI 3) := by funext k; simp only [rg, va_up]; (repeat' split) <;> first | with_reducible rfl | omega
    have eX9 : rg 25 25 (rg 2 4 X X) X = X := by funext k; simp only [rg, va_up]; (repeat' split) <;> first | with_reducible rfl | omega
    have hP9 : va_P (dC, dI) vwCl (CW cB cC cI cJ cZ a (rg 25 26 (rg 3 4 (rg 1 1 F (va_up F 4 (oI 3))) (va_up F 4 (oI 3))) (va_up F 4 (oI 3))) (rg 25 25 (rg 2 4 X X) X) J R gf gn) H := by rw [eF9, eX9]; exact hP
    have hD9 : va_D A (CW cB cC cI cJ cZ a (rg 25 26 (rg 3 4 (rg 1 1 F (va_up F 4 (oI 3))) (va_up F 4 (oI 3))) (va_up F 4 (oI 3))) (rg 25 25 (rg 2 4 X X) X) J R gf gn) := by rw [eF9, eX9]; exact hD
    have hpost : FRM (X 1) (X 2) (X 3) (X 5) (F 1).toInt (F 12).toInt ee ∧ (0 ≤ (F 1).toInt ∧ (F 1).toInt ≤ 101) ∧ VB (X 2) ∧ (F 25).toInt ≤ (F 25).toInt ∧ (F 25).toInt + 40 * (((PSI (X 2) (X 3) (F 1).toInt.toNat : Nat) : Int) + ((ee - (F 2).toInt).toNat : Int) + 67600 * (100 - (F 6).toInt) + 0) + (F 1).toInt ≤ K := ⟨hfr, hft, hv2, by omega, by omega⟩
    exact W.vret hx hb hr (fun t ht hW => ⟨⟨(va_up F 4 (oI 3), X), rfl, hpost, by rw [ht]; exact hP9, va_K.moved hW.alike hK, hD9⟩, hS.F ht⟩) hS.2.2 dX0_define_13
