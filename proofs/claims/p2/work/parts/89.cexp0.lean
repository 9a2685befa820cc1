def oX1_keep : List Cond := [Cond.methodLink RX1 40 yX1_size, Cond.instanceMethod yX1_size, Cond.selects RX1 yX1_size yX1_size, Cond.initialized RX1, Cond.fieldLink RX1 11 "MacroScopes$Forms" "what" "[I", Cond.fieldLink RX1 22 "MacroScopes$Forms" "kept" "I", Cond.methodLink RX1 49 arraycopyName, Cond.native arraycopyName, Cond.static arraycopyName, Cond.initialized "java/lang/System", Cond.fieldLink RX1 15 "MacroScopes$Forms" "span" "[I"]
def vX1_keep : List Cond := .code yX1_keep cX1_keep 3 (some .int) :: (oX1_keep ++ (vX1_size ++ (wsX10)))
theorem lkX1_keep_f11 : Cond.fieldLink RX1 11 "MacroScopes$Forms" "what" "[I" ∈ vX1_keep := List.mem_cons_of_mem _ (List.mem_append_left _ (List.mem_of_getElem? (i := 4) rfl))
theorem lkX1_keep_f22 : Cond.fieldLink RX1 22 "MacroScopes$Forms" "kept" "I" ∈ vX1_keep := List.mem_cons_of_mem _ (List.mem_append_left _ (List.mem_of_getElem? (i := 5) rfl))
theorem lkX1_keep_l49 : Cond.methodLink RX1 49 arraycopyName ∈ vX1_keep := List.mem_cons_of_mem _ (List.mem_append_left _ (List.mem_of_getElem? (i := 6) rfl))
theorem lkX1_keep_nac : Cond.native arraycopyName ∈ vX1_keep := List.mem_cons_of_mem _ (List.mem_append_left _ (List.mem_of_getElem? (i := 7) rfl))
theorem lkX1_keep_sac : Cond.static arraycopyName ∈ vX1_keep := List.mem_cons_of_mem _ (List.mem_append_left _ (List.mem_of_getElem? (i := 8) rfl))
theorem lkX1_keep_zsys : Cond.initialized "java/lang/System" ∈ vX1_keep := List.mem_cons_of_mem _ (List.mem_append_left _ (List.mem_of_getElem? (i := 9) rfl))
theorem lkX1_keep_f15 : Cond.fieldLink RX1 15 "MacroScopes$Forms" "span" "[I" ∈ vX1_keep := List.mem_cons_of_mem _ (List.mem_append_left _ (List.mem_of_getElem? (i := 10) rfl))
theorem inX1_keep_X1 : ∀ w ∈ wsX10, w ∈ vX1_keep := fun w h => List.mem_cons_of_mem _ (List.mem_append_right _ (List.mem_append_right _ (h)))
theorem kX1_keep_X1_size_40 : GoodIn vX1_keep (wsV RX1 40 RX1 yX1_size vX1_size) := goodIn_sub (fun w h => (List.mem_append.mp h).elim (fun h => List.mem_cons_of_mem _ (List.mem_append_left _ ((by decide +kernel : ∀ w ∈ ([.methodLink RX1 40 yX1_size, .instanceMethod yX1_size, .selects RX1 yX1_size yX1_size, .initialized RX1] : List Cond), w ∈ oX1_keep) w h))) (fun h => List.mem_cons_of_mem _ (List.mem_append_right _ (List.mem_append_left _ (h))))) (by decide +kernel)
def oX6_startText : List Cond := [Cond.fieldLink RX6 25 "MacroScopes$Names" "symbols" "I", Cond.fieldLink RX6 47 "MacroScopes$Names" "top" "I", Cond.fieldLink RX6 29 "MacroScopes$Names" "symbolsBefore" "I", Cond.fieldLink RX6 18 "MacroScopes$Names" "rules" "[I", Cond.fieldLink RX6 22 "MacroScopes$Names" "rulesBefore" "[I", Cond.methodLink RX6 89 arraycopyName, Cond.native arraycopyName, Cond.static arraycopyName, Cond.initialized "java/lang/System"]
def vX6_startText : List Cond := .code yX6_startText cX6_startText 1 none :: (oX6_startText ++ (wsX60))
theorem lkX6_startText_f25 : Cond.fieldLink RX6 25 "MacroScopes$Names" "symbols" "I" ∈ vX6_startText := List.mem_cons_of_mem _ (List.mem_append_left _ (List.mem_of_getElem? (i := 0) rfl))
theorem lkX6_startText_f47 : Cond.fieldLink RX6 47 "MacroScopes$Names" "top" "I" ∈ vX6_startText := List.mem_cons_of_mem _ (List.mem_append_left _ (List.mem_of_getElem? (i := 1) rfl))
theorem lkX6_startText_f29 : Cond.fieldLink RX6 29 "MacroScopes$Names" "symbolsBefore" "I" ∈ vX6_startText := List.mem_cons_of_mem _ (List.mem_append_left _ (List.mem_of_getElem? (i := 2) rfl))
theorem lkX6_startText_f18 : Cond.fieldLink RX6 18 "MacroScopes$Names" "rules" "[I" ∈ vX6_startText := List.mem_cons_of_mem _ (List.mem_append_left _ (List.mem_of_getElem? (i := 3) rfl))
theorem lkX6_startText_f22 : Cond.fieldLink RX6 22 "MacroScopes$Names" "rulesBefore" "[I" ∈ vX6_startText := List.mem_cons_of_mem _ (List.mem_append_left _ (List.mem_of_getElem? (i := 4) rfl))
theorem lkX6_startText_l89 : Cond.methodLink RX6 89 arraycopyName ∈ vX6_startText := List.mem_cons_of_mem _ (List.mem_append_left _ (List.mem_of_getElem? (i := 5) rfl))
theorem lkX6_startText_nac : Cond.native arraycopyName ∈ vX6_startText := List.mem_cons_of_mem _ (List.mem_append_left _ (List.mem_of_getElem? (i := 6) rfl))
theorem lkX6_startText_sac : Cond.static arraycopyName ∈ vX6_startText := List.mem_cons_of_mem _ (List.mem_append_left _ (List.mem_of_getElem? (i := 7) rfl))
theorem lkX6_startText_zsys : Cond.initialized "java/lang/System" ∈ vX6_startText := List.mem_cons_of_mem _ (List.mem_append_left _ (List.mem_of_getElem? (i := 8) rfl))
theorem inX6_startText_X6 : ∀ w ∈ wsX60, w ∈ vX6_startText := fun w h => List.mem_cons_of_mem _ (List.mem_append_right _ (h))
def oX6_takeBack : List Cond := [Cond.fieldLink RX6 22 "MacroScopes$Names" "rulesBefore" "[I", Cond.fieldLink RX6 18 "MacroScopes$Names" "rules" "[I", Cond.fieldLink RX6 29 "MacroScopes$Names" "symbolsBefore" "I", Cond.methodLink RX6 89 arraycopyName, Cond.native arraycopyName, Cond.static arraycopyName, Cond.initialized "java/lang/System", Cond.fieldLink RX6 25 "MacroScopes$Names" "symbols" "I"]
def vX6_takeBack : List Cond := .code yX6_takeBack cX6_takeBack 1 none :: (oX6_takeBack ++ (wsX60))
theorem lkX6_takeBack_f22 : Cond.fieldLink RX6 22 "MacroScopes$Names" "rulesBefore" "[I" ∈ vX6_takeBack := List.mem_cons_of_mem _ (List.mem_append_left _ (List.mem_of_getElem? (i := 0) rfl))
theorem lkX6_takeBack_f18 : Cond.fieldLink RX6 18 "MacroScopes$Names" "rules" "[I" ∈ vX6_takeBack := List.mem_cons_of_mem _ (List.mem_append_left _ (List.mem_of_getElem? (i := 1) rfl))
theorem lkX6_takeBack_f29 : Cond.fieldLink RX6 29 "MacroScopes$Names" "symbolsBefore" "I" ∈ vX6_takeBack := List.mem_cons_of_mem _ (List.mem_append_left _ (List.mem_of_getElem? (i := 2) rfl))
theorem lkX6_takeBack_l89 : Cond.methodLink RX6 89 arraycopyName ∈ vX6_takeBack := List.mem_cons_of_mem _ (List.mem_append_left _ (List.mem_of_getElem? (i := 3) rfl))
theorem lkX6_takeBack_nac : Cond.native arraycopyName ∈ vX6_takeBack := List.mem_cons_of_mem _ (List.mem_append_left _ (List.mem_of_getElem? (i := 4) rfl))
theorem lkX6_takeBack_sac : Cond.static arraycopyName ∈ vX6_takeBack := List.mem_cons_of_mem _ (List.mem_append_left _ (List.mem_of_getElem? (i := 5) rfl))
theorem lkX6_takeBack_zsys : Cond.initialized "java/lang/System" ∈ vX6_takeBack := List.mem_cons_of_mem _ (List.mem_append_left _ (List.mem_of_getElem? (i := 6) rfl))
theorem lkX6_takeBack_f25 : Cond.fieldLink RX6 25 "MacroScopes$Names" "symbols" "I" ∈ vX6_takeBack := List.mem_cons_of_mem _ (List.mem_append_left _ (List.mem_of_getElem? (i := 7) rfl))
theorem inX6_takeBack_X6 : ∀ w ∈ wsX60, w ∈ vX6_takeBack := fun w h => List.mem_cons_of_mem _ (List.mem_append_right _ (h))
def oX0_remember : List Cond := [Cond.fieldLink RX0 12 "MacroScopes$Expander" "frames" "LMacroScopes$Frames;", Cond.fieldLink RX0 43 "MacroScopes$Expander" "forms" "LMacroScopes$Forms;", Cond.fieldLink RX0 47 "MacroScopes$Expander" "names" "LMacroScopes$Names;", Cond.fieldLink RX0 60 "MacroScopes$Expander" "scopes" "LMacroScopes$Scopes;", Cond.methodLink RX0 193 yX2_remember, Cond.instanceMethod yX2_remember, Cond.selects RX2 yX2_remember yX2_remember, Cond.initialized RX2]
def vX0_remember : List Cond := .code yX0_remember cX0_remember 1 none :: (oX0_remember ++ (vX2_remember ++ (wsX00 ++ (wsX10 ++ (wsX60 ++ (wsX90))))))
theorem lkX0_remember_f12 : Cond.fieldLink RX0 12 "MacroScopes$Expander" "frames" "LMacroScopes$Frames;" ∈ vX0_remember := List.mem_cons_of_mem _ (List.mem_append_left _ (List.mem_of_getElem? (i := 0) rfl))
theorem lkX0_remember_f43 : Cond.fieldLink RX0 43 "MacroScopes$Expander" "forms" "LMacroScopes$Forms;" ∈ vX0_remember := List.mem_cons_of_mem _ (List.mem_append_left _ (List.mem_of_getElem? (i := 1) rfl))
theorem lkX0_remember_f47 : Cond.fieldLink RX0 47 "MacroScopes$Expander" "names" "LMacroScopes$Names;" ∈ vX0_remember := List.mem_cons_of_mem _ (List.mem_append_left _ (List.mem_of_getElem? (i := 2) rfl))
theorem lkX0_remember_f60 : Cond.fieldLink RX0 60 "MacroScopes$Expander" "scopes" "LMacroScopes$Scopes;" ∈ vX0_remember := List.mem_cons_of_mem _ (List.mem_append_left _ (List.mem_of_getElem? (i := 3) rfl))
theorem inX0_remember_X0 : ∀ w ∈ wsX00, w ∈ vX0_remember := fun w h => List.mem_cons_of_mem _ (List.mem_append_right _ (List.mem_append_right _ (List.mem_append_left _ (h))))
theorem inX0_remember_X1 : ∀ w ∈ wsX10, w ∈ vX0_remember := fun w h => List.mem_cons_of_mem _ (List.mem_append_right _ (List.mem_append_right _ (List.mem_append_right _ (List.mem_append_left _ (h)))))
theorem inX0_remember_X6 : ∀ w ∈ wsX60, w ∈ vX0_remember := fun w h => List.mem_cons_of_mem _ (List.mem_append_right _ (List.mem_append_right _ (List.mem_append_right _ (List.mem_append_right _ (List.mem_append_left _ (h))))))
theorem inX0_remember_X9 : ∀ w ∈ wsX90, w ∈ vX0_remember := fun w h => List.mem_cons_of_mem _ (List.mem_append_right _ (List.mem_append_right _ (List.mem_append_right _ (List.mem_append_right _ (List.mem_append_right _ (h))))))
theorem kX0_remember_X2_remember_193 : GoodIn vX0_remember (wsV RX0 193 RX2 yX2_remember vX2_remember) := goodIn_sub (fun w h => (List.mem_append.mp h).elim (fun h => List.mem_cons_of_mem _ (List.mem_append_left _ ((by decide +kernel : ∀ w ∈ ([.methodLink RX0 193 yX2_remember, .instanceMethod yX2_remember, .selects RX2 yX2_remember yX2_remember, .initialized RX2] : List Cond), w ∈ oX0_remember) w h))) (fun h => List.mem_cons_of_mem _ (List.mem_append_right _ (List.mem_append_left _ (h))))) (by decide +kernel)
def oX0_definesSymbol : List Cond := [Cond.fieldLink RX0 43 "MacroScopes$Expander" "forms" "LMacroScopes$Forms;", Cond.methodLink RX0 196 yX1_part, Cond.instanceMethod yX1_part, Cond.selects RX1 yX1_part yX1_part, Cond.initialized RX1, Cond.methodLink RX0 200 yX1_nameOf, Cond.instanceMethod yX1_nameOf, Cond.selects RX1 yX1_nameOf yX1_nameOf, Cond.methodLink RX0 203 yX1_parts, Cond.instanceMethod yX1_parts, Cond.selects RX1 yX1_parts yX1_parts]
def vX0_definesSymbol : List Cond := .code yX0_definesSymbol cX0_definesSymbol 3 (some .boolean) :: (oX0_definesSymbol ++ (vX1_part ++ (vX1_nameOf ++ (vX1_parts ++ (wsX00)))))
theorem lkX0_definesSymbol_f43 : Cond.fieldLink RX0 43 "MacroScopes$Expander" "forms" "LMacroScopes$Forms;" ∈ vX0_definesSymbol := List.mem_cons_of_mem _ (List.mem_append_left _ (List.mem_of_getElem? (i := 0) rfl))
theorem inX0_definesSymbol_X0 : ∀ w ∈ wsX00, w ∈ vX0_definesSymbol := fun w h => List.mem_cons_of_mem _ (List.mem_append_right _ (List.mem_append_right _ (List.mem_append_right _ (List.mem_append_right _ (h)))))
theorem kX0_definesSymbol_X1_part_196 : GoodIn vX0_definesSymbol (wsV RX0 196 RX1 yX1_part vX1_part) := goodIn_sub (fun w h => (List.mem_append.mp h).elim (fun h => List.mem_cons_of_mem _ (List.mem_append_left _ ((by decide +kernel : ∀ w ∈ ([.methodLink RX0 196 yX1_part, .instanceMethod yX1_part, .selects RX1 yX1_part yX1_part, .initialized RX1] : List Cond), w ∈ oX0_definesSymbol) w h))) (fun h => List.mem_cons_of_mem _ (List.mem_append_right _ (List.mem_append_left _ (h))))) (by decide +kernel)
theorem kX0_definesSymbol_X1_nameOf_200 : GoodIn vX0_definesSymbol (wsV RX0 200 RX1 yX1_nameOf vX1_nameOf) := goodIn_sub (fun w h => (List.mem_append.mp h).elim (fun h => List.mem_cons_of_mem _ (List.mem_append_left _ ((by decide +kernel : ∀ w ∈ ([.methodLink RX0 200 yX1_nameOf, .instanceMethod yX1_nameOf, .selects RX1 yX1_nameOf yX1_nameOf, .initialized RX1] : List Cond), w ∈ oX0_definesSymbol) w h))) (fun h => List.mem_cons_of_mem _ (List.mem_append_right _ (List.mem_append_right _ (List.mem_append_left _ (h)))))) (by decide +kernel)
theorem kX0_definesSymbol_X1_parts_203 : GoodIn vX0_definesSymbol (wsV RX0 203 RX1 yX1_parts vX1_parts) := goodIn_sub (fun w h => (List.mem_append.mp h).elim (fun h => List.mem_cons_of_mem _ (List.mem_append_left _ ((by decide +kernel : ∀ w ∈ ([.methodLink RX0 203 yX1_parts, .instanceMethod yX1_parts, .selects RX1 yX1_parts yX1_parts, .initialized RX1] : List Cond), w ∈ oX0_definesSymbol) w h))) (fun h => List.mem_cons_of_mem _ (List.mem_append_right _ (List.mem_append_right _ (List.mem_append_right _ (List.mem_append_left _ (h))))))) (by decide +kernel)
def oX0_headMeaning : List Cond := [Cond.fieldLink RX0 43 "MacroScopes$Expander" "forms" "LMacroScopes$Forms;", Cond.methodLink RX0 183 yX1_head, Cond.instanceMethod yX1_head, Cond.selects RX1 yX1_head yX1_head, Cond.initialized RX1, Cond.fieldLink RX0 60 "MacroScopes$Expander" "scopes" "LMacroScopes$Scopes;", Cond.methodLink RX0 227 yX9_meaning, Cond.instanceMethod yX9_meaning, Cond.selects RX9 yX9_meaning yX9_meaning, Cond.initialized RX9]
def vX0_headMeaning : List Cond := .code yX0_headMeaning cX0_headMeaning 3 (some .int) :: (oX0_headMeaning ++ (vX1_head ++ (vX9_meaning ++ (wsX00 ++ (wsX90)))))
theorem lkX0_headMeaning_f43 : Cond.fieldLink RX0 43 "MacroScopes$Expander" "forms" "LMacroScopes$Forms;" ∈ vX0_headMeaning := List.mem_cons_of_mem _ (List.mem_append_left _ (List.mem_of_getElem? (i := 0) rfl))
theorem lkX0_headMeaning_f60 : Cond.fieldLink RX0 60 "MacroScopes$Expander" "scopes" "LMacroScopes$Scopes;" ∈ vX0_headMeaning := List.mem_cons_of_mem _ (List.mem_append_left _ (List.mem_of_getElem? (i := 5) rfl))
theorem inX0_headMeaning_X0 : ∀ w ∈ wsX00, w ∈ vX0_headMeaning := fun w h => List.mem_cons_of_mem _ (List.mem_append_right _ (List.mem_append_right _ (List.mem_append_right _ (List.mem_append_left _ (h)))))
theorem inX0_headMeaning_X9 : ∀ w ∈ wsX90, w ∈ vX0_headMeaning := fun w h => List.mem_cons_of_mem _ (List.mem_append_right _ (List.mem_append_right _ (List.mem_append_right _ (List.mem_append_right _ (h)))))
theorem kX0_headMeaning_X1_head_183 : GoodIn vX0_headMeaning (wsV RX0 183 RX1 yX1_head vX1_head) := goodIn_sub (fun w h => (List.mem_append.mp h).elim (fun h => List.mem_cons_of_mem _ (List.mem_append_left _ ((by decide +kernel : ∀ w ∈ ([.methodLink RX0 183 yX1_head, .instanceMethod yX1_head, .selects RX1 yX1_head yX1_head, .initialized RX1] : List Cond), w ∈ oX0_headMeaning) w h))) (fun h => List.mem_cons_of_mem _ (List.mem_append_right _ (List.mem_append_left _ (h))))) (by decide +kernel)
theorem kX0_headMeaning_X9_meaning_227 : GoodIn vX0_headMeaning (wsV RX0 227 RX9 yX9_meaning vX9_meaning) := goodIn_sub (fun w h => (List.mem_append.mp h).elim (fun h => List.mem_cons_of_mem _ (List.mem_append_left _ ((by decide +kernel : ∀ w ∈ ([.methodLink RX0 227 yX9_meaning, .instanceMethod yX9_meaning, .selects RX9 yX9_meaning yX9_meaning, .initialized RX9] : List Cond), w ∈ oX0_headMeaning) w h))) (fun h => List.mem_cons_of_mem _ (List.mem_append_right _ (List.mem_append_right _ (List.mem_append_left _ (h)))))) (by decide +kernel)
def oX0_canExpand : List Cond := [Cond.fieldLink RX0 12 "MacroScopes$Expander" "frames" "LMacroScopes$Frames;", Cond.fieldLink RX0 43 "MacroScopes$Expander" "forms" "LMacroScopes$Forms;", Cond.methodLink RX0 242 yX1_size, Cond.instanceMethod yX1_size, Cond.selects RX1 yX1_size yX1_size, Cond.initialized RX1, Cond.methodLink RX0 180 yX0_remember, Cond.instanceMethod yX0_remember, Cond.selects RX0 yX0_remember yX0_remember, Cond.initialized RX0, Cond.fieldLink RX0 25 "MacroScopes$Expander" "fault" "I"]
def vX0_canExpand : List Cond := .code yX0_canExpand cX0_canExpand 2 (some .boolean) :: (oX0_canExpand ++ (vX1_size ++ (vX0_remember ++ (wsX00 ++ (wsX20)))))
theorem lkX0_canExpand_f12 : Cond.fieldLink RX0 12 "MacroScopes$Expander" "frames" "LMacroScopes$Frames;" ∈ vX0_canExpand := List.mem_cons_of_mem _ (List.mem_append_left _ (List.mem_of_getElem? (i := 0) rfl))
theorem lkX0_canExpand_f43 : Cond.fieldLink RX0 43 "MacroScopes$Expander" "forms" "LMacroScopes$Forms;" ∈ vX0_canExpand := List.mem_cons_of_mem _ (List.mem_append_left _ (List.mem_of_getElem? (i := 1) rfl))
theorem lkX0_canExpand_f25 : Cond.fieldLink RX0 25 "MacroScopes$Expander" "fault" "I" ∈ vX0_canExpand := List.mem_cons_of_mem _ (List.mem_append_left _ (List.mem_of_getElem? (i := 10) rfl))
theorem inX0_canExpand_X0 : ∀ w ∈ wsX00, w ∈ vX0_canExpand := fun w h => List.mem_cons_of_mem _ (List.mem_append_right _ (List.mem_append_right _ (List.mem_append_right _ (List.mem_append_left _ (h)))))
theorem inX0_canExpand_X2 : ∀ w ∈ wsX20, w ∈ vX0_canExpand := fun w h => List.mem_cons_of_mem _ (List.mem_append_right _ (List.mem_append_right _ (List.mem_append_right _ (List.mem_append_right _ (h)))))
theorem kX0_canExpand_X1_size_242 : GoodIn vX0_canExpand (wsV RX0 242 RX1 yX1_size vX1_size) := goodIn_sub (fun w h => (List.mem_append.mp h).elim (fun h => List.mem_cons_of_mem _ (List.mem_append_left _ ((by decide +kernel : ∀ w ∈ ([.methodLink RX0 242 yX1_size, .instanceMethod yX1_size, .selects RX1 yX1_size yX1_size, .initialized RX1] : List Cond), w ∈ oX0_canExpand) w h))) (fun h => List.mem_cons_of_mem _ (List.mem_append_right _ (List.mem_append_left _ (h))))) (by decide +kernel)
theorem kX0_canExpand_X0_remember_180 : GoodIn vX0_canExpand (wsV RX0 180 RX0 yX0_remember vX0_remember) := goodIn_sub (fun w h => (List.mem_append.mp h).elim (fun h => List.mem_cons_of_mem _ (List.mem_append_left _ ((by decide +kernel : ∀ w ∈ ([.methodLink RX0 180 yX0_remember, .instanceMethod yX0_remember, .selects RX0 yX0_remember yX0_remember, .initialized RX0] : List Cond), w ∈ oX0_canExpand) w h))) (fun h => List.mem_cons_of_mem _ (List.mem_append_right _ (List.mem_append_right _ (List.mem_append_left _ (h)))))) (by decide +kernel)
def oX0_startLayer : List Cond := [Cond.fieldLink RX0 34 "MacroScopes$Expander" "layers" "I", Cond.fieldLink RX0 43 "MacroScopes$Expander" "forms" "LMacroScopes$Forms;", Cond.methodLink RX0 196 yX1_part, Cond.instanceMethod yX1_part, Cond.selects RX1 yX1_part yX1_part, Cond.initialized RX1, Cond.methodLink RX0 203 yX1_parts, Cond.instanceMethod yX1_parts, Cond.selects RX1 yX1_parts yX1_parts, Cond.fieldLink RX0 25 "MacroScopes$Expander" "fault" "I", Cond.methodLink RX0 112 yX1_isList, Cond.instanceMethod yX1_isList, Cond.selects RX1 yX1_isList yX1_isList]
def vX0_startLayer : List Cond := .code yX0_startLayer cX0_startLayer 3 (some .boolean) :: (oX0_startLayer ++ (vX1_part ++ (vX1_parts ++ (vX1_isList ++ (wsX00)))))
theorem lkX0_startLayer_f34 : Cond.fieldLink RX0 34 "MacroScopes$Expander" "layers" "I" ∈ vX0_startLayer := List.mem_cons_of_mem _ (List.mem_append_left _ (List.mem_of_getElem? (i := 0) rfl))
theorem lkX0_startLayer_f43 : Cond.fieldLink RX0 43 "MacroScopes$Expander" "forms" "LMacroScopes$Forms;" ∈ vX0_startLayer := List.mem_cons_of_mem _ (List.mem_append_left _ (List.mem_of_getElem? (i := 1) rfl))
theorem lkX0_startLayer_f25 : Cond.fieldLink RX0 25 "MacroScopes$Expander" "fault" "I" ∈ vX0_startLayer := List.mem_cons_of_mem _ (List.mem_append_left _ (List.mem_of_getElem? (i := 9) rfl))
theorem inX0_startLayer_X0 : ∀ w ∈ wsX00, w ∈ vX0_startLayer := fun w h => List.mem_cons_of_mem _ (List.mem_append_right _ (List.mem_append_right _ (List.mem_append_right _ (List.mem_append_right _ (h)))))
theorem kX0_startLayer_X1_part_196 : GoodIn vX0_startLayer (wsV RX0 196 RX1 yX1_part vX1_part) := goodIn_sub (fun w h => (List.mem_append.mp h).elim (fun h => List.mem_cons_of_mem _ (List.mem_append_left _ ((by decide +kernel : ∀ w ∈ ([.methodLink RX0 196 yX1_part, .instanceMethod yX1_part, .selects RX1 yX1_part yX1_part, .initialized RX1] : List Cond), w ∈ oX0_startLayer) w h))) (fun h => List.mem_cons_of_mem _ (List.mem_append_right _ (List.mem_append_left _ (h))))) (by decide +kernel)
theorem kX0_startLayer_X1_parts_203 : GoodIn vX0_startLayer (wsV RX0 203 RX1 yX1_parts vX1_parts) := goodIn_sub (fun w h => (List.mem_append.mp h).elim (fun h => List.mem_cons_of_mem _ (List.mem_append_left _ ((by decide +kernel : ∀ w ∈ ([.methodLink RX0 203 yX1_parts, .instanceMethod yX1_parts, .selects RX1 yX1_parts yX1_parts, .initialized RX1] : List Cond), w ∈ oX0_startLayer) w h))) (fun h => List.mem_cons_of_mem _ (List.mem_append_right _ (List.mem_append_right _ (List.mem_append_left _ (h)))))) (by decide +kernel)
theorem kX0_startLayer_X1_isList_112 : GoodIn vX0_startLayer (wsV RX0 112 RX1 yX1_isList vX1_isList) := goodIn_sub (fun w h => (List.mem_append.mp h).elim (fun h => List.mem_cons_of_mem _ (List.mem_append_left _ ((by decide +kernel : ∀ w ∈ ([.methodLink RX0 112 yX1_isList, .instanceMethod yX1_isList, .selects RX1 yX1_isList yX1_isList, .initialized RX1] : List Cond), w ∈ oX0_startLayer) w h))) (fun h => List.mem_cons_of_mem _ (List.mem_append_right _ (List.mem_append_right _ (List.mem_append_right _ (List.mem_append_left _ (h))))))) (by decide +kernel)
def oX0_canBind : List Cond := [Cond.methodLink RX0 273 yX6_canBeBound, Cond.static yX6_canBeBound, Cond.initialized RX6, Cond.fieldLink RX0 25 "MacroScopes$Expander" "fault" "I", Cond.fieldLink RX0 60 "MacroScopes$Expander" "scopes" "LMacroScopes$Scopes;", Cond.methodLink RX0 276 yX9_isBoundSince, Cond.instanceMethod yX9_isBoundSince, Cond.selects RX9 yX9_isBoundSince yX9_isBoundSince, Cond.initialized RX9]
def vX0_canBind : List Cond := .code yX0_canBind cX0_canBind 3 (some .boolean) :: (oX0_canBind ++ (vX6_canBeBound ++ (vX9_isBoundSince ++ (wsX00))))
theorem lkX0_canBind_f25 : Cond.fieldLink RX0 25 "MacroScopes$Expander" "fault" "I" ∈ vX0_canBind := List.mem_cons_of_mem _ (List.mem_append_left _ (List.mem_of_getElem? (i := 3) rfl))
theorem lkX0_canBind_f60 : Cond.fieldLink RX0 60 "MacroScopes$Expander" "scopes" "LMacroScopes$Scopes;" ∈ vX0_canBind := List.mem_cons_of_mem _ (List.mem_append_left _ (List.mem_of_getElem? (i := 4) rfl))
theorem inX0_canBind_X0 : ∀ w ∈ wsX00, w ∈ vX0_canBind := fun w h => List.mem_cons_of_mem _ (List.mem_append_right _ (List.mem_append_right _ (List.mem_append_right _ (h))))
theorem kX0_canBind_X6_canBeBound_273 : GoodIn vX0_canBind (va_wsS RX0 273 yX6_canBeBound vX6_canBeBound) := goodIn_sub (fun w h => (List.mem_append.mp h).elim (fun h => List.mem_cons_of_mem _ (List.mem_append_left _ ((by decide +kernel : ∀ w ∈ ([.methodLink RX0 273 yX6_canBeBound, .static yX6_canBeBound, .initialized yX6_canBeBound.cls] : List Cond), w ∈ oX0_canBind) w h))) (fun h => List.mem_cons_of_mem _ (List.mem_append_right _ (List.mem_append_left _ (h))))) (by decide +kernel)
theorem kX0_canBind_X9_isBoundSince_276 : GoodIn vX0_canBind (wsV RX0 276 RX9 yX9_isBoundSince vX9_isBoundSince) := goodIn_sub (fun w h => (List.mem_append.mp h).elim (fun h => List.mem_cons_of_mem _ (List.mem_append_left _ ((by decide +kernel : ∀ w ∈ ([.methodLink RX0 276 yX9_isBoundSince, .instanceMethod yX9_isBoundSince, .selects RX9 yX9_isBoundSince yX9_isBoundSince, .initialized RX9] : List Cond), w ∈ oX0_canBind) w h))) (fun h => List.mem_cons_of_mem _ (List.mem_append_right _ (List.mem_append_right _ (List.mem_append_left _ (h)))))) (by decide +kernel)
set_option maxHeartbeats 4000000 in
set_option maxRecDepth 100000 in
/-- X1_keep -/
theorem c_keep (l : Launch) (dC : Nat → ClassId) (dI : Nat → Nat → Nat) (cB cC cI cJ cZ : ClassId) (a : Nat → Nat) (F : Nat → Int32) (X : Nat → Nat → Int32) (J : Nat → Nat → Int64) (R : Nat → Nat) (gf gn : Nat) (x : Int) (D : Int → Nat) (ix : (-2147483648 ≤ x ∧ x < 2147483648)) (hgf : gf ≤ 67600) (hx2 : x < 1073741824) (hfi : FI (X 1) D gf (F 0).toInt (F 12).toInt) (s0 : Nat) : Met l yX1_keep vX1_keep { frames := 2, cells := 0, slots := 0, locals := 120 } (va_Pc [.ref (a 1), .int (oI x)] (cPre dC dI cB cC cI cJ cZ a F X J R gf gn s0)) (va_Qi (fun (r : Int32) (u : (Nat → Int32) × (Nat → Nat → Int32)) => match u with | (F1, X1) => (r).toInt < 1073741824 ∧ ∃ D9 : Int → Nat, FI (X1 1) D9 gf (F1 0).toInt (F 12).toInt ∧ (F 0).toInt ≤ (F1 0).toInt ∧ (∀ p9 : Int, 0 ≤ p9 → p9 < (F 0).toInt → (X1 1) p9.toNat = (X 1) p9.toNat) ∧ ∀ p9 : Int, 4000 ≤ p9 → (X1 1) p9.toNat = (X 1) p9.toNat) (fun u => cPost dC dI cB cC cI cJ cZ a (rg 0 0 F u.1) (rg 0 1 X u.2) J R gf gn (va_A (CW cB cC cI cJ cZ a F X J R gf gn) s0)) (va_A (CW cB cC cI cJ cZ a F X J R gf gn) s0)) 0 0 (va_A (CW cB cC cI cJ cZ a F X J R gf gn) s0) := by
  refine Met.ofW (cc := cX1_keep) (maxL := 3) (ret := (some .int)) (by decide) rfl ?_
  intro p e s m args below meth c s₁ B9 hml hv
  obtain ⟨rfl, hsz0, hP, hK, hD0, hNW⟩ := hv
  have hx := B9.exec
  have hb := B9.bytes
  have hr := B9.returns
  have hts := atoms_spec (ws := vX1_keep) B9.pre
  have hown : s.vm.findClass RX1 = some m.cls := findClass_of_methodNamed B9.named
  have hlocks := B9.notSynchronized
  clear B9
  subst hsz0
  have hD := hD0.self (sz := s.heap.size)
  generalize hAe : va_A (CW cB cC cI cJ cZ a F X J R gf gn) s.heap.size = A at hD ⊢
  have hA : ∀ q : Nat, s.heap.size ≤ q → A q := fun q h => by rw [← hAe]; exact Or.inr h
  have hS : va_S A s.heap s.heap [] := va_S.rf
  have hcs : 0 + 0 ≤ (0 : Nat) ∧ 0 + 0 ≤ (0 : Nat) := ⟨Nat.le_refl 0, Nat.le_refl 0⟩
  have hl := lv_entry ([.ref (a 1), .int (oI x)]) (n := 3) (Nat.le_of_ble_eq_true rfl)
  rw [lg_entry_eq]
  generalize (lg_sl ([.ref (a 1), .int (oI x)]) ++ List.replicate (3 - (lg_sl ([.ref (a 1), .int (oI x)])).length) Slot.unset).toArray = ls at hl ⊢
  have hl : lv_has ls 3 [(0, .ref (a 1)), (1, .int (oI x))] := hl
  have hsp := FI_sp hfi
  have hbb := FI_b hfi
  refine lv_aload_n hx hb dX1_keep_0 rfl (lv_at hl 0 rfl) ?_
  refine lv_iload_n hx hb dX1_keep_1 rfl (lv_at hl 1 rfl) ?_
  refine ccs_iV (As := [.int (oI x)]) (rest := []) ⟨hx, hb, hml, hown, hts⟩ (c_size l dC dI cB cC cI cJ cZ a F X J R gf gn x  (by omega) (show gf ≤ 67600 from by first | assumption | omega)  s.heap.size) (cwV 1 hts kX1_keep_X1_size_40 rfl rfl rfl (by decide +kernel) ⟨Nat.le_of_ble_eq_true rfl, Nat.le_of_ble_eq_true rfl⟩) (va_recv hK hP (ci := 1) (q0 := 1) rfl rfl) hK hNW hP hD hS hA rfl rfl hl.1 (lv_room (Nat.le_of_ble_eq_true rfl)) dX1_keep_2 hcs (fun r_1 hw_2 H locs hP hD hS => ?_)
  replace hw_2 : (0 ≤ x ∧ x < (gf : Int) ∧ (r_1).toInt = ((X 1) (x).toNat).toInt) ∨ (¬ (0 ≤ x ∧ x < (gf : Int)) ∧ (r_1).toInt = 0) := hw_2
  have hsi := hw_2
  clear hw_2
  have i_3 := i32r r_1
  have hszb := hsp x.toNat
  refine lv_istore_n (lv' := [(2, .int (oI r_1.toInt)), (0, .ref (a 1)), (1, .int (oI x))]) hx hb dX1_keep_5 rfl hl (by decide) rfl (fun ls hl => ?_)
  refine lv_iload_n hx hb dX1_keep_6 rfl (lv_at hl 2 rfl) ?_
  refine lv_sipush (v := oI 4000) hx hb dX1_keep_7 (by decide) ?_
  refine ci_lt (tgt := 36) hx hb (by omega) (by decide) dX1_keep_10 (by decide) (fun c_4 => ?_) (fun c_4 => ?_)
  · refine lv_iconst (v := oI (-1)) hx hb dX1_keep_36 (by decide) ?_
    have e0 : (oI ((-1))).toInt = (-1) := by decide
    have eF9 : rg 0 0 F F = F := by funext k; simp only [rg, va_up]; (repeat' split) <;> first | with_reducible rfl | omega
    have eX9 : rg 0 1 X X = X := by funext k; simp only [rg, va_up]; (repeat' split) <;> first | with_reducible rfl | omega
    have hP9 : va_P (dC, dI) vwCl (CW cB cC cI cJ cZ a (rg 0 0 F F) (rg 0 1 X X) J R gf gn) H := by rw [eF9, eX9]; exact hP
    have hD9 : va_D A (CW cB cC cI cJ cZ a (rg 0 0 F F) (rg 0 1 X X) J R gf gn) := by rw [eF9, eX9]; exact hD
    have hpost : (oI ((-1))).toInt < 1073741824 ∧ ∃ D9 : Int → Nat, FI (X 1) D9 gf (F 0).toInt (F 12).toInt ∧ (F 0).toInt ≤ (F 0).toInt ∧ (∀ p9 : Int, 0 ≤ p9 → p9 < (F 0).toInt → (X 1) p9.toNat = (X 1) p9.toNat) ∧ ∀ p9 : Int, 4000 ≤ p9 → (X 1) p9.toNat = (X 1) p9.toNat := ⟨by omega, D, hfi, Int.le_refl _, fun _ _ _ => rfl, fun _ _ => rfl⟩
    exact W.iret (v := (oI ((-1)))) hx hb hr (fun t ht hW => ⟨⟨(oI ((-1))), (F, X), rfl, hpost, by rw [ht]; exact hP9, va_K.moved hW.alike hK, hD9⟩, hS.F ht⟩) hS.2.2 dX1_keep_37
  · refine lv_iload_n hx hb dX1_keep_13 rfl (lv_at hl 2 rfl) ?_
    refine lv_iload_n hx hb dX1_keep_14 rfl (lv_at hl 0 rfl) ?_
    refine lv_iadd hx hb dX1_keep_15 ?_
    refine tp_i (oI_add x r_1.toInt) ?_
    refine lv_aload_n hx hb dX1_keep_16 rfl (lv_at hl 1 rfl) ?_
    refine cg_1_0 hx hb hts inX1_keep_X1 hown hK hP (hts _ lkX1_keep_f11) dX1_keep_17 ?_
    refine cn_0 hx hb hK hP dX1_keep_20 ?_
    refine ci_gt (tgt := 36) hx hb (by omega) (by omega) dX1_keep_21 (by decide) (fun c_5 => ?_) (fun c_5 => ?_)
    · refine lv_iconst (v := oI (-1)) hx hb dX1_keep_36 (by decide) ?_
      have e0 : (oI ((-1))).toInt = (-1) := by decide
      have eF9 : rg 0 0 F F = F := by funext k; simp only [rg, va_up]; (repeat' split) <;> first | with_reducible rfl | omega
      have eX9 : rg 0 1 X X = X := by funext k; simp only [rg, va_up]; (repeat' split) <;> first | with_reducible rfl | omega
      have hP9 : va_P (dC, dI) vwCl (CW cB cC cI cJ cZ a (rg 0 0 F F) (rg 0 1 X X) J R gf gn) H := by rw [eF9, eX9]; exact hP
      have hD9 : va_D A (CW cB cC cI cJ cZ a (rg 0 0 F F) (rg 0 1 X X) J R gf gn) := by rw [eF9, eX9]; exact hD
      have hpost : (oI ((-1))).toInt < 1073741824 ∧ ∃ D9 : Int → Nat, FI (X 1) D9 gf (F 0).toInt (F 12).toInt ∧ (F 0).toInt ≤ (F 0).toInt ∧ (∀ p9 : Int, 0 ≤ p9 → p9 < (F 0).toInt → (X 1) p9.toNat = (X 1) p9.toNat) ∧ ∀ p9 : Int, 4000 ≤ p9 → (X 1) p9.toNat = (X 1) p9.toNat := ⟨by omega, D, hfi, Int.le_refl _, fun _ _ _ => rfl, fun _ _ => rfl⟩
      exact W.iret (v := (oI ((-1)))) hx hb hr (fun t ht hW => ⟨⟨(oI ((-1))), (F, X), rfl, hpost, by rw [ht]; exact hP9, va_K.moved hW.alike hK, hD9⟩, hS.F ht⟩) hS.2.2 dX1_keep_37
    · refine lv_aload_n hx hb dX1_keep_24 rfl (lv_at hl 1 rfl) ?_
      refine cg_1_3 hx hb hts inX1_keep_X1 hown hK hP (hts _ lkX1_keep_f22) dX1_keep_25 ?_
      have i_6 := i32r (F 0)
      refine lv_iload_n hx hb dX1_keep_28 rfl (lv_at hl 0 rfl) ?_
      refine lv_iadd hx hb dX1_keep_29 ?_
      refine tp_i (oI_add ((F 0).toInt) r_1.toInt) ?_
      refine lv_sipush (v := oI 4000) hx hb dX1_keep_30 (by decide) ?_
      refine ci_le (tgt := 38) hx hb (by omega) (by decide) dX1_keep_33 (by decide) (fun c_7 => ?_) (fun c_7 => ?_)
      · refine lv_aload_n hx hb dX1_keep_38 rfl (lv_at hl 1 rfl) ?_
        refine cg_1_0 hx hb hts inX1_keep_X1 hown hK hP (hts _ lkX1_keep_f11) dX1_keep_39 ?_
        refine lv_iload_n hx hb dX1_keep_42 rfl (lv_at hl 2 rfl) ?_
        refine lv_aload_n hx hb dX1_keep_43 rfl (lv_at hl 1 rfl) ?_
        refine cg_1_0 hx hb hts inX1_keep_X1 hown hK hP (hts _ lkX1_keep_f11) dX1_keep_44 ?_
        refine lv_aload_n hx hb dX1_keep_47 rfl (lv_at hl 1 rfl) ?_
        refine cg_1_3 hx hb hts inX1_keep_X1 hown hK hP (hts _ lkX1_keep_f22) dX1_keep_48 ?_
        refine lv_iload_n hx hb dX1_keep_51 rfl (lv_at hl 0 rfl) ?_
        refine cy_0_0 hx hb (hml.trans hl.1.symm) hown (hts _ lkX1_keep_l49) (hts _ lkX1_keep_nac) (hts _ lkX1_keep_sac) (hts _ lkX1_keep_zsys) hK hP hD hS (sp := x) (dp := (F 0).toInt) (n := r_1.toInt) (by omega) (by omega) (by omega) (by omega) (by omega) (Nat.le_of_ble_eq_true rfl) (Nat.le_of_ble_eq_true rfl) dX1_keep_52 (fun H locs hP hD hS => ?_)
        have hP : va_P (dC, dI) vwCl (CW cB cC cI cJ cZ a F (va_up X 0 (va_cpy (X 0) (X 0) (x : Int).toNat ((F 0).toInt : Int).toNat (r_1.toInt : Int).toNat)) J R gf gn) H := hP
        have hD : va_D A (CW cB cC cI cJ cZ a F (va_up X 0 (va_cpy (X 0) (X 0) (x : Int).toNat ((F 0).toInt : Int).toNat (r_1.toInt : Int).toNat)) J R gf gn) := hD
        refine lv_aload_n hx hb dX1_keep_55 rfl (lv_at hl 1 rfl) ?_
        refine cg_1_1 hx hb hts inX1_keep_X1 hown hK hP (hts _ lkX1_keep_f15) dX1_keep_56 ?_
        refine lv_iload_n hx hb dX1_keep_59 rfl (lv_at hl 2 rfl) ?_
        refine lv_aload_n hx hb dX1_keep_60 rfl (lv_at hl 1 rfl) ?_
        refine cg_1_1 hx hb hts inX1_keep_X1 hown hK hP (hts _ lkX1_keep_f15) dX1_keep_61 ?_
        refine lv_aload_n hx hb dX1_keep_64 rfl (lv_at hl 1 rfl) ?_
        refine cg_1_3 hx hb hts inX1_keep_X1 hown hK hP (hts _ lkX1_keep_f22) dX1_keep_65 ?_
        refine lv_iload_n hx hb dX1_keep_68 rfl (lv_at hl 0 rfl) ?_
        refine cy_1_1 hx hb (hml.trans hl.1.symm) hown (hts _ lkX1_keep_l49) (hts _ lkX1_keep_nac) (hts _ lkX1_keep_sac) (hts _ lkX1_keep_zsys) hK hP hD hS (sp := x) (dp := (F 0).toInt) (n := r_1.toInt) (by omega) (by omega) (by omega) (by omega) (by omega) (Nat.le_of_ble_eq_true rfl) (Nat.le_of_ble_eq_true rfl) dX1_keep_69 (fun H locs hP hD hS => ?_)
        have hP : va_P (dC, dI) vwCl (CW cB cC cI cJ cZ a F (va_up (va_up X 0 (va_cpy (X 0) (X 0) (x : Int).toNat ((F 0).toInt : Int).toNat (r_1.toInt : Int).toNat)) 1 (va_cpy (X 1) (X 1) (x : Int).toNat ((F 0).toInt : Int).toNat (r_1.toInt : Int).toNat)) J R gf gn) H := hP
        have hD : va_D A (CW cB cC cI cJ cZ a F (va_up (va_up X 0 (va_cpy (X 0) (X 0) (x : Int).toNat ((F 0).toInt : Int).toNat (r_1.toInt : Int).toNat)) 1 (va_cpy (X 1) (X 1) (x : Int).toNat ((F 0).toInt : Int).toNat (r_1.toInt : Int).toNat)) J R gf gn) := hD
        refine lv_aload_n hx hb dX1_keep_72 rfl (lv_at hl 1 rfl) ?_
        refine lv_dup hx hb dX1_keep_73 rfl ?_
        refine cg_1_3 hx hb hts inX1_keep_X1 hown hK hP (hts _ lkX1_keep_f22) dX1_keep_74 ?_
        refine lv_iload_n hx hb dX1_keep_77 rfl (lv_at hl 0 rfl) ?_
        refine lv_iadd hx hb dX1_keep_78 ?_
        refine tp_i (oI_add ((F 0).toInt) r_1.toInt) ?_
        refine cp_1_3 hx hb hts inX1_keep_X1 hown hK hP hD hS (hts _ lkX1_keep_f22) dX1_keep_79 (fun H locs hP hD hS => ?_)
        have hP : va_P (dC, dI) vwCl (CW cB cC cI cJ cZ a (va_up F 0 (oI (((F 0).toInt) + r_1.toInt))) (va_up (va_up X 0 (va_cpy (X 0) (X 0) (x : Int).toNat ((F 0).toInt : Int).toNat (r_1.toInt : Int).toNat)) 1 (va_cpy (X 1) (X 1) (x : Int).toNat ((F 0).toInt : Int).toNat (r_1.toInt : Int).toNat)) J R gf gn) H := hP
        have hD : va_D A (CW cB cC cI cJ cZ a (va_up F 0 (oI (((F 0).toInt) + r_1.toInt))) (va_up (va_up X 0 (va_cpy (X 0) (X 0) (x : Int).toNat ((F 0).toInt : Int).toNat (r_1.toInt : Int).toNat)) 1 (va_cpy (X 1) (X 1) (x : Int).toNat ((F 0).toInt : Int).toNat (r_1.toInt : Int).toNat)) J R gf gn) := hD
        have e_8 : (oI (((F 0).toInt) + r_1.toInt)).toInt = ((F 0).toInt) + r_1.toInt := toInt_oI (by omega)
        refine lv_aload_n hx hb dX1_keep_82 rfl (lv_at hl 1 rfl) ?_
        refine cg_1_3 hx hb hts inX1_keep_X1 hown hK hP (hts _ lkX1_keep_f22) dX1_keep_83 ?_
        refine tp_i (y := oI (((F 0).toInt) + r_1.toInt)) (oI_toInt _) ?_
        refine lv_iload_n hx hb dX1_keep_86 rfl (lv_at hl 0 rfl) ?_
        refine lv_isub hx hb dX1_keep_87 ?_
        refine tp_i (oI_sub (((F 0).toInt) + r_1.toInt) r_1.toInt) ?_
        have hke := FI_keep (n := r_1.toInt) hfi (x := x) (by omega) (by omega) (by omega) (by omega) (by omega)
        rw [← e_8] at hke
        have e0 : (oI ((((F 0).toInt) + r_1.toInt) - r_1.toInt)).toInt = (((F 0).toInt) + r_1.toInt) - r_1.toInt := toInt_oI (by omega)
        have eF9 : rg 0 0 F (va_up F 0 (oI (((F 0).toInt) + r_1.toInt))) = va_up F 0 (oI (((F 0).toInt) + r_1.toInt)) := by funext k; simp only [rg, va_up]; (repeat' split) <;> first | with_reducible rfl | omega
        have eX9 : rg 0 1 X (va_up (va_up X 0 (va_cpy (X 0) (X 0) (x : Int).toNat ((F 0).toInt : Int).toNat (r_1.toInt : Int).toNat)) 1 (va_cpy (X 1) (X 1) (x : Int).toNat ((F 0).toInt : Int).toNat (r_1.toInt : Int).toNat)) = va_up (va_up X 0 (va_cpy (X 0) (X 0) (x : Int).toNat ((F 0).toInt : Int).toNat (r_1.toInt : Int).toNat)) 1 (va_cpy (X 1) (X 1) (x : Int).toNat ((F 0).toInt : Int).toNat (r_1.toInt : Int).toNat) := by funext k; simp only [rg, va_up]; (repeat' split) <;> first | with_reducible rfl | omega
        have hP9 : va_P (dC, dI) vwCl (CW cB cC cI cJ cZ a (rg 0 0 F (va_up F 0 (oI (((F 0).toInt) + r_1.toInt)))) (rg 0 1 X (va_up (va_up X 0 (va_cpy (X 0) (X 0) (x : Int).toNat ((F 0).toInt : Int).toNat (r_1.toInt : Int).toNat)) 1 (va_cpy (X 1) (X 1) (x : Int).toNat ((F 0).toInt : Int).toNat (r_1.toInt : Int).toNat))) J R gf gn) H := by rw [eF9, eX9]; exact hP
        have hD9 : va_D A (CW cB cC cI cJ cZ a (rg 0 0 F (va_up F 0 (oI (((F 0).toInt) + r_1.toInt)))) (rg 0 1 X (va_up (va_up X 0 (va_cpy (X 0) (X 0) (x : Int).toNat ((F 0).toInt : Int).toNat (r_1.toInt : Int).toNat)) 1 (va_cpy (X 1) (X 1) (x : Int).toNat ((F 0).toInt : Int).toNat (r_1.toInt : Int).toNat))) J R gf gn) := by rw [eF9, eX9]; exact hD
        have hpost : (oI ((((F 0).toInt) + r_1.toInt) - r_1.toInt)).toInt < 1073741824 ∧ ∃ D9 : Int → Nat, FI (va_cpy (X 1) (X 1) (x : Int).toNat ((F 0).toInt : Int).toNat (r_1.toInt : Int).toNat) D9 gf (oI (((F 0).toInt) + r_1.toInt)).toInt (F 12).toInt ∧ (F 0).toInt ≤ (oI (((F 0).toInt) + r_1.toInt)).toInt ∧ (∀ p9 : Int, 0 ≤ p9 → p9 < (F 0).toInt → (va_cpy (X 1) (X 1) (x : Int).toNat ((F 0).toInt : Int).toNat (r_1.toInt : Int).toNat) p9.toNat = (X 1) p9.toNat) ∧ ∀ p9 : Int, 4000 ≤ p9 → (va_cpy (X 1) (X 1) (x : Int).toNat ((F 0).toInt : Int).toNat (r_1.toInt : Int).toNat) p9.toNat = (X 1) p9.toNat := ⟨by omega, _, hke.1, by omega, fun p9 a9 b9 => (hke.2.1 p9 b9).elim id (fun h => absurd h (by omega)), hke.2.2⟩
        exact W.iret (v := (oI ((((F 0).toInt) + r_1.toInt) - r_1.toInt))) hx hb hr (fun t ht hW => ⟨⟨(oI ((((F 0).toInt) + r_1.toInt) - r_1.toInt)), (va_up F 0 (oI (((F 0).toInt) + r_1.toInt)), va_up (va_up X 0 (va_cpy (X 0) (X 0) (x : Int).toNat ((F 0).toInt : Int).toNat (r_1.toInt : Int).toNat)) 1 (va_cpy (X 1) (X 1) (x : Int).toNat ((F 0).toInt : Int).toNat (r_1.toInt : Int).toNat)), rfl, hpost, by rw [ht]; exact hP9, va_K.moved hW.alike hK, hD9⟩, hS.F ht⟩) hS.2.2 dX1_keep_88
      · refine lv_iconst (v := oI (-1)) hx hb dX1_keep_36 (by decide) ?_
        have e0 : (oI ((-1))).toInt = (-1) := by decide
        have eF9 : rg 0 0 F F = F := by funext k; simp only [rg, va_up]; (repeat' split) <;> first | with_reducible rfl | omega
        have eX9 : rg 0 1 X X = X := by funext k; simp only [rg, va_up]; (repeat' split) <;> first | with_reducible rfl | omega
        have hP9 : va_P (dC, dI) vwCl (CW cB cC cI cJ cZ a (rg 0 0 F F) (rg 0 1 X X) J R gf gn) H := by rw [eF9, eX9]; exact hP
        have hD9 : va_D A (CW cB cC cI cJ cZ a (rg 0 0 F F) (rg 0 1 X X) J R gf gn) := by rw [eF9, eX9]; exact hD
        have hpost : (oI ((-1))).toInt < 1073741824 ∧ ∃ D9 : Int → Nat, FI (X 1) D9 gf (F 0).toInt (F 12).toInt ∧ (F 0).toInt ≤ (F 0).toInt ∧ (∀ p9 : Int, 0 ≤ p9 → p9 < (F 0).toInt → (X 1) p9.toNat = (X 1) p9.toNat) ∧ ∀ p9 : Int, 4000 ≤ p9 → (X 1) p9.toNat = (X 1) p9.toNat := ⟨by omega, D, hfi, Int.le_refl _, fun _ _ _ => rfl, fun _ _ => rfl⟩
        exact W.iret (v := (oI ((-1)))) hx hb hr (fun t ht hW => ⟨⟨(oI ((-1))), (F, X), rfl, hpost, by rw [ht]; exact hP9, va_K.moved hW.alike hK, hD9⟩, hS.F ht⟩) hS.2.2 dX1_keep_37

set_option maxHeartbeats 4000000 in
set_option maxRecDepth 100000 in
/-- X6_startText -/
theorem c_startN (l : Launch) (dC : Nat → ClassId) (dI : Nat → Nat → Nat) (cB cC cI cJ cZ : ClassId) (a : Nat → Nat) (F : Nat → Int32) (X : Nat → Nat → Int32) (J : Nat → Nat → Int64) (R : Nat → Nat) (gf gn : Nat)  (hg2 : (gf = 10000 ∨ gf = 67600) ∧ (gn = 3760 ∨ gn = 63261)) (hsy : 0 ≤ (F 15).toInt ∧ (F 15).toInt ≤ 2560) (hru : VB (X 12)) (hrb : VB (X 13)) (s0 : Nat) : Met l yX6_startText vX6_startText { frames := 2, cells := 0, slots := 0, locals := 120 } (va_Pc [.ref (a 6)] (cPre dC dI cB cC cI cJ cZ a F X J R gf gn s0)) (va_Qv (fun (u : (Nat → Int32) × (Nat → Nat → Int32)) => match u with | (F1, X1) => (0 ≤ (F1 13).toInt ∧ (F1 13).toInt ≤ (gn : Int)) ∧ (0 ≤ (F1 16).toInt ∧ (F1 16).toInt ≤ 2560) ∧ VB (X1 13) ∧ (F1 16).toInt = (F 15).toInt) (fun u => cPost dC dI cB cC cI cJ cZ a (rg 16 16 (rg 13 13 F u.1) u.1) (rg 13 13 X u.2) J R gf gn (va_A (CW cB cC cI cJ cZ a F X J R gf gn) s0)) (va_A (CW cB cC cI cJ cZ a F X J R gf gn) s0)) 0 0 (va_A (CW cB cC cI cJ cZ a F X J R gf gn) s0) := by
  refine Met.ofW (cc := cX6_startText) (maxL := 1) (ret := none) (by decide) rfl ?_
  intro p e s m args below meth c s₁ B9 hml hv
  obtain ⟨rfl, hsz0, hP, hK, hD0, hNW⟩ := hv
  have hx := B9.exec
  have hb := B9.bytes
  have hr := B9.returns
  have hts := atoms_spec (ws := vX6_startText) B9.pre
  have hown : s.vm.findClass RX6 = some m.cls := findClass_of_methodNamed B9.named
  have hlocks := B9.notSynchronized
  clear B9
  subst hsz0
  have hD := hD0.self (sz := s.heap.size)
  generalize hAe : va_A (CW cB cC cI cJ cZ a F X J R gf gn) s.heap.size = A at hD ⊢
  have hA : ∀ q : Nat, s.heap.size ≤ q → A q := fun q h => by rw [← hAe]; exact Or.inr h
  have hS : va_S A s.heap s.heap [] := va_S.rf
  have hcs : 0 + 0 ≤ (0 : Nat) ∧ 0 + 0 ≤ (0 : Nat) := ⟨Nat.le_refl 0, Nat.le_refl 0⟩
  have hl := lv_entry ([.ref (a 6)]) (n := 1) (Nat.le_of_ble_eq_true rfl)
  rw [lg_entry_eq]
  generalize (lg_sl ([.ref (a 6)]) ++ List.replicate (1 - (lg_sl ([.ref (a 6)])).length) Slot.unset).toArray = ls at hl ⊢
  have hl : lv_has ls 1 [(0, .ref (a 6))] := hl
  refine lv_aload_n hx hb dX6_startText_0 rfl (lv_at hl 0 rfl) ?_
  refine lv_aload_n hx hb dX6_startText_1 rfl (lv_at hl 0 rfl) ?_
  refine cg_6_4 hx hb hts inX6_startText_X6 hown hK hP (hts _ lkX6_startText_f25) dX6_startText_2 ?_
  have i_1 := i32r (F 15)
  refine cp_6_11 hx hb hts inX6_startText_X6 hown hK hP hD hS (hts _ lkX6_startText_f47) dX6_startText_5 (fun H locs hP hD hS => ?_)
  have hP : va_P (dC, dI) vwCl (CW cB cC cI cJ cZ a (va_up F 13 (oI ((F 15).toInt))) X J R gf gn) H := hP
  have hD : va_D A (CW cB cC cI cJ cZ a (va_up F 13 (oI ((F 15).toInt))) X J R gf gn) := hD
  have e_2 : (oI ((F 15).toInt)).toInt = (F 15).toInt := congrArg Int32.toInt (oI_toInt _)
  refine lv_aload_n hx hb dX6_startText_8 rfl (lv_at hl 0 rfl) ?_
  refine lv_aload_n hx hb dX6_startText_9 rfl (lv_at hl 0 rfl) ?_
  refine cg_6_4 hx hb hts inX6_startText_X6 hown hK hP (hts _ lkX6_startText_f25) dX6_startText_10 ?_
  refine tp_i (y := oI (F 15).toInt) rfl ?_
  refine cp_6_5 hx hb hts inX6_startText_X6 hown hK hP hD hS (hts _ lkX6_startText_f29) dX6_startText_13 (fun H locs hP hD hS => ?_)
  have hP : va_P (dC, dI) vwCl (CW cB cC cI cJ cZ a (va_up (va_up F 13 (oI ((F 15).toInt))) 16 (oI ((F 15).toInt))) X J R gf gn) H := hP
  have hD : va_D A (CW cB cC cI cJ cZ a (va_up (va_up F 13 (oI ((F 15).toInt))) 16 (oI ((F 15).toInt))) X J R gf gn) := hD
  have e_3 : (oI ((F 15).toInt)).toInt = (F 15).toInt := congrArg Int32.toInt (oI_toInt _)
  refine lv_aload_n hx hb dX6_startText_16 rfl (lv_at hl 0 rfl) ?_
  refine cg_6_2 hx hb hts inX6_startText_X6 hown hK hP (hts _ lkX6_startText_f18) dX6_startText_17 ?_
  refine lv_iconst (v := oI 0) hx hb dX6_startText_20 (by decide) ?_
  refine lv_aload_n hx hb dX6_startText_21 rfl (lv_at hl 0 rfl) ?_
  refine cg_6_3 hx hb hts inX6_startText_X6 hown hK hP (hts _ lkX6_startText_f22) dX6_startText_22 ?_
  refine lv_iconst (v := oI 0) hx hb dX6_startText_25 (by decide) ?_
  refine lv_aload_n hx hb dX6_startText_26 rfl (lv_at hl 0 rfl) ?_
  refine cg_6_4 hx hb hts inX6_startText_X6 hown hK hP (hts _ lkX6_startText_f25) dX6_startText_27 ?_
  refine tp_i (y := oI (F 15).toInt) rfl ?_
  refine cy_12_13 hx hb (hml.trans hl.1.symm) hown (hts _ lkX6_startText_l89) (hts _ lkX6_startText_nac) (hts _ lkX6_startText_sac) (hts _ lkX6_startText_zsys) hK hP hD hS (sp := 0) (dp := 0) (n := (F 15).toInt) (by omega) (by omega) (by omega) (by omega) (by omega) (Nat.le_of_ble_eq_true rfl) (Nat.le_of_ble_eq_true rfl) dX6_startText_30 (fun H locs hP hD hS => ?_)
  have hP : va_P (dC, dI) vwCl (CW cB cC cI cJ cZ a (va_up (va_up F 13 (oI ((F 15).toInt))) 16 (oI ((F 15).toInt))) (va_up X 13 (va_cpy (X 12) (X 13) (0 : Int).toNat (0 : Int).toNat ((F 15).toInt : Int).toNat)) J R gf gn) H := hP
  have hD : va_D A (CW cB cC cI cJ cZ a (va_up (va_up F 13 (oI ((F 15).toInt))) 16 (oI ((F 15).toInt))) (va_up X 13 (va_cpy (X 12) (X 13) (0 : Int).toNat (0 : Int).toNat ((F 15).toInt : Int).toNat)) J R gf gn) := hD
  have eF9 : rg 16 16 (rg 13 13 F (va_up (va_up F 13 (oI ((F 15).toInt))) 16 (oI ((F 15).toInt)))) (va_up (va_up F 13 (oI ((F 15).toInt))) 16 (oI ((F 15).toInt))) = va_up (va_up F 13 (oI ((F 15).toInt))) 16 (oI ((F 15).toInt)) := by funext k; simp only [rg, va_up]; (repeat' split) <;> first | with_reducible rfl | omega
  have eX9 : rg 13 13 X (va_up X 13 (va_cpy (X 12) (X 13) (0 : Int).toNat (0 : Int).toNat ((F 15).toInt : Int).toNat)) = va_up X 13 (va_cpy (X 12) (X 13) (0 : Int).toNat (0 : Int).toNat ((F 15).toInt : Int).toNat) := by funext k; simp only [rg, va_up]; (repeat' split) <;> first | with_reducible rfl | omega
  have hP9 : va_P (dC, dI) vwCl (CW cB cC cI cJ cZ a (rg 16 16 (rg 13 13 F (va_up (va_up F 13 (oI ((F 15).toInt))) 16 (oI ((F 15).toInt)))) (va_up (va_up F 13 (oI ((F 15).toInt))) 16 (oI ((F 15).toInt)))) (rg 13 13 X (va_up X 13 (va_cpy (X 12) (X 13) (0 : Int).toNat (0 : Int).toNat ((F 15).toInt : Int).toNat))) J R gf gn) H := by rw [eF9, eX9]; exact hP
  have hD9 : va_D A (CW cB cC cI cJ cZ a (rg 16 16 (rg 13 13 F (va_up (va_up F 13 (oI ((F 15).toInt))) 16 (oI ((F 15).toInt)))) (va_up (va_up F 13 (oI ((F 15).toInt))) 16 (oI ((F 15).toInt)))) (rg 13 13 X (va_up X 13 (va_cpy (X 12) (X 13) (0 : Int).toNat (0 : Int).toNat ((F 15).toInt : Int).toNat))) J R gf gn) := by rw [eF9, eX9]; exact hD
  have hpost : (0 ≤ (oI ((F 15).toInt)).toInt ∧ (oI ((F 15).toInt)).toInt ≤ (gn : Int)) ∧ (0 ≤ (oI ((F 15).toInt)).toInt ∧ (oI ((F 15).toInt)).toInt ≤ 2560) ∧ VB (va_cpy (X 12) (X 13) (0 : Int).toNat (0 : Int).toNat ((F 15).toInt : Int).toNat) ∧ (oI ((F 15).toInt)).toInt = (F 15).toInt := ⟨by omega, by omega, VB_cpy hru hrb, by omega⟩
  exact W.vret hx hb hr (fun t ht hW => ⟨⟨(va_up (va_up F 13 (oI ((F 15).toInt))) 16 (oI ((F 15).toInt)), va_up X 13 (va_cpy (X 12) (X 13) (0 : Int).toNat (0 : Int).toNat ((F 15).toInt : Int).toNat)), rfl, hpost, by rw [ht]; exact hP9, va_K.moved hW.alike hK, hD9⟩, hS.F ht⟩) hS.2.2 dX6_startText_33

set_option maxHeartbeats 4000000 in
set_option maxRecDepth 100000 in
/-- X6_takeBack -/
theorem c_takeBack (l : Launch) (dC : Nat → ClassId) (dI : Nat → Nat → Nat) (cB cC cI cJ cZ : ClassId) (a : Nat → Nat) (F : Nat → Int32) (X : Nat → Nat → Int32) (J : Nat → Nat → Int64) (R : Nat → Nat) (gf gn : Nat)  (hsb : 0 ≤ (F 16).toInt ∧ (F 16).toInt ≤ 2560) (hru : VB (X 12)) (hrb : VB (X 13)) (s0 : Nat) : Met l yX6_takeBack vX6_takeBack { frames := 2, cells := 0, slots := 0, locals := 120 } (va_Pc [.ref (a 6)] (cPre dC dI cB cC cI cJ cZ a F X J R gf gn s0)) (va_Qv (fun (u : (Nat → Int32) × (Nat → Nat → Int32)) => match u with | (F1, X1) => (0 ≤ (F1 15).toInt ∧ (F1 15).toInt ≤ 2560) ∧ VB (X1 12)) (fun u => cPost dC dI cB cC cI cJ cZ a (rg 15 15 F u.1) (rg 12 12 X u.2) J R gf gn (va_A (CW cB cC cI cJ cZ a F X J R gf gn) s0)) (va_A (CW cB cC cI cJ cZ a F X J R gf gn) s0)) 0 0 (va_A (CW cB cC cI cJ cZ a F X J R gf gn) s0) := by
  refine Met.ofW (cc := cX6_takeBack) (maxL := 1) (ret := none) (by decide) rfl ?_
  intro p e s m args below meth c s₁ B9 hml hv
  obtain ⟨rfl, hsz0, hP, hK, hD0, hNW⟩ := hv
  have hx := B9.exec
  have hb := B9.bytes
  have hr := B9.returns
  have hts := atoms_spec (ws := vX6_takeBack) B9.pre
  have hown : s.vm.findClass RX6 = some m.cls := findClass_of_methodNamed B9.named
  have hlocks := B9.notSynchronized
  clear B9
  subst hsz0
  have hD := hD0.self (sz := s.heap.size)
  generalize hAe : va_A (CW cB cC cI cJ cZ a F X J R gf gn) s.heap.size = A at hD ⊢
  have hA : ∀ q : Nat, s.heap.size ≤ q → A q := fun q h => by rw [← hAe]; exact Or.inr h
  have hS : va_S A s.heap s.heap [] := va_S.rf
  have hcs : 0 + 0 ≤ (0 : Nat) ∧ 0 + 0 ≤ (0 : Nat) := ⟨Nat.le_refl 0, Nat.le_refl 0⟩
  have hl := lv_entry ([.ref (a 6)]) (n := 1) (Nat.le_of_ble_eq_true rfl)
  rw [lg_entry_eq]
  generalize (lg_sl ([.ref (a 6)]) ++ List.replicate (1 - (lg_sl ([.ref (a 6)])).length) Slot.unset).toArray = ls at hl ⊢
  have hl : lv_has ls 1 [(0, .ref (a 6))] := hl
  refine lv_aload_n hx hb dX6_takeBack_0 rfl (lv_at hl 0 rfl) ?_
  refine cg_6_3 hx hb hts inX6_takeBack_X6 hown hK hP (hts _ lkX6_takeBack_f22) dX6_takeBack_1 ?_
  refine lv_iconst (v := oI 0) hx hb dX6_takeBack_4 (by decide) ?_
  refine lv_aload_n hx hb dX6_takeBack_5 rfl (lv_at hl 0 rfl) ?_
  refine cg_6_2 hx hb hts inX6_takeBack_X6 hown hK hP (hts _ lkX6_takeBack_f18) dX6_takeBack_6 ?_
  refine lv_iconst (v := oI 0) hx hb dX6_takeBack_9 (by decide) ?_
  refine lv_aload_n hx hb dX6_takeBack_10 rfl (lv_at hl 0 rfl) ?_
  refine cg_6_5 hx hb hts inX6_takeBack_X6 hown hK hP (hts _ lkX6_takeBack_f29) dX6_takeBack_11 ?_
  have i_1 := i32r (F 16)
  refine cy_13_12 hx hb (hml.trans hl.1.symm) hown (hts _ lkX6_takeBack_l89) (hts _ lkX6_takeBack_nac) (hts _ lkX6_takeBack_sac) (hts _ lkX6_takeBack_zsys) hK hP hD hS (sp := 0) (dp := 0) (n := (F 16).toInt) (by omega) (by omega) (by omega) (by omega) (by omega) (Nat.le_of_ble_eq_true rfl) (Nat.le_of_ble_eq_true rfl) dX6_takeBack_14 (fun H locs hP hD hS => ?_)
  have hP : va_P (dC, dI) vwCl (CW cB cC cI cJ cZ a F (va_up X 12 (va_cpy (X 13) (X 12) (0 : Int).toNat (0 : Int).toNat ((F 16).toInt : Int).toNat)) J R gf gn) H := hP
  have hD : va_D A (CW cB cC cI cJ cZ a F (va_up X 12 (va_cpy (X 13) (X 12) (0 : Int).toNat (0 : Int).toNat ((F 16).toInt : Int).toNat)) J R gf gn) := hD
  refine lv_aload_n hx hb dX6_takeBack_17 rfl (lv_at hl 0 rfl) ?_
  refine lv_aload_n hx hb dX6_takeBack_18 rfl (lv_at hl 0 rfl) ?_
  refine cg_6_5 hx hb hts inX6_takeBack_X6 hown hK hP (hts _ lkX6_takeBack_f29) dX6_takeBack_19 ?_
  refine cp_6_4 hx hb hts inX6_takeBack_X6 hown hK hP hD hS (hts _ lkX6_takeBack_f25) dX6_takeBack_22 (fun H locs hP hD hS => ?_)
  have hP : va_P (dC, dI) vwCl (CW cB cC cI cJ cZ a (va_up F 15 (oI ((F 16).toInt))) (va_up X 12 (va_cpy (X 13) (X 12) (0 : Int).toNat (0 : Int).toNat ((F 16).toInt : Int).toNat)) J R gf gn) H := hP
  have hD : va_D A (CW cB cC cI cJ cZ a (va_up F 15 (oI ((F 16).toInt))) (va_up X 12 (va_cpy (X 13) (X 12) (0 : Int).toNat (0 : Int).toNat ((F 16).toInt : Int).toNat)) J R gf gn) := hD
  have e_2 : (oI ((F 16).toInt)).toInt = (F 16).toInt := congrArg Int32.toInt (oI_toInt _)
  have eF9 : rg 15 15 F (va_up F 15 (oI ((F 16).toInt))) = va_up F 15 (oI ((F 16).toInt)) := by funext k; simp only [rg, va_up]; (repeat' split) <;> first | with_reducible rfl | omega
  have eX9 : rg 12 12 X (va_up X 12 (va_cpy (X 13) (X 12) (0 : Int).toNat (0 : Int).toNat ((F 16).toInt : Int).toNat)) = va_up X 12 (va_cpy (X 13) (X 12) (0 : Int).toNat (0 : Int).toNat ((F 16).toInt : Int).toNat) := by funext k; simp only [rg, va_up]; (repeat' split) <;> first | with_reducible rfl | omega
  have hP9 : va_P (dC, dI) vwCl (CW cB cC cI cJ cZ a (rg 15 15 F (va_up F 15 (oI ((F 16).toInt)))) (rg 12 12 X (va_up X 12 (va_cpy (X 13) (X 12) (0 : Int).toNat (0 : Int).toNat ((F 16).toInt : Int).toNat))) J R gf gn) H := by rw [eF9, eX9]; exact hP
  have hD9 : va_D A (CW cB cC cI cJ cZ a (rg 15 15 F (va_up F 15 (oI ((F 16).toInt)))) (rg 12 12 X (va_up X 12 (va_cpy (X 13) (X 12) (0 : Int).toNat (0 : Int).toNat ((F 16).toInt : Int).toNat))) J R gf gn) := by rw [eF9, eX9]; exact hD
  have hpost : (0 ≤ (oI ((F 16).toInt)).toInt ∧ (oI ((F 16).toInt)).toInt ≤ 2560) ∧ VB (va_cpy (X 13) (X 12) (0 : Int).toNat (0 : Int).toNat ((F 16).toInt : Int).toNat) := ⟨by omega, VB_cpy hrb hru⟩
  exact W.vret hx hb hr (fun t ht hW => ⟨⟨(va_up F 15 (oI ((F 16).toInt)), va_up X 12 (va_cpy (X 13) (X 12) (0 : Int).toNat (0 : Int).toNat ((F 16).toInt : Int).toNat)), rfl, hpost, by rw [ht]; exact hP9, va_K.moved hW.alike hK, hD9⟩, hS.F ht⟩) hS.2.2 dX6_takeBack_25

set_option maxHeartbeats 4000000 in
set_option maxRecDepth 100000 in
/-- X0_remember -/
theorem c_remember (l : Launch) (dC : Nat → ClassId) (dI : Nat → Nat → Nat) (cB cC cI cJ cZ : ClassId) (a : Nat → Nat) (F : Nat → Int32) (X : Nat → Nat → Int32) (J : Nat → Nat → Int64) (R : Nat → Nat) (gf gn : Nat) (D : Int → Nat) (ee : Int) (hgf : gf ≤ 67600) (hgn : gn ≤ 63261) (hft : 0 ≤ (F 1).toInt ∧ (F 1).toInt ≤ 101) (hnt : 0 ≤ (F 13).toInt ∧ (F 13).toInt ≤ (gn : Int)) (hnb : NB (X 6) gn) (hfi : FI (X 1) D gf (F 0).toInt (F 12).toInt) (hfr : FRM (X 1) (X 2) (X 3) (X 5) (F 1).toInt (F 12).toInt ee) (s0 : Nat) : Met l yX0_remember vX0_remember { frames := 2, cells := 0, slots := 0, locals := 83 } (va_Pc [.ref (a 0)] (cPre dC dI cB cC cI cJ cZ a F X J R gf gn s0)) (va_Qv (fun (u : (Nat → Int32) × (Nat → Nat → Int32)) => match u with | (F1, X1) => FRM (X 1) (X 2) (X 3) (X1 5) (F 1).toInt (F 12).toInt ee ∧ PND (X 1) (X 3) (X1 5) (F 1).toInt (F 12).toInt ee ∧ NB (X1 6) gn) (fun u => cPost dC dI cB cC cI cJ cZ a F (rg 5 7 X u.2) J R gf gn (va_A (CW cB cC cI cJ cZ a F X J R gf gn) s0)) (va_A (CW cB cC cI cJ cZ a F X J R gf gn) s0)) 0 0 (va_A (CW cB cC cI cJ cZ a F X J R gf gn) s0) := by
  refine Met.ofW (cc := cX0_remember) (maxL := 1) (ret := none) (by decide) rfl ?_
  intro p e s m args below meth c s₁ B9 hml hv
  obtain ⟨rfl, hsz0, hP, hK, hD0, hNW⟩ := hv
  have hx := B9.exec
  have hb := B9.bytes
  have hr := B9.returns
  have hts := atoms_spec (ws := vX0_remember) B9.pre
  have hown : s.vm.findClass RX0 = some m.cls := findClass_of_methodNamed B9.named
  have hlocks := B9.notSynchronized
  clear B9
  subst hsz0
  have hD := hD0.self (sz := s.heap.size)
  generalize hAe : va_A (CW cB cC cI cJ cZ a F X J R gf gn) s.heap.size = A at hD ⊢
  have hA : ∀ q : Nat, s.heap.size ≤ q → A q := fun q h => by rw [← hAe]; exact Or.inr h
  have hS : va_S A s.heap s.heap [] := va_S.rf
  have hcs : 0 + 0 ≤ (0 : Nat) ∧ 0 + 0 ≤ (0 : Nat) := ⟨Nat.le_refl 0, Nat.le_refl 0⟩
  have hl := lv_entry ([.ref (a 0)]) (n := 1) (Nat.le_of_ble_eq_true rfl)
  rw [lg_entry_eq]
  generalize (lg_sl ([.ref (a 0)]) ++ List.replicate (1 - (lg_sl ([.ref (a 0)])).length) Slot.unset).toArray = ls at hl ⊢
  have hl : lv_has ls 1 [(0, .ref (a 0))] := hl
  refine lv_aload_n hx hb dX0_remember_0 rfl (lv_at hl 0 rfl) ?_
  refine cg_0_7 hx hb hts inX0_remember_X0 hown hK hP (hts _ lkX0_remember_f12) dX0_remember_1 ?_
  refine lv_aload_n hx hb dX0_remember_4 rfl (lv_at hl 0 rfl) ?_
  refine cg_0_0 hx hb hts inX0_remember_X0 hown hK hP (hts _ lkX0_remember_f43) dX0_remember_5 ?_
  refine cgN_1_2 hx hb hts inX0_remember_X1 hown hK hP (va_Nw.use rfl hNW.2.2.1) dX0_remember_8 ?_
  have i_1 := i32r (F 12)
  refine lv_aload_n hx hb dX0_remember_11 rfl (lv_at hl 0 rfl) ?_
  refine cg_0_1 hx hb hts inX0_remember_X0 hown hK hP (hts _ lkX0_remember_f47) dX0_remember_12 ?_
  refine cgN_6_11 hx hb hts inX0_remember_X6 hown hK hP (va_Nw.use rfl hNW.2.2.2.2.2.2.2.2.1) dX0_remember_15 ?_
  have i_2 := i32r (F 13)
  refine lv_aload_n hx hb dX0_remember_18 rfl (lv_at hl 0 rfl) ?_
  refine cg_0_3 hx hb hts inX0_remember_X0 hown hK hP (hts _ lkX0_remember_f60) dX0_remember_19 ?_
  refine cgN_9_5 hx hb hts inX0_remember_X9 hown hK hP (va_Nw.use rfl hNW.2.2.2.2.2.2.2.2.2.2.1) dX0_remember_22 ?_
  have i_3 := i32r (F 23)
  refine ccp_vV (As := [.int (oI ((F 12).toInt)), .int (oI ((F 13).toInt)), .int (oI ((F 23).toInt))]) (rest := []) (gF := fun _ => F) (gX := fun X9 => rg 5 7 X X9) ⟨hx, hb, hml, hown, hts⟩ (c_rememberF l dC dI cB cC cI cJ cZ a F X J R gf gn ((F 12).toInt) ((F 13).toInt) ((F 23).toInt)  (i32r _) (i32r _) (i32r _) (show 0 ≤ (F 1).toInt ∧ (F 1).toInt ≤ 101 from by first | assumption | omega)  s.heap.size) (cwV 3 hts kX0_remember_X2_remember_193 rfl rfl rfl (by decide +kernel) ⟨Nat.le_of_ble_eq_true rfl, Nat.le_of_ble_eq_true rfl⟩) (va_recv hK hP (ci := 2) (q0 := 2) rfl rfl) hK hNW hP hD hS hA rfl rfl hl.1 (lv_room (Nat.le_of_ble_eq_true rfl)) dX0_remember_25 hcs (fun F_4 X_5 hw_6 H locs hP hD hS => ?_)
  replace hw_6 : ((F 1).toInt < 101 ∧ X_5 5 = upd (X 5) (F 1).toInt.toNat (oI ((F 12).toInt)) ∧ X_5 6 = upd (X 6) (F 1).toInt.toNat (oI ((F 13).toInt))) ∨ ((F 1).toInt = 101 ∧ X_5 5 = (X 5) ∧ X_5 6 = (X 6)) := hw_6
  have hre := hw_6
  clear hw_6
  obtain ⟨hfr2, hpn2⟩ := FRM_rem hfi hgf hfr hft (hre.elim (fun h => Or.inl ⟨h.1, h.2.1⟩) (fun h => Or.inr ⟨h.1, h.2.1⟩))
  have hnb2 : NB (X_5 6) gn := hre.elim (fun h => by rw [h.2.2]; exact NB_upd hnb (by omega) hgn) (fun h => by rw [h.2.2]; exact hnb)
  have eX9 : rg 5 7 X (rg 5 7 X X_5) = rg 5 7 X X_5 := by funext k; simp only [rg, va_up]; (repeat' split) <;> first | with_reducible rfl | omega
  have hP9 : va_P (dC, dI) vwCl (CW cB cC cI cJ cZ a F (rg 5 7 X (rg 5 7 X X_5)) J R gf gn) H := by rw [eX9]; exact hP
  have hD9 : va_D A (CW cB cC cI cJ cZ a F (rg 5 7 X (rg 5 7 X X_5)) J R gf gn) := by rw [eX9]; exact hD
  have hpost : FRM (X 1) (X 2) (X 3) (X_5 5) (F 1).toInt (F 12).toInt ee ∧ PND (X 1) (X 3) (X_5 5) (F 1).toInt (F 12).toInt ee ∧ NB (X_5 6) gn := ⟨hfr2, hpn2, hnb2⟩
  exact W.vret hx hb hr (fun t ht hW => ⟨⟨(F, rg 5 7 X X_5), rfl, hpost, by rw [ht]; exact hP9, va_K.moved hW.alike hK, hD9⟩, hS.F ht⟩) hS.2.2 dX0_remember_28

set_option maxHeartbeats 4000000 in
set_option maxRecDepth 100000 in
/-- X0_definesSymbol -/
theorem c_definesSymbol (l : Launch) (dC : Nat → ClassId) (dI : Nat → Nat → Nat) (cB cC cI cJ cZ : ClassId) (a : Nat → Nat) (F : Nat → Int32) (X : Nat → Nat → Int32) (J : Nat → Nat → Int64) (R : Nat → Nat) (gf gn : Nat) (x : Int)  (ix : (-2147483648 ≤ x ∧ x < 2147483648)) (hgf : gf ≤ 67600) (hsp : SPR (X 1)) (hx2 : x < 1073741824) (s0 : Nat) : Met l yX0_definesSymbol vX0_definesSymbol { frames := 3, cells := 0, slots := 0, locals := 105 } (va_Pc [.ref (a 0), .int (oI x)] (cPre dC dI cB cC cI cJ cZ a F X J R gf gn s0)) (va_Qi (fun (r : Int32) (_ : Unit) => (r).toInt = 0 ∨ ((r).toInt = 1 ∧ AF (X 1) gf (AF (X 1) gf (x + 1)) < AF (X 1) gf x ∧ 0 ≤ x ∧ x < (gf : Int))) (fun _ => cPost dC dI cB cC cI cJ cZ a F X J R gf gn (va_A (CW cB cC cI cJ cZ a F X J R gf gn) s0)) (va_A (CW cB cC cI cJ cZ a F X J R gf gn) s0)) 0 0 (va_A (CW cB cC cI cJ cZ a F X J R gf gn) s0) := by
  refine Met.ofW (cc := cX0_definesSymbol) (maxL := 3) (ret := (some .boolean)) (by decide) rfl ?_
  intro p e s m args below meth c s₁ B9 hml hv
  obtain ⟨rfl, hsz0, hP, hK, hD0, hNW⟩ := hv
  have hx := B9.exec
  have hb := B9.bytes
  have hr := B9.returns
  have hts := atoms_spec (ws := vX0_definesSymbol) B9.pre
  have hown : s.vm.findClass RX0 = some m.cls := findClass_of_methodNamed B9.named
  have hlocks := B9.notSynchronized
  clear B9
  subst hsz0
  have hD := hD0.self (sz := s.heap.size)
  generalize hAe : va_A (CW cB cC cI cJ cZ a F X J R gf gn) s.heap.size = A at hD ⊢
  have hA : ∀ q : Nat, s.heap.size ≤ q → A q := fun q h => by rw [← hAe]; exact Or.inr h
  have hS : va_S A s.heap s.heap [] := va_S.rf
  have hcs : 0 + 0 ≤ (0 : Nat) ∧ 0 + 0 ≤ (0 : Nat) := ⟨Nat.le_refl 0, Nat.le_refl 0⟩
  have hl := lv_entry ([.ref (a 0), .int (oI x)]) (n := 3) (Nat.le_of_ble_eq_true rfl)
  rw [lg_entry_eq]
  generalize (lg_sl ([.ref (a 0), .int (oI x)]) ++ List.replicate (3 - (lg_sl ([.ref (a 0), .int (oI x)])).length) Slot.unset).toArray = ls at hl ⊢
  have hl : lv_has ls 3 [(0, .ref (a 0)), (1, .int (oI x))] := hl
  refine lv_aload_n hx hb dX0_definesSymbol_0 rfl (lv_at hl 0 rfl) ?_
  refine cg_0_0 hx hb hts inX0_definesSymbol_X0 hown hK hP (hts _ lkX0_definesSymbol_f43) dX0_definesSymbol_1 ?_
  refine lv_aload_n hx hb dX0_definesSymbol_4 rfl (lv_at hl 0 rfl) ?_
  refine cg_0_0 hx hb hts inX0_definesSymbol_X0 hown hK hP (hts _ lkX0_definesSymbol_f43) dX0_definesSymbol_5 ?_
  refine lv_iload_n hx hb dX0_definesSymbol_8 rfl (lv_at hl 1 rfl) ?_
  refine lv_iconst (v := oI 1) hx hb dX0_definesSymbol_9 (by decide) ?_
  refine ccs_iV (As := [.int (oI x), .int (oI 1)]) (rest := [.ref (a 1)]) ⟨hx, hb, hml, hown, hts⟩ (c_part1 l dC dI cB cC cI cJ cZ a F X J R gf gn x  (by omega) (show gf ≤ 67600 from by first | assumption | omega) (show SPR (X 1) from by first | assumption | omega) (show x < 1073741824 from by first | assumption | omega) s.heap.size) (cwV 2 hts kX0_definesSymbol_X1_part_196 rfl rfl rfl (by decide +kernel) ⟨Nat.le_of_ble_eq_true rfl, Nat.le_of_ble_eq_true rfl⟩) (va_recv hK hP (ci := 1) (q0 := 1) rfl rfl) hK hNW hP hD hS hA rfl rfl hl.1 (lv_room (Nat.le_of_ble_eq_true rfl)) dX0_definesSymbol_10 hcs (fun r_1 hw_2 H locs hP hD hS => ?_)
  replace hw_2 : (r_1).toInt = AF (X 1) gf (x + 1) ∧ x + 1 < (r_1).toInt ∧ (r_1).toInt ≤ x + 67601 := hw_2
  obtain ⟨ep1, lp1, up1⟩ := hw_2
  have i_3 := i32r r_1
  refine ccs_iV (As := [.int (oI r_1.toInt)]) (rest := []) ⟨hx, hb, hml, hown, hts⟩ (c_nameOf l dC dI cB cC cI cJ cZ a F X J R gf gn r_1.toInt  (i32r _) (show gf ≤ 67600 from by first | assumption | omega)  H.size) (cwV 1 hts kX0_definesSymbol_X1_nameOf_200 rfl rfl rfl (by decide +kernel) ⟨Nat.le_of_ble_eq_true rfl, Nat.le_of_ble_eq_true rfl⟩) (va_recv hK hP (ci := 1) (q0 := 1) rfl rfl) hK hNW hP hD hS hA rfl rfl hl.1 (lv_room (Nat.le_of_ble_eq_true rfl)) dX0_definesSymbol_13 hcs (fun r_4 hw_5 H locs hP hD hS => ?_)
  have i_6 := i32r r_4
  refine lv_istore_n (lv' := [(2, .int (oI r_4.toInt)), (0, .ref (a 0)), (1, .int (oI x))]) hx hb dX0_definesSymbol_16 rfl hl (by decide) rfl (fun ls hl => ?_)
  refine lv_aload_n hx hb dX0_definesSymbol_17 rfl (lv_at hl 1 rfl) ?_
  refine cg_0_0 hx hb hts inX0_definesSymbol_X0 hown hK hP (hts _ lkX0_definesSymbol_f43) dX0_definesSymbol_18 ?_
  refine lv_iload_n hx hb dX0_definesSymbol_21 rfl (lv_at hl 2 rfl) ?_
  refine ccs_iV (As := [.int (oI x)]) (rest := []) ⟨hx, hb, hml, hown, hts⟩ (c_parts l dC dI cB cC cI cJ cZ a F X J R gf gn x  (by omega) (show gf ≤ 67600 from by first | assumption | omega) (show SPR (X 1) from by first | assumption | omega)  H.size) (cwV 1 hts kX0_definesSymbol_X1_parts_203 rfl rfl rfl (by decide +kernel) ⟨Nat.le_of_ble_eq_true rfl, Nat.le_of_ble_eq_true rfl⟩) (va_recv hK hP (ci := 1) (q0 := 1) rfl rfl) hK hNW hP hD hS hA rfl rfl hl.1 (lv_room (Nat.le_of_ble_eq_true rfl)) dX0_definesSymbol_22 hcs (fun r_7 hw_8 H locs hP hD hS => ?_)
  replace hw_8 : 0 ≤ (r_7).toInt ∧ (r_7).toInt ≤ 67600 ∧ (1 ≤ (r_7).toInt → x + 1 < AF (X 1) gf x ∧ 0 ≤ x ∧ x < (gf : Int)) ∧ (2 ≤ (r_7).toInt → AF (X 1) gf (x + 1) < AF (X 1) gf x) ∧ (3 ≤ (r_7).toInt → AF (X 1) gf (AF (X 1) gf (x + 1)) < AF (X 1) gf x) := hw_8
  have hpa := hw_8
  clear hw_8
  have i_9 := i32r r_7
  refine lv_iconst (v := oI 3) hx hb dX0_definesSymbol_25 (by decide) ?_
  refine ci_ne (tgt := 39) hx hb (i32r _) (by decide) dX0_definesSymbol_26 (by decide) (fun c_10 => ?_) (fun c_10 => ?_)
  · refine lv_iconst (v := oI 0) hx hb dX0_definesSymbol_39 (by decide) ?_
    have e0 : (oI 0).toInt = 0 := by decide
    have hpost : (oI 0).toInt = 0 ∨ ((oI 0).toInt = 1 ∧ AF (X 1) gf (AF (X 1) gf (x + 1)) < AF (X 1) gf x ∧ 0 ≤ x ∧ x < (gf : Int)) := by first | assumption | omega | (with_reducible rfl) | ((repeat' apply And.intro) <;> first | assumption | omega | (with_reducible rfl))
    exact W.zret (v := (oI 0)) hx hb hr (by first | rfl | decide | exact zb9 (by omega)) (fun t ht hW => ⟨⟨(oI 0), (), rfl, hpost, by rw [ht]; exact hP, va_K.moved hW.alike hK, hD⟩, hS.F ht⟩) hS.2.2 dX0_definesSymbol_40
  · refine lv_iload_n hx hb dX0_definesSymbol_29 rfl (lv_at hl 0 rfl) ?_
    refine lv_bipush (v := oI 8) hx hb dX0_definesSymbol_30 (by decide) ?_
    refine ci_le (tgt := 39) hx hb (i32r _) (by decide) dX0_definesSymbol_32 (by decide) (fun c_11 => ?_) (fun c_11 => ?_)
    · refine lv_iconst (v := oI 0) hx hb dX0_definesSymbol_39 (by decide) ?_
      have e0 : (oI 0).toInt = 0 := by decide
      have hpost : (oI 0).toInt = 0 ∨ ((oI 0).toInt = 1 ∧ AF (X 1) gf (AF (X 1) gf (x + 1)) < AF (X 1) gf x ∧ 0 ≤ x ∧ x < (gf : Int)) := by first | assumption | omega | (with_reducible rfl) | ((repeat' apply And.intro) <;> first | assumption | omega | (with_reducible rfl))
      exact W.zret (v := (oI 0)) hx hb hr (by first | rfl | decide | exact zb9 (by omega)) (fun t ht hW => ⟨⟨(oI 0), (), rfl, hpost, by rw [ht]; exact hP, va_K.moved hW.alike hK, hD⟩, hS.F ht⟩) hS.2.2 dX0_definesSymbol_40
    · refine lv_iconst (v := oI 1) hx hb dX0_definesSymbol_35 (by decide) ?_
      refine lv_goto (tgt := 40) hx hb dX0_definesSymbol_36 (by decide) ?_
      have e0 : (oI 1).toInt = 1 := by decide
      have hpost : (oI 1).toInt = 0 ∨ ((oI 1).toInt = 1 ∧ AF (X 1) gf (AF (X 1) gf (x + 1)) < AF (X 1) gf x ∧ 0 ≤ x ∧ x < (gf : Int)) := by first | assumption | omega | (with_reducible rfl) | ((repeat' apply And.intro) <;> first | assumption | omega | (with_reducible rfl))
      exact W.zret (v := (oI 1)) hx hb hr (by first | rfl | decide | exact zb9 (by omega)) (fun t ht hW => ⟨⟨(oI 1), (), rfl, hpost, by rw [ht]; exact hP, va_K.moved hW.alike hK, hD⟩, hS.F ht⟩) hS.2.2 dX0_definesSymbol_40

set_option maxHeartbeats 4000000 in
set_option maxRecDepth 100000 in
/-- X0_headMeaning -/
theorem c_headMeaning (l : Launch) (dC : Nat → ClassId) (dI : Nat → Nat → Nat) (cB cC cI cJ cZ : ClassId) (a : Nat → Nat) (F : Nat → Int32) (X : Nat → Nat → Int32) (J : Nat → Nat → Int64) (R : Nat → Nat) (gf gn : Nat) (x : Int)  (ix : (-2147483648 ≤ x ∧ x < 2147483648)) (hgf : gf ≤ 67600) (hgn : gn ≤ 63261) (hnt : 0 ≤ (F 13).toInt ∧ (F 13).toInt ≤ (gn : Int)) (hst : 0 ≤ (F 23).toInt ∧ (F 23).toInt ≤ 606) (hsy : 0 ≤ (F 15).toInt ∧ (F 15).toInt ≤ 2560) (hru : VB (X 12)) (s0 : Nat) : Met l yX0_headMeaning vX0_headMeaning { frames := 3, cells := 0, slots := 0, locals := 106 } (va_Pc [.ref (a 0), .int (oI x)] (cPre dC dI cB cC cI cJ cZ a F X J R gf gn s0)) (va_Qi (fun (r : Int32) (_ : Unit) => True) (fun _ => cPost dC dI cB cC cI cJ cZ a F X J R gf gn (va_A (CW cB cC cI cJ cZ a F X J R gf gn) s0)) (va_A (CW cB cC cI cJ cZ a F X J R gf gn) s0)) 0 0 (va_A (CW cB cC cI cJ cZ a F X J R gf gn) s0) := by
  refine Met.ofW (cc := cX0_headMeaning) (maxL := 3) (ret := (some .int)) (by decide) rfl ?_
  intro p e s m args below meth c s₁ B9 hml hv
  obtain ⟨rfl, hsz0, hP, hK, hD0, hNW⟩ := hv
  have hx := B9.exec
  have hb := B9.bytes
  have hr := B9.returns
  have hts := atoms_spec (ws := vX0_headMeaning) B9.pre
  have hown : s.vm.findClass RX0 = some m.cls := findClass_of_methodNamed B9.named
  have hlocks := B9.notSynchronized
  clear B9
  subst hsz0
  have hD := hD0.self (sz := s.heap.size)
  generalize hAe : va_A (CW cB cC cI cJ cZ a F X J R gf gn) s.heap.size = A at hD ⊢
  have hA : ∀ q : Nat, s.heap.size ≤ q → A q := fun q h => by rw [← hAe]; exact Or.inr h
  have hS : va_S A s.heap s.heap [] := va_S.rf
  have hcs : 0 + 0 ≤ (0 : Nat) ∧ 0 + 0 ≤ (0 : Nat) := ⟨Nat.le_refl 0, Nat.le_refl 0⟩
  have hl := lv_entry ([.ref (a 0), .int (oI x)]) (n := 3) (Nat.le_of_ble_eq_true rfl)
  rw [lg_entry_eq]
  generalize (lg_sl ([.ref (a 0), .int (oI x)]) ++ List.replicate (3 - (lg_sl ([.ref (a 0), .int (oI x)])).length) Slot.unset).toArray = ls at hl ⊢
  have hl : lv_has ls 3 [(0, .ref (a 0)), (1, .int (oI x))] := hl
  refine lv_aload_n hx hb dX0_headMeaning_0 rfl (lv_at hl 0 rfl) ?_
  refine cg_0_0 hx hb hts inX0_headMeaning_X0 hown hK hP (hts _ lkX0_headMeaning_f43) dX0_headMeaning_1 ?_
  refine lv_iload_n hx hb dX0_headMeaning_4 rfl (lv_at hl 1 rfl) ?_
  refine ccs_iV (As := [.int (oI x)]) (rest := []) ⟨hx, hb, hml, hown, hts⟩ (c_head l dC dI cB cC cI cJ cZ a F X J R gf gn x  (by omega) (show gf ≤ 67600 from by first | assumption | omega)  s.heap.size) (cwV 1 hts kX0_headMeaning_X1_head_183 rfl rfl rfl (by decide +kernel) ⟨Nat.le_of_ble_eq_true rfl, Nat.le_of_ble_eq_true rfl⟩) (va_recv hK hP (ci := 1) (q0 := 1) rfl rfl) hK hNW hP hD hS hA rfl rfl hl.1 (lv_room (Nat.le_of_ble_eq_true rfl)) dX0_headMeaning_5 hcs (fun r_1 hw_2 H locs hP hD hS => ?_)
  have i_3 := i32r r_1
  refine lv_istore_n (lv' := [(2, .int (oI r_1.toInt)), (0, .ref (a 0)), (1, .int (oI x))]) hx hb dX0_headMeaning_8 rfl hl (by decide) rfl (fun ls hl => ?_)
  refine lv_iload_n hx hb dX0_headMeaning_9 rfl (lv_at hl 0 rfl) ?_
  refine lv_iconst (v := oI (-1)) hx hb dX0_headMeaning_10 (by decide) ?_
  refine ci_ne (tgt := 18) hx hb (i32r _) (by decide) dX0_headMeaning_11 (by decide) (fun c_4 => ?_) (fun c_4 => ?_)
  · refine lv_aload_n hx hb dX0_headMeaning_18 rfl (lv_at hl 1 rfl) ?_
    refine cg_0_3 hx hb hts inX0_headMeaning_X0 hown hK hP (hts _ lkX0_headMeaning_f60) dX0_headMeaning_19 ?_
    refine lv_iload_n hx hb dX0_headMeaning_22 rfl (lv_at hl 0 rfl) ?_
    refine lv_aload_n hx hb dX0_headMeaning_23 rfl (lv_at hl 1 rfl) ?_
    refine cg_0_3 hx hb hts inX0_headMeaning_X0 hown hK hP (hts _ lkX0_headMeaning_f60) dX0_headMeaning_24 ?_
    refine cgN_9_5 hx hb hts inX0_headMeaning_X9 hown hK hP (va_Nw.use rfl hNW.2.2.2.2.2.2.2.2.2.2.1) dX0_headMeaning_27 ?_
    have i_5 := i32r (F 23)
    refine ccs_iV (As := [.int (oI r_1.toInt), .int (oI ((F 23).toInt))]) (rest := []) ⟨hx, hb, hml, hown, hts⟩ (c_meaning l dC dI cB cC cI cJ cZ a F X J R gf gn r_1.toInt ((F 23).toInt)  (i32r _) (i32r _) (show gn ≤ 63261 from by first | assumption | omega) (show 0 ≤ (F 13).toInt ∧ (F 13).toInt ≤ (gn : Int) from by first | assumption | omega) (show 0 ≤ (F 23).toInt ∧ (F 23).toInt ≤ 606 from by first | assumption | omega) (show 0 ≤ (F 15).toInt ∧ (F 15).toInt ≤ 2560 from by first | assumption | omega) (show VB (X 12) from by first | assumption | omega)  H.size) (cwV 2 hts kX0_headMeaning_X9_meaning_227 rfl rfl rfl (by decide +kernel) ⟨Nat.le_of_ble_eq_true rfl, Nat.le_of_ble_eq_true rfl⟩) (va_recv hK hP (ci := 9) (q0 := 9) rfl rfl) hK hNW hP hD hS hA rfl rfl hl.1 (lv_room (Nat.le_of_ble_eq_true rfl)) dX0_headMeaning_30 hcs (fun r_6 hw_7 H locs hP hD hS => ?_)
    have i_8 := i32r r_6
    have hpost : True := trivial
    exact W.iret (v := (oI r_6.toInt)) hx hb hr (fun t ht hW => ⟨⟨(oI r_6.toInt), (), rfl, hpost, by rw [ht]; exact hP, va_K.moved hW.alike hK, hD⟩, hS.F ht⟩) hS.2.2 dX0_headMeaning_33
  · refine lv_iconst (v := oI (-1)) hx hb dX0_headMeaning_14 (by decide) ?_
    refine lv_goto (tgt := 33) hx hb dX0_headMeaning_15 (by decide) ?_
    have hpost : True := trivial
    exact W.iret (v := (oI ((-1)))) hx hb hr (fun t ht hW => ⟨⟨(oI ((-1))), (), rfl, hpost, by rw [ht]; exact hP, va_K.moved hW.alike hK, hD⟩, hS.F ht⟩) hS.2.2 dX0_headMeaning_33

set_option maxHeartbeats 4000000 in
set_option maxRecDepth 100000 in
/-- X0_canExpand -/
theorem c_canExpand (l : Launch) (dC : Nat → ClassId) (dI : Nat → Nat → Nat) (cB cC cI cJ cZ : ClassId) (a : Nat → Nat) (F : Nat → Int32) (X : Nat → Nat → Int32) (J : Nat → Nat → Int64) (R : Nat → Nat) (gf gn : Nat) (x : Int) (D : Int → Nat) (ee : Int) (ix : (-2147483648 ≤ x ∧ x < 2147483648)) (hgf : gf ≤ 67600) (hgn : gn ≤ 63261) (hft : 0 ≤ (F 1).toInt ∧ (F 1).toInt ≤ 101) (hnt : 0 ≤ (F 13).toInt ∧ (F 13).toInt ≤ (gn : Int)) (hnb : NB (X 6) gn) (hfi : FI (X 1) D gf (F 0).toInt (F 12).toInt) (hfr : FRM (X 1) (X 2) (X 3) (X 5) (F 1).toInt (F 12).toInt ee) (s0 : Nat) : Met l yX0_canExpand vX0_canExpand { frames := 3, cells := 0, slots := 0, locals := 103 } (va_Pc [.ref (a 0), .int (oI x)] (cPre dC dI cB cC cI cJ cZ a F X J R gf gn s0)) (va_Qi (fun (r : Int32) (u : (Nat → Int32) × (Nat → Nat → Int32)) => match u with | (F1, X1) => ((r).toInt = 0 ∨ (r).toInt = 1) ∧ FRM (X 1) (X 2) (X 3) (X1 5) (F 1).toInt (F 12).toInt ee ∧ PND (X 1) (X 3) (X1 5) (F 1).toInt (F 12).toInt ee ∧ NB (X1 6) gn) (fun u => cPost dC dI cB cC cI cJ cZ a (rg 4 4 F u.1) (rg 5 7 X u.2) J R gf gn (va_A (CW cB cC cI cJ cZ a F X J R gf gn) s0)) (va_A (CW cB cC cI cJ cZ a F X J R gf gn) s0)) 0 0 (va_A (CW cB cC cI cJ cZ a F X J R gf gn) s0) := by
  refine Met.ofW (cc := cX0_canExpand) (maxL := 2) (ret := (some .boolean)) (by decide) rfl ?_
  intro p e s m args below meth c s₁ B9 hml hv
  obtain ⟨rfl, hsz0, hP, hK, hD0, hNW⟩ := hv
  have hx := B9.exec
  have hb := B9.bytes
  have hr := B9.returns
  have hts := atoms_spec (ws := vX0_canExpand) B9.pre
  have hown : s.vm.findClass RX0 = some m.cls := findClass_of_methodNamed B9.named
  have hlocks := B9.notSynchronized
  clear B9
  subst hsz0
  have hD := hD0.self (sz := s.heap.size)
  generalize hAe : va_A (CW cB cC cI cJ cZ a F X J R gf gn) s.heap.size = A at hD ⊢
  have hA : ∀ q : Nat, s.heap.size ≤ q → A q := fun q h => by rw [← hAe]; exact Or.inr h
  have hS : va_S A s.heap s.heap [] := va_S.rf
  have hcs : 0 + 0 ≤ (0 : Nat) ∧ 0 + 0 ≤ (0 : Nat) := ⟨Nat.le_refl 0, Nat.le_refl 0⟩
  have hl := lv_entry ([.ref (a 0), .int (oI x)]) (n := 2) (Nat.le_of_ble_eq_true rfl)
  rw [lg_entry_eq]
  generalize (lg_sl ([.ref (a 0), .int (oI x)]) ++ List.replicate (2 - (lg_sl ([.ref (a 0), .int (oI x)])).length) Slot.unset).toArray = ls at hl ⊢
  have hl : lv_has ls 2 [(0, .ref (a 0)), (1, .int (oI x))] := hl
  refine lv_aload_n hx hb dX0_canExpand_0 rfl (lv_at hl 0 rfl) ?_
  refine cg_0_7 hx hb hts inX0_canExpand_X0 hown hK hP (hts _ lkX0_canExpand_f12) dX0_canExpand_1 ?_
  refine cgN_2_6 hx hb hts inX0_canExpand_X2 hown hK hP (va_Nw.use rfl hNW.2.2.2.1) dX0_canExpand_4 ?_
  have i_1 := i32r (F 1)
  refine lv_bipush (v := oI 100) hx hb dX0_canExpand_7 (by decide) ?_
  refine ci_le (tgt := 20) hx hb (i32r _) (by decide) dX0_canExpand_9 (by decide) (fun c_2 => ?_) (fun c_2 => ?_)
  · refine lv_aload_n hx hb dX0_canExpand_20 rfl (lv_at hl 0 rfl) ?_
    refine cg_0_0 hx hb hts inX0_canExpand_X0 hown hK hP (hts _ lkX0_canExpand_f43) dX0_canExpand_21 ?_
    refine lv_iload_n hx hb dX0_canExpand_24 rfl (lv_at hl 1 rfl) ?_
    refine ccs_iV (As := [.int (oI x)]) (rest := []) ⟨hx, hb, hml, hown, hts⟩ (c_size l dC dI cB cC cI cJ cZ a F X J R gf gn x  (by omega) (show gf ≤ 67600 from by first | assumption | omega)  s.heap.size) (cwV 1 hts kX0_canExpand_X1_size_242 rfl rfl rfl (by decide +kernel) ⟨Nat.le_of_ble_eq_true rfl, Nat.le_of_ble_eq_true rfl⟩) (va_recv hK hP (ci := 1) (q0 := 1) rfl rfl) hK hNW hP hD hS hA rfl rfl hl.1 (lv_room (Nat.le_of_ble_eq_true rfl)) dX0_canExpand_25 hcs (fun r_3 hw_4 H locs hP hD hS => ?_)
    replace hw_4 : (0 ≤ x ∧ x < (gf : Int) ∧ (r_3).toInt = ((X 1) (x).toNat).toInt) ∨ (¬ (0 ≤ x ∧ x < (gf : Int)) ∧ (r_3).toInt = 0) := hw_4
    have hsi := hw_4
    clear hw_4
    have i_5 := i32r r_3
    refine lv_iconst (v := oI 1) hx hb dX0_canExpand_28 (by decide) ?_
    refine ci_ne (tgt := 37) hx hb (i32r _) (by decide) dX0_canExpand_29 (by decide) (fun c_6 => ?_) (fun c_6 => ?_)
    · refine lv_aload_n hx hb dX0_canExpand_37 rfl (lv_at hl 0 rfl) ?_
      refine ccp_vV (As := []) (rest := []) (gF := fun _ => F) (gX := fun X9 => rg 5 7 X X9) ⟨hx, hb, hml, hown, hts⟩ (c_remember l dC dI cB cC cI cJ cZ a F X J R gf gn  D ee  (show gf ≤ 67600 from by first | assumption | omega) (show gn ≤ 63261 from by first | assumption | omega) (show 0 ≤ (F 1).toInt ∧ (F 1).toInt ≤ 101 from by first | assumption | omega) (show 0 ≤ (F 13).toInt ∧ (F 13).toInt ≤ (gn : Int) from by first | assumption | omega) (show NB (X 6) gn from by first | assumption | omega) (show FI (X 1) D gf (F 0).toInt (F 12).toInt from by assumption) (show FRM (X 1) (X 2) (X 3) (X 5) (F 1).toInt (F 12).toInt ee from by assumption) H.size) (cwV 0 hts kX0_canExpand_X0_remember_180 rfl rfl rfl (by decide +kernel) ⟨Nat.le_of_ble_eq_true rfl, Nat.le_of_ble_eq_true rfl⟩) (va_recv hK hP (ci := 0) (q0 := 0) rfl rfl) hK hNW hP hD hS hA rfl rfl hl.1 (lv_room (Nat.le_of_ble_eq_true rfl)) dX0_canExpand_38 hcs (fun F_7 X_8 hw_9 H locs hP hD hS => ?_)
      replace hw_9 : FRM (X 1) (X 2) (X 3) (X_8 5) (F 1).toInt (F 12).toInt ee ∧ PND (X 1) (X 3) (X_8 5) (F 1).toInt (F 12).toInt ee ∧ NB (X_8 6) gn := hw_9
      obtain ⟨hfr2, hpn2, hnb2⟩ := hw_9
      refine lv_aload_n hx hb dX0_canExpand_41 rfl (lv_at hl 0 rfl) ?_
      refine cg_0_10 hx hb hts inX0_canExpand_X0 hown hK hP (hts _ lkX0_canExpand_f25) dX0_canExpand_42 ?_
      have i_10 := i32r (F 4)
      refine cz_ne (tgt := 52) hx hb (i32r _) dX0_canExpand_45 (by decide) (fun c_11 => ?_) (fun c_11 => ?_)
      · refine lv_iconst (v := oI 0) hx hb dX0_canExpand_52 (by decide) ?_
        have e0 : (oI 0).toInt = 0 := by decide
        have eF9 : rg 4 4 F F = F := by funext k; simp only [rg, va_up]; (repeat' split) <;> first | with_reducible rfl | omega
        have eX9 : rg 5 7 X (rg 5 7 X X_8) = rg 5 7 X X_8 := by funext k; simp only [rg, va_up]; (repeat' split) <;> first | with_reducible rfl | omega
        have hP9 : va_P (dC, dI) vwCl (CW cB cC cI cJ cZ a (rg 4 4 F F) (rg 5 7 X (rg 5 7 X X_8)) J R gf gn) H := by rw [eF9, eX9]; exact hP
        have hD9 : va_D A (CW cB cC cI cJ cZ a (rg 4 4 F F) (rg 5 7 X (rg 5 7 X X_8)) J R gf gn) := by rw [eF9, eX9]; exact hD
        have hpost : ((oI 0).toInt = 0 ∨ (oI 0).toInt = 1) ∧ FRM (X 1) (X 2) (X 3) (X_8 5) (F 1).toInt (F 12).toInt ee ∧ PND (X 1) (X 3) (X_8 5) (F 1).toInt (F 12).toInt ee ∧ NB (X_8 6) gn := ⟨by omega, hfr2, hpn2, hnb2⟩
        exact W.zret (v := (oI 0)) hx hb hr (by first | rfl | decide | exact zb9 (by omega)) (fun t ht hW => ⟨⟨(oI 0), (F, rg 5 7 X X_8), rfl, hpost, by rw [ht]; exact hP9, va_K.moved hW.alike hK, hD9⟩, hS.F ht⟩) hS.2.2 dX0_canExpand_53
      · refine lv_iconst (v := oI 1) hx hb dX0_canExpand_48 (by decide) ?_
        refine lv_goto (tgt := 53) hx hb dX0_canExpand_49 (by decide) ?_
        have e0 : (oI 1).toInt = 1 := by decide
        have eF9 : rg 4 4 F F = F := by funext k; simp only [rg, va_up]; (repeat' split) <;> first | with_reducible rfl | omega
        have eX9 : rg 5 7 X (rg 5 7 X X_8) = rg 5 7 X X_8 := by funext k; simp only [rg, va_up]; (repeat' split) <;> first | with_reducible rfl | omega
        have hP9 : va_P (dC, dI) vwCl (CW cB cC cI cJ cZ a (rg 4 4 F F) (rg 5 7 X (rg 5 7 X X_8)) J R gf gn) H := by rw [eF9, eX9]; exact hP
        have hD9 : va_D A (CW cB cC cI cJ cZ a (rg 4 4 F F) (rg 5 7 X (rg 5 7 X X_8)) J R gf gn) := by rw [eF9, eX9]; exact hD
        have hpost : ((oI 1).toInt = 0 ∨ (oI 1).toInt = 1) ∧ FRM (X 1) (X 2) (X 3) (X_8 5) (F 1).toInt (F 12).toInt ee ∧ PND (X 1) (X 3) (X_8 5) (F 1).toInt (F 12).toInt ee ∧ NB (X_8 6) gn := ⟨by omega, hfr2, hpn2, hnb2⟩
        exact W.zret (v := (oI 1)) hx hb hr (by first | rfl | decide | exact zb9 (by omega)) (fun t ht hW => ⟨⟨(oI 1), (F, rg 5 7 X X_8), rfl, hpost, by rw [ht]; exact hP9, va_K.moved hW.alike hK, hD9⟩, hS.F ht⟩) hS.2.2 dX0_canExpand_53
    · refine lv_aload_n hx hb dX0_canExpand_32 rfl (lv_at hl 0 rfl) ?_
      refine lv_iconst (v := oI 3) hx hb dX0_canExpand_33 (by decide) ?_
      refine cp_0_10 hx hb hts inX0_canExpand_X0 hown hK hP hD hS (hts _ lkX0_canExpand_f25) dX0_canExpand_34 (fun H locs hP hD hS => ?_)
      have hP : va_P (dC, dI) vwCl (CW cB cC cI cJ cZ a (va_up F 4 (oI 3)) X J R gf gn) H := hP
      have hD : va_D A (CW cB cC cI cJ cZ a (va_up F 4 (oI 3)) X J R gf gn) := hD
      refine lv_aload_n hx hb dX0_canExpand_37 rfl (lv_at hl 0 rfl) ?_
      refine ccp_vV (As := []) (rest := []) (gF := fun _ => va_up F 4 (oI 3)) (gX := fun X9 => rg 5 7 X X9) ⟨hx, hb, hml, hown, hts⟩ (c_remember l dC dI cB cC cI cJ cZ a (va_up F 4 (oI 3)) X J R gf gn  D ee  (show gf ≤ 67600 from by first | assumption | omega) (show gn ≤ 63261 from by first | assumption | omega) (show 0 ≤ (F 1).toInt ∧ (F 1).toInt ≤ 101 from by first | assumption | omega) (show 0 ≤ (F 13).toInt ∧ (F 13).toInt ≤ (gn : Int) from by first | assumption | omega) (show NB (X 6) gn from by first | assumption | omega) (show FI (X 1) D gf (F 0).toInt (F 12).toInt from by assumption) (show FRM (X 1) (X 2) (X 3) (X 5) (F 1).toInt (F 12).toInt ee from by assumption) H.size) (cwV 0 hts kX0_canExpand_X0_remember_180 rfl rfl rfl (by decide +kernel) ⟨Nat.le_of_ble_eq_true rfl, Nat.le_of_ble_eq_true rfl⟩) (va_recv hK hP (ci := 0) (q0 := 0) rfl rfl) hK hNW hP hD hS hA rfl rfl hl.1 (lv_room (Nat.le_of_ble_eq_true rfl)) dX0_canExpand_38 hcs (fun F_12 X_13 hw_14 H locs hP hD hS => ?_)
      replace hw_14 : FRM (X 1) (X 2) (X 3) (X_13 5) (F 1).toInt (F 12).toInt ee ∧ PND (X 1) (X 3) (X_13 5) (F 1).toInt (F 12).toInt ee ∧ NB (X_13 6) gn := hw_14
      obtain ⟨hfr2, hpn2, hnb2⟩ := hw_14
      refine lv_aload_n hx hb dX0_canExpand_41 rfl (lv_at hl 0 rfl) ?_
      refine cg_0_10 hx hb hts inX0_canExpand_X0 hown hK hP (hts _ lkX0_canExpand_f25) dX0_canExpand_42 ?_
      refine tp_i (y := oI 3) (oI_toInt _) ?_
      refine cz_ne (tgt := 52) hx hb (by decide) dX0_canExpand_45 (by decide) (fun _ => ?_) (fun q9 => absurd q9 (by omega))
      refine lv_iconst (v := oI 0) hx hb dX0_canExpand_52 (by decide) ?_
      have e0 : (oI 0).toInt = 0 := by decide
      have eF9 : rg 4 4 F (va_up F 4 (oI 3)) = va_up F 4 (oI 3) := by funext k; simp only [rg, va_up]; (repeat' split) <;> first | with_reducible rfl | omega
      have eX9 : rg 5 7 X (rg 5 7 X X_13) = rg 5 7 X X_13 := by funext k; simp only [rg, va_up]; (repeat' split) <;> first | with_reducible rfl | omega
      have hP9 : va_P (dC, dI) vwCl (CW cB cC cI cJ cZ a (rg 4 4 F (va_up F 4 (oI 3))) (rg 5 7 X (rg 5 7 X X_13)) J R gf gn) H := by rw [eF9, eX9]; exact hP
      have hD9 : va_D A (CW cB cC cI cJ cZ a (rg 4 4 F (va_up F 4 (oI 3))) (rg 5 7 X (rg 5 7 X X_13)) J R gf gn) := by rw [eF9, eX9]; exact hD
      have hpost : ((oI 0).toInt = 0 ∨ (oI 0).toInt = 1) ∧ FRM (X 1) (X 2) (X 3) (X_13 5) (F 1).toInt (F 12).toInt ee ∧ PND (X 1) (X 3) (X_13 5) (F 1).toInt (F 12).toInt ee ∧ NB (X_13 6) gn := ⟨by omega, hfr2, hpn2, hnb2⟩
      exact W.zret (v := (oI 0)) hx hb hr (by first | rfl | decide | exact zb9 (by omega)) (fun t ht hW => ⟨⟨(oI 0), (va_up F 4 (oI 3), rg 5 7 X X_13), rfl, hpost, by rw [ht]; exact hP9, va_K.moved hW.alike hK, hD9⟩, hS.F ht⟩) hS.2.2 dX0_canExpand_53
  · refine lv_aload_n hx hb dX0_canExpand_12 rfl (lv_at hl 0 rfl) ?_
    refine lv_iconst (v := oI 2) hx hb dX0_canExpand_13 (by decide) ?_
    refine cp_0_10 hx hb hts inX0_canExpand_X0 hown hK hP hD hS (hts _ lkX0_canExpand_f25) dX0_canExpand_14 (fun H locs hP hD hS => ?_)
    have hP : va_P (dC, dI) vwCl (CW cB cC cI cJ cZ a (va_up F 4 (oI 2)) X J R gf gn) H := hP
    have hD : va_D A (CW cB cC cI cJ cZ a (va_up F 4 (oI 2)) X J R gf gn) := hD
    refine lv_goto (tgt := 37) hx hb dX0_canExpand_17 (by decide) ?_
    refine lv_aload_n hx hb dX0_canExpand_37 rfl (lv_at hl 0 rfl) ?_
    refine ccp_vV (As := []) (rest := []) (gF := fun _ => va_up F 4 (oI 2)) (gX := fun X9 => rg 5 7 X X9) ⟨hx, hb, hml, hown, hts⟩ (c_remember l dC dI cB cC cI cJ cZ a (va_up F 4 (oI 2)) X J R gf gn  D ee  (show gf ≤ 67600 from by first | assumption | omega) (show gn ≤ 63261 from by first | assumption | omega) (show 0 ≤ (F 1).toInt ∧ (F 1).toInt ≤ 101 from by first | assumption | omega) (show 0 ≤ (F 13).toInt ∧ (F 13).toInt ≤ (gn : Int) from by first | assumption | omega) (show NB (X 6) gn from by first | assumption | omega) (show FI (X 1) D gf (F 0).toInt (F 12).toInt from by assumption) (show FRM (X 1) (X 2) (X 3) (X 5) (F 1).toInt (F 12).toInt ee from by assumption) H.size) (cwV 0 hts kX0_canExpand_X0_remember_180 rfl rfl rfl (by decide +kernel) ⟨Nat.le_of_ble_eq_true rfl, Nat.le_of_ble_eq_true rfl⟩) (va_recv hK hP (ci := 0) (q0 := 0) rfl rfl) hK hNW hP hD hS hA rfl rfl hl.1 (lv_room (Nat.le_of_ble_eq_true rfl)) dX0_canExpand_38 hcs (fun F_15 X_16 hw_17 H locs hP hD hS => ?_)
    replace hw_17 : FRM (X 1) (X 2) (X 3) (X_16 5) (F 1).toInt (F 12).toInt ee ∧ PND (X 1) (X 3) (X_16 5) (F 1).toInt (F 12).toInt ee ∧ NB (X_16 6) gn := hw_17
    obtain ⟨hfr2, hpn2, hnb2⟩ := hw_17
    refine lv_aload_n hx hb dX0_canExpand_41 rfl (lv_at hl 0 rfl) ?_
    refine cg_0_10 hx hb hts inX0_canExpand_X0 hown hK hP (hts _ lkX0_canExpand_f25) dX0_canExpand_42 ?_
    refine tp_i (y := oI 2) (oI_toInt _) ?_
    refine cz_ne (tgt := 52) hx hb (by decide) dX0_canExpand_45 (by decide) (fun _ => ?_) (fun q9 => absurd q9 (by omega))
    refine lv_iconst (v := oI 0) hx hb dX0_canExpand_52 (by decide) ?_
    have e0 : (oI 0).toInt = 0 := by decide
    have eF9 : rg 4 4 F (va_up F 4 (oI 2)) = va_up F 4 (oI 2) := by funext k; simp only [rg, va_up]; (repeat' split) <;> first | with_reducible rfl | omega
    have eX9 : rg 5 7 X (rg 5 7 X X_16) = rg 5 7 X X_16 := by funext k; simp only [rg, va_up]; (repeat' split) <;> first | with_reducible rfl | omega
    have hP9 : va_P (dC, dI) vwCl (CW cB cC cI cJ cZ a (rg 4 4 F (va_up F 4 (oI 2))) (rg 5 7 X (rg 5 7 X X_16)) J R gf gn) H := by rw [eF9, eX9]; exact hP
    have hD9 : va_D A (CW cB cC cI cJ cZ a (rg 4 4 F (va_up F 4 (oI 2))) (rg 5 7 X (rg 5 7 X X_16)) J R gf gn) := by rw [eF9, eX9]; exact hD
    have hpost : ((oI 0).toInt = 0 ∨ (oI 0).toInt = 1) ∧ FRM (X 1) (X 2) (X 3) (X_16 5) (F 1).toInt (F 12).toInt ee ∧ PND (X 1) (X 3) (X_16 5) (F 1).toInt (F 12).toInt ee ∧ NB (X_16 6) gn := ⟨by omega, hfr2, hpn2, hnb2⟩
    exact W.zret (v := (oI 0)) hx hb hr (by first | rfl | decide | exact zb9 (by omega)) (fun t ht hW => ⟨⟨(oI 0), (va_up F 4 (oI 2), rg 5 7 X X_16), rfl, hpost, by rw [ht]; exact hP9, va_K.moved hW.alike hK, hD9⟩, hS.F ht⟩) hS.2.2 dX0_canExpand_53

set_option maxHeartbeats 4000000 in
set_option maxRecDepth 100000 in
/-- X0_startLayer -/
theorem c_startLayer (l : Launch) (dC : Nat → ClassId) (dI : Nat → Nat → Nat) (cB cC cI cJ cZ : ClassId) (a : Nat → Nat) (F : Nat → Int32) (X : Nat → Nat → Int32) (J : Nat → Nat → Int64) (R : Nat → Nat) (gf gn : Nat) (x : Int)  (ix : (-2147483648 ≤ x ∧ x < 2147483648)) (hgf : gf ≤ 67600) (hsp : SPR (X 1)) (hx2 : x < 1073741824) (s0 : Nat) : Met l yX0_startLayer vX0_startLayer { frames := 3, cells := 0, slots := 0, locals := 105 } (va_Pc [.ref (a 0), .int (oI x)] (cPre dC dI cB cC cI cJ cZ a F X J R gf gn s0)) (va_Qi (fun (r : Int32) (u : (Nat → Int32) × (Nat → Nat → Int32)) => match u with | (F1, X1) => (r).toInt = 0 ∨ ((r).toInt = 1 ∧ AF (X 1) gf (AF (X 1) gf (x + 1)) < AF (X 1) gf x ∧ 0 ≤ x ∧ x < (gf : Int))) (fun u => cPost dC dI cB cC cI cJ cZ a (rg 7 7 (rg 4 4 F u.1) u.1) X J R gf gn (va_A (CW cB cC cI cJ cZ a F X J R gf gn) s0)) (va_A (CW cB cC cI cJ cZ a F X J R gf gn) s0)) 0 0 (va_A (CW cB cC cI cJ cZ a F X J R gf gn) s0) := by
  refine Met.ofW (cc := cX0_startLayer) (maxL := 3) (ret := (some .boolean)) (by decide) rfl ?_
  intro p e s m args below meth c s₁ B9 hml hv
  obtain ⟨rfl, hsz0, hP, hK, hD0, hNW⟩ := hv
  have hx := B9.exec
  have hb := B9.bytes
  have hr := B9.returns
  have hts := atoms_spec (ws := vX0_startLayer) B9.pre
  have hown : s.vm.findClass RX0 = some m.cls := findClass_of_methodNamed B9.named
  have hlocks := B9.notSynchronized
  clear B9
  subst hsz0
  have hD := hD0.self (sz := s.heap.size)
  generalize hAe : va_A (CW cB cC cI cJ cZ a F X J R gf gn) s.heap.size = A at hD ⊢
  have hA : ∀ q : Nat, s.heap.size ≤ q → A q := fun q h => by rw [← hAe]; exact Or.inr h
  have hS : va_S A s.heap s.heap [] := va_S.rf
  have hcs : 0 + 0 ≤ (0 : Nat) ∧ 0 + 0 ≤ (0 : Nat) := ⟨Nat.le_refl 0, Nat.le_refl 0⟩
  have hl := lv_entry ([.ref (a 0), .int (oI x)]) (n := 3) (Nat.le_of_ble_eq_true rfl)
  rw [lg_entry_eq]
  generalize (lg_sl ([.ref (a 0), .int (oI x)]) ++ List.replicate (3 - (lg_sl ([.ref (a 0), .int (oI x)])).length) Slot.unset).toArray = ls at hl ⊢
  have hl : lv_has ls 3 [(0, .ref (a 0)), (1, .int (oI x))] := hl
  refine lv_aload_n hx hb dX0_startLayer_0 rfl (lv_at hl 0 rfl) ?_
  refine cg_0_13 hx hb hts inX0_startLayer_X0 hown hK hP (hts _ lkX0_startLayer_f34) dX0_startLayer_1 ?_
  have i_1 := i32r (F 7)
  refine lv_sipush (v := oI 250) hx hb dX0_startLayer_4 (by decide) ?_
  refine ci_lt (tgt := 17) hx hb (i32r _) (by decide) dX0_startLayer_7 (by decide) (fun c_2 => ?_) (fun c_2 => ?_)
  · refine lv_aload_n hx hb dX0_startLayer_17 rfl (lv_at hl 0 rfl) ?_
    refine lv_dup hx hb dX0_startLayer_18 rfl ?_
    refine cg_0_13 hx hb hts inX0_startLayer_X0 hown hK hP (hts _ lkX0_startLayer_f34) dX0_startLayer_19 ?_
    refine lv_iconst (v := oI 1) hx hb dX0_startLayer_22 (by decide) ?_
    refine lv_iadd hx hb dX0_startLayer_23 ?_
    refine tp_i (oI_add ((F 7).toInt) 1) ?_
    refine cp_0_13 hx hb hts inX0_startLayer_X0 hown hK hP hD hS (hts _ lkX0_startLayer_f34) dX0_startLayer_24 (fun H locs hP hD hS => ?_)
    have hP : va_P (dC, dI) vwCl (CW cB cC cI cJ cZ a (va_up F 7 (oI (((F 7).toInt) + 1))) X J R gf gn) H := hP
    have hD : va_D A (CW cB cC cI cJ cZ a (va_up F 7 (oI (((F 7).toInt) + 1))) X J R gf gn) := hD
    refine lv_aload_n hx hb dX0_startLayer_27 rfl (lv_at hl 0 rfl) ?_
    refine cg_0_0 hx hb hts inX0_startLayer_X0 hown hK hP (hts _ lkX0_startLayer_f43) dX0_startLayer_28 ?_
    refine lv_iload_n hx hb dX0_startLayer_31 rfl (lv_at hl 1 rfl) ?_
    refine lv_iconst (v := oI 1) hx hb dX0_startLayer_32 (by decide) ?_
    refine ccs_iV (As := [.int (oI x), .int (oI 1)]) (rest := []) ⟨hx, hb, hml, hown, hts⟩ (c_part1 l dC dI cB cC cI cJ cZ a (va_up F 7 (oI (((F 7).toInt) + 1))) X J R gf gn x  (by omega) (show gf ≤ 67600 from by first | assumption | omega) (show SPR (X 1) from by first | assumption | omega) (show x < 1073741824 from by first | assumption | omega) H.size) (cwV 2 hts kX0_startLayer_X1_part_196 rfl rfl rfl (by decide +kernel) ⟨Nat.le_of_ble_eq_true rfl, Nat.le_of_ble_eq_true rfl⟩) (va_recv hK hP (ci := 1) (q0 := 1) rfl rfl) hK hNW hP hD hS hA rfl rfl hl.1 (lv_room (Nat.le_of_ble_eq_true rfl)) dX0_startLayer_33 hcs (fun r_3 hw_4 H locs hP hD hS => ?_)
    replace hw_4 : (r_3).toInt = AF (X 1) gf (x + 1) ∧ x + 1 < (r_3).toInt ∧ (r_3).toInt ≤ x + 67601 := hw_4
    obtain ⟨ep1, lp1, up1⟩ := hw_4
    have i_5 := i32r r_3
    refine lv_istore_n (lv' := [(2, .int (oI r_3.toInt)), (0, .ref (a 0)), (1, .int (oI x))]) hx hb dX0_startLayer_36 rfl hl (by decide) rfl (fun ls hl => ?_)
    refine lv_aload_n hx hb dX0_startLayer_37 rfl (lv_at hl 1 rfl) ?_
    refine cg_0_0 hx hb hts inX0_startLayer_X0 hown hK hP (hts _ lkX0_startLayer_f43) dX0_startLayer_38 ?_
    refine lv_iload_n hx hb dX0_startLayer_41 rfl (lv_at hl 2 rfl) ?_
    refine ccs_iV (As := [.int (oI x)]) (rest := []) ⟨hx, hb, hml, hown, hts⟩ (c_parts l dC dI cB cC cI cJ cZ a (va_up F 7 (oI (((F 7).toInt) + 1))) X J R gf gn x  (by omega) (show gf ≤ 67600 from by first | assumption | omega) (show SPR (X 1) from by first | assumption | omega)  H.size) (cwV 1 hts kX0_startLayer_X1_parts_203 rfl rfl rfl (by decide +kernel) ⟨Nat.le_of_ble_eq_true rfl, Nat.le_of_ble_eq_true rfl⟩) (va_recv hK hP (ci := 1) (q0 := 1) rfl rfl) hK hNW hP hD hS hA rfl rfl hl.1 (lv_room (Nat.le_of_ble_eq_true rfl)) dX0_startLayer_42 hcs (fun r_6 hw_7 H locs hP hD hS => ?_)
    replace hw_7 : 0 ≤ (r_6).toInt ∧ (r_6).toInt ≤ 67600 ∧ (1 ≤ (r_6).toInt → x + 1 < AF (X 1) gf x ∧ 0 ≤ x ∧ x < (gf : Int)) ∧ (2 ≤ (r_6).toInt → AF (X 1) gf (x + 1) < AF (X 1) gf x) ∧ (3 ≤ (r_6).toInt → AF (X 1) gf (AF (X 1) gf (x + 1)) < AF (X 1) gf x) := hw_7
    have hpa := hw_7
    clear hw_7
    have i_8 := i32r r_6
    have hp3 : r_6.toInt = 3 → AF (X 1) gf (AF (X 1) gf (x + 1)) < AF (X 1) gf x ∧ 0 ≤ x ∧ x < (gf : Int) := fun h => ⟨hpa.2.2.2.2 (by omega), (hpa.2.2.1 (by omega)).2⟩
    clear hpa
    refine lv_iconst (v := oI 3) hx hb dX0_startLayer_45 (by decide) ?_
    refine ci_ne (tgt := 73) hx hb (i32r _) (by decide) dX0_startLayer_46 (by decide) (fun c_9 => ?_) (fun c_9 => ?_)
    · refine lv_aload_n hx hb dX0_startLayer_73 rfl (lv_at hl 1 rfl) ?_
      refine lv_iconst (v := oI 3) hx hb dX0_startLayer_74 (by decide) ?_
      refine cp_0_10 hx hb hts inX0_startLayer_X0 hown hK hP hD hS (hts _ lkX0_startLayer_f25) dX0_startLayer_75 (fun H locs hP hD hS => ?_)
      have hP : va_P (dC, dI) vwCl (CW cB cC cI cJ cZ a (va_up (va_up F 7 (oI (((F 7).toInt) + 1))) 4 (oI 3)) X J R gf gn) H := hP
      have hD : va_D A (CW cB cC cI cJ cZ a (va_up (va_up F 7 (oI (((F 7).toInt) + 1))) 4 (oI 3)) X J R gf gn) := hD
      refine lv_aload_n hx hb dX0_startLayer_78 rfl (lv_at hl 1 rfl) ?_
      refine cg_0_10 hx hb hts inX0_startLayer_X0 hown hK hP (hts _ lkX0_startLayer_f25) dX0_startLayer_79 ?_
      refine tp_i (y := oI 3) (oI_toInt _) ?_
      refine cz_ne (tgt := 89) hx hb (by decide) dX0_startLayer_82 (by decide) (fun _ => ?_) (fun q9 => absurd q9 (by omega))
      refine lv_iconst (v := oI 0) hx hb dX0_startLayer_89 (by decide) ?_
      have e0 : (oI 0).toInt = 0 := by decide
      have eF9 : rg 7 7 (rg 4 4 F (va_up (va_up F 7 (oI (((F 7).toInt) + 1))) 4 (oI 3))) (va_up (va_up F 7 (oI (((F 7).toInt) + 1))) 4 (oI 3)) = va_up (va_up F 7 (oI (((F 7).toInt) + 1))) 4 (oI 3) := by funext k; simp only [rg, va_up]; (repeat' split) <;> first | with_reducible rfl | omega
      have hP9 : va_P (dC, dI) vwCl (CW cB cC cI cJ cZ a (rg 7 7 (rg 4 4 F (va_up (va_up F 7 (oI (((F 7).toInt) + 1))) 4 (oI 3))) (va_up (va_up F 7 (oI (((F 7).toInt) + 1))) 4 (oI 3))) X J R gf gn) H := by rw [eF9]; exact hP
      have hD9 : va_D A (CW cB cC cI cJ cZ a (rg 7 7 (rg 4 4 F (va_up (va_up F 7 (oI (((F 7).toInt) + 1))) 4 (oI 3))) (va_up (va_up F 7 (oI (((F 7).toInt) + 1))) 4 (oI 3))) X J R gf gn) := by rw [eF9]; exact hD
      have hpost : (oI 0).toInt = 0 ∨ ((oI 0).toInt = 1 ∧ AF (X 1) gf (AF (X 1) gf (x + 1)) < AF (X 1) gf x ∧ 0 ≤ x ∧ x < (gf : Int)) := by first | assumption | omega | (with_reducible rfl) | ((repeat' apply And.intro) <;> first | assumption | omega | (with_reducible rfl))
      exact W.zret (v := (oI 0)) hx hb hr (by first | rfl | decide | exact zb9 (by omega)) (fun t ht hW => ⟨⟨(oI 0), (va_up (va_up F 7 (oI (((F 7).toInt) + 1))) 4 (oI 3), X), rfl, hpost, by rw [ht]; exact hP9, va_K.moved hW.alike hK, hD9⟩, hS.F ht⟩) hS.2.2 dX0_startLayer_90
    · refine lv_aload_n hx hb dX0_startLayer_49 rfl (lv_at hl 1 rfl) ?_
      refine cg_0_0 hx hb hts inX0_startLayer_X0 hown hK hP (hts _ lkX0_startLayer_f43) dX0_startLayer_50 ?_
      refine lv_iload_n hx hb dX0_startLayer_53 rfl (lv_at hl 0 rfl) ?_
      refine ccs_iV (As := [.int (oI r_3.toInt)]) (rest := []) ⟨hx, hb, hml, hown, hts⟩ (c_isList l dC dI cB cC cI cJ cZ a (va_up F 7 (oI (((F 7).toInt) + 1))) X J R gf gn r_3.toInt  (i32r _) (show gf ≤ 67600 from by first | assumption | omega)  H.size) (cwV 1 hts kX0_startLayer_X1_isList_112 rfl rfl rfl (by decide +kernel) ⟨Nat.le_of_ble_eq_true rfl, Nat.le_of_ble_eq_true rfl⟩) (va_recv hK hP (ci := 1) (q0 := 1) rfl rfl) hK hNW hP hD hS hA rfl rfl hl.1 (lv_room (Nat.le_of_ble_eq_true rfl)) dX0_startLayer_54 hcs (fun r_10 hw_11 H locs hP hD hS => ?_)
      replace hw_11 : ((r_10).toInt = 1 ∧ 0 ≤ r_3.toInt ∧ r_3.toInt < (gf : Int)) ∨ (r_10).toInt = 0 := hw_11
      have hil := hw_11
      clear hw_11
      have i_12 := i32r r_10
      refine cz_eq (tgt := 73) hx hb (i32r _) dX0_startLayer_57 (by decide) (fun c_13 => ?_) (fun c_13 => ?_)
      · refine lv_aload_n hx hb dX0_startLayer_73 rfl (lv_at hl 1 rfl) ?_
        refine lv_iconst (v := oI 3) hx hb dX0_startLayer_74 (by decide) ?_
        refine cp_0_10 hx hb hts inX0_startLayer_X0 hown hK hP hD hS (hts _ lkX0_startLayer_f25) dX0_startLayer_75 (fun H locs hP hD hS => ?_)
        have hP : va_P (dC, dI) vwCl (CW cB cC cI cJ cZ a (va_up (va_up F 7 (oI (((F 7).toInt) + 1))) 4 (oI 3)) X J R gf gn) H := hP
        have hD : va_D A (CW cB cC cI cJ cZ a (va_up (va_up F 7 (oI (((F 7).toInt) + 1))) 4 (oI 3)) X J R gf gn) := hD
        refine lv_aload_n hx hb dX0_startLayer_78 rfl (lv_at hl 1 rfl) ?_
        refine cg_0_10 hx hb hts inX0_startLayer_X0 hown hK hP (hts _ lkX0_startLayer_f25) dX0_startLayer_79 ?_
        refine tp_i (y := oI 3) (oI_toInt _) ?_
        refine cz_ne (tgt := 89) hx hb (by decide) dX0_startLayer_82 (by decide) (fun _ => ?_) (fun q9 => absurd q9 (by omega))
        refine lv_iconst (v := oI 0) hx hb dX0_startLayer_89 (by decide) ?_
        have e0 : (oI 0).toInt = 0 := by decide
        have eF9 : rg 7 7 (rg 4 4 F (va_up (va_up F 7 (oI (((F 7).toInt) + 1))) 4 (oI 3))) (va_up (va_up F 7 (oI (((F 7).toInt) + 1))) 4 (oI 3)) = va_up (va_up F 7 (oI (((F 7).toInt) + 1))) 4 (oI 3) := by funext k; simp only [rg, va_up]; (repeat' split) <;> first | with_reducible rfl | omega
        have hP9 : va_P (dC, dI) vwCl (CW cB cC cI cJ cZ a (rg 7 7 (rg 4 4 F (va_up (va_up F 7 (oI (((F 7).toInt) + 1))) 4 (oI 3))) (va_up (va_up F 7 (oI (((F 7).toInt) + 1))) 4 (oI 3))) X J R gf gn) H := by rw [eF9]; exact hP
        have hD9 : va_D A (CW cB cC cI cJ cZ a (rg 7 7 (rg 4 4 F (va_up (va_up F 7 (oI (((F 7).toInt) + 1))) 4 (oI 3))) (va_up (va_up F 7 (oI (((F 7).toInt) + 1))) 4 (oI 3))) X J R gf gn) := by rw [eF9]; exact hD
        have hpost : (oI 0).toInt = 0 ∨ ((oI 0).toInt = 1 ∧ AF (X 1) gf (AF (X 1) gf (x + 1)) < AF (X 1) gf x ∧ 0 ≤ x ∧ x < (gf : Int)) := by first | assumption | omega | (with_reducible rfl) | ((repeat' apply And.intro) <;> first | assumption | omega | (with_reducible rfl))
        exact W.zret (v := (oI 0)) hx hb hr (by first | rfl | decide | exact zb9 (by omega)) (fun t ht hW => ⟨⟨(oI 0), (va_up (va_up F 7 (oI (((F 7).toInt) + 1))) 4 (oI 3), X), rfl, hpost, by rw [ht]; exact hP9, va_K.moved hW.alike hK, hD9⟩, hS.F ht⟩) hS.2.2 dX0_startLayer_90
      · refine lv_aload_n hx hb dX0_startLayer_60 rfl (lv_at hl 1 rfl) ?_
        refine cg_0_0 hx hb hts inX0_startLayer_X0 hown hK hP (hts _ lkX0_startLayer_f43) dX0_startLayer_61 ?_
        refine lv_iload_n hx hb dX0_startLayer_64 rfl (lv_at hl 0 rfl) ?_
        refine ccs_iV (As := [.int (oI r_3.toInt)]) (rest := []) ⟨hx, hb, hml, hown, hts⟩ (c_parts l dC dI cB cC cI cJ cZ a (va_up F 7 (oI (((F 7).toInt) + 1))) X J R gf gn r_3.toInt  (i32r _) (show gf ≤ 67600 from by first | assumption | omega) (show SPR (X 1) from by first | assumption | omega)  H.size) (cwV 1 hts kX0_startLayer_X1_parts_203 rfl rfl rfl (by decide +kernel) ⟨Nat.le_of_ble_eq_true rfl, Nat.le_of_ble_eq_true rfl⟩) (va_recv hK hP (ci := 1) (q0 := 1) rfl rfl) hK hNW hP hD hS hA rfl rfl hl.1 (lv_room (Nat.le_of_ble_eq_true rfl)) dX0_startLayer_65 hcs (fun r_14 hw_15 H locs hP hD hS => ?_)
        replace hw_15 : 0 ≤ (r_14).toInt ∧ (r_14).toInt ≤ 67600 ∧ (1 ≤ (r_14).toInt → r_3.toInt + 1 < AF (X 1) gf r_3.toInt ∧ 0 ≤ r_3.toInt ∧ r_3.toInt < (gf : Int)) ∧ (2 ≤ (r_14).toInt → AF (X 1) gf (r_3.toInt + 1) < AF (X 1) gf r_3.toInt) ∧ (3 ≤ (r_14).toInt → AF (X 1) gf (AF (X 1) gf (r_3.toInt + 1)) < AF (X 1) gf r_3.toInt) := hw_15
        have hpa := hw_15
        clear hw_15
        have i_16 := i32r r_14
        clear hpa
        refine lv_bipush (v := oI 6) hx hb dX0_startLayer_68 (by decide) ?_
        refine ci_le (tgt := 78) hx hb (i32r _) (by decide) dX0_startLayer_70 (by decide) (fun c_17 => ?_) (fun c_17 => ?_)
        · refine lv_aload_n hx hb dX0_startLayer_78 rfl (lv_at hl 1 rfl) ?_
          refine cg_0_10 hx hb hts inX0_startLayer_X0 hown hK hP (hts _ lkX0_startLayer_f25) dX0_startLayer_79 ?_
          refine tp_i (y := oI (F 4).toInt) rfl ?_
          have i_18 := i32r (F 4)
          refine cz_ne (tgt := 89) hx hb (i32r _) dX0_startLayer_82 (by decide) (fun c_19 => ?_) (fun c_19 => ?_)
          · refine lv_iconst (v := oI 0) hx hb dX0_startLayer_89 (by decide) ?_
            have e0 : (oI 0).toInt = 0 := by decide
            have eF9 : rg 7 7 (rg 4 4 F (va_up F 7 (oI (((F 7).toInt) + 1)))) (va_up F 7 (oI (((F 7).toInt) + 1))) = va_up F 7 (oI (((F 7).toInt) + 1)) := by funext k; simp only [rg, va_up]; (repeat' split) <;> first | with_reducible rfl | omega
            have hP9 : va_P (dC, dI) vwCl (CW cB cC cI cJ cZ a (rg 7 7 (rg 4 4 F (va_up F 7 (oI (((F 7).toInt) + 1)))) (va_up F 7 (oI (((F 7).toInt) + 1)))) X J R gf gn) H := by rw [eF9]; exact hP
            have hD9 : va_D A (CW cB cC cI cJ cZ a (rg 7 7 (rg 4 4 F (va_up F 7 (oI (((F 7).toInt) + 1)))) (va_up F 7 (oI (((F 7).toInt) + 1)))) X J R gf gn) := by rw [eF9]; exact hD
            have hpost : (oI 0).toInt = 0 ∨ ((oI 0).toInt = 1 ∧ AF (X 1) gf (AF (X 1) gf (x + 1)) < AF (X 1) gf x ∧ 0 ≤ x ∧ x < (gf : Int)) := by first | assumption | omega | (with_reducible rfl) | ((repeat' apply And.intro) <;> first | assumption | omega | (with_reducible rfl))
            exact W.zret (v := (oI 0)) hx hb hr (by first | rfl | decide | exact zb9 (by omega)) (fun t ht hW => ⟨⟨(oI 0), (va_up F 7 (oI (((F 7).toInt) + 1)), X), rfl, hpost, by rw [ht]; exact hP9, va_K.moved hW.alike hK, hD9⟩, hS.F ht⟩) hS.2.2 dX0_startLayer_90
          · refine lv_iconst (v := oI 1) hx hb dX0_startLayer_85 (by decide) ?_
            refine lv_goto (tgt := 90) hx hb dX0_startLayer_86 (by decide) ?_
            have e0 : (oI 1).toInt = 1 := by decide
            have eF9 : rg 7 7 (rg 4 4 F (va_up F 7 (oI (((F 7).toInt) + 1)))) (va_up F 7 (oI (((F 7).toInt) + 1))) = va_up F 7 (oI (((F 7).toInt) + 1)) := by funext k; simp only [rg, va_up]; (repeat' split) <;> first | with_reducible rfl | omega
            have hP9 : va_P (dC, dI) vwCl (CW cB cC cI cJ cZ a (rg 7 7 (rg 4 4 F (va_up F 7 (oI (((F 7).toInt) + 1)))) (va_up F 7 (oI (((F 7).toInt) + 1)))) X J R gf gn) H := by rw [eF9]; exact hP
            have hD9 : va_D A (CW cB cC cI cJ cZ a (rg 7 7 (rg 4 4 F (va_up F 7 (oI (((F 7).toInt) + 1)))) (va_up F 7 (oI (((F 7).toInt) + 1)))) X J R gf gn) := by rw [eF9]; exact hD
            have hpost : (oI 1).toInt = 0 ∨ ((oI 1).toInt = 1 ∧ AF (X 1) gf (AF (X 1) gf (x + 1)) < AF (X 1) gf x ∧ 0 ≤ x ∧ x < (gf : Int)) := by first | assumption | omega | (with_reducible rfl) | ((repeat' apply And.intro) <;> first | assumption | omega | (with_reducible rfl))
            exact W.zret (v := (oI 1)) hx hb hr (by first | rfl | decide | exact zb9 (by omega)) (fun t ht hW => ⟨⟨(oI 1), (va_up F 7 (oI (((F 7).toInt) + 1)), X), rfl, hpost, by rw [ht]; exact hP9, va_K.moved hW.alike hK, hD9⟩, hS.F ht⟩) hS.2.2 dX0_startLayer_90
        · refine lv_aload_n hx hb dX0_startLayer_73 rfl (lv_at hl 1 rfl) ?_
          refine lv_iconst (v := oI 3) hx hb dX0_startLayer_74 (by decide) ?_
          refine cp_0_10 hx hb hts inX0_startLayer_X0 hown hK hP hD hS (hts _ lkX0_startLayer_f25) dX0_startLayer_75 (fun H locs hP hD hS => ?_)
          have hP : va_P (dC, dI) vwCl (CW cB cC cI cJ cZ a (va_up (va_up F 7 (oI (((F 7).toInt) + 1))) 4 (oI 3)) X J R gf gn) H := hP
          have hD : va_D A (CW cB cC cI cJ cZ a (va_up (va_up F 7 (oI (((F 7).toInt) + 1))) 4 (oI 3)) X J R gf gn) := hD
          refine lv_aload_n hx hb dX0_startLayer_78 rfl (lv_at hl 1 rfl) ?_
          refine cg_0_10 hx hb hts inX0_startLayer_X0 hown hK hP (hts _ lkX0_startLayer_f25) dX0_startLayer_79 ?_
          refine tp_i (y := oI 3) (oI_toInt _) ?_
          refine cz_ne (tgt := 89) hx hb (by decide) dX0_startLayer_82 (by decide) (fun _ => ?_) (fun q9 => absurd q9 (by omega))
          refine lv_iconst (v := oI 0) hx hb dX0_startLayer_89 (by decide) ?_
          have e0 : (oI 0).toInt = 0 := by decide
          have eF9 : rg 7 7 (rg 4 4 F (va_up (va_up F 7 (oI (((F 7).toInt) + 1))) 4 (oI 3))) (va_up (va_up F 7 (oI (((F 7).toInt) + 1))) 4 (oI 3)) = va_up (va_up F 7 (oI (((F 7).toInt) + 1))) 4 (oI 3) := by funext k; simp only [rg, va_up]; (repeat' split) <;> first | with_reducible rfl | omega
          have hP9 : va_P (dC, dI) vwCl (CW cB cC cI cJ cZ a (rg 7 7 (rg 4 4 F (va_up (va_up F 7 (oI (((F 7).toInt) + 1))) 4 (oI 3))) (va_up (va_up F 7 (oI (((F 7).toInt) + 1))) 4 (oI 3))) X J R gf gn) H := by rw [eF9]; exact hP
          have hD9 : va_D A (CW cB cC cI cJ cZ a (rg 7 7 (rg 4 4 F (va_up (va_up F 7 (oI (((F 7).toInt) + 1))) 4 (oI 3))) (va_up (va_up F 7 (oI (((F 7).toInt) + 1))) 4 (oI 3))) X J R gf gn) := by rw [eF9]; exact hD
          have hpost : (oI 0).toInt = 0 ∨ ((oI 0).toInt = 1 ∧ AF (X 1) gf (AF (X 1) gf (x + 1)) < AF (X 1) gf x ∧ 0 ≤ x ∧ x < (gf : Int)) := by first | assumption | omega | (with_reducible rfl) | ((repeat' apply And.intro) <;> first | assumption | omega | (with_reducible rfl))
          exact W.zret (v := (oI 0)) hx hb hr (by first | rfl | decide | exact zb9 (by omega)) (fun t ht hW => ⟨⟨(oI 0), (va_up (va_up F 7 (oI (((F 7).toInt) + 1))) 4 (oI 3), X), rfl, hpost, by rw [ht]; exact hP9, va_K.moved hW.alike hK, hD9⟩, hS.F ht⟩) hS.2.2 dX0_startLayer_90
  · refine lv_aload_n hx hb dX0_startLayer_10 rfl (lv_at hl 0 rfl) ?_
    refine lv_iconst (v := oI 2) hx hb dX0_startLayer_11 (by decide) ?_
    refine cp_0_10 hx hb hts inX0_startLayer_X0 hown hK hP hD hS (hts _ lkX0_startLayer_f25) dX0_startLayer_12 (fun H locs hP hD hS => ?_)
    have hP : va_P (dC, dI) vwCl (CW cB cC cI cJ cZ a (va_up F 4 (oI 2)) X J R gf gn) H := hP
    have hD : va_D A (CW cB cC cI cJ cZ a (va_up F 4 (oI 2)) X J R gf gn) := hD
    refine lv_iconst (v := oI 0) hx hb dX0_startLayer_15 (by decide) ?_
    have e0 : (oI 0).toInt = 0 := by decide
    have eF9 : rg 7 7 (rg 4 4 F (va_up F 4 (oI 2))) (va_up F 4 (oI 2)) = va_up F 4 (oI 2) := by funext k; simp only [rg, va_up]; (repeat' split) <;> first | with_reducible rfl | omega
    have hP9 : va_P (dC, dI) vwCl (CW cB cC cI cJ cZ a (rg 7 7 (rg 4 4 F (va_up F 4 (oI 2))) (va_up F 4 (oI 2))) X J R gf gn) H := by rw [eF9]; exact hP
    have hD9 : va_D A (CW cB cC cI cJ cZ a (rg 7 7 (rg 4 4 F (va_up F 4 (oI 2))) (va_up F 4 (oI 2))) X J R gf gn) := by rw [eF9]; exact hD
    have hpost : (oI 0).toInt = 0 ∨ ((oI 0).toInt = 1 ∧ AF (X 1) gf (AF (X 1) gf (x + 1)) < AF (X 1) gf x ∧ 0 ≤ x ∧ x < (gf : Int)) := by first | assumption | omega | (with_reducible rfl) | ((repeat' apply And.intro) <;> first | assumption | omega | (with_reducible rfl))
    exact W.zret (v := (oI 0)) hx hb hr (by first | rfl | decide | exact zb9 (by omega)) (fun t ht hW => ⟨⟨(oI 0), (va_up F 4 (oI 2), X), rfl, hpost, by rw [ht]; exact hP9, va_K.moved hW.alike hK, hD9⟩, hS.F ht⟩) hS.2.2 dX0_startLayer_16

set_option maxHeartbeats 4000000 in
set_option maxRecDepth 100000 in
/-- X0_canBind -/
theorem c_canBind (l : Launch) (dC : Nat → ClassId) (dI : Nat → Nat → Nat) (cB cC cI cJ cZ : ClassId) (a : Nat → Nat) (F : Nat → Int32) (X : Nat → Nat → Int32) (J : Nat → Nat → Int64) (R : Nat → Nat) (gf gn : Nat) (x y : Int)  (ix : (-2147483648 ≤ x ∧ x < 2147483648)) (iy : (-2147483648 ≤ y ∧ y < 2147483648)) (hgn : gn ≤ 63261) (hnt : 0 ≤ (F 13).toInt ∧ (F 13).toInt ≤ (gn : Int)) (s0 : Nat) : Met l yX0_canBind vX0_canBind { frames := 3, cells := 0, slots := 0, locals := 103 } (va_Pc [.ref (a 0), .int (oI x), .int (oI y)] (cPre dC dI cB cC cI cJ cZ a F X J R gf gn s0)) (va_Qi (fun (r : Int32) (u : (Nat → Int32) × (Nat → Nat → Int32)) => match u with | (F1, X1) => (r).toInt = 0 ∨ (r).toInt = 1) (fun u => cPost dC dI cB cC cI cJ cZ a (rg 4 4 F u.1) X J R gf gn (va_A (CW cB cC cI cJ cZ a F X J R gf gn) s0)) (va_A (CW cB cC cI cJ cZ a F X J R gf gn) s0)) 0 0 (va_A (CW cB cC cI cJ cZ a F X J R gf gn) s0) := by
  refine Met.ofW (cc := cX0_canBind) (maxL := 3) (ret := (some .boolean)) (by decide) rfl ?_
  intro p e s m args below meth c s₁ B9 hml hv
  obtain ⟨rfl, hsz0, hP, hK, hD0, hNW⟩ := hv
  have hx := B9.exec
  have hb := B9.bytes
  have hr := B9.returns
  have hts := atoms_spec (ws := vX0_canBind) B9.pre
  have hown : s.vm.findClass RX0 = some m.cls := findClass_of_methodNamed B9.named
  have hlocks := B9.notSynchronized
  clear B9
  subst hsz0
  have hD := hD0.self (sz := s.heap.size)
  generalize hAe : va_A (CW cB cC cI cJ cZ a F X J R gf gn) s.heap.size = A at hD ⊢
  have hA : ∀ q : Nat, s.heap.size ≤ q → A q := fun q h => by rw [← hAe]; exact Or.inr h
  have hS : va_S A s.heap s.heap [] := va_S.rf
  have hcs : 0 + 0 ≤ (0 : Nat) ∧ 0 + 0 ≤ (0 : Nat) := ⟨Nat.le_refl 0, Nat.le_refl 0⟩
  have hl := lv_entry ([.ref (a 0), .int (oI x), .int (oI y)]) (n := 3) (Nat.le_of_ble_eq_true rfl)
  rw [lg_entry_eq]
  generalize (lg_sl ([.ref (a 0), .int (oI x), .int (oI y)]) ++ List.replicate (3 - (lg_sl ([.ref (a 0), .int (oI x), .int (oI y)])).length) Slot.unset).toArray = ls at hl ⊢
  have hl : lv_has ls 3 [(0, .ref (a 0)), (1, .int (oI x)), (2, .int (oI y))] := hl
  refine lv_iload_n hx hb dX0_canBind_0 rfl (lv_at hl 1 rfl) ?_
  refine ccs_iS (As := [.int (oI x)]) (rest := []) ⟨hx, hb, hml, hown, hts⟩ (c_canBeBound l dC dI cB cC cI cJ cZ a F X J R gf gn x  (by omega)   s.heap.size) (va_cwS 1 hts kX0_canBind_X6_canBeBound_273 rfl rfl rfl (by decide +kernel) ⟨Nat.le_of_ble_eq_true rfl, Nat.le_of_ble_eq_true rfl⟩) hK hNW hP hD hS hA rfl rfl hl.1 (lv_room (Nat.le_of_ble_eq_true rfl)) dX0_canBind_1 hcs (fun r_1 hw_2 H locs hP hD hS => ?_)
  have i_3 := i32r r_1
  refine cz_eq (tgt := 19) hx hb (i32r _) dX0_canBind_4 (by decide) (fun c_4 => ?_) (fun c_4 => ?_)
  · refine lv_aload_n hx hb dX0_canBind_19 rfl (lv_at hl 0 rfl) ?_
    refine lv_iconst (v := oI 3) hx hb dX0_canBind_20 (by decide) ?_
    refine cp_0_10 hx hb hts inX0_canBind_X0 hown hK hP hD hS (hts _ lkX0_canBind_f25) dX0_canBind_21 (fun H locs hP hD hS => ?_)
    have hP : va_P (dC, dI) vwCl (CW cB cC cI cJ cZ a (va_up F 4 (oI 3)) X J R gf gn) H := hP
    have hD : va_D A (CW cB cC cI cJ cZ a (va_up F 4 (oI 3)) X J R gf gn) := hD
    refine lv_aload_n hx hb dX0_canBind_24 rfl (lv_at hl 0 rfl) ?_
    refine cg_0_10 hx hb hts inX0_canBind_X0 hown hK hP (hts _ lkX0_canBind_f25) dX0_canBind_25 ?_
    refine tp_i (y := oI 3) (oI_toInt _) ?_
    refine cz_ne (tgt := 35) hx hb (by decide) dX0_canBind_28 (by decide) (fun _ => ?_) (fun q9 => absurd q9 (by omega))
    refine lv_iconst (v := oI 0) hx hb dX0_canBind_35 (by decide) ?_
    have e0 : (oI 0).toInt = 0 := by decide
    have eF9 : rg 4 4 F (va_up F 4 (oI 3)) = va_up F 4 (oI 3) := by funext k; simp only [rg, va_up]; (repeat' split) <;> first | with_reducible rfl | omega
    have hP9 : va_P (dC, dI) vwCl (CW cB cC cI cJ cZ a (rg 4 4 F (va_up F 4 (oI 3))) X J R gf gn) H := by rw [eF9]; exact hP
    have hD9 : va_D A (CW cB cC cI cJ cZ a (rg 4 4 F (va_up F 4 (oI 3))) X J R gf gn) := by rw [eF9]; exact hD
    have hpost : (oI 0).toInt = 0 ∨ (oI 0).toInt = 1 := by first | assumption | omega | (with_reducible rfl) | ((repeat' apply And.intro) <;> first | assumption | omega | (with_reducible rfl))
    exact W.zret (v := (oI 0)) hx hb hr (by first | rfl | decide | exact zb9 (by omega)) (fun t ht hW => ⟨⟨(oI 0), (va_up F 4 (oI 3), X), rfl, hpost, by rw [ht]; exact hP9, va_K.moved hW.alike hK, hD9⟩, hS.F ht⟩) hS.2.2 dX0_canBind_36
  · refine lv_aload_n hx hb dX0_canBind_7 rfl (lv_at hl 0 rfl) ?_
    refine cg_0_3 hx hb hts inX0_canBind_X0 hown hK hP (hts _ lkX0_canBind_f60) dX0_canBind_8 ?_
    refine lv_iload_n hx hb dX0_canBind_11 rfl (lv_at hl 2 rfl) ?_
    refine lv_iload_n hx hb dX0_canBind_12 rfl (lv_at hl 1 rfl) ?_
    refine ccs_iV (As := [.int (oI y), .int (oI x)]) (rest := []) ⟨hx, hb, hml, hown, hts⟩ (c_isBoundSince l dC dI cB cC cI cJ cZ a F X J R gf gn y x  (by omega) (by omega) (show gn ≤ 63261 from by first | assumption | omega) (show 0 ≤ (F 13).toInt ∧ (F 13).toInt ≤ (gn : Int) from by first | assumption | omega)  H.size) (cwV 2 hts kX0_canBind_X9_isBoundSince_276 rfl rfl rfl (by decide +kernel) ⟨Nat.le_of_ble_eq_true rfl, Nat.le_of_ble_eq_true rfl⟩) (va_recv hK hP (ci := 9) (q0 := 9) rfl rfl) hK hNW hP hD hS hA rfl rfl hl.1 (lv_room (Nat.le_of_ble_eq_true rfl)) dX0_canBind_13 hcs (fun r_5 hw_6 H locs hP hD hS => ?_)
    have i_7 := i32r r_5
    refine cz_eq (tgt := 24) hx hb (i32r _) dX0_canBind_16 (by decide) (fun c_8 => ?_) (fun c_8 => ?_)
    · refine lv_aload_n hx hb dX0_canBind_24 rfl (lv_at hl 0 rfl) ?_
      refine cg_0_10 hx hb hts inX0_canBind_X0 hown hK hP (hts _ lkX0_canBind_f25) dX0_canBind_25 ?_
      have i_9 := i32r (F 4)
      refine cz_ne (tgt := 35) hx hb (i32r _) dX0_canBind_28 (by decide) (fun c_10 => ?_) (fun c_10 => ?_)
      · refine lv_iconst (v := oI 0) hx hb dX0_canBind_35 (by decide) ?_
        have e0 : (oI 0).toInt = 0 := by decide
        have eF9 : rg 4 4 F F = F := by funext k; simp only [rg, va_up]; (repeat' split) <;> first | with_reducible rfl | omega
        have hP9 : va_P (dC, dI) vwCl (CW cB cC cI cJ cZ a (rg 4 4 F F) X J R gf gn) H := by rw [eF9]; exact hP
        have hD9 : va_D A (CW cB cC cI cJ cZ a (rg 4 4 F F) X J R gf gn) := by rw [eF9]; exact hD
        have hpost : (oI 0).toInt = 0 ∨ (oI 0).toInt = 1 := by first | assumption | omega | (with_reducible rfl) | ((repeat' apply And.intro) <;> first | assumption | omega | (with_reducible rfl))
        exact W.zret (v := (oI 0)) hx hb hr (by first | rfl | decide | exact zb9 (by omega)) (fun t ht hW => ⟨⟨(oI 0), (F, X), rfl, hpost, by rw [ht]; exact hP9, va_K.moved hW.alike hK, hD9⟩, hS.F ht⟩) hS.2.2 dX0_canBind_36
      · refine lv_iconst (v := oI 1) hx hb dX0_canBind_31 (by decide) ?_
        refine lv_goto (tgt := 36) hx hb dX0_canBind_32 (by decide) ?_
        have e0 : (oI 1).toInt = 1 := by decide
        have eF9 : rg 4 4 F F = F := by funext k; simp only [rg, va_up]; (repeat' split) <;> first | with_reducible rfl | omega
        have hP9 : va_P (dC, dI) vwCl (CW cB cC cI cJ cZ a (rg 4 4 F F) X J R gf gn) H := by rw [eF9]; exact hP
        have hD9 : va_D A (CW cB cC cI cJ cZ a (rg 4 4 F F) X J R gf gn) := by rw [eF9]; exact hD
        have hpost : (oI 1).toInt = 0 ∨ (oI 1).toInt = 1 := by first | assumption | omega | (with_reducible rfl) | ((repeat' apply And.intro) <;> first | assumption | omega | (with_reducible rfl))
        exact W.zret (v := (oI 1)) hx hb hr (by first | rfl | decide | exact zb9 (by omega)) (fun t ht hW => ⟨⟨(oI 1), (F, X), rfl, hpost, by rw [ht]; exact hP9, va_K.moved hW.alike hK, hD9⟩, hS.F ht⟩) hS.2.2 dX0_canBind_36
    · refine lv_aload_n hx hb dX0_canBind_19 rfl (lv_at hl 0 rfl) ?_
      refine lv_iconst (v := oI 3) hx hb dX0_canBind_20 (by decide) ?_
      refine cp_0_10 hx hb hts inX0_canBind_X0 hown hK hP hD hS (hts _ lkX0_canBind_f25) dX0_canBind_21 (fun H locs hP hD hS => ?_)
      have hP : va_P (dC, dI) vwCl (CW cB cC cI cJ cZ a (va_up F 4 (oI 3)) X J R gf gn) H := hP
      have hD : va_D A (CW cB cC cI cJ cZ a (va_up F 4 (oI 3)) X J R gf gn) := hD
      refine lv_aload_n hx hb dX0_canBind_24 rfl (lv_at hl 0 rfl) ?_
      refine cg_0_10 hx hb hts inX0_canBind_X0 hown hK hP (hts _ lkX0_canBind_f25) dX0_canBind_25 ?_
      refine tp_i (y := oI 3) (oI_toInt _) ?_
      refine cz_ne (tgt := 35) hx hb (by decide) dX0_canBind_28 (by decide) (fun _ => ?_) (fun q9 => absurd q9 (by omega))
      refine lv_iconst (v := oI 0) hx hb dX0_canBind_35 (by decide) ?_
      have e0 : (oI 0).toInt = 0 := by decide
      have eF9 : rg 4 4 F (va_up F 4 (oI 3)) = va_up F 4 (oI 3) := by funext k; simp only [rg, va_up]; (repeat' split) <;> first | with_reducible rfl | omega
      have hP9 : va_P (dC, dI) vwCl (CW cB cC cI cJ cZ a (rg 4 4 F (va_up F 4 (oI 3))) X J R gf gn) H := by rw [eF9]; exact hP
      have hD9 : va_D A (CW cB cC cI cJ cZ a (rg 4 4 F (va_up F 4 (oI 3))) X J R gf gn) := by rw [eF9]; exact hD
      have hpost : (oI 0).toInt = 0 ∨ (oI 0).toInt = 1 := by first | assumption | omega | (with_reducible rfl) | ((repeat' apply And.intro) <;> first | assumption | omega | (with_reducible rfl))
      exact W.zret (v := (oI 0)) hx hb hr (by first | rfl | decide | exact zb9 (by omega)) (fun t ht hW => ⟨⟨(oI 0), (va_up F 4 (oI 3), X), rfl, hpost, by rw [ht]; exact hP9, va_K.moved hW.alike hK, hD9⟩, hS.F ht⟩) hS.2.2 dX0_canBind_36
