def oX6_startText : List Cond := [Cond.fieldLink RX6 25 "MacroScopes$Names" "symbols" "I", Cond.fieldLink RX6 47 "MacroScopes$Names" "top" "I", Cond.fieldLink RX6 29 "MacroScopes$Names" "symbolsBefore" "I", Cond.fieldLink RX6 18 "MacroScopes$Names" "rules" "[I", Cond.fieldLink RX6 22 "MacroScopes$Names" "rulesBefore" "[I", Cond.methodLink RX6 89 arraycopyName, Cond.native arraycopyName, Cond.static arraycopyName, Cond.initialized "java/lang/System"]
def vX6_startText : List Cond := .code yX6_startText cX6_startText 1 none :: (oX6_startText ++ (wsX60))
theorem lkX6_startText_f25 : Cond.fieldLink RX6 25 "MacroScopes$Names" "symbols" "I" ∈ vX6_startText := List.mem_cons_of_mem _ (List.mem_append_left _ (List.mem_of_getElem? (i := 0) rfl))
theorem lkX6_startText_f47 : Cond.fieldLink RX6 47 "MacroScopes$Names" "top" "I" ∈ vX6_startText := List.mem_cons_of_mem _ (List.mem_append_left _ (List.mem_of_getElem? (i := 1) rfl))
theorem lkX6_startText_f29 : Cond.fieldLink RX6 29 "MacroScopes$Names" "symbolsBefore" "I" ∈ vX6_startText := List.mem_cons_of_mem _ (List.mem_append_left _ (List.mem_of_getElem? (i := 2) rfl))
theorem lkX6_startText_f18 : Cond.fieldLink RX6 18 "MacroScopes$Names" "rules" "[I" ∈ vX6_startText := List.mem_cons_of_mem _ (List.mem_append_left _ (List.mem_of_getElem? (i := 3) rfl))
theorem lkX6_startText_f22 : Cond.fieldLink RX6 22 "MacroScopes$Names" "rulesBefore" "[I" ∈ vX6_startText := List.mem_cons_of_mem _ (List.mem_append_left _ (List.mem_of_getElem? (i := 4) rfl))
theorem lkX6_startText_l89 : Cond.methodLink RX6 89 arraycopyName ∈ vX6_startText := List.mem_cons_of_mem _ (List.mem_append_left _ (List.mem_of_getElem? (i := 5) rfl))
theorem lkX6_startText_nat : Cond.native arraycopyName ∈ vX6_startText := List.mem_cons_of_mem _ (List.mem_append_left _ (List.mem_of_getElem? (i := 6) rfl))
theorem lkX6_startText_sta : Cond.static arraycopyName ∈ vX6_startText := List.mem_cons_of_mem _ (List.mem_append_left _ (List.mem_of_getElem? (i := 7) rfl))
theorem lkX6_startText_sys : Cond.initialized "java/lang/System" ∈ vX6_startText := List.mem_cons_of_mem _ (List.mem_append_left _ (List.mem_of_getElem? (i := 8) rfl))
theorem inX6_startText_X6 : ∀ w ∈ wsX60, w ∈ vX6_startText := fun w h => List.mem_cons_of_mem _ (List.mem_append_right _ (h))
def oX6_take : List Cond := [Cond.fieldLink RX6 29 "MacroScopes$Names" "symbolsBefore" "I", Cond.fieldLink RX6 25 "MacroScopes$Names" "symbols" "I"]
def vX6_take : List Cond := .code yX6_take cX6_take 2 none :: (oX6_take ++ (wsX60))
theorem lkX6_take_f29 : Cond.fieldLink RX6 29 "MacroScopes$Names" "symbolsBefore" "I" ∈ vX6_take := List.mem_cons_of_mem _ (List.mem_append_left _ (List.mem_of_getElem? (i := 0) rfl))
theorem lkX6_take_f25 : Cond.fieldLink RX6 25 "MacroScopes$Names" "symbols" "I" ∈ vX6_take := List.mem_cons_of_mem _ (List.mem_append_left _ (List.mem_of_getElem? (i := 1) rfl))
theorem inX6_take_X6 : ∀ w ∈ wsX60, w ∈ vX6_take := fun w h => List.mem_cons_of_mem _ (List.mem_append_right _ (h))
def oX1_startText : List Cond := [Cond.fieldLink RX1 18 "MacroScopes$Forms" "top" "I"]
def vX1_startText : List Cond := .code yX1_startText cX1_startText 1 none :: (oX1_startText ++ (wsX10))
theorem lkX1_startText_f18 : Cond.fieldLink RX1 18 "MacroScopes$Forms" "top" "I" ∈ vX1_startText := List.mem_cons_of_mem _ (List.mem_append_left _ (List.mem_of_getElem? (i := 0) rfl))
theorem inX1_startText_X1 : ∀ w ∈ wsX10, w ∈ vX1_startText := fun w h => List.mem_cons_of_mem _ (List.mem_append_right _ (h))
def oX10_startText : List Cond := [Cond.fieldLink RX10 22 "MacroScopes$Told" "length" "I"]
def vX10_startText : List Cond := .code yX10_startText cX10_startText 1 none :: (oX10_startText ++ (wsX100))
theorem lkX10_startText_f22 : Cond.fieldLink RX10 22 "MacroScopes$Told" "length" "I" ∈ vX10_startText := List.mem_cons_of_mem _ (List.mem_append_left _ (List.mem_of_getElem? (i := 0) rfl))
theorem inX10_startText_X10 : ∀ w ∈ wsX100, w ∈ vX10_startText := fun w h => List.mem_cons_of_mem _ (List.mem_append_right _ (h))
def oX10_take : List Cond := [Cond.fieldLink RX10 9 "MacroScopes$Told" "taken" "[C", Cond.fieldLink RX10 19 "MacroScopes$Told" "text" "[C", Cond.fieldLink RX10 22 "MacroScopes$Told" "length" "I", Cond.fieldLink RX10 15 "MacroScopes$Told" "takenLength" "I"]
def vX10_take : List Cond := .code yX10_take cX10_take 2 none :: (oX10_take ++ (wsX100))
theorem lkX10_take_f9 : Cond.fieldLink RX10 9 "MacroScopes$Told" "taken" "[C" ∈ vX10_take := List.mem_cons_of_mem _ (List.mem_append_left _ (List.mem_of_getElem? (i := 0) rfl))
theorem lkX10_take_f19 : Cond.fieldLink RX10 19 "MacroScopes$Told" "text" "[C" ∈ vX10_take := List.mem_cons_of_mem _ (List.mem_append_left _ (List.mem_of_getElem? (i := 1) rfl))
theorem lkX10_take_f22 : Cond.fieldLink RX10 22 "MacroScopes$Told" "length" "I" ∈ vX10_take := List.mem_cons_of_mem _ (List.mem_append_left _ (List.mem_of_getElem? (i := 2) rfl))
theorem lkX10_take_f15 : Cond.fieldLink RX10 15 "MacroScopes$Told" "takenLength" "I" ∈ vX10_take := List.mem_cons_of_mem _ (List.mem_append_left _ (List.mem_of_getElem? (i := 3) rfl))
theorem inX10_take_X10 : ∀ w ∈ wsX100, w ∈ vX10_take := fun w h => List.mem_cons_of_mem _ (List.mem_append_right _ (h))
def oX7_tokenFrom : List Cond := []
def vX7_tokenFrom : List Cond := .code yX7_tokenFrom cX7_tokenFrom 5 (some .int) :: (oX7_tokenFrom)
def oX7_tokenEnd : List Cond := []
def vX7_tokenEnd : List Cond := .code yX7_tokenEnd cX7_tokenEnd 5 (some .int) :: (oX7_tokenEnd)
def oX7_isSymbol : List Cond := []
def vX7_isSymbol : List Cond := .code yX7_isSymbol cX7_isSymbol 4 (some .boolean) :: (oX7_isSymbol)
def oX7_addForms : List Cond := [Cond.fieldLink RX7 15 "MacroScopes$Reader" "opened" "I", Cond.methodLink RX7 27 yX7_tokenFrom, Cond.instanceMethod yX7_tokenFrom, Cond.selects RX7 yX7_tokenFrom yX7_tokenFrom, Cond.initialized RX7]
def vX7_addForms : List Cond := .code yX7_addForms cX7_addForms 7 (some .int) :: (oX7_addForms ++ (vX7_tokenFrom ++ (wsX70)))
theorem lkX7_addForms_f15 : Cond.fieldLink RX7 15 "MacroScopes$Reader" "opened" "I" ∈ vX7_addForms := List.mem_cons_of_mem _ (List.mem_append_left _ (List.mem_of_getElem? (i := 0) rfl))
theorem inX7_addForms_X7 : ∀ w ∈ wsX70, w ∈ vX7_addForms := fun w h => List.mem_cons_of_mem _ (List.mem_append_right _ (List.mem_append_right _ (h)))
theorem kX7_addForms_X7_tokenFrom_27 : GoodIn vX7_addForms (wsV RX7 27 RX7 yX7_tokenFrom vX7_tokenFrom) := goodIn_sub (fun w h => (List.mem_append.mp h).elim (fun h => List.mem_cons_of_mem _ (List.mem_append_left _ ((by decide +kernel : ∀ w ∈ ([.methodLink RX7 27 yX7_tokenFrom, .instanceMethod yX7_tokenFrom, .selects RX7 yX7_tokenFrom yX7_tokenFrom, .initialized RX7] : List Cond), w ∈ oX7_addForms) w h))) (fun h => List.mem_cons_of_mem _ (List.mem_append_right _ (List.mem_append_left _ (h))))) (by decide +kernel)
def oX0_startText : List Cond := [Cond.fieldLink RX0 18 "MacroScopes$Expander" "nextTop" "I", Cond.fieldLink RX0 12 "MacroScopes$Expander" "frames" "LMacroScopes$Frames;", Cond.fieldLink RX0 22 "MacroScopes$Expander" "defined" "I", Cond.fieldLink RX0 25 "MacroScopes$Expander" "fault" "I", Cond.fieldLink RX0 28 "MacroScopes$Expander" "place" "I", Cond.fieldLink RX0 31 "MacroScopes$Expander" "uses" "I", Cond.fieldLink RX0 34 "MacroScopes$Expander" "layers" "I", Cond.fieldLink RX0 37 "MacroScopes$Expander" "variables" "I"]
def vX0_startText : List Cond := .code yX0_startText cX0_startText 1 none :: (oX0_startText ++ (wsX00 ++ (wsX20)))
theorem lkX0_startText_f18 : Cond.fieldLink RX0 18 "MacroScopes$Expander" "nextTop" "I" ∈ vX0_startText := List.mem_cons_of_mem _ (List.mem_append_left _ (List.mem_of_getElem? (i := 0) rfl))
theorem lkX0_startText_f12 : Cond.fieldLink RX0 12 "MacroScopes$Expander" "frames" "LMacroScopes$Frames;" ∈ vX0_startText := List.mem_cons_of_mem _ (List.mem_append_left _ (List.mem_of_getElem? (i := 1) rfl))
theorem lkX0_startText_f22 : Cond.fieldLink RX0 22 "MacroScopes$Expander" "defined" "I" ∈ vX0_startText := List.mem_cons_of_mem _ (List.mem_append_left _ (List.mem_of_getElem? (i := 2) rfl))
theorem lkX0_startText_f25 : Cond.fieldLink RX0 25 "MacroScopes$Expander" "fault" "I" ∈ vX0_startText := List.mem_cons_of_mem _ (List.mem_append_left _ (List.mem_of_getElem? (i := 3) rfl))
theorem lkX0_startText_f28 : Cond.fieldLink RX0 28 "MacroScopes$Expander" "place" "I" ∈ vX0_startText := List.mem_cons_of_mem _ (List.mem_append_left _ (List.mem_of_getElem? (i := 4) rfl))
theorem lkX0_startText_f31 : Cond.fieldLink RX0 31 "MacroScopes$Expander" "uses" "I" ∈ vX0_startText := List.mem_cons_of_mem _ (List.mem_append_left _ (List.mem_of_getElem? (i := 5) rfl))
theorem lkX0_startText_f34 : Cond.fieldLink RX0 34 "MacroScopes$Expander" "layers" "I" ∈ vX0_startText := List.mem_cons_of_mem _ (List.mem_append_left _ (List.mem_of_getElem? (i := 6) rfl))
theorem lkX0_startText_f37 : Cond.fieldLink RX0 37 "MacroScopes$Expander" "variables" "I" ∈ vX0_startText := List.mem_cons_of_mem _ (List.mem_append_left _ (List.mem_of_getElem? (i := 7) rfl))
theorem inX0_startText_X0 : ∀ w ∈ wsX00, w ∈ vX0_startText := fun w h => List.mem_cons_of_mem _ (List.mem_append_right _ (List.mem_append_left _ (h)))
theorem inX0_startText_X2 : ∀ w ∈ wsX20, w ∈ vX0_startText := fun w h => List.mem_cons_of_mem _ (List.mem_append_right _ (List.mem_append_right _ (h)))
def oX9_leaveTo : List Cond := [Cond.fieldLink RX9 24 "MacroScopes$Scopes" "top" "I"]
def vX9_leaveTo : List Cond := .code yX9_leaveTo cX9_leaveTo 2 none :: (oX9_leaveTo ++ (wsX90))
theorem lkX9_leaveTo_f24 : Cond.fieldLink RX9 24 "MacroScopes$Scopes" "top" "I" ∈ vX9_leaveTo := List.mem_cons_of_mem _ (List.mem_append_left _ (List.mem_of_getElem? (i := 0) rfl))
theorem inX9_leaveTo_X9 : ∀ w ∈ wsX90, w ∈ vX9_leaveTo := fun w h => List.mem_cons_of_mem _ (List.mem_append_right _ (h))
def oX0_tellText : List Cond := [Cond.methodLink RX0 91 yX0_startText, Cond.instanceMethod yX0_startText, Cond.selects RX0 yX0_startText yX0_startText, Cond.initialized RX0, Cond.fieldLink RX0 43 "MacroScopes$Expander" "forms" "LMacroScopes$Forms;", Cond.constant RX0 99 (1000000), Cond.fieldLink RX0 25 "MacroScopes$Expander" "fault" "I", Cond.fieldLink RX0 12 "MacroScopes$Expander" "frames" "LMacroScopes$Frames;", Cond.fieldLink RX0 18 "MacroScopes$Expander" "nextTop" "I", Cond.fieldLink RX0 60 "MacroScopes$Expander" "scopes" "LMacroScopes$Scopes;", Cond.methodLink RX0 139 yX9_leaveTo, Cond.instanceMethod yX9_leaveTo, Cond.selects RX9 yX9_leaveTo yX9_leaveTo, Cond.initialized RX9, Cond.fieldLink RX0 51 "MacroScopes$Expander" "told" "LMacroScopes$Told;"]
def vX0_tellText : List Cond := .code yX0_tellText cX0_tellText 5 (some .int) :: (oX0_tellText ++ (vX0_startText ++ (vX9_leaveTo ++ (wsX00 ++ (wsX10 ++ (wsX20 ++ (wsX100)))))))
theorem lkX0_tellText_f43 : Cond.fieldLink RX0 43 "MacroScopes$Expander" "forms" "LMacroScopes$Forms;" ∈ vX0_tellText := List.mem_cons_of_mem _ (List.mem_append_left _ (List.mem_of_getElem? (i := 4) rfl))
theorem lkX0_tellText_c99 : Cond.constant RX0 99 (1000000) ∈ vX0_tellText := List.mem_cons_of_mem _ (List.mem_append_left _ (List.mem_of_getElem? (i := 5) rfl))
theorem lkX0_tellText_f25 : Cond.fieldLink RX0 25 "MacroScopes$Expander" "fault" "I" ∈ vX0_tellText := List.mem_cons_of_mem _ (List.mem_append_left _ (List.mem_of_getElem? (i := 6) rfl))
theorem lkX0_tellText_f12 : Cond.fieldLink RX0 12 "MacroScopes$Expander" "frames" "LMacroScopes$Frames;" ∈ vX0_tellText := List.mem_cons_of_mem _ (List.mem_append_left _ (List.mem_of_getElem? (i := 7) rfl))
theorem lkX0_tellText_f18 : Cond.fieldLink RX0 18 "MacroScopes$Expander" "nextTop" "I" ∈ vX0_tellText := List.mem_cons_of_mem _ (List.mem_append_left _ (List.mem_of_getElem? (i := 8) rfl))
theorem lkX0_tellText_f60 : Cond.fieldLink RX0 60 "MacroScopes$Expander" "scopes" "LMacroScopes$Scopes;" ∈ vX0_tellText := List.mem_cons_of_mem _ (List.mem_append_left _ (List.mem_of_getElem? (i := 9) rfl))
theorem lkX0_tellText_f51 : Cond.fieldLink RX0 51 "MacroScopes$Expander" "told" "LMacroScopes$Told;" ∈ vX0_tellText := List.mem_cons_of_mem _ (List.mem_append_left _ (List.mem_of_getElem? (i := 14) rfl))
theorem inX0_tellText_X0 : ∀ w ∈ wsX00, w ∈ vX0_tellText := fun w h => List.mem_cons_of_mem _ (List.mem_append_right _ (List.mem_append_right _ (List.mem_append_right _ (List.mem_append_left _ (h)))))
theorem inX0_tellText_X1 : ∀ w ∈ wsX10, w ∈ vX0_tellText := fun w h => List.mem_cons_of_mem _ (List.mem_append_right _ (List.mem_append_right _ (List.mem_append_right _ (List.mem_append_right _ (List.mem_append_left _ (h))))))
theorem inX0_tellText_X2 : ∀ w ∈ wsX20, w ∈ vX0_tellText := fun w h => List.mem_cons_of_mem _ (List.mem_append_right _ (List.mem_append_right _ (List.mem_append_right _ (List.mem_append_right _ (List.mem_append_right _ (List.mem_append_left _ (h)))))))
theorem inX0_tellText_X10 : ∀ w ∈ wsX100, w ∈ vX0_tellText := fun w h => List.mem_cons_of_mem _ (List.mem_append_right _ (List.mem_append_right _ (List.mem_append_right _ (List.mem_append_right _ (List.mem_append_right _ (List.mem_append_right _ (h)))))))
theorem kX0_tellText_X0_startText_91 : GoodIn vX0_tellText (wsV RX0 91 RX0 yX0_startText vX0_startText) := goodIn_sub (fun w h => (List.mem_append.mp h).elim (fun h => List.mem_cons_of_mem _ (List.mem_append_left _ ((by decide +kernel : ∀ w ∈ ([.methodLink RX0 91 yX0_startText, .instanceMethod yX0_startText, .selects RX0 yX0_startText yX0_startText, .initialized RX0] : List Cond), w ∈ oX0_tellText) w h))) (fun h => List.mem_cons_of_mem _ (List.mem_append_right _ (List.mem_append_left _ (h))))) (by decide +kernel)
theorem kX0_tellText_X9_leaveTo_139 : GoodIn vX0_tellText (wsV RX0 139 RX9 yX9_leaveTo vX9_leaveTo) := goodIn_sub (fun w h => (List.mem_append.mp h).elim (fun h => List.mem_cons_of_mem _ (List.mem_append_left _ ((by decide +kernel : ∀ w ∈ ([.methodLink RX0 139 yX9_leaveTo, .instanceMethod yX9_leaveTo, .selects RX9 yX9_leaveTo yX9_leaveTo, .initialized RX9] : List Cond), w ∈ oX0_tellText) w h))) (fun h => List.mem_cons_of_mem _ (List.mem_append_right _ (List.mem_append_right _ (List.mem_append_left _ (h)))))) (by decide +kernel)
def oX11_takeText : List Cond := [Cond.fieldLink RX11 30 "MacroScopes" "told" "LMacroScopes$Told;", Cond.methodLink RX11 127 yX10_take, Cond.instanceMethod yX10_take, Cond.selects RX10 yX10_take yX10_take, Cond.initialized RX10, Cond.fieldLink RX11 48 "MacroScopes" "expander" "LMacroScopes$Expander;", Cond.fieldLink RX11 59 "MacroScopes" "uses" "I", Cond.fieldLink RX11 62 "MacroScopes" "variables" "I", Cond.fieldLink RX11 65 "MacroScopes" "topForms" "I", Cond.fieldLink RX11 16 "MacroScopes" "names" "LMacroScopes$Names;", Cond.methodLink RX11 132 yX6_take, Cond.instanceMethod yX6_take, Cond.selects RX6 yX6_take yX6_take, Cond.initialized RX6]
def vX11_takeText : List Cond := .code yX11_takeText cX11_takeText 2 none :: (oX11_takeText ++ (vX10_take ++ (vX6_take ++ (wsX110 ++ (wsX00)))))
theorem lkX11_takeText_f30 : Cond.fieldLink RX11 30 "MacroScopes" "told" "LMacroScopes$Told;" ∈ vX11_takeText := List.mem_cons_of_mem _ (List.mem_append_left _ (List.mem_of_getElem? (i := 0) rfl))
theorem lkX11_takeText_f48 : Cond.fieldLink RX11 48 "MacroScopes" "expander" "LMacroScopes$Expander;" ∈ vX11_takeText := List.mem_cons_of_mem _ (List.mem_append_left _ (List.mem_of_getElem? (i := 5) rfl))
theorem lkX11_takeText_f59 : Cond.fieldLink RX11 59 "MacroScopes" "uses" "I" ∈ vX11_takeText := List.mem_cons_of_mem _ (List.mem_append_left _ (List.mem_of_getElem? (i := 6) rfl))
theorem lkX11_takeText_f62 : Cond.fieldLink RX11 62 "MacroScopes" "variables" "I" ∈ vX11_takeText := List.mem_cons_of_mem _ (List.mem_append_left _ (List.mem_of_getElem? (i := 7) rfl))
theorem lkX11_takeText_f65 : Cond.fieldLink RX11 65 "MacroScopes" "topForms" "I" ∈ vX11_takeText := List.mem_cons_of_mem _ (List.mem_append_left _ (List.mem_of_getElem? (i := 8) rfl))
theorem lkX11_takeText_f16 : Cond.fieldLink RX11 16 "MacroScopes" "names" "LMacroScopes$Names;" ∈ vX11_takeText := List.mem_cons_of_mem _ (List.mem_append_left _ (List.mem_of_getElem? (i := 9) rfl))
theorem inX11_takeText_X11 : ∀ w ∈ wsX110, w ∈ vX11_takeText := fun w h => List.mem_cons_of_mem _ (List.mem_append_right _ (List.mem_append_right _ (List.mem_append_right _ (List.mem_append_left _ (h)))))
theorem inX11_takeText_X0 : ∀ w ∈ wsX00, w ∈ vX11_takeText := fun w h => List.mem_cons_of_mem _ (List.mem_append_right _ (List.mem_append_right _ (List.mem_append_right _ (List.mem_append_right _ (h)))))
theorem kX11_takeText_X10_take_127 : GoodIn vX11_takeText (wsV RX11 127 RX10 yX10_take vX10_take) := goodIn_sub (fun w h => (List.mem_append.mp h).elim (fun h => List.mem_cons_of_mem _ (List.mem_append_left _ ((by decide +kernel : ∀ w ∈ ([.methodLink RX11 127 yX10_take, .instanceMethod yX10_take, .selects RX10 yX10_take yX10_take, .initialized RX10] : List Cond), w ∈ oX11_takeText) w h))) (fun h => List.mem_cons_of_mem _ (List.mem_append_right _ (List.mem_append_left _ (h))))) (by decide +kernel)
theorem kX11_takeText_X6_take_132 : GoodIn vX11_takeText (wsV RX11 132 RX6 yX6_take vX6_take) := goodIn_sub (fun w h => (List.mem_append.mp h).elim (fun h => List.mem_cons_of_mem _ (List.mem_append_left _ ((by decide +kernel : ∀ w ∈ ([.methodLink RX11 132 yX6_take, .instanceMethod yX6_take, .selects RX6 yX6_take yX6_take, .initialized RX6] : List Cond), w ∈ oX11_takeText) w h))) (fun h => List.mem_cons_of_mem _ (List.mem_append_right _ (List.mem_append_right _ (List.mem_append_left _ (h)))))) (by decide +kernel)
def oX11_read : List Cond := [Cond.fieldLink RX11 23 "MacroScopes" "forms" "LMacroScopes$Forms;", Cond.fieldLink RX11 16 "MacroScopes" "names" "LMacroScopes$Names;", Cond.methodLink RX11 75 yX6_startText, Cond.instanceMethod yX6_startText, Cond.selects RX6 yX6_startText yX6_startText, Cond.initialized RX6, Cond.methodLink RX11 78 yX1_startText, Cond.instanceMethod yX1_startText, Cond.selects RX1 yX1_startText yX1_startText, Cond.initialized RX1, Cond.fieldLink RX11 30 "MacroScopes" "told" "LMacroScopes$Told;", Cond.methodLink RX11 79 yX10_startText, Cond.instanceMethod yX10_startText, Cond.selects RX10 yX10_startText yX10_startText, Cond.initialized RX10, Cond.fieldLink RX11 56 "MacroScopes" "place" "I", Cond.fieldLink RX11 39 "MacroScopes" "reader" "LMacroScopes$Reader;", Cond.fieldLink RX11 9 "MacroScopes" "typed" "[C", Cond.fieldLink RX11 52 "MacroScopes" "typedLength" "I", Cond.methodLink RX11 80 yX7_addForms, Cond.instanceMethod yX7_addForms, Cond.selects RX7 yX7_addForms yX7_addForms, Cond.initialized RX7, Cond.fieldLink RX11 48 "MacroScopes" "expander" "LMacroScopes$Expander;", Cond.methodLink RX11 84 yX0_tellText, Cond.instanceMethod yX0_tellText, Cond.selects RX0 yX0_tellText yX0_tellText, Cond.initialized RX0, Cond.methodLink RX11 89 yX11_takeText, Cond.instanceMethod yX11_takeText, Cond.selects RX11 yX11_takeText yX11_takeText, Cond.initialized RX11]
def vX11_read : List Cond := .code yX11_read cX11_read 3 (some .int) :: (oX11_read ++ (vX6_startText ++ (vX1_startText ++ (vX10_startText ++ (vX7_addForms ++ (vX0_tellText ++ (vX11_takeText ++ (wsX110 ++ (wsX10)))))))))
theorem lkX11_read_f23 : Cond.fieldLink RX11 23 "MacroScopes" "forms" "LMacroScopes$Forms;" ∈ vX11_read := List.mem_cons_of_mem _ (List.mem_append_left _ (List.mem_of_getElem? (i := 0) rfl))
theorem lkX11_read_f16 : Cond.fieldLink RX11 16 "MacroScopes" "names" "LMacroScopes$Names;" ∈ vX11_read := List.mem_cons_of_mem _ (List.mem_append_left _ (List.mem_of_getElem? (i := 1) rfl))
theorem lkX11_read_f30 : Cond.fieldLink RX11 30 "MacroScopes" "told" "LMacroScopes$Told;" ∈ vX11_read := List.mem_cons_of_mem _ (List.mem_append_left _ (List.mem_of_getElem? (i := 10) rfl))
theorem lkX11_read_f56 : Cond.fieldLink RX11 56 "MacroScopes" "place" "I" ∈ vX11_read := List.mem_cons_of_mem _ (List.mem_append_left _ (List.mem_of_getElem? (i := 15) rfl))
theorem lkX11_read_f39 : Cond.fieldLink RX11 39 "MacroScopes" "reader" "LMacroScopes$Reader;" ∈ vX11_read := List.mem_cons_of_mem _ (List.mem_append_left _ (List.mem_of_getElem? (i := 16) rfl))
theorem lkX11_read_f9 : Cond.fieldLink RX11 9 "MacroScopes" "typed" "[C" ∈ vX11_read := List.mem_cons_of_mem _ (List.mem_append_left _ (List.mem_of_getElem? (i := 17) rfl))
theorem lkX11_read_f52 : Cond.fieldLink RX11 52 "MacroScopes" "typedLength" "I" ∈ vX11_read := List.mem_cons_of_mem _ (List.mem_append_left _ (List.mem_of_getElem? (i := 18) rfl))
theorem lkX11_read_f48 : Cond.fieldLink RX11 48 "MacroScopes" "expander" "LMacroScopes$Expander;" ∈ vX11_read := List.mem_cons_of_mem _ (List.mem_append_left _ (List.mem_of_getElem? (i := 23) rfl))
theorem inX11_read_X11 : ∀ w ∈ wsX110, w ∈ vX11_read := fun w h => List.mem_cons_of_mem _ (List.mem_append_right _ (List.mem_append_right _ (List.mem_append_right _ (List.mem_append_right _ (List.mem_append_right _ (List.mem_append_right _ (List.mem_append_right _ (List.mem_append_left _ (h)))))))))
theorem inX11_read_X1 : ∀ w ∈ wsX10, w ∈ vX11_read := fun w h => List.mem_cons_of_mem _ (List.mem_append_right _ (List.mem_append_right _ (List.mem_append_right _ (List.mem_append_right _ (List.mem_append_right _ (List.mem_append_right _ (List.mem_append_right _ (List.mem_append_right _ (h)))))))))
theorem kX11_read_X6_startText_75 : GoodIn vX11_read (wsV RX11 75 RX6 yX6_startText vX6_startText) := goodIn_sub (fun w h => (List.mem_append.mp h).elim (fun h => List.mem_cons_of_mem _ (List.mem_append_left _ ((by decide +kernel : ∀ w ∈ ([.methodLink RX11 75 yX6_startText, .instanceMethod yX6_startText, .selects RX6 yX6_startText yX6_startText, .initialized RX6] : List Cond), w ∈ oX11_read) w h))) (fun h => List.mem_cons_of_mem _ (List.mem_append_right _ (List.mem_append_left _ (h))))) (by decide +kernel)
theorem kX11_read_X1_startText_78 : GoodIn vX11_read (wsV RX11 78 RX1 yX1_startText vX1_startText) := goodIn_sub (fun w h => (List.mem_append.mp h).elim (fun h => List.mem_cons_of_mem _ (List.mem_append_left _ ((by decide +kernel : ∀ w ∈ ([.methodLink RX11 78 yX1_startText, .instanceMethod yX1_startText, .selects RX1 yX1_startText yX1_startText, .initialized RX1] : List Cond), w ∈ oX11_read) w h))) (fun h => List.mem_cons_of_mem _ (List.mem_append_right _ (List.mem_append_right _ (List.mem_append_left _ (h)))))) (by decide +kernel)
theorem kX11_read_X10_startText_79 : GoodIn vX11_read (wsV RX11 79 RX10 yX10_startText vX10_startText) := goodIn_sub (fun w h => (List.mem_append.mp h).elim (fun h => List.mem_cons_of_mem _ (List.mem_append_left _ ((by decide +kernel : ∀ w ∈ ([.methodLink RX11 79 yX10_startText, .instanceMethod yX10_startText, .selects RX10 yX10_startText yX10_startText, .initialized RX10] : List Cond), w ∈ oX11_read) w h))) (fun h => List.mem_cons_of_mem _ (List.mem_append_right _ (List.mem_append_right _ (List.mem_append_right _ (List.mem_append_left _ (h))))))) (by decide +kernel)
theorem kX11_read_X7_addForms_80 : GoodIn vX11_read (wsV RX11 80 RX7 yX7_addForms vX7_addForms) := goodIn_sub (fun w h => (List.mem_append.mp h).elim (fun h => List.mem_cons_of_mem _ (List.mem_append_left _ ((by decide +kernel : ∀ w ∈ ([.methodLink RX11 80 yX7_addForms, .instanceMethod yX7_addForms, .selects RX7 yX7_addForms yX7_addForms, .initialized RX7] : List Cond), w ∈ oX11_read) w h))) (fun h => List.mem_cons_of_mem _ (List.mem_append_right _ (List.mem_append_right _ (List.mem_append_right _ (List.mem_append_right _ (List.mem_append_left _ (h)))))))) (by decide +kernel)
theorem kX11_read_X0_tellText_84 : GoodIn vX11_read (wsV RX11 84 RX0 yX0_tellText vX0_tellText) := goodIn_sub (fun w h => (List.mem_append.mp h).elim (fun h => List.mem_cons_of_mem _ (List.mem_append_left _ ((by decide +kernel : ∀ w ∈ ([.methodLink RX11 84 yX0_tellText, .instanceMethod yX0_tellText, .selects RX0 yX0_tellText yX0_tellText, .initialized RX0] : List Cond), w ∈ oX11_read) w h))) (fun h => List.mem_cons_of_mem _ (List.mem_append_right _ (List.mem_append_right _ (List.mem_append_right _ (List.mem_append_right _ (List.mem_append_right _ (List.mem_append_left _ (h))))))))) (by decide +kernel)
theorem kX11_read_X11_takeText_89 : GoodIn vX11_read (wsV RX11 89 RX11 yX11_takeText vX11_takeText) := goodIn_sub (fun w h => (List.mem_append.mp h).elim (fun h => List.mem_cons_of_mem _ (List.mem_append_left _ ((by decide +kernel : ∀ w ∈ ([.methodLink RX11 89 yX11_takeText, .instanceMethod yX11_takeText, .selects RX11 yX11_takeText yX11_takeText, .initialized RX11] : List Cond), w ∈ oX11_read) w h))) (fun h => List.mem_cons_of_mem _ (List.mem_append_right _ (List.mem_append_right _ (List.mem_append_right _ (List.mem_append_right _ (List.mem_append_right _ (List.mem_append_right _ (List.mem_append_left _ (h)))))))))) (by decide +kernel)
def oX11_place : List Cond := [Cond.fieldLink RX11 56 "MacroScopes" "place" "I"]
def vX11_place : List Cond := .code yX11_place cX11_place 1 (some .int) :: (oX11_place ++ (wsX110))
theorem lkX11_place_f56 : Cond.fieldLink RX11 56 "MacroScopes" "place" "I" ∈ vX11_place := List.mem_cons_of_mem _ (List.mem_append_left _ (List.mem_of_getElem? (i := 0) rfl))
theorem inX11_place_X11 : ∀ w ∈ wsX110, w ∈ vX11_place := fun w h => List.mem_cons_of_mem _ (List.mem_append_right _ (h))
def oX6_macros : List Cond := [Cond.fieldLink RX6 25 "MacroScopes$Names" "symbols" "I", Cond.fieldLink RX6 18 "MacroScopes$Names" "rules" "[I"]
def vX6_macros : List Cond := .code yX6_macros cX6_macros 3 (some .int) :: (oX6_macros ++ (wsX60))
theorem lkX6_macros_f25 : Cond.fieldLink RX6 25 "MacroScopes$Names" "symbols" "I" ∈ vX6_macros := List.mem_cons_of_mem _ (List.mem_append_left _ (List.mem_of_getElem? (i := 0) rfl))
theorem lkX6_macros_f18 : Cond.fieldLink RX6 18 "MacroScopes$Names" "rules" "[I" ∈ vX6_macros := List.mem_cons_of_mem _ (List.mem_append_left _ (List.mem_of_getElem? (i := 1) rfl))
theorem inX6_macros_X6 : ∀ w ∈ wsX60, w ∈ vX6_macros := fun w h => List.mem_cons_of_mem _ (List.mem_append_right _ (h))
def oX11_count : List Cond := [Cond.fieldLink RX11 30 "MacroScopes" "told" "LMacroScopes$Told;", Cond.fieldLink RX11 59 "MacroScopes" "uses" "I", Cond.fieldLink RX11 62 "MacroScopes" "variables" "I", Cond.fieldLink RX11 65 "MacroScopes" "topForms" "I", Cond.fieldLink RX11 16 "MacroScopes" "names" "LMacroScopes$Names;", Cond.methodLink RX11 99 yX6_macros, Cond.instanceMethod yX6_macros, Cond.selects RX6 yX6_macros yX6_macros, Cond.initialized RX6, Cond.fieldLink RX11 23 "MacroScopes" "forms" "LMacroScopes$Forms;"]
def vX11_count : List Cond := .code yX11_count cX11_count 2 (some .int) :: (oX11_count ++ (vX6_macros ++ (wsX110 ++ (wsX100 ++ (wsX10)))))
theorem lkX11_count_f30 : Cond.fieldLink RX11 30 "MacroScopes" "told" "LMacroScopes$Told;" ∈ vX11_count := List.mem_cons_of_mem _ (List.mem_append_left _ (List.mem_of_getElem? (i := 0) rfl))
theorem lkX11_count_f59 : Cond.fieldLink RX11 59 "MacroScopes" "uses" "I" ∈ vX11_count := List.mem_cons_of_mem _ (List.mem_append_left _ (List.mem_of_getElem? (i := 1) rfl))
theorem lkX11_count_f62 : Cond.fieldLink RX11 62 "MacroScopes" "variables" "I" ∈ vX11_count := List.mem_cons_of_mem _ (List.mem_append_left _ (List.mem_of_getElem? (i := 2) rfl))
theorem lkX11_count_f65 : Cond.fieldLink RX11 65 "MacroScopes" "topForms" "I" ∈ vX11_count := List.mem_cons_of_mem _ (List.mem_append_left _ (List.mem_of_getElem? (i := 3) rfl))
theorem lkX11_count_f16 : Cond.fieldLink RX11 16 "MacroScopes" "names" "LMacroScopes$Names;" ∈ vX11_count := List.mem_cons_of_mem _ (List.mem_append_left _ (List.mem_of_getElem? (i := 4) rfl))
theorem lkX11_count_f23 : Cond.fieldLink RX11 23 "MacroScopes" "forms" "LMacroScopes$Forms;" ∈ vX11_count := List.mem_cons_of_mem _ (List.mem_append_left _ (List.mem_of_getElem? (i := 9) rfl))
theorem inX11_count_X11 : ∀ w ∈ wsX110, w ∈ vX11_count := fun w h => List.mem_cons_of_mem _ (List.mem_append_right _ (List.mem_append_right _ (List.mem_append_left _ (h))))
theorem inX11_count_X10 : ∀ w ∈ wsX100, w ∈ vX11_count := fun w h => List.mem_cons_of_mem _ (List.mem_append_right _ (List.mem_append_right _ (List.mem_append_right _ (List.mem_append_left _ (h)))))
theorem inX11_count_X1 : ∀ w ∈ wsX10, w ∈ vX11_count := fun w h => List.mem_cons_of_mem _ (List.mem_append_right _ (List.mem_append_right _ (List.mem_append_right _ (List.mem_append_right _ (h)))))
theorem kX11_count_X6_macros_99 : GoodIn vX11_count (wsV RX11 99 RX6 yX6_macros vX6_macros) := goodIn_sub (fun w h => (List.mem_append.mp h).elim (fun h => List.mem_cons_of_mem _ (List.mem_append_left _ ((by decide +kernel : ∀ w ∈ ([.methodLink RX11 99 yX6_macros, .instanceMethod yX6_macros, .selects RX6 yX6_macros yX6_macros, .initialized RX6] : List Cond), w ∈ oX11_count) w h))) (fun h => List.mem_cons_of_mem _ (List.mem_append_right _ (List.mem_append_left _ (h))))) (by decide +kernel)
def oX10_at : List Cond := [Cond.fieldLink RX10 15 "MacroScopes$Told" "takenLength" "I"]
def vX10_at : List Cond := .code yX10_at cX10_at 2 (some .int) :: (oX10_at ++ (wsX100))
theorem lkX10_at_f15 : Cond.fieldLink RX10 15 "MacroScopes$Told" "takenLength" "I" ∈ vX10_at := List.mem_cons_of_mem _ (List.mem_append_left _ (List.mem_of_getElem? (i := 0) rfl))
theorem inX10_at_X10 : ∀ w ∈ wsX100, w ∈ vX10_at := fun w h => List.mem_cons_of_mem _ (List.mem_append_right _ (h))
def oX11_character : List Cond := [Cond.fieldLink RX11 30 "MacroScopes" "told" "LMacroScopes$Told;", Cond.methodLink RX11 102 yX10_at, Cond.instanceMethod yX10_at, Cond.selects RX10 yX10_at yX10_at, Cond.initialized RX10]
def vX11_character : List Cond := .code yX11_character cX11_character 2 (some .int) :: (oX11_character ++ (vX10_at ++ (wsX110)))
theorem lkX11_character_f30 : Cond.fieldLink RX11 30 "MacroScopes" "told" "LMacroScopes$Told;" ∈ vX11_character := List.mem_cons_of_mem _ (List.mem_append_left _ (List.mem_of_getElem? (i := 0) rfl))
theorem inX11_character_X11 : ∀ w ∈ wsX110, w ∈ vX11_character := fun w h => List.mem_cons_of_mem _ (List.mem_append_right _ (List.mem_append_right _ (h)))
theorem kX11_character_X10_at_102 : GoodIn vX11_character (wsV RX11 102 RX10 yX10_at vX10_at) := goodIn_sub (fun w h => (List.mem_append.mp h).elim (fun h => List.mem_cons_of_mem _ (List.mem_append_left _ ((by decide +kernel : ∀ w ∈ ([.methodLink RX11 102 yX10_at, .instanceMethod yX10_at, .selects RX10 yX10_at yX10_at, .initialized RX10] : List Cond), w ∈ oX11_character) w h))) (fun h => List.mem_cons_of_mem _ (List.mem_append_right _ (List.mem_append_left _ (h))))) (by decide +kernel)
def oX11_means : List Cond := [Cond.fieldLink RX11 39 "MacroScopes" "reader" "LMacroScopes$Reader;", Cond.fieldLink RX11 9 "MacroScopes" "typed" "[C", Cond.fieldLink RX11 52 "MacroScopes" "typedLength" "I", Cond.methodLink RX11 106 yX7_tokenFrom, Cond.instanceMethod yX7_tokenFrom, Cond.selects RX7 yX7_tokenFrom yX7_tokenFrom, Cond.initialized RX7, Cond.methodLink RX11 110 yX7_tokenEnd, Cond.instanceMethod yX7_tokenEnd, Cond.selects RX7 yX7_tokenEnd yX7_tokenEnd, Cond.methodLink RX11 113 yX7_isSymbol, Cond.instanceMethod yX7_isSymbol, Cond.selects RX7 yX7_isSymbol yX7_isSymbol]
def vX11_means : List Cond := .code yX11_means cX11_means 5 (some .int) :: (oX11_means ++ (vX7_tokenFrom ++ (vX7_tokenEnd ++ (vX7_isSymbol ++ (wsX110)))))
theorem lkX11_means_f39 : Cond.fieldLink RX11 39 "MacroScopes" "reader" "LMacroScopes$Reader;" ∈ vX11_means := List.mem_cons_of_mem _ (List.mem_append_left _ (List.mem_of_getElem? (i := 0) rfl))
theorem lkX11_means_f9 : Cond.fieldLink RX11 9 "MacroScopes" "typed" "[C" ∈ vX11_means := List.mem_cons_of_mem _ (List.mem_append_left _ (List.mem_of_getElem? (i := 1) rfl))
theorem lkX11_means_f52 : Cond.fieldLink RX11 52 "MacroScopes" "typedLength" "I" ∈ vX11_means := List.mem_cons_of_mem _ (List.mem_append_left _ (List.mem_of_getElem? (i := 2) rfl))
theorem inX11_means_X11 : ∀ w ∈ wsX110, w ∈ vX11_means := fun w h => List.mem_cons_of_mem _ (List.mem_append_right _ (List.mem_append_right _ (List.mem_append_right _ (List.mem_append_right _ (h)))))
theorem kX11_means_X7_tokenFrom_106 : GoodIn vX11_means (wsV RX11 106 RX7 yX7_tokenFrom vX7_tokenFrom) := goodIn_sub (fun w h => (List.mem_append.mp h).elim (fun h => List.mem_cons_of_mem _ (List.mem_append_left _ ((by decide +kernel : ∀ w ∈ ([.methodLink RX11 106 yX7_tokenFrom, .instanceMethod yX7_tokenFrom, .selects RX7 yX7_tokenFrom yX7_tokenFrom, .initialized RX7] : List Cond), w ∈ oX11_means) w h))) (fun h => List.mem_cons_of_mem _ (List.mem_append_right _ (List.mem_append_left _ (h))))) (by decide +kernel)
theorem kX11_means_X7_tokenEnd_110 : GoodIn vX11_means (wsV RX11 110 RX7 yX7_tokenEnd vX7_tokenEnd) := goodIn_sub (fun w h => (List.mem_append.mp h).elim (fun h => List.mem_cons_of_mem _ (List.mem_append_left _ ((by decide +kernel : ∀ w ∈ ([.methodLink RX11 110 yX7_tokenEnd, .instanceMethod yX7_tokenEnd, .selects RX7 yX7_tokenEnd yX7_tokenEnd, .initialized RX7] : List Cond), w ∈ oX11_means) w h))) (fun h => List.mem_cons_of_mem _ (List.mem_append_right _ (List.mem_append_right _ (List.mem_append_left _ (h)))))) (by decide +kernel)
theorem kX11_means_X7_isSymbol_113 : GoodIn vX11_means (wsV RX11 113 RX7 yX7_isSymbol vX7_isSymbol) := goodIn_sub (fun w h => (List.mem_append.mp h).elim (fun h => List.mem_cons_of_mem _ (List.mem_append_left _ ((by decide +kernel : ∀ w ∈ ([.methodLink RX11 113 yX7_isSymbol, .instanceMethod yX7_isSymbol, .selects RX7 yX7_isSymbol yX7_isSymbol, .initialized RX7] : List Cond), w ∈ oX11_means) w h))) (fun h => List.mem_cons_of_mem _ (List.mem_append_right _ (List.mem_append_right _ (List.mem_append_right _ (List.mem_append_left _ (h))))))) (by decide +kernel)
def oX10_canBeRead : List Cond := [Cond.fieldLink RX10 15 "MacroScopes$Told" "takenLength" "I"]
def vX10_canBeRead : List Cond := .code yX10_canBeRead cX10_canBeRead 3 (some .boolean) :: (oX10_canBeRead ++ (wsX100))
theorem lkX10_canBeRead_f15 : Cond.fieldLink RX10 15 "MacroScopes$Told" "takenLength" "I" ∈ vX10_canBeRead := List.mem_cons_of_mem _ (List.mem_append_left _ (List.mem_of_getElem? (i := 0) rfl))
theorem inX10_canBeRead_X10 : ∀ w ∈ wsX100, w ∈ vX10_canBeRead := fun w h => List.mem_cons_of_mem _ (List.mem_append_right _ (h))
def oX11_check : List Cond := [Cond.fieldLink RX11 30 "MacroScopes" "told" "LMacroScopes$Told;", Cond.methodLink RX11 123 yX10_canBeRead, Cond.instanceMethod yX10_canBeRead, Cond.selects RX10 yX10_canBeRead yX10_canBeRead, Cond.initialized RX10]
def vX11_check : List Cond := .code yX11_check cX11_check 1 (some .int) :: (oX11_check ++ (vX10_canBeRead ++ (wsX110)))
theorem lkX11_check_f30 : Cond.fieldLink RX11 30 "MacroScopes" "told" "LMacroScopes$Told;" ∈ vX11_check := List.mem_cons_of_mem _ (List.mem_append_left _ (List.mem_of_getElem? (i := 0) rfl))
theorem inX11_check_X11 : ∀ w ∈ wsX110, w ∈ vX11_check := fun w h => List.mem_cons_of_mem _ (List.mem_append_right _ (List.mem_append_right _ (h)))
theorem kX11_check_X10_canBeRead_123 : GoodIn vX11_check (wsV RX11 123 RX10 yX10_canBeRead vX10_canBeRead) := goodIn_sub (fun w h => (List.mem_append.mp h).elim (fun h => List.mem_cons_of_mem _ (List.mem_append_left _ ((by decide +kernel : ∀ w ∈ ([.methodLink RX11 123 yX10_canBeRead, .instanceMethod yX10_canBeRead, .selects RX10 yX10_canBeRead yX10_canBeRead, .initialized RX10] : List Cond), w ∈ oX11_check) w h))) (fun h => List.mem_cons_of_mem _ (List.mem_append_right _ (List.mem_append_left _ (h))))) (by decide +kernel)
set_option maxHeartbeats 4000000 in
set_option maxRecDepth 100000 in
/-- Names.startText -/
theorem c_Names_start (l : Launch) (dC : Nat → ClassId) (dI : Nat → Nat → Nat) (cB cC cI cJ cZ : ClassId) (n0 b0 b1 a2 a3 b6 b7 b8 b9 b10 : Nat) (sy tp : Int32) (f2 : Nat → Int32) (hsy : sy = nI 9) (sz : Nat) : Met l yX6_startText vX6_startText { frames := 1, cells := 0, slots := 0, locals := 60 } (va_Pc [.ref n0] (fun U => U.heap.size = sz ∧ va_P (dC, dI) vwCl [(n0, .inr (6, [.ref b0, .ref b1, .ref a2, .ref a3, .int sy, .int 0, .ref b6, .ref b7, .ref b8, .ref b9, .ref b10, .int tp, .int 0])), (a2, .inl (cI, 2560, .inl f2)), (a3, .inl (cI, 2560, .inl (fun _ => 0)))] U.heap ∧ va_K (dC, dI) vwCl (TY cB cC cI cJ cZ) U ∧ va_D (fun _ => True) [(n0, .inr (6, [.ref b0, .ref b1, .ref a2, .ref a3, .int sy, .int 0, .ref b6, .ref b7, .ref b8, .ref b9, .ref b10, .int tp, .int 0])), (a2, .inl (cI, 2560, .inl f2)), (a3, .inl (cI, 2560, .inl (fun _ => 0)))])) (va_Qv (fun (_ : Unit) => True) (fun (_ : Unit) (t : State) => ∃ (g3 : Nat → Int32), va_P (dC, dI) vwCl [(n0, .inr (6, [.ref b0, .ref b1, .ref a2, .ref a3, .int sy, .int sy, .ref b6, .ref b7, .ref b8, .ref b9, .ref b10, .int sy, .int 0])), (a2, .inl (cI, 2560, .inl f2)), (a3, .inl (cI, 2560, .inl g3))] t.heap ∧ va_K (dC, dI) vwCl (TY cB cC cI cJ cZ) t ∧ va_D (va_A [(n0, .inr (6, [.ref b0, .ref b1, .ref a2, .ref a3, .int sy, .int 0, .ref b6, .ref b7, .ref b8, .ref b9, .ref b10, .int tp, .int 0])), (a2, .inl (cI, 2560, .inl f2)), (a3, .inl (cI, 2560, .inl (fun _ => 0)))] sz) [(n0, .inr (6, [.ref b0, .ref b1, .ref a2, .ref a3, .int sy, .int sy, .ref b6, .ref b7, .ref b8, .ref b9, .ref b10, .int sy, .int 0])), (a2, .inl (cI, 2560, .inl f2)), (a3, .inl (cI, 2560, .inl g3))]) (va_A [(n0, .inr (6, [.ref b0, .ref b1, .ref a2, .ref a3, .int sy, .int 0, .ref b6, .ref b7, .ref b8, .ref b9, .ref b10, .int tp, .int 0])), (a2, .inl (cI, 2560, .inl f2)), (a3, .inl (cI, 2560, .inl (fun _ => 0)))] sz)) 0 0 (va_A [(n0, .inr (6, [.ref b0, .ref b1, .ref a2, .ref a3, .int sy, .int 0, .ref b6, .ref b7, .ref b8, .ref b9, .ref b10, .int tp, .int 0])), (a2, .inl (cI, 2560, .inl f2)), (a3, .inl (cI, 2560, .inl (fun _ => 0)))] sz) := by
  refine Met.ofW (cc := cX6_startText) (maxL := 1) (ret := none) (by decide) rfl ?_
  intro p e s m args below meth c s₁ B hml hv
  obtain ⟨rfl, hsz, hP, hK, hD0⟩ := hv
  have hx := B.exec
  have hb := B.bytes
  have hr := B.returns
  have hts := atoms_spec (ws := vX6_startText) B.pre
  have hown : s.vm.findClass RX6 = some m.cls := findClass_of_methodNamed B.named
  have hlocks := B.notSynchronized
  subst hsz
  have hD := hD0.self (sz := s.heap.size)
  generalize hAe : va_A [(n0, .inr (6, [.ref b0, .ref b1, .ref a2, .ref a3, .int sy, .int 0, .ref b6, .ref b7, .ref b8, .ref b9, .ref b10, .int tp, .int 0])), (a2, .inl (cI, 2560, .inl f2)), (a3, .inl (cI, 2560, .inl (fun _ => 0)))] s.heap.size = A at hD ⊢
  have hA : ∀ q : Nat, s.heap.size ≤ q → A q := fun q h => by rw [← hAe]; exact Or.inr h
  have hS : va_S A s.heap s.heap [] := va_S.rf
  have hP : va_P (dC, dI) vwCl [(n0, .inr (6, [.ref b0, .ref b1, .ref a2, .ref a3, .int sy, .int 0, .ref b6, .ref b7, .ref b8, .ref b9, .ref b10, .int tp, .int 0])), (a2, .inl (cI, 2560, .inl f2)), (a3, .inl (cI, 2560, .inl (fun _ => 0)))] s.heap := hP
  have hl := lv_entry ([.ref n0]) (n := 1) (Nat.le_of_ble_eq_true rfl)
  rw [lg_entry_eq]
  generalize (lg_sl ([.ref n0]) ++ List.replicate (1 - (lg_sl ([.ref n0])).length) Slot.unset).toArray = ls at hl ⊢
  have hl : lv_has ls 1 [(0, .ref n0)] := hl
  refine lv_aload_n hx hb dX6_startText_0 rfl (lv_at hl 0 rfl) ?_
  refine lv_aload_n hx hb dX6_startText_1 rfl (lv_at hl 0 rfl) ?_
  refine va_get (D := (dC, dI)) (ci := 6) (v := .int sy) (C := RX6) (T := TX6) (N := 13) hx hb hts inX6_startText_X6 hown hK hP 0 rfl rfl 4 (by decide) (hts _ lkX6_startText_f25) (fun _ h9 => h9) rfl dX6_startText_2 ?_
  refine va_put (D := (dC, dI)) (ci := 6) (v := .int sy) (ty := .int) (C := RX6) (T := TX6) (N := 13) hx hb hts inX6_startText_X6 tyX6 tyX6_ok nmX6 hown hK hP hD hS 0 rfl rfl 11 (by decide) (hts _ lkX6_startText_f47) (fun _ h9 => h9) rfl (by decide +kernel) rfl rfl (Nat.le_of_ble_eq_true rfl) dX6_startText_5 (fun H locs hP hD hS => ?_)
  have hP : va_P (dC, dI) vwCl [(n0, .inr (6, [.ref b0, .ref b1, .ref a2, .ref a3, .int sy, .int 0, .ref b6, .ref b7, .ref b8, .ref b9, .ref b10, .int sy, .int 0])), (a2, .inl (cI, 2560, .inl f2)), (a3, .inl (cI, 2560, .inl (fun _ => 0)))] H := hP
  have hD : va_D A [(n0, .inr (6, [.ref b0, .ref b1, .ref a2, .ref a3, .int sy, .int 0, .ref b6, .ref b7, .ref b8, .ref b9, .ref b10, .int sy, .int 0])), (a2, .inl (cI, 2560, .inl f2)), (a3, .inl (cI, 2560, .inl (fun _ => 0)))] := hD
  refine lv_aload_n hx hb dX6_startText_8 rfl (lv_at hl 0 rfl) ?_
  refine lv_aload_n hx hb dX6_startText_9 rfl (lv_at hl 0 rfl) ?_
  refine va_get (D := (dC, dI)) (ci := 6) (v := .int sy) (C := RX6) (T := TX6) (N := 13) hx hb hts inX6_startText_X6 hown hK hP 0 rfl rfl 4 (by decide) (hts _ lkX6_startText_f25) (fun _ h9 => h9) rfl dX6_startText_10 ?_
  refine va_put (D := (dC, dI)) (ci := 6) (v := .int sy) (ty := .int) (C := RX6) (T := TX6) (N := 13) hx hb hts inX6_startText_X6 tyX6 tyX6_ok nmX6 hown hK hP hD hS 0 rfl rfl 5 (by decide) (hts _ lkX6_startText_f29) (fun _ h9 => h9) rfl (by decide +kernel) rfl rfl (Nat.le_of_ble_eq_true rfl) dX6_startText_13 (fun H locs hP hD hS => ?_)
  have hP : va_P (dC, dI) vwCl [(n0, .inr (6, [.ref b0, .ref b1, .ref a2, .ref a3, .int sy, .int sy, .ref b6, .ref b7, .ref b8, .ref b9, .ref b10, .int sy, .int 0])), (a2, .inl (cI, 2560, .inl f2)), (a3, .inl (cI, 2560, .inl (fun _ => 0)))] H := hP
  have hD : va_D A [(n0, .inr (6, [.ref b0, .ref b1, .ref a2, .ref a3, .int sy, .int sy, .ref b6, .ref b7, .ref b8, .ref b9, .ref b10, .int sy, .int 0])), (a2, .inl (cI, 2560, .inl f2)), (a3, .inl (cI, 2560, .inl (fun _ => 0)))] := hD
  refine lv_aload_n hx hb dX6_startText_16 rfl (lv_at hl 0 rfl) ?_
  refine va_get (D := (dC, dI)) (ci := 6) (v := .ref a2) (C := RX6) (T := TX6) (N := 13) hx hb hts inX6_startText_X6 hown hK hP 0 rfl rfl 2 (by decide) (hts _ lkX6_startText_f18) (fun _ h9 => h9) rfl dX6_startText_17 ?_
  refine lv_iconst (v := 0) hx hb dX6_startText_20 (by decide) ?_
  refine lv_aload_n hx hb dX6_startText_21 rfl (lv_at hl 0 rfl) ?_
  refine va_get (D := (dC, dI)) (ci := 6) (v := .ref a3) (C := RX6) (T := TX6) (N := 13) hx hb hts inX6_startText_X6 hown hK hP 0 rfl rfl 3 (by decide) (hts _ lkX6_startText_f22) (fun _ h9 => h9) rfl dX6_startText_22 ?_
  refine lv_iconst (v := 0) hx hb dX6_startText_25 (by decide) ?_
  refine lv_aload_n hx hb dX6_startText_26 rfl (lv_at hl 0 rfl) ?_
  refine va_get (D := (dC, dI)) (ci := 6) (v := .int sy) (C := RX6) (T := TX6) (N := 13) hx hb hts inX6_startText_X6 hown hK hP 0 rfl rfl 4 (by decide) (hts _ lkX6_startText_f25) (fun _ h9 => h9) rfl dX6_startText_27 ?_
  refine va_copyi hx hb (hml.trans hl.1.symm) hown (hts _ lkX6_startText_l89) (hts _ lkX6_startText_nat) (hts _ lkX6_startText_sta) (hts _ lkX6_startText_sys) hK hP hD hS 1 2 2 2 rfl rfl rfl rfl rfl (by decide) (by decide) (by rw [hsy]; decide) (by rw [hsy]; decide) (by rw [hsy]; decide) (fun _ _ => rfl) (Nat.le_of_ble_eq_true rfl) (by decide) dX6_startText_30 (fun H locs hP hD hS => ?_)
  have hP : va_P (dC, dI) vwCl [(n0, .inr (6, [.ref b0, .ref b1, .ref a2, .ref a3, .int sy, .int sy, .ref b6, .ref b7, .ref b8, .ref b9, .ref b10, .int sy, .int 0])), (a2, .inl (cI, 2560, .inl f2)), (a3, .inl (cI, 2560, .inl (va_cpy f2 (fun _ => 0) (0 : Int32).toNatClampNeg (0 : Int32).toNatClampNeg sy.toNatClampNeg)))] H := hP
  have hD : va_D A [(n0, .inr (6, [.ref b0, .ref b1, .ref a2, .ref a3, .int sy, .int sy, .ref b6, .ref b7, .ref b8, .ref b9, .ref b10, .int sy, .int 0])), (a2, .inl (cI, 2560, .inl f2)), (a3, .inl (cI, 2560, .inl (va_cpy f2 (fun _ => 0) (0 : Int32).toNatClampNeg (0 : Int32).toNatClampNeg sy.toNatClampNeg)))] := hD
  generalize eg3 : va_cpy f2 (fun _ => 0) (0 : Int32).toNatClampNeg (0 : Int32).toNatClampNeg sy.toNatClampNeg = g3 at hP hD
  refine W.widen (k := 0) (n := 0) (Nat.le_of_ble_eq_true rfl) (Nat.le_of_ble_eq_true rfl) ?_
  have hP9 := hP.sub (ws' := [(n0, .inr (6, [.ref b0, .ref b1, .ref a2, .ref a3, .int sy, .int sy, .ref b6, .ref b7, .ref b8, .ref b9, .ref b10, .int sy, .int 0])), (a2, .inl (cI, 2560, .inl f2)), (a3, .inl (cI, 2560, .inl g3))]) [0, 1, 2] rfl
  have hD9 := hD.sub (ws' := [(n0, .inr (6, [.ref b0, .ref b1, .ref a2, .ref a3, .int sy, .int sy, .ref b6, .ref b7, .ref b8, .ref b9, .ref b10, .int sy, .int 0])), (a2, .inl (cI, 2560, .inl f2)), (a3, .inl (cI, 2560, .inl g3))]) [0, 1, 2] (by decide) rfl
  exact W.vret hx hb hr (fun t ht hW => ⟨⟨(), rfl, trivial, g3, by rw [ht]; exact hP9, va_K.moved hW.alike hK, hD9⟩, hS.F ht⟩) hS.2.2 dX6_startText_33

set_option maxHeartbeats 4000000 in
set_option maxRecDepth 100000 in
/-- Names.take(false) -/
theorem c_Names_take (l : Launch) (dC : Nat → ClassId) (dI : Nat → Nat → Nat) (cB cC cI cJ cZ : ClassId) (n0 b0 b1 a2 a3 b6 b7 b8 b9 b10 : Nat) (sy : Int32)  (sz : Nat) : Met l yX6_take vX6_take { frames := 0, cells := 0, slots := 0, locals := 0 } (va_Pc [.ref n0, .int 0] (fun U => U.heap.size = sz ∧ va_P (dC, dI) vwCl [(n0, .inr (6, [.ref b0, .ref b1, .ref a2, .ref a3, .int sy, .int sy, .ref b6, .ref b7, .ref b8, .ref b9, .ref b10, .int sy, .int 0]))] U.heap ∧ va_K (dC, dI) vwCl (TY cB cC cI cJ cZ) U ∧ va_D (fun _ => True) [(n0, .inr (6, [.ref b0, .ref b1, .ref a2, .ref a3, .int sy, .int sy, .ref b6, .ref b7, .ref b8, .ref b9, .ref b10, .int sy, .int 0]))])) (va_Qv (fun (_ : Unit) => True) (fun (_ : Unit) (t : State) => va_P (dC, dI) vwCl [(n0, .inr (6, [.ref b0, .ref b1, .ref a2, .ref a3, .int sy, .int sy, .ref b6, .ref b7, .ref b8, .ref b9, .ref b10, .int sy, .int 0]))] t.heap ∧ va_K (dC, dI) vwCl (TY cB cC cI cJ cZ) t ∧ va_D (va_A [(n0, .inr (6, [.ref b0, .ref b1, .ref a2, .ref a3, .int sy, .int sy, .ref b6, .ref b7, .ref b8, .ref b9, .ref b10, .int sy, .int 0]))] sz) [(n0, .inr (6, [.ref b0, .ref b1, .ref a2, .ref a3, .int sy, .int sy, .ref b6, .ref b7, .ref b8, .ref b9, .ref b10, .int sy, .int 0]))]) (va_A [(n0, .inr (6, [.ref b0, .ref b1, .ref a2, .ref a3, .int sy, .int sy, .ref b6, .ref b7, .ref b8, .ref b9, .ref b10, .int sy, .int 0]))] sz)) 0 0 (va_A [(n0, .inr (6, [.ref b0, .ref b1, .ref a2, .ref a3, .int sy, .int sy, .ref b6, .ref b7, .ref b8, .ref b9, .ref b10, .int sy, .int 0]))] sz) := by
  refine Met.ofW (cc := cX6_take) (maxL := 2) (ret := none) (by decide) rfl ?_
  intro p e s m args below meth c s₁ B hml hv
  obtain ⟨rfl, hsz, hP, hK, hD0⟩ := hv
  have hx := B.exec
  have hb := B.bytes
  have hr := B.returns
  have hts := atoms_spec (ws := vX6_take) B.pre
  have hown : s.vm.findClass RX6 = some m.cls := findClass_of_methodNamed B.named
  have hlocks := B.notSynchronized
  subst hsz
  have hD := hD0.self (sz := s.heap.size)
  generalize hAe : va_A [(n0, .inr (6, [.ref b0, .ref b1, .ref a2, .ref a3, .int sy, .int sy, .ref b6, .ref b7, .ref b8, .ref b9, .ref b10, .int sy, .int 0]))] s.heap.size = A at hD ⊢
  have hA : ∀ q : Nat, s.heap.size ≤ q → A q := fun q h => by rw [← hAe]; exact Or.inr h
  have hS : va_S A s.heap s.heap [] := va_S.rf
  have hP : va_P (dC, dI) vwCl [(n0, .inr (6, [.ref b0, .ref b1, .ref a2, .ref a3, .int sy, .int sy, .ref b6, .ref b7, .ref b8, .ref b9, .ref b10, .int sy, .int 0]))] s.heap := hP
  have hl := lv_entry ([.ref n0, .int 0]) (n := 2) (Nat.le_of_ble_eq_true rfl)
  rw [lg_entry_eq]
  generalize (lg_sl ([.ref n0, .int 0]) ++ List.replicate (2 - (lg_sl ([.ref n0, .int 0])).length) Slot.unset).toArray = ls at hl ⊢
  have hl : lv_has ls 2 [(0, .ref n0), (1, .int 0)] := hl
  refine lv_iload_n hx hb dX6_take_0 rfl (lv_at hl 1 rfl) ?_
  refine lv_if_ne (tgt := 12) hx hb dX6_take_1 (by decide) (fun q9 => absurd q9 (by decide)) (fun _ => ?_)
  refine lv_aload_n hx hb dX6_take_4 rfl (lv_at hl 0 rfl) ?_
  refine lv_aload_n hx hb dX6_take_5 rfl (lv_at hl 0 rfl) ?_
  refine va_get (D := (dC, dI)) (ci := 6) (v := .int sy) (C := RX6) (T := TX6) (N := 13) hx hb hts inX6_take_X6 hown hK hP 0 rfl rfl 5 (by decide) (hts _ lkX6_take_f29) (fun _ h9 => h9) rfl dX6_take_6 ?_
  refine va_put (D := (dC, dI)) (ci := 6) (v := .int sy) (ty := .int) (C := RX6) (T := TX6) (N := 13) hx hb hts inX6_take_X6 tyX6 tyX6_ok nmX6 hown hK hP hD hS 0 rfl rfl 4 (by decide) (hts _ lkX6_take_f25) (fun _ h9 => h9) rfl (by decide +kernel) rfl rfl (Nat.le_of_ble_eq_true rfl) dX6_take_9 (fun H locs hP hD hS => ?_)
  have hP : va_P (dC, dI) vwCl [(n0, .inr (6, [.ref b0, .ref b1, .ref a2, .ref a3, .int sy, .int sy, .ref b6, .ref b7, .ref b8, .ref b9, .ref b10, .int sy, .int 0]))] H := hP
  have hD : va_D A [(n0, .inr (6, [.ref b0, .ref b1, .ref a2, .ref a3, .int sy, .int sy, .ref b6, .ref b7, .ref b8, .ref b9, .ref b10, .int sy, .int 0]))] := hD
  refine W.widen (k := 0) (n := 0) (Nat.le_of_ble_eq_true rfl) (Nat.le_of_ble_eq_true rfl) ?_
  have hP9 := hP.sub (ws' := [(n0, .inr (6, [.ref b0, .ref b1, .ref a2, .ref a3, .int sy, .int sy, .ref b6, .ref b7, .ref b8, .ref b9, .ref b10, .int sy, .int 0]))]) [0] rfl
  have hD9 := hD.sub (ws' := [(n0, .inr (6, [.ref b0, .ref b1, .ref a2, .ref a3, .int sy, .int sy, .ref b6, .ref b7, .ref b8, .ref b9, .ref b10, .int sy, .int 0]))]) [0] (by decide) rfl
  exact W.vret hx hb hr (fun t ht hW => ⟨⟨(), rfl, trivial, by rw [ht]; exact hP9, va_K.moved hW.alike hK, hD9⟩, hS.F ht⟩) hS.2.2 dX6_take_12

set_option maxHeartbeats 4000000 in
set_option maxRecDepth 100000 in
/-- Forms.startText -/
theorem c_Forms_start (l : Launch) (dC : Nat → ClassId) (dI : Nat → Nat → Nat) (cB cC cI cJ cZ : ClassId) (f0 c1 c2 : Nat)  (sz : Nat) : Met l yX1_startText vX1_startText { frames := 0, cells := 0, slots := 0, locals := 0 } (va_Pc [.ref f0] (fun U => U.heap.size = sz ∧ va_P (dC, dI) vwCl [(f0, .inr (1, [.ref c1, .ref c2, .int 4000, .int 0]))] U.heap ∧ va_K (dC, dI) vwCl (TY cB cC cI cJ cZ) U ∧ va_D (fun _ => True) [(f0, .inr (1, [.ref c1, .ref c2, .int 4000, .int 0]))])) (va_Qv (fun (_ : Unit) => True) (fun (_ : Unit) (t : State) => va_P (dC, dI) vwCl [(f0, .inr (1, [.ref c1, .ref c2, .int 4000, .int 0]))] t.heap ∧ va_K (dC, dI) vwCl (TY cB cC cI cJ cZ) t ∧ va_D (va_A [(f0, .inr (1, [.ref c1, .ref c2, .int 4000, .int 0]))] sz) [(f0, .inr (1, [.ref c1, .ref c2, .int 4000, .int 0]))]) (va_A [(f0, .inr (1, [.ref c1, .ref c2, .int 4000, .int 0]))] sz)) 0 0 (va_A [(f0, .inr (1, [.ref c1, .ref c2, .int 4000, .int 0]))] sz) := by
  refine Met.ofW (cc := cX1_startText) (maxL := 1) (ret := none) (by decide) rfl ?_
  intro p e s m args below meth c s₁ B hml hv
  obtain ⟨rfl, hsz, hP, hK, hD0⟩ := hv
  have hx := B.exec
  have hb := B.bytes
  have hr := B.returns
  have hts := atoms_spec (ws := vX1_startText) B.pre
  have hown : s.vm.findClass RX1 = some m.cls := findClass_of_methodNamed B.named
  have hlocks := B.notSynchronized
  subst hsz
  have hD := hD0.self (sz := s.heap.size)
  generalize hAe : va_A [(f0, .inr (1, [.ref c1, .ref c2, .int 4000, .int 0]))] s.heap.size = A at hD ⊢
  have hA : ∀ q : Nat, s.heap.size ≤ q → A q := fun q h => by rw [← hAe]; exact Or.inr h
  have hS : va_S A s.heap s.heap [] := va_S.rf
  have hP : va_P (dC, dI) vwCl [(f0, .inr (1, [.ref c1, .ref c2, .int 4000, .int 0]))] s.heap := hP
  have hl := lv_entry ([.ref f0]) (n := 1) (Nat.le_of_ble_eq_true rfl)
  rw [lg_entry_eq]
  generalize (lg_sl ([.ref f0]) ++ List.replicate (1 - (lg_sl ([.ref f0])).length) Slot.unset).toArray = ls at hl ⊢
  have hl : lv_has ls 1 [(0, .ref f0)] := hl
  refine lv_aload_n hx hb dX1_startText_0 rfl (lv_at hl 0 rfl) ?_
  refine lv_sipush (v := 4000) hx hb dX1_startText_1 (by decide) ?_
  refine va_put (D := (dC, dI)) (ci := 1) (v := .int 4000) (ty := .int) (C := RX1) (T := TX1) (N := 4) hx hb hts inX1_startText_X1 tyX1 tyX1_ok nmX1 hown hK hP hD hS 0 rfl rfl 2 (by decide) (hts _ lkX1_startText_f18) (fun _ h9 => h9) rfl (by decide +kernel) rfl rfl (Nat.le_of_ble_eq_true rfl) dX1_startText_4 (fun H locs hP hD hS => ?_)
  have hP : va_P (dC, dI) vwCl [(f0, .inr (1, [.ref c1, .ref c2, .int 4000, .int 0]))] H := hP
  have hD : va_D A [(f0, .inr (1, [.ref c1, .ref c2, .int 4000, .int 0]))] := hD
  refine W.widen (k := 0) (n := 0) (Nat.le_of_ble_eq_true rfl) (Nat.le_of_ble_eq_true rfl) ?_
  have hP9 := hP.sub (ws' := [(f0, .inr (1, [.ref c1, .ref c2, .int 4000, .int 0]))]) [0] rfl
  have hD9 := hD.sub (ws' := [(f0, .inr (1, [.ref c1, .ref c2, .int 4000, .int 0]))]) [0] (by decide) rfl
  exact W.vret hx hb hr (fun t ht hW => ⟨⟨(), rfl, trivial, by rw [ht]; exact hP9, va_K.moved hW.alike hK, hD9⟩, hS.F ht⟩) hS.2.2 dX1_startText_7

set_option maxHeartbeats 4000000 in
set_option maxRecDepth 100000 in
/-- Told.startText -/
theorem c_Told_start (l : Launch) (dC : Nat → ClassId) (dI : Nat → Nat → Nat) (cB cC cI cJ cZ : ClassId) (d0 d1 d2 : Nat)  (sz : Nat) : Met l yX10_startText vX10_startText { frames := 0, cells := 0, slots := 0, locals := 0 } (va_Pc [.ref d0] (fun U => U.heap.size = sz ∧ va_P (dC, dI) vwCl [(d0, .inr (10, [.ref d1, .int 0, .ref d2, .int 0, .int 32]))] U.heap ∧ va_K (dC, dI) vwCl (TY cB cC cI cJ cZ) U ∧ va_D (fun _ => True) [(d0, .inr (10, [.ref d1, .int 0, .ref d2, .int 0, .int 32]))])) (va_Qv (fun (_ : Unit) => True) (fun (_ : Unit) (t : State) => va_P (dC, dI) vwCl [(d0, .inr (10, [.ref d1, .int 0, .ref d2, .int 0, .int 32]))] t.heap ∧ va_K (dC, dI) vwCl (TY cB cC cI cJ cZ) t ∧ va_D (va_A [(d0, .inr (10, [.ref d1, .int 0, .ref d2, .int 0, .int 32]))] sz) [(d0, .inr (10, [.ref d1, .int 0, .ref d2, .int 0, .int 32]))]) (va_A [(d0, .inr (10, [.ref d1, .int 0, .ref d2, .int 0, .int 32]))] sz)) 0 0 (va_A [(d0, .inr (10, [.ref d1, .int 0, .ref d2, .int 0, .int 32]))] sz) := by
  refine Met.ofW (cc := cX10_startText) (maxL := 1) (ret := none) (by decide) rfl ?_
  intro p e s m args below meth c s₁ B hml hv
  obtain ⟨rfl, hsz, hP, hK, hD0⟩ := hv
  have hx := B.exec
  have hb := B.bytes
  have hr := B.returns
  have hts := atoms_spec (ws := vX10_startText) B.pre
  have hown : s.vm.findClass RX10 = some m.cls := findClass_of_methodNamed B.named
  have hlocks := B.notSynchronized
  subst hsz
  have hD := hD0.self (sz := s.heap.size)
  generalize hAe : va_A [(d0, .inr (10, [.ref d1, .int 0, .ref d2, .int 0, .int 32]))] s.heap.size = A at hD ⊢
  have hA : ∀ q : Nat, s.heap.size ≤ q → A q := fun q h => by rw [← hAe]; exact Or.inr h
  have hS : va_S A s.heap s.heap [] := va_S.rf
  have hP : va_P (dC, dI) vwCl [(d0, .inr (10, [.ref d1, .int 0, .ref d2, .int 0, .int 32]))] s.heap := hP
  have hl := lv_entry ([.ref d0]) (n := 1) (Nat.le_of_ble_eq_true rfl)
  rw [lg_entry_eq]
  generalize (lg_sl ([.ref d0]) ++ List.replicate (1 - (lg_sl ([.ref d0])).length) Slot.unset).toArray = ls at hl ⊢
  have hl : lv_has ls 1 [(0, .ref d0)] := hl
  refine lv_aload_n hx hb dX10_startText_0 rfl (lv_at hl 0 rfl) ?_
  refine lv_iconst (v := 0) hx hb dX10_startText_1 (by decide) ?_
  refine va_put (D := (dC, dI)) (ci := 10) (v := .int 0) (ty := .int) (C := RX10) (T := TX10) (N := 5) hx hb hts inX10_startText_X10 tyX10 tyX10_ok nmX10 hown hK hP hD hS 0 rfl rfl 3 (by decide) (hts _ lkX10_startText_f22) (fun _ h9 => h9) rfl (by decide +kernel) rfl rfl (Nat.le_of_ble_eq_true rfl) dX10_startText_2 (fun H locs hP hD hS => ?_)
  have hP : va_P (dC, dI) vwCl [(d0, .inr (10, [.ref d1, .int 0, .ref d2, .int 0, .int 32]))] H := hP
  have hD : va_D A [(d0, .inr (10, [.ref d1, .int 0, .ref d2, .int 0, .int 32]))] := hD
  refine W.widen (k := 0) (n := 0) (Nat.le_of_ble_eq_true rfl) (Nat.le_of_ble_eq_true rfl) ?_
  have hP9 := hP.sub (ws' := [(d0, .inr (10, [.ref d1, .int 0, .ref d2, .int 0, .int 32]))]) [0] rfl
  have hD9 := hD.sub (ws' := [(d0, .inr (10, [.ref d1, .int 0, .ref d2, .int 0, .int 32]))]) [0] (by decide) rfl
  exact W.vret hx hb hr (fun t ht hW => ⟨⟨(), rfl, trivial, by rw [ht]; exact hP9, va_K.moved hW.alike hK, hD9⟩, hS.F ht⟩) hS.2.2 dX10_startText_5

set_option maxHeartbeats 4000000 in
set_option maxRecDepth 100000 in
/-- Told.take -/
theorem c_Told_take (l : Launch) (dC : Nat → ClassId) (dI : Nat → Nat → Nat) (cB cC cI cJ cZ : ClassId) (d0 d1 d2 : Nat)  (sz : Nat) : Met l yX10_take vX10_take { frames := 0, cells := 0, slots := 0, locals := 0 } (va_Pc [.ref d0] (fun U => U.heap.size = sz ∧ va_P (dC, dI) vwCl [(d0, .inr (10, [.ref d1, .int 0, .ref d2, .int 0, .int 32]))] U.heap ∧ va_K (dC, dI) vwCl (TY cB cC cI cJ cZ) U ∧ va_D (fun _ => True) [(d0, .inr (10, [.ref d1, .int 0, .ref d2, .int 0, .int 32]))])) (va_Qv (fun (_ : Unit) => True) (fun (_ : Unit) (t : State) => va_P (dC, dI) vwCl [(d0, .inr (10, [.ref d2, .int 0, .ref d1, .int 0, .int 32]))] t.heap ∧ va_K (dC, dI) vwCl (TY cB cC cI cJ cZ) t ∧ va_D (va_A [(d0, .inr (10, [.ref d1, .int 0, .ref d2, .int 0, .int 32]))] sz) [(d0, .inr (10, [.ref d2, .int 0, .ref d1, .int 0, .int 32]))]) (va_A [(d0, .inr (10, [.ref d1, .int 0, .ref d2, .int 0, .int 32]))] sz)) 0 0 (va_A [(d0, .inr (10, [.ref d1, .int 0, .ref d2, .int 0, .int 32]))] sz) := by
  refine Met.ofW (cc := cX10_take) (maxL := 2) (ret := none) (by decide) rfl ?_
  intro p e s m args below meth c s₁ B hml hv
  obtain ⟨rfl, hsz, hP, hK, hD0⟩ := hv
  have hx := B.exec
  have hb := B.bytes
  have hr := B.returns
  have hts := atoms_spec (ws := vX10_take) B.pre
  have hown : s.vm.findClass RX10 = some m.cls := findClass_of_methodNamed B.named
  have hlocks := B.notSynchronized
  subst hsz
  have hD := hD0.self (sz := s.heap.size)
  generalize hAe : va_A [(d0, .inr (10, [.ref d1, .int 0, .ref d2, .int 0, .int 32]))] s.heap.size = A at hD ⊢
  have hA : ∀ q : Nat, s.heap.size ≤ q → A q := fun q h => by rw [← hAe]; exact Or.inr h
  have hS : va_S A s.heap s.heap [] := va_S.rf
  have hP : va_P (dC, dI) vwCl [(d0, .inr (10, [.ref d1, .int 0, .ref d2, .int 0, .int 32]))] s.heap := hP
  have hl := lv_entry ([.ref d0]) (n := 2) (Nat.le_of_ble_eq_true rfl)
  rw [lg_entry_eq]
  generalize (lg_sl ([.ref d0]) ++ List.replicate (2 - (lg_sl ([.ref d0])).length) Slot.unset).toArray = ls at hl ⊢
  have hl : lv_has ls 2 [(0, .ref d0)] := hl
  refine lv_aload_n hx hb dX10_take_0 rfl (lv_at hl 0 rfl) ?_
  refine va_get (D := (dC, dI)) (ci := 10) (v := .ref d1) (C := RX10) (T := TX10) (N := 5) hx hb hts inX10_take_X10 hown hK hP 0 rfl rfl 0 (by decide) (hts _ lkX10_take_f9) (fun _ h9 => h9) rfl dX10_take_1 ?_
  refine lv_astore_n (lv' := [(1, .ref d1), (0, .ref d0)]) hx hb dX10_take_4 rfl hl (by decide) rfl (fun ls hl => ?_)
  refine lv_aload_n hx hb dX10_take_5 rfl (lv_at hl 1 rfl) ?_
  refine lv_aload_n hx hb dX10_take_6 rfl (lv_at hl 1 rfl) ?_
  refine va_get (D := (dC, dI)) (ci := 10) (v := .ref d2) (C := RX10) (T := TX10) (N := 5) hx hb hts inX10_take_X10 hown hK hP 0 rfl rfl 2 (by decide) (hts _ lkX10_take_f19) (fun _ h9 => h9) rfl dX10_take_7 ?_
  refine va_put (D := (dC, dI)) (ci := 10) (v := .ref d2) (ty := .array .char) (C := RX10) (T := TX10) (N := 5) hx hb hts inX10_take_X10 tyX10 tyX10_ok nmX10 hown hK hP hD hS 0 rfl rfl 0 (by decide) (hts _ lkX10_take_f9) (fun _ h9 => h9) rfl (by decide +kernel) rfl rfl (Nat.le_of_ble_eq_true rfl) dX10_take_10 (fun H locs hP hD hS => ?_)
  have hP : va_P (dC, dI) vwCl [(d0, .inr (10, [.ref d2, .int 0, .ref d2, .int 0, .int 32]))] H := hP
  have hD : va_D A [(d0, .inr (10, [.ref d2, .int 0, .ref d2, .int 0, .int 32]))] := hD
  refine lv_aload_n hx hb dX10_take_13 rfl (lv_at hl 1 rfl) ?_
  refine lv_aload_n hx hb dX10_take_14 rfl (lv_at hl 1 rfl) ?_
  refine va_get (D := (dC, dI)) (ci := 10) (v := .int 0) (C := RX10) (T := TX10) (N := 5) hx hb hts inX10_take_X10 hown hK hP 0 rfl rfl 3 (by decide) (hts _ lkX10_take_f22) (fun _ h9 => h9) rfl dX10_take_15 ?_
  refine va_put (D := (dC, dI)) (ci := 10) (v := .int 0) (ty := .int) (C := RX10) (T := TX10) (N := 5) hx hb hts inX10_take_X10 tyX10 tyX10_ok nmX10 hown hK hP hD hS 0 rfl rfl 1 (by decide) (hts _ lkX10_take_f15) (fun _ h9 => h9) rfl (by decide +kernel) rfl rfl (Nat.le_of_ble_eq_true rfl) dX10_take_18 (fun H locs hP hD hS => ?_)
  have hP : va_P (dC, dI) vwCl [(d0, .inr (10, [.ref d2, .int 0, .ref d2, .int 0, .int 32]))] H := hP
  have hD : va_D A [(d0, .inr (10, [.ref d2, .int 0, .ref d2, .int 0, .int 32]))] := hD
  refine lv_aload_n hx hb dX10_take_21 rfl (lv_at hl 1 rfl) ?_
  refine lv_aload_n hx hb dX10_take_22 rfl (lv_at hl 0 rfl) ?_
  refine va_put (D := (dC, dI)) (ci := 10) (v := .ref d1) (ty := .array .char) (C := RX10) (T := TX10) (N := 5) hx hb hts inX10_take_X10 tyX10 tyX10_ok nmX10 hown hK hP hD hS 0 rfl rfl 2 (by decide) (hts _ lkX10_take_f19) (fun _ h9 => h9) rfl (by decide +kernel) rfl rfl (Nat.le_of_ble_eq_true rfl) dX10_take_23 (fun H locs hP hD hS => ?_)
  have hP : va_P (dC, dI) vwCl [(d0, .inr (10, [.ref d2, .int 0, .ref d1, .int 0, .int 32]))] H := hP
  have hD : va_D A [(d0, .inr (10, [.ref d2, .int 0, .ref d1, .int 0, .int 32]))] := hD
  refine W.widen (k := 0) (n := 0) (Nat.le_of_ble_eq_true rfl) (Nat.le_of_ble_eq_true rfl) ?_
  have hP9 := hP.sub (ws' := [(d0, .inr (10, [.ref d2, .int 0, .ref d1, .int 0, .int 32]))]) [0] rfl
  have hD9 := hD.sub (ws' := [(d0, .inr (10, [.ref d2, .int 0, .ref d1, .int 0, .int 32]))]) [0] (by decide) rfl
  exact W.vret hx hb hr (fun t ht hW => ⟨⟨(), rfl, trivial, by rw [ht]; exact hP9, va_K.moved hW.alike hK, hD9⟩, hS.F ht⟩) hS.2.2 dX10_take_26

set_option maxHeartbeats 4000000 in
set_option maxRecDepth 100000 in
/-- tokenFrom in an empty text -/
theorem c_tokenFrom (l : Launch) (dC : Nat → ClassId) (dI : Nat → Nat → Nat) (cB cC cI cJ cZ : ClassId) (r0 f0 n0 r1 t0 : Nat)  (sz : Nat) : Met l yX7_tokenFrom vX7_tokenFrom { frames := 0, cells := 0, slots := 0, locals := 0 } (va_Pc [.ref r0, .ref t0, .int 0, .int 0] (fun U => U.heap.size = sz ∧ va_P (dC, dI) vwCl [(r0, .inr (7, [.ref f0, .ref n0, .ref r1, .int 0]))] U.heap ∧ va_K (dC, dI) vwCl (TY cB cC cI cJ cZ) U ∧ va_D (fun _ => True) [(r0, .inr (7, [.ref f0, .ref n0, .ref r1, .int 0]))])) (va_Qi (fun (r : Int32) (_ : Unit) => r = 0) (fun (_ : Unit) (t : State) => va_P (dC, dI) vwCl [(r0, .inr (7, [.ref f0, .ref n0, .ref r1, .int 0]))] t.heap ∧ va_K (dC, dI) vwCl (TY cB cC cI cJ cZ) t ∧ va_D (va_A [(r0, .inr (7, [.ref f0, .ref n0, .ref r1, .int 0]))] sz) [(r0, .inr (7, [.ref f0, .ref n0, .ref r1, .int 0]))]) (va_A [(r0, .inr (7, [.ref f0, .ref n0, .ref r1, .int 0]))] sz)) 0 0 (va_A [(r0, .inr (7, [.ref f0, .ref n0, .ref r1, .int 0]))] sz) := by
  refine Met.ofW (cc := cX7_tokenFrom) (maxL := 5) (ret := (some .int)) (by decide) rfl ?_
  intro p e s m args below meth c s₁ B hml hv
  obtain ⟨rfl, hsz, hP, hK, hD0⟩ := hv
  have hx := B.exec
  have hb := B.bytes
  have hr := B.returns
  have hts := atoms_spec (ws := vX7_tokenFrom) B.pre
  have hown : s.vm.findClass RX7 = some m.cls := findClass_of_methodNamed B.named
  have hlocks := B.notSynchronized
  subst hsz
  have hD := hD0.self (sz := s.heap.size)
  generalize hAe : va_A [(r0, .inr (7, [.ref f0, .ref n0, .ref r1, .int 0]))] s.heap.size = A at hD ⊢
  have hA : ∀ q : Nat, s.heap.size ≤ q → A q := fun q h => by rw [← hAe]; exact Or.inr h
  have hS : va_S A s.heap s.heap [] := va_S.rf
  have hP : va_P (dC, dI) vwCl [(r0, .inr (7, [.ref f0, .ref n0, .ref r1, .int 0]))] s.heap := hP
  have hl := lv_entry ([.ref r0, .ref t0, .int 0, .int 0]) (n := 5) (Nat.le_of_ble_eq_true rfl)
  rw [lg_entry_eq]
  generalize (lg_sl ([.ref r0, .ref t0, .int 0, .int 0]) ++ List.replicate (5 - (lg_sl ([.ref r0, .ref t0, .int 0, .int 0])).length) Slot.unset).toArray = ls at hl ⊢
  have hl : lv_has ls 5 [(0, .ref r0), (1, .ref t0), (2, .int 0), (3, .int 0)] := hl
  refine lv_iload_n hx hb dX7_tokenFrom_0 rfl (lv_at hl 2 rfl) ?_
  refine lv_istore (lv' := [(4, .int 0), (0, .ref r0), (1, .ref t0), (2, .int 0), (3, .int 0)]) hx hb dX7_tokenFrom_1 hl (by decide) rfl (fun ls hl => ?_)
  refine lv_iload hx hb dX7_tokenFrom_3 (lv_at hl 0 rfl) ?_
  refine lv_if_lt (tgt := 36) hx hb dX7_tokenFrom_5 (by decide) (fun q9 => absurd q9 (by decide)) (fun _ => ?_)
  refine lv_iload hx hb dX7_tokenFrom_8 (lv_at hl 0 rfl) ?_
  refine lv_iload_n hx hb dX7_tokenFrom_10 rfl (lv_at hl 4 rfl) ?_
  refine lv_icmp_ge (tgt := 36) hx hb dX7_tokenFrom_11 (by decide) (fun _ => ?_) (fun q9 => absurd (by decide) q9)
  refine lv_iload hx hb dX7_tokenFrom_36 (lv_at hl 0 rfl) ?_
  refine W.widen (k := 0) (n := 0) (Nat.le_of_ble_eq_true rfl) (Nat.le_of_ble_eq_true rfl) ?_
  have hP9 := hP.sub (ws' := [(r0, .inr (7, [.ref f0, .ref n0, .ref r1, .int 0]))]) [0] rfl
  have hD9 := hD.sub (ws' := [(r0, .inr (7, [.ref f0, .ref n0, .ref r1, .int 0]))]) [0] (by decide) rfl
  exact W.iret (v := 0) hx hb hr (fun t ht hW => ⟨⟨0, (), rfl, rfl, by rw [ht]; exact hP9, va_K.moved hW.alike hK, hD9⟩, hS.F ht⟩) hS.2.2 dX7_tokenFrom_38

set_option maxHeartbeats 4000000 in
set_option maxRecDepth 100000 in
/-- tokenEnd in an empty text -/
theorem c_tokenEnd (l : Launch) (dC : Nat → ClassId) (dI : Nat → Nat → Nat) (cB cC cI cJ cZ : ClassId) (r0 f0 n0 r1 t0 : Nat)  (sz : Nat) : Met l yX7_tokenEnd vX7_tokenEnd { frames := 0, cells := 0, slots := 0, locals := 0 } (va_Pc [.ref r0, .ref t0, .int 0, .int 0] (fun U => U.heap.size = sz ∧ va_P (dC, dI) vwCl [(r0, .inr (7, [.ref f0, .ref n0, .ref r1, .int 0]))] U.heap ∧ va_K (dC, dI) vwCl (TY cB cC cI cJ cZ) U ∧ va_D (fun _ => True) [(r0, .inr (7, [.ref f0, .ref n0, .ref r1, .int 0]))])) (va_Qi (fun (r : Int32) (_ : Unit) => r = 0) (fun (_ : Unit) (t : State) => va_P (dC, dI) vwCl [(r0, .inr (7, [.ref f0, .ref n0, .ref r1, .int 0]))] t.heap ∧ va_K (dC, dI) vwCl (TY cB cC cI cJ cZ) t ∧ va_D (va_A [(r0, .inr (7, [.ref f0, .ref n0, .ref r1, .int 0]))] sz) [(r0, .inr (7, [.ref f0, .ref n0, .ref r1, .int 0]))]) (va_A [(r0, .inr (7, [.ref f0, .ref n0, .ref r1, .int 0]))] sz)) 0 0 (va_A [(r0, .inr (7, [.ref f0, .ref n0, .ref r1, .int 0]))] sz) := by
  refine Met.ofW (cc := cX7_tokenEnd) (maxL := 5) (ret := (some .int)) (by decide) rfl ?_
  intro p e s m args below meth c s₁ B hml hv
  obtain ⟨rfl, hsz, hP, hK, hD0⟩ := hv
  have hx := B.exec
  have hb := B.bytes
  have hr := B.returns
  have hts := atoms_spec (ws := vX7_tokenEnd) B.pre
  have hown : s.vm.findClass RX7 = some m.cls := findClass_of_methodNamed B.named
  have hlocks := B.notSynchronized
  subst hsz
  have hD := hD0.self (sz := s.heap.size)
  generalize hAe : va_A [(r0, .inr (7, [.ref f0, .ref n0, .ref r1, .int 0]))] s.heap.size = A at hD ⊢
  have hA : ∀ q : Nat, s.heap.size ≤ q → A q := fun q h => by rw [← hAe]; exact Or.inr h
  have hS : va_S A s.heap s.heap [] := va_S.rf
  have hP : va_P (dC, dI) vwCl [(r0, .inr (7, [.ref f0, .ref n0, .ref r1, .int 0]))] s.heap := hP
  have hl := lv_entry ([.ref r0, .ref t0, .int 0, .int 0]) (n := 5) (Nat.le_of_ble_eq_true rfl)
  rw [lg_entry_eq]
  generalize (lg_sl ([.ref r0, .ref t0, .int 0, .int 0]) ++ List.replicate (5 - (lg_sl ([.ref r0, .ref t0, .int 0, .int 0])).length) Slot.unset).toArray = ls at hl ⊢
  have hl : lv_has ls 5 [(0, .ref r0), (1, .ref t0), (2, .int 0), (3, .int 0)] := hl
  refine lv_iload_n hx hb dX7_tokenEnd_0 rfl (lv_at hl 2 rfl) ?_
  refine lv_istore (lv' := [(4, .int 0), (0, .ref r0), (1, .ref t0), (2, .int 0), (3, .int 0)]) hx hb dX7_tokenEnd_1 hl (by decide) rfl (fun ls hl => ?_)
  refine lv_iload hx hb dX7_tokenEnd_3 (lv_at hl 0 rfl) ?_
  refine lv_if_lt (tgt := 37) hx hb dX7_tokenEnd_5 (by decide) (fun q9 => absurd q9 (by decide)) (fun _ => ?_)
  refine lv_iload hx hb dX7_tokenEnd_8 (lv_at hl 0 rfl) ?_
  refine lv_iload_n hx hb dX7_tokenEnd_10 rfl (lv_at hl 4 rfl) ?_
  refine lv_icmp_ge (tgt := 37) hx hb dX7_tokenEnd_11 (by decide) (fun _ => ?_) (fun q9 => absurd (by decide) q9)
  refine lv_iload hx hb dX7_tokenEnd_37 (lv_at hl 0 rfl) ?_
  refine lv_iload_n hx hb dX7_tokenEnd_39 rfl (lv_at hl 3 rfl) ?_
  refine lv_icmp_ne (tgt := 54) hx hb dX7_tokenEnd_40 (by decide) (fun q9 => absurd q9 (by decide)) (fun _ => ?_)
  refine lv_iload_n hx hb dX7_tokenEnd_43 rfl (lv_at hl 3 rfl) ?_
  refine lv_iload_n hx hb dX7_tokenEnd_44 rfl (lv_at hl 4 rfl) ?_
  refine lv_icmp_ge (tgt := 54) hx hb dX7_tokenEnd_45 (by decide) (fun _ => ?_) (fun q9 => absurd (by decide) q9)
  refine lv_iload hx hb dX7_tokenEnd_54 (lv_at hl 0 rfl) ?_
  refine W.widen (k := 0) (n := 0) (Nat.le_of_ble_eq_true rfl) (Nat.le_of_ble_eq_true rfl) ?_
  have hP9 := hP.sub (ws' := [(r0, .inr (7, [.ref f0, .ref n0, .ref r1, .int 0]))]) [0] rfl
  have hD9 := hD.sub (ws' := [(r0, .inr (7, [.ref f0, .ref n0, .ref r1, .int 0]))]) [0] (by decide) rfl
  exact W.iret (v := 0) hx hb hr (fun t ht hW => ⟨⟨0, (), rfl, rfl, by rw [ht]; exact hP9, va_K.moved hW.alike hK, hD9⟩, hS.F ht⟩) hS.2.2 dX7_tokenEnd_56

set_option maxHeartbeats 4000000 in
set_option maxRecDepth 100000 in
/-- isSymbol of no characters -/
theorem c_isSymbol (l : Launch) (dC : Nat → ClassId) (dI : Nat → Nat → Nat) (cB cC cI cJ cZ : ClassId) (r0 f0 n0 r1 t0 : Nat)  (sz : Nat) : Met l yX7_isSymbol vX7_isSymbol { frames := 0, cells := 0, slots := 0, locals := 0 } (va_Pc [.ref r0, .ref t0, .int 0, .int 0] (fun U => U.heap.size = sz ∧ va_P (dC, dI) vwCl [(r0, .inr (7, [.ref f0, .ref n0, .ref r1, .int 0]))] U.heap ∧ va_K (dC, dI) vwCl (TY cB cC cI cJ cZ) U ∧ va_D (fun _ => True) [(r0, .inr (7, [.ref f0, .ref n0, .ref r1, .int 0]))])) (va_Qi (fun (r : Int32) (_ : Unit) => r = 0) (fun (_ : Unit) (t : State) => va_P (dC, dI) vwCl [(r0, .inr (7, [.ref f0, .ref n0, .ref r1, .int 0]))] t.heap ∧ va_K (dC, dI) vwCl (TY cB cC cI cJ cZ) t ∧ va_D (va_A [(r0, .inr (7, [.ref f0, .ref n0, .ref r1, .int 0]))] sz) [(r0, .inr (7, [.ref f0, .ref n0, .ref r1, .int 0]))]) (va_A [(r0, .inr (7, [.ref f0, .ref n0, .ref r1, .int 0]))] sz)) 0 0 (va_A [(r0, .inr (7, [.ref f0, .ref n0, .ref r1, .int 0]))] sz) := by
  refine Met.ofW (cc := cX7_isSymbol) (maxL := 4) (ret := (some .boolean)) (by decide) rfl ?_
  intro p e s m args below meth c s₁ B hml hv
  obtain ⟨rfl, hsz, hP, hK, hD0⟩ := hv
  have hx := B.exec
  have hb := B.bytes
  have hr := B.returns
  have hts := atoms_spec (ws := vX7_isSymbol) B.pre
  have hown : s.vm.findClass RX7 = some m.cls := findClass_of_methodNamed B.named
  have hlocks := B.notSynchronized
  subst hsz
  have hD := hD0.self (sz := s.heap.size)
  generalize hAe : va_A [(r0, .inr (7, [.ref f0, .ref n0, .ref r1, .int 0]))] s.heap.size = A at hD ⊢
  have hA : ∀ q : Nat, s.heap.size ≤ q → A q := fun q h => by rw [← hAe]; exact Or.inr h
  have hS : va_S A s.heap s.heap [] := va_S.rf
  have hP : va_P (dC, dI) vwCl [(r0, .inr (7, [.ref f0, .ref n0, .ref r1, .int 0]))] s.heap := hP
  have hl := lv_entry ([.ref r0, .ref t0, .int 0, .int 0]) (n := 4) (Nat.le_of_ble_eq_true rfl)
  rw [lg_entry_eq]
  generalize (lg_sl ([.ref r0, .ref t0, .int 0, .int 0]) ++ List.replicate (4 - (lg_sl ([.ref r0, .ref t0, .int 0, .int 0])).length) Slot.unset).toArray = ls at hl ⊢
  have hl : lv_has ls 4 [(0, .ref r0), (1, .ref t0), (2, .int 0), (3, .int 0)] := hl
  refine lv_iload_n hx hb dX7_isSymbol_0 rfl (lv_at hl 2 rfl) ?_
  refine lv_if_lt (tgt := 33) hx hb dX7_isSymbol_1 (by decide) (fun q9 => absurd q9 (by decide)) (fun _ => ?_)
  refine lv_iload_n hx hb dX7_isSymbol_4 rfl (lv_at hl 2 rfl) ?_
  refine lv_iload_n hx hb dX7_isSymbol_5 rfl (lv_at hl 3 rfl) ?_
  refine lv_icmp_ge (tgt := 33) hx hb dX7_isSymbol_6 (by decide) (fun _ => ?_) (fun q9 => absurd (by decide) q9)
  refine lv_iconst (v := 0) hx hb dX7_isSymbol_33 (by decide) ?_
  refine W.widen (k := 0) (n := 0) (Nat.le_of_ble_eq_true rfl) (Nat.le_of_ble_eq_true rfl) ?_
  have hP9 := hP.sub (ws' := [(r0, .inr (7, [.ref f0, .ref n0, .ref r1, .int 0]))]) [0] rfl
  have hD9 := hD.sub (ws' := [(r0, .inr (7, [.ref f0, .ref n0, .ref r1, .int 0]))]) [0] (by decide) rfl
  exact W.zret (v := 0) hx hb hr (by rfl) (fun t ht hW => ⟨⟨0, (), rfl, rfl, by rw [ht]; exact hP9, va_K.moved hW.alike hK, hD9⟩, hS.F ht⟩) hS.2.2 dX7_isSymbol_34

set_option maxHeartbeats 4000000 in
set_option maxRecDepth 100000 in
/-- addForms of an empty text -/
theorem c_addForms (l : Launch) (dC : Nat → ClassId) (dI : Nat → Nat → Nat) (cB cC cI cJ cZ : ClassId) (r0 f0 n0 r1 t0 : Nat)  (sz : Nat) : Met l yX7_addForms vX7_addForms { frames := 1, cells := 0, slots := 0, locals := 24 } (va_Pc [.ref r0, .ref t0, .int 0] (fun U => U.heap.size = sz ∧ va_P (dC, dI) vwCl [(r0, .inr (7, [.ref f0, .ref n0, .ref r1, .int 0]))] U.heap ∧ va_K (dC, dI) vwCl (TY cB cC cI cJ cZ) U ∧ va_D (fun _ => True) [(r0, .inr (7, [.ref f0, .ref n0, .ref r1, .int 0]))])) (va_Qi (fun (r : Int32) (_ : Unit) => r = 0) (fun (_ : Unit) (t : State) => va_P (dC, dI) vwCl [(r0, .inr (7, [.ref f0, .ref n0, .ref r1, .int 0]))] t.heap ∧ va_K (dC, dI) vwCl (TY cB cC cI cJ cZ) t ∧ va_D (va_A [(r0, .inr (7, [.ref f0, .ref n0, .ref r1, .int 0]))] sz) [(r0, .inr (7, [.ref f0, .ref n0, .ref r1, .int 0]))]) (va_A [(r0, .inr (7, [.ref f0, .ref n0, .ref r1, .int 0]))] sz)) 0 0 (va_A [(r0, .inr (7, [.ref f0, .ref n0, .ref r1, .int 0]))] sz) := by
  refine Met.ofW (cc := cX7_addForms) (maxL := 7) (ret := (some .int)) (by decide) rfl ?_
  intro p e s m args below meth c s₁ B hml hv
  obtain ⟨rfl, hsz, hP, hK, hD0⟩ := hv
  have hx := B.exec
  have hb := B.bytes
  have hr := B.returns
  have hts := atoms_spec (ws := vX7_addForms) B.pre
  have hown : s.vm.findClass RX7 = some m.cls := findClass_of_methodNamed B.named
  have hlocks := B.notSynchronized
  subst hsz
  have hD := hD0.self (sz := s.heap.size)
  generalize hAe : va_A [(r0, .inr (7, [.ref f0, .ref n0, .ref r1, .int 0]))] s.heap.size = A at hD ⊢
  have hA : ∀ q : Nat, s.heap.size ≤ q → A q := fun q h => by rw [← hAe]; exact Or.inr h
  have hS : va_S A s.heap s.heap [] := va_S.rf
  have hP : va_P (dC, dI) vwCl [(r0, .inr (7, [.ref f0, .ref n0, .ref r1, .int 0]))] s.heap := hP
  have hl := lv_entry ([.ref r0, .ref t0, .int 0]) (n := 7) (Nat.le_of_ble_eq_true rfl)
  rw [lg_entry_eq]
  generalize (lg_sl ([.ref r0, .ref t0, .int 0]) ++ List.replicate (7 - (lg_sl ([.ref r0, .ref t0, .int 0])).length) Slot.unset).toArray = ls at hl ⊢
  have hl : lv_has ls 7 [(0, .ref r0), (1, .ref t0), (2, .int 0)] := hl
  refine lv_aload_n hx hb dX7_addForms_0 rfl (lv_at hl 0 rfl) ?_
  refine lv_iconst (v := 0) hx hb dX7_addForms_1 (by decide) ?_
  refine va_put (D := (dC, dI)) (ci := 7) (v := .int 0) (ty := .int) (C := RX7) (T := TX7) (N := 4) hx hb hts inX7_addForms_X7 tyX7 tyX7_ok nmX7 hown hK hP hD hS 0 rfl rfl 3 (by decide) (hts _ lkX7_addForms_f15) (fun _ h9 => h9) rfl (by decide +kernel) rfl rfl (Nat.le_of_ble_eq_true rfl) dX7_addForms_2 (fun H locs hP hD hS => ?_)
  have hP : va_P (dC, dI) vwCl [(r0, .inr (7, [.ref f0, .ref n0, .ref r1, .int 0]))] H := hP
  have hD : va_D A [(r0, .inr (7, [.ref f0, .ref n0, .ref r1, .int 0]))] := hD
  refine lv_iconst (v := 0) hx hb dX7_addForms_5 (by decide) ?_
  refine lv_istore_n (lv' := [(3, .int 0), (0, .ref r0), (1, .ref t0), (2, .int 0)]) hx hb dX7_addForms_6 rfl hl (by decide) rfl (fun ls hl => ?_)
  refine lv_iconst (v := 0) hx hb dX7_addForms_7 (by decide) ?_
  refine lv_istore (lv' := [(4, .int 0), (3, .int 0), (0, .ref r0), (1, .ref t0), (2, .int 0)]) hx hb dX7_addForms_8 hl (by decide) rfl (fun ls hl => ?_)
  refine lv_aload_n hx hb dX7_addForms_10 rfl (lv_at hl 2 rfl) ?_
  refine lv_aload_n hx hb dX7_addForms_11 rfl (lv_at hl 3 rfl) ?_
  refine lv_iconst (v := 0) hx hb dX7_addForms_12 (by decide) ?_
  refine lv_iload_n hx hb dX7_addForms_13 rfl (lv_at hl 4 rfl) ?_
  have hPc := hP.sub (ws' := [(r0, .inr (7, [.ref f0, .ref n0, .ref r1, .int 0]))]) [0] rfl
  have hDc := hD.sub (ws' := [(r0, .inr (7, [.ref f0, .ref n0, .ref r1, .int 0]))]) [0] (by decide) rfl
  have hFc := va_free (wc := [(r0, .inr (7, [.ref f0, .ref n0, .ref r1, .int 0]))]) hD hS hA [0] rfl
  refine va_calli (va_runV (As := [.ref t0, .int 0, .int 0]) (rest := []) ⟨hx, hb, hml, hown, hts⟩ (c_tokenFrom l dC dI cB cC cI cJ cZ r0 f0 n0 r1 t0  H.size) (cwV 3 hts kX7_addForms_X7_tokenFrom_27 rfl rfl rfl (by decide +kernel) ⟨Nat.le_of_ble_eq_true rfl, Nat.le_of_ble_eq_true rfl⟩) ⟨fun a U g mk q => by obtain ⟨q0, q1, qP, qK, qD⟩ := q; exact ⟨q0, q1, qP, va_K.moved (u := U) (U := U.calling g mk a) (Vm.Alike.refl U.vm) qK, qD⟩, va_recv hK hPc (ci := 7) (q0 := 0) rfl rfl, fun U hU hW => ⟨rfl, by rw [hU], by rw [hU]; exact hPc, va_K.moved hW.alike hK, hDc.weaken (fun _ _ _ _ => trivial)⟩⟩ rfl rfl hl.1 rfl (lv_room (Nat.le_of_ble_eq_true rfl)) dX7_addForms_14 ⟨Nat.le_of_ble_eq_true rfl, Nat.le_of_ble_eq_true rfl⟩) hS (fun q _ h => hFc q h) hFc (fun r_1 _u t H locs ht hvm hw hB hz1 hk1 hS => ?_)
  obtain ⟨hP1, hK1, hD1⟩ := hB
  rw [ht] at hP1
  obtain ⟨hP, hD⟩ := va_join (wr := []) (w1 := [(r0, .inr (7, [.ref f0, .ref n0, .ref r1, .int 0]))]) hP hD [0] [] rfl rfl (by decide) (by decide) hk1 hFc hP1 hD1
  have hP : va_P (dC, dI) vwCl [(r0, .inr (7, [.ref f0, .ref n0, .ref r1, .int 0]))] H := hP
  have hD : va_D A [(r0, .inr (7, [.ref f0, .ref n0, .ref r1, .int 0]))] := hD
  refine W.widen (k := 0) (n := 0) (Nat.le_of_ble_eq_true rfl) (Nat.le_of_ble_eq_true rfl) ?_
  subst hw
  refine lv_istore (lv' := [(5, .int 0), (4, .int 0), (3, .int 0), (0, .ref r0), (1, .ref t0), (2, .int 0)]) hx hb dX7_addForms_17 hl (by decide) rfl (fun ls hl => ?_)
  refine lv_iload hx hb dX7_addForms_19 (lv_at hl 0 rfl) ?_
  refine lv_iload_n hx hb dX7_addForms_21 rfl (lv_at hl 5 rfl) ?_
  refine lv_icmp_ge (tgt := 73) hx hb dX7_addForms_22 (by decide) (fun _ => ?_) (fun q9 => absurd (by decide) q9)
  refine lv_iload_n hx hb dX7_addForms_73 rfl (lv_at hl 2 rfl) ?_
  refine lv_if_ne (tgt := 88) hx hb dX7_addForms_74 (by decide) (fun q9 => absurd q9 (by decide)) (fun _ => ?_)
  refine lv_aload_n hx hb dX7_addForms_77 rfl (lv_at hl 3 rfl) ?_
  refine va_get (D := (dC, dI)) (ci := 7) (v := .int 0) (C := RX7) (T := TX7) (N := 4) hx hb hts inX7_addForms_X7 hown hK hP 0 rfl rfl 3 (by decide) (hts _ lkX7_addForms_f15) (fun _ h9 => h9) rfl dX7_addForms_78 ?_
  refine lv_if_le (tgt := 88) hx hb dX7_addForms_81 (by decide) (fun _ => ?_) (fun q9 => absurd (by decide) q9)
  refine lv_iload_n hx hb dX7_addForms_88 rfl (lv_at hl 2 rfl) ?_
  refine W.widen (k := 0) (n := 0) (Nat.le_of_ble_eq_true rfl) (Nat.le_of_ble_eq_true rfl) ?_
  have hP9 := hP.sub (ws' := [(r0, .inr (7, [.ref f0, .ref n0, .ref r1, .int 0]))]) [0] rfl
  have hD9 := hD.sub (ws' := [(r0, .inr (7, [.ref f0, .ref n0, .ref r1, .int 0]))]) [0] (by decide) rfl
  exact W.iret (v := 0) hx hb hr (fun t ht hW => ⟨⟨0, (), rfl, rfl, by rw [ht]; exact hP9, va_K.moved hW.alike hK, hD9⟩, hS.F ht⟩) hS.2.2 dX7_addForms_89

set_option maxHeartbeats 4000000 in
set_option maxRecDepth 100000 in
/-- Expander.startText -/
theorem c_Exp_start (l : Launch) (dC : Nat → ClassId) (dI : Nat → Nat → Nat) (cB cC cI cJ cZ : ClassId) (e0 f0 n0 d0 sc e4 e5 e6 fr g1 g2 g3 g4 g5 g6 : Nat)  (sz : Nat) : Met l yX0_startText vX0_startText { frames := 0, cells := 0, slots := 0, locals := 0 } (va_Pc [.ref e0] (fun U => U.heap.size = sz ∧ va_P (dC, dI) vwCl [(e0, .inr (0, [.ref f0, .ref n0, .ref d0, .ref sc, .ref e4, .ref e5, .ref e6, .ref fr, .int 0, .int (-1), .int 0, .int (-1), .int 0, .int 0, .int 0])), (fr, .inr (2, [.ref g1, .ref g2, .ref g3, .ref g4, .ref g5, .ref g6, .int 0]))] U.heap ∧ va_K (dC, dI) vwCl (TY cB cC cI cJ cZ) U ∧ va_D (fun _ => True) [(e0, .inr (0, [.ref f0, .ref n0, .ref d0, .ref sc, .ref e4, .ref e5, .ref e6, .ref fr, .int 0, .int (-1), .int 0, .int (-1), .int 0, .int 0, .int 0])), (fr, .inr (2, [.ref g1, .ref g2, .ref g3, .ref g4, .ref g5, .ref g6, .int 0]))] ∧ NW U)) (va_Qv (fun (_ : Unit) => True) (fun (_ : Unit) (t : State) => va_P (dC, dI) vwCl [(e0, .inr (0, [.ref f0, .ref n0, .ref d0, .ref sc, .ref e4, .ref e5, .ref e6, .ref fr, .int 4000, .int (-1), .int 0, .int (-1), .int 0, .int 0, .int 0])), (fr, .inr (2, [.ref g1, .ref g2, .ref g3, .ref g4, .ref g5, .ref g6, .int 0]))] t.heap ∧ va_K (dC, dI) vwCl (TY cB cC cI cJ cZ) t ∧ va_D (va_A [(e0, .inr (0, [.ref f0, .ref n0, .ref d0, .ref sc, .ref e4, .ref e5, .ref e6, .ref fr, .int 0, .int (-1), .int 0, .int (-1), .int 0, .int 0, .int 0])), (fr, .inr (2, [.ref g1, .ref g2, .ref g3, .ref g4, .ref g5, .ref g6, .int 0]))] sz) [(e0, .inr (0, [.ref f0, .ref n0, .ref d0, .ref sc, .ref e4, .ref e5, .ref e6, .ref fr, .int 4000, .int (-1), .int 0, .int (-1), .int 0, .int 0, .int 0])), (fr, .inr (2, [.ref g1, .ref g2, .ref g3, .ref g4, .ref g5, .ref g6, .int 0]))]) (va_A [(e0, .inr (0, [.ref f0, .ref n0, .ref d0, .ref sc, .ref e4, .ref e5, .ref e6, .ref fr, .int 0, .int (-1), .int 0, .int (-1), .int 0, .int 0, .int 0])), (fr, .inr (2, [.ref g1, .ref g2, .ref g3, .ref g4, .ref g5, .ref g6, .int 0]))] sz)) 0 0 (va_A [(e0, .inr (0, [.ref f0, .ref n0, .ref d0, .ref sc, .ref e4, .ref e5, .ref e6, .ref fr, .int 0, .int (-1), .int 0, .int (-1), .int 0, .int 0, .int 0])), (fr, .inr (2, [.ref g1, .ref g2, .ref g3, .ref g4, .ref g5, .ref g6, .int 0]))] sz) := by
  refine Met.ofW (cc := cX0_startText) (maxL := 1) (ret := none) (by decide) rfl ?_
  intro p e s m args below meth c s₁ B hml hv
  obtain ⟨rfl, hsz, hP, hK, hD0, hNW⟩ := hv
  have hx := B.exec
  have hb := B.bytes
  have hr := B.returns
  have hts := atoms_spec (ws := vX0_startText) B.pre
  have hown : s.vm.findClass RX0 = some m.cls := findClass_of_methodNamed B.named
  have hlocks := B.notSynchronized
  subst hsz
  have hD := hD0.self (sz := s.heap.size)
  generalize hAe : va_A [(e0, .inr (0, [.ref f0, .ref n0, .ref d0, .ref sc, .ref e4, .ref e5, .ref e6, .ref fr, .int 0, .int (-1), .int 0, .int (-1), .int 0, .int 0, .int 0])), (fr, .inr (2, [.ref g1, .ref g2, .ref g3, .ref g4, .ref g5, .ref g6, .int 0]))] s.heap.size = A at hD ⊢
  have hA : ∀ q : Nat, s.heap.size ≤ q → A q := fun q h => by rw [← hAe]; exact Or.inr h
  have hS : va_S A s.heap s.heap [] := va_S.rf
  have hP : va_P (dC, dI) vwCl [(e0, .inr (0, [.ref f0, .ref n0, .ref d0, .ref sc, .ref e4, .ref e5, .ref e6, .ref fr, .int 0, .int (-1), .int 0, .int (-1), .int 0, .int 0, .int 0])), (fr, .inr (2, [.ref g1, .ref g2, .ref g3, .ref g4, .ref g5, .ref g6, .int 0]))] s.heap := hP
  have hl := lv_entry ([.ref e0]) (n := 1) (Nat.le_of_ble_eq_true rfl)
  rw [lg_entry_eq]
  generalize (lg_sl ([.ref e0]) ++ List.replicate (1 - (lg_sl ([.ref e0])).length) Slot.unset).toArray = ls at hl ⊢
  have hl : lv_has ls 1 [(0, .ref e0)] := hl
  refine lv_aload_n hx hb dX0_startText_0 rfl (lv_at hl 0 rfl) ?_
  refine lv_sipush (v := 4000) hx hb dX0_startText_1 (by decide) ?_
  refine va_put (D := (dC, dI)) (ci := 0) (v := .int 4000) (ty := .int) (C := RX0) (T := TX0) (N := 15) hx hb hts inX0_startText_X0 tyX0 tyX0_ok nmX0 hown hK hP hD hS 0 rfl rfl 8 (by decide) (hts _ lkX0_startText_f18) (fun _ h9 => h9) rfl (by decide +kernel) rfl rfl (Nat.le_of_ble_eq_true rfl) dX0_startText_4 (fun H locs hP hD hS => ?_)
  have hP : va_P (dC, dI) vwCl [(e0, .inr (0, [.ref f0, .ref n0, .ref d0, .ref sc, .ref e4, .ref e5, .ref e6, .ref fr, .int 4000, .int (-1), .int 0, .int (-1), .int 0, .int 0, .int 0])), (fr, .inr (2, [.ref g1, .ref g2, .ref g3, .ref g4, .ref g5, .ref g6, .int 0]))] H := hP
  have hD : va_D A [(e0, .inr (0, [.ref f0, .ref n0, .ref d0, .ref sc, .ref e4, .ref e5, .ref e6, .ref fr, .int 4000, .int (-1), .int 0, .int (-1), .int 0, .int 0, .int 0])), (fr, .inr (2, [.ref g1, .ref g2, .ref g3, .ref g4, .ref g5, .ref g6, .int 0]))] := hD
  refine lv_aload_n hx hb dX0_startText_7 rfl (lv_at hl 0 rfl) ?_
  refine va_get (D := (dC, dI)) (ci := 0) (v := .ref fr) (C := RX0) (T := TX0) (N := 15) hx hb hts inX0_startText_X0 hown hK hP 0 rfl rfl 7 (by decide) (hts _ lkX0_startText_f12) (fun _ h9 => h9) rfl dX0_startText_8 ?_
  refine lv_iconst (v := 0) hx hb dX0_startText_11 (by decide) ?_
  refine va_putN (D := (dC, dI)) (ci := 2) (v := .int 0) (ty := .int) (C := RX2) (T := TX2) (N := 7) hx hb hts inX0_startText_X2 tyX2 tyX2_ok nmX2 hown hK hP hD hS 1 rfl rfl 6 (by decide) (va_Nw.use rfl hNW.2.2.2.1) (fun _ h9 => h9) rfl (by decide +kernel) rfl rfl (Nat.le_of_ble_eq_true rfl) dX0_startText_12 (fun H locs hP hD hS => ?_)
  have hP : va_P (dC, dI) vwCl [(e0, .inr (0, [.ref f0, .ref n0, .ref d0, .ref sc, .ref e4, .ref e5, .ref e6, .ref fr, .int 4000, .int (-1), .int 0, .int (-1), .int 0, .int 0, .int 0])), (fr, .inr (2, [.ref g1, .ref g2, .ref g3, .ref g4, .ref g5, .ref g6, .int 0]))] H := hP
  have hD : va_D A [(e0, .inr (0, [.ref f0, .ref n0, .ref d0, .ref sc, .ref e4, .ref e5, .ref e6, .ref fr, .int 4000, .int (-1), .int 0, .int (-1), .int 0, .int 0, .int 0])), (fr, .inr (2, [.ref g1, .ref g2, .ref g3, .ref g4, .ref g5, .ref g6, .int 0]))] := hD
  refine lv_aload_n hx hb dX0_startText_15 rfl (lv_at hl 0 rfl) ?_
  refine lv_iconst (v := (-1)) hx hb dX0_startText_16 (by decide) ?_
  refine va_put (D := (dC, dI)) (ci := 0) (v := .int (-1)) (ty := .int) (C := RX0) (T := TX0) (N := 15) hx hb hts inX0_startText_X0 tyX0 tyX0_ok nmX0 hown hK hP hD hS 0 rfl rfl 9 (by decide) (hts _ lkX0_startText_f22) (fun _ h9 => h9) rfl (by decide +kernel) rfl rfl (Nat.le_of_ble_eq_true rfl) dX0_startText_17 (fun H locs hP hD hS => ?_)
  have hP : va_P (dC, dI) vwCl [(e0, .inr (0, [.ref f0, .ref n0, .ref d0, .ref sc, .ref e4, .ref e5, .ref e6, .ref fr, .int 4000, .int (-1), .int 0, .int (-1), .int 0, .int 0, .int 0])), (fr, .inr (2, [.ref g1, .ref g2, .ref g3, .ref g4, .ref g5, .ref g6, .int 0]))] H := hP
  have hD : va_D A [(e0, .inr (0, [.ref f0, .ref n0, .ref d0, .ref sc, .ref e4, .ref e5, .ref e6, .ref fr, .int 4000, .int (-1), .int 0, .int (-1), .int 0, .int 0, .int 0])), (fr, .inr (2, [.ref g1, .ref g2, .ref g3, .ref g4, .ref g5, .ref g6, .int 0]))] := hD
  refine lv_aload_n hx hb dX0_startText_20 rfl (lv_at hl 0 rfl) ?_
  refine lv_iconst (v := 0) hx hb dX0_startText_21 (by decide) ?_
  refine va_put (D := (dC, dI)) (ci := 0) (v := .int 0) (ty := .int) (C := RX0) (T := TX0) (N := 15) hx hb hts inX0_startText_X0 tyX0 tyX0_ok nmX0 hown hK hP hD hS 0 rfl rfl 10 (by decide) (hts _ lkX0_startText_f25) (fun _ h9 => h9) rfl (by decide +kernel) rfl rfl (Nat.le_of_ble_eq_true rfl) dX0_startText_22 (fun H locs hP hD hS => ?_)
  have hP : va_P (dC, dI) vwCl [(e0, .inr (0, [.ref f0, .ref n0, .ref d0, .ref sc, .ref e4, .ref e5, .ref e6, .ref fr, .int 4000, .int (-1), .int 0, .int (-1), .int 0, .int 0, .int 0])), (fr, .inr (2, [.ref g1, .ref g2, .ref g3, .ref g4, .ref g5, .ref g6, .int 0]))] H := hP
  have hD : va_D A [(e0, .inr (0, [.ref f0, .ref n0, .ref d0, .ref sc, .ref e4, .ref e5, .ref e6, .ref fr, .int 4000, .int (-1), .int 0, .int (-1), .int 0, .int 0, .int 0])), (fr, .inr (2, [.ref g1, .ref g2, .ref g3, .ref g4, .ref g5, .ref g6, .int 0]))] := hD
  refine lv_aload_n hx hb dX0_startText_25 rfl (lv_at hl 0 rfl) ?_
  refine lv_iconst (v := (-1)) hx hb dX0_startText_26 (by decide) ?_
  refine va_put (D := (dC, dI)) (ci := 0) (v := .int (-1)) (ty := .int) (C := RX0) (T := TX0) (N := 15) hx hb hts inX0_startText_X0 tyX0 tyX0_ok nmX0 hown hK hP hD hS 0 rfl rfl 11 (by decide) (hts _ lkX0_startText_f28) (fun _ h9 => h9) rfl (by decide +kernel) rfl rfl (Nat.le_of_ble_eq_true rfl) dX0_startText_27 (fun H locs hP hD hS => ?_)
  have hP : va_P (dC, dI) vwCl [(e0, .inr (0, [.ref f0, .ref n0, .ref d0, .ref sc, .ref e4, .ref e5, .ref e6, .ref fr, .int 4000, .int (-1), .int 0, .int (-1), .int 0, .int 0, .int 0])), (fr, .inr (2, [.ref g1, .ref g2, .ref g3, .ref g4, .ref g5, .ref g6, .int 0]))] H := hP
  have hD : va_D A [(e0, .inr (0, [.ref f0, .ref n0, .ref d0, .ref sc, .ref e4, .ref e5, .ref e6, .ref fr, .int 4000, .int (-1), .int 0, .int (-1), .int 0, .int 0, .int 0])), (fr, .inr (2, [.ref g1, .ref g2, .ref g3, .ref g4, .ref g5, .ref g6, .int 0]))] := hD
  refine lv_aload_n hx hb dX0_startText_30 rfl (lv_at hl 0 rfl) ?_
  refine lv_iconst (v := 0) hx hb dX0_startText_31 (by decide) ?_
  refine va_put (D := (dC, dI)) (ci := 0) (v := .int 0) (ty := .int) (C := RX0) (T := TX0) (N := 15) hx hb hts inX0_startText_X0 tyX0 tyX0_ok nmX0 hown hK hP hD hS 0 rfl rfl 12 (by decide) (hts _ lkX0_startText_f31) (fun _ h9 => h9) rfl (by decide +kernel) rfl rfl (Nat.le_of_ble_eq_true rfl) dX0_startText_32 (fun H locs hP hD hS => ?_)
  have hP : va_P (dC, dI) vwCl [(e0, .inr (0, [.ref f0, .ref n0, .ref d0, .ref sc, .ref e4, .ref e5, .ref e6, .ref fr, .int 4000, .int (-1), .int 0, .int (-1), .int 0, .int 0, .int 0])), (fr, .inr (2, [.ref g1, .ref g2, .ref g3, .ref g4, .ref g5, .ref g6, .int 0]))] H := hP
  have hD : va_D A [(e0, .inr (0, [.ref f0, .ref n0, .ref d0, .ref sc, .ref e4, .ref e5, .ref e6, .ref fr, .int 4000, .int (-1), .int 0, .int (-1), .int 0, .int 0, .int 0])), (fr, .inr (2, [.ref g1, .ref g2, .ref g3, .ref g4, .ref g5, .ref g6, .int 0]))] := hD
  refine lv_aload_n hx hb dX0_startText_35 rfl (lv_at hl 0 rfl) ?_
  refine lv_iconst (v := 0) hx hb dX0_startText_36 (by decide) ?_
  refine va_put (D := (dC, dI)) (ci := 0) (v := .int 0) (ty := .int) (C := RX0) (T := TX0) (N := 15) hx hb hts inX0_startText_X0 tyX0 tyX0_ok nmX0 hown hK hP hD hS 0 rfl rfl 13 (by decide) (hts _ lkX0_startText_f34) (fun _ h9 => h9) rfl (by decide +kernel) rfl rfl (Nat.le_of_ble_eq_true rfl) dX0_startText_37 (fun H locs hP hD hS => ?_)
  have hP : va_P (dC, dI) vwCl [(e0, .inr (0, [.ref f0, .ref n0, .ref d0, .ref sc, .ref e4, .ref e5, .ref e6, .ref fr, .int 4000, .int (-1), .int 0, .int (-1), .int 0, .int 0, .int 0])), (fr, .inr (2, [.ref g1, .ref g2, .ref g3, .ref g4, .ref g5, .ref g6, .int 0]))] H := hP
  have hD : va_D A [(e0, .inr (0, [.ref f0, .ref n0, .ref d0, .ref sc, .ref e4, .ref e5, .ref e6, .ref fr, .int 4000, .int (-1), .int 0, .int (-1), .int 0, .int 0, .int 0])), (fr, .inr (2, [.ref g1, .ref g2, .ref g3, .ref g4, .ref g5, .ref g6, .int 0]))] := hD
  refine lv_aload_n hx hb dX0_startText_40 rfl (lv_at hl 0 rfl) ?_
  refine lv_iconst (v := 0) hx hb dX0_startText_41 (by decide) ?_
  refine va_put (D := (dC, dI)) (ci := 0) (v := .int 0) (ty := .int) (C := RX0) (T := TX0) (N := 15) hx hb hts inX0_startText_X0 tyX0 tyX0_ok nmX0 hown hK hP hD hS 0 rfl rfl 14 (by decide) (hts _ lkX0_startText_f37) (fun _ h9 => h9) rfl (by decide +kernel) rfl rfl (Nat.le_of_ble_eq_true rfl) dX0_startText_42 (fun H locs hP hD hS => ?_)
  have hP : va_P (dC, dI) vwCl [(e0, .inr (0, [.ref f0, .ref n0, .ref d0, .ref sc, .ref e4, .ref e5, .ref e6, .ref fr, .int 4000, .int (-1), .int 0, .int (-1), .int 0, .int 0, .int 0])), (fr, .inr (2, [.ref g1, .ref g2, .ref g3, .ref g4, .ref g5, .ref g6, .int 0]))] H := hP
  have hD : va_D A [(e0, .inr (0, [.ref f0, .ref n0, .ref d0, .ref sc, .ref e4, .ref e5, .ref e6, .ref fr, .int 4000, .int (-1), .int 0, .int (-1), .int 0, .int 0, .int 0])), (fr, .inr (2, [.ref g1, .ref g2, .ref g3, .ref g4, .ref g5, .ref g6, .int 0]))] := hD
  refine W.widen (k := 0) (n := 0) (Nat.le_of_ble_eq_true rfl) (Nat.le_of_ble_eq_true rfl) ?_
  have hP9 := hP.sub (ws' := [(e0, .inr (0, [.ref f0, .ref n0, .ref d0, .ref sc, .ref e4, .ref e5, .ref e6, .ref fr, .int 4000, .int (-1), .int 0, .int (-1), .int 0, .int 0, .int 0])), (fr, .inr (2, [.ref g1, .ref g2, .ref g3, .ref g4, .ref g5, .ref g6, .int 0]))]) [0, 1] rfl
  have hD9 := hD.sub (ws' := [(e0, .inr (0, [.ref f0, .ref n0, .ref d0, .ref sc, .ref e4, .ref e5, .ref e6, .ref fr, .int 4000, .int (-1), .int 0, .int (-1), .int 0, .int 0, .int 0])), (fr, .inr (2, [.ref g1, .ref g2, .ref g3, .ref g4, .ref g5, .ref g6, .int 0]))]) [0, 1] (by decide) rfl
  exact W.vret hx hb hr (fun t ht hW => ⟨⟨(), rfl, trivial, by rw [ht]; exact hP9, va_K.moved hW.alike hK, hD9⟩, hS.F ht⟩) hS.2.2 dX0_startText_45

set_option maxHeartbeats 4000000 in
set_option maxRecDepth 100000 in
/-- leaveTo(0) with nothing bound -/
theorem c_leaveTo (l : Launch) (dC : Nat → ClassId) (dI : Nat → Nat → Nat) (cB cC cI cJ cZ : ClassId) (sc n0 s1 s2 s3 s4 : Nat)  (sz : Nat) : Met l yX9_leaveTo vX9_leaveTo { frames := 0, cells := 0, slots := 0, locals := 0 } (va_Pc [.ref sc, .int 0] (fun U => U.heap.size = sz ∧ va_P (dC, dI) vwCl [(sc, .inr (9, [.ref n0, .ref s1, .ref s2, .ref s3, .ref s4, .int 0]))] U.heap ∧ va_K (dC, dI) vwCl (TY cB cC cI cJ cZ) U ∧ va_D (fun _ => True) [(sc, .inr (9, [.ref n0, .ref s1, .ref s2, .ref s3, .ref s4, .int 0]))])) (va_Qv (fun (_ : Unit) => True) (fun (_ : Unit) (t : State) => va_P (dC, dI) vwCl [(sc, .inr (9, [.ref n0, .ref s1, .ref s2, .ref s3, .ref s4, .int 0]))] t.heap ∧ va_K (dC, dI) vwCl (TY cB cC cI cJ cZ) t ∧ va_D (va_A [(sc, .inr (9, [.ref n0, .ref s1, .ref s2, .ref s3, .ref s4, .int 0]))] sz) [(sc, .inr (9, [.ref n0, .ref s1, .ref s2, .ref s3, .ref s4, .int 0]))]) (va_A [(sc, .inr (9, [.ref n0, .ref s1, .ref s2, .ref s3, .ref s4, .int 0]))] sz)) 0 0 (va_A [(sc, .inr (9, [.ref n0, .ref s1, .ref s2, .ref s3, .ref s4, .int 0]))] sz) := by
  refine Met.ofW (cc := cX9_leaveTo) (maxL := 2) (ret := none) (by decide) rfl ?_
  intro p e s m args below meth c s₁ B hml hv
  obtain ⟨rfl, hsz, hP, hK, hD0⟩ := hv
  have hx := B.exec
  have hb := B.bytes
  have hr := B.returns
  have hts := atoms_spec (ws := vX9_leaveTo) B.pre
  have hown : s.vm.findClass RX9 = some m.cls := findClass_of_methodNamed B.named
  have hlocks := B.notSynchronized
  subst hsz
  have hD := hD0.self (sz := s.heap.size)
  generalize hAe : va_A [(sc, .inr (9, [.ref n0, .ref s1, .ref s2, .ref s3, .ref s4, .int 0]))] s.heap.size = A at hD ⊢
  have hA : ∀ q : Nat, s.heap.size ≤ q → A q := fun q h => by rw [← hAe]; exact Or.inr h
  have hS : va_S A s.heap s.heap [] := va_S.rf
  have hP : va_P (dC, dI) vwCl [(sc, .inr (9, [.ref n0, .ref s1, .ref s2, .ref s3, .ref s4, .int 0]))] s.heap := hP
  have hl := lv_entry ([.ref sc, .int 0]) (n := 2) (Nat.le_of_ble_eq_true rfl)
  rw [lg_entry_eq]
  generalize (lg_sl ([.ref sc, .int 0]) ++ List.replicate (2 - (lg_sl ([.ref sc, .int 0])).length) Slot.unset).toArray = ls at hl ⊢
  have hl : lv_has ls 2 [(0, .ref sc), (1, .int 0)] := hl
  refine lv_aload_n hx hb dX9_leaveTo_0 rfl (lv_at hl 0 rfl) ?_
  refine va_get (D := (dC, dI)) (ci := 9) (v := .int 0) (C := RX9) (T := TX9) (N := 6) hx hb hts inX9_leaveTo_X9 hown hK hP 0 rfl rfl 5 (by decide) (hts _ lkX9_leaveTo_f24) (fun _ h9 => h9) rfl dX9_leaveTo_1 ?_
  refine lv_if_le (tgt := 73) hx hb dX9_leaveTo_4 (by decide) (fun _ => ?_) (fun q9 => absurd (by decide) q9)
  refine W.widen (k := 0) (n := 0) (Nat.le_of_ble_eq_true rfl) (Nat.le_of_ble_eq_true rfl) ?_
  have hP9 := hP.sub (ws' := [(sc, .inr (9, [.ref n0, .ref s1, .ref s2, .ref s3, .ref s4, .int 0]))]) [0] rfl
  have hD9 := hD.sub (ws' := [(sc, .inr (9, [.ref n0, .ref s1, .ref s2, .ref s3, .ref s4, .int 0]))]) [0] (by decide) rfl
  exact W.vret hx hb hr (fun t ht hW => ⟨⟨(), rfl, trivial, by rw [ht]; exact hP9, va_K.moved hW.alike hK, hD9⟩, hS.F ht⟩) hS.2.2 dX9_leaveTo_73

set_option maxHeartbeats 4000000 in
set_option maxRecDepth 100000 in
/-- tellText of no forms -/
theorem c_tellText (l : Launch) (dC : Nat → ClassId) (dI : Nat → Nat → Nat) (cB cC cI cJ cZ : ClassId) (e0 f0 n0 d0 sc e4 e5 e6 fr g1 g2 g3 g4 g5 g6 c1 c2 d1 d2 s1 s2 s3 s4 : Nat)  (sz : Nat) : Met l yX0_tellText vX0_tellText { frames := 1, cells := 0, slots := 0, locals := 21 } (va_Pc [.ref e0] (fun U => U.heap.size = sz ∧ va_P (dC, dI) vwCl [(e0, .inr (0, [.ref f0, .ref n0, .ref d0, .ref sc, .ref e4, .ref e5, .ref e6, .ref fr, .int 0, .int (-1), .int 0, .int (-1), .int 0, .int 0, .int 0])), (fr, .inr (2, [.ref g1, .ref g2, .ref g3, .ref g4, .ref g5, .ref g6, .int 0])), (f0, .inr (1, [.ref c1, .ref c2, .int 4000, .int 0])), (d0, .inr (10, [.ref d1, .int 0, .ref d2, .int 0, .int 32])), (sc, .inr (9, [.ref n0, .ref s1, .ref s2, .ref s3, .ref s4, .int 0]))] U.heap ∧ va_K (dC, dI) vwCl (TY cB cC cI cJ cZ) U ∧ va_D (fun _ => True) [(e0, .inr (0, [.ref f0, .ref n0, .ref d0, .ref sc, .ref e4, .ref e5, .ref e6, .ref fr, .int 0, .int (-1), .int 0, .int (-1), .int 0, .int 0, .int 0])), (fr, .inr (2, [.ref g1, .ref g2, .ref g3, .ref g4, .ref g5, .ref g6, .int 0])), (f0, .inr (1, [.ref c1, .ref c2, .int 4000, .int 0])), (d0, .inr (10, [.ref d1, .int 0, .ref d2, .int 0, .int 32])), (sc, .inr (9, [.ref n0, .ref s1, .ref s2, .ref s3, .ref s4, .int 0]))] ∧ NW U)) (va_Qi (fun (r : Int32) (_ : Unit) => r = 0) (fun (_ : Unit) (t : State) => va_P (dC, dI) vwCl [(e0, .inr (0, [.ref f0, .ref n0, .ref d0, .ref sc, .ref e4, .ref e5, .ref e6, .ref fr, .int 4000, .int (-1), .int 0, .int (-1), .int 0, .int 0, .int 0])), (fr, .inr (2, [.ref g1, .ref g2, .ref g3, .ref g4, .ref g5, .ref g6, .int 0])), (f0, .inr (1, [.ref c1, .ref c2, .int 4000, .int 0])), (d0, .inr (10, [.ref d1, .int 0, .ref d2, .int 0, .int 32])), (sc, .inr (9, [.ref n0, .ref s1, .ref s2, .ref s3, .ref s4, .int 0]))] t.heap ∧ va_K (dC, dI) vwCl (TY cB cC cI cJ cZ) t ∧ va_D (va_A [(e0, .inr (0, [.ref f0, .ref n0, .ref d0, .ref sc, .ref e4, .ref e5, .ref e6, .ref fr, .int 0, .int (-1), .int 0, .int (-1), .int 0, .int 0, .int 0])), (fr, .inr (2, [.ref g1, .ref g2, .ref g3, .ref g4, .ref g5, .ref g6, .int 0])), (f0, .inr (1, [.ref c1, .ref c2, .int 4000, .int 0])), (d0, .inr (10, [.ref d1, .int 0, .ref d2, .int 0, .int 32])), (sc, .inr (9, [.ref n0, .ref s1, .ref s2, .ref s3, .ref s4, .int 0]))] sz) [(e0, .inr (0, [.ref f0, .ref n0, .ref d0, .ref sc, .ref e4, .ref e5, .ref e6, .ref fr, .int 4000, .int (-1), .int 0, .int (-1), .int 0, .int 0, .int 0])), (fr, .inr (2, [.ref g1, .ref g2, .ref g3, .ref g4, .ref g5, .ref g6, .int 0])), (f0, .inr (1, [.ref c1, .ref c2, .int 4000, .int 0])), (d0, .inr (10, [.ref d1, .int 0, .ref d2, .int 0, .int 32])), (sc, .inr (9, [.ref n0, .ref s1, .ref s2, .ref s3, .ref s4, .int 0]))]) (va_A [(e0, .inr (0, [.ref f0, .ref n0, .ref d0, .ref sc, .ref e4, .ref e5, .ref e6, .ref fr, .int 0, .int (-1), .int 0, .int (-1), .int 0, .int 0, .int 0])), (fr, .inr (2, [.ref g1, .ref g2, .ref g3, .ref g4, .ref g5, .ref g6, .int 0])), (f0, .inr (1, [.ref c1, .ref c2, .int 4000, .int 0])), (d0, .inr (10, [.ref d1, .int 0, .ref d2, .int 0, .int 32])), (sc, .inr (9, [.ref n0, .ref s1, .ref s2, .ref s3, .ref s4, .int 0]))] sz)) 0 0 (va_A [(e0, .inr (0, [.ref f0, .ref n0, .ref d0, .ref sc, .ref e4, .ref e5, .ref e6, .ref fr, .int 0, .int (-1), .int 0, .int (-1), .int 0, .int 0, .int 0])), (fr, .inr (2, [.ref g1, .ref g2, .ref g3, .ref g4, .ref g5, .ref g6, .int 0])), (f0, .inr (1, [.ref c1, .ref c2, .int 4000, .int 0])), (d0, .inr (10, [.ref d1, .int 0, .ref d2, .int 0, .int 32])), (sc, .inr (9, [.ref n0, .ref s1, .ref s2, .ref s3, .ref s4, .int 0]))] sz) := by
  refine Met.ofW (cc := cX0_tellText) (maxL := 5) (ret := (some .int)) (by decide) rfl ?_
  intro p e s m args below meth c s₁ B hml hv
  obtain ⟨rfl, hsz, hP, hK, hD0, hNW⟩ := hv
  have hx := B.exec
  have hb := B.bytes
  have hr := B.returns
  have hts := atoms_spec (ws := vX0_tellText) B.pre
  have hown : s.vm.findClass RX0 = some m.cls := findClass_of_methodNamed B.named
  have hlocks := B.notSynchronized
  subst hsz
  have hD := hD0.self (sz := s.heap.size)
  generalize hAe : va_A [(e0, .inr (0, [.ref f0, .ref n0, .ref d0, .ref sc, .ref e4, .ref e5, .ref e6, .ref fr, .int 0, .int (-1), .int 0, .int (-1), .int 0, .int 0, .int 0])), (fr, .inr (2, [.ref g1, .ref g2, .ref g3, .ref g4, .ref g5, .ref g6, .int 0])), (f0, .inr (1, [.ref c1, .ref c2, .int 4000, .int 0])), (d0, .inr (10, [.ref d1, .int 0, .ref d2, .int 0, .int 32])), (sc, .inr (9, [.ref n0, .ref s1, .ref s2, .ref s3, .ref s4, .int 0]))] s.heap.size = A at hD ⊢
  have hA : ∀ q : Nat, s.heap.size ≤ q → A q := fun q h => by rw [← hAe]; exact Or.inr h
  have hS : va_S A s.heap s.heap [] := va_S.rf
  have hP : va_P (dC, dI) vwCl [(e0, .inr (0, [.ref f0, .ref n0, .ref d0, .ref sc, .ref e4, .ref e5, .ref e6, .ref fr, .int 0, .int (-1), .int 0, .int (-1), .int 0, .int 0, .int 0])), (fr, .inr (2, [.ref g1, .ref g2, .ref g3, .ref g4, .ref g5, .ref g6, .int 0])), (f0, .inr (1, [.ref c1, .ref c2, .int 4000, .int 0])), (d0, .inr (10, [.ref d1, .int 0, .ref d2, .int 0, .int 32])), (sc, .inr (9, [.ref n0, .ref s1, .ref s2, .ref s3, .ref s4, .int 0]))] s.heap := hP
  have hl := lv_entry ([.ref e0]) (n := 5) (Nat.le_of_ble_eq_true rfl)
  rw [lg_entry_eq]
  generalize (lg_sl ([.ref e0]) ++ List.replicate (5 - (lg_sl ([.ref e0])).length) Slot.unset).toArray = ls at hl ⊢
  have hl : lv_has ls 5 [(0, .ref e0)] := hl
  refine lv_aload_n hx hb dX0_tellText_0 rfl (lv_at hl 0 rfl) ?_
  have hPc := hP.sub (ws' := [(e0, .inr (0, [.ref f0, .ref n0, .ref d0, .ref sc, .ref e4, .ref e5, .ref e6, .ref fr, .int 0, .int (-1), .int 0, .int (-1), .int 0, .int 0, .int 0])), (fr, .inr (2, [.ref g1, .ref g2, .ref g3, .ref g4, .ref g5, .ref g6, .int 0]))]) [0, 1] rfl
  have hDc := hD.sub (ws' := [(e0, .inr (0, [.ref f0, .ref n0, .ref d0, .ref sc, .ref e4, .ref e5, .ref e6, .ref fr, .int 0, .int (-1), .int 0, .int (-1), .int 0, .int 0, .int 0])), (fr, .inr (2, [.ref g1, .ref g2, .ref g3, .ref g4, .ref g5, .ref g6, .int 0]))]) [0, 1] (by decide) rfl
  have hFc := va_free (wc := [(e0, .inr (0, [.ref f0, .ref n0, .ref d0, .ref sc, .ref e4, .ref e5, .ref e6, .ref fr, .int 0, .int (-1), .int 0, .int (-1), .int 0, .int 0, .int 0])), (fr, .inr (2, [.ref g1, .ref g2, .ref g3, .ref g4, .ref g5, .ref g6, .int 0]))]) hD hS hA [0, 1] rfl
  refine va_callv (va_runV (As := []) (rest := []) ⟨hx, hb, hml, hown, hts⟩ (c_Exp_start l dC dI cB cC cI cJ cZ e0 f0 n0 d0 sc e4 e5 e6 fr g1 g2 g3 g4 g5 g6  s.heap.size) (cwV 0 hts kX0_tellText_X0_startText_91 rfl rfl rfl (by decide +kernel) ⟨Nat.le_of_ble_eq_true rfl, Nat.le_of_ble_eq_true rfl⟩) ⟨fun a U g mk q => by obtain ⟨q0, q1, qP, qK, qD, qN⟩ := q; exact ⟨q0, q1, qP, va_K.moved (u := U) (U := U.calling g mk a) (Vm.Alike.refl U.vm) qK, qD, qN.same rfl⟩, va_recv hK hPc (ci := 0) (q0 := 0) rfl rfl, fun U hU hW => ⟨rfl, by rw [hU], by rw [hU]; exact hPc, va_K.moved hW.alike hK, hDc.weaken (fun _ _ _ _ => trivial), hNW.warm hW⟩⟩ rfl rfl hl.1 rfl (lv_room (Nat.le_of_ble_eq_true rfl)) dX0_tellText_1 ⟨Nat.le_of_ble_eq_true rfl, Nat.le_of_ble_eq_true rfl⟩) hS (fun q _ h => hFc q h) hFc (fun _u t H locs ht hvm hw hB hz1 hk1 hS => ?_)
  obtain ⟨hP1, hK1, hD1⟩ := hB
  rw [ht] at hP1
  obtain ⟨hP, hD⟩ := va_join (wr := [(f0, .inr (1, [.ref c1, .ref c2, .int 4000, .int 0])), (d0, .inr (10, [.ref d1, .int 0, .ref d2, .int 0, .int 32])), (sc, .inr (9, [.ref n0, .ref s1, .ref s2, .ref s3, .ref s4, .int 0]))]) (w1 := [(e0, .inr (0, [.ref f0, .ref n0, .ref d0, .ref sc, .ref e4, .ref e5, .ref e6, .ref fr, .int 4000, .int (-1), .int 0, .int (-1), .int 0, .int 0, .int 0])), (fr, .inr (2, [.ref g1, .ref g2, .ref g3, .ref g4, .ref g5, .ref g6, .int 0]))]) hP hD [0, 1] [2, 3, 4] rfl rfl (by decide) (by decide) hk1 hFc hP1 hD1
  have hP : va_P (dC, dI) vwCl [(f0, .inr (1, [.ref c1, .ref c2, .int 4000, .int 0])), (d0, .inr (10, [.ref d1, .int 0, .ref d2, .int 0, .int 32])), (sc, .inr (9, [.ref n0, .ref s1, .ref s2, .ref s3, .ref s4, .int 0])), (e0, .inr (0, [.ref f0, .ref n0, .ref d0, .ref sc, .ref e4, .ref e5, .ref e6, .ref fr, .int 4000, .int (-1), .int 0, .int (-1), .int 0, .int 0, .int 0])), (fr, .inr (2, [.ref g1, .ref g2, .ref g3, .ref g4, .ref g5, .ref g6, .int 0]))] H := hP
  have hD : va_D A [(f0, .inr (1, [.ref c1, .ref c2, .int 4000, .int 0])), (d0, .inr (10, [.ref d1, .int 0, .ref d2, .int 0, .int 32])), (sc, .inr (9, [.ref n0, .ref s1, .ref s2, .ref s3, .ref s4, .int 0])), (e0, .inr (0, [.ref f0, .ref n0, .ref d0, .ref sc, .ref e4, .ref e5, .ref e6, .ref fr, .int 4000, .int (-1), .int 0, .int (-1), .int 0, .int 0, .int 0])), (fr, .inr (2, [.ref g1, .ref g2, .ref g3, .ref g4, .ref g5, .ref g6, .int 0]))] := hD
  refine W.widen (k := 0) (n := 0) (Nat.le_of_ble_eq_true rfl) (Nat.le_of_ble_eq_true rfl) ?_
  refine lv_aload_n hx hb dX0_tellText_4 rfl (lv_at hl 0 rfl) ?_
  refine va_get (D := (dC, dI)) (ci := 0) (v := .ref f0) (C := RX0) (T := TX0) (N := 15) hx hb hts inX0_tellText_X0 hown hK hP 3 rfl rfl 0 (by decide) (hts _ lkX0_tellText_f43) (fun _ h9 => h9) rfl dX0_tellText_5 ?_
  refine va_getN (D := (dC, dI)) (ci := 1) (v := .int 4000) (C := RX1) (T := TX1) (N := 4) hx hb hts inX0_tellText_X1 hown hK hP 0 rfl rfl 2 (by decide) (va_Nw.use rfl hNW.2.2.1) (fun _ h9 => h9) rfl dX0_tellText_8 ?_
  refine lv_istore_n (lv' := [(1, .int 4000), (0, .ref e0)]) hx hb dX0_tellText_11 rfl hl (by decide) rfl (fun ls hl => ?_)
  refine lv_iconst (v := 0) hx hb dX0_tellText_12 (by decide) ?_
  refine lv_istore_n (lv' := [(2, .int 0), (1, .int 4000), (0, .ref e0)]) hx hb dX0_tellText_13 rfl hl (by decide) rfl (fun ls hl => ?_)
  refine lv_iload_n hx hb dX0_tellText_14 rfl (lv_at hl 0 rfl) ?_
  refine lv_ldc (v := 1000000) hx hb hown (hts _ lkX0_tellText_c99) dX0_tellText_15 ?_
  refine lv_icmp_ge (tgt := 161) hx hb dX0_tellText_17 (by decide) (fun q9 => absurd q9 (by decide)) (fun _ => ?_)
  refine lv_aload_n hx hb dX0_tellText_20 rfl (lv_at hl 2 rfl) ?_
  refine va_get (D := (dC, dI)) (ci := 0) (v := .int 0) (C := RX0) (T := TX0) (N := 15) hx hb hts inX0_tellText_X0 hown hK hP 3 rfl rfl 10 (by decide) (hts _ lkX0_tellText_f25) (fun _ h9 => h9) rfl dX0_tellText_21 ?_
  refine lv_if_ne (tgt := 161) hx hb dX0_tellText_24 (by decide) (fun q9 => absurd q9 (by decide)) (fun _ => ?_)
  refine lv_aload_n hx hb dX0_tellText_27 rfl (lv_at hl 2 rfl) ?_
  refine va_get (D := (dC, dI)) (ci := 0) (v := .ref fr) (C := RX0) (T := TX0) (N := 15) hx hb hts inX0_tellText_X0 hown hK hP 3 rfl rfl 7 (by decide) (hts _ lkX0_tellText_f12) (fun _ h9 => h9) rfl dX0_tellText_28 ?_
  refine va_getN (D := (dC, dI)) (ci := 2) (v := .int 0) (C := RX2) (T := TX2) (N := 7) hx hb hts inX0_tellText_X2 hown hK hP 4 rfl rfl 6 (by decide) (va_Nw.use rfl hNW.2.2.2.1) (fun _ h9 => h9) rfl dX0_tellText_31 ?_
  refine lv_if_gt (tgt := 45) hx hb dX0_tellText_34 (by decide) (fun q9 => absurd q9 (by decide)) (fun _ => ?_)
  refine lv_aload_n hx hb dX0_tellText_37 rfl (lv_at hl 2 rfl) ?_
  refine va_get (D := (dC, dI)) (ci := 0) (v := .int 4000) (C := RX0) (T := TX0) (N := 15) hx hb hts inX0_tellText_X0 hown hK hP 3 rfl rfl 8 (by decide) (hts _ lkX0_tellText_f18) (fun _ h9 => h9) rfl dX0_tellText_38 ?_
  refine lv_iload_n hx hb dX0_tellText_41 rfl (lv_at hl 1 rfl) ?_
  refine lv_icmp_ge (tgt := 161) hx hb dX0_tellText_42 (by decide) (fun _ => ?_) (fun q9 => absurd (by decide) q9)
  refine lv_aload_n hx hb dX0_tellText_161 rfl (lv_at hl 2 rfl) ?_
  refine va_get (D := (dC, dI)) (ci := 0) (v := .ref sc) (C := RX0) (T := TX0) (N := 15) hx hb hts inX0_tellText_X0 hown hK hP 3 rfl rfl 3 (by decide) (hts _ lkX0_tellText_f60) (fun _ h9 => h9) rfl dX0_tellText_162 ?_
  refine lv_iconst (v := 0) hx hb dX0_tellText_165 (by decide) ?_
  have hPc := hP.sub (ws' := [(sc, .inr (9, [.ref n0, .ref s1, .ref s2, .ref s3, .ref s4, .int 0]))]) [2] rfl
  have hDc := hD.sub (ws' := [(sc, .inr (9, [.ref n0, .ref s1, .ref s2, .ref s3, .ref s4, .int 0]))]) [2] (by decide) rfl
  have hFc := va_free (wc := [(sc, .inr (9, [.ref n0, .ref s1, .ref s2, .ref s3, .ref s4, .int 0]))]) hD hS hA [2] rfl
  refine va_callv (va_runV (As := [.int 0]) (rest := []) ⟨hx, hb, hml, hown, hts⟩ (c_leaveTo l dC dI cB cC cI cJ cZ sc n0 s1 s2 s3 s4  H.size) (cwV 1 hts kX0_tellText_X9_leaveTo_139 rfl rfl rfl (by decide +kernel) ⟨Nat.le_of_ble_eq_true rfl, Nat.le_of_ble_eq_true rfl⟩) ⟨fun a U g mk q => by obtain ⟨q0, q1, qP, qK, qD⟩ := q; exact ⟨q0, q1, qP, va_K.moved (u := U) (U := U.calling g mk a) (Vm.Alike.refl U.vm) qK, qD⟩, va_recv hK hPc (ci := 9) (q0 := 0) rfl rfl, fun U hU hW => ⟨rfl, by rw [hU], by rw [hU]; exact hPc, va_K.moved hW.alike hK, hDc.weaken (fun _ _ _ _ => trivial)⟩⟩ rfl rfl hl.1 rfl (lv_room (Nat.le_of_ble_eq_true rfl)) dX0_tellText_166 ⟨Nat.le_of_ble_eq_true rfl, Nat.le_of_ble_eq_true rfl⟩) hS (fun q _ h => hFc q h) hFc (fun _u t H locs ht hvm hw hB hz1 hk1 hS => ?_)
  obtain ⟨hP1, hK1, hD1⟩ := hB
  rw [ht] at hP1
  obtain ⟨hP, hD⟩ := va_join (wr := [(f0, .inr (1, [.ref c1, .ref c2, .int 4000, .int 0])), (d0, .inr (10, [.ref d1, .int 0, .ref d2, .int 0, .int 32])), (e0, .inr (0, [.ref f0, .ref n0, .ref d0, .ref sc, .ref e4, .ref e5, .ref e6, .ref fr, .int 4000, .int (-1), .int 0, .int (-1), .int 0, .int 0, .int 0])), (fr, .inr (2, [.ref g1, .ref g2, .ref g3, .ref g4, .ref g5, .ref g6, .int 0]))]) (w1 := [(sc, .inr (9, [.ref n0, .ref s1, .ref s2, .ref s3, .ref s4, .int 0]))]) hP hD [2] [0, 1, 3, 4] rfl rfl (by decide) (by decide) hk1 hFc hP1 hD1
  have hP : va_P (dC, dI) vwCl [(f0, .inr (1, [.ref c1, .ref c2, .int 4000, .int 0])), (d0, .inr (10, [.ref d1, .int 0, .ref d2, .int 0, .int 32])), (e0, .inr (0, [.ref f0, .ref n0, .ref d0, .ref sc, .ref e4, .ref e5, .ref e6, .ref fr, .int 4000, .int (-1), .int 0, .int (-1), .int 0, .int 0, .int 0])), (fr, .inr (2, [.ref g1, .ref g2, .ref g3, .ref g4, .ref g5, .ref g6, .int 0])), (sc, .inr (9, [.ref n0, .ref s1, .ref s2, .ref s3, .ref s4, .int 0]))] H := hP
  have hD : va_D A [(f0, .inr (1, [.ref c1, .ref c2, .int 4000, .int 0])), (d0, .inr (10, [.ref d1, .int 0, .ref d2, .int 0, .int 32])), (e0, .inr (0, [.ref f0, .ref n0, .ref d0, .ref sc, .ref e4, .ref e5, .ref e6, .ref fr, .int 4000, .int (-1), .int 0, .int (-1), .int 0, .int 0, .int 0])), (fr, .inr (2, [.ref g1, .ref g2, .ref g3, .ref g4, .ref g5, .ref g6, .int 0])), (sc, .inr (9, [.ref n0, .ref s1, .ref s2, .ref s3, .ref s4, .int 0]))] := hD
  refine W.widen (k := 0) (n := 0) (Nat.le_of_ble_eq_true rfl) (Nat.le_of_ble_eq_true rfl) ?_
  refine lv_aload_n hx hb dX0_tellText_169 rfl (lv_at hl 2 rfl) ?_
  refine va_get (D := (dC, dI)) (ci := 0) (v := .int 0) (C := RX0) (T := TX0) (N := 15) hx hb hts inX0_tellText_X0 hown hK hP 2 rfl rfl 10 (by decide) (hts _ lkX0_tellText_f25) (fun _ h9 => h9) rfl dX0_tellText_170 ?_
  refine lv_if_ne (tgt := 193) hx hb dX0_tellText_173 (by decide) (fun q9 => absurd q9 (by decide)) (fun _ => ?_)
  refine lv_aload_n hx hb dX0_tellText_176 rfl (lv_at hl 2 rfl) ?_
  refine va_get (D := (dC, dI)) (ci := 0) (v := .ref d0) (C := RX0) (T := TX0) (N := 15) hx hb hts inX0_tellText_X0 hown hK hP 2 rfl rfl 2 (by decide) (hts _ lkX0_tellText_f51) (fun _ h9 => h9) rfl dX0_tellText_177 ?_
  refine va_getN (D := (dC, dI)) (ci := 10) (v := .int 0) (C := RX10) (T := TX10) (N := 5) hx hb hts inX0_tellText_X10 hown hK hP 1 rfl rfl 3 (by decide) (va_Nw.use rfl hNW.2.2.2.2.1) (fun _ h9 => h9) rfl dX0_tellText_180 ?_
  refine lv_sipush (v := 4000) hx hb dX0_tellText_183 (by decide) ?_
  refine lv_icmp_le (tgt := 193) hx hb dX0_tellText_186 (by decide) (fun _ => ?_) (fun q9 => absurd (by decide) q9)
  refine lv_aload_n hx hb dX0_tellText_193 rfl (lv_at hl 2 rfl) ?_
  refine va_get (D := (dC, dI)) (ci := 0) (v := .int 0) (C := RX0) (T := TX0) (N := 15) hx hb hts inX0_tellText_X0 hown hK hP 2 rfl rfl 10 (by decide) (hts _ lkX0_tellText_f25) (fun _ h9 => h9) rfl dX0_tellText_194 ?_
  refine W.widen (k := 0) (n := 0) (Nat.le_of_ble_eq_true rfl) (Nat.le_of_ble_eq_true rfl) ?_
  have hP9 := hP.sub (ws' := [(e0, .inr (0, [.ref f0, .ref n0, .ref d0, .ref sc, .ref e4, .ref e5, .ref e6, .ref fr, .int 4000, .int (-1), .int 0, .int (-1), .int 0, .int 0, .int 0])), (fr, .inr (2, [.ref g1, .ref g2, .ref g3, .ref g4, .ref g5, .ref g6, .int 0])), (f0, .inr (1, [.ref c1, .ref c2, .int 4000, .int 0])), (d0, .inr (10, [.ref d1, .int 0, .ref d2, .int 0, .int 32])), (sc, .inr (9, [.ref n0, .ref s1, .ref s2, .ref s3, .ref s4, .int 0]))]) [2, 3, 0, 1, 4] rfl
  have hD9 := hD.sub (ws' := [(e0, .inr (0, [.ref f0, .ref n0, .ref d0, .ref sc, .ref e4, .ref e5, .ref e6, .ref fr, .int 4000, .int (-1), .int 0, .int (-1), .int 0, .int 0, .int 0])), (fr, .inr (2, [.ref g1, .ref g2, .ref g3, .ref g4, .ref g5, .ref g6, .int 0])), (f0, .inr (1, [.ref c1, .ref c2, .int 4000, .int 0])), (d0, .inr (10, [.ref d1, .int 0, .ref d2, .int 0, .int 32])), (sc, .inr (9, [.ref n0, .ref s1, .ref s2, .ref s3, .ref s4, .int 0]))]) [2, 3, 0, 1, 4] (by decide) rfl
  exact W.iret (v := 0) hx hb hr (fun t ht hW => ⟨⟨0, (), rfl, rfl, by rw [ht]; exact hP9, va_K.moved hW.alike hK, hD9⟩, hS.F ht⟩) hS.2.2 dX0_tellText_197

set_option maxHeartbeats 4000000 in
set_option maxRecDepth 100000 in
/-- takeText of a text that told nothing -/
theorem c_takeText (l : Launch) (dC : Nat → ClassId) (dI : Nat → Nat → Nat) (cB cC cI cJ cZ : ClassId) (x0 t0 n0 f0 d0 r0 e0 d1 d2 sc e4 e5 e6 fr b0 b1 a2 a3 b6 b7 b8 b9 b10 : Nat) (sy : Int32)  (sz : Nat) : Met l yX11_takeText vX11_takeText { frames := 1, cells := 0, slots := 0, locals := 21 } (va_Pc [.ref x0, .int 0] (fun U => U.heap.size = sz ∧ va_P (dC, dI) vwCl [(x0, .inr (11, [.ref t0, .ref n0, .ref f0, .ref d0, .ref r0, .ref e0, .int 0, .int (-1), .int 0, .int 0, .int 0])), (d0, .inr (10, [.ref d1, .int 0, .ref d2, .int 0, .int 32])), (e0, .inr (0, [.ref f0, .ref n0, .ref d0, .ref sc, .ref e4, .ref e5, .ref e6, .ref fr, .int 4000, .int (-1), .int 0, .int (-1), .int 0, .int 0, .int 0])), (n0, .inr (6, [.ref b0, .ref b1, .ref a2, .ref a3, .int sy, .int sy, .ref b6, .ref b7, .ref b8, .ref b9, .ref b10, .int sy, .int 0]))] U.heap ∧ va_K (dC, dI) vwCl (TY cB cC cI cJ cZ) U ∧ va_D (fun _ => True) [(x0, .inr (11, [.ref t0, .ref n0, .ref f0, .ref d0, .ref r0, .ref e0, .int 0, .int (-1), .int 0, .int 0, .int 0])), (d0, .inr (10, [.ref d1, .int 0, .ref d2, .int 0, .int 32])), (e0, .inr (0, [.ref f0, .ref n0, .ref d0, .ref sc, .ref e4, .ref e5, .ref e6, .ref fr, .int 4000, .int (-1), .int 0, .int (-1), .int 0, .int 0, .int 0])), (n0, .inr (6, [.ref b0, .ref b1, .ref a2, .ref a3, .int sy, .int sy, .ref b6, .ref b7, .ref b8, .ref b9, .ref b10, .int sy, .int 0]))] ∧ NW U)) (va_Qv (fun (_ : Unit) => True) (fun (_ : Unit) (t : State) => va_P (dC, dI) vwCl [] t.heap ∧ va_K (dC, dI) vwCl (TY cB cC cI cJ cZ) t ∧ va_D (va_A [(x0, .inr (11, [.ref t0, .ref n0, .ref f0, .ref d0, .ref r0, .ref e0, .int 0, .int (-1), .int 0, .int 0, .int 0])), (d0, .inr (10, [.ref d1, .int 0, .ref d2, .int 0, .int 32])), (e0, .inr (0, [.ref f0, .ref n0, .ref d0, .ref sc, .ref e4, .ref e5, .ref e6, .ref fr, .int 4000, .int (-1), .int 0, .int (-1), .int 0, .int 0, .int 0])), (n0, .inr (6, [.ref b0, .ref b1, .ref a2, .ref a3, .int sy, .int sy, .ref b6, .ref b7, .ref b8, .ref b9, .ref b10, .int sy, .int 0]))] sz) []) (va_A [(x0, .inr (11, [.ref t0, .ref n0, .ref f0, .ref d0, .ref r0, .ref e0, .int 0, .int (-1), .int 0, .int 0, .int 0])), (d0, .inr (10, [.ref d1, .int 0, .ref d2, .int 0, .int 32])), (e0, .inr (0, [.ref f0, .ref n0, .ref d0, .ref sc, .ref e4, .ref e5, .ref e6, .ref fr, .int 4000, .int (-1), .int 0, .int (-1), .int 0, .int 0, .int 0])), (n0, .inr (6, [.ref b0, .ref b1, .ref a2, .ref a3, .int sy, .int sy, .ref b6, .ref b7, .ref b8, .ref b9, .ref b10, .int sy, .int 0]))] sz)) 0 0 (va_A [(x0, .inr (11, [.ref t0, .ref n0, .ref f0, .ref d0, .ref r0, .ref e0, .int 0, .int (-1), .int 0, .int 0, .int 0])), (d0, .inr (10, [.ref d1, .int 0, .ref d2, .int 0, .int 32])), (e0, .inr (0, [.ref f0, .ref n0, .ref d0, .ref sc, .ref e4, .ref e5, .ref e6, .ref fr, .int 4000, .int (-1), .int 0, .int (-1), .int 0, .int 0, .int 0])), (n0, .inr (6, [.ref b0, .ref b1, .ref a2, .ref a3, .int sy, .int sy, .ref b6, .ref b7, .ref b8, .ref b9, .ref b10, .int sy, .int 0]))] sz) := by
  refine Met.ofW (cc := cX11_takeText) (maxL := 2) (ret := none) (by decide) rfl ?_
  intro p e s m args below meth c s₁ B hml hv
  obtain ⟨rfl, hsz, hP, hK, hD0, hNW⟩ := hv
  have hx := B.exec
  have hb := B.bytes
  have hr := B.returns
  have hts := atoms_spec (ws := vX11_takeText) B.pre
  have hown : s.vm.findClass RX11 = some m.cls := findClass_of_methodNamed B.named
  have hlocks := B.notSynchronized
  subst hsz
  have hD := hD0.self (sz := s.heap.size)
  generalize hAe : va_A [(x0, .inr (11, [.ref t0, .ref n0, .ref f0, .ref d0, .ref r0, .ref e0, .int 0, .int (-1), .int 0, .int 0, .int 0])), (d0, .inr (10, [.ref d1, .int 0, .ref d2, .int 0, .int 32])), (e0, .inr (0, [.ref f0, .ref n0, .ref d0, .ref sc, .ref e4, .ref e5, .ref e6, .ref fr, .int 4000, .int (-1), .int 0, .int (-1), .int 0, .int 0, .int 0])), (n0, .inr (6, [.ref b0, .ref b1, .ref a2, .ref a3, .int sy, .int sy, .ref b6, .ref b7, .ref b8, .ref b9, .ref b10, .int sy, .int 0]))] s.heap.size = A at hD ⊢
  have hA : ∀ q : Nat, s.heap.size ≤ q → A q := fun q h => by rw [← hAe]; exact Or.inr h
  have hS : va_S A s.heap s.heap [] := va_S.rf
  have hP : va_P (dC, dI) vwCl [(x0, .inr (11, [.ref t0, .ref n0, .ref f0, .ref d0, .ref r0, .ref e0, .int 0, .int (-1), .int 0, .int 0, .int 0])), (d0, .inr (10, [.ref d1, .int 0, .ref d2, .int 0, .int 32])), (e0, .inr (0, [.ref f0, .ref n0, .ref d0, .ref sc, .ref e4, .ref e5, .ref e6, .ref fr, .int 4000, .int (-1), .int 0, .int (-1), .int 0, .int 0, .int 0])), (n0, .inr (6, [.ref b0, .ref b1, .ref a2, .ref a3, .int sy, .int sy, .ref b6, .ref b7, .ref b8, .ref b9, .ref b10, .int sy, .int 0]))] s.heap := hP
  have hl := lv_entry ([.ref x0, .int 0]) (n := 2) (Nat.le_of_ble_eq_true rfl)
  rw [lg_entry_eq]
  generalize (lg_sl ([.ref x0, .int 0]) ++ List.replicate (2 - (lg_sl ([.ref x0, .int 0])).length) Slot.unset).toArray = ls at hl ⊢
  have hl : lv_has ls 2 [(0, .ref x0), (1, .int 0)] := hl
  refine lv_aload_n hx hb dX11_takeText_0 rfl (lv_at hl 0 rfl) ?_
  refine va_get (D := (dC, dI)) (ci := 11) (v := .ref d0) (C := RX11) (T := TX11) (N := 11) hx hb hts inX11_takeText_X11 hown hK hP 0 rfl rfl 3 (by decide) (hts _ lkX11_takeText_f30) (fun _ h9 => h9) rfl dX11_takeText_1 ?_
  have hPc := hP.sub (ws' := [(d0, .inr (10, [.ref d1, .int 0, .ref d2, .int 0, .int 32]))]) [1] rfl
  have hDc := hD.sub (ws' := [(d0, .inr (10, [.ref d1, .int 0, .ref d2, .int 0, .int 32]))]) [1] (by decide) rfl
  have hFc := va_free (wc := [(d0, .inr (10, [.ref d1, .int 0, .ref d2, .int 0, .int 32]))]) hD hS hA [1] rfl
  refine va_callv (va_runV (As := []) (rest := []) ⟨hx, hb, hml, hown, hts⟩ (c_Told_take l dC dI cB cC cI cJ cZ d0 d1 d2  s.heap.size) (cwV 0 hts kX11_takeText_X10_take_127 rfl rfl rfl (by decide +kernel) ⟨Nat.le_of_ble_eq_true rfl, Nat.le_of_ble_eq_true rfl⟩) ⟨fun a U g mk q => by obtain ⟨q0, q1, qP, qK, qD⟩ := q; exact ⟨q0, q1, qP, va_K.moved (u := U) (U := U.calling g mk a) (Vm.Alike.refl U.vm) qK, qD⟩, va_recv hK hPc (ci := 10) (q0 := 0) rfl rfl, fun U hU hW => ⟨rfl, by rw [hU], by rw [hU]; exact hPc, va_K.moved hW.alike hK, hDc.weaken (fun _ _ _ _ => trivial)⟩⟩ rfl rfl hl.1 rfl (lv_room (Nat.le_of_ble_eq_true rfl)) dX11_takeText_4 ⟨Nat.le_of_ble_eq_true rfl, Nat.le_of_ble_eq_true rfl⟩) hS (fun q _ h => hFc q h) hFc (fun _u t H locs ht hvm hw hB hz1 hk1 hS => ?_)
  obtain ⟨hP1, hK1, hD1⟩ := hB
  rw [ht] at hP1
  obtain ⟨hP, hD⟩ := va_join (wr := [(x0, .inr (11, [.ref t0, .ref n0, .ref f0, .ref d0, .ref r0, .ref e0, .int 0, .int (-1), .int 0, .int 0, .int 0])), (e0, .inr (0, [.ref f0, .ref n0, .ref d0, .ref sc, .ref e4, .ref e5, .ref e6, .ref fr, .int 4000, .int (-1), .int 0, .int (-1), .int 0, .int 0, .int 0])), (n0, .inr (6, [.ref b0, .ref b1, .ref a2, .ref a3, .int sy, .int sy, .ref b6, .ref b7, .ref b8, .ref b9, .ref b10, .int sy, .int 0]))]) (w1 := [(d0, .inr (10, [.ref d2, .int 0, .ref d1, .int 0, .int 32]))]) hP hD [1] [0, 2, 3] rfl rfl (by decide) (by decide) hk1 hFc hP1 hD1
  have hP : va_P (dC, dI) vwCl [(x0, .inr (11, [.ref t0, .ref n0, .ref f0, .ref d0, .ref r0, .ref e0, .int 0, .int (-1), .int 0, .int 0, .int 0])), (e0, .inr (0, [.ref f0, .ref n0, .ref d0, .ref sc, .ref e4, .ref e5, .ref e6, .ref fr, .int 4000, .int (-1), .int 0, .int (-1), .int 0, .int 0, .int 0])), (n0, .inr (6, [.ref b0, .ref b1, .ref a2, .ref a3, .int sy, .int sy, .ref b6, .ref b7, .ref b8, .ref b9, .ref b10, .int sy, .int 0])), (d0, .inr (10, [.ref d2, .int 0, .ref d1, .int 0, .int 32]))] H := hP
  have hD : va_D A [(x0, .inr (11, [.ref t0, .ref n0, .ref f0, .ref d0, .ref r0, .ref e0, .int 0, .int (-1), .int 0, .int 0, .int 0])), (e0, .inr (0, [.ref f0, .ref n0, .ref d0, .ref sc, .ref e4, .ref e5, .ref e6, .ref fr, .int 4000, .int (-1), .int 0, .int (-1), .int 0, .int 0, .int 0])), (n0, .inr (6, [.ref b0, .ref b1, .ref a2, .ref a3, .int sy, .int sy, .ref b6, .ref b7, .ref b8, .ref b9, .ref b10, .int sy, .int 0])), (d0, .inr (10, [.ref d2, .int 0, .ref d1, .int 0, .int 32]))] := hD
  refine W.widen (k := 0) (n := 0) (Nat.le_of_ble_eq_true rfl) (Nat.le_of_ble_eq_true rfl) ?_
  refine lv_aload_n hx hb dX11_takeText_7 rfl (lv_at hl 0 rfl) ?_
  refine lv_aload_n hx hb dX11_takeText_8 rfl (lv_at hl 0 rfl) ?_
  refine va_get (D := (dC, dI)) (ci := 11) (v := .ref e0) (C := RX11) (T := TX11) (N := 11) hx hb hts inX11_takeText_X11 hown hK hP 0 rfl rfl 5 (by decide) (hts _ lkX11_takeText_f48) (fun _ h9 => h9) rfl dX11_takeText_9 ?_
  refine va_getN (D := (dC, dI)) (ci := 0) (v := .int 0) (C := RX0) (T := TX0) (N := 15) hx hb hts inX11_takeText_X0 hown hK hP 1 rfl rfl 12 (by decide) (va_Nw.use rfl hNW.2.2.2.2.2.2.2.2.2.2.2.1) (fun _ h9 => h9) rfl dX11_takeText_12 ?_
  refine va_put (D := (dC, dI)) (ci := 11) (v := .int 0) (ty := .int) (C := RX11) (T := TX11) (N := 11) hx hb hts inX11_takeText_X11 tyX11 tyX11_ok nmX11 hown hK hP hD hS 0 rfl rfl 8 (by decide) (hts _ lkX11_takeText_f59) (fun _ h9 => h9) rfl (by decide +kernel) rfl rfl (Nat.le_of_ble_eq_true rfl) dX11_takeText_15 (fun H locs hP hD hS => ?_)
  have hP : va_P (dC, dI) vwCl [(x0, .inr (11, [.ref t0, .ref n0, .ref f0, .ref d0, .ref r0, .ref e0, .int 0, .int (-1), .int 0, .int 0, .int 0])), (e0, .inr (0, [.ref f0, .ref n0, .ref d0, .ref sc, .ref e4, .ref e5, .ref e6, .ref fr, .int 4000, .int (-1), .int 0, .int (-1), .int 0, .int 0, .int 0])), (n0, .inr (6, [.ref b0, .ref b1, .ref a2, .ref a3, .int sy, .int sy, .ref b6, .ref b7, .ref b8, .ref b9, .ref b10, .int sy, .int 0])), (d0, .inr (10, [.ref d2, .int 0, .ref d1, .int 0, .int 32]))] H := hP
  have hD : va_D A [(x0, .inr (11, [.ref t0, .ref n0, .ref f0, .ref d0, .ref r0, .ref e0, .int 0, .int (-1), .int 0, .int 0, .int 0])), (e0, .inr (0, [.ref f0, .ref n0, .ref d0, .ref sc, .ref e4, .ref e5, .ref e6, .ref fr, .int 4000, .int (-1), .int 0, .int (-1), .int 0, .int 0, .int 0])), (n0, .inr (6, [.ref b0, .ref b1, .ref a2, .ref a3, .int sy, .int sy, .ref b6, .ref b7, .ref b8, .ref b9, .ref b10, .int sy, .int 0])), (d0, .inr (10, [.ref d2, .int 0, .ref d1, .int 0, .int 32]))] := hD
  refine lv_aload_n hx hb dX11_takeText_18 rfl (lv_at hl 0 rfl) ?_
  refine lv_aload_n hx hb dX11_takeText_19 rfl (lv_at hl 0 rfl) ?_
  refine va_get (D := (dC, dI)) (ci := 11) (v := .ref e0) (C := RX11) (T := TX11) (N := 11) hx hb hts inX11_takeText_X11 hown hK hP 0 rfl rfl 5 (by decide) (hts _ lkX11_takeText_f48) (fun _ h9 => h9) rfl dX11_takeText_20 ?_
  refine va_getN (D := (dC, dI)) (ci := 0) (v := .int 0) (C := RX0) (T := TX0) (N := 15) hx hb hts inX11_takeText_X0 hown hK hP 1 rfl rfl 14 (by decide) (va_Nw.use rfl hNW.2.2.2.2.2.2.2.2.2.2.2.2) (fun _ h9 => h9) rfl dX11_takeText_23 ?_
  refine va_put (D := (dC, dI)) (ci := 11) (v := .int 0) (ty := .int) (C := RX11) (T := TX11) (N := 11) hx hb hts inX11_takeText_X11 tyX11 tyX11_ok nmX11 hown hK hP hD hS 0 rfl rfl 9 (by decide) (hts _ lkX11_takeText_f62) (fun _ h9 => h9) rfl (by decide +kernel) rfl rfl (Nat.le_of_ble_eq_true rfl) dX11_takeText_26 (fun H locs hP hD hS => ?_)
  have hP : va_P (dC, dI) vwCl [(x0, .inr (11, [.ref t0, .ref n0, .ref f0, .ref d0, .ref r0, .ref e0, .int 0, .int (-1), .int 0, .int 0, .int 0])), (e0, .inr (0, [.ref f0, .ref n0, .ref d0, .ref sc, .ref e4, .ref e5, .ref e6, .ref fr, .int 4000, .int (-1), .int 0, .int (-1), .int 0, .int 0, .int 0])), (n0, .inr (6, [.ref b0, .ref b1, .ref a2, .ref a3, .int sy, .int sy, .ref b6, .ref b7, .ref b8, .ref b9, .ref b10, .int sy, .int 0])), (d0, .inr (10, [.ref d2, .int 0, .ref d1, .int 0, .int 32]))] H := hP
  have hD : va_D A [(x0, .inr (11, [.ref t0, .ref n0, .ref f0, .ref d0, .ref r0, .ref e0, .int 0, .int (-1), .int 0, .int 0, .int 0])), (e0, .inr (0, [.ref f0, .ref n0, .ref d0, .ref sc, .ref e4, .ref e5, .ref e6, .ref fr, .int 4000, .int (-1), .int 0, .int (-1), .int 0, .int 0, .int 0])), (n0, .inr (6, [.ref b0, .ref b1, .ref a2, .ref a3, .int sy, .int sy, .ref b6, .ref b7, .ref b8, .ref b9, .ref b10, .int sy, .int 0])), (d0, .inr (10, [.ref d2, .int 0, .ref d1, .int 0, .int 32]))] := hD
  refine lv_aload_n hx hb dX11_takeText_29 rfl (lv_at hl 0 rfl) ?_
  refine lv_aload_n hx hb dX11_takeText_30 rfl (lv_at hl 0 rfl) ?_
  refine va_get (D := (dC, dI)) (ci := 11) (v := .ref e0) (C := RX11) (T := TX11) (N := 11) hx hb hts inX11_takeText_X11 hown hK hP 0 rfl rfl 5 (by decide) (hts _ lkX11_takeText_f48) (fun _ h9 => h9) rfl dX11_takeText_31 ?_
  refine va_getN (D := (dC, dI)) (ci := 0) (v := .int (-1)) (C := RX0) (T := TX0) (N := 15) hx hb hts inX11_takeText_X0 hown hK hP 1 rfl rfl 11 (by decide) (va_Nw.use rfl hNW.2.2.2.2.2.2.2.2.2.1) (fun _ h9 => h9) rfl dX11_takeText_34 ?_
  refine lv_iconst (v := 1) hx hb dX11_takeText_37 (by decide) ?_
  refine lv_iadd hx hb dX11_takeText_38 ?_
  refine tp_i (y := 0) (by decide) ?_
  refine va_put (D := (dC, dI)) (ci := 11) (v := .int 0) (ty := .int) (C := RX11) (T := TX11) (N := 11) hx hb hts inX11_takeText_X11 tyX11 tyX11_ok nmX11 hown hK hP hD hS 0 rfl rfl 10 (by decide) (hts _ lkX11_takeText_f65) (fun _ h9 => h9) rfl (by decide +kernel) rfl rfl (Nat.le_of_ble_eq_true rfl) dX11_takeText_39 (fun H locs hP hD hS => ?_)
  have hP : va_P (dC, dI) vwCl [(x0, .inr (11, [.ref t0, .ref n0, .ref f0, .ref d0, .ref r0, .ref e0, .int 0, .int (-1), .int 0, .int 0, .int 0])), (e0, .inr (0, [.ref f0, .ref n0, .ref d0, .ref sc, .ref e4, .ref e5, .ref e6, .ref fr, .int 4000, .int (-1), .int 0, .int (-1), .int 0, .int 0, .int 0])), (n0, .inr (6, [.ref b0, .ref b1, .ref a2, .ref a3, .int sy, .int sy, .ref b6, .ref b7, .ref b8, .ref b9, .ref b10, .int sy, .int 0])), (d0, .inr (10, [.ref d2, .int 0, .ref d1, .int 0, .int 32]))] H := hP
  have hD : va_D A [(x0, .inr (11, [.ref t0, .ref n0, .ref f0, .ref d0, .ref r0, .ref e0, .int 0, .int (-1), .int 0, .int 0, .int 0])), (e0, .inr (0, [.ref f0, .ref n0, .ref d0, .ref sc, .ref e4, .ref e5, .ref e6, .ref fr, .int 4000, .int (-1), .int 0, .int (-1), .int 0, .int 0, .int 0])), (n0, .inr (6, [.ref b0, .ref b1, .ref a2, .ref a3, .int sy, .int sy, .ref b6, .ref b7, .ref b8, .ref b9, .ref b10, .int sy, .int 0])), (d0, .inr (10, [.ref d2, .int 0, .ref d1, .int 0, .int 32]))] := hD
  refine lv_aload_n hx hb dX11_takeText_42 rfl (lv_at hl 0 rfl) ?_
  refine va_get (D := (dC, dI)) (ci := 11) (v := .ref n0) (C := RX11) (T := TX11) (N := 11) hx hb hts inX11_takeText_X11 hown hK hP 0 rfl rfl 1 (by decide) (hts _ lkX11_takeText_f16) (fun _ h9 => h9) rfl dX11_takeText_43 ?_
  refine lv_iload_n hx hb dX11_takeText_46 rfl (lv_at hl 1 rfl) ?_
  have hPc := hP.sub (ws' := [(n0, .inr (6, [.ref b0, .ref b1, .ref a2, .ref a3, .int sy, .int sy, .ref b6, .ref b7, .ref b8, .ref b9, .ref b10, .int sy, .int 0]))]) [2] rfl
  have hDc := hD.sub (ws' := [(n0, .inr (6, [.ref b0, .ref b1, .ref a2, .ref a3, .int sy, .int sy, .ref b6, .ref b7, .ref b8, .ref b9, .ref b10, .int sy, .int 0]))]) [2] (by decide) rfl
  have hFc := va_free (wc := [(n0, .inr (6, [.ref b0, .ref b1, .ref a2, .ref a3, .int sy, .int sy, .ref b6, .ref b7, .ref b8, .ref b9, .ref b10, .int sy, .int 0]))]) hD hS hA [2] rfl
  refine va_callv (va_runV (As := [.int 0]) (rest := []) ⟨hx, hb, hml, hown, hts⟩ (c_Names_take l dC dI cB cC cI cJ cZ n0 b0 b1 a2 a3 b6 b7 b8 b9 b10 sy  H.size) (cwV 1 hts kX11_takeText_X6_take_132 rfl rfl rfl (by decide +kernel) ⟨Nat.le_of_ble_eq_true rfl, Nat.le_of_ble_eq_true rfl⟩) ⟨fun a U g mk q => by obtain ⟨q0, q1, qP, qK, qD⟩ := q; exact ⟨q0, q1, qP, va_K.moved (u := U) (U := U.calling g mk a) (Vm.Alike.refl U.vm) qK, qD⟩, va_recv hK hPc (ci := 6) (q0 := 0) rfl rfl, fun U hU hW => ⟨rfl, by rw [hU], by rw [hU]; exact hPc, va_K.moved hW.alike hK, hDc.weaken (fun _ _ _ _ => trivial)⟩⟩ rfl rfl hl.1 rfl (lv_room (Nat.le_of_ble_eq_true rfl)) dX11_takeText_47 ⟨Nat.le_of_ble_eq_true rfl, Nat.le_of_ble_eq_true rfl⟩) hS (fun q _ h => hFc q h) hFc (fun _u t H locs ht hvm hw hB hz1 hk1 hS => ?_)
  obtain ⟨hP1, hK1, hD1⟩ := hB
  rw [ht] at hP1
  obtain ⟨hP, hD⟩ := va_join (wr := [(x0, .inr (11, [.ref t0, .ref n0, .ref f0, .ref d0, .ref r0, .ref e0, .int 0, .int (-1), .int 0, .int 0, .int 0])), (e0, .inr (0, [.ref f0, .ref n0, .ref d0, .ref sc, .ref e4, .ref e5, .ref e6, .ref fr, .int 4000, .int (-1), .int 0, .int (-1), .int 0, .int 0, .int 0])), (d0, .inr (10, [.ref d2, .int 0, .ref d1, .int 0, .int 32]))]) (w1 := [(n0, .inr (6, [.ref b0, .ref b1, .ref a2, .ref a3, .int sy, .int sy, .ref b6, .ref b7, .ref b8, .ref b9, .ref b10, .int sy, .int 0]))]) hP hD [2] [0, 1, 3] rfl rfl (by decide) (by decide) hk1 hFc hP1 hD1
  have hP : va_P (dC, dI) vwCl [(x0, .inr (11, [.ref t0, .ref n0, .ref f0, .ref d0, .ref r0, .ref e0, .int 0, .int (-1), .int 0, .int 0, .int 0])), (e0, .inr (0, [.ref f0, .ref n0, .ref d0, .ref sc, .ref e4, .ref e5, .ref e6, .ref fr, .int 4000, .int (-1), .int 0, .int (-1), .int 0, .int 0, .int 0])), (d0, .inr (10, [.ref d2, .int 0, .ref d1, .int 0, .int 32])), (n0, .inr (6, [.ref b0, .ref b1, .ref a2, .ref a3, .int sy, .int sy, .ref b6, .ref b7, .ref b8, .ref b9, .ref b10, .int sy, .int 0]))] H := hP
  have hD : va_D A [(x0, .inr (11, [.ref t0, .ref n0, .ref f0, .ref d0, .ref r0, .ref e0, .int 0, .int (-1), .int 0, .int 0, .int 0])), (e0, .inr (0, [.ref f0, .ref n0, .ref d0, .ref sc, .ref e4, .ref e5, .ref e6, .ref fr, .int 4000, .int (-1), .int 0, .int (-1), .int 0, .int 0, .int 0])), (d0, .inr (10, [.ref d2, .int 0, .ref d1, .int 0, .int 32])), (n0, .inr (6, [.ref b0, .ref b1, .ref a2, .ref a3, .int sy, .int sy, .ref b6, .ref b7, .ref b8, .ref b9, .ref b10, .int sy, .int 0]))] := hD
  refine W.widen (k := 0) (n := 0) (Nat.le_of_ble_eq_true rfl) (Nat.le_of_ble_eq_true rfl) ?_
  refine W.widen (k := 0) (n := 0) (Nat.le_of_ble_eq_true rfl) (Nat.le_of_ble_eq_true rfl) ?_
  have hP9 := hP.sub (ws' := []) [] rfl
  have hD9 := hD.sub (ws' := []) [] (by decide) rfl
  exact W.vret hx hb hr (fun t ht hW => ⟨⟨(), rfl, trivial, by rw [ht]; exact hP9, va_K.moved hW.alike hK, hD9⟩, hS.F ht⟩) hS.2.2 dX11_takeText_50

set_option maxHeartbeats 4000000 in
set_option maxRecDepth 100000 in
/-- read() of an empty text on a new object -/
theorem c_read (l : Launch) (dC : Nat → ClassId) (dI : Nat → Nat → Nat) (cB cC cI cJ cZ : ClassId) (x0 t0 n0 f0 d0 r0 e0 b0 b1 a2 a3 b6 b7 b8 b9 b10 c1 c2 d1 d2 r1 sc e4 e5 e6 fr s1 s2 s3 s4 g1 g2 g3 g4 g5 g6 : Nat) (sy tp : Int32) (f2 : Nat → Int32) (hsy : sy = nI 9) (sz : Nat) : Met l yX11_read vX11_read { frames := 2, cells := 0, slots := 0, locals := 80 } (va_Pc [.ref x0] (fun U => U.heap.size = sz ∧ va_P (dC, dI) vwCl [(x0, .inr (11, [.ref t0, .ref n0, .ref f0, .ref d0, .ref r0, .ref e0, .int 0, .int (-1), .int 0, .int 0, .int 0])), (n0, .inr (6, [.ref b0, .ref b1, .ref a2, .ref a3, .int sy, .int 0, .ref b6, .ref b7, .ref b8, .ref b9, .ref b10, .int tp, .int 0])), (a2, .inl (cI, 2560, .inl f2)), (a3, .inl (cI, 2560, .inl (fun _ => 0))), (f0, .inr (1, [.ref c1, .ref c2, .int 4000, .int 0])), (d0, .inr (10, [.ref d1, .int 0, .ref d2, .int 0, .int 32])), (r0, .inr (7, [.ref f0, .ref n0, .ref r1, .int 0])), (e0, .inr (0, [.ref f0, .ref n0, .ref d0, .ref sc, .ref e4, .ref e5, .ref e6, .ref fr, .int 0, .int (-1), .int 0, .int (-1), .int 0, .int 0, .int 0])), (sc, .inr (9, [.ref n0, .ref s1, .ref s2, .ref s3, .ref s4, .int 0])), (fr, .inr (2, [.ref g1, .ref g2, .ref g3, .ref g4, .ref g5, .ref g6, .int 0]))] U.heap ∧ va_K (dC, dI) vwCl (TY cB cC cI cJ cZ) U ∧ va_D (fun _ => True) [(x0, .inr (11, [.ref t0, .ref n0, .ref f0, .ref d0, .ref r0, .ref e0, .int 0, .int (-1), .int 0, .int 0, .int 0])), (n0, .inr (6, [.ref b0, .ref b1, .ref a2, .ref a3, .int sy, .int 0, .ref b6, .ref b7, .ref b8, .ref b9, .ref b10, .int tp, .int 0])), (a2, .inl (cI, 2560, .inl f2)), (a3, .inl (cI, 2560, .inl (fun _ => 0))), (f0, .inr (1, [.ref c1, .ref c2, .int 4000, .int 0])), (d0, .inr (10, [.ref d1, .int 0, .ref d2, .int 0, .int 32])), (r0, .inr (7, [.ref f0, .ref n0, .ref r1, .int 0])), (e0, .inr (0, [.ref f0, .ref n0, .ref d0, .ref sc, .ref e4, .ref e5, .ref e6, .ref fr, .int 0, .int (-1), .int 0, .int (-1), .int 0, .int 0, .int 0])), (sc, .inr (9, [.ref n0, .ref s1, .ref s2, .ref s3, .ref s4, .int 0])), (fr, .inr (2, [.ref g1, .ref g2, .ref g3, .ref g4, .ref g5, .ref g6, .int 0]))] ∧ NW U)) (va_Qi (fun (r : Int32) (_ : Unit) => r = 0) (fun (_ : Unit) (t : State) => va_P (dC, dI) vwCl [] t.heap ∧ va_K (dC, dI) vwCl (TY cB cC cI cJ cZ) t ∧ va_D (va_A [(x0, .inr (11, [.ref t0, .ref n0, .ref f0, .ref d0, .ref r0, .ref e0, .int 0, .int (-1), .int 0, .int 0, .int 0])), (n0, .inr (6, [.ref b0, .ref b1, .ref a2, .ref a3, .int sy, .int 0, .ref b6, .ref b7, .ref b8, .ref b9, .ref b10, .int tp, .int 0])), (a2, .inl (cI, 2560, .inl f2)), (a3, .inl (cI, 2560, .inl (fun _ => 0))), (f0, .inr (1, [.ref c1, .ref c2, .int 4000, .int 0])), (d0, .inr (10, [.ref d1, .int 0, .ref d2, .int 0, .int 32])), (r0, .inr (7, [.ref f0, .ref n0, .ref r1, .int 0])), (e0, .inr (0, [.ref f0, .ref n0, .ref d0, .ref sc, .ref e4, .ref e5, .ref e6, .ref fr, .int 0, .int (-1), .int 0, .int (-1), .int 0, .int 0, .int 0])), (sc, .inr (9, [.ref n0, .ref s1, .ref s2, .ref s3, .ref s4, .int 0])), (fr, .inr (2, [.ref g1, .ref g2, .ref g3, .ref g4, .ref g5, .ref g6, .int 0]))] sz) []) (va_A [(x0, .inr (11, [.ref t0, .ref n0, .ref f0, .ref d0, .ref r0, .ref e0, .int 0, .int (-1), .int 0, .int 0, .int 0])), (n0, .inr (6, [.ref b0, .ref b1, .ref a2, .ref a3, .int sy, .int 0, .ref b6, .ref b7, .ref b8, .ref b9, .ref b10, .int tp, .int 0])), (a2, .inl (cI, 2560, .inl f2)), (a3, .inl (cI, 2560, .inl (fun _ => 0))), (f0, .inr (1, [.ref c1, .ref c2, .int 4000, .int 0])), (d0, .inr (10, [.ref d1, .int 0, .ref d2, .int 0, .int 32])), (r0, .inr (7, [.ref f0, .ref n0, .ref r1, .int 0])), (e0, .inr (0, [.ref f0, .ref n0, .ref d0, .ref sc, .ref e4, .ref e5, .ref e6, .ref fr, .int 0, .int (-1), .int 0, .int (-1), .int 0, .int 0, .int 0])), (sc, .inr (9, [.ref n0, .ref s1, .ref s2, .ref s3, .ref s4, .int 0])), (fr, .inr (2, [.ref g1, .ref g2, .ref g3, .ref g4, .ref g5, .ref g6, .int 0]))] sz)) 0 0 (va_A [(x0, .inr (11, [.ref t0, .ref n0, .ref f0, .ref d0, .ref r0, .ref e0, .int 0, .int (-1), .int 0, .int 0, .int 0])), (n0, .inr (6, [.ref b0, .ref b1, .ref a2, .ref a3, .int sy, .int 0, .ref b6, .ref b7, .ref b8, .ref b9, .ref b10, .int tp, .int 0])), (a2, .inl (cI, 2560, .inl f2)), (a3, .inl (cI, 2560, .inl (fun _ => 0))), (f0, .inr (1, [.ref c1, .ref c2, .int 4000, .int 0])), (d0, .inr (10, [.ref d1, .int 0, .ref d2, .int 0, .int 32])), (r0, .inr (7, [.ref f0, .ref n0, .ref r1, .int 0])), (e0, .inr (0, [.ref f0, .ref n0, .ref d0, .ref sc, .ref e4, .ref e5, .ref e6, .ref fr, .int 0, .int (-1), .int 0, .int (-1), .int 0, .int 0, .int 0])), (sc, .inr (9, [.ref n0, .ref s1, .ref s2, .ref s3, .ref s4, .int 0])), (fr, .inr (2, [.ref g1, .ref g2, .ref g3, .ref g4, .ref g5, .ref g6, .int 0]))] sz) := by
  refine Met.ofW (cc := cX11_read) (maxL := 3) (ret := (some .int)) (by decide) rfl ?_
  intro p e s m args below meth c s₁ B hml hv
  obtain ⟨rfl, hsz, hP, hK, hD0, hNW⟩ := hv
  have hx := B.exec
  have hb := B.bytes
  have hr := B.returns
  have hts := atoms_spec (ws := vX11_read) B.pre
  have hown : s.vm.findClass RX11 = some m.cls := findClass_of_methodNamed B.named
  have hlocks := B.notSynchronized
  subst hsz
  have hD := hD0.self (sz := s.heap.size)
  generalize hAe : va_A [(x0, .inr (11, [.ref t0, .ref n0, .ref f0, .ref d0, .ref r0, .ref e0, .int 0, .int (-1), .int 0, .int 0, .int 0])), (n0, .inr (6, [.ref b0, .ref b1, .ref a2, .ref a3, .int sy, .int 0, .ref b6, .ref b7, .ref b8, .ref b9, .ref b10, .int tp, .int 0])), (a2, .inl (cI, 2560, .inl f2)), (a3, .inl (cI, 2560, .inl (fun _ => 0))), (f0, .inr (1, [.ref c1, .ref c2, .int 4000, .int 0])), (d0, .inr (10, [.ref d1, .int 0, .ref d2, .int 0, .int 32])), (r0, .inr (7, [.ref f0, .ref n0, .ref r1, .int 0])), (e0, .inr (0, [.ref f0, .ref n0, .ref d0, .ref sc, .ref e4, .ref e5, .ref e6, .ref fr, .int 0, .int (-1), .int 0, .int (-1), .int 0, .int 0, .int 0])), (sc, .inr (9, [.ref n0, .ref s1, .ref s2, .ref s3, .ref s4, .int 0])), (fr, .inr (2, [.ref g1, .ref g2, .ref g3, .ref g4, .ref g5, .ref g6, .int 0]))] s.heap.size = A at hD ⊢
  have hA : ∀ q : Nat, s.heap.size ≤ q → A q := fun q h => by rw [← hAe]; exact Or.inr h
  have hS : va_S A s.heap s.heap [] := va_S.rf
  have hP : va_P (dC, dI) vwCl [(x0, .inr (11, [.ref t0, .ref n0, .ref f0, .ref d0, .ref r0, .ref e0, .int 0, .int (-1), .int 0, .int 0, .int 0])), (n0, .inr (6, [.ref b0, .ref b1, .ref a2, .ref a3, .int sy, .int 0, .ref b6, .ref b7, .ref b8, .ref b9, .ref b10, .int tp, .int 0])), (a2, .inl (cI, 2560, .inl f2)), (a3, .inl (cI, 2560, .inl (fun _ => 0))), (f0, .inr (1, [.ref c1, .ref c2, .int 4000, .int 0])), (d0, .inr (10, [.ref d1, .int 0, .ref d2, .int 0, .int 32])), (r0, .inr (7, [.ref f0, .ref n0, .ref r1, .int 0])), (e0, .inr (0, [.ref f0, .ref n0, .ref d0, .ref sc, .ref e4, .ref e5, .ref e6, .ref fr, .int 0, .int (-1), .int 0, .int (-1), .int 0, .int 0, .int 0])), (sc, .inr (9, [.ref n0, .ref s1, .ref s2, .ref s3, .ref s4, .int 0])), (fr, .inr (2, [.ref g1, .ref g2, .ref g3, .ref g4, .ref g5, .ref g6, .int 0]))] s.heap := hP
  have hl := lv_entry ([.ref x0]) (n := 3) (Nat.le_of_ble_eq_true rfl)
  rw [lg_entry_eq]
  generalize (lg_sl ([.ref x0]) ++ List.replicate (3 - (lg_sl ([.ref x0])).length) Slot.unset).toArray = ls at hl ⊢
  have hl : lv_has ls 3 [(0, .ref x0)] := hl
  refine lv_aload_n hx hb dX11_read_0 rfl (lv_at hl 0 rfl) ?_
  refine va_get (D := (dC, dI)) (ci := 11) (v := .ref f0) (C := RX11) (T := TX11) (N := 11) hx hb hts inX11_read_X11 hown hK hP 0 rfl rfl 2 (by decide) (hts _ lkX11_read_f23) (fun _ h9 => h9) rfl dX11_read_1 ?_
  refine va_getN (D := (dC, dI)) (ci := 1) (v := .int 0) (C := RX1) (T := TX1) (N := 4) hx hb hts inX11_read_X1 hown hK hP 4 rfl rfl 3 (by decide) (va_Nw.use rfl hNW.2.2.2.2.2.2.2.2.1) (fun _ h9 => h9) rfl dX11_read_4 ?_
  refine lv_istore_n (lv' := [(1, .int 0), (0, .ref x0)]) hx hb dX11_read_7 rfl hl (by decide) rfl (fun ls hl => ?_)
  refine lv_aload_n hx hb dX11_read_8 rfl (lv_at hl 1 rfl) ?_
  refine va_get (D := (dC, dI)) (ci := 11) (v := .ref n0) (C := RX11) (T := TX11) (N := 11) hx hb hts inX11_read_X11 hown hK hP 0 rfl rfl 1 (by decide) (hts _ lkX11_read_f16) (fun _ h9 => h9) rfl dX11_read_9 ?_
  have hPc := hP.sub (ws' := [(n0, .inr (6, [.ref b0, .ref b1, .ref a2, .ref a3, .int sy, .int 0, .ref b6, .ref b7, .ref b8, .ref b9, .ref b10, .int tp, .int 0])), (a2, .inl (cI, 2560, .inl f2)), (a3, .inl (cI, 2560, .inl (fun _ => 0)))]) [1, 2, 3] rfl
  have hDc := hD.sub (ws' := [(n0, .inr (6, [.ref b0, .ref b1, .ref a2, .ref a3, .int sy, .int 0, .ref b6, .ref b7, .ref b8, .ref b9, .ref b10, .int tp, .int 0])), (a2, .inl (cI, 2560, .inl f2)), (a3, .inl (cI, 2560, .inl (fun _ => 0)))]) [1, 2, 3] (by decide) rfl
  have hFc := va_free (wc := [(n0, .inr (6, [.ref b0, .ref b1, .ref a2, .ref a3, .int sy, .int 0, .ref b6, .ref b7, .ref b8, .ref b9, .ref b10, .int tp, .int 0])), (a2, .inl (cI, 2560, .inl f2)), (a3, .inl (cI, 2560, .inl (fun _ => 0)))]) hD hS hA [1, 2, 3] rfl
  refine va_callv (va_runV (As := []) (rest := []) ⟨hx, hb, hml, hown, hts⟩ (c_Names_start l dC dI cB cC cI cJ cZ n0 b0 b1 a2 a3 b6 b7 b8 b9 b10 sy tp f2 hsy s.heap.size) (cwV 0 hts kX11_read_X6_startText_75 rfl rfl rfl (by decide +kernel) ⟨Nat.le_of_ble_eq_true rfl, Nat.le_of_ble_eq_true rfl⟩) ⟨fun a U g mk q => by obtain ⟨q0, q1, qP, qK, qD⟩ := q; exact ⟨q0, q1, qP, va_K.moved (u := U) (U := U.calling g mk a) (Vm.Alike.refl U.vm) qK, qD⟩, va_recv hK hPc (ci := 6) (q0 := 0) rfl rfl, fun U hU hW => ⟨rfl, by rw [hU], by rw [hU]; exact hPc, va_K.moved hW.alike hK, hDc.weaken (fun _ _ _ _ => trivial)⟩⟩ rfl rfl hl.1 rfl (lv_room (Nat.le_of_ble_eq_true rfl)) dX11_read_12 ⟨Nat.le_of_ble_eq_true rfl, Nat.le_of_ble_eq_true rfl⟩) hS (fun q _ h => hFc q h) hFc (fun _u t H locs ht hvm hw hB hz1 hk1 hS => ?_)
  obtain ⟨g_1, hP1, hK1, hD1⟩ := hB
  rw [ht] at hP1
  obtain ⟨hP, hD⟩ := va_join (wr := [(x0, .inr (11, [.ref t0, .ref n0, .ref f0, .ref d0, .ref r0, .ref e0, .int 0, .int (-1), .int 0, .int 0, .int 0])), (f0, .inr (1, [.ref c1, .ref c2, .int 4000, .int 0])), (d0, .inr (10, [.ref d1, .int 0, .ref d2, .int 0, .int 32])), (r0, .inr (7, [.ref f0, .ref n0, .ref r1, .int 0])), (e0, .inr (0, [.ref f0, .ref n0, .ref d0, .ref sc, .ref e4, .ref e5, .ref e6, .ref fr, .int 0, .int (-1), .int 0, .int (-1), .int 0, .int 0, .int 0])), (sc, .inr (9, [.ref n0, .ref s1, .ref s2, .ref s3, .ref s4, .int 0])), (fr, .inr (2, [.ref g1, .ref g2, .ref g3, .ref g4, .ref g5, .ref g6, .int 0]))]) (w1 := [(n0, .inr (6, [.ref b0, .ref b1, .ref a2, .ref a3, .int sy, .int sy, .ref b6, .ref b7, .ref b8, .ref b9, .ref b10, .int sy, .int 0])), (a2, .inl (cI, 2560, .inl f2)), (a3, .inl (cI, 2560, .inl g_1))]) hP hD [1, 2, 3] [0, 4, 5, 6, 7, 8, 9] rfl rfl (by decide) (by decide) hk1 hFc hP1 hD1
  have hP : va_P (dC, dI) vwCl [(x0, .inr (11, [.ref t0, .ref n0, .ref f0, .ref d0, .ref r0, .ref e0, .int 0, .int (-1), .int 0, .int 0, .int 0])), (f0, .inr (1, [.ref c1, .ref c2, .int 4000, .int 0])), (d0, .inr (10, [.ref d1, .int 0, .ref d2, .int 0, .int 32])), (r0, .inr (7, [.ref f0, .ref n0, .ref r1, .int 0])), (e0, .inr (0, [.ref f0, .ref n0, .ref d0, .ref sc, .ref e4, .ref e5, .ref e6, .ref fr, .int 0, .int (-1), .int 0, .int (-1), .int 0, .int 0, .int 0])), (sc, .inr (9, [.ref n0, .ref s1, .ref s2, .ref s3, .ref s4, .int 0])), (fr, .inr (2, [.ref g1, .ref g2, .ref g3, .ref g4, .ref g5, .ref g6, .int 0])), (n0, .inr (6, [.ref b0, .ref b1, .ref a2, .ref a3, .int sy, .int sy, .ref b6, .ref b7, .ref b8, .ref b9, .ref b10, .int sy, .int 0])), (a2, .inl (cI, 2560, .inl f2)), (a3, .inl (cI, 2560, .inl g_1))] H := hP
  have hD : va_D A [(x0, .inr (11, [.ref t0, .ref n0, .ref f0, .ref d0, .ref r0, .ref e0, .int 0, .int (-1), .int 0, .int 0, .int 0])), (f0, .inr (1, [.ref c1, .ref c2, .int 4000, .int 0])), (d0, .inr (10, [.ref d1, .int 0, .ref d2, .int 0, .int 32])), (r0, .inr (7, [.ref f0, .ref n0, .ref r1, .int 0])), (e0, .inr (0, [.ref f0, .ref n0, .ref d0, .ref sc, .ref e4, .ref e5, .ref e6, .ref fr, .int 0, .int (-1), .int 0, .int (-1), .int 0, .int 0, .int 0])), (sc, .inr (9, [.ref n0, .ref s1, .ref s2, .ref s3, .ref s4, .int 0])), (fr, .inr (2, [.ref g1, .ref g2, .ref g3, .ref g4, .ref g5, .ref g6, .int 0])), (n0, .inr (6, [.ref b0, .ref b1, .ref a2, .ref a3, .int sy, .int sy, .ref b6, .ref b7, .ref b8, .ref b9, .ref b10, .int sy, .int 0])), (a2, .inl (cI, 2560, .inl f2)), (a3, .inl (cI, 2560, .inl g_1))] := hD
  refine W.widen (k := 0) (n := 0) (Nat.le_of_ble_eq_true rfl) (Nat.le_of_ble_eq_true rfl) ?_
  refine lv_aload_n hx hb dX11_read_15 rfl (lv_at hl 1 rfl) ?_
  refine va_get (D := (dC, dI)) (ci := 11) (v := .ref f0) (C := RX11) (T := TX11) (N := 11) hx hb hts inX11_read_X11 hown hK hP 0 rfl rfl 2 (by decide) (hts _ lkX11_read_f23) (fun _ h9 => h9) rfl dX11_read_16 ?_
  have hPc := hP.sub (ws' := [(f0, .inr (1, [.ref c1, .ref c2, .int 4000, .int 0]))]) [1] rfl
  have hDc := hD.sub (ws' := [(f0, .inr (1, [.ref c1, .ref c2, .int 4000, .int 0]))]) [1] (by decide) rfl
  have hFc := va_free (wc := [(f0, .inr (1, [.ref c1, .ref c2, .int 4000, .int 0]))]) hD hS hA [1] rfl
  refine va_callv (va_runV (As := []) (rest := []) ⟨hx, hb, hml, hown, hts⟩ (c_Forms_start l dC dI cB cC cI cJ cZ f0 c1 c2  H.size) (cwV 0 hts kX11_read_X1_startText_78 rfl rfl rfl (by decide +kernel) ⟨Nat.le_of_ble_eq_true rfl, Nat.le_of_ble_eq_true rfl⟩) ⟨fun a U g mk q => by obtain ⟨q0, q1, qP, qK, qD⟩ := q; exact ⟨q0, q1, qP, va_K.moved (u := U) (U := U.calling g mk a) (Vm.Alike.refl U.vm) qK, qD⟩, va_recv hK hPc (ci := 1) (q0 := 0) rfl rfl, fun U hU hW => ⟨rfl, by rw [hU], by rw [hU]; exact hPc, va_K.moved hW.alike hK, hDc.weaken (fun _ _ _ _ => trivial)⟩⟩ rfl rfl hl.1 rfl (lv_room (Nat.le_of_ble_eq_true rfl)) dX11_read_19 ⟨Nat.le_of_ble_eq_true rfl, Nat.le_of_ble_eq_true rfl⟩) hS (fun q _ h => hFc q h) hFc (fun _u t H locs ht hvm hw hB hz1 hk1 hS => ?_)
  obtain ⟨hP1, hK1, hD1⟩ := hB
  rw [ht] at hP1
  obtain ⟨hP, hD⟩ := va_join (wr := [(x0, .inr (11, [.ref t0, .ref n0, .ref f0, .ref d0, .ref r0, .ref e0, .int 0, .int (-1), .int 0, .int 0, .int 0])), (d0, .inr (10, [.ref d1, .int 0, .ref d2, .int 0, .int 32])), (r0, .inr (7, [.ref f0, .ref n0, .ref r1, .int 0])), (e0, .inr (0, [.ref f0, .ref n0, .ref d0, .ref sc, .ref e4, .ref e5, .ref e6, .ref fr, .int 0, .int (-1), .int 0, .int (-1), .int 0, .int 0, .int 0])), (sc, .inr (9, [.ref n0, .ref s1, .ref s2, .ref s3, .ref s4, .int 0])), (fr, .inr (2, [.ref g1, .ref g2, .ref g3, .ref g4, .ref g5, .ref g6, .int 0])), (n0, .inr (6, [.ref b0, .ref b1, .ref a2, .ref a3, .int sy, .int sy, .ref b6, .ref b7, .ref b8, .ref b9, .ref b10, .int sy, .int 0])), (a2, .inl (cI, 2560, .inl f2)), (a3, .inl (cI, 2560, .inl g_1))]) (w1 := [(f0, .inr (1, [.ref c1, .ref c2, .int 4000, .int 0]))]) hP hD [1] [0, 2, 3, 4, 5, 6, 7, 8, 9] rfl rfl (by decide) (by decide) hk1 hFc hP1 hD1
  have hP : va_P (dC, dI) vwCl [(x0, .inr (11, [.ref t0, .ref n0, .ref f0, .ref d0, .ref r0, .ref e0, .int 0, .int (-1), .int 0, .int 0, .int 0])), (d0, .inr (10, [.ref d1, .int 0, .ref d2, .int 0, .int 32])), (r0, .inr (7, [.ref f0, .ref n0, .ref r1, .int 0])), (e0, .inr (0, [.ref f0, .ref n0, .ref d0, .ref sc, .ref e4, .ref e5, .ref e6, .ref fr, .int 0, .int (-1), .int 0, .int (-1), .int 0, .int 0, .int 0])), (sc, .inr (9, [.ref n0, .ref s1, .ref s2, .ref s3, .ref s4, .int 0])), (fr, .inr (2, [.ref g1, .ref g2, .ref g3, .ref g4, .ref g5, .ref g6, .int 0])), (n0, .inr (6, [.ref b0, .ref b1, .ref a2, .ref a3, .int sy, .int sy, .ref b6, .ref b7, .ref b8, .ref b9, .ref b10, .int sy, .int 0])), (a2, .inl (cI, 2560, .inl f2)), (a3, .inl (cI, 2560, .inl g_1)), (f0, .inr (1, [.ref c1, .ref c2, .int 4000, .int 0]))] H := hP
  have hD : va_D A [(x0, .inr (11, [.ref t0, .ref n0, .ref f0, .ref d0, .ref r0, .ref e0, .int 0, .int (-1), .int 0, .int 0, .int 0])), (d0, .inr (10, [.ref d1, .int 0, .ref d2, .int 0, .int 32])), (r0, .inr (7, [.ref f0, .ref n0, .ref r1, .int 0])), (e0, .inr (0, [.ref f0, .ref n0, .ref d0, .ref sc, .ref e4, .ref e5, .ref e6, .ref fr, .int 0, .int (-1), .int 0, .int (-1), .int 0, .int 0, .int 0])), (sc, .inr (9, [.ref n0, .ref s1, .ref s2, .ref s3, .ref s4, .int 0])), (fr, .inr (2, [.ref g1, .ref g2, .ref g3, .ref g4, .ref g5, .ref g6, .int 0])), (n0, .inr (6, [.ref b0, .ref b1, .ref a2, .ref a3, .int sy, .int sy, .ref b6, .ref b7, .ref b8, .ref b9, .ref b10, .int sy, .int 0])), (a2, .inl (cI, 2560, .inl f2)), (a3, .inl (cI, 2560, .inl g_1)), (f0, .inr (1, [.ref c1, .ref c2, .int 4000, .int 0]))] := hD
  refine W.widen (k := 0) (n := 0) (Nat.le_of_ble_eq_true rfl) (Nat.le_of_ble_eq_true rfl) ?_
  refine lv_aload_n hx hb dX11_read_22 rfl (lv_at hl 1 rfl) ?_
  refine va_get (D := (dC, dI)) (ci := 11) (v := .ref d0) (C := RX11) (T := TX11) (N := 11) hx hb hts inX11_read_X11 hown hK hP 0 rfl rfl 3 (by decide) (hts _ lkX11_read_f30) (fun _ h9 => h9) rfl dX11_read_23 ?_
  have hPc := hP.sub (ws' := [(d0, .inr (10, [.ref d1, .int 0, .ref d2, .int 0, .int 32]))]) [1] rfl
  have hDc := hD.sub (ws' := [(d0, .inr (10, [.ref d1, .int 0, .ref d2, .int 0, .int 32]))]) [1] (by decide) rfl
  have hFc := va_free (wc := [(d0, .inr (10, [.ref d1, .int 0, .ref d2, .int 0, .int 32]))]) hD hS hA [1] rfl
  refine va_callv (va_runV (As := []) (rest := []) ⟨hx, hb, hml, hown, hts⟩ (c_Told_start l dC dI cB cC cI cJ cZ d0 d1 d2  H.size) (cwV 0 hts kX11_read_X10_startText_79 rfl rfl rfl (by decide +kernel) ⟨Nat.le_of_ble_eq_true rfl, Nat.le_of_ble_eq_true rfl⟩) ⟨fun a U g mk q => by obtain ⟨q0, q1, qP, qK, qD⟩ := q; exact ⟨q0, q1, qP, va_K.moved (u := U) (U := U.calling g mk a) (Vm.Alike.refl U.vm) qK, qD⟩, va_recv hK hPc (ci := 10) (q0 := 0) rfl rfl, fun U hU hW => ⟨rfl, by rw [hU], by rw [hU]; exact hPc, va_K.moved hW.alike hK, hDc.weaken (fun _ _ _ _ => trivial)⟩⟩ rfl rfl hl.1 rfl (lv_room (Nat.le_of_ble_eq_true rfl)) dX11_read_26 ⟨Nat.le_of_ble_eq_true rfl, Nat.le_of_ble_eq_true rfl⟩) hS (fun q _ h => hFc q h) hFc (fun _u t H locs ht hvm hw hB hz1 hk1 hS => ?_)
  obtain ⟨hP1, hK1, hD1⟩ := hB
  rw [ht] at hP1
  obtain ⟨hP, hD⟩ := va_join (wr := [(x0, .inr (11, [.ref t0, .ref n0, .ref f0, .ref d0, .ref r0, .ref e0, .int 0, .int (-1), .int 0, .int 0, .int 0])), (r0, .inr (7, [.ref f0, .ref n0, .ref r1, .int 0])), (e0, .inr (0, [.ref f0, .ref n0, .ref d0, .ref sc, .ref e4, .ref e5, .ref e6, .ref fr, .int 0, .int (-1), .int 0, .int (-1), .int 0, .int 0, .int 0])), (sc, .inr (9, [.ref n0, .ref s1, .ref s2, .ref s3, .ref s4, .int 0])), (fr, .inr (2, [.ref g1, .ref g2, .ref g3, .ref g4, .ref g5, .ref g6, .int 0])), (n0, .inr (6, [.ref b0, .ref b1, .ref a2, .ref a3, .int sy, .int sy, .ref b6, .ref b7, .ref b8, .ref b9, .ref b10, .int sy, .int 0])), (a2, .inl (cI, 2560, .inl f2)), (a3, .inl (cI, 2560, .inl g_1)), (f0, .inr (1, [.ref c1, .ref c2, .int 4000, .int 0]))]) (w1 := [(d0, .inr (10, [.ref d1, .int 0, .ref d2, .int 0, .int 32]))]) hP hD [1] [0, 2, 3, 4, 5, 6, 7, 8, 9] rfl rfl (by decide) (by decide) hk1 hFc hP1 hD1
  have hP : va_P (dC, dI) vwCl [(x0, .inr (11, [.ref t0, .ref n0, .ref f0, .ref d0, .ref r0, .ref e0, .int 0, .int (-1), .int 0, .int 0, .int 0])), (r0, .inr (7, [.ref f0, .ref n0, .ref r1, .int 0])), (e0, .inr (0, [.ref f0, .ref n0, .ref d0, .ref sc, .ref e4, .ref e5, .ref e6, .ref fr, .int 0, .int (-1), .int 0, .int (-1), .int 0, .int 0, .int 0])), (sc, .inr (9, [.ref n0, .ref s1, .ref s2, .ref s3, .ref s4, .int 0])), (fr, .inr (2, [.ref g1, .ref g2, .ref g3, .ref g4, .ref g5, .ref g6, .int 0])), (n0, .inr (6, [.ref b0, .ref b1, .ref a2, .ref a3, .int sy, .int sy, .ref b6, .ref b7, .ref b8, .ref b9, .ref b10, .int sy, .int 0])), (a2, .inl (cI, 2560, .inl f2)), (a3, .inl (cI, 2560, .inl g_1)), (f0, .inr (1, [.ref c1, .ref c2, .int 4000, .int 0])), (d0, .inr (10, [.ref d1, .int 0, .ref d2, .int 0, .int 32]))] H := hP
  have hD : va_D A [(x0, .inr (11, [.ref t0, .ref n0, .ref f0, .ref d0, .ref r0, .ref e0, .int 0, .int (-1), .int 0, .int 0, .int 0])), (r0, .inr (7, [.ref f0, .ref n0, .ref r1, .int 0])), (e0, .inr (0, [.ref f0, .ref n0, .ref d0, .ref sc, .ref e4, .ref e5, .ref e6, .ref fr, .int 0, .int (-1), .int 0, .int (-1), .int 0, .int 0, .int 0])), (sc, .inr (9, [.ref n0, .ref s1, .ref s2, .ref s3, .ref s4, .int 0])), (fr, .inr (2, [.ref g1, .ref g2, .ref g3, .ref g4, .ref g5, .ref g6, .int 0])), (n0, .inr (6, [.ref b0, .ref b1, .ref a2, .ref a3, .int sy, .int sy, .ref b6, .ref b7, .ref b8, .ref b9, .ref b10, .int sy, .int 0])), (a2, .inl (cI, 2560, .inl f2)), (a3, .inl (cI, 2560, .inl g_1)), (f0, .inr (1, [.ref c1, .ref c2, .int 4000, .int 0])), (d0, .inr (10, [.ref d1, .int 0, .ref d2, .int 0, .int 32]))] := hD
  refine W.widen (k := 0) (n := 0) (Nat.le_of_ble_eq_true rfl) (Nat.le_of_ble_eq_true rfl) ?_
  refine lv_aload_n hx hb dX11_read_29 rfl (lv_at hl 1 rfl) ?_
  refine lv_iconst (v := (-1)) hx hb dX11_read_30 (by decide) ?_
  refine va_put (D := (dC, dI)) (ci := 11) (v := .int (-1)) (ty := .int) (C := RX11) (T := TX11) (N := 11) hx hb hts inX11_read_X11 tyX11 tyX11_ok nmX11 hown hK hP hD hS 0 rfl rfl 7 (by decide) (hts _ lkX11_read_f56) (fun _ h9 => h9) rfl (by decide +kernel) rfl rfl (Nat.le_of_ble_eq_true rfl) dX11_read_31 (fun H locs hP hD hS => ?_)
  have hP : va_P (dC, dI) vwCl [(x0, .inr (11, [.ref t0, .ref n0, .ref f0, .ref d0, .ref r0, .ref e0, .int 0, .int (-1), .int 0, .int 0, .int 0])), (r0, .inr (7, [.ref f0, .ref n0, .ref r1, .int 0])), (e0, .inr (0, [.ref f0, .ref n0, .ref d0, .ref sc, .ref e4, .ref e5, .ref e6, .ref fr, .int 0, .int (-1), .int 0, .int (-1), .int 0, .int 0, .int 0])), (sc, .inr (9, [.ref n0, .ref s1, .ref s2, .ref s3, .ref s4, .int 0])), (fr, .inr (2, [.ref g1, .ref g2, .ref g3, .ref g4, .ref g5, .ref g6, .int 0])), (n0, .inr (6, [.ref b0, .ref b1, .ref a2, .ref a3, .int sy, .int sy, .ref b6, .ref b7, .ref b8, .ref b9, .ref b10, .int sy, .int 0])), (a2, .inl (cI, 2560, .inl f2)), (a3, .inl (cI, 2560, .inl g_1)), (f0, .inr (1, [.ref c1, .ref c2, .int 4000, .int 0])), (d0, .inr (10, [.ref d1, .int 0, .ref d2, .int 0, .int 32]))] H := hP
  have hD : va_D A [(x0, .inr (11, [.ref t0, .ref n0, .ref f0, .ref d0, .ref r0, .ref e0, .int 0, .int (-1), .int 0, .int 0, .int 0])), (r0, .inr (7, [.ref f0, .ref n0, .ref r1, .int 0])), (e0, .inr (0, [.ref f0, .ref n0, .ref d0, .ref sc, .ref e4, .ref e5, .ref e6, .ref fr, .int 0, .int (-1), .int 0, .int (-1), .int 0, .int 0, .int 0])), (sc, .inr (9, [.ref n0, .ref s1, .ref s2, .ref s3, .ref s4, .int 0])), (fr, .inr (2, [.ref g1, .ref g2, .ref g3, .ref g4, .ref g5, .ref g6, .int 0])), (n0, .inr (6, [.ref b0, .ref b1, .ref a2, .ref a3, .int sy, .int sy, .ref b6, .ref b7, .ref b8, .ref b9, .ref b10, .int sy, .int 0])), (a2, .inl (cI, 2560, .inl f2)), (a3, .inl (cI, 2560, .inl g_1)), (f0, .inr (1, [.ref c1, .ref c2, .int 4000, .int 0])), (d0, .inr (10, [.ref d1, .int 0, .ref d2, .int 0, .int 32]))] := hD
  refine lv_aload_n hx hb dX11_read_34 rfl (lv_at hl 1 rfl) ?_
  refine va_get (D := (dC, dI)) (ci := 11) (v := .ref r0) (C := RX11) (T := TX11) (N := 11) hx hb hts inX11_read_X11 hown hK hP 0 rfl rfl 4 (by decide) (hts _ lkX11_read_f39) (fun _ h9 => h9) rfl dX11_read_35 ?_
  refine lv_aload_n hx hb dX11_read_38 rfl (lv_at hl 1 rfl) ?_
  refine va_get (D := (dC, dI)) (ci := 11) (v := .ref t0) (C := RX11) (T := TX11) (N := 11) hx hb hts inX11_read_X11 hown hK hP 0 rfl rfl 0 (by decide) (hts _ lkX11_read_f9) (fun _ h9 => h9) rfl dX11_read_39 ?_
  refine lv_aload_n hx hb dX11_read_42 rfl (lv_at hl 1 rfl) ?_
  refine va_get (D := (dC, dI)) (ci := 11) (v := .int 0) (C := RX11) (T := TX11) (N := 11) hx hb hts inX11_read_X11 hown hK hP 0 rfl rfl 6 (by decide) (hts _ lkX11_read_f52) (fun _ h9 => h9) rfl dX11_read_43 ?_
  have hPc := hP.sub (ws' := [(r0, .inr (7, [.ref f0, .ref n0, .ref r1, .int 0]))]) [1] rfl
  have hDc := hD.sub (ws' := [(r0, .inr (7, [.ref f0, .ref n0, .ref r1, .int 0]))]) [1] (by decide) rfl
  have hFc := va_free (wc := [(r0, .inr (7, [.ref f0, .ref n0, .ref r1, .int 0]))]) hD hS hA [1] rfl
  refine va_calli (va_runV (As := [.ref t0, .int 0]) (rest := []) ⟨hx, hb, hml, hown, hts⟩ (c_addForms l dC dI cB cC cI cJ cZ r0 f0 n0 r1 t0  H.size) (cwV 2 hts kX11_read_X7_addForms_80 rfl rfl rfl (by decide +kernel) ⟨Nat.le_of_ble_eq_true rfl, Nat.le_of_ble_eq_true rfl⟩) ⟨fun a U g mk q => by obtain ⟨q0, q1, qP, qK, qD⟩ := q; exact ⟨q0, q1, qP, va_K.moved (u := U) (U := U.calling g mk a) (Vm.Alike.refl U.vm) qK, qD⟩, va_recv hK hPc (ci := 7) (q0 := 0) rfl rfl, fun U hU hW => ⟨rfl, by rw [hU], by rw [hU]; exact hPc, va_K.moved hW.alike hK, hDc.weaken (fun _ _ _ _ => trivial)⟩⟩ rfl rfl hl.1 rfl (lv_room (Nat.le_of_ble_eq_true rfl)) dX11_read_46 ⟨Nat.le_of_ble_eq_true rfl, Nat.le_of_ble_eq_true rfl⟩) hS (fun q _ h => hFc q h) hFc (fun r_2 _u t H locs ht hvm hw hB hz1 hk1 hS => ?_)
  obtain ⟨hP1, hK1, hD1⟩ := hB
  rw [ht] at hP1
  obtain ⟨hP, hD⟩ := va_join (wr := [(x0, .inr (11, [.ref t0, .ref n0, .ref f0, .ref d0, .ref r0, .ref e0, .int 0, .int (-1), .int 0, .int 0, .int 0])), (e0, .inr (0, [.ref f0, .ref n0, .ref d0, .ref sc, .ref e4, .ref e5, .ref e6, .ref fr, .int 0, .int (-1), .int 0, .int (-1), .int 0, .int 0, .int 0])), (sc, .inr (9, [.ref n0, .ref s1, .ref s2, .ref s3, .ref s4, .int 0])), (fr, .inr (2, [.ref g1, .ref g2, .ref g3, .ref g4, .ref g5, .ref g6, .int 0])), (n0, .inr (6, [.ref b0, .ref b1, .ref a2, .ref a3, .int sy, .int sy, .ref b6, .ref b7, .ref b8, .ref b9, .ref b10, .int sy, .int 0])), (a2, .inl (cI, 2560, .inl f2)), (a3, .inl (cI, 2560, .inl g_1)), (f0, .inr (1, [.ref c1, .ref c2, .int 4000, .int 0])), (d0, .inr (10, [.ref d1, .int 0, .ref d2, .int 0, .int 32]))]) (w1 := [(r0, .inr (7, [.ref f0, .ref n0, .ref r1, .int 0]))]) hP hD [1] [0, 2, 3, 4, 5, 6, 7, 8, 9] rfl rfl (by decide) (by decide) hk1 hFc hP1 hD1
  have hP : va_P (dC, dI) vwCl [(x0, .inr (11, [.ref t0, .ref n0, .ref f0, .ref d0, .ref r0, .ref e0, .int 0, .int (-1), .int 0, .int 0, .int 0])), (e0, .inr (0, [.ref f0, .ref n0, .ref d0, .ref sc, .ref e4, .ref e5, .ref e6, .ref fr, .int 0, .int (-1), .int 0, .int (-1), .int 0, .int 0, .int 0])), (sc, .inr (9, [.ref n0, .ref s1, .ref s2, .ref s3, .ref s4, .int 0])), (fr, .inr (2, [.ref g1, .ref g2, .ref g3, .ref g4, .ref g5, .ref g6, .int 0])), (n0, .inr (6, [.ref b0, .ref b1, .ref a2, .ref a3, .int sy, .int sy, .ref b6, .ref b7, .ref b8, .ref b9, .ref b10, .int sy, .int 0])), (a2, .inl (cI, 2560, .inl f2)), (a3, .inl (cI, 2560, .inl g_1)), (f0, .inr (1, [.ref c1, .ref c2, .int 4000, .int 0])), (d0, .inr (10, [.ref d1, .int 0, .ref d2, .int 0, .int 32])), (r0, .inr (7, [.ref f0, .ref n0, .ref r1, .int 0]))] H := hP
  have hD : va_D A [(x0, .inr (11, [.ref t0, .ref n0, .ref f0, .ref d0, .ref r0, .ref e0, .int 0, .int (-1), .int 0, .int 0, .int 0])), (e0, .inr (0, [.ref f0, .ref n0, .ref d0, .ref sc, .ref e4, .ref e5, .ref e6, .ref fr, .int 0, .int (-1), .int 0, .int (-1), .int 0, .int 0, .int 0])), (sc, .inr (9, [.ref n0, .ref s1, .ref s2, .ref s3, .ref s4, .int 0])), (fr, .inr (2, [.ref g1, .ref g2, .ref g3, .ref g4, .ref g5, .ref g6, .int 0])), (n0, .inr (6, [.ref b0, .ref b1, .ref a2, .ref a3, .int sy, .int sy, .ref b6, .ref b7, .ref b8, .ref b9, .ref b10, .int sy, .int 0])), (a2, .inl (cI, 2560, .inl f2)), (a3, .inl (cI, 2560, .inl g_1)), (f0, .inr (1, [.ref c1, .ref c2, .int 4000, .int 0])), (d0, .inr (10, [.ref d1, .int 0, .ref d2, .int 0, .int 32])), (r0, .inr (7, [.ref f0, .ref n0, .ref r1, .int 0]))] := hD
  refine W.widen (k := 0) (n := 0) (Nat.le_of_ble_eq_true rfl) (Nat.le_of_ble_eq_true rfl) ?_
  subst hw
  refine lv_istore_n (lv' := [(2, .int 0), (1, .int 0), (0, .ref x0)]) hx hb dX11_read_49 rfl hl (by decide) rfl (fun ls hl => ?_)
  refine lv_aload_n hx hb dX11_read_50 rfl (lv_at hl 2 rfl) ?_
  refine lv_iconst (v := 0) hx hb dX11_read_51 (by decide) ?_
  refine va_put (D := (dC, dI)) (ci := 11) (v := .int 0) (ty := .int) (C := RX11) (T := TX11) (N := 11) hx hb hts inX11_read_X11 tyX11 tyX11_ok nmX11 hown hK hP hD hS 0 rfl rfl 6 (by decide) (hts _ lkX11_read_f52) (fun _ h9 => h9) rfl (by decide +kernel) rfl rfl (Nat.le_of_ble_eq_true rfl) dX11_read_52 (fun H locs hP hD hS => ?_)
  have hP : va_P (dC, dI) vwCl [(x0, .inr (11, [.ref t0, .ref n0, .ref f0, .ref d0, .ref r0, .ref e0, .int 0, .int (-1), .int 0, .int 0, .int 0])), (e0, .inr (0, [.ref f0, .ref n0, .ref d0, .ref sc, .ref e4, .ref e5, .ref e6, .ref fr, .int 0, .int (-1), .int 0, .int (-1), .int 0, .int 0, .int 0])), (sc, .inr (9, [.ref n0, .ref s1, .ref s2, .ref s3, .ref s4, .int 0])), (fr, .inr (2, [.ref g1, .ref g2, .ref g3, .ref g4, .ref g5, .ref g6, .int 0])), (n0, .inr (6, [.ref b0, .ref b1, .ref a2, .ref a3, .int sy, .int sy, .ref b6, .ref b7, .ref b8, .ref b9, .ref b10, .int sy, .int 0])), (a2, .inl (cI, 2560, .inl f2)), (a3, .inl (cI, 2560, .inl g_1)), (f0, .inr (1, [.ref c1, .ref c2, .int 4000, .int 0])), (d0, .inr (10, [.ref d1, .int 0, .ref d2, .int 0, .int 32])), (r0, .inr (7, [.ref f0, .ref n0, .ref r1, .int 0]))] H := hP
  have hD : va_D A [(x0, .inr (11, [.ref t0, .ref n0, .ref f0, .ref d0, .ref r0, .ref e0, .int 0, .int (-1), .int 0, .int 0, .int 0])), (e0, .inr (0, [.ref f0, .ref n0, .ref d0, .ref sc, .ref e4, .ref e5, .ref e6, .ref fr, .int 0, .int (-1), .int 0, .int (-1), .int 0, .int 0, .int 0])), (sc, .inr (9, [.ref n0, .ref s1, .ref s2, .ref s3, .ref s4, .int 0])), (fr, .inr (2, [.ref g1, .ref g2, .ref g3, .ref g4, .ref g5, .ref g6, .int 0])), (n0, .inr (6, [.ref b0, .ref b1, .ref a2, .ref a3, .int sy, .int sy, .ref b6, .ref b7, .ref b8, .ref b9, .ref b10, .int sy, .int 0])), (a2, .inl (cI, 2560, .inl f2)), (a3, .inl (cI, 2560, .inl g_1)), (f0, .inr (1, [.ref c1, .ref c2, .int 4000, .int 0])), (d0, .inr (10, [.ref d1, .int 0, .ref d2, .int 0, .int 32])), (r0, .inr (7, [.ref f0, .ref n0, .ref r1, .int 0]))] := hD
  refine lv_iload_n hx hb dX11_read_55 rfl (lv_at hl 0 rfl) ?_
  refine lv_if_ne (tgt := 86) hx hb dX11_read_56 (by decide) (fun q9 => absurd q9 (by decide)) (fun _ => ?_)
  refine lv_aload_n hx hb dX11_read_59 rfl (lv_at hl 2 rfl) ?_
  refine va_get (D := (dC, dI)) (ci := 11) (v := .ref e0) (C := RX11) (T := TX11) (N := 11) hx hb hts inX11_read_X11 hown hK hP 0 rfl rfl 5 (by decide) (hts _ lkX11_read_f48) (fun _ h9 => h9) rfl dX11_read_60 ?_
  have hPc := hP.sub (ws' := [(e0, .inr (0, [.ref f0, .ref n0, .ref d0, .ref sc, .ref e4, .ref e5, .ref e6, .ref fr, .int 0, .int (-1), .int 0, .int (-1), .int 0, .int 0, .int 0])), (fr, .inr (2, [.ref g1, .ref g2, .ref g3, .ref g4, .ref g5, .ref g6, .int 0])), (f0, .inr (1, [.ref c1, .ref c2, .int 4000, .int 0])), (d0, .inr (10, [.ref d1, .int 0, .ref d2, .int 0, .int 32])), (sc, .inr (9, [.ref n0, .ref s1, .ref s2, .ref s3, .ref s4, .int 0]))]) [1, 3, 7, 8, 2] rfl
  have hDc := hD.sub (ws' := [(e0, .inr (0, [.ref f0, .ref n0, .ref d0, .ref sc, .ref e4, .ref e5, .ref e6, .ref fr, .int 0, .int (-1), .int 0, .int (-1), .int 0, .int 0, .int 0])), (fr, .inr (2, [.ref g1, .ref g2, .ref g3, .ref g4, .ref g5, .ref g6, .int 0])), (f0, .inr (1, [.ref c1, .ref c2, .int 4000, .int 0])), (d0, .inr (10, [.ref d1, .int 0, .ref d2, .int 0, .int 32])), (sc, .inr (9, [.ref n0, .ref s1, .ref s2, .ref s3, .ref s4, .int 0]))]) [1, 3, 7, 8, 2] (by decide) rfl
  have hFc := va_free (wc := [(e0, .inr (0, [.ref f0, .ref n0, .ref d0, .ref sc, .ref e4, .ref e5, .ref e6, .ref fr, .int 0, .int (-1), .int 0, .int (-1), .int 0, .int 0, .int 0])), (fr, .inr (2, [.ref g1, .ref g2, .ref g3, .ref g4, .ref g5, .ref g6, .int 0])), (f0, .inr (1, [.ref c1, .ref c2, .int 4000, .int 0])), (d0, .inr (10, [.ref d1, .int 0, .ref d2, .int 0, .int 32])), (sc, .inr (9, [.ref n0, .ref s1, .ref s2, .ref s3, .ref s4, .int 0]))]) hD hS hA [1, 3, 7, 8, 2] rfl
  refine va_calli (va_runV (As := []) (rest := []) ⟨hx, hb, hml, hown, hts⟩ (c_tellText l dC dI cB cC cI cJ cZ e0 f0 n0 d0 sc e4 e5 e6 fr g1 g2 g3 g4 g5 g6 c1 c2 d1 d2 s1 s2 s3 s4  H.size) (cwV 0 hts kX11_read_X0_tellText_84 rfl rfl rfl (by decide +kernel) ⟨Nat.le_of_ble_eq_true rfl, Nat.le_of_ble_eq_true rfl⟩) ⟨fun a U g mk q => by obtain ⟨q0, q1, qP, qK, qD, qN⟩ := q; exact ⟨q0, q1, qP, va_K.moved (u := U) (U := U.calling g mk a) (Vm.Alike.refl U.vm) qK, qD, qN.same rfl⟩, va_recv hK hPc (ci := 0) (q0 := 0) rfl rfl, fun U hU hW => ⟨rfl, by rw [hU], by rw [hU]; exact hPc, va_K.moved hW.alike hK, hDc.weaken (fun _ _ _ _ => trivial), hNW.warm hW⟩⟩ rfl rfl hl.1 rfl (lv_room (Nat.le_of_ble_eq_true rfl)) dX11_read_63 ⟨Nat.le_of_ble_eq_true rfl, Nat.le_of_ble_eq_true rfl⟩) hS (fun q _ h => hFc q h) hFc (fun r_3 _u t H locs ht hvm hw hB hz1 hk1 hS => ?_)
  obtain ⟨hP1, hK1, hD1⟩ := hB
  rw [ht] at hP1
  obtain ⟨hP, hD⟩ := va_join (wr := [(x0, .inr (11, [.ref t0, .ref n0, .ref f0, .ref d0, .ref r0, .ref e0, .int 0, .int (-1), .int 0, .int 0, .int 0])), (n0, .inr (6, [.ref b0, .ref b1, .ref a2, .ref a3, .int sy, .int sy, .ref b6, .ref b7, .ref b8, .ref b9, .ref b10, .int sy, .int 0])), (a2, .inl (cI, 2560, .inl f2)), (a3, .inl (cI, 2560, .inl g_1)), (r0, .inr (7, [.ref f0, .ref n0, .ref r1, .int 0]))]) (w1 := [(e0, .inr (0, [.ref f0, .ref n0, .ref d0, .ref sc, .ref e4, .ref e5, .ref e6, .ref fr, .int 4000, .int (-1), .int 0, .int (-1), .int 0, .int 0, .int 0])), (fr, .inr (2, [.ref g1, .ref g2, .ref g3, .ref g4, .ref g5, .ref g6, .int 0])), (f0, .inr (1, [.ref c1, .ref c2, .int 4000, .int 0])), (d0, .inr (10, [.ref d1, .int 0, .ref d2, .int 0, .int 32])), (sc, .inr (9, [.ref n0, .ref s1, .ref s2, .ref s3, .ref s4, .int 0]))]) hP hD [1, 3, 7, 8, 2] [0, 4, 5, 6, 9] rfl rfl (by decide) (by decide) hk1 hFc hP1 hD1
  have hP : va_P (dC, dI) vwCl [(x0, .inr (11, [.ref t0, .ref n0, .ref f0, .ref d0, .ref r0, .ref e0, .int 0, .int (-1), .int 0, .int 0, .int 0])), (n0, .inr (6, [.ref b0, .ref b1, .ref a2, .ref a3, .int sy, .int sy, .ref b6, .ref b7, .ref b8, .ref b9, .ref b10, .int sy, .int 0])), (a2, .inl (cI, 2560, .inl f2)), (a3, .inl (cI, 2560, .inl g_1)), (r0, .inr (7, [.ref f0, .ref n0, .ref r1, .int 0])), (e0, .inr (0, [.ref f0, .ref n0, .ref d0, .ref sc, .ref e4, .ref e5, .ref e6, .ref fr, .int 4000, .int (-1), .int 0, .int (-1), .int 0, .int 0, .int 0])), (fr, .inr (2, [.ref g1, .ref g2, .ref g3, .ref g4, .ref g5, .ref g6, .int 0])), (f0, .inr (1, [.ref c1, .ref c2, .int 4000, .int 0])), (d0, .inr (10, [.ref d1, .int 0, .ref d2, .int 0, .int 32])), (sc, .inr (9, [.ref n0, .ref s1, .ref s2, .ref s3, .ref s4, .int 0]))] H := hP
  have hD : va_D A [(x0, .inr (11, [.ref t0, .ref n0, .ref f0, .ref d0, .ref r0, .ref e0, .int 0, .int (-1), .int 0, .int 0, .int 0])), (n0, .inr (6, [.ref b0, .ref b1, .ref a2, .ref a3, .int sy, .int sy, .ref b6, .ref b7, .ref b8, .ref b9, .ref b10, .int sy, .int 0])), (a2, .inl (cI, 2560, .inl f2)), (a3, .inl (cI, 2560, .inl g_1)), (r0, .inr (7, [.ref f0, .ref n0, .ref r1, .int 0])), (e0, .inr (0, [.ref f0, .ref n0, .ref d0, .ref sc, .ref e4, .ref e5, .ref e6, .ref fr, .int 4000, .int (-1), .int 0, .int (-1), .int 0, .int 0, .int 0])), (fr, .inr (2, [.ref g1, .ref g2, .ref g3, .ref g4, .ref g5, .ref g6, .int 0])), (f0, .inr (1, [.ref c1, .ref c2, .int 4000, .int 0])), (d0, .inr (10, [.ref d1, .int 0, .ref d2, .int 0, .int 32])), (sc, .inr (9, [.ref n0, .ref s1, .ref s2, .ref s3, .ref s4, .int 0]))] := hD
  refine W.widen (k := 0) (n := 0) (Nat.le_of_ble_eq_true rfl) (Nat.le_of_ble_eq_true rfl) ?_
  subst hw
  refine lv_istore_n (lv' := [(2, .int 0), (1, .int 0), (0, .ref x0)]) hx hb dX11_read_66 rfl hl (by decide) rfl (fun ls hl => ?_)
  refine lv_aload_n hx hb dX11_read_67 rfl (lv_at hl 2 rfl) ?_
  refine lv_iload_n hx hb dX11_read_68 rfl (lv_at hl 0 rfl) ?_
  refine lv_if_ne (tgt := 76) hx hb dX11_read_69 (by decide) (fun q9 => absurd q9 (by decide)) (fun _ => ?_)
  refine lv_iconst (v := (-1)) hx hb dX11_read_72 (by decide) ?_
  refine lv_goto (tgt := 83) hx hb dX11_read_73 (by decide) ?_
  refine va_put (D := (dC, dI)) (ci := 11) (v := .int (-1)) (ty := .int) (C := RX11) (T := TX11) (N := 11) hx hb hts inX11_read_X11 tyX11 tyX11_ok nmX11 hown hK hP hD hS 0 rfl rfl 7 (by decide) (hts _ lkX11_read_f56) (fun _ h9 => h9) rfl (by decide +kernel) rfl rfl (Nat.le_of_ble_eq_true rfl) dX11_read_83 (fun H locs hP hD hS => ?_)
  have hP : va_P (dC, dI) vwCl [(x0, .inr (11, [.ref t0, .ref n0, .ref f0, .ref d0, .ref r0, .ref e0, .int 0, .int (-1), .int 0, .int 0, .int 0])), (n0, .inr (6, [.ref b0, .ref b1, .ref a2, .ref a3, .int sy, .int sy, .ref b6, .ref b7, .ref b8, .ref b9, .ref b10, .int sy, .int 0])), (a2, .inl (cI, 2560, .inl f2)), (a3, .inl (cI, 2560, .inl g_1)), (r0, .inr (7, [.ref f0, .ref n0, .ref r1, .int 0])), (e0, .inr (0, [.ref f0, .ref n0, .ref d0, .ref sc, .ref e4, .ref e5, .ref e6, .ref fr, .int 4000, .int (-1), .int 0, .int (-1), .int 0, .int 0, .int 0])), (fr, .inr (2, [.ref g1, .ref g2, .ref g3, .ref g4, .ref g5, .ref g6, .int 0])), (f0, .inr (1, [.ref c1, .ref c2, .int 4000, .int 0])), (d0, .inr (10, [.ref d1, .int 0, .ref d2, .int 0, .int 32])), (sc, .inr (9, [.ref n0, .ref s1, .ref s2, .ref s3, .ref s4, .int 0]))] H := hP
  have hD : va_D A [(x0, .inr (11, [.ref t0, .ref n0, .ref f0, .ref d0, .ref r0, .ref e0, .int 0, .int (-1), .int 0, .int 0, .int 0])), (n0, .inr (6, [.ref b0, .ref b1, .ref a2, .ref a3, .int sy, .int sy, .ref b6, .ref b7, .ref b8, .ref b9, .ref b10, .int sy, .int 0])), (a2, .inl (cI, 2560, .inl f2)), (a3, .inl (cI, 2560, .inl g_1)), (r0, .inr (7, [.ref f0, .ref n0, .ref r1, .int 0])), (e0, .inr (0, [.ref f0, .ref n0, .ref d0, .ref sc, .ref e4, .ref e5, .ref e6, .ref fr, .int 4000, .int (-1), .int 0, .int (-1), .int 0, .int 0, .int 0])), (fr, .inr (2, [.ref g1, .ref g2, .ref g3, .ref g4, .ref g5, .ref g6, .int 0])), (f0, .inr (1, [.ref c1, .ref c2, .int 4000, .int 0])), (d0, .inr (10, [.ref d1, .int 0, .ref d2, .int 0, .int 32])), (sc, .inr (9, [.ref n0, .ref s1, .ref s2, .ref s3, .ref s4, .int 0]))] := hD
  refine lv_iload_n hx hb dX11_read_86 rfl (lv_at hl 0 rfl) ?_
  refine lv_if_ne (tgt := 113) hx hb dX11_read_87 (by decide) (fun q9 => absurd q9 (by decide)) (fun _ => ?_)
  refine lv_aload_n hx hb dX11_read_90 rfl (lv_at hl 2 rfl) ?_
  refine lv_aload_n hx hb dX11_read_91 rfl (lv_at hl 2 rfl) ?_
  refine va_get (D := (dC, dI)) (ci := 11) (v := .ref f0) (C := RX11) (T := TX11) (N := 11) hx hb hts inX11_read_X11 hown hK hP 0 rfl rfl 2 (by decide) (hts _ lkX11_read_f23) (fun _ h9 => h9) rfl dX11_read_92 ?_
  refine va_getN (D := (dC, dI)) (ci := 1) (v := .int 0) (C := RX1) (T := TX1) (N := 4) hx hb hts inX11_read_X1 hown hK hP 7 rfl rfl 3 (by decide) (va_Nw.use rfl hNW.2.2.2.2.2.2.2.2.1) (fun _ h9 => h9) rfl dX11_read_95 ?_
  refine lv_iload_n hx hb dX11_read_98 rfl (lv_at hl 1 rfl) ?_
  refine lv_icmp_le (tgt := 106) hx hb dX11_read_99 (by decide) (fun _ => ?_) (fun q9 => absurd (by decide) q9)
  refine lv_iconst (v := 0) hx hb dX11_read_106 (by decide) ?_
  have hPc := hP.sub (ws' := [(x0, .inr (11, [.ref t0, .ref n0, .ref f0, .ref d0, .ref r0, .ref e0, .int 0, .int (-1), .int 0, .int 0, .int 0])), (d0, .inr (10, [.ref d1, .int 0, .ref d2, .int 0, .int 32])), (e0, .inr (0, [.ref f0, .ref n0, .ref d0, .ref sc, .ref e4, .ref e5, .ref e6, .ref fr, .int 4000, .int (-1), .int 0, .int (-1), .int 0, .int 0, .int 0])), (n0, .inr (6, [.ref b0, .ref b1, .ref a2, .ref a3, .int sy, .int sy, .ref b6, .ref b7, .ref b8, .ref b9, .ref b10, .int sy, .int 0]))]) [0, 8, 5, 1] rfl
  have hDc := hD.sub (ws' := [(x0, .inr (11, [.ref t0, .ref n0, .ref f0, .ref d0, .ref r0, .ref e0, .int 0, .int (-1), .int 0, .int 0, .int 0])), (d0, .inr (10, [.ref d1, .int 0, .ref d2, .int 0, .int 32])), (e0, .inr (0, [.ref f0, .ref n0, .ref d0, .ref sc, .ref e4, .ref e5, .ref e6, .ref fr, .int 4000, .int (-1), .int 0, .int (-1), .int 0, .int 0, .int 0])), (n0, .inr (6, [.ref b0, .ref b1, .ref a2, .ref a3, .int sy, .int sy, .ref b6, .ref b7, .ref b8, .ref b9, .ref b10, .int sy, .int 0]))]) [0, 8, 5, 1] (by decide) rfl
  have hFc := va_free (wc := [(x0, .inr (11, [.ref t0, .ref n0, .ref f0, .ref d0, .ref r0, .ref e0, .int 0, .int (-1), .int 0, .int 0, .int 0])), (d0, .inr (10, [.ref d1, .int 0, .ref d2, .int 0, .int 32])), (e0, .inr (0, [.ref f0, .ref n0, .ref d0, .ref sc, .ref e4, .ref e5, .ref e6, .ref fr, .int 4000, .int (-1), .int 0, .int (-1), .int 0, .int 0, .int 0])), (n0, .inr (6, [.ref b0, .ref b1, .ref a2, .ref a3, .int sy, .int sy, .ref b6, .ref b7, .ref b8, .ref b9, .ref b10, .int sy, .int 0]))]) hD hS hA [0, 8, 5, 1] rfl
  refine va_callv (va_runV (As := [.int 0]) (rest := []) ⟨hx, hb, hml, hown, hts⟩ (c_takeText l dC dI cB cC cI cJ cZ x0 t0 n0 f0 d0 r0 e0 d1 d2 sc e4 e5 e6 fr b0 b1 a2 a3 b6 b7 b8 b9 b10 sy  H.size) (cwV 1 hts kX11_read_X11_takeText_89 rfl rfl rfl (by decide +kernel) ⟨Nat.le_of_ble_eq_true rfl, Nat.le_of_ble_eq_true rfl⟩) ⟨fun a U g mk q => by obtain ⟨q0, q1, qP, qK, qD, qN⟩ := q; exact ⟨q0, q1, qP, va_K.moved (u := U) (U := U.calling g mk a) (Vm.Alike.refl U.vm) qK, qD, qN.same rfl⟩, va_recv hK hPc (ci := 11) (q0 := 0) rfl rfl, fun U hU hW => ⟨rfl, by rw [hU], by rw [hU]; exact hPc, va_K.moved hW.alike hK, hDc.weaken (fun _ _ _ _ => trivial), hNW.warm hW⟩⟩ rfl rfl hl.1 rfl (lv_room (Nat.le_of_ble_eq_true rfl)) dX11_read_107 ⟨Nat.le_of_ble_eq_true rfl, Nat.le_of_ble_eq_true rfl⟩) hS (fun q _ h => hFc q h) hFc (fun _u t H locs ht hvm hw hB hz1 hk1 hS => ?_)
  obtain ⟨hP1, hK1, hD1⟩ := hB
  rw [ht] at hP1
  obtain ⟨hP, hD⟩ := va_join (wr := [(a2, .inl (cI, 2560, .inl f2)), (a3, .inl (cI, 2560, .inl g_1)), (r0, .inr (7, [.ref f0, .ref n0, .ref r1, .int 0])), (fr, .inr (2, [.ref g1, .ref g2, .ref g3, .ref g4, .ref g5, .ref g6, .int 0])), (f0, .inr (1, [.ref c1, .ref c2, .int 4000, .int 0])), (sc, .inr (9, [.ref n0, .ref s1, .ref s2, .ref s3, .ref s4, .int 0]))]) (w1 := []) hP hD [0, 8, 5, 1] [2, 3, 4, 6, 7, 9] rfl rfl (by decide) (by decide) hk1 hFc hP1 hD1
  have hP : va_P (dC, dI) vwCl [(a2, .inl (cI, 2560, .inl f2)), (a3, .inl (cI, 2560, .inl g_1)), (r0, .inr (7, [.ref f0, .ref n0, .ref r1, .int 0])), (fr, .inr (2, [.ref g1, .ref g2, .ref g3, .ref g4, .ref g5, .ref g6, .int 0])), (f0, .inr (1, [.ref c1, .ref c2, .int 4000, .int 0])), (sc, .inr (9, [.ref n0, .ref s1, .ref s2, .ref s3, .ref s4, .int 0]))] H := hP
  have hD : va_D A [(a2, .inl (cI, 2560, .inl f2)), (a3, .inl (cI, 2560, .inl g_1)), (r0, .inr (7, [.ref f0, .ref n0, .ref r1, .int 0])), (fr, .inr (2, [.ref g1, .ref g2, .ref g3, .ref g4, .ref g5, .ref g6, .int 0])), (f0, .inr (1, [.ref c1, .ref c2, .int 4000, .int 0])), (sc, .inr (9, [.ref n0, .ref s1, .ref s2, .ref s3, .ref s4, .int 0]))] := hD
  refine W.widen (k := 0) (n := 0) (Nat.le_of_ble_eq_true rfl) (Nat.le_of_ble_eq_true rfl) ?_
  refine lv_goto (tgt := 128) hx hb dX11_read_110 (by decide) ?_
  refine lv_iload_n hx hb dX11_read_128 rfl (lv_at hl 0 rfl) ?_
  refine W.widen (k := 0) (n := 0) (Nat.le_of_ble_eq_true rfl) (Nat.le_of_ble_eq_true rfl) ?_
  have hP9 := hP.sub (ws' := []) [] rfl
  have hD9 := hD.sub (ws' := []) [] (by decide) rfl
  exact W.iret (v := 0) hx hb hr (fun t ht hW => ⟨⟨0, (), rfl, rfl, by rw [ht]; exact hP9, va_K.moved hW.alike hK, hD9⟩, hS.F ht⟩) hS.2.2 dX11_read_129

set_option maxHeartbeats 4000000 in
set_option maxRecDepth 100000 in
/-- place() of a new object -/
theorem c_place (l : Launch) (dC : Nat → ClassId) (dI : Nat → Nat → Nat) (cB cC cI cJ cZ : ClassId) (x0 t0 n0 f0 d0 r0 e0 : Nat)  (sz : Nat) : Met l yX11_place vX11_place { frames := 0, cells := 0, slots := 0, locals := 0 } (va_Pc [.ref x0] (fun U => U.heap.size = sz ∧ va_P (dC, dI) vwCl [(x0, .inr (11, [.ref t0, .ref n0, .ref f0, .ref d0, .ref r0, .ref e0, .int 0, .int (-1), .int 0, .int 0, .int 0]))] U.heap ∧ va_K (dC, dI) vwCl (TY cB cC cI cJ cZ) U ∧ va_D (fun _ => True) [(x0, .inr (11, [.ref t0, .ref n0, .ref f0, .ref d0, .ref r0, .ref e0, .int 0, .int (-1), .int 0, .int 0, .int 0]))])) (va_Qi (fun (r : Int32) (_ : Unit) => r = -1) (fun (_ : Unit) (t : State) => va_P (dC, dI) vwCl [] t.heap ∧ va_K (dC, dI) vwCl (TY cB cC cI cJ cZ) t ∧ va_D (va_A [(x0, .inr (11, [.ref t0, .ref n0, .ref f0, .ref d0, .ref r0, .ref e0, .int 0, .int (-1), .int 0, .int 0, .int 0]))] sz) []) (va_A [(x0, .inr (11, [.ref t0, .ref n0, .ref f0, .ref d0, .ref r0, .ref e0, .int 0, .int (-1), .int 0, .int 0, .int 0]))] sz)) 0 0 (va_A [(x0, .inr (11, [.ref t0, .ref n0, .ref f0, .ref d0, .ref r0, .ref e0, .int 0, .int (-1), .int 0, .int 0, .int 0]))] sz) := by
  refine Met.ofW (cc := cX11_place) (maxL := 1) (ret := (some .int)) (by decide) rfl ?_
  intro p e s m args below meth c s₁ B hml hv
  obtain ⟨rfl, hsz, hP, hK, hD0⟩ := hv
  have hx := B.exec
  have hb := B.bytes
  have hr := B.returns
  have hts := atoms_spec (ws := vX11_place) B.pre
  have hown : s.vm.findClass RX11 = some m.cls := findClass_of_methodNamed B.named
  have hlocks := B.notSynchronized
  subst hsz
  have hD := hD0.self (sz := s.heap.size)
  generalize hAe : va_A [(x0, .inr (11, [.ref t0, .ref n0, .ref f0, .ref d0, .ref r0, .ref e0, .int 0, .int (-1), .int 0, .int 0, .int 0]))] s.heap.size = A at hD ⊢
  have hA : ∀ q : Nat, s.heap.size ≤ q → A q := fun q h => by rw [← hAe]; exact Or.inr h
  have hS : va_S A s.heap s.heap [] := va_S.rf
  have hP : va_P (dC, dI) vwCl [(x0, .inr (11, [.ref t0, .ref n0, .ref f0, .ref d0, .ref r0, .ref e0, .int 0, .int (-1), .int 0, .int 0, .int 0]))] s.heap := hP
  have hl := lv_entry ([.ref x0]) (n := 1) (Nat.le_of_ble_eq_true rfl)
  rw [lg_entry_eq]
  generalize (lg_sl ([.ref x0]) ++ List.replicate (1 - (lg_sl ([.ref x0])).length) Slot.unset).toArray = ls at hl ⊢
  have hl : lv_has ls 1 [(0, .ref x0)] := hl
  refine lv_aload_n hx hb dX11_place_0 rfl (lv_at hl 0 rfl) ?_
  refine va_get (D := (dC, dI)) (ci := 11) (v := .int (-1)) (C := RX11) (T := TX11) (N := 11) hx hb hts inX11_place_X11 hown hK hP 0 rfl rfl 7 (by decide) (hts _ lkX11_place_f56) (fun _ h9 => h9) rfl dX11_place_1 ?_
  refine W.widen (k := 0) (n := 0) (Nat.le_of_ble_eq_true rfl) (Nat.le_of_ble_eq_true rfl) ?_
  have hP9 := hP.sub (ws' := []) [] rfl
  have hD9 := hD.sub (ws' := []) [] (by decide) rfl
  exact W.iret (v := (-1)) hx hb hr (fun t ht hW => ⟨⟨(-1), (), rfl, rfl, by rw [ht]; exact hP9, va_K.moved hW.alike hK, hD9⟩, hS.F ht⟩) hS.2.2 dX11_place_4

set_option maxHeartbeats 4000000 in
set_option maxRecDepth 100000 in
theorem lp_macros {p : Program} {l : Launch} {e : Env} {R : Room} {s : State} {m : MethodId} {args : Array Value} {below : List Frame} {meth : Method} {c : Code} {Q : State → Prop} {A : Nat → Prop} {dC : Nat → ClassId} {dI : Nat → Nat → Nat} {cB cC cI cJ cZ : ClassId} {cells slots : Nat} (hx : p.tables.exec = Jvm.exec) (hb : c.code = cX6_macros) (hml : c.maxLocals = 3) (hown : s.vm.findClass RX6 = some m.cls) (hts : ∀ w ∈ vX6_macros, w.before args s = true) (hK : va_K (dC, dI) vwCl (TY cB cC cI cJ cZ) s) (hA : ∀ q : Nat, s.heap.size ≤ q → A q) (n0 b0 b1 a2 a3 b6 b7 b8 b9 b10 : Nat) (sy tp : Int32) (f2 : Nat → Int32) (hsy : sy = nI 9) (hR : ∀ j, j < 9 → f2 j = -1) (kk : ∀  (H : Heap) (locs : List Loc), va_P (dC, dI) vwCl [(n0, .inr (6, [.ref b0, .ref b1, .ref a2, .ref a3, .int sy, .int 0, .ref b6, .ref b7, .ref b8, .ref b9, .ref b10, .int tp, .int 0])), (a2, .inl (cI, 2560, .inl f2))] H → va_D A [(n0, .inr (6, [.ref b0, .ref b1, .ref a2, .ref a3, .int sy, .int 0, .ref b6, .ref b7, .ref b8, .ref b9, .ref b10, .int tp, .int 0])), (a2, .inl (cI, 2560, .inl f2))] → va_S A s.heap H locs → ∀ (ls : Array Slot), lv_has ls 3 [(1, .int 0)] → W p l e R s m args below meth c H locs cells slots Q (F0 m 31 ls [])) : ∀ (k : Nat) (i : Nat) (x2 : Int32), i ≤ 9 → 10 ≤ i + k → x2 = nI i → ∀ (H : Heap) (locs : List Loc), va_P (dC, dI) vwCl [(n0, .inr (6, [.ref b0, .ref b1, .ref a2, .ref a3, .int sy, .int 0, .ref b6, .ref b7, .ref b8, .ref b9, .ref b10, .int tp, .int 0])), (a2, .inl (cI, 2560, .inl f2))] H → va_D A [(n0, .inr (6, [.ref b0, .ref b1, .ref a2, .ref a3, .int sy, .int 0, .ref b6, .ref b7, .ref b8, .ref b9, .ref b10, .int tp, .int 0])), (a2, .inl (cI, 2560, .inl f2))] → va_S A s.heap H locs → ∀ (ls : Array Slot), lv_has ls 3 [(0, .ref n0), (1, .int 0), (2, .int x2)] → W p l e R s m args below meth c H locs cells slots Q (F0 m 4 ls []) := by
  intro k
  induction k with
  | zero =>
    intro i x2 hi hk h2
    omega
  | succ k ih =>
    intro i x2 hi hk h2 H locs hP hD hS ls hl
    refine lv_iload_n hx hb dX6_macros_4 rfl (lv_at hl 2 rfl) ?_
    refine lv_aload_n hx hb dX6_macros_5 rfl (lv_at hl 0 rfl) ?_
    refine va_get (D := (dC, dI)) (ci := 6) (v := .int sy) (C := RX6) (T := TX6) (N := 13) hx hb hts inX6_macros_X6 hown hK hP 0 rfl rfl 4 (by decide) (hts _ lkX6_macros_f25) (fun _ h9 => h9) rfl dX6_macros_6 ?_
    refine lv_icmp_ge (tgt := 31) hx hb dX6_macros_9 (by decide) (fun c1 => ?_) (fun c1 => ?_)
    · exact kk H locs (hP.sub [0, 1] rfl) (hD.sub [0, 1] (by decide) rfl) hS ls (lv_sub hl [1] rfl)
    · have hlt : i < 9 := by
        rcases Nat.lt_or_ge i 9 with q9 | q9
        · exact q9
        · exact absurd (by rw [hsy, h2]; exact nI_le q9 (by omega)) c1
      have hin1 : vp_in x2 2560 := by rw [h2]; exact vp_in_nI (by omega) (by decide)
      refine lv_aload_n hx hb dX6_macros_12 rfl (lv_at hl 0 rfl) ?_
      refine va_get (D := (dC, dI)) (ci := 6) (v := .ref a2) (C := RX6) (T := TX6) (N := 13) hx hb hts inX6_macros_X6 hown hK hP 0 rfl rfl 2 (by decide) (hts _ lkX6_macros_f18) (fun _ h9 => h9) rfl dX6_macros_13 ?_
      refine lv_iload_n hx hb dX6_macros_16 rfl (lv_at hl 2 rfl) ?_
      refine va_iald hx hb hK hP 1 2 rfl rfl (hin1) dX6_macros_17 ?_
      refine tp_i (y := (-1)) (by rw [h2, nI_clamp (by omega)]; exact hR i hlt) ?_
      refine lv_iconst (v := (-1)) hx hb dX6_macros_18 (by decide) ?_
      refine lv_icmp_eq (tgt := 25) hx hb dX6_macros_19 (by decide) (fun _ => ?_) (fun q9 => absurd (by decide) q9)
      obtain ⟨x_1, ex_1⟩ : ∃ y : Int32, y = x2 + 1 := ⟨_, rfl⟩
      refine lv_iinc (v := x_1) (lv' := [(2, .int x_1), (0, .ref n0), (1, .int 0)]) hx hb dX6_macros_25 hl (k := 2) rfl (by rw [ex_1]; rfl) (by decide) rfl (fun ls hl => ?_)
      refine lv_goto (tgt := 4) hx hb dX6_macros_28 (by decide) ?_
      exact ih (i + 1) x_1 (by omega) (by omega) (by rw [ex_1, h2]; exact nI_1 i) _ _ (hP.sub [0, 1] rfl) (hD.sub [0, 1] (by decide) rfl) hS ls (lv_sub hl [1, 2, 0] rfl)

set_option maxHeartbeats 4000000 in
set_option maxRecDepth 100000 in
/-- macros() of a new object -/
theorem c_macros (l : Launch) (dC : Nat → ClassId) (dI : Nat → Nat → Nat) (cB cC cI cJ cZ : ClassId) (n0 b0 b1 a2 a3 b6 b7 b8 b9 b10 : Nat) (sy tp : Int32) (f2 : Nat → Int32) (hsy : sy = nI 9) (hR : ∀ j, j < 9 → f2 j = -1) (sz : Nat) : Met l yX6_macros vX6_macros { frames := 0, cells := 0, slots := 0, locals := 0 } (va_Pc [.ref n0] (fun U => U.heap.size = sz ∧ va_P (dC, dI) vwCl [(n0, .inr (6, [.ref b0, .ref b1, .ref a2, .ref a3, .int sy, .int 0, .ref b6, .ref b7, .ref b8, .ref b9, .ref b10, .int tp, .int 0])), (a2, .inl (cI, 2560, .inl f2))] U.heap ∧ va_K (dC, dI) vwCl (TY cB cC cI cJ cZ) U ∧ va_D (fun _ => True) [(n0, .inr (6, [.ref b0, .ref b1, .ref a2, .ref a3, .int sy, .int 0, .ref b6, .ref b7, .ref b8, .ref b9, .ref b10, .int tp, .int 0])), (a2, .inl (cI, 2560, .inl f2))])) (va_Qi (fun (r : Int32) (_ : Unit) => r = 0) (fun (_ : Unit) (t : State) => va_P (dC, dI) vwCl [] t.heap ∧ va_K (dC, dI) vwCl (TY cB cC cI cJ cZ) t ∧ va_D (va_A [(n0, .inr (6, [.ref b0, .ref b1, .ref a2, .ref a3, .int sy, .int 0, .ref b6, .ref b7, .ref b8, .ref b9, .ref b10, .int tp, .int 0])), (a2, .inl (cI, 2560, .inl f2))] sz) []) (va_A [(n0, .inr (6, [.ref b0, .ref b1, .ref a2, .ref a3, .int sy, .int 0, .ref b6, .ref b7, .ref b8, .ref b9, .ref b10, .int tp, .int 0])), (a2, .inl (cI, 2560, .inl f2))] sz)) 0 0 (va_A [(n0, .inr (6, [.ref b0, .ref b1, .ref a2, .ref a3, .int sy, .int 0, .ref b6, .ref b7, .ref b8, .ref b9, .ref b10, .int tp, .int 0])), (a2, .inl (cI, 2560, .inl f2))] sz) := by
  refine Met.ofW (cc := cX6_macros) (maxL := 3) (ret := (some .int)) (by decide) rfl ?_
  intro p e s m args below meth c s₁ B hml hv
  obtain ⟨rfl, hsz, hP, hK, hD0⟩ := hv
  have hx := B.exec
  have hb := B.bytes
  have hr := B.returns
  have hts := atoms_spec (ws := vX6_macros) B.pre
  have hown : s.vm.findClass RX6 = some m.cls := findClass_of_methodNamed B.named
  have hlocks := B.notSynchronized
  subst hsz
  have hD := hD0.self (sz := s.heap.size)
  generalize hAe : va_A [(n0, .inr (6, [.ref b0, .ref b1, .ref a2, .ref a3, .int sy, .int 0, .ref b6, .ref b7, .ref b8, .ref b9, .ref b10, .int tp, .int 0])), (a2, .inl (cI, 2560, .inl f2))] s.heap.size = A at hD ⊢
  have hA : ∀ q : Nat, s.heap.size ≤ q → A q := fun q h => by rw [← hAe]; exact Or.inr h
  have hS : va_S A s.heap s.heap [] := va_S.rf
  have hP : va_P (dC, dI) vwCl [(n0, .inr (6, [.ref b0, .ref b1, .ref a2, .ref a3, .int sy, .int 0, .ref b6, .ref b7, .ref b8, .ref b9, .ref b10, .int tp, .int 0])), (a2, .inl (cI, 2560, .inl f2))] s.heap := hP
  have hl := lv_entry ([.ref n0]) (n := 3) (Nat.le_of_ble_eq_true rfl)
  rw [lg_entry_eq]
  generalize (lg_sl ([.ref n0]) ++ List.replicate (3 - (lg_sl ([.ref n0])).length) Slot.unset).toArray = ls at hl ⊢
  have hl : lv_has ls 3 [(0, .ref n0)] := hl
  refine lv_iconst (v := 0) hx hb dX6_macros_0 (by decide) ?_
  refine lv_istore_n (lv' := [(1, .int 0), (0, .ref n0)]) hx hb dX6_macros_1 rfl hl (by decide) rfl (fun ls hl => ?_)
  refine lv_iconst (v := 0) hx hb dX6_macros_2 (by decide) ?_
  refine lv_istore_n (lv' := [(2, .int 0), (1, .int 0), (0, .ref n0)]) hx hb dX6_macros_3 rfl hl (by decide) rfl (fun ls hl => ?_)
  refine lp_macros hx hb hml hown hts hK hA n0 b0 b1 a2 a3 b6 b7 b8 b9 b10 sy tp f2 hsy hR (fun H locs hP hD hS ls hl => ?_) 10 0 0 (by omega) (by omega) nI_0.symm _ _ (hP.sub [0, 1] rfl) (hD.sub [0, 1] (by decide) rfl) hS ls (lv_sub hl [2, 1, 0] rfl)
  refine lv_iload_n hx hb dX6_macros_31 rfl (lv_at hl 0 rfl) ?_
  refine W.widen (k := 0) (n := 0) (Nat.le_of_ble_eq_true rfl) (Nat.le_of_ble_eq_true rfl) ?_
  have hP9 := hP.sub (ws' := []) [] rfl
  have hD9 := hD.sub (ws' := []) [] (by decide) rfl
  exact W.iret (v := 0) hx hb hr (fun t ht hW => ⟨⟨0, (), rfl, rfl, by rw [ht]; exact hP9, va_K.moved hW.alike hK, hD9⟩, hS.F ht⟩) hS.2.2 dX6_macros_32

/-- what count answers on a new object -/
def CNT (p : Int32) : Int32 := if p.toInt < 0 ∨ 5 < p.toInt then -1 else 0
set_option maxHeartbeats 4000000 in
set_option maxRecDepth 100000 in
/-- count(p) of a new object -/
theorem c_count (l : Launch) (dC : Nat → ClassId) (dI : Nat → Nat → Nat) (cB cC cI cJ cZ : ClassId) (x0 t0 n0 f0 d0 r0 e0 b0 b1 a2 a3 b6 b7 b8 b9 b10 c1 c2 d1 d2 : Nat) (sy tp : Int32) (f2 : Nat → Int32) (p1 : Int32) (hsy : sy = nI 9) (hR : ∀ j, j < 9 → f2 j = -1) (sz : Nat) : Met l yX11_count vX11_count { frames := 1, cells := 0, slots := 0, locals := 22 } (va_Pc [.ref x0, .int p1] (fun U => U.heap.size = sz ∧ va_P (dC, dI) vwCl [(x0, .inr (11, [.ref t0, .ref n0, .ref f0, .ref d0, .ref r0, .ref e0, .int 0, .int (-1), .int 0, .int 0, .int 0])), (d0, .inr (10, [.ref d1, .int 0, .ref d2, .int 0, .int 32])), (n0, .inr (6, [.ref b0, .ref b1, .ref a2, .ref a3, .int sy, .int 0, .ref b6, .ref b7, .ref b8, .ref b9, .ref b10, .int tp, .int 0])), (a2, .inl (cI, 2560, .inl f2)), (f0, .inr (1, [.ref c1, .ref c2, .int 4000, .int 0]))] U.heap ∧ va_K (dC, dI) vwCl (TY cB cC cI cJ cZ) U ∧ va_D (fun _ => True) [(x0, .inr (11, [.ref t0, .ref n0, .ref f0, .ref d0, .ref r0, .ref e0, .int 0, .int (-1), .int 0, .int 0, .int 0])), (d0, .inr (10, [.ref d1, .int 0, .ref d2, .int 0, .int 32])), (n0, .inr (6, [.ref b0, .ref b1, .ref a2, .ref a3, .int sy, .int 0, .ref b6, .ref b7, .ref b8, .ref b9, .ref b10, .int tp, .int 0])), (a2, .inl (cI, 2560, .inl f2)), (f0, .inr (1, [.ref c1, .ref c2, .int 4000, .int 0]))] ∧ NW U)) (va_Qi (fun (r : Int32) (_ : Unit) => r = CNT p1) (fun (_ : Unit) (t : State) => va_P (dC, dI) vwCl [] t.heap ∧ va_K (dC, dI) vwCl (TY cB cC cI cJ cZ) t ∧ va_D (va_A [(x0, .inr (11, [.ref t0, .ref n0, .ref f0, .ref d0, .ref r0, .ref e0, .int 0, .int (-1), .int 0, .int 0, .int 0])), (d0, .inr (10, [.ref d1, .int 0, .ref d2, .int 0, .int 32])), (n0, .inr (6, [.ref b0, .ref b1, .ref a2, .ref a3, .int sy, .int 0, .ref b6, .ref b7, .ref b8, .ref b9, .ref b10, .int tp, .int 0])), (a2, .inl (cI, 2560, .inl f2)), (f0, .inr (1, [.ref c1, .ref c2, .int 4000, .int 0]))] sz) []) (va_A [(x0, .inr (11, [.ref t0, .ref n0, .ref f0, .ref d0, .ref r0, .ref e0, .int 0, .int (-1), .int 0, .int 0, .int 0])), (d0, .inr (10, [.ref d1, .int 0, .ref d2, .int 0, .int 32])), (n0, .inr (6, [.ref b0, .ref b1, .ref a2, .ref a3, .int sy, .int 0, .ref b6, .ref b7, .ref b8, .ref b9, .ref b10, .int tp, .int 0])), (a2, .inl (cI, 2560, .inl f2)), (f0, .inr (1, [.ref c1, .ref c2, .int 4000, .int 0]))] sz)) 0 0 (va_A [(x0, .inr (11, [.ref t0, .ref n0, .ref f0, .ref d0, .ref r0, .ref e0, .int 0, .int (-1), .int 0, .int 0, .int 0])), (d0, .inr (10, [.ref d1, .int 0, .ref d2, .int 0, .int 32])), (n0, .inr (6, [.ref b0, .ref b1, .ref a2, .ref a3, .int sy, .int 0, .ref b6, .ref b7, .ref b8, .ref b9, .ref b10, .int tp, .int 0])), (a2, .inl (cI, 2560, .inl f2)), (f0, .inr (1, [.ref c1, .ref c2, .int 4000, .int 0]))] sz) := by
  refine Met.ofW (cc := cX11_count) (maxL := 2) (ret := (some .int)) (by decide) rfl ?_
  intro p e s m args below meth c s₁ B hml hv
  obtain ⟨rfl, hsz, hP, hK, hD0, hNW⟩ := hv
  have hx := B.exec
  have hb := B.bytes
  have hr := B.returns
  have hts := atoms_spec (ws := vX11_count) B.pre
  have hown : s.vm.findClass RX11 = some m.cls := findClass_of_methodNamed B.named
  have hlocks := B.notSynchronized
  subst hsz
  have hD := hD0.self (sz := s.heap.size)
  generalize hAe : va_A [(x0, .inr (11, [.ref t0, .ref n0, .ref f0, .ref d0, .ref r0, .ref e0, .int 0, .int (-1), .int 0, .int 0, .int 0])), (d0, .inr (10, [.ref d1, .int 0, .ref d2, .int 0, .int 32])), (n0, .inr (6, [.ref b0, .ref b1, .ref a2, .ref a3, .int sy, .int 0, .ref b6, .ref b7, .ref b8, .ref b9, .ref b10, .int tp, .int 0])), (a2, .inl (cI, 2560, .inl f2)), (f0, .inr (1, [.ref c1, .ref c2, .int 4000, .int 0]))] s.heap.size = A at hD ⊢
  have hA : ∀ q : Nat, s.heap.size ≤ q → A q := fun q h => by rw [← hAe]; exact Or.inr h
  have hS : va_S A s.heap s.heap [] := va_S.rf
  have hP : va_P (dC, dI) vwCl [(x0, .inr (11, [.ref t0, .ref n0, .ref f0, .ref d0, .ref r0, .ref e0, .int 0, .int (-1), .int 0, .int 0, .int 0])), (d0, .inr (10, [.ref d1, .int 0, .ref d2, .int 0, .int 32])), (n0, .inr (6, [.ref b0, .ref b1, .ref a2, .ref a3, .int sy, .int 0, .ref b6, .ref b7, .ref b8, .ref b9, .ref b10, .int tp, .int 0])), (a2, .inl (cI, 2560, .inl f2)), (f0, .inr (1, [.ref c1, .ref c2, .int 4000, .int 0]))] s.heap := hP
  have hl := lv_entry ([.ref x0, .int p1]) (n := 2) (Nat.le_of_ble_eq_true rfl)
  rw [lg_entry_eq]
  generalize (lg_sl ([.ref x0, .int p1]) ++ List.replicate (2 - (lg_sl ([.ref x0, .int p1])).length) Slot.unset).toArray = ls at hl ⊢
  have hl : lv_has ls 2 [(0, .ref x0), (1, .int p1)] := hl
  refine lv_iload_n hx hb dX11_count_0 rfl (lv_at hl 1 rfl) ?_
  by_cases hq : p1.toInt < 0 ∨ 5 < p1.toInt
  · refine lv_tableOut (tgt := 79) hx hb dX11_count_1 hq (by decide) ?_
    refine lv_iconst (v := (-1)) hx hb dX11_count_79 (by decide) ?_
    refine W.widen (k := 0) (n := 0) (Nat.le_of_ble_eq_true rfl) (Nat.le_of_ble_eq_true rfl) ?_
    have hP9 := hP.sub (ws' := []) [] rfl
    have hD9 := hD.sub (ws' := []) [] (by decide) rfl
    exact W.iret (v := (-1)) hx hb hr (fun t ht hW => ⟨⟨(-1), (), rfl, (if_pos hq).symm, by rw [ht]; exact hP9, va_K.moved hW.alike hK, hD9⟩, hS.F ht⟩) hS.2.2 dX11_count_80
  · have hz : CNT p1 = 0 := if_neg hq
    have h6 : p1.toInt = 0 ∨ p1.toInt = 1 ∨ p1.toInt = 2 ∨ p1.toInt = 3 ∨ p1.toInt = 4 ∨ p1.toInt = 5 := by omega
    rcases h6 with h6 | h6 | h6 | h6 | h6 | h6
    · refine lv_tableIn (tgt := 40) (off := 39) hx hb dX11_count_1 (by omega) (by omega) (by rw [h6]; rfl) (by decide) ?_
      refine lv_aload_n hx hb dX11_count_40 rfl (lv_at hl 0 rfl) ?_
      refine va_get (D := (dC, dI)) (ci := 11) (v := .ref d0) (C := RX11) (T := TX11) (N := 11) hx hb hts inX11_count_X11 hown hK hP 0 rfl rfl 3 (by decide) (hts _ lkX11_count_f30) (fun _ h9 => h9) rfl dX11_count_41 ?_
      refine va_getN (D := (dC, dI)) (ci := 10) (v := .int 0) (C := RX10) (T := TX10) (N := 5) hx hb hts inX11_count_X10 hown hK hP 1 rfl rfl 1 (by decide) (va_Nw.use rfl hNW.2.2.2.2.2.2.2.2.2.2.1) (fun _ h9 => h9) rfl dX11_count_44 ?_
      refine W.widen (k := 0) (n := 0) (Nat.le_of_ble_eq_true rfl) (Nat.le_of_ble_eq_true rfl) ?_
      have hP9 := hP.sub (ws' := []) [] rfl
      have hD9 := hD.sub (ws' := []) [] (by decide) rfl
      exact W.iret (v := 0) hx hb hr (fun t ht hW => ⟨⟨0, (), rfl, hz.symm, by rw [ht]; exact hP9, va_K.moved hW.alike hK, hD9⟩, hS.F ht⟩) hS.2.2 dX11_count_47
    · refine lv_tableIn (tgt := 48) (off := 47) hx hb dX11_count_1 (by omega) (by omega) (by rw [h6]; rfl) (by decide) ?_
      refine lv_aload_n hx hb dX11_count_48 rfl (lv_at hl 0 rfl) ?_
      refine va_get (D := (dC, dI)) (ci := 11) (v := .int 0) (C := RX11) (T := TX11) (N := 11) hx hb hts inX11_count_X11 hown hK hP 0 rfl rfl 8 (by decide) (hts _ lkX11_count_f59) (fun _ h9 => h9) rfl dX11_count_49 ?_
      refine W.widen (k := 0) (n := 0) (Nat.le_of_ble_eq_true rfl) (Nat.le_of_ble_eq_true rfl) ?_
      have hP9 := hP.sub (ws' := []) [] rfl
      have hD9 := hD.sub (ws' := []) [] (by decide) rfl
      exact W.iret (v := 0) hx hb hr (fun t ht hW => ⟨⟨0, (), rfl, hz.symm, by rw [ht]; exact hP9, va_K.moved hW.alike hK, hD9⟩, hS.F ht⟩) hS.2.2 dX11_count_52
    · refine lv_tableIn (tgt := 53) (off := 52) hx hb dX11_count_1 (by omega) (by omega) (by rw [h6]; rfl) (by decide) ?_
      refine lv_aload_n hx hb dX11_count_53 rfl (lv_at hl 0 rfl) ?_
      refine va_get (D := (dC, dI)) (ci := 11) (v := .int 0) (C := RX11) (T := TX11) (N := 11) hx hb hts inX11_count_X11 hown hK hP 0 rfl rfl 9 (by decide) (hts _ lkX11_count_f62) (fun _ h9 => h9) rfl dX11_count_54 ?_
      refine W.widen (k := 0) (n := 0) (Nat.le_of_ble_eq_true rfl) (Nat.le_of_ble_eq_true rfl) ?_
      have hP9 := hP.sub (ws' := []) [] rfl
      have hD9 := hD.sub (ws' := []) [] (by decide) rfl
      exact W.iret (v := 0) hx hb hr (fun t ht hW => ⟨⟨0, (), rfl, hz.symm, by rw [ht]; exact hP9, va_K.moved hW.alike hK, hD9⟩, hS.F ht⟩) hS.2.2 dX11_count_57
    · refine lv_tableIn (tgt := 58) (off := 57) hx hb dX11_count_1 (by omega) (by omega) (by rw [h6]; rfl) (by decide) ?_
      refine lv_aload_n hx hb dX11_count_58 rfl (lv_at hl 0 rfl) ?_
      refine va_get (D := (dC, dI)) (ci := 11) (v := .int 0) (C := RX11) (T := TX11) (N := 11) hx hb hts inX11_count_X11 hown hK hP 0 rfl rfl 10 (by decide) (hts _ lkX11_count_f65) (fun _ h9 => h9) rfl dX11_count_59 ?_
      refine W.widen (k := 0) (n := 0) (Nat.le_of_ble_eq_true rfl) (Nat.le_of_ble_eq_true rfl) ?_
      have hP9 := hP.sub (ws' := []) [] rfl
      have hD9 := hD.sub (ws' := []) [] (by decide) rfl
      exact W.iret (v := 0) hx hb hr (fun t ht hW => ⟨⟨0, (), rfl, hz.symm, by rw [ht]; exact hP9, va_K.moved hW.alike hK, hD9⟩, hS.F ht⟩) hS.2.2 dX11_count_62
    · refine lv_tableIn (tgt := 63) (off := 62) hx hb dX11_count_1 (by omega) (by omega) (by rw [h6]; rfl) (by decide) ?_
      refine lv_aload_n hx hb dX11_count_63 rfl (lv_at hl 0 rfl) ?_
      refine va_get (D := (dC, dI)) (ci := 11) (v := .ref n0) (C := RX11) (T := TX11) (N := 11) hx hb hts inX11_count_X11 hown hK hP 0 rfl rfl 1 (by decide) (hts _ lkX11_count_f16) (fun _ h9 => h9) rfl dX11_count_64 ?_
      have hPc := hP.sub (ws' := [(n0, .inr (6, [.ref b0, .ref b1, .ref a2, .ref a3, .int sy, .int 0, .ref b6, .ref b7, .ref b8, .ref b9, .ref b10, .int tp, .int 0])), (a2, .inl (cI, 2560, .inl f2))]) [2, 3] rfl
      have hDc := hD.sub (ws' := [(n0, .inr (6, [.ref b0, .ref b1, .ref a2, .ref a3, .int sy, .int 0, .ref b6, .ref b7, .ref b8, .ref b9, .ref b10, .int tp, .int 0])), (a2, .inl (cI, 2560, .inl f2))]) [2, 3] (by decide) rfl
      have hFc := va_free (wc := [(n0, .inr (6, [.ref b0, .ref b1, .ref a2, .ref a3, .int sy, .int 0, .ref b6, .ref b7, .ref b8, .ref b9, .ref b10, .int tp, .int 0])), (a2, .inl (cI, 2560, .inl f2))]) hD hS hA [2, 3] rfl
      refine va_calli (va_runV (As := []) (rest := []) ⟨hx, hb, hml, hown, hts⟩ (c_macros l dC dI cB cC cI cJ cZ n0 b0 b1 a2 a3 b6 b7 b8 b9 b10 sy tp f2 hsy hR s.heap.size) (cwV 0 hts kX11_count_X6_macros_99 rfl rfl rfl (by decide +kernel) ⟨Nat.le_of_ble_eq_true rfl, Nat.le_of_ble_eq_true rfl⟩) ⟨fun a U g mk q => by obtain ⟨q0, q1, qP, qK, qD⟩ := q; exact ⟨q0, q1, qP, va_K.moved (u := U) (U := U.calling g mk a) (Vm.Alike.refl U.vm) qK, qD⟩, va_recv hK hPc (ci := 6) (q0 := 0) rfl rfl, fun U hU hW => ⟨rfl, by rw [hU], by rw [hU]; exact hPc, va_K.moved hW.alike hK, hDc.weaken (fun _ _ _ _ => trivial)⟩⟩ rfl rfl hl.1 rfl (lv_room (Nat.le_of_ble_eq_true rfl)) dX11_count_67 ⟨Nat.le_of_ble_eq_true rfl, Nat.le_of_ble_eq_true rfl⟩) hS (fun q _ h => hFc q h) hFc (fun r_1 _u t H locs ht hvm hw hB hz1 hk1 hS => ?_)
      obtain ⟨hP1, hK1, hD1⟩ := hB
      rw [ht] at hP1
      obtain ⟨hP, hD⟩ := va_join (wr := [(x0, .inr (11, [.ref t0, .ref n0, .ref f0, .ref d0, .ref r0, .ref e0, .int 0, .int (-1), .int 0, .int 0, .int 0])), (d0, .inr (10, [.ref d1, .int 0, .ref d2, .int 0, .int 32])), (f0, .inr (1, [.ref c1, .ref c2, .int 4000, .int 0]))]) (w1 := []) hP hD [2, 3] [0, 1, 4] rfl rfl (by decide) (by decide) hk1 hFc hP1 hD1
      have hP : va_P (dC, dI) vwCl [(x0, .inr (11, [.ref t0, .ref n0, .ref f0, .ref d0, .ref r0, .ref e0, .int 0, .int (-1), .int 0, .int 0, .int 0])), (d0, .inr (10, [.ref d1, .int 0, .ref d2, .int 0, .int 32])), (f0, .inr (1, [.ref c1, .ref c2, .int 4000, .int 0]))] H := hP
      have hD : va_D A [(x0, .inr (11, [.ref t0, .ref n0, .ref f0, .ref d0, .ref r0, .ref e0, .int 0, .int (-1), .int 0, .int 0, .int 0])), (d0, .inr (10, [.ref d1, .int 0, .ref d2, .int 0, .int 32])), (f0, .inr (1, [.ref c1, .ref c2, .int 4000, .int 0]))] := hD
      refine W.widen (k := 0) (n := 0) (Nat.le_of_ble_eq_true rfl) (Nat.le_of_ble_eq_true rfl) ?_
      subst hw
      refine W.widen (k := 0) (n := 0) (Nat.le_of_ble_eq_true rfl) (Nat.le_of_ble_eq_true rfl) ?_
      have hP9 := hP.sub (ws' := []) [] rfl
      have hD9 := hD.sub (ws' := []) [] (by decide) rfl
      exact W.iret (v := 0) hx hb hr (fun t ht hW => ⟨⟨0, (), rfl, hz.symm, by rw [ht]; exact hP9, va_K.moved hW.alike hK, hD9⟩, hS.F ht⟩) hS.2.2 dX11_count_70
    · refine lv_tableIn (tgt := 71) (off := 70) hx hb dX11_count_1 (by omega) (by omega) (by rw [h6]; rfl) (by decide) ?_
      refine lv_aload_n hx hb dX11_count_71 rfl (lv_at hl 0 rfl) ?_
      refine va_get (D := (dC, dI)) (ci := 11) (v := .ref f0) (C := RX11) (T := TX11) (N := 11) hx hb hts inX11_count_X11 hown hK hP 0 rfl rfl 2 (by decide) (hts _ lkX11_count_f23) (fun _ h9 => h9) rfl dX11_count_72 ?_
      refine va_getN (D := (dC, dI)) (ci := 1) (v := .int 0) (C := RX1) (T := TX1) (N := 4) hx hb hts inX11_count_X1 hown hK hP 4 rfl rfl 3 (by decide) (va_Nw.use rfl hNW.2.2.2.2.2.2.2.2.1) (fun _ h9 => h9) rfl dX11_count_75 ?_
      refine W.widen (k := 0) (n := 0) (Nat.le_of_ble_eq_true rfl) (Nat.le_of_ble_eq_true rfl) ?_
      have hP9 := hP.sub (ws' := []) [] rfl
      have hD9 := hD.sub (ws' := []) [] (by decide) rfl
      exact W.iret (v := 0) hx hb hr (fun t ht hW => ⟨⟨0, (), rfl, hz.symm, by rw [ht]; exact hP9, va_K.moved hW.alike hK, hD9⟩, hS.F ht⟩) hS.2.2 dX11_count_78

set_option maxHeartbeats 4000000 in
set_option maxRecDepth 100000 in
/-- at(p) with nothing told -/
theorem c_at (l : Launch) (dC : Nat → ClassId) (dI : Nat → Nat → Nat) (cB cC cI cJ cZ : ClassId) (d0 d1 d2 : Nat) (p1 : Int32)  (sz : Nat) : Met l yX10_at vX10_at { frames := 0, cells := 0, slots := 0, locals := 0 } (va_Pc [.ref d0, .int p1] (fun U => U.heap.size = sz ∧ va_P (dC, dI) vwCl [(d0, .inr (10, [.ref d1, .int 0, .ref d2, .int 0, .int 32]))] U.heap ∧ va_K (dC, dI) vwCl (TY cB cC cI cJ cZ) U ∧ va_D (fun _ => True) [(d0, .inr (10, [.ref d1, .int 0, .ref d2, .int 0, .int 32]))])) (va_Qi (fun (r : Int32) (_ : Unit) => r = -1) (fun (_ : Unit) (t : State) => va_P (dC, dI) vwCl [] t.heap ∧ va_K (dC, dI) vwCl (TY cB cC cI cJ cZ) t ∧ va_D (va_A [(d0, .inr (10, [.ref d1, .int 0, .ref d2, .int 0, .int 32]))] sz) []) (va_A [(d0, .inr (10, [.ref d1, .int 0, .ref d2, .int 0, .int 32]))] sz)) 0 0 (va_A [(d0, .inr (10, [.ref d1, .int 0, .ref d2, .int 0, .int 32]))] sz) := by
  refine Met.ofW (cc := cX10_at) (maxL := 2) (ret := (some .int)) (by decide) rfl ?_
  intro p e s m args below meth c s₁ B hml hv
  obtain ⟨rfl, hsz, hP, hK, hD0⟩ := hv
  have hx := B.exec
  have hb := B.bytes
  have hr := B.returns
  have hts := atoms_spec (ws := vX10_at) B.pre
  have hown : s.vm.findClass RX10 = some m.cls := findClass_of_methodNamed B.named
  have hlocks := B.notSynchronized
  subst hsz
  have hD := hD0.self (sz := s.heap.size)
  generalize hAe : va_A [(d0, .inr (10, [.ref d1, .int 0, .ref d2, .int 0, .int 32]))] s.heap.size = A at hD ⊢
  have hA : ∀ q : Nat, s.heap.size ≤ q → A q := fun q h => by rw [← hAe]; exact Or.inr h
  have hS : va_S A s.heap s.heap [] := va_S.rf
  have hP : va_P (dC, dI) vwCl [(d0, .inr (10, [.ref d1, .int 0, .ref d2, .int 0, .int 32]))] s.heap := hP
  have hl := lv_entry ([.ref d0, .int p1]) (n := 2) (Nat.le_of_ble_eq_true rfl)
  rw [lg_entry_eq]
  generalize (lg_sl ([.ref d0, .int p1]) ++ List.replicate (2 - (lg_sl ([.ref d0, .int p1])).length) Slot.unset).toArray = ls at hl ⊢
  have hl : lv_has ls 2 [(0, .ref d0), (1, .int p1)] := hl
  refine lv_iload_n hx hb dX10_at_0 rfl (lv_at hl 1 rfl) ?_
  refine lv_if_lt (tgt := 30) hx hb dX10_at_1 (by decide) (fun c1 => ?_) (fun c1 => ?_)
  · refine lv_iconst (v := (-1)) hx hb dX10_at_30 (by decide) ?_
    refine W.widen (k := 0) (n := 0) (Nat.le_of_ble_eq_true rfl) (Nat.le_of_ble_eq_true rfl) ?_
    have hP9 := hP.sub (ws' := []) [] rfl
    have hD9 := hD.sub (ws' := []) [] (by decide) rfl
    exact W.iret (v := (-1)) hx hb hr (fun t ht hW => ⟨⟨(-1), (), rfl, rfl, by rw [ht]; exact hP9, va_K.moved hW.alike hK, hD9⟩, hS.F ht⟩) hS.2.2 dX10_at_31
  · refine lv_iload_n hx hb dX10_at_4 rfl (lv_at hl 1 rfl) ?_
    refine lv_aload_n hx hb dX10_at_5 rfl (lv_at hl 0 rfl) ?_
    refine va_get (D := (dC, dI)) (ci := 10) (v := .int 0) (C := RX10) (T := TX10) (N := 5) hx hb hts inX10_at_X10 hown hK hP 0 rfl rfl 1 (by decide) (hts _ lkX10_at_f15) (fun _ h9 => h9) rfl dX10_at_6 ?_
    refine lv_icmp_ge (tgt := 30) hx hb dX10_at_9 (by decide) (fun _ => ?_) (fun q9 => absurd (Int32.not_lt.mp c1) q9)
    refine lv_iconst (v := (-1)) hx hb dX10_at_30 (by decide) ?_
    refine W.widen (k := 0) (n := 0) (Nat.le_of_ble_eq_true rfl) (Nat.le_of_ble_eq_true rfl) ?_
    have hP9 := hP.sub (ws' := []) [] rfl
    have hD9 := hD.sub (ws' := []) [] (by decide) rfl
    exact W.iret (v := (-1)) hx hb hr (fun t ht hW => ⟨⟨(-1), (), rfl, rfl, by rw [ht]; exact hP9, va_K.moved hW.alike hK, hD9⟩, hS.F ht⟩) hS.2.2 dX10_at_31

set_option maxHeartbeats 4000000 in
set_option maxRecDepth 100000 in
/-- character(p) of a new object -/
theorem c_character (l : Launch) (dC : Nat → ClassId) (dI : Nat → Nat → Nat) (cB cC cI cJ cZ : ClassId) (x0 t0 n0 f0 d0 r0 e0 d1 d2 : Nat) (p1 : Int32)  (sz : Nat) : Met l yX11_character vX11_character { frames := 1, cells := 0, slots := 0, locals := 21 } (va_Pc [.ref x0, .int p1] (fun U => U.heap.size = sz ∧ va_P (dC, dI) vwCl [(x0, .inr (11, [.ref t0, .ref n0, .ref f0, .ref d0, .ref r0, .ref e0, .int 0, .int (-1), .int 0, .int 0, .int 0])), (d0, .inr (10, [.ref d1, .int 0, .ref d2, .int 0, .int 32]))] U.heap ∧ va_K (dC, dI) vwCl (TY cB cC cI cJ cZ) U ∧ va_D (fun _ => True) [(x0, .inr (11, [.ref t0, .ref n0, .ref f0, .ref d0, .ref r0, .ref e0, .int 0, .int (-1), .int 0, .int 0, .int 0])), (d0, .inr (10, [.ref d1, .int 0, .ref d2, .int 0, .int 32]))])) (va_Qi (fun (r : Int32) (_ : Unit) => r = -1) (fun (_ : Unit) (t : State) => va_P (dC, dI) vwCl [] t.heap ∧ va_K (dC, dI) vwCl (TY cB cC cI cJ cZ) t ∧ va_D (va_A [(x0, .inr (11, [.ref t0, .ref n0, .ref f0, .ref d0, .ref r0, .ref e0, .int 0, .int (-1), .int 0, .int 0, .int 0])), (d0, .inr (10, [.ref d1, .int 0, .ref d2, .int 0, .int 32]))] sz) []) (va_A [(x0, .inr (11, [.ref t0, .ref n0, .ref f0, .ref d0, .ref r0, .ref e0, .int 0, .int (-1), .int 0, .int 0, .int 0])), (d0, .inr (10, [.ref d1, .int 0, .ref d2, .int 0, .int 32]))] sz)) 0 0 (va_A [(x0, .inr (11, [.ref t0, .ref n0, .ref f0, .ref d0, .ref r0, .ref e0, .int 0, .int (-1), .int 0, .int 0, .int 0])), (d0, .inr (10, [.ref d1, .int 0, .ref d2, .int 0, .int 32]))] sz) := by
  refine Met.ofW (cc := cX11_character) (maxL := 2) (ret := (some .int)) (by decide) rfl ?_
  intro p e s m args below meth c s₁ B hml hv
  obtain ⟨rfl, hsz, hP, hK, hD0⟩ := hv
  have hx := B.exec
  have hb := B.bytes
  have hr := B.returns
  have hts := atoms_spec (ws := vX11_character) B.pre
  have hown : s.vm.findClass RX11 = some m.cls := findClass_of_methodNamed B.named
  have hlocks := B.notSynchronized
  subst hsz
  have hD := hD0.self (sz := s.heap.size)
  generalize hAe : va_A [(x0, .inr (11, [.ref t0, .ref n0, .ref f0, .ref d0, .ref r0, .ref e0, .int 0, .int (-1), .int 0, .int 0, .int 0])), (d0, .inr (10, [.ref d1, .int 0, .ref d2, .int 0, .int 32]))] s.heap.size = A at hD ⊢
  have hA : ∀ q : Nat, s.heap.size ≤ q → A q := fun q h => by rw [← hAe]; exact Or.inr h
  have hS : va_S A s.heap s.heap [] := va_S.rf
  have hP : va_P (dC, dI) vwCl [(x0, .inr (11, [.ref t0, .ref n0, .ref f0, .ref d0, .ref r0, .ref e0, .int 0, .int (-1), .int 0, .int 0, .int 0])), (d0, .inr (10, [.ref d1, .int 0, .ref d2, .int 0, .int 32]))] s.heap := hP
  have hl := lv_entry ([.ref x0, .int p1]) (n := 2) (Nat.le_of_ble_eq_true rfl)
  rw [lg_entry_eq]
  generalize (lg_sl ([.ref x0, .int p1]) ++ List.replicate (2 - (lg_sl ([.ref x0, .int p1])).length) Slot.unset).toArray = ls at hl ⊢
  have hl : lv_has ls 2 [(0, .ref x0), (1, .int p1)] := hl
  refine lv_aload_n hx hb dX11_character_0 rfl (lv_at hl 0 rfl) ?_
  refine va_get (D := (dC, dI)) (ci := 11) (v := .ref d0) (C := RX11) (T := TX11) (N := 11) hx hb hts inX11_character_X11 hown hK hP 0 rfl rfl 3 (by decide) (hts _ lkX11_character_f30) (fun _ h9 => h9) rfl dX11_character_1 ?_
  refine lv_iload_n hx hb dX11_character_4 rfl (lv_at hl 1 rfl) ?_
  have hPc := hP.sub (ws' := [(d0, .inr (10, [.ref d1, .int 0, .ref d2, .int 0, .int 32]))]) [1] rfl
  have hDc := hD.sub (ws' := [(d0, .inr (10, [.ref d1, .int 0, .ref d2, .int 0, .int 32]))]) [1] (by decide) rfl
  have hFc := va_free (wc := [(d0, .inr (10, [.ref d1, .int 0, .ref d2, .int 0, .int 32]))]) hD hS hA [1] rfl
  refine va_calli (va_runV (As := [.int p1]) (rest := []) ⟨hx, hb, hml, hown, hts⟩ (c_at l dC dI cB cC cI cJ cZ d0 d1 d2 p1  s.heap.size) (cwV 1 hts kX11_character_X10_at_102 rfl rfl rfl (by decide +kernel) ⟨Nat.le_of_ble_eq_true rfl, Nat.le_of_ble_eq_true rfl⟩) ⟨fun a U g mk q => by obtain ⟨q0, q1, qP, qK, qD⟩ := q; exact ⟨q0, q1, qP, va_K.moved (u := U) (U := U.calling g mk a) (Vm.Alike.refl U.vm) qK, qD⟩, va_recv hK hPc (ci := 10) (q0 := 0) rfl rfl, fun U hU hW => ⟨rfl, by rw [hU], by rw [hU]; exact hPc, va_K.moved hW.alike hK, hDc.weaken (fun _ _ _ _ => trivial)⟩⟩ rfl rfl hl.1 rfl (lv_room (Nat.le_of_ble_eq_true rfl)) dX11_character_5 ⟨Nat.le_of_ble_eq_true rfl, Nat.le_of_ble_eq_true rfl⟩) hS (fun q _ h => hFc q h) hFc (fun r_1 _u t H locs ht hvm hw hB hz1 hk1 hS => ?_)
  obtain ⟨hP1, hK1, hD1⟩ := hB
  rw [ht] at hP1
  obtain ⟨hP, hD⟩ := va_join (wr := [(x0, .inr (11, [.ref t0, .ref n0, .ref f0, .ref d0, .ref r0, .ref e0, .int 0, .int (-1), .int 0, .int 0, .int 0]))]) (w1 := []) hP hD [1] [0] rfl rfl (by decide) (by decide) hk1 hFc hP1 hD1
  have hP : va_P (dC, dI) vwCl [(x0, .inr (11, [.ref t0, .ref n0, .ref f0, .ref d0, .ref r0, .ref e0, .int 0, .int (-1), .int 0, .int 0, .int 0]))] H := hP
  have hD : va_D A [(x0, .inr (11, [.ref t0, .ref n0, .ref f0, .ref d0, .ref r0, .ref e0, .int 0, .int (-1), .int 0, .int 0, .int 0]))] := hD
  refine W.widen (k := 0) (n := 0) (Nat.le_of_ble_eq_true rfl) (Nat.le_of_ble_eq_true rfl) ?_
  subst hw
  refine W.widen (k := 0) (n := 0) (Nat.le_of_ble_eq_true rfl) (Nat.le_of_ble_eq_true rfl) ?_
  have hP9 := hP.sub (ws' := []) [] rfl
  have hD9 := hD.sub (ws' := []) [] (by decide) rfl
  exact W.iret (v := (-1)) hx hb hr (fun t ht hW => ⟨⟨(-1), (), rfl, rfl, by rw [ht]; exact hP9, va_K.moved hW.alike hK, hD9⟩, hS.F ht⟩) hS.2.2 dX11_character_8

set_option maxHeartbeats 4000000 in
set_option maxRecDepth 100000 in
/-- means() of an empty text -/
theorem c_means (l : Launch) (dC : Nat → ClassId) (dI : Nat → Nat → Nat) (cB cC cI cJ cZ : ClassId) (x0 t0 n0 f0 d0 r0 e0 r1 : Nat)  (sz : Nat) : Met l yX11_means vX11_means { frames := 1, cells := 0, slots := 0, locals := 24 } (va_Pc [.ref x0] (fun U => U.heap.size = sz ∧ va_P (dC, dI) vwCl [(x0, .inr (11, [.ref t0, .ref n0, .ref f0, .ref d0, .ref r0, .ref e0, .int 0, .int (-1), .int 0, .int 0, .int 0])), (r0, .inr (7, [.ref f0, .ref n0, .ref r1, .int 0]))] U.heap ∧ va_K (dC, dI) vwCl (TY cB cC cI cJ cZ) U ∧ va_D (fun _ => True) [(x0, .inr (11, [.ref t0, .ref n0, .ref f0, .ref d0, .ref r0, .ref e0, .int 0, .int (-1), .int 0, .int 0, .int 0])), (r0, .inr (7, [.ref f0, .ref n0, .ref r1, .int 0]))])) (va_Qi (fun (r : Int32) (_ : Unit) => r = -1) (fun (_ : Unit) (t : State) => va_P (dC, dI) vwCl [] t.heap ∧ va_K (dC, dI) vwCl (TY cB cC cI cJ cZ) t ∧ va_D (va_A [(x0, .inr (11, [.ref t0, .ref n0, .ref f0, .ref d0, .ref r0, .ref e0, .int 0, .int (-1), .int 0, .int 0, .int 0])), (r0, .inr (7, [.ref f0, .ref n0, .ref r1, .int 0]))] sz) []) (va_A [(x0, .inr (11, [.ref t0, .ref n0, .ref f0, .ref d0, .ref r0, .ref e0, .int 0, .int (-1), .int 0, .int 0, .int 0])), (r0, .inr (7, [.ref f0, .ref n0, .ref r1, .int 0]))] sz)) 0 0 (va_A [(x0, .inr (11, [.ref t0, .ref n0, .ref f0, .ref d0, .ref r0, .ref e0, .int 0, .int (-1), .int 0, .int 0, .int 0])), (r0, .inr (7, [.ref f0, .ref n0, .ref r1, .int 0]))] sz) := by
  refine Met.ofW (cc := cX11_means) (maxL := 5) (ret := (some .int)) (by decide) rfl ?_
  intro p e s m args below meth c s₁ B hml hv
  obtain ⟨rfl, hsz, hP, hK, hD0⟩ := hv
  have hx := B.exec
  have hb := B.bytes
  have hr := B.returns
  have hts := atoms_spec (ws := vX11_means) B.pre
  have hown : s.vm.findClass RX11 = some m.cls := findClass_of_methodNamed B.named
  have hlocks := B.notSynchronized
  subst hsz
  have hD := hD0.self (sz := s.heap.size)
  generalize hAe : va_A [(x0, .inr (11, [.ref t0, .ref n0, .ref f0, .ref d0, .ref r0, .ref e0, .int 0, .int (-1), .int 0, .int 0, .int 0])), (r0, .inr (7, [.ref f0, .ref n0, .ref r1, .int 0]))] s.heap.size = A at hD ⊢
  have hA : ∀ q : Nat, s.heap.size ≤ q → A q := fun q h => by rw [← hAe]; exact Or.inr h
  have hS : va_S A s.heap s.heap [] := va_S.rf
  have hP : va_P (dC, dI) vwCl [(x0, .inr (11, [.ref t0, .ref n0, .ref f0, .ref d0, .ref r0, .ref e0, .int 0, .int (-1), .int 0, .int 0, .int 0])), (r0, .inr (7, [.ref f0, .ref n0, .ref r1, .int 0]))] s.heap := hP
  have hl := lv_entry ([.ref x0]) (n := 5) (Nat.le_of_ble_eq_true rfl)
  rw [lg_entry_eq]
  generalize (lg_sl ([.ref x0]) ++ List.replicate (5 - (lg_sl ([.ref x0])).length) Slot.unset).toArray = ls at hl ⊢
  have hl : lv_has ls 5 [(0, .ref x0)] := hl
  refine lv_aload_n hx hb dX11_means_0 rfl (lv_at hl 0 rfl) ?_
  refine va_get (D := (dC, dI)) (ci := 11) (v := .ref r0) (C := RX11) (T := TX11) (N := 11) hx hb hts inX11_means_X11 hown hK hP 0 rfl rfl 4 (by decide) (hts _ lkX11_means_f39) (fun _ h9 => h9) rfl dX11_means_1 ?_
  refine lv_aload_n hx hb dX11_means_4 rfl (lv_at hl 0 rfl) ?_
  refine va_get (D := (dC, dI)) (ci := 11) (v := .ref t0) (C := RX11) (T := TX11) (N := 11) hx hb hts inX11_means_X11 hown hK hP 0 rfl rfl 0 (by decide) (hts _ lkX11_means_f9) (fun _ h9 => h9) rfl dX11_means_5 ?_
  refine lv_iconst (v := 0) hx hb dX11_means_8 (by decide) ?_
  refine lv_aload_n hx hb dX11_means_9 rfl (lv_at hl 0 rfl) ?_
  refine va_get (D := (dC, dI)) (ci := 11) (v := .int 0) (C := RX11) (T := TX11) (N := 11) hx hb hts inX11_means_X11 hown hK hP 0 rfl rfl 6 (by decide) (hts _ lkX11_means_f52) (fun _ h9 => h9) rfl dX11_means_10 ?_
  have hPc := hP.sub (ws' := [(r0, .inr (7, [.ref f0, .ref n0, .ref r1, .int 0]))]) [1] rfl
  have hDc := hD.sub (ws' := [(r0, .inr (7, [.ref f0, .ref n0, .ref r1, .int 0]))]) [1] (by decide) rfl
  have hFc := va_free (wc := [(r0, .inr (7, [.ref f0, .ref n0, .ref r1, .int 0]))]) hD hS hA [1] rfl
  refine va_calli (va_runV (As := [.ref t0, .int 0, .int 0]) (rest := []) ⟨hx, hb, hml, hown, hts⟩ (c_tokenFrom l dC dI cB cC cI cJ cZ r0 f0 n0 r1 t0  s.heap.size) (cwV 3 hts kX11_means_X7_tokenFrom_106 rfl rfl rfl (by decide +kernel) ⟨Nat.le_of_ble_eq_true rfl, Nat.le_of_ble_eq_true rfl⟩) ⟨fun a U g mk q => by obtain ⟨q0, q1, qP, qK, qD⟩ := q; exact ⟨q0, q1, qP, va_K.moved (u := U) (U := U.calling g mk a) (Vm.Alike.refl U.vm) qK, qD⟩, va_recv hK hPc (ci := 7) (q0 := 0) rfl rfl, fun U hU hW => ⟨rfl, by rw [hU], by rw [hU]; exact hPc, va_K.moved hW.alike hK, hDc.weaken (fun _ _ _ _ => trivial)⟩⟩ rfl rfl hl.1 rfl (lv_room (Nat.le_of_ble_eq_true rfl)) dX11_means_13 ⟨Nat.le_of_ble_eq_true rfl, Nat.le_of_ble_eq_true rfl⟩) hS (fun q _ h => hFc q h) hFc (fun r_1 _u t H locs ht hvm hw hB hz1 hk1 hS => ?_)
  obtain ⟨hP1, hK1, hD1⟩ := hB
  rw [ht] at hP1
  obtain ⟨hP, hD⟩ := va_join (wr := [(x0, .inr (11, [.ref t0, .ref n0, .ref f0, .ref d0, .ref r0, .ref e0, .int 0, .int (-1), .int 0, .int 0, .int 0]))]) (w1 := [(r0, .inr (7, [.ref f0, .ref n0, .ref r1, .int 0]))]) hP hD [1] [0] rfl rfl (by decide) (by decide) hk1 hFc hP1 hD1
  have hP : va_P (dC, dI) vwCl [(x0, .inr (11, [.ref t0, .ref n0, .ref f0, .ref d0, .ref r0, .ref e0, .int 0, .int (-1), .int 0, .int 0, .int 0])), (r0, .inr (7, [.ref f0, .ref n0, .ref r1, .int 0]))] H := hP
  have hD : va_D A [(x0, .inr (11, [.ref t0, .ref n0, .ref f0, .ref d0, .ref r0, .ref e0, .int 0, .int (-1), .int 0, .int 0, .int 0])), (r0, .inr (7, [.ref f0, .ref n0, .ref r1, .int 0]))] := hD
  refine W.widen (k := 0) (n := 0) (Nat.le_of_ble_eq_true rfl) (Nat.le_of_ble_eq_true rfl) ?_
  subst hw
  refine lv_istore_n (lv' := [(1, .int 0), (0, .ref x0)]) hx hb dX11_means_16 rfl hl (by decide) rfl (fun ls hl => ?_)
  refine lv_aload_n hx hb dX11_means_17 rfl (lv_at hl 1 rfl) ?_
  refine va_get (D := (dC, dI)) (ci := 11) (v := .ref r0) (C := RX11) (T := TX11) (N := 11) hx hb hts inX11_means_X11 hown hK hP 0 rfl rfl 4 (by decide) (hts _ lkX11_means_f39) (fun _ h9 => h9) rfl dX11_means_18 ?_
  refine lv_aload_n hx hb dX11_means_21 rfl (lv_at hl 1 rfl) ?_
  refine va_get (D := (dC, dI)) (ci := 11) (v := .ref t0) (C := RX11) (T := TX11) (N := 11) hx hb hts inX11_means_X11 hown hK hP 0 rfl rfl 0 (by decide) (hts _ lkX11_means_f9) (fun _ h9 => h9) rfl dX11_means_22 ?_
  refine lv_iload_n hx hb dX11_means_25 rfl (lv_at hl 0 rfl) ?_
  refine lv_aload_n hx hb dX11_means_26 rfl (lv_at hl 1 rfl) ?_
  refine va_get (D := (dC, dI)) (ci := 11) (v := .int 0) (C := RX11) (T := TX11) (N := 11) hx hb hts inX11_means_X11 hown hK hP 0 rfl rfl 6 (by decide) (hts _ lkX11_means_f52) (fun _ h9 => h9) rfl dX11_means_27 ?_
  have hPc := hP.sub (ws' := [(r0, .inr (7, [.ref f0, .ref n0, .ref r1, .int 0]))]) [1] rfl
  have hDc := hD.sub (ws' := [(r0, .inr (7, [.ref f0, .ref n0, .ref r1, .int 0]))]) [1] (by decide) rfl
  have hFc := va_free (wc := [(r0, .inr (7, [.ref f0, .ref n0, .ref r1, .int 0]))]) hD hS hA [1] rfl
  refine va_calli (va_runV (As := [.ref t0, .int 0, .int 0]) (rest := []) ⟨hx, hb, hml, hown, hts⟩ (c_tokenEnd l dC dI cB cC cI cJ cZ r0 f0 n0 r1 t0  H.size) (cwV 3 hts kX11_means_X7_tokenEnd_110 rfl rfl rfl (by decide +kernel) ⟨Nat.le_of_ble_eq_true rfl, Nat.le_of_ble_eq_true rfl⟩) ⟨fun a U g mk q => by obtain ⟨q0, q1, qP, qK, qD⟩ := q; exact ⟨q0, q1, qP, va_K.moved (u := U) (U := U.calling g mk a) (Vm.Alike.refl U.vm) qK, qD⟩, va_recv hK hPc (ci := 7) (q0 := 0) rfl rfl, fun U hU hW => ⟨rfl, by rw [hU], by rw [hU]; exact hPc, va_K.moved hW.alike hK, hDc.weaken (fun _ _ _ _ => trivial)⟩⟩ rfl rfl hl.1 rfl (lv_room (Nat.le_of_ble_eq_true rfl)) dX11_means_30 ⟨Nat.le_of_ble_eq_true rfl, Nat.le_of_ble_eq_true rfl⟩) hS (fun q _ h => hFc q h) hFc (fun r_2 _u t H locs ht hvm hw hB hz1 hk1 hS => ?_)
  obtain ⟨hP1, hK1, hD1⟩ := hB
  rw [ht] at hP1
  obtain ⟨hP, hD⟩ := va_join (wr := [(x0, .inr (11, [.ref t0, .ref n0, .ref f0, .ref d0, .ref r0, .ref e0, .int 0, .int (-1), .int 0, .int 0, .int 0]))]) (w1 := [(r0, .inr (7, [.ref f0, .ref n0, .ref r1, .int 0]))]) hP hD [1] [0] rfl rfl (by decide) (by decide) hk1 hFc hP1 hD1
  have hP : va_P (dC, dI) vwCl [(x0, .inr (11, [.ref t0, .ref n0, .ref f0, .ref d0, .ref r0, .ref e0, .int 0, .int (-1), .int 0, .int 0, .int 0])), (r0, .inr (7, [.ref f0, .ref n0, .ref r1, .int 0]))] H := hP
  have hD : va_D A [(x0, .inr (11, [.ref t0, .ref n0, .ref f0, .ref d0, .ref r0, .ref e0, .int 0, .int (-1), .int 0, .int 0, .int 0])), (r0, .inr (7, [.ref f0, .ref n0, .ref r1, .int 0]))] := hD
  refine W.widen (k := 0) (n := 0) (Nat.le_of_ble_eq_true rfl) (Nat.le_of_ble_eq_true rfl) ?_
  subst hw
  refine lv_istore_n (lv' := [(2, .int 0), (1, .int 0), (0, .ref x0)]) hx hb dX11_means_33 rfl hl (by decide) rfl (fun ls hl => ?_)
  refine lv_aload_n hx hb dX11_means_34 rfl (lv_at hl 2 rfl) ?_
  refine va_get (D := (dC, dI)) (ci := 11) (v := .ref r0) (C := RX11) (T := TX11) (N := 11) hx hb hts inX11_means_X11 hown hK hP 0 rfl rfl 4 (by decide) (hts _ lkX11_means_f39) (fun _ h9 => h9) rfl dX11_means_35 ?_
  refine lv_aload_n hx hb dX11_means_38 rfl (lv_at hl 2 rfl) ?_
  refine va_get (D := (dC, dI)) (ci := 11) (v := .ref t0) (C := RX11) (T := TX11) (N := 11) hx hb hts inX11_means_X11 hown hK hP 0 rfl rfl 0 (by decide) (hts _ lkX11_means_f9) (fun _ h9 => h9) rfl dX11_means_39 ?_
  refine lv_iload_n hx hb dX11_means_42 rfl (lv_at hl 0 rfl) ?_
  refine lv_aload_n hx hb dX11_means_43 rfl (lv_at hl 2 rfl) ?_
  refine va_get (D := (dC, dI)) (ci := 11) (v := .int 0) (C := RX11) (T := TX11) (N := 11) hx hb hts inX11_means_X11 hown hK hP 0 rfl rfl 6 (by decide) (hts _ lkX11_means_f52) (fun _ h9 => h9) rfl dX11_means_44 ?_
  have hPc := hP.sub (ws' := [(r0, .inr (7, [.ref f0, .ref n0, .ref r1, .int 0]))]) [1] rfl
  have hDc := hD.sub (ws' := [(r0, .inr (7, [.ref f0, .ref n0, .ref r1, .int 0]))]) [1] (by decide) rfl
  have hFc := va_free (wc := [(r0, .inr (7, [.ref f0, .ref n0, .ref r1, .int 0]))]) hD hS hA [1] rfl
  refine va_calli (va_runV (As := [.ref t0, .int 0, .int 0]) (rest := []) ⟨hx, hb, hml, hown, hts⟩ (c_tokenFrom l dC dI cB cC cI cJ cZ r0 f0 n0 r1 t0  H.size) (cwV 3 hts kX11_means_X7_tokenFrom_106 rfl rfl rfl (by decide +kernel) ⟨Nat.le_of_ble_eq_true rfl, Nat.le_of_ble_eq_true rfl⟩) ⟨fun a U g mk q => by obtain ⟨q0, q1, qP, qK, qD⟩ := q; exact ⟨q0, q1, qP, va_K.moved (u := U) (U := U.calling g mk a) (Vm.Alike.refl U.vm) qK, qD⟩, va_recv hK hPc (ci := 7) (q0 := 0) rfl rfl, fun U hU hW => ⟨rfl, by rw [hU], by rw [hU]; exact hPc, va_K.moved hW.alike hK, hDc.weaken (fun _ _ _ _ => trivial)⟩⟩ rfl rfl hl.1 rfl (lv_room (Nat.le_of_ble_eq_true rfl)) dX11_means_47 ⟨Nat.le_of_ble_eq_true rfl, Nat.le_of_ble_eq_true rfl⟩) hS (fun q _ h => hFc q h) hFc (fun r_3 _u t H locs ht hvm hw hB hz1 hk1 hS => ?_)
  obtain ⟨hP1, hK1, hD1⟩ := hB
  rw [ht] at hP1
  obtain ⟨hP, hD⟩ := va_join (wr := [(x0, .inr (11, [.ref t0, .ref n0, .ref f0, .ref d0, .ref r0, .ref e0, .int 0, .int (-1), .int 0, .int 0, .int 0]))]) (w1 := [(r0, .inr (7, [.ref f0, .ref n0, .ref r1, .int 0]))]) hP hD [1] [0] rfl rfl (by decide) (by decide) hk1 hFc hP1 hD1
  have hP : va_P (dC, dI) vwCl [(x0, .inr (11, [.ref t0, .ref n0, .ref f0, .ref d0, .ref r0, .ref e0, .int 0, .int (-1), .int 0, .int 0, .int 0])), (r0, .inr (7, [.ref f0, .ref n0, .ref r1, .int 0]))] H := hP
  have hD : va_D A [(x0, .inr (11, [.ref t0, .ref n0, .ref f0, .ref d0, .ref r0, .ref e0, .int 0, .int (-1), .int 0, .int 0, .int 0])), (r0, .inr (7, [.ref f0, .ref n0, .ref r1, .int 0]))] := hD
  refine W.widen (k := 0) (n := 0) (Nat.le_of_ble_eq_true rfl) (Nat.le_of_ble_eq_true rfl) ?_
  subst hw
  refine lv_aload_n hx hb dX11_means_50 rfl (lv_at hl 2 rfl) ?_
  refine va_get (D := (dC, dI)) (ci := 11) (v := .int 0) (C := RX11) (T := TX11) (N := 11) hx hb hts inX11_means_X11 hown hK hP 0 rfl rfl 6 (by decide) (hts _ lkX11_means_f52) (fun _ h9 => h9) rfl dX11_means_51 ?_
  refine lv_icmp_ne (tgt := 61) hx hb dX11_means_54 (by decide) (fun q9 => absurd q9 (by decide)) (fun _ => ?_)
  refine lv_iconst (v := 1) hx hb dX11_means_57 (by decide) ?_
  refine lv_goto (tgt := 62) hx hb dX11_means_58 (by decide) ?_
  refine lv_istore_n (lv' := [(3, .int 1), (2, .int 0), (1, .int 0), (0, .ref x0)]) hx hb dX11_means_62 rfl hl (by decide) rfl (fun ls hl => ?_)
  refine lv_aload_n hx hb dX11_means_63 rfl (lv_at hl 3 rfl) ?_
  refine lv_iconst (v := 0) hx hb dX11_means_64 (by decide) ?_
  refine va_put (D := (dC, dI)) (ci := 11) (v := .int 0) (ty := .int) (C := RX11) (T := TX11) (N := 11) hx hb hts inX11_means_X11 tyX11 tyX11_ok nmX11 hown hK hP hD hS 0 rfl rfl 6 (by decide) (hts _ lkX11_means_f52) (fun _ h9 => h9) rfl (by decide +kernel) rfl rfl (Nat.le_of_ble_eq_true rfl) dX11_means_65 (fun H locs hP hD hS => ?_)
  have hP : va_P (dC, dI) vwCl [(x0, .inr (11, [.ref t0, .ref n0, .ref f0, .ref d0, .ref r0, .ref e0, .int 0, .int (-1), .int 0, .int 0, .int 0])), (r0, .inr (7, [.ref f0, .ref n0, .ref r1, .int 0]))] H := hP
  have hD : va_D A [(x0, .inr (11, [.ref t0, .ref n0, .ref f0, .ref d0, .ref r0, .ref e0, .int 0, .int (-1), .int 0, .int 0, .int 0])), (r0, .inr (7, [.ref f0, .ref n0, .ref r1, .int 0]))] := hD
  refine lv_iload_n hx hb dX11_means_68 rfl (lv_at hl 0 rfl) ?_
  refine lv_if_eq (tgt := 88) hx hb dX11_means_69 (by decide) (fun q9 => absurd q9 (by decide)) (fun _ => ?_)
  refine lv_aload_n hx hb dX11_means_72 rfl (lv_at hl 3 rfl) ?_
  refine va_get (D := (dC, dI)) (ci := 11) (v := .ref r0) (C := RX11) (T := TX11) (N := 11) hx hb hts inX11_means_X11 hown hK hP 0 rfl rfl 4 (by decide) (hts _ lkX11_means_f39) (fun _ h9 => h9) rfl dX11_means_73 ?_
  refine lv_aload_n hx hb dX11_means_76 rfl (lv_at hl 3 rfl) ?_
  refine va_get (D := (dC, dI)) (ci := 11) (v := .ref t0) (C := RX11) (T := TX11) (N := 11) hx hb hts inX11_means_X11 hown hK hP 0 rfl rfl 0 (by decide) (hts _ lkX11_means_f9) (fun _ h9 => h9) rfl dX11_means_77 ?_
  refine lv_iload_n hx hb dX11_means_80 rfl (lv_at hl 2 rfl) ?_
  refine lv_iload_n hx hb dX11_means_81 rfl (lv_at hl 1 rfl) ?_
  have hPc := hP.sub (ws' := [(r0, .inr (7, [.ref f0, .ref n0, .ref r1, .int 0]))]) [1] rfl
  have hDc := hD.sub (ws' := [(r0, .inr (7, [.ref f0, .ref n0, .ref r1, .int 0]))]) [1] (by decide) rfl
  have hFc := va_free (wc := [(r0, .inr (7, [.ref f0, .ref n0, .ref r1, .int 0]))]) hD hS hA [1] rfl
  refine va_calli (va_runV (As := [.ref t0, .int 0, .int 0]) (rest := []) ⟨hx, hb, hml, hown, hts⟩ (c_isSymbol l dC dI cB cC cI cJ cZ r0 f0 n0 r1 t0  H.size) (cwV 3 hts kX11_means_X7_isSymbol_113 rfl rfl rfl (by decide +kernel) ⟨Nat.le_of_ble_eq_true rfl, Nat.le_of_ble_eq_true rfl⟩) ⟨fun a U g mk q => by obtain ⟨q0, q1, qP, qK, qD⟩ := q; exact ⟨q0, q1, qP, va_K.moved (u := U) (U := U.calling g mk a) (Vm.Alike.refl U.vm) qK, qD⟩, va_recv hK hPc (ci := 7) (q0 := 0) rfl rfl, fun U hU hW => ⟨rfl, by rw [hU], by rw [hU]; exact hPc, va_K.moved hW.alike hK, hDc.weaken (fun _ _ _ _ => trivial)⟩⟩ rfl rfl hl.1 rfl (lv_room (Nat.le_of_ble_eq_true rfl)) dX11_means_82 ⟨Nat.le_of_ble_eq_true rfl, Nat.le_of_ble_eq_true rfl⟩) hS (fun q _ h => hFc q h) hFc (fun r_4 _u t H locs ht hvm hw hB hz1 hk1 hS => ?_)
  obtain ⟨hP1, hK1, hD1⟩ := hB
  rw [ht] at hP1
  obtain ⟨hP, hD⟩ := va_join (wr := [(x0, .inr (11, [.ref t0, .ref n0, .ref f0, .ref d0, .ref r0, .ref e0, .int 0, .int (-1), .int 0, .int 0, .int 0]))]) (w1 := [(r0, .inr (7, [.ref f0, .ref n0, .ref r1, .int 0]))]) hP hD [1] [0] rfl rfl (by decide) (by decide) hk1 hFc hP1 hD1
  have hP : va_P (dC, dI) vwCl [(x0, .inr (11, [.ref t0, .ref n0, .ref f0, .ref d0, .ref r0, .ref e0, .int 0, .int (-1), .int 0, .int 0, .int 0])), (r0, .inr (7, [.ref f0, .ref n0, .ref r1, .int 0]))] H := hP
  have hD : va_D A [(x0, .inr (11, [.ref t0, .ref n0, .ref f0, .ref d0, .ref r0, .ref e0, .int 0, .int (-1), .int 0, .int 0, .int 0])), (r0, .inr (7, [.ref f0, .ref n0, .ref r1, .int 0]))] := hD
  refine W.widen (k := 0) (n := 0) (Nat.le_of_ble_eq_true rfl) (Nat.le_of_ble_eq_true rfl) ?_
  subst hw
  refine lv_if_ne (tgt := 90) hx hb dX11_means_85 (by decide) (fun q9 => absurd q9 (by decide)) (fun _ => ?_)
  refine lv_iconst (v := (-1)) hx hb dX11_means_88 (by decide) ?_
  refine W.widen (k := 0) (n := 0) (Nat.le_of_ble_eq_true rfl) (Nat.le_of_ble_eq_true rfl) ?_
  have hP9 := hP.sub (ws' := []) [] rfl
  have hD9 := hD.sub (ws' := []) [] (by decide) rfl
  exact W.iret (v := (-1)) hx hb hr (fun t ht hW => ⟨⟨(-1), (), rfl, rfl, by rw [ht]; exact hP9, va_K.moved hW.alike hK, hD9⟩, hS.F ht⟩) hS.2.2 dX11_means_89

set_option maxHeartbeats 4000000 in
set_option maxRecDepth 100000 in
/-- canBeRead with nothing told -/
theorem c_canBeRead (l : Launch) (dC : Nat → ClassId) (dI : Nat → Nat → Nat) (cB cC cI cJ cZ : ClassId) (d0 d1 d2 : Nat)  (sz : Nat) : Met l yX10_canBeRead vX10_canBeRead { frames := 0, cells := 0, slots := 0, locals := 0 } (va_Pc [.ref d0] (fun U => U.heap.size = sz ∧ va_P (dC, dI) vwCl [(d0, .inr (10, [.ref d1, .int 0, .ref d2, .int 0, .int 32]))] U.heap ∧ va_K (dC, dI) vwCl (TY cB cC cI cJ cZ) U ∧ va_D (fun _ => True) [(d0, .inr (10, [.ref d1, .int 0, .ref d2, .int 0, .int 32]))])) (va_Qi (fun (r : Int32) (_ : Unit) => r = 1) (fun (_ : Unit) (t : State) => va_P (dC, dI) vwCl [] t.heap ∧ va_K (dC, dI) vwCl (TY cB cC cI cJ cZ) t ∧ va_D (va_A [(d0, .inr (10, [.ref d1, .int 0, .ref d2, .int 0, .int 32]))] sz) []) (va_A [(d0, .inr (10, [.ref d1, .int 0, .ref d2, .int 0, .int 32]))] sz)) 0 0 (va_A [(d0, .inr (10, [.ref d1, .int 0, .ref d2, .int 0, .int 32]))] sz) := by
  refine Met.ofW (cc := cX10_canBeRead) (maxL := 3) (ret := (some .boolean)) (by decide) rfl ?_
  intro p e s m args below meth c s₁ B hml hv
  obtain ⟨rfl, hsz, hP, hK, hD0⟩ := hv
  have hx := B.exec
  have hb := B.bytes
  have hr := B.returns
  have hts := atoms_spec (ws := vX10_canBeRead) B.pre
  have hown : s.vm.findClass RX10 = some m.cls := findClass_of_methodNamed B.named
  have hlocks := B.notSynchronized
  subst hsz
  have hD := hD0.self (sz := s.heap.size)
  generalize hAe : va_A [(d0, .inr (10, [.ref d1, .int 0, .ref d2, .int 0, .int 32]))] s.heap.size = A at hD ⊢
  have hA : ∀ q : Nat, s.heap.size ≤ q → A q := fun q h => by rw [← hAe]; exact Or.inr h
  have hS : va_S A s.heap s.heap [] := va_S.rf
  have hP : va_P (dC, dI) vwCl [(d0, .inr (10, [.ref d1, .int 0, .ref d2, .int 0, .int 32]))] s.heap := hP
  have hl := lv_entry ([.ref d0]) (n := 3) (Nat.le_of_ble_eq_true rfl)
  rw [lg_entry_eq]
  generalize (lg_sl ([.ref d0]) ++ List.replicate (3 - (lg_sl ([.ref d0])).length) Slot.unset).toArray = ls at hl ⊢
  have hl : lv_has ls 3 [(0, .ref d0)] := hl
  refine lv_iconst (v := 0) hx hb dX10_canBeRead_0 (by decide) ?_
  refine lv_istore_n (lv' := [(1, .int 0), (0, .ref d0)]) hx hb dX10_canBeRead_1 rfl hl (by decide) rfl (fun ls hl => ?_)
  refine lv_iconst (v := 0) hx hb dX10_canBeRead_2 (by decide) ?_
  refine lv_istore_n (lv' := [(2, .int 0), (1, .int 0), (0, .ref d0)]) hx hb dX10_canBeRead_3 rfl hl (by decide) rfl (fun ls hl => ?_)
  refine lv_iload_n hx hb dX10_canBeRead_4 rfl (lv_at hl 0 rfl) ?_
  refine lv_aload_n hx hb dX10_canBeRead_5 rfl (lv_at hl 2 rfl) ?_
  refine va_get (D := (dC, dI)) (ci := 10) (v := .int 0) (C := RX10) (T := TX10) (N := 5) hx hb hts inX10_canBeRead_X10 hown hK hP 0 rfl rfl 1 (by decide) (hts _ lkX10_canBeRead_f15) (fun _ h9 => h9) rfl dX10_canBeRead_6 ?_
  refine lv_icmp_ge (tgt := 70) hx hb dX10_canBeRead_9 (by decide) (fun _ => ?_) (fun q9 => absurd (by decide) q9)
  refine lv_iload_n hx hb dX10_canBeRead_70 rfl (lv_at hl 1 rfl) ?_
  refine lv_if_ne (tgt := 78) hx hb dX10_canBeRead_71 (by decide) (fun q9 => absurd q9 (by decide)) (fun _ => ?_)
  refine lv_iconst (v := 1) hx hb dX10_canBeRead_74 (by decide) ?_
  refine lv_goto (tgt := 79) hx hb dX10_canBeRead_75 (by decide) ?_
  refine W.widen (k := 0) (n := 0) (Nat.le_of_ble_eq_true rfl) (Nat.le_of_ble_eq_true rfl) ?_
  have hP9 := hP.sub (ws' := []) [] rfl
  have hD9 := hD.sub (ws' := []) [] (by decide) rfl
  exact W.zret (v := 1) hx hb hr (by rfl) (fun t ht hW => ⟨⟨1, (), rfl, rfl, by rw [ht]; exact hP9, va_K.moved hW.alike hK, hD9⟩, hS.F ht⟩) hS.2.2 dX10_canBeRead_79

set_option maxHeartbeats 4000000 in
set_option maxRecDepth 100000 in
/-- check() of a new object -/
theorem c_check (l : Launch) (dC : Nat → ClassId) (dI : Nat → Nat → Nat) (cB cC cI cJ cZ : ClassId) (x0 t0 n0 f0 d0 r0 e0 d1 d2 : Nat)  (sz : Nat) : Met l yX11_check vX11_check { frames := 1, cells := 0, slots := 0, locals := 22 } (va_Pc [.ref x0] (fun U => U.heap.size = sz ∧ va_P (dC, dI) vwCl [(x0, .inr (11, [.ref t0, .ref n0, .ref f0, .ref d0, .ref r0, .ref e0, .int 0, .int (-1), .int 0, .int 0, .int 0])), (d0, .inr (10, [.ref d1, .int 0, .ref d2, .int 0, .int 32]))] U.heap ∧ va_K (dC, dI) vwCl (TY cB cC cI cJ cZ) U ∧ va_D (fun _ => True) [(x0, .inr (11, [.ref t0, .ref n0, .ref f0, .ref d0, .ref r0, .ref e0, .int 0, .int (-1), .int 0, .int 0, .int 0])), (d0, .inr (10, [.ref d1, .int 0, .ref d2, .int 0, .int 32]))])) (va_Qi (fun (r : Int32) (_ : Unit) => r = 1) (fun (_ : Unit) (t : State) => va_P (dC, dI) vwCl [] t.heap ∧ va_K (dC, dI) vwCl (TY cB cC cI cJ cZ) t ∧ va_D (va_A [(x0, .inr (11, [.ref t0, .ref n0, .ref f0, .ref d0, .ref r0, .ref e0, .int 0, .int (-1), .int 0, .int 0, .int 0])), (d0, .inr (10, [.ref d1, .int 0, .ref d2, .int 0, .int 32]))] sz) []) (va_A [(x0, .inr (11, [.ref t0, .ref n0, .ref f0, .ref d0, .ref r0, .ref e0, .int 0, .int (-1), .int 0, .int 0, .int 0])), (d0, .inr (10, [.ref d1, .int 0, .ref d2, .int 0, .int 32]))] sz)) 0 0 (va_A [(x0, .inr (11, [.ref t0, .ref n0, .ref f0, .ref d0, .ref r0, .ref e0, .int 0, .int (-1), .int 0, .int 0, .int 0])), (d0, .inr (10, [.ref d1, .int 0, .ref d2, .int 0, .int 32]))] sz) := by
  refine Met.ofW (cc := cX11_check) (maxL := 1) (ret := (some .int)) (by decide) rfl ?_
  intro p e s m args below meth c s₁ B hml hv
  obtain ⟨rfl, hsz, hP, hK, hD0⟩ := hv
  have hx := B.exec
  have hb := B.bytes
  have hr := B.returns
  have hts := atoms_spec (ws := vX11_check) B.pre
  have hown : s.vm.findClass RX11 = some m.cls := findClass_of_methodNamed B.named
  have hlocks := B.notSynchronized
  subst hsz
  have hD := hD0.self (sz := s.heap.size)
  generalize hAe : va_A [(x0, .inr (11, [.ref t0, .ref n0, .ref f0, .ref d0, .ref r0, .ref e0, .int 0, .int (-1), .int 0, .int 0, .int 0])), (d0, .inr (10, [.ref d1, .int 0, .ref d2, .int 0, .int 32]))] s.heap.size = A at hD ⊢
  have hA : ∀ q : Nat, s.heap.size ≤ q → A q := fun q h => by rw [← hAe]; exact Or.inr h
  have hS : va_S A s.heap s.heap [] := va_S.rf
  have hP : va_P (dC, dI) vwCl [(x0, .inr (11, [.ref t0, .ref n0, .ref f0, .ref d0, .ref r0, .ref e0, .int 0, .int (-1), .int 0, .int 0, .int 0])), (d0, .inr (10, [.ref d1, .int 0, .ref d2, .int 0, .int 32]))] s.heap := hP
  have hl := lv_entry ([.ref x0]) (n := 1) (Nat.le_of_ble_eq_true rfl)
  rw [lg_entry_eq]
  generalize (lg_sl ([.ref x0]) ++ List.replicate (1 - (lg_sl ([.ref x0])).length) Slot.unset).toArray = ls at hl ⊢
  have hl : lv_has ls 1 [(0, .ref x0)] := hl
  refine lv_aload_n hx hb dX11_check_0 rfl (lv_at hl 0 rfl) ?_
  refine va_get (D := (dC, dI)) (ci := 11) (v := .ref d0) (C := RX11) (T := TX11) (N := 11) hx hb hts inX11_check_X11 hown hK hP 0 rfl rfl 3 (by decide) (hts _ lkX11_check_f30) (fun _ h9 => h9) rfl dX11_check_1 ?_
  have hPc := hP.sub (ws' := [(d0, .inr (10, [.ref d1, .int 0, .ref d2, .int 0, .int 32]))]) [1] rfl
  have hDc := hD.sub (ws' := [(d0, .inr (10, [.ref d1, .int 0, .ref d2, .int 0, .int 32]))]) [1] (by decide) rfl
  have hFc := va_free (wc := [(d0, .inr (10, [.ref d1, .int 0, .ref d2, .int 0, .int 32]))]) hD hS hA [1] rfl
  refine va_calli (va_runV (As := []) (rest := []) ⟨hx, hb, hml, hown, hts⟩ (c_canBeRead l dC dI cB cC cI cJ cZ d0 d1 d2  s.heap.size) (cwV 0 hts kX11_check_X10_canBeRead_123 rfl rfl rfl (by decide +kernel) ⟨Nat.le_of_ble_eq_true rfl, Nat.le_of_ble_eq_true rfl⟩) ⟨fun a U g mk q => by obtain ⟨q0, q1, qP, qK, qD⟩ := q; exact ⟨q0, q1, qP, va_K.moved (u := U) (U := U.calling g mk a) (Vm.Alike.refl U.vm) qK, qD⟩, va_recv hK hPc (ci := 10) (q0 := 0) rfl rfl, fun U hU hW => ⟨rfl, by rw [hU], by rw [hU]; exact hPc, va_K.moved hW.alike hK, hDc.weaken (fun _ _ _ _ => trivial)⟩⟩ rfl rfl hl.1 rfl (lv_room (Nat.le_of_ble_eq_true rfl)) dX11_check_4 ⟨Nat.le_of_ble_eq_true rfl, Nat.le_of_ble_eq_true rfl⟩) hS (fun q _ h => hFc q h) hFc (fun r_1 _u t H locs ht hvm hw hB hz1 hk1 hS => ?_)
  obtain ⟨hP1, hK1, hD1⟩ := hB
  rw [ht] at hP1
  obtain ⟨hP, hD⟩ := va_join (wr := [(x0, .inr (11, [.ref t0, .ref n0, .ref f0, .ref d0, .ref r0, .ref e0, .int 0, .int (-1), .int 0, .int 0, .int 0]))]) (w1 := []) hP hD [1] [0] rfl rfl (by decide) (by decide) hk1 hFc hP1 hD1
  have hP : va_P (dC, dI) vwCl [(x0, .inr (11, [.ref t0, .ref n0, .ref f0, .ref d0, .ref r0, .ref e0, .int 0, .int (-1), .int 0, .int 0, .int 0]))] H := hP
  have hD : va_D A [(x0, .inr (11, [.ref t0, .ref n0, .ref f0, .ref d0, .ref r0, .ref e0, .int 0, .int (-1), .int 0, .int 0, .int 0]))] := hD
  refine W.widen (k := 0) (n := 0) (Nat.le_of_ble_eq_true rfl) (Nat.le_of_ble_eq_true rfl) ?_
  subst hw
  refine lv_if_eq (tgt := 14) hx hb dX11_check_7 (by decide) (fun q9 => absurd q9 (by decide)) (fun _ => ?_)
  refine lv_iconst (v := 1) hx hb dX11_check_10 (by decide) ?_
  refine lv_goto (tgt := 15) hx hb dX11_check_11 (by decide) ?_
  refine W.widen (k := 0) (n := 0) (Nat.le_of_ble_eq_true rfl) (Nat.le_of_ble_eq_true rfl) ?_
  have hP9 := hP.sub (ws' := []) [] rfl
  have hD9 := hD.sub (ws' := []) [] (by decide) rfl
  exact W.iret (v := 1) hx hb hr (fun t ht hW => ⟨⟨1, (), rfl, rfl, by rw [ht]; exact hP9, va_K.moved hW.alike hK, hD9⟩, hS.F ht⟩) hS.2.2 dX11_check_15
