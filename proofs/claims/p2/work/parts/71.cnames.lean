def oX5_clear : List Cond := [Cond.fieldLink RX5 24 "MacroScopes$Matches" "variables" "I", Cond.fieldLink RX5 28 "MacroScopes$Matches" "forms" "I"]
def vX5_clear : List Cond := .code yX5_clear cX5_clear 1 none :: (oX5_clear ++ (wsX50))
theorem lkX5_clear_f24 : Cond.fieldLink RX5 24 "MacroScopes$Matches" "variables" "I" ∈ vX5_clear := List.mem_cons_of_mem _ (List.mem_append_left _ (List.mem_of_getElem? (i := 0) rfl))
theorem lkX5_clear_f28 : Cond.fieldLink RX5 28 "MacroScopes$Matches" "forms" "I" ∈ vX5_clear := List.mem_cons_of_mem _ (List.mem_append_left _ (List.mem_of_getElem? (i := 1) rfl))
theorem inX5_clear_X5 : ∀ w ∈ wsX50, w ∈ vX5_clear := fun w h => List.mem_cons_of_mem _ (List.mem_append_right _ (h))
def oX5_addVariable : List Cond := [Cond.fieldLink RX5 24 "MacroScopes$Matches" "variables" "I", Cond.fieldLink RX5 9 "MacroScopes$Matches" "first" "[I", Cond.fieldLink RX5 15 "MacroScopes$Matches" "apart" "[I", Cond.fieldLink RX5 18 "MacroScopes$Matches" "times" "[I"]
def vX5_addVariable : List Cond := .code yX5_addVariable cX5_addVariable 2 (some .int) :: (oX5_addVariable ++ (wsX50))
theorem lkX5_addVariable_f24 : Cond.fieldLink RX5 24 "MacroScopes$Matches" "variables" "I" ∈ vX5_addVariable := List.mem_cons_of_mem _ (List.mem_append_left _ (List.mem_of_getElem? (i := 0) rfl))
theorem lkX5_addVariable_f9 : Cond.fieldLink RX5 9 "MacroScopes$Matches" "first" "[I" ∈ vX5_addVariable := List.mem_cons_of_mem _ (List.mem_append_left _ (List.mem_of_getElem? (i := 1) rfl))
theorem lkX5_addVariable_f15 : Cond.fieldLink RX5 15 "MacroScopes$Matches" "apart" "[I" ∈ vX5_addVariable := List.mem_cons_of_mem _ (List.mem_append_left _ (List.mem_of_getElem? (i := 2) rfl))
theorem lkX5_addVariable_f18 : Cond.fieldLink RX5 18 "MacroScopes$Matches" "times" "[I" ∈ vX5_addVariable := List.mem_cons_of_mem _ (List.mem_append_left _ (List.mem_of_getElem? (i := 3) rfl))
theorem inX5_addVariable_X5 : ∀ w ∈ wsX50, w ∈ vX5_addVariable := fun w h => List.mem_cons_of_mem _ (List.mem_append_right _ (h))
def oX5_addForm : List Cond := [Cond.fieldLink RX5 28 "MacroScopes$Matches" "forms" "I", Cond.fieldLink RX5 21 "MacroScopes$Matches" "matched" "[I"]
def vX5_addForm : List Cond := .code yX5_addForm cX5_addForm 2 none :: (oX5_addForm ++ (wsX50))
theorem lkX5_addForm_f28 : Cond.fieldLink RX5 28 "MacroScopes$Matches" "forms" "I" ∈ vX5_addForm := List.mem_cons_of_mem _ (List.mem_append_left _ (List.mem_of_getElem? (i := 0) rfl))
theorem lkX5_addForm_f21 : Cond.fieldLink RX5 21 "MacroScopes$Matches" "matched" "[I" ∈ vX5_addForm := List.mem_cons_of_mem _ (List.mem_append_left _ (List.mem_of_getElem? (i := 1) rfl))
theorem inX5_addForm_X5 : ∀ w ∈ wsX50, w ∈ vX5_addForm := fun w h => List.mem_cons_of_mem _ (List.mem_append_right _ (h))
def oX5_timesOf : List Cond := [Cond.fieldLink RX5 24 "MacroScopes$Matches" "variables" "I", Cond.fieldLink RX5 18 "MacroScopes$Matches" "times" "[I"]
def vX5_timesOf : List Cond := .code yX5_timesOf cX5_timesOf 2 (some .int) :: (oX5_timesOf ++ (wsX50))
theorem lkX5_timesOf_f24 : Cond.fieldLink RX5 24 "MacroScopes$Matches" "variables" "I" ∈ vX5_timesOf := List.mem_cons_of_mem _ (List.mem_append_left _ (List.mem_of_getElem? (i := 0) rfl))
theorem lkX5_timesOf_f18 : Cond.fieldLink RX5 18 "MacroScopes$Matches" "times" "[I" ∈ vX5_timesOf := List.mem_cons_of_mem _ (List.mem_append_left _ (List.mem_of_getElem? (i := 1) rfl))
theorem inX5_timesOf_X5 : ∀ w ∈ wsX50, w ∈ vX5_timesOf := fun w h => List.mem_cons_of_mem _ (List.mem_append_right _ (h))
def oX5_formOf : List Cond := [Cond.fieldLink RX5 24 "MacroScopes$Matches" "variables" "I", Cond.fieldLink RX5 9 "MacroScopes$Matches" "first" "[I", Cond.fieldLink RX5 15 "MacroScopes$Matches" "apart" "[I", Cond.fieldLink RX5 28 "MacroScopes$Matches" "forms" "I", Cond.fieldLink RX5 21 "MacroScopes$Matches" "matched" "[I"]
def vX5_formOf : List Cond := .code yX5_formOf cX5_formOf 4 (some .int) :: (oX5_formOf ++ (wsX50))
theorem lkX5_formOf_f24 : Cond.fieldLink RX5 24 "MacroScopes$Matches" "variables" "I" ∈ vX5_formOf := List.mem_cons_of_mem _ (List.mem_append_left _ (List.mem_of_getElem? (i := 0) rfl))
theorem lkX5_formOf_f9 : Cond.fieldLink RX5 9 "MacroScopes$Matches" "first" "[I" ∈ vX5_formOf := List.mem_cons_of_mem _ (List.mem_append_left _ (List.mem_of_getElem? (i := 1) rfl))
theorem lkX5_formOf_f15 : Cond.fieldLink RX5 15 "MacroScopes$Matches" "apart" "[I" ∈ vX5_formOf := List.mem_cons_of_mem _ (List.mem_append_left _ (List.mem_of_getElem? (i := 2) rfl))
theorem lkX5_formOf_f28 : Cond.fieldLink RX5 28 "MacroScopes$Matches" "forms" "I" ∈ vX5_formOf := List.mem_cons_of_mem _ (List.mem_append_left _ (List.mem_of_getElem? (i := 3) rfl))
theorem lkX5_formOf_f21 : Cond.fieldLink RX5 21 "MacroScopes$Matches" "matched" "[I" ∈ vX5_formOf := List.mem_cons_of_mem _ (List.mem_append_left _ (List.mem_of_getElem? (i := 4) rfl))
theorem inX5_formOf_X5 : ∀ w ∈ wsX50, w ∈ vX5_formOf := fun w h => List.mem_cons_of_mem _ (List.mem_append_right _ (h))
def oX5_repeat : List Cond := [Cond.fieldLink RX5 24 "MacroScopes$Matches" "variables" "I", Cond.fieldLink RX5 15 "MacroScopes$Matches" "apart" "[I", Cond.fieldLink RX5 18 "MacroScopes$Matches" "times" "[I", Cond.methodLink RX5 31 Lib.Math.max.name, Cond.static Lib.Math.max.name, Cond.initialized "java/lang/Math", Cond.code Lib.Math.max.name Lib.Math.max.code 2 (some .int)]
def vX5_repeat : List Cond := .code yX5_repeat cX5_repeat 4 none :: (oX5_repeat ++ (wsX50))
theorem lkX5_repeat_f24 : Cond.fieldLink RX5 24 "MacroScopes$Matches" "variables" "I" ∈ vX5_repeat := List.mem_cons_of_mem _ (List.mem_append_left _ (List.mem_of_getElem? (i := 0) rfl))
theorem lkX5_repeat_f15 : Cond.fieldLink RX5 15 "MacroScopes$Matches" "apart" "[I" ∈ vX5_repeat := List.mem_cons_of_mem _ (List.mem_append_left _ (List.mem_of_getElem? (i := 1) rfl))
theorem lkX5_repeat_f18 : Cond.fieldLink RX5 18 "MacroScopes$Matches" "times" "[I" ∈ vX5_repeat := List.mem_cons_of_mem _ (List.mem_append_left _ (List.mem_of_getElem? (i := 2) rfl))
theorem lkX5_repeat_l31 : Cond.methodLink RX5 31 Lib.Math.max.name ∈ vX5_repeat := List.mem_cons_of_mem _ (List.mem_append_left _ (List.mem_of_getElem? (i := 3) rfl))
theorem lkX5_repeat_smax : Cond.static Lib.Math.max.name ∈ vX5_repeat := List.mem_cons_of_mem _ (List.mem_append_left _ (List.mem_of_getElem? (i := 4) rfl))
theorem lkX5_repeat_zmath : Cond.initialized "java/lang/Math" ∈ vX5_repeat := List.mem_cons_of_mem _ (List.mem_append_left _ (List.mem_of_getElem? (i := 5) rfl))
theorem lkX5_repeat_kmax : Cond.code Lib.Math.max.name Lib.Math.max.code 2 (some .int) ∈ vX5_repeat := List.mem_cons_of_mem _ (List.mem_append_left _ (List.mem_of_getElem? (i := 6) rfl))
theorem inX5_repeat_X5 : ∀ w ∈ wsX50, w ∈ vX5_repeat := fun w h => List.mem_cons_of_mem _ (List.mem_append_right _ (h))
def oX6_half : List Cond := []
def vX6_half : List Cond := .code yX6_half cX6_half 6 (some .long) :: (oX6_half)
def oX6_find : List Cond := [Cond.fieldLink RX6 25 "MacroScopes$Names" "symbols" "I", Cond.fieldLink RX6 9 "MacroScopes$Names" "firstHalf" "[J", Cond.fieldLink RX6 15 "MacroScopes$Names" "secondHalf" "[J"]
def vX6_find : List Cond := .code yX6_find cX6_find 6 (some .int) :: (oX6_find ++ (wsX60))
theorem lkX6_find_f25 : Cond.fieldLink RX6 25 "MacroScopes$Names" "symbols" "I" ∈ vX6_find := List.mem_cons_of_mem _ (List.mem_append_left _ (List.mem_of_getElem? (i := 0) rfl))
theorem lkX6_find_f9 : Cond.fieldLink RX6 9 "MacroScopes$Names" "firstHalf" "[J" ∈ vX6_find := List.mem_cons_of_mem _ (List.mem_append_left _ (List.mem_of_getElem? (i := 1) rfl))
theorem lkX6_find_f15 : Cond.fieldLink RX6 15 "MacroScopes$Names" "secondHalf" "[J" ∈ vX6_find := List.mem_cons_of_mem _ (List.mem_append_left _ (List.mem_of_getElem? (i := 2) rfl))
theorem inX6_find_X6 : ∀ w ∈ wsX60, w ∈ vX6_find := fun w h => List.mem_cons_of_mem _ (List.mem_append_right _ (h))
def oX6_addName : List Cond := [Cond.fieldLink RX6 47 "MacroScopes$Names" "top" "I", Cond.fieldLink RX6 32 "MacroScopes$Names" "original" "[I", Cond.fieldLink RX6 35 "MacroScopes$Names" "home" "[I", Cond.fieldLink RX6 38 "MacroScopes$Names" "binding" "[I", Cond.fieldLink RX6 41 "MacroScopes$Names" "mark" "[I"]
def vX6_addName : List Cond := .code yX6_addName cX6_addName 3 (some .int) :: (oX6_addName ++ (wsX60))
theorem lkX6_addName_f47 : Cond.fieldLink RX6 47 "MacroScopes$Names" "top" "I" ∈ vX6_addName := List.mem_cons_of_mem _ (List.mem_append_left _ (List.mem_of_getElem? (i := 0) rfl))
theorem lkX6_addName_f32 : Cond.fieldLink RX6 32 "MacroScopes$Names" "original" "[I" ∈ vX6_addName := List.mem_cons_of_mem _ (List.mem_append_left _ (List.mem_of_getElem? (i := 1) rfl))
theorem lkX6_addName_f35 : Cond.fieldLink RX6 35 "MacroScopes$Names" "home" "[I" ∈ vX6_addName := List.mem_cons_of_mem _ (List.mem_append_left _ (List.mem_of_getElem? (i := 2) rfl))
theorem lkX6_addName_f38 : Cond.fieldLink RX6 38 "MacroScopes$Names" "binding" "[I" ∈ vX6_addName := List.mem_cons_of_mem _ (List.mem_append_left _ (List.mem_of_getElem? (i := 3) rfl))
theorem lkX6_addName_f41 : Cond.fieldLink RX6 41 "MacroScopes$Names" "mark" "[I" ∈ vX6_addName := List.mem_cons_of_mem _ (List.mem_append_left _ (List.mem_of_getElem? (i := 4) rfl))
theorem inX6_addName_X6 : ∀ w ∈ wsX60, w ∈ vX6_addName := fun w h => List.mem_cons_of_mem _ (List.mem_append_right _ (h))
def oX6_addSymbol : List Cond := [Cond.fieldLink RX6 25 "MacroScopes$Names" "symbols" "I", Cond.fieldLink RX6 9 "MacroScopes$Names" "firstHalf" "[J", Cond.fieldLink RX6 15 "MacroScopes$Names" "secondHalf" "[J", Cond.fieldLink RX6 18 "MacroScopes$Names" "rules" "[I", Cond.methodLink RX6 95 yX6_addName, Cond.instanceMethod yX6_addName, Cond.selects RX6 yX6_addName yX6_addName, Cond.initialized RX6]
def vX6_addSymbol : List Cond := .code yX6_addSymbol cX6_addSymbol 5 (some .int) :: (oX6_addSymbol ++ (vX6_addName ++ (wsX60)))
theorem lkX6_addSymbol_f25 : Cond.fieldLink RX6 25 "MacroScopes$Names" "symbols" "I" ∈ vX6_addSymbol := List.mem_cons_of_mem _ (List.mem_append_left _ (List.mem_of_getElem? (i := 0) rfl))
theorem lkX6_addSymbol_f9 : Cond.fieldLink RX6 9 "MacroScopes$Names" "firstHalf" "[J" ∈ vX6_addSymbol := List.mem_cons_of_mem _ (List.mem_append_left _ (List.mem_of_getElem? (i := 1) rfl))
theorem lkX6_addSymbol_f15 : Cond.fieldLink RX6 15 "MacroScopes$Names" "secondHalf" "[J" ∈ vX6_addSymbol := List.mem_cons_of_mem _ (List.mem_append_left _ (List.mem_of_getElem? (i := 2) rfl))
theorem lkX6_addSymbol_f18 : Cond.fieldLink RX6 18 "MacroScopes$Names" "rules" "[I" ∈ vX6_addSymbol := List.mem_cons_of_mem _ (List.mem_append_left _ (List.mem_of_getElem? (i := 3) rfl))
theorem inX6_addSymbol_X6 : ∀ w ∈ wsX60, w ∈ vX6_addSymbol := fun w h => List.mem_cons_of_mem _ (List.mem_append_right _ (List.mem_append_right _ (h)))
theorem kX6_addSymbol_X6_addName_95 : GoodIn vX6_addSymbol (wsV RX6 95 RX6 yX6_addName vX6_addName) := goodIn_sub (fun w h => (List.mem_append.mp h).elim (fun h => List.mem_cons_of_mem _ (List.mem_append_left _ ((by decide +kernel : ∀ w ∈ ([.methodLink RX6 95 yX6_addName, .instanceMethod yX6_addName, .selects RX6 yX6_addName yX6_addName, .initialized RX6] : List Cond), w ∈ oX6_addSymbol) w h))) (fun h => List.mem_cons_of_mem _ (List.mem_append_right _ (List.mem_append_left _ (h))))) (by decide +kernel)
def oX6_has : List Cond := [Cond.fieldLink RX6 47 "MacroScopes$Names" "top" "I"]
def vX6_has : List Cond := .code yX6_has cX6_has 2 (some .boolean) :: (oX6_has ++ (wsX60))
theorem lkX6_has_f47 : Cond.fieldLink RX6 47 "MacroScopes$Names" "top" "I" ∈ vX6_has := List.mem_cons_of_mem _ (List.mem_append_left _ (List.mem_of_getElem? (i := 0) rfl))
theorem inX6_has_X6 : ∀ w ∈ wsX60, w ∈ vX6_has := fun w h => List.mem_cons_of_mem _ (List.mem_append_right _ (h))
def oX6_originalOf : List Cond := [Cond.methodLink RX6 106 yX6_has, Cond.instanceMethod yX6_has, Cond.selects RX6 yX6_has yX6_has, Cond.initialized RX6, Cond.fieldLink RX6 32 "MacroScopes$Names" "original" "[I"]
def vX6_originalOf : List Cond := .code yX6_originalOf cX6_originalOf 2 (some .int) :: (oX6_originalOf ++ (vX6_has ++ (wsX60)))
theorem lkX6_originalOf_f32 : Cond.fieldLink RX6 32 "MacroScopes$Names" "original" "[I" ∈ vX6_originalOf := List.mem_cons_of_mem _ (List.mem_append_left _ (List.mem_of_getElem? (i := 4) rfl))
theorem inX6_originalOf_X6 : ∀ w ∈ wsX60, w ∈ vX6_originalOf := fun w h => List.mem_cons_of_mem _ (List.mem_append_right _ (List.mem_append_right _ (h)))
theorem kX6_originalOf_X6_has_106 : GoodIn vX6_originalOf (wsV RX6 106 RX6 yX6_has vX6_has) := goodIn_sub (fun w h => (List.mem_append.mp h).elim (fun h => List.mem_cons_of_mem _ (List.mem_append_left _ ((by decide +kernel : ∀ w ∈ ([.methodLink RX6 106 yX6_has, .instanceMethod yX6_has, .selects RX6 yX6_has yX6_has, .initialized RX6] : List Cond), w ∈ oX6_originalOf) w h))) (fun h => List.mem_cons_of_mem _ (List.mem_append_right _ (List.mem_append_left _ (h))))) (by decide +kernel)
def oX6_root : List Cond := [Cond.methodLink RX6 110 yX6_originalOf, Cond.instanceMethod yX6_originalOf, Cond.selects RX6 yX6_originalOf yX6_originalOf, Cond.initialized RX6]
def vX6_root : List Cond := .code yX6_root cX6_root 4 (some .int) :: (oX6_root ++ (vX6_originalOf))
theorem kX6_root_X6_originalOf_110 : GoodIn vX6_root (wsV RX6 110 RX6 yX6_originalOf vX6_originalOf) := goodIn_sub (fun w h => (List.mem_append.mp h).elim (fun h => List.mem_cons_of_mem _ (List.mem_append_left _ ((by decide +kernel : ∀ w ∈ ([.methodLink RX6 110 yX6_originalOf, .instanceMethod yX6_originalOf, .selects RX6 yX6_originalOf yX6_originalOf, .initialized RX6] : List Cond), w ∈ oX6_root) w h))) (fun h => List.mem_cons_of_mem _ (List.mem_append_right _ (h)))) (by decide +kernel)
def oX6_rulesOf : List Cond := [Cond.fieldLink RX6 25 "MacroScopes$Names" "symbols" "I", Cond.fieldLink RX6 18 "MacroScopes$Names" "rules" "[I"]
def vX6_rulesOf : List Cond := .code yX6_rulesOf cX6_rulesOf 2 (some .int) :: (oX6_rulesOf ++ (wsX60))
theorem lkX6_rulesOf_f25 : Cond.fieldLink RX6 25 "MacroScopes$Names" "symbols" "I" ∈ vX6_rulesOf := List.mem_cons_of_mem _ (List.mem_append_left _ (List.mem_of_getElem? (i := 0) rfl))
theorem lkX6_rulesOf_f18 : Cond.fieldLink RX6 18 "MacroScopes$Names" "rules" "[I" ∈ vX6_rulesOf := List.mem_cons_of_mem _ (List.mem_append_left _ (List.mem_of_getElem? (i := 1) rfl))
theorem inX6_rulesOf_X6 : ∀ w ∈ wsX60, w ∈ vX6_rulesOf := fun w h => List.mem_cons_of_mem _ (List.mem_append_right _ (h))
def oX6_setRules : List Cond := [Cond.fieldLink RX6 25 "MacroScopes$Names" "symbols" "I", Cond.fieldLink RX6 18 "MacroScopes$Names" "rules" "[I"]
def vX6_setRules : List Cond := .code yX6_setRules cX6_setRules 3 none :: (oX6_setRules ++ (wsX60))
theorem lkX6_setRules_f25 : Cond.fieldLink RX6 25 "MacroScopes$Names" "symbols" "I" ∈ vX6_setRules := List.mem_cons_of_mem _ (List.mem_append_left _ (List.mem_of_getElem? (i := 0) rfl))
theorem lkX6_setRules_f18 : Cond.fieldLink RX6 18 "MacroScopes$Names" "rules" "[I" ∈ vX6_setRules := List.mem_cons_of_mem _ (List.mem_append_left _ (List.mem_of_getElem? (i := 1) rfl))
theorem inX6_setRules_X6 : ∀ w ∈ wsX60, w ∈ vX6_setRules := fun w h => List.mem_cons_of_mem _ (List.mem_append_right _ (h))
def oX6_macros : List Cond := [Cond.fieldLink RX6 25 "MacroScopes$Names" "symbols" "I", Cond.fieldLink RX6 18 "MacroScopes$Names" "rules" "[I"]
def vX6_macros : List Cond := .code yX6_macros cX6_macros 3 (some .int) :: (oX6_macros ++ (wsX60))
theorem lkX6_macros_f25 : Cond.fieldLink RX6 25 "MacroScopes$Names" "symbols" "I" ∈ vX6_macros := List.mem_cons_of_mem _ (List.mem_append_left _ (List.mem_of_getElem? (i := 0) rfl))
theorem lkX6_macros_f18 : Cond.fieldLink RX6 18 "MacroScopes$Names" "rules" "[I" ∈ vX6_macros := List.mem_cons_of_mem _ (List.mem_append_left _ (List.mem_of_getElem? (i := 1) rfl))
theorem inX6_macros_X6 : ∀ w ∈ wsX60, w ∈ vX6_macros := fun w h => List.mem_cons_of_mem _ (List.mem_append_right _ (h))
def oX6_clearNotes : List Cond := [Cond.fieldLink RX6 50 "MacroScopes$Names" "latestMark" "I"]
def vX6_clearNotes : List Cond := .code yX6_clearNotes cX6_clearNotes 1 none :: (oX6_clearNotes ++ (wsX60))
theorem lkX6_clearNotes_f50 : Cond.fieldLink RX6 50 "MacroScopes$Names" "latestMark" "I" ∈ vX6_clearNotes := List.mem_cons_of_mem _ (List.mem_append_left _ (List.mem_of_getElem? (i := 0) rfl))
theorem inX6_clearNotes_X6 : ∀ w ∈ wsX60, w ∈ vX6_clearNotes := fun w h => List.mem_cons_of_mem _ (List.mem_append_right _ (h))
def oX6_isNoted : List Cond := [Cond.fieldLink RX6 47 "MacroScopes$Names" "top" "I", Cond.fieldLink RX6 41 "MacroScopes$Names" "mark" "[I", Cond.fieldLink RX6 50 "MacroScopes$Names" "latestMark" "I"]
def vX6_isNoted : List Cond := .code yX6_isNoted cX6_isNoted 2 (some .boolean) :: (oX6_isNoted ++ (wsX60))
theorem lkX6_isNoted_f47 : Cond.fieldLink RX6 47 "MacroScopes$Names" "top" "I" ∈ vX6_isNoted := List.mem_cons_of_mem _ (List.mem_append_left _ (List.mem_of_getElem? (i := 0) rfl))
theorem lkX6_isNoted_f41 : Cond.fieldLink RX6 41 "MacroScopes$Names" "mark" "[I" ∈ vX6_isNoted := List.mem_cons_of_mem _ (List.mem_append_left _ (List.mem_of_getElem? (i := 1) rfl))
theorem lkX6_isNoted_f50 : Cond.fieldLink RX6 50 "MacroScopes$Names" "latestMark" "I" ∈ vX6_isNoted := List.mem_cons_of_mem _ (List.mem_append_left _ (List.mem_of_getElem? (i := 2) rfl))
theorem inX6_isNoted_X6 : ∀ w ∈ wsX60, w ∈ vX6_isNoted := fun w h => List.mem_cons_of_mem _ (List.mem_append_right _ (h))
def oX6_noteOf : List Cond := [Cond.fieldLink RX6 47 "MacroScopes$Names" "top" "I", Cond.fieldLink RX6 41 "MacroScopes$Names" "mark" "[I", Cond.fieldLink RX6 50 "MacroScopes$Names" "latestMark" "I", Cond.fieldLink RX6 44 "MacroScopes$Names" "note" "[I"]
def vX6_noteOf : List Cond := .code yX6_noteOf cX6_noteOf 2 (some .int) :: (oX6_noteOf ++ (wsX60))
theorem lkX6_noteOf_f47 : Cond.fieldLink RX6 47 "MacroScopes$Names" "top" "I" ∈ vX6_noteOf := List.mem_cons_of_mem _ (List.mem_append_left _ (List.mem_of_getElem? (i := 0) rfl))
theorem lkX6_noteOf_f41 : Cond.fieldLink RX6 41 "MacroScopes$Names" "mark" "[I" ∈ vX6_noteOf := List.mem_cons_of_mem _ (List.mem_append_left _ (List.mem_of_getElem? (i := 1) rfl))
theorem lkX6_noteOf_f50 : Cond.fieldLink RX6 50 "MacroScopes$Names" "latestMark" "I" ∈ vX6_noteOf := List.mem_cons_of_mem _ (List.mem_append_left _ (List.mem_of_getElem? (i := 2) rfl))
theorem lkX6_noteOf_f44 : Cond.fieldLink RX6 44 "MacroScopes$Names" "note" "[I" ∈ vX6_noteOf := List.mem_cons_of_mem _ (List.mem_append_left _ (List.mem_of_getElem? (i := 3) rfl))
theorem inX6_noteOf_X6 : ∀ w ∈ wsX60, w ∈ vX6_noteOf := fun w h => List.mem_cons_of_mem _ (List.mem_append_right _ (h))
def oX6_setNote : List Cond := [Cond.methodLink RX6 106 yX6_has, Cond.instanceMethod yX6_has, Cond.selects RX6 yX6_has yX6_has, Cond.initialized RX6, Cond.fieldLink RX6 41 "MacroScopes$Names" "mark" "[I", Cond.fieldLink RX6 50 "MacroScopes$Names" "latestMark" "I", Cond.fieldLink RX6 44 "MacroScopes$Names" "note" "[I"]
def vX6_setNote : List Cond := .code yX6_setNote cX6_setNote 3 none :: (oX6_setNote ++ (vX6_has ++ (wsX60)))
theorem lkX6_setNote_f41 : Cond.fieldLink RX6 41 "MacroScopes$Names" "mark" "[I" ∈ vX6_setNote := List.mem_cons_of_mem _ (List.mem_append_left _ (List.mem_of_getElem? (i := 4) rfl))
theorem lkX6_setNote_f50 : Cond.fieldLink RX6 50 "MacroScopes$Names" "latestMark" "I" ∈ vX6_setNote := List.mem_cons_of_mem _ (List.mem_append_left _ (List.mem_of_getElem? (i := 5) rfl))
theorem lkX6_setNote_f44 : Cond.fieldLink RX6 44 "MacroScopes$Names" "note" "[I" ∈ vX6_setNote := List.mem_cons_of_mem _ (List.mem_append_left _ (List.mem_of_getElem? (i := 6) rfl))
theorem inX6_setNote_X6 : ∀ w ∈ wsX60, w ∈ vX6_setNote := fun w h => List.mem_cons_of_mem _ (List.mem_append_right _ (List.mem_append_right _ (h)))
theorem kX6_setNote_X6_has_106 : GoodIn vX6_setNote (wsV RX6 106 RX6 yX6_has vX6_has) := goodIn_sub (fun w h => (List.mem_append.mp h).elim (fun h => List.mem_cons_of_mem _ (List.mem_append_left _ ((by decide +kernel : ∀ w ∈ ([.methodLink RX6 106 yX6_has, .instanceMethod yX6_has, .selects RX6 yX6_has yX6_has, .initialized RX6] : List Cond), w ∈ oX6_setNote) w h))) (fun h => List.mem_cons_of_mem _ (List.mem_append_right _ (List.mem_append_left _ (h))))) (by decide +kernel)
def oX6_canBeBound : List Cond := []
def vX6_canBeBound : List Cond := .code yX6_canBeBound cX6_canBeBound 1 (some .boolean) :: (oX6_canBeBound)
def oX6_take : List Cond := [Cond.fieldLink RX6 29 "MacroScopes$Names" "symbolsBefore" "I", Cond.fieldLink RX6 25 "MacroScopes$Names" "symbols" "I"]
def vX6_take : List Cond := .code yX6_take cX6_take 2 none :: (oX6_take ++ (wsX60))
theorem lkX6_take_f29 : Cond.fieldLink RX6 29 "MacroScopes$Names" "symbolsBefore" "I" ∈ vX6_take := List.mem_cons_of_mem _ (List.mem_append_left _ (List.mem_of_getElem? (i := 0) rfl))
theorem lkX6_take_f25 : Cond.fieldLink RX6 25 "MacroScopes$Names" "symbols" "I" ∈ vX6_take := List.mem_cons_of_mem _ (List.mem_append_left _ (List.mem_of_getElem? (i := 1) rfl))
theorem inX6_take_X6 : ∀ w ∈ wsX60, w ∈ vX6_take := fun w h => List.mem_cons_of_mem _ (List.mem_append_right _ (h))
set_option maxHeartbeats 4000000 in
set_option maxRecDepth 100000 in
/-- X5_clear -/
theorem c_clearM (l : Launch) (dC : Nat → ClassId) (dI : Nat → Nat → Nat) (cB cC cI cJ cZ : ClassId) (a : Nat → Nat) (F : Nat → Int32) (X : Nat → Nat → Int32) (J : Nat → Nat → Int64) (R : Nat → Nat) (gf gn : Nat)  (s0 : Nat) : Met l yX5_clear vX5_clear { frames := 1, cells := 0, slots := 0, locals := 60 } (va_Pc [.ref (a 5)] (cPre dC dI cB cC cI cJ cZ a F X J R gf gn s0)) (va_Qv (fun (u : (Nat → Int32) × (Nat → Nat → Int32)) => match u with | (F1, X1) => 0 ≤ (F1 19).toInt ∧ (F1 19).toInt ≤ 3000 ∧ 0 ≤ (F1 20).toInt ∧ (F1 20).toInt ≤ 3000) (fun u => cPost dC dI cB cC cI cJ cZ a (rg 19 20 F u.1) X J R gf gn (va_A (CW cB cC cI cJ cZ a F X J R gf gn) s0)) (va_A (CW cB cC cI cJ cZ a F X J R gf gn) s0)) 0 0 (va_A (CW cB cC cI cJ cZ a F X J R gf gn) s0) := by
  refine Met.ofW (cc := cX5_clear) (maxL := 1) (ret := none) (by decide) rfl ?_
  intro p e s m args below meth c s₁ B9 hml hv
  obtain ⟨rfl, hsz0, hP, hK, hD0, hNW⟩ := hv
  have hx := B9.exec
  have hb := B9.bytes
  have hr := B9.returns
  have hts := atoms_spec (ws := vX5_clear) B9.pre
  have hown : s.vm.findClass RX5 = some m.cls := findClass_of_methodNamed B9.named
  have hlocks := B9.notSynchronized
  clear B9
  subst hsz0
  have hD := hD0.self (sz := s.heap.size)
  generalize hAe : va_A (CW cB cC cI cJ cZ a F X J R gf gn) s.heap.size = A at hD ⊢
  have hA : ∀ q : Nat, s.heap.size ≤ q → A q := fun q h => by rw [← hAe]; exact Or.inr h
  have hS : va_S A s.heap s.heap [] := va_S.rf
  have hcs : 0 + 0 ≤ (0 : Nat) ∧ 0 + 0 ≤ (0 : Nat) := ⟨Nat.le_refl 0, Nat.le_refl 0⟩
  have hl := lv_entry ([.ref (a 5)]) (n := 1) (Nat.le_of_ble_eq_true rfl)
  rw [lg_entry_eq]
  generalize (lg_sl ([.ref (a 5)]) ++ List.replicate (1 - (lg_sl ([.ref (a 5)])).length) Slot.unset).toArray = ls at hl ⊢
  have hl : lv_has ls 1 [(0, .ref (a 5))] := hl
  refine lv_aload_n hx hb dX5_clear_0 rfl (lv_at hl 0 rfl) ?_
  refine lv_iconst (v := oI 0) hx hb dX5_clear_1 (by decide) ?_
  refine cp_5_4 hx hb hts inX5_clear_X5 hown hK hP hD hS (hts _ lkX5_clear_f24) dX5_clear_2 (fun H locs hP hD hS => ?_)
  have hP : va_P (dC, dI) vwCl (CW cB cC cI cJ cZ a (va_up F 19 (oI 0)) X J R gf gn) H := hP
  have hD : va_D A (CW cB cC cI cJ cZ a (va_up F 19 (oI 0)) X J R gf gn) := hD
  have e_1 : (oI 0).toInt = 0 := by decide
  refine lv_aload_n hx hb dX5_clear_5 rfl (lv_at hl 0 rfl) ?_
  refine lv_iconst (v := oI 0) hx hb dX5_clear_6 (by decide) ?_
  refine cp_5_5 hx hb hts inX5_clear_X5 hown hK hP hD hS (hts _ lkX5_clear_f28) dX5_clear_7 (fun H locs hP hD hS => ?_)
  have hP : va_P (dC, dI) vwCl (CW cB cC cI cJ cZ a (va_up (va_up F 19 (oI 0)) 20 (oI 0)) X J R gf gn) H := hP
  have hD : va_D A (CW cB cC cI cJ cZ a (va_up (va_up F 19 (oI 0)) 20 (oI 0)) X J R gf gn) := hD
  have e_2 : (oI 0).toInt = 0 := by decide
  have eF9 : rg 19 20 F (va_up (va_up F 19 (oI 0)) 20 (oI 0)) = va_up (va_up F 19 (oI 0)) 20 (oI 0) := by funext k; simp only [rg, va_up]; (repeat' split) <;> first | with_reducible rfl | omega
  have hP9 : va_P (dC, dI) vwCl (CW cB cC cI cJ cZ a (rg 19 20 F (va_up (va_up F 19 (oI 0)) 20 (oI 0))) X J R gf gn) H := by rw [eF9]; exact hP
  have hD9 : va_D A (CW cB cC cI cJ cZ a (rg 19 20 F (va_up (va_up F 19 (oI 0)) 20 (oI 0))) X J R gf gn) := by rw [eF9]; exact hD
  have hpost : 0 ≤ (oI 0).toInt ∧ (oI 0).toInt ≤ 3000 ∧ 0 ≤ (oI 0).toInt ∧ (oI 0).toInt ≤ 3000 := by first | assumption | omega | (with_reducible rfl) | ((repeat' apply And.intro) <;> first | assumption | omega | (with_reducible rfl))
  exact W.vret hx hb hr (fun t ht hW => ⟨⟨(va_up (va_up F 19 (oI 0)) 20 (oI 0), X), rfl, hpost, by rw [ht]; exact hP9, va_K.moved hW.alike hK, hD9⟩, hS.F ht⟩) hS.2.2 dX5_clear_10

set_option maxHeartbeats 4000000 in
set_option maxRecDepth 100000 in
/-- X5_addVariable -/
theorem c_addVariableM (l : Launch) (dC : Nat → ClassId) (dI : Nat → Nat → Nat) (cB cC cI cJ cZ : ClassId) (a : Nat → Nat) (F : Nat → Int32) (X : Nat → Nat → Int32) (J : Nat → Nat → Int64) (R : Nat → Nat) (gf gn : Nat) (x : Int)  (ix : (-2147483648 ≤ x ∧ x < 2147483648)) (hms : 0 ≤ (F 19).toInt ∧ (F 19).toInt ≤ 3000 ∧ 0 ≤ (F 20).toInt ∧ (F 20).toInt ≤ 3000) (s0 : Nat) : Met l yX5_addVariable vX5_addVariable { frames := 1, cells := 0, slots := 0, locals := 60 } (va_Pc [.ref (a 5), .int (oI x)] (cPre dC dI cB cC cI cJ cZ a F X J R gf gn s0)) (va_Qi (fun (r : Int32) (u : (Nat → Int32) × (Nat → Nat → Int32)) => match u with | (F1, X1) => 0 ≤ (F1 19).toInt ∧ (F1 19).toInt ≤ 3000 ∧ 0 ≤ (F 20).toInt ∧ (F 20).toInt ≤ 3000) (fun u => cPost dC dI cB cC cI cJ cZ a (rg 19 19 F u.1) (rg 8 10 X u.2) J R gf gn (va_A (CW cB cC cI cJ cZ a F X J R gf gn) s0)) (va_A (CW cB cC cI cJ cZ a F X J R gf gn) s0)) 0 0 (va_A (CW cB cC cI cJ cZ a F X J R gf gn) s0) := by
  refine Met.ofW (cc := cX5_addVariable) (maxL := 2) (ret := (some .int)) (by decide) rfl ?_
  intro p e s m args below meth c s₁ B9 hml hv
  obtain ⟨rfl, hsz0, hP, hK, hD0, hNW⟩ := hv
  have hx := B9.exec
  have hb := B9.bytes
  have hr := B9.returns
  have hts := atoms_spec (ws := vX5_addVariable) B9.pre
  have hown : s.vm.findClass RX5 = some m.cls := findClass_of_methodNamed B9.named
  have hlocks := B9.notSynchronized
  clear B9
  subst hsz0
  have hD := hD0.self (sz := s.heap.size)
  generalize hAe : va_A (CW cB cC cI cJ cZ a F X J R gf gn) s.heap.size = A at hD ⊢
  have hA : ∀ q : Nat, s.heap.size ≤ q → A q := fun q h => by rw [← hAe]; exact Or.inr h
  have hS : va_S A s.heap s.heap [] := va_S.rf
  have hcs : 0 + 0 ≤ (0 : Nat) ∧ 0 + 0 ≤ (0 : Nat) := ⟨Nat.le_refl 0, Nat.le_refl 0⟩
  have hl := lv_entry ([.ref (a 5), .int (oI x)]) (n := 2) (Nat.le_of_ble_eq_true rfl)
  rw [lg_entry_eq]
  generalize (lg_sl ([.ref (a 5), .int (oI x)]) ++ List.replicate (2 - (lg_sl ([.ref (a 5), .int (oI x)])).length) Slot.unset).toArray = ls at hl ⊢
  have hl : lv_has ls 2 [(0, .ref (a 5)), (1, .int (oI x))] := hl
  refine lv_aload_n hx hb dX5_addVariable_0 rfl (lv_at hl 0 rfl) ?_
  refine cg_5_4 hx hb hts inX5_addVariable_X5 hown hK hP (hts _ lkX5_addVariable_f24) dX5_addVariable_1 ?_
  have i_1 := i32r (F 19)
  refine lv_sipush (v := oI 3000) hx hb dX5_addVariable_4 (by decide) ?_
  refine ci_ge (tgt := 50) hx hb (i32r _) (by decide) dX5_addVariable_7 (by decide) (fun c_2 => ?_) (fun c_2 => ?_)
  · refine lv_aload_n hx hb dX5_addVariable_50 rfl (lv_at hl 0 rfl) ?_
    refine cg_5_4 hx hb hts inX5_addVariable_X5 hown hK hP (hts _ lkX5_addVariable_f24) dX5_addVariable_51 ?_
    refine lv_iconst (v := oI 1) hx hb dX5_addVariable_54 (by decide) ?_
    refine lv_isub hx hb dX5_addVariable_55 ?_
    refine tp_i (oI_sub ((F 19).toInt) 1) ?_
    have eF9 : rg 19 19 F F = F := by funext k; simp only [rg, va_up]; (repeat' split) <;> first | with_reducible rfl | omega
    have eX9 : rg 8 10 X X = X := by funext k; simp only [rg, va_up]; (repeat' split) <;> first | with_reducible rfl | omega
    have hP9 : va_P (dC, dI) vwCl (CW cB cC cI cJ cZ a (rg 19 19 F F) (rg 8 10 X X) J R gf gn) s.heap := by rw [eF9, eX9]; exact hP
    have hD9 : va_D A (CW cB cC cI cJ cZ a (rg 19 19 F F) (rg 8 10 X X) J R gf gn) := by rw [eF9, eX9]; exact hD
    have hpost : 0 ≤ (F 19).toInt ∧ (F 19).toInt ≤ 3000 ∧ 0 ≤ (F 20).toInt ∧ (F 20).toInt ≤ 3000 := by first | assumption | omega | (with_reducible rfl) | ((repeat' apply And.intro) <;> first | assumption | omega | (with_reducible rfl))
    exact W.iret (v := (oI (((F 19).toInt) - 1))) hx hb hr (fun t ht hW => ⟨⟨(oI (((F 19).toInt) - 1)), (F, X), rfl, hpost, by rw [ht]; exact hP9, va_K.moved hW.alike hK, hD9⟩, hS.F ht⟩) hS.2.2 dX5_addVariable_56
  · refine lv_aload_n hx hb dX5_addVariable_10 rfl (lv_at hl 0 rfl) ?_
    refine cg_5_0 hx hb hts inX5_addVariable_X5 hown hK hP (hts _ lkX5_addVariable_f9) dX5_addVariable_11 ?_
    refine lv_aload_n hx hb dX5_addVariable_14 rfl (lv_at hl 0 rfl) ?_
    refine cg_5_4 hx hb hts inX5_addVariable_X5 hown hK hP (hts _ lkX5_addVariable_f24) dX5_addVariable_15 ?_
    refine lv_iload_n hx hb dX5_addVariable_18 rfl (lv_at hl 1 rfl) ?_
    refine cs_8 hx hb hK hP hD hS (by omega) dX5_addVariable_19 (fun H locs hP hD hS => ?_)
    have hP : va_P (dC, dI) vwCl (CW cB cC cI cJ cZ a F (va_up X 8 (upd (X 8) ((F 19).toInt).toNat (oI x))) J R gf gn) H := hP
    have hD : va_D A (CW cB cC cI cJ cZ a F (va_up X 8 (upd (X 8) ((F 19).toInt).toNat (oI x))) J R gf gn) := hD
    refine lv_aload_n hx hb dX5_addVariable_20 rfl (lv_at hl 0 rfl) ?_
    refine cg_5_1 hx hb hts inX5_addVariable_X5 hown hK hP (hts _ lkX5_addVariable_f15) dX5_addVariable_21 ?_
    refine lv_aload_n hx hb dX5_addVariable_24 rfl (lv_at hl 0 rfl) ?_
    refine cg_5_4 hx hb hts inX5_addVariable_X5 hown hK hP (hts _ lkX5_addVariable_f24) dX5_addVariable_25 ?_
    refine lv_iconst (v := oI 0) hx hb dX5_addVariable_28 (by decide) ?_
    refine cs_9 hx hb hK hP hD hS (by omega) dX5_addVariable_29 (fun H locs hP hD hS => ?_)
    have hP : va_P (dC, dI) vwCl (CW cB cC cI cJ cZ a F (va_up (va_up X 8 (upd (X 8) ((F 19).toInt).toNat (oI x))) 9 (upd (X 9) ((F 19).toInt).toNat (oI 0))) J R gf gn) H := hP
    have hD : va_D A (CW cB cC cI cJ cZ a F (va_up (va_up X 8 (upd (X 8) ((F 19).toInt).toNat (oI x))) 9 (upd (X 9) ((F 19).toInt).toNat (oI 0))) J R gf gn) := hD
    refine lv_aload_n hx hb dX5_addVariable_30 rfl (lv_at hl 0 rfl) ?_
    refine cg_5_2 hx hb hts inX5_addVariable_X5 hown hK hP (hts _ lkX5_addVariable_f18) dX5_addVariable_31 ?_
    refine lv_aload_n hx hb dX5_addVariable_34 rfl (lv_at hl 0 rfl) ?_
    refine cg_5_4 hx hb hts inX5_addVariable_X5 hown hK hP (hts _ lkX5_addVariable_f24) dX5_addVariable_35 ?_
    refine lv_iconst (v := oI (-1)) hx hb dX5_addVariable_38 (by decide) ?_
    refine cs_10 hx hb hK hP hD hS (by omega) dX5_addVariable_39 (fun H locs hP hD hS => ?_)
    have hP : va_P (dC, dI) vwCl (CW cB cC cI cJ cZ a F (va_up (va_up (va_up X 8 (upd (X 8) ((F 19).toInt).toNat (oI x))) 9 (upd (X 9) ((F 19).toInt).toNat (oI 0))) 10 (upd (X 10) ((F 19).toInt).toNat (oI ((-1))))) J R gf gn) H := hP
    have hD : va_D A (CW cB cC cI cJ cZ a F (va_up (va_up (va_up X 8 (upd (X 8) ((F 19).toInt).toNat (oI x))) 9 (upd (X 9) ((F 19).toInt).toNat (oI 0))) 10 (upd (X 10) ((F 19).toInt).toNat (oI ((-1))))) J R gf gn) := hD
    refine lv_aload_n hx hb dX5_addVariable_40 rfl (lv_at hl 0 rfl) ?_
    refine lv_dup hx hb dX5_addVariable_41 rfl ?_
    refine cg_5_4 hx hb hts inX5_addVariable_X5 hown hK hP (hts _ lkX5_addVariable_f24) dX5_addVariable_42 ?_
    refine lv_iconst (v := oI 1) hx hb dX5_addVariable_45 (by decide) ?_
    refine lv_iadd hx hb dX5_addVariable_46 ?_
    refine tp_i (oI_add ((F 19).toInt) 1) ?_
    refine cp_5_4 hx hb hts inX5_addVariable_X5 hown hK hP hD hS (hts _ lkX5_addVariable_f24) dX5_addVariable_47 (fun H locs hP hD hS => ?_)
    have hP : va_P (dC, dI) vwCl (CW cB cC cI cJ cZ a (va_up F 19 (oI (((F 19).toInt) + 1))) (va_up (va_up (va_up X 8 (upd (X 8) ((F 19).toInt).toNat (oI x))) 9 (upd (X 9) ((F 19).toInt).toNat (oI 0))) 10 (upd (X 10) ((F 19).toInt).toNat (oI ((-1))))) J R gf gn) H := hP
    have hD : va_D A (CW cB cC cI cJ cZ a (va_up F 19 (oI (((F 19).toInt) + 1))) (va_up (va_up (va_up X 8 (upd (X 8) ((F 19).toInt).toNat (oI x))) 9 (upd (X 9) ((F 19).toInt).toNat (oI 0))) 10 (upd (X 10) ((F 19).toInt).toNat (oI ((-1))))) J R gf gn) := hD
    have e_3 : (oI (((F 19).toInt) + 1)).toInt = ((F 19).toInt) + 1 := toInt_oI (by omega)
    refine lv_aload_n hx hb dX5_addVariable_50 rfl (lv_at hl 0 rfl) ?_
    refine cg_5_4 hx hb hts inX5_addVariable_X5 hown hK hP (hts _ lkX5_addVariable_f24) dX5_addVariable_51 ?_
    refine tp_i (y := oI (((F 19).toInt) + 1)) (oI_toInt _) ?_
    refine lv_iconst (v := oI 1) hx hb dX5_addVariable_54 (by decide) ?_
    refine lv_isub hx hb dX5_addVariable_55 ?_
    refine tp_i (oI_sub (((F 19).toInt) + 1) 1) ?_
    have eF9 : rg 19 19 F (va_up F 19 (oI (((F 19).toInt) + 1))) = va_up F 19 (oI (((F 19).toInt) + 1)) := by funext k; simp only [rg, va_up]; (repeat' split) <;> first | with_reducible rfl | omega
    have eX9 : rg 8 10 X (va_up (va_up (va_up X 8 (upd (X 8) ((F 19).toInt).toNat (oI x))) 9 (upd (X 9) ((F 19).toInt).toNat (oI 0))) 10 (upd (X 10) ((F 19).toInt).toNat (oI ((-1))))) = va_up (va_up (va_up X 8 (upd (X 8) ((F 19).toInt).toNat (oI x))) 9 (upd (X 9) ((F 19).toInt).toNat (oI 0))) 10 (upd (X 10) ((F 19).toInt).toNat (oI ((-1)))) := by funext k; simp only [rg, va_up]; (repeat' split) <;> first | with_reducible rfl | omega
    have hP9 : va_P (dC, dI) vwCl (CW cB cC cI cJ cZ a (rg 19 19 F (va_up F 19 (oI (((F 19).toInt) + 1)))) (rg 8 10 X (va_up (va_up (va_up X 8 (upd (X 8) ((F 19).toInt).toNat (oI x))) 9 (upd (X 9) ((F 19).toInt).toNat (oI 0))) 10 (upd (X 10) ((F 19).toInt).toNat (oI ((-1)))))) J R gf gn) H := by rw [eF9, eX9]; exact hP
    have hD9 : va_D A (CW cB cC cI cJ cZ a (rg 19 19 F (va_up F 19 (oI (((F 19).toInt) + 1)))) (rg 8 10 X (va_up (va_up (va_up X 8 (upd (X 8) ((F 19).toInt).toNat (oI x))) 9 (upd (X 9) ((F 19).toInt).toNat (oI 0))) 10 (upd (X 10) ((F 19).toInt).toNat (oI ((-1)))))) J R gf gn) := by rw [eF9, eX9]; exact hD
    have hpost : 0 ≤ (oI (((F 19).toInt) + 1)).toInt ∧ (oI (((F 19).toInt) + 1)).toInt ≤ 3000 ∧ 0 ≤ (F 20).toInt ∧ (F 20).toInt ≤ 3000 := by first | assumption | omega | (with_reducible rfl) | ((repeat' apply And.intro) <;> first | assumption | omega | (with_reducible rfl))
    exact W.iret (v := (oI ((((F 19).toInt) + 1) - 1))) hx hb hr (fun t ht hW => ⟨⟨(oI ((((F 19).toInt) + 1) - 1)), (va_up F 19 (oI (((F 19).toInt) + 1)), va_up (va_up (va_up X 8 (upd (X 8) ((F 19).toInt).toNat (oI x))) 9 (upd (X 9) ((F 19).toInt).toNat (oI 0))) 10 (upd (X 10) ((F 19).toInt).toNat (oI ((-1))))), rfl, hpost, by rw [ht]; exact hP9, va_K.moved hW.alike hK, hD9⟩, hS.F ht⟩) hS.2.2 dX5_addVariable_56

set_option maxHeartbeats 4000000 in
set_option maxRecDepth 100000 in
/-- X5_addForm -/
theorem c_addForm (l : Launch) (dC : Nat → ClassId) (dI : Nat → Nat → Nat) (cB cC cI cJ cZ : ClassId) (a : Nat → Nat) (F : Nat → Int32) (X : Nat → Nat → Int32) (J : Nat → Nat → Int64) (R : Nat → Nat) (gf gn : Nat) (x : Int)  (ix : (-2147483648 ≤ x ∧ x < 2147483648)) (hms : 0 ≤ (F 19).toInt ∧ (F 19).toInt ≤ 3000 ∧ 0 ≤ (F 20).toInt ∧ (F 20).toInt ≤ 3000) (s0 : Nat) : Met l yX5_addForm vX5_addForm { frames := 1, cells := 0, slots := 0, locals := 60 } (va_Pc [.ref (a 5), .int (oI x)] (cPre dC dI cB cC cI cJ cZ a F X J R gf gn s0)) (va_Qv (fun (u : (Nat → Int32) × (Nat → Nat → Int32)) => match u with | (F1, X1) => 0 ≤ (F 19).toInt ∧ (F 19).toInt ≤ 3000 ∧ 0 ≤ (F1 20).toInt ∧ (F1 20).toInt ≤ 3000) (fun u => cPost dC dI cB cC cI cJ cZ a (rg 20 20 F u.1) (rg 11 11 X u.2) J R gf gn (va_A (CW cB cC cI cJ cZ a F X J R gf gn) s0)) (va_A (CW cB cC cI cJ cZ a F X J R gf gn) s0)) 0 0 (va_A (CW cB cC cI cJ cZ a F X J R gf gn) s0) := by
  refine Met.ofW (cc := cX5_addForm) (maxL := 2) (ret := none) (by decide) rfl ?_
  intro p e s m args below meth c s₁ B9 hml hv
  obtain ⟨rfl, hsz0, hP, hK, hD0, hNW⟩ := hv
  have hx := B9.exec
  have hb := B9.bytes
  have hr := B9.returns
  have hts := atoms_spec (ws := vX5_addForm) B9.pre
  have hown : s.vm.findClass RX5 = some m.cls := findClass_of_methodNamed B9.named
  have hlocks := B9.notSynchronized
  clear B9
  subst hsz0
  have hD := hD0.self (sz := s.heap.size)
  generalize hAe : va_A (CW cB cC cI cJ cZ a F X J R gf gn) s.heap.size = A at hD ⊢
  have hA : ∀ q : Nat, s.heap.size ≤ q → A q := fun q h => by rw [← hAe]; exact Or.inr h
  have hS : va_S A s.heap s.heap [] := va_S.rf
  have hcs : 0 + 0 ≤ (0 : Nat) ∧ 0 + 0 ≤ (0 : Nat) := ⟨Nat.le_refl 0, Nat.le_refl 0⟩
  have hl := lv_entry ([.ref (a 5), .int (oI x)]) (n := 2) (Nat.le_of_ble_eq_true rfl)
  rw [lg_entry_eq]
  generalize (lg_sl ([.ref (a 5), .int (oI x)]) ++ List.replicate (2 - (lg_sl ([.ref (a 5), .int (oI x)])).length) Slot.unset).toArray = ls at hl ⊢
  have hl : lv_has ls 2 [(0, .ref (a 5)), (1, .int (oI x))] := hl
  refine lv_aload_n hx hb dX5_addForm_0 rfl (lv_at hl 0 rfl) ?_
  refine cg_5_5 hx hb hts inX5_addForm_X5 hown hK hP (hts _ lkX5_addForm_f28) dX5_addForm_1 ?_
  have i_1 := i32r (F 20)
  refine lv_sipush (v := oI 3000) hx hb dX5_addForm_4 (by decide) ?_
  refine ci_ge (tgt := 30) hx hb (i32r _) (by decide) dX5_addForm_7 (by decide) (fun c_2 => ?_) (fun c_2 => ?_)
  · have eF9 : rg 20 20 F F = F := by funext k; simp only [rg, va_up]; (repeat' split) <;> first | with_reducible rfl | omega
    have eX9 : rg 11 11 X X = X := by funext k; simp only [rg, va_up]; (repeat' split) <;> first | with_reducible rfl | omega
    have hP9 : va_P (dC, dI) vwCl (CW cB cC cI cJ cZ a (rg 20 20 F F) (rg 11 11 X X) J R gf gn) s.heap := by rw [eF9, eX9]; exact hP
    have hD9 : va_D A (CW cB cC cI cJ cZ a (rg 20 20 F F) (rg 11 11 X X) J R gf gn) := by rw [eF9, eX9]; exact hD
    have hpost : 0 ≤ (F 19).toInt ∧ (F 19).toInt ≤ 3000 ∧ 0 ≤ (F 20).toInt ∧ (F 20).toInt ≤ 3000 := by first | assumption | omega | (with_reducible rfl) | ((repeat' apply And.intro) <;> first | assumption | omega | (with_reducible rfl))
    exact W.vret hx hb hr (fun t ht hW => ⟨⟨(F, X), rfl, hpost, by rw [ht]; exact hP9, va_K.moved hW.alike hK, hD9⟩, hS.F ht⟩) hS.2.2 dX5_addForm_30
  · refine lv_aload_n hx hb dX5_addForm_10 rfl (lv_at hl 0 rfl) ?_
    refine cg_5_3 hx hb hts inX5_addForm_X5 hown hK hP (hts _ lkX5_addForm_f21) dX5_addForm_11 ?_
    refine lv_aload_n hx hb dX5_addForm_14 rfl (lv_at hl 0 rfl) ?_
    refine cg_5_5 hx hb hts inX5_addForm_X5 hown hK hP (hts _ lkX5_addForm_f28) dX5_addForm_15 ?_
    refine lv_iload_n hx hb dX5_addForm_18 rfl (lv_at hl 1 rfl) ?_
    refine cs_11 hx hb hK hP hD hS (by omega) dX5_addForm_19 (fun H locs hP hD hS => ?_)
    have hP : va_P (dC, dI) vwCl (CW cB cC cI cJ cZ a F (va_up X 11 (upd (X 11) ((F 20).toInt).toNat (oI x))) J R gf gn) H := hP
    have hD : va_D A (CW cB cC cI cJ cZ a F (va_up X 11 (upd (X 11) ((F 20).toInt).toNat (oI x))) J R gf gn) := hD
    refine lv_aload_n hx hb dX5_addForm_20 rfl (lv_at hl 0 rfl) ?_
    refine lv_dup hx hb dX5_addForm_21 rfl ?_
    refine cg_5_5 hx hb hts inX5_addForm_X5 hown hK hP (hts _ lkX5_addForm_f28) dX5_addForm_22 ?_
    refine lv_iconst (v := oI 1) hx hb dX5_addForm_25 (by decide) ?_
    refine lv_iadd hx hb dX5_addForm_26 ?_
    refine tp_i (oI_add ((F 20).toInt) 1) ?_
    refine cp_5_5 hx hb hts inX5_addForm_X5 hown hK hP hD hS (hts _ lkX5_addForm_f28) dX5_addForm_27 (fun H locs hP hD hS => ?_)
    have hP : va_P (dC, dI) vwCl (CW cB cC cI cJ cZ a (va_up F 20 (oI (((F 20).toInt) + 1))) (va_up X 11 (upd (X 11) ((F 20).toInt).toNat (oI x))) J R gf gn) H := hP
    have hD : va_D A (CW cB cC cI cJ cZ a (va_up F 20 (oI (((F 20).toInt) + 1))) (va_up X 11 (upd (X 11) ((F 20).toInt).toNat (oI x))) J R gf gn) := hD
    have e_3 : (oI (((F 20).toInt) + 1)).toInt = ((F 20).toInt) + 1 := toInt_oI (by omega)
    have eF9 : rg 20 20 F (va_up F 20 (oI (((F 20).toInt) + 1))) = va_up F 20 (oI (((F 20).toInt) + 1)) := by funext k; simp only [rg, va_up]; (repeat' split) <;> first | with_reducible rfl | omega
    have eX9 : rg 11 11 X (va_up X 11 (upd (X 11) ((F 20).toInt).toNat (oI x))) = va_up X 11 (upd (X 11) ((F 20).toInt).toNat (oI x)) := by funext k; simp only [rg, va_up]; (repeat' split) <;> first | with_reducible rfl | omega
    have hP9 : va_P (dC, dI) vwCl (CW cB cC cI cJ cZ a (rg 20 20 F (va_up F 20 (oI (((F 20).toInt) + 1)))) (rg 11 11 X (va_up X 11 (upd (X 11) ((F 20).toInt).toNat (oI x)))) J R gf gn) H := by rw [eF9, eX9]; exact hP
    have hD9 : va_D A (CW cB cC cI cJ cZ a (rg 20 20 F (va_up F 20 (oI (((F 20).toInt) + 1)))) (rg 11 11 X (va_up X 11 (upd (X 11) ((F 20).toInt).toNat (oI x)))) J R gf gn) := by rw [eF9, eX9]; exact hD
    have hpost : 0 ≤ (F 19).toInt ∧ (F 19).toInt ≤ 3000 ∧ 0 ≤ (oI (((F 20).toInt) + 1)).toInt ∧ (oI (((F 20).toInt) + 1)).toInt ≤ 3000 := by first | assumption | omega | (with_reducible rfl) | ((repeat' apply And.intro) <;> first | assumption | omega | (with_reducible rfl))
    exact W.vret hx hb hr (fun t ht hW => ⟨⟨(va_up F 20 (oI (((F 20).toInt) + 1)), va_up X 11 (upd (X 11) ((F 20).toInt).toNat (oI x))), rfl, hpost, by rw [ht]; exact hP9, va_K.moved hW.alike hK, hD9⟩, hS.F ht⟩) hS.2.2 dX5_addForm_30

set_option maxHeartbeats 4000000 in
set_option maxRecDepth 100000 in
/-- X5_timesOf -/
theorem c_timesOf (l : Launch) (dC : Nat → ClassId) (dI : Nat → Nat → Nat) (cB cC cI cJ cZ : ClassId) (a : Nat → Nat) (F : Nat → Int32) (X : Nat → Nat → Int32) (J : Nat → Nat → Int64) (R : Nat → Nat) (gf gn : Nat) (x : Int)  (ix : (-2147483648 ≤ x ∧ x < 2147483648)) (hms : 0 ≤ (F 19).toInt ∧ (F 19).toInt ≤ 3000 ∧ 0 ≤ (F 20).toInt ∧ (F 20).toInt ≤ 3000) (s0 : Nat) : Met l yX5_timesOf vX5_timesOf { frames := 1, cells := 0, slots := 0, locals := 60 } (va_Pc [.ref (a 5), .int (oI x)] (cPre dC dI cB cC cI cJ cZ a F X J R gf gn s0)) (va_Qi (fun (r : Int32) (_ : Unit) => True) (fun _ => cPost dC dI cB cC cI cJ cZ a F X J R gf gn (va_A (CW cB cC cI cJ cZ a F X J R gf gn) s0)) (va_A (CW cB cC cI cJ cZ a F X J R gf gn) s0)) 0 0 (va_A (CW cB cC cI cJ cZ a F X J R gf gn) s0) := by
  refine Met.ofW (cc := cX5_timesOf) (maxL := 2) (ret := (some .int)) (by decide) rfl ?_
  intro p e s m args below meth c s₁ B9 hml hv
  obtain ⟨rfl, hsz0, hP, hK, hD0, hNW⟩ := hv
  have hx := B9.exec
  have hb := B9.bytes
  have hr := B9.returns
  have hts := atoms_spec (ws := vX5_timesOf) B9.pre
  have hown : s.vm.findClass RX5 = some m.cls := findClass_of_methodNamed B9.named
  have hlocks := B9.notSynchronized
  clear B9
  subst hsz0
  have hD := hD0.self (sz := s.heap.size)
  generalize hAe : va_A (CW cB cC cI cJ cZ a F X J R gf gn) s.heap.size = A at hD ⊢
  have hA : ∀ q : Nat, s.heap.size ≤ q → A q := fun q h => by rw [← hAe]; exact Or.inr h
  have hS : va_S A s.heap s.heap [] := va_S.rf
  have hcs : 0 + 0 ≤ (0 : Nat) ∧ 0 + 0 ≤ (0 : Nat) := ⟨Nat.le_refl 0, Nat.le_refl 0⟩
  have hl := lv_entry ([.ref (a 5), .int (oI x)]) (n := 2) (Nat.le_of_ble_eq_true rfl)
  rw [lg_entry_eq]
  generalize (lg_sl ([.ref (a 5), .int (oI x)]) ++ List.replicate (2 - (lg_sl ([.ref (a 5), .int (oI x)])).length) Slot.unset).toArray = ls at hl ⊢
  have hl : lv_has ls 2 [(0, .ref (a 5)), (1, .int (oI x))] := hl
  refine lv_iload_n hx hb dX5_timesOf_0 rfl (lv_at hl 1 rfl) ?_
  refine cz_lt (tgt := 21) hx hb (by omega) dX5_timesOf_1 (by decide) (fun c_1 => ?_) (fun c_1 => ?_)
  · refine lv_iconst (v := oI (-1)) hx hb dX5_timesOf_21 (by decide) ?_
    have hpost : True := trivial
    exact W.iret (v := (oI ((-1)))) hx hb hr (fun t ht hW => ⟨⟨(oI ((-1))), (), rfl, hpost, by rw [ht]; exact hP, va_K.moved hW.alike hK, hD⟩, hS.F ht⟩) hS.2.2 dX5_timesOf_22
  · refine lv_iload_n hx hb dX5_timesOf_4 rfl (lv_at hl 1 rfl) ?_
    refine lv_aload_n hx hb dX5_timesOf_5 rfl (lv_at hl 0 rfl) ?_
    refine cg_5_4 hx hb hts inX5_timesOf_X5 hown hK hP (hts _ lkX5_timesOf_f24) dX5_timesOf_6 ?_
    have i_2 := i32r (F 19)
    refine ci_ge (tgt := 21) hx hb (by omega) (i32r _) dX5_timesOf_9 (by decide) (fun c_3 => ?_) (fun c_3 => ?_)
    · refine lv_iconst (v := oI (-1)) hx hb dX5_timesOf_21 (by decide) ?_
      have hpost : True := trivial
      exact W.iret (v := (oI ((-1)))) hx hb hr (fun t ht hW => ⟨⟨(oI ((-1))), (), rfl, hpost, by rw [ht]; exact hP, va_K.moved hW.alike hK, hD⟩, hS.F ht⟩) hS.2.2 dX5_timesOf_22
    · refine lv_aload_n hx hb dX5_timesOf_12 rfl (lv_at hl 0 rfl) ?_
      refine cg_5_2 hx hb hts inX5_timesOf_X5 hown hK hP (hts _ lkX5_timesOf_f18) dX5_timesOf_13 ?_
      refine lv_iload_n hx hb dX5_timesOf_16 rfl (lv_at hl 1 rfl) ?_
      refine cl_10 hx hb hK hP (by omega) dX5_timesOf_17 (fun w_4 hw_4 => ?_)
      have i_5 := i32r w_4
      refine lv_goto (tgt := 22) hx hb dX5_timesOf_18 (by decide) ?_
      have hpost : True := trivial
      exact W.iret (v := (oI w_4.toInt)) hx hb hr (fun t ht hW => ⟨⟨(oI w_4.toInt), (), rfl, hpost, by rw [ht]; exact hP, va_K.moved hW.alike hK, hD⟩, hS.F ht⟩) hS.2.2 dX5_timesOf_22

set_option maxHeartbeats 4000000 in
set_option maxRecDepth 100000 in
/-- X5_formOf -/
theorem c_formOf (l : Launch) (dC : Nat → ClassId) (dI : Nat → Nat → Nat) (cB cC cI cJ cZ : ClassId) (a : Nat → Nat) (F : Nat → Int32) (X : Nat → Nat → Int32) (J : Nat → Nat → Int64) (R : Nat → Nat) (gf gn : Nat) (x y : Int)  (ix : (-2147483648 ≤ x ∧ x < 2147483648)) (iy : (-2147483648 ≤ y ∧ y < 2147483648)) (hms : 0 ≤ (F 19).toInt ∧ (F 19).toInt ≤ 3000 ∧ 0 ≤ (F 20).toInt ∧ (F 20).toInt ≤ 3000) (s0 : Nat) : Met l yX5_formOf vX5_formOf { frames := 1, cells := 0, slots := 0, locals := 60 } (va_Pc [.ref (a 5), .int (oI x), .int (oI y)] (cPre dC dI cB cC cI cJ cZ a F X J R gf gn s0)) (va_Qi (fun (r : Int32) (_ : Unit) => True) (fun _ => cPost dC dI cB cC cI cJ cZ a F X J R gf gn (va_A (CW cB cC cI cJ cZ a F X J R gf gn) s0)) (va_A (CW cB cC cI cJ cZ a F X J R gf gn) s0)) 0 0 (va_A (CW cB cC cI cJ cZ a F X J R gf gn) s0) := by
  refine Met.ofW (cc := cX5_formOf) (maxL := 4) (ret := (some .int)) (by decide) rfl ?_
  intro p e s m args below meth c s₁ B9 hml hv
  obtain ⟨rfl, hsz0, hP, hK, hD0, hNW⟩ := hv
  have hx := B9.exec
  have hb := B9.bytes
  have hr := B9.returns
  have hts := atoms_spec (ws := vX5_formOf) B9.pre
  have hown : s.vm.findClass RX5 = some m.cls := findClass_of_methodNamed B9.named
  have hlocks := B9.notSynchronized
  clear B9
  subst hsz0
  have hD := hD0.self (sz := s.heap.size)
  generalize hAe : va_A (CW cB cC cI cJ cZ a F X J R gf gn) s.heap.size = A at hD ⊢
  have hA : ∀ q : Nat, s.heap.size ≤ q → A q := fun q h => by rw [← hAe]; exact Or.inr h
  have hS : va_S A s.heap s.heap [] := va_S.rf
  have hcs : 0 + 0 ≤ (0 : Nat) ∧ 0 + 0 ≤ (0 : Nat) := ⟨Nat.le_refl 0, Nat.le_refl 0⟩
  have hl := lv_entry ([.ref (a 5), .int (oI x), .int (oI y)]) (n := 4) (Nat.le_of_ble_eq_true rfl)
  rw [lg_entry_eq]
  generalize (lg_sl ([.ref (a 5), .int (oI x), .int (oI y)]) ++ List.replicate (4 - (lg_sl ([.ref (a 5), .int (oI x), .int (oI y)])).length) Slot.unset).toArray = ls at hl ⊢
  have hl : lv_has ls 4 [(0, .ref (a 5)), (1, .int (oI x)), (2, .int (oI y))] := hl
  refine lv_iload_n hx hb dX5_formOf_0 rfl (lv_at hl 1 rfl) ?_
  refine cz_lt (tgt := 12) hx hb (by omega) dX5_formOf_1 (by decide) (fun c_1 => ?_) (fun c_1 => ?_)
  · refine lv_iconst (v := oI (-1)) hx hb dX5_formOf_12 (by decide) ?_
    have hpost : True := trivial
    exact W.iret (v := (oI ((-1)))) hx hb hr (fun t ht hW => ⟨⟨(oI ((-1))), (), rfl, hpost, by rw [ht]; exact hP, va_K.moved hW.alike hK, hD⟩, hS.F ht⟩) hS.2.2 dX5_formOf_13
  · refine lv_iload_n hx hb dX5_formOf_4 rfl (lv_at hl 1 rfl) ?_
    refine lv_aload_n hx hb dX5_formOf_5 rfl (lv_at hl 0 rfl) ?_
    refine cg_5_4 hx hb hts inX5_formOf_X5 hown hK hP (hts _ lkX5_formOf_f24) dX5_formOf_6 ?_
    have i_2 := i32r (F 19)
    refine ci_lt (tgt := 14) hx hb (by omega) (i32r _) dX5_formOf_9 (by decide) (fun c_3 => ?_) (fun c_3 => ?_)
    · refine lv_aload_n hx hb dX5_formOf_14 rfl (lv_at hl 0 rfl) ?_
      refine cg_5_0 hx hb hts inX5_formOf_X5 hown hK hP (hts _ lkX5_formOf_f9) dX5_formOf_15 ?_
      refine lv_iload_n hx hb dX5_formOf_18 rfl (lv_at hl 1 rfl) ?_
      refine cl_8 hx hb hK hP (by omega) dX5_formOf_19 (fun w_4 hw_4 => ?_)
      have i_5 := i32r w_4
      refine lv_iload_n hx hb dX5_formOf_20 rfl (lv_at hl 2 rfl) ?_
      refine lv_aload_n hx hb dX5_formOf_21 rfl (lv_at hl 0 rfl) ?_
      refine cg_5_1 hx hb hts inX5_formOf_X5 hown hK hP (hts _ lkX5_formOf_f15) dX5_formOf_22 ?_
      refine lv_iload_n hx hb dX5_formOf_25 rfl (lv_at hl 1 rfl) ?_
      refine cl_9 hx hb hK hP (by omega) dX5_formOf_26 (fun w_6 hw_6 => ?_)
      have i_7 := i32r w_6
      refine lv_imul hx hb dX5_formOf_27 ?_
      refine tp_i (oI_mul y w_6.toInt) ?_
      refine lv_iadd hx hb dX5_formOf_28 ?_
      refine tp_i (oI_add w_4.toInt (y * w_6.toInt)) ?_
      refine lv_topi (fun v_8 ev_8 => ?_)
      refine tp_i (oI_toInt v_8).symm ?_
      have i_9 := i32r v_8
      refine lv_istore_n (lv' := [(3, .int (oI v_8.toInt)), (0, .ref (a 5)), (1, .int (oI x)), (2, .int (oI y))]) hx hb dX5_formOf_29 rfl hl (by decide) rfl (fun ls hl => ?_)
      refine lv_iload_n hx hb dX5_formOf_30 rfl (lv_at hl 0 rfl) ?_
      refine cz_lt (tgt := 51) hx hb (i32r _) dX5_formOf_31 (by decide) (fun c_10 => ?_) (fun c_10 => ?_)
      · refine lv_iconst (v := oI (-1)) hx hb dX5_formOf_51 (by decide) ?_
        have hpost : True := trivial
        exact W.iret (v := (oI ((-1)))) hx hb hr (fun t ht hW => ⟨⟨(oI ((-1))), (), rfl, hpost, by rw [ht]; exact hP, va_K.moved hW.alike hK, hD⟩, hS.F ht⟩) hS.2.2 dX5_formOf_52
      · refine lv_iload_n hx hb dX5_formOf_34 rfl (lv_at hl 0 rfl) ?_
        refine lv_aload_n hx hb dX5_formOf_35 rfl (lv_at hl 1 rfl) ?_
        refine cg_5_5 hx hb hts inX5_formOf_X5 hown hK hP (hts _ lkX5_formOf_f28) dX5_formOf_36 ?_
        have i_11 := i32r (F 20)
        refine ci_ge (tgt := 51) hx hb (i32r _) (i32r _) dX5_formOf_39 (by decide) (fun c_12 => ?_) (fun c_12 => ?_)
        · refine lv_iconst (v := oI (-1)) hx hb dX5_formOf_51 (by decide) ?_
          have hpost : True := trivial
          exact W.iret (v := (oI ((-1)))) hx hb hr (fun t ht hW => ⟨⟨(oI ((-1))), (), rfl, hpost, by rw [ht]; exact hP, va_K.moved hW.alike hK, hD⟩, hS.F ht⟩) hS.2.2 dX5_formOf_52
        · refine lv_aload_n hx hb dX5_formOf_42 rfl (lv_at hl 1 rfl) ?_
          refine cg_5_3 hx hb hts inX5_formOf_X5 hown hK hP (hts _ lkX5_formOf_f21) dX5_formOf_43 ?_
          refine lv_iload_n hx hb dX5_formOf_46 rfl (lv_at hl 0 rfl) ?_
          refine cl_11 hx hb hK hP (by omega) dX5_formOf_47 (fun w_13 hw_13 => ?_)
          have i_14 := i32r w_13
          refine lv_goto (tgt := 52) hx hb dX5_formOf_48 (by decide) ?_
          have hpost : True := trivial
          exact W.iret (v := (oI w_13.toInt)) hx hb hr (fun t ht hW => ⟨⟨(oI w_13.toInt), (), rfl, hpost, by rw [ht]; exact hP, va_K.moved hW.alike hK, hD⟩, hS.F ht⟩) hS.2.2 dX5_formOf_52
    · refine lv_iconst (v := oI (-1)) hx hb dX5_formOf_12 (by decide) ?_
      have hpost : True := trivial
      exact W.iret (v := (oI ((-1)))) hx hb hr (fun t ht hW => ⟨⟨(oI ((-1))), (), rfl, hpost, by rw [ht]; exact hP, va_K.moved hW.alike hK, hD⟩, hS.F ht⟩) hS.2.2 dX5_formOf_13

set_option maxHeartbeats 4000000 in
set_option maxRecDepth 100000 in
theorem lp_repeat {p : Program} {l : Launch} {e : Env} {s : State} {m : MethodId} {args : Array Value} {below : List Frame} {meth : Method} {c : Code} {A : Nat → Prop} {dC : Nat → ClassId} {dI : Nat → Nat → Nat} {cB cC cI cJ cZ : ClassId} {a : Nat → Nat} {F : Nat → Int32} {X : Nat → Nat → Int32} {J : Nat → Nat → Int64} {R : Nat → Nat} {gf gn : Nat} (hx : p.tables.exec = Jvm.exec) (hb : c.code = cX5_repeat) (hml : c.maxLocals = 4) (hown : s.vm.findClass RX5 = some m.cls) (hts : ∀ w ∈ vX5_repeat, w.before args s = true) (hK : va_K (dC, dI) vwCl (TY cB cC cI cJ cZ) s) (hNW : NW s) (hA : ∀ q : Nat, s.heap.size ≤ q → A q) (hr : meth.sig.returnType = none) (hlocks : meth.locks = false) (x y : Int)  (ix : (-2147483648 ≤ x ∧ x < 2147483648)) (iy : (-2147483648 ≤ y ∧ y < 2147483648)) (hms : 0 ≤ (F 19).toInt ∧ (F 19).toInt ≤ 3000 ∧ 0 ≤ (F 20).toInt ∧ (F 20).toInt ≤ 3000)   : ∀ (k : Nat) (F1 : Nat → Int32) (X1 : Nat → Nat → Int32) (q : Int), (3000 - q).toNat < k → (-2147483648 ≤ q ∧ q < 2147483648) → (0 ≤ q) → ∀ (H : Heap) (locs : List Loc), va_P (dC, dI) vwCl (CW cB cC cI cJ cZ a F (rg 9 10 X X1) J R gf gn) H → va_D A (CW cB cC cI cJ cZ a F (rg 9 10 X X1) J R gf gn) → va_S A s.heap H locs → ∀ (ls : Array Slot), lv_has ls 4 [(0, .ref (a 5)), (1, .int (oI x)), (2, .int (oI y)), (3, .int (oI q))] → W p l e (headSpec vX5_repeat { frames := 1, cells := 0, slots := 0, locals := 60 }).room s m args below meth c H locs 0 0 (MQ below (va_Qv (fun (u : (Nat → Int32) × (Nat → Nat → Int32)) => match u with | (F1, X1) => True) (fun u => cPost dC dI cB cC cI cJ cZ a F (rg 9 10 X u.2) J R gf gn A) A) args s 0 0 A) (F0 m 6 ls []) := by
  have hcs : 0 + 0 ≤ (0 : Nat) ∧ 0 + 0 ≤ (0 : Nat) := ⟨Nat.le_refl 0, Nat.le_refl 0⟩
  intro k
  induction k with
  | zero =>
    intro F1 X1 q hk iq9 hq
    exact absurd hk (Nat.not_lt_zero _)
  | succ k ih =>
    intro F1 X1 q hk iq9 hq H locs hP hD hS ls hl
    refine lv_iload_n hx hb dX5_repeat_6 rfl (lv_at hl 3 rfl) ?_
    refine lv_aload_n hx hb dX5_repeat_7 rfl (lv_at hl 0 rfl) ?_
    refine cg_5_4 hx hb hts inX5_repeat_X5 hown hK hP (hts _ lkX5_repeat_f24) dX5_repeat_8 ?_
    have i_1 := i32r (F 19)
    refine ci_ge (tgt := 39) hx hb (by omega) (i32r _) dX5_repeat_11 (by decide) (fun c_2 => ?_) (fun c_2 => ?_)
    · have eX9 : rg 9 10 X (rg 9 10 X X1) = rg 9 10 X X1 := by funext k; simp only [rg, va_up]; (repeat' split) <;> first | with_reducible rfl | omega
      have hP9 : va_P (dC, dI) vwCl (CW cB cC cI cJ cZ a F (rg 9 10 X (rg 9 10 X X1)) J R gf gn) H := by rw [eX9]; exact hP
      have hD9 : va_D A (CW cB cC cI cJ cZ a F (rg 9 10 X (rg 9 10 X X1)) J R gf gn) := by rw [eX9]; exact hD
      have hpost : True := trivial
      exact W.vret hx hb hr (fun t ht hW => ⟨⟨(F, rg 9 10 X X1), rfl, hpost, by rw [ht]; exact hP9, va_K.moved hW.alike hK, hD9⟩, hS.F ht⟩) hS.2.2 dX5_repeat_39
    · refine lv_aload_n hx hb dX5_repeat_14 rfl (lv_at hl 0 rfl) ?_
      refine cg_5_1 hx hb hts inX5_repeat_X5 hown hK hP (hts _ lkX5_repeat_f15) dX5_repeat_15 ?_
      refine lv_iload_n hx hb dX5_repeat_18 rfl (lv_at hl 3 rfl) ?_
      refine lv_aload_n hx hb dX5_repeat_19 rfl (lv_at hl 0 rfl) ?_
      refine cg_5_4 hx hb hts inX5_repeat_X5 hown hK hP (hts _ lkX5_repeat_f24) dX5_repeat_20 ?_
      refine lv_iload_n hx hb dX5_repeat_23 rfl (lv_at hl 1 rfl) ?_
      refine lv_isub hx hb dX5_repeat_24 ?_
      refine tp_i (oI_sub ((F 19).toInt) x) ?_
      refine cs_9 hx hb hK hP hD hS (by omega) dX5_repeat_25 (fun H locs hP hD hS => ?_)
      have hP : va_P (dC, dI) vwCl (CW cB cC cI cJ cZ a F (va_up (rg 9 10 X X1) 9 (upd (X1 9) (q).toNat (oI (((F 19).toInt) - x)))) J R gf gn) H := hP
      have hD : va_D A (CW cB cC cI cJ cZ a F (va_up (rg 9 10 X X1) 9 (upd (X1 9) (q).toNat (oI (((F 19).toInt) - x)))) J R gf gn) := hD
      refine lv_aload_n hx hb dX5_repeat_26 rfl (lv_at hl 0 rfl) ?_
      refine cg_5_2 hx hb hts inX5_repeat_X5 hown hK hP (hts _ lkX5_repeat_f18) dX5_repeat_27 ?_
      refine lv_iload_n hx hb dX5_repeat_30 rfl (lv_at hl 3 rfl) ?_
      refine lv_iload_n hx hb dX5_repeat_31 rfl (lv_at hl 2 rfl) ?_
      refine cs_10 hx hb hK hP hD hS (by omega) dX5_repeat_32 (fun H locs hP hD hS => ?_)
      have hP : va_P (dC, dI) vwCl (CW cB cC cI cJ cZ a F (va_up (va_up (rg 9 10 X X1) 9 (upd (X1 9) (q).toNat (oI (((F 19).toInt) - x)))) 10 (upd (X1 10) (q).toNat (oI y))) J R gf gn) H := hP
      have hD : va_D A (CW cB cC cI cJ cZ a F (va_up (va_up (rg 9 10 X X1) 9 (upd (X1 9) (q).toNat (oI (((F 19).toInt) - x)))) 10 (upd (X1 10) (q).toNat (oI y))) J R gf gn) := hD
      refine lv_iinc (v := oI (q + 1)) (lv' := [(3, .int (oI (q + 1))), (0, .ref (a 5)), (1, .int (oI x)), (2, .int (oI y))]) hx hb dX5_repeat_33 hl (k := 3) rfl (oI_add q 1) (by decide) rfl (fun ls hl => ?_)
      refine lv_goto (tgt := 6) hx hb dX5_repeat_36 (by decide) ?_
      have eX9 : rg 9 10 X (va_up (va_up (rg 9 10 X X1) 9 (upd (X1 9) (q).toNat (oI (((F 19).toInt) - x)))) 10 (upd (X1 10) (q).toNat (oI y))) = va_up (va_up (rg 9 10 X X1) 9 (upd (X1 9) (q).toNat (oI (((F 19).toInt) - x)))) 10 (upd (X1 10) (q).toNat (oI y)) := by funext k; simp only [rg, va_up]; (repeat' split) <;> first | with_reducible rfl | omega
      have hP9 : va_P (dC, dI) vwCl (CW cB cC cI cJ cZ a F (rg 9 10 X (va_up (va_up (rg 9 10 X X1) 9 (upd (X1 9) (q).toNat (oI (((F 19).toInt) - x)))) 10 (upd (X1 10) (q).toNat (oI y)))) J R gf gn) H := by rw [eX9]; exact hP
      have hD9 : va_D A (CW cB cC cI cJ cZ a F (rg 9 10 X (va_up (va_up (rg 9 10 X X1) 9 (upd (X1 9) (q).toNat (oI (((F 19).toInt) - x)))) 10 (upd (X1 10) (q).toNat (oI y)))) J R gf gn) := by rw [eX9]; exact hD
      exact ih F (va_up (va_up (rg 9 10 X X1) 9 (upd (X1 9) (q).toNat (oI (((F 19).toInt) - x)))) 10 (upd (X1 10) (q).toNat (oI y))) (q + 1) (show (3000 - (q + 1)).toNat < k from by omega) (by omega) (show 0 ≤ q + 1 from by first | assumption | omega | (with_reducible rfl) | ((repeat' apply And.intro) <;> first | assumption | omega | (with_reducible rfl))) _ _ hP9 hD9 hS ls (lv_sub hl [1, 2, 3, 0] rfl)

set_option maxHeartbeats 4000000 in
set_option maxRecDepth 100000 in
/-- X5_repeat -/
theorem c_repeat (l : Launch) (dC : Nat → ClassId) (dI : Nat → Nat → Nat) (cB cC cI cJ cZ : ClassId) (a : Nat → Nat) (F : Nat → Int32) (X : Nat → Nat → Int32) (J : Nat → Nat → Int64) (R : Nat → Nat) (gf gn : Nat) (x y : Int)  (ix : (-2147483648 ≤ x ∧ x < 2147483648)) (iy : (-2147483648 ≤ y ∧ y < 2147483648)) (hms : 0 ≤ (F 19).toInt ∧ (F 19).toInt ≤ 3000 ∧ 0 ≤ (F 20).toInt ∧ (F 20).toInt ≤ 3000) (s0 : Nat) : Met l yX5_repeat vX5_repeat { frames := 1, cells := 0, slots := 0, locals := 60 } (va_Pc [.ref (a 5), .int (oI x), .int (oI y)] (cPre dC dI cB cC cI cJ cZ a F X J R gf gn s0)) (va_Qv (fun (u : (Nat → Int32) × (Nat → Nat → Int32)) => match u with | (F1, X1) => True) (fun u => cPost dC dI cB cC cI cJ cZ a F (rg 9 10 X u.2) J R gf gn (va_A (CW cB cC cI cJ cZ a F X J R gf gn) s0)) (va_A (CW cB cC cI cJ cZ a F X J R gf gn) s0)) 0 0 (va_A (CW cB cC cI cJ cZ a F X J R gf gn) s0) := by
  refine Met.ofW (cc := cX5_repeat) (maxL := 4) (ret := none) (by decide) rfl ?_
  intro p e s m args below meth c s₁ B9 hml hv
  obtain ⟨rfl, hsz0, hP, hK, hD0, hNW⟩ := hv
  have hx := B9.exec
  have hb := B9.bytes
  have hr := B9.returns
  have hts := atoms_spec (ws := vX5_repeat) B9.pre
  have hown : s.vm.findClass RX5 = some m.cls := findClass_of_methodNamed B9.named
  have hlocks := B9.notSynchronized
  clear B9
  subst hsz0
  have hD := hD0.self (sz := s.heap.size)
  generalize hAe : va_A (CW cB cC cI cJ cZ a F X J R gf gn) s.heap.size = A at hD ⊢
  have hA : ∀ q : Nat, s.heap.size ≤ q → A q := fun q h => by rw [← hAe]; exact Or.inr h
  have hS : va_S A s.heap s.heap [] := va_S.rf
  have hcs : 0 + 0 ≤ (0 : Nat) ∧ 0 + 0 ≤ (0 : Nat) := ⟨Nat.le_refl 0, Nat.le_refl 0⟩
  have hl := lv_entry ([.ref (a 5), .int (oI x), .int (oI y)]) (n := 4) (Nat.le_of_ble_eq_true rfl)
  rw [lg_entry_eq]
  generalize (lg_sl ([.ref (a 5), .int (oI x), .int (oI y)]) ++ List.replicate (4 - (lg_sl ([.ref (a 5), .int (oI x), .int (oI y)])).length) Slot.unset).toArray = ls at hl ⊢
  have hl : lv_has ls 4 [(0, .ref (a 5)), (1, .int (oI x)), (2, .int (oI y))] := hl
  refine lv_iconst (v := oI 0) hx hb dX5_repeat_0 (by decide) ?_
  refine lv_iload_n hx hb dX5_repeat_1 rfl (lv_at hl 1 rfl) ?_
  refine cm_max hx hb (hml.trans hl.1.symm) hown (hts _ lkX5_repeat_l31) (hts _ lkX5_repeat_smax) (hts _ lkX5_repeat_zmath) (hts _ lkX5_repeat_kmax) (Nat.le_of_ble_eq_true rfl) (Nat.le_of_ble_eq_true rfl) hcs.1 hcs.2 (by decide) (by omega) dX5_repeat_2 (fun m_1 hm_1 => ?_)
  refine lv_istore_n (lv' := [(3, .int (oI m_1)), (0, .ref (a 5)), (1, .int (oI x)), (2, .int (oI y))]) hx hb dX5_repeat_5 rfl hl (by decide) rfl (fun ls hl => ?_)
  have eX9 : rg 9 10 X X = X := by funext k; simp only [rg, va_up]; (repeat' split) <;> first | with_reducible rfl | omega
  have hP9 : va_P (dC, dI) vwCl (CW cB cC cI cJ cZ a F (rg 9 10 X X) J R gf gn) s.heap := by rw [eX9]; exact hP
  have hD9 : va_D A (CW cB cC cI cJ cZ a F (rg 9 10 X X) J R gf gn) := by rw [eX9]; exact hD
  exact lp_repeat hx hb hml hown hts hK hNW hA hr hlocks x y ix iy (by assumption)  _ F X m_1 (Nat.lt_succ_self _) (by omega) (show 0 ≤ m_1 from by first | assumption | omega | (with_reducible rfl) | ((repeat' apply And.intro) <;> first | assumption | omega | (with_reducible rfl))) _ _ hP9 hD9 hS ls (lv_sub hl [1, 2, 3, 0] rfl)

set_option maxHeartbeats 4000000 in
set_option maxRecDepth 100000 in
theorem lp_half {p : Program} {l : Launch} {e : Env} {s : State} {m : MethodId} {args : Array Value} {below : List Frame} {meth : Method} {c : Code} {A : Nat → Prop} {dC : Nat → ClassId} {dI : Nat → Nat → Nat} {cB cC cI cJ cZ : ClassId} {a : Nat → Nat} {F : Nat → Int32} {X : Nat → Nat → Int32} {J : Nat → Nat → Int64} {R : Nat → Nat} {gf gn : Nat} (hx : p.tables.exec = Jvm.exec) (hb : c.code = cX6_half) (hml : c.maxLocals = 6) (hown : s.vm.findClass RX6 = some m.cls) (hts : ∀ w ∈ vX6_half, w.before args s = true) (hK : va_K (dC, dI) vwCl (TY cB cC cI cJ cZ) s) (hNW : NW s) (hA : ∀ q : Nat, s.heap.size ≤ q → A q) (hr : meth.sig.returnType = (some .long)) (hlocks : meth.locks = false) (x y : Int)  (ix : (-2147483648 ≤ x ∧ x < 2147483648)) (iy : (-2147483648 ≤ y ∧ y < 2147483648)) (hx2 : x < 1073741824)   : ∀ (k : Nat) (h : Int64) (q : Int), (3000 - q).toNat < k → (-2147483648 ≤ q ∧ q < 2147483648) → ∀ (H : Heap) (locs : List Loc), va_P (dC, dI) vwCl (CW cB cC cI cJ cZ a F X J R gf gn) H → va_D A (CW cB cC cI cJ cZ a F X J R gf gn) → va_S A s.heap H locs → ∀ (ls : Array Slot), lv_has ls 6 [(0, .ref (R 26)), (1, .int (oI x)), (2, .int (oI y)), (3, .long h), (5, .int (oI q))] → W p l e (headSpec vX6_half { frames := 1, cells := 0, slots := 0, locals := 60 }).room s m args below meth c H locs 0 0 (MQ below (va_Ql (fun (r : Int64) (_ : Unit) => True) (fun _ => cPost dC dI cB cC cI cJ cZ a F X J R gf gn A) A) args s 0 0 A) (F0 m 5 ls []) := by
  have hcs : 0 + 0 ≤ (0 : Nat) ∧ 0 + 0 ≤ (0 : Nat) := ⟨Nat.le_refl 0, Nat.le_refl 0⟩
  intro k
  induction k with
  | zero =>
    intro h q hk iq9
    exact absurd hk (Nat.not_lt_zero _)
  | succ k ih =>
    intro h q hk iq9 H locs hP hD hS ls hl
    refine lv_iload hx hb dX6_half_5 (lv_at hl 4 rfl) ?_
    refine lv_iload_n hx hb dX6_half_7 rfl (lv_at hl 2 rfl) ?_
    refine ci_ge (tgt := 49) hx hb (by omega) (by omega) dX6_half_8 (by decide) (fun c_1 => ?_) (fun c_1 => ?_)
    · refine lv_lload_n hx hb dX6_half_49 rfl (lv_at hl 3 rfl) ?_
      have hpost : True := trivial
      exact W.lret (v := h) hx hb hr (fun t ht hW => ⟨⟨h, (), rfl, hpost, by rw [ht]; exact hP, va_K.moved hW.alike hK, hD⟩, hS.F ht⟩) hS.2.2 dX6_half_50
    · refine lv_iload hx hb dX6_half_11 (lv_at hl 4 rfl) ?_
      refine lv_iload_n hx hb dX6_half_13 rfl (lv_at hl 1 rfl) ?_
      refine lv_bipush (v := oI 8) hx hb dX6_half_14 (by decide) ?_
      refine lv_iadd hx hb dX6_half_16 ?_
      refine tp_i (oI_add x 8) ?_
      refine ci_ge (tgt := 49) hx hb (by omega) (by omega) dX6_half_17 (by decide) (fun c_2 => ?_) (fun c_2 => ?_)
      · refine lv_lload_n hx hb dX6_half_49 rfl (lv_at hl 3 rfl) ?_
        have hpost : True := trivial
        exact W.lret (v := h) hx hb hr (fun t ht hW => ⟨⟨h, (), rfl, hpost, by rw [ht]; exact hP, va_K.moved hW.alike hK, hD⟩, hS.F ht⟩) hS.2.2 dX6_half_50
      · refine lv_iload hx hb dX6_half_20 (lv_at hl 4 rfl) ?_
        refine cz_lt (tgt := 49) hx hb (by omega) dX6_half_22 (by decide) (fun c_3 => ?_) (fun c_3 => ?_)
        · refine lv_lload_n hx hb dX6_half_49 rfl (lv_at hl 3 rfl) ?_
          have hpost : True := trivial
          exact W.lret (v := h) hx hb hr (fun t ht hW => ⟨⟨h, (), rfl, hpost, by rw [ht]; exact hP, va_K.moved hW.alike hK, hD⟩, hS.F ht⟩) hS.2.2 dX6_half_50
        · refine lv_iload hx hb dX6_half_25 (lv_at hl 4 rfl) ?_
          refine lv_aload_n hx hb dX6_half_27 rfl (lv_at hl 0 rfl) ?_
          refine cn_26 hx hb hK hP dX6_half_28 ?_
          refine ci_ge (tgt := 49) hx hb (by omega) (by decide) dX6_half_29 (by decide) (fun c_4 => ?_) (fun c_4 => ?_)
          · refine lv_lload_n hx hb dX6_half_49 rfl (lv_at hl 3 rfl) ?_
            have hpost : True := trivial
            exact W.lret (v := h) hx hb hr (fun t ht hW => ⟨⟨h, (), rfl, hpost, by rw [ht]; exact hP, va_K.moved hW.alike hK, hD⟩, hS.F ht⟩) hS.2.2 dX6_half_50
          · refine lv_lload_n hx hb dX6_half_32 rfl (lv_at hl 3 rfl) ?_
            refine lv_bipush (v := oI 8) hx hb dX6_half_33 (by decide) ?_
            refine lv_lshl hx hb dX6_half_35 rfl ?_
            refine lv_topl (fun v_5 ev_5 => ?_)
            refine lv_aload_n hx hb dX6_half_36 rfl (lv_at hl 0 rfl) ?_
            refine lv_iload hx hb dX6_half_37 (lv_at hl 4 rfl) ?_
            refine cl_26 hx hb hK hP (by omega) dX6_half_39 (fun w_6 hw_6 => ?_)
            have i_7 := i32r w_6
            refine lv_i2l hx hb dX6_half_40 rfl ?_
            refine lv_topl (fun v_8 ev_8 => ?_)
            refine lv_lor hx hb dX6_half_41 ?_
            refine lv_topl (fun v_9 ev_9 => ?_)
            refine lv_lstore_n (lv' := [(3, .long v_9), (0, .ref (R 26)), (1, .int (oI x)), (2, .int (oI y)), (5, .int (oI q))]) hx hb dX6_half_42 rfl hl (by decide) rfl (fun ls hl => ?_)
            refine lv_iinc (v := oI (q + 1)) (lv' := [(5, .int (oI (q + 1))), (3, .long v_9), (0, .ref (R 26)), (1, .int (oI x)), (2, .int (oI y))]) hx hb dX6_half_43 hl (k := 4) rfl (oI_add q 1) (by decide) rfl (fun ls hl => ?_)
            refine lv_goto (tgt := 5) hx hb dX6_half_46 (by decide) ?_
            exact ih v_9 (q + 1) (show (3000 - (q + 1)).toNat < k from by omega) (by omega) _ _ hP hD hS ls (lv_sub hl [2, 3, 4, 1, 0] rfl)

set_option maxHeartbeats 4000000 in
set_option maxRecDepth 100000 in
/-- X6_half -/
theorem c_half (l : Launch) (dC : Nat → ClassId) (dI : Nat → Nat → Nat) (cB cC cI cJ cZ : ClassId) (a : Nat → Nat) (F : Nat → Int32) (X : Nat → Nat → Int32) (J : Nat → Nat → Int64) (R : Nat → Nat) (gf gn : Nat) (x y : Int)  (ix : (-2147483648 ≤ x ∧ x < 2147483648)) (iy : (-2147483648 ≤ y ∧ y < 2147483648)) (hx2 : x < 1073741824) (s0 : Nat) : Met l yX6_half vX6_half { frames := 1, cells := 0, slots := 0, locals := 60 } (va_Pc [.ref (R 26), .int (oI x), .int (oI y)] (cPre dC dI cB cC cI cJ cZ a F X J R gf gn s0)) (va_Ql (fun (r : Int64) (_ : Unit) => True) (fun _ => cPost dC dI cB cC cI cJ cZ a F X J R gf gn (va_A (CW cB cC cI cJ cZ a F X J R gf gn) s0)) (va_A (CW cB cC cI cJ cZ a F X J R gf gn) s0)) 0 0 (va_A (CW cB cC cI cJ cZ a F X J R gf gn) s0) := by
  refine Met.ofW (cc := cX6_half) (maxL := 6) (ret := (some .long)) (by decide) rfl ?_
  intro p e s m args below meth c s₁ B9 hml hv
  obtain ⟨rfl, hsz0, hP, hK, hD0, hNW⟩ := hv
  have hx := B9.exec
  have hb := B9.bytes
  have hr := B9.returns
  have hts := atoms_spec (ws := vX6_half) B9.pre
  have hown : s.vm.findClass RX6 = some m.cls := findClass_of_methodNamed B9.named
  have hlocks := B9.notSynchronized
  clear B9
  subst hsz0
  have hD := hD0.self (sz := s.heap.size)
  generalize hAe : va_A (CW cB cC cI cJ cZ a F X J R gf gn) s.heap.size = A at hD ⊢
  have hA : ∀ q : Nat, s.heap.size ≤ q → A q := fun q h => by rw [← hAe]; exact Or.inr h
  have hS : va_S A s.heap s.heap [] := va_S.rf
  have hcs : 0 + 0 ≤ (0 : Nat) ∧ 0 + 0 ≤ (0 : Nat) := ⟨Nat.le_refl 0, Nat.le_refl 0⟩
  have hl := lv_entry ([.ref (R 26), .int (oI x), .int (oI y)]) (n := 6) (Nat.le_of_ble_eq_true rfl)
  rw [lg_entry_eq]
  generalize (lg_sl ([.ref (R 26), .int (oI x), .int (oI y)]) ++ List.replicate (6 - (lg_sl ([.ref (R 26), .int (oI x), .int (oI y)])).length) Slot.unset).toArray = ls at hl ⊢
  have hl : lv_has ls 6 [(0, .ref (R 26)), (1, .int (oI x)), (2, .int (oI y))] := hl
  refine lv_lconst (v := 0) hx hb dX6_half_0 (by decide) ?_
  refine lv_lstore_n (lv' := [(3, .long 0), (0, .ref (R 26)), (1, .int (oI x)), (2, .int (oI y))]) hx hb dX6_half_1 rfl hl (by decide) rfl (fun ls hl => ?_)
  refine lv_iload_n hx hb dX6_half_2 rfl (lv_at hl 2 rfl) ?_
  refine lv_istore (lv' := [(5, .int (oI x)), (3, .long 0), (0, .ref (R 26)), (1, .int (oI x)), (2, .int (oI y))]) hx hb dX6_half_3 hl (by decide) rfl (fun ls hl => ?_)
  exact lp_half hx hb hml hown hts hK hNW hA hr hlocks x y ix iy (by assumption)  _ 0 x (Nat.lt_succ_self _) (by omega) _ _ hP hD hS ls (lv_sub hl [2, 3, 4, 1, 0] rfl)

set_option maxHeartbeats 4000000 in
set_option maxRecDepth 100000 in
theorem lp_find {p : Program} {l : Launch} {e : Env} {s : State} {m : MethodId} {args : Array Value} {below : List Frame} {meth : Method} {c : Code} {A : Nat → Prop} {dC : Nat → ClassId} {dI : Nat → Nat → Nat} {cB cC cI cJ cZ : ClassId} {a : Nat → Nat} {F : Nat → Int32} {X : Nat → Nat → Int32} {J : Nat → Nat → Int64} {R : Nat → Nat} {gf gn : Nat} (hx : p.tables.exec = Jvm.exec) (hb : c.code = cX6_find) (hml : c.maxLocals = 6) (hown : s.vm.findClass RX6 = some m.cls) (hts : ∀ w ∈ vX6_find, w.before args s = true) (hK : va_K (dC, dI) vwCl (TY cB cC cI cJ cZ) s) (hNW : NW s) (hA : ∀ q : Nat, s.heap.size ≤ q → A q) (hr : meth.sig.returnType = (some .int)) (hlocks : meth.locks = false) (g1 g2 : Int64)  (hsy : 0 ≤ (F 15).toInt ∧ (F 15).toInt ≤ 2560)   : ∀ (k : Nat) (q : Int), (3000 - q).toNat < k → (-2147483648 ≤ q ∧ q < 2147483648) → (0 ≤ q) → ∀ (H : Heap) (locs : List Loc), va_P (dC, dI) vwCl (CW cB cC cI cJ cZ a F X J R gf gn) H → va_D A (CW cB cC cI cJ cZ a F X J R gf gn) → va_S A s.heap H locs → ∀ (ls : Array Slot), lv_has ls 6 [(0, .ref (a 6)), (1, .long g1), (3, .long g2), (5, .int (oI q))] → W p l e (headSpec vX6_find { frames := 1, cells := 0, slots := 0, locals := 60 }).room s m args below meth c H locs 0 0 (MQ below (va_Qi (fun (r : Int32) (_ : Unit) => True) (fun _ => cPost dC dI cB cC cI cJ cZ a F X J R gf gn A) A) args s 0 0 A) (F0 m 3 ls []) := by
  have hcs : 0 + 0 ≤ (0 : Nat) ∧ 0 + 0 ≤ (0 : Nat) := ⟨Nat.le_refl 0, Nat.le_refl 0⟩
  intro k
  induction k with
  | zero =>
    intro q hk iq9 hq
    exact absurd hk (Nat.not_lt_zero _)
  | succ k ih =>
    intro q hk iq9 hq H locs hP hD hS ls hl
    refine lv_iload hx hb dX6_find_3 (lv_at hl 3 rfl) ?_
    refine lv_aload_n hx hb dX6_find_5 rfl (lv_at hl 0 rfl) ?_
    refine cg_6_4 hx hb hts inX6_find_X6 hown hK hP (hts _ lkX6_find_f25) dX6_find_6 ?_
    have i_1 := i32r (F 15)
    refine ci_ge (tgt := 45) hx hb (by omega) (i32r _) dX6_find_9 (by decide) (fun c_2 => ?_) (fun c_2 => ?_)
    · refine lv_iconst (v := oI (-1)) hx hb dX6_find_45 (by decide) ?_
      have hpost : True := trivial
      exact W.iret (v := (oI ((-1)))) hx hb hr (fun t ht hW => ⟨⟨(oI ((-1))), (), rfl, hpost, by rw [ht]; exact hP, va_K.moved hW.alike hK, hD⟩, hS.F ht⟩) hS.2.2 dX6_find_46
    · refine lv_aload_n hx hb dX6_find_12 rfl (lv_at hl 0 rfl) ?_
      refine cg_6_0 hx hb hts inX6_find_X6 hown hK hP (hts _ lkX6_find_f9) dX6_find_13 ?_
      refine lv_iload hx hb dX6_find_16 (lv_at hl 3 rfl) ?_
      refine cjl_0 hx hb hK hP (by omega) dX6_find_18 (fun w_3 hw_3 => ?_)
      refine lv_lload_n hx hb dX6_find_19 rfl (lv_at hl 1 rfl) ?_
      refine W.lcmp hx hb dX6_find_20 ?_
      refine lv_topi (fun v_4 ev_4 => ?_)
      refine tp_i (oI_toInt v_4).symm ?_
      have i_5 := i32r v_4
      refine cz_ne (tgt := 39) hx hb (i32r _) dX6_find_21 (by decide) (fun c_6 => ?_) (fun c_6 => ?_)
      · refine lv_iinc (v := oI (q + 1)) (lv' := [(5, .int (oI (q + 1))), (0, .ref (a 6)), (1, .long g1), (3, .long g2)]) hx hb dX6_find_39 hl (k := 3) rfl (oI_add q 1) (by decide) rfl (fun ls hl => ?_)
        refine lv_goto (tgt := 3) hx hb dX6_find_42 (by decide) ?_
        exact ih (q + 1) (show (3000 - (q + 1)).toNat < k from by omega) (by omega) (show 0 ≤ q + 1 from by first | assumption | omega | (with_reducible rfl) | ((repeat' apply And.intro) <;> first | assumption | omega | (with_reducible rfl))) _ _ hP hD hS ls (lv_sub hl [1, 2, 3, 0] rfl)
      · refine lv_aload_n hx hb dX6_find_24 rfl (lv_at hl 0 rfl) ?_
        refine cg_6_1 hx hb hts inX6_find_X6 hown hK hP (hts _ lkX6_find_f15) dX6_find_25 ?_
        refine lv_iload hx hb dX6_find_28 (lv_at hl 3 rfl) ?_
        refine cjl_1 hx hb hK hP (by omega) dX6_find_30 (fun w_7 hw_7 => ?_)
        refine lv_lload_n hx hb dX6_find_31 rfl (lv_at hl 2 rfl) ?_
        refine W.lcmp hx hb dX6_find_32 ?_
        refine lv_topi (fun v_8 ev_8 => ?_)
        refine tp_i (oI_toInt v_8).symm ?_
        have i_9 := i32r v_8
        refine cz_ne (tgt := 39) hx hb (i32r _) dX6_find_33 (by decide) (fun c_10 => ?_) (fun c_10 => ?_)
        · refine lv_iinc (v := oI (q + 1)) (lv' := [(5, .int (oI (q + 1))), (0, .ref (a 6)), (1, .long g1), (3, .long g2)]) hx hb dX6_find_39 hl (k := 3) rfl (oI_add q 1) (by decide) rfl (fun ls hl => ?_)
          refine lv_goto (tgt := 3) hx hb dX6_find_42 (by decide) ?_
          exact ih (q + 1) (show (3000 - (q + 1)).toNat < k from by omega) (by omega) (show 0 ≤ q + 1 from by first | assumption | omega | (with_reducible rfl) | ((repeat' apply And.intro) <;> first | assumption | omega | (with_reducible rfl))) _ _ hP hD hS ls (lv_sub hl [1, 2, 3, 0] rfl)
        · refine lv_iload hx hb dX6_find_36 (lv_at hl 3 rfl) ?_
          have hpost : True := trivial
          exact W.iret (v := (oI q)) hx hb hr (fun t ht hW => ⟨⟨(oI q), (), rfl, hpost, by rw [ht]; exact hP, va_K.moved hW.alike hK, hD⟩, hS.F ht⟩) hS.2.2 dX6_find_38

set_option maxHeartbeats 4000000 in
set_option maxRecDepth 100000 in
/-- X6_find -/
theorem c_find (l : Launch) (dC : Nat → ClassId) (dI : Nat → Nat → Nat) (cB cC cI cJ cZ : ClassId) (a : Nat → Nat) (F : Nat → Int32) (X : Nat → Nat → Int32) (J : Nat → Nat → Int64) (R : Nat → Nat) (gf gn : Nat) (g1 g2 : Int64)  (hsy : 0 ≤ (F 15).toInt ∧ (F 15).toInt ≤ 2560) (s0 : Nat) : Met l yX6_find vX6_find { frames := 1, cells := 0, slots := 0, locals := 60 } (va_Pc [.ref (a 6), .long g1, .long g2] (cPre dC dI cB cC cI cJ cZ a F X J R gf gn s0)) (va_Qi (fun (r : Int32) (_ : Unit) => True) (fun _ => cPost dC dI cB cC cI cJ cZ a F X J R gf gn (va_A (CW cB cC cI cJ cZ a F X J R gf gn) s0)) (va_A (CW cB cC cI cJ cZ a F X J R gf gn) s0)) 0 0 (va_A (CW cB cC cI cJ cZ a F X J R gf gn) s0) := by
  refine Met.ofW (cc := cX6_find) (maxL := 6) (ret := (some .int)) (by decide) rfl ?_
  intro p e s m args below meth c s₁ B9 hml hv
  obtain ⟨rfl, hsz0, hP, hK, hD0, hNW⟩ := hv
  have hx := B9.exec
  have hb := B9.bytes
  have hr := B9.returns
  have hts := atoms_spec (ws := vX6_find) B9.pre
  have hown : s.vm.findClass RX6 = some m.cls := findClass_of_methodNamed B9.named
  have hlocks := B9.notSynchronized
  clear B9
  subst hsz0
  have hD := hD0.self (sz := s.heap.size)
  generalize hAe : va_A (CW cB cC cI cJ cZ a F X J R gf gn) s.heap.size = A at hD ⊢
  have hA : ∀ q : Nat, s.heap.size ≤ q → A q := fun q h => by rw [← hAe]; exact Or.inr h
  have hS : va_S A s.heap s.heap [] := va_S.rf
  have hcs : 0 + 0 ≤ (0 : Nat) ∧ 0 + 0 ≤ (0 : Nat) := ⟨Nat.le_refl 0, Nat.le_refl 0⟩
  have hl := lv_entry ([.ref (a 6), .long g1, .long g2]) (n := 6) (Nat.le_of_ble_eq_true rfl)
  rw [lg_entry_eq]
  generalize (lg_sl ([.ref (a 6), .long g1, .long g2]) ++ List.replicate (6 - (lg_sl ([.ref (a 6), .long g1, .long g2])).length) Slot.unset).toArray = ls at hl ⊢
  have hl : lv_has ls 6 [(0, .ref (a 6)), (1, .long g1), (3, .long g2)] := hl
  refine lv_iconst (v := oI 0) hx hb dX6_find_0 (by decide) ?_
  refine lv_istore (lv' := [(5, .int (oI 0)), (0, .ref (a 6)), (1, .long g1), (3, .long g2)]) hx hb dX6_find_1 hl (by decide) rfl (fun ls hl => ?_)
  exact lp_find hx hb hml hown hts hK hNW hA hr hlocks g1 g2 (by assumption)  _ 0 (Nat.lt_succ_self _) (by decide) (show 0 ≤ 0 from by first | assumption | omega | (with_reducible rfl) | ((repeat' apply And.intro) <;> first | assumption | omega | (with_reducible rfl))) _ _ hP hD hS ls (lv_sub hl [1, 2, 3, 0] rfl)

set_option maxHeartbeats 4000000 in
set_option maxRecDepth 100000 in
/-- X6_addName -/
theorem c_addName (l : Launch) (dC : Nat → ClassId) (dI : Nat → Nat → Nat) (cB cC cI cJ cZ : ClassId) (a : Nat → Nat) (F : Nat → Int32) (X : Nat → Nat → Int32) (J : Nat → Nat → Int64) (R : Nat → Nat) (gf gn : Nat) (x y : Int)  (ix : (-2147483648 ≤ x ∧ x < 2147483648)) (iy : (-2147483648 ≤ y ∧ y < 2147483648)) (hgn : gn ≤ 63261) (hnt : 0 ≤ (F 13).toInt ∧ (F 13).toInt ≤ (gn : Int)) (s0 : Nat) : Met l yX6_addName vX6_addName { frames := 1, cells := 0, slots := 0, locals := 60 } (va_Pc [.ref (a 6), .int (oI x), .int (oI y)] (cPre dC dI cB cC cI cJ cZ a F X J R gf gn s0)) (va_Qi (fun (r : Int32) (u : (Nat → Int32) × (Nat → Nat → Int32)) => match u with | (F1, X1) => 0 ≤ (F1 13).toInt ∧ (F1 13).toInt ≤ (gn : Int)) (fun u => cPost dC dI cB cC cI cJ cZ a (rg 13 13 F u.1) (rg 14 17 X u.2) J R gf gn (va_A (CW cB cC cI cJ cZ a F X J R gf gn) s0)) (va_A (CW cB cC cI cJ cZ a F X J R gf gn) s0)) 0 0 (va_A (CW cB cC cI cJ cZ a F X J R gf gn) s0) := by
  refine Met.ofW (cc := cX6_addName) (maxL := 3) (ret := (some .int)) (by decide) rfl ?_
  intro p e s m args below meth c s₁ B9 hml hv
  obtain ⟨rfl, hsz0, hP, hK, hD0, hNW⟩ := hv
  have hx := B9.exec
  have hb := B9.bytes
  have hr := B9.returns
  have hts := atoms_spec (ws := vX6_addName) B9.pre
  have hown : s.vm.findClass RX6 = some m.cls := findClass_of_methodNamed B9.named
  have hlocks := B9.notSynchronized
  clear B9
  subst hsz0
  have hD := hD0.self (sz := s.heap.size)
  generalize hAe : va_A (CW cB cC cI cJ cZ a F X J R gf gn) s.heap.size = A at hD ⊢
  have hA : ∀ q : Nat, s.heap.size ≤ q → A q := fun q h => by rw [← hAe]; exact Or.inr h
  have hS : va_S A s.heap s.heap [] := va_S.rf
  have hcs : 0 + 0 ≤ (0 : Nat) ∧ 0 + 0 ≤ (0 : Nat) := ⟨Nat.le_refl 0, Nat.le_refl 0⟩
  have hl := lv_entry ([.ref (a 6), .int (oI x), .int (oI y)]) (n := 3) (Nat.le_of_ble_eq_true rfl)
  rw [lg_entry_eq]
  generalize (lg_sl ([.ref (a 6), .int (oI x), .int (oI y)]) ++ List.replicate (3 - (lg_sl ([.ref (a 6), .int (oI x), .int (oI y)])).length) Slot.unset).toArray = ls at hl ⊢
  have hl : lv_has ls 3 [(0, .ref (a 6)), (1, .int (oI x)), (2, .int (oI y))] := hl
  refine lv_aload_n hx hb dX6_addName_0 rfl (lv_at hl 0 rfl) ?_
  refine cg_6_11 hx hb hts inX6_addName_X6 hown hK hP (hts _ lkX6_addName_f47) dX6_addName_1 ?_
  have i_1 := i32r (F 13)
  refine lv_aload_n hx hb dX6_addName_4 rfl (lv_at hl 0 rfl) ?_
  refine cg_6_6 hx hb hts inX6_addName_X6 hown hK hP (hts _ lkX6_addName_f32) dX6_addName_5 ?_
  refine cn_14 hx hb hK hP dX6_addName_8 ?_
  refine ci_lt (tgt := 14) hx hb (i32r _) (by omega) dX6_addName_9 (by decide) (fun c_2 => ?_) (fun c_2 => ?_)
  · refine lv_aload_n hx hb dX6_addName_14 rfl (lv_at hl 0 rfl) ?_
    refine cg_6_6 hx hb hts inX6_addName_X6 hown hK hP (hts _ lkX6_addName_f32) dX6_addName_15 ?_
    refine lv_aload_n hx hb dX6_addName_18 rfl (lv_at hl 0 rfl) ?_
    refine cg_6_11 hx hb hts inX6_addName_X6 hown hK hP (hts _ lkX6_addName_f47) dX6_addName_19 ?_
    refine lv_iload_n hx hb dX6_addName_22 rfl (lv_at hl 1 rfl) ?_
    refine cs_14 hx hb hK hP hD hS hgn (by omega) dX6_addName_23 (fun H locs hP hD hS => ?_)
    have hP : va_P (dC, dI) vwCl (CW cB cC cI cJ cZ a F (va_up X 14 (upd (X 14) ((F 13).toInt).toNat (oI x))) J R gf gn) H := hP
    have hD : va_D A (CW cB cC cI cJ cZ a F (va_up X 14 (upd (X 14) ((F 13).toInt).toNat (oI x))) J R gf gn) := hD
    refine lv_aload_n hx hb dX6_addName_24 rfl (lv_at hl 0 rfl) ?_
    refine cg_6_7 hx hb hts inX6_addName_X6 hown hK hP (hts _ lkX6_addName_f35) dX6_addName_25 ?_
    refine lv_aload_n hx hb dX6_addName_28 rfl (lv_at hl 0 rfl) ?_
    refine cg_6_11 hx hb hts inX6_addName_X6 hown hK hP (hts _ lkX6_addName_f47) dX6_addName_29 ?_
    refine lv_iload_n hx hb dX6_addName_32 rfl (lv_at hl 2 rfl) ?_
    refine cs_15 hx hb hK hP hD hS hgn (by omega) dX6_addName_33 (fun H locs hP hD hS => ?_)
    have hP : va_P (dC, dI) vwCl (CW cB cC cI cJ cZ a F (va_up (va_up X 14 (upd (X 14) ((F 13).toInt).toNat (oI x))) 15 (upd (X 15) ((F 13).toInt).toNat (oI y))) J R gf gn) H := hP
    have hD : va_D A (CW cB cC cI cJ cZ a F (va_up (va_up X 14 (upd (X 14) ((F 13).toInt).toNat (oI x))) 15 (upd (X 15) ((F 13).toInt).toNat (oI y))) J R gf gn) := hD
    refine lv_aload_n hx hb dX6_addName_34 rfl (lv_at hl 0 rfl) ?_
    refine cg_6_8 hx hb hts inX6_addName_X6 hown hK hP (hts _ lkX6_addName_f38) dX6_addName_35 ?_
    refine lv_aload_n hx hb dX6_addName_38 rfl (lv_at hl 0 rfl) ?_
    refine cg_6_11 hx hb hts inX6_addName_X6 hown hK hP (hts _ lkX6_addName_f47) dX6_addName_39 ?_
    refine lv_iconst (v := oI (-1)) hx hb dX6_addName_42 (by decide) ?_
    refine cs_16 hx hb hK hP hD hS hgn (by omega) dX6_addName_43 (fun H locs hP hD hS => ?_)
    have hP : va_P (dC, dI) vwCl (CW cB cC cI cJ cZ a F (va_up (va_up (va_up X 14 (upd (X 14) ((F 13).toInt).toNat (oI x))) 15 (upd (X 15) ((F 13).toInt).toNat (oI y))) 16 (upd (X 16) ((F 13).toInt).toNat (oI ((-1))))) J R gf gn) H := hP
    have hD : va_D A (CW cB cC cI cJ cZ a F (va_up (va_up (va_up X 14 (upd (X 14) ((F 13).toInt).toNat (oI x))) 15 (upd (X 15) ((F 13).toInt).toNat (oI y))) 16 (upd (X 16) ((F 13).toInt).toNat (oI ((-1))))) J R gf gn) := hD
    refine lv_aload_n hx hb dX6_addName_44 rfl (lv_at hl 0 rfl) ?_
    refine cg_6_9 hx hb hts inX6_addName_X6 hown hK hP (hts _ lkX6_addName_f41) dX6_addName_45 ?_
    refine lv_aload_n hx hb dX6_addName_48 rfl (lv_at hl 0 rfl) ?_
    refine cg_6_11 hx hb hts inX6_addName_X6 hown hK hP (hts _ lkX6_addName_f47) dX6_addName_49 ?_
    refine lv_iconst (v := oI 0) hx hb dX6_addName_52 (by decide) ?_
    refine cs_17 hx hb hK hP hD hS hgn (by omega) dX6_addName_53 (fun H locs hP hD hS => ?_)
    have hP : va_P (dC, dI) vwCl (CW cB cC cI cJ cZ a F (va_up (va_up (va_up (va_up X 14 (upd (X 14) ((F 13).toInt).toNat (oI x))) 15 (upd (X 15) ((F 13).toInt).toNat (oI y))) 16 (upd (X 16) ((F 13).toInt).toNat (oI ((-1))))) 17 (upd (X 17) ((F 13).toInt).toNat (oI 0))) J R gf gn) H := hP
    have hD : va_D A (CW cB cC cI cJ cZ a F (va_up (va_up (va_up (va_up X 14 (upd (X 14) ((F 13).toInt).toNat (oI x))) 15 (upd (X 15) ((F 13).toInt).toNat (oI y))) 16 (upd (X 16) ((F 13).toInt).toNat (oI ((-1))))) 17 (upd (X 17) ((F 13).toInt).toNat (oI 0))) J R gf gn) := hD
    refine lv_aload_n hx hb dX6_addName_54 rfl (lv_at hl 0 rfl) ?_
    refine lv_dup hx hb dX6_addName_55 rfl ?_
    refine cg_6_11 hx hb hts inX6_addName_X6 hown hK hP (hts _ lkX6_addName_f47) dX6_addName_56 ?_
    refine lv_iconst (v := oI 1) hx hb dX6_addName_59 (by decide) ?_
    refine lv_iadd hx hb dX6_addName_60 ?_
    refine tp_i (oI_add ((F 13).toInt) 1) ?_
    refine cp_6_11 hx hb hts inX6_addName_X6 hown hK hP hD hS (hts _ lkX6_addName_f47) dX6_addName_61 (fun H locs hP hD hS => ?_)
    have hP : va_P (dC, dI) vwCl (CW cB cC cI cJ cZ a (va_up F 13 (oI (((F 13).toInt) + 1))) (va_up (va_up (va_up (va_up X 14 (upd (X 14) ((F 13).toInt).toNat (oI x))) 15 (upd (X 15) ((F 13).toInt).toNat (oI y))) 16 (upd (X 16) ((F 13).toInt).toNat (oI ((-1))))) 17 (upd (X 17) ((F 13).toInt).toNat (oI 0))) J R gf gn) H := hP
    have hD : va_D A (CW cB cC cI cJ cZ a (va_up F 13 (oI (((F 13).toInt) + 1))) (va_up (va_up (va_up (va_up X 14 (upd (X 14) ((F 13).toInt).toNat (oI x))) 15 (upd (X 15) ((F 13).toInt).toNat (oI y))) 16 (upd (X 16) ((F 13).toInt).toNat (oI ((-1))))) 17 (upd (X 17) ((F 13).toInt).toNat (oI 0))) J R gf gn) := hD
    have e_3 : (oI (((F 13).toInt) + 1)).toInt = ((F 13).toInt) + 1 := toInt_oI (by omega)
    refine lv_aload_n hx hb dX6_addName_64 rfl (lv_at hl 0 rfl) ?_
    refine cg_6_11 hx hb hts inX6_addName_X6 hown hK hP (hts _ lkX6_addName_f47) dX6_addName_65 ?_
    refine tp_i (y := oI (((F 13).toInt) + 1)) (oI_toInt _) ?_
    refine lv_iconst (v := oI 1) hx hb dX6_addName_68 (by decide) ?_
    refine lv_isub hx hb dX6_addName_69 ?_
    refine tp_i (oI_sub (((F 13).toInt) + 1) 1) ?_
    have eF9 : rg 13 13 F (va_up F 13 (oI (((F 13).toInt) + 1))) = va_up F 13 (oI (((F 13).toInt) + 1)) := by funext k; simp only [rg, va_up]; (repeat' split) <;> first | with_reducible rfl | omega
    have eX9 : rg 14 17 X (va_up (va_up (va_up (va_up X 14 (upd (X 14) ((F 13).toInt).toNat (oI x))) 15 (upd (X 15) ((F 13).toInt).toNat (oI y))) 16 (upd (X 16) ((F 13).toInt).toNat (oI ((-1))))) 17 (upd (X 17) ((F 13).toInt).toNat (oI 0))) = va_up (va_up (va_up (va_up X 14 (upd (X 14) ((F 13).toInt).toNat (oI x))) 15 (upd (X 15) ((F 13).toInt).toNat (oI y))) 16 (upd (X 16) ((F 13).toInt).toNat (oI ((-1))))) 17 (upd (X 17) ((F 13).toInt).toNat (oI 0)) := by funext k; simp only [rg, va_up]; (repeat' split) <;> first | with_reducible rfl | omega
    have hP9 : va_P (dC, dI) vwCl (CW cB cC cI cJ cZ a (rg 13 13 F (va_up F 13 (oI (((F 13).toInt) + 1)))) (rg 14 17 X (va_up (va_up (va_up (va_up X 14 (upd (X 14) ((F 13).toInt).toNat (oI x))) 15 (upd (X 15) ((F 13).toInt).toNat (oI y))) 16 (upd (X 16) ((F 13).toInt).toNat (oI ((-1))))) 17 (upd (X 17) ((F 13).toInt).toNat (oI 0)))) J R gf gn) H := by rw [eF9, eX9]; exact hP
    have hD9 : va_D A (CW cB cC cI cJ cZ a (rg 13 13 F (va_up F 13 (oI (((F 13).toInt) + 1)))) (rg 14 17 X (va_up (va_up (va_up (va_up X 14 (upd (X 14) ((F 13).toInt).toNat (oI x))) 15 (upd (X 15) ((F 13).toInt).toNat (oI y))) 16 (upd (X 16) ((F 13).toInt).toNat (oI ((-1))))) 17 (upd (X 17) ((F 13).toInt).toNat (oI 0)))) J R gf gn) := by rw [eF9, eX9]; exact hD
    have hpost : 0 ≤ (oI (((F 13).toInt) + 1)).toInt ∧ (oI (((F 13).toInt) + 1)).toInt ≤ (gn : Int) := by first | assumption | omega | (with_reducible rfl) | ((repeat' apply And.intro) <;> first | assumption | omega | (with_reducible rfl))
    exact W.iret (v := (oI ((((F 13).toInt) + 1) - 1))) hx hb hr (fun t ht hW => ⟨⟨(oI ((((F 13).toInt) + 1) - 1)), (va_up F 13 (oI (((F 13).toInt) + 1)), va_up (va_up (va_up (va_up X 14 (upd (X 14) ((F 13).toInt).toNat (oI x))) 15 (upd (X 15) ((F 13).toInt).toNat (oI y))) 16 (upd (X 16) ((F 13).toInt).toNat (oI ((-1))))) 17 (upd (X 17) ((F 13).toInt).toNat (oI 0))), rfl, hpost, by rw [ht]; exact hP9, va_K.moved hW.alike hK, hD9⟩, hS.F ht⟩) hS.2.2 dX6_addName_70
  · refine lv_iconst (v := oI (-1)) hx hb dX6_addName_12 (by decide) ?_
    have e0 : (oI ((-1))).toInt = (-1) := by decide
    have eF9 : rg 13 13 F F = F := by funext k; simp only [rg, va_up]; (repeat' split) <;> first | with_reducible rfl | omega
    have eX9 : rg 14 17 X X = X := by funext k; simp only [rg, va_up]; (repeat' split) <;> first | with_reducible rfl | omega
    have hP9 : va_P (dC, dI) vwCl (CW cB cC cI cJ cZ a (rg 13 13 F F) (rg 14 17 X X) J R gf gn) s.heap := by rw [eF9, eX9]; exact hP
    have hD9 : va_D A (CW cB cC cI cJ cZ a (rg 13 13 F F) (rg 14 17 X X) J R gf gn) := by rw [eF9, eX9]; exact hD
    have hpost : 0 ≤ (F 13).toInt ∧ (F 13).toInt ≤ (gn : Int) := by first | assumption | omega | (with_reducible rfl) | ((repeat' apply And.intro) <;> first | assumption | omega | (with_reducible rfl))
    exact W.iret (v := (oI ((-1)))) hx hb hr (fun t ht hW => ⟨⟨(oI ((-1))), (F, X), rfl, hpost, by rw [ht]; exact hP9, va_K.moved hW.alike hK, hD9⟩, hS.F ht⟩) hS.2.2 dX6_addName_13

set_option maxHeartbeats 4000000 in
set_option maxRecDepth 100000 in
/-- X6_addSymbol -/
theorem c_addSymbolN (l : Launch) (dC : Nat → ClassId) (dI : Nat → Nat → Nat) (cB cC cI cJ cZ : ClassId) (a : Nat → Nat) (F : Nat → Int32) (X : Nat → Nat → Int32) (J : Nat → Nat → Int64) (R : Nat → Nat) (gf gn : Nat) (g1 g2 : Int64)  (hgn : gn ≤ 63261) (hnt : 0 ≤ (F 13).toInt ∧ (F 13).toInt ≤ (gn : Int)) (hsy : 0 ≤ (F 15).toInt ∧ (F 15).toInt ≤ 2560) (hru : VB (X 12)) (s0 : Nat) : Met l yX6_addSymbol vX6_addSymbol { frames := 2, cells := 0, slots := 0, locals := 82 } (va_Pc [.ref (a 6), .long g1, .long g2] (cPre dC dI cB cC cI cJ cZ a F X J R gf gn s0)) (va_Qi (fun (r : Int32) (u : (Nat → Int32) × (Nat → Nat → Int32) × (Nat → Nat → Int64)) => match u with | (F1, X1, J1) => (0 ≤ (F1 13).toInt ∧ (F1 13).toInt ≤ (gn : Int)) ∧ (0 ≤ (F1 15).toInt ∧ (F1 15).toInt ≤ 2560) ∧ VB (X1 12)) (fun u => cPost dC dI cB cC cI cJ cZ a (rg 15 15 (rg 13 13 F u.1) u.1) (rg 14 17 (rg 12 12 X u.2.1) u.2.1) u.2.2 R gf gn (va_A (CW cB cC cI cJ cZ a F X J R gf gn) s0)) (va_A (CW cB cC cI cJ cZ a F X J R gf gn) s0)) 0 0 (va_A (CW cB cC cI cJ cZ a F X J R gf gn) s0) := by
  refine Met.ofW (cc := cX6_addSymbol) (maxL := 5) (ret := (some .int)) (by decide) rfl ?_
  intro p e s m args below meth c s₁ B9 hml hv
  obtain ⟨rfl, hsz0, hP, hK, hD0, hNW⟩ := hv
  have hx := B9.exec
  have hb := B9.bytes
  have hr := B9.returns
  have hts := atoms_spec (ws := vX6_addSymbol) B9.pre
  have hown : s.vm.findClass RX6 = some m.cls := findClass_of_methodNamed B9.named
  have hlocks := B9.notSynchronized
  clear B9
  subst hsz0
  have hD := hD0.self (sz := s.heap.size)
  generalize hAe : va_A (CW cB cC cI cJ cZ a F X J R gf gn) s.heap.size = A at hD ⊢
  have hA : ∀ q : Nat, s.heap.size ≤ q → A q := fun q h => by rw [← hAe]; exact Or.inr h
  have hS : va_S A s.heap s.heap [] := va_S.rf
  have hcs : 0 + 0 ≤ (0 : Nat) ∧ 0 + 0 ≤ (0 : Nat) := ⟨Nat.le_refl 0, Nat.le_refl 0⟩
  have hl := lv_entry ([.ref (a 6), .long g1, .long g2]) (n := 5) (Nat.le_of_ble_eq_true rfl)
  rw [lg_entry_eq]
  generalize (lg_sl ([.ref (a 6), .long g1, .long g2]) ++ List.replicate (5 - (lg_sl ([.ref (a 6), .long g1, .long g2])).length) Slot.unset).toArray = ls at hl ⊢
  have hl : lv_has ls 5 [(0, .ref (a 6)), (1, .long g1), (3, .long g2)] := hl
  refine lv_aload_n hx hb dX6_addSymbol_0 rfl (lv_at hl 0 rfl) ?_
  refine cg_6_4 hx hb hts inX6_addSymbol_X6 hown hK hP (hts _ lkX6_addSymbol_f25) dX6_addSymbol_1 ?_
  have i_1 := i32r (F 15)
  refine lv_sipush (v := oI 2560) hx hb dX6_addSymbol_4 (by decide) ?_
  refine ci_lt (tgt := 12) hx hb (i32r _) (by decide) dX6_addSymbol_7 (by decide) (fun c_2 => ?_) (fun c_2 => ?_)
  · refine lv_aload_n hx hb dX6_addSymbol_12 rfl (lv_at hl 0 rfl) ?_
    refine cg_6_0 hx hb hts inX6_addSymbol_X6 hown hK hP (hts _ lkX6_addSymbol_f9) dX6_addSymbol_13 ?_
    refine lv_aload_n hx hb dX6_addSymbol_16 rfl (lv_at hl 0 rfl) ?_
    refine cg_6_4 hx hb hts inX6_addSymbol_X6 hown hK hP (hts _ lkX6_addSymbol_f25) dX6_addSymbol_17 ?_
    refine lv_lload_n hx hb dX6_addSymbol_20 rfl (lv_at hl 1 rfl) ?_
    refine cjs_0 hx hb hK hP hD hS (by omega) dX6_addSymbol_21 (fun H locs hP hD hS => ?_)
    have hP : va_P (dC, dI) vwCl (CW cB cC cI cJ cZ a F X (va_up J 0 (vp_updL (J 0) ((F 15).toInt).toNat g1)) R gf gn) H := hP
    have hD : va_D A (CW cB cC cI cJ cZ a F X (va_up J 0 (vp_updL (J 0) ((F 15).toInt).toNat g1)) R gf gn) := hD
    refine lv_aload_n hx hb dX6_addSymbol_22 rfl (lv_at hl 0 rfl) ?_
    refine cg_6_1 hx hb hts inX6_addSymbol_X6 hown hK hP (hts _ lkX6_addSymbol_f15) dX6_addSymbol_23 ?_
    refine lv_aload_n hx hb dX6_addSymbol_26 rfl (lv_at hl 0 rfl) ?_
    refine cg_6_4 hx hb hts inX6_addSymbol_X6 hown hK hP (hts _ lkX6_addSymbol_f25) dX6_addSymbol_27 ?_
    refine lv_lload_n hx hb dX6_addSymbol_30 rfl (lv_at hl 2 rfl) ?_
    refine cjs_1 hx hb hK hP hD hS (by omega) dX6_addSymbol_31 (fun H locs hP hD hS => ?_)
    have hP : va_P (dC, dI) vwCl (CW cB cC cI cJ cZ a F X (va_up (va_up J 0 (vp_updL (J 0) ((F 15).toInt).toNat g1)) 1 (vp_updL ((va_up J 0 (vp_updL (J 0) ((F 15).toInt).toNat g1)) 1) ((F 15).toInt).toNat g2)) R gf gn) H := hP
    have hD : va_D A (CW cB cC cI cJ cZ a F X (va_up (va_up J 0 (vp_updL (J 0) ((F 15).toInt).toNat g1)) 1 (vp_updL ((va_up J 0 (vp_updL (J 0) ((F 15).toInt).toNat g1)) 1) ((F 15).toInt).toNat g2)) R gf gn) := hD
    refine lv_aload_n hx hb dX6_addSymbol_32 rfl (lv_at hl 0 rfl) ?_
    refine cg_6_2 hx hb hts inX6_addSymbol_X6 hown hK hP (hts _ lkX6_addSymbol_f18) dX6_addSymbol_33 ?_
    refine lv_aload_n hx hb dX6_addSymbol_36 rfl (lv_at hl 0 rfl) ?_
    refine cg_6_4 hx hb hts inX6_addSymbol_X6 hown hK hP (hts _ lkX6_addSymbol_f25) dX6_addSymbol_37 ?_
    refine lv_iconst (v := oI (-1)) hx hb dX6_addSymbol_40 (by decide) ?_
    refine cs_12 hx hb hK hP hD hS (by omega) dX6_addSymbol_41 (fun H locs hP hD hS => ?_)
    have hP : va_P (dC, dI) vwCl (CW cB cC cI cJ cZ a F (va_up X 12 (upd (X 12) ((F 15).toInt).toNat (oI ((-1))))) (va_up (va_up J 0 (vp_updL (J 0) ((F 15).toInt).toNat g1)) 1 (vp_updL ((va_up J 0 (vp_updL (J 0) ((F 15).toInt).toNat g1)) 1) ((F 15).toInt).toNat g2)) R gf gn) H := hP
    have hD : va_D A (CW cB cC cI cJ cZ a F (va_up X 12 (upd (X 12) ((F 15).toInt).toNat (oI ((-1))))) (va_up (va_up J 0 (vp_updL (J 0) ((F 15).toInt).toNat g1)) 1 (vp_updL ((va_up J 0 (vp_updL (J 0) ((F 15).toInt).toNat g1)) 1) ((F 15).toInt).toNat g2)) R gf gn) := hD
    refine lv_aload_n hx hb dX6_addSymbol_42 rfl (lv_at hl 0 rfl) ?_
    refine lv_dup hx hb dX6_addSymbol_43 rfl ?_
    refine cg_6_4 hx hb hts inX6_addSymbol_X6 hown hK hP (hts _ lkX6_addSymbol_f25) dX6_addSymbol_44 ?_
    refine lv_iconst (v := oI 1) hx hb dX6_addSymbol_47 (by decide) ?_
    refine lv_iadd hx hb dX6_addSymbol_48 ?_
    refine tp_i (oI_add ((F 15).toInt) 1) ?_
    refine cp_6_4 hx hb hts inX6_addSymbol_X6 hown hK hP hD hS (hts _ lkX6_addSymbol_f25) dX6_addSymbol_49 (fun H locs hP hD hS => ?_)
    have hP : va_P (dC, dI) vwCl (CW cB cC cI cJ cZ a (va_up F 15 (oI (((F 15).toInt) + 1))) (va_up X 12 (upd (X 12) ((F 15).toInt).toNat (oI ((-1))))) (va_up (va_up J 0 (vp_updL (J 0) ((F 15).toInt).toNat g1)) 1 (vp_updL ((va_up J 0 (vp_updL (J 0) ((F 15).toInt).toNat g1)) 1) ((F 15).toInt).toNat g2)) R gf gn) H := hP
    have hD : va_D A (CW cB cC cI cJ cZ a (va_up F 15 (oI (((F 15).toInt) + 1))) (va_up X 12 (upd (X 12) ((F 15).toInt).toNat (oI ((-1))))) (va_up (va_up J 0 (vp_updL (J 0) ((F 15).toInt).toNat g1)) 1 (vp_updL ((va_up J 0 (vp_updL (J 0) ((F 15).toInt).toNat g1)) 1) ((F 15).toInt).toNat g2)) R gf gn) := hD
    have e_3 : (oI (((F 15).toInt) + 1)).toInt = ((F 15).toInt) + 1 := toInt_oI (by omega)
    refine lv_aload_n hx hb dX6_addSymbol_52 rfl (lv_at hl 0 rfl) ?_
    refine lv_iconst (v := oI (-1)) hx hb dX6_addSymbol_53 (by decide) ?_
    refine lv_iconst (v := oI 0) hx hb dX6_addSymbol_54 (by decide) ?_
    refine ccp_iV (As := [.int (oI ((-1))), .int (oI 0)]) (rest := []) (gF := fun F9 => rg 13 13 (va_up F 15 (oI (((F 15).toInt) + 1))) F9) (gX := fun X9 => rg 14 17 (va_up X 12 (upd (X 12) ((F 15).toInt).toNat (oI ((-1))))) X9) ⟨hx, hb, hml, hown, hts⟩ (c_addName l dC dI cB cC cI cJ cZ a (va_up F 15 (oI (((F 15).toInt) + 1))) (va_up X 12 (upd (X 12) ((F 15).toInt).toNat (oI ((-1))))) (va_up (va_up J 0 (vp_updL (J 0) ((F 15).toInt).toNat g1)) 1 (vp_updL ((va_up J 0 (vp_updL (J 0) ((F 15).toInt).toNat g1)) 1) ((F 15).toInt).toNat g2)) R gf gn ((-1)) 0  (by decide) (by decide) (show gn ≤ 63261 from by first | assumption | omega) (show 0 ≤ (F 13).toInt ∧ (F 13).toInt ≤ (gn : Int) from by first | assumption | omega)  H.size) (cwV 2 hts kX6_addSymbol_X6_addName_95 rfl rfl rfl (by decide +kernel) ⟨Nat.le_of_ble_eq_true rfl, Nat.le_of_ble_eq_true rfl⟩) (va_recv hK hP (ci := 6) (q0 := 6) rfl rfl) hK hNW hP hD hS hA rfl rfl hl.1 (lv_room (Nat.le_of_ble_eq_true rfl)) dX6_addSymbol_55 hcs (fun r_4 F_5 X_6 hw_7 H locs hP hD hS => ?_)
    have hw_7 : 0 ≤ (F_5 13).toInt ∧ (F_5 13).toInt ≤ (gn : Int) := hw_7
    have hnt := hw_7
    have i_8 := i32r r_4
    have eF9 : rg 15 15 (rg 13 13 F (rg 13 13 (va_up F 15 (oI (((F 15).toInt) + 1))) F_5)) (rg 13 13 (va_up F 15 (oI (((F 15).toInt) + 1))) F_5) = rg 13 13 (va_up F 15 (oI (((F 15).toInt) + 1))) F_5 := by funext k; simp only [rg, va_up]; (repeat' split) <;> first | with_reducible rfl | omega
    have eX9 : rg 14 17 (rg 12 12 X (rg 14 17 (va_up X 12 (upd (X 12) ((F 15).toInt).toNat (oI ((-1))))) X_6)) (rg 14 17 (va_up X 12 (upd (X 12) ((F 15).toInt).toNat (oI ((-1))))) X_6) = rg 14 17 (va_up X 12 (upd (X 12) ((F 15).toInt).toNat (oI ((-1))))) X_6 := by funext k; simp only [rg, va_up]; (repeat' split) <;> first | with_reducible rfl | omega
    have hP9 : va_P (dC, dI) vwCl (CW cB cC cI cJ cZ a (rg 15 15 (rg 13 13 F (rg 13 13 (va_up F 15 (oI (((F 15).toInt) + 1))) F_5)) (rg 13 13 (va_up F 15 (oI (((F 15).toInt) + 1))) F_5)) (rg 14 17 (rg 12 12 X (rg 14 17 (va_up X 12 (upd (X 12) ((F 15).toInt).toNat (oI ((-1))))) X_6)) (rg 14 17 (va_up X 12 (upd (X 12) ((F 15).toInt).toNat (oI ((-1))))) X_6)) (va_up (va_up J 0 (vp_updL (J 0) ((F 15).toInt).toNat g1)) 1 (vp_updL ((va_up J 0 (vp_updL (J 0) ((F 15).toInt).toNat g1)) 1) ((F 15).toInt).toNat g2)) R gf gn) H := by rw [eF9, eX9]; exact hP
    have hD9 : va_D A (CW cB cC cI cJ cZ a (rg 15 15 (rg 13 13 F (rg 13 13 (va_up F 15 (oI (((F 15).toInt) + 1))) F_5)) (rg 13 13 (va_up F 15 (oI (((F 15).toInt) + 1))) F_5)) (rg 14 17 (rg 12 12 X (rg 14 17 (va_up X 12 (upd (X 12) ((F 15).toInt).toNat (oI ((-1))))) X_6)) (rg 14 17 (va_up X 12 (upd (X 12) ((F 15).toInt).toNat (oI ((-1))))) X_6)) (va_up (va_up J 0 (vp_updL (J 0) ((F 15).toInt).toNat g1)) 1 (vp_updL ((va_up J 0 (vp_updL (J 0) ((F 15).toInt).toNat g1)) 1) ((F 15).toInt).toNat g2)) R gf gn) := by rw [eF9, eX9]; exact hD
    have hpost : (0 ≤ (F_5 13).toInt ∧ (F_5 13).toInt ≤ (gn : Int)) ∧ (0 ≤ (oI (((F 15).toInt) + 1)).toInt ∧ (oI (((F 15).toInt) + 1)).toInt ≤ 2560) ∧ VB (upd (X 12) ((F 15).toInt).toNat (oI ((-1)))) := ⟨by omega, by omega, VB_upd hru (by omega)⟩
    exact W.iret (v := (oI r_4.toInt)) hx hb hr (fun t ht hW => ⟨⟨(oI r_4.toInt), (rg 13 13 (va_up F 15 (oI (((F 15).toInt) + 1))) F_5, rg 14 17 (va_up X 12 (upd (X 12) ((F 15).toInt).toNat (oI ((-1))))) X_6, va_up (va_up J 0 (vp_updL (J 0) ((F 15).toInt).toNat g1)) 1 (vp_updL ((va_up J 0 (vp_updL (J 0) ((F 15).toInt).toNat g1)) 1) ((F 15).toInt).toNat g2)), rfl, hpost, by rw [ht]; exact hP9, va_K.moved hW.alike hK, hD9⟩, hS.F ht⟩) hS.2.2 dX6_addSymbol_58
  · refine lv_iconst (v := oI (-1)) hx hb dX6_addSymbol_10 (by decide) ?_
    have e0 : (oI ((-1))).toInt = (-1) := by decide
    have eF9 : rg 15 15 (rg 13 13 F F) F = F := by funext k; simp only [rg, va_up]; (repeat' split) <;> first | with_reducible rfl | omega
    have eX9 : rg 14 17 (rg 12 12 X X) X = X := by funext k; simp only [rg, va_up]; (repeat' split) <;> first | with_reducible rfl | omega
    have hP9 : va_P (dC, dI) vwCl (CW cB cC cI cJ cZ a (rg 15 15 (rg 13 13 F F) F) (rg 14 17 (rg 12 12 X X) X) J R gf gn) s.heap := by rw [eF9, eX9]; exact hP
    have hD9 : va_D A (CW cB cC cI cJ cZ a (rg 15 15 (rg 13 13 F F) F) (rg 14 17 (rg 12 12 X X) X) J R gf gn) := by rw [eF9, eX9]; exact hD
    have hpost : (0 ≤ (F 13).toInt ∧ (F 13).toInt ≤ (gn : Int)) ∧ (0 ≤ (F 15).toInt ∧ (F 15).toInt ≤ 2560) ∧ VB (X 12) := ⟨by omega, by omega, hru⟩
    exact W.iret (v := (oI ((-1)))) hx hb hr (fun t ht hW => ⟨⟨(oI ((-1))), (F, X, J), rfl, hpost, by rw [ht]; exact hP9, va_K.moved hW.alike hK, hD9⟩, hS.F ht⟩) hS.2.2 dX6_addSymbol_11

set_option maxHeartbeats 4000000 in
set_option maxRecDepth 100000 in
/-- X6_has -/
theorem c_has (l : Launch) (dC : Nat → ClassId) (dI : Nat → Nat → Nat) (cB cC cI cJ cZ : ClassId) (a : Nat → Nat) (F : Nat → Int32) (X : Nat → Nat → Int32) (J : Nat → Nat → Int64) (R : Nat → Nat) (gf gn : Nat) (x : Int)  (ix : (-2147483648 ≤ x ∧ x < 2147483648)) (s0 : Nat) : Met l yX6_has vX6_has { frames := 1, cells := 0, slots := 0, locals := 60 } (va_Pc [.ref (a 6), .int (oI x)] (cPre dC dI cB cC cI cJ cZ a F X J R gf gn s0)) (va_Qi (fun (r : Int32) (_ : Unit) => ((r).toInt = 1 ∧ 0 ≤ x ∧ x < (F 13).toInt) ∨ ((r).toInt = 0 ∧ ¬ (0 ≤ x ∧ x < (F 13).toInt))) (fun _ => cPost dC dI cB cC cI cJ cZ a F X J R gf gn (va_A (CW cB cC cI cJ cZ a F X J R gf gn) s0)) (va_A (CW cB cC cI cJ cZ a F X J R gf gn) s0)) 0 0 (va_A (CW cB cC cI cJ cZ a F X J R gf gn) s0) := by
  refine Met.ofW (cc := cX6_has) (maxL := 2) (ret := (some .boolean)) (by decide) rfl ?_
  intro p e s m args below meth c s₁ B9 hml hv
  obtain ⟨rfl, hsz0, hP, hK, hD0, hNW⟩ := hv
  have hx := B9.exec
  have hb := B9.bytes
  have hr := B9.returns
  have hts := atoms_spec (ws := vX6_has) B9.pre
  have hown : s.vm.findClass RX6 = some m.cls := findClass_of_methodNamed B9.named
  have hlocks := B9.notSynchronized
  clear B9
  subst hsz0
  have hD := hD0.self (sz := s.heap.size)
  generalize hAe : va_A (CW cB cC cI cJ cZ a F X J R gf gn) s.heap.size = A at hD ⊢
  have hA : ∀ q : Nat, s.heap.size ≤ q → A q := fun q h => by rw [← hAe]; exact Or.inr h
  have hS : va_S A s.heap s.heap [] := va_S.rf
  have hcs : 0 + 0 ≤ (0 : Nat) ∧ 0 + 0 ≤ (0 : Nat) := ⟨Nat.le_refl 0, Nat.le_refl 0⟩
  have hl := lv_entry ([.ref (a 6), .int (oI x)]) (n := 2) (Nat.le_of_ble_eq_true rfl)
  rw [lg_entry_eq]
  generalize (lg_sl ([.ref (a 6), .int (oI x)]) ++ List.replicate (2 - (lg_sl ([.ref (a 6), .int (oI x)])).length) Slot.unset).toArray = ls at hl ⊢
  have hl : lv_has ls 2 [(0, .ref (a 6)), (1, .int (oI x))] := hl
  refine lv_iload_n hx hb dX6_has_0 rfl (lv_at hl 1 rfl) ?_
  refine cz_lt (tgt := 16) hx hb (by omega) dX6_has_1 (by decide) (fun c_1 => ?_) (fun c_1 => ?_)
  · refine lv_iconst (v := oI 0) hx hb dX6_has_16 (by decide) ?_
    have e0 : (oI 0).toInt = 0 := by decide
    have hpost : ((oI 0).toInt = 1 ∧ 0 ≤ x ∧ x < (F 13).toInt) ∨ ((oI 0).toInt = 0 ∧ ¬ (0 ≤ x ∧ x < (F 13).toInt)) := by first | assumption | omega | (with_reducible rfl) | ((repeat' apply And.intro) <;> first | assumption | omega | (with_reducible rfl))
    exact W.zret (v := (oI 0)) hx hb hr (by first | rfl | decide | exact zb9 (by omega)) (fun t ht hW => ⟨⟨(oI 0), (), rfl, hpost, by rw [ht]; exact hP, va_K.moved hW.alike hK, hD⟩, hS.F ht⟩) hS.2.2 dX6_has_17
  · refine lv_iload_n hx hb dX6_has_4 rfl (lv_at hl 1 rfl) ?_
    refine lv_aload_n hx hb dX6_has_5 rfl (lv_at hl 0 rfl) ?_
    refine cg_6_11 hx hb hts inX6_has_X6 hown hK hP (hts _ lkX6_has_f47) dX6_has_6 ?_
    have i_2 := i32r (F 13)
    refine ci_ge (tgt := 16) hx hb (by omega) (i32r _) dX6_has_9 (by decide) (fun c_3 => ?_) (fun c_3 => ?_)
    · refine lv_iconst (v := oI 0) hx hb dX6_has_16 (by decide) ?_
      have e0 : (oI 0).toInt = 0 := by decide
      have hpost : ((oI 0).toInt = 1 ∧ 0 ≤ x ∧ x < (F 13).toInt) ∨ ((oI 0).toInt = 0 ∧ ¬ (0 ≤ x ∧ x < (F 13).toInt)) := by first | assumption | omega | (with_reducible rfl) | ((repeat' apply And.intro) <;> first | assumption | omega | (with_reducible rfl))
      exact W.zret (v := (oI 0)) hx hb hr (by first | rfl | decide | exact zb9 (by omega)) (fun t ht hW => ⟨⟨(oI 0), (), rfl, hpost, by rw [ht]; exact hP, va_K.moved hW.alike hK, hD⟩, hS.F ht⟩) hS.2.2 dX6_has_17
    · refine lv_iconst (v := oI 1) hx hb dX6_has_12 (by decide) ?_
      refine lv_goto (tgt := 17) hx hb dX6_has_13 (by decide) ?_
      have e0 : (oI 1).toInt = 1 := by decide
      have hpost : ((oI 1).toInt = 1 ∧ 0 ≤ x ∧ x < (F 13).toInt) ∨ ((oI 1).toInt = 0 ∧ ¬ (0 ≤ x ∧ x < (F 13).toInt)) := by first | assumption | omega | (with_reducible rfl) | ((repeat' apply And.intro) <;> first | assumption | omega | (with_reducible rfl))
      exact W.zret (v := (oI 1)) hx hb hr (by first | rfl | decide | exact zb9 (by omega)) (fun t ht hW => ⟨⟨(oI 1), (), rfl, hpost, by rw [ht]; exact hP, va_K.moved hW.alike hK, hD⟩, hS.F ht⟩) hS.2.2 dX6_has_17

set_option maxHeartbeats 4000000 in
set_option maxRecDepth 100000 in
/-- X6_originalOf -/
theorem c_originalOf (l : Launch) (dC : Nat → ClassId) (dI : Nat → Nat → Nat) (cB cC cI cJ cZ : ClassId) (a : Nat → Nat) (F : Nat → Int32) (X : Nat → Nat → Int32) (J : Nat → Nat → Int64) (R : Nat → Nat) (gf gn : Nat) (x : Int)  (ix : (-2147483648 ≤ x ∧ x < 2147483648)) (hgn : gn ≤ 63261) (hnt : 0 ≤ (F 13).toInt ∧ (F 13).toInt ≤ (gn : Int)) (s0 : Nat) : Met l yX6_originalOf vX6_originalOf { frames := 2, cells := 0, slots := 0, locals := 81 } (va_Pc [.ref (a 6), .int (oI x)] (cPre dC dI cB cC cI cJ cZ a F X J R gf gn s0)) (va_Qi (fun (r : Int32) (_ : Unit) => True) (fun _ => cPost dC dI cB cC cI cJ cZ a F X J R gf gn (va_A (CW cB cC cI cJ cZ a F X J R gf gn) s0)) (va_A (CW cB cC cI cJ cZ a F X J R gf gn) s0)) 0 0 (va_A (CW cB cC cI cJ cZ a F X J R gf gn) s0) := by
  refine Met.ofW (cc := cX6_originalOf) (maxL := 2) (ret := (some .int)) (by decide) rfl ?_
  intro p e s m args below meth c s₁ B9 hml hv
  obtain ⟨rfl, hsz0, hP, hK, hD0, hNW⟩ := hv
  have hx := B9.exec
  have hb := B9.bytes
  have hr := B9.returns
  have hts := atoms_spec (ws := vX6_originalOf) B9.pre
  have hown : s.vm.findClass RX6 = some m.cls := findClass_of_methodNamed B9.named
  have hlocks := B9.notSynchronized
  clear B9
  subst hsz0
  have hD := hD0.self (sz := s.heap.size)
  generalize hAe : va_A (CW cB cC cI cJ cZ a F X J R gf gn) s.heap.size = A at hD ⊢
  have hA : ∀ q : Nat, s.heap.size ≤ q → A q := fun q h => by rw [← hAe]; exact Or.inr h
  have hS : va_S A s.heap s.heap [] := va_S.rf
  have hcs : 0 + 0 ≤ (0 : Nat) ∧ 0 + 0 ≤ (0 : Nat) := ⟨Nat.le_refl 0, Nat.le_refl 0⟩
  have hl := lv_entry ([.ref (a 6), .int (oI x)]) (n := 2) (Nat.le_of_ble_eq_true rfl)
  rw [lg_entry_eq]
  generalize (lg_sl ([.ref (a 6), .int (oI x)]) ++ List.replicate (2 - (lg_sl ([.ref (a 6), .int (oI x)])).length) Slot.unset).toArray = ls at hl ⊢
  have hl : lv_has ls 2 [(0, .ref (a 6)), (1, .int (oI x))] := hl
  refine lv_aload_n hx hb dX6_originalOf_0 rfl (lv_at hl 0 rfl) ?_
  refine lv_iload_n hx hb dX6_originalOf_1 rfl (lv_at hl 1 rfl) ?_
  refine ccs_iV (As := [.int (oI x)]) (rest := []) ⟨hx, hb, hml, hown, hts⟩ (c_has l dC dI cB cC cI cJ cZ a F X J R gf gn x  (by omega)   s.heap.size) (cwV 1 hts kX6_originalOf_X6_has_106 rfl rfl rfl (by decide +kernel) ⟨Nat.le_of_ble_eq_true rfl, Nat.le_of_ble_eq_true rfl⟩) (va_recv hK hP (ci := 6) (q0 := 6) rfl rfl) hK hNW hP hD hS hA rfl rfl hl.1 (lv_room (Nat.le_of_ble_eq_true rfl)) dX6_originalOf_2 hcs (fun r_1 hw_2 H locs hP hD hS => ?_)
  have hw_2 : ((r_1).toInt = 1 ∧ 0 ≤ x ∧ x < (F 13).toInt) ∨ ((r_1).toInt = 0 ∧ ¬ (0 ≤ x ∧ x < (F 13).toInt)) := hw_2
  have hha := hw_2
  have i_3 := i32r r_1
  refine cz_eq (tgt := 17) hx hb (i32r _) dX6_originalOf_5 (by decide) (fun c_4 => ?_) (fun c_4 => ?_)
  · refine lv_iconst (v := oI (-1)) hx hb dX6_originalOf_17 (by decide) ?_
    have hpost : True := trivial
    exact W.iret (v := (oI ((-1)))) hx hb hr (fun t ht hW => ⟨⟨(oI ((-1))), (), rfl, hpost, by rw [ht]; exact hP, va_K.moved hW.alike hK, hD⟩, hS.F ht⟩) hS.2.2 dX6_originalOf_18
  · refine lv_aload_n hx hb dX6_originalOf_8 rfl (lv_at hl 0 rfl) ?_
    refine cg_6_6 hx hb hts inX6_originalOf_X6 hown hK hP (hts _ lkX6_originalOf_f32) dX6_originalOf_9 ?_
    refine lv_iload_n hx hb dX6_originalOf_12 rfl (lv_at hl 1 rfl) ?_
    refine cl_14 hx hb hK hP hgn (by omega) dX6_originalOf_13 (fun w_5 hw_5 => ?_)
    have i_6 := i32r w_5
    refine lv_goto (tgt := 18) hx hb dX6_originalOf_14 (by decide) ?_
    have hpost : True := trivial
    exact W.iret (v := (oI w_5.toInt)) hx hb hr (fun t ht hW => ⟨⟨(oI w_5.toInt), (), rfl, hpost, by rw [ht]; exact hP, va_K.moved hW.alike hK, hD⟩, hS.F ht⟩) hS.2.2 dX6_originalOf_18

set_option maxHeartbeats 4000000 in
set_option maxRecDepth 100000 in
theorem lp_root {p : Program} {l : Launch} {e : Env} {s : State} {m : MethodId} {args : Array Value} {below : List Frame} {meth : Method} {c : Code} {A : Nat → Prop} {dC : Nat → ClassId} {dI : Nat → Nat → Nat} {cB cC cI cJ cZ : ClassId} {a : Nat → Nat} {F : Nat → Int32} {X : Nat → Nat → Int32} {J : Nat → Nat → Int64} {R : Nat → Nat} {gf gn : Nat} (hx : p.tables.exec = Jvm.exec) (hb : c.code = cX6_root) (hml : c.maxLocals = 4) (hown : s.vm.findClass RX6 = some m.cls) (hts : ∀ w ∈ vX6_root, w.before args s = true) (hK : va_K (dC, dI) vwCl (TY cB cC cI cJ cZ) s) (hNW : NW s) (hA : ∀ q : Nat, s.heap.size ≤ q → A q) (hr : meth.sig.returnType = (some .int)) (hlocks : meth.locks = false) (x : Int)  (ix : (-2147483648 ≤ x ∧ x < 2147483648)) (hgn : gn ≤ 63261) (hnt : 0 ≤ (F 13).toInt ∧ (F 13).toInt ≤ (gn : Int))   : ∀ (k : Nat) (q : Int) (o : Int), (q).toNat < k → (-2147483648 ≤ q ∧ q < 2147483648) → (-2147483648 ≤ o ∧ o < 2147483648) → ∀ (H : Heap) (locs : List Loc), va_P (dC, dI) vwCl (CW cB cC cI cJ cZ a F X J R gf gn) H → va_D A (CW cB cC cI cJ cZ a F X J R gf gn) → va_S A s.heap H locs → ∀ (ls : Array Slot), lv_has ls 4 [(0, .ref (a 6)), (1, .int (oI x)), (2, .int (oI q)), (3, .int (oI o))] → W p l e (headSpec vX6_root { frames := 3, cells := 0, slots := 0, locals := 102 }).room s m args below meth c H locs 0 0 (MQ below (va_Qi (fun (r : Int32) (_ : Unit) => True) (fun _ => cPost dC dI cB cC cI cJ cZ a F X J R gf gn A) A) args s 0 0 A) (F0 m 8 ls []) := by
  have hcs : 0 + 0 ≤ (0 : Nat) ∧ 0 + 0 ≤ (0 : Nat) := ⟨Nat.le_refl 0, Nat.le_refl 0⟩
  intro k
  induction k with
  | zero =>
    intro q o hk iq9 io9
    exact absurd hk (Nat.not_lt_zero _)
  | succ k ih =>
    intro q o hk iq9 io9 H locs hP hD hS ls hl
    refine lv_iload_n hx hb dX6_root_8 rfl (lv_at hl 3 rfl) ?_
    refine cz_lt (tgt := 28) hx hb (by omega) dX6_root_9 (by decide) (fun c_1 => ?_) (fun c_1 => ?_)
    · refine lv_iload_n hx hb dX6_root_28 rfl (lv_at hl 2 rfl) ?_
      have hpost : True := trivial
      exact W.iret (v := (oI q)) hx hb hr (fun t ht hW => ⟨⟨(oI q), (), rfl, hpost, by rw [ht]; exact hP, va_K.moved hW.alike hK, hD⟩, hS.F ht⟩) hS.2.2 dX6_root_29
    · refine lv_iload_n hx hb dX6_root_12 rfl (lv_at hl 3 rfl) ?_
      refine lv_iload_n hx hb dX6_root_13 rfl (lv_at hl 2 rfl) ?_
      refine ci_ge (tgt := 28) hx hb (by omega) (by omega) dX6_root_14 (by decide) (fun c_2 => ?_) (fun c_2 => ?_)
      · refine lv_iload_n hx hb dX6_root_28 rfl (lv_at hl 2 rfl) ?_
        have hpost : True := trivial
        exact W.iret (v := (oI q)) hx hb hr (fun t ht hW => ⟨⟨(oI q), (), rfl, hpost, by rw [ht]; exact hP, va_K.moved hW.alike hK, hD⟩, hS.F ht⟩) hS.2.2 dX6_root_29
      · refine lv_iload_n hx hb dX6_root_17 rfl (lv_at hl 3 rfl) ?_
        refine lv_istore_n (lv' := [(2, .int (oI o)), (0, .ref (a 6)), (1, .int (oI x)), (3, .int (oI o))]) hx hb dX6_root_18 rfl hl (by decide) rfl (fun ls hl => ?_)
        refine lv_aload_n hx hb dX6_root_19 rfl (lv_at hl 1 rfl) ?_
        refine lv_iload_n hx hb dX6_root_20 rfl (lv_at hl 0 rfl) ?_
        refine ccs_iV (As := [.int (oI o)]) (rest := []) ⟨hx, hb, hml, hown, hts⟩ (c_originalOf l dC dI cB cC cI cJ cZ a F X J R gf gn o  (by omega) (show gn ≤ 63261 from by first | assumption | omega) (show 0 ≤ (F 13).toInt ∧ (F 13).toInt ≤ (gn : Int) from by first | assumption | omega)  H.size) (cwV 1 hts kX6_root_X6_originalOf_110 rfl rfl rfl (by decide +kernel) ⟨Nat.le_of_ble_eq_true rfl, Nat.le_of_ble_eq_true rfl⟩) (va_recv hK hP (ci := 6) (q0 := 6) rfl rfl) hK hNW hP hD hS hA rfl rfl hl.1 (lv_room (Nat.le_of_ble_eq_true rfl)) dX6_root_21 hcs (fun r_3 hw_4 H locs hP hD hS => ?_)
        have i_5 := i32r r_3
        refine lv_istore_n (lv' := [(3, .int (oI r_3.toInt)), (2, .int (oI o)), (0, .ref (a 6)), (1, .int (oI x))]) hx hb dX6_root_24 rfl hl (by decide) rfl (fun ls hl => ?_)
        refine lv_goto (tgt := 8) hx hb dX6_root_25 (by decide) ?_
        exact ih o r_3.toInt (show (o).toNat < k from by omega) (by omega) (i32r _) _ _ hP hD hS ls (lv_sub hl [2, 3, 1, 0] rfl)

set_option maxHeartbeats 4000000 in
set_option maxRecDepth 100000 in
/-- X6_root -/
theorem c_root (l : Launch) (dC : Nat → ClassId) (dI : Nat → Nat → Nat) (cB cC cI cJ cZ : ClassId) (a : Nat → Nat) (F : Nat → Int32) (X : Nat → Nat → Int32) (J : Nat → Nat → Int64) (R : Nat → Nat) (gf gn : Nat) (x : Int)  (ix : (-2147483648 ≤ x ∧ x < 2147483648)) (hgn : gn ≤ 63261) (hnt : 0 ≤ (F 13).toInt ∧ (F 13).toInt ≤ (gn : Int)) (s0 : Nat) : Met l yX6_root vX6_root { frames := 3, cells := 0, slots := 0, locals := 102 } (va_Pc [.ref (a 6), .int (oI x)] (cPre dC dI cB cC cI cJ cZ a F X J R gf gn s0)) (va_Qi (fun (r : Int32) (_ : Unit) => True) (fun _ => cPost dC dI cB cC cI cJ cZ a F X J R gf gn (va_A (CW cB cC cI cJ cZ a F X J R gf gn) s0)) (va_A (CW cB cC cI cJ cZ a F X J R gf gn) s0)) 0 0 (va_A (CW cB cC cI cJ cZ a F X J R gf gn) s0) := by
  refine Met.ofW (cc := cX6_root) (maxL := 4) (ret := (some .int)) (by decide) rfl ?_
  intro p e s m args below meth c s₁ B9 hml hv
  obtain ⟨rfl, hsz0, hP, hK, hD0, hNW⟩ := hv
  have hx := B9.exec
  have hb := B9.bytes
  have hr := B9.returns
  have hts := atoms_spec (ws := vX6_root) B9.pre
  have hown : s.vm.findClass RX6 = some m.cls := findClass_of_methodNamed B9.named
  have hlocks := B9.notSynchronized
  clear B9
  subst hsz0
  have hD := hD0.self (sz := s.heap.size)
  generalize hAe : va_A (CW cB cC cI cJ cZ a F X J R gf gn) s.heap.size = A at hD ⊢
  have hA : ∀ q : Nat, s.heap.size ≤ q → A q := fun q h => by rw [← hAe]; exact Or.inr h
  have hS : va_S A s.heap s.heap [] := va_S.rf
  have hcs : 0 + 0 ≤ (0 : Nat) ∧ 0 + 0 ≤ (0 : Nat) := ⟨Nat.le_refl 0, Nat.le_refl 0⟩
  have hl := lv_entry ([.ref (a 6), .int (oI x)]) (n := 4) (Nat.le_of_ble_eq_true rfl)
  rw [lg_entry_eq]
  generalize (lg_sl ([.ref (a 6), .int (oI x)]) ++ List.replicate (4 - (lg_sl ([.ref (a 6), .int (oI x)])).length) Slot.unset).toArray = ls at hl ⊢
  have hl : lv_has ls 4 [(0, .ref (a 6)), (1, .int (oI x))] := hl
  refine lv_iload_n hx hb dX6_root_0 rfl (lv_at hl 1 rfl) ?_
  refine lv_istore_n (lv' := [(2, .int (oI x)), (0, .ref (a 6)), (1, .int (oI x))]) hx hb dX6_root_1 rfl hl (by decide) rfl (fun ls hl => ?_)
  refine lv_aload_n hx hb dX6_root_2 rfl (lv_at hl 1 rfl) ?_
  refine lv_iload_n hx hb dX6_root_3 rfl (lv_at hl 0 rfl) ?_
  refine ccs_iV (As := [.int (oI x)]) (rest := []) ⟨hx, hb, hml, hown, hts⟩ (c_originalOf l dC dI cB cC cI cJ cZ a F X J R gf gn x  (by omega) (show gn ≤ 63261 from by first | assumption | omega) (show 0 ≤ (F 13).toInt ∧ (F 13).toInt ≤ (gn : Int) from by first | assumption | omega)  s.heap.size) (cwV 1 hts kX6_root_X6_originalOf_110 rfl rfl rfl (by decide +kernel) ⟨Nat.le_of_ble_eq_true rfl, Nat.le_of_ble_eq_true rfl⟩) (va_recv hK hP (ci := 6) (q0 := 6) rfl rfl) hK hNW hP hD hS hA rfl rfl hl.1 (lv_room (Nat.le_of_ble_eq_true rfl)) dX6_root_4 hcs (fun r_1 hw_2 H locs hP hD hS => ?_)
  have i_3 := i32r r_1
  refine lv_istore_n (lv' := [(3, .int (oI r_1.toInt)), (2, .int (oI x)), (0, .ref (a 6)), (1, .int (oI x))]) hx hb dX6_root_7 rfl hl (by decide) rfl (fun ls hl => ?_)
  exact lp_root hx hb hml hown hts hK hNW hA hr hlocks x ix (by assumption) (by assumption)  _ x r_1.toInt (Nat.lt_succ_self _) (by omega) (i32r _) _ _ hP hD hS ls (lv_sub hl [2, 3, 1, 0] rfl)

set_option maxHeartbeats 4000000 in
set_option maxRecDepth 100000 in
/-- X6_rulesOf -/
theorem c_rulesOfN (l : Launch) (dC : Nat → ClassId) (dI : Nat → Nat → Nat) (cB cC cI cJ cZ : ClassId) (a : Nat → Nat) (F : Nat → Int32) (X : Nat → Nat → Int32) (J : Nat → Nat → Int64) (R : Nat → Nat) (gf gn : Nat) (x : Int)  (ix : (-2147483648 ≤ x ∧ x < 2147483648)) (hsy : 0 ≤ (F 15).toInt ∧ (F 15).toInt ≤ 2560) (hru : VB (X 12)) (s0 : Nat) : Met l yX6_rulesOf vX6_rulesOf { frames := 1, cells := 0, slots := 0, locals := 60 } (va_Pc [.ref (a 6), .int (oI x)] (cPre dC dI cB cC cI cJ cZ a F X J R gf gn s0)) (va_Qi (fun (r : Int32) (_ : Unit) => (r).toInt < 1073741824) (fun _ => cPost dC dI cB cC cI cJ cZ a F X J R gf gn (va_A (CW cB cC cI cJ cZ a F X J R gf gn) s0)) (va_A (CW cB cC cI cJ cZ a F X J R gf gn) s0)) 0 0 (va_A (CW cB cC cI cJ cZ a F X J R gf gn) s0) := by
  refine Met.ofW (cc := cX6_rulesOf) (maxL := 2) (ret := (some .int)) (by decide) rfl ?_
  intro p e s m args below meth c s₁ B9 hml hv
  obtain ⟨rfl, hsz0, hP, hK, hD0, hNW⟩ := hv
  have hx := B9.exec
  have hb := B9.bytes
  have hr := B9.returns
  have hts := atoms_spec (ws := vX6_rulesOf) B9.pre
  have hown : s.vm.findClass RX6 = some m.cls := findClass_of_methodNamed B9.named
  have hlocks := B9.notSynchronized
  clear B9
  subst hsz0
  have hD := hD0.self (sz := s.heap.size)
  generalize hAe : va_A (CW cB cC cI cJ cZ a F X J R gf gn) s.heap.size = A at hD ⊢
  have hA : ∀ q : Nat, s.heap.size ≤ q → A q := fun q h => by rw [← hAe]; exact Or.inr h
  have hS : va_S A s.heap s.heap [] := va_S.rf
  have hcs : 0 + 0 ≤ (0 : Nat) ∧ 0 + 0 ≤ (0 : Nat) := ⟨Nat.le_refl 0, Nat.le_refl 0⟩
  have hl := lv_entry ([.ref (a 6), .int (oI x)]) (n := 2) (Nat.le_of_ble_eq_true rfl)
  rw [lg_entry_eq]
  generalize (lg_sl ([.ref (a 6), .int (oI x)]) ++ List.replicate (2 - (lg_sl ([.ref (a 6), .int (oI x)])).length) Slot.unset).toArray = ls at hl ⊢
  have hl : lv_has ls 2 [(0, .ref (a 6)), (1, .int (oI x))] := hl
  refine lv_iload_n hx hb dX6_rulesOf_0 rfl (lv_at hl 1 rfl) ?_
  refine cz_lt (tgt := 21) hx hb (by omega) dX6_rulesOf_1 (by decide) (fun c_1 => ?_) (fun c_1 => ?_)
  · refine lv_iconst (v := oI (-1)) hx hb dX6_rulesOf_21 (by decide) ?_
    have hb9 := hru x.toNat
    have e0 : (oI ((-1))).toInt = (-1) := by decide
    have hpost : (oI ((-1))).toInt < 1073741824 := by first | assumption | omega | (with_reducible rfl) | ((repeat' apply And.intro) <;> first | assumption | omega | (with_reducible rfl))
    exact W.iret (v := (oI ((-1)))) hx hb hr (fun t ht hW => ⟨⟨(oI ((-1))), (), rfl, hpost, by rw [ht]; exact hP, va_K.moved hW.alike hK, hD⟩, hS.F ht⟩) hS.2.2 dX6_rulesOf_22
  · refine lv_iload_n hx hb dX6_rulesOf_4 rfl (lv_at hl 1 rfl) ?_
    refine lv_aload_n hx hb dX6_rulesOf_5 rfl (lv_at hl 0 rfl) ?_
    refine cg_6_4 hx hb hts inX6_rulesOf_X6 hown hK hP (hts _ lkX6_rulesOf_f25) dX6_rulesOf_6 ?_
    have i_2 := i32r (F 15)
    refine ci_ge (tgt := 21) hx hb (by omega) (i32r _) dX6_rulesOf_9 (by decide) (fun c_3 => ?_) (fun c_3 => ?_)
    · refine lv_iconst (v := oI (-1)) hx hb dX6_rulesOf_21 (by decide) ?_
      have hb9 := hru x.toNat
      have e0 : (oI ((-1))).toInt = (-1) := by decide
      have hpost : (oI ((-1))).toInt < 1073741824 := by first | assumption | omega | (with_reducible rfl) | ((repeat' apply And.intro) <;> first | assumption | omega | (with_reducible rfl))
      exact W.iret (v := (oI ((-1)))) hx hb hr (fun t ht hW => ⟨⟨(oI ((-1))), (), rfl, hpost, by rw [ht]; exact hP, va_K.moved hW.alike hK, hD⟩, hS.F ht⟩) hS.2.2 dX6_rulesOf_22
    · refine lv_aload_n hx hb dX6_rulesOf_12 rfl (lv_at hl 0 rfl) ?_
      refine cg_6_2 hx hb hts inX6_rulesOf_X6 hown hK hP (hts _ lkX6_rulesOf_f18) dX6_rulesOf_13 ?_
      refine lv_iload_n hx hb dX6_rulesOf_16 rfl (lv_at hl 1 rfl) ?_
      refine cl_12 hx hb hK hP (by omega) dX6_rulesOf_17 (fun w_4 hw_4 => ?_)
      have i_5 := i32r w_4
      refine lv_goto (tgt := 22) hx hb dX6_rulesOf_18 (by decide) ?_
      have hb9 := hru x.toNat
      have tb9 : w_4.toInt = (X 12 x.toNat).toInt := by rw [hw_4]
      have e0 : (oI w_4.toInt).toInt = w_4.toInt := congrArg Int32.toInt (oI_toInt _)
      have hpost : (oI w_4.toInt).toInt < 1073741824 := by first | assumption | omega | (with_reducible rfl) | ((repeat' apply And.intro) <;> first | assumption | omega | (with_reducible rfl))
      exact W.iret (v := (oI w_4.toInt)) hx hb hr (fun t ht hW => ⟨⟨(oI w_4.toInt), (), rfl, hpost, by rw [ht]; exact hP, va_K.moved hW.alike hK, hD⟩, hS.F ht⟩) hS.2.2 dX6_rulesOf_22

set_option maxHeartbeats 4000000 in
set_option maxRecDepth 100000 in
/-- X6_setRules -/
theorem c_setRules (l : Launch) (dC : Nat → ClassId) (dI : Nat → Nat → Nat) (cB cC cI cJ cZ : ClassId) (a : Nat → Nat) (F : Nat → Int32) (X : Nat → Nat → Int32) (J : Nat → Nat → Int64) (R : Nat → Nat) (gf gn : Nat) (x y : Int)  (ix : (-2147483648 ≤ x ∧ x < 2147483648)) (iy : (-2147483648 ≤ y ∧ y < 2147483648)) (hsy : 0 ≤ (F 15).toInt ∧ (F 15).toInt ≤ 2560) (hru : VB (X 12)) (hy2 : y < 1073741824) (s0 : Nat) : Met l yX6_setRules vX6_setRules { frames := 1, cells := 0, slots := 0, locals := 60 } (va_Pc [.ref (a 6), .int (oI x), .int (oI y)] (cPre dC dI cB cC cI cJ cZ a F X J R gf gn s0)) (va_Qv (fun (u : (Nat → Int32) × (Nat → Nat → Int32)) => match u with | (F1, X1) => VB (X1 12)) (fun u => cPost dC dI cB cC cI cJ cZ a F (rg 12 12 X u.2) J R gf gn (va_A (CW cB cC cI cJ cZ a F X J R gf gn) s0)) (va_A (CW cB cC cI cJ cZ a F X J R gf gn) s0)) 0 0 (va_A (CW cB cC cI cJ cZ a F X J R gf gn) s0) := by
  refine Met.ofW (cc := cX6_setRules) (maxL := 3) (ret := none) (by decide) rfl ?_
  intro p e s m args below meth c s₁ B9 hml hv
  obtain ⟨rfl, hsz0, hP, hK, hD0, hNW⟩ := hv
  have hx := B9.exec
  have hb := B9.bytes
  have hr := B9.returns
  have hts := atoms_spec (ws := vX6_setRules) B9.pre
  have hown : s.vm.findClass RX6 = some m.cls := findClass_of_methodNamed B9.named
  have hlocks := B9.notSynchronized
  clear B9
  subst hsz0
  have hD := hD0.self (sz := s.heap.size)
  generalize hAe : va_A (CW cB cC cI cJ cZ a F X J R gf gn) s.heap.size = A at hD ⊢
  have hA : ∀ q : Nat, s.heap.size ≤ q → A q := fun q h => by rw [← hAe]; exact Or.inr h
  have hS : va_S A s.heap s.heap [] := va_S.rf
  have hcs : 0 + 0 ≤ (0 : Nat) ∧ 0 + 0 ≤ (0 : Nat) := ⟨Nat.le_refl 0, Nat.le_refl 0⟩
  have hl := lv_entry ([.ref (a 6), .int (oI x), .int (oI y)]) (n := 3) (Nat.le_of_ble_eq_true rfl)
  rw [lg_entry_eq]
  generalize (lg_sl ([.ref (a 6), .int (oI x), .int (oI y)]) ++ List.replicate (3 - (lg_sl ([.ref (a 6), .int (oI x), .int (oI y)])).length) Slot.unset).toArray = ls at hl ⊢
  have hl : lv_has ls 3 [(0, .ref (a 6)), (1, .int (oI x)), (2, .int (oI y))] := hl
  refine lv_iload_n hx hb dX6_setRules_0 rfl (lv_at hl 1 rfl) ?_
  refine cz_lt (tgt := 19) hx hb (by omega) dX6_setRules_1 (by decide) (fun c_1 => ?_) (fun c_1 => ?_)
  · have eX9 : rg 12 12 X X = X := by funext k; simp only [rg, va_up]; (repeat' split) <;> first | with_reducible rfl | omega
    have hP9 : va_P (dC, dI) vwCl (CW cB cC cI cJ cZ a F (rg 12 12 X X) J R gf gn) s.heap := by rw [eX9]; exact hP
    have hD9 : va_D A (CW cB cC cI cJ cZ a F (rg 12 12 X X) J R gf gn) := by rw [eX9]; exact hD
    have hpost : VB (X 12) := hru
    exact W.vret hx hb hr (fun t ht hW => ⟨⟨(F, X), rfl, hpost, by rw [ht]; exact hP9, va_K.moved hW.alike hK, hD9⟩, hS.F ht⟩) hS.2.2 dX6_setRules_19
  · refine lv_iload_n hx hb dX6_setRules_4 rfl (lv_at hl 1 rfl) ?_
    refine lv_aload_n hx hb dX6_setRules_5 rfl (lv_at hl 0 rfl) ?_
    refine cg_6_4 hx hb hts inX6_setRules_X6 hown hK hP (hts _ lkX6_setRules_f25) dX6_setRules_6 ?_
    have i_2 := i32r (F 15)
    refine ci_ge (tgt := 19) hx hb (by omega) (i32r _) dX6_setRules_9 (by decide) (fun c_3 => ?_) (fun c_3 => ?_)
    · have eX9 : rg 12 12 X X = X := by funext k; simp only [rg, va_up]; (repeat' split) <;> first | with_reducible rfl | omega
      have hP9 : va_P (dC, dI) vwCl (CW cB cC cI cJ cZ a F (rg 12 12 X X) J R gf gn) s.heap := by rw [eX9]; exact hP
      have hD9 : va_D A (CW cB cC cI cJ cZ a F (rg 12 12 X X) J R gf gn) := by rw [eX9]; exact hD
      have hpost : VB (X 12) := hru
      exact W.vret hx hb hr (fun t ht hW => ⟨⟨(F, X), rfl, hpost, by rw [ht]; exact hP9, va_K.moved hW.alike hK, hD9⟩, hS.F ht⟩) hS.2.2 dX6_setRules_19
    · refine lv_aload_n hx hb dX6_setRules_12 rfl (lv_at hl 0 rfl) ?_
      refine cg_6_2 hx hb hts inX6_setRules_X6 hown hK hP (hts _ lkX6_setRules_f18) dX6_setRules_13 ?_
      refine lv_iload_n hx hb dX6_setRules_16 rfl (lv_at hl 1 rfl) ?_
      refine lv_iload_n hx hb dX6_setRules_17 rfl (lv_at hl 2 rfl) ?_
      refine cs_12 hx hb hK hP hD hS (by omega) dX6_setRules_18 (fun H locs hP hD hS => ?_)
      have hP : va_P (dC, dI) vwCl (CW cB cC cI cJ cZ a F (va_up X 12 (upd (X 12) (x).toNat (oI y))) J R gf gn) H := hP
      have hD : va_D A (CW cB cC cI cJ cZ a F (va_up X 12 (upd (X 12) (x).toNat (oI y))) J R gf gn) := hD
      have eX9 : rg 12 12 X (va_up X 12 (upd (X 12) (x).toNat (oI y))) = va_up X 12 (upd (X 12) (x).toNat (oI y)) := by funext k; simp only [rg, va_up]; (repeat' split) <;> first | with_reducible rfl | omega
      have hP9 : va_P (dC, dI) vwCl (CW cB cC cI cJ cZ a F (rg 12 12 X (va_up X 12 (upd (X 12) (x).toNat (oI y)))) J R gf gn) H := by rw [eX9]; exact hP
      have hD9 : va_D A (CW cB cC cI cJ cZ a F (rg 12 12 X (va_up X 12 (upd (X 12) (x).toNat (oI y)))) J R gf gn) := by rw [eX9]; exact hD
      have hpost : VB (upd (X 12) (x).toNat (oI y)) := VB_upd hru (by omega)
      exact W.vret hx hb hr (fun t ht hW => ⟨⟨(F, va_up X 12 (upd (X 12) (x).toNat (oI y))), rfl, hpost, by rw [ht]; exact hP9, va_K.moved hW.alike hK, hD9⟩, hS.F ht⟩) hS.2.2 dX6_setRules_19

set_option maxHeartbeats 4000000 in
set_option maxRecDepth 100000 in
theorem lp_macros {p : Program} {l : Launch} {e : Env} {s : State} {m : MethodId} {args : Array Value} {below : List Frame} {meth : Method} {c : Code} {A : Nat → Prop} {dC : Nat → ClassId} {dI : Nat → Nat → Nat} {cB cC cI cJ cZ : ClassId} {a : Nat → Nat} {F : Nat → Int32} {X : Nat → Nat → Int32} {J : Nat → Nat → Int64} {R : Nat → Nat} {gf gn : Nat} (hx : p.tables.exec = Jvm.exec) (hb : c.code = cX6_macros) (hml : c.maxLocals = 3) (hown : s.vm.findClass RX6 = some m.cls) (hts : ∀ w ∈ vX6_macros, w.before args s = true) (hK : va_K (dC, dI) vwCl (TY cB cC cI cJ cZ) s) (hNW : NW s) (hA : ∀ q : Nat, s.heap.size ≤ q → A q) (hr : meth.sig.returnType = (some .int)) (hlocks : meth.locks = false)  (hsy : 0 ≤ (F 15).toInt ∧ (F 15).toInt ≤ 2560)   : ∀ (k : Nat) (n : Int) (q : Int), (3000 - q).toNat < k → (-2147483648 ≤ n ∧ n < 2147483648) → (-2147483648 ≤ q ∧ q < 2147483648) → (0 ≤ q ∧ 0 ≤ n ∧ n ≤ q) → ∀ (H : Heap) (locs : List Loc), va_P (dC, dI) vwCl (CW cB cC cI cJ cZ a F X J R gf gn) H → va_D A (CW cB cC cI cJ cZ a F X J R gf gn) → va_S A s.heap H locs → ∀ (ls : Array Slot), lv_has ls 3 [(0, .ref (a 6)), (1, .int (oI n)), (2, .int (oI q))] → W p l e (headSpec vX6_macros { frames := 1, cells := 0, slots := 0, locals := 60 }).room s m args below meth c H locs 0 0 (MQ below (va_Qi (fun (r : Int32) (_ : Unit) => True) (fun _ => cPost dC dI cB cC cI cJ cZ a F X J R gf gn A) A) args s 0 0 A) (F0 m 4 ls []) := by
  have hcs : 0 + 0 ≤ (0 : Nat) ∧ 0 + 0 ≤ (0 : Nat) := ⟨Nat.le_refl 0, Nat.le_refl 0⟩
  intro k
  induction k with
  | zero =>
    intro n q hk in9 iq9 hq
    exact absurd hk (Nat.not_lt_zero _)
  | succ k ih =>
    intro n q hk in9 iq9 hq H locs hP hD hS ls hl
    refine lv_iload_n hx hb dX6_macros_4 rfl (lv_at hl 2 rfl) ?_
    refine lv_aload_n hx hb dX6_macros_5 rfl (lv_at hl 0 rfl) ?_
    refine cg_6_4 hx hb hts inX6_macros_X6 hown hK hP (hts _ lkX6_macros_f25) dX6_macros_6 ?_
    have i_1 := i32r (F 15)
    refine ci_ge (tgt := 31) hx hb (by omega) (i32r _) dX6_macros_9 (by decide) (fun c_2 => ?_) (fun c_2 => ?_)
    · refine lv_iload_n hx hb dX6_macros_31 rfl (lv_at hl 1 rfl) ?_
      have hpost : True := trivial
      exact W.iret (v := (oI n)) hx hb hr (fun t ht hW => ⟨⟨(oI n), (), rfl, hpost, by rw [ht]; exact hP, va_K.moved hW.alike hK, hD⟩, hS.F ht⟩) hS.2.2 dX6_macros_32
    · refine lv_aload_n hx hb dX6_macros_12 rfl (lv_at hl 0 rfl) ?_
      refine cg_6_2 hx hb hts inX6_macros_X6 hown hK hP (hts _ lkX6_macros_f18) dX6_macros_13 ?_
      refine lv_iload_n hx hb dX6_macros_16 rfl (lv_at hl 2 rfl) ?_
      refine cl_12 hx hb hK hP (by omega) dX6_macros_17 (fun w_3 hw_3 => ?_)
      have i_4 := i32r w_3
      refine lv_iconst (v := oI (-1)) hx hb dX6_macros_18 (by decide) ?_
      refine ci_eq (tgt := 25) hx hb (i32r _) (by decide) dX6_macros_19 (by decide) (fun c_5 => ?_) (fun c_5 => ?_)
      · refine lv_iinc (v := oI (q + 1)) (lv' := [(2, .int (oI (q + 1))), (0, .ref (a 6)), (1, .int (oI n))]) hx hb dX6_macros_25 hl (k := 2) rfl (oI_add q 1) (by decide) rfl (fun ls hl => ?_)
        refine lv_goto (tgt := 4) hx hb dX6_macros_28 (by decide) ?_
        exact ih n (q + 1) (show (3000 - (q + 1)).toNat < k from by omega) (by omega) (by omega) (show 0 ≤ (q + 1) ∧ 0 ≤ n ∧ n ≤ (q + 1) from by first | assumption | omega | (with_reducible rfl) | ((repeat' apply And.intro) <;> first | assumption | omega | (with_reducible rfl))) _ _ hP hD hS ls (lv_sub hl [1, 2, 0] rfl)
      · refine lv_iinc (v := oI (n + 1)) (lv' := [(1, .int (oI (n + 1))), (0, .ref (a 6)), (2, .int (oI q))]) hx hb dX6_macros_22 hl (k := 1) rfl (oI_add n 1) (by decide) rfl (fun ls hl => ?_)
        refine lv_iinc (v := oI (q + 1)) (lv' := [(2, .int (oI (q + 1))), (1, .int (oI (n + 1))), (0, .ref (a 6))]) hx hb dX6_macros_25 hl (k := 2) rfl (oI_add q 1) (by decide) rfl (fun ls hl => ?_)
        refine lv_goto (tgt := 4) hx hb dX6_macros_28 (by decide) ?_
        exact ih (n + 1) (q + 1) (show (3000 - (q + 1)).toNat < k from by omega) (by omega) (by omega) (show 0 ≤ (q + 1) ∧ 0 ≤ (n + 1) ∧ (n + 1) ≤ (q + 1) from by first | assumption | omega | (with_reducible rfl) | ((repeat' apply And.intro) <;> first | assumption | omega | (with_reducible rfl))) _ _ hP hD hS ls (lv_sub hl [2, 1, 0] rfl)

set_option maxHeartbeats 4000000 in
set_option maxRecDepth 100000 in
/-- X6_macros -/
theorem c_macros (l : Launch) (dC : Nat → ClassId) (dI : Nat → Nat → Nat) (cB cC cI cJ cZ : ClassId) (a : Nat → Nat) (F : Nat → Int32) (X : Nat → Nat → Int32) (J : Nat → Nat → Int64) (R : Nat → Nat) (gf gn : Nat)  (hsy : 0 ≤ (F 15).toInt ∧ (F 15).toInt ≤ 2560) (s0 : Nat) : Met l yX6_macros vX6_macros { frames := 1, cells := 0, slots := 0, locals := 60 } (va_Pc [.ref (a 6)] (cPre dC dI cB cC cI cJ cZ a F X J R gf gn s0)) (va_Qi (fun (r : Int32) (_ : Unit) => True) (fun _ => cPost dC dI cB cC cI cJ cZ a F X J R gf gn (va_A (CW cB cC cI cJ cZ a F X J R gf gn) s0)) (va_A (CW cB cC cI cJ cZ a F X J R gf gn) s0)) 0 0 (va_A (CW cB cC cI cJ cZ a F X J R gf gn) s0) := by
  refine Met.ofW (cc := cX6_macros) (maxL := 3) (ret := (some .int)) (by decide) rfl ?_
  intro p e s m args below meth c s₁ B9 hml hv
  obtain ⟨rfl, hsz0, hP, hK, hD0, hNW⟩ := hv
  have hx := B9.exec
  have hb := B9.bytes
  have hr := B9.returns
  have hts := atoms_spec (ws := vX6_macros) B9.pre
  have hown : s.vm.findClass RX6 = some m.cls := findClass_of_methodNamed B9.named
  have hlocks := B9.notSynchronized
  clear B9
  subst hsz0
  have hD := hD0.self (sz := s.heap.size)
  generalize hAe : va_A (CW cB cC cI cJ cZ a F X J R gf gn) s.heap.size = A at hD ⊢
  have hA : ∀ q : Nat, s.heap.size ≤ q → A q := fun q h => by rw [← hAe]; exact Or.inr h
  have hS : va_S A s.heap s.heap [] := va_S.rf
  have hcs : 0 + 0 ≤ (0 : Nat) ∧ 0 + 0 ≤ (0 : Nat) := ⟨Nat.le_refl 0, Nat.le_refl 0⟩
  have hl := lv_entry ([.ref (a 6)]) (n := 3) (Nat.le_of_ble_eq_true rfl)
  rw [lg_entry_eq]
  generalize (lg_sl ([.ref (a 6)]) ++ List.replicate (3 - (lg_sl ([.ref (a 6)])).length) Slot.unset).toArray = ls at hl ⊢
  have hl : lv_has ls 3 [(0, .ref (a 6))] := hl
  refine lv_iconst (v := oI 0) hx hb dX6_macros_0 (by decide) ?_
  refine lv_istore_n (lv' := [(1, .int (oI 0)), (0, .ref (a 6))]) hx hb dX6_macros_1 rfl hl (by decide) rfl (fun ls hl => ?_)
  refine lv_iconst (v := oI 0) hx hb dX6_macros_2 (by decide) ?_
  refine lv_istore_n (lv' := [(2, .int (oI 0)), (1, .int (oI 0)), (0, .ref (a 6))]) hx hb dX6_macros_3 rfl hl (by decide) rfl (fun ls hl => ?_)
  exact lp_macros hx hb hml hown hts hK hNW hA hr hlocks (by assumption)  _ 0 0 (Nat.lt_succ_self _) (by decide) (by decide) (show 0 ≤ 0 ∧ 0 ≤ 0 ∧ 0 ≤ 0 from by first | assumption | omega | (with_reducible rfl) | ((repeat' apply And.intro) <;> first | assumption | omega | (with_reducible rfl))) _ _ hP hD hS ls (lv_sub hl [2, 1, 0] rfl)

set_option maxHeartbeats 4000000 in
set_option maxRecDepth 100000 in
/-- X6_clearNotes -/
theorem c_clearNotes (l : Launch) (dC : Nat → ClassId) (dI : Nat → Nat → Nat) (cB cC cI cJ cZ : ClassId) (a : Nat → Nat) (F : Nat → Int32) (X : Nat → Nat → Int32) (J : Nat → Nat → Int64) (R : Nat → Nat) (gf gn : Nat)  (s0 : Nat) : Met l yX6_clearNotes vX6_clearNotes { frames := 1, cells := 0, slots := 0, locals := 60 } (va_Pc [.ref (a 6)] (cPre dC dI cB cC cI cJ cZ a F X J R gf gn s0)) (va_Qv (fun (u : (Nat → Int32) × (Nat → Nat → Int32)) => match u with | (F1, X1) => True) (fun u => cPost dC dI cB cC cI cJ cZ a (rg 14 14 F u.1) X J R gf gn (va_A (CW cB cC cI cJ cZ a F X J R gf gn) s0)) (va_A (CW cB cC cI cJ cZ a F X J R gf gn) s0)) 0 0 (va_A (CW cB cC cI cJ cZ a F X J R gf gn) s0) := by
  refine Met.ofW (cc := cX6_clearNotes) (maxL := 1) (ret := none) (by decide) rfl ?_
  intro p e s m args below meth c s₁ B9 hml hv
  obtain ⟨rfl, hsz0, hP, hK, hD0, hNW⟩ := hv
  have hx := B9.exec
  have hb := B9.bytes
  have hr := B9.returns
  have hts := atoms_spec (ws := vX6_clearNotes) B9.pre
  have hown : s.vm.findClass RX6 = some m.cls := findClass_of_methodNamed B9.named
  have hlocks := B9.notSynchronized
  clear B9
  subst hsz0
  have hD := hD0.self (sz := s.heap.size)
  generalize hAe : va_A (CW cB cC cI cJ cZ a F X J R gf gn) s.heap.size = A at hD ⊢
  have hA : ∀ q : Nat, s.heap.size ≤ q → A q := fun q h => by rw [← hAe]; exact Or.inr h
  have hS : va_S A s.heap s.heap [] := va_S.rf
  have hcs : 0 + 0 ≤ (0 : Nat) ∧ 0 + 0 ≤ (0 : Nat) := ⟨Nat.le_refl 0, Nat.le_refl 0⟩
  have hl := lv_entry ([.ref (a 6)]) (n := 1) (Nat.le_of_ble_eq_true rfl)
  rw [lg_entry_eq]
  generalize (lg_sl ([.ref (a 6)]) ++ List.replicate (1 - (lg_sl ([.ref (a 6)])).length) Slot.unset).toArray = ls at hl ⊢
  have hl : lv_has ls 1 [(0, .ref (a 6))] := hl
  refine lv_aload_n hx hb dX6_clearNotes_0 rfl (lv_at hl 0 rfl) ?_
  refine lv_dup hx hb dX6_clearNotes_1 rfl ?_
  refine cg_6_12 hx hb hts inX6_clearNotes_X6 hown hK hP (hts _ lkX6_clearNotes_f50) dX6_clearNotes_2 ?_
  have i_1 := i32r (F 14)
  refine lv_iconst (v := oI 1) hx hb dX6_clearNotes_5 (by decide) ?_
  refine lv_iadd hx hb dX6_clearNotes_6 ?_
  refine tp_i (oI_add ((F 14).toInt) 1) ?_
  refine cp_6_12 hx hb hts inX6_clearNotes_X6 hown hK hP hD hS (hts _ lkX6_clearNotes_f50) dX6_clearNotes_7 (fun H locs hP hD hS => ?_)
  have hP : va_P (dC, dI) vwCl (CW cB cC cI cJ cZ a (va_up F 14 (oI (((F 14).toInt) + 1))) X J R gf gn) H := hP
  have hD : va_D A (CW cB cC cI cJ cZ a (va_up F 14 (oI (((F 14).toInt) + 1))) X J R gf gn) := hD
  have eF9 : rg 14 14 F (va_up F 14 (oI (((F 14).toInt) + 1))) = va_up F 14 (oI (((F 14).toInt) + 1)) := by funext k; simp only [rg, va_up]; (repeat' split) <;> first | with_reducible rfl | omega
  have hP9 : va_P (dC, dI) vwCl (CW cB cC cI cJ cZ a (rg 14 14 F (va_up F 14 (oI (((F 14).toInt) + 1)))) X J R gf gn) H := by rw [eF9]; exact hP
  have hD9 : va_D A (CW cB cC cI cJ cZ a (rg 14 14 F (va_up F 14 (oI (((F 14).toInt) + 1)))) X J R gf gn) := by rw [eF9]; exact hD
  have hpost : True := trivial
  exact W.vret hx hb hr (fun t ht hW => ⟨⟨(va_up F 14 (oI (((F 14).toInt) + 1)), X), rfl, hpost, by rw [ht]; exact hP9, va_K.moved hW.alike hK, hD9⟩, hS.F ht⟩) hS.2.2 dX6_clearNotes_10

set_option maxHeartbeats 4000000 in
set_option maxRecDepth 100000 in
/-- X6_isNoted -/
theorem c_isNoted (l : Launch) (dC : Nat → ClassId) (dI : Nat → Nat → Nat) (cB cC cI cJ cZ : ClassId) (a : Nat → Nat) (F : Nat → Int32) (X : Nat → Nat → Int32) (J : Nat → Nat → Int64) (R : Nat → Nat) (gf gn : Nat) (x : Int)  (ix : (-2147483648 ≤ x ∧ x < 2147483648)) (hgn : gn ≤ 63261) (hnt : 0 ≤ (F 13).toInt ∧ (F 13).toInt ≤ (gn : Int)) (s0 : Nat) : Met l yX6_isNoted vX6_isNoted { frames := 1, cells := 0, slots := 0, locals := 60 } (va_Pc [.ref (a 6), .int (oI x)] (cPre dC dI cB cC cI cJ cZ a F X J R gf gn s0)) (va_Qi (fun (r : Int32) (_ : Unit) => True) (fun _ => cPost dC dI cB cC cI cJ cZ a F X J R gf gn (va_A (CW cB cC cI cJ cZ a F X J R gf gn) s0)) (va_A (CW cB cC cI cJ cZ a F X J R gf gn) s0)) 0 0 (va_A (CW cB cC cI cJ cZ a F X J R gf gn) s0) := by
  refine Met.ofW (cc := cX6_isNoted) (maxL := 2) (ret := (some .boolean)) (by decide) rfl ?_
  intro p e s m args below meth c s₁ B9 hml hv
  obtain ⟨rfl, hsz0, hP, hK, hD0, hNW⟩ := hv
  have hx := B9.exec
  have hb := B9.bytes
  have hr := B9.returns
  have hts := atoms_spec (ws := vX6_isNoted) B9.pre
  have hown : s.vm.findClass RX6 = some m.cls := findClass_of_methodNamed B9.named
  have hlocks := B9.notSynchronized
  clear B9
  subst hsz0
  have hD := hD0.self (sz := s.heap.size)
  generalize hAe : va_A (CW cB cC cI cJ cZ a F X J R gf gn) s.heap.size = A at hD ⊢
  have hA : ∀ q : Nat, s.heap.size ≤ q → A q := fun q h => by rw [← hAe]; exact Or.inr h
  have hS : va_S A s.heap s.heap [] := va_S.rf
  have hcs : 0 + 0 ≤ (0 : Nat) ∧ 0 + 0 ≤ (0 : Nat) := ⟨Nat.le_refl 0, Nat.le_refl 0⟩
  have hl := lv_entry ([.ref (a 6), .int (oI x)]) (n := 2) (Nat.le_of_ble_eq_true rfl)
  rw [lg_entry_eq]
  generalize (lg_sl ([.ref (a 6), .int (oI x)]) ++ List.replicate (2 - (lg_sl ([.ref (a 6), .int (oI x)])).length) Slot.unset).toArray = ls at hl ⊢
  have hl : lv_has ls 2 [(0, .ref (a 6)), (1, .int (oI x))] := hl
  refine lv_iload_n hx hb dX6_isNoted_0 rfl (lv_at hl 1 rfl) ?_
  refine cz_lt (tgt := 29) hx hb (by omega) dX6_isNoted_1 (by decide) (fun c_1 => ?_) (fun c_1 => ?_)
  · refine lv_iconst (v := oI 0) hx hb dX6_isNoted_29 (by decide) ?_
    have hpost : True := trivial
    exact W.zret (v := (oI 0)) hx hb hr (by first | rfl | decide | exact zb9 (by omega)) (fun t ht hW => ⟨⟨(oI 0), (), rfl, hpost, by rw [ht]; exact hP, va_K.moved hW.alike hK, hD⟩, hS.F ht⟩) hS.2.2 dX6_isNoted_30
  · refine lv_iload_n hx hb dX6_isNoted_4 rfl (lv_at hl 1 rfl) ?_
    refine lv_aload_n hx hb dX6_isNoted_5 rfl (lv_at hl 0 rfl) ?_
    refine cg_6_11 hx hb hts inX6_isNoted_X6 hown hK hP (hts _ lkX6_isNoted_f47) dX6_isNoted_6 ?_
    have i_2 := i32r (F 13)
    refine ci_ge (tgt := 29) hx hb (by omega) (i32r _) dX6_isNoted_9 (by decide) (fun c_3 => ?_) (fun c_3 => ?_)
    · refine lv_iconst (v := oI 0) hx hb dX6_isNoted_29 (by decide) ?_
      have hpost : True := trivial
      exact W.zret (v := (oI 0)) hx hb hr (by first | rfl | decide | exact zb9 (by omega)) (fun t ht hW => ⟨⟨(oI 0), (), rfl, hpost, by rw [ht]; exact hP, va_K.moved hW.alike hK, hD⟩, hS.F ht⟩) hS.2.2 dX6_isNoted_30
    · refine lv_aload_n hx hb dX6_isNoted_12 rfl (lv_at hl 0 rfl) ?_
      refine cg_6_9 hx hb hts inX6_isNoted_X6 hown hK hP (hts _ lkX6_isNoted_f41) dX6_isNoted_13 ?_
      refine lv_iload_n hx hb dX6_isNoted_16 rfl (lv_at hl 1 rfl) ?_
      refine cl_17 hx hb hK hP hgn (by omega) dX6_isNoted_17 (fun w_4 hw_4 => ?_)
      have i_5 := i32r w_4
      refine lv_aload_n hx hb dX6_isNoted_18 rfl (lv_at hl 0 rfl) ?_
      refine cg_6_12 hx hb hts inX6_isNoted_X6 hown hK hP (hts _ lkX6_isNoted_f50) dX6_isNoted_19 ?_
      have i_6 := i32r (F 14)
      refine ci_ne (tgt := 29) hx hb (i32r _) (i32r _) dX6_isNoted_22 (by decide) (fun c_7 => ?_) (fun c_7 => ?_)
      · refine lv_iconst (v := oI 0) hx hb dX6_isNoted_29 (by decide) ?_
        have hpost : True := trivial
        exact W.zret (v := (oI 0)) hx hb hr (by first | rfl | decide | exact zb9 (by omega)) (fun t ht hW => ⟨⟨(oI 0), (), rfl, hpost, by rw [ht]; exact hP, va_K.moved hW.alike hK, hD⟩, hS.F ht⟩) hS.2.2 dX6_isNoted_30
      · refine lv_iconst (v := oI 1) hx hb dX6_isNoted_25 (by decide) ?_
        refine lv_goto (tgt := 30) hx hb dX6_isNoted_26 (by decide) ?_
        have hpost : True := trivial
        exact W.zret (v := (oI 1)) hx hb hr (by first | rfl | decide | exact zb9 (by omega)) (fun t ht hW => ⟨⟨(oI 1), (), rfl, hpost, by rw [ht]; exact hP, va_K.moved hW.alike hK, hD⟩, hS.F ht⟩) hS.2.2 dX6_isNoted_30

set_option maxHeartbeats 4000000 in
set_option maxRecDepth 100000 in
/-- X6_noteOf -/
theorem c_noteOf (l : Launch) (dC : Nat → ClassId) (dI : Nat → Nat → Nat) (cB cC cI cJ cZ : ClassId) (a : Nat → Nat) (F : Nat → Int32) (X : Nat → Nat → Int32) (J : Nat → Nat → Int64) (R : Nat → Nat) (gf gn : Nat) (x : Int)  (ix : (-2147483648 ≤ x ∧ x < 2147483648)) (hgn : gn ≤ 63261) (hnt : 0 ≤ (F 13).toInt ∧ (F 13).toInt ≤ (gn : Int)) (s0 : Nat) : Met l yX6_noteOf vX6_noteOf { frames := 1, cells := 0, slots := 0, locals := 60 } (va_Pc [.ref (a 6), .int (oI x)] (cPre dC dI cB cC cI cJ cZ a F X J R gf gn s0)) (va_Qi (fun (r : Int32) (_ : Unit) => True) (fun _ => cPost dC dI cB cC cI cJ cZ a F X J R gf gn (va_A (CW cB cC cI cJ cZ a F X J R gf gn) s0)) (va_A (CW cB cC cI cJ cZ a F X J R gf gn) s0)) 0 0 (va_A (CW cB cC cI cJ cZ a F X J R gf gn) s0) := by
  refine Met.ofW (cc := cX6_noteOf) (maxL := 2) (ret := (some .int)) (by decide) rfl ?_
  intro p e s m args below meth c s₁ B9 hml hv
  obtain ⟨rfl, hsz0, hP, hK, hD0, hNW⟩ := hv
  have hx := B9.exec
  have hb := B9.bytes
  have hr := B9.returns
  have hts := atoms_spec (ws := vX6_noteOf) B9.pre
  have hown : s.vm.findClass RX6 = some m.cls := findClass_of_methodNamed B9.named
  have hlocks := B9.notSynchronized
  clear B9
  subst hsz0
  have hD := hD0.self (sz := s.heap.size)
  generalize hAe : va_A (CW cB cC cI cJ cZ a F X J R gf gn) s.heap.size = A at hD ⊢
  have hA : ∀ q : Nat, s.heap.size ≤ q → A q := fun q h => by rw [← hAe]; exact Or.inr h
  have hS : va_S A s.heap s.heap [] := va_S.rf
  have hcs : 0 + 0 ≤ (0 : Nat) ∧ 0 + 0 ≤ (0 : Nat) := ⟨Nat.le_refl 0, Nat.le_refl 0⟩
  have hl := lv_entry ([.ref (a 6), .int (oI x)]) (n := 2) (Nat.le_of_ble_eq_true rfl)
  rw [lg_entry_eq]
  generalize (lg_sl ([.ref (a 6), .int (oI x)]) ++ List.replicate (2 - (lg_sl ([.ref (a 6), .int (oI x)])).length) Slot.unset).toArray = ls at hl ⊢
  have hl : lv_has ls 2 [(0, .ref (a 6)), (1, .int (oI x))] := hl
  refine lv_iload_n hx hb dX6_noteOf_0 rfl (lv_at hl 1 rfl) ?_
  refine cz_lt (tgt := 34) hx hb (by omega) dX6_noteOf_1 (by decide) (fun c_1 => ?_) (fun c_1 => ?_)
  · refine lv_iconst (v := oI (-1)) hx hb dX6_noteOf_34 (by decide) ?_
    have hpost : True := trivial
    exact W.iret (v := (oI ((-1)))) hx hb hr (fun t ht hW => ⟨⟨(oI ((-1))), (), rfl, hpost, by rw [ht]; exact hP, va_K.moved hW.alike hK, hD⟩, hS.F ht⟩) hS.2.2 dX6_noteOf_35
  · refine lv_iload_n hx hb dX6_noteOf_4 rfl (lv_at hl 1 rfl) ?_
    refine lv_aload_n hx hb dX6_noteOf_5 rfl (lv_at hl 0 rfl) ?_
    refine cg_6_11 hx hb hts inX6_noteOf_X6 hown hK hP (hts _ lkX6_noteOf_f47) dX6_noteOf_6 ?_
    have i_2 := i32r (F 13)
    refine ci_ge (tgt := 34) hx hb (by omega) (i32r _) dX6_noteOf_9 (by decide) (fun c_3 => ?_) (fun c_3 => ?_)
    · refine lv_iconst (v := oI (-1)) hx hb dX6_noteOf_34 (by decide) ?_
      have hpost : True := trivial
      exact W.iret (v := (oI ((-1)))) hx hb hr (fun t ht hW => ⟨⟨(oI ((-1))), (), rfl, hpost, by rw [ht]; exact hP, va_K.moved hW.alike hK, hD⟩, hS.F ht⟩) hS.2.2 dX6_noteOf_35
    · refine lv_aload_n hx hb dX6_noteOf_12 rfl (lv_at hl 0 rfl) ?_
      refine cg_6_9 hx hb hts inX6_noteOf_X6 hown hK hP (hts _ lkX6_noteOf_f41) dX6_noteOf_13 ?_
      refine lv_iload_n hx hb dX6_noteOf_16 rfl (lv_at hl 1 rfl) ?_
      refine cl_17 hx hb hK hP hgn (by omega) dX6_noteOf_17 (fun w_4 hw_4 => ?_)
      have i_5 := i32r w_4
      refine lv_aload_n hx hb dX6_noteOf_18 rfl (lv_at hl 0 rfl) ?_
      refine cg_6_12 hx hb hts inX6_noteOf_X6 hown hK hP (hts _ lkX6_noteOf_f50) dX6_noteOf_19 ?_
      have i_6 := i32r (F 14)
      refine ci_ne (tgt := 34) hx hb (i32r _) (i32r _) dX6_noteOf_22 (by decide) (fun c_7 => ?_) (fun c_7 => ?_)
      · refine lv_iconst (v := oI (-1)) hx hb dX6_noteOf_34 (by decide) ?_
        have hpost : True := trivial
        exact W.iret (v := (oI ((-1)))) hx hb hr (fun t ht hW => ⟨⟨(oI ((-1))), (), rfl, hpost, by rw [ht]; exact hP, va_K.moved hW.alike hK, hD⟩, hS.F ht⟩) hS.2.2 dX6_noteOf_35
      · refine lv_aload_n hx hb dX6_noteOf_25 rfl (lv_at hl 0 rfl) ?_
        refine cg_6_10 hx hb hts inX6_noteOf_X6 hown hK hP (hts _ lkX6_noteOf_f44) dX6_noteOf_26 ?_
        refine lv_iload_n hx hb dX6_noteOf_29 rfl (lv_at hl 1 rfl) ?_
        refine cl_18 hx hb hK hP hgn (by omega) dX6_noteOf_30 (fun w_8 hw_8 => ?_)
        have i_9 := i32r w_8
        refine lv_goto (tgt := 35) hx hb dX6_noteOf_31 (by decide) ?_
        have hpost : True := trivial
        exact W.iret (v := (oI w_8.toInt)) hx hb hr (fun t ht hW => ⟨⟨(oI w_8.toInt), (), rfl, hpost, by rw [ht]; exact hP, va_K.moved hW.alike hK, hD⟩, hS.F ht⟩) hS.2.2 dX6_noteOf_35

set_option maxHeartbeats 4000000 in
set_option maxRecDepth 100000 in
/-- X6_setNote -/
theorem c_setNote (l : Launch) (dC : Nat → ClassId) (dI : Nat → Nat → Nat) (cB cC cI cJ cZ : ClassId) (a : Nat → Nat) (F : Nat → Int32) (X : Nat → Nat → Int32) (J : Nat → Nat → Int64) (R : Nat → Nat) (gf gn : Nat) (x y : Int)  (ix : (-2147483648 ≤ x ∧ x < 2147483648)) (iy : (-2147483648 ≤ y ∧ y < 2147483648)) (hgn : gn ≤ 63261) (hnt : 0 ≤ (F 13).toInt ∧ (F 13).toInt ≤ (gn : Int)) (s0 : Nat) : Met l yX6_setNote vX6_setNote { frames := 2, cells := 0, slots := 0, locals := 81 } (va_Pc [.ref (a 6), .int (oI x), .int (oI y)] (cPre dC dI cB cC cI cJ cZ a F X J R gf gn s0)) (va_Qv (fun (u : (Nat → Int32) × (Nat → Nat → Int32)) => match u with | (F1, X1) => True) (fun u => cPost dC dI cB cC cI cJ cZ a F (rg 17 18 X u.2) J R gf gn (va_A (CW cB cC cI cJ cZ a F X J R gf gn) s0)) (va_A (CW cB cC cI cJ cZ a F X J R gf gn) s0)) 0 0 (va_A (CW cB cC cI cJ cZ a F X J R gf gn) s0) := by
  refine Met.ofW (cc := cX6_setNote) (maxL := 3) (ret := none) (by decide) rfl ?_
  intro p e s m args below meth c s₁ B9 hml hv
  obtain ⟨rfl, hsz0, hP, hK, hD0, hNW⟩ := hv
  have hx := B9.exec
  have hb := B9.bytes
  have hr := B9.returns
  have hts := atoms_spec (ws := vX6_setNote) B9.pre
  have hown : s.vm.findClass RX6 = some m.cls := findClass_of_methodNamed B9.named
  have hlocks := B9.notSynchronized
  clear B9
  subst hsz0
  have hD := hD0.self (sz := s.heap.size)
  generalize hAe : va_A (CW cB cC cI cJ cZ a F X J R gf gn) s.heap.size = A at hD ⊢
  have hA : ∀ q : Nat, s.heap.size ≤ q → A q := fun q h => by rw [← hAe]; exact Or.inr h
  have hS : va_S A s.heap s.heap [] := va_S.rf
  have hcs : 0 + 0 ≤ (0 : Nat) ∧ 0 + 0 ≤ (0 : Nat) := ⟨Nat.le_refl 0, Nat.le_refl 0⟩
  have hl := lv_entry ([.ref (a 6), .int (oI x), .int (oI y)]) (n := 3) (Nat.le_of_ble_eq_true rfl)
  rw [lg_entry_eq]
  generalize (lg_sl ([.ref (a 6), .int (oI x), .int (oI y)]) ++ List.replicate (3 - (lg_sl ([.ref (a 6), .int (oI x), .int (oI y)])).length) Slot.unset).toArray = ls at hl ⊢
  have hl : lv_has ls 3 [(0, .ref (a 6)), (1, .int (oI x)), (2, .int (oI y))] := hl
  refine lv_aload_n hx hb dX6_setNote_0 rfl (lv_at hl 0 rfl) ?_
  refine lv_iload_n hx hb dX6_setNote_1 rfl (lv_at hl 1 rfl) ?_
  refine ccs_iV (As := [.int (oI x)]) (rest := []) ⟨hx, hb, hml, hown, hts⟩ (c_has l dC dI cB cC cI cJ cZ a F X J R gf gn x  (by omega)   s.heap.size) (cwV 1 hts kX6_setNote_X6_has_106 rfl rfl rfl (by decide +kernel) ⟨Nat.le_of_ble_eq_true rfl, Nat.le_of_ble_eq_true rfl⟩) (va_recv hK hP (ci := 6) (q0 := 6) rfl rfl) hK hNW hP hD hS hA rfl rfl hl.1 (lv_room (Nat.le_of_ble_eq_true rfl)) dX6_setNote_2 hcs (fun r_1 hw_2 H locs hP hD hS => ?_)
  have hw_2 : ((r_1).toInt = 1 ∧ 0 ≤ x ∧ x < (F 13).toInt) ∨ ((r_1).toInt = 0 ∧ ¬ (0 ≤ x ∧ x < (F 13).toInt)) := hw_2
  have hha := hw_2
  have i_3 := i32r r_1
  refine cz_eq (tgt := 25) hx hb (i32r _) dX6_setNote_5 (by decide) (fun c_4 => ?_) (fun c_4 => ?_)
  · have eX9 : rg 17 18 X X = X := by funext k; simp only [rg, va_up]; (repeat' split) <;> first | with_reducible rfl | omega
    have hP9 : va_P (dC, dI) vwCl (CW cB cC cI cJ cZ a F (rg 17 18 X X) J R gf gn) H := by rw [eX9]; exact hP
    have hD9 : va_D A (CW cB cC cI cJ cZ a F (rg 17 18 X X) J R gf gn) := by rw [eX9]; exact hD
    have hpost : True := trivial
    exact W.vret hx hb hr (fun t ht hW => ⟨⟨(F, X), rfl, hpost, by rw [ht]; exact hP9, va_K.moved hW.alike hK, hD9⟩, hS.F ht⟩) hS.2.2 dX6_setNote_25
  · refine lv_aload_n hx hb dX6_setNote_8 rfl (lv_at hl 0 rfl) ?_
    refine cg_6_9 hx hb hts inX6_setNote_X6 hown hK hP (hts _ lkX6_setNote_f41) dX6_setNote_9 ?_
    refine lv_iload_n hx hb dX6_setNote_12 rfl (lv_at hl 1 rfl) ?_
    refine lv_aload_n hx hb dX6_setNote_13 rfl (lv_at hl 0 rfl) ?_
    refine cg_6_12 hx hb hts inX6_setNote_X6 hown hK hP (hts _ lkX6_setNote_f50) dX6_setNote_14 ?_
    have i_5 := i32r (F 14)
    refine cs_17 hx hb hK hP hD hS hgn (by omega) dX6_setNote_17 (fun H locs hP hD hS => ?_)
    have hP : va_P (dC, dI) vwCl (CW cB cC cI cJ cZ a F (va_up X 17 (upd (X 17) (x).toNat (oI ((F 14).toInt)))) J R gf gn) H := hP
    have hD : va_D A (CW cB cC cI cJ cZ a F (va_up X 17 (upd (X 17) (x).toNat (oI ((F 14).toInt)))) J R gf gn) := hD
    refine lv_aload_n hx hb dX6_setNote_18 rfl (lv_at hl 0 rfl) ?_
    refine cg_6_10 hx hb hts inX6_setNote_X6 hown hK hP (hts _ lkX6_setNote_f44) dX6_setNote_19 ?_
    refine lv_iload_n hx hb dX6_setNote_22 rfl (lv_at hl 1 rfl) ?_
    refine lv_iload_n hx hb dX6_setNote_23 rfl (lv_at hl 2 rfl) ?_
    refine cs_18 hx hb hK hP hD hS hgn (by omega) dX6_setNote_24 (fun H locs hP hD hS => ?_)
    have hP : va_P (dC, dI) vwCl (CW cB cC cI cJ cZ a F (va_up (va_up X 17 (upd (X 17) (x).toNat (oI ((F 14).toInt)))) 18 (upd (X 18) (x).toNat (oI y))) J R gf gn) H := hP
    have hD : va_D A (CW cB cC cI cJ cZ a F (va_up (va_up X 17 (upd (X 17) (x).toNat (oI ((F 14).toInt)))) 18 (upd (X 18) (x).toNat (oI y))) J R gf gn) := hD
    have eX9 : rg 17 18 X (va_up (va_up X 17 (upd (X 17) (x).toNat (oI ((F 14).toInt)))) 18 (upd (X 18) (x).toNat (oI y))) = va_up (va_up X 17 (upd (X 17) (x).toNat (oI ((F 14).toInt)))) 18 (upd (X 18) (x).toNat (oI y)) := by funext k; simp only [rg, va_up]; (repeat' split) <;> first | with_reducible rfl | omega
    have hP9 : va_P (dC, dI) vwCl (CW cB cC cI cJ cZ a F (rg 17 18 X (va_up (va_up X 17 (upd (X 17) (x).toNat (oI ((F 14).toInt)))) 18 (upd (X 18) (x).toNat (oI y)))) J R gf gn) H := by rw [eX9]; exact hP
    have hD9 : va_D A (CW cB cC cI cJ cZ a F (rg 17 18 X (va_up (va_up X 17 (upd (X 17) (x).toNat (oI ((F 14).toInt)))) 18 (upd (X 18) (x).toNat (oI y)))) J R gf gn) := by rw [eX9]; exact hD
    have hpost : True := trivial
    exact W.vret hx hb hr (fun t ht hW => ⟨⟨(F, va_up (va_up X 17 (upd (X 17) (x).toNat (oI ((F 14).toInt)))) 18 (upd (X 18) (x).toNat (oI y))), rfl, hpost, by rw [ht]; exact hP9, va_K.moved hW.alike hK, hD9⟩, hS.F ht⟩) hS.2.2 dX6_setNote_25

set_option maxHeartbeats 4000000 in
set_option maxRecDepth 100000 in
/-- X6_canBeBound -/
theorem c_canBeBound (l : Launch) (dC : Nat → ClassId) (dI : Nat → Nat → Nat) (cB cC cI cJ cZ : ClassId) (a : Nat → Nat) (F : Nat → Int32) (X : Nat → Nat → Int32) (J : Nat → Nat → Int64) (R : Nat → Nat) (gf gn : Nat) (x : Int)  (ix : (-2147483648 ≤ x ∧ x < 2147483648)) (s0 : Nat) : Met l yX6_canBeBound vX6_canBeBound { frames := 1, cells := 0, slots := 0, locals := 60 } (va_Pc [.int (oI x)] (cPre dC dI cB cC cI cJ cZ a F X J R gf gn s0)) (va_Qi (fun (r : Int32) (_ : Unit) => True) (fun _ => cPost dC dI cB cC cI cJ cZ a F X J R gf gn (va_A (CW cB cC cI cJ cZ a F X J R gf gn) s0)) (va_A (CW cB cC cI cJ cZ a F X J R gf gn) s0)) 0 0 (va_A (CW cB cC cI cJ cZ a F X J R gf gn) s0) := by
  refine Met.ofW (cc := cX6_canBeBound) (maxL := 1) (ret := (some .boolean)) (by decide) rfl ?_
  intro p e s m args below meth c s₁ B9 hml hv
  obtain ⟨rfl, hsz0, hP, hK, hD0, hNW⟩ := hv
  have hx := B9.exec
  have hb := B9.bytes
  have hr := B9.returns
  have hts := atoms_spec (ws := vX6_canBeBound) B9.pre
  have hown : s.vm.findClass RX6 = some m.cls := findClass_of_methodNamed B9.named
  have hlocks := B9.notSynchronized
  clear B9
  subst hsz0
  have hD := hD0.self (sz := s.heap.size)
  generalize hAe : va_A (CW cB cC cI cJ cZ a F X J R gf gn) s.heap.size = A at hD ⊢
  have hA : ∀ q : Nat, s.heap.size ≤ q → A q := fun q h => by rw [← hAe]; exact Or.inr h
  have hS : va_S A s.heap s.heap [] := va_S.rf
  have hcs : 0 + 0 ≤ (0 : Nat) ∧ 0 + 0 ≤ (0 : Nat) := ⟨Nat.le_refl 0, Nat.le_refl 0⟩
  have hl := lv_entry ([.int (oI x)]) (n := 1) (Nat.le_of_ble_eq_true rfl)
  rw [lg_entry_eq]
  generalize (lg_sl ([.int (oI x)]) ++ List.replicate (1 - (lg_sl ([.int (oI x)])).length) Slot.unset).toArray = ls at hl ⊢
  have hl : lv_has ls 1 [(0, .int (oI x))] := hl
  refine lv_iload_n hx hb dX6_canBeBound_0 rfl (lv_at hl 0 rfl) ?_
  refine lv_iconst (v := oI (-1)) hx hb dX6_canBeBound_1 (by decide) ?_
  refine ci_eq (tgt := 21) hx hb (by omega) (by decide) dX6_canBeBound_2 (by decide) (fun c_1 => ?_) (fun c_1 => ?_)
  · refine lv_iconst (v := oI 0) hx hb dX6_canBeBound_21 (by decide) ?_
    have hpost : True := trivial
    exact W.zret (v := (oI 0)) hx hb hr (by first | rfl | decide | exact zb9 (by omega)) (fun t ht hW => ⟨⟨(oI 0), (), rfl, hpost, by rw [ht]; exact hP, va_K.moved hW.alike hK, hD⟩, hS.F ht⟩) hS.2.2 dX6_canBeBound_22
  · refine lv_iload_n hx hb dX6_canBeBound_5 rfl (lv_at hl 0 rfl) ?_
    refine lv_bipush (v := oI 7) hx hb dX6_canBeBound_6 (by decide) ?_
    refine ci_eq (tgt := 21) hx hb (by omega) (by decide) dX6_canBeBound_8 (by decide) (fun c_2 => ?_) (fun c_2 => ?_)
    · refine lv_iconst (v := oI 0) hx hb dX6_canBeBound_21 (by decide) ?_
      have hpost : True := trivial
      exact W.zret (v := (oI 0)) hx hb hr (by first | rfl | decide | exact zb9 (by omega)) (fun t ht hW => ⟨⟨(oI 0), (), rfl, hpost, by rw [ht]; exact hP, va_K.moved hW.alike hK, hD⟩, hS.F ht⟩) hS.2.2 dX6_canBeBound_22
    · refine lv_iload_n hx hb dX6_canBeBound_11 rfl (lv_at hl 0 rfl) ?_
      refine lv_bipush (v := oI 8) hx hb dX6_canBeBound_12 (by decide) ?_
      refine ci_eq (tgt := 21) hx hb (by omega) (by decide) dX6_canBeBound_14 (by decide) (fun c_3 => ?_) (fun c_3 => ?_)
      · refine lv_iconst (v := oI 0) hx hb dX6_canBeBound_21 (by decide) ?_
        have hpost : True := trivial
        exact W.zret (v := (oI 0)) hx hb hr (by first | rfl | decide | exact zb9 (by omega)) (fun t ht hW => ⟨⟨(oI 0), (), rfl, hpost, by rw [ht]; exact hP, va_K.moved hW.alike hK, hD⟩, hS.F ht⟩) hS.2.2 dX6_canBeBound_22
      · refine lv_iconst (v := oI 1) hx hb dX6_canBeBound_17 (by decide) ?_
        refine lv_goto (tgt := 22) hx hb dX6_canBeBound_18 (by decide) ?_
        have hpost : True := trivial
        exact W.zret (v := (oI 1)) hx hb hr (by first | rfl | decide | exact zb9 (by omega)) (fun t ht hW => ⟨⟨(oI 1), (), rfl, hpost, by rw [ht]; exact hP, va_K.moved hW.alike hK, hD⟩, hS.F ht⟩) hS.2.2 dX6_canBeBound_22

set_option maxHeartbeats 4000000 in
set_option maxRecDepth 100000 in
/-- X6_take -/
theorem c_takeN (l : Launch) (dC : Nat → ClassId) (dI : Nat → Nat → Nat) (cB cC cI cJ cZ : ClassId) (a : Nat → Nat) (F : Nat → Int32) (X : Nat → Nat → Int32) (J : Nat → Nat → Int64) (R : Nat → Nat) (gf gn : Nat) (x : Int)  (ix : (-2147483648 ≤ x ∧ x < 2147483648)) (hsy : 0 ≤ (F 15).toInt ∧ (F 15).toInt ≤ 2560) (hsb : 0 ≤ (F 16).toInt ∧ (F 16).toInt ≤ 2560) (s0 : Nat) : Met l yX6_take vX6_take { frames := 1, cells := 0, slots := 0, locals := 60 } (va_Pc [.ref (a 6), .int (oI x)] (cPre dC dI cB cC cI cJ cZ a F X J R gf gn s0)) (va_Qv (fun (u : (Nat → Int32) × (Nat → Nat → Int32)) => match u with | (F1, X1) => 0 ≤ (F1 15).toInt ∧ (F1 15).toInt ≤ 2560) (fun u => cPost dC dI cB cC cI cJ cZ a (rg 15 15 F u.1) X J R gf gn (va_A (CW cB cC cI cJ cZ a F X J R gf gn) s0)) (va_A (CW cB cC cI cJ cZ a F X J R gf gn) s0)) 0 0 (va_A (CW cB cC cI cJ cZ a F X J R gf gn) s0) := by
  refine Met.ofW (cc := cX6_take) (maxL := 2) (ret := none) (by decide) rfl ?_
  intro p e s m args below meth c s₁ B9 hml hv
  obtain ⟨rfl, hsz0, hP, hK, hD0, hNW⟩ := hv
  have hx := B9.exec
  have hb := B9.bytes
  have hr := B9.returns
  have hts := atoms_spec (ws := vX6_take) B9.pre
  have hown : s.vm.findClass RX6 = some m.cls := findClass_of_methodNamed B9.named
  have hlocks := B9.notSynchronized
  clear B9
  subst hsz0
  have hD := hD0.self (sz := s.heap.size)
  generalize hAe : va_A (CW cB cC cI cJ cZ a F X J R gf gn) s.heap.size = A at hD ⊢
  have hA : ∀ q : Nat, s.heap.size ≤ q → A q := fun q h => by rw [← hAe]; exact Or.inr h
  have hS : va_S A s.heap s.heap [] := va_S.rf
  have hcs : 0 + 0 ≤ (0 : Nat) ∧ 0 + 0 ≤ (0 : Nat) := ⟨Nat.le_refl 0, Nat.le_refl 0⟩
  have hl := lv_entry ([.ref (a 6), .int (oI x)]) (n := 2) (Nat.le_of_ble_eq_true rfl)
  rw [lg_entry_eq]
  generalize (lg_sl ([.ref (a 6), .int (oI x)]) ++ List.replicate (2 - (lg_sl ([.ref (a 6), .int (oI x)])).length) Slot.unset).toArray = ls at hl ⊢
  have hl : lv_has ls 2 [(0, .ref (a 6)), (1, .int (oI x))] := hl
  refine lv_iload_n hx hb dX6_take_0 rfl (lv_at hl 1 rfl) ?_
  refine cz_ne (tgt := 12) hx hb (by omega) dX6_take_1 (by decide) (fun c_1 => ?_) (fun c_1 => ?_)
  · have eF9 : rg 15 15 F F = F := by funext k; simp only [rg, va_up]; (repeat' split) <;> first | with_reducible rfl | omega
    have hP9 : va_P (dC, dI) vwCl (CW cB cC cI cJ cZ a (rg 15 15 F F) X J R gf gn) s.heap := by rw [eF9]; exact hP
    have hD9 : va_D A (CW cB cC cI cJ cZ a (rg 15 15 F F) X J R gf gn) := by rw [eF9]; exact hD
    have hpost : 0 ≤ (F 15).toInt ∧ (F 15).toInt ≤ 2560 := by first | assumption | omega | (with_reducible rfl) | ((repeat' apply And.intro) <;> first | assumption | omega | (with_reducible rfl))
    exact W.vret hx hb hr (fun t ht hW => ⟨⟨(F, X), rfl, hpost, by rw [ht]; exact hP9, va_K.moved hW.alike hK, hD9⟩, hS.F ht⟩) hS.2.2 dX6_take_12
  · refine lv_aload_n hx hb dX6_take_4 rfl (lv_at hl 0 rfl) ?_
    refine lv_aload_n hx hb dX6_take_5 rfl (lv_at hl 0 rfl) ?_
    refine cg_6_5 hx hb hts inX6_take_X6 hown hK hP (hts _ lkX6_take_f29) dX6_take_6 ?_
    have i_2 := i32r (F 16)
    refine cp_6_4 hx hb hts inX6_take_X6 hown hK hP hD hS (hts _ lkX6_take_f25) dX6_take_9 (fun H locs hP hD hS => ?_)
    have hP : va_P (dC, dI) vwCl (CW cB cC cI cJ cZ a (va_up F 15 (oI ((F 16).toInt))) X J R gf gn) H := hP
    have hD : va_D A (CW cB cC cI cJ cZ a (va_up F 15 (oI ((F 16).toInt))) X J R gf gn) := hD
    have e_3 : (oI ((F 16).toInt)).toInt = (F 16).toInt := congrArg Int32.toInt (oI_toInt _)
    have eF9 : rg 15 15 F (va_up F 15 (oI ((F 16).toInt))) = va_up F 15 (oI ((F 16).toInt)) := by funext k; simp only [rg, va_up]; (repeat' split) <;> first | with_reducible rfl | omega
    have hP9 : va_P (dC, dI) vwCl (CW cB cC cI cJ cZ a (rg 15 15 F (va_up F 15 (oI ((F 16).toInt)))) X J R gf gn) H := by rw [eF9]; exact hP
    have hD9 : va_D A (CW cB cC cI cJ cZ a (rg 15 15 F (va_up F 15 (oI ((F 16).toInt)))) X J R gf gn) := by rw [eF9]; exact hD
    have hpost : 0 ≤ (oI ((F 16).toInt)).toInt ∧ (oI ((F 16).toInt)).toInt ≤ 2560 := by first | assumption | omega | (with_reducible rfl) | ((repeat' apply And.intro) <;> first | assumption | omega | (with_reducible rfl))
    exact W.vret hx hb hr (fun t ht hW => ⟨⟨(va_up F 15 (oI ((F 16).toInt)), X), rfl, hpost, by rw [ht]; exact hP9, va_K.moved hW.alike hK, hD9⟩, hS.F ht⟩) hS.2.2 dX6_take_12
