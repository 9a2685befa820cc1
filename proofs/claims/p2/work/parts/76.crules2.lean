def oX8_patternFits : List Cond := [Cond.fieldLink RX8 15 "MacroScopes$RuleCheck" "forms" "LMacroScopes$Forms;", Cond.methodLink RX8 56 yX1_isList, Cond.instanceMethod yX1_isList, Cond.selects RX1 yX1_isList yX1_isList, Cond.initialized RX1, Cond.methodLink RX8 59 yX1_nameOf, Cond.instanceMethod yX1_nameOf, Cond.selects RX1 yX1_nameOf yX1_nameOf, Cond.fieldLink RX8 9 "MacroScopes$RuleCheck" "literals" "I", Cond.methodLink RX8 88 yX8_isLiteral, Cond.static yX8_isLiteral, Cond.initialized RX8, Cond.fieldLink RX8 19 "MacroScopes$RuleCheck" "names" "LMacroScopes$Names;", Cond.methodLink RX8 92 yX6_isNoted, Cond.instanceMethod yX6_isNoted, Cond.selects RX6 yX6_isNoted yX6_isNoted, Cond.initialized RX6, Cond.methodLink RX8 95 yX6_setNote, Cond.instanceMethod yX6_setNote, Cond.selects RX6 yX6_setNote yX6_setNote, Cond.methodLink RX8 49 yX1_after, Cond.instanceMethod yX1_after, Cond.selects RX1 yX1_after yX1_after, Cond.methodLink RX8 70 yX8_patternsFit, Cond.instanceMethod yX8_patternsFit, Cond.selects RX8 yX8_patternsFit yX8_patternsFit, Cond.methodLink RX8 85 yX1_holdsDots, Cond.instanceMethod yX1_holdsDots, Cond.selects RX1 yX1_holdsDots yX1_holdsDots]
def oX8_patternsFit : List Cond := [Cond.fieldLink RX8 15 "MacroScopes$RuleCheck" "forms" "LMacroScopes$Forms;", Cond.methodLink RX8 59 yX1_nameOf, Cond.instanceMethod yX1_nameOf, Cond.selects RX1 yX1_nameOf yX1_nameOf, Cond.initialized RX1, Cond.methodLink RX8 78 yX1_isRepeated, Cond.instanceMethod yX1_isRepeated, Cond.selects RX1 yX1_isRepeated yX1_isRepeated, Cond.methodLink RX8 81 yX8_patternFits, Cond.instanceMethod yX8_patternFits, Cond.selects RX8 yX8_patternFits yX8_patternFits, Cond.initialized RX8, Cond.methodLink RX8 49 yX1_after, Cond.instanceMethod yX1_after, Cond.selects RX1 yX1_after yX1_after]
def qgPF : List Cond := [.code yX8_patternFits cX8_patternFits 6 (some .boolean), .code yX8_patternsFit cX8_patternsFit 6 (some .boolean)]
def bgPF : List Cond := qgPF ++ (oX8_patternFits ++ (oX8_patternsFit ++ (vX1_isList ++ (vX1_nameOf ++ (vX8_isLiteral ++ (vX6_isNoted ++ (vX6_setNote ++ (vX1_after ++ (vX1_holdsDots ++ (vX1_isRepeated ++ (wsX80)))))))))))
def vX8_patternFits : List Cond := .code yX8_patternFits cX8_patternFits 6 (some .boolean) :: bgPF
def vX8_patternsFit : List Cond := .code yX8_patternsFit cX8_patternsFit 6 (some .boolean) :: bgPF
theorem lkX8_patternFits_f15 : Cond.fieldLink RX8 15 "MacroScopes$RuleCheck" "forms" "LMacroScopes$Forms;" ∈ vX8_patternFits := List.mem_cons_of_mem _ (List.mem_append_right _ (List.mem_append_left _ (List.mem_of_getElem? (i := 0) rfl)))
theorem lkX8_patternFits_f9 : Cond.fieldLink RX8 9 "MacroScopes$RuleCheck" "literals" "I" ∈ vX8_patternFits := List.mem_cons_of_mem _ (List.mem_append_right _ (List.mem_append_left _ (List.mem_of_getElem? (i := 8) rfl)))
theorem lkX8_patternFits_f19 : Cond.fieldLink RX8 19 "MacroScopes$RuleCheck" "names" "LMacroScopes$Names;" ∈ vX8_patternFits := List.mem_cons_of_mem _ (List.mem_append_right _ (List.mem_append_left _ (List.mem_of_getElem? (i := 12) rfl)))
theorem inX8_patternFits_X8 : ∀ w ∈ wsX80, w ∈ vX8_patternFits := fun w h => List.mem_cons_of_mem _ (List.mem_append_right _ (List.mem_append_right _ (List.mem_append_right _ (List.mem_append_right _ (List.mem_append_right _ (List.mem_append_right _ (List.mem_append_right _ (List.mem_append_right _ (List.mem_append_right _ (List.mem_append_right _ (List.mem_append_right _ (h))))))))))))
theorem kX8_patternFits_X1_isList_56 : GoodIn vX8_patternFits (wsV RX8 56 RX1 yX1_isList vX1_isList) := goodIn_sub (fun w h => (List.mem_append.mp h).elim (fun h => List.mem_cons_of_mem _ (List.mem_append_right _ (List.mem_append_left _ ((by decide +kernel : ∀ w ∈ ([.methodLink RX8 56 yX1_isList, .instanceMethod yX1_isList, .selects RX1 yX1_isList yX1_isList, .initialized RX1] : List Cond), w ∈ oX8_patternFits) w h)))) (fun h => List.mem_cons_of_mem _ (List.mem_append_right _ (List.mem_append_right _ (List.mem_append_right _ (List.mem_append_left _ (h))))))) (by decide +kernel)
theorem kX8_patternFits_X1_nameOf_59 : GoodIn vX8_patternFits (wsV RX8 59 RX1 yX1_nameOf vX1_nameOf) := goodIn_sub (fun w h => (List.mem_append.mp h).elim (fun h => List.mem_cons_of_mem _ (List.mem_append_right _ (List.mem_append_left _ ((by decide +kernel : ∀ w ∈ ([.methodLink RX8 59 yX1_nameOf, .instanceMethod yX1_nameOf, .selects RX1 yX1_nameOf yX1_nameOf, .initialized RX1] : List Cond), w ∈ oX8_patternFits) w h)))) (fun h => List.mem_cons_of_mem _ (List.mem_append_right _ (List.mem_append_right _ (List.mem_append_right _ (List.mem_append_right _ (List.mem_append_left _ (h)))))))) (by decide +kernel)
theorem kX8_patternFits_X8_isLiteral_88 : GoodIn vX8_patternFits (va_wsS RX8 88 yX8_isLiteral vX8_isLiteral) := goodIn_sub (fun w h => (List.mem_append.mp h).elim (fun h => List.mem_cons_of_mem _ (List.mem_append_right _ (List.mem_append_left _ ((by decide +kernel : ∀ w ∈ ([.methodLink RX8 88 yX8_isLiteral, .static yX8_isLiteral, .initialized yX8_isLiteral.cls] : List Cond), w ∈ oX8_patternFits) w h)))) (fun h => List.mem_cons_of_mem _ (List.mem_append_right _ (List.mem_append_right _ (List.mem_append_right _ (List.mem_append_right _ (List.mem_append_right _ (List.mem_append_left _ (h))))))))) (by decide +kernel)
theorem kX8_patternFits_X6_isNoted_92 : GoodIn vX8_patternFits (wsV RX8 92 RX6 yX6_isNoted vX6_isNoted) := goodIn_sub (fun w h => (List.mem_append.mp h).elim (fun h => List.mem_cons_of_mem _ (List.mem_append_right _ (List.mem_append_left _ ((by decide +kernel : ∀ w ∈ ([.methodLink RX8 92 yX6_isNoted, .instanceMethod yX6_isNoted, .selects RX6 yX6_isNoted yX6_isNoted, .initialized RX6] : List Cond), w ∈ oX8_patternFits) w h)))) (fun h => List.mem_cons_of_mem _ (List.mem_append_right _ (List.mem_append_right _ (List.mem_append_right _ (List.mem_append_right _ (List.mem_append_right _ (List.mem_append_right _ (List.mem_append_left _ (h)))))))))) (by decide +kernel)
theorem kX8_patternFits_X6_setNote_95 : GoodIn vX8_patternFits (wsV RX8 95 RX6 yX6_setNote vX6_setNote) := goodIn_sub (fun w h => (List.mem_append.mp h).elim (fun h => List.mem_cons_of_mem _ (List.mem_append_right _ (List.mem_append_left _ ((by decide +kernel : ∀ w ∈ ([.methodLink RX8 95 yX6_setNote, .instanceMethod yX6_setNote, .selects RX6 yX6_setNote yX6_setNote, .initialized RX6] : List Cond), w ∈ oX8_patternFits) w h)))) (fun h => List.mem_cons_of_mem _ (List.mem_append_right _ (List.mem_append_right _ (List.mem_append_right _ (List.mem_append_right _ (List.mem_append_right _ (List.mem_append_right _ (List.mem_append_right _ (List.mem_append_left _ (h))))))))))) (by decide +kernel)
theorem kX8_patternFits_X1_after_49 : GoodIn vX8_patternFits (wsV RX8 49 RX1 yX1_after vX1_after) := goodIn_sub (fun w h => (List.mem_append.mp h).elim (fun h => List.mem_cons_of_mem _ (List.mem_append_right _ (List.mem_append_left _ ((by decide +kernel : ∀ w ∈ ([.methodLink RX8 49 yX1_after, .instanceMethod yX1_after, .selects RX1 yX1_after yX1_after, .initialized RX1] : List Cond), w ∈ oX8_patternFits) w h)))) (fun h => List.mem_cons_of_mem _ (List.mem_append_right _ (List.mem_append_right _ (List.mem_append_right _ (List.mem_append_right _ (List.mem_append_right _ (List.mem_append_right _ (List.mem_append_right _ (List.mem_append_right _ (List.mem_append_left _ (h)))))))))))) (by decide +kernel)
theorem kX8_patternFits_X8_patternsFit_70 : GoodIn vX8_patternFits (wsV RX8 70 RX8 yX8_patternsFit vX8_patternsFit) := goodIn_sub (fun w h => (List.mem_append.mp h).elim (fun h => List.mem_cons_of_mem _ (List.mem_append_right _ (List.mem_append_left _ ((by decide +kernel : ∀ w ∈ ([.methodLink RX8 70 yX8_patternsFit, .instanceMethod yX8_patternsFit, .selects RX8 yX8_patternsFit yX8_patternsFit, .initialized RX8] : List Cond), w ∈ oX8_patternFits) w h)))) (fun h => (List.mem_cons.mp h).elim (fun h => h ▸ List.mem_cons_of_mem _ (List.mem_append_left _ (List.mem_of_getElem? (i := 1) rfl))) (fun h => List.mem_cons_of_mem _ h))) (by decide +kernel)
theorem kX8_patternFits_X1_holdsDots_85 : GoodIn vX8_patternFits (wsV RX8 85 RX1 yX1_holdsDots vX1_holdsDots) := goodIn_sub (fun w h => (List.mem_append.mp h).elim (fun h => List.mem_cons_of_mem _ (List.mem_append_right _ (List.mem_append_left _ ((by decide +kernel : ∀ w ∈ ([.methodLink RX8 85 yX1_holdsDots, .instanceMethod yX1_holdsDots, .selects RX1 yX1_holdsDots yX1_holdsDots, .initialized RX1] : List Cond), w ∈ oX8_patternFits) w h)))) (fun h => List.mem_cons_of_mem _ (List.mem_append_right _ (List.mem_append_right _ (List.mem_append_right _ (List.mem_append_right _ (List.mem_append_right _ (List.mem_append_right _ (List.mem_append_right _ (List.mem_append_right _ (List.mem_append_right _ (List.mem_append_left _ (h))))))))))))) (by decide +kernel)
theorem lkX8_patternsFit_f15 : Cond.fieldLink RX8 15 "MacroScopes$RuleCheck" "forms" "LMacroScopes$Forms;" ∈ vX8_patternsFit := List.mem_cons_of_mem _ (List.mem_append_right _ (List.mem_append_right _ (List.mem_append_left _ (List.mem_of_getElem? (i := 0) rfl))))
theorem inX8_patternsFit_X8 : ∀ w ∈ wsX80, w ∈ vX8_patternsFit := fun w h => List.mem_cons_of_mem _ (List.mem_append_right _ (List.mem_append_right _ (List.mem_append_right _ (List.mem_append_right _ (List.mem_append_right _ (List.mem_append_right _ (List.mem_append_right _ (List.mem_append_right _ (List.mem_append_right _ (List.mem_append_right _ (List.mem_append_right _ (h))))))))))))
theorem kX8_patternsFit_X1_nameOf_59 : GoodIn vX8_patternsFit (wsV RX8 59 RX1 yX1_nameOf vX1_nameOf) := goodIn_sub (fun w h => (List.mem_append.mp h).elim (fun h => List.mem_cons_of_mem _ (List.mem_append_right _ (List.mem_append_right _ (List.mem_append_left _ ((by decide +kernel : ∀ w ∈ ([.methodLink RX8 59 yX1_nameOf, .instanceMethod yX1_nameOf, .selects RX1 yX1_nameOf yX1_nameOf, .initialized RX1] : List Cond), w ∈ oX8_patternsFit) w h))))) (fun h => List.mem_cons_of_mem _ (List.mem_append_right _ (List.mem_append_right _ (List.mem_append_right _ (List.mem_append_right _ (List.mem_append_left _ (h)))))))) (by decide +kernel)
theorem kX8_patternsFit_X1_isRepeated_78 : GoodIn vX8_patternsFit (wsV RX8 78 RX1 yX1_isRepeated vX1_isRepeated) := goodIn_sub (fun w h => (List.mem_append.mp h).elim (fun h => List.mem_cons_of_mem _ (List.mem_append_right _ (List.mem_append_right _ (List.mem_append_left _ ((by decide +kernel : ∀ w ∈ ([.methodLink RX8 78 yX1_isRepeated, .instanceMethod yX1_isRepeated, .selects RX1 yX1_isRepeated yX1_isRepeated, .initialized RX1] : List Cond), w ∈ oX8_patternsFit) w h))))) (fun h => List.mem_cons_of_mem _ (List.mem_append_right _ (List.mem_append_right _ (List.mem_append_right _ (List.mem_append_right _ (List.mem_append_right _ (List.mem_append_right _ (List.mem_append_right _ (List.mem_append_right _ (List.mem_append_right _ (List.mem_append_right _ (List.mem_append_left _ (h)))))))))))))) (by decide +kernel)
theorem kX8_patternsFit_X8_patternFits_81 : GoodIn vX8_patternsFit (wsV RX8 81 RX8 yX8_patternFits vX8_patternFits) := goodIn_sub (fun w h => (List.mem_append.mp h).elim (fun h => List.mem_cons_of_mem _ (List.mem_append_right _ (List.mem_append_right _ (List.mem_append_left _ ((by decide +kernel : ∀ w ∈ ([.methodLink RX8 81 yX8_patternFits, .instanceMethod yX8_patternFits, .selects RX8 yX8_patternFits yX8_patternFits, .initialized RX8] : List Cond), w ∈ oX8_patternsFit) w h))))) (fun h => (List.mem_cons.mp h).elim (fun h => h ▸ List.mem_cons_of_mem _ (List.mem_append_left _ (List.mem_of_getElem? (i := 0) rfl))) (fun h => List.mem_cons_of_mem _ h))) (by decide +kernel)
theorem kX8_patternsFit_X1_after_49 : GoodIn vX8_patternsFit (wsV RX8 49 RX1 yX1_after vX1_after) := goodIn_sub (fun w h => (List.mem_append.mp h).elim (fun h => List.mem_cons_of_mem _ (List.mem_append_right _ (List.mem_append_right _ (List.mem_append_left _ ((by decide +kernel : ∀ w ∈ ([.methodLink RX8 49 yX1_after, .instanceMethod yX1_after, .selects RX1 yX1_after yX1_after, .initialized RX1] : List Cond), w ∈ oX8_patternsFit) w h))))) (fun h => List.mem_cons_of_mem _ (List.mem_append_right _ (List.mem_append_right _ (List.mem_append_right _ (List.mem_append_right _ (List.mem_append_right _ (List.mem_append_right _ (List.mem_append_right _ (List.mem_append_right _ (List.mem_append_left _ (h)))))))))))) (by decide +kernel)
def oX8_templateFits : List Cond := [Cond.fieldLink RX8 15 "MacroScopes$RuleCheck" "forms" "LMacroScopes$Forms;", Cond.methodLink RX8 78 yX1_isRepeated, Cond.instanceMethod yX1_isRepeated, Cond.selects RX1 yX1_isRepeated yX1_isRepeated, Cond.initialized RX1, Cond.methodLink RX8 74 yX8_templateFits, Cond.instanceMethod yX8_templateFits, Cond.selects RX8 yX8_templateFits yX8_templateFits, Cond.initialized RX8, Cond.methodLink RX8 49 yX1_after, Cond.instanceMethod yX1_after, Cond.selects RX1 yX1_after yX1_after, Cond.methodLink RX8 85 yX1_holdsDots, Cond.instanceMethod yX1_holdsDots, Cond.selects RX1 yX1_holdsDots yX1_holdsDots, Cond.methodLink RX8 99 yX8_holdsRepeated, Cond.instanceMethod yX8_holdsRepeated, Cond.selects RX8 yX8_holdsRepeated yX8_holdsRepeated, Cond.methodLink RX8 56 yX1_isList, Cond.instanceMethod yX1_isList, Cond.selects RX1 yX1_isList yX1_isList, Cond.methodLink RX8 59 yX1_nameOf, Cond.instanceMethod yX1_nameOf, Cond.selects RX1 yX1_nameOf yX1_nameOf]
def vX8_templateFits : List Cond := .code yX8_templateFits cX8_templateFits 7 (some .boolean) :: (oX8_templateFits ++ (vX1_isRepeated ++ (vX1_after ++ (vX1_holdsDots ++ (vX8_holdsRepeated ++ (vX1_isList ++ (vX1_nameOf ++ (wsX80))))))))
theorem lkX8_templateFits_f15 : Cond.fieldLink RX8 15 "MacroScopes$RuleCheck" "forms" "LMacroScopes$Forms;" ∈ vX8_templateFits := List.mem_cons_of_mem _ (List.mem_append_left _ (List.mem_of_getElem? (i := 0) rfl))
theorem inX8_templateFits_X8 : ∀ w ∈ wsX80, w ∈ vX8_templateFits := fun w h => List.mem_cons_of_mem _ (List.mem_append_right _ (List.mem_append_right _ (List.mem_append_right _ (List.mem_append_right _ (List.mem_append_right _ (List.mem_append_right _ (List.mem_append_right _ (h))))))))
theorem kX8_templateFits_X1_isRepeated_78 : GoodIn vX8_templateFits (wsV RX8 78 RX1 yX1_isRepeated vX1_isRepeated) := goodIn_sub (fun w h => (List.mem_append.mp h).elim (fun h => List.mem_cons_of_mem _ (List.mem_append_left _ ((by decide +kernel : ∀ w ∈ ([.methodLink RX8 78 yX1_isRepeated, .instanceMethod yX1_isRepeated, .selects RX1 yX1_isRepeated yX1_isRepeated, .initialized RX1] : List Cond), w ∈ oX8_templateFits) w h))) (fun h => List.mem_cons_of_mem _ (List.mem_append_right _ (List.mem_append_left _ (h))))) (by decide +kernel)
theorem kX8_templateFits_X8_templateFits_74 : GoodIn vX8_templateFits (wsV RX8 74 RX8 yX8_templateFits vX8_templateFits) := goodIn_sub (fun w h => (List.mem_append.mp h).elim (fun h => List.mem_cons_of_mem _ (List.mem_append_left _ ((by decide +kernel : ∀ w ∈ ([.methodLink RX8 74 yX8_templateFits, .instanceMethod yX8_templateFits, .selects RX8 yX8_templateFits yX8_templateFits, .initialized RX8] : List Cond), w ∈ oX8_templateFits) w h))) (fun h => h)) (by decide +kernel)
theorem kX8_templateFits_X1_after_49 : GoodIn vX8_templateFits (wsV RX8 49 RX1 yX1_after vX1_after) := goodIn_sub (fun w h => (List.mem_append.mp h).elim (fun h => List.mem_cons_of_mem _ (List.mem_append_left _ ((by decide +kernel : ∀ w ∈ ([.methodLink RX8 49 yX1_after, .instanceMethod yX1_after, .selects RX1 yX1_after yX1_after, .initialized RX1] : List Cond), w ∈ oX8_templateFits) w h))) (fun h => List.mem_cons_of_mem _ (List.mem_append_right _ (List.mem_append_right _ (List.mem_append_left _ (h)))))) (by decide +kernel)
theorem kX8_templateFits_X1_holdsDots_85 : GoodIn vX8_templateFits (wsV RX8 85 RX1 yX1_holdsDots vX1_holdsDots) := goodIn_sub (fun w h => (List.mem_append.mp h).elim (fun h => List.mem_cons_of_mem _ (List.mem_append_left _ ((by decide +kernel : ∀ w ∈ ([.methodLink RX8 85 yX1_holdsDots, .instanceMethod yX1_holdsDots, .selects RX1 yX1_holdsDots yX1_holdsDots, .initialized RX1] : List Cond), w ∈ oX8_templateFits) w h))) (fun h => List.mem_cons_of_mem _ (List.mem_append_right _ (List.mem_append_right _ (List.mem_append_right _ (List.mem_append_left _ (h))))))) (by decide +kernel)
theorem kX8_templateFits_X8_holdsRepeated_99 : GoodIn vX8_templateFits (wsV RX8 99 RX8 yX8_holdsRepeated vX8_holdsRepeated) := goodIn_sub (fun w h => (List.mem_append.mp h).elim (fun h => List.mem_cons_of_mem _ (List.mem_append_left _ ((by decide +kernel : ∀ w ∈ ([.methodLink RX8 99 yX8_holdsRepeated, .instanceMethod yX8_holdsRepeated, .selects RX8 yX8_holdsRepeated yX8_holdsRepeated, .initialized RX8] : List Cond), w ∈ oX8_templateFits) w h))) (fun h => List.mem_cons_of_mem _ (List.mem_append_right _ (List.mem_append_right _ (List.mem_append_right _ (List.mem_append_right _ (List.mem_append_left _ (h)))))))) (by decide +kernel)
theorem kX8_templateFits_X1_isList_56 : GoodIn vX8_templateFits (wsV RX8 56 RX1 yX1_isList vX1_isList) := goodIn_sub (fun w h => (List.mem_append.mp h).elim (fun h => List.mem_cons_of_mem _ (List.mem_append_left _ ((by decide +kernel : ∀ w ∈ ([.methodLink RX8 56 yX1_isList, .instanceMethod yX1_isList, .selects RX1 yX1_isList yX1_isList, .initialized RX1] : List Cond), w ∈ oX8_templateFits) w h))) (fun h => List.mem_cons_of_mem _ (List.mem_append_right _ (List.mem_append_right _ (List.mem_append_right _ (List.mem_append_right _ (List.mem_append_right _ (List.mem_append_left _ (h))))))))) (by decide +kernel)
theorem kX8_templateFits_X1_nameOf_59 : GoodIn vX8_templateFits (wsV RX8 59 RX1 yX1_nameOf vX1_nameOf) := goodIn_sub (fun w h => (List.mem_append.mp h).elim (fun h => List.mem_cons_of_mem _ (List.mem_append_left _ ((by decide +kernel : ∀ w ∈ ([.methodLink RX8 59 yX1_nameOf, .instanceMethod yX1_nameOf, .selects RX1 yX1_nameOf yX1_nameOf, .initialized RX1] : List Cond), w ∈ oX8_templateFits) w h))) (fun h => List.mem_cons_of_mem _ (List.mem_append_right _ (List.mem_append_right _ (List.mem_append_right _ (List.mem_append_right _ (List.mem_append_right _ (List.mem_append_right _ (List.mem_append_left _ (h)))))))))) (by decide +kernel)
def oX8_ruleFits : List Cond := [Cond.fieldLink RX8 15 "MacroScopes$RuleCheck" "forms" "LMacroScopes$Forms;", Cond.methodLink RX8 27 yX1_parts, Cond.instanceMethod yX1_parts, Cond.selects RX1 yX1_parts yX1_parts, Cond.initialized RX1, Cond.fieldLink RX8 19 "MacroScopes$RuleCheck" "names" "LMacroScopes$Names;", Cond.methodLink RX8 67 yX6_clearNotes, Cond.instanceMethod yX6_clearNotes, Cond.selects RX6 yX6_clearNotes yX6_clearNotes, Cond.initialized RX6, Cond.methodLink RX8 36 yX1_part, Cond.instanceMethod yX1_part, Cond.selects RX1 yX1_part yX1_part, Cond.methodLink RX8 49 yX1_after, Cond.instanceMethod yX1_after, Cond.selects RX1 yX1_after yX1_after, Cond.methodLink RX8 70 yX8_patternsFit, Cond.instanceMethod yX8_patternsFit, Cond.selects RX8 yX8_patternsFit yX8_patternsFit, Cond.initialized RX8, Cond.methodLink RX8 74 yX8_templateFits, Cond.instanceMethod yX8_templateFits, Cond.selects RX8 yX8_templateFits yX8_templateFits]
def vX8_ruleFits : List Cond := .code yX8_ruleFits cX8_ruleFits 3 (some .boolean) :: (oX8_ruleFits ++ (vX1_parts ++ (vX6_clearNotes ++ (vX1_part ++ (vX1_after ++ (vX8_patternsFit ++ (vX8_templateFits ++ (wsX80))))))))
theorem lkX8_ruleFits_f15 : Cond.fieldLink RX8 15 "MacroScopes$RuleCheck" "forms" "LMacroScopes$Forms;" ∈ vX8_ruleFits := List.mem_cons_of_mem _ (List.mem_append_left _ (List.mem_of_getElem? (i := 0) rfl))
theorem lkX8_ruleFits_f19 : Cond.fieldLink RX8 19 "MacroScopes$RuleCheck" "names" "LMacroScopes$Names;" ∈ vX8_ruleFits := List.mem_cons_of_mem _ (List.mem_append_left _ (List.mem_of_getElem? (i := 5) rfl))
theorem inX8_ruleFits_X8 : ∀ w ∈ wsX80, w ∈ vX8_ruleFits := fun w h => List.mem_cons_of_mem _ (List.mem_append_right _ (List.mem_append_right _ (List.mem_append_right _ (List.mem_append_right _ (List.mem_append_right _ (List.mem_append_right _ (List.mem_append_right _ (h))))))))
theorem kX8_ruleFits_X1_parts_27 : GoodIn vX8_ruleFits (wsV RX8 27 RX1 yX1_parts vX1_parts) := goodIn_sub (fun w h => (List.mem_append.mp h).elim (fun h => List.mem_cons_of_mem _ (List.mem_append_left _ ((by decide +kernel : ∀ w ∈ ([.methodLink RX8 27 yX1_parts, .instanceMethod yX1_parts, .selects RX1 yX1_parts yX1_parts, .initialized RX1] : List Cond), w ∈ oX8_ruleFits) w h))) (fun h => List.mem_cons_of_mem _ (List.mem_append_right _ (List.mem_append_left _ (h))))) (by decide +kernel)
theorem kX8_ruleFits_X6_clearNotes_67 : GoodIn vX8_ruleFits (wsV RX8 67 RX6 yX6_clearNotes vX6_clearNotes) := goodIn_sub (fun w h => (List.mem_append.mp h).elim (fun h => List.mem_cons_of_mem _ (List.mem_append_left _ ((by decide +kernel : ∀ w ∈ ([.methodLink RX8 67 yX6_clearNotes, .instanceMethod yX6_clearNotes, .selects RX6 yX6_clearNotes yX6_clearNotes, .initialized RX6] : List Cond), w ∈ oX8_ruleFits) w h))) (fun h => List.mem_cons_of_mem _ (List.mem_append_right _ (List.mem_append_right _ (List.mem_append_left _ (h)))))) (by decide +kernel)
theorem kX8_ruleFits_X1_part_36 : GoodIn vX8_ruleFits (wsV RX8 36 RX1 yX1_part vX1_part) := goodIn_sub (fun w h => (List.mem_append.mp h).elim (fun h => List.mem_cons_of_mem _ (List.mem_append_left _ ((by decide +kernel : ∀ w ∈ ([.methodLink RX8 36 yX1_part, .instanceMethod yX1_part, .selects RX1 yX1_part yX1_part, .initialized RX1] : List Cond), w ∈ oX8_ruleFits) w h))) (fun h => List.mem_cons_of_mem _ (List.mem_append_right _ (List.mem_append_right _ (List.mem_append_right _ (List.mem_append_left _ (h))))))) (by decide +kernel)
theorem kX8_ruleFits_X1_after_49 : GoodIn vX8_ruleFits (wsV RX8 49 RX1 yX1_after vX1_after) := goodIn_sub (fun w h => (List.mem_append.mp h).elim (fun h => List.mem_cons_of_mem _ (List.mem_append_left _ ((by decide +kernel : ∀ w ∈ ([.methodLink RX8 49 yX1_after, .instanceMethod yX1_after, .selects RX1 yX1_after yX1_after, .initialized RX1] : List Cond), w ∈ oX8_ruleFits) w h))) (fun h => List.mem_cons_of_mem _ (List.mem_append_right _ (List.mem_append_right _ (List.mem_append_right _ (List.mem_append_right _ (List.mem_append_left _ (h)))))))) (by decide +kernel)
theorem kX8_ruleFits_X8_patternsFit_70 : GoodIn vX8_ruleFits (wsV RX8 70 RX8 yX8_patternsFit vX8_patternsFit) := goodIn_sub (fun w h => (List.mem_append.mp h).elim (fun h => List.mem_cons_of_mem _ (List.mem_append_left _ ((by decide +kernel : ∀ w ∈ ([.methodLink RX8 70 yX8_patternsFit, .instanceMethod yX8_patternsFit, .selects RX8 yX8_patternsFit yX8_patternsFit, .initialized RX8] : List Cond), w ∈ oX8_ruleFits) w h))) (fun h => List.mem_cons_of_mem _ (List.mem_append_right _ (List.mem_append_right _ (List.mem_append_right _ (List.mem_append_right _ (List.mem_append_right _ (List.mem_append_left _ (h))))))))) (by decide +kernel)
theorem kX8_ruleFits_X8_templateFits_74 : GoodIn vX8_ruleFits (wsV RX8 74 RX8 yX8_templateFits vX8_templateFits) := goodIn_sub (fun w h => (List.mem_append.mp h).elim (fun h => List.mem_cons_of_mem _ (List.mem_append_left _ ((by decide +kernel : ∀ w ∈ ([.methodLink RX8 74 yX8_templateFits, .instanceMethod yX8_templateFits, .selects RX8 yX8_templateFits yX8_templateFits, .initialized RX8] : List Cond), w ∈ oX8_ruleFits) w h))) (fun h => List.mem_cons_of_mem _ (List.mem_append_right _ (List.mem_append_right _ (List.mem_append_right _ (List.mem_append_right _ (List.mem_append_right _ (List.mem_append_right _ (List.mem_append_left _ (h)))))))))) (by decide +kernel)
def oX8_fits : List Cond := [Cond.fieldLink RX8 15 "MacroScopes$RuleCheck" "forms" "LMacroScopes$Forms;", Cond.methodLink RX8 49 yX1_after, Cond.instanceMethod yX1_after, Cond.selects RX1 yX1_after yX1_after, Cond.initialized RX1, Cond.methodLink RX8 52 yX8_ruleFits, Cond.instanceMethod yX8_ruleFits, Cond.selects RX8 yX8_ruleFits yX8_ruleFits, Cond.initialized RX8, Cond.methodLink RX8 27 yX1_parts, Cond.instanceMethod yX1_parts, Cond.selects RX1 yX1_parts yX1_parts, Cond.methodLink RX8 33 yX1_head, Cond.instanceMethod yX1_head, Cond.selects RX1 yX1_head yX1_head, Cond.methodLink RX8 36 yX1_part, Cond.instanceMethod yX1_part, Cond.selects RX1 yX1_part yX1_part, Cond.fieldLink RX8 9 "MacroScopes$RuleCheck" "literals" "I", Cond.fieldLink RX8 23 "MacroScopes$RuleCheck" "scopes" "LMacroScopes$Scopes;", Cond.methodLink RX8 40 yX9_meaning, Cond.instanceMethod yX9_meaning, Cond.selects RX9 yX9_meaning yX9_meaning, Cond.initialized RX9, Cond.methodLink RX8 45 yX8_literalsFit, Cond.instanceMethod yX8_literalsFit, Cond.selects RX8 yX8_literalsFit yX8_literalsFit]
def vX8_fits : List Cond := .code yX8_fits cX8_fits 6 (some .boolean) :: (oX8_fits ++ (vX1_after ++ (vX8_ruleFits ++ (vX1_parts ++ (vX1_head ++ (vX1_part ++ (vX9_meaning ++ (vX8_literalsFit ++ (wsX80)))))))))
theorem lkX8_fits_f15 : Cond.fieldLink RX8 15 "MacroScopes$RuleCheck" "forms" "LMacroScopes$Forms;" ∈ vX8_fits := List.mem_cons_of_mem _ (List.mem_append_left _ (List.mem_of_getElem? (i := 0) rfl))
theorem lkX8_fits_f9 : Cond.fieldLink RX8 9 "MacroScopes$RuleCheck" "literals" "I" ∈ vX8_fits := List.mem_cons_of_mem _ (List.mem_append_left _ (List.mem_of_getElem? (i := 18) rfl))
theorem lkX8_fits_f23 : Cond.fieldLink RX8 23 "MacroScopes$RuleCheck" "scopes" "LMacroScopes$Scopes;" ∈ vX8_fits := List.mem_cons_of_mem _ (List.mem_append_left _ (List.mem_of_getElem? (i := 19) rfl))
theorem inX8_fits_X8 : ∀ w ∈ wsX80, w ∈ vX8_fits := fun w h => List.mem_cons_of_mem _ (List.mem_append_right _ (List.mem_append_right _ (List.mem_append_right _ (List.mem_append_right _ (List.mem_append_right _ (List.mem_append_right _ (List.mem_append_right _ (List.mem_append_right _ (h)))))))))
theorem kX8_fits_X1_after_49 : GoodIn vX8_fits (wsV RX8 49 RX1 yX1_after vX1_after) := goodIn_sub (fun w h => (List.mem_append.mp h).elim (fun h => List.mem_cons_of_mem _ (List.mem_append_left _ ((by decide +kernel : ∀ w ∈ ([.methodLink RX8 49 yX1_after, .instanceMethod yX1_after, .selects RX1 yX1_after yX1_after, .initialized RX1] : List Cond), w ∈ oX8_fits) w h))) (fun h => List.mem_cons_of_mem _ (List.mem_append_right _ (List.mem_append_left _ (h))))) (by decide +kernel)
theorem kX8_fits_X8_ruleFits_52 : GoodIn vX8_fits (wsV RX8 52 RX8 yX8_ruleFits vX8_ruleFits) := goodIn_sub (fun w h => (List.mem_append.mp h).elim (fun h => List.mem_cons_of_mem _ (List.mem_append_left _ ((by decide +kernel : ∀ w ∈ ([.methodLink RX8 52 yX8_ruleFits, .instanceMethod yX8_ruleFits, .selects RX8 yX8_ruleFits yX8_ruleFits, .initialized RX8] : List Cond), w ∈ oX8_fits) w h))) (fun h => List.mem_cons_of_mem _ (List.mem_append_right _ (List.mem_append_right _ (List.mem_append_left _ (h)))))) (by decide +kernel)
theorem kX8_fits_X1_parts_27 : GoodIn vX8_fits (wsV RX8 27 RX1 yX1_parts vX1_parts) := goodIn_sub (fun w h => (List.mem_append.mp h).elim (fun h => List.mem_cons_of_mem _ (List.mem_append_left _ ((by decide +kernel : ∀ w ∈ ([.methodLink RX8 27 yX1_parts, .instanceMethod yX1_parts, .selects RX1 yX1_parts yX1_parts, .initialized RX1] : List Cond), w ∈ oX8_fits) w h))) (fun h => List.mem_cons_of_mem _ (List.mem_append_right _ (List.mem_append_right _ (List.mem_append_right _ (List.mem_append_left _ (h))))))) (by decide +kernel)
theorem kX8_fits_X1_head_33 : GoodIn vX8_fits (wsV RX8 33 RX1 yX1_head vX1_head) := goodIn_sub (fun w h => (List.mem_append.mp h).elim (fun h => List.mem_cons_of_mem _ (List.mem_append_left _ ((by decide +kernel : ∀ w ∈ ([.methodLink RX8 33 yX1_head, .instanceMethod yX1_head, .selects RX1 yX1_head yX1_head, .initialized RX1] : List Cond), w ∈ oX8_fits) w h))) (fun h => List.mem_cons_of_mem _ (List.mem_append_right _ (List.mem_append_right _ (List.mem_append_right _ (List.mem_append_right _ (List.mem_append_left _ (h)))))))) (by decide +kernel)
theorem kX8_fits_X1_part_36 : GoodIn vX8_fits (wsV RX8 36 RX1 yX1_part vX1_part) := goodIn_sub (fun w h => (List.mem_append.mp h).elim (fun h => List.mem_cons_of_mem _ (List.mem_append_left _ ((by decide +kernel : ∀ w ∈ ([.methodLink RX8 36 yX1_part, .instanceMethod yX1_part, .selects RX1 yX1_part yX1_part, .initialized RX1] : List Cond), w ∈ oX8_fits) w h))) (fun h => List.mem_cons_of_mem _ (List.mem_append_right _ (List.mem_append_right _ (List.mem_append_right _ (List.mem_append_right _ (List.mem_append_right _ (List.mem_append_left _ (h))))))))) (by decide +kernel)
theorem kX8_fits_X9_meaning_40 : GoodIn vX8_fits (wsV RX8 40 RX9 yX9_meaning vX9_meaning) := goodIn_sub (fun w h => (List.mem_append.mp h).elim (fun h => List.mem_cons_of_mem _ (List.mem_append_left _ ((by decide +kernel : ∀ w ∈ ([.methodLink RX8 40 yX9_meaning, .instanceMethod yX9_meaning, .selects RX9 yX9_meaning yX9_meaning, .initialized RX9] : List Cond), w ∈ oX8_fits) w h))) (fun h => List.mem_cons_of_mem _ (List.mem_append_right _ (List.mem_append_right _ (List.mem_append_right _ (List.mem_append_right _ (List.mem_append_right _ (List.mem_append_right _ (List.mem_append_left _ (h)))))))))) (by decide +kernel)
theorem kX8_fits_X8_literalsFit_45 : GoodIn vX8_fits (wsV RX8 45 RX8 yX8_literalsFit vX8_literalsFit) := goodIn_sub (fun w h => (List.mem_append.mp h).elim (fun h => List.mem_cons_of_mem _ (List.mem_append_left _ ((by decide +kernel : ∀ w ∈ ([.methodLink RX8 45 yX8_literalsFit, .instanceMethod yX8_literalsFit, .selects RX8 yX8_literalsFit yX8_literalsFit, .initialized RX8] : List Cond), w ∈ oX8_fits) w h))) (fun h => List.mem_cons_of_mem _ (List.mem_append_right _ (List.mem_append_right _ (List.mem_append_right _ (List.mem_append_right _ (List.mem_append_right _ (List.mem_append_right _ (List.mem_append_right _ (List.mem_append_left _ (h))))))))))) (by decide +kernel)
def P_X8_patternFits (l : Launch) (d : Nat) : Prop := ∀ (dC : Nat → ClassId) (dI : Nat → Nat → Nat) (cB cC cI cJ cZ : ClassId) (a : Nat → Nat) (F : Nat → Int32) (X : Nat → Nat → Int32) (J : Nat → Nat → Int64) (R : Nat → Nat) (gf gn : Nat) (x y z : Int) (D : Int → Nat) (ix : (-2147483648 ≤ x ∧ x < 2147483648)) (iy : (-2147483648 ≤ y ∧ y < 2147483648)) (iz : (-2147483648 ≤ z ∧ z < 2147483648)) (hgf : gf ≤ 67600) (hgn : gn ≤ 63261) (hsp : SPR (X 1)) (hnt : 0 ≤ (F 13).toInt ∧ (F 13).toInt ≤ (gn : Int)) (hl8 : (F 21).toInt < 2000000000) (hx2 : x < 1073741824) (hdp : D x < d) (hne : NST (X 1) D gf) (s0 : Nat), Met l yX8_patternFits vX8_patternFits { frames := 2 * d + 3, cells := 0, slots := 0, locals := 60 * d + 105 } (va_Pc [.ref (a 8), .int (oI x), .int (oI y), .int (oI z)] (cPre dC dI cB cC cI cJ cZ a F X J R gf gn s0)) (va_Qi (fun (r : Int32) (u : (Nat → Int32) × (Nat → Nat → Int32)) => match u with | (F1, X1) => (r).toInt = 0 ∨ (r).toInt = 1) (fun u => cPost dC dI cB cC cI cJ cZ a F (rg 17 18 X u.2) J R gf gn (va_A (CW cB cC cI cJ cZ a F X J R gf gn) s0)) (va_A (CW cB cC cI cJ cZ a F X J R gf gn) s0)) 0 0 (va_A (CW cB cC cI cJ cZ a F X J R gf gn) s0)
def P_X8_patternsFit (l : Launch) (d : Nat) : Prop := ∀ (dC : Nat → ClassId) (dI : Nat → Nat → Nat) (cB cC cI cJ cZ : ClassId) (a : Nat → Nat) (F : Nat → Int32) (X : Nat → Nat → Int32) (J : Nat → Nat → Int64) (R : Nat → Nat) (gf gn : Nat) (x y z : Int) (D : Int → Nat) (ix : (-2147483648 ≤ x ∧ x < 2147483648)) (iy : (-2147483648 ≤ y ∧ y < 2147483648)) (iz : (-2147483648 ≤ z ∧ z < 2147483648)) (hgf : gf ≤ 67600) (hgn : gn ≤ 63261) (hsp : SPR (X 1)) (hnt : 0 ≤ (F 13).toInt ∧ (F 13).toInt ≤ (gn : Int)) (hl8 : (F 21).toInt < 2000000000) (hx2 : x < 1073741824 ∧ y < 1073741824) (hdp : ∀ q9 : Int, x ≤ q9 → q9 < y → D q9 < d) (hne : NST (X 1) D gf) (s0 : Nat), Met l yX8_patternsFit vX8_patternsFit { frames := 2 * d + 4, cells := 0, slots := 0, locals := 60 * d + 130 } (va_Pc [.ref (a 8), .int (oI x), .int (oI y), .int (oI z)] (cPre dC dI cB cC cI cJ cZ a F X J R gf gn s0)) (va_Qi (fun (r : Int32) (u : (Nat → Int32) × (Nat → Nat → Int32)) => match u with | (F1, X1) => (r).toInt = 0 ∨ (r).toInt = 1) (fun u => cPost dC dI cB cC cI cJ cZ a F (rg 17 18 X u.2) J R gf gn (va_A (CW cB cC cI cJ cZ a F X J R gf gn) s0)) (va_A (CW cB cC cI cJ cZ a F X J R gf gn) s0)) 0 0 (va_A (CW cB cC cI cJ cZ a F X J R gf gn) s0)
set_option maxHeartbeats 4000000 in
set_option maxRecDepth 100000 in
theorem st_patternFits (l : Launch) (d : Nat) (hI : ∀ d1, d1 < d → P_X8_patternsFit l d1) : P_X8_patternFits l d := by
  unfold P_X8_patternFits
  intro dC dI cB cC cI cJ cZ a F X J R gf gn x y z D ix iy iz hgf hgn hsp hnt hl8 hx2 hdp hne s0
  refine Met.ofW (cc := cX8_patternFits) (maxL := 6) (ret := (some .boolean)) (by decide) rfl ?_
  intro p e s m args below meth c s₁ B9 hml hv
  obtain ⟨rfl, hsz0, hP, hK, hD0, hNW⟩ := hv
  have hx := B9.exec
  have hb := B9.bytes
  have hr := B9.returns
  have hts := atoms_spec (ws := vX8_patternFits) B9.pre
  have hown : s.vm.findClass RX8 = some m.cls := findClass_of_methodNamed B9.named
  have hlocks := B9.notSynchronized
  clear B9
  subst hsz0
  have hD := hD0.self (sz := s.heap.size)
  generalize hAe : va_A (CW cB cC cI cJ cZ a F X J R gf gn) s.heap.size = A at hD ⊢
  have hA : ∀ q : Nat, s.heap.size ≤ q → A q := fun q h => by rw [← hAe]; exact Or.inr h
  have hS : va_S A s.heap s.heap [] := va_S.rf
  have hcs : 0 + 0 ≤ (0 : Nat) ∧ 0 + 0 ≤ (0 : Nat) := ⟨Nat.le_refl 0, Nat.le_refl 0⟩
  have hl := lv_entry ([.ref (a 8), .int (oI x), .int (oI y), .int (oI z)]) (n := 6) (Nat.le_of_ble_eq_true rfl)
  rw [lg_entry_eq]
  generalize (lg_sl ([.ref (a 8), .int (oI x), .int (oI y), .int (oI z)]) ++ List.replicate (6 - (lg_sl ([.ref (a 8), .int (oI x), .int (oI y), .int (oI z)])).length) Slot.unset).toArray = ls at hl ⊢
  have hl : lv_has ls 6 [(0, .ref (a 8)), (1, .int (oI x)), (2, .int (oI y)), (3, .int (oI z))] := hl
  have eb := AF_b hsp gf x
  refine lv_iload_n hx hb dX8_patternFits_0 rfl (lv_at hl 2 rfl) ?_
  refine cz_eq (tgt := 17) hx hb (by omega) dX8_patternFits_1 (by decide) (fun c_1 => ?_) (fun c_1 => ?_)
  · refine lv_iload_n hx hb dX8_patternFits_17 rfl (lv_at hl 2 rfl) ?_
    refine cz_eq (tgt := 25) hx hb (by omega) dX8_patternFits_18 (by decide) (fun c_2 => ?_) (fun c_2 => ?_)
    · refine lv_iload_n hx hb dX8_patternFits_25 rfl (lv_at hl 3 rfl) ?_
      refine lv_istore (lv' := [(4, .int (oI z)), (0, .ref (a 8)), (1, .int (oI x)), (2, .int (oI y)), (3, .int (oI z))]) hx hb dX8_patternFits_26 hl (by decide) rfl (fun ls hl => ?_)
      refine lv_aload_n hx hb dX8_patternFits_28 rfl (lv_at hl 1 rfl) ?_
      refine cg_8_0 hx hb hts inX8_patternFits_X8 hown hK hP (hts _ lkX8_patternFits_f15) dX8_patternFits_29 ?_
      refine lv_iload_n hx hb dX8_patternFits_32 rfl (lv_at hl 2 rfl) ?_
      refine ccs_iV (As := [.int (oI x)]) (rest := []) ⟨hx, hb, hml, hown, hts⟩ (c_isList l dC dI cB cC cI cJ cZ a F X J R gf gn x  (by omega) (show gf ≤ 67600 from by first | assumption | omega)  s.heap.size) (cwV 1 hts kX8_patternFits_X1_isList_56 rfl rfl rfl (by decide +kernel) ⟨show 1 + 1 ≤ 2 * d + 3 from by omega, show 8 + (2 + 11) + 60 ≤ 60 * d + 105 from by omega⟩) (va_recv hK hP (ci := 1) (q0 := 1) rfl rfl) hK hNW hP hD hS hA rfl rfl hl.1 (lv_room (Nat.le_of_ble_eq_true rfl)) dX8_patternFits_33 hcs (fun r_3 hw_4 H locs hP hD hS => ?_)
      have hw_4 : ((r_3).toInt = 1 ∧ 0 ≤ x ∧ x < (gf : Int)) ∨ (r_3).toInt = 0 := hw_4
      have hil := hw_4
      have i_5 := i32r r_3
      refine cz_eq (tgt := 57) hx hb (i32r _) dX8_patternFits_36 (by decide) (fun c_6 => ?_) (fun c_6 => ?_)
      · refine lv_aload_n hx hb dX8_patternFits_57 rfl (lv_at hl 1 rfl) ?_
        refine cg_8_0 hx hb hts inX8_patternFits_X8 hown hK hP (hts _ lkX8_patternFits_f15) dX8_patternFits_58 ?_
        refine lv_iload_n hx hb dX8_patternFits_61 rfl (lv_at hl 2 rfl) ?_
        refine ccs_iV (As := [.int (oI x)]) (rest := []) ⟨hx, hb, hml, hown, hts⟩ (c_nameOf l dC dI cB cC cI cJ cZ a F X J R gf gn x  (by omega) (show gf ≤ 67600 from by first | assumption | omega)  H.size) (cwV 1 hts kX8_patternFits_X1_nameOf_59 rfl rfl rfl (by decide +kernel) ⟨show 1 + 1 ≤ 2 * d + 3 from by omega, show 8 + (3 + 11) + 60 ≤ 60 * d + 105 from by omega⟩) (va_recv hK hP (ci := 1) (q0 := 1) rfl rfl) hK hNW hP hD hS hA rfl rfl hl.1 (lv_room (Nat.le_of_ble_eq_true rfl)) dX8_patternFits_62 hcs (fun r_7 hw_8 H locs hP hD hS => ?_)
        have i_9 := i32r r_7
        refine lv_istore (lv' := [(5, .int (oI r_7.toInt)), (4, .int (oI z)), (0, .ref (a 8)), (1, .int (oI x)), (2, .int (oI y)), (3, .int (oI z))]) hx hb dX8_patternFits_65 hl (by decide) rfl (fun ls hl => ?_)
        refine lv_iload hx hb dX8_patternFits_67 (lv_at hl 0 rfl) ?_
        refine lv_iconst (v := oI (-1)) hx hb dX8_patternFits_69 (by decide) ?_
        refine ci_eq (tgt := 96) hx hb (i32r _) (by decide) dX8_patternFits_70 (by decide) (fun c_10 => ?_) (fun c_10 => ?_)
        · refine lv_iconst (v := oI 1) hx hb dX8_patternFits_96 (by decide) ?_
          have e0 : (oI 1).toInt = 1 := by decide
          have eX9 : rg 17 18 X X = X := by funext k; simp only [rg, va_up]; (repeat' split) <;> first | with_reducible rfl | omega
          have hP9 : va_P (dC, dI) vwCl (CW cB cC cI cJ cZ a F (rg 17 18 X X) J R gf gn) H := by rw [eX9]; exact hP
          have hD9 : va_D A (CW cB cC cI cJ cZ a F (rg 17 18 X X) J R gf gn) := by rw [eX9]; exact hD
          have hpost : (oI 1).toInt = 0 ∨ (oI 1).toInt = 1 := by first | assumption | omega | (with_reducible rfl) | ((repeat' apply And.intro) <;> first | assumption | omega | (with_reducible rfl))
          exact W.zret (v := (oI 1)) hx hb hr (by first | rfl | decide | exact zb9 (by omega)) (fun t ht hW => ⟨⟨(oI 1), (F, X), rfl, hpost, by rw [ht]; exact hP9, va_K.moved hW.alike hK, hD9⟩, hS.F ht⟩) hS.2.2 dX8_patternFits_97
        · refine lv_iload hx hb dX8_patternFits_73 (lv_at hl 0 rfl) ?_
          refine lv_bipush (v := oI 8) hx hb dX8_patternFits_75 (by decide) ?_
          refine ci_eq (tgt := 96) hx hb (i32r _) (by decide) dX8_patternFits_77 (by decide) (fun c_11 => ?_) (fun c_11 => ?_)
          · refine lv_iconst (v := oI 1) hx hb dX8_patternFits_96 (by decide) ?_
            have e0 : (oI 1).toInt = 1 := by decide
            have eX9 : rg 17 18 X X = X := by funext k; simp only [rg, va_up]; (repeat' split) <;> first | with_reducible rfl | omega
            have hP9 : va_P (dC, dI) vwCl (CW cB cC cI cJ cZ a F (rg 17 18 X X) J R gf gn) H := by rw [eX9]; exact hP
            have hD9 : va_D A (CW cB cC cI cJ cZ a F (rg 17 18 X X) J R gf gn) := by rw [eX9]; exact hD
            have hpost : (oI 1).toInt = 0 ∨ (oI 1).toInt = 1 := by first | assumption | omega | (with_reducible rfl) | ((repeat' apply And.intro) <;> first | assumption | omega | (with_reducible rfl))
            exact W.zret (v := (oI 1)) hx hb hr (by first | rfl | decide | exact zb9 (by omega)) (fun t ht hW => ⟨⟨(oI 1), (F, X), rfl, hpost, by rw [ht]; exact hP9, va_K.moved hW.alike hK, hD9⟩, hS.F ht⟩) hS.2.2 dX8_patternFits_97
          · refine lv_aload_n hx hb dX8_patternFits_80 rfl (lv_at hl 2 rfl) ?_
            refine cg_8_0 hx hb hts inX8_patternFits_X8 hown hK hP (hts _ lkX8_patternFits_f15) dX8_patternFits_81 ?_
            refine lv_aload_n hx hb dX8_patternFits_84 rfl (lv_at hl 2 rfl) ?_
            refine cg_8_3 hx hb hts inX8_patternFits_X8 hown hK hP (hts _ lkX8_patternFits_f9) dX8_patternFits_85 ?_
            have i_12 := i32r (F 21)
            refine lv_iload hx hb dX8_patternFits_88 (lv_at hl 0 rfl) ?_
            refine ccs_iS (As := [.ref (a 1), .int (oI ((F 21).toInt)), .int (oI r_7.toInt)]) (rest := []) ⟨hx, hb, hml, hown, hts⟩ (c_isLiteral l dC dI cB cC cI cJ cZ a F X J R gf gn ((F 21).toInt) r_7.toInt  (i32r _) (i32r _) (show gf ≤ 67600 from by first | assumption | omega) (show SPR (X 1) from by first | assumption | omega) (show (F 21).toInt < 2000000000 from by first | assumption | omega) H.size) (va_cwS 3 hts kX8_patternFits_X8_isLiteral_88 rfl rfl rfl (by decide +kernel) ⟨show 2 + 1 ≤ 2 * d + 3 from by omega, show 8 + (4 + 11) + 82 ≤ 60 * d + 105 from by omega⟩) hK hNW hP hD hS hA rfl rfl hl.1 (lv_room (Nat.le_of_ble_eq_true rfl)) dX8_patternFits_90 hcs (fun r_13 hw_14 H locs hP hD hS => ?_)
            have hw_14 : (r_13).toInt = 0 ∨ (r_13).toInt = 1 := hw_14
            have hz := hw_14
            have i_15 := i32r r_13
            refine cz_eq (tgt := 98) hx hb (i32r _) dX8_patternFits_93 (by decide) (fun c_16 => ?_) (fun c_16 => ?_)
            · refine lv_aload_n hx hb dX8_patternFits_98 rfl (lv_at hl 2 rfl) ?_
              refine cg_8_1 hx hb hts inX8_patternFits_X8 hown hK hP (hts _ lkX8_patternFits_f19) dX8_patternFits_99 ?_
              refine lv_iload hx hb dX8_patternFits_102 (lv_at hl 0 rfl) ?_
              refine ccs_iV (As := [.int (oI r_7.toInt)]) (rest := []) ⟨hx, hb, hml, hown, hts⟩ (c_isNoted l dC dI cB cC cI cJ cZ a F X J R gf gn r_7.toInt  (i32r _) (show gn ≤ 63261 from by first | assumption | omega) (show 0 ≤ (F 13).toInt ∧ (F 13).toInt ≤ (gn : Int) from by first | assumption | omega)  H.size) (cwV 1 hts kX8_patternFits_X6_isNoted_92 rfl rfl rfl (by decide +kernel) ⟨show 1 + 1 ≤ 2 * d + 3 from by omega, show 8 + (2 + 11) + 60 ≤ 60 * d + 105 from by omega⟩) (va_recv hK hP (ci := 6) (q0 := 6) rfl rfl) hK hNW hP hD hS hA rfl rfl hl.1 (lv_room (Nat.le_of_ble_eq_true rfl)) dX8_patternFits_104 hcs (fun r_17 hw_18 H locs hP hD hS => ?_)
              have i_19 := i32r r_17
              refine cz_eq (tgt := 112) hx hb (i32r _) dX8_patternFits_107 (by decide) (fun c_20 => ?_) (fun c_20 => ?_)
              · refine lv_aload_n hx hb dX8_patternFits_112 rfl (lv_at hl 2 rfl) ?_
                refine cg_8_1 hx hb hts inX8_patternFits_X8 hown hK hP (hts _ lkX8_patternFits_f19) dX8_patternFits_113 ?_
                refine lv_iload hx hb dX8_patternFits_116 (lv_at hl 0 rfl) ?_
                refine lv_iload hx hb dX8_patternFits_118 (lv_at hl 1 rfl) ?_
                refine ccp_vV (As := [.int (oI r_7.toInt), .int (oI z)]) (rest := []) (gF := fun _ => F) (gX := fun X9 => rg 17 18 X X9) ⟨hx, hb, hml, hown, hts⟩ (c_setNote l dC dI cB cC cI cJ cZ a F X J R gf gn r_7.toInt z  (i32r _) (by omega) (show gn ≤ 63261 from by first | assumption | omega) (show 0 ≤ (F 13).toInt ∧ (F 13).toInt ≤ (gn : Int) from by first | assumption | omega)  H.size) (cwV 2 hts kX8_patternFits_X6_setNote_95 rfl rfl rfl (by decide +kernel) ⟨show 2 + 1 ≤ 2 * d + 3 from by omega, show 8 + (3 + 11) + 81 ≤ 60 * d + 105 from by omega⟩) (va_recv hK hP (ci := 6) (q0 := 6) rfl rfl) hK hNW hP hD hS hA rfl rfl hl.1 (lv_room (Nat.le_of_ble_eq_true rfl)) dX8_patternFits_120 hcs (fun F_21 X_22 hw_23 H locs hP hD hS => ?_)
                refine lv_iconst (v := oI 1) hx hb dX8_patternFits_123 (by decide) ?_
                have e0 : (oI 1).toInt = 1 := by decide
                have eX9 : rg 17 18 X (rg 17 18 X X_22) = rg 17 18 X X_22 := by funext k; simp only [rg, va_up]; (repeat' split) <;> first | with_reducible rfl | omega
                have hP9 : va_P (dC, dI) vwCl (CW cB cC cI cJ cZ a F (rg 17 18 X (rg 17 18 X X_22)) J R gf gn) H := by rw [eX9]; exact hP
                have hD9 : va_D A (CW cB cC cI cJ cZ a F (rg 17 18 X (rg 17 18 X X_22)) J R gf gn) := by rw [eX9]; exact hD
                have hpost : (oI 1).toInt = 0 ∨ (oI 1).toInt = 1 := by first | assumption | omega | (with_reducible rfl) | ((repeat' apply And.intro) <;> first | assumption | omega | (with_reducible rfl))
                exact W.zret (v := (oI 1)) hx hb hr (by first | rfl | decide | exact zb9 (by omega)) (fun t ht hW => ⟨⟨(oI 1), (F, rg 17 18 X X_22), rfl, hpost, by rw [ht]; exact hP9, va_K.moved hW.alike hK, hD9⟩, hS.F ht⟩) hS.2.2 dX8_patternFits_124
              · refine lv_iconst (v := oI 0) hx hb dX8_patternFits_110 (by decide) ?_
                have e0 : (oI 0).toInt = 0 := by decide
                have eX9 : rg 17 18 X X = X := by funext k; simp only [rg, va_up]; (repeat' split) <;> first | with_reducible rfl | omega
                have hP9 : va_P (dC, dI) vwCl (CW cB cC cI cJ cZ a F (rg 17 18 X X) J R gf gn) H := by rw [eX9]; exact hP
                have hD9 : va_D A (CW cB cC cI cJ cZ a F (rg 17 18 X X) J R gf gn) := by rw [eX9]; exact hD
                have hpost : (oI 0).toInt = 0 ∨ (oI 0).toInt = 1 := by first | assumption | omega | (with_reducible rfl) | ((repeat' apply And.intro) <;> first | assumption | omega | (with_reducible rfl))
                exact W.zret (v := (oI 0)) hx hb hr (by first | rfl | decide | exact zb9 (by omega)) (fun t ht hW => ⟨⟨(oI 0), (F, X), rfl, hpost, by rw [ht]; exact hP9, va_K.moved hW.alike hK, hD9⟩, hS.F ht⟩) hS.2.2 dX8_patternFits_111
            · refine lv_iconst (v := oI 1) hx hb dX8_patternFits_96 (by decide) ?_
              have e0 : (oI 1).toInt = 1 := by decide
              have eX9 : rg 17 18 X X = X := by funext k; simp only [rg, va_up]; (repeat' split) <;> first | with_reducible rfl | omega
              have hP9 : va_P (dC, dI) vwCl (CW cB cC cI cJ cZ a F (rg 17 18 X X) J R gf gn) H := by rw [eX9]; exact hP
              have hD9 : va_D A (CW cB cC cI cJ cZ a F (rg 17 18 X X) J R gf gn) := by rw [eX9]; exact hD
              have hpost : (oI 1).toInt = 0 ∨ (oI 1).toInt = 1 := by first | assumption | omega | (with_reducible rfl) | ((repeat' apply And.intro) <;> first | assumption | omega | (with_reducible rfl))
              exact W.zret (v := (oI 1)) hx hb hr (by first | rfl | decide | exact zb9 (by omega)) (fun t ht hW => ⟨⟨(oI 1), (F, X), rfl, hpost, by rw [ht]; exact hP9, va_K.moved hW.alike hK, hD9⟩, hS.F ht⟩) hS.2.2 dX8_patternFits_97
      · refine lv_aload_n hx hb dX8_patternFits_39 rfl (lv_at hl 1 rfl) ?_
        refine lv_iload_n hx hb dX8_patternFits_40 rfl (lv_at hl 2 rfl) ?_
        refine lv_iconst (v := oI 1) hx hb dX8_patternFits_41 (by decide) ?_
        refine lv_iadd hx hb dX8_patternFits_42 ?_
        refine tp_i (oI_add x 1) ?_
        refine lv_aload_n hx hb dX8_patternFits_43 rfl (lv_at hl 1 rfl) ?_
        refine cg_8_0 hx hb hts inX8_patternFits_X8 hown hK hP (hts _ lkX8_patternFits_f15) dX8_patternFits_44 ?_
        refine lv_iload_n hx hb dX8_patternFits_47 rfl (lv_at hl 2 rfl) ?_
        refine ccs_iV (As := [.int (oI x)]) (rest := [.int (oI (x + 1)), .ref (a 8)]) ⟨hx, hb, hml, hown, hts⟩ (c_after l dC dI cB cC cI cJ cZ a F X J R gf gn x  (by omega) (show gf ≤ 67600 from by first | assumption | omega) (show SPR (X 1) from by first | assumption | omega) (show x < 2147483647 from by first | assumption | omega) H.size) (cwV 1 hts kX8_patternFits_X1_after_49 rfl rfl rfl (by decide +kernel) ⟨show 1 + 1 ≤ 2 * d + 3 from by omega, show 8 + (2 + 11) + 60 ≤ 60 * d + 105 from by omega⟩) (va_recv hK hP (ci := 1) (q0 := 1) rfl rfl) hK hNW hP hD hS hA rfl rfl hl.1 (lv_room (Nat.le_of_ble_eq_true rfl)) dX8_patternFits_48 hcs (fun r_24 hw_25 H locs hP hD hS => ?_)
        have hw_25 : (r_24).toInt = AF (X 1) gf x ∧ x < (r_24).toInt ∧ (r_24).toInt ≤ x + 67600 := hw_25
        obtain ⟨ea, la, ua⟩ := hw_25
        have i_26 := i32r r_24
        refine lv_iload hx hb dX8_patternFits_51 (lv_at hl 0 rfl) ?_
        refine ccp_iV (As := [.int (oI (x + 1)), .int (oI r_24.toInt), .int (oI z)]) (rest := []) (gF := fun _ => F) (gX := fun X9 => rg 17 18 X X9) ⟨hx, hb, hml, hown, hts⟩ ((hI (d - 1) (by omega)) dC dI cB cC cI cJ cZ a F X J R gf gn (x + 1) r_24.toInt z D (by omega) (i32r _) (by omega) (show gf ≤ 67600 from by first | assumption | omega) (show gn ≤ 63261 from by first | assumption | omega) (show SPR (X 1) from by first | assumption | omega) (show 0 ≤ (F 13).toInt ∧ (F 13).toInt ≤ (gn : Int) from by first | assumption | omega) (show (F 21).toInt < 2000000000 from by first | assumption | omega) (show x + 1 < 1073741824 ∧ r_24.toInt < 1073741824 from by first | assumption | omega) (show ∀ q9 : Int, x + 1 ≤ q9 → q9 < r_24.toInt → D q9 < d - 1 from fun q9 h1 h2 => by have := NST_af hne (p := x) (q := q9) (by omega) (by omega); omega) (show NST (X 1) D gf from by assumption) H.size) (cwV 3 hts kX8_patternFits_X8_patternsFit_70 rfl rfl rfl (by decide +kernel) ⟨show (2 * (d - 1) + 4) + 1 ≤ 2 * d + 3 from by omega, show 8 + (6 + 11) + (60 * (d - 1) + 130) ≤ 60 * d + 105 from by omega⟩) (va_recv hK hP (ci := 8) (q0 := 8) rfl rfl) hK hNW hP hD hS hA rfl rfl hl.1 (lv_room (Nat.le_of_ble_eq_true rfl)) dX8_patternFits_53 hcs (fun r_27 F_28 X_29 hw_30 H locs hP hD hS => ?_)
        have hw_30 : (r_27).toInt = 0 ∨ (r_27).toInt = 1 := hw_30
        have hz := hw_30
        have i_31 := i32r r_27
        have e0 : (oI r_27.toInt).toInt = r_27.toInt := congrArg Int32.toInt (oI_toInt _)
        have eX9 : rg 17 18 X (rg 17 18 X X_29) = rg 17 18 X X_29 := by funext k; simp only [rg, va_up]; (repeat' split) <;> first | with_reducible rfl | omega
        have hP9 : va_P (dC, dI) vwCl (CW cB cC cI cJ cZ a F (rg 17 18 X (rg 17 18 X X_29)) J R gf gn) H := by rw [eX9]; exact hP
        have hD9 : va_D A (CW cB cC cI cJ cZ a F (rg 17 18 X (rg 17 18 X X_29)) J R gf gn) := by rw [eX9]; exact hD
        have hpost : (oI r_27.toInt).toInt = 0 ∨ (oI r_27.toInt).toInt = 1 := by first | assumption | omega | (with_reducible rfl) | ((repeat' apply And.intro) <;> first | assumption | omega | (with_reducible rfl))
        exact W.zret (v := (oI r_27.toInt)) hx hb hr (by first | rfl | decide | exact zb9 (by omega)) (fun t ht hW => ⟨⟨(oI r_27.toInt), (F, rg 17 18 X X_29), rfl, hpost, by rw [ht]; exact hP9, va_K.moved hW.alike hK, hD9⟩, hS.F ht⟩) hS.2.2 dX8_patternFits_56
    · refine lv_iconst (v := oI 1) hx hb dX8_patternFits_21 (by decide) ?_
      refine lv_goto (tgt := 26) hx hb dX8_patternFits_22 (by decide) ?_
      refine lv_istore (lv' := [(4, .int (oI 1)), (0, .ref (a 8)), (1, .int (oI x)), (2, .int (oI y)), (3, .int (oI z))]) hx hb dX8_patternFits_26 hl (by decide) rfl (fun ls hl => ?_)
      refine lv_aload_n hx hb dX8_patternFits_28 rfl (lv_at hl 1 rfl) ?_
      refine cg_8_0 hx hb hts inX8_patternFits_X8 hown hK hP (hts _ lkX8_patternFits_f15) dX8_patternFits_29 ?_
      refine lv_iload_n hx hb dX8_patternFits_32 rfl (lv_at hl 2 rfl) ?_
      refine ccs_iV (As := [.int (oI x)]) (rest := []) ⟨hx, hb, hml, hown, hts⟩ (c_isList l dC dI cB cC cI cJ cZ a F X J R gf gn x  (by omega) (show gf ≤ 67600 from by first | assumption | omega)  s.heap.size) (cwV 1 hts kX8_patternFits_X1_isList_56 rfl rfl rfl (by decide +kernel) ⟨show 1 + 1 ≤ 2 * d + 3 from by omega, show 8 + (2 + 11) + 60 ≤ 60 * d + 105 from by omega⟩) (va_recv hK hP (ci := 1) (q0 := 1) rfl rfl) hK hNW hP hD hS hA rfl rfl hl.1 (lv_room (Nat.le_of_ble_eq_true rfl)) dX8_patternFits_33 hcs (fun r_32 hw_33 H locs hP hD hS => ?_)
      have hw_33 : ((r_32).toInt = 1 ∧ 0 ≤ x ∧ x < (gf : Int)) ∨ (r_32).toInt = 0 := hw_33
      have hil := hw_33
      have i_34 := i32r r_32
      refine cz_eq (tgt := 57) hx hb (i32r _) dX8_patternFits_36 (by decide) (fun c_35 => ?_) (fun c_35 => ?_)
      · refine lv_aload_n hx hb dX8_patternFits_57 rfl (lv_at hl 1 rfl) ?_
        refine cg_8_0 hx hb hts inX8_patternFits_X8 hown hK hP (hts _ lkX8_patternFits_f15) dX8_patternFits_58 ?_
        refine lv_iload_n hx hb dX8_patternFits_61 rfl (lv_at hl 2 rfl) ?_
        refine ccs_iV (As := [.int (oI x)]) (rest := []) ⟨hx, hb, hml, hown, hts⟩ (c_nameOf l dC dI cB cC cI cJ cZ a F X J R gf gn x  (by omega) (show gf ≤ 67600 from by first | assumption | omega)  H.size) (cwV 1 hts kX8_patternFits_X1_nameOf_59 rfl rfl rfl (by decide +kernel) ⟨show 1 + 1 ≤ 2 * d + 3 from by omega, show 8 + (3 + 11) + 60 ≤ 60 * d + 105 from by omega⟩) (va_recv hK hP (ci := 1) (q0 := 1) rfl rfl) hK hNW hP hD hS hA rfl rfl hl.1 (lv_room (Nat.le_of_ble_eq_true rfl)) dX8_patternFits_62 hcs (fun r_36 hw_37 H locs hP hD hS => ?_)
        have i_38 := i32r r_36
        refine lv_istore (lv' := [(5, .int (oI r_36.toInt)), (4, .int (oI 1)), (0, .ref (a 8)), (1, .int (oI x)), (2, .int (oI y)), (3, .int (oI z))]) hx hb dX8_patternFits_65 hl (by decide) rfl (fun ls hl => ?_)
        refine lv_iload hx hb dX8_patternFits_67 (lv_at hl 0 rfl) ?_
        refine lv_iconst (v := oI (-1)) hx hb dX8_patternFits_69 (by decide) ?_
        refine ci_eq (tgt := 96) hx hb (i32r _) (by decide) dX8_patternFits_70 (by decide) (fun c_39 => ?_) (fun c_39 => ?_)
        · refine lv_iconst (v := oI 1) hx hb dX8_patternFits_96 (by decide) ?_
          have e0 : (oI 1).toInt = 1 := by decide
          have eX9 : rg 17 18 X X = X := by funext k; simp only [rg, va_up]; (repeat' split) <;> first | with_reducible rfl | omega
          have hP9 : va_P (dC, dI) vwCl (CW cB cC cI cJ cZ a F (rg 17 18 X X) J R gf gn) H := by rw [eX9]; exact hP
          have hD9 : va_D A (CW cB cC cI cJ cZ a F (rg 17 18 X X) J R gf gn) := by rw [eX9]; exact hD
          have hpost : (oI 1).toInt = 0 ∨ (oI 1).toInt = 1 := by first | assumption | omega | (with_reducible rfl) | ((repeat' apply And.intro) <;> first | assumption | omega | (with_reducible rfl))
          exact W.zret (v := (oI 1)) hx hb hr (by first | rfl | decide | exact zb9 (by omega)) (fun t ht hW => ⟨⟨(oI 1), (F, X), rfl, hpost, by rw [ht]; exact hP9, va_K.moved hW.alike hK, hD9⟩, hS.F ht⟩) hS.2.2 dX8_patternFits_97
        · refine lv_iload hx hb dX8_patternFits_73 (lv_at hl 0 rfl) ?_
          refine lv_bipush (v := oI 8) hx hb dX8_patternFits_75 (by decide) ?_
          refine ci_eq (tgt := 96) hx hb (i32r _) (by decide) dX8_patternFits_77 (by decide) (fun c_40 => ?_) (fun c_40 => ?_)
          · refine lv_iconst (v := oI 1) hx hb dX8_patternFits_96 (by decide) ?_
            have e0 : (oI 1).toInt = 1 := by decide
            have eX9 : rg 17 18 X X = X := by funext k; simp only [rg, va_up]; (repeat' split) <;> first | with_reducible rfl | omega
            have hP9 : va_P (dC, dI) vwCl (CW cB cC cI cJ cZ a F (rg 17 18 X X) J R gf gn) H := by rw [eX9]; exact hP
            have hD9 : va_D A (CW cB cC cI cJ cZ a F (rg 17 18 X X) J R gf gn) := by rw [eX9]; exact hD
            have hpost : (oI 1).toInt = 0 ∨ (oI 1).toInt = 1 := by first | assumption | omega | (with_reducible rfl) | ((repeat' apply And.intro) <;> first | assumption | omega | (with_reducible rfl))
            exact W.zret (v := (oI 1)) hx hb hr (by first | rfl | decide | exact zb9 (by omega)) (fun t ht hW => ⟨⟨(oI 1), (F, X), rfl, hpost, by rw [ht]; exact hP9, va_K.moved hW.alike hK, hD9⟩, hS.F ht⟩) hS.2.2 dX8_patternFits_97
          · refine lv_aload_n hx hb dX8_patternFits_80 rfl (lv_at hl 2 rfl) ?_
            refine cg_8_0 hx hb hts inX8_patternFits_X8 hown hK hP (hts _ lkX8_patternFits_f15) dX8_patternFits_81 ?_
            refine lv_aload_n hx hb dX8_patternFits_84 rfl (lv_at hl 2 rfl) ?_
            refine cg_8_3 hx hb hts inX8_patternFits_X8 hown hK hP (hts _ lkX8_patternFits_f9) dX8_patternFits_85 ?_
            have i_41 := i32r (F 21)
            refine lv_iload hx hb dX8_patternFits_88 (lv_at hl 0 rfl) ?_
            refine ccs_iS (As := [.ref (a 1), .int (oI ((F 21).toInt)), .int (oI r_36.toInt)]) (rest := []) ⟨hx, hb, hml, hown, hts⟩ (c_isLiteral l dC dI cB cC cI cJ cZ a F X J R gf gn ((F 21).toInt) r_36.toInt  (i32r _) (i32r _) (show gf ≤ 67600 from by first | assumption | omega) (show SPR (X 1) from by first | assumption | omega) (show (F 21).toInt < 2000000000 from by first | assumption | omega) H.size) (va_cwS 3 hts kX8_patternFits_X8_isLiteral_88 rfl rfl rfl (by decide +kernel) ⟨show 2 + 1 ≤ 2 * d + 3 from by omega, show 8 + (4 + 11) + 82 ≤ 60 * d + 105 from by omega⟩) hK hNW hP hD hS hA rfl rfl hl.1 (lv_room (Nat.le_of_ble_eq_true rfl)) dX8_patternFits_90 hcs (fun r_42 hw_43 H locs hP hD hS => ?_)
            have hw_43 : (r_42).toInt = 0 ∨ (r_42).toInt = 1 := hw_43
            have hz := hw_43
            have i_44 := i32r r_42
            refine cz_eq (tgt := 98) hx hb (i32r _) dX8_patternFits_93 (by decide) (fun c_45 => ?_) (fun c_45 => ?_)
            · refine lv_aload_n hx hb dX8_patternFits_98 rfl (lv_at hl 2 rfl) ?_
              refine cg_8_1 hx hb hts inX8_patternFits_X8 hown hK hP (hts _ lkX8_patternFits_f19) dX8_patternFits_99 ?_
              refine lv_iload hx hb dX8_patternFits_102 (lv_at hl 0 rfl) ?_
              refine ccs_iV (As := [.int (oI r_36.toInt)]) (rest := []) ⟨hx, hb, hml, hown, hts⟩ (c_isNoted l dC dI cB cC cI cJ cZ a F X J R gf gn r_36.toInt  (i32r _) (show gn ≤ 63261 from by first | assumption | omega) (show 0 ≤ (F 13).toInt ∧ (F 13).toInt ≤ (gn : Int) from by first | assumption | omega)  H.size) (cwV 1 hts kX8_patternFits_X6_isNoted_92 rfl rfl rfl (by decide +kernel) ⟨show 1 + 1 ≤ 2 * d + 3 from by omega, show 8 + (2 + 11) + 60 ≤ 60 * d + 105 from by omega⟩) (va_recv hK hP (ci := 6) (q0 := 6) rfl rfl) hK hNW hP hD hS hA rfl rfl hl.1 (lv_room (Nat.le_of_ble_eq_true rfl)) dX8_patternFits_104 hcs (fun r_46 hw_47 H locs hP hD hS => ?_)
              have i_48 := i32r r_46
              refine cz_eq (tgt := 112) hx hb (i32r _) dX8_patternFits_107 (by decide) (fun c_49 => ?_) (fun c_49 => ?_)
              · refine lv_aload_n hx hb dX8_patternFits_112 rfl (lv_at hl 2 rfl) ?_
                refine cg_8_1 hx hb hts inX8_patternFits_X8 hown hK hP (hts _ lkX8_patternFits_f19) dX8_patternFits_113 ?_
                refine lv_iload hx hb dX8_patternFits_116 (lv_at hl 0 rfl) ?_
                refine lv_iload hx hb dX8_patternFits_118 (lv_at hl 1 rfl) ?_
                refine ccp_vV (As := [.int (oI r_36.toInt), .int (oI 1)]) (rest := []) (gF := fun _ => F) (gX := fun X9 => rg 17 18 X X9) ⟨hx, hb, hml, hown, hts⟩ (c_setNote l dC dI cB cC cI cJ cZ a F X J R gf gn r_36.toInt 1  (i32r _) (by decide) (show gn ≤ 63261 from by first | assumption | omega) (show 0 ≤ (F 13).toInt ∧ (F 13).toInt ≤ (gn : Int) from by first | assumption | omega)  H.size) (cwV 2 hts kX8_patternFits_X6_setNote_95 rfl rfl rfl (by decide +kernel) ⟨show 2 + 1 ≤ 2 * d + 3 from by omega, show 8 + (3 + 11) + 81 ≤ 60 * d + 105 from by omega⟩) (va_recv hK hP (ci := 6) (q0 := 6) rfl rfl) hK hNW hP hD hS hA rfl rfl hl.1 (lv_room (Nat.le_of_ble_eq_true rfl)) dX8_patternFits_120 hcs (fun F_50 X_51 hw_52 H locs hP hD hS => ?_)
                refine lv_iconst (v := oI 1) hx hb dX8_patternFits_123 (by decide) ?_
                have e0 : (oI 1).toInt = 1 := by decide
                have eX9 : rg 17 18 X (rg 17 18 X X_51) = rg 17 18 X X_51 := by funext k; simp only [rg, va_up]; (repeat' split) <;> first | with_reducible rfl | omega
                have hP9 : va_P (dC, dI) vwCl (CW cB cC cI cJ cZ a F (rg 17 18 X (rg 17 18 X X_51)) J R gf gn) H := by rw [eX9]; exact hP
                have hD9 : va_D A (CW cB cC cI cJ cZ a F (rg 17 18 X (rg 17 18 X X_51)) J R gf gn) := by rw [eX9]; exact hD
                have hpost : (oI 1).toInt = 0 ∨ (oI 1).toInt = 1 := by first | assumption | omega | (with_reducible rfl) | ((repeat' apply And.intro) <;> first | assumption | omega | (with_reducible rfl))
                exact W.zret (v := (oI 1)) hx hb hr (by first | rfl | decide | exact zb9 (by omega)) (fun t ht hW => ⟨⟨(oI 1), (F, rg 17 18 X X_51), rfl, hpost, by rw [ht]; exact hP9, va_K.moved hW.alike hK, hD9⟩, hS.F ht⟩) hS.2.2 dX8_patternFits_124
              · refine lv_iconst (v := oI 0) hx hb dX8_patternFits_110 (by decide) ?_
                have e0 : (oI 0).toInt = 0 := by decide
                have eX9 : rg 17 18 X X = X := by funext k; simp only [rg, va_up]; (repeat' split) <;> first | with_reducible rfl | omega
                have hP9 : va_P (dC, dI) vwCl (CW cB cC cI cJ cZ a F (rg 17 18 X X) J R gf gn) H := by rw [eX9]; exact hP
                have hD9 : va_D A (CW cB cC cI cJ cZ a F (rg 17 18 X X) J R gf gn) := by rw [eX9]; exact hD
                have hpost : (oI 0).toInt = 0 ∨ (oI 0).toInt = 1 := by first | assumption | omega | (with_reducible rfl) | ((repeat' apply And.intro) <;> first | assumption | omega | (with_reducible rfl))
                exact W.zret (v := (oI 0)) hx hb hr (by first | rfl | decide | exact zb9 (by omega)) (fun t ht hW => ⟨⟨(oI 0), (F, X), rfl, hpost, by rw [ht]; exact hP9, va_K.moved hW.alike hK, hD9⟩, hS.F ht⟩) hS.2.2 dX8_patternFits_111
            · refine lv_iconst (v := oI 1) hx hb dX8_patternFits_96 (by decide) ?_
              have e0 : (oI 1).toInt = 1 := by decide
              have eX9 : rg 17 18 X X = X := by funext k; simp only [rg, va_up]; (repeat' split) <;> first | with_reducible rfl | omega
              have hP9 : va_P (dC, dI) vwCl (CW cB cC cI cJ cZ a F (rg 17 18 X X) J R gf gn) H := by rw [eX9]; exact hP
              have hD9 : va_D A (CW cB cC cI cJ cZ a F (rg 17 18 X X) J R gf gn) := by rw [eX9]; exact hD
              have hpost : (oI 1).toInt = 0 ∨ (oI 1).toInt = 1 := by first | assumption | omega | (with_reducible rfl) | ((repeat' apply And.intro) <;> first | assumption | omega | (with_reducible rfl))
              exact W.zret (v := (oI 1)) hx hb hr (by first | rfl | decide | exact zb9 (by omega)) (fun t ht hW => ⟨⟨(oI 1), (F, X), rfl, hpost, by rw [ht]; exact hP9, va_K.moved hW.alike hK, hD9⟩, hS.F ht⟩) hS.2.2 dX8_patternFits_97
      · refine lv_aload_n hx hb dX8_patternFits_39 rfl (lv_at hl 1 rfl) ?_
        refine lv_iload_n hx hb dX8_patternFits_40 rfl (lv_at hl 2 rfl) ?_
        refine lv_iconst (v := oI 1) hx hb dX8_patternFits_41 (by decide) ?_
        refine lv_iadd hx hb dX8_patternFits_42 ?_
        refine tp_i (oI_add x 1) ?_
        refine lv_aload_n hx hb dX8_patternFits_43 rfl (lv_at hl 1 rfl) ?_
        refine cg_8_0 hx hb hts inX8_patternFits_X8 hown hK hP (hts _ lkX8_patternFits_f15) dX8_patternFits_44 ?_
        refine lv_iload_n hx hb dX8_patternFits_47 rfl (lv_at hl 2 rfl) ?_
        refine ccs_iV (As := [.int (oI x)]) (rest := [.int (oI (x + 1)), .ref (a 8)]) ⟨hx, hb, hml, hown, hts⟩ (c_after l dC dI cB cC cI cJ cZ a F X J R gf gn x  (by omega) (show gf ≤ 67600 from by first | assumption | omega) (show SPR (X 1) from by first | assumption | omega) (show x < 2147483647 from by first | assumption | omega) H.size) (cwV 1 hts kX8_patternFits_X1_after_49 rfl rfl rfl (by decide +kernel) ⟨show 1 + 1 ≤ 2 * d + 3 from by omega, show 8 + (2 + 11) + 60 ≤ 60 * d + 105 from by omega⟩) (va_recv hK hP (ci := 1) (q0 := 1) rfl rfl) hK hNW hP hD hS hA rfl rfl hl.1 (lv_room (Nat.le_of_ble_eq_true rfl)) dX8_patternFits_48 hcs (fun r_53 hw_54 H locs hP hD hS => ?_)
        have hw_54 : (r_53).toInt = AF (X 1) gf x ∧ x < (r_53).toInt ∧ (r_53).toInt ≤ x + 67600 := hw_54
        obtain ⟨ea, la, ua⟩ := hw_54
        have i_55 := i32r r_53
        refine lv_iload hx hb dX8_patternFits_51 (lv_at hl 0 rfl) ?_
        refine ccp_iV (As := [.int (oI (x + 1)), .int (oI r_53.toInt), .int (oI 1)]) (rest := []) (gF := fun _ => F) (gX := fun X9 => rg 17 18 X X9) ⟨hx, hb, hml, hown, hts⟩ ((hI (d - 1) (by omega)) dC dI cB cC cI cJ cZ a F X J R gf gn (x + 1) r_53.toInt 1 D (by omega) (i32r _) (by decide) (show gf ≤ 67600 from by first | assumption | omega) (show gn ≤ 63261 from by first | assumption | omega) (show SPR (X 1) from by first | assumption | omega) (show 0 ≤ (F 13).toInt ∧ (F 13).toInt ≤ (gn : Int) from by first | assumption | omega) (show (F 21).toInt < 2000000000 from by first | assumption | omega) (show x + 1 < 1073741824 ∧ r_53.toInt < 1073741824 from by first | assumption | omega) (show ∀ q9 : Int, x + 1 ≤ q9 → q9 < r_53.toInt → D q9 < d - 1 from fun q9 h1 h2 => by have := NST_af hne (p := x) (q := q9) (by omega) (by omega); omega) (show NST (X 1) D gf from by assumption) H.size) (cwV 3 hts kX8_patternFits_X8_patternsFit_70 rfl rfl rfl (by decide +kernel) ⟨show (2 * (d - 1) + 4) + 1 ≤ 2 * d + 3 from by omega, show 8 + (6 + 11) + (60 * (d - 1) + 130) ≤ 60 * d + 105 from by omega⟩) (va_recv hK hP (ci := 8) (q0 := 8) rfl rfl) hK hNW hP hD hS hA rfl rfl hl.1 (lv_room (Nat.le_of_ble_eq_true rfl)) dX8_patternFits_53 hcs (fun r_56 F_57 X_58 hw_59 H locs hP hD hS => ?_)
        have hw_59 : (r_56).toInt = 0 ∨ (r_56).toInt = 1 := hw_59
        have hz := hw_59
        have i_60 := i32r r_56
        have e0 : (oI r_56.toInt).toInt = r_56.toInt := congrArg Int32.toInt (oI_toInt _)
        have eX9 : rg 17 18 X (rg 17 18 X X_58) = rg 17 18 X X_58 := by funext k; simp only [rg, va_up]; (repeat' split) <;> first | with_reducible rfl | omega
        have hP9 : va_P (dC, dI) vwCl (CW cB cC cI cJ cZ a F (rg 17 18 X (rg 17 18 X X_58)) J R gf gn) H := by rw [eX9]; exact hP
        have hD9 : va_D A (CW cB cC cI cJ cZ a F (rg 17 18 X (rg 17 18 X X_58)) J R gf gn) := by rw [eX9]; exact hD
        have hpost : (oI r_56.toInt).toInt = 0 ∨ (oI r_56.toInt).toInt = 1 := by first | assumption | omega | (with_reducible rfl) | ((repeat' apply And.intro) <;> first | assumption | omega | (with_reducible rfl))
        exact W.zret (v := (oI r_56.toInt)) hx hb hr (by first | rfl | decide | exact zb9 (by omega)) (fun t ht hW => ⟨⟨(oI r_56.toInt), (F, rg 17 18 X X_58), rfl, hpost, by rw [ht]; exact hP9, va_K.moved hW.alike hK, hD9⟩, hS.F ht⟩) hS.2.2 dX8_patternFits_56
  · refine lv_aload_n hx hb dX8_patternFits_4 rfl (lv_at hl 0 rfl) ?_
    refine cg_8_0 hx hb hts inX8_patternFits_X8 hown hK hP (hts _ lkX8_patternFits_f15) dX8_patternFits_5 ?_
    refine lv_iload_n hx hb dX8_patternFits_8 rfl (lv_at hl 1 rfl) ?_
    refine ccs_iV (As := [.int (oI x)]) (rest := []) ⟨hx, hb, hml, hown, hts⟩ (c_holdsDots l dC dI cB cC cI cJ cZ a F X J R gf gn x  (by omega) (show gf ≤ 67600 from by first | assumption | omega) (show SPR (X 1) from by first | assumption | omega) (show x < 1073741824 from by first | assumption | omega) s.heap.size) (cwV 1 hts kX8_patternFits_X1_holdsDots_85 rfl rfl rfl (by decide +kernel) ⟨show 2 + 1 ≤ 2 * d + 3 from by omega, show 8 + (3 + 11) + 82 ≤ 60 * d + 105 from by omega⟩) (va_recv hK hP (ci := 1) (q0 := 1) rfl rfl) hK hNW hP hD hS hA rfl rfl hl.1 (lv_room (Nat.le_of_ble_eq_true rfl)) dX8_patternFits_9 hcs (fun r_61 hw_62 H locs hP hD hS => ?_)
    have hw_62 : (r_61).toInt = 0 ∨ (r_61).toInt = 1 := hw_62
    have hz := hw_62
    have i_63 := i32r r_61
    refine cz_eq (tgt := 17) hx hb (i32r _) dX8_patternFits_12 (by decide) (fun c_64 => ?_) (fun c_64 => ?_)
    · refine lv_iload_n hx hb dX8_patternFits_17 rfl (lv_at hl 2 rfl) ?_
      refine cz_eq (tgt := 25) hx hb (by omega) dX8_patternFits_18 (by decide) (fun c_65 => ?_) (fun c_65 => ?_)
      · refine lv_iload_n hx hb dX8_patternFits_25 rfl (lv_at hl 3 rfl) ?_
        refine lv_istore (lv' := [(4, .int (oI z)), (0, .ref (a 8)), (1, .int (oI x)), (2, .int (oI y)), (3, .int (oI z))]) hx hb dX8_patternFits_26 hl (by decide) rfl (fun ls hl => ?_)
        refine lv_aload_n hx hb dX8_patternFits_28 rfl (lv_at hl 1 rfl) ?_
        refine cg_8_0 hx hb hts inX8_patternFits_X8 hown hK hP (hts _ lkX8_patternFits_f15) dX8_patternFits_29 ?_
        refine lv_iload_n hx hb dX8_patternFits_32 rfl (lv_at hl 2 rfl) ?_
        refine ccs_iV (As := [.int (oI x)]) (rest := []) ⟨hx, hb, hml, hown, hts⟩ (c_isList l dC dI cB cC cI cJ cZ a F X J R gf gn x  (by omega) (show gf ≤ 67600 from by first | assumption | omega)  H.size) (cwV 1 hts kX8_patternFits_X1_isList_56 rfl rfl rfl (by decide +kernel) ⟨show 1 + 1 ≤ 2 * d + 3 from by omega, show 8 + (2 + 11) + 60 ≤ 60 * d + 105 from by omega⟩) (va_recv hK hP (ci := 1) (q0 := 1) rfl rfl) hK hNW hP hD hS hA rfl rfl hl.1 (lv_room (Nat.le_of_ble_eq_true rfl)) dX8_patternFits_33 hcs (fun r_66 hw_67 H locs hP hD hS => ?_)
        have hw_67 : ((r_66).toInt = 1 ∧ 0 ≤ x ∧ x < (gf : Int)) ∨ (r_66).toInt = 0 := hw_67
        have hil := hw_67
        have i_68 := i32r r_66
        refine cz_eq (tgt := 57) hx hb (i32r _) dX8_patternFits_36 (by decide) (fun c_69 => ?_) (fun c_69 => ?_)
        · refine lv_aload_n hx hb dX8_patternFits_57 rfl (lv_at hl 1 rfl) ?_
          refine cg_8_0 hx hb hts inX8_patternFits_X8 hown hK hP (hts _ lkX8_patternFits_f15) dX8_patternFits_58 ?_
          refine lv_iload_n hx hb dX8_patternFits_61 rfl (lv_at hl 2 rfl) ?_
          refine ccs_iV (As := [.int (oI x)]) (rest := []) ⟨hx, hb, hml, hown, hts⟩ (c_nameOf l dC dI cB cC cI cJ cZ a F X J R gf gn x  (by omega) (show gf ≤ 67600 from by first | assumption | omega)  H.size) (cwV 1 hts kX8_patternFits_X1_nameOf_59 rfl rfl rfl (by decide +kernel) ⟨show 1 + 1 ≤ 2 * d + 3 from by omega, show 8 + (3 + 11) + 60 ≤ 60 * d + 105 from by omega⟩) (va_recv hK hP (ci := 1) (q0 := 1) rfl rfl) hK hNW hP hD hS hA rfl rfl hl.1 (lv_room (Nat.le_of_ble_eq_true rfl)) dX8_patternFits_62 hcs (fun r_70 hw_71 H locs hP hD hS => ?_)
          have i_72 := i32r r_70
          refine lv_istore (lv' := [(5, .int (oI r_70.toInt)), (4, .int (oI z)), (0, .ref (a 8)), (1, .int (oI x)), (2, .int (oI y)), (3, .int (oI z))]) hx hb dX8_patternFits_65 hl (by decide) rfl (fun ls hl => ?_)
          refine lv_iload hx hb dX8_patternFits_67 (lv_at hl 0 rfl) ?_
          refine lv_iconst (v := oI (-1)) hx hb dX8_patternFits_69 (by decide) ?_
          refine ci_eq (tgt := 96) hx hb (i32r _) (by decide) dX8_patternFits_70 (by decide) (fun c_73 => ?_) (fun c_73 => ?_)
          · refine lv_iconst (v := oI 1) hx hb dX8_patternFits_96 (by decide) ?_
            have e0 : (oI 1).toInt = 1 := by decide
            have eX9 : rg 17 18 X X = X := by funext k; simp only [rg, va_up]; (repeat' split) <;> first | with_reducible rfl | omega
            have hP9 : va_P (dC, dI) vwCl (CW cB cC cI cJ cZ a F (rg 17 18 X X) J R gf gn) H := by rw [eX9]; exact hP
            have hD9 : va_D A (CW cB cC cI cJ cZ a F (rg 17 18 X X) J R gf gn) := by rw [eX9]; exact hD
            have hpost : (oI 1).toInt = 0 ∨ (oI 1).toInt = 1 := by first | assumption | omega | (with_reducible rfl) | ((repeat' apply And.intro) <;> first | assumption | omega | (with_reducible rfl))
            exact W.zret (v := (oI 1)) hx hb hr (by first | rfl | decide | exact zb9 (by omega)) (fun t ht hW => ⟨⟨(oI 1), (F, X), rfl, hpost, by rw [ht]; exact hP9, va_K.moved hW.alike hK, hD9⟩, hS.F ht⟩) hS.2.2 dX8_patternFits_97
          · refine lv_iload hx hb dX8_patternFits_73 (lv_at hl 0 rfl) ?_
            refine lv_bipush (v := oI 8) hx hb dX8_patternFits_75 (by decide) ?_
            refine ci_eq (tgt := 96) hx hb (i32r _) (by decide) dX8_patternFits_77 (by decide) (fun c_74 => ?_) (fun c_74 => ?_)
            · refine lv_iconst (v := oI 1) hx hb dX8_patternFits_96 (by decide) ?_
              have e0 : (oI 1).toInt = 1 := by decide
              have eX9 : rg 17 18 X X = X := by funext k; simp only [rg, va_up]; (repeat' split) <;> first | with_reducible rfl | omega
              have hP9 : va_P (dC, dI) vwCl (CW cB cC cI cJ cZ a F (rg 17 18 X X) J R gf gn) H := by rw [eX9]; exact hP
              have hD9 : va_D A (CW cB cC cI cJ cZ a F (rg 17 18 X X) J R gf gn) := by rw [eX9]; exact hD
              have hpost : (oI 1).toInt = 0 ∨ (oI 1).toInt = 1 := by first | assumption | omega | (with_reducible rfl) | ((repeat' apply And.intro) <;> first | assumption | omega | (with_reducible rfl))
              exact W.zret (v := (oI 1)) hx hb hr (by first | rfl | decide | exact zb9 (by omega)) (fun t ht hW => ⟨⟨(oI 1), (F, X), rfl, hpost, by rw [ht]; exact hP9, va_K.moved hW.alike hK, hD9⟩, hS.F ht⟩) hS.2.2 dX8_patternFits_97
            · refine lv_aload_n hx hb dX8_patternFits_80 rfl (lv_at hl 2 rfl) ?_
              refine cg_8_0 hx hb hts inX8_patternFits_X8 hown hK hP (hts _ lkX8_patternFits_f15) dX8_patternFits_81 ?_
              refine lv_aload_n hx hb dX8_patternFits_84 rfl (lv_at hl 2 rfl) ?_
              refine cg_8_3 hx hb hts inX8_patternFits_X8 hown hK hP (hts _ lkX8_patternFits_f9) dX8_patternFits_85 ?_
              have i_75 := i32r (F 21)
              refine lv_iload hx hb dX8_patternFits_88 (lv_at hl 0 rfl) ?_
              refine ccs_iS (As := [.ref (a 1), .int (oI ((F 21).toInt)), .int (oI r_70.toInt)]) (rest := []) ⟨hx, hb, hml, hown, hts⟩ (c_isLiteral l dC dI cB cC cI cJ cZ a F X J R gf gn ((F 21).toInt) r_70.toInt  (i32r _) (i32r _) (show gf ≤ 67600 from by first | assumption | omega) (show SPR (X 1) from by first | assumption | omega) (show (F 21).toInt < 2000000000 from by first | assumption | omega) H.size) (va_cwS 3 hts kX8_patternFits_X8_isLiteral_88 rfl rfl rfl (by decide +kernel) ⟨show 2 + 1 ≤ 2 * d + 3 from by omega, show 8 + (4 + 11) + 82 ≤ 60 * d + 105 from by omega⟩) hK hNW hP hD hS hA rfl rfl hl.1 (lv_room (Nat.le_of_ble_eq_true rfl)) dX8_patternFits_90 hcs (fun r_76 hw_77 H locs hP hD hS => ?_)
              have hw_77 : (r_76).toInt = 0 ∨ (r_76).toInt = 1 := hw_77
              have hz := hw_77
              have i_78 := i32r r_76
              refine cz_eq (tgt := 98) hx hb (i32r _) dX8_patternFits_93 (by decide) (fun c_79 => ?_) (fun c_79 => ?_)
              · refine lv_aload_n hx hb dX8_patternFits_98 rfl (lv_at hl 2 rfl) ?_
                refine cg_8_1 hx hb hts inX8_patternFits_X8 hown hK hP (hts _ lkX8_patternFits_f19) dX8_patternFits_99 ?_
                refine lv_iload hx hb dX8_patternFits_102 (lv_at hl 0 rfl) ?_
                refine ccs_iV (As := [.int (oI r_70.toInt)]) (rest := []) ⟨hx, hb, hml, hown, hts⟩ (c_isNoted l dC dI cB cC cI cJ cZ a F X J R gf gn r_70.toInt  (i32r _) (show gn ≤ 63261 from by first | assumption | omega) (show 0 ≤ (F 13).toInt ∧ (F 13).toInt ≤ (gn : Int) from by first | assumption | omega)  H.size) (cwV 1 hts kX8_patternFits_X6_isNoted_92 rfl rfl rfl (by decide +kernel) ⟨show 1 + 1 ≤ 2 * d + 3 from by omega, show 8 + (2 + 11) + 60 ≤ 60 * d + 105 from by omega⟩) (va_recv hK hP (ci := 6) (q0 := 6) rfl rfl) hK hNW hP hD hS hA rfl rfl hl.1 (lv_room (Nat.le_of_ble_eq_true rfl)) dX8_patternFits_104 hcs (fun r_80 hw_81 H locs hP hD hS => ?_)
                have i_82 := i32r r_80
                refine cz_eq (tgt := 112) hx hb (i32r _) dX8_patternFits_107 (by decide) (fun c_83 => ?_) (fun c_83 => ?_)
                · refine lv_aload_n hx hb dX8_patternFits_112 rfl (lv_at hl 2 rfl) ?_
                  refine cg_8_1 hx hb hts inX8_patternFits_X8 hown hK hP (hts _ lkX8_patternFits_f19) dX8_patternFits_113 ?_
                  refine lv_iload hx hb dX8_patternFits_116 (lv_at hl 0 rfl) ?_
                  refine lv_iload hx hb dX8_patternFits_118 (lv_at hl 1 rfl) ?_
                  refine ccp_vV (As := [.int (oI r_70.toInt), .int (oI z)]) (rest := []) (gF := fun _ => F) (gX := fun X9 => rg 17 18 X X9) ⟨hx, hb, hml, hown, hts⟩ (c_setNote l dC dI cB cC cI cJ cZ a F X J R gf gn r_70.toInt z  (i32r _) (by omega) (show gn ≤ 63261 from by first | assumption | omega) (show 0 ≤ (F 13).toInt ∧ (F 13).toInt ≤ (gn : Int) from by first | assumption | omega)  H.size) (cwV 2 hts kX8_patternFits_X6_setNote_95 rfl rfl rfl (by decide +kernel) ⟨show 2 + 1 ≤ 2 * d + 3 from by omega, show 8 + (3 + 11) + 81 ≤ 60 * d + 105 from by omega⟩) (va_recv hK hP (ci := 6) (q0 := 6) rfl rfl) hK hNW hP hD hS hA rfl rfl hl.1 (lv_room (Nat.le_of_ble_eq_true rfl)) dX8_patternFits_120 hcs (fun F_84 X_85 hw_86 H locs hP hD hS => ?_)
                  refine lv_iconst (v := oI 1) hx hb dX8_patternFits_123 (by decide) ?_
                  have e0 : (oI 1).toInt = 1 := by decide
                  have eX9 : rg 17 18 X (rg 17 18 X X_85) = rg 17 18 X X_85 := by funext k; simp only [rg, va_up]; (repeat' split) <;> first | with_reducible rfl | omega
                  have hP9 : va_P (dC, dI) vwCl (CW cB cC cI cJ cZ a F (rg 17 18 X (rg 17 18 X X_85)) J R gf gn) H := by rw [eX9]; exact hP
                  have hD9 : va_D A (CW cB cC cI cJ cZ a F (rg 17 18 X (rg 17 18 X X_85)) J R gf gn) := by rw [eX9]; exact hD
                  have hpost : (oI 1).toInt = 0 ∨ (oI 1).toInt = 1 := by first | assumption | omega | (with_reducible rfl) | ((repeat' apply And.intro) <;> first | assumption | omega | (with_reducible rfl))
                  exact W.zret (v := (oI 1)) hx hb hr (by first | rfl | decide | exact zb9 (by omega)) (fun t ht hW => ⟨⟨(oI 1), (F, rg 17 18 X X_85), rfl, hpost, by rw [ht]; exact hP9, va_K.moved hW.alike hK, hD9⟩, hS.F ht⟩) hS.2.2 dX8_patternFits_124
                · refine lv_iconst (v := oI 0) hx hb dX8_patternFits_110 (by decide) ?_
                  have e0 : (oI 0).toInt = 0 := by decide
                  have eX9 : rg 17 18 X X = X := by funext k; simp only [rg, va_up]; (repeat' split) <;> first | with_reducible rfl | omega
                  have hP9 : va_P (dC, dI) vwCl (CW cB cC cI cJ cZ a F (rg 17 18 X X) J R gf gn) H := by rw [eX9]; exact hP
                  have hD9 : va_D A (CW cB cC cI cJ cZ a F (rg 17 18 X X) J R gf gn) := by rw [eX9]; exact hD
                  have hpost : (oI 0).toInt = 0 ∨ (oI 0).toInt = 1 := by first | assumption | omega | (with_reducible rfl) | ((repeat' apply And.intro) <;> first | assumption | omega | (with_reducible rfl))
                  exact W.zret (v := (oI 0)) hx hb hr (by first | rfl | decide | exact zb9 (by omega)) (fun t ht hW => ⟨⟨(oI 0), (F, X), rfl, hpost, by rw [ht]; exact hP9, va_K.moved hW.alike hK, hD9⟩, hS.F ht⟩) hS.2.2 dX8_patternFits_111
              · refine lv_iconst (v := oI 1) hx hb dX8_patternFits_96 (by decide) ?_
                have e0 : (oI 1).toInt = 1 := by decide
                have eX9 : rg 17 18 X X = X := by funext k; simp only [rg, va_up]; (repeat' split) <;> first | with_reducible rfl | omega
                have hP9 : va_P (dC, dI) vwCl (CW cB cC cI cJ cZ a F (rg 17 18 X X) J R gf gn) H := by rw [eX9]; exact hP
                have hD9 : va_D A (CW cB cC cI cJ cZ a F (rg 17 18 X X) J R gf gn) := by rw [eX9]; exact hD
                have hpost : (oI 1).toInt = 0 ∨ (oI 1).toInt = 1 := by first | assumption | omega | (with_reducible rfl) | ((repeat' apply And.intro) <;> first | assumption | omega | (with_reducible rfl))
                exact W.zret (v := (oI 1)) hx hb hr (by first | rfl | decide | exact zb9 (by omega)) (fun t ht hW => ⟨⟨(oI 1), (F, X), rfl, hpost, by rw [ht]; exact hP9, va_K.moved hW.alike hK, hD9⟩, hS.F ht⟩) hS.2.2 dX8_patternFits_97
        · refine lv_aload_n hx hb dX8_patternFits_39 rfl (lv_at hl 1 rfl) ?_
          refine lv_iload_n hx hb dX8_patternFits_40 rfl (lv_at hl 2 rfl) ?_
          refine lv_iconst (v := oI 1) hx hb dX8_patternFits_41 (by decide) ?_
          refine lv_iadd hx hb dX8_patternFits_42 ?_
          refine tp_i (oI_add x 1) ?_
          refine lv_aload_n hx hb dX8_patternFits_43 rfl (lv_at hl 1 rfl) ?_
          refine cg_8_0 hx hb hts inX8_patternFits_X8 hown hK hP (hts _ lkX8_patternFits_f15) dX8_patternFits_44 ?_
          refine lv_iload_n hx hb dX8_patternFits_47 rfl (lv_at hl 2 rfl) ?_
          refine ccs_iV (As := [.int (oI x)]) (rest := [.int (oI (x + 1)), .ref (a 8)]) ⟨hx, hb, hml, hown, hts⟩ (c_after l dC dI cB cC cI cJ cZ a F X J R gf gn x  (by omega) (show gf ≤ 67600 from by first | assumption | omega) (show SPR (X 1) from by first | assumption | omega) (show x < 2147483647 from by first | assumption | omega) H.size) (cwV 1 hts kX8_patternFits_X1_after_49 rfl rfl rfl (by decide +kernel) ⟨show 1 + 1 ≤ 2 * d + 3 from by omega, show 8 + (2 + 11) + 60 ≤ 60 * d + 105 from by omega⟩) (va_recv hK hP (ci := 1) (q0 := 1) rfl rfl) hK hNW hP hD hS hA rfl rfl hl.1 (lv_room (Nat.le_of_ble_eq_true rfl)) dX8_patternFits_48 hcs (fun r_87 hw_88 H locs hP hD hS => ?_)
          have hw_88 : (r_87).toInt = AF (X 1) gf x ∧ x < (r_87).toInt ∧ (r_87).toInt ≤ x + 67600 := hw_88
          obtain ⟨ea, la, ua⟩ := hw_88
          have i_89 := i32r r_87
          refine lv_iload hx hb dX8_patternFits_51 (lv_at hl 0 rfl) ?_
          refine ccp_iV (As := [.int (oI (x + 1)), .int (oI r_87.toInt), .int (oI z)]) (rest := []) (gF := fun _ => F) (gX := fun X9 => rg 17 18 X X9) ⟨hx, hb, hml, hown, hts⟩ ((hI (d - 1) (by omega)) dC dI cB cC cI cJ cZ a F X J R gf gn (x + 1) r_87.toInt z D (by omega) (i32r _) (by omega) (show gf ≤ 67600 from by first | assumption | omega) (show gn ≤ 63261 from by first | assumption | omega) (show SPR (X 1) from by first | assumption | omega) (show 0 ≤ (F 13).toInt ∧ (F 13).toInt ≤ (gn : Int) from by first | assumption | omega) (show (F 21).toInt < 2000000000 from by first | assumption | omega) (show x + 1 < 1073741824 ∧ r_87.toInt < 1073741824 from by first | assumption | omega) (show ∀ q9 : Int, x + 1 ≤ q9 → q9 < r_87.toInt → D q9 < d - 1 from fun q9 h1 h2 => by have := NST_af hne (p := x) (q := q9) (by omega) (by omega); omega) (show NST (X 1) D gf from by assumption) H.size) (cwV 3 hts kX8_patternFits_X8_patternsFit_70 rfl rfl rfl (by decide +kernel) ⟨show (2 * (d - 1) + 4) + 1 ≤ 2 * d + 3 from by omega, show 8 + (6 + 11) + (60 * (d - 1) + 130) ≤ 60 * d + 105 from by omega⟩) (va_recv hK hP (ci := 8) (q0 := 8) rfl rfl) hK hNW hP hD hS hA rfl rfl hl.1 (lv_room (Nat.le_of_ble_eq_true rfl)) dX8_patternFits_53 hcs (fun r_90 F_91 X_92 hw_93 H locs hP hD hS => ?_)
          have hw_93 : (r_90).toInt = 0 ∨ (r_90).toInt = 1 := hw_93
          have hz := hw_93
          have i_94 := i32r r_90
          have e0 : (oI r_90.toInt).toInt = r_90.toInt := congrArg Int32.toInt (oI_toInt _)
          have eX9 : rg 17 18 X (rg 17 18 X X_92) = rg 17 18 X X_92 := by funext k; simp only [rg, va_up]; (repeat' split) <;> first | with_reducible rfl | omega
          have hP9 : va_P (dC, dI) vwCl (CW cB cC cI cJ cZ a F (rg 17 18 X (rg 17 18 X X_92)) J R gf gn) H := by rw [eX9]; exact hP
          have hD9 : va_D A (CW cB cC cI cJ cZ a F (rg 17 18 X (rg 17 18 X X_92)) J R gf gn) := by rw [eX9]; exact hD
          have hpost : (oI r_90.toInt).toInt = 0 ∨ (oI r_90.toInt).toInt = 1 := by first | assumption | omega | (with_reducible rfl) | ((repeat' apply And.intro) <;> first | assumption | omega | (with_reducible rfl))
          exact W.zret (v := (oI r_90.toInt)) hx hb hr (by first | rfl | decide | exact zb9 (by omega)) (fun t ht hW => ⟨⟨(oI r_90.toInt), (F, rg 17 18 X X_92), rfl, hpost, by rw [ht]; exact hP9, va_K.moved hW.alike hK, hD9⟩, hS.F ht⟩) hS.2.2 dX8_patternFits_56
      · refine lv_iconst (v := oI 1) hx hb dX8_patternFits_21 (by decide) ?_
        refine lv_goto (tgt := 26) hx hb dX8_patternFits_22 (by decide) ?_
        refine lv_istore (lv' := [(4, .int (oI 1)), (0, .ref (a 8)), (1, .int (oI x)), (2, .int (oI y)), (3, .int (oI z))]) hx hb dX8_patternFits_26 hl (by decide) rfl (fun ls hl => ?_)
        refine lv_aload_n hx hb dX8_patternFits_28 rfl (lv_at hl 1 rfl) ?_
        refine cg_8_0 hx hb hts inX8_patternFits_X8 hown hK hP (hts _ lkX8_patternFits_f15) dX8_patternFits_29 ?_
        refine lv_iload_n hx hb dX8_patternFits_32 rfl (lv_at hl 2 rfl) ?_
        refine ccs_iV (As := [.int (oI x)]) (rest := []) ⟨hx, hb, hml, hown, hts⟩ (c_isList l dC dI cB cC cI cJ cZ a F X J R gf gn x  (by omega) (show gf ≤ 67600 from by first | assumption | omega)  H.size) (cwV 1 hts kX8_patternFits_X1_isList_56 rfl rfl rfl (by decide +kernel) ⟨show 1 + 1 ≤ 2 * d + 3 from by omega, show 8 + (2 + 11) + 60 ≤ 60 * d + 105 from by omega⟩) (va_recv hK hP (ci := 1) (q0 := 1) rfl rfl) hK hNW hP hD hS hA rfl rfl hl.1 (lv_room (Nat.le_of_ble_eq_true rfl)) dX8_patternFits_33 hcs (fun r_95 hw_96 H locs hP hD hS => ?_)
        have hw_96 : ((r_95).toInt = 1 ∧ 0 ≤ x ∧ x < (gf : Int)) ∨ (r_95).toInt = 0 := hw_96
        have hil := hw_96
        have i_97 := i32r r_95
        refine cz_eq (tgt := 57) hx hb (i32r _) dX8_patternFits_36 (by decide) (fun c_98 => ?_) (fun c_98 => ?_)
        · refine lv_aload_n hx hb dX8_patternFits_57 rfl (lv_at hl 1 rfl) ?_
          refine cg_8_0 hx hb hts inX8_patternFits_X8 hown hK hP (hts _ lkX8_patternFits_f15) dX8_patternFits_58 ?_
          refine lv_iload_n hx hb dX8_patternFits_61 rfl (lv_at hl 2 rfl) ?_
          refine ccs_iV (As := [.int (oI x)]) (rest := []) ⟨hx, hb, hml, hown, hts⟩ (c_nameOf l dC dI cB cC cI cJ cZ a F X J R gf gn x  (by omega) (show gf ≤ 67600 from by first | assumption | omega)  H.size) (cwV 1 hts kX8_patternFits_X1_nameOf_59 rfl rfl rfl (by decide +kernel) ⟨show 1 + 1 ≤ 2 * d + 3 from by omega, show 8 + (3 + 11) + 60 ≤ 60 * d + 105 from by omega⟩) (va_recv hK hP (ci := 1) (q0 := 1) rfl rfl) hK hNW hP hD hS hA rfl rfl hl.1 (lv_room (Nat.le_of_ble_eq_true rfl)) dX8_patternFits_62 hcs (fun r_99 hw_100 H locs hP hD hS => ?_)
          have i_101 := i32r r_99
          refine lv_istore (lv' := [(5, .int (oI r_99.toInt)), (4, .int (oI 1)), (0, .ref (a 8)), (1, .int (oI x)), (2, .int (oI y)), (3, .int (oI z))]) hx hb dX8_patternFits_65 hl (by decide) rfl (fun ls hl => ?_)
          refine lv_iload hx hb dX8_patternFits_67 (lv_at hl 0 rfl) ?_
          refine lv_iconst (v := oI (-1)) hx hb dX8_patternFits_69 (by decide) ?_
          refine ci_eq (tgt := 96) hx hb (i32r _) (by decide) dX8_patternFits_70 (by decide) (fun c_102 => ?_) (fun c_102 => ?_)
          · refine lv_iconst (v := oI 1) hx hb dX8_patternFits_96 (by decide) ?_
            have e0 : (oI 1).toInt = 1 := by decide
            have eX9 : rg 17 18 X X = X := by funext k; simp only [rg, va_up]; (repeat' split) <;> first | with_reducible rfl | omega
            have hP9 : va_P (dC, dI) vwCl (CW cB cC cI cJ cZ a F (rg 17 18 X X) J R gf gn) H := by rw [eX9]; exact hP
            have hD9 : va_D A (CW cB cC cI cJ cZ a F (rg 17 18 X X) J R gf gn) := by rw [eX9]; exact hD
            have hpost : (oI 1).toInt = 0 ∨ (oI 1).toInt = 1 := by first | assumption | omega | (with_reducible rfl) | ((repeat' apply And.intro) <;> first | assumption | omega | (with_reducible rfl))
            exact W.zret (v := (oI 1)) hx hb hr (by first | rfl | decide | exact zb9 (by omega)) (fun t ht hW => ⟨⟨(oI 1), (F, X), rfl, hpost, by rw [ht]; exact hP9, va_K.moved hW.alike hK, hD9⟩, hS.F ht⟩) hS.2.2 dX8_patternFits_97
          · refine lv_iload hx hb dX8_patternFits_73 (lv_at hl 0 rfl) ?_
            refine lv_bipush (v := oI 8) hx hb dX8_patternFits_75 (by decide) ?_
            refine ci_eq (tgt := 96) hx hb (i32r _) (by decide) dX8_patternFits_77 (by decide) (fun c_103 => ?_) (fun c_103 => ?_)
            · refine lv_iconst (v := oI 1) hx hb dX8_patternFits_96 (by decide) ?_
              have e0 : (oI 1).toInt = 1 := by decide
              have eX9 : rg 17 18 X X = X := by funext k; simp only [rg, va_up]; (repeat' split) <;> first | with_reducible rfl | omega
              have hP9 : va_P (dC, dI) vwCl (CW cB cC cI cJ cZ a F (rg 17 18 X X) J R gf gn) H := by rw [eX9]; exact hP
              have hD9 : va_D A (CW cB cC cI cJ cZ a F (rg 17 18 X X) J R gf gn) := by rw [eX9]; exact hD
              have hpost : (oI 1).toInt = 0 ∨ (oI 1).toInt = 1 := by first | assumption | omega | (with_reducible rfl) | ((repeat' apply And.intro) <;> first | assumption | omega | (with_reducible rfl))
              exact W.zret (v := (oI 1)) hx hb hr (by first | rfl | decide | exact zb9 (by omega)) (fun t ht hW => ⟨⟨(oI 1), (F, X), rfl, hpost, by rw [ht]; exact hP9, va_K.moved hW.alike hK, hD9⟩, hS.F ht⟩) hS.2.2 dX8_patternFits_97
            · refine lv_aload_n hx hb dX8_patternFits_80 rfl (lv_at hl 2 rfl) ?_
              refine cg_8_0 hx hb hts inX8_patternFits_X8 hown hK hP (hts _ lkX8_patternFits_f15) dX8_patternFits_81 ?_
              refine lv_aload_n hx hb dX8_patternFits_84 rfl (lv_at hl 2 rfl) ?_
              refine cg_8_3 hx hb hts inX8_patternFits_X8 hown hK hP (hts _ lkX8_patternFits_f9) dX8_patternFits_85 ?_
              have i_104 := i32r (F 21)
              refine lv_iload hx hb dX8_patternFits_88 (lv_at hl 0 rfl) ?_
              refine ccs_iS (As := [.ref (a 1), .int (oI ((F 21).toInt)), .int (oI r_99.toInt)]) (rest := []) ⟨hx, hb, hml, hown, hts⟩ (c_isLiteral l dC dI cB cC cI cJ cZ a F X J R gf gn ((F 21).toInt) r_99.toInt  (i32r _) (i32r _) (show gf ≤ 67600 from by first | assumption | omega) (show SPR (X 1) from by first | assumption | omega) (show (F 21).toInt < 2000000000 from by first | assumption | omega) H.size) (va_cwS 3 hts kX8_patternFits_X8_isLiteral_88 rfl rfl rfl (by decide +kernel) ⟨show 2 + 1 ≤ 2 * d + 3 from by omega, show 8 + (4 + 11) + 82 ≤ 60 * d + 105 from by omega⟩) hK hNW hP hD hS hA rfl rfl hl.1 (lv_room (Nat.le_of_ble_eq_true rfl)) dX8_patternFits_90 hcs (fun r_105 hw_106 H locs hP hD hS => ?_)
              have hw_106 : (r_105).toInt = 0 ∨ (r_105).toInt = 1 := hw_106
              have hz := hw_106
              have i_107 := i32r r_105
              refine cz_eq (tgt := 98) hx hb (i32r _) dX8_patternFits_93 (by decide) (fun c_108 => ?_) (fun c_108 => ?_)
              · refine lv_aload_n hx hb dX8_patternFits_98 rfl (lv_at hl 2 rfl) ?_
                refine cg_8_1 hx hb hts inX8_patternFits_X8 hown hK hP (hts _ lkX8_patternFits_f19) dX8_patternFits_99 ?_
                refine lv_iload hx hb dX8_patternFits_102 (lv_at hl 0 rfl) ?_
                refine ccs_iV (As := [.int (oI r_99.toInt)]) (rest := []) ⟨hx, hb, hml, hown, hts⟩ (c_isNoted l dC dI cB cC cI cJ cZ a F X J R gf gn r_99.toInt  (i32r _) (show gn ≤ 63261 from by first | assumption | omega) (show 0 ≤ (F 13).toInt ∧ (F 13).toInt ≤ (gn : Int) from by first | assumption | omega)  H.size) (cwV 1 hts kX8_patternFits_X6_isNoted_92 rfl rfl rfl (by decide +kernel) ⟨show 1 + 1 ≤ 2 * d + 3 from by omega, show 8 + (2 + 11) + 60 ≤ 60 * d + 105 from by omega⟩) (va_recv hK hP (ci := 6) (q0 := 6) rfl rfl) hK hNW hP hD hS hA rfl rfl hl.1 (lv_room (Nat.le_of_ble_eq_true rfl)) dX8_patternFits_104 hcs (fun r_109 hw_110 H locs hP hD hS => ?_)
                have i_111 := i32r r_109
                refine cz_eq (tgt := 112) hx hb (i32r _) dX8_patternFits_107 (by decide) (fun c_112 => ?_) (fun c_112 => ?_)
                · refine lv_aload_n hx hb dX8_patternFits_112 rfl (lv_at hl 2 rfl) ?_
                  refine cg_8_1 hx hb hts inX8_patternFits_X8 hown hK hP (hts _ lkX8_patternFits_f19) dX8_patternFits_113 ?_
                  refine lv_iload hx hb dX8_patternFits_116 (lv_at hl 0 rfl) ?_
                  refine lv_iload hx hb dX8_patternFits_118 (lv_at hl 1 rfl) ?_
                  refine ccp_vV (As := [.int (oI r_99.toInt), .int (oI 1)]) (rest := []) (gF := fun _ => F) (gX := fun X9 => rg 17 18 X X9) ⟨hx, hb, hml, hown, hts⟩ (c_setNote l dC dI cB cC cI cJ cZ a F X J R gf gn r_99.toInt 1  (i32r _) (by decide) (show gn ≤ 63261 from by first | assumption | omega) (show 0 ≤ (F 13).toInt ∧ (F 13).toInt ≤ (gn : Int) from by first | assumption | omega)  H.size) (cwV 2 hts kX8_patternFits_X6_setNote_95 rfl rfl rfl (by decide +kernel) ⟨show 2 + 1 ≤ 2 * d + 3 from by omega, show 8 + (3 + 11) + 81 ≤ 60 * d + 105 from by omega⟩) (va_recv hK hP (ci := 6) (q0 := 6) rfl rfl) hK hNW hP hD hS hA rfl rfl hl.1 (lv_room (Nat.le_of_ble_eq_true rfl)) dX8_patternFits_120 hcs (fun F_113 X_114 hw_115 H locs hP hD hS => ?_)
                  refine lv_iconst (v := oI 1) hx hb dX8_patternFits_123 (by decide) ?_
                  have e0 : (oI 1).toInt = 1 := by decide
                  have eX9 : rg 17 18 X (rg 17 18 X X_114) = rg 17 18 X X_114 := by funext k; simp only [rg, va_up]; (repeat' split) <;> first | with_reducible rfl | omega
                  have hP9 : va_P (dC, dI) vwCl (CW cB cC cI cJ cZ a F (rg 17 18 X (rg 17 18 X X_114)) J R gf gn) H := by rw [eX9]; exact hP
                  have hD9 : va_D A (CW cB cC cI cJ cZ a F (rg 17 18 X (rg 17 18 X X_114)) J R gf gn) := by rw [eX9]; exact hD
                  have hpost : (oI 1).toInt = 0 ∨ (oI 1).toInt = 1 := by first | assumption | omega | (with_reducible rfl) | ((repeat' apply And.intro) <;> first | assumption | omega | (with_reducible rfl))
                  exact W.zret (v := (oI 1)) hx hb hr (by first | rfl | decide | exact zb9 (by omega)) (fun t ht hW => ⟨⟨(oI 1), (F, rg 17 18 X X_114), rfl, hpost, by rw [ht]; exact hP9, va_K.moved hW.alike hK, hD9⟩, hS.F ht⟩) hS.2.2 dX8_patternFits_124
                · refine lv_iconst (v := oI 0) hx hb dX8_patternFits_110 (by decide) ?_
                  have e0 : (oI 0).toInt = 0 := by decide
                  have eX9 : rg 17 18 X X = X := by funext k; simp only [rg, va_up]; (repeat' split) <;> first | with_reducible rfl | omega
                  have hP9 : va_P (dC, dI) vwCl (CW cB cC cI cJ cZ a F (rg 17 18 X X) J R gf gn) H := by rw [eX9]; exact hP
                  have hD9 : va_D A (CW cB cC cI cJ cZ a F (rg 17 18 X X) J R gf gn) := by rw [eX9]; exact hD
                  have hpost : (oI 0).toInt = 0 ∨ (oI 0).toInt = 1 := by first | assumption | omega | (with_reducible rfl) | ((repeat' apply And.intro) <;> first | assumption | omega | (with_reducible rfl))
                  exact W.zret (v := (oI 0)) hx hb hr (by first | rfl | decide | exact zb9 (by omega)) (fun t ht hW => ⟨⟨(oI 0), (F, X), rfl, hpost, by rw [ht]; exact hP9, va_K.moved hW.alike hK, hD9⟩, hS.F ht⟩) hS.2.2 dX8_patternFits_111
              · refine lv_iconst (v := oI 1) hx hb dX8_patternFits_96 (by decide) ?_
                have e0 : (oI 1).toInt = 1 := by decide
                have eX9 : rg 17 18 X X = X := by funext k; simp only [rg, va_up]; (repeat' split) <;> first | with_reducible rfl | omega
                have hP9 : va_P (dC, dI) vwCl (CW cB cC cI cJ cZ a F (rg 17 18 X X) J R gf gn) H := by rw [eX9]; exact hP
                have hD9 : va_D A (CW cB cC cI cJ cZ a F (rg 17 18 X X) J R gf gn) := by rw [eX9]; exact hD
                have hpost : (oI 1).toInt = 0 ∨ (oI 1).toInt = 1 := by first | assumption | omega | (with_reducible rfl) | ((repeat' apply And.intro) <;> first | assumption | omega | (with_reducible rfl))
                exact W.zret (v := (oI 1)) hx hb hr (by first | rfl | decide | exact zb9 (by omega)) (fun t ht hW => ⟨⟨(oI 1), (F, X), rfl, hpost, by rw [ht]; exact hP9, va_K.moved hW.alike hK, hD9⟩, hS.F ht⟩) hS.2.2 dX8_patternFits_97
        · refine lv_aload_n hx hb dX8_patternFits_39 rfl (lv_at hl 1 rfl) ?_
          refine lv_iload_n hx hb dX8_patternFits_40 rfl (lv_at hl 2 rfl) ?_
          refine lv_iconst (v := oI 1) hx hb dX8_patternFits_41 (by decide) ?_
          refine lv_iadd hx hb dX8_patternFits_42 ?_
          refine tp_i (oI_add x 1) ?_
          refine lv_aload_n hx hb dX8_patternFits_43 rfl (lv_at hl 1 rfl) ?_
          refine cg_8_0 hx hb hts inX8_patternFits_X8 hown hK hP (hts _ lkX8_patternFits_f15) dX8_patternFits_44 ?_
          refine lv_iload_n hx hb dX8_patternFits_47 rfl (lv_at hl 2 rfl) ?_
          refine ccs_iV (As := [.int (oI x)]) (rest := [.int (oI (x + 1)), .ref (a 8)]) ⟨hx, hb, hml, hown, hts⟩ (c_after l dC dI cB cC cI cJ cZ a F X J R gf gn x  (by omega) (show gf ≤ 67600 from by first | assumption | omega) (show SPR (X 1) from by first | assumption | omega) (show x < 2147483647 from by first | assumption | omega) H.size) (cwV 1 hts kX8_patternFits_X1_after_49 rfl rfl rfl (by decide +kernel) ⟨show 1 + 1 ≤ 2 * d + 3 from by omega, show 8 + (2 + 11) + 60 ≤ 60 * d + 105 from by omega⟩) (va_recv hK hP (ci := 1) (q0 := 1) rfl rfl) hK hNW hP hD hS hA rfl rfl hl.1 (lv_room (Nat.le_of_ble_eq_true rfl)) dX8_patternFits_48 hcs (fun r_116 hw_117 H locs hP hD hS => ?_)
          have hw_117 : (r_116).toInt = AF (X 1) gf x ∧ x < (r_116).toInt ∧ (r_116).toInt ≤ x + 67600 := hw_117
          obtain ⟨ea, la, ua⟩ := hw_117
          have i_118 := i32r r_116
          refine lv_iload hx hb dX8_patternFits_51 (lv_at hl 0 rfl) ?_
          refine ccp_iV (As := [.int (oI (x + 1)), .int (oI r_116.toInt), .int (oI 1)]) (rest := []) (gF := fun _ => F) (gX := fun X9 => rg 17 18 X X9) ⟨hx, hb, hml, hown, hts⟩ ((hI (d - 1) (by omega)) dC dI cB cC cI cJ cZ a F X J R gf gn (x + 1) r_116.toInt 1 D (by omega) (i32r _) (by decide) (show gf ≤ 67600 from by first | assumption | omega) (show gn ≤ 63261 from by first | assumption | omega) (show SPR (X 1) from by first | assumption | omega) (show 0 ≤ (F 13).toInt ∧ (F 13).toInt ≤ (gn : Int) from by first | assumption | omega) (show (F 21).toInt < 2000000000 from by first | assumption | omega) (show x + 1 < 1073741824 ∧ r_116.toInt < 1073741824 from by first | assumption | omega) (show ∀ q9 : Int, x + 1 ≤ q9 → q9 < r_116.toInt → D q9 < d - 1 from fun q9 h1 h2 => by have := NST_af hne (p := x) (q := q9) (by omega) (by omega); omega) (show NST (X 1) D gf from by assumption) H.size) (cwV 3 hts kX8_patternFits_X8_patternsFit_70 rfl rfl rfl (by decide +kernel) ⟨show (2 * (d - 1) + 4) + 1 ≤ 2 * d + 3 from by omega, show 8 + (6 + 11) + (60 * (d - 1) + 130) ≤ 60 * d + 105 from by omega⟩) (va_recv hK hP (ci := 8) (q0 := 8) rfl rfl) hK hNW hP hD hS hA rfl rfl hl.1 (lv_room (Nat.le_of_ble_eq_true rfl)) dX8_patternFits_53 hcs (fun r_119 F_120 X_121 hw_122 H locs hP hD hS => ?_)
          have hw_122 : (r_119).toInt = 0 ∨ (r_119).toInt = 1 := hw_122
          have hz := hw_122
          have i_123 := i32r r_119
          have e0 : (oI r_119.toInt).toInt = r_119.toInt := congrArg Int32.toInt (oI_toInt _)
          have eX9 : rg 17 18 X (rg 17 18 X X_121) = rg 17 18 X X_121 := by funext k; simp only [rg, va_up]; (repeat' split) <;> first | with_reducible rfl | omega
          have hP9 : va_P (dC, dI) vwCl (CW cB cC cI cJ cZ a F (rg 17 18 X (rg 17 18 X X_121)) J R gf gn) H := by rw [eX9]; exact hP
          have hD9 : va_D A (CW cB cC cI cJ cZ a F (rg 17 18 X (rg 17 18 X X_121)) J R gf gn) := by rw [eX9]; exact hD
          have hpost : (oI r_119.toInt).toInt = 0 ∨ (oI r_119.toInt).toInt = 1 := by first | assumption | omega | (with_reducible rfl) | ((repeat' apply And.intro) <;> first | assumption | omega | (with_reducible rfl))
          exact W.zret (v := (oI r_119.toInt)) hx hb hr (by first | rfl | decide | exact zb9 (by omega)) (fun t ht hW => ⟨⟨(oI r_119.toInt), (F, rg 17 18 X X_121), rfl, hpost, by rw [ht]; exact hP9, va_K.moved hW.alike hK, hD9⟩, hS.F ht⟩) hS.2.2 dX8_patternFits_56
    · refine lv_iconst (v := oI 0) hx hb dX8_patternFits_15 (by decide) ?_
      have e0 : (oI 0).toInt = 0 := by decide
      have eX9 : rg 17 18 X X = X := by funext k; simp only [rg, va_up]; (repeat' split) <;> first | with_reducible rfl | omega
      have hP9 : va_P (dC, dI) vwCl (CW cB cC cI cJ cZ a F (rg 17 18 X X) J R gf gn) H := by rw [eX9]; exact hP
      have hD9 : va_D A (CW cB cC cI cJ cZ a F (rg 17 18 X X) J R gf gn) := by rw [eX9]; exact hD
      have hpost : (oI 0).toInt = 0 ∨ (oI 0).toInt = 1 := by first | assumption | omega | (with_reducible rfl) | ((repeat' apply And.intro) <;> first | assumption | omega | (with_reducible rfl))
      exact W.zret (v := (oI 0)) hx hb hr (by first | rfl | decide | exact zb9 (by omega)) (fun t ht hW => ⟨⟨(oI 0), (F, X), rfl, hpost, by rw [ht]; exact hP9, va_K.moved hW.alike hK, hD9⟩, hS.F ht⟩) hS.2.2 dX8_patternFits_16

set_option maxHeartbeats 4000000 in
set_option maxRecDepth 100000 in
theorem lq_patternsFit {p : Program} {l : Launch} {e : Env} {s : State} {m : MethodId} {args : Array Value} {below : List Frame} {meth : Method} {c : Code} {A : Nat → Prop} {dC : Nat → ClassId} {dI : Nat → Nat → Nat} {cB cC cI cJ cZ : ClassId} {a : Nat → Nat} {F : Nat → Int32} {X : Nat → Nat → Int32} {J : Nat → Nat → Int64} {R : Nat → Nat} {gf gn : Nat} (hx : p.tables.exec = Jvm.exec) (hb : c.code = cX8_patternsFit) (hml : c.maxLocals = 6) (hown : s.vm.findClass RX8 = some m.cls) (hts : ∀ w ∈ vX8_patternsFit, w.before args s = true) (hK : va_K (dC, dI) vwCl (TY cB cC cI cJ cZ) s) (hNW : NW s) (hA : ∀ q : Nat, s.heap.size ≤ q → A q) (hr : meth.sig.returnType = (some .boolean)) (hlocks : meth.locks = false) (x y z : Int) (d : Nat) (D : Int → Nat) (ix : (-2147483648 ≤ x ∧ x < 2147483648)) (iy : (-2147483648 ≤ y ∧ y < 2147483648)) (iz : (-2147483648 ≤ z ∧ z < 2147483648)) (hgf : gf ≤ 67600) (hgn : gn ≤ 63261) (hsp : SPR (X 1)) (hnt : 0 ≤ (F 13).toInt ∧ (F 13).toInt ≤ (gn : Int)) (hl8 : (F 21).toInt < 2000000000) (hx2 : x < 1073741824 ∧ y < 1073741824) (hdp : ∀ q9 : Int, x ≤ q9 → q9 < y → D q9 < d) (hne : NST (X 1) D gf)  (hI : P_X8_patternFits l d) : ∀ (k : Nat) (F1 : Nat → Int32) (X1 : Nat → Nat → Int32) (q : Int), (y - q).toNat < k → (-2147483648 ≤ q ∧ q < 2147483648) → (x ≤ q) → ∀ (H : Heap) (locs : List Loc), va_P (dC, dI) vwCl (CW cB cC cI cJ cZ a F (rg 17 18 X X1) J R gf gn) H → va_D A (CW cB cC cI cJ cZ a F (rg 17 18 X X1) J R gf gn) → va_S A s.heap H locs → ∀ (ls : Array Slot), lv_has ls 6 [(0, .ref (a 8)), (1, .int (oI x)), (2, .int (oI y)), (3, .int (oI z)), (4, .int (oI q))] → W p l e (headSpec vX8_patternsFit { frames := 2 * d + 4, cells := 0, slots := 0, locals := 60 * d + 130 }).room s m args below meth c H locs 0 0 (MQ below (va_Qi (fun (r : Int32) (u : (Nat → Int32) × (Nat → Nat → Int32)) => match u with | (F1, X1) => (r).toInt = 0 ∨ (r).toInt = 1) (fun u => cPost dC dI cB cC cI cJ cZ a F (rg 17 18 X u.2) J R gf gn A) A) args s 0 0 A) (F0 m 3 ls []) := by
  have hcs : 0 + 0 ≤ (0 : Nat) ∧ 0 + 0 ≤ (0 : Nat) := ⟨Nat.le_refl 0, Nat.le_refl 0⟩
  intro k
  induction k with
  | zero =>
    intro F1 X1 q hk iq9 hq
    exact absurd hk (Nat.not_lt_zero _)
  | succ k ih =>
    intro F1 X1 q hk iq9 hq H locs hP hD hS ls hl
    refine lv_iload hx hb dX8_patternsFit_3 (lv_at hl 4 rfl) ?_
    refine lv_iload_n hx hb dX8_patternsFit_5 rfl (lv_at hl 2 rfl) ?_
    refine ci_ge (tgt := 97) hx hb (by omega) (by omega) dX8_patternsFit_6 (by decide) (fun c_1 => ?_) (fun c_1 => ?_)
    · refine lv_iconst (v := oI 1) hx hb dX8_patternsFit_97 (by decide) ?_
      have e0 : (oI 1).toInt = 1 := by decide
      have eX9 : rg 17 18 X (rg 17 18 X X1) = rg 17 18 X X1 := by funext k; simp only [rg, va_up]; (repeat' split) <;> first | with_reducible rfl | omega
      have hP9 : va_P (dC, dI) vwCl (CW cB cC cI cJ cZ a F (rg 17 18 X (rg 17 18 X X1)) J R gf gn) H := by rw [eX9]; exact hP
      have hD9 : va_D A (CW cB cC cI cJ cZ a F (rg 17 18 X (rg 17 18 X X1)) J R gf gn) := by rw [eX9]; exact hD
      have hpost : (oI 1).toInt = 0 ∨ (oI 1).toInt = 1 := by first | assumption | omega | (with_reducible rfl) | ((repeat' apply And.intro) <;> first | assumption | omega | (with_reducible rfl))
      exact W.zret (v := (oI 1)) hx hb hr (by first | rfl | decide | exact zb9 (by omega)) (fun t ht hW => ⟨⟨(oI 1), (F, rg 17 18 X X1), rfl, hpost, by rw [ht]; exact hP9, va_K.moved hW.alike hK, hD9⟩, hS.F ht⟩) hS.2.2 dX8_patternsFit_98
    · refine lv_aload_n hx hb dX8_patternsFit_9 rfl (lv_at hl 0 rfl) ?_
      refine cg_8_0 hx hb hts inX8_patternsFit_X8 hown hK hP (hts _ lkX8_patternsFit_f15) dX8_patternsFit_10 ?_
      refine lv_iload hx hb dX8_patternsFit_13 (lv_at hl 4 rfl) ?_
      refine ccs_iV (As := [.int (oI q)]) (rest := []) ⟨hx, hb, hml, hown, hts⟩ (c_nameOf l dC dI cB cC cI cJ cZ a F (rg 17 18 X X1) J R gf gn q  (by omega) (show gf ≤ 67600 from by first | assumption | omega)  H.size) (cwV 1 hts kX8_patternsFit_X1_nameOf_59 rfl rfl rfl (by decide +kernel) ⟨show 1 + 1 ≤ 2 * d + 4 from by omega, show 8 + (3 + 11) + 60 ≤ 60 * d + 130 from by omega⟩) (va_recv hK hP (ci := 1) (q0 := 1) rfl rfl) hK hNW hP hD hS hA rfl rfl hl.1 (lv_room (Nat.le_of_ble_eq_true rfl)) dX8_patternsFit_15 hcs (fun r_2 hw_3 H locs hP hD hS => ?_)
      have i_4 := i32r r_2
      refine lv_bipush (v := oI 7) hx hb dX8_patternsFit_18 (by decide) ?_
      refine ci_ne (tgt := 27) hx hb (i32r _) (by decide) dX8_patternsFit_20 (by decide) (fun c_5 => ?_) (fun c_5 => ?_)
      · refine lv_iconst (v := oI 0) hx hb dX8_patternsFit_27 (by decide) ?_
        refine lv_istore (lv' := [(5, .int (oI 0)), (0, .ref (a 8)), (1, .int (oI x)), (2, .int (oI y)), (3, .int (oI z)), (4, .int (oI q))]) hx hb dX8_patternsFit_28 hl (by decide) rfl (fun ls hl => ?_)
        refine lv_iload hx hb dX8_patternsFit_30 (lv_at hl 0 rfl) ?_
        refine cz_eq (tgt := 56) hx hb (by decide) dX8_patternsFit_32 (by decide) (fun _ => ?_) (fun q9 => absurd q9 (by omega))
        refine lv_iload hx hb dX8_patternsFit_56 (lv_at hl 0 rfl) ?_
        refine cz_ne (tgt := 83) hx hb (by decide) dX8_patternsFit_58 (by decide) (fun q9 => absurd q9 (by omega)) (fun _ => ?_)
        refine lv_aload_n hx hb dX8_patternsFit_61 rfl (lv_at hl 1 rfl) ?_
        refine lv_iload hx hb dX8_patternsFit_62 (lv_at hl 5 rfl) ?_
        refine lv_aload_n hx hb dX8_patternsFit_64 rfl (lv_at hl 1 rfl) ?_
        refine cg_8_0 hx hb hts inX8_patternsFit_X8 hown hK hP (hts _ lkX8_patternsFit_f15) dX8_patternsFit_65 ?_
        refine lv_iload hx hb dX8_patternsFit_68 (lv_at hl 5 rfl) ?_
        refine lv_iload_n hx hb dX8_patternsFit_70 rfl (lv_at hl 3 rfl) ?_
        refine ccs_iV (As := [.int (oI q), .int (oI y)]) (rest := [.int (oI q), .ref (a 8)]) ⟨hx, hb, hml, hown, hts⟩ (c_isRepeated l dC dI cB cC cI cJ cZ a F (rg 17 18 X X1) J R gf gn q y  (by omega) (by omega) (show gf ≤ 67600 from by first | assumption | omega) (show SPR (X 1) from by first | assumption | omega) (show q < 1073741824 from by first | assumption | omega) H.size) (cwV 2 hts kX8_patternsFit_X1_isRepeated_78 rfl rfl rfl (by decide +kernel) ⟨show 2 + 1 ≤ 2 * d + 4 from by omega, show 8 + (3 + 11) + 82 ≤ 60 * d + 130 from by omega⟩) (va_recv hK hP (ci := 1) (q0 := 1) rfl rfl) hK hNW hP hD hS hA rfl rfl hl.1 (lv_room (Nat.le_of_ble_eq_true rfl)) dX8_patternsFit_71 hcs (fun r_6 hw_7 H locs hP hD hS => ?_)
        have hw_7 : ((r_6).toInt = 1 ∧ AF (X 1) gf q < y) ∨ (r_6).toInt = 0 := hw_7
        have hrp := hw_7
        have i_8 := i32r r_6
        refine lv_iload_n hx hb dX8_patternsFit_74 rfl (lv_at hl 4 rfl) ?_
        refine ccp_iV (As := [.int (oI q), .int (oI r_6.toInt), .int (oI z)]) (rest := []) (gF := fun _ => F) (gX := fun X9 => rg 17 18 (rg 17 18 X X1) X9) ⟨hx, hb, hml, hown, hts⟩ (hI dC dI cB cC cI cJ cZ a F (rg 17 18 X X1) J R gf gn q r_6.toInt z D (by omega) (i32r _) (by omega) (show gf ≤ 67600 from by first | assumption | omega) (show gn ≤ 63261 from by first | assumption | omega) (show SPR (X 1) from by first | assumption | omega) (show 0 ≤ (F 13).toInt ∧ (F 13).toInt ≤ (gn : Int) from by first | assumption | omega) (show (F 21).toInt < 2000000000 from by first | assumption | omega) (show q < 1073741824 from by first | assumption | omega) (show D q < d from hdp _ (by omega) (by omega)) (show NST (X 1) D gf from by assumption) H.size) (cwV 3 hts kX8_patternsFit_X8_patternFits_81 rfl rfl rfl (by decide +kernel) ⟨show (2 * d + 3) + 1 ≤ 2 * d + 4 from by omega, show 8 + (6 + 11) + (60 * d + 105) ≤ 60 * d + 130 from by omega⟩) (va_recv hK hP (ci := 8) (q0 := 8) rfl rfl) hK hNW hP hD hS hA rfl rfl hl.1 (lv_room (Nat.le_of_ble_eq_true rfl)) dX8_patternsFit_75 hcs (fun r_9 F_10 X_11 hw_12 H locs hP hD hS => ?_)
        have hw_12 : (r_9).toInt = 0 ∨ (r_9).toInt = 1 := hw_12
        have hz := hw_12
        have i_13 := i32r r_9
        refine cz_ne (tgt := 83) hx hb (i32r _) dX8_patternsFit_78 (by decide) (fun c_14 => ?_) (fun c_14 => ?_)
        · refine lv_aload_n hx hb dX8_patternsFit_83 rfl (lv_at hl 1 rfl) ?_
          refine cg_8_0 hx hb hts inX8_patternsFit_X8 hown hK hP (hts _ lkX8_patternsFit_f15) dX8_patternsFit_84 ?_
          refine lv_iload hx hb dX8_patternsFit_87 (lv_at hl 5 rfl) ?_
          refine ccs_iV (As := [.int (oI q)]) (rest := []) ⟨hx, hb, hml, hown, hts⟩ (c_after l dC dI cB cC cI cJ cZ a F (rg 17 18 (rg 17 18 X X1) X_11) J R gf gn q  (by omega) (show gf ≤ 67600 from by first | assumption | omega) (show SPR (X 1) from by first | assumption | omega) (show q < 2147483647 from by first | assumption | omega) H.size) (cwV 1 hts kX8_patternsFit_X1_after_49 rfl rfl rfl (by decide +kernel) ⟨show 1 + 1 ≤ 2 * d + 4 from by omega, show 8 + (2 + 11) + 60 ≤ 60 * d + 130 from by omega⟩) (va_recv hK hP (ci := 1) (q0 := 1) rfl rfl) hK hNW hP hD hS hA rfl rfl hl.1 (lv_room (Nat.le_of_ble_eq_true rfl)) dX8_patternsFit_89 hcs (fun r_15 hw_16 H locs hP hD hS => ?_)
          have hw_16 : (r_15).toInt = AF (X 1) gf q ∧ q < (r_15).toInt ∧ (r_15).toInt ≤ q + 67600 := hw_16
          obtain ⟨ea, la, ua⟩ := hw_16
          have i_17 := i32r r_15
          refine lv_istore (lv' := [(4, .int (oI r_15.toInt)), (5, .int (oI 0)), (0, .ref (a 8)), (1, .int (oI x)), (2, .int (oI y)), (3, .int (oI z))]) hx hb dX8_patternsFit_92 hl (by decide) rfl (fun ls hl => ?_)
          refine lv_goto (tgt := 3) hx hb dX8_patternsFit_94 (by decide) ?_
          have eX9 : rg 17 18 X (rg 17 18 (rg 17 18 X X1) X_11) = rg 17 18 (rg 17 18 X X1) X_11 := by funext k; simp only [rg, va_up]; (repeat' split) <;> first | with_reducible rfl | omega
          have hP9 : va_P (dC, dI) vwCl (CW cB cC cI cJ cZ a F (rg 17 18 X (rg 17 18 (rg 17 18 X X1) X_11)) J R gf gn) H := by rw [eX9]; exact hP
          have hD9 : va_D A (CW cB cC cI cJ cZ a F (rg 17 18 X (rg 17 18 (rg 17 18 X X1) X_11)) J R gf gn) := by rw [eX9]; exact hD
          exact ih F (rg 17 18 (rg 17 18 X X1) X_11) r_15.toInt (show (y - r_15.toInt).toNat < k from by omega) (i32r _) (show x ≤ r_15.toInt from by first | assumption | omega | (with_reducible rfl) | ((repeat' apply And.intro) <;> first | assumption | omega | (with_reducible rfl))) _ _ hP9 hD9 hS ls (lv_sub hl [2, 3, 4, 5, 0] rfl)
        · refine lv_iconst (v := oI 0) hx hb dX8_patternsFit_81 (by decide) ?_
          have e0 : (oI 0).toInt = 0 := by decide
          have eX9 : rg 17 18 X (rg 17 18 (rg 17 18 X X1) X_11) = rg 17 18 (rg 17 18 X X1) X_11 := by funext k; simp only [rg, va_up]; (repeat' split) <;> first | with_reducible rfl | omega
          have hP9 : va_P (dC, dI) vwCl (CW cB cC cI cJ cZ a F (rg 17 18 X (rg 17 18 (rg 17 18 X X1) X_11)) J R gf gn) H := by rw [eX9]; exact hP
          have hD9 : va_D A (CW cB cC cI cJ cZ a F (rg 17 18 X (rg 17 18 (rg 17 18 X X1) X_11)) J R gf gn) := by rw [eX9]; exact hD
          have hpost : (oI 0).toInt = 0 ∨ (oI 0).toInt = 1 := by first | assumption | omega | (with_reducible rfl) | ((repeat' apply And.intro) <;> first | assumption | omega | (with_reducible rfl))
          exact W.zret (v := (oI 0)) hx hb hr (by first | rfl | decide | exact zb9 (by omega)) (fun t ht hW => ⟨⟨(oI 0), (F, rg 17 18 (rg 17 18 X X1) X_11), rfl, hpost, by rw [ht]; exact hP9, va_K.moved hW.alike hK, hD9⟩, hS.F ht⟩) hS.2.2 dX8_patternsFit_82
      · refine lv_iconst (v := oI 1) hx hb dX8_patternsFit_23 (by decide) ?_
        refine lv_goto (tgt := 28) hx hb dX8_patternsFit_24 (by decide) ?_
        refine lv_istore (lv' := [(5, .int (oI 1)), (0, .ref (a 8)), (1, .int (oI x)), (2, .int (oI y)), (3, .int (oI z)), (4, .int (oI q))]) hx hb dX8_patternsFit_28 hl (by decide) rfl (fun ls hl => ?_)
        refine lv_iload hx hb dX8_patternsFit_30 (lv_at hl 0 rfl) ?_
        refine cz_eq (tgt := 56) hx hb (by decide) dX8_patternsFit_32 (by decide) (fun q9 => absurd q9 (by omega)) (fun _ => ?_)
        refine lv_iload hx hb dX8_patternsFit_35 (lv_at hl 5 rfl) ?_
        refine lv_iload_n hx hb dX8_patternsFit_37 rfl (lv_at hl 2 rfl) ?_
        refine ci_eq (tgt := 54) hx hb (by omega) (by omega) dX8_patternsFit_38 (by decide) (fun c_18 => ?_) (fun c_18 => ?_)
        · refine lv_iconst (v := oI 0) hx hb dX8_patternsFit_54 (by decide) ?_
          have e0 : (oI 0).toInt = 0 := by decide
          have eX9 : rg 17 18 X (rg 17 18 X X1) = rg 17 18 X X1 := by funext k; simp only [rg, va_up]; (repeat' split) <;> first | with_reducible rfl | omega
          have hP9 : va_P (dC, dI) vwCl (CW cB cC cI cJ cZ a F (rg 17 18 X (rg 17 18 X X1)) J R gf gn) H := by rw [eX9]; exact hP
          have hD9 : va_D A (CW cB cC cI cJ cZ a F (rg 17 18 X (rg 17 18 X X1)) J R gf gn) := by rw [eX9]; exact hD
          have hpost : (oI 0).toInt = 0 ∨ (oI 0).toInt = 1 := by first | assumption | omega | (with_reducible rfl) | ((repeat' apply And.intro) <;> first | assumption | omega | (with_reducible rfl))
          exact W.zret (v := (oI 0)) hx hb hr (by first | rfl | decide | exact zb9 (by omega)) (fun t ht hW => ⟨⟨(oI 0), (F, rg 17 18 X X1), rfl, hpost, by rw [ht]; exact hP9, va_K.moved hW.alike hK, hD9⟩, hS.F ht⟩) hS.2.2 dX8_patternsFit_55
        · refine lv_aload_n hx hb dX8_patternsFit_41 rfl (lv_at hl 1 rfl) ?_
          refine cg_8_0 hx hb hts inX8_patternsFit_X8 hown hK hP (hts _ lkX8_patternsFit_f15) dX8_patternsFit_42 ?_
          refine lv_iload hx hb dX8_patternsFit_45 (lv_at hl 5 rfl) ?_
          refine ccs_iV (As := [.int (oI q)]) (rest := []) ⟨hx, hb, hml, hown, hts⟩ (c_after l dC dI cB cC cI cJ cZ a F (rg 17 18 X X1) J R gf gn q  (by omega) (show gf ≤ 67600 from by first | assumption | omega) (show SPR (X 1) from by first | assumption | omega) (show q < 2147483647 from by first | assumption | omega) H.size) (cwV 1 hts kX8_patternsFit_X1_after_49 rfl rfl rfl (by decide +kernel) ⟨show 1 + 1 ≤ 2 * d + 4 from by omega, show 8 + (2 + 11) + 60 ≤ 60 * d + 130 from by omega⟩) (va_recv hK hP (ci := 1) (q0 := 1) rfl rfl) hK hNW hP hD hS hA rfl rfl hl.1 (lv_room (Nat.le_of_ble_eq_true rfl)) dX8_patternsFit_47 hcs (fun r_19 hw_20 H locs hP hD hS => ?_)
          have hw_20 : (r_19).toInt = AF (X 1) gf q ∧ q < (r_19).toInt ∧ (r_19).toInt ≤ q + 67600 := hw_20
          obtain ⟨ea, la, ua⟩ := hw_20
          have i_21 := i32r r_19
          refine lv_iload_n hx hb dX8_patternsFit_50 rfl (lv_at hl 3 rfl) ?_
          refine ci_ge (tgt := 56) hx hb (i32r _) (by omega) dX8_patternsFit_51 (by decide) (fun c_22 => ?_) (fun c_22 => ?_)
          · refine lv_iload hx hb dX8_patternsFit_56 (lv_at hl 0 rfl) ?_
            refine cz_ne (tgt := 83) hx hb (by decide) dX8_patternsFit_58 (by decide) (fun _ => ?_) (fun q9 => absurd q9 (by omega))
            refine lv_aload_n hx hb dX8_patternsFit_83 rfl (lv_at hl 1 rfl) ?_
            refine cg_8_0 hx hb hts inX8_patternsFit_X8 hown hK hP (hts _ lkX8_patternsFit_f15) dX8_patternsFit_84 ?_
            refine lv_iload hx hb dX8_patternsFit_87 (lv_at hl 5 rfl) ?_
            refine ccs_iV (As := [.int (oI q)]) (rest := []) ⟨hx, hb, hml, hown, hts⟩ (c_after l dC dI cB cC cI cJ cZ a F (rg 17 18 X X1) J R gf gn q  (by omega) (show gf ≤ 67600 from by first | assumption | omega) (show SPR (X 1) from by first | assumption | omega) (show q < 2147483647 from by first | assumption | omega) H.size) (cwV 1 hts kX8_patternsFit_X1_after_49 rfl rfl rfl (by decide +kernel) ⟨show 1 + 1 ≤ 2 * d + 4 from by omega, show 8 + (2 + 11) + 60 ≤ 60 * d + 130 from by omega⟩) (va_recv hK hP (ci := 1) (q0 := 1) rfl rfl) hK hNW hP hD hS hA rfl rfl hl.1 (lv_room (Nat.le_of_ble_eq_true rfl)) dX8_patternsFit_89 hcs (fun r_23 hw_24 H locs hP hD hS => ?_)
            have hw_24 : (r_23).toInt = AF (X 1) gf q ∧ q < (r_23).toInt ∧ (r_23).toInt ≤ q + 67600 := hw_24
            obtain ⟨ea, la, ua⟩ := hw_24
            have i_25 := i32r r_23
            refine lv_istore (lv' := [(4, .int (oI r_23.toInt)), (5, .int (oI 1)), (0, .ref (a 8)), (1, .int (oI x)), (2, .int (oI y)), (3, .int (oI z))]) hx hb dX8_patternsFit_92 hl (by decide) rfl (fun ls hl => ?_)
            refine lv_goto (tgt := 3) hx hb dX8_patternsFit_94 (by decide) ?_
            have eX9 : rg 17 18 X (rg 17 18 X X1) = rg 17 18 X X1 := by funext k; simp only [rg, va_up]; (repeat' split) <;> first | with_reducible rfl | omega
            have hP9 : va_P (dC, dI) vwCl (CW cB cC cI cJ cZ a F (rg 17 18 X (rg 17 18 X X1)) J R gf gn) H := by rw [eX9]; exact hP
            have hD9 : va_D A (CW cB cC cI cJ cZ a F (rg 17 18 X (rg 17 18 X X1)) J R gf gn) := by rw [eX9]; exact hD
            exact ih F (rg 17 18 X X1) r_23.toInt (show (y - r_23.toInt).toNat < k from by omega) (i32r _) (show x ≤ r_23.toInt from by first | assumption | omega | (with_reducible rfl) | ((repeat' apply And.intro) <;> first | assumption | omega | (with_reducible rfl))) _ _ hP9 hD9 hS ls (lv_sub hl [2, 3, 4, 5, 0] rfl)
          · refine lv_iconst (v := oI 0) hx hb dX8_patternsFit_54 (by decide) ?_
            have e0 : (oI 0).toInt = 0 := by decide
            have eX9 : rg 17 18 X (rg 17 18 X X1) = rg 17 18 X X1 := by funext k; simp only [rg, va_up]; (repeat' split) <;> first | with_reducible rfl | omega
            have hP9 : va_P (dC, dI) vwCl (CW cB cC cI cJ cZ a F (rg 17 18 X (rg 17 18 X X1)) J R gf gn) H := by rw [eX9]; exact hP
            have hD9 : va_D A (CW cB cC cI cJ cZ a F (rg 17 18 X (rg 17 18 X X1)) J R gf gn) := by rw [eX9]; exact hD
            have hpost : (oI 0).toInt = 0 ∨ (oI 0).toInt = 1 := by first | assumption | omega | (with_reducible rfl) | ((repeat' apply And.intro) <;> first | assumption | omega | (with_reducible rfl))
            exact W.zret (v := (oI 0)) hx hb hr (by first | rfl | decide | exact zb9 (by omega)) (fun t ht hW => ⟨⟨(oI 0), (F, rg 17 18 X X1), rfl, hpost, by rw [ht]; exact hP9, va_K.moved hW.alike hK, hD9⟩, hS.F ht⟩) hS.2.2 dX8_patternsFit_55

set_option maxHeartbeats 4000000 in
set_option maxRecDepth 100000 in
theorem st_patternsFit (l : Launch) (d : Nat) (hI : P_X8_patternFits l d) : P_X8_patternsFit l d := by
  unfold P_X8_patternsFit
  intro dC dI cB cC cI cJ cZ a F X J R gf gn x y z D ix iy iz hgf hgn hsp hnt hl8 hx2 hdp hne s0
  refine Met.ofW (cc := cX8_patternsFit) (maxL := 6) (ret := (some .boolean)) (by decide) rfl ?_
  intro p e s m args below meth c s₁ B9 hml hv
  obtain ⟨rfl, hsz0, hP, hK, hD0, hNW⟩ := hv
  have hx := B9.exec
  have hb := B9.bytes
  have hr := B9.returns
  have hts := atoms_spec (ws := vX8_patternsFit) B9.pre
  have hown : s.vm.findClass RX8 = some m.cls := findClass_of_methodNamed B9.named
  have hlocks := B9.notSynchronized
  clear B9
  subst hsz0
  have hD := hD0.self (sz := s.heap.size)
  generalize hAe : va_A (CW cB cC cI cJ cZ a F X J R gf gn) s.heap.size = A at hD ⊢
  have hA : ∀ q : Nat, s.heap.size ≤ q → A q := fun q h => by rw [← hAe]; exact Or.inr h
  have hS : va_S A s.heap s.heap [] := va_S.rf
  have hcs : 0 + 0 ≤ (0 : Nat) ∧ 0 + 0 ≤ (0 : Nat) := ⟨Nat.le_refl 0, Nat.le_refl 0⟩
  have hl := lv_entry ([.ref (a 8), .int (oI x), .int (oI y), .int (oI z)]) (n := 6) (Nat.le_of_ble_eq_true rfl)
  rw [lg_entry_eq]
  generalize (lg_sl ([.ref (a 8), .int (oI x), .int (oI y), .int (oI z)]) ++ List.replicate (6 - (lg_sl ([.ref (a 8), .int (oI x), .int (oI y), .int (oI z)])).length) Slot.unset).toArray = ls at hl ⊢
  have hl : lv_has ls 6 [(0, .ref (a 8)), (1, .int (oI x)), (2, .int (oI y)), (3, .int (oI z))] := hl
  refine lv_iload_n hx hb dX8_patternsFit_0 rfl (lv_at hl 1 rfl) ?_
  refine lv_istore (lv' := [(4, .int (oI x)), (0, .ref (a 8)), (1, .int (oI x)), (2, .int (oI y)), (3, .int (oI z))]) hx hb dX8_patternsFit_1 hl (by decide) rfl (fun ls hl => ?_)
  have eX9 : rg 17 18 X X = X := by funext k; simp only [rg, va_up]; (repeat' split) <;> first | with_reducible rfl | omega
  have hP9 : va_P (dC, dI) vwCl (CW cB cC cI cJ cZ a F (rg 17 18 X X) J R gf gn) s.heap := by rw [eX9]; exact hP
  have hD9 : va_D A (CW cB cC cI cJ cZ a F (rg 17 18 X X) J R gf gn) := by rw [eX9]; exact hD
  exact lq_patternsFit hx hb hml hown hts hK hNW hA hr hlocks x y z d D ix iy iz (by assumption) (by assumption) (by assumption) (by assumption) (by assumption) (by assumption) (by assumption) (by assumption) hI _ F X x (Nat.lt_succ_self _) (by omega) (show x ≤ x from by first | assumption | omega | (with_reducible rfl) | ((repeat' apply And.intro) <;> first | assumption | omega | (with_reducible rfl))) _ _ hP9 hD9 hS ls (lv_sub hl [1, 2, 3, 4, 0] rfl)

theorem all_patternsFit (l : Launch) (d : Nat) : P_X8_patternsFit l d := by
  induction d using Nat.strongRecOn with
  | ind d ih => exact st_patternsFit l d (st_patternFits l d ih)
theorem c_patternsFit (l : Launch) (dC : Nat → ClassId) (dI : Nat → Nat → Nat) (cB cC cI cJ cZ : ClassId) (a : Nat → Nat) (F : Nat → Int32) (X : Nat → Nat → Int32) (J : Nat → Nat → Int64) (R : Nat → Nat) (gf gn : Nat) (x y z : Int) (d : Nat) (D : Int → Nat) (ix : (-2147483648 ≤ x ∧ x < 2147483648)) (iy : (-2147483648 ≤ y ∧ y < 2147483648)) (iz : (-2147483648 ≤ z ∧ z < 2147483648)) (hgf : gf ≤ 67600) (hgn : gn ≤ 63261) (hsp : SPR (X 1)) (hnt : 0 ≤ (F 13).toInt ∧ (F 13).toInt ≤ (gn : Int)) (hl8 : (F 21).toInt < 2000000000) (hx2 : x < 1073741824 ∧ y < 1073741824) (hdp : ∀ q9 : Int, x ≤ q9 → q9 < y → D q9 < d) (hne : NST (X 1) D gf) (s0 : Nat) : Met l yX8_patternsFit vX8_patternsFit { frames := 2 * d + 4, cells := 0, slots := 0, locals := 60 * d + 130 } (va_Pc [.ref (a 8), .int (oI x), .int (oI y), .int (oI z)] (cPre dC dI cB cC cI cJ cZ a F X J R gf gn s0)) (va_Qi (fun (r : Int32) (u : (Nat → Int32) × (Nat → Nat → Int32)) => match u with | (F1, X1) => (r).toInt = 0 ∨ (r).toInt = 1) (fun u => cPost dC dI cB cC cI cJ cZ a F (rg 17 18 X u.2) J R gf gn (va_A (CW cB cC cI cJ cZ a F X J R gf gn) s0)) (va_A (CW cB cC cI cJ cZ a F X J R gf gn) s0)) 0 0 (va_A (CW cB cC cI cJ cZ a F X J R gf gn) s0) := (all_patternsFit l d) dC dI cB cC cI cJ cZ a F X J R gf gn x y z D ix iy iz hgf hgn hsp hnt hl8 hx2 hdp hne s0
def P_X8_templateFits (l : Launch) (d : Nat) : Prop := ∀ (dC : Nat → ClassId) (dI : Nat → Nat → Nat) (cB cC cI cJ cZ : ClassId) (a : Nat → Nat) (F : Nat → Int32) (X : Nat → Nat → Int32) (J : Nat → Nat → Int64) (R : Nat → Nat) (gf gn : Nat) (x y : Int) (D : Int → Nat) (ix : (-2147483648 ≤ x ∧ x < 2147483648)) (iy : (-2147483648 ≤ y ∧ y < 2147483648)) (hgf : gf ≤ 67600) (hgn : gn ≤ 63261) (hsp : SPR (X 1)) (hnt : 0 ≤ (F 13).toInt ∧ (F 13).toInt ≤ (gn : Int)) (hx2 : x < 1073741824) (hdp : D x < d) (hne : NST (X 1) D gf) (s0 : Nat), Met l yX8_templateFits vX8_templateFits { frames := d + 3, cells := 0, slots := 0, locals := 30 * d + 104 } (va_Pc [.ref (a 8), .int (oI x), .int (oI y)] (cPre dC dI cB cC cI cJ cZ a F X J R gf gn s0)) (va_Qi (fun (r : Int32) (_ : Unit) => (r).toInt = 0 ∨ (r).toInt = 1) (fun _ => cPost dC dI cB cC cI cJ cZ a F X J R gf gn (va_A (CW cB cC cI cJ cZ a F X J R gf gn) s0)) (va_A (CW cB cC cI cJ cZ a F X J R gf gn) s0)) 0 0 (va_A (CW cB cC cI cJ cZ a F X J R gf gn) s0)
set_option maxHeartbeats 4000000 in
set_option maxRecDepth 100000 in
theorem lq_templateFits {p : Program} {l : Launch} {e : Env} {s : State} {m : MethodId} {args : Array Value} {below : List Frame} {meth : Method} {c : Code} {A : Nat → Prop} {dC : Nat → ClassId} {dI : Nat → Nat → Nat} {cB cC cI cJ cZ : ClassId} {a : Nat → Nat} {F : Nat → Int32} {X : Nat → Nat → Int32} {J : Nat → Nat → Int64} {R : Nat → Nat} {gf gn : Nat} (hx : p.tables.exec = Jvm.exec) (hb : c.code = cX8_templateFits) (hml : c.maxLocals = 7) (hown : s.vm.findClass RX8 = some m.cls) (hts : ∀ w ∈ vX8_templateFits, w.before args s = true) (hK : va_K (dC, dI) vwCl (TY cB cC cI cJ cZ) s) (hNW : NW s) (hA : ∀ q : Nat, s.heap.size ≤ q → A q) (hr : meth.sig.returnType = (some .boolean)) (hlocks : meth.locks = false) (x y : Int) (d : Nat) (D : Int → Nat) (ix : (-2147483648 ≤ x ∧ x < 2147483648)) (iy : (-2147483648 ≤ y ∧ y < 2147483648)) (hgf : gf ≤ 67600) (hgn : gn ≤ 63261) (hsp : SPR (X 1)) (hnt : 0 ≤ (F 13).toInt ∧ (F 13).toInt ≤ (gn : Int)) (hx2 : x < 1073741824) (hdp : D x < d) (hne : NST (X 1) D gf)  (hI : ∀ d1, d1 < d → P_X8_templateFits l d1) (hx0 : 0 ≤ x ∧ x < (gf : Int)) : ∀ (k : Nat) (en : Int) (q : Int), (en - q).toNat < k → (-2147483648 ≤ en ∧ en < 2147483648) → (-2147483648 ≤ q ∧ q < 2147483648) → (x < q ∧ en = AF (X 1) gf x ∧ q ≤ x + 300000) → ∀ (H : Heap) (locs : List Loc), va_P (dC, dI) vwCl (CW cB cC cI cJ cZ a F X J R gf gn) H → va_D A (CW cB cC cI cJ cZ a F X J R gf gn) → va_S A s.heap H locs → ∀ (ls : Array Slot), lv_has ls 7 [(0, .ref (a 8)), (1, .int (oI x)), (2, .int (oI y)), (3, .int (oI en)), (5, .int (oI q))] → W p l e (headSpec vX8_templateFits { frames := d + 3, cells := 0, slots := 0, locals := 30 * d + 104 }).room s m args below meth c H locs 0 0 (MQ below (va_Qi (fun (r : Int32) (_ : Unit) => (r).toInt = 0 ∨ (r).toInt = 1) (fun _ => cPost dC dI cB cC cI cJ cZ a F X J R gf gn A) A) args s 0 0 A) (F0 m 60 ls []) := by
  have hcs : 0 + 0 ≤ (0 : Nat) ∧ 0 + 0 ≤ (0 : Nat) := ⟨Nat.le_refl 0, Nat.le_refl 0⟩
  intro k
  induction k with
  | zero =>
    intro en q hk ien9 iq9 hq
    exact absurd hk (Nat.not_lt_zero _)
  | succ k ih =>
    intro en q hk ien9 iq9 hq H locs hP hD hS ls hl
    have eb := AF_b hsp gf x
    refine lv_iload hx hb dX8_templateFits_60 (lv_at hl 4 rfl) ?_
    refine lv_iload_n hx hb dX8_templateFits_62 rfl (lv_at hl 3 rfl) ?_
    refine ci_ge (tgt := 169) hx hb (by omega) (by omega) dX8_templateFits_63 (by decide) (fun c_1 => ?_) (fun c_1 => ?_)
    · refine lv_iconst (v := oI 1) hx hb dX8_templateFits_169 (by decide) ?_
      have e0 : (oI 1).toInt = 1 := by decide
      have hpost : (oI 1).toInt = 0 ∨ (oI 1).toInt = 1 := by first | assumption | omega | (with_reducible rfl) | ((repeat' apply And.intro) <;> first | assumption | omega | (with_reducible rfl))
      exact W.zret (v := (oI 1)) hx hb hr (by first | rfl | decide | exact zb9 (by omega)) (fun t ht hW => ⟨⟨(oI 1), (), rfl, hpost, by rw [ht]; exact hP, va_K.moved hW.alike hK, hD⟩, hS.F ht⟩) hS.2.2 dX8_templateFits_170
    · refine lv_aload_n hx hb dX8_templateFits_66 rfl (lv_at hl 0 rfl) ?_
      refine cg_8_0 hx hb hts inX8_templateFits_X8 hown hK hP (hts _ lkX8_templateFits_f15) dX8_templateFits_67 ?_
      refine lv_iload hx hb dX8_templateFits_70 (lv_at hl 4 rfl) ?_
      refine lv_iload_n hx hb dX8_templateFits_72 rfl (lv_at hl 3 rfl) ?_
      refine ccs_iV (As := [.int (oI q), .int (oI en)]) (rest := []) ⟨hx, hb, hml, hown, hts⟩ (c_isRepeated l dC dI cB cC cI cJ cZ a F X J R gf gn q en  (by omega) (by omega) (show gf ≤ 67600 from by first | assumption | omega) (show SPR (X 1) from by first | assumption | omega) (show q < 1073741824 from by first | assumption | omega) H.size) (cwV 2 hts kX8_templateFits_X1_isRepeated_78 rfl rfl rfl (by decide +kernel) ⟨show 2 + 1 ≤ d + 3 from by omega, show 8 + (3 + 11) + 82 ≤ 30 * d + 104 from by omega⟩) (va_recv hK hP (ci := 1) (q0 := 1) rfl rfl) hK hNW hP hD hS hA rfl rfl hl.1 (lv_room (Nat.le_of_ble_eq_true rfl)) dX8_templateFits_73 hcs (fun r_2 hw_3 H locs hP hD hS => ?_)
      have hw_3 : ((r_2).toInt = 1 ∧ AF (X 1) gf q < en) ∨ (r_2).toInt = 0 := hw_3
      have hrp := hw_3
      have i_4 := i32r r_2
      refine lv_istore (lv' := [(6, .int (oI r_2.toInt)), (0, .ref (a 8)), (1, .int (oI x)), (2, .int (oI y)), (3, .int (oI en)), (5, .int (oI q))]) hx hb dX8_templateFits_76 hl (by decide) rfl (fun ls hl => ?_)
      refine lv_iload hx hb dX8_templateFits_78 (lv_at hl 0 rfl) ?_
      refine cz_eq (tgt := 106) hx hb (i32r _) dX8_templateFits_80 (by decide) (fun c_5 => ?_) (fun c_5 => ?_)
      · refine lv_aload_n hx hb dX8_templateFits_106 rfl (lv_at hl 1 rfl) ?_
        refine lv_iload hx hb dX8_templateFits_107 (lv_at hl 5 rfl) ?_
        refine lv_iload hx hb dX8_templateFits_109 (lv_at hl 0 rfl) ?_
        refine cz_eq (tgt := 118) hx hb (i32r _) dX8_templateFits_111 (by decide) (fun c_6 => ?_) (fun c_6 => ?_)
        · refine lv_iload_n hx hb dX8_templateFits_118 rfl (lv_at hl 3 rfl) ?_
          have nq := NST_af hne (p := x) (q := q) (by omega) (by omega)
          refine ccs_iV (As := [.int (oI q), .int (oI y)]) (rest := []) ⟨hx, hb, hml, hown, hts⟩ ((hI (d - 1) (by omega)) dC dI cB cC cI cJ cZ a F X J R gf gn q y D (by omega) (by omega) (show gf ≤ 67600 from by first | assumption | omega) (show gn ≤ 63261 from by first | assumption | omega) (show SPR (X 1) from by first | assumption | omega) (show 0 ≤ (F 13).toInt ∧ (F 13).toInt ≤ (gn : Int) from by first | assumption | omega) (show q < 1073741824 from by first | assumption | omega) (show D q < d - 1 from by first | assumption | omega) (show NST (X 1) D gf from by assumption) H.size) (cwV 2 hts kX8_templateFits_X8_templateFits_74 rfl rfl rfl (by decide +kernel) ⟨show ((d - 1) + 3) + 1 ≤ d + 3 from by omega, show 8 + (7 + 11) + (30 * (d - 1) + 104) ≤ 30 * d + 104 from by omega⟩) (va_recv hK hP (ci := 8) (q0 := 8) rfl rfl) hK hNW hP hD hS hA rfl rfl hl.1 (lv_room (Nat.le_of_ble_eq_true rfl)) dX8_templateFits_119 hcs (fun r_7 hw_8 H locs hP hD hS => ?_)
          have hw_8 : (r_7).toInt = 0 ∨ (r_7).toInt = 1 := hw_8
          have hz := hw_8
          have i_9 := i32r r_7
          refine cz_ne (tgt := 127) hx hb (i32r _) dX8_templateFits_122 (by decide) (fun c_10 => ?_) (fun c_10 => ?_)
          · refine lv_iload hx hb dX8_templateFits_127 (lv_at hl 0 rfl) ?_
            refine cz_eq (tgt := 151) hx hb (i32r _) dX8_templateFits_129 (by decide) (fun c_11 => ?_) (fun c_11 => ?_)
            · refine lv_aload_n hx hb dX8_templateFits_151 rfl (lv_at hl 1 rfl) ?_
              refine cg_8_0 hx hb hts inX8_templateFits_X8 hown hK hP (hts _ lkX8_templateFits_f15) dX8_templateFits_152 ?_
              refine lv_iload hx hb dX8_templateFits_155 (lv_at hl 5 rfl) ?_
              refine ccs_iV (As := [.int (oI q)]) (rest := []) ⟨hx, hb, hml, hown, hts⟩ (c_after l dC dI cB cC cI cJ cZ a F X J R gf gn q  (by omega) (show gf ≤ 67600 from by first | assumption | omega) (show SPR (X 1) from by first | assumption | omega) (show q < 2147483647 from by first | assumption | omega) H.size) (cwV 1 hts kX8_templateFits_X1_after_49 rfl rfl rfl (by decide +kernel) ⟨show 1 + 1 ≤ d + 3 from by omega, show 8 + (2 + 11) + 60 ≤ 30 * d + 104 from by omega⟩) (va_recv hK hP (ci := 1) (q0 := 1) rfl rfl) hK hNW hP hD hS hA rfl rfl hl.1 (lv_room (Nat.le_of_ble_eq_true rfl)) dX8_templateFits_157 hcs (fun r_12 hw_13 H locs hP hD hS => ?_)
              have hw_13 : (r_12).toInt = AF (X 1) gf q ∧ q < (r_12).toInt ∧ (r_12).toInt ≤ q + 67600 := hw_13
              obtain ⟨_, la, ua⟩ := hw_13
              have i_14 := i32r r_12
              refine lv_istore (lv' := [(4, .int (oI r_12.toInt)), (6, .int (oI r_2.toInt)), (0, .ref (a 8)), (1, .int (oI x)), (2, .int (oI y)), (3, .int (oI en)), (5, .int (oI q))]) hx hb dX8_templateFits_160 hl (by decide) rfl (fun ls hl => ?_)
              refine lv_iload hx hb dX8_templateFits_162 (lv_at hl 0 rfl) ?_
              refine lv_istore (lv' := [(5, .int (oI r_12.toInt)), (4, .int (oI r_12.toInt)), (6, .int (oI r_2.toInt)), (0, .ref (a 8)), (1, .int (oI x)), (2, .int (oI y)), (3, .int (oI en))]) hx hb dX8_templateFits_164 hl (by decide) rfl (fun ls hl => ?_)
              refine lv_goto (tgt := 60) hx hb dX8_templateFits_166 (by decide) ?_
              exact ih en r_12.toInt (show (en - r_12.toInt).toNat < k from by omega) (by omega) (i32r _) (show x < r_12.toInt ∧ en = AF (X 1) gf x ∧ r_12.toInt ≤ x + 300000 from by first | assumption | omega | (with_reducible rfl) | ((repeat' apply And.intro) <;> first | assumption | omega | (with_reducible rfl))) _ _ hP hD hS ls (lv_sub hl [3, 4, 5, 6, 0] rfl)
            · refine lv_aload_n hx hb dX8_templateFits_132 rfl (lv_at hl 1 rfl) ?_
              refine cg_8_0 hx hb hts inX8_templateFits_X8 hown hK hP (hts _ lkX8_templateFits_f15) dX8_templateFits_133 ?_
              refine lv_aload_n hx hb dX8_templateFits_136 rfl (lv_at hl 1 rfl) ?_
              refine cg_8_0 hx hb hts inX8_templateFits_X8 hown hK hP (hts _ lkX8_templateFits_f15) dX8_templateFits_137 ?_
              refine lv_iload hx hb dX8_templateFits_140 (lv_at hl 5 rfl) ?_
              refine ccs_iV (As := [.int (oI q)]) (rest := [.ref (a 1)]) ⟨hx, hb, hml, hown, hts⟩ (c_after l dC dI cB cC cI cJ cZ a F X J R gf gn q  (by omega) (show gf ≤ 67600 from by first | assumption | omega) (show SPR (X 1) from by first | assumption | omega) (show q < 2147483647 from by first | assumption | omega) H.size) (cwV 1 hts kX8_templateFits_X1_after_49 rfl rfl rfl (by decide +kernel) ⟨show 1 + 1 ≤ d + 3 from by omega, show 8 + (2 + 11) + 60 ≤ 30 * d + 104 from by omega⟩) (va_recv hK hP (ci := 1) (q0 := 1) rfl rfl) hK hNW hP hD hS hA rfl rfl hl.1 (lv_room (Nat.le_of_ble_eq_true rfl)) dX8_templateFits_142 hcs (fun r_15 hw_16 H locs hP hD hS => ?_)
              have hw_16 : (r_15).toInt = AF (X 1) gf q ∧ q < (r_15).toInt ∧ (r_15).toInt ≤ q + 67600 := hw_16
              obtain ⟨_, la, ua⟩ := hw_16
              have i_17 := i32r r_15
              refine ccs_iV (As := [.int (oI r_15.toInt)]) (rest := []) ⟨hx, hb, hml, hown, hts⟩ (c_after l dC dI cB cC cI cJ cZ a F X J R gf gn r_15.toInt  (i32r _) (show gf ≤ 67600 from by first | assumption | omega) (show SPR (X 1) from by first | assumption | omega) (show r_15.toInt < 2147483647 from by first | assumption | omega) H.size) (cwV 1 hts kX8_templateFits_X1_after_49 rfl rfl rfl (by decide +kernel) ⟨show 1 + 1 ≤ d + 3 from by omega, show 8 + (2 + 11) + 60 ≤ 30 * d + 104 from by omega⟩) (va_recv hK hP (ci := 1) (q0 := 1) rfl rfl) hK hNW hP hD hS hA rfl rfl hl.1 (lv_room (Nat.le_of_ble_eq_true rfl)) dX8_templateFits_145 hcs (fun r_18 hw_19 H locs hP hD hS => ?_)
              have hw_19 : (r_18).toInt = AF (X 1) gf r_15.toInt ∧ r_15.toInt < (r_18).toInt ∧ (r_18).toInt ≤ r_15.toInt + 67600 := hw_19
              obtain ⟨_, la, ua⟩ := hw_19
              have i_20 := i32r r_18
              refine lv_goto (tgt := 160) hx hb dX8_templateFits_148 (by decide) ?_
              refine lv_istore (lv' := [(4, .int (oI r_18.toInt)), (6, .int (oI r_2.toInt)), (0, .ref (a 8)), (1, .int (oI x)), (2, .int (oI y)), (3, .int (oI en)), (5, .int (oI q))]) hx hb dX8_templateFits_160 hl (by decide) rfl (fun ls hl => ?_)
              refine lv_iload hx hb dX8_templateFits_162 (lv_at hl 0 rfl) ?_
              refine lv_istore (lv' := [(5, .int (oI r_18.toInt)), (4, .int (oI r_18.toInt)), (6, .int (oI r_2.toInt)), (0, .ref (a 8)), (1, .int (oI x)), (2, .int (oI y)), (3, .int (oI en))]) hx hb dX8_templateFits_164 hl (by decide) rfl (fun ls hl => ?_)
              refine lv_goto (tgt := 60) hx hb dX8_templateFits_166 (by decide) ?_
              exact ih en r_18.toInt (show (en - r_18.toInt).toNat < k from by omega) (by omega) (i32r _) (show x < r_18.toInt ∧ en = AF (X 1) gf x ∧ r_18.toInt ≤ x + 300000 from by first | assumption | omega | (with_reducible rfl) | ((repeat' apply And.intro) <;> first | assumption | omega | (with_reducible rfl))) _ _ hP hD hS ls (lv_sub hl [3, 4, 5, 6, 0] rfl)
          · refine lv_iconst (v := oI 0) hx hb dX8_templateFits_125 (by decide) ?_
            have e0 : (oI 0).toInt = 0 := by decide
            have hpost : (oI 0).toInt = 0 ∨ (oI 0).toInt = 1 := by first | assumption | omega | (with_reducible rfl) | ((repeat' apply And.intro) <;> first | assumption | omega | (with_reducible rfl))
            exact W.zret (v := (oI 0)) hx hb hr (by first | rfl | decide | exact zb9 (by omega)) (fun t ht hW => ⟨⟨(oI 0), (), rfl, hpost, by rw [ht]; exact hP, va_K.moved hW.alike hK, hD⟩, hS.F ht⟩) hS.2.2 dX8_templateFits_126
        · refine lv_iconst (v := oI 1) hx hb dX8_templateFits_114 (by decide) ?_
          refine lv_goto (tgt := 119) hx hb dX8_templateFits_115 (by decide) ?_
          have nq := NST_af hne (p := x) (q := q) (by omega) (by omega)
          refine ccs_iV (As := [.int (oI q), .int (oI 1)]) (rest := []) ⟨hx, hb, hml, hown, hts⟩ ((hI (d - 1) (by omega)) dC dI cB cC cI cJ cZ a F X J R gf gn q 1 D (by omega) (by decide) (show gf ≤ 67600 from by first | assumption | omega) (show gn ≤ 63261 from by first | assumption | omega) (show SPR (X 1) from by first | assumption | omega) (show 0 ≤ (F 13).toInt ∧ (F 13).toInt ≤ (gn : Int) from by first | assumption | omega) (show q < 1073741824 from by first | assumption | omega) (show D q < d - 1 from by first | assumption | omega) (show NST (X 1) D gf from by assumption) H.size) (cwV 2 hts kX8_templateFits_X8_templateFits_74 rfl rfl rfl (by decide +kernel) ⟨show ((d - 1) + 3) + 1 ≤ d + 3 from by omega, show 8 + (7 + 11) + (30 * (d - 1) + 104) ≤ 30 * d + 104 from by omega⟩) (va_recv hK hP (ci := 8) (q0 := 8) rfl rfl) hK hNW hP hD hS hA rfl rfl hl.1 (lv_room (Nat.le_of_ble_eq_true rfl)) dX8_templateFits_119 hcs (fun r_21 hw_22 H locs hP hD hS => ?_)
          have hw_22 : (r_21).toInt = 0 ∨ (r_21).toInt = 1 := hw_22
          have hz := hw_22
          have i_23 := i32r r_21
          refine cz_ne (tgt := 127) hx hb (i32r _) dX8_templateFits_122 (by decide) (fun c_24 => ?_) (fun c_24 => ?_)
          · refine lv_iload hx hb dX8_templateFits_127 (lv_at hl 0 rfl) ?_
            refine cz_eq (tgt := 151) hx hb (i32r _) dX8_templateFits_129 (by decide) (fun c_25 => ?_) (fun c_25 => ?_)
            · refine lv_aload_n hx hb dX8_templateFits_151 rfl (lv_at hl 1 rfl) ?_
              refine cg_8_0 hx hb hts inX8_templateFits_X8 hown hK hP (hts _ lkX8_templateFits_f15) dX8_templateFits_152 ?_
              refine lv_iload hx hb dX8_templateFits_155 (lv_at hl 5 rfl) ?_
              refine ccs_iV (As := [.int (oI q)]) (rest := []) ⟨hx, hb, hml, hown, hts⟩ (c_after l dC dI cB cC cI cJ cZ a F X J R gf gn q  (by omega) (show gf ≤ 67600 from by first | assumption | omega) (show SPR (X 1) from by first | assumption | omega) (show q < 2147483647 from by first | assumption | omega) H.size) (cwV 1 hts kX8_templateFits_X1_after_49 rfl rfl rfl (by decide +kernel) ⟨show 1 + 1 ≤ d + 3 from by omega, show 8 + (2 + 11) + 60 ≤ 30 * d + 104 from by omega⟩) (va_recv hK hP (ci := 1) (q0 := 1) rfl rfl) hK hNW hP hD hS hA rfl rfl hl.1 (lv_room (Nat.le_of_ble_eq_true rfl)) dX8_templateFits_157 hcs (fun r_26 hw_27 H locs hP hD hS => ?_)
              have hw_27 : (r_26).toInt = AF (X 1) gf q ∧ q < (r_26).toInt ∧ (r_26).toInt ≤ q + 67600 := hw_27
              obtain ⟨_, la, ua⟩ := hw_27
              have i_28 := i32r r_26
              refine lv_istore (lv' := [(4, .int (oI r_26.toInt)), (6, .int (oI r_2.toInt)), (0, .ref (a 8)), (1, .int (oI x)), (2, .int (oI y)), (3, .int (oI en)), (5, .int (oI q))]) hx hb dX8_templateFits_160 hl (by decide) rfl (fun ls hl => ?_)
              refine lv_iload hx hb dX8_templateFits_162 (lv_at hl 0 rfl) ?_
              refine lv_istore (lv' := [(5, .int (oI r_26.toInt)), (4, .int (oI r_26.toInt)), (6, .int (oI r_2.toInt)), (0, .ref (a 8)), (1, .int (oI x)), (2, .int (oI y)), (3, .int (oI en))]) hx hb dX8_templateFits_164 hl (by decide) rfl (fun ls hl => ?_)
              refine lv_goto (tgt := 60) hx hb dX8_templateFits_166 (by decide) ?_
              exact ih en r_26.toInt (show (en - r_26.toInt).toNat < k from by omega) (by omega) (i32r _) (show x < r_26.toInt ∧ en = AF (X 1) gf x ∧ r_26.toInt ≤ x + 300000 from by first | assumption | omega | (with_reducible rfl) | ((repeat' apply And.intro) <;> first | assumption | omega | (with_reducible rfl))) _ _ hP hD hS ls (lv_sub hl [3, 4, 5, 6, 0] rfl)
            · refine lv_aload_n hx hb dX8_templateFits_132 rfl (lv_at hl 1 rfl) ?_
              refine cg_8_0 hx hb hts inX8_templateFits_X8 hown hK hP (hts _ lkX8_templateFits_f15) dX8_templateFits_133 ?_
              refine lv_aload_n hx hb dX8_templateFits_136 rfl (lv_at hl 1 rfl) ?_
              refine cg_8_0 hx hb hts inX8_templateFits_X8 hown hK hP (hts _ lkX8_templateFits_f15) dX8_templateFits_137 ?_
              refine lv_iload hx hb dX8_templateFits_140 (lv_at hl 5 rfl) ?_
              refine ccs_iV (As := [.int (oI q)]) (rest := [.ref (a 1)]) ⟨hx, hb, hml, hown, hts⟩ (c_after l dC dI cB cC cI cJ cZ a F X J R gf gn q  (by omega) (show gf ≤ 67600 from by first | assumption | omega) (show SPR (X 1) from by first | assumption | omega) (show q < 2147483647 from by first | assumption | omega) H.size) (cwV 1 hts kX8_templateFits_X1_after_49 rfl rfl rfl (by decide +kernel) ⟨show 1 + 1 ≤ d + 3 from by omega, show 8 + (2 + 11) + 60 ≤ 30 * d + 104 from by omega⟩) (va_recv hK hP (ci := 1) (q0 := 1) rfl rfl) hK hNW hP hD hS hA rfl rfl hl.1 (lv_room (Nat.le_of_ble_eq_true rfl)) dX8_templateFits_142 hcs (fun r_29 hw_30 H locs hP hD hS => ?_)
              have hw_30 : (r_29).toInt = AF (X 1) gf q ∧ q < (r_29).toInt ∧ (r_29).toInt ≤ q + 67600 := hw_30
              obtain ⟨_, la, ua⟩ := hw_30
              have i_31 := i32r r_29
              refine ccs_iV (As := [.int (oI r_29.toInt)]) (rest := []) ⟨hx, hb, hml, hown, hts⟩ (c_after l dC dI cB cC cI cJ cZ a F X J R gf gn r_29.toInt  (i32r _) (show gf ≤ 67600 from by first | assumption | omega) (show SPR (X 1) from by first | assumption | omega) (show r_29.toInt < 2147483647 from by first | assumption | omega) H.size) (cwV 1 hts kX8_templateFits_X1_after_49 rfl rfl rfl (by decide +kernel) ⟨show 1 + 1 ≤ d + 3 from by omega, show 8 + (2 + 11) + 60 ≤ 30 * d + 104 from by omega⟩) (va_recv hK hP (ci := 1) (q0 := 1) rfl rfl) hK hNW hP hD hS hA rfl rfl hl.1 (lv_room (Nat.le_of_ble_eq_true rfl)) dX8_templateFits_145 hcs (fun r_32 hw_33 H locs hP hD hS => ?_)
              have hw_33 : (r_32).toInt = AF (X 1) gf r_29.toInt ∧ r_29.toInt < (r_32).toInt ∧ (r_32).toInt ≤ r_29.toInt + 67600 := hw_33
              obtain ⟨_, la, ua⟩ := hw_33
              have i_34 := i32r r_32
              refine lv_goto (tgt := 160) hx hb dX8_templateFits_148 (by decide) ?_
              refine lv_istore (lv' := [(4, .int (oI r_32.toInt)), (6, .int (oI r_2.toInt)), (0, .ref (a 8)), (1, .int (oI x)), (2, .int (oI y)), (3, .int (oI en)), (5, .int (oI q))]) hx hb dX8_templateFits_160 hl (by decide) rfl (fun ls hl => ?_)
              refine lv_iload hx hb dX8_templateFits_162 (lv_at hl 0 rfl) ?_
              refine lv_istore (lv' := [(5, .int (oI r_32.toInt)), (4, .int (oI r_32.toInt)), (6, .int (oI r_2.toInt)), (0, .ref (a 8)), (1, .int (oI x)), (2, .int (oI y)), (3, .int (oI en))]) hx hb dX8_templateFits_164 hl (by decide) rfl (fun ls hl => ?_)
              refine lv_goto (tgt := 60) hx hb dX8_templateFits_166 (by decide) ?_
              exact ih en r_32.toInt (show (en - r_32.toInt).toNat < k from by omega) (by omega) (i32r _) (show x < r_32.toInt ∧ en = AF (X 1) gf x ∧ r_32.toInt ≤ x + 300000 from by first | assumption | omega | (with_reducible rfl) | ((repeat' apply And.intro) <;> first | assumption | omega | (with_reducible rfl))) _ _ hP hD hS ls (lv_sub hl [3, 4, 5, 6, 0] rfl)
          · refine lv_iconst (v := oI 0) hx hb dX8_templateFits_125 (by decide) ?_
            have e0 : (oI 0).toInt = 0 := by decide
            have hpost : (oI 0).toInt = 0 ∨ (oI 0).toInt = 1 := by first | assumption | omega | (with_reducible rfl) | ((repeat' apply And.intro) <;> first | assumption | omega | (with_reducible rfl))
            exact W.zret (v := (oI 0)) hx hb hr (by first | rfl | decide | exact zb9 (by omega)) (fun t ht hW => ⟨⟨(oI 0), (), rfl, hpost, by rw [ht]; exact hP, va_K.moved hW.alike hK, hD⟩, hS.F ht⟩) hS.2.2 dX8_templateFits_126
      · refine lv_aload_n hx hb dX8_templateFits_83 rfl (lv_at hl 1 rfl) ?_
        refine cg_8_0 hx hb hts inX8_templateFits_X8 hown hK hP (hts _ lkX8_templateFits_f15) dX8_templateFits_84 ?_
        refine lv_iload hx hb dX8_templateFits_87 (lv_at hl 5 rfl) ?_
        refine ccs_iV (As := [.int (oI q)]) (rest := []) ⟨hx, hb, hml, hown, hts⟩ (c_holdsDots l dC dI cB cC cI cJ cZ a F X J R gf gn q  (by omega) (show gf ≤ 67600 from by first | assumption | omega) (show SPR (X 1) from by first | assumption | omega) (show q < 1073741824 from by first | assumption | omega) H.size) (cwV 1 hts kX8_templateFits_X1_holdsDots_85 rfl rfl rfl (by decide +kernel) ⟨show 2 + 1 ≤ d + 3 from by omega, show 8 + (3 + 11) + 82 ≤ 30 * d + 104 from by omega⟩) (va_recv hK hP (ci := 1) (q0 := 1) rfl rfl) hK hNW hP hD hS hA rfl rfl hl.1 (lv_room (Nat.le_of_ble_eq_true rfl)) dX8_templateFits_89 hcs (fun r_35 hw_36 H locs hP hD hS => ?_)
        have hw_36 : (r_35).toInt = 0 ∨ (r_35).toInt = 1 := hw_36
        have hz := hw_36
        have i_37 := i32r r_35
        refine cz_ne (tgt := 104) hx hb (i32r _) dX8_templateFits_92 (by decide) (fun c_38 => ?_) (fun c_38 => ?_)
        · refine lv_iconst (v := oI 0) hx hb dX8_templateFits_104 (by decide) ?_
          have e0 : (oI 0).toInt = 0 := by decide
          have hpost : (oI 0).toInt = 0 ∨ (oI 0).toInt = 1 := by first | assumption | omega | (with_reducible rfl) | ((repeat' apply And.intro) <;> first | assumption | omega | (with_reducible rfl))
          exact W.zret (v := (oI 0)) hx hb hr (by first | rfl | decide | exact zb9 (by omega)) (fun t ht hW => ⟨⟨(oI 0), (), rfl, hpost, by rw [ht]; exact hP, va_K.moved hW.alike hK, hD⟩, hS.F ht⟩) hS.2.2 dX8_templateFits_105
        · refine lv_aload_n hx hb dX8_templateFits_95 rfl (lv_at hl 1 rfl) ?_
          refine lv_iload hx hb dX8_templateFits_96 (lv_at hl 5 rfl) ?_
          refine ccs_iV (As := [.int (oI q)]) (rest := []) ⟨hx, hb, hml, hown, hts⟩ (c_holdsRepeated l dC dI cB cC cI cJ cZ a F X J R gf gn q  (by omega) (show gf ≤ 67600 from by first | assumption | omega) (show gn ≤ 63261 from by first | assumption | omega) (show SPR (X 1) from by first | assumption | omega) (show 0 ≤ (F 13).toInt ∧ (F 13).toInt ≤ (gn : Int) from by first | assumption | omega) (show q < 1073741824 from by first | assumption | omega) H.size) (cwV 1 hts kX8_templateFits_X8_holdsRepeated_99 rfl rfl rfl (by decide +kernel) ⟨show 2 + 1 ≤ d + 3 from by omega, show 8 + (3 + 11) + 82 ≤ 30 * d + 104 from by omega⟩) (va_recv hK hP (ci := 8) (q0 := 8) rfl rfl) hK hNW hP hD hS hA rfl rfl hl.1 (lv_room (Nat.le_of_ble_eq_true rfl)) dX8_templateFits_98 hcs (fun r_39 hw_40 H locs hP hD hS => ?_)
          have hw_40 : (r_39).toInt = 0 ∨ (r_39).toInt = 1 := hw_40
          have hz := hw_40
          have i_41 := i32r r_39
          refine cz_ne (tgt := 106) hx hb (i32r _) dX8_templateFits_101 (by decide) (fun c_42 => ?_) (fun c_42 => ?_)
          · refine lv_aload_n hx hb dX8_templateFits_106 rfl (lv_at hl 1 rfl) ?_
            refine lv_iload hx hb dX8_templateFits_107 (lv_at hl 5 rfl) ?_
            refine lv_iload hx hb dX8_templateFits_109 (lv_at hl 0 rfl) ?_
            refine cz_eq (tgt := 118) hx hb (i32r _) dX8_templateFits_111 (by decide) (fun c_43 => ?_) (fun c_43 => ?_)
            · refine lv_iload_n hx hb dX8_templateFits_118 rfl (lv_at hl 3 rfl) ?_
              have nq := NST_af hne (p := x) (q := q) (by omega) (by omega)
              refine ccs_iV (As := [.int (oI q), .int (oI y)]) (rest := []) ⟨hx, hb, hml, hown, hts⟩ ((hI (d - 1) (by omega)) dC dI cB cC cI cJ cZ a F X J R gf gn q y D (by omega) (by omega) (show gf ≤ 67600 from by first | assumption | omega) (show gn ≤ 63261 from by first | assumption | omega) (show SPR (X 1) from by first | assumption | omega) (show 0 ≤ (F 13).toInt ∧ (F 13).toInt ≤ (gn : Int) from by first | assumption | omega) (show q < 1073741824 from by first | assumption | omega) (show D q < d - 1 from by first | assumption | omega) (show NST (X 1) D gf from by assumption) H.size) (cwV 2 hts kX8_templateFits_X8_templateFits_74 rfl rfl rfl (by decide +kernel) ⟨show ((d - 1) + 3) + 1 ≤ d + 3 from by omega, show 8 + (7 + 11) + (30 * (d - 1) + 104) ≤ 30 * d + 104 from by omega⟩) (va_recv hK hP (ci := 8) (q0 := 8) rfl rfl) hK hNW hP hD hS hA rfl rfl hl.1 (lv_room (Nat.le_of_ble_eq_true rfl)) dX8_templateFits_119 hcs (fun r_44 hw_45 H locs hP hD hS => ?_)
              have hw_45 : (r_44).toInt = 0 ∨ (r_44).toInt = 1 := hw_45
              have hz := hw_45
              have i_46 := i32r r_44
              refine cz_ne (tgt := 127) hx hb (i32r _) dX8_templateFits_122 (by decide) (fun c_47 => ?_) (fun c_47 => ?_)
              · refine lv_iload hx hb dX8_templateFits_127 (lv_at hl 0 rfl) ?_
                refine cz_eq (tgt := 151) hx hb (i32r _) dX8_templateFits_129 (by decide) (fun c_48 => ?_) (fun c_48 => ?_)
                · refine lv_aload_n hx hb dX8_templateFits_151 rfl (lv_at hl 1 rfl) ?_
                  refine cg_8_0 hx hb hts inX8_templateFits_X8 hown hK hP (hts _ lkX8_templateFits_f15) dX8_templateFits_152 ?_
                  refine lv_iload hx hb dX8_templateFits_155 (lv_at hl 5 rfl) ?_
                  refine ccs_iV (As := [.int (oI q)]) (rest := []) ⟨hx, hb, hml, hown, hts⟩ (c_after l dC dI cB cC cI cJ cZ a F X J R gf gn q  (by omega) (show gf ≤ 67600 from by first | assumption | omega) (show SPR (X 1) from by first | assumption | omega) (show q < 2147483647 from by first | assumption | omega) H.size) (cwV 1 hts kX8_templateFits_X1_after_49 rfl rfl rfl (by decide +kernel) ⟨show 1 + 1 ≤ d + 3 from by omega, show 8 + (2 + 11) + 60 ≤ 30 * d + 104 from by omega⟩) (va_recv hK hP (ci := 1) (q0 := 1) rfl rfl) hK hNW hP hD hS hA rfl rfl hl.1 (lv_room (Nat.le_of_ble_eq_true rfl)) dX8_templateFits_157 hcs (fun r_49 hw_50 H locs hP hD hS => ?_)
                  have hw_50 : (r_49).toInt = AF (X 1) gf q ∧ q < (r_49).toInt ∧ (r_49).toInt ≤ q + 67600 := hw_50
                  obtain ⟨_, la, ua⟩ := hw_50
                  have i_51 := i32r r_49
                  refine lv_istore (lv' := [(4, .int (oI r_49.toInt)), (6, .int (oI r_2.toInt)), (0, .ref (a 8)), (1, .int (oI x)), (2, .int (oI y)), (3, .int (oI en)), (5, .int (oI q))]) hx hb dX8_templateFits_160 hl (by decide) rfl (fun ls hl => ?_)
                  refine lv_iload hx hb dX8_templateFits_162 (lv_at hl 0 rfl) ?_
                  refine lv_istore (lv' := [(5, .int (oI r_49.toInt)), (4, .int (oI r_49.toInt)), (6, .int (oI r_2.toInt)), (0, .ref (a 8)), (1, .int (oI x)), (2, .int (oI y)), (3, .int (oI en))]) hx hb dX8_templateFits_164 hl (by decide) rfl (fun ls hl => ?_)
                  refine lv_goto (tgt := 60) hx hb dX8_templateFits_166 (by decide) ?_
                  exact ih en r_49.toInt (show (en - r_49.toInt).toNat < k from by omega) (by omega) (i32r _) (show x < r_49.toInt ∧ en = AF (X 1) gf x ∧ r_49.toInt ≤ x + 300000 from by first | assumption | omega | (with_reducible rfl) | ((repeat' apply And.intro) <;> first | assumption | omega | (with_reducible rfl))) _ _ hP hD hS ls (lv_sub hl [3, 4, 5, 6, 0] rfl)
                · refine lv_aload_n hx hb dX8_templateFits_132 rfl (lv_at hl 1 rfl) ?_
                  refine cg_8_0 hx hb hts inX8_templateFits_X8 hown hK hP (hts _ lkX8_templateFits_f15) dX8_templateFits_133 ?_
                  refine lv_aload_n hx hb dX8_templateFits_136 rfl (lv_at hl 1 rfl) ?_
                  refine cg_8_0 hx hb hts inX8_templateFits_X8 hown hK hP (hts _ lkX8_templateFits_f15) dX8_templateFits_137 ?_
                  refine lv_iload hx hb dX8_templateFits_140 (lv_at hl 5 rfl) ?_
                  refine ccs_iV (As := [.int (oI q)]) (rest := [.ref (a 1)]) ⟨hx, hb, hml, hown, hts⟩ (c_after l dC dI cB cC cI cJ cZ a F X J R gf gn q  (by omega) (show gf ≤ 67600 from by first | assumption | omega) (show SPR (X 1) from by first | assumption | omega) (show q < 2147483647 from by first | assumption | omega) H.size) (cwV 1 hts kX8_templateFits_X1_after_49 rfl rfl rfl (by decide +kernel) ⟨show 1 + 1 ≤ d + 3 from by omega, show 8 + (2 + 11) + 60 ≤ 30 * d + 104 from by omega⟩) (va_recv hK hP (ci := 1) (q0 := 1) rfl rfl) hK hNW hP hD hS hA rfl rfl hl.1 (lv_room (Nat.le_of_ble_eq_true rfl)) dX8_templateFits_142 hcs (fun r_52 hw_53 H locs hP hD hS => ?_)
                  have hw_53 : (r_52).toInt = AF (X 1) gf q ∧ q < (r_52).toInt ∧ (r_52).toInt ≤ q + 67600 := hw_53
                  obtain ⟨_, la, ua⟩ := hw_53
                  have i_54 := i32r r_52
                  refine ccs_iV (As := [.int (oI r_52.toInt)]) (rest := []) ⟨hx, hb, hml, hown, hts⟩ (c_after l dC dI cB cC cI cJ cZ a F X J R gf gn r_52.toInt  (i32r _) (show gf ≤ 67600 from by first | assumption | omega) (show SPR (X 1) from by first | assumption | omega) (show r_52.toInt < 2147483647 from by first | assumption | omega) H.size) (cwV 1 hts kX8_templateFits_X1_after_49 rfl rfl rfl (by decide +kernel) ⟨show 1 + 1 ≤ d + 3 from by omega, show 8 + (2 + 11) + 60 ≤ 30 * d + 104 from by omega⟩) (va_recv hK hP (ci := 1) (q0 := 1) rfl rfl) hK hNW hP hD hS hA rfl rfl hl.1 (lv_room (Nat.le_of_ble_eq_true rfl)) dX8_templateFits_145 hcs (fun r_55 hw_56 H locs hP hD hS => ?_)
                  have hw_56 : (r_55).toInt = AF (X 1) gf r_52.toInt ∧ r_52.toInt < (r_55).toInt ∧ (r_55).toInt ≤ r_52.toInt + 67600 := hw_56
                  obtain ⟨_, la, ua⟩ := hw_56
                  have i_57 := i32r r_55
                  refine lv_goto (tgt := 160) hx hb dX8_templateFits_148 (by decide) ?_
                  refine lv_istore (lv' := [(4, .int (oI r_55.toInt)), (6, .int (oI r_2.toInt)), (0, .ref (a 8)), (1, .int (oI x)), (2, .int (oI y)), (3, .int (oI en)), (5, .int (oI q))]) hx hb dX8_templateFits_160 hl (by decide) rfl (fun ls hl => ?_)
                  refine lv_iload hx hb dX8_templateFits_162 (lv_at hl 0 rfl) ?_
                  refine lv_istore (lv' := [(5, .int (oI r_55.toInt)), (4, .int (oI r_55.toInt)), (6, .int (oI r_2.toInt)), (0, .ref (a 8)), (1, .int (oI x)), (2, .int (oI y)), (3, .int (oI en))]) hx hb dX8_templateFits_164 hl (by decide) rfl (fun ls hl => ?_)
                  refine lv_goto (tgt := 60) hx hb dX8_templateFits_166 (by decide) ?_
                  exact ih en r_55.toInt (show (en - r_55.toInt).toNat < k from by omega) (by omega) (i32r _) (show x < r_55.toInt ∧ en = AF (X 1) gf x ∧ r_55.toInt ≤ x + 300000 from by first | assumption | omega | (with_reducible rfl) | ((repeat' apply And.intro) <;> first | assumption | omega | (with_reducible rfl))) _ _ hP hD hS ls (lv_sub hl [3, 4, 5, 6, 0] rfl)
              · refine lv_iconst (v := oI 0) hx hb dX8_templateFits_125 (by decide) ?_
                have e0 : (oI 0).toInt = 0 := by decide
                have hpost : (oI 0).toInt = 0 ∨ (oI 0).toInt = 1 := by first | assumption | omega | (with_reducible rfl) | ((repeat' apply And.intro) <;> first | assumption | omega | (with_reducible rfl))
                exact W.zret (v := (oI 0)) hx hb hr (by first | rfl | decide | exact zb9 (by omega)) (fun t ht hW => ⟨⟨(oI 0), (), rfl, hpost, by rw [ht]; exact hP, va_K.moved hW.alike hK, hD⟩, hS.F ht⟩) hS.2.2 dX8_templateFits_126
            · refine lv_iconst (v := oI 1) hx hb dX8_templateFits_114 (by decide) ?_
              refine lv_goto (tgt := 119) hx hb dX8_templateFits_115 (by decide) ?_
              have nq := NST_af hne (p := x) (q := q) (by omega) (by omega)
              refine ccs_iV (As := [.int (oI q), .int (oI 1)]) (rest := []) ⟨hx, hb, hml, hown, hts⟩ ((hI (d - 1) (by omega)) dC dI cB cC cI cJ cZ a F X J R gf gn q 1 D (by omega) (by decide) (show gf ≤ 67600 from by first | assumption | omega) (show gn ≤ 63261 from by first | assumption | omega) (show SPR (X 1) from by first | assumption | omega) (show 0 ≤ (F 13).toInt ∧ (F 13).toInt ≤ (gn : Int) from by first | assumption | omega) (show q < 1073741824 from by first | assumption | omega) (show D q < d - 1 from by first | assumption | omega) (show NST (X 1) D gf from by assumption) H.size) (cwV 2 hts kX8_templateFits_X8_templateFits_74 rfl rfl rfl (by decide +kernel) ⟨show ((d - 1) + 3) + 1 ≤ d + 3 from by omega, show 8 + (7 + 11) + (30 * (d - 1) + 104) ≤ 30 * d + 104 from by omega⟩) (va_recv hK hP (ci := 8) (q0 := 8) rfl rfl) hK hNW hP hD hS hA rfl rfl hl.1 (lv_room (Nat.le_of_ble_eq_true rfl)) dX8_templateFits_119 hcs (fun r_58 hw_59 H locs hP hD hS => ?_)
              have hw_59 : (r_58).toInt = 0 ∨ (r_58).toInt = 1 := hw_59
              have hz := hw_59
              have i_60 := i32r r_58
              refine cz_ne (tgt := 127) hx hb (i32r _) dX8_templateFits_122 (by decide) (fun c_61 => ?_) (fun c_61 => ?_)
              · refine lv_iload hx hb dX8_templateFits_127 (lv_at hl 0 rfl) ?_
                refine cz_eq (tgt := 151) hx hb (i32r _) dX8_templateFits_129 (by decide) (fun c_62 => ?_) (fun c_62 => ?_)
                · refine lv_aload_n hx hb dX8_templateFits_151 rfl (lv_at hl 1 rfl) ?_
                  refine cg_8_0 hx hb hts inX8_templateFits_X8 hown hK hP (hts _ lkX8_templateFits_f15) dX8_templateFits_152 ?_
                  refine lv_iload hx hb dX8_templateFits_155 (lv_at hl 5 rfl) ?_
                  refine ccs_iV (As := [.int (oI q)]) (rest := []) ⟨hx, hb, hml, hown, hts⟩ (c_after l dC dI cB cC cI cJ cZ a F X J R gf gn q  (by omega) (show gf ≤ 67600 from by first | assumption | omega) (show SPR (X 1) from by first | assumption | omega) (show q < 2147483647 from by first | assumption | omega) H.size) (cwV 1 hts kX8_templateFits_X1_after_49 rfl rfl rfl (by decide +kernel) ⟨show 1 + 1 ≤ d + 3 from by omega, show 8 + (2 + 11) + 60 ≤ 30 * d + 104 from by omega⟩) (va_recv hK hP (ci := 1) (q0 := 1) rfl rfl) hK hNW hP hD hS hA rfl rfl hl.1 (lv_room (Nat.le_of_ble_eq_true rfl)) dX8_templateFits_157 hcs (fun r_63 hw_64 H locs hP hD hS => ?_)
                  have hw_64 : (r_63).toInt = AF (X 1) gf q ∧ q < (r_63).toInt ∧ (r_63).toInt ≤ q + 67600 := hw_64
                  obtain ⟨_, la, ua⟩ := hw_64
                  have i_65 := i32r r_63
                  refine lv_istore (lv' := [(4, .int (oI r_63.toInt)), (6, .int (oI r_2.toInt)), (0, .ref (a 8)), (1, .int (oI x)), (2, .int (oI y)), (3, .int (oI en)), (5, .int (oI q))]) hx hb dX8_templateFits_160 hl (by decide) rfl (fun ls hl => ?_)
                  refine lv_iload hx hb dX8_templateFits_162 (lv_at hl 0 rfl) ?_
                  refine lv_istore (lv' := [(5, .int (oI r_63.toInt)), (4, .int (oI r_63.toInt)), (6, .int (oI r_2.toInt)), (0, .ref (a 8)), (1, .int (oI x)), (2, .int (oI y)), (3, .int (oI en))]) hx hb dX8_templateFits_164 hl (by decide) rfl (fun ls hl => ?_)
                  refine lv_goto (tgt := 60) hx hb dX8_templateFits_166 (by decide) ?_
                  exact ih en r_63.toInt (show (en - r_63.toInt).toNat < k from by omega) (by omega) (i32r _) (show x < r_63.toInt ∧ en = AF (X 1) gf x ∧ r_63.toInt ≤ x + 300000 from by first | assumption | omega | (with_reducible rfl) | ((repeat' apply And.intro) <;> first | assumption | omega | (with_reducible rfl))) _ _ hP hD hS ls (lv_sub hl [3, 4, 5, 6, 0] rfl)
                · refine lv_aload_n hx hb dX8_templateFits_132 rfl (lv_at hl 1 rfl) ?_
                  refine cg_8_0 hx hb hts inX8_templateFits_X8 hown hK hP (hts _ lkX8_templateFits_f15) dX8_templateFits_133 ?_
                  refine lv_aload_n hx hb dX8_templateFits_136 rfl (lv_at hl 1 rfl) ?_
                  refine cg_8_0 hx hb hts inX8_templateFits_X8 hown hK hP (hts _ lkX8_templateFits_f15) dX8_templateFits_137 ?_
                  refine lv_iload hx hb dX8_templateFits_140 (lv_at hl 5 rfl) ?_
                  refine ccs_iV (As := [.int (oI q)]) (rest := [.ref (a 1)]) ⟨hx, hb, hml, hown, hts⟩ (c_after l dC dI cB cC cI cJ cZ a F X J R gf gn q  (by omega) (show gf ≤ 67600 from by first | assumption | omega) (show SPR (X 1) from by first | assumption | omega) (show q < 2147483647 from by first | assumption | omega) H.size) (cwV 1 hts kX8_templateFits_X1_after_49 rfl rfl rfl (by decide +kernel) ⟨show 1 + 1 ≤ d + 3 from by omega, show 8 + (2 + 11) + 60 ≤ 30 * d + 104 from by omega⟩) (va_recv hK hP (ci := 1) (q0 := 1) rfl rfl) hK hNW hP hD hS hA rfl rfl hl.1 (lv_room (Nat.le_of_ble_eq_true rfl)) dX8_templateFits_142 hcs (fun r_66 hw_67 H locs hP hD hS => ?_)
                  have hw_67 : (r_66).toInt = AF (X 1) gf q ∧ q < (r_66).toInt ∧ (r_66).toInt ≤ q + 67600 := hw_67
                  obtain ⟨_, la, ua⟩ := hw_67
                  have i_68 := i32r r_66
                  refine ccs_iV (As := [.int (oI r_66.toInt)]) (rest := []) ⟨hx, hb, hml, hown, hts⟩ (c_after l dC dI cB cC cI cJ cZ a F X J R gf gn r_66.toInt  (i32r _) (show gf ≤ 67600 from by first | assumption | omega) (show SPR (X 1) from by first | assumption | omega) (show r_66.toInt < 2147483647 from by first | assumption | omega) H.size) (cwV 1 hts kX8_templateFits_X1_after_49 rfl rfl rfl (by decide +kernel) ⟨show 1 + 1 ≤ d + 3 from by omega, show 8 + (2 + 11) + 60 ≤ 30 * d + 104 from by omega⟩) (va_recv hK hP (ci := 1) (q0 := 1) rfl rfl) hK hNW hP hD hS hA rfl rfl hl.1 (lv_room (Nat.le_of_ble_eq_true rfl)) dX8_templateFits_145 hcs (fun r_69 hw_70 H locs hP hD hS => ?_)
                  have hw_70 : (r_69).toInt = AF (X 1) gf r_66.toInt ∧ r_66.toInt < (r_69).toInt ∧ (r_69).toInt ≤ r_66.toInt + 67600 := hw_70
                  obtain ⟨_, la, ua⟩ := hw_70
                  have i_71 := i32r r_69
                  refine lv_goto (tgt := 160) hx hb dX8_templateFits_148 (by decide) ?_
                  refine lv_istore (lv' := [(4, .int (oI r_69.toInt)), (6, .int (oI r_2.toInt)), (0, .ref (a 8)), (1, .int (oI x)), (2, .int (oI y)), (3, .int (oI en)), (5, .int (oI q))]) hx hb dX8_templateFits_160 hl (by decide) rfl (fun ls hl => ?_)
                  refine lv_iload hx hb dX8_templateFits_162 (lv_at hl 0 rfl) ?_
                  refine lv_istore (lv' := [(5, .int (oI r_69.toInt)), (4, .int (oI r_69.toInt)), (6, .int (oI r_2.toInt)), (0, .ref (a 8)), (1, .int (oI x)), (2, .int (oI y)), (3, .int (oI en))]) hx hb dX8_templateFits_164 hl (by decide) rfl (fun ls hl => ?_)
                  refine lv_goto (tgt := 60) hx hb dX8_templateFits_166 (by decide) ?_
                  exact ih en r_69.toInt (show (en - r_69.toInt).toNat < k from by omega) (by omega) (i32r _) (show x < r_69.toInt ∧ en = AF (X 1) gf x ∧ r_69.toInt ≤ x + 300000 from by first | assumption | omega | (with_reducible rfl) | ((repeat' apply And.intro) <;> first | assumption | omega | (with_reducible rfl))) _ _ hP hD hS ls (lv_sub hl [3, 4, 5, 6, 0] rfl)
              · refine lv_iconst (v := oI 0) hx hb dX8_templateFits_125 (by decide) ?_
                have e0 : (oI 0).toInt = 0 := by decide
                have hpost : (oI 0).toInt = 0 ∨ (oI 0).toInt = 1 := by first | assumption | omega | (with_reducible rfl) | ((repeat' apply And.intro) <;> first | assumption | omega | (with_reducible rfl))
                exact W.zret (v := (oI 0)) hx hb hr (by first | rfl | decide | exact zb9 (by omega)) (fun t ht hW => ⟨⟨(oI 0), (), rfl, hpost, by rw [ht]; exact hP, va_K.moved hW.alike hK, hD⟩, hS.F ht⟩) hS.2.2 dX8_templateFits_126
          · refine lv_iconst (v := oI 0) hx hb dX8_templateFits_104 (by decide) ?_
            have e0 : (oI 0).toInt = 0 := by decide
            have hpost : (oI 0).toInt = 0 ∨ (oI 0).toInt = 1 := by first | assumption | omega | (with_reducible rfl) | ((repeat' apply And.intro) <;> first | assumption | omega | (with_reducible rfl))
            exact W.zret (v := (oI 0)) hx hb hr (by first | rfl | decide | exact zb9 (by omega)) (fun t ht hW => ⟨⟨(oI 0), (), rfl, hpost, by rw [ht]; exact hP, va_K.moved hW.alike hK, hD⟩, hS.F ht⟩) hS.2.2 dX8_templateFits_105

set_option maxHeartbeats 4000000 in
set_option maxRecDepth 100000 in
theorem st_templateFits (l : Launch) (d : Nat) (hI : ∀ d1, d1 < d → P_X8_templateFits l d1) : P_X8_templateFits l d := by
  unfold P_X8_templateFits
  intro dC dI cB cC cI cJ cZ a F X J R gf gn x y D ix iy hgf hgn hsp hnt hx2 hdp hne s0
  refine Met.ofW (cc := cX8_templateFits) (maxL := 7) (ret := (some .boolean)) (by decide) rfl ?_
  intro p e s m args below meth c s₁ B9 hml hv
  obtain ⟨rfl, hsz0, hP, hK, hD0, hNW⟩ := hv
  have hx := B9.exec
  have hb := B9.bytes
  have hr := B9.returns
  have hts := atoms_spec (ws := vX8_templateFits) B9.pre
  have hown : s.vm.findClass RX8 = some m.cls := findClass_of_methodNamed B9.named
  have hlocks := B9.notSynchronized
  clear B9
  subst hsz0
  have hD := hD0.self (sz := s.heap.size)
  generalize hAe : va_A (CW cB cC cI cJ cZ a F X J R gf gn) s.heap.size = A at hD ⊢
  have hA : ∀ q : Nat, s.heap.size ≤ q → A q := fun q h => by rw [← hAe]; exact Or.inr h
  have hS : va_S A s.heap s.heap [] := va_S.rf
  have hcs : 0 + 0 ≤ (0 : Nat) ∧ 0 + 0 ≤ (0 : Nat) := ⟨Nat.le_refl 0, Nat.le_refl 0⟩
  have hl := lv_entry ([.ref (a 8), .int (oI x), .int (oI y)]) (n := 7) (Nat.le_of_ble_eq_true rfl)
  rw [lg_entry_eq]
  generalize (lg_sl ([.ref (a 8), .int (oI x), .int (oI y)]) ++ List.replicate (7 - (lg_sl ([.ref (a 8), .int (oI x), .int (oI y)])).length) Slot.unset).toArray = ls at hl ⊢
  have hl : lv_has ls 7 [(0, .ref (a 8)), (1, .int (oI x)), (2, .int (oI y))] := hl
  have eb := AF_b hsp gf x
  refine lv_aload_n hx hb dX8_templateFits_0 rfl (lv_at hl 0 rfl) ?_
  refine cg_8_0 hx hb hts inX8_templateFits_X8 hown hK hP (hts _ lkX8_templateFits_f15) dX8_templateFits_1 ?_
  refine lv_iload_n hx hb dX8_templateFits_4 rfl (lv_at hl 1 rfl) ?_
  refine ccs_iV (As := [.int (oI x)]) (rest := []) ⟨hx, hb, hml, hown, hts⟩ (c_isList l dC dI cB cC cI cJ cZ a F X J R gf gn x  (by omega) (show gf ≤ 67600 from by first | assumption | omega)  s.heap.size) (cwV 1 hts kX8_templateFits_X1_isList_56 rfl rfl rfl (by decide +kernel) ⟨show 1 + 1 ≤ d + 3 from by omega, show 8 + (2 + 11) + 60 ≤ 30 * d + 104 from by omega⟩) (va_recv hK hP (ci := 1) (q0 := 1) rfl rfl) hK hNW hP hD hS hA rfl rfl hl.1 (lv_room (Nat.le_of_ble_eq_true rfl)) dX8_templateFits_5 hcs (fun r_1 hw_2 H locs hP hD hS => ?_)
  have hw_2 : ((r_1).toInt = 1 ∧ 0 ≤ x ∧ x < (gf : Int)) ∨ (r_1).toInt = 0 := hw_2
  have hil := hw_2
  have i_3 := i32r r_1
  refine cz_ne (tgt := 43) hx hb (i32r _) dX8_templateFits_8 (by decide) (fun c_4 => ?_) (fun c_4 => ?_)
  · refine lv_aload_n hx hb dX8_templateFits_43 rfl (lv_at hl 0 rfl) ?_
    refine cg_8_0 hx hb hts inX8_templateFits_X8 hown hK hP (hts _ lkX8_templateFits_f15) dX8_templateFits_44 ?_
    refine lv_iload_n hx hb dX8_templateFits_47 rfl (lv_at hl 1 rfl) ?_
    refine ccs_iV (As := [.int (oI x)]) (rest := []) ⟨hx, hb, hml, hown, hts⟩ (c_after l dC dI cB cC cI cJ cZ a F X J R gf gn x  (by omega) (show gf ≤ 67600 from by first | assumption | omega) (show SPR (X 1) from by first | assumption | omega) (show x < 2147483647 from by first | assumption | omega) H.size) (cwV 1 hts kX8_templateFits_X1_after_49 rfl rfl rfl (by decide +kernel) ⟨show 1 + 1 ≤ d + 3 from by omega, show 8 + (2 + 11) + 60 ≤ 30 * d + 104 from by omega⟩) (va_recv hK hP (ci := 1) (q0 := 1) rfl rfl) hK hNW hP hD hS hA rfl rfl hl.1 (lv_room (Nat.le_of_ble_eq_true rfl)) dX8_templateFits_48 hcs (fun r_5 hw_6 H locs hP hD hS => ?_)
    have hw_6 : (r_5).toInt = AF (X 1) gf x ∧ x < (r_5).toInt ∧ (r_5).toInt ≤ x + 67600 := hw_6
    obtain ⟨ea, la, ua⟩ := hw_6
    have i_7 := i32r r_5
    refine lv_istore_n (lv' := [(3, .int (oI r_5.toInt)), (0, .ref (a 8)), (1, .int (oI x)), (2, .int (oI y))]) hx hb dX8_templateFits_51 rfl hl (by decide) rfl (fun ls hl => ?_)
    refine lv_iconst (v := oI 0) hx hb dX8_templateFits_52 (by decide) ?_
    refine lv_istore (lv' := [(4, .int (oI 0)), (3, .int (oI r_5.toInt)), (0, .ref (a 8)), (1, .int (oI x)), (2, .int (oI y))]) hx hb dX8_templateFits_53 hl (by decide) rfl (fun ls hl => ?_)
    refine lv_iload_n hx hb dX8_templateFits_55 rfl (lv_at hl 3 rfl) ?_
    refine lv_iconst (v := oI 1) hx hb dX8_templateFits_56 (by decide) ?_
    refine lv_iadd hx hb dX8_templateFits_57 ?_
    refine tp_i (oI_add x 1) ?_
    refine lv_istore (lv' := [(5, .int (oI (x + 1))), (4, .int (oI 0)), (3, .int (oI r_5.toInt)), (0, .ref (a 8)), (1, .int (oI x)), (2, .int (oI y))]) hx hb dX8_templateFits_58 hl (by decide) rfl (fun ls hl => ?_)
    have hx0 : 0 ≤ x ∧ x < (gf : Int) := by omega
    exact lq_templateFits hx hb hml hown hts hK hNW hA hr hlocks x y d D ix iy (by assumption) (by assumption) (by assumption) (by assumption) (by assumption) (by assumption) (by assumption) hI hx0 _ r_5.toInt (x + 1) (Nat.lt_succ_self _) (i32r _) (by omega) (show x < (x + 1) ∧ r_5.toInt = AF (X 1) gf x ∧ (x + 1) ≤ x + 300000 from by first | assumption | omega | (with_reducible rfl) | ((repeat' apply And.intro) <;> first | assumption | omega | (with_reducible rfl))) _ _ hP hD hS ls (lv_sub hl [3, 4, 5, 2, 0] rfl)
  · refine lv_aload_n hx hb dX8_templateFits_11 rfl (lv_at hl 0 rfl) ?_
    refine cg_8_0 hx hb hts inX8_templateFits_X8 hown hK hP (hts _ lkX8_templateFits_f15) dX8_templateFits_12 ?_
    refine lv_iload_n hx hb dX8_templateFits_15 rfl (lv_at hl 1 rfl) ?_
    refine ccs_iV (As := [.int (oI x)]) (rest := []) ⟨hx, hb, hml, hown, hts⟩ (c_nameOf l dC dI cB cC cI cJ cZ a F X J R gf gn x  (by omega) (show gf ≤ 67600 from by first | assumption | omega)  H.size) (cwV 1 hts kX8_templateFits_X1_nameOf_59 rfl rfl rfl (by decide +kernel) ⟨show 1 + 1 ≤ d + 3 from by omega, show 8 + (3 + 11) + 60 ≤ 30 * d + 104 from by omega⟩) (va_recv hK hP (ci := 1) (q0 := 1) rfl rfl) hK hNW hP hD hS hA rfl rfl hl.1 (lv_room (Nat.le_of_ble_eq_true rfl)) dX8_templateFits_16 hcs (fun r_8 hw_9 H locs hP hD hS => ?_)
    have i_10 := i32r r_8
    refine lv_bipush (v := oI 7) hx hb dX8_templateFits_19 (by decide) ?_
    refine ci_eq (tgt := 41) hx hb (i32r _) (by decide) dX8_templateFits_21 (by decide) (fun c_11 => ?_) (fun c_11 => ?_)
    · refine lv_iconst (v := oI 0) hx hb dX8_templateFits_41 (by decide) ?_
      have e0 : (oI 0).toInt = 0 := by decide
      have hpost : (oI 0).toInt = 0 ∨ (oI 0).toInt = 1 := by first | assumption | omega | (with_reducible rfl) | ((repeat' apply And.intro) <;> first | assumption | omega | (with_reducible rfl))
      exact W.zret (v := (oI 0)) hx hb hr (by first | rfl | decide | exact zb9 (by omega)) (fun t ht hW => ⟨⟨(oI 0), (), rfl, hpost, by rw [ht]; exact hP, va_K.moved hW.alike hK, hD⟩, hS.F ht⟩) hS.2.2 dX8_templateFits_42
    · refine lv_iload_n hx hb dX8_templateFits_24 rfl (lv_at hl 2 rfl) ?_
      refine lv_iconst (v := oI 1) hx hb dX8_templateFits_25 (by decide) ?_
      refine ci_eq (tgt := 37) hx hb (by omega) (by decide) dX8_templateFits_26 (by decide) (fun c_12 => ?_) (fun c_12 => ?_)
      · refine lv_iconst (v := oI 1) hx hb dX8_templateFits_37 (by decide) ?_
        refine lv_goto (tgt := 42) hx hb dX8_templateFits_38 (by decide) ?_
        have e0 : (oI 1).toInt = 1 := by decide
        have hpost : (oI 1).toInt = 0 ∨ (oI 1).toInt = 1 := by first | assumption | omega | (with_reducible rfl) | ((repeat' apply And.intro) <;> first | assumption | omega | (with_reducible rfl))
        exact W.zret (v := (oI 1)) hx hb hr (by first | rfl | decide | exact zb9 (by omega)) (fun t ht hW => ⟨⟨(oI 1), (), rfl, hpost, by rw [ht]; exact hP, va_K.moved hW.alike hK, hD⟩, hS.F ht⟩) hS.2.2 dX8_templateFits_42
      · refine lv_aload_n hx hb dX8_templateFits_29 rfl (lv_at hl 0 rfl) ?_
        refine lv_iload_n hx hb dX8_templateFits_30 rfl (lv_at hl 1 rfl) ?_
        refine ccs_iV (As := [.int (oI x)]) (rest := []) ⟨hx, hb, hml, hown, hts⟩ (c_holdsRepeated l dC dI cB cC cI cJ cZ a F X J R gf gn x  (by omega) (show gf ≤ 67600 from by first | assumption | omega) (show gn ≤ 63261 from by first | assumption | omega) (show SPR (X 1) from by first | assumption | omega) (show 0 ≤ (F 13).toInt ∧ (F 13).toInt ≤ (gn : Int) from by first | assumption | omega) (show x < 1073741824 from by first | assumption | omega) H.size) (cwV 1 hts kX8_templateFits_X8_holdsRepeated_99 rfl rfl rfl (by decide +kernel) ⟨show 2 + 1 ≤ d + 3 from by omega, show 8 + (3 + 11) + 82 ≤ 30 * d + 104 from by omega⟩) (va_recv hK hP (ci := 8) (q0 := 8) rfl rfl) hK hNW hP hD hS hA rfl rfl hl.1 (lv_room (Nat.le_of_ble_eq_true rfl)) dX8_templateFits_31 hcs (fun r_13 hw_14 H locs hP hD hS => ?_)
        have hw_14 : (r_13).toInt = 0 ∨ (r_13).toInt = 1 := hw_14
        have hz := hw_14
        have i_15 := i32r r_13
        refine cz_ne (tgt := 41) hx hb (i32r _) dX8_templateFits_34 (by decide) (fun c_16 => ?_) (fun c_16 => ?_)
        · refine lv_iconst (v := oI 0) hx hb dX8_templateFits_41 (by decide) ?_
          have e0 : (oI 0).toInt = 0 := by decide
          have hpost : (oI 0).toInt = 0 ∨ (oI 0).toInt = 1 := by first | assumption | omega | (with_reducible rfl) | ((repeat' apply And.intro) <;> first | assumption | omega | (with_reducible rfl))
          exact W.zret (v := (oI 0)) hx hb hr (by first | rfl | decide | exact zb9 (by omega)) (fun t ht hW => ⟨⟨(oI 0), (), rfl, hpost, by rw [ht]; exact hP, va_K.moved hW.alike hK, hD⟩, hS.F ht⟩) hS.2.2 dX8_templateFits_42
        · refine lv_iconst (v := oI 1) hx hb dX8_templateFits_37 (by decide) ?_
          refine lv_goto (tgt := 42) hx hb dX8_templateFits_38 (by decide) ?_
          have e0 : (oI 1).toInt = 1 := by decide
          have hpost : (oI 1).toInt = 0 ∨ (oI 1).toInt = 1 := by first | assumption | omega | (with_reducible rfl) | ((repeat' apply And.intro) <;> first | assumption | omega | (with_reducible rfl))
          exact W.zret (v := (oI 1)) hx hb hr (by first | rfl | decide | exact zb9 (by omega)) (fun t ht hW => ⟨⟨(oI 1), (), rfl, hpost, by rw [ht]; exact hP, va_K.moved hW.alike hK, hD⟩, hS.F ht⟩) hS.2.2 dX8_templateFits_42

theorem all_templateFits (l : Launch) (d : Nat) : P_X8_templateFits l d := by
  induction d using Nat.strongRecOn with
  | ind d ih => exact st_templateFits l d ih
theorem c_templateFits (l : Launch) (dC : Nat → ClassId) (dI : Nat → Nat → Nat) (cB cC cI cJ cZ : ClassId) (a : Nat → Nat) (F : Nat → Int32) (X : Nat → Nat → Int32) (J : Nat → Nat → Int64) (R : Nat → Nat) (gf gn : Nat) (x y : Int) (d : Nat) (D : Int → Nat) (ix : (-2147483648 ≤ x ∧ x < 2147483648)) (iy : (-2147483648 ≤ y ∧ y < 2147483648)) (hgf : gf ≤ 67600) (hgn : gn ≤ 63261) (hsp : SPR (X 1)) (hnt : 0 ≤ (F 13).toInt ∧ (F 13).toInt ≤ (gn : Int)) (hx2 : x < 1073741824) (hdp : D x < d) (hne : NST (X 1) D gf) (s0 : Nat) : Met l yX8_templateFits vX8_templateFits { frames := d + 3, cells := 0, slots := 0, locals := 30 * d + 104 } (va_Pc [.ref (a 8), .int (oI x), .int (oI y)] (cPre dC dI cB cC cI cJ cZ a F X J R gf gn s0)) (va_Qi (fun (r : Int32) (_ : Unit) => (r).toInt = 0 ∨ (r).toInt = 1) (fun _ => cPost dC dI cB cC cI cJ cZ a F X J R gf gn (va_A (CW cB cC cI cJ cZ a F X J R gf gn) s0)) (va_A (CW cB cC cI cJ cZ a F X J R gf gn) s0)) 0 0 (va_A (CW cB cC cI cJ cZ a F X J R gf gn) s0) := (all_templateFits l d) dC dI cB cC cI cJ cZ a F X J R gf gn x y D ix iy hgf hgn hsp hnt hx2 hdp hne s0
set_option maxHeartbeats 4000000 in
set_option maxRecDepth 100000 in
/-- X8_ruleFits -/
theorem c_ruleFits (l : Launch) (dC : Nat → ClassId) (dI : Nat → Nat → Nat) (cB cC cI cJ cZ : ClassId) (a : Nat → Nat) (F : Nat → Int32) (X : Nat → Nat → Int32) (J : Nat → Nat → Int64) (R : Nat → Nat) (gf gn : Nat) (x : Int) (D : Int → Nat) (ix : (-2147483648 ≤ x ∧ x < 2147483648)) (hgf : gf ≤ 67600) (hgn : gn ≤ 63261) (hsp : SPR (X 1)) (hnt : 0 ≤ (F 13).toInt ∧ (F 13).toInt ≤ (gn : Int)) (hl8 : (F 21).toInt < 2000000000) (hx2 : x < 1000000000) (hne : NST (X 1) D gf) (s0 : Nat) : Met l yX8_ruleFits vX8_ruleFits { frames := 129, cells := 0, slots := 0, locals := 3875 } (va_Pc [.ref (a 8), .int (oI x)] (cPre dC dI cB cC cI cJ cZ a F X J R gf gn s0)) (va_Qi (fun (r : Int32) (u : (Nat → Int32) × (Nat → Nat → Int32)) => match u with | (F1, X1) => (r).toInt = 0 ∨ (r).toInt = 1) (fun u => cPost dC dI cB cC cI cJ cZ a (rg 14 14 F u.1) (rg 17 18 X u.2) J R gf gn (va_A (CW cB cC cI cJ cZ a F X J R gf gn) s0)) (va_A (CW cB cC cI cJ cZ a F X J R gf gn) s0)) 0 0 (va_A (CW cB cC cI cJ cZ a F X J R gf gn) s0) := by
  refine Met.ofW (cc := cX8_ruleFits) (maxL := 3) (ret := (some .boolean)) (by decide) rfl ?_
  intro p e s m args below meth c s₁ B9 hml hv
  obtain ⟨rfl, hsz0, hP, hK, hD0, hNW⟩ := hv
  have hx := B9.exec
  have hb := B9.bytes
  have hr := B9.returns
  have hts := atoms_spec (ws := vX8_ruleFits) B9.pre
  have hown : s.vm.findClass RX8 = some m.cls := findClass_of_methodNamed B9.named
  have hlocks := B9.notSynchronized
  clear B9
  subst hsz0
  have hD := hD0.self (sz := s.heap.size)
  generalize hAe : va_A (CW cB cC cI cJ cZ a F X J R gf gn) s.heap.size = A at hD ⊢
  have hA : ∀ q : Nat, s.heap.size ≤ q → A q := fun q h => by rw [← hAe]; exact Or.inr h
  have hS : va_S A s.heap s.heap [] := va_S.rf
  have hcs : 0 + 0 ≤ (0 : Nat) ∧ 0 + 0 ≤ (0 : Nat) := ⟨Nat.le_refl 0, Nat.le_refl 0⟩
  have hl := lv_entry ([.ref (a 8), .int (oI x)]) (n := 3) (Nat.le_of_ble_eq_true rfl)
  rw [lg_entry_eq]
  generalize (lg_sl ([.ref (a 8), .int (oI x)]) ++ List.replicate (3 - (lg_sl ([.ref (a 8), .int (oI x)])).length) Slot.unset).toArray = ls at hl ⊢
  have hl : lv_has ls 3 [(0, .ref (a 8)), (1, .int (oI x))] := hl
  have eb := AF_b hsp gf (x + 1)
  refine lv_iload_n hx hb dX8_ruleFits_0 rfl (lv_at hl 1 rfl) ?_
  refine lv_iconst (v := oI 1) hx hb dX8_ruleFits_1 (by decide) ?_
  refine lv_iadd hx hb dX8_ruleFits_2 ?_
  refine tp_i (oI_add x 1) ?_
  refine lv_istore_n (lv' := [(2, .int (oI (x + 1))), (0, .ref (a 8)), (1, .int (oI x))]) hx hb dX8_ruleFits_3 rfl hl (by decide) rfl (fun ls hl => ?_)
  refine lv_aload_n hx hb dX8_ruleFits_4 rfl (lv_at hl 1 rfl) ?_
  refine cg_8_0 hx hb hts inX8_ruleFits_X8 hown hK hP (hts _ lkX8_ruleFits_f15) dX8_ruleFits_5 ?_
  refine lv_iload_n hx hb dX8_ruleFits_8 rfl (lv_at hl 2 rfl) ?_
  refine ccs_iV (As := [.int (oI x)]) (rest := []) ⟨hx, hb, hml, hown, hts⟩ (c_parts l dC dI cB cC cI cJ cZ a F X J R gf gn x  (by omega) (show gf ≤ 67600 from by first | assumption | omega) (show SPR (X 1) from by first | assumption | omega)  s.heap.size) (cwV 1 hts kX8_ruleFits_X1_parts_27 rfl rfl rfl (by decide +kernel) ⟨Nat.le_of_ble_eq_true rfl, Nat.le_of_ble_eq_true rfl⟩) (va_recv hK hP (ci := 1) (q0 := 1) rfl rfl) hK hNW hP hD hS hA rfl rfl hl.1 (lv_room (Nat.le_of_ble_eq_true rfl)) dX8_ruleFits_9 hcs (fun r_1 hw_2 H locs hP hD hS => ?_)
  have hw_2 : 0 ≤ (r_1).toInt ∧ (r_1).toInt ≤ 67600 ∧ (1 ≤ (r_1).toInt → x + 1 < AF (X 1) gf x ∧ 0 ≤ x ∧ x < (gf : Int)) ∧ (2 ≤ (r_1).toInt → AF (X 1) gf (x + 1) < AF (X 1) gf x) ∧ (3 ≤ (r_1).toInt → AF (X 1) gf (AF (X 1) gf (x + 1)) < AF (X 1) gf x) := hw_2
  have hpa := hw_2
  have i_3 := i32r r_1
  refine lv_iconst (v := oI 2) hx hb dX8_ruleFits_12 (by decide) ?_
  refine ci_ne (tgt := 27) hx hb (i32r _) (by decide) dX8_ruleFits_13 (by decide) (fun c_4 => ?_) (fun c_4 => ?_)
  · refine lv_iconst (v := oI 0) hx hb dX8_ruleFits_27 (by decide) ?_
    have e0 : (oI 0).toInt = 0 := by decide
    have eF9 : rg 14 14 F F = F := by funext k; simp only [rg, va_up]; (repeat' split) <;> first | with_reducible rfl | omega
    have eX9 : rg 17 18 X X = X := by funext k; simp only [rg, va_up]; (repeat' split) <;> first | with_reducible rfl | omega
    have hP9 : va_P (dC, dI) vwCl (CW cB cC cI cJ cZ a (rg 14 14 F F) (rg 17 18 X X) J R gf gn) H := by rw [eF9, eX9]; exact hP
    have hD9 : va_D A (CW cB cC cI cJ cZ a (rg 14 14 F F) (rg 17 18 X X) J R gf gn) := by rw [eF9, eX9]; exact hD
    have hpost : (oI 0).toInt = 0 ∨ (oI 0).toInt = 1 := by first | assumption | omega | (with_reducible rfl) | ((repeat' apply And.intro) <;> first | assumption | omega | (with_reducible rfl))
    exact W.zret (v := (oI 0)) hx hb hr (by first | rfl | decide | exact zb9 (by omega)) (fun t ht hW => ⟨⟨(oI 0), (F, X), rfl, hpost, by rw [ht]; exact hP9, va_K.moved hW.alike hK, hD9⟩, hS.F ht⟩) hS.2.2 dX8_ruleFits_28
  · refine lv_aload_n hx hb dX8_ruleFits_16 rfl (lv_at hl 1 rfl) ?_
    refine cg_8_0 hx hb hts inX8_ruleFits_X8 hown hK hP (hts _ lkX8_ruleFits_f15) dX8_ruleFits_17 ?_
    refine lv_iload_n hx hb dX8_ruleFits_20 rfl (lv_at hl 0 rfl) ?_
    refine ccs_iV (As := [.int (oI (x + 1))]) (rest := []) ⟨hx, hb, hml, hown, hts⟩ (c_parts l dC dI cB cC cI cJ cZ a F X J R gf gn (x + 1)  (by omega) (show gf ≤ 67600 from by first | assumption | omega) (show SPR (X 1) from by first | assumption | omega)  H.size) (cwV 1 hts kX8_ruleFits_X1_parts_27 rfl rfl rfl (by decide +kernel) ⟨Nat.le_of_ble_eq_true rfl, Nat.le_of_ble_eq_true rfl⟩) (va_recv hK hP (ci := 1) (q0 := 1) rfl rfl) hK hNW hP hD hS hA rfl rfl hl.1 (lv_room (Nat.le_of_ble_eq_true rfl)) dX8_ruleFits_21 hcs (fun r_5 hw_6 H locs hP hD hS => ?_)
    have hw_6 : 0 ≤ (r_5).toInt ∧ (r_5).toInt ≤ 67600 ∧ (1 ≤ (r_5).toInt → (x + 1) + 1 < AF (X 1) gf (x + 1) ∧ 0 ≤ (x + 1) ∧ (x + 1) < (gf : Int)) ∧ (2 ≤ (r_5).toInt → AF (X 1) gf ((x + 1) + 1) < AF (X 1) gf (x + 1)) ∧ (3 ≤ (r_5).toInt → AF (X 1) gf (AF (X 1) gf ((x + 1) + 1)) < AF (X 1) gf (x + 1)) := hw_6
    have hpa := hw_6
    have i_7 := i32r r_5
    refine cz_ne (tgt := 29) hx hb (i32r _) dX8_ruleFits_24 (by decide) (fun c_8 => ?_) (fun c_8 => ?_)
    · refine lv_aload_n hx hb dX8_ruleFits_29 rfl (lv_at hl 1 rfl) ?_
      refine cg_8_1 hx hb hts inX8_ruleFits_X8 hown hK hP (hts _ lkX8_ruleFits_f19) dX8_ruleFits_30 ?_
      refine ccp_vV (As := []) (rest := []) (gF := fun F9 => rg 14 14 F F9) (gX := fun _ => X) ⟨hx, hb, hml, hown, hts⟩ (c_clearNotes l dC dI cB cC cI cJ cZ a F X J R gf gn      H.size) (cwV 0 hts kX8_ruleFits_X6_clearNotes_67 rfl rfl rfl (by decide +kernel) ⟨Nat.le_of_ble_eq_true rfl, Nat.le_of_ble_eq_true rfl⟩) (va_recv hK hP (ci := 6) (q0 := 6) rfl rfl) hK hNW hP hD hS hA rfl rfl hl.1 (lv_room (Nat.le_of_ble_eq_true rfl)) dX8_ruleFits_33 hcs (fun F_9 X_10 hw_11 H locs hP hD hS => ?_)
      refine lv_aload_n hx hb dX8_ruleFits_36 rfl (lv_at hl 1 rfl) ?_
      refine lv_aload_n hx hb dX8_ruleFits_37 rfl (lv_at hl 1 rfl) ?_
      refine cg_8_0 hx hb hts inX8_ruleFits_X8 hown hK hP (hts _ lkX8_ruleFits_f15) dX8_ruleFits_38 ?_
      refine lv_iload_n hx hb dX8_ruleFits_41 rfl (lv_at hl 0 rfl) ?_
      refine lv_iconst (v := oI 1) hx hb dX8_ruleFits_42 (by decide) ?_
      refine ccs_iV (As := [.int (oI (x + 1)), .int (oI 1)]) (rest := [.ref (a 8)]) ⟨hx, hb, hml, hown, hts⟩ (c_part1 l dC dI cB cC cI cJ cZ a (rg 14 14 F F_9) X J R gf gn (x + 1)  (by omega) (show gf ≤ 67600 from by first | assumption | omega) (show SPR (X 1) from by first | assumption | omega) (show x + 1 < 1073741824 from by first | assumption | omega) H.size) (cwV 2 hts kX8_ruleFits_X1_part_36 rfl rfl rfl (by decide +kernel) ⟨Nat.le_of_ble_eq_true rfl, Nat.le_of_ble_eq_true rfl⟩) (va_recv hK hP (ci := 1) (q0 := 1) rfl rfl) hK hNW hP hD hS hA rfl rfl hl.1 (lv_room (Nat.le_of_ble_eq_true rfl)) dX8_ruleFits_43 hcs (fun r_12 hw_13 H locs hP hD hS => ?_)
      have hw_13 : (r_12).toInt = AF (X 1) gf ((x + 1) + 1) ∧ (x + 1) + 1 < (r_12).toInt ∧ (r_12).toInt ≤ (x + 1) + 67601 := hw_13
      obtain ⟨ep1, lp1, up1⟩ := hw_13
      have i_14 := i32r r_12
      refine lv_aload_n hx hb dX8_ruleFits_46 rfl (lv_at hl 1 rfl) ?_
      refine cg_8_0 hx hb hts inX8_ruleFits_X8 hown hK hP (hts _ lkX8_ruleFits_f15) dX8_ruleFits_47 ?_
      refine lv_iload_n hx hb dX8_ruleFits_50 rfl (lv_at hl 0 rfl) ?_
      refine ccs_iV (As := [.int (oI (x + 1))]) (rest := [.int (oI r_12.toInt), .ref (a 8)]) ⟨hx, hb, hml, hown, hts⟩ (c_after l dC dI cB cC cI cJ cZ a (rg 14 14 F F_9) X J R gf gn (x + 1)  (by omega) (show gf ≤ 67600 from by first | assumption | omega) (show SPR (X 1) from by first | assumption | omega) (show x + 1 < 2147483647 from by first | assumption | omega) H.size) (cwV 1 hts kX8_ruleFits_X1_after_49 rfl rfl rfl (by decide +kernel) ⟨Nat.le_of_ble_eq_true rfl, Nat.le_of_ble_eq_true rfl⟩) (va_recv hK hP (ci := 1) (q0 := 1) rfl rfl) hK hNW hP hD hS hA rfl rfl hl.1 (lv_room (Nat.le_of_ble_eq_true rfl)) dX8_ruleFits_51 hcs (fun r_15 hw_16 H locs hP hD hS => ?_)
      have hw_16 : (r_15).toInt = AF (X 1) gf (x + 1) ∧ (x + 1) < (r_15).toInt ∧ (r_15).toInt ≤ (x + 1) + 67600 := hw_16
      obtain ⟨ea, la, ua⟩ := hw_16
      have i_17 := i32r r_15
      refine lv_iconst (v := oI 0) hx hb dX8_ruleFits_54 (by decide) ?_
      refine ccp_iV (As := [.int (oI r_12.toInt), .int (oI r_15.toInt), .int (oI 0)]) (rest := []) (gF := fun _ => rg 14 14 F F_9) (gX := fun X9 => rg 17 18 X X9) ⟨hx, hb, hml, hown, hts⟩ (c_patternsFit l dC dI cB cC cI cJ cZ a (rg 14 14 F F_9) X J R gf gn r_12.toInt r_15.toInt 0 62 D (i32r _) (i32r _) (by decide) (show gf ≤ 67600 from by first | assumption | omega) (show gn ≤ 63261 from by first | assumption | omega) (show SPR (X 1) from by first | assumption | omega) (show 0 ≤ (F 13).toInt ∧ (F 13).toInt ≤ (gn : Int) from by first | assumption | omega) (show (F 21).toInt < 2000000000 from by first | assumption | omega) (show r_12.toInt < 1073741824 ∧ r_15.toInt < 1073741824 from by first | assumption | omega) (show ∀ q9 : Int, r_12.toInt ≤ q9 → q9 < r_15.toInt → D q9 < 62 from fun q9 _ _ => by have := hne.1 q9; omega) (show NST (X 1) D gf from by assumption) H.size) (cwV 3 hts kX8_ruleFits_X8_patternsFit_70 rfl rfl rfl (by decide +kernel) ⟨show (2 * 62 + 4) + 1 ≤ 129 from by omega, show 8 + (6 + 11) + (60 * 62 + 130) ≤ 3875 from by omega⟩) (va_recv hK hP (ci := 8) (q0 := 8) rfl rfl) hK hNW hP hD hS hA rfl rfl hl.1 (lv_room (Nat.le_of_ble_eq_true rfl)) dX8_ruleFits_55 hcs (fun r_18 F_19 X_20 hw_21 H locs hP hD hS => ?_)
      have hw_21 : (r_18).toInt = 0 ∨ (r_18).toInt = 1 := hw_21
      have hz := hw_21
      have i_22 := i32r r_18
      refine cz_eq (tgt := 81) hx hb (i32r _) dX8_ruleFits_58 (by decide) (fun c_23 => ?_) (fun c_23 => ?_)
      · refine lv_iconst (v := oI 0) hx hb dX8_ruleFits_81 (by decide) ?_
        have e0 : (oI 0).toInt = 0 := by decide
        have eF9 : rg 14 14 F (rg 14 14 F F_9) = rg 14 14 F F_9 := by funext k; simp only [rg, va_up]; (repeat' split) <;> first | with_reducible rfl | omega
        have eX9 : rg 17 18 X (rg 17 18 X X_20) = rg 17 18 X X_20 := by funext k; simp only [rg, va_up]; (repeat' split) <;> first | with_reducible rfl | omega
        have hP9 : va_P (dC, dI) vwCl (CW cB cC cI cJ cZ a (rg 14 14 F (rg 14 14 F F_9)) (rg 17 18 X (rg 17 18 X X_20)) J R gf gn) H := by rw [eF9, eX9]; exact hP
        have hD9 : va_D A (CW cB cC cI cJ cZ a (rg 14 14 F (rg 14 14 F F_9)) (rg 17 18 X (rg 17 18 X X_20)) J R gf gn) := by rw [eF9, eX9]; exact hD
        have hpost : (oI 0).toInt = 0 ∨ (oI 0).toInt = 1 := by first | assumption | omega | (with_reducible rfl) | ((repeat' apply And.intro) <;> first | assumption | omega | (with_reducible rfl))
        exact W.zret (v := (oI 0)) hx hb hr (by first | rfl | decide | exact zb9 (by omega)) (fun t ht hW => ⟨⟨(oI 0), (rg 14 14 F F_9, rg 17 18 X X_20), rfl, hpost, by rw [ht]; exact hP9, va_K.moved hW.alike hK, hD9⟩, hS.F ht⟩) hS.2.2 dX8_ruleFits_82
      · refine lv_aload_n hx hb dX8_ruleFits_61 rfl (lv_at hl 1 rfl) ?_
        refine lv_aload_n hx hb dX8_ruleFits_62 rfl (lv_at hl 1 rfl) ?_
        refine cg_8_0 hx hb hts inX8_ruleFits_X8 hown hK hP (hts _ lkX8_ruleFits_f15) dX8_ruleFits_63 ?_
        refine lv_iload_n hx hb dX8_ruleFits_66 rfl (lv_at hl 0 rfl) ?_
        refine ccs_iV (As := [.int (oI (x + 1))]) (rest := [.ref (a 8)]) ⟨hx, hb, hml, hown, hts⟩ (c_after l dC dI cB cC cI cJ cZ a (rg 14 14 F F_9) (rg 17 18 X X_20) J R gf gn (x + 1)  (by omega) (show gf ≤ 67600 from by first | assumption | omega) (show SPR (X 1) from by first | assumption | omega) (show x + 1 < 2147483647 from by first | assumption | omega) H.size) (cwV 1 hts kX8_ruleFits_X1_after_49 rfl rfl rfl (by decide +kernel) ⟨Nat.le_of_ble_eq_true rfl, Nat.le_of_ble_eq_true rfl⟩) (va_recv hK hP (ci := 1) (q0 := 1) rfl rfl) hK hNW hP hD hS hA rfl rfl hl.1 (lv_room (Nat.le_of_ble_eq_true rfl)) dX8_ruleFits_67 hcs (fun r_24 hw_25 H locs hP hD hS => ?_)
        have hw_25 : (r_24).toInt = AF (X 1) gf (x + 1) ∧ (x + 1) < (r_24).toInt ∧ (r_24).toInt ≤ (x + 1) + 67600 := hw_25
        obtain ⟨ea, la, ua⟩ := hw_25
        have i_26 := i32r r_24
        refine lv_iconst (v := oI 0) hx hb dX8_ruleFits_70 (by decide) ?_
        have hn1 := hne.1 (r_24.toInt)
        refine ccs_iV (As := [.int (oI r_24.toInt), .int (oI 0)]) (rest := []) ⟨hx, hb, hml, hown, hts⟩ (c_templateFits l dC dI cB cC cI cJ cZ a (rg 14 14 F F_9) (rg 17 18 X X_20) J R gf gn r_24.toInt 0 62 D (i32r _) (by decide) (show gf ≤ 67600 from by first | assumption | omega) (show gn ≤ 63261 from by first | assumption | omega) (show SPR (X 1) from by first | assumption | omega) (show 0 ≤ (F 13).toInt ∧ (F 13).toInt ≤ (gn : Int) from by first | assumption | omega) (show r_24.toInt < 1073741824 from by first | assumption | omega) (show D r_24.toInt < 62 from by first | assumption | omega) (show NST (X 1) D gf from by assumption) H.size) (cwV 2 hts kX8_ruleFits_X8_templateFits_74 rfl rfl rfl (by decide +kernel) ⟨show (62 + 3) + 1 ≤ 129 from by omega, show 8 + (7 + 11) + (30 * 62 + 104) ≤ 3875 from by omega⟩) (va_recv hK hP (ci := 8) (q0 := 8) rfl rfl) hK hNW hP hD hS hA rfl rfl hl.1 (lv_room (Nat.le_of_ble_eq_true rfl)) dX8_ruleFits_71 hcs (fun r_27 hw_28 H locs hP hD hS => ?_)
        have hw_28 : (r_27).toInt = 0 ∨ (r_27).toInt = 1 := hw_28
        have hz := hw_28
        have i_29 := i32r r_27
        refine cz_eq (tgt := 81) hx hb (i32r _) dX8_ruleFits_74 (by decide) (fun c_30 => ?_) (fun c_30 => ?_)
        · refine lv_iconst (v := oI 0) hx hb dX8_ruleFits_81 (by decide) ?_
          have e0 : (oI 0).toInt = 0 := by decide
          have eF9 : rg 14 14 F (rg 14 14 F F_9) = rg 14 14 F F_9 := by funext k; simp only [rg, va_up]; (repeat' split) <;> first | with_reducible rfl | omega
          have eX9 : rg 17 18 X (rg 17 18 X X_20) = rg 17 18 X X_20 := by funext k; simp only [rg, va_up]; (repeat' split) <;> first | with_reducible rfl | omega
          have hP9 : va_P (dC, dI) vwCl (CW cB cC cI cJ cZ a (rg 14 14 F (rg 14 14 F F_9)) (rg 17 18 X (rg 17 18 X X_20)) J R gf gn) H := by rw [eF9, eX9]; exact hP
          have hD9 : va_D A (CW cB cC cI cJ cZ a (rg 14 14 F (rg 14 14 F F_9)) (rg 17 18 X (rg 17 18 X X_20)) J R gf gn) := by rw [eF9, eX9]; exact hD
          have hpost : (oI 0).toInt = 0 ∨ (oI 0).toInt = 1 := by first | assumption | omega | (with_reducible rfl) | ((repeat' apply And.intro) <;> first | assumption | omega | (with_reducible rfl))
          exact W.zret (v := (oI 0)) hx hb hr (by first | rfl | decide | exact zb9 (by omega)) (fun t ht hW => ⟨⟨(oI 0), (rg 14 14 F F_9, rg 17 18 X X_20), rfl, hpost, by rw [ht]; exact hP9, va_K.moved hW.alike hK, hD9⟩, hS.F ht⟩) hS.2.2 dX8_ruleFits_82
        · refine lv_iconst (v := oI 1) hx hb dX8_ruleFits_77 (by decide) ?_
          refine lv_goto (tgt := 82) hx hb dX8_ruleFits_78 (by decide) ?_
          have e0 : (oI 1).toInt = 1 := by decide
          have eF9 : rg 14 14 F (rg 14 14 F F_9) = rg 14 14 F F_9 := by funext k; simp only [rg, va_up]; (repeat' split) <;> first | with_reducible rfl | omega
          have eX9 : rg 17 18 X (rg 17 18 X X_20) = rg 17 18 X X_20 := by funext k; simp only [rg, va_up]; (repeat' split) <;> first | with_reducible rfl | omega
          have hP9 : va_P (dC, dI) vwCl (CW cB cC cI cJ cZ a (rg 14 14 F (rg 14 14 F F_9)) (rg 17 18 X (rg 17 18 X X_20)) J R gf gn) H := by rw [eF9, eX9]; exact hP
          have hD9 : va_D A (CW cB cC cI cJ cZ a (rg 14 14 F (rg 14 14 F F_9)) (rg 17 18 X (rg 17 18 X X_20)) J R gf gn) := by rw [eF9, eX9]; exact hD
          have hpost : (oI 1).toInt = 0 ∨ (oI 1).toInt = 1 := by first | assumption | omega | (with_reducible rfl) | ((repeat' apply And.intro) <;> first | assumption | omega | (with_reducible rfl))
          exact W.zret (v := (oI 1)) hx hb hr (by first | rfl | decide | exact zb9 (by omega)) (fun t ht hW => ⟨⟨(oI 1), (rg 14 14 F F_9, rg 17 18 X X_20), rfl, hpost, by rw [ht]; exact hP9, va_K.moved hW.alike hK, hD9⟩, hS.F ht⟩) hS.2.2 dX8_ruleFits_82
    · refine lv_iconst (v := oI 0) hx hb dX8_ruleFits_27 (by decide) ?_
      have e0 : (oI 0).toInt = 0 := by decide
      have eF9 : rg 14 14 F F = F := by funext k; simp only [rg, va_up]; (repeat' split) <;> first | with_reducible rfl | omega
      have eX9 : rg 17 18 X X = X := by funext k; simp only [rg, va_up]; (repeat' split) <;> first | with_reducible rfl | omega
      have hP9 : va_P (dC, dI) vwCl (CW cB cC cI cJ cZ a (rg 14 14 F F) (rg 17 18 X X) J R gf gn) H := by rw [eF9, eX9]; exact hP
      have hD9 : va_D A (CW cB cC cI cJ cZ a (rg 14 14 F F) (rg 17 18 X X) J R gf gn) := by rw [eF9, eX9]; exact hD
      have hpost : (oI 0).toInt = 0 ∨ (oI 0).toInt = 1 := by first | assumption | omega | (with_reducible rfl) | ((repeat' apply And.intro) <;> first | assumption | omega | (with_reducible rfl))
      exact W.zret (v := (oI 0)) hx hb hr (by first | rfl | decide | exact zb9 (by omega)) (fun t ht hW => ⟨⟨(oI 0), (F, X), rfl, hpost, by rw [ht]; exact hP9, va_K.moved hW.alike hK, hD9⟩, hS.F ht⟩) hS.2.2 dX8_ruleFits_28

set_option maxHeartbeats 4000000 in
set_option maxRecDepth 100000 in
theorem lq_fits {p : Program} {l : Launch} {e : Env} {s : State} {m : MethodId} {args : Array Value} {below : List Frame} {meth : Method} {c : Code} {A : Nat → Prop} {dC : Nat → ClassId} {dI : Nat → Nat → Nat} {cB cC cI cJ cZ : ClassId} {a : Nat → Nat} {F : Nat → Int32} {X : Nat → Nat → Int32} {J : Nat → Nat → Int64} {R : Nat → Nat} {gf gn : Nat} (hx : p.tables.exec = Jvm.exec) (hb : c.code = cX8_fits) (hml : c.maxLocals = 6) (hown : s.vm.findClass RX8 = some m.cls) (hts : ∀ w ∈ vX8_fits, w.before args s = true) (hK : va_K (dC, dI) vwCl (TY cB cC cI cJ cZ) s) (hNW : NW s) (hA : ∀ q : Nat, s.heap.size ≤ q → A q) (hr : meth.sig.returnType = (some .boolean)) (hlocks : meth.locks = false) (x y : Int) (D : Int → Nat) (ix : (-2147483648 ≤ x ∧ x < 2147483648)) (iy : (-2147483648 ≤ y ∧ y < 2147483648)) (hgf : gf ≤ 67600) (hgn : gn ≤ 63261) (hsp : SPR (X 1)) (hnt : 0 ≤ (F 13).toInt ∧ (F 13).toInt ≤ (gn : Int)) (hst : 0 ≤ (F 23).toInt ∧ (F 23).toInt ≤ 606) (hsy : 0 ≤ (F 15).toInt ∧ (F 15).toInt ≤ 2560) (hru : VB (X 12)) (hx2 : x < 1000000000) (hne : NST (X 1) D gf)  (hx0 : 0 ≤ x ∧ x < (gf : Int)) : ∀ (k : Nat) (F1 : Nat → Int32) (X1 : Nat → Nat → Int32) (q : Int), (AF (X 1) gf x - q).toNat < k → (-2147483648 ≤ q ∧ q < 2147483648) → (x < q ∧ q ≤ x + 300000) → ((F1 21).toInt < 2000000000) → ∀ (H : Heap) (locs : List Loc), va_P (dC, dI) vwCl (CW cB cC cI cJ cZ a (rg 21 21 (rg 14 14 F F1) F1) (rg 17 18 X X1) J R gf gn) H → va_D A (CW cB cC cI cJ cZ a (rg 21 21 (rg 14 14 F F1) F1) (rg 17 18 X X1) J R gf gn) → va_S A s.heap H locs → ∀ (ls : Array Slot), lv_has ls 6 [(0, .ref (a 8)), (1, .int (oI x)), (5, .int (oI q))] → W p l e (headSpec vX8_fits { frames := 130, cells := 0, slots := 0, locals := 3897 }).room s m args below meth c H locs 0 0 (MQ below (va_Qi (fun (r : Int32) (u : (Nat → Int32) × (Nat → Nat → Int32)) => match u with | (F1, X1) => (r).toInt = 0 ∨ (r).toInt = 1) (fun u => cPost dC dI cB cC cI cJ cZ a (rg 21 21 (rg 14 14 F u.1) u.1) (rg 17 18 X u.2) J R gf gn A) A) args s 0 0 A) (F0 m 86 ls []) := by
  have hcs : 0 + 0 ≤ (0 : Nat) ∧ 0 + 0 ≤ (0 : Nat) := ⟨Nat.le_refl 0, Nat.le_refl 0⟩
  intro k
  induction k with
  | zero =>
    intro F1 X1 q hk iq9 hq hl8
    exact absurd hk (Nat.not_lt_zero _)
  | succ k ih =>
    intro F1 X1 q hk iq9 hq hl8 H locs hP hD hS ls hl
    have eb := AF_b hsp gf x
    refine lv_iload hx hb dX8_fits_86 (lv_at hl 2 rfl) ?_
    refine lv_aload_n hx hb dX8_fits_88 rfl (lv_at hl 0 rfl) ?_
    refine cg_8_0 hx hb hts inX8_fits_X8 hown hK hP (hts _ lkX8_fits_f15) dX8_fits_89 ?_
    refine lv_iload_n hx hb dX8_fits_92 rfl (lv_at hl 1 rfl) ?_
    refine ccs_iV (As := [.int (oI x)]) (rest := [.int (oI q)]) ⟨hx, hb, hml, hown, hts⟩ (c_after l dC dI cB cC cI cJ cZ a (rg 21 21 (rg 14 14 F F1) F1) (rg 17 18 X X1) J R gf gn x  (by omega) (show gf ≤ 67600 from by first | assumption | omega) (show SPR (X 1) from by first | assumption | omega) (show x < 2147483647 from by first | assumption | omega) H.size) (cwV 1 hts kX8_fits_X1_after_49 rfl rfl rfl (by decide +kernel) ⟨Nat.le_of_ble_eq_true rfl, Nat.le_of_ble_eq_true rfl⟩) (va_recv hK hP (ci := 1) (q0 := 1) rfl rfl) hK hNW hP hD hS hA rfl rfl hl.1 (lv_room (Nat.le_of_ble_eq_true rfl)) dX8_fits_93 hcs (fun r_1 hw_2 H locs hP hD hS => ?_)
    have hw_2 : (r_1).toInt = AF (X 1) gf x ∧ x < (r_1).toInt ∧ (r_1).toInt ≤ x + 67600 := hw_2
    obtain ⟨ea, la, ua⟩ := hw_2
    have i_3 := i32r r_1
    refine ci_ge (tgt := 124) hx hb (by omega) (i32r _) dX8_fits_96 (by decide) (fun c_4 => ?_) (fun c_4 => ?_)
    · refine lv_iconst (v := oI 1) hx hb dX8_fits_124 (by decide) ?_
      have e0 : (oI 1).toInt = 1 := by decide
      have eF9 : rg 21 21 (rg 14 14 F (rg 21 21 (rg 14 14 F F1) F1)) (rg 21 21 (rg 14 14 F F1) F1) = rg 21 21 (rg 14 14 F F1) F1 := by funext k; simp only [rg, va_up]; (repeat' split) <;> first | with_reducible rfl | omega
      have eX9 : rg 17 18 X (rg 17 18 X X1) = rg 17 18 X X1 := by funext k; simp only [rg, va_up]; (repeat' split) <;> first | with_reducible rfl | omega
      have hP9 : va_P (dC, dI) vwCl (CW cB cC cI cJ cZ a (rg 21 21 (rg 14 14 F (rg 21 21 (rg 14 14 F F1) F1)) (rg 21 21 (rg 14 14 F F1) F1)) (rg 17 18 X (rg 17 18 X X1)) J R gf gn) H := by rw [eF9, eX9]; exact hP
      have hD9 : va_D A (CW cB cC cI cJ cZ a (rg 21 21 (rg 14 14 F (rg 21 21 (rg 14 14 F F1) F1)) (rg 21 21 (rg 14 14 F F1) F1)) (rg 17 18 X (rg 17 18 X X1)) J R gf gn) := by rw [eF9, eX9]; exact hD
      have hpost : (oI 1).toInt = 0 ∨ (oI 1).toInt = 1 := by first | assumption | omega | (with_reducible rfl) | ((repeat' apply And.intro) <;> first | assumption | omega | (with_reducible rfl))
      exact W.zret (v := (oI 1)) hx hb hr (by first | rfl | decide | exact zb9 (by omega)) (fun t ht hW => ⟨⟨(oI 1), (rg 21 21 (rg 14 14 F F1) F1, rg 17 18 X X1), rfl, hpost, by rw [ht]; exact hP9, va_K.moved hW.alike hK, hD9⟩, hS.F ht⟩) hS.2.2 dX8_fits_125
    · refine lv_aload_n hx hb dX8_fits_99 rfl (lv_at hl 0 rfl) ?_
      refine lv_iload hx hb dX8_fits_100 (lv_at hl 2 rfl) ?_
      refine ccp_iV (As := [.int (oI q)]) (rest := []) (gF := fun F9 => rg 14 14 (rg 21 21 (rg 14 14 F F1) F1) F9) (gX := fun X9 => rg 17 18 (rg 17 18 X X1) X9) ⟨hx, hb, hml, hown, hts⟩ (c_ruleFits l dC dI cB cC cI cJ cZ a (rg 21 21 (rg 14 14 F F1) F1) (rg 17 18 X X1) J R gf gn q D (by omega) (show gf ≤ 67600 from by first | assumption | omega) (show gn ≤ 63261 from by first | assumption | omega) (show SPR (X 1) from by first | assumption | omega) (show 0 ≤ (F 13).toInt ∧ (F 13).toInt ≤ (gn : Int) from by first | assumption | omega) (show (F1 21).toInt < 2000000000 from by first | assumption | omega) (show q < 1000000000 from by first | assumption | omega) (show NST (X 1) D gf from by assumption) H.size) (cwV 1 hts kX8_fits_X8_ruleFits_52 rfl rfl rfl (by decide +kernel) ⟨Nat.le_of_ble_eq_true rfl, Nat.le_of_ble_eq_true rfl⟩) (va_recv hK hP (ci := 8) (q0 := 8) rfl rfl) hK hNW hP hD hS hA rfl rfl hl.1 (lv_room (Nat.le_of_ble_eq_true rfl)) dX8_fits_102 hcs (fun r_5 F_6 X_7 hw_8 H locs hP hD hS => ?_)
      have hw_8 : (r_5).toInt = 0 ∨ (r_5).toInt = 1 := hw_8
      have hz := hw_8
      have i_9 := i32r r_5
      refine cz_ne (tgt := 110) hx hb (i32r _) dX8_fits_105 (by decide) (fun c_10 => ?_) (fun c_10 => ?_)
      · refine lv_aload_n hx hb dX8_fits_110 rfl (lv_at hl 0 rfl) ?_
        refine cg_8_0 hx hb hts inX8_fits_X8 hown hK hP (hts _ lkX8_fits_f15) dX8_fits_111 ?_
        refine lv_iload hx hb dX8_fits_114 (lv_at hl 2 rfl) ?_
        refine ccs_iV (As := [.int (oI q)]) (rest := []) ⟨hx, hb, hml, hown, hts⟩ (c_after l dC dI cB cC cI cJ cZ a (rg 14 14 (rg 21 21 (rg 14 14 F F1) F1) F_6) (rg 17 18 (rg 17 18 X X1) X_7) J R gf gn q  (by omega) (show gf ≤ 67600 from by first | assumption | omega) (show SPR (X 1) from by first | assumption | omega) (show q < 2147483647 from by first | assumption | omega) H.size) (cwV 1 hts kX8_fits_X1_after_49 rfl rfl rfl (by decide +kernel) ⟨Nat.le_of_ble_eq_true rfl, Nat.le_of_ble_eq_true rfl⟩) (va_recv hK hP (ci := 1) (q0 := 1) rfl rfl) hK hNW hP hD hS hA rfl rfl hl.1 (lv_room (Nat.le_of_ble_eq_true rfl)) dX8_fits_116 hcs (fun r_11 hw_12 H locs hP hD hS => ?_)
        have hw_12 : (r_11).toInt = AF (X 1) gf q ∧ q < (r_11).toInt ∧ (r_11).toInt ≤ q + 67600 := hw_12
        obtain ⟨ea, la, ua⟩ := hw_12
        have i_13 := i32r r_11
        refine lv_istore (lv' := [(5, .int (oI r_11.toInt)), (0, .ref (a 8)), (1, .int (oI x))]) hx hb dX8_fits_119 hl (by decide) rfl (fun ls hl => ?_)
        refine lv_goto (tgt := 86) hx hb dX8_fits_121 (by decide) ?_
        have eF9 : rg 21 21 (rg 14 14 F (rg 14 14 (rg 21 21 (rg 14 14 F F1) F1) F_6)) (rg 14 14 (rg 21 21 (rg 14 14 F F1) F1) F_6) = rg 14 14 (rg 21 21 (rg 14 14 F F1) F1) F_6 := by funext k; simp only [rg, va_up]; (repeat' split) <;> first | with_reducible rfl | omega
        have eX9 : rg 17 18 X (rg 17 18 (rg 17 18 X X1) X_7) = rg 17 18 (rg 17 18 X X1) X_7 := by funext k; simp only [rg, va_up]; (repeat' split) <;> first | with_reducible rfl | omega
        have hP9 : va_P (dC, dI) vwCl (CW cB cC cI cJ cZ a (rg 21 21 (rg 14 14 F (rg 14 14 (rg 21 21 (rg 14 14 F F1) F1) F_6)) (rg 14 14 (rg 21 21 (rg 14 14 F F1) F1) F_6)) (rg 17 18 X (rg 17 18 (rg 17 18 X X1) X_7)) J R gf gn) H := by rw [eF9, eX9]; exact hP
        have hD9 : va_D A (CW cB cC cI cJ cZ a (rg 21 21 (rg 14 14 F (rg 14 14 (rg 21 21 (rg 14 14 F F1) F1) F_6)) (rg 14 14 (rg 21 21 (rg 14 14 F F1) F1) F_6)) (rg 17 18 X (rg 17 18 (rg 17 18 X X1) X_7)) J R gf gn) := by rw [eF9, eX9]; exact hD
        exact ih (rg 14 14 (rg 21 21 (rg 14 14 F F1) F1) F_6) (rg 17 18 (rg 17 18 X X1) X_7) r_11.toInt (show (AF (X 1) gf x - r_11.toInt).toNat < k from by omega) (i32r _) (show x < r_11.toInt ∧ r_11.toInt ≤ x + 300000 from by first | assumption | omega | (with_reducible rfl) | ((repeat' apply And.intro) <;> first | assumption | omega | (with_reducible rfl))) (show (F1 21).toInt < 2000000000 from by first | assumption | omega | (with_reducible rfl) | ((repeat' apply And.intro) <;> first | assumption | omega | (with_reducible rfl))) _ _ hP9 hD9 hS ls (lv_sub hl [1, 2, 0] rfl)
      · refine lv_iconst (v := oI 0) hx hb dX8_fits_108 (by decide) ?_
        have e0 : (oI 0).toInt = 0 := by decide
        have eF9 : rg 21 21 (rg 14 14 F (rg 14 14 (rg 21 21 (rg 14 14 F F1) F1) F_6)) (rg 14 14 (rg 21 21 (rg 14 14 F F1) F1) F_6) = rg 14 14 (rg 21 21 (rg 14 14 F F1) F1) F_6 := by funext k; simp only [rg, va_up]; (repeat' split) <;> first | with_reducible rfl | omega
        have eX9 : rg 17 18 X (rg 17 18 (rg 17 18 X X1) X_7) = rg 17 18 (rg 17 18 X X1) X_7 := by funext k; simp only [rg, va_up]; (repeat' split) <;> first | with_reducible rfl | omega
        have hP9 : va_P (dC, dI) vwCl (CW cB cC cI cJ cZ a (rg 21 21 (rg 14 14 F (rg 14 14 (rg 21 21 (rg 14 14 F F1) F1) F_6)) (rg 14 14 (rg 21 21 (rg 14 14 F F1) F1) F_6)) (rg 17 18 X (rg 17 18 (rg 17 18 X X1) X_7)) J R gf gn) H := by rw [eF9, eX9]; exact hP
        have hD9 : va_D A (CW cB cC cI cJ cZ a (rg 21 21 (rg 14 14 F (rg 14 14 (rg 21 21 (rg 14 14 F F1) F1) F_6)) (rg 14 14 (rg 21 21 (rg 14 14 F F1) F1) F_6)) (rg 17 18 X (rg 17 18 (rg 17 18 X X1) X_7)) J R gf gn) := by rw [eF9, eX9]; exact hD
        have hpost : (oI 0).toInt = 0 ∨ (oI 0).toInt = 1 := by first | assumption | omega | (with_reducible rfl) | ((repeat' apply And.intro) <;> first | assumption | omega | (with_reducible rfl))
        exact W.zret (v := (oI 0)) hx hb hr (by first | rfl | decide | exact zb9 (by omega)) (fun t ht hW => ⟨⟨(oI 0), (rg 14 14 (rg 21 21 (rg 14 14 F F1) F1) F_6, rg 17 18 (rg 17 18 X X1) X_7), rfl, hpost, by rw [ht]; exact hP9, va_K.moved hW.alike hK, hD9⟩, hS.F ht⟩) hS.2.2 dX8_fits_109

set_option maxHeartbeats 4000000 in
set_option maxRecDepth 100000 in
theorem c_fits (l : Launch) (dC : Nat → ClassId) (dI : Nat → Nat → Nat) (cB cC cI cJ cZ : ClassId) (a : Nat → Nat) (F : Nat → Int32) (X : Nat → Nat → Int32) (J : Nat → Nat → Int64) (R : Nat → Nat) (gf gn : Nat) (x y : Int) (D : Int → Nat) (ix : (-2147483648 ≤ x ∧ x < 2147483648)) (iy : (-2147483648 ≤ y ∧ y < 2147483648)) (hgf : gf ≤ 67600) (hgn : gn ≤ 63261) (hsp : SPR (X 1)) (hnt : 0 ≤ (F 13).toInt ∧ (F 13).toInt ≤ (gn : Int)) (hst : 0 ≤ (F 23).toInt ∧ (F 23).toInt ≤ 606) (hsy : 0 ≤ (F 15).toInt ∧ (F 15).toInt ≤ 2560) (hru : VB (X 12)) (hx2 : x < 1000000000) (hne : NST (X 1) D gf) (s0 : Nat) : Met l yX8_fits vX8_fits { frames := 130, cells := 0, slots := 0, locals := 3897 } (va_Pc [.ref (a 8), .int (oI x), .int (oI y)] (cPre dC dI cB cC cI cJ cZ a F X J R gf gn s0)) (va_Qi (fun (r : Int32) (u : (Nat → Int32) × (Nat → Nat → Int32)) => match u with | (F1, X1) => (r).toInt = 0 ∨ (r).toInt = 1) (fun u => cPost dC dI cB cC cI cJ cZ a (rg 21 21 (rg 14 14 F u.1) u.1) (rg 17 18 X u.2) J R gf gn (va_A (CW cB cC cI cJ cZ a F X J R gf gn) s0)) (va_A (CW cB cC cI cJ cZ a F X J R gf gn) s0)) 0 0 (va_A (CW cB cC cI cJ cZ a F X J R gf gn) s0) := by
  refine Met.ofW (cc := cX8_fits) (maxL := 6) (ret := (some .boolean)) (by decide) rfl ?_
  intro p e s m args below meth c s₁ B9 hml hv
  obtain ⟨rfl, hsz0, hP, hK, hD0, hNW⟩ := hv
  have hx := B9.exec
  have hb := B9.bytes
  have hr := B9.returns
  have hts := atoms_spec (ws := vX8_fits) B9.pre
  have hown : s.vm.findClass RX8 = some m.cls := findClass_of_methodNamed B9.named
  have hlocks := B9.notSynchronized
  clear B9
  subst hsz0
  have hD := hD0.self (sz := s.heap.size)
  generalize hAe : va_A (CW cB cC cI cJ cZ a F X J R gf gn) s.heap.size = A at hD ⊢
  have hA : ∀ q : Nat, s.heap.size ≤ q → A q := fun q h => by rw [← hAe]; exact Or.inr h
  have hS : va_S A s.heap s.heap [] := va_S.rf
  have hcs : 0 + 0 ≤ (0 : Nat) ∧ 0 + 0 ≤ (0 : Nat) := ⟨Nat.le_refl 0, Nat.le_refl 0⟩
  have hl := lv_entry ([.ref (a 8), .int (oI x), .int (oI y)]) (n := 6) (Nat.le_of_ble_eq_true rfl)
  rw [lg_entry_eq]
  generalize (lg_sl ([.ref (a 8), .int (oI x), .int (oI y)]) ++ List.replicate (6 - (lg_sl ([.ref (a 8), .int (oI x), .int (oI y)])).length) Slot.unset).toArray = ls at hl ⊢
  have hl : lv_has ls 6 [(0, .ref (a 8)), (1, .int (oI x)), (2, .int (oI y))] := hl
  refine lv_aload_n hx hb dX8_fits_0 rfl (lv_at hl 0 rfl) ?_
  refine cg_8_0 hx hb hts inX8_fits_X8 hown hK hP (hts _ lkX8_fits_f15) dX8_fits_1 ?_
  refine lv_iload_n hx hb dX8_fits_4 rfl (lv_at hl 1 rfl) ?_
  refine ccs_iV (As := [.int (oI x)]) (rest := []) ⟨hx, hb, hml, hown, hts⟩ (c_parts l dC dI cB cC cI cJ cZ a F X J R gf gn x  (by omega) (show gf ≤ 67600 from by first | assumption | omega) (show SPR (X 1) from by first | assumption | omega)  s.heap.size) (cwV 1 hts kX8_fits_X1_parts_27 rfl rfl rfl (by decide +kernel) ⟨Nat.le_of_ble_eq_true rfl, Nat.le_of_ble_eq_true rfl⟩) (va_recv hK hP (ci := 1) (q0 := 1) rfl rfl) hK hNW hP hD hS hA rfl rfl hl.1 (lv_room (Nat.le_of_ble_eq_true rfl)) dX8_fits_5 hcs (fun r_1 hw_2 H locs hP hD hS => ?_)
  have hw_2 : 0 ≤ (r_1).toInt ∧ (r_1).toInt ≤ 67600 ∧ (1 ≤ (r_1).toInt → x + 1 < AF (X 1) gf x ∧ 0 ≤ x ∧ x < (gf : Int)) ∧ (2 ≤ (r_1).toInt → AF (X 1) gf (x + 1) < AF (X 1) gf x) ∧ (3 ≤ (r_1).toInt → AF (X 1) gf (AF (X 1) gf (x + 1)) < AF (X 1) gf x) := hw_2
  have hpa := hw_2
  have i_3 := i32r r_1
  refine lv_istore_n (lv' := [(3, .int (oI r_1.toInt)), (0, .ref (a 8)), (1, .int (oI x)), (2, .int (oI y))]) hx hb dX8_fits_8 rfl hl (by decide) rfl (fun ls hl => ?_)
  refine lv_aload_n hx hb dX8_fits_9 rfl (lv_at hl 1 rfl) ?_
  refine cg_8_0 hx hb hts inX8_fits_X8 hown hK hP (hts _ lkX8_fits_f15) dX8_fits_10 ?_
  refine lv_iload_n hx hb dX8_fits_13 rfl (lv_at hl 2 rfl) ?_
  refine ccs_iV (As := [.int (oI x)]) (rest := []) ⟨hx, hb, hml, hown, hts⟩ (c_head l dC dI cB cC cI cJ cZ a F X J R gf gn x  (by omega) (show gf ≤ 67600 from by first | assumption | omega)  H.size) (cwV 1 hts kX8_fits_X1_head_33 rfl rfl rfl (by decide +kernel) ⟨Nat.le_of_ble_eq_true rfl, Nat.le_of_ble_eq_true rfl⟩) (va_recv hK hP (ci := 1) (q0 := 1) rfl rfl) hK hNW hP hD hS hA rfl rfl hl.1 (lv_room (Nat.le_of_ble_eq_true rfl)) dX8_fits_14 hcs (fun r_4 hw_5 H locs hP hD hS => ?_)
  have i_6 := i32r r_4
  refine lv_istore (lv' := [(4, .int (oI r_4.toInt)), (3, .int (oI r_1.toInt)), (0, .ref (a 8)), (1, .int (oI x)), (2, .int (oI y))]) hx hb dX8_fits_17 hl (by decide) rfl (fun ls hl => ?_)
  refine lv_iload_n hx hb dX8_fits_19 rfl (lv_at hl 1 rfl) ?_
  refine lv_iconst (v := oI 3) hx hb dX8_fits_20 (by decide) ?_
  refine ci_lt (tgt := 36) hx hb (i32r _) (by decide) dX8_fits_21 (by decide) (fun c_7 => ?_) (fun c_7 => ?_)
  · refine lv_iconst (v := oI 0) hx hb dX8_fits_36 (by decide) ?_
    have e0 : (oI 0).toInt = 0 := by decide
    have eF9 : rg 21 21 (rg 14 14 F F) F = F := by funext k; simp only [rg, va_up]; (repeat' split) <;> first | with_reducible rfl | omega
    have eX9 : rg 17 18 X X = X := by funext k; simp only [rg, va_up]; (repeat' split) <;> first | with_reducible rfl | omega
    have hP9 : va_P (dC, dI) vwCl (CW cB cC cI cJ cZ a (rg 21 21 (rg 14 14 F F) F) (rg 17 18 X X) J R gf gn) H := by rw [eF9, eX9]; exact hP
    have hD9 : va_D A (CW cB cC cI cJ cZ a (rg 21 21 (rg 14 14 F F) F) (rg 17 18 X X) J R gf gn) := by rw [eF9, eX9]; exact hD
    have hpost : (oI 0).toInt = 0 ∨ (oI 0).toInt = 1 := by first | assumption | omega | (with_reducible rfl) | ((repeat' apply And.intro) <;> first | assumption | omega | (with_reducible rfl))
    exact W.zret (v := (oI 0)) hx hb hr (by first | rfl | decide | exact zb9 (by omega)) (fun t ht hW => ⟨⟨(oI 0), (F, X), rfl, hpost, by rw [ht]; exact hP9, va_K.moved hW.alike hK, hD9⟩, hS.F ht⟩) hS.2.2 dX8_fits_37
  · refine lv_iload_n hx hb dX8_fits_24 rfl (lv_at hl 1 rfl) ?_
    refine lv_bipush (v := oI 10) hx hb dX8_fits_25 (by decide) ?_
    refine ci_gt (tgt := 36) hx hb (i32r _) (by decide) dX8_fits_27 (by decide) (fun c_8 => ?_) (fun c_8 => ?_)
    · refine lv_iconst (v := oI 0) hx hb dX8_fits_36 (by decide) ?_
      have e0 : (oI 0).toInt = 0 := by decide
      have eF9 : rg 21 21 (rg 14 14 F F) F = F := by funext k; simp only [rg, va_up]; (repeat' split) <;> first | with_reducible rfl | omega
      have eX9 : rg 17 18 X X = X := by funext k; simp only [rg, va_up]; (repeat' split) <;> first | with_reducible rfl | omega
      have hP9 : va_P (dC, dI) vwCl (CW cB cC cI cJ cZ a (rg 21 21 (rg 14 14 F F) F) (rg 17 18 X X) J R gf gn) H := by rw [eF9, eX9]; exact hP
      have hD9 : va_D A (CW cB cC cI cJ cZ a (rg 21 21 (rg 14 14 F F) F) (rg 17 18 X X) J R gf gn) := by rw [eF9, eX9]; exact hD
      have hpost : (oI 0).toInt = 0 ∨ (oI 0).toInt = 1 := by first | assumption | omega | (with_reducible rfl) | ((repeat' apply And.intro) <;> first | assumption | omega | (with_reducible rfl))
      exact W.zret (v := (oI 0)) hx hb hr (by first | rfl | decide | exact zb9 (by omega)) (fun t ht hW => ⟨⟨(oI 0), (F, X), rfl, hpost, by rw [ht]; exact hP9, va_K.moved hW.alike hK, hD9⟩, hS.F ht⟩) hS.2.2 dX8_fits_37
    · refine lv_iload hx hb dX8_fits_30 (lv_at hl 0 rfl) ?_
      refine lv_iconst (v := oI (-1)) hx hb dX8_fits_32 (by decide) ?_
      refine ci_ne (tgt := 38) hx hb (i32r _) (by decide) dX8_fits_33 (by decide) (fun c_9 => ?_) (fun c_9 => ?_)
      · refine lv_aload_n hx hb dX8_fits_38 rfl (lv_at hl 2 rfl) ?_
        refine lv_aload_n hx hb dX8_fits_39 rfl (lv_at hl 2 rfl) ?_
        refine cg_8_0 hx hb hts inX8_fits_X8 hown hK hP (hts _ lkX8_fits_f15) dX8_fits_40 ?_
        refine lv_iload_n hx hb dX8_fits_43 rfl (lv_at hl 3 rfl) ?_
        refine lv_iconst (v := oI 1) hx hb dX8_fits_44 (by decide) ?_
        refine ccs_iV (As := [.int (oI x), .int (oI 1)]) (rest := [.ref (a 8)]) ⟨hx, hb, hml, hown, hts⟩ (c_part1 l dC dI cB cC cI cJ cZ a F X J R gf gn x  (by omega) (show gf ≤ 67600 from by first | assumption | omega) (show SPR (X 1) from by first | assumption | omega) (show x < 1073741824 from by first | assumption | omega) H.size) (cwV 2 hts kX8_fits_X1_part_36 rfl rfl rfl (by decide +kernel) ⟨Nat.le_of_ble_eq_true rfl, Nat.le_of_ble_eq_true rfl⟩) (va_recv hK hP (ci := 1) (q0 := 1) rfl rfl) hK hNW hP hD hS hA rfl rfl hl.1 (lv_room (Nat.le_of_ble_eq_true rfl)) dX8_fits_45 hcs (fun r_10 hw_11 H locs hP hD hS => ?_)
        have hw_11 : (r_10).toInt = AF (X 1) gf (x + 1) ∧ x + 1 < (r_10).toInt ∧ (r_10).toInt ≤ x + 67601 := hw_11
        obtain ⟨ep1, lp1, up1⟩ := hw_11
        have i_12 := i32r r_10
        refine cp_8_3 hx hb hts inX8_fits_X8 hown hK hP hD hS (hts _ lkX8_fits_f9) dX8_fits_48 (fun H locs hP hD hS => ?_)
        have hP : va_P (dC, dI) vwCl (CW cB cC cI cJ cZ a (va_up F 21 (oI r_10.toInt)) X J R gf gn) H := hP
        have hD : va_D A (CW cB cC cI cJ cZ a (va_up F 21 (oI r_10.toInt)) X J R gf gn) := hD
        have e_13 : (oI r_10.toInt).toInt = r_10.toInt := congrArg Int32.toInt (oI_toInt _)
        refine lv_aload_n hx hb dX8_fits_51 rfl (lv_at hl 2 rfl) ?_
        refine cg_8_2 hx hb hts inX8_fits_X8 hown hK hP (hts _ lkX8_fits_f23) dX8_fits_52 ?_
        refine lv_iload hx hb dX8_fits_55 (lv_at hl 0 rfl) ?_
        refine lv_iload_n hx hb dX8_fits_57 rfl (lv_at hl 4 rfl) ?_
        refine ccs_iV (As := [.int (oI r_4.toInt), .int (oI y)]) (rest := []) ⟨hx, hb, hml, hown, hts⟩ (c_meaning l dC dI cB cC cI cJ cZ a (va_up F 21 (oI r_10.toInt)) X J R gf gn r_4.toInt y  (i32r _) (by omega) (show gn ≤ 63261 from by first | assumption | omega) (show 0 ≤ (F 13).toInt ∧ (F 13).toInt ≤ (gn : Int) from by first | assumption | omega) (show 0 ≤ (F 23).toInt ∧ (F 23).toInt ≤ 606 from by first | assumption | omega) (show 0 ≤ (F 15).toInt ∧ (F 15).toInt ≤ 2560 from by first | assumption | omega) (show VB (X 12) from by first | assumption | omega)  H.size) (cwV 2 hts kX8_fits_X9_meaning_40 rfl rfl rfl (by decide +kernel) ⟨Nat.le_of_ble_eq_true rfl, Nat.le_of_ble_eq_true rfl⟩) (va_recv hK hP (ci := 9) (q0 := 9) rfl rfl) hK hNW hP hD hS hA rfl rfl hl.1 (lv_room (Nat.le_of_ble_eq_true rfl)) dX8_fits_58 hcs (fun r_14 hw_15 H locs hP hD hS => ?_)
        have i_16 := i32r r_14
        refine lv_bipush (v := oI 16) hx hb dX8_fits_61 (by decide) ?_
        refine ci_ne (tgt := 73) hx hb (i32r _) (by decide) dX8_fits_63 (by decide) (fun c_17 => ?_) (fun c_17 => ?_)
        · refine lv_iconst (v := oI 0) hx hb dX8_fits_73 (by decide) ?_
          have e0 : (oI 0).toInt = 0 := by decide
          have eF9 : rg 21 21 (rg 14 14 F (va_up F 21 (oI r_10.toInt))) (va_up F 21 (oI r_10.toInt)) = va_up F 21 (oI r_10.toInt) := by funext k; simp only [rg, va_up]; (repeat' split) <;> first | with_reducible rfl | omega
          have eX9 : rg 17 18 X X = X := by funext k; simp only [rg, va_up]; (repeat' split) <;> first | with_reducible rfl | omega
          have hP9 : va_P (dC, dI) vwCl (CW cB cC cI cJ cZ a (rg 21 21 (rg 14 14 F (va_up F 21 (oI r_10.toInt))) (va_up F 21 (oI r_10.toInt))) (rg 17 18 X X) J R gf gn) H := by rw [eF9, eX9]; exact hP
          have hD9 : va_D A (CW cB cC cI cJ cZ a (rg 21 21 (rg 14 14 F (va_up F 21 (oI r_10.toInt))) (va_up F 21 (oI r_10.toInt))) (rg 17 18 X X) J R gf gn) := by rw [eF9, eX9]; exact hD
          have hpost : (oI 0).toInt = 0 ∨ (oI 0).toInt = 1 := by first | assumption | omega | (with_reducible rfl) | ((repeat' apply And.intro) <;> first | assumption | omega | (with_reducible rfl))
          exact W.zret (v := (oI 0)) hx hb hr (by first | rfl | decide | exact zb9 (by omega)) (fun t ht hW => ⟨⟨(oI 0), (va_up F 21 (oI r_10.toInt), X), rfl, hpost, by rw [ht]; exact hP9, va_K.moved hW.alike hK, hD9⟩, hS.F ht⟩) hS.2.2 dX8_fits_74
        · refine lv_aload_n hx hb dX8_fits_66 rfl (lv_at hl 2 rfl) ?_
          refine ccs_iV (As := []) (rest := []) ⟨hx, hb, hml, hown, hts⟩ (c_literalsFit l dC dI cB cC cI cJ cZ a (va_up F 21 (oI r_10.toInt)) X J R gf gn    (show gf ≤ 67600 from by first | assumption | omega) (show SPR (X 1) from by first | assumption | omega) (show (oI r_10.toInt).toInt < 2000000000 from by first | assumption | omega)  H.size) (cwV 0 hts kX8_fits_X8_literalsFit_45 rfl rfl rfl (by decide +kernel) ⟨Nat.le_of_ble_eq_true rfl, Nat.le_of_ble_eq_true rfl⟩) (va_recv hK hP (ci := 8) (q0 := 8) rfl rfl) hK hNW hP hD hS hA rfl rfl hl.1 (lv_room (Nat.le_of_ble_eq_true rfl)) dX8_fits_67 hcs (fun r_18 hw_19 H locs hP hD hS => ?_)
          have hw_19 : (r_18).toInt = 0 ∨ (r_18).toInt = 1 := hw_19
          have hz := hw_19
          have i_20 := i32r r_18
          refine cz_ne (tgt := 75) hx hb (i32r _) dX8_fits_70 (by decide) (fun c_21 => ?_) (fun c_21 => ?_)
          · refine lv_aload_n hx hb dX8_fits_75 rfl (lv_at hl 2 rfl) ?_
            refine cg_8_0 hx hb hts inX8_fits_X8 hown hK hP (hts _ lkX8_fits_f15) dX8_fits_76 ?_
            refine lv_iload_n hx hb dX8_fits_79 rfl (lv_at hl 3 rfl) ?_
            refine lv_iconst (v := oI 2) hx hb dX8_fits_80 (by decide) ?_
            refine ccs_iV (As := [.int (oI x), .int (oI 2)]) (rest := []) ⟨hx, hb, hml, hown, hts⟩ (c_part2 l dC dI cB cC cI cJ cZ a (va_up F 21 (oI r_10.toInt)) X J R gf gn x  (by omega) (show gf ≤ 67600 from by first | assumption | omega) (show SPR (X 1) from by first | assumption | omega) (show x < 1073741824 from by first | assumption | omega) H.size) (cwV 2 hts kX8_fits_X1_part_36 rfl rfl rfl (by decide +kernel) ⟨Nat.le_of_ble_eq_true rfl, Nat.le_of_ble_eq_true rfl⟩) (va_recv hK hP (ci := 1) (q0 := 1) rfl rfl) hK hNW hP hD hS hA rfl rfl hl.1 (lv_room (Nat.le_of_ble_eq_true rfl)) dX8_fits_81 hcs (fun r_22 hw_23 H locs hP hD hS => ?_)
            have hw_23 : (r_22).toInt = AF (X 1) gf (AF (X 1) gf (x + 1)) ∧ x + 2 < (r_22).toInt ∧ (r_22).toInt ≤ x + 135201 := hw_23
            obtain ⟨ep2, lp2, up2⟩ := hw_23
            have i_24 := i32r r_22
            refine lv_istore (lv' := [(5, .int (oI r_22.toInt)), (4, .int (oI r_4.toInt)), (3, .int (oI r_1.toInt)), (0, .ref (a 8)), (1, .int (oI x)), (2, .int (oI y))]) hx hb dX8_fits_84 hl (by decide) rfl (fun ls hl => ?_)
            have hx0 : 0 ≤ x ∧ x < (gf : Int) := by omega
            have eF9 : rg 21 21 (rg 14 14 F (va_up F 21 (oI r_10.toInt))) (va_up F 21 (oI r_10.toInt)) = va_up F 21 (oI r_10.toInt) := by funext k; simp only [rg, va_up]; (repeat' split) <;> first | with_reducible rfl | omega
            have eX9 : rg 17 18 X X = X := by funext k; simp only [rg, va_up]; (repeat' split) <;> first | with_reducible rfl | omega
            have hP9 : va_P (dC, dI) vwCl (CW cB cC cI cJ cZ a (rg 21 21 (rg 14 14 F (va_up F 21 (oI r_10.toInt))) (va_up F 21 (oI r_10.toInt))) (rg 17 18 X X) J R gf gn) H := by rw [eF9, eX9]; exact hP
            have hD9 : va_D A (CW cB cC cI cJ cZ a (rg 21 21 (rg 14 14 F (va_up F 21 (oI r_10.toInt))) (va_up F 21 (oI r_10.toInt))) (rg 17 18 X X) J R gf gn) := by rw [eF9, eX9]; exact hD
            exact lq_fits hx hb hml hown hts hK hNW hA hr hlocks x y D ix iy (by assumption) (by assumption) (by assumption) (by assumption) (by assumption) (by assumption) (by assumption) (by assumption) (by assumption) hx0 _ (va_up F 21 (oI r_10.toInt)) X r_22.toInt (Nat.lt_succ_self _) (i32r _) (show x < r_22.toInt ∧ r_22.toInt ≤ x + 300000 from by first | assumption | omega | (with_reducible rfl) | ((repeat' apply And.intro) <;> first | assumption | omega | (with_reducible rfl))) (show (oI r_10.toInt).toInt < 2000000000 from by first | assumption | omega | (with_reducible rfl) | ((repeat' apply And.intro) <;> first | assumption | omega | (with_reducible rfl))) _ _ hP9 hD9 hS ls (lv_sub hl [3, 4, 0] rfl)
          · refine lv_iconst (v := oI 0) hx hb dX8_fits_73 (by decide) ?_
            have e0 : (oI 0).toInt = 0 := by decide
            have eF9 : rg 21 21 (rg 14 14 F (va_up F 21 (oI r_10.toInt))) (va_up F 21 (oI r_10.toInt)) = va_up F 21 (oI r_10.toInt) := by funext k; simp only [rg, va_up]; (repeat' split) <;> first | with_reducible rfl | omega
            have eX9 : rg 17 18 X X = X := by funext k; simp only [rg, va_up]; (repeat' split) <;> first | with_reducible rfl | omega
            have hP9 : va_P (dC, dI) vwCl (CW cB cC cI cJ cZ a (rg 21 21 (rg 14 14 F (va_up F 21 (oI r_10.toInt))) (va_up F 21 (oI r_10.toInt))) (rg 17 18 X X) J R gf gn) H := by rw [eF9, eX9]; exact hP
            have hD9 : va_D A (CW cB cC cI cJ cZ a (rg 21 21 (rg 14 14 F (va_up F 21 (oI r_10.toInt))) (va_up F 21 (oI r_10.toInt))) (rg 17 18 X X) J R gf gn) := by rw [eF9, eX9]; exact hD
            have hpost : (oI 0).toInt = 0 ∨ (oI 0).toInt = 1 := by first | assumption | omega | (with_reducible rfl) | ((repeat' apply And.intro) <;> first | assumption | omega | (with_reducible rfl))
            exact W.zret (v := (oI 0)) hx hb hr (by first | rfl | decide | exact zb9 (by omega)) (fun t ht hW => ⟨⟨(oI 0), (va_up F 21 (oI r_10.toInt), X), rfl, hpost, by rw [ht]; exact hP9, va_K.moved hW.alike hK, hD9⟩, hS.F ht⟩) hS.2.2 dX8_fits_74
      · refine lv_iconst (v := oI 0) hx hb dX8_fits_36 (by decide) ?_
        have e0 : (oI 0).toInt = 0 := by decide
        have eF9 : rg 21 21 (rg 14 14 F F) F = F := by funext k; simp only [rg, va_up]; (repeat' split) <;> first | with_reducible rfl | omega
        have eX9 : rg 17 18 X X = X := by funext k; simp only [rg, va_up]; (repeat' split) <;> first | with_reducible rfl | omega
        have hP9 : va_P (dC, dI) vwCl (CW cB cC cI cJ cZ a (rg 21 21 (rg 14 14 F F) F) (rg 17 18 X X) J R gf gn) H := by rw [eF9, eX9]; exact hP
        have hD9 : va_D A (CW cB cC cI cJ cZ a (rg 21 21 (rg 14 14 F F) F) (rg 17 18 X X) J R gf gn) := by rw [eF9, eX9]; exact hD
        have hpost : (oI 0).toInt = 0 ∨ (oI 0).toInt = 1 := by first | assumption | omega | (with_reducible rfl) | ((repeat' apply And.intro) <;> first | assumption | omega | (with_reducible rfl))
        exact W.zret (v := (oI 0)) hx hb hr (by first | rfl | decide | exact zb9 (by omega)) (fun t ht hW => ⟨⟨(oI 0), (F, X), rfl, hpost, by rw [ht]; exact hP9, va_K.moved hW.alike hK, hD9⟩, hS.F ht⟩) hS.2.2 dX8_fits_37
