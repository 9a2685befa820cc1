def oX10_take : List Cond := [Cond.fieldLink RX10 9 "MacroScopes$Told" "taken" "[C", Cond.fieldLink RX10 19 "MacroScopes$Told" "text" "[C", Cond.fieldLink RX10 22 "MacroScopes$Told" "length" "I", Cond.fieldLink RX10 15 "MacroScopes$Told" "takenLength" "I"]
def vX10_take : List Cond := .code yX10_take cX10_take 2 none :: (oX10_take ++ (wsX100))
theorem lkX10_take_f9 : Cond.fieldLink RX10 9 "MacroScopes$Told" "taken" "[C" ∈ vX10_take := List.mem_cons_of_mem _ (List.mem_append_left _ (List.mem_of_getElem? (i := 0) rfl))
theorem lkX10_take_f19 : Cond.fieldLink RX10 19 "MacroScopes$Told" "text" "[C" ∈ vX10_take := List.mem_cons_of_mem _ (List.mem_append_left _ (List.mem_of_getElem? (i := 1) rfl))
theorem lkX10_take_f22 : Cond.fieldLink RX10 22 "MacroScopes$Told" "length" "I" ∈ vX10_take := List.mem_cons_of_mem _ (List.mem_append_left _ (List.mem_of_getElem? (i := 2) rfl))
theorem lkX10_take_f15 : Cond.fieldLink RX10 15 "MacroScopes$Told" "takenLength" "I" ∈ vX10_take := List.mem_cons_of_mem _ (List.mem_append_left _ (List.mem_of_getElem? (i := 3) rfl))
theorem inX10_take_X10 : ∀ w ∈ wsX100, w ∈ vX10_take := fun w h => List.mem_cons_of_mem _ (List.mem_append_right _ (h))
def oX11_place : List Cond := [Cond.fieldLink RX11 56 "MacroScopes" "place" "I"]
def vX11_place : List Cond := .code yX11_place cX11_place 1 (some .int) :: (oX11_place ++ (wsX110))
theorem lkX11_place_f56 : Cond.fieldLink RX11 56 "MacroScopes" "place" "I" ∈ vX11_place := List.mem_cons_of_mem _ (List.mem_append_left _ (List.mem_of_getElem? (i := 0) rfl))
theorem inX11_place_X11 : ∀ w ∈ wsX110, w ∈ vX11_place := fun w h => List.mem_cons_of_mem _ (List.mem_append_right _ (h))
def oX11_character : List Cond := [Cond.fieldLink RX11 30 "MacroScopes" "told" "LMacroScopes$Told;", Cond.methodLink RX11 102 yX10_at, Cond.instanceMethod yX10_at, Cond.selects RX10 yX10_at yX10_at, Cond.initialized RX10]
def vX11_character : List Cond := .code yX11_character cX11_character 2 (some .int) :: (oX11_character ++ (vX10_at ++ (wsX110)))
theorem lkX11_character_f30 : Cond.fieldLink RX11 30 "MacroScopes" "told" "LMacroScopes$Told;" ∈ vX11_character := List.mem_cons_of_mem _ (List.mem_append_left _ (List.mem_of_getElem? (i := 0) rfl))
theorem inX11_character_X11 : ∀ w ∈ wsX110, w ∈ vX11_character := fun w h => List.mem_cons_of_mem _ (List.mem_append_right _ (List.mem_append_right _ (h)))
theorem kX11_character_X10_at_102 : GoodIn vX11_character (wsV RX11 102 RX10 yX10_at vX10_at) := goodIn_sub (fun w h => (List.mem_append.mp h).elim (fun h => List.mem_cons_of_mem _ (List.mem_append_left _ ((by decide +kernel : ∀ w ∈ ([.methodLink RX11 102 yX10_at, .instanceMethod yX10_at, .selects RX10 yX10_at yX10_at, .initialized RX10] : List Cond), w ∈ oX11_character) w h))) (fun h => List.mem_cons_of_mem _ (List.mem_append_right _ (List.mem_append_left _ (h))))) (by decide +kernel)
def oX11_check : List Cond := [Cond.fieldLink RX11 30 "MacroScopes" "told" "LMacroScopes$Told;", Cond.methodLink RX11 123 yX10_canBeRead, Cond.instanceMethod yX10_canBeRead, Cond.selects RX10 yX10_canBeRead yX10_canBeRead, Cond.initialized RX10]
def vX11_check : List Cond := .code yX11_check cX11_check 1 (some .int) :: (oX11_check ++ (vX10_canBeRead ++ (wsX110)))
theorem lkX11_check_f30 : Cond.fieldLink RX11 30 "MacroScopes" "told" "LMacroScopes$Told;" ∈ vX11_check := List.mem_cons_of_mem _ (List.mem_append_left _ (List.mem_of_getElem? (i := 0) rfl))
theorem inX11_check_X11 : ∀ w ∈ wsX110, w ∈ vX11_check := fun w h => List.mem_cons_of_mem _ (List.mem_append_right _ (List.mem_append_right _ (h)))
theorem kX11_check_X10_canBeRead_123 : GoodIn vX11_check (wsV RX11 123 RX10 yX10_canBeRead vX10_canBeRead) := goodIn_sub (fun w h => (List.mem_append.mp h).elim (fun h => List.mem_cons_of_mem _ (List.mem_append_left _ ((by decide +kernel : ∀ w ∈ ([.methodLink RX11 123 yX10_canBeRead, .instanceMethod yX10_canBeRead, .selects RX10 yX10_canBeRead yX10_canBeRead, .initialized RX10] : List Cond), w ∈ oX11_check) w h))) (fun h => List.mem_cons_of_mem _ (List.mem_append_right _ (List.mem_append_left _ (h))))) (by decide +kernel)
def oX11_count : List Cond := [Cond.fieldLink RX11 30 "MacroScopes" "told" "LMacroScopes$Told;", Cond.fieldLink RX11 59 "MacroScopes" "uses" "I", Cond.fieldLink RX11 62 "MacroScopes" "variables" "I", Cond.fieldLink RX11 65 "MacroScopes" "topForms" "I", Cond.fieldLink RX11 16 "MacroScopes" "names" "LMacroScopes$Names;", Cond.methodLink RX11 99 yX6_macros, Cond.instanceMethod yX6_macros, Cond.selects RX6 yX6_macros yX6_macros, Cond.initialized RX6, Cond.fieldLink RX11 23 "MacroScopes" "forms" "LMacroScopes$Forms;"]
def vX11_count : List Cond := .code yX11_count cX11_count 2 (some .int) :: (oX11_count ++ (vX6_macros ++ (wsX110 ++ (wsX100 ++ (wsX10)))))
theorem lkX11_count_f30 : Cond.fieldLink RX11 30 "MacroScopes" "told" "LMacroScopes$Told;" ∈ vX11_count := List.mem_cons_of_mem _ (List.mem_append_left _ (List.mem_of_getElem? (i := 0) rfl))
theorem lkX11_count_f59 : Cond.fieldLink RX11 59 "MacroScopes" "uses" "I" ∈ vX11_count := List.mem_cons_of_mem _ (List.mem_append_left _ (List.mem_of_getElem? (i := 1) rfl))
theorem lkX11_count_f62 : Cond.fieldLink RX11 62 "MacroScopes" "variables" "I" ∈ vX11_count := List.mem_cons_of_mem _ (List.mem_append_left _ (List.mem_of_getElem? (i := 2) rfl))
theorem lkX11_count_f65 : Cond.fieldLink RX11 65 "MacroScopes" "topForms" "I" ∈ vX11_count := List.mem_cons_of_mem _ (List.mem_append_left _ (List.mem_of_getElem? (i := 3) rfl))
theorem lkX11_count_f16 : Cond.fieldLink RX11 16 "MacroScopes" "names" "LMacroScopes$Names;" ∈ vX11_count := List.mem_cons_of_mem _ (List.mem_append_left _ (List.mem_of_getElem? (i := 4) rfl))
theorem lkX11_count_f23 : Cond.fieldLink RX11 23 "MacroScopes" "forms" "LMacroScopes$Forms;" ∈ vX11_count := List.mem_cons_of_mem _ (List.mem_append_left _ (List.mem_of_getElem? (i := 9) rfl))
theorem inX11_count_X11 : ∀ w ∈ wsX110, w ∈ vX11_count := fun w h => List.mem_cons_of_mem _ (List.mem_append_right _ (List.mem_append_right _ (List.mem_append_left _ (h))))
theorem inX11_count_X10 : ∀ w ∈ wsX100, w ∈ vX11_count := fun w h => List.mem_cons_of_mem _ (List.mem_append_right _ (List.mem_append_right _ (List.mem_append_right _ (List.mem_append_left _ (h)))))
theorem inX11_count_X1 : ∀ w ∈ wsX10, w ∈ vX11_count := fun w h => List.mem_cons_of_mem _ (List.mem_append_right _ (List.mem_append_right _ (List.mem_append_right _ (List.mem_append_right _ (h)))))
theorem kX11_count_X6_macros_99 : GoodIn vX11_count (wsV RX11 99 RX6 yX6_macros vX6_macros) := goodIn_sub (fun w h => (List.mem_append.mp h).elim (fun h => List.mem_cons_of_mem _ (List.mem_append_left _ ((by decide +kernel : ∀ w ∈ ([.methodLink RX11 99 yX6_macros, .instanceMethod yX6_macros, .selects RX6 yX6_macros yX6_macros, .initialized RX6] : List Cond), w ∈ oX11_count) w h))) (fun h => List.mem_cons_of_mem _ (List.mem_append_right _ (List.mem_append_left _ (h))))) (by decide +kernel)
def oX11_means : List Cond := [Cond.fieldLink RX11 39 "MacroScopes" "reader" "LMacroScopes$Reader;", Cond.fieldLink RX11 9 "MacroScopes" "typed" "[C", Cond.fieldLink RX11 52 "MacroScopes" "typedLength" "I", Cond.methodLink RX11 106 yX7_tokenFrom, Cond.instanceMethod yX7_tokenFrom, Cond.selects RX7 yX7_tokenFrom yX7_tokenFrom, Cond.initialized RX7, Cond.methodLink RX11 110 yX7_tokenEnd, Cond.instanceMethod yX7_tokenEnd, Cond.selects RX7 yX7_tokenEnd yX7_tokenEnd, Cond.methodLink RX11 113 yX7_isSymbol, Cond.instanceMethod yX7_isSymbol, Cond.selects RX7 yX7_isSymbol yX7_isSymbol, Cond.methodLink RX11 117 yX7_symbolOf, Cond.instanceMethod yX7_symbolOf, Cond.selects RX7 yX7_symbolOf yX7_symbolOf, Cond.fieldLink RX11 16 "MacroScopes" "names" "LMacroScopes$Names;", Cond.methodLink RX11 120 yX6_rulesOf, Cond.instanceMethod yX6_rulesOf, Cond.selects RX6 yX6_rulesOf yX6_rulesOf, Cond.initialized RX6]
def vX11_means : List Cond := .code yX11_means cX11_means 5 (some .int) :: (oX11_means ++ (vX7_tokenFrom ++ (vX7_tokenEnd ++ (vX7_isSymbol ++ (vX7_symbolOf ++ (vX6_rulesOf ++ (wsX110)))))))
theorem lkX11_means_f39 : Cond.fieldLink RX11 39 "MacroScopes" "reader" "LMacroScopes$Reader;" ∈ vX11_means := List.mem_cons_of_mem _ (List.mem_append_left _ (List.mem_of_getElem? (i := 0) rfl))
theorem lkX11_means_f9 : Cond.fieldLink RX11 9 "MacroScopes" "typed" "[C" ∈ vX11_means := List.mem_cons_of_mem _ (List.mem_append_left _ (List.mem_of_getElem? (i := 1) rfl))
theorem lkX11_means_f52 : Cond.fieldLink RX11 52 "MacroScopes" "typedLength" "I" ∈ vX11_means := List.mem_cons_of_mem _ (List.mem_append_left _ (List.mem_of_getElem? (i := 2) rfl))
theorem lkX11_means_f16 : Cond.fieldLink RX11 16 "MacroScopes" "names" "LMacroScopes$Names;" ∈ vX11_means := List.mem_cons_of_mem _ (List.mem_append_left _ (List.mem_of_getElem? (i := 16) rfl))
theorem inX11_means_X11 : ∀ w ∈ wsX110, w ∈ vX11_means := fun w h => List.mem_cons_of_mem _ (List.mem_append_right _ (List.mem_append_right _ (List.mem_append_right _ (List.mem_append_right _ (List.mem_append_right _ (List.mem_append_right _ (h)))))))
theorem kX11_means_X7_tokenFrom_106 : GoodIn vX11_means (wsV RX11 106 RX7 yX7_tokenFrom vX7_tokenFrom) := goodIn_sub (fun w h => (List.mem_append.mp h).elim (fun h => List.mem_cons_of_mem _ (List.mem_append_left _ ((by decide +kernel : ∀ w ∈ ([.methodLink RX11 106 yX7_tokenFrom, .instanceMethod yX7_tokenFrom, .selects RX7 yX7_tokenFrom yX7_tokenFrom, .initialized RX7] : List Cond), w ∈ oX11_means) w h))) (fun h => List.mem_cons_of_mem _ (List.mem_append_right _ (List.mem_append_left _ (h))))) (by decide +kernel)
theorem kX11_means_X7_tokenEnd_110 : GoodIn vX11_means (wsV RX11 110 RX7 yX7_tokenEnd vX7_tokenEnd) := goodIn_sub (fun w h => (List.mem_append.mp h).elim (fun h => List.mem_cons_of_mem _ (List.mem_append_left _ ((by decide +kernel : ∀ w ∈ ([.methodLink RX11 110 yX7_tokenEnd, .instanceMethod yX7_tokenEnd, .selects RX7 yX7_tokenEnd yX7_tokenEnd, .initialized RX7] : List Cond), w ∈ oX11_means) w h))) (fun h => List.mem_cons_of_mem _ (List.mem_append_right _ (List.mem_append_right _ (List.mem_append_left _ (h)))))) (by decide +kernel)
theorem kX11_means_X7_isSymbol_113 : GoodIn vX11_means (wsV RX11 113 RX7 yX7_isSymbol vX7_isSymbol) := goodIn_sub (fun w h => (List.mem_append.mp h).elim (fun h => List.mem_cons_of_mem _ (List.mem_append_left _ ((by decide +kernel : ∀ w ∈ ([.methodLink RX11 113 yX7_isSymbol, .instanceMethod yX7_isSymbol, .selects RX7 yX7_isSymbol yX7_isSymbol, .initialized RX7] : List Cond), w ∈ oX11_means) w h))) (fun h => List.mem_cons_of_mem _ (List.mem_append_right _ (List.mem_append_right _ (List.mem_append_right _ (List.mem_append_left _ (h))))))) (by decide +kernel)
theorem kX11_means_X7_symbolOf_117 : GoodIn vX11_means (wsV RX11 117 RX7 yX7_symbolOf vX7_symbolOf) := goodIn_sub (fun w h => (List.mem_append.mp h).elim (fun h => List.mem_cons_of_mem _ (List.mem_append_left _ ((by decide +kernel : ∀ w ∈ ([.methodLink RX11 117 yX7_symbolOf, .instanceMethod yX7_symbolOf, .selects RX7 yX7_symbolOf yX7_symbolOf, .initialized RX7] : List Cond), w ∈ oX11_means) w h))) (fun h => List.mem_cons_of_mem _ (List.mem_append_right _ (List.mem_append_right _ (List.mem_append_right _ (List.mem_append_right _ (List.mem_append_left _ (h)))))))) (by decide +kernel)
theorem kX11_means_X6_rulesOf_120 : GoodIn vX11_means (wsV RX11 120 RX6 yX6_rulesOf vX6_rulesOf) := goodIn_sub (fun w h => (List.mem_append.mp h).elim (fun h => List.mem_cons_of_mem _ (List.mem_append_left _ ((by decide +kernel : ∀ w ∈ ([.methodLink RX11 120 yX6_rulesOf, .instanceMethod yX6_rulesOf, .selects RX6 yX6_rulesOf yX6_rulesOf, .initialized RX6] : List Cond), w ∈ oX11_means) w h))) (fun h => List.mem_cons_of_mem _ (List.mem_append_right _ (List.mem_append_right _ (List.mem_append_right _ (List.mem_append_right _ (List.mem_append_right _ (List.mem_append_left _ (h))))))))) (by decide +kernel)
def oX11_takeText : List Cond := [Cond.fieldLink RX11 30 "MacroScopes" "told" "LMacroScopes$Told;", Cond.methodLink RX11 127 yX10_take, Cond.instanceMethod yX10_take, Cond.selects RX10 yX10_take yX10_take, Cond.initialized RX10, Cond.fieldLink RX11 48 "MacroScopes" "expander" "LMacroScopes$Expander;", Cond.fieldLink RX11 59 "MacroScopes" "uses" "I", Cond.fieldLink RX11 62 "MacroScopes" "variables" "I", Cond.fieldLink RX11 65 "MacroScopes" "topForms" "I", Cond.fieldLink RX11 16 "MacroScopes" "names" "LMacroScopes$Names;", Cond.methodLink RX11 132 yX6_take, Cond.instanceMethod yX6_take, Cond.selects RX6 yX6_take yX6_take, Cond.initialized RX6]
def vX11_takeText : List Cond := .code yX11_takeText cX11_takeText 2 none :: (oX11_takeText ++ (vX10_take ++ (vX6_take ++ (wsX110 ++ (wsX00)))))
theorem lkX11_takeText_f30 : Cond.fieldLink RX11 30 "MacroScopes" "told" "LMacroScopes$Told;" ∈ vX11_takeText := List.mem_cons_of_mem _ (List.mem_append_left _ (List.mem_of_getElem? (i := 0) rfl))
theorem lkX11_takeText_f48 : Cond.fieldLink RX11 48 "MacroScopes" "expander" "LMacroScopes$Expander;" ∈ vX11_takeText := List.mem_cons_of_mem _ (List.mem_append_left _ (List.mem_of_getElem? (i := 5) rfl))
theorem lkX11_takeText_f59 : Cond.fieldLink RX11 59 "MacroScopes" "uses" "I" ∈ vX11_takeText := List.mem_cons_of_mem _ (List.mem_append_left _ (List.mem_of_getElem? (i := 6) rfl))
theorem lkX11_takeText_f62 : Cond.fieldLink RX11 62 "MacroScopes" "variables" "I" ∈ vX11_takeText := List.mem_cons_of_mem _ (List.mem_append_left _ (List.mem_of_getElem? (i := 7) rfl))
theorem lkX11_takeText_f65 : Cond.fieldLink RX11 65 "MacroScopes" "topForms" "I" ∈ vX11_takeText := List.mem_cons_of_mem _ (List.mem_append_left _ (List.mem_of_getElem? (i := 8) rfl))
theorem lkX11_takeText_f16 : Cond.fieldLink RX11 16 "MacroScopes" "names" "LMacroScopes$Names;" ∈ vX11_takeText := List.mem_cons_of_mem _ (List.mem_append_left _ (List.mem_of_getElem? (i := 9) rfl))
theorem inX11_takeText_X11 : ∀ w ∈ wsX110, w ∈ vX11_takeText := fun w h => List.mem_cons_of_mem _ (List.mem_append_right _ (List.mem_append_right _ (List.mem_append_right _ (List.mem_append_left _ (h)))))
theorem inX11_takeText_X0 : ∀ w ∈ wsX00, w ∈ vX11_takeText := fun w h => List.mem_cons_of_mem _ (List.mem_append_right _ (List.mem_append_right _ (List.mem_append_right _ (List.mem_append_right _ (h)))))
theorem kX11_takeText_X10_take_127 : GoodIn vX11_takeText (wsV RX11 127 RX10 yX10_take vX10_take) := goodIn_sub (fun w h => (List.mem_append.mp h).elim (fun h => List.mem_cons_of_mem _ (List.mem_append_left _ ((by decide +kernel : ∀ w ∈ ([.methodLink RX11 127 yX10_take, .instanceMethod yX10_take, .selects RX10 yX10_take yX10_take, .initialized RX10] : List Cond), w ∈ oX11_takeText) w h))) (fun h => List.mem_cons_of_mem _ (List.mem_append_right _ (List.mem_append_left _ (h))))) (by decide +kernel)
theorem kX11_takeText_X6_take_132 : GoodIn vX11_takeText (wsV RX11 132 RX6 yX6_take vX6_take) := goodIn_sub (fun w h => (List.mem_append.mp h).elim (fun h => List.mem_cons_of_mem _ (List.mem_append_left _ ((by decide +kernel : ∀ w ∈ ([.methodLink RX11 132 yX6_take, .instanceMethod yX6_take, .selects RX6 yX6_take yX6_take, .initialized RX6] : List Cond), w ∈ oX11_takeText) w h))) (fun h => List.mem_cons_of_mem _ (List.mem_append_right _ (List.mem_append_right _ (List.mem_append_left _ (h)))))) (by decide +kernel)
set_option maxHeartbeats 4000000 in
set_option maxRecDepth 100000 in
/-- X10_take -/
theorem c_take (l : Launch) (dC : Nat → ClassId) (dI : Nat → Nat → Nat) (cB cC cI cJ cZ : ClassId) (a : Nat → Nat) (F : Nat → Int32) (X : Nat → Nat → Int32) (J : Nat → Nat → Int64) (R : Nat → Nat) (gf gn : Nat)  (s0 : Nat) : Met l yX10_take vX10_take { frames := 1, cells := 0, slots := 0, locals := 60 } (va_Pc [.ref (a 10)] (cPre dC dI cB cC cI cJ cZ a F X J R gf gn s0)) (va_Qv (fun (u : (Nat → Int32) × (Nat → Nat → Int32) × (Nat → Nat → Int64) × (Nat → Nat) × Nat × Nat) => match u with | (F1, X1, J1, R1, gf1, gn1) => (∀ k9, k9 ≠ 24 → F1 k9 = F k9) ∧ (∀ k9, (k9 < 24 ∨ k9 = 26) → X1 k9 = X k9) ∧ J1 = J ∧ gf1 = gf ∧ gn1 = gn) (fun u => cPost dC dI cB cC cI cJ cZ a u.1 u.2.1 u.2.2.1 u.2.2.2.1 u.2.2.2.2.1 u.2.2.2.2.2 (va_A (CW cB cC cI cJ cZ a F X J R gf gn) s0)) (va_A (CW cB cC cI cJ cZ a F X J R gf gn) s0)) 0 0 (va_A (CW cB cC cI cJ cZ a F X J R gf gn) s0) := by
  refine Met.ofW (cc := cX10_take) (maxL := 2) (ret := none) (by decide) rfl ?_
  intro p e s m args below meth c s₁ B9 hml hv
  obtain ⟨rfl, hsz0, hP, hK, hD0, hNW⟩ := hv
  have hx := B9.exec
  have hb := B9.bytes
  have hr := B9.returns
  have hts := atoms_spec (ws := vX10_take) B9.pre
  have hown : s.vm.findClass RX10 = some m.cls := findClass_of_methodNamed B9.named
  have hlocks := B9.notSynchronized
  clear B9
  subst hsz0
  have hD := hD0.self (sz := s.heap.size)
  generalize hAe : va_A (CW cB cC cI cJ cZ a F X J R gf gn) s.heap.size = A at hD ⊢
  have hA : ∀ q : Nat, s.heap.size ≤ q → A q := fun q h => by rw [← hAe]; exact Or.inr h
  have hS : va_S A s.heap s.heap [] := va_S.rf
  have hcs : 0 + 0 ≤ (0 : Nat) ∧ 0 + 0 ≤ (0 : Nat) := ⟨Nat.le_refl 0, Nat.le_refl 0⟩
  have hl := lv_entry ([.ref (a 10)]) (n := 2) (Nat.le_of_ble_eq_true rfl)
  rw [lg_entry_eq]
  generalize (lg_sl ([.ref (a 10)]) ++ List.replicate (2 - (lg_sl ([.ref (a 10)])).length) Slot.unset).toArray = ls at hl ⊢
  have hl : lv_has ls 2 [(0, .ref (a 10))] := hl
  refine lv_aload_n hx hb dX10_take_0 rfl (lv_at hl 0 rfl) ?_
  refine cg_10_0 hx hb hts inX10_take_X10 hown hK hP (hts _ lkX10_take_f9) dX10_take_1 ?_
  refine lv_astore_n (lv' := [(1, .ref (R 24)), (0, .ref (a 10))]) hx hb dX10_take_4 rfl hl (by decide) rfl (fun ls hl => ?_)
  refine lv_aload_n hx hb dX10_take_5 rfl (lv_at hl 1 rfl) ?_
  refine lv_aload_n hx hb dX10_take_6 rfl (lv_at hl 1 rfl) ?_
  refine cg_10_2 hx hb hts inX10_take_X10 hown hK hP (hts _ lkX10_take_f19) dX10_take_7 ?_
  refine cp_10_0 hx hb hts inX10_take_X10 hown hK hP hD hS (hts _ lkX10_take_f9) dX10_take_10 (fun H locs hP hD hS => ?_)
  have hP : va_P (dC, dI) vwCl (CW0 cB cC cI cJ cZ a (va_up R 24 (R 25)) F X J R gf gn) H := hP
  have hD : va_D A (CW0 cB cC cI cJ cZ a (va_up R 24 (R 25)) F X J R gf gn) := hD
  refine lv_aload_n hx hb dX10_take_13 rfl (lv_at hl 1 rfl) ?_
  refine lv_aload_n hx hb dX10_take_14 rfl (lv_at hl 1 rfl) ?_
  refine cg_10_3 hx hb hts inX10_take_X10 hown hK hP (hts _ lkX10_take_f22) dX10_take_15 ?_
  have i_1 := i32r (F 25)
  refine cp_10_1 hx hb hts inX10_take_X10 hown hK hP hD hS (hts _ lkX10_take_f15) dX10_take_18 (fun H locs hP hD hS => ?_)
  have hP : va_P (dC, dI) vwCl (CW0 cB cC cI cJ cZ a (va_up R 24 (R 25)) (va_up F 24 (oI ((F 25).toInt))) X J R gf gn) H := hP
  have hD : va_D A (CW0 cB cC cI cJ cZ a (va_up R 24 (R 25)) (va_up F 24 (oI ((F 25).toInt))) X J R gf gn) := hD
  have e_2 : (oI ((F 25).toInt)).toInt = (F 25).toInt := congrArg Int32.toInt (oI_toInt _)
  refine lv_aload_n hx hb dX10_take_21 rfl (lv_at hl 1 rfl) ?_
  refine lv_aload_n hx hb dX10_take_22 rfl (lv_at hl 0 rfl) ?_
  refine cp_10_2 hx hb hts inX10_take_X10 hown hK hP hD hS (hts _ lkX10_take_f19) dX10_take_23 (fun H locs hP hD hS => ?_)
  have hP : va_P (dC, dI) vwCl (CW0 cB cC cI cJ cZ a (va_up (va_up R 24 (R 25)) 25 (R 24)) (va_up F 24 (oI ((F 25).toInt))) X J R gf gn) H := hP
  have hD : va_D A (CW0 cB cC cI cJ cZ a (va_up (va_up R 24 (R 25)) 25 (R 24)) (va_up F 24 (oI ((F 25).toInt))) X J R gf gn) := hD
  have hP : va_P (dC, dI) vwCl (CW cB cC cI cJ cZ a (va_up F 24 (oI ((F 25).toInt))) (va_up (va_up X 24 (X 25)) 25 (X 24)) J (va_up (va_up R 24 (R 25)) 25 (R 24)) gf gn) H := hP.sub [0, 1, 2, 3, 4, 5, 6, 7, 8, 9, 10, 11, 12, 13, 14, 15, 16, 17, 18, 19, 20, 21, 22, 23, 24, 25, 26, 27, 28, 29, 30, 31, 32, 33, 34, 35, 37, 36, 38, 39, 40] rfl
  have hD : va_D A (CW cB cC cI cJ cZ a (va_up F 24 (oI ((F 25).toInt))) (va_up (va_up X 24 (X 25)) 25 (X 24)) J (va_up (va_up R 24 (R 25)) 25 (R 24)) gf gn) := hD.sub [0, 1, 2, 3, 4, 5, 6, 7, 8, 9, 10, 11, 12, 13, 14, 15, 16, 17, 18, 19, 20, 21, 22, 23, 24, 25, 26, 27, 28, 29, 30, 31, 32, 33, 34, 35, 37, 36, 38, 39, 40] rfl rfl
  have hpost : (∀ k9, k9 ≠ 24 → (va_up F 24 (oI ((F 25).toInt))) k9 = F k9) ∧ (∀ k9, (k9 < 24 ∨ k9 = 26) → (va_up (va_up X 24 (X 25)) 25 (X 24)) k9 = X k9) ∧ J = J ∧ gf = gf ∧ gn = gn := ⟨fun k9 h9 => by unfold va_up; rw [if_neg h9], fun k9 h9 => by unfold va_up; rw [if_neg (by omega), if_neg (by omega)], rfl, rfl, rfl⟩
  exact W.vret hx hb hr (fun t ht hW => ⟨⟨(va_up F 24 (oI ((F 25).toInt)), va_up (va_up X 24 (X 25)) 25 (X 24), J, va_up (va_up R 24 (R 25)) 25 (R 24), gf, gn), rfl, hpost, by rw [ht]; exact hP, va_K.moved hW.alike hK, hD⟩, hS.F ht⟩) hS.2.2 dX10_take_26

set_option maxHeartbeats 4000000 in
set_option maxRecDepth 100000 in
/-- X11_place -/
theorem c_placeX (l : Launch) (dC : Nat → ClassId) (dI : Nat → Nat → Nat) (cB cC cI cJ cZ : ClassId) (a : Nat → Nat) (F : Nat → Int32) (X : Nat → Nat → Int32) (J : Nat → Nat → Int64) (R : Nat → Nat) (gf gn : Nat)  (s0 : Nat) : Met l yX11_place vX11_place { frames := 1, cells := 0, slots := 0, locals := 60 } (va_Pc [.ref (a 11)] (cPre dC dI cB cC cI cJ cZ a F X J R gf gn s0)) (va_Qi (fun (r : Int32) (_ : Unit) => True) (fun _ => cPost dC dI cB cC cI cJ cZ a F X J R gf gn (va_A (CW cB cC cI cJ cZ a F X J R gf gn) s0)) (va_A (CW cB cC cI cJ cZ a F X J R gf gn) s0)) 0 0 (va_A (CW cB cC cI cJ cZ a F X J R gf gn) s0) := by
  refine Met.ofW (cc := cX11_place) (maxL := 1) (ret := (some .int)) (by decide) rfl ?_
  intro p e s m args below meth c s₁ B9 hml hv
  obtain ⟨rfl, hsz0, hP, hK, hD0, hNW⟩ := hv
  have hx := B9.exec
  have hb := B9.bytes
  have hr := B9.returns
  have hts := atoms_spec (ws := vX11_place) B9.pre
  have hown : s.vm.findClass RX11 = some m.cls := findClass_of_methodNamed B9.named
  have hlocks := B9.notSynchronized
  clear B9
  subst hsz0
  have hD := hD0.self (sz := s.heap.size)
  generalize hAe : va_A (CW cB cC cI cJ cZ a F X J R gf gn) s.heap.size = A at hD ⊢
  have hA : ∀ q : Nat, s.heap.size ≤ q → A q := fun q h => by rw [← hAe]; exact Or.inr h
  have hS : va_S A s.heap s.heap [] := va_S.rf
  have hcs : 0 + 0 ≤ (0 : Nat) ∧ 0 + 0 ≤ (0 : Nat) := ⟨Nat.le_refl 0, Nat.le_refl 0⟩
  have hl := lv_entry ([.ref (a 11)]) (n := 1) (Nat.le_of_ble_eq_true rfl)
  rw [lg_entry_eq]
  generalize (lg_sl ([.ref (a 11)]) ++ List.replicate (1 - (lg_sl ([.ref (a 11)])).length) Slot.unset).toArray = ls at hl ⊢
  have hl : lv_has ls 1 [(0, .ref (a 11))] := hl
  refine lv_aload_n hx hb dX11_place_0 rfl (lv_at hl 0 rfl) ?_
  refine cg_11_7 hx hb hts inX11_place_X11 hown hK hP (hts _ lkX11_place_f56) dX11_place_1 ?_
  have i_1 := i32r (F 28)
  have hpost : True := trivial
  exact W.iret (v := (oI ((F 28).toInt))) hx hb hr (fun t ht hW => ⟨⟨(oI ((F 28).toInt)), (), rfl, hpost, by rw [ht]; exact hP, va_K.moved hW.alike hK, hD⟩, hS.F ht⟩) hS.2.2 dX11_place_4

set_option maxHeartbeats 4000000 in
set_option maxRecDepth 100000 in
/-- X11_character -/
theorem c_characterX (l : Launch) (dC : Nat → ClassId) (dI : Nat → Nat → Nat) (cB cC cI cJ cZ : ClassId) (a : Nat → Nat) (F : Nat → Int32) (X : Nat → Nat → Int32) (J : Nat → Nat → Int64) (R : Nat → Nat) (gf gn : Nat) (x : Int)  (ix : (-2147483648 ≤ x ∧ x < 2147483648)) (s0 : Nat) : Met l yX11_character vX11_character { frames := 2, cells := 0, slots := 0, locals := 81 } (va_Pc [.ref (a 11), .int (oI x)] (cPre dC dI cB cC cI cJ cZ a F X J R gf gn s0)) (va_Qi (fun (r : Int32) (_ : Unit) => True) (fun _ => cPost dC dI cB cC cI cJ cZ a F X J R gf gn (va_A (CW cB cC cI cJ cZ a F X J R gf gn) s0)) (va_A (CW cB cC cI cJ cZ a F X J R gf gn) s0)) 0 0 (va_A (CW cB cC cI cJ cZ a F X J R gf gn) s0) := by
  refine Met.ofW (cc := cX11_character) (maxL := 2) (ret := (some .int)) (by decide) rfl ?_
  intro p e s m args below meth c s₁ B9 hml hv
  obtain ⟨rfl, hsz0, hP, hK, hD0, hNW⟩ := hv
  have hx := B9.exec
  have hb := B9.bytes
  have hr := B9.returns
  have hts := atoms_spec (ws := vX11_character) B9.pre
  have hown : s.vm.findClass RX11 = some m.cls := findClass_of_methodNamed B9.named
  have hlocks := B9.notSynchronized
  clear B9
  subst hsz0
  have hD := hD0.self (sz := s.heap.size)
  generalize hAe : va_A (CW cB cC cI cJ cZ a F X J R gf gn) s.heap.size = A at hD ⊢
  have hA : ∀ q : Nat, s.heap.size ≤ q → A q := fun q h => by rw [← hAe]; exact Or.inr h
  have hS : va_S A s.heap s.heap [] := va_S.rf
  have hcs : 0 + 0 ≤ (0 : Nat) ∧ 0 + 0 ≤ (0 : Nat) := ⟨Nat.le_refl 0, Nat.le_refl 0⟩
  have hl := lv_entry ([.ref (a 11), .int (oI x)]) (n := 2) (Nat.le_of_ble_eq_true rfl)
  rw [lg_entry_eq]
  generalize (lg_sl ([.ref (a 11), .int (oI x)]) ++ List.replicate (2 - (lg_sl ([.ref (a 11), .int (oI x)])).length) Slot.unset).toArray = ls at hl ⊢
  have hl : lv_has ls 2 [(0, .ref (a 11)), (1, .int (oI x))] := hl
  refine lv_aload_n hx hb dX11_character_0 rfl (lv_at hl 0 rfl) ?_
  refine cg_11_3 hx hb hts inX11_character_X11 hown hK hP (hts _ lkX11_character_f30) dX11_character_1 ?_
  refine lv_iload_n hx hb dX11_character_4 rfl (lv_at hl 1 rfl) ?_
  refine ccs_iV (As := [.int (oI x)]) (rest := []) ⟨hx, hb, hml, hown, hts⟩ (c_at l dC dI cB cC cI cJ cZ a F X J R gf gn x  (by omega)   s.heap.size) (cwV 1 hts kX11_character_X10_at_102 rfl rfl rfl (by decide +kernel) ⟨Nat.le_of_ble_eq_true rfl, Nat.le_of_ble_eq_true rfl⟩) (va_recv hK hP (ci := 10) (q0 := 10) rfl rfl) hK hNW hP hD hS hA rfl rfl hl.1 (lv_room (Nat.le_of_ble_eq_true rfl)) dX11_character_5 hcs (fun r_1 hw_2 H locs hP hD hS => ?_)
  have i_3 := i32r r_1
  have hpost : True := trivial
  exact W.iret (v := (oI r_1.toInt)) hx hb hr (fun t ht hW => ⟨⟨(oI r_1.toInt), (), rfl, hpost, by rw [ht]; exact hP, va_K.moved hW.alike hK, hD⟩, hS.F ht⟩) hS.2.2 dX11_character_8

set_option maxHeartbeats 4000000 in
set_option maxRecDepth 100000 in
/-- X11_check -/
theorem c_checkX (l : Launch) (dC : Nat → ClassId) (dI : Nat → Nat → Nat) (cB cC cI cJ cZ : ClassId) (a : Nat → Nat) (F : Nat → Int32) (X : Nat → Nat → Int32) (J : Nat → Nat → Int64) (R : Nat → Nat) (gf gn : Nat)  (s0 : Nat) : Met l yX11_check vX11_check { frames := 2, cells := 0, slots := 0, locals := 82 } (va_Pc [.ref (a 11)] (cPre dC dI cB cC cI cJ cZ a F X J R gf gn s0)) (va_Qi (fun (r : Int32) (_ : Unit) => True) (fun _ => cPost dC dI cB cC cI cJ cZ a F X J R gf gn (va_A (CW cB cC cI cJ cZ a F X J R gf gn) s0)) (va_A (CW cB cC cI cJ cZ a F X J R gf gn) s0)) 0 0 (va_A (CW cB cC cI cJ cZ a F X J R gf gn) s0) := by
  refine Met.ofW (cc := cX11_check) (maxL := 1) (ret := (some .int)) (by decide) rfl ?_
  intro p e s m args below meth c s₁ B9 hml hv
  obtain ⟨rfl, hsz0, hP, hK, hD0, hNW⟩ := hv
  have hx := B9.exec
  have hb := B9.bytes
  have hr := B9.returns
  have hts := atoms_spec (ws := vX11_check) B9.pre
  have hown : s.vm.findClass RX11 = some m.cls := findClass_of_methodNamed B9.named
  have hlocks := B9.notSynchronized
  clear B9
  subst hsz0
  have hD := hD0.self (sz := s.heap.size)
  generalize hAe : va_A (CW cB cC cI cJ cZ a F X J R gf gn) s.heap.size = A at hD ⊢
  have hA : ∀ q : Nat, s.heap.size ≤ q → A q := fun q h => by rw [← hAe]; exact Or.inr h
  have hS : va_S A s.heap s.heap [] := va_S.rf
  have hcs : 0 + 0 ≤ (0 : Nat) ∧ 0 + 0 ≤ (0 : Nat) := ⟨Nat.le_refl 0, Nat.le_refl 0⟩
  have hl := lv_entry ([.ref (a 11)]) (n := 1) (Nat.le_of_ble_eq_true rfl)
  rw [lg_entry_eq]
  generalize (lg_sl ([.ref (a 11)]) ++ List.replicate (1 - (lg_sl ([.ref (a 11)])).length) Slot.unset).toArray = ls at hl ⊢
  have hl : lv_has ls 1 [(0, .ref (a 11))] := hl
  refine lv_aload_n hx hb dX11_check_0 rfl (lv_at hl 0 rfl) ?_
  refine cg_11_3 hx hb hts inX11_check_X11 hown hK hP (hts _ lkX11_check_f30) dX11_check_1 ?_
  refine ccs_iV (As := []) (rest := []) ⟨hx, hb, hml, hown, hts⟩ (c_canBeRead l dC dI cB cC cI cJ cZ a F X J R gf gn      s.heap.size) (cwV 0 hts kX11_check_X10_canBeRead_123 rfl rfl rfl (by decide +kernel) ⟨Nat.le_of_ble_eq_true rfl, Nat.le_of_ble_eq_true rfl⟩) (va_recv hK hP (ci := 10) (q0 := 10) rfl rfl) hK hNW hP hD hS hA rfl rfl hl.1 (lv_room (Nat.le_of_ble_eq_true rfl)) dX11_check_4 hcs (fun r_1 hw_2 H locs hP hD hS => ?_)
  replace hw_2 : (r_1).toInt = 0 ∨ (r_1).toInt = 1 := hw_2
  have hz := hw_2
  clear hw_2
  have i_3 := i32r r_1
  refine cz_eq (tgt := 14) hx hb (i32r _) dX11_check_7 (by decide) (fun c_4 => ?_) (fun c_4 => ?_)
  · refine lv_iconst (v := oI 0) hx hb dX11_check_14 (by decide) ?_
    have hpost : True := trivial
    exact W.iret (v := (oI 0)) hx hb hr (fun t ht hW => ⟨⟨(oI 0), (), rfl, hpost, by rw [ht]; exact hP, va_K.moved hW.alike hK, hD⟩, hS.F ht⟩) hS.2.2 dX11_check_15
  · refine lv_iconst (v := oI 1) hx hb dX11_check_10 (by decide) ?_
    refine lv_goto (tgt := 15) hx hb dX11_check_11 (by decide) ?_
    have hpost : True := trivial
    exact W.iret (v := (oI 1)) hx hb hr (fun t ht hW => ⟨⟨(oI 1), (), rfl, hpost, by rw [ht]; exact hP, va_K.moved hW.alike hK, hD⟩, hS.F ht⟩) hS.2.2 dX11_check_15

set_option maxHeartbeats 4000000 in
set_option maxRecDepth 100000 in
/-- X11_count -/
theorem c_countX (l : Launch) (dC : Nat → ClassId) (dI : Nat → Nat → Nat) (cB cC cI cJ cZ : ClassId) (a : Nat → Nat) (F : Nat → Int32) (X : Nat → Nat → Int32) (J : Nat → Nat → Int64) (R : Nat → Nat) (gf gn : Nat) (x : Int)  (ix : (-2147483648 ≤ x ∧ x < 2147483648)) (hsy : 0 ≤ (F 15).toInt ∧ (F 15).toInt ≤ 2560) (s0 : Nat) : Met l yX11_count vX11_count { frames := 2, cells := 0, slots := 0, locals := 82 } (va_Pc [.ref (a 11), .int (oI x)] (cPre dC dI cB cC cI cJ cZ a F X J R gf gn s0)) (va_Qi (fun (r : Int32) (_ : Unit) => True) (fun _ => cPost dC dI cB cC cI cJ cZ a F X J R gf gn (va_A (CW cB cC cI cJ cZ a F X J R gf gn) s0)) (va_A (CW cB cC cI cJ cZ a F X J R gf gn) s0)) 0 0 (va_A (CW cB cC cI cJ cZ a F X J R gf gn) s0) := by
  refine Met.ofW (cc := cX11_count) (maxL := 2) (ret := (some .int)) (by decide) rfl ?_
  intro p e s m args below meth c s₁ B9 hml hv
  obtain ⟨rfl, hsz0, hP, hK, hD0, hNW⟩ := hv
  have hx := B9.exec
  have hb := B9.bytes
  have hr := B9.returns
  have hts := atoms_spec (ws := vX11_count) B9.pre
  have hown : s.vm.findClass RX11 = some m.cls := findClass_of_methodNamed B9.named
  have hlocks := B9.notSynchronized
  clear B9
  subst hsz0
  have hD := hD0.self (sz := s.heap.size)
  generalize hAe : va_A (CW cB cC cI cJ cZ a F X J R gf gn) s.heap.size = A at hD ⊢
  have hA : ∀ q : Nat, s.heap.size ≤ q → A q := fun q h => by rw [← hAe]; exact Or.inr h
  have hS : va_S A s.heap s.heap [] := va_S.rf
  have hcs : 0 + 0 ≤ (0 : Nat) ∧ 0 + 0 ≤ (0 : Nat) := ⟨Nat.le_refl 0, Nat.le_refl 0⟩
  have hl := lv_entry ([.ref (a 11), .int (oI x)]) (n := 2) (Nat.le_of_ble_eq_true rfl)
  rw [lg_entry_eq]
  generalize (lg_sl ([.ref (a 11), .int (oI x)]) ++ List.replicate (2 - (lg_sl ([.ref (a 11), .int (oI x)])).length) Slot.unset).toArray = ls at hl ⊢
  have hl : lv_has ls 2 [(0, .ref (a 11)), (1, .int (oI x))] := hl
  refine lv_iload_n hx hb dX11_count_0 rfl (lv_at hl 1 rfl) ?_
  have e_1 : (oI x).toInt = x := toInt_oI (by omega)
  have hs_2 : x = 0 ∨ x = 1 ∨ x = 2 ∨ x = 3 ∨ x = 4 ∨ x = 5 ∨ (x < 0 ∨ 5 < x) := by omega
  rcases hs_2 with hs_2 | hs_2 | hs_2 | hs_2 | hs_2 | hs_2 | hs_2
  · refine lv_tableIn (tgt := 40) (off := 39) hx hb dX11_count_1 (by rw [e_1]; omega) (by rw [e_1]; omega) (by rw [e_1, hs_2]; rfl) (by decide) ?_
    refine lv_aload_n hx hb dX11_count_40 rfl (lv_at hl 0 rfl) ?_
    refine cg_11_3 hx hb hts inX11_count_X11 hown hK hP (hts _ lkX11_count_f30) dX11_count_41 ?_
    refine cgN_10_1 hx hb hts inX11_count_X10 hown hK hP (va_Nw.use rfl hNW.2.2.2.2.2.2.2.2.2.2.2.2.2.2.2.2.2.2.2.2.2.2.2.2.1) dX11_count_44 ?_
    have i_3 := i32r (F 24)
    have hpost : True := trivial
    exact W.iret (v := (oI ((F 24).toInt))) hx hb hr (fun t ht hW => ⟨⟨(oI ((F 24).toInt)), (), rfl, hpost, by rw [ht]; exact hP, va_K.moved hW.alike hK, hD⟩, hS.F ht⟩) hS.2.2 dX11_count_47
  · refine lv_tableIn (tgt := 48) (off := 47) hx hb dX11_count_1 (by rw [e_1]; omega) (by rw [e_1]; omega) (by rw [e_1, hs_2]; rfl) (by decide) ?_
    refine lv_aload_n hx hb dX11_count_48 rfl (lv_at hl 0 rfl) ?_
    refine cg_11_8 hx hb hts inX11_count_X11 hown hK hP (hts _ lkX11_count_f59) dX11_count_49 ?_
    have i_4 := i32r (F 29)
    have hpost : True := trivial
    exact W.iret (v := (oI ((F 29).toInt))) hx hb hr (fun t ht hW => ⟨⟨(oI ((F 29).toInt)), (), rfl, hpost, by rw [ht]; exact hP, va_K.moved hW.alike hK, hD⟩, hS.F ht⟩) hS.2.2 dX11_count_52
  · refine lv_tableIn (tgt := 53) (off := 52) hx hb dX11_count_1 (by rw [e_1]; omega) (by rw [e_1]; omega) (by rw [e_1, hs_2]; rfl) (by decide) ?_
    refine lv_aload_n hx hb dX11_count_53 rfl (lv_at hl 0 rfl) ?_
    refine cg_11_9 hx hb hts inX11_count_X11 hown hK hP (hts _ lkX11_count_f62) dX11_count_54 ?_
    have i_5 := i32r (F 30)
    have hpost : True := trivial
    exact W.iret (v := (oI ((F 30).toInt))) hx hb hr (fun t ht hW => ⟨⟨(oI ((F 30).toInt)), (), rfl, hpost, by rw [ht]; exact hP, va_K.moved hW.alike hK, hD⟩, hS.F ht⟩) hS.2.2 dX11_count_57
  · refine lv_tableIn (tgt := 58) (off := 57) hx hb dX11_count_1 (by rw [e_1]; omega) (by rw [e_1]; omega) (by rw [e_1, hs_2]; rfl) (by decide) ?_
    refine lv_aload_n hx hb dX11_count_58 rfl (lv_at hl 0 rfl) ?_
    refine cg_11_10 hx hb hts inX11_count_X11 hown hK hP (hts _ lkX11_count_f65) dX11_count_59 ?_
    have i_6 := i32r (F 31)
    have hpost : True := trivial
    exact W.iret (v := (oI ((F 31).toInt))) hx hb hr (fun t ht hW => ⟨⟨(oI ((F 31).toInt)), (), rfl, hpost, by rw [ht]; exact hP, va_K.moved hW.alike hK, hD⟩, hS.F ht⟩) hS.2.2 dX11_count_62
  · refine lv_tableIn (tgt := 63) (off := 62) hx hb dX11_count_1 (by rw [e_1]; omega) (by rw [e_1]; omega) (by rw [e_1, hs_2]; rfl) (by decide) ?_
    refine lv_aload_n hx hb dX11_count_63 rfl (lv_at hl 0 rfl) ?_
    refine cg_11_1 hx hb hts inX11_count_X11 hown hK hP (hts _ lkX11_count_f16) dX11_count_64 ?_
    refine ccs_iV (As := []) (rest := []) ⟨hx, hb, hml, hown, hts⟩ (c_macros l dC dI cB cC cI cJ cZ a F X J R gf gn    (show 0 ≤ (F 15).toInt ∧ (F 15).toInt ≤ 2560 from by first | assumption | omega)  s.heap.size) (cwV 0 hts kX11_count_X6_macros_99 rfl rfl rfl (by decide +kernel) ⟨Nat.le_of_ble_eq_true rfl, Nat.le_of_ble_eq_true rfl⟩) (va_recv hK hP (ci := 6) (q0 := 6) rfl rfl) hK hNW hP hD hS hA rfl rfl hl.1 (lv_room (Nat.le_of_ble_eq_true rfl)) dX11_count_67 hcs (fun r_7 hw_8 H locs hP hD hS => ?_)
    have i_9 := i32r r_7
    have hpost : True := trivial
    exact W.iret (v := (oI r_7.toInt)) hx hb hr (fun t ht hW => ⟨⟨(oI r_7.toInt), (), rfl, hpost, by rw [ht]; exact hP, va_K.moved hW.alike hK, hD⟩, hS.F ht⟩) hS.2.2 dX11_count_70
  · refine lv_tableIn (tgt := 71) (off := 70) hx hb dX11_count_1 (by rw [e_1]; omega) (by rw [e_1]; omega) (by rw [e_1, hs_2]; rfl) (by decide) ?_
    refine lv_aload_n hx hb dX11_count_71 rfl (lv_at hl 0 rfl) ?_
    refine cg_11_2 hx hb hts inX11_count_X11 hown hK hP (hts _ lkX11_count_f23) dX11_count_72 ?_
    refine cgN_1_3 hx hb hts inX11_count_X1 hown hK hP (va_Nw.use rfl hNW.2.2.2.2.2.2.2.2.2.2.2.2.2.2.2.2.2.2.2.2.2.2.1) dX11_count_75 ?_
    have i_10 := i32r (F 0)
    have hpost : True := trivial
    exact W.iret (v := (oI ((F 0).toInt))) hx hb hr (fun t ht hW => ⟨⟨(oI ((F 0).toInt)), (), rfl, hpost, by rw [ht]; exact hP, va_K.moved hW.alike hK, hD⟩, hS.F ht⟩) hS.2.2 dX11_count_78
  · refine lv_tableOut (tgt := 79) hx hb dX11_count_1 (by rw [e_1]; omega) (by decide) ?_
    refine lv_iconst (v := oI (-1)) hx hb dX11_count_79 (by decide) ?_
    have hpost : True := trivial
    exact W.iret (v := (oI ((-1)))) hx hb hr (fun t ht hW => ⟨⟨(oI ((-1))), (), rfl, hpost, by rw [ht]; exact hP, va_K.moved hW.alike hK, hD⟩, hS.F ht⟩) hS.2.2 dX11_count_80

set_option maxHeartbeats 4000000 in
set_option maxRecDepth 100000 in
theorem lq_tokenEnd2 {p : Program} {l : Launch} {e : Env} {s : State} {m : MethodId} {args : Array Value} {below : List Frame} {meth : Method} {c : Code} {A : Nat → Prop} {dC : Nat → ClassId} {dI : Nat → Nat → Nat} {cB cC cI cJ cZ : ClassId} {a : Nat → Nat} {F : Nat → Int32} {X : Nat → Nat → Int32} {J : Nat → Nat → Int64} {R : Nat → Nat} {gf gn : Nat} (hx : p.tables.exec = Jvm.exec) (hb : c.code = cX7_tokenEnd) (hml : c.maxLocals = 5) (hown : s.vm.findClass RX7 = some m.cls) (hts : ∀ w ∈ vX7_tokenEnd, w.before args s = true) (hK : va_K (dC, dI) vwCl (TY cB cC cI cJ cZ) s) (hNW : NW s) (hA : ∀ q : Nat, s.heap.size ≤ q → A q) (hr : meth.sig.returnType = (some .int)) (hlocks : meth.locks = false) (x y : Int)  (ix : (-2147483648 ≤ x ∧ x < 2147483648)) (iy : (-2147483648 ≤ y ∧ y < 2147483648)) (hx2 : 0 ≤ x ∧ x ≤ 3001 ∧ 0 ≤ y ∧ y ≤ 3000)   : ∀ (k : Nat) (q : Int), (3001 - q).toNat < k → (-2147483648 ≤ q ∧ q < 2147483648) → (x ≤ q ∧ q ≤ 3001) → ∀ (H : Heap) (locs : List Loc), va_P (dC, dI) vwCl (CW cB cC cI cJ cZ a F X J R gf gn) H → va_D A (CW cB cC cI cJ cZ a F X J R gf gn) → va_S A s.heap H locs → ∀ (ls : Array Slot), lv_has ls 5 [(0, .ref (a 7)), (1, .ref (R 26)), (2, .int (oI x)), (3, .int (oI y)), (4, .int (oI q))] → W p l e (headSpec vX7_tokenEnd { frames := 2, cells := 0, slots := 0, locals := 80 }).room s m args below meth c H locs 0 0 (MQ below (va_Qi (fun (r : Int32) (_ : Unit) => x ≤ (r).toInt ∧ (r).toInt ≤ 3001) (fun _ => cPost dC dI cB cC cI cJ cZ a F X J R gf gn A) A) args s 0 0 A) (F0 m 3 ls []) := by
  have hcs : 0 + 0 ≤ (0 : Nat) ∧ 0 + 0 ≤ (0 : Nat) := ⟨Nat.le_refl 0, Nat.le_refl 0⟩
  intro k
  induction k with
  | zero =>
    intro q hk iq9 hq
    exact absurd hk (Nat.not_lt_zero _)
  | succ k ih =>
    intro q hk iq9 hq H locs hP hD hS ls hl
    refine lv_iload hx hb dX7_tokenEnd_3 (lv_at hl 4 rfl) ?_
    refine cz_lt (tgt := 37) hx hb (by omega) dX7_tokenEnd_5 (by decide) (fun c_1 => ?_) (fun c_1 => ?_)
    · refine lv_iload hx hb dX7_tokenEnd_37 (lv_at hl 4 rfl) ?_
      refine lv_iload_n hx hb dX7_tokenEnd_39 rfl (lv_at hl 2 rfl) ?_
      refine ci_ne (tgt := 54) hx hb (by omega) (by omega) dX7_tokenEnd_40 (by decide) (fun c_2 => ?_) (fun c_2 => ?_)
      · refine lv_iload hx hb dX7_tokenEnd_54 (lv_at hl 4 rfl) ?_
        have e0 : (oI q).toInt = q := toInt_oI (by omega)
        have hpost : x ≤ (oI q).toInt ∧ (oI q).toInt ≤ 3001 := by first | assumption | omega | (with_reducible rfl) | ((repeat' apply And.intro) <;> first | assumption | omega | (with_reducible rfl))
        exact W.iret (v := (oI q)) hx hb hr (fun t ht hW => ⟨⟨(oI q), (), rfl, hpost, by rw [ht]; exact hP, va_K.moved hW.alike hK, hD⟩, hS.F ht⟩) hS.2.2 dX7_tokenEnd_56
      · refine lv_iload_n hx hb dX7_tokenEnd_43 rfl (lv_at hl 2 rfl) ?_
        refine lv_iload_n hx hb dX7_tokenEnd_44 rfl (lv_at hl 3 rfl) ?_
        refine ci_ge (tgt := 54) hx hb (by omega) (by omega) dX7_tokenEnd_45 (by decide) (fun c_3 => ?_) (fun c_3 => ?_)
        · refine lv_iload hx hb dX7_tokenEnd_54 (lv_at hl 4 rfl) ?_
          have e0 : (oI q).toInt = q := toInt_oI (by omega)
          have hpost : x ≤ (oI q).toInt ∧ (oI q).toInt ≤ 3001 := by first | assumption | omega | (with_reducible rfl) | ((repeat' apply And.intro) <;> first | assumption | omega | (with_reducible rfl))
          exact W.iret (v := (oI q)) hx hb hr (fun t ht hW => ⟨⟨(oI q), (), rfl, hpost, by rw [ht]; exact hP, va_K.moved hW.alike hK, hD⟩, hS.F ht⟩) hS.2.2 dX7_tokenEnd_56
        · refine lv_iload_n hx hb dX7_tokenEnd_48 rfl (lv_at hl 2 rfl) ?_
          refine lv_iconst (v := oI 1) hx hb dX7_tokenEnd_49 (by decide) ?_
          refine lv_iadd hx hb dX7_tokenEnd_50 ?_
          refine tp_i (oI_add x 1) ?_
          refine lv_goto (tgt := 56) hx hb dX7_tokenEnd_51 (by decide) ?_
          have e0 : (oI (x + 1)).toInt = x + 1 := toInt_oI (by omega)
          have hpost : x ≤ (oI (x + 1)).toInt ∧ (oI (x + 1)).toInt ≤ 3001 := by first | assumption | omega | (with_reducible rfl) | ((repeat' apply And.intro) <;> first | assumption | omega | (with_reducible rfl))
          exact W.iret (v := (oI (x + 1))) hx hb hr (fun t ht hW => ⟨⟨(oI (x + 1)), (), rfl, hpost, by rw [ht]; exact hP, va_K.moved hW.alike hK, hD⟩, hS.F ht⟩) hS.2.2 dX7_tokenEnd_56
    · refine lv_iload hx hb dX7_tokenEnd_8 (lv_at hl 4 rfl) ?_
      refine lv_iload_n hx hb dX7_tokenEnd_10 rfl (lv_at hl 3 rfl) ?_
      refine ci_ge (tgt := 37) hx hb (by omega) (by omega) dX7_tokenEnd_11 (by decide) (fun c_4 => ?_) (fun c_4 => ?_)
      · refine lv_iload hx hb dX7_tokenEnd_37 (lv_at hl 4 rfl) ?_
        refine lv_iload_n hx hb dX7_tokenEnd_39 rfl (lv_at hl 2 rfl) ?_
        refine ci_ne (tgt := 54) hx hb (by omega) (by omega) dX7_tokenEnd_40 (by decide) (fun c_5 => ?_) (fun c_5 => ?_)
        · refine lv_iload hx hb dX7_tokenEnd_54 (lv_at hl 4 rfl) ?_
          have e0 : (oI q).toInt = q := toInt_oI (by omega)
          have hpost : x ≤ (oI q).toInt ∧ (oI q).toInt ≤ 3001 := by first | assumption | omega | (with_reducible rfl) | ((repeat' apply And.intro) <;> first | assumption | omega | (with_reducible rfl))
          exact W.iret (v := (oI q)) hx hb hr (fun t ht hW => ⟨⟨(oI q), (), rfl, hpost, by rw [ht]; exact hP, va_K.moved hW.alike hK, hD⟩, hS.F ht⟩) hS.2.2 dX7_tokenEnd_56
        · refine lv_iload_n hx hb dX7_tokenEnd_43 rfl (lv_at hl 2 rfl) ?_
          refine lv_iload_n hx hb dX7_tokenEnd_44 rfl (lv_at hl 3 rfl) ?_
          refine ci_ge (tgt := 54) hx hb (by omega) (by omega) dX7_tokenEnd_45 (by decide) (fun c_6 => ?_) (fun c_6 => ?_)
          · refine lv_iload hx hb dX7_tokenEnd_54 (lv_at hl 4 rfl) ?_
            have e0 : (oI q).toInt = q := toInt_oI (by omega)
            have hpost : x ≤ (oI q).toInt ∧ (oI q).toInt ≤ 3001 := by first | assumption | omega | (with_reducible rfl) | ((repeat' apply And.intro) <;> first | assumption | omega | (with_reducible rfl))
            exact W.iret (v := (oI q)) hx hb hr (fun t ht hW => ⟨⟨(oI q), (), rfl, hpost, by rw [ht]; exact hP, va_K.moved hW.alike hK, hD⟩, hS.F ht⟩) hS.2.2 dX7_tokenEnd_56
          · refine lv_iload_n hx hb dX7_tokenEnd_48 rfl (lv_at hl 2 rfl) ?_
            refine lv_iconst (v := oI 1) hx hb dX7_tokenEnd_49 (by decide) ?_
            refine lv_iadd hx hb dX7_tokenEnd_50 ?_
            refine tp_i (oI_add x 1) ?_
            refine lv_goto (tgt := 56) hx hb dX7_tokenEnd_51 (by decide) ?_
            have e0 : (oI (x + 1)).toInt = x + 1 := toInt_oI (by omega)
            have hpost : x ≤ (oI (x + 1)).toInt ∧ (oI (x + 1)).toInt ≤ 3001 := by first | assumption | omega | (with_reducible rfl) | ((repeat' apply And.intro) <;> first | assumption | omega | (with_reducible rfl))
            exact W.iret (v := (oI (x + 1))) hx hb hr (fun t ht hW => ⟨⟨(oI (x + 1)), (), rfl, hpost, by rw [ht]; exact hP, va_K.moved hW.alike hK, hD⟩, hS.F ht⟩) hS.2.2 dX7_tokenEnd_56
      · refine lv_iload hx hb dX7_tokenEnd_14 (lv_at hl 4 rfl) ?_
        refine lv_aload_n hx hb dX7_tokenEnd_16 rfl (lv_at hl 1 rfl) ?_
        refine cn_26 hx hb hK hP dX7_tokenEnd_17 ?_
        refine ci_ge (tgt := 37) hx hb (by omega) (by decide) dX7_tokenEnd_18 (by decide) (fun c_7 => ?_) (fun c_7 => ?_)
        · refine lv_iload hx hb dX7_tokenEnd_37 (lv_at hl 4 rfl) ?_
          refine lv_iload_n hx hb dX7_tokenEnd_39 rfl (lv_at hl 2 rfl) ?_
          refine ci_ne (tgt := 54) hx hb (by omega) (by omega) dX7_tokenEnd_40 (by decide) (fun c_8 => ?_) (fun c_8 => ?_)
          · refine lv_iload hx hb dX7_tokenEnd_54 (lv_at hl 4 rfl) ?_
            have e0 : (oI q).toInt = q := toInt_oI (by omega)
            have hpost : x ≤ (oI q).toInt ∧ (oI q).toInt ≤ 3001 := by first | assumption | omega | (with_reducible rfl) | ((repeat' apply And.intro) <;> first | assumption | omega | (with_reducible rfl))
            exact W.iret (v := (oI q)) hx hb hr (fun t ht hW => ⟨⟨(oI q), (), rfl, hpost, by rw [ht]; exact hP, va_K.moved hW.alike hK, hD⟩, hS.F ht⟩) hS.2.2 dX7_tokenEnd_56
          · refine lv_iload_n hx hb dX7_tokenEnd_43 rfl (lv_at hl 2 rfl) ?_
            refine lv_iload_n hx hb dX7_tokenEnd_44 rfl (lv_at hl 3 rfl) ?_
            refine ci_ge (tgt := 54) hx hb (by omega) (by omega) dX7_tokenEnd_45 (by decide) (fun c_9 => ?_) (fun c_9 => ?_)
            · refine lv_iload hx hb dX7_tokenEnd_54 (lv_at hl 4 rfl) ?_
              have e0 : (oI q).toInt = q := toInt_oI (by omega)
              have hpost : x ≤ (oI q).toInt ∧ (oI q).toInt ≤ 3001 := by first | assumption | omega | (with_reducible rfl) | ((repeat' apply And.intro) <;> first | assumption | omega | (with_reducible rfl))
              exact W.iret (v := (oI q)) hx hb hr (fun t ht hW => ⟨⟨(oI q), (), rfl, hpost, by rw [ht]; exact hP, va_K.moved hW.alike hK, hD⟩, hS.F ht⟩) hS.2.2 dX7_tokenEnd_56
            · refine lv_iload_n hx hb dX7_tokenEnd_48 rfl (lv_at hl 2 rfl) ?_
              refine lv_iconst (v := oI 1) hx hb dX7_tokenEnd_49 (by decide) ?_
              refine lv_iadd hx hb dX7_tokenEnd_50 ?_
              refine tp_i (oI_add x 1) ?_
              refine lv_goto (tgt := 56) hx hb dX7_tokenEnd_51 (by decide) ?_
              have e0 : (oI (x + 1)).toInt = x + 1 := toInt_oI (by omega)
              have hpost : x ≤ (oI (x + 1)).toInt ∧ (oI (x + 1)).toInt ≤ 3001 := by first | assumption | omega | (with_reducible rfl) | ((repeat' apply And.intro) <;> first | assumption | omega | (with_reducible rfl))
              exact W.iret (v := (oI (x + 1))) hx hb hr (fun t ht hW => ⟨⟨(oI (x + 1)), (), rfl, hpost, by rw [ht]; exact hP, va_K.moved hW.alike hK, hD⟩, hS.F ht⟩) hS.2.2 dX7_tokenEnd_56
        · refine lv_aload_n hx hb dX7_tokenEnd_21 rfl (lv_at hl 1 rfl) ?_
          refine lv_iload hx hb dX7_tokenEnd_22 (lv_at hl 4 rfl) ?_
          refine cl_26 hx hb hK hP (by omega) dX7_tokenEnd_24 (fun w_10 hw_10 => ?_)
          have i_11 := i32r w_10
          refine ccs_iS (As := [.int (oI w_10.toInt)]) (rest := []) ⟨hx, hb, hml, hown, hts⟩ (c_isBreak l dC dI cB cC cI cJ cZ a F X J R gf gn w_10.toInt  (i32r _)   H.size) (va_cwS 1 hts kX7_tokenEnd_X7_isBreak_91 rfl rfl rfl (by decide +kernel) ⟨Nat.le_of_ble_eq_true rfl, Nat.le_of_ble_eq_true rfl⟩) hK hNW hP hD hS hA rfl rfl hl.1 (lv_room (Nat.le_of_ble_eq_true rfl)) dX7_tokenEnd_25 hcs (fun r_12 hw_13 H locs hP hD hS => ?_)
          replace hw_13 : (r_12).toInt = 0 ∨ (r_12).toInt = 1 := hw_13
          have hz := hw_13
          clear hw_13
          have i_14 := i32r r_12
          refine cz_ne (tgt := 37) hx hb (i32r _) dX7_tokenEnd_28 (by decide) (fun c_15 => ?_) (fun c_15 => ?_)
          · refine lv_iload hx hb dX7_tokenEnd_37 (lv_at hl 4 rfl) ?_
            refine lv_iload_n hx hb dX7_tokenEnd_39 rfl (lv_at hl 2 rfl) ?_
            refine ci_ne (tgt := 54) hx hb (by omega) (by omega) dX7_tokenEnd_40 (by decide) (fun c_16 => ?_) (fun c_16 => ?_)
            · refine lv_iload hx hb dX7_tokenEnd_54 (lv_at hl 4 rfl) ?_
              have e0 : (oI q).toInt = q := toInt_oI (by omega)
              have hpost : x ≤ (oI q).toInt ∧ (oI q).toInt ≤ 3001 := by first | assumption | omega | (with_reducible rfl) | ((repeat' apply And.intro) <;> first | assumption | omega | (with_reducible rfl))
              exact W.iret (v := (oI q)) hx hb hr (fun t ht hW => ⟨⟨(oI q), (), rfl, hpost, by rw [ht]; exact hP, va_K.moved hW.alike hK, hD⟩, hS.F ht⟩) hS.2.2 dX7_tokenEnd_56
            · refine lv_iload_n hx hb dX7_tokenEnd_43 rfl (lv_at hl 2 rfl) ?_
              refine lv_iload_n hx hb dX7_tokenEnd_44 rfl (lv_at hl 3 rfl) ?_
              refine ci_ge (tgt := 54) hx hb (by omega) (by omega) dX7_tokenEnd_45 (by decide) (fun c_17 => ?_) (fun c_17 => ?_)
              · refine lv_iload hx hb dX7_tokenEnd_54 (lv_at hl 4 rfl) ?_
                have e0 : (oI q).toInt = q := toInt_oI (by omega)
                have hpost : x ≤ (oI q).toInt ∧ (oI q).toInt ≤ 3001 := by first | assumption | omega | (with_reducible rfl) | ((repeat' apply And.intro) <;> first | assumption | omega | (with_reducible rfl))
                exact W.iret (v := (oI q)) hx hb hr (fun t ht hW => ⟨⟨(oI q), (), rfl, hpost, by rw [ht]; exact hP, va_K.moved hW.alike hK, hD⟩, hS.F ht⟩) hS.2.2 dX7_tokenEnd_56
              · refine lv_iload_n hx hb dX7_tokenEnd_48 rfl (lv_at hl 2 rfl) ?_
                refine lv_iconst (v := oI 1) hx hb dX7_tokenEnd_49 (by decide) ?_
                refine lv_iadd hx hb dX7_tokenEnd_50 ?_
                refine tp_i (oI_add x 1) ?_
                refine lv_goto (tgt := 56) hx hb dX7_tokenEnd_51 (by decide) ?_
                have e0 : (oI (x + 1)).toInt = x + 1 := toInt_oI (by omega)
                have hpost : x ≤ (oI (x + 1)).toInt ∧ (oI (x + 1)).toInt ≤ 3001 := by first | assumption | omega | (with_reducible rfl) | ((repeat' apply And.intro) <;> first | assumption | omega | (with_reducible rfl))
                exact W.iret (v := (oI (x + 1))) hx hb hr (fun t ht hW => ⟨⟨(oI (x + 1)), (), rfl, hpost, by rw [ht]; exact hP, va_K.moved hW.alike hK, hD⟩, hS.F ht⟩) hS.2.2 dX7_tokenEnd_56
          · refine lv_iinc (v := oI (q + 1)) (lv' := [(4, .int (oI (q + 1))), (0, .ref (a 7)), (1, .ref (R 26)), (2, .int (oI x)), (3, .int (oI y))]) hx hb dX7_tokenEnd_31 hl (k := 4) rfl (oI_add q 1) (by decide) rfl (fun ls hl => ?_)
            refine lv_goto (tgt := 3) hx hb dX7_tokenEnd_34 (by decide) ?_
            exact ih (q + 1) (show (3001 - (q + 1)).toNat < k from by omega) (by omega) (show x ≤ (q + 1) ∧ (q + 1) ≤ 3001 from by first | assumption | omega | (with_reducible rfl) | ((repeat' apply And.intro) <;> first | assumption | omega | (with_reducible rfl))) _ _ hP hD hS ls (lv_sub hl [1, 2, 3, 4, 0] rfl)

set_option maxHeartbeats 4000000 in
set_option maxRecDepth 100000 in
/-- X7_tokenEnd -/
theorem c_tokenEnd2 (l : Launch) (dC : Nat → ClassId) (dI : Nat → Nat → Nat) (cB cC cI cJ cZ : ClassId) (a : Nat → Nat) (F : Nat → Int32) (X : Nat → Nat → Int32) (J : Nat → Nat → Int64) (R : Nat → Nat) (gf gn : Nat) (x y : Int)  (ix : (-2147483648 ≤ x ∧ x < 2147483648)) (iy : (-2147483648 ≤ y ∧ y < 2147483648)) (hx2 : 0 ≤ x ∧ x ≤ 3001 ∧ 0 ≤ y ∧ y ≤ 3000) (s0 : Nat) : Met l yX7_tokenEnd vX7_tokenEnd { frames := 2, cells := 0, slots := 0, locals := 80 } (va_Pc [.ref (a 7), .ref (R 26), .int (oI x), .int (oI y)] (cPre dC dI cB cC cI cJ cZ a F X J R gf gn s0)) (va_Qi (fun (r : Int32) (_ : Unit) => x ≤ (r).toInt ∧ (r).toInt ≤ 3001) (fun _ => cPost dC dI cB cC cI cJ cZ a F X J R gf gn (va_A (CW cB cC cI cJ cZ a F X J R gf gn) s0)) (va_A (CW cB cC cI cJ cZ a F X J R gf gn) s0)) 0 0 (va_A (CW cB cC cI cJ cZ a F X J R gf gn) s0) := by
  refine Met.ofW (cc := cX7_tokenEnd) (maxL := 5) (ret := (some .int)) (by decide) rfl ?_
  intro p e s m args below meth c s₁ B9 hml hv
  obtain ⟨rfl, hsz0, hP, hK, hD0, hNW⟩ := hv
  have hx := B9.exec
  have hb := B9.bytes
  have hr := B9.returns
  have hts := atoms_spec (ws := vX7_tokenEnd) B9.pre
  have hown : s.vm.findClass RX7 = some m.cls := findClass_of_methodNamed B9.named
  have hlocks := B9.notSynchronized
  clear B9
  subst hsz0
  have hD := hD0.self (sz := s.heap.size)
  generalize hAe : va_A (CW cB cC cI cJ cZ a F X J R gf gn) s.heap.size = A at hD ⊢
  have hA : ∀ q : Nat, s.heap.size ≤ q → A q := fun q h => by rw [← hAe]; exact Or.inr h
  have hS : va_S A s.heap s.heap [] := va_S.rf
  have hcs : 0 + 0 ≤ (0 : Nat) ∧ 0 + 0 ≤ (0 : Nat) := ⟨Nat.le_refl 0, Nat.le_refl 0⟩
  have hl := lv_entry ([.ref (a 7), .ref (R 26), .int (oI x), .int (oI y)]) (n := 5) (Nat.le_of_ble_eq_true rfl)
  rw [lg_entry_eq]
  generalize (lg_sl ([.ref (a 7), .ref (R 26), .int (oI x), .int (oI y)]) ++ List.replicate (5 - (lg_sl ([.ref (a 7), .ref (R 26), .int (oI x), .int (oI y)])).length) Slot.unset).toArray = ls at hl ⊢
  have hl : lv_has ls 5 [(0, .ref (a 7)), (1, .ref (R 26)), (2, .int (oI x)), (3, .int (oI y))] := hl
  refine lv_iload_n hx hb dX7_tokenEnd_0 rfl (lv_at hl 2 rfl) ?_
  refine lv_istore (lv' := [(4, .int (oI x)), (0, .ref (a 7)), (1, .ref (R 26)), (2, .int (oI x)), (3, .int (oI y))]) hx hb dX7_tokenEnd_1 hl (by decide) rfl (fun ls hl => ?_)
  exact lq_tokenEnd2 hx hb hml hown hts hK hNW hA hr hlocks x y ix iy (by assumption)  _ x (Nat.lt_succ_self _) (by omega) (show x ≤ x ∧ x ≤ 3001 from by first | assumption | omega | (with_reducible rfl) | ((repeat' apply And.intro) <;> first | assumption | omega | (with_reducible rfl))) _ _ hP hD hS ls (lv_sub hl [1, 2, 3, 4, 0] rfl)

set_option maxHeartbeats 4000000 in
set_option maxRecDepth 100000 in
/-- X11_means -/
theorem c_meansX (l : Launch) (dC : Nat → ClassId) (dI : Nat → Nat → Nat) (cB cC cI cJ cZ : ClassId) (a : Nat → Nat) (F : Nat → Int32) (X : Nat → Nat → Int32) (J : Nat → Nat → Int64) (R : Nat → Nat) (gf gn : Nat)  (hty : 0 ≤ (F 27).toInt ∧ (F 27).toInt ≤ 3000) (hsy : 0 ≤ (F 15).toInt ∧ (F 15).toInt ≤ 2560) (hru : VB (X 12)) (s0 : Nat) : Met l yX11_means vX11_means { frames := 4, cells := 0, slots := 0, locals := 131 } (va_Pc [.ref (a 11)] (cPre dC dI cB cC cI cJ cZ a F X J R gf gn s0)) (va_Qi (fun (r : Int32) (u : (Nat → Int32) × (Nat → Nat → Int32)) => match u with | (F1, X1) => (F1 27).toInt = 0) (fun u => cPost dC dI cB cC cI cJ cZ a (rg 27 27 F u.1) X J R gf gn (va_A (CW cB cC cI cJ cZ a F X J R gf gn) s0)) (va_A (CW cB cC cI cJ cZ a F X J R gf gn) s0)) 0 0 (va_A (CW cB cC cI cJ cZ a F X J R gf gn) s0) := by
  refine Met.ofW (cc := cX11_means) (maxL := 5) (ret := (some .int)) (by decide) rfl ?_
  intro p e s m args below meth c s₁ B9 hml hv
  obtain ⟨rfl, hsz0, hP, hK, hD0, hNW⟩ := hv
  have hx := B9.exec
  have hb := B9.bytes
  have hr := B9.returns
  have hts := atoms_spec (ws := vX11_means) B9.pre
  have hown : s.vm.findClass RX11 = some m.cls := findClass_of_methodNamed B9.named
  have hlocks := B9.notSynchronized
  clear B9
  subst hsz0
  have hD := hD0.self (sz := s.heap.size)
  generalize hAe : va_A (CW cB cC cI cJ cZ a F X J R gf gn) s.heap.size = A at hD ⊢
  have hA : ∀ q : Nat, s.heap.size ≤ q → A q := fun q h => by rw [← hAe]; exact Or.inr h
  have hS : va_S A s.heap s.heap [] := va_S.rf
  have hcs : 0 + 0 ≤ (0 : Nat) ∧ 0 + 0 ≤ (0 : Nat) := ⟨Nat.le_refl 0, Nat.le_refl 0⟩
  have hl := lv_entry ([.ref (a 11)]) (n := 5) (Nat.le_of_ble_eq_true rfl)
  rw [lg_entry_eq]
  generalize (lg_sl ([.ref (a 11)]) ++ List.replicate (5 - (lg_sl ([.ref (a 11)])).length) Slot.unset).toArray = ls at hl ⊢
  have hl : lv_has ls 5 [(0, .ref (a 11))] := hl
  refine lv_aload_n hx hb dX11_means_0 rfl (lv_at hl 0 rfl) ?_
  refine cg_11_4 hx hb hts inX11_means_X11 hown hK hP (hts _ lkX11_means_f39) dX11_means_1 ?_
  refine lv_aload_n hx hb dX11_means_4 rfl (lv_at hl 0 rfl) ?_
  refine cg_11_0 hx hb hts inX11_means_X11 hown hK hP (hts _ lkX11_means_f9) dX11_means_5 ?_
  refine lv_iconst (v := oI 0) hx hb dX11_means_8 (by decide) ?_
  refine lv_aload_n hx hb dX11_means_9 rfl (lv_at hl 0 rfl) ?_
  refine cg_11_6 hx hb hts inX11_means_X11 hown hK hP (hts _ lkX11_means_f52) dX11_means_10 ?_
  have i_1 := i32r (F 27)
  refine ccs_iV (As := [.ref (R 26), .int (oI 0), .int (oI ((F 27).toInt))]) (rest := []) ⟨hx, hb, hml, hown, hts⟩ (c_tokenFrom l dC dI cB cC cI cJ cZ a F X J R gf gn 0 ((F 27).toInt)  (by decide) (i32r _)  (show 0 ≤ 0 ∧ 0 ≤ 3001 ∧ 0 ≤ ((F 27).toInt) ∧ ((F 27).toInt) ≤ 3001 from by first | assumption | omega) s.heap.size) (cwV 3 hts kX11_means_X7_tokenFrom_106 rfl rfl rfl (by decide +kernel) ⟨Nat.le_of_ble_eq_true rfl, Nat.le_of_ble_eq_true rfl⟩) (va_recv hK hP (ci := 7) (q0 := 7) rfl rfl) hK hNW hP hD hS hA rfl rfl hl.1 (lv_room (Nat.le_of_ble_eq_true rfl)) dX11_means_13 hcs (fun r_2 hw_3 H locs hP hD hS => ?_)
  replace hw_3 : 0 ≤ (r_2).toInt ∧ (r_2).toInt ≤ 3001 := hw_3
  obtain ⟨lf1, uf1⟩ := hw_3
  have i_4 := i32r r_2
  refine lv_istore_n (lv' := [(1, .int (oI r_2.toInt)), (0, .ref (a 11))]) hx hb dX11_means_16 rfl hl (by decide) rfl (fun ls hl => ?_)
  refine lv_aload_n hx hb dX11_means_17 rfl (lv_at hl 1 rfl) ?_
  refine cg_11_4 hx hb hts inX11_means_X11 hown hK hP (hts _ lkX11_means_f39) dX11_means_18 ?_
  refine lv_aload_n hx hb dX11_means_21 rfl (lv_at hl 1 rfl) ?_
  refine cg_11_0 hx hb hts inX11_means_X11 hown hK hP (hts _ lkX11_means_f9) dX11_means_22 ?_
  refine lv_iload_n hx hb dX11_means_25 rfl (lv_at hl 0 rfl) ?_
  refine lv_aload_n hx hb dX11_means_26 rfl (lv_at hl 1 rfl) ?_
  refine cg_11_6 hx hb hts inX11_means_X11 hown hK hP (hts _ lkX11_means_f52) dX11_means_27 ?_
  refine ccs_iV (As := [.ref (R 26), .int (oI r_2.toInt), .int (oI ((F 27).toInt))]) (rest := []) ⟨hx, hb, hml, hown, hts⟩ (c_tokenEnd2 l dC dI cB cC cI cJ cZ a F X J R gf gn r_2.toInt ((F 27).toInt)  (i32r _) (i32r _)  (show 0 ≤ r_2.toInt ∧ r_2.toInt ≤ 3001 ∧ 0 ≤ ((F 27).toInt) ∧ ((F 27).toInt) ≤ 3000 from by first | assumption | omega) H.size) (cwV 3 hts kX11_means_X7_tokenEnd_110 rfl rfl rfl (by decide +kernel) ⟨Nat.le_of_ble_eq_true rfl, Nat.le_of_ble_eq_true rfl⟩) (va_recv hK hP (ci := 7) (q0 := 7) rfl rfl) hK hNW hP hD hS hA rfl rfl hl.1 (lv_room (Nat.le_of_ble_eq_true rfl)) dX11_means_30 hcs (fun r_5 hw_6 H locs hP hD hS => ?_)
  replace hw_6 : r_2.toInt ≤ (r_5).toInt ∧ (r_5).toInt ≤ 3001 := hw_6
  obtain ⟨lf1, uf1⟩ := hw_6
  have i_7 := i32r r_5
  refine lv_istore_n (lv' := [(2, .int (oI r_5.toInt)), (1, .int (oI r_2.toInt)), (0, .ref (a 11))]) hx hb dX11_means_33 rfl hl (by decide) rfl (fun ls hl => ?_)
  refine lv_aload_n hx hb dX11_means_34 rfl (lv_at hl 2 rfl) ?_
  refine cg_11_4 hx hb hts inX11_means_X11 hown hK hP (hts _ lkX11_means_f39) dX11_means_35 ?_
  refine lv_aload_n hx hb dX11_means_38 rfl (lv_at hl 2 rfl) ?_
  refine cg_11_0 hx hb hts inX11_means_X11 hown hK hP (hts _ lkX11_means_f9) dX11_means_39 ?_
  refine lv_iload_n hx hb dX11_means_42 rfl (lv_at hl 0 rfl) ?_
  refine lv_aload_n hx hb dX11_means_43 rfl (lv_at hl 2 rfl) ?_
  refine cg_11_6 hx hb hts inX11_means_X11 hown hK hP (hts _ lkX11_means_f52) dX11_means_44 ?_
  refine ccs_iV (As := [.ref (R 26), .int (oI r_5.toInt), .int (oI ((F 27).toInt))]) (rest := []) ⟨hx, hb, hml, hown, hts⟩ (c_tokenFrom l dC dI cB cC cI cJ cZ a F X J R gf gn r_5.toInt ((F 27).toInt)  (i32r _) (i32r _)  (show 0 ≤ r_5.toInt ∧ r_5.toInt ≤ 3001 ∧ 0 ≤ ((F 27).toInt) ∧ ((F 27).toInt) ≤ 3001 from by first | assumption | omega) H.size) (cwV 3 hts kX11_means_X7_tokenFrom_106 rfl rfl rfl (by decide +kernel) ⟨Nat.le_of_ble_eq_true rfl, Nat.le_of_ble_eq_true rfl⟩) (va_recv hK hP (ci := 7) (q0 := 7) rfl rfl) hK hNW hP hD hS hA rfl rfl hl.1 (lv_room (Nat.le_of_ble_eq_true rfl)) dX11_means_47 hcs (fun r_8 hw_9 H locs hP hD hS => ?_)
  replace hw_9 : r_5.toInt ≤ (r_8).toInt ∧ (r_8).toInt ≤ 3001 := hw_9
  obtain ⟨lf1, uf1⟩ := hw_9
  have i_10 := i32r r_8
  refine lv_aload_n hx hb dX11_means_50 rfl (lv_at hl 2 rfl) ?_
  refine cg_11_6 hx hb hts inX11_means_X11 hown hK hP (hts _ lkX11_means_f52) dX11_means_51 ?_
  refine ci_ne (tgt := 61) hx hb (i32r _) (i32r _) dX11_means_54 (by decide) (fun c_11 => ?_) (fun c_11 => ?_)
  · refine lv_iconst (v := oI 0) hx hb dX11_means_61 (by decide) ?_
    refine lv_istore_n (lv' := [(3, .int (oI 0)), (2, .int (oI r_5.toInt)), (1, .int (oI r_2.toInt)), (0, .ref (a 11))]) hx hb dX11_means_62 rfl hl (by decide) rfl (fun ls hl => ?_)
    refine lv_aload_n hx hb dX11_means_63 rfl (lv_at hl 3 rfl) ?_
    refine lv_iconst (v := oI 0) hx hb dX11_means_64 (by decide) ?_
    refine cp_11_6 hx hb hts inX11_means_X11 hown hK hP hD hS (hts _ lkX11_means_f52) dX11_means_65 (fun H locs hP hD hS => ?_)
    have hP : va_P (dC, dI) vwCl (CW cB cC cI cJ cZ a (va_up F 27 (oI 0)) X J R gf gn) H := hP
    have hD : va_D A (CW cB cC cI cJ cZ a (va_up F 27 (oI 0)) X J R gf gn) := hD
    have e_12 : (oI 0).toInt = 0 := by decide
    refine lv_iload_n hx hb dX11_means_68 rfl (lv_at hl 0 rfl) ?_
    refine cz_eq (tgt := 88) hx hb (by decide) dX11_means_69 (by decide) (fun _ => ?_) (fun q9 => absurd q9 (by omega))
    refine lv_iconst (v := oI (-1)) hx hb dX11_means_88 (by decide) ?_
    have e0 : (oI ((-1))).toInt = (-1) := by decide
    have eF9 : rg 27 27 F (va_up F 27 (oI 0)) = va_up F 27 (oI 0) := ag_end (show AGo F (va_up F 27 (oI 0)) (fun k => (27 ≤ k ∧ k ≤ 27)) from ag_up (ag_rf) (show (27 ≤ 27 ∧ 27 ≤ 27) from by omega))
    have hP9 : va_P (dC, dI) vwCl (CW cB cC cI cJ cZ a (rg 27 27 F (va_up F 27 (oI 0))) X J R gf gn) H := by rw [eF9]; exact hP
    have hD9 : va_D A (CW cB cC cI cJ cZ a (rg 27 27 F (va_up F 27 (oI 0))) X J R gf gn) := by rw [eF9]; exact hD
    have hpost : (oI 0).toInt = 0 := by first | assumption | omega | (with_reducible rfl) | ((repeat' apply And.intro) <;> first | assumption | omega | (with_reducible rfl))
    exact W.iret (v := (oI ((-1)))) hx hb hr (fun t ht hW => ⟨⟨(oI ((-1))), (va_up F 27 (oI 0), X), rfl, hpost, by rw [ht]; exact hP9, va_K.moved hW.alike hK, hD9⟩, hS.F ht⟩) hS.2.2 dX11_means_89
  · refine lv_iconst (v := oI 1) hx hb dX11_means_57 (by decide) ?_
    refine lv_goto (tgt := 62) hx hb dX11_means_58 (by decide) ?_
    refine lv_istore_n (lv' := [(3, .int (oI 1)), (2, .int (oI r_5.toInt)), (1, .int (oI r_2.toInt)), (0, .ref (a 11))]) hx hb dX11_means_62 rfl hl (by decide) rfl (fun ls hl => ?_)
    refine lv_aload_n hx hb dX11_means_63 rfl (lv_at hl 3 rfl) ?_
    refine lv_iconst (v := oI 0) hx hb dX11_means_64 (by decide) ?_
    refine cp_11_6 hx hb hts inX11_means_X11 hown hK hP hD hS (hts _ lkX11_means_f52) dX11_means_65 (fun H locs hP hD hS => ?_)
    have hP : va_P (dC, dI) vwCl (CW cB cC cI cJ cZ a (va_up F 27 (oI 0)) X J R gf gn) H := hP
    have hD : va_D A (CW cB cC cI cJ cZ a (va_up F 27 (oI 0)) X J R gf gn) := hD
    have e_13 : (oI 0).toInt = 0 := by decide
    refine lv_iload_n hx hb dX11_means_68 rfl (lv_at hl 0 rfl) ?_
    refine cz_eq (tgt := 88) hx hb (by decide) dX11_means_69 (by decide) (fun q9 => absurd q9 (by omega)) (fun _ => ?_)
    refine lv_aload_n hx hb dX11_means_72 rfl (lv_at hl 3 rfl) ?_
    refine cg_11_4 hx hb hts inX11_means_X11 hown hK hP (hts _ lkX11_means_f39) dX11_means_73 ?_
    refine lv_aload_n hx hb dX11_means_76 rfl (lv_at hl 3 rfl) ?_
    refine cg_11_0 hx hb hts inX11_means_X11 hown hK hP (hts _ lkX11_means_f9) dX11_means_77 ?_
    refine lv_iload_n hx hb dX11_means_80 rfl (lv_at hl 2 rfl) ?_
    refine lv_iload_n hx hb dX11_means_81 rfl (lv_at hl 1 rfl) ?_
    refine ccs_iV (As := [.ref (R 26), .int (oI r_2.toInt), .int (oI r_5.toInt)]) (rest := []) ⟨hx, hb, hml, hown, hts⟩ (c_isSymbol l dC dI cB cC cI cJ cZ a (va_up F 27 (oI 0)) X J R gf gn r_2.toInt r_5.toInt  (i32r _) (i32r _) (show 0 ≤ (F 15).toInt ∧ (F 15).toInt ≤ 2560 from by first | assumption | omega) (show 0 ≤ r_2.toInt ∧ r_2.toInt ≤ 3001 ∧ 0 ≤ r_5.toInt ∧ r_5.toInt ≤ 3001 from by first | assumption | omega) H.size) (cwV 3 hts kX11_means_X7_isSymbol_113 rfl rfl rfl (by decide +kernel) ⟨Nat.le_of_ble_eq_true rfl, Nat.le_of_ble_eq_true rfl⟩) (va_recv hK hP (ci := 7) (q0 := 7) rfl rfl) hK hNW hP hD hS hA rfl rfl hl.1 (lv_room (Nat.le_of_ble_eq_true rfl)) dX11_means_82 hcs (fun r_14 hw_15 H locs hP hD hS => ?_)
    replace hw_15 : (r_14).toInt = 0 ∨ (r_14).toInt = 1 := hw_15
    have hz := hw_15
    clear hw_15
    have i_16 := i32r r_14
    refine cz_ne (tgt := 90) hx hb (i32r _) dX11_means_85 (by decide) (fun c_17 => ?_) (fun c_17 => ?_)
    · refine lv_aload_n hx hb dX11_means_90 rfl (lv_at hl 3 rfl) ?_
      refine cg_11_4 hx hb hts inX11_means_X11 hown hK hP (hts _ lkX11_means_f39) dX11_means_91 ?_
      refine lv_aload_n hx hb dX11_means_94 rfl (lv_at hl 3 rfl) ?_
      refine cg_11_0 hx hb hts inX11_means_X11 hown hK hP (hts _ lkX11_means_f9) dX11_means_95 ?_
      refine lv_iload_n hx hb dX11_means_98 rfl (lv_at hl 2 rfl) ?_
      refine lv_iload_n hx hb dX11_means_99 rfl (lv_at hl 1 rfl) ?_
      refine ccs_iV (As := [.ref (R 26), .int (oI r_2.toInt), .int (oI r_5.toInt)]) (rest := []) ⟨hx, hb, hml, hown, hts⟩ (c_symbolOf l dC dI cB cC cI cJ cZ a (va_up F 27 (oI 0)) X J R gf gn r_2.toInt r_5.toInt  (i32r _) (i32r _) (show 0 ≤ (F 15).toInt ∧ (F 15).toInt ≤ 2560 from by first | assumption | omega) (show 0 ≤ r_2.toInt ∧ r_2.toInt ≤ 3001 ∧ 0 ≤ r_5.toInt ∧ r_5.toInt ≤ 3001 from by first | assumption | omega) H.size) (cwV 3 hts kX11_means_X7_symbolOf_117 rfl rfl rfl (by decide +kernel) ⟨Nat.le_of_ble_eq_true rfl, Nat.le_of_ble_eq_true rfl⟩) (va_recv hK hP (ci := 7) (q0 := 7) rfl rfl) hK hNW hP hD hS hA rfl rfl hl.1 (lv_room (Nat.le_of_ble_eq_true rfl)) dX11_means_100 hcs (fun r_18 hw_19 H locs hP hD hS => ?_)
      have i_20 := i32r r_18
      refine lv_istore (lv' := [(4, .int (oI r_18.toInt)), (3, .int (oI 1)), (2, .int (oI r_5.toInt)), (1, .int (oI r_2.toInt)), (0, .ref (a 11))]) hx hb dX11_means_103 hl (by decide) rfl (fun ls hl => ?_)
      refine lv_iload hx hb dX11_means_105 (lv_at hl 0 rfl) ?_
      refine lv_iconst (v := oI (-1)) hx hb dX11_means_107 (by decide) ?_
      refine ci_ne (tgt := 113) hx hb (i32r _) (by decide) dX11_means_108 (by decide) (fun c_21 => ?_) (fun c_21 => ?_)
      · refine lv_iload hx hb dX11_means_113 (lv_at hl 0 rfl) ?_
        refine lv_bipush (v := oI 6) hx hb dX11_means_115 (by decide) ?_
        refine ci_gt (tgt := 122) hx hb (i32r _) (by decide) dX11_means_117 (by decide) (fun c_22 => ?_) (fun c_22 => ?_)
        · refine lv_aload_n hx hb dX11_means_122 rfl (lv_at hl 4 rfl) ?_
          refine cg_11_1 hx hb hts inX11_means_X11 hown hK hP (hts _ lkX11_means_f16) dX11_means_123 ?_
          refine lv_iload hx hb dX11_means_126 (lv_at hl 0 rfl) ?_
          refine ccs_iV (As := [.int (oI r_18.toInt)]) (rest := []) ⟨hx, hb, hml, hown, hts⟩ (c_rulesOfN l dC dI cB cC cI cJ cZ a (va_up F 27 (oI 0)) X J R gf gn r_18.toInt  (i32r _) (show 0 ≤ (F 15).toInt ∧ (F 15).toInt ≤ 2560 from by first | assumption | omega) (show VB (X 12) from by first | assumption | omega)  H.size) (cwV 1 hts kX11_means_X6_rulesOf_120 rfl rfl rfl (by decide +kernel) ⟨Nat.le_of_ble_eq_true rfl, Nat.le_of_ble_eq_true rfl⟩) (va_recv hK hP (ci := 6) (q0 := 6) rfl rfl) hK hNW hP hD hS hA rfl rfl hl.1 (lv_room (Nat.le_of_ble_eq_true rfl)) dX11_means_128 hcs (fun r_23 hw_24 H locs hP hD hS => ?_)
          replace hw_24 : (r_23).toInt < 1073741824 := hw_24
          have hrl := hw_24
          clear hw_24
          have i_25 := i32r r_23
          refine lv_iconst (v := oI (-1)) hx hb dX11_means_131 (by decide) ?_
          refine ci_ne (tgt := 139) hx hb (i32r _) (by decide) dX11_means_132 (by decide) (fun c_26 => ?_) (fun c_26 => ?_)
          · refine lv_iconst (v := oI 2) hx hb dX11_means_139 (by decide) ?_
            have e0 : (oI 2).toInt = 2 := by decide
            have eF9 : rg 27 27 F (va_up F 27 (oI 0)) = va_up F 27 (oI 0) := ag_end (show AGo F (va_up F 27 (oI 0)) (fun k => (27 ≤ k ∧ k ≤ 27)) from ag_up (ag_rf) (show (27 ≤ 27 ∧ 27 ≤ 27) from by omega))
            have hP9 : va_P (dC, dI) vwCl (CW cB cC cI cJ cZ a (rg 27 27 F (va_up F 27 (oI 0))) X J R gf gn) H := by rw [eF9]; exact hP
            have hD9 : va_D A (CW cB cC cI cJ cZ a (rg 27 27 F (va_up F 27 (oI 0))) X J R gf gn) := by rw [eF9]; exact hD
            have hpost : (oI 0).toInt = 0 := by first | assumption | omega | (with_reducible rfl) | ((repeat' apply And.intro) <;> first | assumption | omega | (with_reducible rfl))
            exact W.iret (v := (oI 2)) hx hb hr (fun t ht hW => ⟨⟨(oI 2), (va_up F 27 (oI 0), X), rfl, hpost, by rw [ht]; exact hP9, va_K.moved hW.alike hK, hD9⟩, hS.F ht⟩) hS.2.2 dX11_means_140
          · refine lv_iconst (v := oI 0) hx hb dX11_means_135 (by decide) ?_
            refine lv_goto (tgt := 140) hx hb dX11_means_136 (by decide) ?_
            have e0 : (oI 0).toInt = 0 := by decide
            have eF9 : rg 27 27 F (va_up F 27 (oI 0)) = va_up F 27 (oI 0) := ag_end (show AGo F (va_up F 27 (oI 0)) (fun k => (27 ≤ k ∧ k ≤ 27)) from ag_up (ag_rf) (show (27 ≤ 27 ∧ 27 ≤ 27) from by omega))
            have hP9 : va_P (dC, dI) vwCl (CW cB cC cI cJ cZ a (rg 27 27 F (va_up F 27 (oI 0))) X J R gf gn) H := by rw [eF9]; exact hP
            have hD9 : va_D A (CW cB cC cI cJ cZ a (rg 27 27 F (va_up F 27 (oI 0))) X J R gf gn) := by rw [eF9]; exact hD
            have hpost : (oI 0).toInt = 0 := by first | assumption | omega | (with_reducible rfl) | ((repeat' apply And.intro) <;> first | assumption | omega | (with_reducible rfl))
            exact W.iret (v := (oI 0)) hx hb hr (fun t ht hW => ⟨⟨(oI 0), (va_up F 27 (oI 0), X), rfl, hpost, by rw [ht]; exact hP9, va_K.moved hW.alike hK, hD9⟩, hS.F ht⟩) hS.2.2 dX11_means_140
        · refine lv_iconst (v := oI 1) hx hb dX11_means_120 (by decide) ?_
          have e0 : (oI 1).toInt = 1 := by decide
          have eF9 : rg 27 27 F (va_up F 27 (oI 0)) = va_up F 27 (oI 0) := ag_end (show AGo F (va_up F 27 (oI 0)) (fun k => (27 ≤ k ∧ k ≤ 27)) from ag_up (ag_rf) (show (27 ≤ 27 ∧ 27 ≤ 27) from by omega))
          have hP9 : va_P (dC, dI) vwCl (CW cB cC cI cJ cZ a (rg 27 27 F (va_up F 27 (oI 0))) X J R gf gn) H := by rw [eF9]; exact hP
          have hD9 : va_D A (CW cB cC cI cJ cZ a (rg 27 27 F (va_up F 27 (oI 0))) X J R gf gn) := by rw [eF9]; exact hD
          have hpost : (oI 0).toInt = 0 := by first | assumption | omega | (with_reducible rfl) | ((repeat' apply And.intro) <;> first | assumption | omega | (with_reducible rfl))
          exact W.iret (v := (oI 1)) hx hb hr (fun t ht hW => ⟨⟨(oI 1), (va_up F 27 (oI 0), X), rfl, hpost, by rw [ht]; exact hP9, va_K.moved hW.alike hK, hD9⟩, hS.F ht⟩) hS.2.2 dX11_means_121
      · refine lv_iconst (v := oI 0) hx hb dX11_means_111 (by decide) ?_
        have e0 : (oI 0).toInt = 0 := by decide
        have eF9 : rg 27 27 F (va_up F 27 (oI 0)) = va_up F 27 (oI 0) := ag_end (show AGo F (va_up F 27 (oI 0)) (fun k => (27 ≤ k ∧ k ≤ 27)) from ag_up (ag_rf) (show (27 ≤ 27 ∧ 27 ≤ 27) from by omega))
        have hP9 : va_P (dC, dI) vwCl (CW cB cC cI cJ cZ a (rg 27 27 F (va_up F 27 (oI 0))) X J R gf gn) H := by rw [eF9]; exact hP
        have hD9 : va_D A (CW cB cC cI cJ cZ a (rg 27 27 F (va_up F 27 (oI 0))) X J R gf gn) := by rw [eF9]; exact hD
        have hpost : (oI 0).toInt = 0 := by first | assumption | omega | (with_reducible rfl) | ((repeat' apply And.intro) <;> first | assumption | omega | (with_reducible rfl))
        exact W.iret (v := (oI 0)) hx hb hr (fun t ht hW => ⟨⟨(oI 0), (va_up F 27 (oI 0), X), rfl, hpost, by rw [ht]; exact hP9, va_K.moved hW.alike hK, hD9⟩, hS.F ht⟩) hS.2.2 dX11_means_112
    · refine lv_iconst (v := oI (-1)) hx hb dX11_means_88 (by decide) ?_
      have e0 : (oI ((-1))).toInt = (-1) := by decide
      have eF9 : rg 27 27 F (va_up F 27 (oI 0)) = va_up F 27 (oI 0) := ag_end (show AGo F (va_up F 27 (oI 0)) (fun k => (27 ≤ k ∧ k ≤ 27)) from ag_up (ag_rf) (show (27 ≤ 27 ∧ 27 ≤ 27) from by omega))
      have hP9 : va_P (dC, dI) vwCl (CW cB cC cI cJ cZ a (rg 27 27 F (va_up F 27 (oI 0))) X J R gf gn) H := by rw [eF9]; exact hP
      have hD9 : va_D A (CW cB cC cI cJ cZ a (rg 27 27 F (va_up F 27 (oI 0))) X J R gf gn) := by rw [eF9]; exact hD
      have hpost : (oI 0).toInt = 0 := by first | assumption | omega | (with_reducible rfl) | ((repeat' apply And.intro) <;> first | assumption | omega | (with_reducible rfl))
      exact W.iret (v := (oI ((-1)))) hx hb hr (fun t ht hW => ⟨⟨(oI ((-1))), (va_up F 27 (oI 0), X), rfl, hpost, by rw [ht]; exact hP9, va_K.moved hW.alike hK, hD9⟩, hS.F ht⟩) hS.2.2 dX11_means_89

set_option maxHeartbeats 4000000 in
set_option maxRecDepth 100000 in
/-- X11_takeText -/
theorem c_takeText (l : Launch) (dC : Nat → ClassId) (dI : Nat → Nat → Nat) (cB cC cI cJ cZ : ClassId) (a : Nat → Nat) (F : Nat → Int32) (X : Nat → Nat → Int32) (J : Nat → Nat → Int64) (R : Nat → Nat) (gf gn : Nat) (x : Int)  (ix : (-2147483648 ≤ x ∧ x < 2147483648)) (hsy : 0 ≤ (F 15).toInt ∧ (F 15).toInt ≤ 2560) (hsb : 0 ≤ (F 16).toInt ∧ (F 16).toInt ≤ 2560) (s0 : Nat) : Met l yX11_takeText vX11_takeText { frames := 2, cells := 0, slots := 0, locals := 81 } (va_Pc [.ref (a 11), .int (oI x)] (cPre dC dI cB cC cI cJ cZ a F X J R gf gn s0)) (va_Qv (fun (u : (Nat → Int32) × (Nat → Nat → Int32) × (Nat → Nat → Int64) × (Nat → Nat) × Nat × Nat) => match u with | (F1, X1, J1, R1, gf1, gn1) => (∀ k9, (k9 < 24 ∨ k9 = 25 ∨ k9 = 27) → k9 ≠ 15 → F1 k9 = F k9) ∧ (∀ k9, (k9 < 24 ∨ k9 = 26) → X1 k9 = X k9) ∧ J1 = J ∧ gf1 = gf ∧ gn1 = gn ∧ 0 ≤ (F1 15).toInt ∧ (F1 15).toInt ≤ 2560) (fun u => cPost dC dI cB cC cI cJ cZ a u.1 u.2.1 u.2.2.1 u.2.2.2.1 u.2.2.2.2.1 u.2.2.2.2.2 (va_A (CW cB cC cI cJ cZ a F X J R gf gn) s0)) (va_A (CW cB cC cI cJ cZ a F X J R gf gn) s0)) 0 0 (va_A (CW cB cC cI cJ cZ a F X J R gf gn) s0) := by
  refine Met.ofW (cc := cX11_takeText) (maxL := 2) (ret := none) (by decide) rfl ?_
  intro p e s m args below meth c s₁ B9 hml hv
  obtain ⟨rfl, hsz0, hP, hK, hD0, hNW⟩ := hv
  have hx := B9.exec
  have hb := B9.bytes
  have hr := B9.returns
  have hts := atoms_spec (ws := vX11_takeText) B9.pre
  have hown : s.vm.findClass RX11 = some m.cls := findClass_of_methodNamed B9.named
  have hlocks := B9.notSynchronized
  clear B9
  subst hsz0
  have hD := hD0.self (sz := s.heap.size)
  generalize hAe : va_A (CW cB cC cI cJ cZ a F X J R gf gn) s.heap.size = A at hD ⊢
  have hA : ∀ q : Nat, s.heap.size ≤ q → A q := fun q h => by rw [← hAe]; exact Or.inr h
  have hS : va_S A s.heap s.heap [] := va_S.rf
  have hcs : 0 + 0 ≤ (0 : Nat) ∧ 0 + 0 ≤ (0 : Nat) := ⟨Nat.le_refl 0, Nat.le_refl 0⟩
  have hl := lv_entry ([.ref (a 11), .int (oI x)]) (n := 2) (Nat.le_of_ble_eq_true rfl)
  rw [lg_entry_eq]
  generalize (lg_sl ([.ref (a 11), .int (oI x)]) ++ List.replicate (2 - (lg_sl ([.ref (a 11), .int (oI x)])).length) Slot.unset).toArray = ls at hl ⊢
  have hl : lv_has ls 2 [(0, .ref (a 11)), (1, .int (oI x))] := hl
  refine lv_aload_n hx hb dX11_takeText_0 rfl (lv_at hl 0 rfl) ?_
  refine cg_11_3 hx hb hts inX11_takeText_X11 hown hK hP (hts _ lkX11_takeText_f30) dX11_takeText_1 ?_
  refine ccf_vV (As := []) (rest := []) ⟨hx, hb, hml, hown, hts⟩ (c_take l dC dI cB cC cI cJ cZ a F X J R gf gn      s.heap.size) (cwV 0 hts kX11_takeText_X10_take_127 rfl rfl rfl (by decide +kernel) ⟨Nat.le_of_ble_eq_true rfl, Nat.le_of_ble_eq_true rfl⟩) (va_recv hK hP (ci := 10) (q0 := 10) rfl rfl) hK hNW hP hD hS hA rfl rfl hl.1 (lv_room (Nat.le_of_ble_eq_true rfl)) dX11_takeText_4 hcs (fun F_1 X_2 J_3 R_4 gf_5 gn_6 hw_7 H locs hP hD hS => ?_)
  replace hw_7 : (∀ k9, k9 ≠ 24 → F_1 k9 = F k9) ∧ (∀ k9, (k9 < 24 ∨ k9 = 26) → X_2 k9 = X k9) ∧ J_3 = J ∧ gf_5 = gf ∧ gn_6 = gn := hw_7
  obtain ⟨tF, tX, tJ, tg, th⟩ := hw_7
  have n15 : (F_1 15).toInt = (F 15).toInt := congrArg Int32.toInt (tF 15 (by decide))
  have n16 : (F_1 16).toInt = (F 16).toInt := congrArg Int32.toInt (tF 16 (by decide))
  refine lv_aload_n hx hb dX11_takeText_7 rfl (lv_at hl 0 rfl) ?_
  refine lv_aload_n hx hb dX11_takeText_8 rfl (lv_at hl 0 rfl) ?_
  refine cg_11_5 hx hb hts inX11_takeText_X11 hown hK hP (hts _ lkX11_takeText_f48) dX11_takeText_9 ?_
  refine cgN_0_12 hx hb hts inX11_takeText_X0 hown hK hP (va_Nw.use rfl hNW.2.2.2.2.2.2.2.2.2.2.2.2.2.2.2.2.2.2.2.2.2.2.2.2.2.1) dX11_takeText_12 ?_
  have i_8 := i32r (F_1 6)
  refine cp_11_8 hx hb hts inX11_takeText_X11 hown hK hP hD hS (hts _ lkX11_takeText_f59) dX11_takeText_15 (fun H locs hP hD hS => ?_)
  have hP : va_P (dC, dI) vwCl (CW cB cC cI cJ cZ a (va_up F_1 29 (oI ((F_1 6).toInt))) X_2 J_3 R_4 gf_5 gn_6) H := hP
  have hD : va_D A (CW cB cC cI cJ cZ a (va_up F_1 29 (oI ((F_1 6).toInt))) X_2 J_3 R_4 gf_5 gn_6) := hD
  refine lv_aload_n hx hb dX11_takeText_18 rfl (lv_at hl 0 rfl) ?_
  refine lv_aload_n hx hb dX11_takeText_19 rfl (lv_at hl 0 rfl) ?_
  refine cg_11_5 hx hb hts inX11_takeText_X11 hown hK hP (hts _ lkX11_takeText_f48) dX11_takeText_20 ?_
  refine cgN_0_14 hx hb hts inX11_takeText_X0 hown hK hP (va_Nw.use rfl hNW.2.2.2.2.2.2.2.2.2.2.2.2.2.2.2.2.2.2.2.2.2.2.2.2.2.2) dX11_takeText_23 ?_
  refine tp_i (y := oI (F_1 8).toInt) rfl ?_
  have i_9 := i32r (F_1 8)
  refine cp_11_9 hx hb hts inX11_takeText_X11 hown hK hP hD hS (hts _ lkX11_takeText_f62) dX11_takeText_26 (fun H locs hP hD hS => ?_)
  have hP : va_P (dC, dI) vwCl (CW cB cC cI cJ cZ a (va_up (va_up F_1 29 (oI ((F_1 6).toInt))) 30 (oI ((F_1 8).toInt))) X_2 J_3 R_4 gf_5 gn_6) H := hP
  have hD : va_D A (CW cB cC cI cJ cZ a (va_up (va_up F_1 29 (oI ((F_1 6).toInt))) 30 (oI ((F_1 8).toInt))) X_2 J_3 R_4 gf_5 gn_6) := hD
  refine lv_aload_n hx hb dX11_takeText_29 rfl (lv_at hl 0 rfl) ?_
  refine lv_aload_n hx hb dX11_takeText_30 rfl (lv_at hl 0 rfl) ?_
  refine cg_11_5 hx hb hts inX11_takeText_X11 hown hK hP (hts _ lkX11_takeText_f48) dX11_takeText_31 ?_
  refine cgN_0_11 hx hb hts inX11_takeText_X0 hown hK hP (va_Nw.use rfl hNW.2.2.2.2.2.2.2.2.2.2.2.2.2.2.2.2.2.2.2.2.2.2.2.1) dX11_takeText_34 ?_
  refine tp_i (y := oI (F_1 5).toInt) rfl ?_
  have i_10 := i32r (F_1 5)
  refine lv_iconst (v := oI 1) hx hb dX11_takeText_37 (by decide) ?_
  refine lv_iadd hx hb dX11_takeText_38 ?_
  refine tp_i (oI_add ((F_1 5).toInt) 1) ?_
  refine lv_topi (fun v_11 ev_11 => ?_)
  refine tp_i (oI_toInt v_11).symm ?_
  have i_12 := i32r v_11
  refine cp_11_10 hx hb hts inX11_takeText_X11 hown hK hP hD hS (hts _ lkX11_takeText_f65) dX11_takeText_39 (fun H locs hP hD hS => ?_)
  have hP : va_P (dC, dI) vwCl (CW cB cC cI cJ cZ a (va_up (va_up (va_up F_1 29 (oI ((F_1 6).toInt))) 30 (oI ((F_1 8).toInt))) 31 (oI v_11.toInt)) X_2 J_3 R_4 gf_5 gn_6) H := hP
  have hD : va_D A (CW cB cC cI cJ cZ a (va_up (va_up (va_up F_1 29 (oI ((F_1 6).toInt))) 30 (oI ((F_1 8).toInt))) 31 (oI v_11.toInt)) X_2 J_3 R_4 gf_5 gn_6) := hD
  refine lv_aload_n hx hb dX11_takeText_42 rfl (lv_at hl 0 rfl) ?_
  refine cg_11_1 hx hb hts inX11_takeText_X11 hown hK hP (hts _ lkX11_takeText_f16) dX11_takeText_43 ?_
  refine lv_iload_n hx hb dX11_takeText_46 rfl (lv_at hl 1 rfl) ?_
  refine ccp_vV (As := [.int (oI x)]) (rest := []) (gF := fun F9 => rg 15 15 (va_up (va_up (va_up F_1 29 (oI ((F_1 6).toInt))) 30 (oI ((F_1 8).toInt))) 31 (oI v_11.toInt)) F9) (gX := fun _ => X_2) ⟨hx, hb, hml, hown, hts⟩ (c_takeN l dC dI cB cC cI cJ cZ a (va_up (va_up (va_up F_1 29 (oI ((F_1 6).toInt))) 30 (oI ((F_1 8).toInt))) 31 (oI v_11.toInt)) X_2 J_3 R_4 gf_5 gn_6 x  (by omega) (show 0 ≤ (F_1 15).toInt ∧ (F_1 15).toInt ≤ 2560 from by first | assumption | omega) (show 0 ≤ (F_1 16).toInt ∧ (F_1 16).toInt ≤ 2560 from by first | assumption | omega)  H.size) (cwV 1 hts kX11_takeText_X6_take_132 rfl rfl rfl (by decide +kernel) ⟨Nat.le_of_ble_eq_true rfl, Nat.le_of_ble_eq_true rfl⟩) (va_recv hK hP (ci := 6) (q0 := 6) rfl rfl) hK hNW hP hD hS hA rfl rfl hl.1 (lv_room (Nat.le_of_ble_eq_true rfl)) dX11_takeText_47 hcs (fun F_13 X_14 hw_15 H locs hP hD hS => ?_)
  replace hw_15 : 0 ≤ (F_13 15).toInt ∧ (F_13 15).toInt ≤ 2560 := hw_15
  have hsy := hw_15
  clear hw_15
  have hF9 : ∀ k9, (k9 < 24 ∨ k9 = 25 ∨ k9 = 27) → k9 ≠ 15 → (rg 15 15 (va_up (va_up (va_up F_1 29 (oI ((F_1 6).toInt))) 30 (oI ((F_1 8).toInt))) 31 (oI v_11.toInt)) F_13) k9 = F k9 := fun k9 a9 b9 => by have q9 := tF k9 (by omega); simp only [rg, va_up]; (repeat' split) <;> first | omega | exact q9
  have hpost : (∀ k9, (k9 < 24 ∨ k9 = 25 ∨ k9 = 27) → k9 ≠ 15 → (rg 15 15 (va_up (va_up (va_up F_1 29 (oI ((F_1 6).toInt))) 30 (oI ((F_1 8).toInt))) 31 (oI v_11.toInt)) F_13) k9 = F k9) ∧ (∀ k9, (k9 < 24 ∨ k9 = 26) → X_2 k9 = X k9) ∧ J_3 = J ∧ gf_5 = gf ∧ gn_6 = gn ∧ 0 ≤ (F_13 15).toInt ∧ (F_13 15).toInt ≤ 2560 := ⟨hF9, tX, tJ, tg, th, by omega⟩
  exact W.vret hx hb hr (fun t ht hW => ⟨⟨(rg 15 15 (va_up (va_up (va_up F_1 29 (oI ((F_1 6).toInt))) 30 (oI ((F_1 8).toInt))) 31 (oI v_11.toInt)) F_13, X_2, J_3, R_4, gf_5, gn_6), rfl, hpost, by rw [ht]; exact hP, va_K.moved hW.alike hK, hD⟩, hS.F ht⟩) hS.2.2 dX11_takeText_50
