def oX9_bind : List Cond := [Cond.fieldLink RX9 24 "MacroScopes$Scopes" "top" "I", Cond.fieldLink RX9 28 "MacroScopes$Scopes" "names" "LMacroScopes$Names;", Cond.methodLink RX9 36 yX6_has, Cond.instanceMethod yX6_has, Cond.selects RX6 yX6_has yX6_has, Cond.initialized RX6, Cond.fieldLink RX9 11 "MacroScopes$Scopes" "name" "[I", Cond.fieldLink RX9 15 "MacroScopes$Scopes" "outer" "[I", Cond.fieldLink RX9 18 "MacroScopes$Scopes" "value" "[I", Cond.fieldLink RX9 21 "MacroScopes$Scopes" "home" "[I"]
def vX9_bind : List Cond := .code yX9_bind cX9_bind 4 none :: (oX9_bind ++ (vX6_has ++ (wsX90 ++ (wsX60))))
theorem lkX9_bind_f24 : Cond.fieldLink RX9 24 "MacroScopes$Scopes" "top" "I" ∈ vX9_bind := List.mem_cons_of_mem _ (List.mem_append_left _ (List.mem_of_getElem? (i := 0) rfl))
theorem lkX9_bind_f28 : Cond.fieldLink RX9 28 "MacroScopes$Scopes" "names" "LMacroScopes$Names;" ∈ vX9_bind := List.mem_cons_of_mem _ (List.mem_append_left _ (List.mem_of_getElem? (i := 1) rfl))
theorem lkX9_bind_f11 : Cond.fieldLink RX9 11 "MacroScopes$Scopes" "name" "[I" ∈ vX9_bind := List.mem_cons_of_mem _ (List.mem_append_left _ (List.mem_of_getElem? (i := 6) rfl))
theorem lkX9_bind_f15 : Cond.fieldLink RX9 15 "MacroScopes$Scopes" "outer" "[I" ∈ vX9_bind := List.mem_cons_of_mem _ (List.mem_append_left _ (List.mem_of_getElem? (i := 7) rfl))
theorem lkX9_bind_f18 : Cond.fieldLink RX9 18 "MacroScopes$Scopes" "value" "[I" ∈ vX9_bind := List.mem_cons_of_mem _ (List.mem_append_left _ (List.mem_of_getElem? (i := 8) rfl))
theorem lkX9_bind_f21 : Cond.fieldLink RX9 21 "MacroScopes$Scopes" "home" "[I" ∈ vX9_bind := List.mem_cons_of_mem _ (List.mem_append_left _ (List.mem_of_getElem? (i := 9) rfl))
theorem inX9_bind_X9 : ∀ w ∈ wsX90, w ∈ vX9_bind := fun w h => List.mem_cons_of_mem _ (List.mem_append_right _ (List.mem_append_right _ (List.mem_append_left _ (h))))
theorem inX9_bind_X6 : ∀ w ∈ wsX60, w ∈ vX9_bind := fun w h => List.mem_cons_of_mem _ (List.mem_append_right _ (List.mem_append_right _ (List.mem_append_right _ (h))))
theorem kX9_bind_X6_has_36 : GoodIn vX9_bind (wsV RX9 36 RX6 yX6_has vX6_has) := goodIn_sub (fun w h => (List.mem_append.mp h).elim (fun h => List.mem_cons_of_mem _ (List.mem_append_left _ ((by decide +kernel : ∀ w ∈ ([.methodLink RX9 36 yX6_has, .instanceMethod yX6_has, .selects RX6 yX6_has yX6_has, .initialized RX6] : List Cond), w ∈ oX9_bind) w h))) (fun h => List.mem_cons_of_mem _ (List.mem_append_right _ (List.mem_append_left _ (h))))) (by decide +kernel)
def oX9_bindVariable : List Cond := [Cond.methodLink RX9 32 yX9_bind, Cond.instanceMethod yX9_bind, Cond.selects RX9 yX9_bind yX9_bind, Cond.initialized RX9]
def vX9_bindVariable : List Cond := .code yX9_bindVariable cX9_bindVariable 3 none :: (oX9_bindVariable ++ (vX9_bind))
theorem kX9_bindVariable_X9_bind_32 : GoodIn vX9_bindVariable (wsV RX9 32 RX9 yX9_bind vX9_bind) := goodIn_sub (fun w h => (List.mem_append.mp h).elim (fun h => List.mem_cons_of_mem _ (List.mem_append_left _ ((by decide +kernel : ∀ w ∈ ([.methodLink RX9 32 yX9_bind, .instanceMethod yX9_bind, .selects RX9 yX9_bind yX9_bind, .initialized RX9] : List Cond), w ∈ oX9_bindVariable) w h))) (fun h => List.mem_cons_of_mem _ (List.mem_append_right _ (h)))) (by decide +kernel)
def oX9_bindMacro : List Cond := [Cond.methodLink RX9 32 yX9_bind, Cond.instanceMethod yX9_bind, Cond.selects RX9 yX9_bind yX9_bind, Cond.initialized RX9]
def vX9_bindMacro : List Cond := .code yX9_bindMacro cX9_bindMacro 4 none :: (oX9_bindMacro ++ (vX9_bind))
theorem kX9_bindMacro_X9_bind_32 : GoodIn vX9_bindMacro (wsV RX9 32 RX9 yX9_bind vX9_bind) := goodIn_sub (fun w h => (List.mem_append.mp h).elim (fun h => List.mem_cons_of_mem _ (List.mem_append_left _ ((by decide +kernel : ∀ w ∈ ([.methodLink RX9 32 yX9_bind, .instanceMethod yX9_bind, .selects RX9 yX9_bind yX9_bind, .initialized RX9] : List Cond), w ∈ oX9_bindMacro) w h))) (fun h => List.mem_cons_of_mem _ (List.mem_append_right _ (h)))) (by decide +kernel)
def oX9_isBoundSince : List Cond := [Cond.fieldLink RX9 28 "MacroScopes$Scopes" "names" "LMacroScopes$Names;", Cond.methodLink RX9 36 yX6_has, Cond.instanceMethod yX6_has, Cond.selects RX6 yX6_has yX6_has, Cond.initialized RX6]
def vX9_isBoundSince : List Cond := .code yX9_isBoundSince cX9_isBoundSince 3 (some .boolean) :: (oX9_isBoundSince ++ (vX6_has ++ (wsX90 ++ (wsX60))))
theorem lkX9_isBoundSince_f28 : Cond.fieldLink RX9 28 "MacroScopes$Scopes" "names" "LMacroScopes$Names;" ∈ vX9_isBoundSince := List.mem_cons_of_mem _ (List.mem_append_left _ (List.mem_of_getElem? (i := 0) rfl))
theorem inX9_isBoundSince_X9 : ∀ w ∈ wsX90, w ∈ vX9_isBoundSince := fun w h => List.mem_cons_of_mem _ (List.mem_append_right _ (List.mem_append_right _ (List.mem_append_left _ (h))))
theorem inX9_isBoundSince_X6 : ∀ w ∈ wsX60, w ∈ vX9_isBoundSince := fun w h => List.mem_cons_of_mem _ (List.mem_append_right _ (List.mem_append_right _ (List.mem_append_right _ (h))))
theorem kX9_isBoundSince_X6_has_36 : GoodIn vX9_isBoundSince (wsV RX9 36 RX6 yX6_has vX6_has) := goodIn_sub (fun w h => (List.mem_append.mp h).elim (fun h => List.mem_cons_of_mem _ (List.mem_append_left _ ((by decide +kernel : ∀ w ∈ ([.methodLink RX9 36 yX6_has, .instanceMethod yX6_has, .selects RX6 yX6_has yX6_has, .initialized RX6] : List Cond), w ∈ oX9_isBoundSince) w h))) (fun h => List.mem_cons_of_mem _ (List.mem_append_right _ (List.mem_append_left _ (h))))) (by decide +kernel)
def oX9_leaveTo : List Cond := [Cond.fieldLink RX9 24 "MacroScopes$Scopes" "top" "I", Cond.fieldLink RX9 28 "MacroScopes$Scopes" "names" "LMacroScopes$Names;", Cond.fieldLink RX9 11 "MacroScopes$Scopes" "name" "[I", Cond.methodLink RX9 36 yX6_has, Cond.instanceMethod yX6_has, Cond.selects RX6 yX6_has yX6_has, Cond.initialized RX6, Cond.fieldLink RX9 15 "MacroScopes$Scopes" "outer" "[I"]
def vX9_leaveTo : List Cond := .code yX9_leaveTo cX9_leaveTo 2 none :: (oX9_leaveTo ++ (vX6_has ++ (wsX90 ++ (wsX60))))
theorem lkX9_leaveTo_f24 : Cond.fieldLink RX9 24 "MacroScopes$Scopes" "top" "I" ∈ vX9_leaveTo := List.mem_cons_of_mem _ (List.mem_append_left _ (List.mem_of_getElem? (i := 0) rfl))
theorem lkX9_leaveTo_f28 : Cond.fieldLink RX9 28 "MacroScopes$Scopes" "names" "LMacroScopes$Names;" ∈ vX9_leaveTo := List.mem_cons_of_mem _ (List.mem_append_left _ (List.mem_of_getElem? (i := 1) rfl))
theorem lkX9_leaveTo_f11 : Cond.fieldLink RX9 11 "MacroScopes$Scopes" "name" "[I" ∈ vX9_leaveTo := List.mem_cons_of_mem _ (List.mem_append_left _ (List.mem_of_getElem? (i := 2) rfl))
theorem lkX9_leaveTo_f15 : Cond.fieldLink RX9 15 "MacroScopes$Scopes" "outer" "[I" ∈ vX9_leaveTo := List.mem_cons_of_mem _ (List.mem_append_left _ (List.mem_of_getElem? (i := 7) rfl))
theorem inX9_leaveTo_X9 : ∀ w ∈ wsX90, w ∈ vX9_leaveTo := fun w h => List.mem_cons_of_mem _ (List.mem_append_right _ (List.mem_append_right _ (List.mem_append_left _ (h))))
theorem inX9_leaveTo_X6 : ∀ w ∈ wsX60, w ∈ vX9_leaveTo := fun w h => List.mem_cons_of_mem _ (List.mem_append_right _ (List.mem_append_right _ (List.mem_append_right _ (h))))
theorem kX9_leaveTo_X6_has_36 : GoodIn vX9_leaveTo (wsV RX9 36 RX6 yX6_has vX6_has) := goodIn_sub (fun w h => (List.mem_append.mp h).elim (fun h => List.mem_cons_of_mem _ (List.mem_append_left _ ((by decide +kernel : ∀ w ∈ ([.methodLink RX9 36 yX6_has, .instanceMethod yX6_has, .selects RX6 yX6_has yX6_has, .initialized RX6] : List Cond), w ∈ oX9_leaveTo) w h))) (fun h => List.mem_cons_of_mem _ (List.mem_append_right _ (List.mem_append_left _ (h))))) (by decide +kernel)
def oX9_meaning : List Cond := [Cond.fieldLink RX9 15 "MacroScopes$Scopes" "outer" "[I", Cond.methodLink RX9 45 Lib.Math.min.name, Cond.static Lib.Math.min.name, Cond.initialized "java/lang/Math", Cond.code Lib.Math.min.name Lib.Math.min.code 2 (some .int), Cond.fieldLink RX9 28 "MacroScopes$Scopes" "names" "LMacroScopes$Names;", Cond.methodLink RX9 36 yX6_has, Cond.instanceMethod yX6_has, Cond.selects RX6 yX6_has yX6_has, Cond.initialized RX6, Cond.methodLink RX9 54 yX6_rulesOf, Cond.instanceMethod yX6_rulesOf, Cond.selects RX6 yX6_rulesOf yX6_rulesOf, Cond.fieldLink RX9 21 "MacroScopes$Scopes" "home" "[I", Cond.fieldLink RX9 18 "MacroScopes$Scopes" "value" "[I"]
def vX9_meaning : List Cond := .code yX9_meaning cX9_meaning 6 (some .int) :: (oX9_meaning ++ (vX6_has ++ (vX6_rulesOf ++ (wsX90 ++ (wsX60)))))
theorem lkX9_meaning_f15 : Cond.fieldLink RX9 15 "MacroScopes$Scopes" "outer" "[I" ∈ vX9_meaning := List.mem_cons_of_mem _ (List.mem_append_left _ (List.mem_of_getElem? (i := 0) rfl))
theorem lkX9_meaning_l45 : Cond.methodLink RX9 45 Lib.Math.min.name ∈ vX9_meaning := List.mem_cons_of_mem _ (List.mem_append_left _ (List.mem_of_getElem? (i := 1) rfl))
theorem lkX9_meaning_smin : Cond.static Lib.Math.min.name ∈ vX9_meaning := List.mem_cons_of_mem _ (List.mem_append_left _ (List.mem_of_getElem? (i := 2) rfl))
theorem lkX9_meaning_zmath : Cond.initialized "java/lang/Math" ∈ vX9_meaning := List.mem_cons_of_mem _ (List.mem_append_left _ (List.mem_of_getElem? (i := 3) rfl))
theorem lkX9_meaning_kmin : Cond.code Lib.Math.min.name Lib.Math.min.code 2 (some .int) ∈ vX9_meaning := List.mem_cons_of_mem _ (List.mem_append_left _ (List.mem_of_getElem? (i := 4) rfl))
theorem lkX9_meaning_f28 : Cond.fieldLink RX9 28 "MacroScopes$Scopes" "names" "LMacroScopes$Names;" ∈ vX9_meaning := List.mem_cons_of_mem _ (List.mem_append_left _ (List.mem_of_getElem? (i := 5) rfl))
theorem lkX9_meaning_f21 : Cond.fieldLink RX9 21 "MacroScopes$Scopes" "home" "[I" ∈ vX9_meaning := List.mem_cons_of_mem _ (List.mem_append_left _ (List.mem_of_getElem? (i := 13) rfl))
theorem lkX9_meaning_f18 : Cond.fieldLink RX9 18 "MacroScopes$Scopes" "value" "[I" ∈ vX9_meaning := List.mem_cons_of_mem _ (List.mem_append_left _ (List.mem_of_getElem? (i := 14) rfl))
theorem inX9_meaning_X9 : ∀ w ∈ wsX90, w ∈ vX9_meaning := fun w h => List.mem_cons_of_mem _ (List.mem_append_right _ (List.mem_append_right _ (List.mem_append_right _ (List.mem_append_left _ (h)))))
theorem inX9_meaning_X6 : ∀ w ∈ wsX60, w ∈ vX9_meaning := fun w h => List.mem_cons_of_mem _ (List.mem_append_right _ (List.mem_append_right _ (List.mem_append_right _ (List.mem_append_right _ (h)))))
theorem kX9_meaning_X6_has_36 : GoodIn vX9_meaning (wsV RX9 36 RX6 yX6_has vX6_has) := goodIn_sub (fun w h => (List.mem_append.mp h).elim (fun h => List.mem_cons_of_mem _ (List.mem_append_left _ ((by decide +kernel : ∀ w ∈ ([.methodLink RX9 36 yX6_has, .instanceMethod yX6_has, .selects RX6 yX6_has yX6_has, .initialized RX6] : List Cond), w ∈ oX9_meaning) w h))) (fun h => List.mem_cons_of_mem _ (List.mem_append_right _ (List.mem_append_left _ (h))))) (by decide +kernel)
theorem kX9_meaning_X6_rulesOf_54 : GoodIn vX9_meaning (wsV RX9 54 RX6 yX6_rulesOf vX6_rulesOf) := goodIn_sub (fun w h => (List.mem_append.mp h).elim (fun h => List.mem_cons_of_mem _ (List.mem_append_left _ ((by decide +kernel : ∀ w ∈ ([.methodLink RX9 54 yX6_rulesOf, .instanceMethod yX6_rulesOf, .selects RX6 yX6_rulesOf yX6_rulesOf, .initialized RX6] : List Cond), w ∈ oX9_meaning) w h))) (fun h => List.mem_cons_of_mem _ (List.mem_append_right _ (List.mem_append_right _ (List.mem_append_left _ (h)))))) (by decide +kernel)
def oX9_isWord : List Cond := []
def vX9_isWord : List Cond := .code yX9_isWord cX9_isWord 1 (some .boolean) :: (oX9_isWord)
def oX9_isMacro : List Cond := []
def vX9_isMacro : List Cond := .code yX9_isMacro cX9_isMacro 1 (some .boolean) :: (oX9_isMacro)
def oX9_rulesOf : List Cond := [Cond.fieldLink RX9 24 "MacroScopes$Scopes" "top" "I", Cond.fieldLink RX9 18 "MacroScopes$Scopes" "value" "[I", Cond.fieldLink RX9 28 "MacroScopes$Scopes" "names" "LMacroScopes$Names;", Cond.methodLink RX9 54 yX6_rulesOf, Cond.instanceMethod yX6_rulesOf, Cond.selects RX6 yX6_rulesOf yX6_rulesOf, Cond.initialized RX6]
def vX9_rulesOf : List Cond := .code yX9_rulesOf cX9_rulesOf 3 (some .int) :: (oX9_rulesOf ++ (vX6_rulesOf ++ (wsX90)))
theorem lkX9_rulesOf_f24 : Cond.fieldLink RX9 24 "MacroScopes$Scopes" "top" "I" ∈ vX9_rulesOf := List.mem_cons_of_mem _ (List.mem_append_left _ (List.mem_of_getElem? (i := 0) rfl))
theorem lkX9_rulesOf_f18 : Cond.fieldLink RX9 18 "MacroScopes$Scopes" "value" "[I" ∈ vX9_rulesOf := List.mem_cons_of_mem _ (List.mem_append_left _ (List.mem_of_getElem? (i := 1) rfl))
theorem lkX9_rulesOf_f28 : Cond.fieldLink RX9 28 "MacroScopes$Scopes" "names" "LMacroScopes$Names;" ∈ vX9_rulesOf := List.mem_cons_of_mem _ (List.mem_append_left _ (List.mem_of_getElem? (i := 2) rfl))
theorem inX9_rulesOf_X9 : ∀ w ∈ wsX90, w ∈ vX9_rulesOf := fun w h => List.mem_cons_of_mem _ (List.mem_append_right _ (List.mem_append_right _ (h)))
theorem kX9_rulesOf_X6_rulesOf_54 : GoodIn vX9_rulesOf (wsV RX9 54 RX6 yX6_rulesOf vX6_rulesOf) := goodIn_sub (fun w h => (List.mem_append.mp h).elim (fun h => List.mem_cons_of_mem _ (List.mem_append_left _ ((by decide +kernel : ∀ w ∈ ([.methodLink RX9 54 yX6_rulesOf, .instanceMethod yX6_rulesOf, .selects RX6 yX6_rulesOf yX6_rulesOf, .initialized RX6] : List Cond), w ∈ oX9_rulesOf) w h))) (fun h => List.mem_cons_of_mem _ (List.mem_append_right _ (List.mem_append_left _ (h))))) (by decide +kernel)
def oX9_homeOf : List Cond := [Cond.fieldLink RX9 24 "MacroScopes$Scopes" "top" "I", Cond.fieldLink RX9 21 "MacroScopes$Scopes" "home" "[I"]
def vX9_homeOf : List Cond := .code yX9_homeOf cX9_homeOf 3 (some .int) :: (oX9_homeOf ++ (wsX90))
theorem lkX9_homeOf_f24 : Cond.fieldLink RX9 24 "MacroScopes$Scopes" "top" "I" ∈ vX9_homeOf := List.mem_cons_of_mem _ (List.mem_append_left _ (List.mem_of_getElem? (i := 0) rfl))
theorem lkX9_homeOf_f21 : Cond.fieldLink RX9 21 "MacroScopes$Scopes" "home" "[I" ∈ vX9_homeOf := List.mem_cons_of_mem _ (List.mem_append_left _ (List.mem_of_getElem? (i := 1) rfl))
theorem inX9_homeOf_X9 : ∀ w ∈ wsX90, w ∈ vX9_homeOf := fun w h => List.mem_cons_of_mem _ (List.mem_append_right _ (h))
set_option maxHeartbeats 4000000 in
set_option maxRecDepth 100000 in
/-- X9_bind -/
theorem c_bind (l : Launch) (dC : Nat → ClassId) (dI : Nat → Nat → Nat) (cB cC cI cJ cZ : ClassId) (a : Nat → Nat) (F : Nat → Int32) (X : Nat → Nat → Int32) (J : Nat → Nat → Int64) (R : Nat → Nat) (gf gn : Nat) (x y z : Int)  (ix : (-2147483648 ≤ x ∧ x < 2147483648)) (iy : (-2147483648 ≤ y ∧ y < 2147483648)) (iz : (-2147483648 ≤ z ∧ z < 2147483648)) (hgn : gn ≤ 63261) (hnt : 0 ≤ (F 13).toInt ∧ (F 13).toInt ≤ (gn : Int)) (hst : 0 ≤ (F 23).toInt ∧ (F 23).toInt ≤ 606) (hva : VB (X 22)) (hy2 : y < 1073741824) (s0 : Nat) : Met l yX9_bind vX9_bind { frames := 2, cells := 0, slots := 0, locals := 81 } (va_Pc [.ref (a 9), .int (oI x), .int (oI y), .int (oI z)] (cPre dC dI cB cC cI cJ cZ a F X J R gf gn s0)) (va_Qv (fun (u : (Nat → Int32) × (Nat → Nat → Int32)) => match u with | (F1, X1) => (0 ≤ (F1 23).toInt ∧ (F1 23).toInt ≤ 606) ∧ VB (X1 22)) (fun u => cPost dC dI cB cC cI cJ cZ a (rg 23 23 F u.1) (rg 19 22 (rg 16 16 X u.2) u.2) J R gf gn (va_A (CW cB cC cI cJ cZ a F X J R gf gn) s0)) (va_A (CW cB cC cI cJ cZ a F X J R gf gn) s0)) 0 0 (va_A (CW cB cC cI cJ cZ a F X J R gf gn) s0) := by
  refine Met.ofW (cc := cX9_bind) (maxL := 4) (ret := none) (by decide) rfl ?_
  intro p e s m args below meth c s₁ B9 hml hv
  obtain ⟨rfl, hsz0, hP, hK, hD0, hNW⟩ := hv
  have hx := B9.exec
  have hb := B9.bytes
  have hr := B9.returns
  have hts := atoms_spec (ws := vX9_bind) B9.pre
  have hown : s.vm.findClass RX9 = some m.cls := findClass_of_methodNamed B9.named
  have hlocks := B9.notSynchronized
  clear B9
  subst hsz0
  have hD := hD0.self (sz := s.heap.size)
  generalize hAe : va_A (CW cB cC cI cJ cZ a F X J R gf gn) s.heap.size = A at hD ⊢
  have hA : ∀ q : Nat, s.heap.size ≤ q → A q := fun q h => by rw [← hAe]; exact Or.inr h
  have hS : va_S A s.heap s.heap [] := va_S.rf
  have hcs : 0 + 0 ≤ (0 : Nat) ∧ 0 + 0 ≤ (0 : Nat) := ⟨Nat.le_refl 0, Nat.le_refl 0⟩
  have hl := lv_entry ([.ref (a 9), .int (oI x), .int (oI y), .int (oI z)]) (n := 4) (Nat.le_of_ble_eq_true rfl)
  rw [lg_entry_eq]
  generalize (lg_sl ([.ref (a 9), .int (oI x), .int (oI y), .int (oI z)]) ++ List.replicate (4 - (lg_sl ([.ref (a 9), .int (oI x), .int (oI y), .int (oI z)])).length) Slot.unset).toArray = ls at hl ⊢
  have hl : lv_has ls 4 [(0, .ref (a 9)), (1, .int (oI x)), (2, .int (oI y)), (3, .int (oI z))] := hl
  refine lv_aload_n hx hb dX9_bind_0 rfl (lv_at hl 0 rfl) ?_
  refine cg_9_5 hx hb hts inX9_bind_X9 hown hK hP (hts _ lkX9_bind_f24) dX9_bind_1 ?_
  have i_1 := i32r (F 23)
  refine lv_sipush (v := oI 606) hx hb dX9_bind_4 (by decide) ?_
  refine ci_ge (tgt := 92) hx hb (i32r _) (by decide) dX9_bind_7 (by decide) (fun c_2 => ?_) (fun c_2 => ?_)
  · have eF9 : rg 23 23 F F = F := by funext k; simp only [rg, va_up]; (repeat' split) <;> first | with_reducible rfl | omega
    have eX9 : rg 19 22 (rg 16 16 X X) X = X := by funext k; simp only [rg, va_up]; (repeat' split) <;> first | with_reducible rfl | omega
    have hP9 : va_P (dC, dI) vwCl (CW cB cC cI cJ cZ a (rg 23 23 F F) (rg 19 22 (rg 16 16 X X) X) J R gf gn) s.heap := by rw [eF9, eX9]; exact hP
    have hD9 : va_D A (CW cB cC cI cJ cZ a (rg 23 23 F F) (rg 19 22 (rg 16 16 X X) X) J R gf gn) := by rw [eF9, eX9]; exact hD
    have hpost : (0 ≤ (F 23).toInt ∧ (F 23).toInt ≤ 606) ∧ VB (X 22) := ⟨by omega, hva⟩
    exact W.vret hx hb hr (fun t ht hW => ⟨⟨(F, X), rfl, hpost, by rw [ht]; exact hP9, va_K.moved hW.alike hK, hD9⟩, hS.F ht⟩) hS.2.2 dX9_bind_92
  · refine lv_aload_n hx hb dX9_bind_10 rfl (lv_at hl 0 rfl) ?_
    refine cg_9_0 hx hb hts inX9_bind_X9 hown hK hP (hts _ lkX9_bind_f28) dX9_bind_11 ?_
    refine lv_iload_n hx hb dX9_bind_14 rfl (lv_at hl 1 rfl) ?_
    refine ccs_iV (As := [.int (oI x)]) (rest := []) ⟨hx, hb, hml, hown, hts⟩ (c_has l dC dI cB cC cI cJ cZ a F X J R gf gn x  (by omega)   s.heap.size) (cwV 1 hts kX9_bind_X6_has_36 rfl rfl rfl (by decide +kernel) ⟨Nat.le_of_ble_eq_true rfl, Nat.le_of_ble_eq_true rfl⟩) (va_recv hK hP (ci := 6) (q0 := 6) rfl rfl) hK hNW hP hD hS hA rfl rfl hl.1 (lv_room (Nat.le_of_ble_eq_true rfl)) dX9_bind_15 hcs (fun r_3 hw_4 H locs hP hD hS => ?_)
    have hw_4 : ((r_3).toInt = 1 ∧ 0 ≤ x ∧ x < (F 13).toInt) ∨ ((r_3).toInt = 0 ∧ ¬ (0 ≤ x ∧ x < (F 13).toInt)) := hw_4
    have hha := hw_4
    have i_5 := i32r r_3
    refine cz_eq (tgt := 92) hx hb (i32r _) dX9_bind_18 (by decide) (fun c_6 => ?_) (fun c_6 => ?_)
    · have eF9 : rg 23 23 F F = F := by funext k; simp only [rg, va_up]; (repeat' split) <;> first | with_reducible rfl | omega
      have eX9 : rg 19 22 (rg 16 16 X X) X = X := by funext k; simp only [rg, va_up]; (repeat' split) <;> first | with_reducible rfl | omega
      have hP9 : va_P (dC, dI) vwCl (CW cB cC cI cJ cZ a (rg 23 23 F F) (rg 19 22 (rg 16 16 X X) X) J R gf gn) H := by rw [eF9, eX9]; exact hP
      have hD9 : va_D A (CW cB cC cI cJ cZ a (rg 23 23 F F) (rg 19 22 (rg 16 16 X X) X) J R gf gn) := by rw [eF9, eX9]; exact hD
      have hpost : (0 ≤ (F 23).toInt ∧ (F 23).toInt ≤ 606) ∧ VB (X 22) := ⟨by omega, hva⟩
      exact W.vret hx hb hr (fun t ht hW => ⟨⟨(F, X), rfl, hpost, by rw [ht]; exact hP9, va_K.moved hW.alike hK, hD9⟩, hS.F ht⟩) hS.2.2 dX9_bind_92
    · refine lv_aload_n hx hb dX9_bind_21 rfl (lv_at hl 0 rfl) ?_
      refine cg_9_1 hx hb hts inX9_bind_X9 hown hK hP (hts _ lkX9_bind_f11) dX9_bind_22 ?_
      refine lv_aload_n hx hb dX9_bind_25 rfl (lv_at hl 0 rfl) ?_
      refine cg_9_5 hx hb hts inX9_bind_X9 hown hK hP (hts _ lkX9_bind_f24) dX9_bind_26 ?_
      refine lv_iload_n hx hb dX9_bind_29 rfl (lv_at hl 1 rfl) ?_
      refine cs_19 hx hb hK hP hD hS (by omega) dX9_bind_30 (fun H locs hP hD hS => ?_)
      have hP : va_P (dC, dI) vwCl (CW cB cC cI cJ cZ a F (va_up X 19 (upd (X 19) ((F 23).toInt).toNat (oI x))) J R gf gn) H := hP
      have hD : va_D A (CW cB cC cI cJ cZ a F (va_up X 19 (upd (X 19) ((F 23).toInt).toNat (oI x))) J R gf gn) := hD
      refine lv_aload_n hx hb dX9_bind_31 rfl (lv_at hl 0 rfl) ?_
      refine cg_9_2 hx hb hts inX9_bind_X9 hown hK hP (hts _ lkX9_bind_f15) dX9_bind_32 ?_
      refine lv_aload_n hx hb dX9_bind_35 rfl (lv_at hl 0 rfl) ?_
      refine cg_9_5 hx hb hts inX9_bind_X9 hown hK hP (hts _ lkX9_bind_f24) dX9_bind_36 ?_
      refine lv_aload_n hx hb dX9_bind_39 rfl (lv_at hl 0 rfl) ?_
      refine cg_9_0 hx hb hts inX9_bind_X9 hown hK hP (hts _ lkX9_bind_f28) dX9_bind_40 ?_
      refine cgN_6_8 hx hb hts inX9_bind_X6 hown hK hP (va_Nw.use rfl hNW.2.2.2.2.2.2.2.2.2.2.2.2.2.2.2.1) dX9_bind_43 ?_
      refine lv_iload_n hx hb dX9_bind_46 rfl (lv_at hl 1 rfl) ?_
      refine cl_16 hx hb hK hP hgn (by omega) dX9_bind_47 (fun w_7 hw_7 => ?_)
      have hw_7 : w_7 = (X 16) (x).toNat := hw_7
      have i_8 := i32r w_7
      refine cs_20 hx hb hK hP hD hS (by omega) dX9_bind_48 (fun H locs hP hD hS => ?_)
      have hP : va_P (dC, dI) vwCl (CW cB cC cI cJ cZ a F (va_up (va_up X 19 (upd (X 19) ((F 23).toInt).toNat (oI x))) 20 (upd (X 20) ((F 23).toInt).toNat (oI w_7.toInt))) J R gf gn) H := hP
      have hD : va_D A (CW cB cC cI cJ cZ a F (va_up (va_up X 19 (upd (X 19) ((F 23).toInt).toNat (oI x))) 20 (upd (X 20) ((F 23).toInt).toNat (oI w_7.toInt))) J R gf gn) := hD
      refine lv_aload_n hx hb dX9_bind_49 rfl (lv_at hl 0 rfl) ?_
      refine cg_9_3 hx hb hts inX9_bind_X9 hown hK hP (hts _ lkX9_bind_f18) dX9_bind_50 ?_
      refine lv_aload_n hx hb dX9_bind_53 rfl (lv_at hl 0 rfl) ?_
      refine cg_9_5 hx hb hts inX9_bind_X9 hown hK hP (hts _ lkX9_bind_f24) dX9_bind_54 ?_
      refine lv_iload_n hx hb dX9_bind_57 rfl (lv_at hl 2 rfl) ?_
      refine cs_22 hx hb hK hP hD hS (by omega) dX9_bind_58 (fun H locs hP hD hS => ?_)
      have hP : va_P (dC, dI) vwCl (CW cB cC cI cJ cZ a F (va_up (va_up (va_up X 19 (upd (X 19) ((F 23).toInt).toNat (oI x))) 20 (upd (X 20) ((F 23).toInt).toNat (oI w_7.toInt))) 22 (upd (X 22) ((F 23).toInt).toNat (oI y))) J R gf gn) H := hP
      have hD : va_D A (CW cB cC cI cJ cZ a F (va_up (va_up (va_up X 19 (upd (X 19) ((F 23).toInt).toNat (oI x))) 20 (upd (X 20) ((F 23).toInt).toNat (oI w_7.toInt))) 22 (upd (X 22) ((F 23).toInt).toNat (oI y))) J R gf gn) := hD
      refine lv_aload_n hx hb dX9_bind_59 rfl (lv_at hl 0 rfl) ?_
      refine cg_9_4 hx hb hts inX9_bind_X9 hown hK hP (hts _ lkX9_bind_f21) dX9_bind_60 ?_
      refine lv_aload_n hx hb dX9_bind_63 rfl (lv_at hl 0 rfl) ?_
      refine cg_9_5 hx hb hts inX9_bind_X9 hown hK hP (hts _ lkX9_bind_f24) dX9_bind_64 ?_
      refine lv_iload_n hx hb dX9_bind_67 rfl (lv_at hl 3 rfl) ?_
      refine cs_21 hx hb hK hP hD hS (by omega) dX9_bind_68 (fun H locs hP hD hS => ?_)
      have hP : va_P (dC, dI) vwCl (CW cB cC cI cJ cZ a F (va_up (va_up (va_up (va_up X 19 (upd (X 19) ((F 23).toInt).toNat (oI x))) 20 (upd (X 20) ((F 23).toInt).toNat (oI w_7.toInt))) 22 (upd (X 22) ((F 23).toInt).toNat (oI y))) 21 (upd (X 21) ((F 23).toInt).toNat (oI z))) J R gf gn) H := hP
      have hD : va_D A (CW cB cC cI cJ cZ a F (va_up (va_up (va_up (va_up X 19 (upd (X 19) ((F 23).toInt).toNat (oI x))) 20 (upd (X 20) ((F 23).toInt).toNat (oI w_7.toInt))) 22 (upd (X 22) ((F 23).toInt).toNat (oI y))) 21 (upd (X 21) ((F 23).toInt).toNat (oI z))) J R gf gn) := hD
      refine lv_aload_n hx hb dX9_bind_69 rfl (lv_at hl 0 rfl) ?_
      refine cg_9_0 hx hb hts inX9_bind_X9 hown hK hP (hts _ lkX9_bind_f28) dX9_bind_70 ?_
      refine cgN_6_8 hx hb hts inX9_bind_X6 hown hK hP (va_Nw.use rfl hNW.2.2.2.2.2.2.2.2.2.2.2.2.2.2.2.1) dX9_bind_73 ?_
      refine lv_iload_n hx hb dX9_bind_76 rfl (lv_at hl 1 rfl) ?_
      refine lv_aload_n hx hb dX9_bind_77 rfl (lv_at hl 0 rfl) ?_
      refine cg_9_5 hx hb hts inX9_bind_X9 hown hK hP (hts _ lkX9_bind_f24) dX9_bind_78 ?_
      refine cs_16 hx hb hK hP hD hS hgn (by omega) dX9_bind_81 (fun H locs hP hD hS => ?_)
      have hP : va_P (dC, dI) vwCl (CW cB cC cI cJ cZ a F (va_up (va_up (va_up (va_up (va_up X 19 (upd (X 19) ((F 23).toInt).toNat (oI x))) 20 (upd (X 20) ((F 23).toInt).toNat (oI w_7.toInt))) 22 (upd (X 22) ((F 23).toInt).toNat (oI y))) 21 (upd (X 21) ((F 23).toInt).toNat (oI z))) 16 (upd (X 16) (x).toNat (oI ((F 23).toInt)))) J R gf gn) H := hP
      have hD : va_D A (CW cB cC cI cJ cZ a F (va_up (va_up (va_up (va_up (va_up X 19 (upd (X 19) ((F 23).toInt).toNat (oI x))) 20 (upd (X 20) ((F 23).toInt).toNat (oI w_7.toInt))) 22 (upd (X 22) ((F 23).toInt).toNat (oI y))) 21 (upd (X 21) ((F 23).toInt).toNat (oI z))) 16 (upd (X 16) (x).toNat (oI ((F 23).toInt)))) J R gf gn) := hD
      refine lv_aload_n hx hb dX9_bind_82 rfl (lv_at hl 0 rfl) ?_
      refine lv_dup hx hb dX9_bind_83 rfl ?_
      refine cg_9_5 hx hb hts inX9_bind_X9 hown hK hP (hts _ lkX9_bind_f24) dX9_bind_84 ?_
      refine lv_iconst (v := oI 1) hx hb dX9_bind_87 (by decide) ?_
      refine lv_iadd hx hb dX9_bind_88 ?_
      refine tp_i (oI_add ((F 23).toInt) 1) ?_
      refine cp_9_5 hx hb hts inX9_bind_X9 hown hK hP hD hS (hts _ lkX9_bind_f24) dX9_bind_89 (fun H locs hP hD hS => ?_)
      have hP : va_P (dC, dI) vwCl (CW cB cC cI cJ cZ a (va_up F 23 (oI (((F 23).toInt) + 1))) (va_up (va_up (va_up (va_up (va_up X 19 (upd (X 19) ((F 23).toInt).toNat (oI x))) 20 (upd (X 20) ((F 23).toInt).toNat (oI w_7.toInt))) 22 (upd (X 22) ((F 23).toInt).toNat (oI y))) 21 (upd (X 21) ((F 23).toInt).toNat (oI z))) 16 (upd (X 16) (x).toNat (oI ((F 23).toInt)))) J R gf gn) H := hP
      have hD : va_D A (CW cB cC cI cJ cZ a (va_up F 23 (oI (((F 23).toInt) + 1))) (va_up (va_up (va_up (va_up (va_up X 19 (upd (X 19) ((F 23).toInt).toNat (oI x))) 20 (upd (X 20) ((F 23).toInt).toNat (oI w_7.toInt))) 22 (upd (X 22) ((F 23).toInt).toNat (oI y))) 21 (upd (X 21) ((F 23).toInt).toNat (oI z))) 16 (upd (X 16) (x).toNat (oI ((F 23).toInt)))) J R gf gn) := hD
      have e_9 : (oI (((F 23).toInt) + 1)).toInt = ((F 23).toInt) + 1 := toInt_oI (by omega)
      have eF9 : rg 23 23 F (va_up F 23 (oI (((F 23).toInt) + 1))) = va_up F 23 (oI (((F 23).toInt) + 1)) := by funext k; simp only [rg, va_up]; (repeat' split) <;> first | with_reducible rfl | omega
      have eX9 : rg 19 22 (rg 16 16 X (va_up (va_up (va_up (va_up (va_up X 19 (upd (X 19) ((F 23).toInt).toNat (oI x))) 20 (upd (X 20) ((F 23).toInt).toNat (oI w_7.toInt))) 22 (upd (X 22) ((F 23).toInt).toNat (oI y))) 21 (upd (X 21) ((F 23).toInt).toNat (oI z))) 16 (upd (X 16) (x).toNat (oI ((F 23).toInt))))) (va_up (va_up (va_up (va_up (va_up X 19 (upd (X 19) ((F 23).toInt).toNat (oI x))) 20 (upd (X 20) ((F 23).toInt).toNat (oI w_7.toInt))) 22 (upd (X 22) ((F 23).toInt).toNat (oI y))) 21 (upd (X 21) ((F 23).toInt).toNat (oI z))) 16 (upd (X 16) (x).toNat (oI ((F 23).toInt)))) = va_up (va_up (va_up (va_up (va_up X 19 (upd (X 19) ((F 23).toInt).toNat (oI x))) 20 (upd (X 20) ((F 23).toInt).toNat (oI w_7.toInt))) 22 (upd (X 22) ((F 23).toInt).toNat (oI y))) 21 (upd (X 21) ((F 23).toInt).toNat (oI z))) 16 (upd (X 16) (x).toNat (oI ((F 23).toInt))) := by funext k; simp only [rg, va_up]; (repeat' split) <;> first | with_reducible rfl | omega
      have hP9 : va_P (dC, dI) vwCl (CW cB cC cI cJ cZ a (rg 23 23 F (va_up F 23 (oI (((F 23).toInt) + 1)))) (rg 19 22 (rg 16 16 X (va_up (va_up (va_up (va_up (va_up X 19 (upd (X 19) ((F 23).toInt).toNat (oI x))) 20 (upd (X 20) ((F 23).toInt).toNat (oI w_7.toInt))) 22 (upd (X 22) ((F 23).toInt).toNat (oI y))) 21 (upd (X 21) ((F 23).toInt).toNat (oI z))) 16 (upd (X 16) (x).toNat (oI ((F 23).toInt))))) (va_up (va_up (va_up (va_up (va_up X 19 (upd (X 19) ((F 23).toInt).toNat (oI x))) 20 (upd (X 20) ((F 23).toInt).toNat (oI w_7.toInt))) 22 (upd (X 22) ((F 23).toInt).toNat (oI y))) 21 (upd (X 21) ((F 23).toInt).toNat (oI z))) 16 (upd (X 16) (x).toNat (oI ((F 23).toInt))))) J R gf gn) H := by rw [eF9, eX9]; exact hP
      have hD9 : va_D A (CW cB cC cI cJ cZ a (rg 23 23 F (va_up F 23 (oI (((F 23).toInt) + 1)))) (rg 19 22 (rg 16 16 X (va_up (va_up (va_up (va_up (va_up X 19 (upd (X 19) ((F 23).toInt).toNat (oI x))) 20 (upd (X 20) ((F 23).toInt).toNat (oI w_7.toInt))) 22 (upd (X 22) ((F 23).toInt).toNat (oI y))) 21 (upd (X 21) ((F 23).toInt).toNat (oI z))) 16 (upd (X 16) (x).toNat (oI ((F 23).toInt))))) (va_up (va_up (va_up (va_up (va_up X 19 (upd (X 19) ((F 23).toInt).toNat (oI x))) 20 (upd (X 20) ((F 23).toInt).toNat (oI w_7.toInt))) 22 (upd (X 22) ((F 23).toInt).toNat (oI y))) 21 (upd (X 21) ((F 23).toInt).toNat (oI z))) 16 (upd (X 16) (x).toNat (oI ((F 23).toInt))))) J R gf gn) := by rw [eF9, eX9]; exact hD
      have hpost : (0 ≤ (oI (((F 23).toInt) + 1)).toInt ∧ (oI (((F 23).toInt) + 1)).toInt ≤ 606) ∧ VB (upd (X 22) ((F 23).toInt).toNat (oI y)) := ⟨by omega, VB_upd hva (by omega)⟩
      exact W.vret hx hb hr (fun t ht hW => ⟨⟨(va_up F 23 (oI (((F 23).toInt) + 1)), va_up (va_up (va_up (va_up (va_up X 19 (upd (X 19) ((F 23).toInt).toNat (oI x))) 20 (upd (X 20) ((F 23).toInt).toNat (oI w_7.toInt))) 22 (upd (X 22) ((F 23).toInt).toNat (oI y))) 21 (upd (X 21) ((F 23).toInt).toNat (oI z))) 16 (upd (X 16) (x).toNat (oI ((F 23).toInt)))), rfl, hpost, by rw [ht]; exact hP9, va_K.moved hW.alike hK, hD9⟩, hS.F ht⟩) hS.2.2 dX9_bind_92

set_option maxHeartbeats 4000000 in
set_option maxRecDepth 100000 in
/-- X9_bindVariable -/
theorem c_bindVariable (l : Launch) (dC : Nat → ClassId) (dI : Nat → Nat → Nat) (cB cC cI cJ cZ : ClassId) (a : Nat → Nat) (F : Nat → Int32) (X : Nat → Nat → Int32) (J : Nat → Nat → Int64) (R : Nat → Nat) (gf gn : Nat) (x y : Int)  (ix : (-2147483648 ≤ x ∧ x < 2147483648)) (iy : (-2147483648 ≤ y ∧ y < 2147483648)) (hgn : gn ≤ 63261) (hnt : 0 ≤ (F 13).toInt ∧ (F 13).toInt ≤ (gn : Int)) (hst : 0 ≤ (F 23).toInt ∧ (F 23).toInt ≤ 606) (hva : VB (X 22)) (hy2 : y < 1073741824) (s0 : Nat) : Met l yX9_bindVariable vX9_bindVariable { frames := 3, cells := 0, slots := 0, locals := 104 } (va_Pc [.ref (a 9), .int (oI x), .int (oI y)] (cPre dC dI cB cC cI cJ cZ a F X J R gf gn s0)) (va_Qv (fun (u : (Nat → Int32) × (Nat → Nat → Int32)) => match u with | (F1, X1) => (0 ≤ (F1 23).toInt ∧ (F1 23).toInt ≤ 606) ∧ VB (X1 22)) (fun u => cPost dC dI cB cC cI cJ cZ a (rg 23 23 F u.1) (rg 19 22 (rg 16 16 X u.2) u.2) J R gf gn (va_A (CW cB cC cI cJ cZ a F X J R gf gn) s0)) (va_A (CW cB cC cI cJ cZ a F X J R gf gn) s0)) 0 0 (va_A (CW cB cC cI cJ cZ a F X J R gf gn) s0) := by
  refine Met.ofW (cc := cX9_bindVariable) (maxL := 3) (ret := none) (by decide) rfl ?_
  intro p e s m args below meth c s₁ B9 hml hv
  obtain ⟨rfl, hsz0, hP, hK, hD0, hNW⟩ := hv
  have hx := B9.exec
  have hb := B9.bytes
  have hr := B9.returns
  have hts := atoms_spec (ws := vX9_bindVariable) B9.pre
  have hown : s.vm.findClass RX9 = some m.cls := findClass_of_methodNamed B9.named
  have hlocks := B9.notSynchronized
  clear B9
  subst hsz0
  have hD := hD0.self (sz := s.heap.size)
  generalize hAe : va_A (CW cB cC cI cJ cZ a F X J R gf gn) s.heap.size = A at hD ⊢
  have hA : ∀ q : Nat, s.heap.size ≤ q → A q := fun q h => by rw [← hAe]; exact Or.inr h
  have hS : va_S A s.heap s.heap [] := va_S.rf
  have hcs : 0 + 0 ≤ (0 : Nat) ∧ 0 + 0 ≤ (0 : Nat) := ⟨Nat.le_refl 0, Nat.le_refl 0⟩
  have hl := lv_entry ([.ref (a 9), .int (oI x), .int (oI y)]) (n := 3) (Nat.le_of_ble_eq_true rfl)
  rw [lg_entry_eq]
  generalize (lg_sl ([.ref (a 9), .int (oI x), .int (oI y)]) ++ List.replicate (3 - (lg_sl ([.ref (a 9), .int (oI x), .int (oI y)])).length) Slot.unset).toArray = ls at hl ⊢
  have hl : lv_has ls 3 [(0, .ref (a 9)), (1, .int (oI x)), (2, .int (oI y))] := hl
  refine lv_aload_n hx hb dX9_bindVariable_0 rfl (lv_at hl 0 rfl) ?_
  refine lv_iload_n hx hb dX9_bindVariable_1 rfl (lv_at hl 1 rfl) ?_
  refine lv_iload_n hx hb dX9_bindVariable_2 rfl (lv_at hl 2 rfl) ?_
  refine lv_iconst (v := oI (-1)) hx hb dX9_bindVariable_3 (by decide) ?_
  refine ccp_vV (As := [.int (oI x), .int (oI y), .int (oI ((-1)))]) (rest := []) (gF := fun F9 => rg 23 23 F F9) (gX := fun X9 => rg 19 22 (rg 16 16 X X9) X9) ⟨hx, hb, hml, hown, hts⟩ (c_bind l dC dI cB cC cI cJ cZ a F X J R gf gn x y ((-1))  (by omega) (by omega) (by decide) (show gn ≤ 63261 from by first | assumption | omega) (show 0 ≤ (F 13).toInt ∧ (F 13).toInt ≤ (gn : Int) from by first | assumption | omega) (show 0 ≤ (F 23).toInt ∧ (F 23).toInt ≤ 606 from by first | assumption | omega) (show VB (X 22) from by first | assumption | omega) (show y < 1073741824 from by first | assumption | omega) s.heap.size) (cwV 3 hts kX9_bindVariable_X9_bind_32 rfl rfl rfl (by decide +kernel) ⟨Nat.le_of_ble_eq_true rfl, Nat.le_of_ble_eq_true rfl⟩) (va_recv hK hP (ci := 9) (q0 := 9) rfl rfl) hK hNW hP hD hS hA rfl rfl hl.1 (lv_room (Nat.le_of_ble_eq_true rfl)) dX9_bindVariable_4 hcs (fun F_1 X_2 hw_3 H locs hP hD hS => ?_)
  have hw_3 : (0 ≤ (F_1 23).toInt ∧ (F_1 23).toInt ≤ 606) ∧ VB (X_2 22) := hw_3
  obtain ⟨hst, hva⟩ := hw_3
  have eF9 : rg 23 23 F (rg 23 23 F F_1) = rg 23 23 F F_1 := by funext k; simp only [rg, va_up]; (repeat' split) <;> first | with_reducible rfl | omega
  have eX9 : rg 19 22 (rg 16 16 X (rg 19 22 (rg 16 16 X X_2) X_2)) (rg 19 22 (rg 16 16 X X_2) X_2) = rg 19 22 (rg 16 16 X X_2) X_2 := by funext k; simp only [rg, va_up]; (repeat' split) <;> first | with_reducible rfl | omega
  have hP9 : va_P (dC, dI) vwCl (CW cB cC cI cJ cZ a (rg 23 23 F (rg 23 23 F F_1)) (rg 19 22 (rg 16 16 X (rg 19 22 (rg 16 16 X X_2) X_2)) (rg 19 22 (rg 16 16 X X_2) X_2)) J R gf gn) H := by rw [eF9, eX9]; exact hP
  have hD9 : va_D A (CW cB cC cI cJ cZ a (rg 23 23 F (rg 23 23 F F_1)) (rg 19 22 (rg 16 16 X (rg 19 22 (rg 16 16 X X_2) X_2)) (rg 19 22 (rg 16 16 X X_2) X_2)) J R gf gn) := by rw [eF9, eX9]; exact hD
  have hpost : (0 ≤ (F_1 23).toInt ∧ (F_1 23).toInt ≤ 606) ∧ VB (X_2 22) := by first | assumption | omega | (with_reducible rfl) | ((repeat' apply And.intro) <;> first | assumption | omega | (with_reducible rfl))
  exact W.vret hx hb hr (fun t ht hW => ⟨⟨(rg 23 23 F F_1, rg 19 22 (rg 16 16 X X_2) X_2), rfl, hpost, by rw [ht]; exact hP9, va_K.moved hW.alike hK, hD9⟩, hS.F ht⟩) hS.2.2 dX9_bindVariable_7

set_option maxHeartbeats 4000000 in
set_option maxRecDepth 100000 in
/-- X9_bindMacro -/
theorem c_bindMacro (l : Launch) (dC : Nat → ClassId) (dI : Nat → Nat → Nat) (cB cC cI cJ cZ : ClassId) (a : Nat → Nat) (F : Nat → Int32) (X : Nat → Nat → Int32) (J : Nat → Nat → Int64) (R : Nat → Nat) (gf gn : Nat) (x y z : Int)  (ix : (-2147483648 ≤ x ∧ x < 2147483648)) (iy : (-2147483648 ≤ y ∧ y < 2147483648)) (iz : (-2147483648 ≤ z ∧ z < 2147483648)) (hgn : gn ≤ 63261) (hnt : 0 ≤ (F 13).toInt ∧ (F 13).toInt ≤ (gn : Int)) (hst : 0 ≤ (F 23).toInt ∧ (F 23).toInt ≤ 606) (hva : VB (X 22)) (hy2 : y < 1073741824) (s0 : Nat) : Met l yX9_bindMacro vX9_bindMacro { frames := 3, cells := 0, slots := 0, locals := 104 } (va_Pc [.ref (a 9), .int (oI x), .int (oI y), .int (oI z)] (cPre dC dI cB cC cI cJ cZ a F X J R gf gn s0)) (va_Qv (fun (u : (Nat → Int32) × (Nat → Nat → Int32)) => match u with | (F1, X1) => (0 ≤ (F1 23).toInt ∧ (F1 23).toInt ≤ 606) ∧ VB (X1 22)) (fun u => cPost dC dI cB cC cI cJ cZ a (rg 23 23 F u.1) (rg 19 22 (rg 16 16 X u.2) u.2) J R gf gn (va_A (CW cB cC cI cJ cZ a F X J R gf gn) s0)) (va_A (CW cB cC cI cJ cZ a F X J R gf gn) s0)) 0 0 (va_A (CW cB cC cI cJ cZ a F X J R gf gn) s0) := by
  refine Met.ofW (cc := cX9_bindMacro) (maxL := 4) (ret := none) (by decide) rfl ?_
  intro p e s m args below meth c s₁ B9 hml hv
  obtain ⟨rfl, hsz0, hP, hK, hD0, hNW⟩ := hv
  have hx := B9.exec
  have hb := B9.bytes
  have hr := B9.returns
  have hts := atoms_spec (ws := vX9_bindMacro) B9.pre
  have hown : s.vm.findClass RX9 = some m.cls := findClass_of_methodNamed B9.named
  have hlocks := B9.notSynchronized
  clear B9
  subst hsz0
  have hD := hD0.self (sz := s.heap.size)
  generalize hAe : va_A (CW cB cC cI cJ cZ a F X J R gf gn) s.heap.size = A at hD ⊢
  have hA : ∀ q : Nat, s.heap.size ≤ q → A q := fun q h => by rw [← hAe]; exact Or.inr h
  have hS : va_S A s.heap s.heap [] := va_S.rf
  have hcs : 0 + 0 ≤ (0 : Nat) ∧ 0 + 0 ≤ (0 : Nat) := ⟨Nat.le_refl 0, Nat.le_refl 0⟩
  have hl := lv_entry ([.ref (a 9), .int (oI x), .int (oI y), .int (oI z)]) (n := 4) (Nat.le_of_ble_eq_true rfl)
  rw [lg_entry_eq]
  generalize (lg_sl ([.ref (a 9), .int (oI x), .int (oI y), .int (oI z)]) ++ List.replicate (4 - (lg_sl ([.ref (a 9), .int (oI x), .int (oI y), .int (oI z)])).length) Slot.unset).toArray = ls at hl ⊢
  have hl : lv_has ls 4 [(0, .ref (a 9)), (1, .int (oI x)), (2, .int (oI y)), (3, .int (oI z))] := hl
  refine lv_aload_n hx hb dX9_bindMacro_0 rfl (lv_at hl 0 rfl) ?_
  refine lv_iload_n hx hb dX9_bindMacro_1 rfl (lv_at hl 1 rfl) ?_
  refine lv_iload_n hx hb dX9_bindMacro_2 rfl (lv_at hl 2 rfl) ?_
  refine lv_iload_n hx hb dX9_bindMacro_3 rfl (lv_at hl 3 rfl) ?_
  refine ccp_vV (As := [.int (oI x), .int (oI y), .int (oI z)]) (rest := []) (gF := fun F9 => rg 23 23 F F9) (gX := fun X9 => rg 19 22 (rg 16 16 X X9) X9) ⟨hx, hb, hml, hown, hts⟩ (c_bind l dC dI cB cC cI cJ cZ a F X J R gf gn x y z  (by omega) (by omega) (by omega) (show gn ≤ 63261 from by first | assumption | omega) (show 0 ≤ (F 13).toInt ∧ (F 13).toInt ≤ (gn : Int) from by first | assumption | omega) (show 0 ≤ (F 23).toInt ∧ (F 23).toInt ≤ 606 from by first | assumption | omega) (show VB (X 22) from by first | assumption | omega) (show y < 1073741824 from by first | assumption | omega) s.heap.size) (cwV 3 hts kX9_bindMacro_X9_bind_32 rfl rfl rfl (by decide +kernel) ⟨Nat.le_of_ble_eq_true rfl, Nat.le_of_ble_eq_true rfl⟩) (va_recv hK hP (ci := 9) (q0 := 9) rfl rfl) hK hNW hP hD hS hA rfl rfl hl.1 (lv_room (Nat.le_of_ble_eq_true rfl)) dX9_bindMacro_4 hcs (fun F_1 X_2 hw_3 H locs hP hD hS => ?_)
  have hw_3 : (0 ≤ (F_1 23).toInt ∧ (F_1 23).toInt ≤ 606) ∧ VB (X_2 22) := hw_3
  obtain ⟨hst, hva⟩ := hw_3
  have eF9 : rg 23 23 F (rg 23 23 F F_1) = rg 23 23 F F_1 := by funext k; simp only [rg, va_up]; (repeat' split) <;> first | with_reducible rfl | omega
  have eX9 : rg 19 22 (rg 16 16 X (rg 19 22 (rg 16 16 X X_2) X_2)) (rg 19 22 (rg 16 16 X X_2) X_2) = rg 19 22 (rg 16 16 X X_2) X_2 := by funext k; simp only [rg, va_up]; (repeat' split) <;> first | with_reducible rfl | omega
  have hP9 : va_P (dC, dI) vwCl (CW cB cC cI cJ cZ a (rg 23 23 F (rg 23 23 F F_1)) (rg 19 22 (rg 16 16 X (rg 19 22 (rg 16 16 X X_2) X_2)) (rg 19 22 (rg 16 16 X X_2) X_2)) J R gf gn) H := by rw [eF9, eX9]; exact hP
  have hD9 : va_D A (CW cB cC cI cJ cZ a (rg 23 23 F (rg 23 23 F F_1)) (rg 19 22 (rg 16 16 X (rg 19 22 (rg 16 16 X X_2) X_2)) (rg 19 22 (rg 16 16 X X_2) X_2)) J R gf gn) := by rw [eF9, eX9]; exact hD
  have hpost : (0 ≤ (F_1 23).toInt ∧ (F_1 23).toInt ≤ 606) ∧ VB (X_2 22) := by first | assumption | omega | (with_reducible rfl) | ((repeat' apply And.intro) <;> first | assumption | omega | (with_reducible rfl))
  exact W.vret hx hb hr (fun t ht hW => ⟨⟨(rg 23 23 F F_1, rg 19 22 (rg 16 16 X X_2) X_2), rfl, hpost, by rw [ht]; exact hP9, va_K.moved hW.alike hK, hD9⟩, hS.F ht⟩) hS.2.2 dX9_bindMacro_7

set_option maxHeartbeats 4000000 in
set_option maxRecDepth 100000 in
/-- X9_isBoundSince -/
theorem c_isBoundSince (l : Launch) (dC : Nat → ClassId) (dI : Nat → Nat → Nat) (cB cC cI cJ cZ : ClassId) (a : Nat → Nat) (F : Nat → Int32) (X : Nat → Nat → Int32) (J : Nat → Nat → Int64) (R : Nat → Nat) (gf gn : Nat) (x y : Int)  (ix : (-2147483648 ≤ x ∧ x < 2147483648)) (iy : (-2147483648 ≤ y ∧ y < 2147483648)) (hgn : gn ≤ 63261) (hnt : 0 ≤ (F 13).toInt ∧ (F 13).toInt ≤ (gn : Int)) (s0 : Nat) : Met l yX9_isBoundSince vX9_isBoundSince { frames := 2, cells := 0, slots := 0, locals := 81 } (va_Pc [.ref (a 9), .int (oI x), .int (oI y)] (cPre dC dI cB cC cI cJ cZ a F X J R gf gn s0)) (va_Qi (fun (r : Int32) (_ : Unit) => True) (fun _ => cPost dC dI cB cC cI cJ cZ a F X J R gf gn (va_A (CW cB cC cI cJ cZ a F X J R gf gn) s0)) (va_A (CW cB cC cI cJ cZ a F X J R gf gn) s0)) 0 0 (va_A (CW cB cC cI cJ cZ a F X J R gf gn) s0) := by
  refine Met.ofW (cc := cX9_isBoundSince) (maxL := 3) (ret := (some .boolean)) (by decide) rfl ?_
  intro p e s m args below meth c s₁ B9 hml hv
  obtain ⟨rfl, hsz0, hP, hK, hD0, hNW⟩ := hv
  have hx := B9.exec
  have hb := B9.bytes
  have hr := B9.returns
  have hts := atoms_spec (ws := vX9_isBoundSince) B9.pre
  have hown : s.vm.findClass RX9 = some m.cls := findClass_of_methodNamed B9.named
  have hlocks := B9.notSynchronized
  clear B9
  subst hsz0
  have hD := hD0.self (sz := s.heap.size)
  generalize hAe : va_A (CW cB cC cI cJ cZ a F X J R gf gn) s.heap.size = A at hD ⊢
  have hA : ∀ q : Nat, s.heap.size ≤ q → A q := fun q h => by rw [← hAe]; exact Or.inr h
  have hS : va_S A s.heap s.heap [] := va_S.rf
  have hcs : 0 + 0 ≤ (0 : Nat) ∧ 0 + 0 ≤ (0 : Nat) := ⟨Nat.le_refl 0, Nat.le_refl 0⟩
  have hl := lv_entry ([.ref (a 9), .int (oI x), .int (oI y)]) (n := 3) (Nat.le_of_ble_eq_true rfl)
  rw [lg_entry_eq]
  generalize (lg_sl ([.ref (a 9), .int (oI x), .int (oI y)]) ++ List.replicate (3 - (lg_sl ([.ref (a 9), .int (oI x), .int (oI y)])).length) Slot.unset).toArray = ls at hl ⊢
  have hl : lv_has ls 3 [(0, .ref (a 9)), (1, .int (oI x)), (2, .int (oI y))] := hl
  refine lv_aload_n hx hb dX9_isBoundSince_0 rfl (lv_at hl 0 rfl) ?_
  refine cg_9_0 hx hb hts inX9_isBoundSince_X9 hown hK hP (hts _ lkX9_isBoundSince_f28) dX9_isBoundSince_1 ?_
  refine lv_iload_n hx hb dX9_isBoundSince_4 rfl (lv_at hl 2 rfl) ?_
  refine ccs_iV (As := [.int (oI y)]) (rest := []) ⟨hx, hb, hml, hown, hts⟩ (c_has l dC dI cB cC cI cJ cZ a F X J R gf gn y  (by omega)   s.heap.size) (cwV 1 hts kX9_isBoundSince_X6_has_36 rfl rfl rfl (by decide +kernel) ⟨Nat.le_of_ble_eq_true rfl, Nat.le_of_ble_eq_true rfl⟩) (va_recv hK hP (ci := 6) (q0 := 6) rfl rfl) hK hNW hP hD hS hA rfl rfl hl.1 (lv_room (Nat.le_of_ble_eq_true rfl)) dX9_isBoundSince_5 hcs (fun r_1 hw_2 H locs hP hD hS => ?_)
  have hw_2 : ((r_1).toInt = 1 ∧ 0 ≤ y ∧ y < (F 13).toInt) ∨ ((r_1).toInt = 0 ∧ ¬ (0 ≤ y ∧ y < (F 13).toInt)) := hw_2
  have hha := hw_2
  have i_3 := i32r r_1
  refine cz_eq (tgt := 28) hx hb (i32r _) dX9_isBoundSince_8 (by decide) (fun c_4 => ?_) (fun c_4 => ?_)
  · refine lv_iconst (v := oI 0) hx hb dX9_isBoundSince_28 (by decide) ?_
    have hpost : True := trivial
    exact W.zret (v := (oI 0)) hx hb hr (by first | rfl | decide | exact zb9 (by omega)) (fun t ht hW => ⟨⟨(oI 0), (), rfl, hpost, by rw [ht]; exact hP, va_K.moved hW.alike hK, hD⟩, hS.F ht⟩) hS.2.2 dX9_isBoundSince_29
  · refine lv_aload_n hx hb dX9_isBoundSince_11 rfl (lv_at hl 0 rfl) ?_
    refine cg_9_0 hx hb hts inX9_isBoundSince_X9 hown hK hP (hts _ lkX9_isBoundSince_f28) dX9_isBoundSince_12 ?_
    refine cgN_6_8 hx hb hts inX9_isBoundSince_X6 hown hK hP (va_Nw.use rfl hNW.2.2.2.2.2.2.2.2.2.2.2.2.2.2.2.1) dX9_isBoundSince_15 ?_
    refine lv_iload_n hx hb dX9_isBoundSince_18 rfl (lv_at hl 2 rfl) ?_
    refine cl_16 hx hb hK hP hgn (by omega) dX9_isBoundSince_19 (fun w_5 hw_5 => ?_)
    have i_6 := i32r w_5
    refine lv_iload_n hx hb dX9_isBoundSince_20 rfl (lv_at hl 1 rfl) ?_
    refine ci_lt (tgt := 28) hx hb (i32r _) (by omega) dX9_isBoundSince_21 (by decide) (fun c_7 => ?_) (fun c_7 => ?_)
    · refine lv_iconst (v := oI 0) hx hb dX9_isBoundSince_28 (by decide) ?_
      have hpost : True := trivial
      exact W.zret (v := (oI 0)) hx hb hr (by first | rfl | decide | exact zb9 (by omega)) (fun t ht hW => ⟨⟨(oI 0), (), rfl, hpost, by rw [ht]; exact hP, va_K.moved hW.alike hK, hD⟩, hS.F ht⟩) hS.2.2 dX9_isBoundSince_29
    · refine lv_iconst (v := oI 1) hx hb dX9_isBoundSince_24 (by decide) ?_
      refine lv_goto (tgt := 29) hx hb dX9_isBoundSince_25 (by decide) ?_
      have hpost : True := trivial
      exact W.zret (v := (oI 1)) hx hb hr (by first | rfl | decide | exact zb9 (by omega)) (fun t ht hW => ⟨⟨(oI 1), (), rfl, hpost, by rw [ht]; exact hP, va_K.moved hW.alike hK, hD⟩, hS.F ht⟩) hS.2.2 dX9_isBoundSince_29

set_option maxHeartbeats 4000000 in
set_option maxRecDepth 100000 in
theorem lp_leaveTo {p : Program} {l : Launch} {e : Env} {s : State} {m : MethodId} {args : Array Value} {below : List Frame} {meth : Method} {c : Code} {A : Nat → Prop} {dC : Nat → ClassId} {dI : Nat → Nat → Nat} {cB cC cI cJ cZ : ClassId} {a : Nat → Nat} {F : Nat → Int32} {X : Nat → Nat → Int32} {J : Nat → Nat → Int64} {R : Nat → Nat} {gf gn : Nat} (hx : p.tables.exec = Jvm.exec) (hb : c.code = cX9_leaveTo) (hml : c.maxLocals = 2) (hown : s.vm.findClass RX9 = some m.cls) (hts : ∀ w ∈ vX9_leaveTo, w.before args s = true) (hK : va_K (dC, dI) vwCl (TY cB cC cI cJ cZ) s) (hNW : NW s) (hA : ∀ q : Nat, s.heap.size ≤ q → A q) (hr : meth.sig.returnType = none) (hlocks : meth.locks = false) (x : Int)  (ix : (-2147483648 ≤ x ∧ x < 2147483648)) (hgn : gn ≤ 63261) (hnt : 0 ≤ (F 13).toInt ∧ (F 13).toInt ≤ (gn : Int)) (hst : 0 ≤ (F 23).toInt ∧ (F 23).toInt ≤ 606)   : ∀ (k : Nat) (F1 : Nat → Int32) (X1 : Nat → Nat → Int32) , ((F1 23).toInt).toNat < k → (0 ≤ (F1 23).toInt ∧ (F1 23).toInt ≤ 606) → ∀ (H : Heap) (locs : List Loc), va_P (dC, dI) vwCl (CW cB cC cI cJ cZ a (rg 23 23 F F1) (rg 16 16 X X1) J R gf gn) H → va_D A (CW cB cC cI cJ cZ a (rg 23 23 F F1) (rg 16 16 X X1) J R gf gn) → va_S A s.heap H locs → ∀ (ls : Array Slot), lv_has ls 2 [(0, .ref (a 9)), (1, .int (oI x))] → W p l e (headSpec vX9_leaveTo { frames := 2, cells := 0, slots := 0, locals := 81 }).room s m args below meth c H locs 0 0 (MQ below (va_Qv (fun (u : (Nat → Int32) × (Nat → Nat → Int32)) => match u with | (F1, X1) => 0 ≤ (F1 23).toInt ∧ (F1 23).toInt ≤ 606) (fun u => cPost dC dI cB cC cI cJ cZ a (rg 23 23 F u.1) (rg 16 16 X u.2) J R gf gn A) A) args s 0 0 A) (F0 m 0 ls []) := by
  have hcs : 0 + 0 ≤ (0 : Nat) ∧ 0 + 0 ≤ (0 : Nat) := ⟨Nat.le_refl 0, Nat.le_refl 0⟩
  intro k
  induction k with
  | zero =>
    intro F1 X1  hk hst1
    exact absurd hk (Nat.not_lt_zero _)
  | succ k ih =>
    intro F1 X1  hk hst1 H locs hP hD hS ls hl
    refine lv_aload_n hx hb dX9_leaveTo_0 rfl (lv_at hl 0 rfl) ?_
    refine cg_9_5 hx hb hts inX9_leaveTo_X9 hown hK hP (hts _ lkX9_leaveTo_f24) dX9_leaveTo_1 ?_
    refine tp_i (y := oI (F1 23).toInt) rfl ?_
    have i_1 := i32r (F1 23)
    refine cz_le (tgt := 73) hx hb (i32r _) dX9_leaveTo_4 (by decide) (fun c_2 => ?_) (fun c_2 => ?_)
    · have eF9 : rg 23 23 F (rg 23 23 F F1) = rg 23 23 F F1 := by funext k; simp only [rg, va_up]; (repeat' split) <;> first | with_reducible rfl | omega
      have eX9 : rg 16 16 X (rg 16 16 X X1) = rg 16 16 X X1 := by funext k; simp only [rg, va_up]; (repeat' split) <;> first | with_reducible rfl | omega
      have hP9 : va_P (dC, dI) vwCl (CW cB cC cI cJ cZ a (rg 23 23 F (rg 23 23 F F1)) (rg 16 16 X (rg 16 16 X X1)) J R gf gn) H := by rw [eF9, eX9]; exact hP
      have hD9 : va_D A (CW cB cC cI cJ cZ a (rg 23 23 F (rg 23 23 F F1)) (rg 16 16 X (rg 16 16 X X1)) J R gf gn) := by rw [eF9, eX9]; exact hD
      have hpost : 0 ≤ (F1 23).toInt ∧ (F1 23).toInt ≤ 606 := by first | assumption | omega | (with_reducible rfl) | ((repeat' apply And.intro) <;> first | assumption | omega | (with_reducible rfl))
      exact W.vret hx hb hr (fun t ht hW => ⟨⟨(rg 23 23 F F1, rg 16 16 X X1), rfl, hpost, by rw [ht]; exact hP9, va_K.moved hW.alike hK, hD9⟩, hS.F ht⟩) hS.2.2 dX9_leaveTo_73
    · refine lv_aload_n hx hb dX9_leaveTo_7 rfl (lv_at hl 0 rfl) ?_
      refine cg_9_5 hx hb hts inX9_leaveTo_X9 hown hK hP (hts _ lkX9_leaveTo_f24) dX9_leaveTo_8 ?_
      refine tp_i (y := oI (F1 23).toInt) rfl ?_
      refine lv_iload_n hx hb dX9_leaveTo_11 rfl (lv_at hl 1 rfl) ?_
      refine ci_le (tgt := 73) hx hb (i32r _) (by omega) dX9_leaveTo_12 (by decide) (fun c_3 => ?_) (fun c_3 => ?_)
      · have eF9 : rg 23 23 F (rg 23 23 F F1) = rg 23 23 F F1 := by funext k; simp only [rg, va_up]; (repeat' split) <;> first | with_reducible rfl | omega
        have eX9 : rg 16 16 X (rg 16 16 X X1) = rg 16 16 X X1 := by funext k; simp only [rg, va_up]; (repeat' split) <;> first | with_reducible rfl | omega
        have hP9 : va_P (dC, dI) vwCl (CW cB cC cI cJ cZ a (rg 23 23 F (rg 23 23 F F1)) (rg 16 16 X (rg 16 16 X X1)) J R gf gn) H := by rw [eF9, eX9]; exact hP
        have hD9 : va_D A (CW cB cC cI cJ cZ a (rg 23 23 F (rg 23 23 F F1)) (rg 16 16 X (rg 16 16 X X1)) J R gf gn) := by rw [eF9, eX9]; exact hD
        have hpost : 0 ≤ (F1 23).toInt ∧ (F1 23).toInt ≤ 606 := by first | assumption | omega | (with_reducible rfl) | ((repeat' apply And.intro) <;> first | assumption | omega | (with_reducible rfl))
        exact W.vret hx hb hr (fun t ht hW => ⟨⟨(rg 23 23 F F1, rg 16 16 X X1), rfl, hpost, by rw [ht]; exact hP9, va_K.moved hW.alike hK, hD9⟩, hS.F ht⟩) hS.2.2 dX9_leaveTo_73
      · refine lv_aload_n hx hb dX9_leaveTo_15 rfl (lv_at hl 0 rfl) ?_
        refine lv_dup hx hb dX9_leaveTo_16 rfl ?_
        refine cg_9_5 hx hb hts inX9_leaveTo_X9 hown hK hP (hts _ lkX9_leaveTo_f24) dX9_leaveTo_17 ?_
        refine tp_i (y := oI (F1 23).toInt) rfl ?_
        refine lv_iconst (v := oI 1) hx hb dX9_leaveTo_20 (by decide) ?_
        refine lv_isub hx hb dX9_leaveTo_21 ?_
        refine tp_i (oI_sub ((F1 23).toInt) 1) ?_
        refine cp_9_5 hx hb hts inX9_leaveTo_X9 hown hK hP hD hS (hts _ lkX9_leaveTo_f24) dX9_leaveTo_22 (fun H locs hP hD hS => ?_)
        have hP : va_P (dC, dI) vwCl (CW cB cC cI cJ cZ a (va_up (rg 23 23 F F1) 23 (oI (((F1 23).toInt) - 1))) (rg 16 16 X X1) J R gf gn) H := hP
        have hD : va_D A (CW cB cC cI cJ cZ a (va_up (rg 23 23 F F1) 23 (oI (((F1 23).toInt) - 1))) (rg 16 16 X X1) J R gf gn) := hD
        have e_4 : (oI (((F1 23).toInt) - 1)).toInt = ((F1 23).toInt) - 1 := toInt_oI (by omega)
        refine lv_aload_n hx hb dX9_leaveTo_25 rfl (lv_at hl 0 rfl) ?_
        refine cg_9_0 hx hb hts inX9_leaveTo_X9 hown hK hP (hts _ lkX9_leaveTo_f28) dX9_leaveTo_26 ?_
        refine lv_aload_n hx hb dX9_leaveTo_29 rfl (lv_at hl 0 rfl) ?_
        refine cg_9_1 hx hb hts inX9_leaveTo_X9 hown hK hP (hts _ lkX9_leaveTo_f11) dX9_leaveTo_30 ?_
        refine lv_aload_n hx hb dX9_leaveTo_33 rfl (lv_at hl 0 rfl) ?_
        refine cg_9_5 hx hb hts inX9_leaveTo_X9 hown hK hP (hts _ lkX9_leaveTo_f24) dX9_leaveTo_34 ?_
        refine tp_i (y := oI (((F1 23).toInt) - 1)) (oI_toInt _) ?_
        refine cl_19 hx hb hK hP (by omega) dX9_leaveTo_37 (fun w_5 hw_5 => ?_)
        have hw_5 : w_5 = (X 19) (((F1 23).toInt) - 1).toNat := hw_5
        have i_6 := i32r w_5
        refine ccs_iV (As := [.int (oI w_5.toInt)]) (rest := []) ⟨hx, hb, hml, hown, hts⟩ (c_has l dC dI cB cC cI cJ cZ a (va_up (rg 23 23 F F1) 23 (oI (((F1 23).toInt) - 1))) (rg 16 16 X X1) J R gf gn w_5.toInt  (i32r _)   H.size) (cwV 1 hts kX9_leaveTo_X6_has_36 rfl rfl rfl (by decide +kernel) ⟨Nat.le_of_ble_eq_true rfl, Nat.le_of_ble_eq_true rfl⟩) (va_recv hK hP (ci := 6) (q0 := 6) rfl rfl) hK hNW hP hD hS hA rfl rfl hl.1 (lv_room (Nat.le_of_ble_eq_true rfl)) dX9_leaveTo_38 hcs (fun r_7 hw_8 H locs hP hD hS => ?_)
        have hw_8 : ((r_7).toInt = 1 ∧ 0 ≤ w_5.toInt ∧ w_5.toInt < (F 13).toInt) ∨ ((r_7).toInt = 0 ∧ ¬ (0 ≤ w_5.toInt ∧ w_5.toInt < (F 13).toInt)) := hw_8
        have hha := hw_8
        have i_9 := i32r r_7
        refine cz_eq (tgt := 0) hx hb (i32r _) dX9_leaveTo_41 (by decide) (fun c_10 => ?_) (fun c_10 => ?_)
        · have eF9 : rg 23 23 F (va_up (rg 23 23 F F1) 23 (oI (((F1 23).toInt) - 1))) = va_up (rg 23 23 F F1) 23 (oI (((F1 23).toInt) - 1)) := by funext k; simp only [rg, va_up]; (repeat' split) <;> first | with_reducible rfl | omega
          have eX9 : rg 16 16 X (rg 16 16 X X1) = rg 16 16 X X1 := by funext k; simp only [rg, va_up]; (repeat' split) <;> first | with_reducible rfl | omega
          have hP9 : va_P (dC, dI) vwCl (CW cB cC cI cJ cZ a (rg 23 23 F (va_up (rg 23 23 F F1) 23 (oI (((F1 23).toInt) - 1)))) (rg 16 16 X (rg 16 16 X X1)) J R gf gn) H := by rw [eF9, eX9]; exact hP
          have hD9 : va_D A (CW cB cC cI cJ cZ a (rg 23 23 F (va_up (rg 23 23 F F1) 23 (oI (((F1 23).toInt) - 1)))) (rg 16 16 X (rg 16 16 X X1)) J R gf gn) := by rw [eF9, eX9]; exact hD
          exact ih (va_up (rg 23 23 F F1) 23 (oI (((F1 23).toInt) - 1))) (rg 16 16 X X1) (show ((oI (((F1 23).toInt) - 1)).toInt).toNat < k from by omega) (show 0 ≤ (oI (((F1 23).toInt) - 1)).toInt ∧ (oI (((F1 23).toInt) - 1)).toInt ≤ 606 from by first | assumption | omega | (with_reducible rfl) | ((repeat' apply And.intro) <;> first | assumption | omega | (with_reducible rfl))) _ _ hP9 hD9 hS ls (lv_sub hl [0, 1] rfl)
        · refine lv_aload_n hx hb dX9_leaveTo_44 rfl (lv_at hl 0 rfl) ?_
          refine cg_9_0 hx hb hts inX9_leaveTo_X9 hown hK hP (hts _ lkX9_leaveTo_f28) dX9_leaveTo_45 ?_
          refine cgN_6_8 hx hb hts inX9_leaveTo_X6 hown hK hP (va_Nw.use rfl hNW.2.2.2.2.2.2.2.2.2.2.2.2.2.2.2.1) dX9_leaveTo_48 ?_
          refine lv_aload_n hx hb dX9_leaveTo_51 rfl (lv_at hl 0 rfl) ?_
          refine cg_9_1 hx hb hts inX9_leaveTo_X9 hown hK hP (hts _ lkX9_leaveTo_f11) dX9_leaveTo_52 ?_
          refine lv_aload_n hx hb dX9_leaveTo_55 rfl (lv_at hl 0 rfl) ?_
          refine cg_9_5 hx hb hts inX9_leaveTo_X9 hown hK hP (hts _ lkX9_leaveTo_f24) dX9_leaveTo_56 ?_
          refine tp_i (y := oI (((F1 23).toInt) - 1)) (oI_toInt _) ?_
          refine cl_19 hx hb hK hP (by omega) dX9_leaveTo_59 (fun w_11 hw_11 => ?_)
          have hw_11 : w_11 = (X 19) (((F1 23).toInt) - 1).toNat := hw_11
          have i_12 := i32r w_11
          have q_13 : w_11.toInt = w_5.toInt := by rw [hw_11, hw_5]
          refine lv_aload_n hx hb dX9_leaveTo_60 rfl (lv_at hl 0 rfl) ?_
          refine cg_9_2 hx hb hts inX9_leaveTo_X9 hown hK hP (hts _ lkX9_leaveTo_f15) dX9_leaveTo_61 ?_
          refine lv_aload_n hx hb dX9_leaveTo_64 rfl (lv_at hl 0 rfl) ?_
          refine cg_9_5 hx hb hts inX9_leaveTo_X9 hown hK hP (hts _ lkX9_leaveTo_f24) dX9_leaveTo_65 ?_
          refine tp_i (y := oI (((F1 23).toInt) - 1)) (oI_toInt _) ?_
          refine cl_20 hx hb hK hP (by omega) dX9_leaveTo_68 (fun w_14 hw_14 => ?_)
          have hw_14 : w_14 = (X 20) (((F1 23).toInt) - 1).toNat := hw_14
          have i_15 := i32r w_14
          refine cs_16 hx hb hK hP hD hS hgn (by omega) dX9_leaveTo_69 (fun H locs hP hD hS => ?_)
          have hP : va_P (dC, dI) vwCl (CW cB cC cI cJ cZ a (va_up (rg 23 23 F F1) 23 (oI (((F1 23).toInt) - 1))) (va_up (rg 16 16 X X1) 16 (upd (X1 16) (w_11.toInt).toNat (oI w_14.toInt))) J R gf gn) H := hP
          have hD : va_D A (CW cB cC cI cJ cZ a (va_up (rg 23 23 F F1) 23 (oI (((F1 23).toInt) - 1))) (va_up (rg 16 16 X X1) 16 (upd (X1 16) (w_11.toInt).toNat (oI w_14.toInt))) J R gf gn) := hD
          refine lv_goto (tgt := 0) hx hb dX9_leaveTo_70 (by decide) ?_
          have eF9 : rg 23 23 F (va_up (rg 23 23 F F1) 23 (oI (((F1 23).toInt) - 1))) = va_up (rg 23 23 F F1) 23 (oI (((F1 23).toInt) - 1)) := by funext k; simp only [rg, va_up]; (repeat' split) <;> first | with_reducible rfl | omega
          have eX9 : rg 16 16 X (va_up (rg 16 16 X X1) 16 (upd (X1 16) (w_11.toInt).toNat (oI w_14.toInt))) = va_up (rg 16 16 X X1) 16 (upd (X1 16) (w_11.toInt).toNat (oI w_14.toInt)) := by funext k; simp only [rg, va_up]; (repeat' split) <;> first | with_reducible rfl | omega
          have hP9 : va_P (dC, dI) vwCl (CW cB cC cI cJ cZ a (rg 23 23 F (va_up (rg 23 23 F F1) 23 (oI (((F1 23).toInt) - 1)))) (rg 16 16 X (va_up (rg 16 16 X X1) 16 (upd (X1 16) (w_11.toInt).toNat (oI w_14.toInt)))) J R gf gn) H := by rw [eF9, eX9]; exact hP
          have hD9 : va_D A (CW cB cC cI cJ cZ a (rg 23 23 F (va_up (rg 23 23 F F1) 23 (oI (((F1 23).toInt) - 1)))) (rg 16 16 X (va_up (rg 16 16 X X1) 16 (upd (X1 16) (w_11.toInt).toNat (oI w_14.toInt)))) J R gf gn) := by rw [eF9, eX9]; exact hD
          exact ih (va_up (rg 23 23 F F1) 23 (oI (((F1 23).toInt) - 1))) (va_up (rg 16 16 X X1) 16 (upd (X1 16) (w_11.toInt).toNat (oI w_14.toInt))) (show ((oI (((F1 23).toInt) - 1)).toInt).toNat < k from by omega) (show 0 ≤ (oI (((F1 23).toInt) - 1)).toInt ∧ (oI (((F1 23).toInt) - 1)).toInt ≤ 606 from by first | assumption | omega | (with_reducible rfl) | ((repeat' apply And.intro) <;> first | assumption | omega | (with_reducible rfl))) _ _ hP9 hD9 hS ls (lv_sub hl [0, 1] rfl)

set_option maxHeartbeats 4000000 in
set_option maxRecDepth 100000 in
/-- X9_leaveTo -/
theorem c_leaveTo (l : Launch) (dC : Nat → ClassId) (dI : Nat → Nat → Nat) (cB cC cI cJ cZ : ClassId) (a : Nat → Nat) (F : Nat → Int32) (X : Nat → Nat → Int32) (J : Nat → Nat → Int64) (R : Nat → Nat) (gf gn : Nat) (x : Int)  (ix : (-2147483648 ≤ x ∧ x < 2147483648)) (hgn : gn ≤ 63261) (hnt : 0 ≤ (F 13).toInt ∧ (F 13).toInt ≤ (gn : Int)) (hst : 0 ≤ (F 23).toInt ∧ (F 23).toInt ≤ 606) (s0 : Nat) : Met l yX9_leaveTo vX9_leaveTo { frames := 2, cells := 0, slots := 0, locals := 81 } (va_Pc [.ref (a 9), .int (oI x)] (cPre dC dI cB cC cI cJ cZ a F X J R gf gn s0)) (va_Qv (fun (u : (Nat → Int32) × (Nat → Nat → Int32)) => match u with | (F1, X1) => 0 ≤ (F1 23).toInt ∧ (F1 23).toInt ≤ 606) (fun u => cPost dC dI cB cC cI cJ cZ a (rg 23 23 F u.1) (rg 16 16 X u.2) J R gf gn (va_A (CW cB cC cI cJ cZ a F X J R gf gn) s0)) (va_A (CW cB cC cI cJ cZ a F X J R gf gn) s0)) 0 0 (va_A (CW cB cC cI cJ cZ a F X J R gf gn) s0) := by
  refine Met.ofW (cc := cX9_leaveTo) (maxL := 2) (ret := none) (by decide) rfl ?_
  intro p e s m args below meth c s₁ B9 hml hv
  obtain ⟨rfl, hsz0, hP, hK, hD0, hNW⟩ := hv
  have hx := B9.exec
  have hb := B9.bytes
  have hr := B9.returns
  have hts := atoms_spec (ws := vX9_leaveTo) B9.pre
  have hown : s.vm.findClass RX9 = some m.cls := findClass_of_methodNamed B9.named
  have hlocks := B9.notSynchronized
  clear B9
  subst hsz0
  have hD := hD0.self (sz := s.heap.size)
  generalize hAe : va_A (CW cB cC cI cJ cZ a F X J R gf gn) s.heap.size = A at hD ⊢
  have hA : ∀ q : Nat, s.heap.size ≤ q → A q := fun q h => by rw [← hAe]; exact Or.inr h
  have hS : va_S A s.heap s.heap [] := va_S.rf
  have hcs : 0 + 0 ≤ (0 : Nat) ∧ 0 + 0 ≤ (0 : Nat) := ⟨Nat.le_refl 0, Nat.le_refl 0⟩
  have hl := lv_entry ([.ref (a 9), .int (oI x)]) (n := 2) (Nat.le_of_ble_eq_true rfl)
  rw [lg_entry_eq]
  generalize (lg_sl ([.ref (a 9), .int (oI x)]) ++ List.replicate (2 - (lg_sl ([.ref (a 9), .int (oI x)])).length) Slot.unset).toArray = ls at hl ⊢
  have hl : lv_has ls 2 [(0, .ref (a 9)), (1, .int (oI x))] := hl
  have eF9 : rg 23 23 F F = F := by funext k; simp only [rg, va_up]; (repeat' split) <;> first | with_reducible rfl | omega
  have eX9 : rg 16 16 X X = X := by funext k; simp only [rg, va_up]; (repeat' split) <;> first | with_reducible rfl | omega
  have hP9 : va_P (dC, dI) vwCl (CW cB cC cI cJ cZ a (rg 23 23 F F) (rg 16 16 X X) J R gf gn) s.heap := by rw [eF9, eX9]; exact hP
  have hD9 : va_D A (CW cB cC cI cJ cZ a (rg 23 23 F F) (rg 16 16 X X) J R gf gn) := by rw [eF9, eX9]; exact hD
  exact lp_leaveTo hx hb hml hown hts hK hNW hA hr hlocks x ix (by assumption) (by assumption) (by assumption)  _ F X (Nat.lt_succ_self _) (show 0 ≤ (F 23).toInt ∧ (F 23).toInt ≤ 606 from by first | assumption | omega | (with_reducible rfl) | ((repeat' apply And.intro) <;> first | assumption | omega | (with_reducible rfl))) _ _ hP9 hD9 hS ls (lv_sub hl [0, 1] rfl)

set_option maxHeartbeats 4000000 in
set_option maxRecDepth 100000 in
theorem lp_meanI {p : Program} {l : Launch} {e : Env} {s : State} {m : MethodId} {args : Array Value} {below : List Frame} {meth : Method} {c : Code} {Q : State → Prop} {A : Nat → Prop} {dC : Nat → ClassId} {dI : Nat → Nat → Nat} {cB cC cI cJ cZ : ClassId} {a : Nat → Nat} {F : Nat → Int32} {X : Nat → Nat → Int32} {J : Nat → Nat → Int64} {R : Nat → Nat} {gf gn : Nat} (hx : p.tables.exec = Jvm.exec) (hb : c.code = cX9_meaning) (hml : c.maxLocals = 6) (hown : s.vm.findClass RX9 = some m.cls) (hts : ∀ w ∈ vX9_meaning, w.before args s = true) (hK : va_K (dC, dI) vwCl (TY cB cC cI cJ cZ) s) (hNW : NW s) (hA : ∀ q : Nat, s.heap.size ≤ q → A q) (x y : Int)  (ix : (-2147483648 ≤ x ∧ x < 2147483648)) (iy : (-2147483648 ≤ y ∧ y < 2147483648)) (hgn : gn ≤ 63261) (hnt : 0 ≤ (F 13).toInt ∧ (F 13).toInt ≤ (gn : Int)) (hst : 0 ≤ (F 23).toInt ∧ (F 23).toInt ≤ 606) (hsy : 0 ≤ (F 15).toInt ∧ (F 15).toInt ≤ 2560) (hru : VB (X 12))  (en at1 : Int) (ien : (-2147483648 ≤ en ∧ en < 2147483648)) (iat1 : (-2147483648 ≤ at1 ∧ at1 < 2147483648)) (ke67 : ∀ (fo : Int), (-2147483648 ≤ fo ∧ fo < 2147483648) → ∀ (H : Heap) (locs : List Loc), va_P (dC, dI) vwCl (CW cB cC cI cJ cZ a F X J R gf gn) H → va_D A (CW cB cC cI cJ cZ a F X J R gf gn) → va_S A s.heap H locs → ∀ (ls : Array Slot), lv_has ls 6 [(0, .ref (a 9)), (1, .int (oI x)), (2, .int (oI y)), (3, .int (oI en)), (4, .int (oI at1)), (5, .int (oI fo))] → W p l e (headSpec vX9_meaning { frames := 2, cells := 0, slots := 0, locals := 81 }).room s m args below meth c H locs 0 0 (Q) (F0 m 67 ls [])) : ∀ (k : Nat) (fo : Int), (fo + 1).toNat < k → (-2147483648 ≤ fo ∧ fo < 2147483648) → ∀ (H : Heap) (locs : List Loc), va_P (dC, dI) vwCl (CW cB cC cI cJ cZ a F X J R gf gn) H → va_D A (CW cB cC cI cJ cZ a F X J R gf gn) → va_S A s.heap H locs → ∀ (ls : Array Slot), lv_has ls 6 [(0, .ref (a 9)), (1, .int (oI x)), (2, .int (oI y)), (3, .int (oI en)), (4, .int (oI at1)), (5, .int (oI fo))] → W p l e (headSpec vX9_meaning { frames := 2, cells := 0, slots := 0, locals := 81 }).room s m args below meth c H locs 0 0 (Q) (F0 m 29 ls []) := by
  have hcs : 0 + 0 ≤ (0 : Nat) ∧ 0 + 0 ≤ (0 : Nat) := ⟨Nat.le_refl 0, Nat.le_refl 0⟩
  intro k
  induction k with
  | zero =>
    intro fo hk ifo9
    exact absurd hk (Nat.not_lt_zero _)
  | succ k ih =>
    intro fo hk ifo9 H locs hP hD hS ls hl
    refine lv_iload hx hb dX9_meaning_29 (lv_at hl 5 rfl) ?_
    refine cz_lt (tgt := 67) hx hb (by omega) dX9_meaning_31 (by decide) (fun c_1 => ?_) (fun c_1 => ?_)
    · exact ke67 fo (by omega) _ _ hP hD hS ls (lv_sub hl [0, 1, 2, 3, 4, 5] rfl)
    · refine lv_iload hx hb dX9_meaning_34 (lv_at hl 5 rfl) ?_
      refine lv_iload_n hx hb dX9_meaning_36 rfl (lv_at hl 3 rfl) ?_
      refine ci_lt (tgt := 67) hx hb (by omega) (by omega) dX9_meaning_37 (by decide) (fun c_2 => ?_) (fun c_2 => ?_)
      · exact ke67 fo (by omega) _ _ hP hD hS ls (lv_sub hl [0, 1, 2, 3, 4, 5] rfl)
      · refine lv_iload hx hb dX9_meaning_40 (lv_at hl 5 rfl) ?_
        refine lv_sipush (v := oI 606) hx hb dX9_meaning_42 (by decide) ?_
        refine ci_ge (tgt := 67) hx hb (by omega) (by decide) dX9_meaning_45 (by decide) (fun c_3 => ?_) (fun c_3 => ?_)
        · exact ke67 fo (by omega) _ _ hP hD hS ls (lv_sub hl [0, 1, 2, 3, 4, 5] rfl)
        · refine lv_iload hx hb dX9_meaning_48 (lv_at hl 5 rfl) ?_
          refine lv_iconst (v := oI 1) hx hb dX9_meaning_50 (by decide) ?_
          refine lv_isub hx hb dX9_meaning_51 ?_
          refine tp_i (oI_sub fo 1) ?_
          refine lv_aload_n hx hb dX9_meaning_52 rfl (lv_at hl 0 rfl) ?_
          refine cg_9_2 hx hb hts inX9_meaning_X9 hown hK hP (hts _ lkX9_meaning_f15) dX9_meaning_53 ?_
          refine lv_iload hx hb dX9_meaning_56 (lv_at hl 5 rfl) ?_
          refine cl_20 hx hb hK hP (by omega) dX9_meaning_58 (fun w_4 hw_4 => ?_)
          have i_5 := i32r w_4
          refine cm_min hx hb (hml.trans hl.1.symm) hown (hts _ lkX9_meaning_l45) (hts _ lkX9_meaning_smin) (hts _ lkX9_meaning_zmath) (hts _ lkX9_meaning_kmin) (Nat.le_of_ble_eq_true rfl) (Nat.le_of_ble_eq_true rfl) hcs.1 hcs.2 (by omega) (i32r _) dX9_meaning_59 (fun m_6 hm_6 => ?_)
          refine lv_istore (lv' := [(5, .int (oI m_6)), (0, .ref (a 9)), (1, .int (oI x)), (2, .int (oI y)), (3, .int (oI en)), (4, .int (oI at1))]) hx hb dX9_meaning_62 hl (by decide) rfl (fun ls hl => ?_)
          refine lv_goto (tgt := 29) hx hb dX9_meaning_64 (by decide) ?_
          exact ih m_6 (show (m_6 + 1).toNat < k from by omega) (by omega) _ _ hP hD hS ls (lv_sub hl [1, 2, 3, 4, 5, 0] rfl)

set_option maxHeartbeats 4000000 in
set_option maxRecDepth 100000 in
theorem lp_mean {p : Program} {l : Launch} {e : Env} {s : State} {m : MethodId} {args : Array Value} {below : List Frame} {meth : Method} {c : Code} {A : Nat → Prop} {dC : Nat → ClassId} {dI : Nat → Nat → Nat} {cB cC cI cJ cZ : ClassId} {a : Nat → Nat} {F : Nat → Int32} {X : Nat → Nat → Int32} {J : Nat → Nat → Int64} {R : Nat → Nat} {gf gn : Nat} (hx : p.tables.exec = Jvm.exec) (hb : c.code = cX9_meaning) (hml : c.maxLocals = 6) (hown : s.vm.findClass RX9 = some m.cls) (hts : ∀ w ∈ vX9_meaning, w.before args s = true) (hK : va_K (dC, dI) vwCl (TY cB cC cI cJ cZ) s) (hNW : NW s) (hA : ∀ q : Nat, s.heap.size ≤ q → A q) (hr : meth.sig.returnType = (some .int)) (hlocks : meth.locks = false) (x y : Int)  (ix : (-2147483648 ≤ x ∧ x < 2147483648)) (iy : (-2147483648 ≤ y ∧ y < 2147483648)) (hgn : gn ≤ 63261) (hnt : 0 ≤ (F 13).toInt ∧ (F 13).toInt ≤ (gn : Int)) (hst : 0 ≤ (F 23).toInt ∧ (F 23).toInt ≤ 606) (hsy : 0 ≤ (F 15).toInt ∧ (F 15).toInt ≤ 2560) (hru : VB (X 12))   : ∀ (k : Nat) (en : Int) (at1 : Int), (at1 + 1).toNat < k → (-2147483648 ≤ en ∧ en < 2147483648) → (-2147483648 ≤ at1 ∧ at1 < 2147483648) → ∀ (H : Heap) (locs : List Loc), va_P (dC, dI) vwCl (CW cB cC cI cJ cZ a F X J R gf gn) H → va_D A (CW cB cC cI cJ cZ a F X J R gf gn) → va_S A s.heap H locs → ∀ (ls : Array Slot), lv_has ls 6 [(0, .ref (a 9)), (1, .int (oI x)), (2, .int (oI y)), (3, .int (oI en)), (4, .int (oI at1))] → W p l e (headSpec vX9_meaning { frames := 2, cells := 0, slots := 0, locals := 81 }).room s m args below meth c H locs 0 0 (MQ below (va_Qi (fun (r : Int32) (_ : Unit) => True) (fun _ => cPost dC dI cB cC cI cJ cZ a F X J R gf gn A) A) args s 0 0 A) (F0 m 5 ls []) := by
  have hcs : 0 + 0 ≤ (0 : Nat) ∧ 0 + 0 ≤ (0 : Nat) := ⟨Nat.le_refl 0, Nat.le_refl 0⟩
  intro k
  induction k with
  | zero =>
    intro en at1 hk ien9 iat19
    exact absurd hk (Nat.not_lt_zero _)
  | succ k ih =>
    intro en at1 hk ien9 iat19 H locs hP hD hS ls hl
    refine lv_aload_n hx hb dX9_meaning_5 rfl (lv_at hl 0 rfl) ?_
    refine cg_9_0 hx hb hts inX9_meaning_X9 hown hK hP (hts _ lkX9_meaning_f28) dX9_meaning_6 ?_
    refine lv_iload hx hb dX9_meaning_9 (lv_at hl 4 rfl) ?_
    refine ccs_iV (As := [.int (oI at1)]) (rest := []) ⟨hx, hb, hml, hown, hts⟩ (c_has l dC dI cB cC cI cJ cZ a F X J R gf gn at1  (by omega)   H.size) (cwV 1 hts kX9_meaning_X6_has_36 rfl rfl rfl (by decide +kernel) ⟨Nat.le_of_ble_eq_true rfl, Nat.le_of_ble_eq_true rfl⟩) (va_recv hK hP (ci := 6) (q0 := 6) rfl rfl) hK hNW hP hD hS hA rfl rfl hl.1 (lv_room (Nat.le_of_ble_eq_true rfl)) dX9_meaning_11 hcs (fun r_1 hw_2 H locs hP hD hS => ?_)
    have hw_2 : ((r_1).toInt = 1 ∧ 0 ≤ at1 ∧ at1 < (F 13).toInt) ∨ ((r_1).toInt = 0 ∧ ¬ (0 ≤ at1 ∧ at1 < (F 13).toInt)) := hw_2
    have hha := hw_2
    have i_3 := i32r r_1
    refine cz_eq (tgt := 183) hx hb (i32r _) dX9_meaning_14 (by decide) (fun c_4 => ?_) (fun c_4 => ?_)
    · refine lv_iconst (v := oI (-1)) hx hb dX9_meaning_183 (by decide) ?_
      have hpost : True := trivial
      exact W.iret (v := (oI ((-1)))) hx hb hr (fun t ht hW => ⟨⟨(oI ((-1))), (), rfl, hpost, by rw [ht]; exact hP, va_K.moved hW.alike hK, hD⟩, hS.F ht⟩) hS.2.2 dX9_meaning_184
    · refine lv_aload_n hx hb dX9_meaning_17 rfl (lv_at hl 0 rfl) ?_
      refine cg_9_0 hx hb hts inX9_meaning_X9 hown hK hP (hts _ lkX9_meaning_f28) dX9_meaning_18 ?_
      refine cgN_6_8 hx hb hts inX9_meaning_X6 hown hK hP (va_Nw.use rfl hNW.2.2.2.2.2.2.2.2.2.2.2.2.2.2.2.1) dX9_meaning_21 ?_
      refine lv_iload hx hb dX9_meaning_24 (lv_at hl 4 rfl) ?_
      refine cl_16 hx hb hK hP hgn (by omega) dX9_meaning_26 (fun w_5 hw_5 => ?_)
      have i_6 := i32r w_5
      refine lv_istore (lv' := [(5, .int (oI w_5.toInt)), (0, .ref (a 9)), (1, .int (oI x)), (2, .int (oI y)), (3, .int (oI en)), (4, .int (oI at1))]) hx hb dX9_meaning_27 hl (by decide) rfl (fun ls hl => ?_)
      refine lp_meanI hx hb hml hown hts hK hNW hA x y ix iy (by assumption) (by assumption) (by assumption) (by assumption) (by assumption) en at1 (by omega) (by omega) (fun fo_7 ifo9 H locs hP hD hS ls hl => ?_) _ w_5.toInt (Nat.lt_succ_self _) (i32r _) _ _ hP hD hS ls (lv_sub hl [1, 2, 3, 4, 5, 0] rfl)
      · refine lv_iload hx hb dX9_meaning_67 (lv_at hl 5 rfl) ?_
        refine cz_lt (tgt := 112) hx hb (by omega) dX9_meaning_69 (by decide) (fun c_8 => ?_) (fun c_8 => ?_)
        · refine lv_aload_n hx hb dX9_meaning_112 rfl (lv_at hl 0 rfl) ?_
          refine cg_9_0 hx hb hts inX9_meaning_X9 hown hK hP (hts _ lkX9_meaning_f28) dX9_meaning_113 ?_
          refine cgN_6_6 hx hb hts inX9_meaning_X6 hown hK hP (va_Nw.use rfl hNW.2.2.2.2.2.2.2.2.2.2.2.2.2.2.2.2.1) dX9_meaning_116 ?_
          refine lv_iload hx hb dX9_meaning_119 (lv_at hl 4 rfl) ?_
          refine cl_14 hx hb hK hP hgn (by omega) dX9_meaning_121 (fun w_9 hw_9 => ?_)
          have i_10 := i32r w_9
          refine lv_iconst (v := oI (-1)) hx hb dX9_meaning_122 (by decide) ?_
          refine ci_ne (tgt := 150) hx hb (i32r _) (by decide) dX9_meaning_123 (by decide) (fun c_11 => ?_) (fun c_11 => ?_)
          · refine lv_aload_n hx hb dX9_meaning_150 rfl (lv_at hl 0 rfl) ?_
            refine cg_9_0 hx hb hts inX9_meaning_X9 hown hK hP (hts _ lkX9_meaning_f28) dX9_meaning_151 ?_
            refine cgN_6_7 hx hb hts inX9_meaning_X6 hown hK hP (va_Nw.use rfl hNW.2.2.2.2.2.2.2.2.2.2.2.2.2.2.2.2.2.1) dX9_meaning_154 ?_
            refine lv_iload hx hb dX9_meaning_157 (lv_at hl 4 rfl) ?_
            refine cl_15 hx hb hK hP hgn (by omega) dX9_meaning_159 (fun w_12 hw_12 => ?_)
            have i_13 := i32r w_12
            refine lv_istore_n (lv' := [(3, .int (oI w_12.toInt)), (0, .ref (a 9)), (1, .int (oI x)), (2, .int (oI y)), (4, .int (oI at1)), (5, .int (oI fo_7))]) hx hb dX9_meaning_160 rfl hl (by decide) rfl (fun ls hl => ?_)
            refine lv_iload hx hb dX9_meaning_161 (lv_at hl 4 rfl) ?_
            refine lv_iconst (v := oI 1) hx hb dX9_meaning_163 (by decide) ?_
            refine lv_isub hx hb dX9_meaning_164 ?_
            refine tp_i (oI_sub at1 1) ?_
            refine lv_aload_n hx hb dX9_meaning_165 rfl (lv_at hl 1 rfl) ?_
            refine cg_9_0 hx hb hts inX9_meaning_X9 hown hK hP (hts _ lkX9_meaning_f28) dX9_meaning_166 ?_
            refine cgN_6_6 hx hb hts inX9_meaning_X6 hown hK hP (va_Nw.use rfl hNW.2.2.2.2.2.2.2.2.2.2.2.2.2.2.2.2.1) dX9_meaning_169 ?_
            refine lv_iload hx hb dX9_meaning_172 (lv_at hl 4 rfl) ?_
            refine cl_14 hx hb hK hP hgn (by omega) dX9_meaning_174 (fun w_14 hw_14 => ?_)
            have i_15 := i32r w_14
            have q_16 : w_14.toInt = w_9.toInt := by rw [hw_14, hw_9]
            refine cm_min hx hb (hml.trans hl.1.symm) hown (hts _ lkX9_meaning_l45) (hts _ lkX9_meaning_smin) (hts _ lkX9_meaning_zmath) (hts _ lkX9_meaning_kmin) (Nat.le_of_ble_eq_true rfl) (Nat.le_of_ble_eq_true rfl) hcs.1 hcs.2 (by omega) (i32r _) dX9_meaning_175 (fun m_17 hm_17 => ?_)
            refine lv_istore (lv' := [(4, .int (oI m_17)), (3, .int (oI w_12.toInt)), (0, .ref (a 9)), (1, .int (oI x)), (2, .int (oI y)), (5, .int (oI fo_7))]) hx hb dX9_meaning_178 hl (by decide) rfl (fun ls hl => ?_)
            refine lv_goto (tgt := 5) hx hb dX9_meaning_180 (by decide) ?_
            exact ih w_12.toInt m_17 (show (m_17 + 1).toNat < k from by omega) (i32r _) (by omega) _ _ hP hD hS ls (lv_sub hl [2, 3, 4, 1, 0] rfl)
          · refine lv_iconst (v := oI 4) hx hb dX9_meaning_126 (by decide) ?_
            refine lv_iload hx hb dX9_meaning_127 (lv_at hl 4 rfl) ?_
            refine lv_imul hx hb dX9_meaning_129 ?_
            refine tp_i (oI_mul 4 at1) ?_
            refine lv_aload_n hx hb dX9_meaning_130 rfl (lv_at hl 0 rfl) ?_
            refine cg_9_0 hx hb hts inX9_meaning_X9 hown hK hP (hts _ lkX9_meaning_f28) dX9_meaning_131 ?_
            refine lv_iload hx hb dX9_meaning_134 (lv_at hl 4 rfl) ?_
            refine ccs_iV (As := [.int (oI at1)]) (rest := [.int (oI (4 * at1))]) ⟨hx, hb, hml, hown, hts⟩ (c_rulesOfN l dC dI cB cC cI cJ cZ a F X J R gf gn at1  (by omega) (show 0 ≤ (F 15).toInt ∧ (F 15).toInt ≤ 2560 from by first | assumption | omega) (show VB (X 12) from by first | assumption | omega)  H.size) (cwV 1 hts kX9_meaning_X6_rulesOf_54 rfl rfl rfl (by decide +kernel) ⟨Nat.le_of_ble_eq_true rfl, Nat.le_of_ble_eq_true rfl⟩) (va_recv hK hP (ci := 6) (q0 := 6) rfl rfl) hK hNW hP hD hS hA rfl rfl hl.1 (lv_room (Nat.le_of_ble_eq_true rfl)) dX9_meaning_136 hcs (fun r_18 hw_19 H locs hP hD hS => ?_)
            have hw_19 : (r_18).toInt < 1073741824 := hw_19
            have hrl := hw_19
            have i_20 := i32r r_18
            refine lv_iconst (v := oI (-1)) hx hb dX9_meaning_139 (by decide) ?_
            refine ci_ne (tgt := 147) hx hb (i32r _) (by decide) dX9_meaning_140 (by decide) (fun c_21 => ?_) (fun c_21 => ?_)
            · refine lv_iconst (v := oI 3) hx hb dX9_meaning_147 (by decide) ?_
              refine lv_iadd hx hb dX9_meaning_148 ?_
              refine tp_i (oI_add (4 * at1) 3) ?_
              have hpost : True := trivial
              exact W.iret (v := (oI ((4 * at1) + 3))) hx hb hr (fun t ht hW => ⟨⟨(oI ((4 * at1) + 3)), (), rfl, hpost, by rw [ht]; exact hP, va_K.moved hW.alike hK, hD⟩, hS.F ht⟩) hS.2.2 dX9_meaning_149
            · refine lv_iconst (v := oI 0) hx hb dX9_meaning_143 (by decide) ?_
              refine lv_goto (tgt := 148) hx hb dX9_meaning_144 (by decide) ?_
              refine lv_iadd hx hb dX9_meaning_148 ?_
              refine tp_i (oI_add (4 * at1) 0) ?_
              have hpost : True := trivial
              exact W.iret (v := (oI ((4 * at1) + 0))) hx hb hr (fun t ht hW => ⟨⟨(oI ((4 * at1) + 0)), (), rfl, hpost, by rw [ht]; exact hP, va_K.moved hW.alike hK, hD⟩, hS.F ht⟩) hS.2.2 dX9_meaning_149
        · refine lv_iload hx hb dX9_meaning_72 (lv_at hl 5 rfl) ?_
          refine lv_sipush (v := oI 606) hx hb dX9_meaning_74 (by decide) ?_
          refine ci_ge (tgt := 112) hx hb (by omega) (by decide) dX9_meaning_77 (by decide) (fun c_22 => ?_) (fun c_22 => ?_)
          · refine lv_aload_n hx hb dX9_meaning_112 rfl (lv_at hl 0 rfl) ?_
            refine cg_9_0 hx hb hts inX9_meaning_X9 hown hK hP (hts _ lkX9_meaning_f28) dX9_meaning_113 ?_
            refine cgN_6_6 hx hb hts inX9_meaning_X6 hown hK hP (va_Nw.use rfl hNW.2.2.2.2.2.2.2.2.2.2.2.2.2.2.2.2.1) dX9_meaning_116 ?_
            refine lv_iload hx hb dX9_meaning_119 (lv_at hl 4 rfl) ?_
            refine cl_14 hx hb hK hP hgn (by omega) dX9_meaning_121 (fun w_23 hw_23 => ?_)
            have i_24 := i32r w_23
            refine lv_iconst (v := oI (-1)) hx hb dX9_meaning_122 (by decide) ?_
            refine ci_ne (tgt := 150) hx hb (i32r _) (by decide) dX9_meaning_123 (by decide) (fun c_25 => ?_) (fun c_25 => ?_)
            · refine lv_aload_n hx hb dX9_meaning_150 rfl (lv_at hl 0 rfl) ?_
              refine cg_9_0 hx hb hts inX9_meaning_X9 hown hK hP (hts _ lkX9_meaning_f28) dX9_meaning_151 ?_
              refine cgN_6_7 hx hb hts inX9_meaning_X6 hown hK hP (va_Nw.use rfl hNW.2.2.2.2.2.2.2.2.2.2.2.2.2.2.2.2.2.1) dX9_meaning_154 ?_
              refine lv_iload hx hb dX9_meaning_157 (lv_at hl 4 rfl) ?_
              refine cl_15 hx hb hK hP hgn (by omega) dX9_meaning_159 (fun w_26 hw_26 => ?_)
              have i_27 := i32r w_26
              refine lv_istore_n (lv' := [(3, .int (oI w_26.toInt)), (0, .ref (a 9)), (1, .int (oI x)), (2, .int (oI y)), (4, .int (oI at1)), (5, .int (oI fo_7))]) hx hb dX9_meaning_160 rfl hl (by decide) rfl (fun ls hl => ?_)
              refine lv_iload hx hb dX9_meaning_161 (lv_at hl 4 rfl) ?_
              refine lv_iconst (v := oI 1) hx hb dX9_meaning_163 (by decide) ?_
              refine lv_isub hx hb dX9_meaning_164 ?_
              refine tp_i (oI_sub at1 1) ?_
              refine lv_aload_n hx hb dX9_meaning_165 rfl (lv_at hl 1 rfl) ?_
              refine cg_9_0 hx hb hts inX9_meaning_X9 hown hK hP (hts _ lkX9_meaning_f28) dX9_meaning_166 ?_
              refine cgN_6_6 hx hb hts inX9_meaning_X6 hown hK hP (va_Nw.use rfl hNW.2.2.2.2.2.2.2.2.2.2.2.2.2.2.2.2.1) dX9_meaning_169 ?_
              refine lv_iload hx hb dX9_meaning_172 (lv_at hl 4 rfl) ?_
              refine cl_14 hx hb hK hP hgn (by omega) dX9_meaning_174 (fun w_28 hw_28 => ?_)
              have i_29 := i32r w_28
              have q_30 : w_28.toInt = w_23.toInt := by rw [hw_28, hw_23]
              refine cm_min hx hb (hml.trans hl.1.symm) hown (hts _ lkX9_meaning_l45) (hts _ lkX9_meaning_smin) (hts _ lkX9_meaning_zmath) (hts _ lkX9_meaning_kmin) (Nat.le_of_ble_eq_true rfl) (Nat.le_of_ble_eq_true rfl) hcs.1 hcs.2 (by omega) (i32r _) dX9_meaning_175 (fun m_31 hm_31 => ?_)
              refine lv_istore (lv' := [(4, .int (oI m_31)), (3, .int (oI w_26.toInt)), (0, .ref (a 9)), (1, .int (oI x)), (2, .int (oI y)), (5, .int (oI fo_7))]) hx hb dX9_meaning_178 hl (by decide) rfl (fun ls hl => ?_)
              refine lv_goto (tgt := 5) hx hb dX9_meaning_180 (by decide) ?_
              exact ih w_26.toInt m_31 (show (m_31 + 1).toNat < k from by omega) (i32r _) (by omega) _ _ hP hD hS ls (lv_sub hl [2, 3, 4, 1, 0] rfl)
            · refine lv_iconst (v := oI 4) hx hb dX9_meaning_126 (by decide) ?_
              refine lv_iload hx hb dX9_meaning_127 (lv_at hl 4 rfl) ?_
              refine lv_imul hx hb dX9_meaning_129 ?_
              refine tp_i (oI_mul 4 at1) ?_
              refine lv_aload_n hx hb dX9_meaning_130 rfl (lv_at hl 0 rfl) ?_
              refine cg_9_0 hx hb hts inX9_meaning_X9 hown hK hP (hts _ lkX9_meaning_f28) dX9_meaning_131 ?_
              refine lv_iload hx hb dX9_meaning_134 (lv_at hl 4 rfl) ?_
              refine ccs_iV (As := [.int (oI at1)]) (rest := [.int (oI (4 * at1))]) ⟨hx, hb, hml, hown, hts⟩ (c_rulesOfN l dC dI cB cC cI cJ cZ a F X J R gf gn at1  (by omega) (show 0 ≤ (F 15).toInt ∧ (F 15).toInt ≤ 2560 from by first | assumption | omega) (show VB (X 12) from by first | assumption | omega)  H.size) (cwV 1 hts kX9_meaning_X6_rulesOf_54 rfl rfl rfl (by decide +kernel) ⟨Nat.le_of_ble_eq_true rfl, Nat.le_of_ble_eq_true rfl⟩) (va_recv hK hP (ci := 6) (q0 := 6) rfl rfl) hK hNW hP hD hS hA rfl rfl hl.1 (lv_room (Nat.le_of_ble_eq_true rfl)) dX9_meaning_136 hcs (fun r_32 hw_33 H locs hP hD hS => ?_)
              have hw_33 : (r_32).toInt < 1073741824 := hw_33
              have hrl := hw_33
              have i_34 := i32r r_32
              refine lv_iconst (v := oI (-1)) hx hb dX9_meaning_139 (by decide) ?_
              refine ci_ne (tgt := 147) hx hb (i32r _) (by decide) dX9_meaning_140 (by decide) (fun c_35 => ?_) (fun c_35 => ?_)
              · refine lv_iconst (v := oI 3) hx hb dX9_meaning_147 (by decide) ?_
                refine lv_iadd hx hb dX9_meaning_148 ?_
                refine tp_i (oI_add (4 * at1) 3) ?_
                have hpost : True := trivial
                exact W.iret (v := (oI ((4 * at1) + 3))) hx hb hr (fun t ht hW => ⟨⟨(oI ((4 * at1) + 3)), (), rfl, hpost, by rw [ht]; exact hP, va_K.moved hW.alike hK, hD⟩, hS.F ht⟩) hS.2.2 dX9_meaning_149
              · refine lv_iconst (v := oI 0) hx hb dX9_meaning_143 (by decide) ?_
                refine lv_goto (tgt := 148) hx hb dX9_meaning_144 (by decide) ?_
                refine lv_iadd hx hb dX9_meaning_148 ?_
                refine tp_i (oI_add (4 * at1) 0) ?_
                have hpost : True := trivial
                exact W.iret (v := (oI ((4 * at1) + 0))) hx hb hr (fun t ht hW => ⟨⟨(oI ((4 * at1) + 0)), (), rfl, hpost, by rw [ht]; exact hP, va_K.moved hW.alike hK, hD⟩, hS.F ht⟩) hS.2.2 dX9_meaning_149
          · refine lv_aload_n hx hb dX9_meaning_80 rfl (lv_at hl 0 rfl) ?_
            refine cg_9_4 hx hb hts inX9_meaning_X9 hown hK hP (hts _ lkX9_meaning_f21) dX9_meaning_81 ?_
            refine lv_iload hx hb dX9_meaning_84 (lv_at hl 5 rfl) ?_
            refine cl_21 hx hb hK hP (by omega) dX9_meaning_86 (fun w_36 hw_36 => ?_)
            have i_37 := i32r w_36
            refine lv_iconst (v := oI (-1)) hx hb dX9_meaning_87 (by decide) ?_
            refine ci_ne (tgt := 105) hx hb (i32r _) (by decide) dX9_meaning_88 (by decide) (fun c_38 => ?_) (fun c_38 => ?_)
            · refine lv_iconst (v := oI 4) hx hb dX9_meaning_105 (by decide) ?_
              refine lv_iload hx hb dX9_meaning_106 (lv_at hl 5 rfl) ?_
              refine lv_imul hx hb dX9_meaning_108 ?_
              refine tp_i (oI_mul 4 fo_7) ?_
              refine lv_iconst (v := oI 2) hx hb dX9_meaning_109 (by decide) ?_
              refine lv_iadd hx hb dX9_meaning_110 ?_
              refine tp_i (oI_add (4 * fo_7) 2) ?_
              refine lv_topi (fun v_39 ev_39 => ?_)
              refine tp_i (oI_toInt v_39).symm ?_
              have i_40 := i32r v_39
              have hpost : True := trivial
              exact W.iret (v := (oI v_39.toInt)) hx hb hr (fun t ht hW => ⟨⟨(oI v_39.toInt), (), rfl, hpost, by rw [ht]; exact hP, va_K.moved hW.alike hK, hD⟩, hS.F ht⟩) hS.2.2 dX9_meaning_111
            · refine lv_iconst (v := oI 4) hx hb dX9_meaning_91 (by decide) ?_
              refine lv_aload_n hx hb dX9_meaning_92 rfl (lv_at hl 0 rfl) ?_
              refine cg_9_3 hx hb hts inX9_meaning_X9 hown hK hP (hts _ lkX9_meaning_f18) dX9_meaning_93 ?_
              refine lv_iload hx hb dX9_meaning_96 (lv_at hl 5 rfl) ?_
              refine cl_22 hx hb hK hP (by omega) dX9_meaning_98 (fun w_41 hw_41 => ?_)
              have i_42 := i32r w_41
              refine lv_imul hx hb dX9_meaning_99 ?_
              refine tp_i (oI_mul 4 w_41.toInt) ?_
              refine lv_iconst (v := oI 1) hx hb dX9_meaning_100 (by decide) ?_
              refine lv_iadd hx hb dX9_meaning_101 ?_
              refine tp_i (oI_add (4 * w_41.toInt) 1) ?_
              refine lv_goto (tgt := 111) hx hb dX9_meaning_102 (by decide) ?_
              refine lv_topi (fun v_43 ev_43 => ?_)
              refine tp_i (oI_toInt v_43).symm ?_
              have i_44 := i32r v_43
              have hpost : True := trivial
              exact W.iret (v := (oI v_43.toInt)) hx hb hr (fun t ht hW => ⟨⟨(oI v_43.toInt), (), rfl, hpost, by rw [ht]; exact hP, va_K.moved hW.alike hK, hD⟩, hS.F ht⟩) hS.2.2 dX9_meaning_111

set_option maxHeartbeats 4000000 in
set_option maxRecDepth 100000 in
/-- X9_meaning -/
theorem c_meaning (l : Launch) (dC : Nat → ClassId) (dI : Nat → Nat → Nat) (cB cC cI cJ cZ : ClassId) (a : Nat → Nat) (F : Nat → Int32) (X : Nat → Nat → Int32) (J : Nat → Nat → Int64) (R : Nat → Nat) (gf gn : Nat) (x y : Int)  (ix : (-2147483648 ≤ x ∧ x < 2147483648)) (iy : (-2147483648 ≤ y ∧ y < 2147483648)) (hgn : gn ≤ 63261) (hnt : 0 ≤ (F 13).toInt ∧ (F 13).toInt ≤ (gn : Int)) (hst : 0 ≤ (F 23).toInt ∧ (F 23).toInt ≤ 606) (hsy : 0 ≤ (F 15).toInt ∧ (F 15).toInt ≤ 2560) (hru : VB (X 12)) (s0 : Nat) : Met l yX9_meaning vX9_meaning { frames := 2, cells := 0, slots := 0, locals := 81 } (va_Pc [.ref (a 9), .int (oI x), .int (oI y)] (cPre dC dI cB cC cI cJ cZ a F X J R gf gn s0)) (va_Qi (fun (r : Int32) (_ : Unit) => True) (fun _ => cPost dC dI cB cC cI cJ cZ a F X J R gf gn (va_A (CW cB cC cI cJ cZ a F X J R gf gn) s0)) (va_A (CW cB cC cI cJ cZ a F X J R gf gn) s0)) 0 0 (va_A (CW cB cC cI cJ cZ a F X J R gf gn) s0) := by
  refine Met.ofW (cc := cX9_meaning) (maxL := 6) (ret := (some .int)) (by decide) rfl ?_
  intro p e s m args below meth c s₁ B9 hml hv
  obtain ⟨rfl, hsz0, hP, hK, hD0, hNW⟩ := hv
  have hx := B9.exec
  have hb := B9.bytes
  have hr := B9.returns
  have hts := atoms_spec (ws := vX9_meaning) B9.pre
  have hown : s.vm.findClass RX9 = some m.cls := findClass_of_methodNamed B9.named
  have hlocks := B9.notSynchronized
  clear B9
  subst hsz0
  have hD := hD0.self (sz := s.heap.size)
  generalize hAe : va_A (CW cB cC cI cJ cZ a F X J R gf gn) s.heap.size = A at hD ⊢
  have hA : ∀ q : Nat, s.heap.size ≤ q → A q := fun q h => by rw [← hAe]; exact Or.inr h
  have hS : va_S A s.heap s.heap [] := va_S.rf
  have hcs : 0 + 0 ≤ (0 : Nat) ∧ 0 + 0 ≤ (0 : Nat) := ⟨Nat.le_refl 0, Nat.le_refl 0⟩
  have hl := lv_entry ([.ref (a 9), .int (oI x), .int (oI y)]) (n := 6) (Nat.le_of_ble_eq_true rfl)
  rw [lg_entry_eq]
  generalize (lg_sl ([.ref (a 9), .int (oI x), .int (oI y)]) ++ List.replicate (6 - (lg_sl ([.ref (a 9), .int (oI x), .int (oI y)])).length) Slot.unset).toArray = ls at hl ⊢
  have hl : lv_has ls 6 [(0, .ref (a 9)), (1, .int (oI x)), (2, .int (oI y))] := hl
  refine lv_iload_n hx hb dX9_meaning_0 rfl (lv_at hl 2 rfl) ?_
  refine lv_istore_n (lv' := [(3, .int (oI y)), (0, .ref (a 9)), (1, .int (oI x)), (2, .int (oI y))]) hx hb dX9_meaning_1 rfl hl (by decide) rfl (fun ls hl => ?_)
  refine lv_iload_n hx hb dX9_meaning_2 rfl (lv_at hl 2 rfl) ?_
  refine lv_istore (lv' := [(4, .int (oI x)), (3, .int (oI y)), (0, .ref (a 9)), (1, .int (oI x)), (2, .int (oI y))]) hx hb dX9_meaning_3 hl (by decide) rfl (fun ls hl => ?_)
  exact lp_mean hx hb hml hown hts hK hNW hA hr hlocks x y ix iy (by assumption) (by assumption) (by assumption) (by assumption) (by assumption)  _ y x (Nat.lt_succ_self _) (by omega) (by omega) _ _ hP hD hS ls (lv_sub hl [2, 3, 4, 1, 0] rfl)

set_option maxHeartbeats 4000000 in
set_option maxRecDepth 100000 in
/-- X9_isWord -/
theorem c_isWord (l : Launch) (dC : Nat → ClassId) (dI : Nat → Nat → Nat) (cB cC cI cJ cZ : ClassId) (a : Nat → Nat) (F : Nat → Int32) (X : Nat → Nat → Int32) (J : Nat → Nat → Int64) (R : Nat → Nat) (gf gn : Nat) (x : Int)  (ix : (-2147483648 ≤ x ∧ x < 2147483648)) (s0 : Nat) : Met l yX9_isWord vX9_isWord { frames := 1, cells := 0, slots := 0, locals := 60 } (va_Pc [.int (oI x)] (cPre dC dI cB cC cI cJ cZ a F X J R gf gn s0)) (va_Qi (fun (r : Int32) (_ : Unit) => True) (fun _ => cPost dC dI cB cC cI cJ cZ a F X J R gf gn (va_A (CW cB cC cI cJ cZ a F X J R gf gn) s0)) (va_A (CW cB cC cI cJ cZ a F X J R gf gn) s0)) 0 0 (va_A (CW cB cC cI cJ cZ a F X J R gf gn) s0) := by
  refine Met.ofW (cc := cX9_isWord) (maxL := 1) (ret := (some .boolean)) (by decide) rfl ?_
  intro p e s m args below meth c s₁ B9 hml hv
  obtain ⟨rfl, hsz0, hP, hK, hD0, hNW⟩ := hv
  have hx := B9.exec
  have hb := B9.bytes
  have hr := B9.returns
  have hts := atoms_spec (ws := vX9_isWord) B9.pre
  have hown : s.vm.findClass RX9 = some m.cls := findClass_of_methodNamed B9.named
  have hlocks := B9.notSynchronized
  clear B9
  subst hsz0
  have hD := hD0.self (sz := s.heap.size)
  generalize hAe : va_A (CW cB cC cI cJ cZ a F X J R gf gn) s.heap.size = A at hD ⊢
  have hA : ∀ q : Nat, s.heap.size ≤ q → A q := fun q h => by rw [← hAe]; exact Or.inr h
  have hS : va_S A s.heap s.heap [] := va_S.rf
  have hcs : 0 + 0 ≤ (0 : Nat) ∧ 0 + 0 ≤ (0 : Nat) := ⟨Nat.le_refl 0, Nat.le_refl 0⟩
  have hl := lv_entry ([.int (oI x)]) (n := 1) (Nat.le_of_ble_eq_true rfl)
  rw [lg_entry_eq]
  generalize (lg_sl ([.int (oI x)]) ++ List.replicate (1 - (lg_sl ([.int (oI x)])).length) Slot.unset).toArray = ls at hl ⊢
  have hl : lv_has ls 1 [(0, .int (oI x))] := hl
  refine lv_iload_n hx hb dX9_isWord_0 rfl (lv_at hl 0 rfl) ?_
  refine cz_lt (tgt := 21) hx hb (by omega) dX9_isWord_1 (by decide) (fun c_1 => ?_) (fun c_1 => ?_)
  · refine lv_iconst (v := oI 0) hx hb dX9_isWord_21 (by decide) ?_
    have hpost : True := trivial
    exact W.zret (v := (oI 0)) hx hb hr (by first | rfl | decide | exact zb9 (by omega)) (fun t ht hW => ⟨⟨(oI 0), (), rfl, hpost, by rw [ht]; exact hP, va_K.moved hW.alike hK, hD⟩, hS.F ht⟩) hS.2.2 dX9_isWord_22
  · refine lv_iload_n hx hb dX9_isWord_4 rfl (lv_at hl 0 rfl) ?_
    refine lv_iconst (v := oI 3) hx hb dX9_isWord_5 (by decide) ?_
    refine lv_iand hx hb dX9_isWord_6 ?_
    refine lv_topi (fun v_2 ev_2 => ?_)
    refine tp_i (oI_toInt v_2).symm ?_
    have i_3 := i32r v_2
    refine cz_ne (tgt := 21) hx hb (i32r _) dX9_isWord_7 (by decide) (fun c_4 => ?_) (fun c_4 => ?_)
    · refine lv_iconst (v := oI 0) hx hb dX9_isWord_21 (by decide) ?_
      have hpost : True := trivial
      exact W.zret (v := (oI 0)) hx hb hr (by first | rfl | decide | exact zb9 (by omega)) (fun t ht hW => ⟨⟨(oI 0), (), rfl, hpost, by rw [ht]; exact hP, va_K.moved hW.alike hK, hD⟩, hS.F ht⟩) hS.2.2 dX9_isWord_22
    · refine lv_iload_n hx hb dX9_isWord_10 rfl (lv_at hl 0 rfl) ?_
      refine lv_iconst (v := oI 2) hx hb dX9_isWord_11 (by decide) ?_
      refine lv_ishr hx hb dX9_isWord_12 ?_
      refine lv_topi (fun v_5 ev_5 => ?_)
      refine tp_i (oI_toInt v_5).symm ?_
      have i_6 := i32r v_5
      refine lv_iconst (v := oI 5) hx hb dX9_isWord_13 (by decide) ?_
      refine ci_ge (tgt := 21) hx hb (i32r _) (by decide) dX9_isWord_14 (by decide) (fun c_7 => ?_) (fun c_7 => ?_)
      · refine lv_iconst (v := oI 0) hx hb dX9_isWord_21 (by decide) ?_
        have hpost : True := trivial
        exact W.zret (v := (oI 0)) hx hb hr (by first | rfl | decide | exact zb9 (by omega)) (fun t ht hW => ⟨⟨(oI 0), (), rfl, hpost, by rw [ht]; exact hP, va_K.moved hW.alike hK, hD⟩, hS.F ht⟩) hS.2.2 dX9_isWord_22
      · refine lv_iconst (v := oI 1) hx hb dX9_isWord_17 (by decide) ?_
        refine lv_goto (tgt := 22) hx hb dX9_isWord_18 (by decide) ?_
        have hpost : True := trivial
        exact W.zret (v := (oI 1)) hx hb hr (by first | rfl | decide | exact zb9 (by omega)) (fun t ht hW => ⟨⟨(oI 1), (), rfl, hpost, by rw [ht]; exact hP, va_K.moved hW.alike hK, hD⟩, hS.F ht⟩) hS.2.2 dX9_isWord_22

set_option maxHeartbeats 4000000 in
set_option maxRecDepth 100000 in
/-- X9_isMacro -/
theorem c_isMacro (l : Launch) (dC : Nat → ClassId) (dI : Nat → Nat → Nat) (cB cC cI cJ cZ : ClassId) (a : Nat → Nat) (F : Nat → Int32) (X : Nat → Nat → Int32) (J : Nat → Nat → Int64) (R : Nat → Nat) (gf gn : Nat) (x : Int)  (ix : (-2147483648 ≤ x ∧ x < 2147483648)) (s0 : Nat) : Met l yX9_isMacro vX9_isMacro { frames := 1, cells := 0, slots := 0, locals := 60 } (va_Pc [.int (oI x)] (cPre dC dI cB cC cI cJ cZ a F X J R gf gn s0)) (va_Qi (fun (r : Int32) (_ : Unit) => True) (fun _ => cPost dC dI cB cC cI cJ cZ a F X J R gf gn (va_A (CW cB cC cI cJ cZ a F X J R gf gn) s0)) (va_A (CW cB cC cI cJ cZ a F X J R gf gn) s0)) 0 0 (va_A (CW cB cC cI cJ cZ a F X J R gf gn) s0) := by
  refine Met.ofW (cc := cX9_isMacro) (maxL := 1) (ret := (some .boolean)) (by decide) rfl ?_
  intro p e s m args below meth c s₁ B9 hml hv
  obtain ⟨rfl, hsz0, hP, hK, hD0, hNW⟩ := hv
  have hx := B9.exec
  have hb := B9.bytes
  have hr := B9.returns
  have hts := atoms_spec (ws := vX9_isMacro) B9.pre
  have hown : s.vm.findClass RX9 = some m.cls := findClass_of_methodNamed B9.named
  have hlocks := B9.notSynchronized
  clear B9
  subst hsz0
  have hD := hD0.self (sz := s.heap.size)
  generalize hAe : va_A (CW cB cC cI cJ cZ a F X J R gf gn) s.heap.size = A at hD ⊢
  have hA : ∀ q : Nat, s.heap.size ≤ q → A q := fun q h => by rw [← hAe]; exact Or.inr h
  have hS : va_S A s.heap s.heap [] := va_S.rf
  have hcs : 0 + 0 ≤ (0 : Nat) ∧ 0 + 0 ≤ (0 : Nat) := ⟨Nat.le_refl 0, Nat.le_refl 0⟩
  have hl := lv_entry ([.int (oI x)]) (n := 1) (Nat.le_of_ble_eq_true rfl)
  rw [lg_entry_eq]
  generalize (lg_sl ([.int (oI x)]) ++ List.replicate (1 - (lg_sl ([.int (oI x)])).length) Slot.unset).toArray = ls at hl ⊢
  have hl : lv_has ls 1 [(0, .int (oI x))] := hl
  refine lv_iload_n hx hb dX9_isMacro_0 rfl (lv_at hl 0 rfl) ?_
  refine cz_lt (tgt := 15) hx hb (by omega) dX9_isMacro_1 (by decide) (fun c_1 => ?_) (fun c_1 => ?_)
  · refine lv_iconst (v := oI 0) hx hb dX9_isMacro_15 (by decide) ?_
    have hpost : True := trivial
    exact W.zret (v := (oI 0)) hx hb hr (by first | rfl | decide | exact zb9 (by omega)) (fun t ht hW => ⟨⟨(oI 0), (), rfl, hpost, by rw [ht]; exact hP, va_K.moved hW.alike hK, hD⟩, hS.F ht⟩) hS.2.2 dX9_isMacro_16
  · refine lv_iload_n hx hb dX9_isMacro_4 rfl (lv_at hl 0 rfl) ?_
    refine lv_iconst (v := oI 3) hx hb dX9_isMacro_5 (by decide) ?_
    refine lv_iand hx hb dX9_isMacro_6 ?_
    refine lv_topi (fun v_2 ev_2 => ?_)
    refine tp_i (oI_toInt v_2).symm ?_
    have i_3 := i32r v_2
    refine lv_iconst (v := oI 2) hx hb dX9_isMacro_7 (by decide) ?_
    refine ci_lt (tgt := 15) hx hb (i32r _) (by decide) dX9_isMacro_8 (by decide) (fun c_4 => ?_) (fun c_4 => ?_)
    · refine lv_iconst (v := oI 0) hx hb dX9_isMacro_15 (by decide) ?_
      have hpost : True := trivial
      exact W.zret (v := (oI 0)) hx hb hr (by first | rfl | decide | exact zb9 (by omega)) (fun t ht hW => ⟨⟨(oI 0), (), rfl, hpost, by rw [ht]; exact hP, va_K.moved hW.alike hK, hD⟩, hS.F ht⟩) hS.2.2 dX9_isMacro_16
    · refine lv_iconst (v := oI 1) hx hb dX9_isMacro_11 (by decide) ?_
      refine lv_goto (tgt := 16) hx hb dX9_isMacro_12 (by decide) ?_
      have hpost : True := trivial
      exact W.zret (v := (oI 1)) hx hb hr (by first | rfl | decide | exact zb9 (by omega)) (fun t ht hW => ⟨⟨(oI 1), (), rfl, hpost, by rw [ht]; exact hP, va_K.moved hW.alike hK, hD⟩, hS.F ht⟩) hS.2.2 dX9_isMacro_16

set_option maxHeartbeats 4000000 in
set_option maxRecDepth 100000 in
/-- X9_rulesOf -/
theorem c_rulesOfS (l : Launch) (dC : Nat → ClassId) (dI : Nat → Nat → Nat) (cB cC cI cJ cZ : ClassId) (a : Nat → Nat) (F : Nat → Int32) (X : Nat → Nat → Int32) (J : Nat → Nat → Int64) (R : Nat → Nat) (gf gn : Nat) (x : Int)  (ix : (-2147483648 ≤ x ∧ x < 2147483648)) (hsy : 0 ≤ (F 15).toInt ∧ (F 15).toInt ≤ 2560) (hru : VB (X 12)) (hst : 0 ≤ (F 23).toInt ∧ (F 23).toInt ≤ 606) (hva : VB (X 22)) (s0 : Nat) : Met l yX9_rulesOf vX9_rulesOf { frames := 2, cells := 0, slots := 0, locals := 81 } (va_Pc [.ref (a 9), .int (oI x)] (cPre dC dI cB cC cI cJ cZ a F X J R gf gn s0)) (va_Qi (fun (r : Int32) (_ : Unit) => (r).toInt < 1073741824) (fun _ => cPost dC dI cB cC cI cJ cZ a F X J R gf gn (va_A (CW cB cC cI cJ cZ a F X J R gf gn) s0)) (va_A (CW cB cC cI cJ cZ a F X J R gf gn) s0)) 0 0 (va_A (CW cB cC cI cJ cZ a F X J R gf gn) s0) := by
  refine Met.ofW (cc := cX9_rulesOf) (maxL := 3) (ret := (some .int)) (by decide) rfl ?_
  intro p e s m args below meth c s₁ B9 hml hv
  obtain ⟨rfl, hsz0, hP, hK, hD0, hNW⟩ := hv
  have hx := B9.exec
  have hb := B9.bytes
  have hr := B9.returns
  have hts := atoms_spec (ws := vX9_rulesOf) B9.pre
  have hown : s.vm.findClass RX9 = some m.cls := findClass_of_methodNamed B9.named
  have hlocks := B9.notSynchronized
  clear B9
  subst hsz0
  have hD := hD0.self (sz := s.heap.size)
  generalize hAe : va_A (CW cB cC cI cJ cZ a F X J R gf gn) s.heap.size = A at hD ⊢
  have hA : ∀ q : Nat, s.heap.size ≤ q → A q := fun q h => by rw [← hAe]; exact Or.inr h
  have hS : va_S A s.heap s.heap [] := va_S.rf
  have hcs : 0 + 0 ≤ (0 : Nat) ∧ 0 + 0 ≤ (0 : Nat) := ⟨Nat.le_refl 0, Nat.le_refl 0⟩
  have hl := lv_entry ([.ref (a 9), .int (oI x)]) (n := 3) (Nat.le_of_ble_eq_true rfl)
  rw [lg_entry_eq]
  generalize (lg_sl ([.ref (a 9), .int (oI x)]) ++ List.replicate (3 - (lg_sl ([.ref (a 9), .int (oI x)])).length) Slot.unset).toArray = ls at hl ⊢
  have hl : lv_has ls 3 [(0, .ref (a 9)), (1, .int (oI x))] := hl
  refine lv_iload_n hx hb dX9_rulesOf_0 rfl (lv_at hl 1 rfl) ?_
  refine lv_iconst (v := oI 2) hx hb dX9_rulesOf_1 (by decide) ?_
  refine lv_ishr hx hb dX9_rulesOf_2 ?_
  refine lv_topi (fun v_1 ev_1 => ?_)
  refine tp_i (oI_toInt v_1).symm ?_
  have i_2 := i32r v_1
  refine lv_istore_n (lv' := [(2, .int (oI v_1.toInt)), (0, .ref (a 9)), (1, .int (oI x))]) hx hb dX9_rulesOf_3 rfl hl (by decide) rfl (fun ls hl => ?_)
  refine lv_iload_n hx hb dX9_rulesOf_4 rfl (lv_at hl 2 rfl) ?_
  refine lv_iconst (v := oI 3) hx hb dX9_rulesOf_5 (by decide) ?_
  refine lv_iand hx hb dX9_rulesOf_6 ?_
  refine lv_topi (fun v_3 ev_3 => ?_)
  refine tp_i (oI_toInt v_3).symm ?_
  have i_4 := i32r v_3
  refine lv_iconst (v := oI 3) hx hb dX9_rulesOf_7 (by decide) ?_
  refine ci_ne (tgt := 20) hx hb (i32r _) (by decide) dX9_rulesOf_8 (by decide) (fun c_5 => ?_) (fun c_5 => ?_)
  · refine lv_iload_n hx hb dX9_rulesOf_20 rfl (lv_at hl 0 rfl) ?_
    refine cz_lt (tgt := 41) hx hb (i32r _) dX9_rulesOf_21 (by decide) (fun c_6 => ?_) (fun c_6 => ?_)
    · refine lv_iconst (v := oI (-1)) hx hb dX9_rulesOf_41 (by decide) ?_
      have e0 : (oI ((-1))).toInt = (-1) := by decide
      have hpost : (oI ((-1))).toInt < 1073741824 := by first | assumption | omega | (with_reducible rfl) | ((repeat' apply And.intro) <;> first | assumption | omega | (with_reducible rfl))
      exact W.iret (v := (oI ((-1)))) hx hb hr (fun t ht hW => ⟨⟨(oI ((-1))), (), rfl, hpost, by rw [ht]; exact hP, va_K.moved hW.alike hK, hD⟩, hS.F ht⟩) hS.2.2 dX9_rulesOf_42
    · refine lv_iload_n hx hb dX9_rulesOf_24 rfl (lv_at hl 0 rfl) ?_
      refine lv_aload_n hx hb dX9_rulesOf_25 rfl (lv_at hl 1 rfl) ?_
      refine cg_9_5 hx hb hts inX9_rulesOf_X9 hown hK hP (hts _ lkX9_rulesOf_f24) dX9_rulesOf_26 ?_
      have i_7 := i32r (F 23)
      refine ci_ge (tgt := 41) hx hb (i32r _) (i32r _) dX9_rulesOf_29 (by decide) (fun c_8 => ?_) (fun c_8 => ?_)
      · refine lv_iconst (v := oI (-1)) hx hb dX9_rulesOf_41 (by decide) ?_
        have e0 : (oI ((-1))).toInt = (-1) := by decide
        have hpost : (oI ((-1))).toInt < 1073741824 := by first | assumption | omega | (with_reducible rfl) | ((repeat' apply And.intro) <;> first | assumption | omega | (with_reducible rfl))
        exact W.iret (v := (oI ((-1)))) hx hb hr (fun t ht hW => ⟨⟨(oI ((-1))), (), rfl, hpost, by rw [ht]; exact hP, va_K.moved hW.alike hK, hD⟩, hS.F ht⟩) hS.2.2 dX9_rulesOf_42
      · refine lv_aload_n hx hb dX9_rulesOf_32 rfl (lv_at hl 1 rfl) ?_
        refine cg_9_3 hx hb hts inX9_rulesOf_X9 hown hK hP (hts _ lkX9_rulesOf_f18) dX9_rulesOf_33 ?_
        refine lv_iload_n hx hb dX9_rulesOf_36 rfl (lv_at hl 0 rfl) ?_
        refine cl_22 hx hb hK hP (by omega) dX9_rulesOf_37 (fun w_9 hw_9 => ?_)
        have i_10 := i32r w_9
        refine lv_goto (tgt := 42) hx hb dX9_rulesOf_38 (by decide) ?_
        have hb9 := hva (v_1.toInt).toNat
        have tb9 : w_9.toInt = (X 22 (v_1.toInt).toNat).toInt := by rw [hw_9]
        have e0 : (oI w_9.toInt).toInt = w_9.toInt := congrArg Int32.toInt (oI_toInt _)
        have hpost : (oI w_9.toInt).toInt < 1073741824 := by first | assumption | omega | (with_reducible rfl) | ((repeat' apply And.intro) <;> first | assumption | omega | (with_reducible rfl))
        exact W.iret (v := (oI w_9.toInt)) hx hb hr (fun t ht hW => ⟨⟨(oI w_9.toInt), (), rfl, hpost, by rw [ht]; exact hP, va_K.moved hW.alike hK, hD⟩, hS.F ht⟩) hS.2.2 dX9_rulesOf_42
  · refine lv_aload_n hx hb dX9_rulesOf_11 rfl (lv_at hl 1 rfl) ?_
    refine cg_9_0 hx hb hts inX9_rulesOf_X9 hown hK hP (hts _ lkX9_rulesOf_f28) dX9_rulesOf_12 ?_
    refine lv_iload_n hx hb dX9_rulesOf_15 rfl (lv_at hl 0 rfl) ?_
    refine ccs_iV (As := [.int (oI v_1.toInt)]) (rest := []) ⟨hx, hb, hml, hown, hts⟩ (c_rulesOfN l dC dI cB cC cI cJ cZ a F X J R gf gn v_1.toInt  (i32r _) (show 0 ≤ (F 15).toInt ∧ (F 15).toInt ≤ 2560 from by first | assumption | omega) (show VB (X 12) from by first | assumption | omega)  s.heap.size) (cwV 1 hts kX9_rulesOf_X6_rulesOf_54 rfl rfl rfl (by decide +kernel) ⟨Nat.le_of_ble_eq_true rfl, Nat.le_of_ble_eq_true rfl⟩) (va_recv hK hP (ci := 6) (q0 := 6) rfl rfl) hK hNW hP hD hS hA rfl rfl hl.1 (lv_room (Nat.le_of_ble_eq_true rfl)) dX9_rulesOf_16 hcs (fun r_11 hw_12 H locs hP hD hS => ?_)
    have hw_12 : (r_11).toInt < 1073741824 := hw_12
    have hrl := hw_12
    have i_13 := i32r r_11
    have e0 : (oI r_11.toInt).toInt = r_11.toInt := congrArg Int32.toInt (oI_toInt _)
    have hpost : (oI r_11.toInt).toInt < 1073741824 := by first | assumption | omega | (with_reducible rfl) | ((repeat' apply And.intro) <;> first | assumption | omega | (with_reducible rfl))
    exact W.iret (v := (oI r_11.toInt)) hx hb hr (fun t ht hW => ⟨⟨(oI r_11.toInt), (), rfl, hpost, by rw [ht]; exact hP, va_K.moved hW.alike hK, hD⟩, hS.F ht⟩) hS.2.2 dX9_rulesOf_19

set_option maxHeartbeats 4000000 in
set_option maxRecDepth 100000 in
/-- X9_homeOf -/
theorem c_homeOf (l : Launch) (dC : Nat → ClassId) (dI : Nat → Nat → Nat) (cB cC cI cJ cZ : ClassId) (a : Nat → Nat) (F : Nat → Int32) (X : Nat → Nat → Int32) (J : Nat → Nat → Int64) (R : Nat → Nat) (gf gn : Nat) (x : Int)  (ix : (-2147483648 ≤ x ∧ x < 2147483648)) (hst : 0 ≤ (F 23).toInt ∧ (F 23).toInt ≤ 606) (s0 : Nat) : Met l yX9_homeOf vX9_homeOf { frames := 1, cells := 0, slots := 0, locals := 60 } (va_Pc [.ref (a 9), .int (oI x)] (cPre dC dI cB cC cI cJ cZ a F X J R gf gn s0)) (va_Qi (fun (r : Int32) (_ : Unit) => True) (fun _ => cPost dC dI cB cC cI cJ cZ a F X J R gf gn (va_A (CW cB cC cI cJ cZ a F X J R gf gn) s0)) (va_A (CW cB cC cI cJ cZ a F X J R gf gn) s0)) 0 0 (va_A (CW cB cC cI cJ cZ a F X J R gf gn) s0) := by
  refine Met.ofW (cc := cX9_homeOf) (maxL := 3) (ret := (some .int)) (by decide) rfl ?_
  intro p e s m args below meth c s₁ B9 hml hv
  obtain ⟨rfl, hsz0, hP, hK, hD0, hNW⟩ := hv
  have hx := B9.exec
  have hb := B9.bytes
  have hr := B9.returns
  have hts := atoms_spec (ws := vX9_homeOf) B9.pre
  have hown : s.vm.findClass RX9 = some m.cls := findClass_of_methodNamed B9.named
  have hlocks := B9.notSynchronized
  clear B9
  subst hsz0
  have hD := hD0.self (sz := s.heap.size)
  generalize hAe : va_A (CW cB cC cI cJ cZ a F X J R gf gn) s.heap.size = A at hD ⊢
  have hA : ∀ q : Nat, s.heap.size ≤ q → A q := fun q h => by rw [← hAe]; exact Or.inr h
  have hS : va_S A s.heap s.heap [] := va_S.rf
  have hcs : 0 + 0 ≤ (0 : Nat) ∧ 0 + 0 ≤ (0 : Nat) := ⟨Nat.le_refl 0, Nat.le_refl 0⟩
  have hl := lv_entry ([.ref (a 9), .int (oI x)]) (n := 3) (Nat.le_of_ble_eq_true rfl)
  rw [lg_entry_eq]
  generalize (lg_sl ([.ref (a 9), .int (oI x)]) ++ List.replicate (3 - (lg_sl ([.ref (a 9), .int (oI x)])).length) Slot.unset).toArray = ls at hl ⊢
  have hl : lv_has ls 3 [(0, .ref (a 9)), (1, .int (oI x))] := hl
  refine lv_iload_n hx hb dX9_homeOf_0 rfl (lv_at hl 1 rfl) ?_
  refine lv_iconst (v := oI 2) hx hb dX9_homeOf_1 (by decide) ?_
  refine lv_ishr hx hb dX9_homeOf_2 ?_
  refine lv_topi (fun v_1 ev_1 => ?_)
  refine tp_i (oI_toInt v_1).symm ?_
  have i_2 := i32r v_1
  refine lv_istore_n (lv' := [(2, .int (oI v_1.toInt)), (0, .ref (a 9)), (1, .int (oI x))]) hx hb dX9_homeOf_3 rfl hl (by decide) rfl (fun ls hl => ?_)
  refine lv_iload_n hx hb dX9_homeOf_4 rfl (lv_at hl 2 rfl) ?_
  refine lv_iconst (v := oI 3) hx hb dX9_homeOf_5 (by decide) ?_
  refine lv_iand hx hb dX9_homeOf_6 ?_
  refine lv_topi (fun v_3 ev_3 => ?_)
  refine tp_i (oI_toInt v_3).symm ?_
  have i_4 := i32r v_3
  refine lv_iconst (v := oI 2) hx hb dX9_homeOf_7 (by decide) ?_
  refine ci_ne (tgt := 32) hx hb (i32r _) (by decide) dX9_homeOf_8 (by decide) (fun c_5 => ?_) (fun c_5 => ?_)
  · refine lv_iconst (v := oI 0) hx hb dX9_homeOf_32 (by decide) ?_
    have hpost : True := trivial
    exact W.iret (v := (oI 0)) hx hb hr (fun t ht hW => ⟨⟨(oI 0), (), rfl, hpost, by rw [ht]; exact hP, va_K.moved hW.alike hK, hD⟩, hS.F ht⟩) hS.2.2 dX9_homeOf_33
  · refine lv_iload_n hx hb dX9_homeOf_11 rfl (lv_at hl 0 rfl) ?_
    refine cz_lt (tgt := 32) hx hb (i32r _) dX9_homeOf_12 (by decide) (fun c_6 => ?_) (fun c_6 => ?_)
    · refine lv_iconst (v := oI 0) hx hb dX9_homeOf_32 (by decide) ?_
      have hpost : True := trivial
      exact W.iret (v := (oI 0)) hx hb hr (fun t ht hW => ⟨⟨(oI 0), (), rfl, hpost, by rw [ht]; exact hP, va_K.moved hW.alike hK, hD⟩, hS.F ht⟩) hS.2.2 dX9_homeOf_33
    · refine lv_iload_n hx hb dX9_homeOf_15 rfl (lv_at hl 0 rfl) ?_
      refine lv_aload_n hx hb dX9_homeOf_16 rfl (lv_at hl 1 rfl) ?_
      refine cg_9_5 hx hb hts inX9_homeOf_X9 hown hK hP (hts _ lkX9_homeOf_f24) dX9_homeOf_17 ?_
      have i_7 := i32r (F 23)
      refine ci_ge (tgt := 32) hx hb (i32r _) (i32r _) dX9_homeOf_20 (by decide) (fun c_8 => ?_) (fun c_8 => ?_)
      · refine lv_iconst (v := oI 0) hx hb dX9_homeOf_32 (by decide) ?_
        have hpost : True := trivial
        exact W.iret (v := (oI 0)) hx hb hr (fun t ht hW => ⟨⟨(oI 0), (), rfl, hpost, by rw [ht]; exact hP, va_K.moved hW.alike hK, hD⟩, hS.F ht⟩) hS.2.2 dX9_homeOf_33
      · refine lv_aload_n hx hb dX9_homeOf_23 rfl (lv_at hl 1 rfl) ?_
        refine cg_9_4 hx hb hts inX9_homeOf_X9 hown hK hP (hts _ lkX9_homeOf_f21) dX9_homeOf_24 ?_
        refine lv_iload_n hx hb dX9_homeOf_27 rfl (lv_at hl 0 rfl) ?_
        refine cl_21 hx hb hK hP (by omega) dX9_homeOf_28 (fun w_9 hw_9 => ?_)
        have i_10 := i32r w_9
        refine lv_goto (tgt := 33) hx hb dX9_homeOf_29 (by decide) ?_
        have hpost : True := trivial
        exact W.iret (v := (oI w_9.toInt)) hx hb hr (fun t ht hW => ⟨⟨(oI w_9.toInt), (), rfl, hpost, by rw [ht]; exact hP, va_K.moved hW.alike hK, hD⟩, hS.F ht⟩) hS.2.2 dX9_homeOf_33
