def oX10_startText : List Cond := [Cond.fieldLink RX10 22 "MacroScopes$Told" "length" "I"]
def vX10_startText : List Cond := .code yX10_startText cX10_startText 1 none :: (oX10_startText ++ (wsX100))
theorem lkX10_startText_f22 : Cond.fieldLink RX10 22 "MacroScopes$Told" "length" "I" ∈ vX10_startText := List.mem_cons_of_mem _ (List.mem_append_left _ (List.mem_of_getElem? (i := 0) rfl))
theorem inX10_startText_X10 : ∀ w ∈ wsX100, w ∈ vX10_startText := fun w h => List.mem_cons_of_mem _ (List.mem_append_right _ (h))
def oX10_add : List Cond := [Cond.fieldLink RX10 22 "MacroScopes$Told" "length" "I", Cond.fieldLink RX10 19 "MacroScopes$Told" "text" "[C", Cond.fieldLink RX10 25 "MacroScopes$Told" "last" "C"]
def vX10_add : List Cond := .code yX10_add cX10_add 2 none :: (oX10_add ++ (wsX100))
theorem lkX10_add_f22 : Cond.fieldLink RX10 22 "MacroScopes$Told" "length" "I" ∈ vX10_add := List.mem_cons_of_mem _ (List.mem_append_left _ (List.mem_of_getElem? (i := 0) rfl))
theorem lkX10_add_f19 : Cond.fieldLink RX10 19 "MacroScopes$Told" "text" "[C" ∈ vX10_add := List.mem_cons_of_mem _ (List.mem_append_left _ (List.mem_of_getElem? (i := 1) rfl))
theorem lkX10_add_f25 : Cond.fieldLink RX10 25 "MacroScopes$Told" "last" "C" ∈ vX10_add := List.mem_cons_of_mem _ (List.mem_append_left _ (List.mem_of_getElem? (i := 2) rfl))
theorem inX10_add_X10 : ∀ w ∈ wsX100, w ∈ vX10_add := fun w h => List.mem_cons_of_mem _ (List.mem_append_right _ (h))
def oX10_addBlank : List Cond := [Cond.fieldLink RX10 22 "MacroScopes$Told" "length" "I", Cond.fieldLink RX10 25 "MacroScopes$Told" "last" "C", Cond.methodLink RX10 29 yX10_add, Cond.instanceMethod yX10_add, Cond.selects RX10 yX10_add yX10_add, Cond.initialized RX10]
def vX10_addBlank : List Cond := .code yX10_addBlank cX10_addBlank 1 none :: (oX10_addBlank ++ (vX10_add ++ (wsX100)))
theorem lkX10_addBlank_f22 : Cond.fieldLink RX10 22 "MacroScopes$Told" "length" "I" ∈ vX10_addBlank := List.mem_cons_of_mem _ (List.mem_append_left _ (List.mem_of_getElem? (i := 0) rfl))
theorem lkX10_addBlank_f25 : Cond.fieldLink RX10 25 "MacroScopes$Told" "last" "C" ∈ vX10_addBlank := List.mem_cons_of_mem _ (List.mem_append_left _ (List.mem_of_getElem? (i := 1) rfl))
theorem inX10_addBlank_X10 : ∀ w ∈ wsX100, w ∈ vX10_addBlank := fun w h => List.mem_cons_of_mem _ (List.mem_append_right _ (List.mem_append_right _ (h)))
theorem kX10_addBlank_X10_add_29 : GoodIn vX10_addBlank (wsV RX10 29 RX10 yX10_add vX10_add) := goodIn_sub (fun w h => (List.mem_append.mp h).elim (fun h => List.mem_cons_of_mem _ (List.mem_append_left _ ((by decide +kernel : ∀ w ∈ ([.methodLink RX10 29 yX10_add, .instanceMethod yX10_add, .selects RX10 yX10_add yX10_add, .initialized RX10] : List Cond), w ∈ oX10_addBlank) w h))) (fun h => List.mem_cons_of_mem _ (List.mem_append_right _ (List.mem_append_left _ (h))))) (by decide +kernel)
def oX10_open : List Cond := [Cond.methodLink RX10 33 yX10_addBlank, Cond.instanceMethod yX10_addBlank, Cond.selects RX10 yX10_addBlank yX10_addBlank, Cond.initialized RX10, Cond.methodLink RX10 29 yX10_add, Cond.instanceMethod yX10_add, Cond.selects RX10 yX10_add yX10_add]
def vX10_open : List Cond := .code yX10_open cX10_open 1 none :: (oX10_open ++ (vX10_addBlank ++ (vX10_add)))
theorem kX10_open_X10_addBlank_33 : GoodIn vX10_open (wsV RX10 33 RX10 yX10_addBlank vX10_addBlank) := goodIn_sub (fun w h => (List.mem_append.mp h).elim (fun h => List.mem_cons_of_mem _ (List.mem_append_left _ ((by decide +kernel : ∀ w ∈ ([.methodLink RX10 33 yX10_addBlank, .instanceMethod yX10_addBlank, .selects RX10 yX10_addBlank yX10_addBlank, .initialized RX10] : List Cond), w ∈ oX10_open) w h))) (fun h => List.mem_cons_of_mem _ (List.mem_append_right _ (List.mem_append_left _ (h))))) (by decide +kernel)
theorem kX10_open_X10_add_29 : GoodIn vX10_open (wsV RX10 29 RX10 yX10_add vX10_add) := goodIn_sub (fun w h => (List.mem_append.mp h).elim (fun h => List.mem_cons_of_mem _ (List.mem_append_left _ ((by decide +kernel : ∀ w ∈ ([.methodLink RX10 29 yX10_add, .instanceMethod yX10_add, .selects RX10 yX10_add yX10_add, .initialized RX10] : List Cond), w ∈ oX10_open) w h))) (fun h => List.mem_cons_of_mem _ (List.mem_append_right _ (List.mem_append_right _ (h))))) (by decide +kernel)
def oX10_close : List Cond := [Cond.methodLink RX10 29 yX10_add, Cond.instanceMethod yX10_add, Cond.selects RX10 yX10_add yX10_add, Cond.initialized RX10]
def vX10_close : List Cond := .code yX10_close cX10_close 1 none :: (oX10_close ++ (vX10_add))
theorem kX10_close_X10_add_29 : GoodIn vX10_close (wsV RX10 29 RX10 yX10_add vX10_add) := goodIn_sub (fun w h => (List.mem_append.mp h).elim (fun h => List.mem_cons_of_mem _ (List.mem_append_left _ ((by decide +kernel : ∀ w ∈ ([.methodLink RX10 29 yX10_add, .instanceMethod yX10_add, .selects RX10 yX10_add yX10_add, .initialized RX10] : List Cond), w ∈ oX10_close) w h))) (fun h => List.mem_cons_of_mem _ (List.mem_append_right _ (h)))) (by decide +kernel)
def oX10_addDigits : List Cond := [Cond.methodLink RX10 29 yX10_add, Cond.instanceMethod yX10_add, Cond.selects RX10 yX10_add yX10_add, Cond.initialized RX10]
def vX10_addDigits : List Cond := .code yX10_addDigits cX10_addDigits 4 none :: (oX10_addDigits ++ (vX10_add))
theorem kX10_addDigits_X10_add_29 : GoodIn vX10_addDigits (wsV RX10 29 RX10 yX10_add vX10_add) := goodIn_sub (fun w h => (List.mem_append.mp h).elim (fun h => List.mem_cons_of_mem _ (List.mem_append_left _ ((by decide +kernel : ∀ w ∈ ([.methodLink RX10 29 yX10_add, .instanceMethod yX10_add, .selects RX10 yX10_add yX10_add, .initialized RX10] : List Cond), w ∈ oX10_addDigits) w h))) (fun h => List.mem_cons_of_mem _ (List.mem_append_right _ (h)))) (by decide +kernel)
def oX10_addHalf : List Cond := [Cond.constantLong RX10 53 (255), Cond.methodLink RX10 29 yX10_add, Cond.instanceMethod yX10_add, Cond.selects RX10 yX10_add yX10_add, Cond.initialized RX10]
def vX10_addHalf : List Cond := .code yX10_addHalf cX10_addHalf 5 none :: (oX10_addHalf ++ (vX10_add))
theorem lkX10_addHalf_c53 : Cond.constantLong RX10 53 (255) ∈ vX10_addHalf := List.mem_cons_of_mem _ (List.mem_append_left _ (List.mem_of_getElem? (i := 0) rfl))
theorem kX10_addHalf_X10_add_29 : GoodIn vX10_addHalf (wsV RX10 29 RX10 yX10_add vX10_add) := goodIn_sub (fun w h => (List.mem_append.mp h).elim (fun h => List.mem_cons_of_mem _ (List.mem_append_left _ ((by decide +kernel : ∀ w ∈ ([.methodLink RX10 29 yX10_add, .instanceMethod yX10_add, .selects RX10 yX10_add yX10_add, .initialized RX10] : List Cond), w ∈ oX10_addHalf) w h))) (fun h => List.mem_cons_of_mem _ (List.mem_append_right _ (h)))) (by decide +kernel)
def oX10_addNumber : List Cond := [Cond.methodLink RX10 33 yX10_addBlank, Cond.instanceMethod yX10_addBlank, Cond.selects RX10 yX10_addBlank yX10_addBlank, Cond.initialized RX10, Cond.methodLink RX10 36 yX10_addDigits, Cond.instanceMethod yX10_addDigits, Cond.selects RX10 yX10_addDigits yX10_addDigits]
def vX10_addNumber : List Cond := .code yX10_addNumber cX10_addNumber 2 none :: (oX10_addNumber ++ (vX10_addBlank ++ (vX10_addDigits)))
theorem kX10_addNumber_X10_addBlank_33 : GoodIn vX10_addNumber (wsV RX10 33 RX10 yX10_addBlank vX10_addBlank) := goodIn_sub (fun w h => (List.mem_append.mp h).elim (fun h => List.mem_cons_of_mem _ (List.mem_append_left _ ((by decide +kernel : ∀ w ∈ ([.methodLink RX10 33 yX10_addBlank, .instanceMethod yX10_addBlank, .selects RX10 yX10_addBlank yX10_addBlank, .initialized RX10] : List Cond), w ∈ oX10_addNumber) w h))) (fun h => List.mem_cons_of_mem _ (List.mem_append_right _ (List.mem_append_left _ (h))))) (by decide +kernel)
theorem kX10_addNumber_X10_addDigits_36 : GoodIn vX10_addNumber (wsV RX10 36 RX10 yX10_addDigits vX10_addDigits) := goodIn_sub (fun w h => (List.mem_append.mp h).elim (fun h => List.mem_cons_of_mem _ (List.mem_append_left _ ((by decide +kernel : ∀ w ∈ ([.methodLink RX10 36 yX10_addDigits, .instanceMethod yX10_addDigits, .selects RX10 yX10_addDigits yX10_addDigits, .initialized RX10] : List Cond), w ∈ oX10_addNumber) w h))) (fun h => List.mem_cons_of_mem _ (List.mem_append_right _ (List.mem_append_right _ (h))))) (by decide +kernel)
def oX10_addVariable : List Cond := [Cond.methodLink RX10 33 yX10_addBlank, Cond.instanceMethod yX10_addBlank, Cond.selects RX10 yX10_addBlank yX10_addBlank, Cond.initialized RX10, Cond.methodLink RX10 29 yX10_add, Cond.instanceMethod yX10_add, Cond.selects RX10 yX10_add yX10_add, Cond.methodLink RX10 36 yX10_addDigits, Cond.instanceMethod yX10_addDigits, Cond.selects RX10 yX10_addDigits yX10_addDigits]
def vX10_addVariable : List Cond := .code yX10_addVariable cX10_addVariable 2 none :: (oX10_addVariable ++ (vX10_addBlank ++ (vX10_add ++ (vX10_addDigits))))
theorem kX10_addVariable_X10_addBlank_33 : GoodIn vX10_addVariable (wsV RX10 33 RX10 yX10_addBlank vX10_addBlank) := goodIn_sub (fun w h => (List.mem_append.mp h).elim (fun h => List.mem_cons_of_mem _ (List.mem_append_left _ ((by decide +kernel : ∀ w ∈ ([.methodLink RX10 33 yX10_addBlank, .instanceMethod yX10_addBlank, .selects RX10 yX10_addBlank yX10_addBlank, .initialized RX10] : List Cond), w ∈ oX10_addVariable) w h))) (fun h => List.mem_cons_of_mem _ (List.mem_append_right _ (List.mem_append_left _ (h))))) (by decide +kernel)
theorem kX10_addVariable_X10_add_29 : GoodIn vX10_addVariable (wsV RX10 29 RX10 yX10_add vX10_add) := goodIn_sub (fun w h => (List.mem_append.mp h).elim (fun h => List.mem_cons_of_mem _ (List.mem_append_left _ ((by decide +kernel : ∀ w ∈ ([.methodLink RX10 29 yX10_add, .instanceMethod yX10_add, .selects RX10 yX10_add yX10_add, .initialized RX10] : List Cond), w ∈ oX10_addVariable) w h))) (fun h => List.mem_cons_of_mem _ (List.mem_append_right _ (List.mem_append_right _ (List.mem_append_left _ (h)))))) (by decide +kernel)
theorem kX10_addVariable_X10_addDigits_36 : GoodIn vX10_addVariable (wsV RX10 36 RX10 yX10_addDigits vX10_addDigits) := goodIn_sub (fun w h => (List.mem_append.mp h).elim (fun h => List.mem_cons_of_mem _ (List.mem_append_left _ ((by decide +kernel : ∀ w ∈ ([.methodLink RX10 36 yX10_addDigits, .instanceMethod yX10_addDigits, .selects RX10 yX10_addDigits yX10_addDigits, .initialized RX10] : List Cond), w ∈ oX10_addVariable) w h))) (fun h => List.mem_cons_of_mem _ (List.mem_append_right _ (List.mem_append_right _ (List.mem_append_right _ (h)))))) (by decide +kernel)
def oX10_addSymbol : List Cond := [Cond.methodLink RX10 33 yX10_addBlank, Cond.instanceMethod yX10_addBlank, Cond.selects RX10 yX10_addBlank yX10_addBlank, Cond.initialized RX10, Cond.methodLink RX10 46 yX10_addHalf, Cond.instanceMethod yX10_addHalf, Cond.selects RX10 yX10_addHalf yX10_addHalf]
def vX10_addSymbol : List Cond := .code yX10_addSymbol cX10_addSymbol 3 none :: (oX10_addSymbol ++ (vX10_addBlank ++ (vX10_addHalf ++ (wsX60))))
theorem inX10_addSymbol_X6 : ∀ w ∈ wsX60, w ∈ vX10_addSymbol := fun w h => List.mem_cons_of_mem _ (List.mem_append_right _ (List.mem_append_right _ (List.mem_append_right _ (h))))
theorem kX10_addSymbol_X10_addBlank_33 : GoodIn vX10_addSymbol (wsV RX10 33 RX10 yX10_addBlank vX10_addBlank) := goodIn_sub (fun w h => (List.mem_append.mp h).elim (fun h => List.mem_cons_of_mem _ (List.mem_append_left _ ((by decide +kernel : ∀ w ∈ ([.methodLink RX10 33 yX10_addBlank, .instanceMethod yX10_addBlank, .selects RX10 yX10_addBlank yX10_addBlank, .initialized RX10] : List Cond), w ∈ oX10_addSymbol) w h))) (fun h => List.mem_cons_of_mem _ (List.mem_append_right _ (List.mem_append_left _ (h))))) (by decide +kernel)
theorem kX10_addSymbol_X10_addHalf_46 : GoodIn vX10_addSymbol (wsV RX10 46 RX10 yX10_addHalf vX10_addHalf) := goodIn_sub (fun w h => (List.mem_append.mp h).elim (fun h => List.mem_cons_of_mem _ (List.mem_append_left _ ((by decide +kernel : ∀ w ∈ ([.methodLink RX10 46 yX10_addHalf, .instanceMethod yX10_addHalf, .selects RX10 yX10_addHalf yX10_addHalf, .initialized RX10] : List Cond), w ∈ oX10_addSymbol) w h))) (fun h => List.mem_cons_of_mem _ (List.mem_append_right _ (List.mem_append_right _ (List.mem_append_left _ (h)))))) (by decide +kernel)
def oX10_at : List Cond := [Cond.fieldLink RX10 15 "MacroScopes$Told" "takenLength" "I", Cond.fieldLink RX10 9 "MacroScopes$Told" "taken" "[C"]
def vX10_at : List Cond := .code yX10_at cX10_at 2 (some .int) :: (oX10_at ++ (wsX100))
theorem lkX10_at_f15 : Cond.fieldLink RX10 15 "MacroScopes$Told" "takenLength" "I" ∈ vX10_at := List.mem_cons_of_mem _ (List.mem_append_left _ (List.mem_of_getElem? (i := 0) rfl))
theorem lkX10_at_f9 : Cond.fieldLink RX10 9 "MacroScopes$Told" "taken" "[C" ∈ vX10_at := List.mem_cons_of_mem _ (List.mem_append_left _ (List.mem_of_getElem? (i := 1) rfl))
theorem inX10_at_X10 : ∀ w ∈ wsX100, w ∈ vX10_at := fun w h => List.mem_cons_of_mem _ (List.mem_append_right _ (h))
def oX10_canBeRead : List Cond := [Cond.fieldLink RX10 15 "MacroScopes$Told" "takenLength" "I", Cond.fieldLink RX10 9 "MacroScopes$Told" "taken" "[C"]
def vX10_canBeRead : List Cond := .code yX10_canBeRead cX10_canBeRead 3 (some .boolean) :: (oX10_canBeRead ++ (wsX100))
theorem lkX10_canBeRead_f15 : Cond.fieldLink RX10 15 "MacroScopes$Told" "takenLength" "I" ∈ vX10_canBeRead := List.mem_cons_of_mem _ (List.mem_append_left _ (List.mem_of_getElem? (i := 0) rfl))
theorem lkX10_canBeRead_f9 : Cond.fieldLink RX10 9 "MacroScopes$Told" "taken" "[C" ∈ vX10_canBeRead := List.mem_cons_of_mem _ (List.mem_append_left _ (List.mem_of_getElem? (i := 1) rfl))
theorem inX10_canBeRead_X10 : ∀ w ∈ wsX100, w ∈ vX10_canBeRead := fun w h => List.mem_cons_of_mem _ (List.mem_append_right _ (h))
set_option maxHeartbeats 4000000 in
set_option maxRecDepth 100000 in
/-- X10_startText -/
theorem c_startT (l : Launch) (dC : Nat → ClassId) (dI : Nat → Nat → Nat) (cB cC cI cJ cZ : ClassId) (a : Nat → Nat) (F : Nat → Int32) (X : Nat → Nat → Int32) (J : Nat → Nat → Int64) (R : Nat → Nat) (gf gn : Nat)  (s0 : Nat) : Met l yX10_startText vX10_startText { frames := 1, cells := 0, slots := 0, locals := 60 } (va_Pc [.ref (a 10)] (cPre dC dI cB cC cI cJ cZ a F X J R gf gn s0)) (va_Qv (fun (u : (Nat → Int32) × (Nat → Nat → Int32)) => match u with | (F1, X1) => (F1 25).toInt = 0) (fun u => cPost dC dI cB cC cI cJ cZ a (rg 25 25 F u.1) X J R gf gn (va_A (CW cB cC cI cJ cZ a F X J R gf gn) s0)) (va_A (CW cB cC cI cJ cZ a F X J R gf gn) s0)) 0 0 (va_A (CW cB cC cI cJ cZ a F X J R gf gn) s0) := by
  refine Met.ofW (cc := cX10_startText) (maxL := 1) (ret := none) (by decide) rfl ?_
  intro p e s m args below meth c s₁ B9 hml hv
  obtain ⟨rfl, hsz0, hP, hK, hD0, hNW⟩ := hv
  have hx := B9.exec
  have hb := B9.bytes
  have hr := B9.returns
  have hts := atoms_spec (ws := vX10_startText) B9.pre
  have hown : s.vm.findClass RX10 = some m.cls := findClass_of_methodNamed B9.named
  have hlocks := B9.notSynchronized
  clear B9
  subst hsz0
  have hD := hD0.self (sz := s.heap.size)
  generalize hAe : va_A (CW cB cC cI cJ cZ a F X J R gf gn) s.heap.size = A at hD ⊢
  have hA : ∀ q : Nat, s.heap.size ≤ q → A q := fun q h => by rw [← hAe]; exact Or.inr h
  have hS : va_S A s.heap s.heap [] := va_S.rf
  have hcs : 0 + 0 ≤ (0 : Nat) ∧ 0 + 0 ≤ (0 : Nat) := ⟨Nat.le_refl 0, Nat.le_refl 0⟩
  have hl := lv_entry ([.ref (a 10)]) (n := 1) (Nat.le_of_ble_eq_true rfl)
  rw [lg_entry_eq]
  generalize (lg_sl ([.ref (a 10)]) ++ List.replicate (1 - (lg_sl ([.ref (a 10)])).length) Slot.unset).toArray = ls at hl ⊢
  have hl : lv_has ls 1 [(0, .ref (a 10))] := hl
  refine lv_aload_n hx hb dX10_startText_0 rfl (lv_at hl 0 rfl) ?_
  refine lv_iconst (v := oI 0) hx hb dX10_startText_1 (by decide) ?_
  refine cp_10_3 hx hb hts inX10_startText_X10 hown hK hP hD hS (hts _ lkX10_startText_f22) dX10_startText_2 (fun H locs hP hD hS => ?_)
  have hP : va_P (dC, dI) vwCl (CW cB cC cI cJ cZ a (va_up F 25 (oI 0)) X J R gf gn) H := hP
  have hD : va_D A (CW cB cC cI cJ cZ a (va_up F 25 (oI 0)) X J R gf gn) := hD
  have e_1 : (oI 0).toInt = 0 := by decide
  have eF9 : rg 25 25 F (va_up F 25 (oI 0)) = va_up F 25 (oI 0) := by funext k; simp only [rg, va_up]; (repeat' split) <;> first | with_reducible rfl | omega
  have hP9 : va_P (dC, dI) vwCl (CW cB cC cI cJ cZ a (rg 25 25 F (va_up F 25 (oI 0))) X J R gf gn) H := by rw [eF9]; exact hP
  have hD9 : va_D A (CW cB cC cI cJ cZ a (rg 25 25 F (va_up F 25 (oI 0))) X J R gf gn) := by rw [eF9]; exact hD
  have hpost : (oI 0).toInt = 0 := by first | assumption | omega | (with_reducible rfl) | ((repeat' apply And.intro) <;> first | assumption | omega | (with_reducible rfl))
  exact W.vret hx hb hr (fun t ht hW => ⟨⟨(va_up F 25 (oI 0), X), rfl, hpost, by rw [ht]; exact hP9, va_K.moved hW.alike hK, hD9⟩, hS.F ht⟩) hS.2.2 dX10_startText_5

set_option maxHeartbeats 4000000 in
set_option maxRecDepth 100000 in
/-- X10_add -/
theorem c_addT (l : Launch) (dC : Nat → ClassId) (dI : Nat → Nat → Nat) (cB cC cI cJ cZ : ClassId) (a : Nat → Nat) (F : Nat → Int32) (X : Nat → Nat → Int32) (J : Nat → Nat → Int64) (R : Nat → Nat) (gf gn : Nat) (x : Int)  (ix : (-2147483648 ≤ x ∧ x < 2147483648)) (htl : 0 ≤ (F 25).toInt ∧ (F 25).toInt ≤ 2000000000) (hc9 : 0 ≤ x ∧ x < 65536) (s0 : Nat) : Met l yX10_add vX10_add { frames := 1, cells := 0, slots := 0, locals := 60 } (va_Pc [.ref (a 10), .int (oI x)] (cPre dC dI cB cC cI cJ cZ a F X J R gf gn s0)) (va_Qv (fun (u : (Nat → Int32) × (Nat → Nat → Int32)) => match u with | (F1, X1) => (F1 25).toInt = (F 25).toInt + 1) (fun u => cPost dC dI cB cC cI cJ cZ a (rg 25 26 F u.1) (rg 25 25 X u.2) J R gf gn (va_A (CW cB cC cI cJ cZ a F X J R gf gn) s0)) (va_A (CW cB cC cI cJ cZ a F X J R gf gn) s0)) 0 0 (va_A (CW cB cC cI cJ cZ a F X J R gf gn) s0) := by
  refine Met.ofW (cc := cX10_add) (maxL := 2) (ret := none) (by decide) rfl ?_
  intro p e s m args below meth c s₁ B9 hml hv
  obtain ⟨rfl, hsz0, hP, hK, hD0, hNW⟩ := hv
  have hx := B9.exec
  have hb := B9.bytes
  have hr := B9.returns
  have hts := atoms_spec (ws := vX10_add) B9.pre
  have hown : s.vm.findClass RX10 = some m.cls := findClass_of_methodNamed B9.named
  have hlocks := B9.notSynchronized
  clear B9
  subst hsz0
  have hD := hD0.self (sz := s.heap.size)
  generalize hAe : va_A (CW cB cC cI cJ cZ a F X J R gf gn) s.heap.size = A at hD ⊢
  have hA : ∀ q : Nat, s.heap.size ≤ q → A q := fun q h => by rw [← hAe]; exact Or.inr h
  have hS : va_S A s.heap s.heap [] := va_S.rf
  have hcs : 0 + 0 ≤ (0 : Nat) ∧ 0 + 0 ≤ (0 : Nat) := ⟨Nat.le_refl 0, Nat.le_refl 0⟩
  have hl := lv_entry ([.ref (a 10), .int (oI x)]) (n := 2) (Nat.le_of_ble_eq_true rfl)
  rw [lg_entry_eq]
  generalize (lg_sl ([.ref (a 10), .int (oI x)]) ++ List.replicate (2 - (lg_sl ([.ref (a 10), .int (oI x)])).length) Slot.unset).toArray = ls at hl ⊢
  have hl : lv_has ls 2 [(0, .ref (a 10)), (1, .int (oI x))] := hl
  refine lv_aload_n hx hb dX10_add_0 rfl (lv_at hl 0 rfl) ?_
  refine cg_10_3 hx hb hts inX10_add_X10 hown hK hP (hts _ lkX10_add_f22) dX10_add_1 ?_
  have i_1 := i32r (F 25)
  refine lv_aload_n hx hb dX10_add_4 rfl (lv_at hl 0 rfl) ?_
  refine cg_10_2 hx hb hts inX10_add_X10 hown hK hP (hts _ lkX10_add_f19) dX10_add_5 ?_
  refine cn_25 hx hb hK hP dX10_add_8 ?_
  refine ci_ge (tgt := 22) hx hb (i32r _) (by decide) dX10_add_9 (by decide) (fun c_2 => ?_) (fun c_2 => ?_)
  · refine lv_aload_n hx hb dX10_add_22 rfl (lv_at hl 0 rfl) ?_
    refine lv_dup hx hb dX10_add_23 rfl ?_
    refine cg_10_3 hx hb hts inX10_add_X10 hown hK hP (hts _ lkX10_add_f22) dX10_add_24 ?_
    refine lv_iconst (v := oI 1) hx hb dX10_add_27 (by decide) ?_
    refine lv_iadd hx hb dX10_add_28 ?_
    refine tp_i (oI_add ((F 25).toInt) 1) ?_
    refine cp_10_3 hx hb hts inX10_add_X10 hown hK hP hD hS (hts _ lkX10_add_f22) dX10_add_29 (fun H locs hP hD hS => ?_)
    have hP : va_P (dC, dI) vwCl (CW cB cC cI cJ cZ a (va_up F 25 (oI (((F 25).toInt) + 1))) X J R gf gn) H := hP
    have hD : va_D A (CW cB cC cI cJ cZ a (va_up F 25 (oI (((F 25).toInt) + 1))) X J R gf gn) := hD
    have e_3 : (oI (((F 25).toInt) + 1)).toInt = ((F 25).toInt) + 1 := toInt_oI (by omega)
    refine lv_aload_n hx hb dX10_add_32 rfl (lv_at hl 0 rfl) ?_
    refine lv_iload_n hx hb dX10_add_33 rfl (lv_at hl 1 rfl) ?_
    refine cp_10_4 hx hb hts inX10_add_X10 hown hK hP hD hS (chr9 (by omega)) (hts _ lkX10_add_f25) dX10_add_34 (fun H locs hP hD hS => ?_)
    have hP : va_P (dC, dI) vwCl (CW cB cC cI cJ cZ a (va_up (va_up F 25 (oI (((F 25).toInt) + 1))) 26 (oI x)) X J R gf gn) H := hP
    have hD : va_D A (CW cB cC cI cJ cZ a (va_up (va_up F 25 (oI (((F 25).toInt) + 1))) 26 (oI x)) X J R gf gn) := hD
    have eF9 : rg 25 26 F (va_up (va_up F 25 (oI (((F 25).toInt) + 1))) 26 (oI x)) = va_up (va_up F 25 (oI (((F 25).toInt) + 1))) 26 (oI x) := by funext k; simp only [rg, va_up]; (repeat' split) <;> first | with_reducible rfl | omega
    have eX9 : rg 25 25 X X = X := by funext k; simp only [rg, va_up]; (repeat' split) <;> first | with_reducible rfl | omega
    have hP9 : va_P (dC, dI) vwCl (CW cB cC cI cJ cZ a (rg 25 26 F (va_up (va_up F 25 (oI (((F 25).toInt) + 1))) 26 (oI x))) (rg 25 25 X X) J R gf gn) H := by rw [eF9, eX9]; exact hP
    have hD9 : va_D A (CW cB cC cI cJ cZ a (rg 25 26 F (va_up (va_up F 25 (oI (((F 25).toInt) + 1))) 26 (oI x))) (rg 25 25 X X) J R gf gn) := by rw [eF9, eX9]; exact hD
    have hpost : (oI (((F 25).toInt) + 1)).toInt = (F 25).toInt + 1 := by first | assumption | omega | (with_reducible rfl) | ((repeat' apply And.intro) <;> first | assumption | omega | (with_reducible rfl))
    exact W.vret hx hb hr (fun t ht hW => ⟨⟨(va_up (va_up F 25 (oI (((F 25).toInt) + 1))) 26 (oI x), X), rfl, hpost, by rw [ht]; exact hP9, va_K.moved hW.alike hK, hD9⟩, hS.F ht⟩) hS.2.2 dX10_add_37
  · refine lv_aload_n hx hb dX10_add_12 rfl (lv_at hl 0 rfl) ?_
    refine cg_10_2 hx hb hts inX10_add_X10 hown hK hP (hts _ lkX10_add_f19) dX10_add_13 ?_
    refine lv_aload_n hx hb dX10_add_16 rfl (lv_at hl 0 rfl) ?_
    refine cg_10_3 hx hb hts inX10_add_X10 hown hK hP (hts _ lkX10_add_f22) dX10_add_17 ?_
    refine lv_iload_n hx hb dX10_add_20 rfl (lv_at hl 1 rfl) ?_
    refine cs_25 hx hb hK hP hD hS (by omega) dX10_add_21 (fun H locs hP hD hS => ?_)
    have hP : va_P (dC, dI) vwCl (CW cB cC cI cJ cZ a F (va_up X 25 (upd (X 25) ((F 25).toInt).toNat (vp_nar .char (oI x)))) J R gf gn) H := hP
    have hD : va_D A (CW cB cC cI cJ cZ a F (va_up X 25 (upd (X 25) ((F 25).toInt).toNat (vp_nar .char (oI x)))) J R gf gn) := hD
    refine lv_aload_n hx hb dX10_add_22 rfl (lv_at hl 0 rfl) ?_
    refine lv_dup hx hb dX10_add_23 rfl ?_
    refine cg_10_3 hx hb hts inX10_add_X10 hown hK hP (hts _ lkX10_add_f22) dX10_add_24 ?_
    refine lv_iconst (v := oI 1) hx hb dX10_add_27 (by decide) ?_
    refine lv_iadd hx hb dX10_add_28 ?_
    refine tp_i (oI_add ((F 25).toInt) 1) ?_
    refine cp_10_3 hx hb hts inX10_add_X10 hown hK hP hD hS (hts _ lkX10_add_f22) dX10_add_29 (fun H locs hP hD hS => ?_)
    have hP : va_P (dC, dI) vwCl (CW cB cC cI cJ cZ a (va_up F 25 (oI (((F 25).toInt) + 1))) (va_up X 25 (upd (X 25) ((F 25).toInt).toNat (vp_nar .char (oI x)))) J R gf gn) H := hP
    have hD : va_D A (CW cB cC cI cJ cZ a (va_up F 25 (oI (((F 25).toInt) + 1))) (va_up X 25 (upd (X 25) ((F 25).toInt).toNat (vp_nar .char (oI x)))) J R gf gn) := hD
    have e_4 : (oI (((F 25).toInt) + 1)).toInt = ((F 25).toInt) + 1 := toInt_oI (by omega)
    refine lv_aload_n hx hb dX10_add_32 rfl (lv_at hl 0 rfl) ?_
    refine lv_iload_n hx hb dX10_add_33 rfl (lv_at hl 1 rfl) ?_
    refine cp_10_4 hx hb hts inX10_add_X10 hown hK hP hD hS (chr9 (by omega)) (hts _ lkX10_add_f25) dX10_add_34 (fun H locs hP hD hS => ?_)
    have hP : va_P (dC, dI) vwCl (CW cB cC cI cJ cZ a (va_up (va_up F 25 (oI (((F 25).toInt) + 1))) 26 (oI x)) (va_up X 25 (upd (X 25) ((F 25).toInt).toNat (vp_nar .char (oI x)))) J R gf gn) H := hP
    have hD : va_D A (CW cB cC cI cJ cZ a (va_up (va_up F 25 (oI (((F 25).toInt) + 1))) 26 (oI x)) (va_up X 25 (upd (X 25) ((F 25).toInt).toNat (vp_nar .char (oI x)))) J R gf gn) := hD
    have eF9 : rg 25 26 F (va_up (va_up F 25 (oI (((F 25).toInt) + 1))) 26 (oI x)) = va_up (va_up F 25 (oI (((F 25).toInt) + 1))) 26 (oI x) := by funext k; simp only [rg, va_up]; (repeat' split) <;> first | with_reducible rfl | omega
    have eX9 : rg 25 25 X (va_up X 25 (upd (X 25) ((F 25).toInt).toNat (vp_nar .char (oI x)))) = va_up X 25 (upd (X 25) ((F 25).toInt).toNat (vp_nar .char (oI x))) := by funext k; simp only [rg, va_up]; (repeat' split) <;> first | with_reducible rfl | omega
    have hP9 : va_P (dC, dI) vwCl (CW cB cC cI cJ cZ a (rg 25 26 F (va_up (va_up F 25 (oI (((F 25).toInt) + 1))) 26 (oI x))) (rg 25 25 X (va_up X 25 (upd (X 25) ((F 25).toInt).toNat (vp_nar .char (oI x))))) J R gf gn) H := by rw [eF9, eX9]; exact hP
    have hD9 : va_D A (CW cB cC cI cJ cZ a (rg 25 26 F (va_up (va_up F 25 (oI (((F 25).toInt) + 1))) 26 (oI x))) (rg 25 25 X (va_up X 25 (upd (X 25) ((F 25).toInt).toNat (vp_nar .char (oI x))))) J R gf gn) := by rw [eF9, eX9]; exact hD
    have hpost : (oI (((F 25).toInt) + 1)).toInt = (F 25).toInt + 1 := by first | assumption | omega | (with_reducible rfl) | ((repeat' apply And.intro) <;> first | assumption | omega | (with_reducible rfl))
    exact W.vret hx hb hr (fun t ht hW => ⟨⟨(va_up (va_up F 25 (oI (((F 25).toInt) + 1))) 26 (oI x), va_up X 25 (upd (X 25) ((F 25).toInt).toNat (vp_nar .char (oI x)))), rfl, hpost, by rw [ht]; exact hP9, va_K.moved hW.alike hK, hD9⟩, hS.F ht⟩) hS.2.2 dX10_add_37

set_option maxHeartbeats 4000000 in
set_option maxRecDepth 100000 in
/-- X10_addBlank -/
theorem c_addBlank (l : Launch) (dC : Nat → ClassId) (dI : Nat → Nat → Nat) (cB cC cI cJ cZ : ClassId) (a : Nat → Nat) (F : Nat → Int32) (X : Nat → Nat → Int32) (J : Nat → Nat → Int64) (R : Nat → Nat) (gf gn : Nat)  (htl : 0 ≤ (F 25).toInt ∧ (F 25).toInt ≤ 2000000000) (s0 : Nat) : Met l yX10_addBlank vX10_addBlank { frames := 2, cells := 0, slots := 0, locals := 81 } (va_Pc [.ref (a 10)] (cPre dC dI cB cC cI cJ cZ a F X J R gf gn s0)) (va_Qv (fun (u : (Nat → Int32) × (Nat → Nat → Int32)) => match u with | (F1, X1) => (F 25).toInt + 0 ≤ (F1 25).toInt ∧ (F1 25).toInt ≤ (F 25).toInt + 1) (fun u => cPost dC dI cB cC cI cJ cZ a (rg 25 26 F u.1) (rg 25 25 X u.2) J R gf gn (va_A (CW cB cC cI cJ cZ a F X J R gf gn) s0)) (va_A (CW cB cC cI cJ cZ a F X J R gf gn) s0)) 0 0 (va_A (CW cB cC cI cJ cZ a F X J R gf gn) s0) := by
  refine Met.ofW (cc := cX10_addBlank) (maxL := 1) (ret := none) (by decide) rfl ?_
  intro p e s m args below meth c s₁ B9 hml hv
  obtain ⟨rfl, hsz0, hP, hK, hD0, hNW⟩ := hv
  have hx := B9.exec
  have hb := B9.bytes
  have hr := B9.returns
  have hts := atoms_spec (ws := vX10_addBlank) B9.pre
  have hown : s.vm.findClass RX10 = some m.cls := findClass_of_methodNamed B9.named
  have hlocks := B9.notSynchronized
  clear B9
  subst hsz0
  have hD := hD0.self (sz := s.heap.size)
  generalize hAe : va_A (CW cB cC cI cJ cZ a F X J R gf gn) s.heap.size = A at hD ⊢
  have hA : ∀ q : Nat, s.heap.size ≤ q → A q := fun q h => by rw [← hAe]; exact Or.inr h
  have hS : va_S A s.heap s.heap [] := va_S.rf
  have hcs : 0 + 0 ≤ (0 : Nat) ∧ 0 + 0 ≤ (0 : Nat) := ⟨Nat.le_refl 0, Nat.le_refl 0⟩
  have hl := lv_entry ([.ref (a 10)]) (n := 1) (Nat.le_of_ble_eq_true rfl)
  rw [lg_entry_eq]
  generalize (lg_sl ([.ref (a 10)]) ++ List.replicate (1 - (lg_sl ([.ref (a 10)])).length) Slot.unset).toArray = ls at hl ⊢
  have hl : lv_has ls 1 [(0, .ref (a 10))] := hl
  refine lv_aload_n hx hb dX10_addBlank_0 rfl (lv_at hl 0 rfl) ?_
  refine cg_10_3 hx hb hts inX10_addBlank_X10 hown hK hP (hts _ lkX10_addBlank_f22) dX10_addBlank_1 ?_
  have i_1 := i32r (F 25)
  refine cz_le (tgt := 22) hx hb (i32r _) dX10_addBlank_4 (by decide) (fun c_2 => ?_) (fun c_2 => ?_)
  · have eF9 : rg 25 26 F F = F := by funext k; simp only [rg, va_up]; (repeat' split) <;> first | with_reducible rfl | omega
    have eX9 : rg 25 25 X X = X := by funext k; simp only [rg, va_up]; (repeat' split) <;> first | with_reducible rfl | omega
    have hP9 : va_P (dC, dI) vwCl (CW cB cC cI cJ cZ a (rg 25 26 F F) (rg 25 25 X X) J R gf gn) s.heap := by rw [eF9, eX9]; exact hP
    have hD9 : va_D A (CW cB cC cI cJ cZ a (rg 25 26 F F) (rg 25 25 X X) J R gf gn) := by rw [eF9, eX9]; exact hD
    have hpost : (F 25).toInt + 0 ≤ (F 25).toInt ∧ (F 25).toInt ≤ (F 25).toInt + 1 := by first | assumption | omega | (with_reducible rfl) | ((repeat' apply And.intro) <;> first | assumption | omega | (with_reducible rfl))
    exact W.vret hx hb hr (fun t ht hW => ⟨⟨(F, X), rfl, hpost, by rw [ht]; exact hP9, va_K.moved hW.alike hK, hD9⟩, hS.F ht⟩) hS.2.2 dX10_addBlank_22
  · refine lv_aload_n hx hb dX10_addBlank_7 rfl (lv_at hl 0 rfl) ?_
    refine cg_10_4 hx hb hts inX10_addBlank_X10 hown hK hP (hts _ lkX10_addBlank_f25) dX10_addBlank_8 ?_
    have i_3 := i32r (F 26)
    refine lv_bipush (v := oI 40) hx hb dX10_addBlank_11 (by decide) ?_
    refine ci_eq (tgt := 22) hx hb (i32r _) (by decide) dX10_addBlank_13 (by decide) (fun c_4 => ?_) (fun c_4 => ?_)
    · have eF9 : rg 25 26 F F = F := by funext k; simp only [rg, va_up]; (repeat' split) <;> first | with_reducible rfl | omega
      have eX9 : rg 25 25 X X = X := by funext k; simp only [rg, va_up]; (repeat' split) <;> first | with_reducible rfl | omega
      have hP9 : va_P (dC, dI) vwCl (CW cB cC cI cJ cZ a (rg 25 26 F F) (rg 25 25 X X) J R gf gn) s.heap := by rw [eF9, eX9]; exact hP
      have hD9 : va_D A (CW cB cC cI cJ cZ a (rg 25 26 F F) (rg 25 25 X X) J R gf gn) := by rw [eF9, eX9]; exact hD
      have hpost : (F 25).toInt + 0 ≤ (F 25).toInt ∧ (F 25).toInt ≤ (F 25).toInt + 1 := by first | assumption | omega | (with_reducible rfl) | ((repeat' apply And.intro) <;> first | assumption | omega | (with_reducible rfl))
      exact W.vret hx hb hr (fun t ht hW => ⟨⟨(F, X), rfl, hpost, by rw [ht]; exact hP9, va_K.moved hW.alike hK, hD9⟩, hS.F ht⟩) hS.2.2 dX10_addBlank_22
    · refine lv_aload_n hx hb dX10_addBlank_16 rfl (lv_at hl 0 rfl) ?_
      refine lv_bipush (v := oI 32) hx hb dX10_addBlank_17 (by decide) ?_
      refine ccp_vV (As := [.int (oI 32)]) (rest := []) (gF := fun F9 => rg 25 26 F F9) (gX := fun X9 => rg 25 25 X X9) ⟨hx, hb, hml, hown, hts⟩ (c_addT l dC dI cB cC cI cJ cZ a F X J R gf gn 32  (by decide) (show 0 ≤ (F 25).toInt ∧ (F 25).toInt ≤ 2000000000 from by first | assumption | omega) (show 0 ≤ 32 ∧ 32 < 65536 from by first | assumption | omega) s.heap.size) (cwV 1 hts kX10_addBlank_X10_add_29 rfl rfl rfl (by decide +kernel) ⟨Nat.le_of_ble_eq_true rfl, Nat.le_of_ble_eq_true rfl⟩) (va_recv hK hP (ci := 10) (q0 := 10) rfl rfl) hK hNW hP hD hS hA rfl rfl hl.1 (lv_room (Nat.le_of_ble_eq_true rfl)) dX10_addBlank_19 hcs (fun F_5 X_6 hw_7 H locs hP hD hS => ?_)
      have hw_7 : (F_5 25).toInt = (F 25).toInt + 1 := hw_7
      have hto := hw_7
      have eF9 : rg 25 26 F (rg 25 26 F F_5) = rg 25 26 F F_5 := by funext k; simp only [rg, va_up]; (repeat' split) <;> first | with_reducible rfl | omega
      have eX9 : rg 25 25 X (rg 25 25 X X_6) = rg 25 25 X X_6 := by funext k; simp only [rg, va_up]; (repeat' split) <;> first | with_reducible rfl | omega
      have hP9 : va_P (dC, dI) vwCl (CW cB cC cI cJ cZ a (rg 25 26 F (rg 25 26 F F_5)) (rg 25 25 X (rg 25 25 X X_6)) J R gf gn) H := by rw [eF9, eX9]; exact hP
      have hD9 : va_D A (CW cB cC cI cJ cZ a (rg 25 26 F (rg 25 26 F F_5)) (rg 25 25 X (rg 25 25 X X_6)) J R gf gn) := by rw [eF9, eX9]; exact hD
      have hpost : (F 25).toInt + 0 ≤ (F_5 25).toInt ∧ (F_5 25).toInt ≤ (F 25).toInt + 1 := by first | assumption | omega | (with_reducible rfl) | ((repeat' apply And.intro) <;> first | assumption | omega | (with_reducible rfl))
      exact W.vret hx hb hr (fun t ht hW => ⟨⟨(rg 25 26 F F_5, rg 25 25 X X_6), rfl, hpost, by rw [ht]; exact hP9, va_K.moved hW.alike hK, hD9⟩, hS.F ht⟩) hS.2.2 dX10_addBlank_22

set_option maxHeartbeats 4000000 in
set_option maxRecDepth 100000 in
/-- X10_open -/
theorem c_open (l : Launch) (dC : Nat → ClassId) (dI : Nat → Nat → Nat) (cB cC cI cJ cZ : ClassId) (a : Nat → Nat) (F : Nat → Int32) (X : Nat → Nat → Int32) (J : Nat → Nat → Int64) (R : Nat → Nat) (gf gn : Nat)  (htl : 0 ≤ (F 25).toInt ∧ (F 25).toInt ≤ 2000000000) (ht1 : (F 25).toInt ≤ 1900000000) (s0 : Nat) : Met l yX10_open vX10_open { frames := 3, cells := 0, slots := 0, locals := 101 } (va_Pc [.ref (a 10)] (cPre dC dI cB cC cI cJ cZ a F X J R gf gn s0)) (va_Qv (fun (u : (Nat → Int32) × (Nat → Nat → Int32)) => match u with | (F1, X1) => (F 25).toInt + 1 ≤ (F1 25).toInt ∧ (F1 25).toInt ≤ (F 25).toInt + 2) (fun u => cPost dC dI cB cC cI cJ cZ a (rg 25 26 F u.1) (rg 25 25 X u.2) J R gf gn (va_A (CW cB cC cI cJ cZ a F X J R gf gn) s0)) (va_A (CW cB cC cI cJ cZ a F X J R gf gn) s0)) 0 0 (va_A (CW cB cC cI cJ cZ a F X J R gf gn) s0) := by
  refine Met.ofW (cc := cX10_open) (maxL := 1) (ret := none) (by decide) rfl ?_
  intro p e s m args below meth c s₁ B9 hml hv
  obtain ⟨rfl, hsz0, hP, hK, hD0, hNW⟩ := hv
  have hx := B9.exec
  have hb := B9.bytes
  have hr := B9.returns
  have hts := atoms_spec (ws := vX10_open) B9.pre
  have hown : s.vm.findClass RX10 = some m.cls := findClass_of_methodNamed B9.named
  have hlocks := B9.notSynchronized
  clear B9
  subst hsz0
  have hD := hD0.self (sz := s.heap.size)
  generalize hAe : va_A (CW cB cC cI cJ cZ a F X J R gf gn) s.heap.size = A at hD ⊢
  have hA : ∀ q : Nat, s.heap.size ≤ q → A q := fun q h => by rw [← hAe]; exact Or.inr h
  have hS : va_S A s.heap s.heap [] := va_S.rf
  have hcs : 0 + 0 ≤ (0 : Nat) ∧ 0 + 0 ≤ (0 : Nat) := ⟨Nat.le_refl 0, Nat.le_refl 0⟩
  have hl := lv_entry ([.ref (a 10)]) (n := 1) (Nat.le_of_ble_eq_true rfl)
  rw [lg_entry_eq]
  generalize (lg_sl ([.ref (a 10)]) ++ List.replicate (1 - (lg_sl ([.ref (a 10)])).length) Slot.unset).toArray = ls at hl ⊢
  have hl : lv_has ls 1 [(0, .ref (a 10))] := hl
  refine lv_aload_n hx hb dX10_open_0 rfl (lv_at hl 0 rfl) ?_
  refine ccp_vV (As := []) (rest := []) (gF := fun F9 => rg 25 26 F F9) (gX := fun X9 => rg 25 25 X X9) ⟨hx, hb, hml, hown, hts⟩ (c_addBlank l dC dI cB cC cI cJ cZ a F X J R gf gn    (show 0 ≤ (F 25).toInt ∧ (F 25).toInt ≤ 2000000000 from by first | assumption | omega)  s.heap.size) (cwV 0 hts kX10_open_X10_addBlank_33 rfl rfl rfl (by decide +kernel) ⟨Nat.le_of_ble_eq_true rfl, Nat.le_of_ble_eq_true rfl⟩) (va_recv hK hP (ci := 10) (q0 := 10) rfl rfl) hK hNW hP hD hS hA rfl rfl hl.1 (lv_room (Nat.le_of_ble_eq_true rfl)) dX10_open_1 hcs (fun F_1 X_2 hw_3 H locs hP hD hS => ?_)
  have hw_3 : (F 25).toInt + 0 ≤ (F_1 25).toInt ∧ (F_1 25).toInt ≤ (F 25).toInt + 1 := hw_3
  have hto := hw_3
  refine lv_aload_n hx hb dX10_open_4 rfl (lv_at hl 0 rfl) ?_
  refine lv_bipush (v := oI 40) hx hb dX10_open_5 (by decide) ?_
  refine ccp_vV (As := [.int (oI 40)]) (rest := []) (gF := fun F9 => rg 25 26 (rg 25 26 F F_1) F9) (gX := fun X9 => rg 25 25 (rg 25 25 X X_2) X9) ⟨hx, hb, hml, hown, hts⟩ (c_addT l dC dI cB cC cI cJ cZ a (rg 25 26 F F_1) (rg 25 25 X X_2) J R gf gn 40  (by decide) (show 0 ≤ (F_1 25).toInt ∧ (F_1 25).toInt ≤ 2000000000 from by first | assumption | omega) (show 0 ≤ 40 ∧ 40 < 65536 from by first | assumption | omega) H.size) (cwV 1 hts kX10_open_X10_add_29 rfl rfl rfl (by decide +kernel) ⟨Nat.le_of_ble_eq_true rfl, Nat.le_of_ble_eq_true rfl⟩) (va_recv hK hP (ci := 10) (q0 := 10) rfl rfl) hK hNW hP hD hS hA rfl rfl hl.1 (lv_room (Nat.le_of_ble_eq_true rfl)) dX10_open_7 hcs (fun F_4 X_5 hw_6 H locs hP hD hS => ?_)
  have hw_6 : (F_4 25).toInt = (F_1 25).toInt + 1 := hw_6
  have hto := hw_6
  have eF9 : rg 25 26 F (rg 25 26 (rg 25 26 F F_1) F_4) = rg 25 26 (rg 25 26 F F_1) F_4 := by funext k; simp only [rg, va_up]; (repeat' split) <;> first | with_reducible rfl | omega
  have eX9 : rg 25 25 X (rg 25 25 (rg 25 25 X X_2) X_5) = rg 25 25 (rg 25 25 X X_2) X_5 := by funext k; simp only [rg, va_up]; (repeat' split) <;> first | with_reducible rfl | omega
  have hP9 : va_P (dC, dI) vwCl (CW cB cC cI cJ cZ a (rg 25 26 F (rg 25 26 (rg 25 26 F F_1) F_4)) (rg 25 25 X (rg 25 25 (rg 25 25 X X_2) X_5)) J R gf gn) H := by rw [eF9, eX9]; exact hP
  have hD9 : va_D A (CW cB cC cI cJ cZ a (rg 25 26 F (rg 25 26 (rg 25 26 F F_1) F_4)) (rg 25 25 X (rg 25 25 (rg 25 25 X X_2) X_5)) J R gf gn) := by rw [eF9, eX9]; exact hD
  have hpost : (F 25).toInt + 1 ≤ (F_4 25).toInt ∧ (F_4 25).toInt ≤ (F 25).toInt + 2 := by first | assumption | omega | (with_reducible rfl) | ((repeat' apply And.intro) <;> first | assumption | omega | (with_reducible rfl))
  exact W.vret hx hb hr (fun t ht hW => ⟨⟨(rg 25 26 (rg 25 26 F F_1) F_4, rg 25 25 (rg 25 25 X X_2) X_5), rfl, hpost, by rw [ht]; exact hP9, va_K.moved hW.alike hK, hD9⟩, hS.F ht⟩) hS.2.2 dX10_open_10

set_option maxHeartbeats 4000000 in
set_option maxRecDepth 100000 in
/-- X10_close -/
theorem c_close (l : Launch) (dC : Nat → ClassId) (dI : Nat → Nat → Nat) (cB cC cI cJ cZ : ClassId) (a : Nat → Nat) (F : Nat → Int32) (X : Nat → Nat → Int32) (J : Nat → Nat → Int64) (R : Nat → Nat) (gf gn : Nat)  (htl : 0 ≤ (F 25).toInt ∧ (F 25).toInt ≤ 2000000000) (s0 : Nat) : Met l yX10_close vX10_close { frames := 2, cells := 0, slots := 0, locals := 81 } (va_Pc [.ref (a 10)] (cPre dC dI cB cC cI cJ cZ a F X J R gf gn s0)) (va_Qv (fun (u : (Nat → Int32) × (Nat → Nat → Int32)) => match u with | (F1, X1) => (F 25).toInt + 1 ≤ (F1 25).toInt ∧ (F1 25).toInt ≤ (F 25).toInt + 1) (fun u => cPost dC dI cB cC cI cJ cZ a (rg 25 26 F u.1) (rg 25 25 X u.2) J R gf gn (va_A (CW cB cC cI cJ cZ a F X J R gf gn) s0)) (va_A (CW cB cC cI cJ cZ a F X J R gf gn) s0)) 0 0 (va_A (CW cB cC cI cJ cZ a F X J R gf gn) s0) := by
  refine Met.ofW (cc := cX10_close) (maxL := 1) (ret := none) (by decide) rfl ?_
  intro p e s m args below meth c s₁ B9 hml hv
  obtain ⟨rfl, hsz0, hP, hK, hD0, hNW⟩ := hv
  have hx := B9.exec
  have hb := B9.bytes
  have hr := B9.returns
  have hts := atoms_spec (ws := vX10_close) B9.pre
  have hown : s.vm.findClass RX10 = some m.cls := findClass_of_methodNamed B9.named
  have hlocks := B9.notSynchronized
  clear B9
  subst hsz0
  have hD := hD0.self (sz := s.heap.size)
  generalize hAe : va_A (CW cB cC cI cJ cZ a F X J R gf gn) s.heap.size = A at hD ⊢
  have hA : ∀ q : Nat, s.heap.size ≤ q → A q := fun q h => by rw [← hAe]; exact Or.inr h
  have hS : va_S A s.heap s.heap [] := va_S.rf
  have hcs : 0 + 0 ≤ (0 : Nat) ∧ 0 + 0 ≤ (0 : Nat) := ⟨Nat.le_refl 0, Nat.le_refl 0⟩
  have hl := lv_entry ([.ref (a 10)]) (n := 1) (Nat.le_of_ble_eq_true rfl)
  rw [lg_entry_eq]
  generalize (lg_sl ([.ref (a 10)]) ++ List.replicate (1 - (lg_sl ([.ref (a 10)])).length) Slot.unset).toArray = ls at hl ⊢
  have hl : lv_has ls 1 [(0, .ref (a 10))] := hl
  refine lv_aload_n hx hb dX10_close_0 rfl (lv_at hl 0 rfl) ?_
  refine lv_bipush (v := oI 41) hx hb dX10_close_1 (by decide) ?_
  refine ccp_vV (As := [.int (oI 41)]) (rest := []) (gF := fun F9 => rg 25 26 F F9) (gX := fun X9 => rg 25 25 X X9) ⟨hx, hb, hml, hown, hts⟩ (c_addT l dC dI cB cC cI cJ cZ a F X J R gf gn 41  (by decide) (show 0 ≤ (F 25).toInt ∧ (F 25).toInt ≤ 2000000000 from by first | assumption | omega) (show 0 ≤ 41 ∧ 41 < 65536 from by first | assumption | omega) s.heap.size) (cwV 1 hts kX10_close_X10_add_29 rfl rfl rfl (by decide +kernel) ⟨Nat.le_of_ble_eq_true rfl, Nat.le_of_ble_eq_true rfl⟩) (va_recv hK hP (ci := 10) (q0 := 10) rfl rfl) hK hNW hP hD hS hA rfl rfl hl.1 (lv_room (Nat.le_of_ble_eq_true rfl)) dX10_close_3 hcs (fun F_1 X_2 hw_3 H locs hP hD hS => ?_)
  have hw_3 : (F_1 25).toInt = (F 25).toInt + 1 := hw_3
  have hto := hw_3
  have eF9 : rg 25 26 F (rg 25 26 F F_1) = rg 25 26 F F_1 := by funext k; simp only [rg, va_up]; (repeat' split) <;> first | with_reducible rfl | omega
  have eX9 : rg 25 25 X (rg 25 25 X X_2) = rg 25 25 X X_2 := by funext k; simp only [rg, va_up]; (repeat' split) <;> first | with_reducible rfl | omega
  have hP9 : va_P (dC, dI) vwCl (CW cB cC cI cJ cZ a (rg 25 26 F (rg 25 26 F F_1)) (rg 25 25 X (rg 25 25 X X_2)) J R gf gn) H := by rw [eF9, eX9]; exact hP
  have hD9 : va_D A (CW cB cC cI cJ cZ a (rg 25 26 F (rg 25 26 F F_1)) (rg 25 25 X (rg 25 25 X X_2)) J R gf gn) := by rw [eF9, eX9]; exact hD
  have hpost : (F 25).toInt + 1 ≤ (F_1 25).toInt ∧ (F_1 25).toInt ≤ (F 25).toInt + 1 := by first | assumption | omega | (with_reducible rfl) | ((repeat' apply And.intro) <;> first | assumption | omega | (with_reducible rfl))
  exact W.vret hx hb hr (fun t ht hW => ⟨⟨(rg 25 26 F F_1, rg 25 25 X X_2), rfl, hpost, by rw [ht]; exact hP9, va_K.moved hW.alike hK, hD9⟩, hS.F ht⟩) hS.2.2 dX10_close_6

def DGT (u d : Int) : Prop := (u = 0 ∧ d = 0) ∨ (u = 1 ∧ d = 1) ∨ (u = 10 ∧ d = 2) ∨ (u = 100 ∧ d = 3) ∨ (u = 1000 ∧ d = 4) ∨ (u = 10000 ∧ d = 5) ∨ (u = 100000 ∧ d = 6) ∨ (u = 1000000 ∧ d = 7) ∨ (u = 10000000 ∧ d = 8) ∨ (u = 100000000 ∧ d = 9) ∨ (u = 1000000000 ∧ d = 10)
def D1T (u i : Int) : Prop := (u = 1 ∧ i = 0) ∨ (u = 10 ∧ i = 1) ∨ (u = 100 ∧ i = 2) ∨ (u = 1000 ∧ i = 3) ∨ (u = 10000 ∧ i = 4) ∨ (u = 100000 ∧ i = 5) ∨ (u = 1000000 ∧ i = 6) ∨ (u = 10000000 ∧ i = 7) ∨ (u = 100000000 ∧ i = 8) ∨ (u = 1000000000 ∧ i = 9)
theorem DGT_b {u d : Int} (h : DGT u d) : 0 ≤ u ∧ u ≤ 1000000000 ∧ 0 ≤ d ∧ d ≤ 10 ∧ (0 < u → 1 ≤ d) := by
  unfold DGT at h; rcases h with ⟨rfl, rfl⟩ | ⟨rfl, rfl⟩ | ⟨rfl, rfl⟩ | ⟨rfl, rfl⟩ | ⟨rfl, rfl⟩ | ⟨rfl, rfl⟩ | ⟨rfl, rfl⟩ | ⟨rfl, rfl⟩ | ⟨rfl, rfl⟩ | ⟨rfl, rfl⟩ | ⟨rfl, rfl⟩ <;> omega
theorem DGT_s {u d : Int} (h : DGT u d) (hu : 0 < u) : DGT (u / 10) (d - 1) := by
  unfold DGT at h ⊢; rcases h with ⟨rfl, rfl⟩ | ⟨rfl, rfl⟩ | ⟨rfl, rfl⟩ | ⟨rfl, rfl⟩ | ⟨rfl, rfl⟩ | ⟨rfl, rfl⟩ | ⟨rfl, rfl⟩ | ⟨rfl, rfl⟩ | ⟨rfl, rfl⟩ | ⟨rfl, rfl⟩ | ⟨rfl, rfl⟩ <;> first | decide | omega
theorem D1T_b {u i : Int} (h : D1T u i) : 1 ≤ u ∧ u ≤ 1000000000 ∧ 0 ≤ i ∧ i ≤ 9 ∧ (i < 9 → u ≤ 100000000) := by
  unfold D1T at h; rcases h with ⟨rfl, rfl⟩ | ⟨rfl, rfl⟩ | ⟨rfl, rfl⟩ | ⟨rfl, rfl⟩ | ⟨rfl, rfl⟩ | ⟨rfl, rfl⟩ | ⟨rfl, rfl⟩ | ⟨rfl, rfl⟩ | ⟨rfl, rfl⟩ | ⟨rfl, rfl⟩ <;> omega
theorem D1T_s {u i : Int} (h : D1T u i) (hi : i < 9) : D1T (u * 10) (i + 1) := by
  unfold D1T at h ⊢; rcases h with ⟨rfl, rfl⟩ | ⟨rfl, rfl⟩ | ⟨rfl, rfl⟩ | ⟨rfl, rfl⟩ | ⟨rfl, rfl⟩ | ⟨rfl, rfl⟩ | ⟨rfl, rfl⟩ | ⟨rfl, rfl⟩ | ⟨rfl, rfl⟩ | ⟨rfl, rfl⟩ <;> first | decide | omega
theorem D1T_d {u i : Int} (h : D1T u i) : DGT u (i + 1) := by
  unfold D1T at h; unfold DGT; rcases h with ⟨rfl, rfl⟩ | ⟨rfl, rfl⟩ | ⟨rfl, rfl⟩ | ⟨rfl, rfl⟩ | ⟨rfl, rfl⟩ | ⟨rfl, rfl⟩ | ⟨rfl, rfl⟩ | ⟨rfl, rfl⟩ | ⟨rfl, rfl⟩ | ⟨rfl, rfl⟩ <;> first | decide | omega
theorem D1T_0 : D1T 1 0 := Or.inl ⟨rfl, rfl⟩
set_option maxHeartbeats 4000000 in
set_option maxRecDepth 100000 in
theorem lp_digB {p : Program} {l : Launch} {e : Env} {s : State} {m : MethodId} {args : Array Value} {below : List Frame} {meth : Method} {c : Code} {A : Nat → Prop} {dC : Nat → ClassId} {dI : Nat → Nat → Nat} {cB cC cI cJ cZ : ClassId} {a : Nat → Nat} {F : Nat → Int32} {X : Nat → Nat → Int32} {J : Nat → Nat → Int64} {R : Nat → Nat} {gf gn : Nat} (hx : p.tables.exec = Jvm.exec) (hb : c.code = cX10_addDigits) (hml : c.maxLocals = 4) (hown : s.vm.findClass RX10 = some m.cls) (hts : ∀ w ∈ vX10_addDigits, w.before args s = true) (hK : va_K (dC, dI) vwCl (TY cB cC cI cJ cZ) s) (hNW : NW s) (hA : ∀ q : Nat, s.heap.size ≤ q → A q) (hr : meth.sig.returnType = none) (hlocks : meth.locks = false) (x : Int)  (ix : (-2147483648 ≤ x ∧ x < 2147483648)) (htl : 0 ≤ (F 25).toInt ∧ (F 25).toInt ≤ 2000000000) (ht1 : (F 25).toInt ≤ 1900000000)   : ∀ (k : Nat) (F1 : Nat → Int32) (X1 : Nat → Nat → Int32) (q : Int) (d : Int), (q).toNat < k → (-2147483648 ≤ q ∧ q < 2147483648) → (DGT q d) → ((F 25).toInt ≤ (F1 25).toInt ∧ (F1 25).toInt + d ≤ (F 25).toInt + 10) → ∀ (H : Heap) (locs : List Loc), va_P (dC, dI) vwCl (CW cB cC cI cJ cZ a (rg 25 26 F F1) (rg 25 25 X X1) J R gf gn) H → va_D A (CW cB cC cI cJ cZ a (rg 25 26 F F1) (rg 25 25 X X1) J R gf gn) → va_S A s.heap H locs → ∀ (ls : Array Slot), lv_has ls 4 [(0, .ref (a 10)), (1, .int (oI x)), (2, .int (oI q))] → W p l e (headSpec vX10_addDigits { frames := 2, cells := 0, slots := 0, locals := 81 }).room s m args below meth c H locs 0 0 (MQ below (va_Qv (fun (u : (Nat → Int32) × (Nat → Nat → Int32)) => match u with | (F1, X1) => (F 25).toInt + 0 ≤ (F1 25).toInt ∧ (F1 25).toInt ≤ (F 25).toInt + 10) (fun u => cPost dC dI cB cC cI cJ cZ a (rg 25 26 F u.1) (rg 25 25 X u.2) J R gf gn A) A) args s 0 0 A) (F0 m 29 ls []) := by
  have hcs : 0 + 0 ≤ (0 : Nat) ∧ 0 + 0 ≤ (0 : Nat) := ⟨Nat.le_refl 0, Nat.le_refl 0⟩
  intro k
  induction k with
  | zero =>
    intro F1 X1 q d hk iq9 hd ht2
    exact absurd hk (Nat.not_lt_zero _)
  | succ k ih =>
    intro F1 X1 q d hk iq9 hd ht2 H locs hP hD hS ls hl
    have hdb := DGT_b hd
    refine lv_iload_n hx hb dX10_addDigits_29 rfl (lv_at hl 2 rfl) ?_
    refine cz_le (tgt := 55) hx hb (by omega) dX10_addDigits_30 (by decide) (fun c_1 => ?_) (fun c_1 => ?_)
    · have eF9 : rg 25 26 F (rg 25 26 F F1) = rg 25 26 F F1 := by funext k; simp only [rg, va_up]; (repeat' split) <;> first | with_reducible rfl | omega
      have eX9 : rg 25 25 X (rg 25 25 X X1) = rg 25 25 X X1 := by funext k; simp only [rg, va_up]; (repeat' split) <;> first | with_reducible rfl | omega
      have hP9 : va_P (dC, dI) vwCl (CW cB cC cI cJ cZ a (rg 25 26 F (rg 25 26 F F1)) (rg 25 25 X (rg 25 25 X X1)) J R gf gn) H := by rw [eF9, eX9]; exact hP
      have hD9 : va_D A (CW cB cC cI cJ cZ a (rg 25 26 F (rg 25 26 F F1)) (rg 25 25 X (rg 25 25 X X1)) J R gf gn) := by rw [eF9, eX9]; exact hD
      have hpost : (F 25).toInt + 0 ≤ (F1 25).toInt ∧ (F1 25).toInt ≤ (F 25).toInt + 10 := by first | assumption | omega | (with_reducible rfl) | ((repeat' apply And.intro) <;> first | assumption | omega | (with_reducible rfl))
      exact W.vret hx hb hr (fun t ht hW => ⟨⟨(rg 25 26 F F1, rg 25 25 X X1), rfl, hpost, by rw [ht]; exact hP9, va_K.moved hW.alike hK, hD9⟩, hS.F ht⟩) hS.2.2 dX10_addDigits_55
    · refine lv_aload_n hx hb dX10_addDigits_33 rfl (lv_at hl 0 rfl) ?_
      refine lv_bipush (v := oI 48) hx hb dX10_addDigits_34 (by decide) ?_
      refine lv_iload_n hx hb dX10_addDigits_36 rfl (lv_at hl 1 rfl) ?_
      refine lv_iload_n hx hb dX10_addDigits_37 rfl (lv_at hl 2 rfl) ?_
      refine lv_idiv hx hb dX10_addDigits_38 (ne0 (by omega) (by omega)) ?_
      refine lv_topi (fun v_2 ev_2 => ?_)
      refine tp_i (oI_toInt v_2).symm ?_
      have i_3 := i32r v_2
      refine lv_bipush (v := oI 10) hx hb dX10_addDigits_39 (by decide) ?_
      refine lv_irem hx hb dX10_addDigits_41 (by decide) ?_
      refine lv_topi (fun v_4 ev_4 => ?_)
      refine tp_i (oI_toInt v_4).symm ?_
      have i_5 := i32r v_4
      refine lv_iadd hx hb dX10_addDigits_42 ?_
      refine tp_i (oI_add 48 v_4.toInt) ?_
      refine lv_i2c (v := ((oI (48 + v_4.toInt)).toUInt32 % 65536).toInt32) hx hb dX10_addDigits_43 rfl ?_
      refine lv_topi (fun v_6 ev_6 => ?_)
      refine tp_i (oI_toInt v_6).symm ?_
      have i_7 := i2cr _ _ ev_6
      refine ccp_vV (As := [.int (oI v_6.toInt)]) (rest := []) (gF := fun F9 => rg 25 26 (rg 25 26 F F1) F9) (gX := fun X9 => rg 25 25 (rg 25 25 X X1) X9) ⟨hx, hb, hml, hown, hts⟩ (c_addT l dC dI cB cC cI cJ cZ a (rg 25 26 F F1) (rg 25 25 X X1) J R gf gn v_6.toInt  (i32r _) (show 0 ≤ (F1 25).toInt ∧ (F1 25).toInt ≤ 2000000000 from by first | assumption | omega) (show 0 ≤ v_6.toInt ∧ v_6.toInt < 65536 from by first | assumption | omega) H.size) (cwV 1 hts kX10_addDigits_X10_add_29 rfl rfl rfl (by decide +kernel) ⟨Nat.le_of_ble_eq_true rfl, Nat.le_of_ble_eq_true rfl⟩) (va_recv hK hP (ci := 10) (q0 := 10) rfl rfl) hK hNW hP hD hS hA rfl rfl hl.1 (lv_room (Nat.le_of_ble_eq_true rfl)) dX10_addDigits_44 hcs (fun F_8 X_9 hw_10 H locs hP hD hS => ?_)
      have hw_10 : (F_8 25).toInt = (F1 25).toInt + 1 := hw_10
      have hto := hw_10
      refine lv_iload_n hx hb dX10_addDigits_47 rfl (lv_at hl 2 rfl) ?_
      refine lv_bipush (v := oI 10) hx hb dX10_addDigits_48 (by decide) ?_
      refine lv_idiv hx hb dX10_addDigits_50 (by decide) ?_
      refine tp_i (div10 (x := q) (by omega)) ?_
      refine lv_istore_n (lv' := [(2, .int (oI (q / 10))), (0, .ref (a 10)), (1, .int (oI x))]) hx hb dX10_addDigits_51 rfl hl (by decide) rfl (fun ls hl => ?_)
      refine lv_goto (tgt := 29) hx hb dX10_addDigits_52 (by decide) ?_
      have eF9 : rg 25 26 F (rg 25 26 (rg 25 26 F F1) F_8) = rg 25 26 (rg 25 26 F F1) F_8 := by funext k; simp only [rg, va_up]; (repeat' split) <;> first | with_reducible rfl | omega
      have eX9 : rg 25 25 X (rg 25 25 (rg 25 25 X X1) X_9) = rg 25 25 (rg 25 25 X X1) X_9 := by funext k; simp only [rg, va_up]; (repeat' split) <;> first | with_reducible rfl | omega
      have hP9 : va_P (dC, dI) vwCl (CW cB cC cI cJ cZ a (rg 25 26 F (rg 25 26 (rg 25 26 F F1) F_8)) (rg 25 25 X (rg 25 25 (rg 25 25 X X1) X_9)) J R gf gn) H := by rw [eF9, eX9]; exact hP
      have hD9 : va_D A (CW cB cC cI cJ cZ a (rg 25 26 F (rg 25 26 (rg 25 26 F F1) F_8)) (rg 25 25 X (rg 25 25 (rg 25 25 X X1) X_9)) J R gf gn) := by rw [eF9, eX9]; exact hD
      exact ih (rg 25 26 (rg 25 26 F F1) F_8) (rg 25 25 (rg 25 25 X X1) X_9) (q / 10) (d - 1) (show ((q / 10)).toNat < k from by omega) (by omega) (show DGT (q / 10) (d - 1) from DGT_s hd (by omega)) (show (F 25).toInt ≤ (F_8 25).toInt ∧ (F_8 25).toInt + (d - 1) ≤ (F 25).toInt + 10 from by first | assumption | omega | (with_reducible rfl) | ((repeat' apply And.intro) <;> first | assumption | omega | (with_reducible rfl))) _ _ hP9 hD9 hS ls (lv_sub hl [1, 2, 0] rfl)

set_option maxHeartbeats 4000000 in
set_option maxRecDepth 100000 in
theorem lp_digA {p : Program} {l : Launch} {e : Env} {s : State} {m : MethodId} {args : Array Value} {below : List Frame} {meth : Method} {c : Code} {A : Nat → Prop} {dC : Nat → ClassId} {dI : Nat → Nat → Nat} {cB cC cI cJ cZ : ClassId} {a : Nat → Nat} {F : Nat → Int32} {X : Nat → Nat → Int32} {J : Nat → Nat → Int64} {R : Nat → Nat} {gf gn : Nat} (hx : p.tables.exec = Jvm.exec) (hb : c.code = cX10_addDigits) (hml : c.maxLocals = 4) (hown : s.vm.findClass RX10 = some m.cls) (hts : ∀ w ∈ vX10_addDigits, w.before args s = true) (hK : va_K (dC, dI) vwCl (TY cB cC cI cJ cZ) s) (hNW : NW s) (hA : ∀ q : Nat, s.heap.size ≤ q → A q) (hr : meth.sig.returnType = none) (hlocks : meth.locks = false) (x : Int)  (ix : (-2147483648 ≤ x ∧ x < 2147483648)) (htl : 0 ≤ (F 25).toInt ∧ (F 25).toInt ≤ 2000000000) (ht1 : (F 25).toInt ≤ 1900000000)   : ∀ (k : Nat) (q : Int) (i : Int), (9 - i).toNat < k → (-2147483648 ≤ q ∧ q < 2147483648) → (-2147483648 ≤ i ∧ i < 2147483648) → (D1T q i) → ∀ (H : Heap) (locs : List Loc), va_P (dC, dI) vwCl (CW cB cC cI cJ cZ a F X J R gf gn) H → va_D A (CW cB cC cI cJ cZ a F X J R gf gn) → va_S A s.heap H locs → ∀ (ls : Array Slot), lv_has ls 4 [(0, .ref (a 10)), (1, .int (oI x)), (2, .int (oI q)), (3, .int (oI i))] → W p l e (headSpec vX10_addDigits { frames := 2, cells := 0, slots := 0, locals := 81 }).room s m args below meth c H locs 0 0 (MQ below (va_Qv (fun (u : (Nat → Int32) × (Nat → Nat → Int32)) => match u with | (F1, X1) => (F 25).toInt + 0 ≤ (F1 25).toInt ∧ (F1 25).toInt ≤ (F 25).toInt + 10) (fun u => cPost dC dI cB cC cI cJ cZ a (rg 25 26 F u.1) (rg 25 25 X u.2) J R gf gn A) A) args s 0 0 A) (F0 m 4 ls []) := by
  have hcs : 0 + 0 ≤ (0 : Nat) ∧ 0 + 0 ≤ (0 : Nat) := ⟨Nat.le_refl 0, Nat.le_refl 0⟩
  intro k
  induction k with
  | zero =>
    intro q i hk iq9 ii9 hd
    exact absurd hk (Nat.not_lt_zero _)
  | succ k ih =>
    intro q i hk iq9 ii9 hd H locs hP hD hS ls hl
    have hdb := D1T_b hd
    refine lv_iload_n hx hb dX10_addDigits_4 rfl (lv_at hl 3 rfl) ?_
    refine lv_bipush (v := oI 9) hx hb dX10_addDigits_5 (by decide) ?_
    refine ci_ge (tgt := 29) hx hb (by omega) (by decide) dX10_addDigits_7 (by decide) (fun c_1 => ?_) (fun c_1 => ?_)
    · have eF9 : rg 25 26 F F = F := by funext k; simp only [rg, va_up]; (repeat' split) <;> first | with_reducible rfl | omega
      have eX9 : rg 25 25 X X = X := by funext k; simp only [rg, va_up]; (repeat' split) <;> first | with_reducible rfl | omega
      have hP9 : va_P (dC, dI) vwCl (CW cB cC cI cJ cZ a (rg 25 26 F F) (rg 25 25 X X) J R gf gn) H := by rw [eF9, eX9]; exact hP
      have hD9 : va_D A (CW cB cC cI cJ cZ a (rg 25 26 F F) (rg 25 25 X X) J R gf gn) := by rw [eF9, eX9]; exact hD
      exact lp_digB hx hb hml hown hts hK hNW hA hr hlocks x ix (by assumption) (by assumption)  _ F X q (i + 1) (Nat.lt_succ_self _) (by omega) (show DGT q (i + 1) from D1T_d hd) (show (F 25).toInt ≤ (F 25).toInt ∧ (F 25).toInt + (i + 1) ≤ (F 25).toInt + 10 from by first | assumption | omega | (with_reducible rfl) | ((repeat' apply And.intro) <;> first | assumption | omega | (with_reducible rfl))) _ _ hP9 hD9 hS ls (lv_sub hl [0, 1, 2] rfl)
    · refine lv_iload_n hx hb dX10_addDigits_10 rfl (lv_at hl 1 rfl) ?_
      refine lv_iload_n hx hb dX10_addDigits_11 rfl (lv_at hl 2 rfl) ?_
      refine lv_idiv hx hb dX10_addDigits_12 (ne0 (by omega) (by omega)) ?_
      refine lv_topi (fun v_2 ev_2 => ?_)
      refine tp_i (oI_toInt v_2).symm ?_
      have i_3 := i32r v_2
      refine lv_bipush (v := oI 10) hx hb dX10_addDigits_13 (by decide) ?_
      refine ci_lt (tgt := 29) hx hb (i32r _) (by decide) dX10_addDigits_15 (by decide) (fun c_4 => ?_) (fun c_4 => ?_)
      · have eF9 : rg 25 26 F F = F := by funext k; simp only [rg, va_up]; (repeat' split) <;> first | with_reducible rfl | omega
        have eX9 : rg 25 25 X X = X := by funext k; simp only [rg, va_up]; (repeat' split) <;> first | with_reducible rfl | omega
        have hP9 : va_P (dC, dI) vwCl (CW cB cC cI cJ cZ a (rg 25 26 F F) (rg 25 25 X X) J R gf gn) H := by rw [eF9, eX9]; exact hP
        have hD9 : va_D A (CW cB cC cI cJ cZ a (rg 25 26 F F) (rg 25 25 X X) J R gf gn) := by rw [eF9, eX9]; exact hD
        exact lp_digB hx hb hml hown hts hK hNW hA hr hlocks x ix (by assumption) (by assumption)  _ F X q (i + 1) (Nat.lt_succ_self _) (by omega) (show DGT q (i + 1) from D1T_d hd) (show (F 25).toInt ≤ (F 25).toInt ∧ (F 25).toInt + (i + 1) ≤ (F 25).toInt + 10 from by first | assumption | omega | (with_reducible rfl) | ((repeat' apply And.intro) <;> first | assumption | omega | (with_reducible rfl))) _ _ hP9 hD9 hS ls (lv_sub hl [0, 1, 2] rfl)
      · refine lv_iload_n hx hb dX10_addDigits_18 rfl (lv_at hl 2 rfl) ?_
        refine lv_bipush (v := oI 10) hx hb dX10_addDigits_19 (by decide) ?_
        refine lv_imul hx hb dX10_addDigits_21 ?_
        refine tp_i (oI_mul q 10) ?_
        refine lv_istore_n (lv' := [(2, .int (oI (q * 10))), (0, .ref (a 10)), (1, .int (oI x)), (3, .int (oI i))]) hx hb dX10_addDigits_22 rfl hl (by decide) rfl (fun ls hl => ?_)
        refine lv_iinc (v := oI (i + 1)) (lv' := [(3, .int (oI (i + 1))), (2, .int (oI (q * 10))), (0, .ref (a 10)), (1, .int (oI x))]) hx hb dX10_addDigits_23 hl (k := 3) rfl (oI_add i 1) (by decide) rfl (fun ls hl => ?_)
        refine lv_goto (tgt := 4) hx hb dX10_addDigits_26 (by decide) ?_
        exact ih (q * 10) (i + 1) (show (9 - (i + 1)).toNat < k from by omega) (by omega) (by omega) (show D1T (q * 10) (i + 1) from D1T_s hd (by omega)) _ _ hP hD hS ls (lv_sub hl [2, 3, 1, 0] rfl)

set_option maxHeartbeats 4000000 in
set_option maxRecDepth 100000 in
/-- X10_addDigits -/
theorem c_addDigits (l : Launch) (dC : Nat → ClassId) (dI : Nat → Nat → Nat) (cB cC cI cJ cZ : ClassId) (a : Nat → Nat) (F : Nat → Int32) (X : Nat → Nat → Int32) (J : Nat → Nat → Int64) (R : Nat → Nat) (gf gn : Nat) (x : Int)  (ix : (-2147483648 ≤ x ∧ x < 2147483648)) (htl : 0 ≤ (F 25).toInt ∧ (F 25).toInt ≤ 2000000000) (ht1 : (F 25).toInt ≤ 1900000000) (s0 : Nat) : Met l yX10_addDigits vX10_addDigits { frames := 2, cells := 0, slots := 0, locals := 81 } (va_Pc [.ref (a 10), .int (oI x)] (cPre dC dI cB cC cI cJ cZ a F X J R gf gn s0)) (va_Qv (fun (u : (Nat → Int32) × (Nat → Nat → Int32)) => match u with | (F1, X1) => (F 25).toInt + 0 ≤ (F1 25).toInt ∧ (F1 25).toInt ≤ (F 25).toInt + 10) (fun u => cPost dC dI cB cC cI cJ cZ a (rg 25 26 F u.1) (rg 25 25 X u.2) J R gf gn (va_A (CW cB cC cI cJ cZ a F X J R gf gn) s0)) (va_A (CW cB cC cI cJ cZ a F X J R gf gn) s0)) 0 0 (va_A (CW cB cC cI cJ cZ a F X J R gf gn) s0) := by
  refine Met.ofW (cc := cX10_addDigits) (maxL := 4) (ret := none) (by decide) rfl ?_
  intro p e s m args below meth c s₁ B9 hml hv
  obtain ⟨rfl, hsz0, hP, hK, hD0, hNW⟩ := hv
  have hx := B9.exec
  have hb := B9.bytes
  have hr := B9.returns
  have hts := atoms_spec (ws := vX10_addDigits) B9.pre
  have hown : s.vm.findClass RX10 = some m.cls := findClass_of_methodNamed B9.named
  have hlocks := B9.notSynchronized
  clear B9
  subst hsz0
  have hD := hD0.self (sz := s.heap.size)
  generalize hAe : va_A (CW cB cC cI cJ cZ a F X J R gf gn) s.heap.size = A at hD ⊢
  have hA : ∀ q : Nat, s.heap.size ≤ q → A q := fun q h => by rw [← hAe]; exact Or.inr h
  have hS : va_S A s.heap s.heap [] := va_S.rf
  have hcs : 0 + 0 ≤ (0 : Nat) ∧ 0 + 0 ≤ (0 : Nat) := ⟨Nat.le_refl 0, Nat.le_refl 0⟩
  have hl := lv_entry ([.ref (a 10), .int (oI x)]) (n := 4) (Nat.le_of_ble_eq_true rfl)
  rw [lg_entry_eq]
  generalize (lg_sl ([.ref (a 10), .int (oI x)]) ++ List.replicate (4 - (lg_sl ([.ref (a 10), .int (oI x)])).length) Slot.unset).toArray = ls at hl ⊢
  have hl : lv_has ls 4 [(0, .ref (a 10)), (1, .int (oI x))] := hl
  refine lv_iconst (v := oI 1) hx hb dX10_addDigits_0 (by decide) ?_
  refine lv_istore_n (lv' := [(2, .int (oI 1)), (0, .ref (a 10)), (1, .int (oI x))]) hx hb dX10_addDigits_1 rfl hl (by decide) rfl (fun ls hl => ?_)
  refine lv_iconst (v := oI 0) hx hb dX10_addDigits_2 (by decide) ?_
  refine lv_istore_n (lv' := [(3, .int (oI 0)), (2, .int (oI 1)), (0, .ref (a 10)), (1, .int (oI x))]) hx hb dX10_addDigits_3 rfl hl (by decide) rfl (fun ls hl => ?_)
  exact lp_digA hx hb hml hown hts hK hNW hA hr hlocks x ix (by assumption) (by assumption)  _ 1 0 (Nat.lt_succ_self _) (by decide) (by decide) (show D1T 1 0 from D1T_0) _ _ hP hD hS ls (lv_sub hl [2, 3, 1, 0] rfl)

set_option maxHeartbeats 4000000 in
set_option maxRecDepth 100000 in
theorem lp_half2 {p : Program} {l : Launch} {e : Env} {s : State} {m : MethodId} {args : Array Value} {below : List Frame} {meth : Method} {c : Code} {A : Nat → Prop} {dC : Nat → ClassId} {dI : Nat → Nat → Nat} {cB cC cI cJ cZ : ClassId} {a : Nat → Nat} {F : Nat → Int32} {X : Nat → Nat → Int32} {J : Nat → Nat → Int64} {R : Nat → Nat} {gf gn : Nat} (hx : p.tables.exec = Jvm.exec) (hb : c.code = cX10_addHalf) (hml : c.maxLocals = 5) (hown : s.vm.findClass RX10 = some m.cls) (hts : ∀ w ∈ vX10_addHalf, w.before args s = true) (hK : va_K (dC, dI) vwCl (TY cB cC cI cJ cZ) s) (hNW : NW s) (hA : ∀ q : Nat, s.heap.size ≤ q → A q) (hr : meth.sig.returnType = none) (hlocks : meth.locks = false) (g1 : Int64)  (htl : 0 ≤ (F 25).toInt ∧ (F 25).toInt ≤ 2000000000) (ht1 : (F 25).toInt ≤ 1900000000)   : ∀ (k : Nat) (F1 : Nat → Int32) (X1 : Nat → Nat → Int32) (q : Int), (q + 8).toNat < k → (-2147483648 ≤ q ∧ q < 2147483648) → (-8 ≤ q ∧ q ≤ 56) → ((F 25).toInt ≤ (F1 25).toInt ∧ 8 * ((F1 25).toInt - (F 25).toInt) ≤ 56 - q) → ∀ (H : Heap) (locs : List Loc), va_P (dC, dI) vwCl (CW cB cC cI cJ cZ a (rg 25 26 F F1) (rg 25 25 X X1) J R gf gn) H → va_D A (CW cB cC cI cJ cZ a (rg 25 26 F F1) (rg 25 25 X X1) J R gf gn) → va_S A s.heap H locs → ∀ (ls : Array Slot), lv_has ls 5 [(0, .ref (a 10)), (1, .long g1), (3, .int (oI q))] → W p l e (headSpec vX10_addHalf { frames := 2, cells := 0, slots := 0, locals := 81 }).room s m args below meth c H locs 0 0 (MQ below (va_Qv (fun (u : (Nat → Int32) × (Nat → Nat → Int32)) => match u with | (F1, X1) => (F 25).toInt + 0 ≤ (F1 25).toInt ∧ (F1 25).toInt ≤ (F 25).toInt + 8) (fun u => cPost dC dI cB cC cI cJ cZ a (rg 25 26 F u.1) (rg 25 25 X u.2) J R gf gn A) A) args s 0 0 A) (F0 m 3 ls []) := by
  have hcs : 0 + 0 ≤ (0 : Nat) ∧ 0 + 0 ≤ (0 : Nat) := ⟨Nat.le_refl 0, Nat.le_refl 0⟩
  intro k
  induction k with
  | zero =>
    intro F1 X1 q hk iq9 hq ht2
    exact absurd hk (Nat.not_lt_zero _)
  | succ k ih =>
    intro F1 X1 q hk iq9 hq ht2 H locs hP hD hS ls hl
    refine lv_iload_n hx hb dX10_addHalf_3 rfl (lv_at hl 2 rfl) ?_
    refine cz_lt (tgt := 35) hx hb (by omega) dX10_addHalf_4 (by decide) (fun c_1 => ?_) (fun c_1 => ?_)
    · have eF9 : rg 25 26 F (rg 25 26 F F1) = rg 25 26 F F1 := by funext k; simp only [rg, va_up]; (repeat' split) <;> first | with_reducible rfl | omega
      have eX9 : rg 25 25 X (rg 25 25 X X1) = rg 25 25 X X1 := by funext k; simp only [rg, va_up]; (repeat' split) <;> first | with_reducible rfl | omega
      have hP9 : va_P (dC, dI) vwCl (CW cB cC cI cJ cZ a (rg 25 26 F (rg 25 26 F F1)) (rg 25 25 X (rg 25 25 X X1)) J R gf gn) H := by rw [eF9, eX9]; exact hP
      have hD9 : va_D A (CW cB cC cI cJ cZ a (rg 25 26 F (rg 25 26 F F1)) (rg 25 25 X (rg 25 25 X X1)) J R gf gn) := by rw [eF9, eX9]; exact hD
      have hpost : (F 25).toInt + 0 ≤ (F1 25).toInt ∧ (F1 25).toInt ≤ (F 25).toInt + 8 := by first | assumption | omega | (with_reducible rfl) | ((repeat' apply And.intro) <;> first | assumption | omega | (with_reducible rfl))
      exact W.vret hx hb hr (fun t ht hW => ⟨⟨(rg 25 26 F F1, rg 25 25 X X1), rfl, hpost, by rw [ht]; exact hP9, va_K.moved hW.alike hK, hD9⟩, hS.F ht⟩) hS.2.2 dX10_addHalf_35
    · refine lv_lload_n hx hb dX10_addHalf_7 rfl (lv_at hl 1 rfl) ?_
      refine lv_iload_n hx hb dX10_addHalf_8 rfl (lv_at hl 2 rfl) ?_
      refine lv_lushr hx hb dX10_addHalf_9 rfl ?_
      refine lv_topl (fun v_2 ev_2 => ?_)
      refine lv_ldc2 (v := 255) hx hb hown (hts _ lkX10_addHalf_c53) dX10_addHalf_10 ?_
      refine lv_land hx hb dX10_addHalf_13 ?_
      refine lv_topl (fun v_3 ev_3 => ?_)
      refine lv_l2i hx hb dX10_addHalf_14 rfl ?_
      refine lv_topi (fun v_4 ev_4 => ?_)
      refine tp_i (oI_toInt v_4).symm ?_
      have i_5 := i32r v_4
      refine lv_i2c (v := ((oI v_4.toInt).toUInt32 % 65536).toInt32) hx hb dX10_addHalf_15 rfl ?_
      refine lv_topi (fun v_6 ev_6 => ?_)
      refine tp_i (oI_toInt v_6).symm ?_
      have i_7 := i2cr _ _ ev_6
      refine lv_istore (lv' := [(4, .int (oI v_6.toInt)), (0, .ref (a 10)), (1, .long g1), (3, .int (oI q))]) hx hb dX10_addHalf_16 hl (by decide) rfl (fun ls hl => ?_)
      refine lv_iload hx hb dX10_addHalf_18 (lv_at hl 0 rfl) ?_
      refine cz_eq (tgt := 29) hx hb (i32r _) dX10_addHalf_20 (by decide) (fun c_8 => ?_) (fun c_8 => ?_)
      · refine lv_iinc (v := oI (q + (-8))) (lv' := [(3, .int (oI (q + (-8)))), (4, .int (oI v_6.toInt)), (0, .ref (a 10)), (1, .long g1)]) hx hb dX10_addHalf_29 hl (k := 3) rfl (oI_add q (-8)) (by decide) rfl (fun ls hl => ?_)
        refine lv_goto (tgt := 3) hx hb dX10_addHalf_32 (by decide) ?_
        have eF9 : rg 25 26 F (rg 25 26 F F1) = rg 25 26 F F1 := by funext k; simp only [rg, va_up]; (repeat' split) <;> first | with_reducible rfl | omega
        have eX9 : rg 25 25 X (rg 25 25 X X1) = rg 25 25 X X1 := by funext k; simp only [rg, va_up]; (repeat' split) <;> first | with_reducible rfl | omega
        have hP9 : va_P (dC, dI) vwCl (CW cB cC cI cJ cZ a (rg 25 26 F (rg 25 26 F F1)) (rg 25 25 X (rg 25 25 X X1)) J R gf gn) H := by rw [eF9, eX9]; exact hP
        have hD9 : va_D A (CW cB cC cI cJ cZ a (rg 25 26 F (rg 25 26 F F1)) (rg 25 25 X (rg 25 25 X X1)) J R gf gn) := by rw [eF9, eX9]; exact hD
        exact ih (rg 25 26 F F1) (rg 25 25 X X1) (q + (-8)) (show ((q + (-8)) + 8).toNat < k from by omega) (by omega) (show -8 ≤ (q + (-8)) ∧ (q + (-8)) ≤ 56 from by first | assumption | omega | (with_reducible rfl) | ((repeat' apply And.intro) <;> first | assumption | omega | (with_reducible rfl))) (show (F 25).toInt ≤ (F1 25).toInt ∧ 8 * ((F1 25).toInt - (F 25).toInt) ≤ 56 - (q + (-8)) from by first | assumption | omega | (with_reducible rfl) | ((repeat' apply And.intro) <;> first | assumption | omega | (with_reducible rfl))) _ _ hP9 hD9 hS ls (lv_sub hl [2, 3, 0] rfl)
      · refine lv_aload_n hx hb dX10_addHalf_23 rfl (lv_at hl 1 rfl) ?_
        refine lv_iload hx hb dX10_addHalf_24 (lv_at hl 0 rfl) ?_
        refine ccp_vV (As := [.int (oI v_6.toInt)]) (rest := []) (gF := fun F9 => rg 25 26 (rg 25 26 F F1) F9) (gX := fun X9 => rg 25 25 (rg 25 25 X X1) X9) ⟨hx, hb, hml, hown, hts⟩ (c_addT l dC dI cB cC cI cJ cZ a (rg 25 26 F F1) (rg 25 25 X X1) J R gf gn v_6.toInt  (i32r _) (show 0 ≤ (F1 25).toInt ∧ (F1 25).toInt ≤ 2000000000 from by first | assumption | omega) (show 0 ≤ v_6.toInt ∧ v_6.toInt < 65536 from by first | assumption | omega) H.size) (cwV 1 hts kX10_addHalf_X10_add_29 rfl rfl rfl (by decide +kernel) ⟨Nat.le_of_ble_eq_true rfl, Nat.le_of_ble_eq_true rfl⟩) (va_recv hK hP (ci := 10) (q0 := 10) rfl rfl) hK hNW hP hD hS hA rfl rfl hl.1 (lv_room (Nat.le_of_ble_eq_true rfl)) dX10_addHalf_26 hcs (fun F_9 X_10 hw_11 H locs hP hD hS => ?_)
        have hw_11 : (F_9 25).toInt = (F1 25).toInt + 1 := hw_11
        have hto := hw_11
        refine lv_iinc (v := oI (q + (-8))) (lv' := [(3, .int (oI (q + (-8)))), (4, .int (oI v_6.toInt)), (0, .ref (a 10)), (1, .long g1)]) hx hb dX10_addHalf_29 hl (k := 3) rfl (oI_add q (-8)) (by decide) rfl (fun ls hl => ?_)
        refine lv_goto (tgt := 3) hx hb dX10_addHalf_32 (by decide) ?_
        have eF9 : rg 25 26 F (rg 25 26 (rg 25 26 F F1) F_9) = rg 25 26 (rg 25 26 F F1) F_9 := by funext k; simp only [rg, va_up]; (repeat' split) <;> first | with_reducible rfl | omega
        have eX9 : rg 25 25 X (rg 25 25 (rg 25 25 X X1) X_10) = rg 25 25 (rg 25 25 X X1) X_10 := by funext k; simp only [rg, va_up]; (repeat' split) <;> first | with_reducible rfl | omega
        have hP9 : va_P (dC, dI) vwCl (CW cB cC cI cJ cZ a (rg 25 26 F (rg 25 26 (rg 25 26 F F1) F_9)) (rg 25 25 X (rg 25 25 (rg 25 25 X X1) X_10)) J R gf gn) H := by rw [eF9, eX9]; exact hP
        have hD9 : va_D A (CW cB cC cI cJ cZ a (rg 25 26 F (rg 25 26 (rg 25 26 F F1) F_9)) (rg 25 25 X (rg 25 25 (rg 25 25 X X1) X_10)) J R gf gn) := by rw [eF9, eX9]; exact hD
        exact ih (rg 25 26 (rg 25 26 F F1) F_9) (rg 25 25 (rg 25 25 X X1) X_10) (q + (-8)) (show ((q + (-8)) + 8).toNat < k from by omega) (by omega) (show -8 ≤ (q + (-8)) ∧ (q + (-8)) ≤ 56 from by first | assumption | omega | (with_reducible rfl) | ((repeat' apply And.intro) <;> first | assumption | omega | (with_reducible rfl))) (show (F 25).toInt ≤ (F_9 25).toInt ∧ 8 * ((F_9 25).toInt - (F 25).toInt) ≤ 56 - (q + (-8)) from by first | assumption | omega | (with_reducible rfl) | ((repeat' apply And.intro) <;> first | assumption | omega | (with_reducible rfl))) _ _ hP9 hD9 hS ls (lv_sub hl [2, 3, 0] rfl)

set_option maxHeartbeats 4000000 in
set_option maxRecDepth 100000 in
/-- X10_addHalf -/
theorem c_addHalf (l : Launch) (dC : Nat → ClassId) (dI : Nat → Nat → Nat) (cB cC cI cJ cZ : ClassId) (a : Nat → Nat) (F : Nat → Int32) (X : Nat → Nat → Int32) (J : Nat → Nat → Int64) (R : Nat → Nat) (gf gn : Nat) (g1 : Int64)  (htl : 0 ≤ (F 25).toInt ∧ (F 25).toInt ≤ 2000000000) (ht1 : (F 25).toInt ≤ 1900000000) (s0 : Nat) : Met l yX10_addHalf vX10_addHalf { frames := 2, cells := 0, slots := 0, locals := 81 } (va_Pc [.ref (a 10), .long g1] (cPre dC dI cB cC cI cJ cZ a F X J R gf gn s0)) (va_Qv (fun (u : (Nat → Int32) × (Nat → Nat → Int32)) => match u with | (F1, X1) => (F 25).toInt + 0 ≤ (F1 25).toInt ∧ (F1 25).toInt ≤ (F 25).toInt + 8) (fun u => cPost dC dI cB cC cI cJ cZ a (rg 25 26 F u.1) (rg 25 25 X u.2) J R gf gn (va_A (CW cB cC cI cJ cZ a F X J R gf gn) s0)) (va_A (CW cB cC cI cJ cZ a F X J R gf gn) s0)) 0 0 (va_A (CW cB cC cI cJ cZ a F X J R gf gn) s0) := by
  refine Met.ofW (cc := cX10_addHalf) (maxL := 5) (ret := none) (by decide) rfl ?_
  intro p e s m args below meth c s₁ B9 hml hv
  obtain ⟨rfl, hsz0, hP, hK, hD0, hNW⟩ := hv
  have hx := B9.exec
  have hb := B9.bytes
  have hr := B9.returns
  have hts := atoms_spec (ws := vX10_addHalf) B9.pre
  have hown : s.vm.findClass RX10 = some m.cls := findClass_of_methodNamed B9.named
  have hlocks := B9.notSynchronized
  clear B9
  subst hsz0
  have hD := hD0.self (sz := s.heap.size)
  generalize hAe : va_A (CW cB cC cI cJ cZ a F X J R gf gn) s.heap.size = A at hD ⊢
  have hA : ∀ q : Nat, s.heap.size ≤ q → A q := fun q h => by rw [← hAe]; exact Or.inr h
  have hS : va_S A s.heap s.heap [] := va_S.rf
  have hcs : 0 + 0 ≤ (0 : Nat) ∧ 0 + 0 ≤ (0 : Nat) := ⟨Nat.le_refl 0, Nat.le_refl 0⟩
  have hl := lv_entry ([.ref (a 10), .long g1]) (n := 5) (Nat.le_of_ble_eq_true rfl)
  rw [lg_entry_eq]
  generalize (lg_sl ([.ref (a 10), .long g1]) ++ List.replicate (5 - (lg_sl ([.ref (a 10), .long g1])).length) Slot.unset).toArray = ls at hl ⊢
  have hl : lv_has ls 5 [(0, .ref (a 10)), (1, .long g1)] := hl
  refine lv_bipush (v := oI 56) hx hb dX10_addHalf_0 (by decide) ?_
  refine lv_istore_n (lv' := [(3, .int (oI 56)), (0, .ref (a 10)), (1, .long g1)]) hx hb dX10_addHalf_2 rfl hl (by decide) rfl (fun ls hl => ?_)
  have eF9 : rg 25 26 F F = F := by funext k; simp only [rg, va_up]; (repeat' split) <;> first | with_reducible rfl | omega
  have eX9 : rg 25 25 X X = X := by funext k; simp only [rg, va_up]; (repeat' split) <;> first | with_reducible rfl | omega
  have hP9 : va_P (dC, dI) vwCl (CW cB cC cI cJ cZ a (rg 25 26 F F) (rg 25 25 X X) J R gf gn) s.heap := by rw [eF9, eX9]; exact hP
  have hD9 : va_D A (CW cB cC cI cJ cZ a (rg 25 26 F F) (rg 25 25 X X) J R gf gn) := by rw [eF9, eX9]; exact hD
  exact lp_half2 hx hb hml hown hts hK hNW hA hr hlocks g1 (by assumption) (by assumption)  _ F X 56 (Nat.lt_succ_self _) (by decide) (show -8 ≤ 56 ∧ 56 ≤ 56 from by first | assumption | omega | (with_reducible rfl) | ((repeat' apply And.intro) <;> first | assumption | omega | (with_reducible rfl))) (show (F 25).toInt ≤ (F 25).toInt ∧ 8 * ((F 25).toInt - (F 25).toInt) ≤ 56 - 56 from by first | assumption | omega | (with_reducible rfl) | ((repeat' apply And.intro) <;> first | assumption | omega | (with_reducible rfl))) _ _ hP9 hD9 hS ls (lv_sub hl [1, 2, 0] rfl)

set_option maxHeartbeats 4000000 in
set_option maxRecDepth 100000 in
/-- X10_addNumber -/
theorem c_addNumberT (l : Launch) (dC : Nat → ClassId) (dI : Nat → Nat → Nat) (cB cC cI cJ cZ : ClassId) (a : Nat → Nat) (F : Nat → Int32) (X : Nat → Nat → Int32) (J : Nat → Nat → Int64) (R : Nat → Nat) (gf gn : Nat) (x : Int)  (ix : (-2147483648 ≤ x ∧ x < 2147483648)) (htl : 0 ≤ (F 25).toInt ∧ (F 25).toInt ≤ 2000000000) (ht1 : (F 25).toInt ≤ 1800000000) (s0 : Nat) : Met l yX10_addNumber vX10_addNumber { frames := 3, cells := 0, slots := 0, locals := 104 } (va_Pc [.ref (a 10), .int (oI x)] (cPre dC dI cB cC cI cJ cZ a F X J R gf gn s0)) (va_Qv (fun (u : (Nat → Int32) × (Nat → Nat → Int32)) => match u with | (F1, X1) => (F 25).toInt + 0 ≤ (F1 25).toInt ∧ (F1 25).toInt ≤ (F 25).toInt + 11) (fun u => cPost dC dI cB cC cI cJ cZ a (rg 25 26 F u.1) (rg 25 25 X u.2) J R gf gn (va_A (CW cB cC cI cJ cZ a F X J R gf gn) s0)) (va_A (CW cB cC cI cJ cZ a F X J R gf gn) s0)) 0 0 (va_A (CW cB cC cI cJ cZ a F X J R gf gn) s0) := by
  refine Met.ofW (cc := cX10_addNumber) (maxL := 2) (ret := none) (by decide) rfl ?_
  intro p e s m args below meth c s₁ B9 hml hv
  obtain ⟨rfl, hsz0, hP, hK, hD0, hNW⟩ := hv
  have hx := B9.exec
  have hb := B9.bytes
  have hr := B9.returns
  have hts := atoms_spec (ws := vX10_addNumber) B9.pre
  have hown : s.vm.findClass RX10 = some m.cls := findClass_of_methodNamed B9.named
  have hlocks := B9.notSynchronized
  clear B9
  subst hsz0
  have hD := hD0.self (sz := s.heap.size)
  generalize hAe : va_A (CW cB cC cI cJ cZ a F X J R gf gn) s.heap.size = A at hD ⊢
  have hA : ∀ q : Nat, s.heap.size ≤ q → A q := fun q h => by rw [← hAe]; exact Or.inr h
  have hS : va_S A s.heap s.heap [] := va_S.rf
  have hcs : 0 + 0 ≤ (0 : Nat) ∧ 0 + 0 ≤ (0 : Nat) := ⟨Nat.le_refl 0, Nat.le_refl 0⟩
  have hl := lv_entry ([.ref (a 10), .int (oI x)]) (n := 2) (Nat.le_of_ble_eq_true rfl)
  rw [lg_entry_eq]
  generalize (lg_sl ([.ref (a 10), .int (oI x)]) ++ List.replicate (2 - (lg_sl ([.ref (a 10), .int (oI x)])).length) Slot.unset).toArray = ls at hl ⊢
  have hl : lv_has ls 2 [(0, .ref (a 10)), (1, .int (oI x))] := hl
  refine lv_aload_n hx hb dX10_addNumber_0 rfl (lv_at hl 0 rfl) ?_
  refine ccp_vV (As := []) (rest := []) (gF := fun F9 => rg 25 26 F F9) (gX := fun X9 => rg 25 25 X X9) ⟨hx, hb, hml, hown, hts⟩ (c_addBlank l dC dI cB cC cI cJ cZ a F X J R gf gn    (show 0 ≤ (F 25).toInt ∧ (F 25).toInt ≤ 2000000000 from by first | assumption | omega)  s.heap.size) (cwV 0 hts kX10_addNumber_X10_addBlank_33 rfl rfl rfl (by decide +kernel) ⟨Nat.le_of_ble_eq_true rfl, Nat.le_of_ble_eq_true rfl⟩) (va_recv hK hP (ci := 10) (q0 := 10) rfl rfl) hK hNW hP hD hS hA rfl rfl hl.1 (lv_room (Nat.le_of_ble_eq_true rfl)) dX10_addNumber_1 hcs (fun F_1 X_2 hw_3 H locs hP hD hS => ?_)
  have hw_3 : (F 25).toInt + 0 ≤ (F_1 25).toInt ∧ (F_1 25).toInt ≤ (F 25).toInt + 1 := hw_3
  have hto := hw_3
  refine lv_aload_n hx hb dX10_addNumber_4 rfl (lv_at hl 0 rfl) ?_
  refine lv_iload_n hx hb dX10_addNumber_5 rfl (lv_at hl 1 rfl) ?_
  refine ccp_vV (As := [.int (oI x)]) (rest := []) (gF := fun F9 => rg 25 26 (rg 25 26 F F_1) F9) (gX := fun X9 => rg 25 25 (rg 25 25 X X_2) X9) ⟨hx, hb, hml, hown, hts⟩ (c_addDigits l dC dI cB cC cI cJ cZ a (rg 25 26 F F_1) (rg 25 25 X X_2) J R gf gn x  (by omega) (show 0 ≤ (F_1 25).toInt ∧ (F_1 25).toInt ≤ 2000000000 from by first | assumption | omega) (show (F_1 25).toInt ≤ 1900000000 from by first | assumption | omega) H.size) (cwV 1 hts kX10_addNumber_X10_addDigits_36 rfl rfl rfl (by decide +kernel) ⟨Nat.le_of_ble_eq_true rfl, Nat.le_of_ble_eq_true rfl⟩) (va_recv hK hP (ci := 10) (q0 := 10) rfl rfl) hK hNW hP hD hS hA rfl rfl hl.1 (lv_room (Nat.le_of_ble_eq_true rfl)) dX10_addNumber_6 hcs (fun F_4 X_5 hw_6 H locs hP hD hS => ?_)
  have hw_6 : (F_1 25).toInt + 0 ≤ (F_4 25).toInt ∧ (F_4 25).toInt ≤ (F_1 25).toInt + 10 := hw_6
  have hto := hw_6
  have eF9 : rg 25 26 F (rg 25 26 (rg 25 26 F F_1) F_4) = rg 25 26 (rg 25 26 F F_1) F_4 := by funext k; simp only [rg, va_up]; (repeat' split) <;> first | with_reducible rfl | omega
  have eX9 : rg 25 25 X (rg 25 25 (rg 25 25 X X_2) X_5) = rg 25 25 (rg 25 25 X X_2) X_5 := by funext k; simp only [rg, va_up]; (repeat' split) <;> first | with_reducible rfl | omega
  have hP9 : va_P (dC, dI) vwCl (CW cB cC cI cJ cZ a (rg 25 26 F (rg 25 26 (rg 25 26 F F_1) F_4)) (rg 25 25 X (rg 25 25 (rg 25 25 X X_2) X_5)) J R gf gn) H := by rw [eF9, eX9]; exact hP
  have hD9 : va_D A (CW cB cC cI cJ cZ a (rg 25 26 F (rg 25 26 (rg 25 26 F F_1) F_4)) (rg 25 25 X (rg 25 25 (rg 25 25 X X_2) X_5)) J R gf gn) := by rw [eF9, eX9]; exact hD
  have hpost : (F 25).toInt + 0 ≤ (F_4 25).toInt ∧ (F_4 25).toInt ≤ (F 25).toInt + 11 := by first | assumption | omega | (with_reducible rfl) | ((repeat' apply And.intro) <;> first | assumption | omega | (with_reducible rfl))
  exact W.vret hx hb hr (fun t ht hW => ⟨⟨(rg 25 26 (rg 25 26 F F_1) F_4, rg 25 25 (rg 25 25 X X_2) X_5), rfl, hpost, by rw [ht]; exact hP9, va_K.moved hW.alike hK, hD9⟩, hS.F ht⟩) hS.2.2 dX10_addNumber_9

set_option maxHeartbeats 4000000 in
set_option maxRecDepth 100000 in
/-- X10_addVariable -/
theorem c_addVariableT (l : Launch) (dC : Nat → ClassId) (dI : Nat → Nat → Nat) (cB cC cI cJ cZ : ClassId) (a : Nat → Nat) (F : Nat → Int32) (X : Nat → Nat → Int32) (J : Nat → Nat → Int64) (R : Nat → Nat) (gf gn : Nat) (x : Int)  (ix : (-2147483648 ≤ x ∧ x < 2147483648)) (htl : 0 ≤ (F 25).toInt ∧ (F 25).toInt ≤ 2000000000) (ht1 : (F 25).toInt ≤ 1800000000) (s0 : Nat) : Met l yX10_addVariable vX10_addVariable { frames := 3, cells := 0, slots := 0, locals := 104 } (va_Pc [.ref (a 10), .int (oI x)] (cPre dC dI cB cC cI cJ cZ a F X J R gf gn s0)) (va_Qv (fun (u : (Nat → Int32) × (Nat → Nat → Int32)) => match u with | (F1, X1) => (F 25).toInt + 1 ≤ (F1 25).toInt ∧ (F1 25).toInt ≤ (F 25).toInt + 12) (fun u => cPost dC dI cB cC cI cJ cZ a (rg 25 26 F u.1) (rg 25 25 X u.2) J R gf gn (va_A (CW cB cC cI cJ cZ a F X J R gf gn) s0)) (va_A (CW cB cC cI cJ cZ a F X J R gf gn) s0)) 0 0 (va_A (CW cB cC cI cJ cZ a F X J R gf gn) s0) := by
  refine Met.ofW (cc := cX10_addVariable) (maxL := 2) (ret := none) (by decide) rfl ?_
  intro p e s m args below meth c s₁ B9 hml hv
  obtain ⟨rfl, hsz0, hP, hK, hD0, hNW⟩ := hv
  have hx := B9.exec
  have hb := B9.bytes
  have hr := B9.returns
  have hts := atoms_spec (ws := vX10_addVariable) B9.pre
  have hown : s.vm.findClass RX10 = some m.cls := findClass_of_methodNamed B9.named
  have hlocks := B9.notSynchronized
  clear B9
  subst hsz0
  have hD := hD0.self (sz := s.heap.size)
  generalize hAe : va_A (CW cB cC cI cJ cZ a F X J R gf gn) s.heap.size = A at hD ⊢
  have hA : ∀ q : Nat, s.heap.size ≤ q → A q := fun q h => by rw [← hAe]; exact Or.inr h
  have hS : va_S A s.heap s.heap [] := va_S.rf
  have hcs : 0 + 0 ≤ (0 : Nat) ∧ 0 + 0 ≤ (0 : Nat) := ⟨Nat.le_refl 0, Nat.le_refl 0⟩
  have hl := lv_entry ([.ref (a 10), .int (oI x)]) (n := 2) (Nat.le_of_ble_eq_true rfl)
  rw [lg_entry_eq]
  generalize (lg_sl ([.ref (a 10), .int (oI x)]) ++ List.replicate (2 - (lg_sl ([.ref (a 10), .int (oI x)])).length) Slot.unset).toArray = ls at hl ⊢
  have hl : lv_has ls 2 [(0, .ref (a 10)), (1, .int (oI x))] := hl
  refine lv_aload_n hx hb dX10_addVariable_0 rfl (lv_at hl 0 rfl) ?_
  refine ccp_vV (As := []) (rest := []) (gF := fun F9 => rg 25 26 F F9) (gX := fun X9 => rg 25 25 X X9) ⟨hx, hb, hml, hown, hts⟩ (c_addBlank l dC dI cB cC cI cJ cZ a F X J R gf gn    (show 0 ≤ (F 25).toInt ∧ (F 25).toInt ≤ 2000000000 from by first | assumption | omega)  s.heap.size) (cwV 0 hts kX10_addVariable_X10_addBlank_33 rfl rfl rfl (by decide +kernel) ⟨Nat.le_of_ble_eq_true rfl, Nat.le_of_ble_eq_true rfl⟩) (va_recv hK hP (ci := 10) (q0 := 10) rfl rfl) hK hNW hP hD hS hA rfl rfl hl.1 (lv_room (Nat.le_of_ble_eq_true rfl)) dX10_addVariable_1 hcs (fun F_1 X_2 hw_3 H locs hP hD hS => ?_)
  have hw_3 : (F 25).toInt + 0 ≤ (F_1 25).toInt ∧ (F_1 25).toInt ≤ (F 25).toInt + 1 := hw_3
  have hto := hw_3
  refine lv_aload_n hx hb dX10_addVariable_4 rfl (lv_at hl 0 rfl) ?_
  refine lv_bipush (v := oI 37) hx hb dX10_addVariable_5 (by decide) ?_
  refine ccp_vV (As := [.int (oI 37)]) (rest := []) (gF := fun F9 => rg 25 26 (rg 25 26 F F_1) F9) (gX := fun X9 => rg 25 25 (rg 25 25 X X_2) X9) ⟨hx, hb, hml, hown, hts⟩ (c_addT l dC dI cB cC cI cJ cZ a (rg 25 26 F F_1) (rg 25 25 X X_2) J R gf gn 37  (by decide) (show 0 ≤ (F_1 25).toInt ∧ (F_1 25).toInt ≤ 2000000000 from by first | assumption | omega) (show 0 ≤ 37 ∧ 37 < 65536 from by first | assumption | omega) H.size) (cwV 1 hts kX10_addVariable_X10_add_29 rfl rfl rfl (by decide +kernel) ⟨Nat.le_of_ble_eq_true rfl, Nat.le_of_ble_eq_true rfl⟩) (va_recv hK hP (ci := 10) (q0 := 10) rfl rfl) hK hNW hP hD hS hA rfl rfl hl.1 (lv_room (Nat.le_of_ble_eq_true rfl)) dX10_addVariable_7 hcs (fun F_4 X_5 hw_6 H locs hP hD hS => ?_)
  have hw_6 : (F_4 25).toInt = (F_1 25).toInt + 1 := hw_6
  have hto := hw_6
  refine lv_aload_n hx hb dX10_addVariable_10 rfl (lv_at hl 0 rfl) ?_
  refine lv_iload_n hx hb dX10_addVariable_11 rfl (lv_at hl 1 rfl) ?_
  refine ccp_vV (As := [.int (oI x)]) (rest := []) (gF := fun F9 => rg 25 26 (rg 25 26 (rg 25 26 F F_1) F_4) F9) (gX := fun X9 => rg 25 25 (rg 25 25 (rg 25 25 X X_2) X_5) X9) ⟨hx, hb, hml, hown, hts⟩ (c_addDigits l dC dI cB cC cI cJ cZ a (rg 25 26 (rg 25 26 F F_1) F_4) (rg 25 25 (rg 25 25 X X_2) X_5) J R gf gn x  (by omega) (show 0 ≤ (F_4 25).toInt ∧ (F_4 25).toInt ≤ 2000000000 from by first | assumption | omega) (show (F_4 25).toInt ≤ 1900000000 from by first | assumption | omega) H.size) (cwV 1 hts kX10_addVariable_X10_addDigits_36 rfl rfl rfl (by decide +kernel) ⟨Nat.le_of_ble_eq_true rfl, Nat.le_of_ble_eq_true rfl⟩) (va_recv hK hP (ci := 10) (q0 := 10) rfl rfl) hK hNW hP hD hS hA rfl rfl hl.1 (lv_room (Nat.le_of_ble_eq_true rfl)) dX10_addVariable_12 hcs (fun F_7 X_8 hw_9 H locs hP hD hS => ?_)
  have hw_9 : (F_4 25).toInt + 0 ≤ (F_7 25).toInt ∧ (F_7 25).toInt ≤ (F_4 25).toInt + 10 := hw_9
  have hto := hw_9
  have eF9 : rg 25 26 F (rg 25 26 (rg 25 26 (rg 25 26 F F_1) F_4) F_7) = rg 25 26 (rg 25 26 (rg 25 26 F F_1) F_4) F_7 := by funext k; simp only [rg, va_up]; (repeat' split) <;> first | with_reducible rfl | omega
  have eX9 : rg 25 25 X (rg 25 25 (rg 25 25 (rg 25 25 X X_2) X_5) X_8) = rg 25 25 (rg 25 25 (rg 25 25 X X_2) X_5) X_8 := by funext k; simp only [rg, va_up]; (repeat' split) <;> first | with_reducible rfl | omega
  have hP9 : va_P (dC, dI) vwCl (CW cB cC cI cJ cZ a (rg 25 26 F (rg 25 26 (rg 25 26 (rg 25 26 F F_1) F_4) F_7)) (rg 25 25 X (rg 25 25 (rg 25 25 (rg 25 25 X X_2) X_5) X_8)) J R gf gn) H := by rw [eF9, eX9]; exact hP
  have hD9 : va_D A (CW cB cC cI cJ cZ a (rg 25 26 F (rg 25 26 (rg 25 26 (rg 25 26 F F_1) F_4) F_7)) (rg 25 25 X (rg 25 25 (rg 25 25 (rg 25 25 X X_2) X_5) X_8)) J R gf gn) := by rw [eF9, eX9]; exact hD
  have hpost : (F 25).toInt + 1 ≤ (F_7 25).toInt ∧ (F_7 25).toInt ≤ (F 25).toInt + 12 := by first | assumption | omega | (with_reducible rfl) | ((repeat' apply And.intro) <;> first | assumption | omega | (with_reducible rfl))
  exact W.vret hx hb hr (fun t ht hW => ⟨⟨(rg 25 26 (rg 25 26 (rg 25 26 F F_1) F_4) F_7, rg 25 25 (rg 25 25 (rg 25 25 X X_2) X_5) X_8), rfl, hpost, by rw [ht]; exact hP9, va_K.moved hW.alike hK, hD9⟩, hS.F ht⟩) hS.2.2 dX10_addVariable_15

set_option maxHeartbeats 4000000 in
set_option maxRecDepth 100000 in
/-- X10_addSymbol -/
theorem c_addSymbolT (l : Launch) (dC : Nat → ClassId) (dI : Nat → Nat → Nat) (cB cC cI cJ cZ : ClassId) (a : Nat → Nat) (F : Nat → Int32) (X : Nat → Nat → Int32) (J : Nat → Nat → Int64) (R : Nat → Nat) (gf gn : Nat) (x : Int)  (ix : (-2147483648 ≤ x ∧ x < 2147483648)) (htl : 0 ≤ (F 25).toInt ∧ (F 25).toInt ≤ 2000000000) (ht1 : (F 25).toInt ≤ 1800000000) (s0 : Nat) : Met l yX10_addSymbol vX10_addSymbol { frames := 3, cells := 0, slots := 0, locals := 105 } (va_Pc [.ref (a 10), .ref (a 6), .int (oI x)] (cPre dC dI cB cC cI cJ cZ a F X J R gf gn s0)) (va_Qv (fun (u : (Nat → Int32) × (Nat → Nat → Int32)) => match u with | (F1, X1) => (F 25).toInt + 0 ≤ (F1 25).toInt ∧ (F1 25).toInt ≤ (F 25).toInt + 17) (fun u => cPost dC dI cB cC cI cJ cZ a (rg 25 26 F u.1) (rg 25 25 X u.2) J R gf gn (va_A (CW cB cC cI cJ cZ a F X J R gf gn) s0)) (va_A (CW cB cC cI cJ cZ a F X J R gf gn) s0)) 0 0 (va_A (CW cB cC cI cJ cZ a F X J R gf gn) s0) := by
  refine Met.ofW (cc := cX10_addSymbol) (maxL := 3) (ret := none) (by decide) rfl ?_
  intro p e s m args below meth c s₁ B9 hml hv
  obtain ⟨rfl, hsz0, hP, hK, hD0, hNW⟩ := hv
  have hx := B9.exec
  have hb := B9.bytes
  have hr := B9.returns
  have hts := atoms_spec (ws := vX10_addSymbol) B9.pre
  have hown : s.vm.findClass RX10 = some m.cls := findClass_of_methodNamed B9.named
  have hlocks := B9.notSynchronized
  clear B9
  subst hsz0
  have hD := hD0.self (sz := s.heap.size)
  generalize hAe : va_A (CW cB cC cI cJ cZ a F X J R gf gn) s.heap.size = A at hD ⊢
  have hA : ∀ q : Nat, s.heap.size ≤ q → A q := fun q h => by rw [← hAe]; exact Or.inr h
  have hS : va_S A s.heap s.heap [] := va_S.rf
  have hcs : 0 + 0 ≤ (0 : Nat) ∧ 0 + 0 ≤ (0 : Nat) := ⟨Nat.le_refl 0, Nat.le_refl 0⟩
  have hl := lv_entry ([.ref (a 10), .ref (a 6), .int (oI x)]) (n := 3) (Nat.le_of_ble_eq_true rfl)
  rw [lg_entry_eq]
  generalize (lg_sl ([.ref (a 10), .ref (a 6), .int (oI x)]) ++ List.replicate (3 - (lg_sl ([.ref (a 10), .ref (a 6), .int (oI x)])).length) Slot.unset).toArray = ls at hl ⊢
  have hl : lv_has ls 3 [(0, .ref (a 10)), (1, .ref (a 6)), (2, .int (oI x))] := hl
  refine lv_aload_n hx hb dX10_addSymbol_0 rfl (lv_at hl 0 rfl) ?_
  refine ccp_vV (As := []) (rest := []) (gF := fun F9 => rg 25 26 F F9) (gX := fun X9 => rg 25 25 X X9) ⟨hx, hb, hml, hown, hts⟩ (c_addBlank l dC dI cB cC cI cJ cZ a F X J R gf gn    (show 0 ≤ (F 25).toInt ∧ (F 25).toInt ≤ 2000000000 from by first | assumption | omega)  s.heap.size) (cwV 0 hts kX10_addSymbol_X10_addBlank_33 rfl rfl rfl (by decide +kernel) ⟨Nat.le_of_ble_eq_true rfl, Nat.le_of_ble_eq_true rfl⟩) (va_recv hK hP (ci := 10) (q0 := 10) rfl rfl) hK hNW hP hD hS hA rfl rfl hl.1 (lv_room (Nat.le_of_ble_eq_true rfl)) dX10_addSymbol_1 hcs (fun F_1 X_2 hw_3 H locs hP hD hS => ?_)
  have hw_3 : (F 25).toInt + 0 ≤ (F_1 25).toInt ∧ (F_1 25).toInt ≤ (F 25).toInt + 1 := hw_3
  have hto := hw_3
  refine lv_iload_n hx hb dX10_addSymbol_4 rfl (lv_at hl 2 rfl) ?_
  refine cz_lt (tgt := 35) hx hb (by omega) dX10_addSymbol_5 (by decide) (fun c_4 => ?_) (fun c_4 => ?_)
  · have eF9 : rg 25 26 F (rg 25 26 F F_1) = rg 25 26 F F_1 := by funext k; simp only [rg, va_up]; (repeat' split) <;> first | with_reducible rfl | omega
    have eX9 : rg 25 25 X (rg 25 25 X X_2) = rg 25 25 X X_2 := by funext k; simp only [rg, va_up]; (repeat' split) <;> first | with_reducible rfl | omega
    have hP9 : va_P (dC, dI) vwCl (CW cB cC cI cJ cZ a (rg 25 26 F (rg 25 26 F F_1)) (rg 25 25 X (rg 25 25 X X_2)) J R gf gn) H := by rw [eF9, eX9]; exact hP
    have hD9 : va_D A (CW cB cC cI cJ cZ a (rg 25 26 F (rg 25 26 F F_1)) (rg 25 25 X (rg 25 25 X X_2)) J R gf gn) := by rw [eF9, eX9]; exact hD
    have hpost : (F 25).toInt + 0 ≤ (F_1 25).toInt ∧ (F_1 25).toInt ≤ (F 25).toInt + 17 := by first | assumption | omega | (with_reducible rfl) | ((repeat' apply And.intro) <;> first | assumption | omega | (with_reducible rfl))
    exact W.vret hx hb hr (fun t ht hW => ⟨⟨(rg 25 26 F F_1, rg 25 25 X X_2), rfl, hpost, by rw [ht]; exact hP9, va_K.moved hW.alike hK, hD9⟩, hS.F ht⟩) hS.2.2 dX10_addSymbol_35
  · refine lv_iload_n hx hb dX10_addSymbol_8 rfl (lv_at hl 2 rfl) ?_
    refine lv_sipush (v := oI 2560) hx hb dX10_addSymbol_9 (by decide) ?_
    refine ci_ge (tgt := 35) hx hb (by omega) (by decide) dX10_addSymbol_12 (by decide) (fun c_5 => ?_) (fun c_5 => ?_)
    · have eF9 : rg 25 26 F (rg 25 26 F F_1) = rg 25 26 F F_1 := by funext k; simp only [rg, va_up]; (repeat' split) <;> first | with_reducible rfl | omega
      have eX9 : rg 25 25 X (rg 25 25 X X_2) = rg 25 25 X X_2 := by funext k; simp only [rg, va_up]; (repeat' split) <;> first | with_reducible rfl | omega
      have hP9 : va_P (dC, dI) vwCl (CW cB cC cI cJ cZ a (rg 25 26 F (rg 25 26 F F_1)) (rg 25 25 X (rg 25 25 X X_2)) J R gf gn) H := by rw [eF9, eX9]; exact hP
      have hD9 : va_D A (CW cB cC cI cJ cZ a (rg 25 26 F (rg 25 26 F F_1)) (rg 25 25 X (rg 25 25 X X_2)) J R gf gn) := by rw [eF9, eX9]; exact hD
      have hpost : (F 25).toInt + 0 ≤ (F_1 25).toInt ∧ (F_1 25).toInt ≤ (F 25).toInt + 17 := by first | assumption | omega | (with_reducible rfl) | ((repeat' apply And.intro) <;> first | assumption | omega | (with_reducible rfl))
      exact W.vret hx hb hr (fun t ht hW => ⟨⟨(rg 25 26 F F_1, rg 25 25 X X_2), rfl, hpost, by rw [ht]; exact hP9, va_K.moved hW.alike hK, hD9⟩, hS.F ht⟩) hS.2.2 dX10_addSymbol_35
    · refine lv_aload_n hx hb dX10_addSymbol_15 rfl (lv_at hl 0 rfl) ?_
      refine lv_aload_n hx hb dX10_addSymbol_16 rfl (lv_at hl 1 rfl) ?_
      refine cgN_6_0 hx hb hts inX10_addSymbol_X6 hown hK hP (va_Nw.use rfl hNW.2.2.2.2.2.2.2.2.2.2.2.2.2.2.2.2.2.2.1) dX10_addSymbol_17 ?_
      refine lv_iload_n hx hb dX10_addSymbol_20 rfl (lv_at hl 2 rfl) ?_
      refine cjl_0 hx hb hK hP (by omega) dX10_addSymbol_21 (fun w_6 hw_6 => ?_)
      refine ccp_vV (As := [.long w_6]) (rest := []) (gF := fun F9 => rg 25 26 (rg 25 26 F F_1) F9) (gX := fun X9 => rg 25 25 (rg 25 25 X X_2) X9) ⟨hx, hb, hml, hown, hts⟩ (c_addHalf l dC dI cB cC cI cJ cZ a (rg 25 26 F F_1) (rg 25 25 X X_2) J R gf gn w_6   (show 0 ≤ (F_1 25).toInt ∧ (F_1 25).toInt ≤ 2000000000 from by first | assumption | omega) (show (F_1 25).toInt ≤ 1900000000 from by first | assumption | omega) H.size) (cwV 1 hts kX10_addSymbol_X10_addHalf_46 rfl rfl rfl (by decide +kernel) ⟨Nat.le_of_ble_eq_true rfl, Nat.le_of_ble_eq_true rfl⟩) (va_recv hK hP (ci := 10) (q0 := 10) rfl rfl) hK hNW hP hD hS hA rfl rfl hl.1 (lv_room (Nat.le_of_ble_eq_true rfl)) dX10_addSymbol_22 hcs (fun F_7 X_8 hw_9 H locs hP hD hS => ?_)
      have hw_9 : (F_1 25).toInt + 0 ≤ (F_7 25).toInt ∧ (F_7 25).toInt ≤ (F_1 25).toInt + 8 := hw_9
      have hto := hw_9
      refine lv_aload_n hx hb dX10_addSymbol_25 rfl (lv_at hl 0 rfl) ?_
      refine lv_aload_n hx hb dX10_addSymbol_26 rfl (lv_at hl 1 rfl) ?_
      refine cgN_6_1 hx hb hts inX10_addSymbol_X6 hown hK hP (va_Nw.use rfl hNW.2.2.2.2.2.2.2.2.2.2.2.2.2.2.2.2.2.2.2.1) dX10_addSymbol_27 ?_
      refine lv_iload_n hx hb dX10_addSymbol_30 rfl (lv_at hl 2 rfl) ?_
      refine cjl_1 hx hb hK hP (by omega) dX10_addSymbol_31 (fun w_10 hw_10 => ?_)
      refine ccp_vV (As := [.long w_10]) (rest := []) (gF := fun F9 => rg 25 26 (rg 25 26 (rg 25 26 F F_1) F_7) F9) (gX := fun X9 => rg 25 25 (rg 25 25 (rg 25 25 X X_2) X_8) X9) ⟨hx, hb, hml, hown, hts⟩ (c_addHalf l dC dI cB cC cI cJ cZ a (rg 25 26 (rg 25 26 F F_1) F_7) (rg 25 25 (rg 25 25 X X_2) X_8) J R gf gn w_10   (show 0 ≤ (F_7 25).toInt ∧ (F_7 25).toInt ≤ 2000000000 from by first | assumption | omega) (show (F_7 25).toInt ≤ 1900000000 from by first | assumption | omega) H.size) (cwV 1 hts kX10_addSymbol_X10_addHalf_46 rfl rfl rfl (by decide +kernel) ⟨Nat.le_of_ble_eq_true rfl, Nat.le_of_ble_eq_true rfl⟩) (va_recv hK hP (ci := 10) (q0 := 10) rfl rfl) hK hNW hP hD hS hA rfl rfl hl.1 (lv_room (Nat.le_of_ble_eq_true rfl)) dX10_addSymbol_32 hcs (fun F_11 X_12 hw_13 H locs hP hD hS => ?_)
      have hw_13 : (F_7 25).toInt + 0 ≤ (F_11 25).toInt ∧ (F_11 25).toInt ≤ (F_7 25).toInt + 8 := hw_13
      have hto := hw_13
      have eF9 : rg 25 26 F (rg 25 26 (rg 25 26 (rg 25 26 F F_1) F_7) F_11) = rg 25 26 (rg 25 26 (rg 25 26 F F_1) F_7) F_11 := by funext k; simp only [rg, va_up]; (repeat' split) <;> first | with_reducible rfl | omega
      have eX9 : rg 25 25 X (rg 25 25 (rg 25 25 (rg 25 25 X X_2) X_8) X_12) = rg 25 25 (rg 25 25 (rg 25 25 X X_2) X_8) X_12 := by funext k; simp only [rg, va_up]; (repeat' split) <;> first | with_reducible rfl | omega
      have hP9 : va_P (dC, dI) vwCl (CW cB cC cI cJ cZ a (rg 25 26 F (rg 25 26 (rg 25 26 (rg 25 26 F F_1) F_7) F_11)) (rg 25 25 X (rg 25 25 (rg 25 25 (rg 25 25 X X_2) X_8) X_12)) J R gf gn) H := by rw [eF9, eX9]; exact hP
      have hD9 : va_D A (CW cB cC cI cJ cZ a (rg 25 26 F (rg 25 26 (rg 25 26 (rg 25 26 F F_1) F_7) F_11)) (rg 25 25 X (rg 25 25 (rg 25 25 (rg 25 25 X X_2) X_8) X_12)) J R gf gn) := by rw [eF9, eX9]; exact hD
      have hpost : (F 25).toInt + 0 ≤ (F_11 25).toInt ∧ (F_11 25).toInt ≤ (F 25).toInt + 17 := by first | assumption | omega | (with_reducible rfl) | ((repeat' apply And.intro) <;> first | assumption | omega | (with_reducible rfl))
      exact W.vret hx hb hr (fun t ht hW => ⟨⟨(rg 25 26 (rg 25 26 (rg 25 26 F F_1) F_7) F_11, rg 25 25 (rg 25 25 (rg 25 25 X X_2) X_8) X_12), rfl, hpost, by rw [ht]; exact hP9, va_K.moved hW.alike hK, hD9⟩, hS.F ht⟩) hS.2.2 dX10_addSymbol_35

set_option maxHeartbeats 4000000 in
set_option maxRecDepth 100000 in
/-- X10_at -/
theorem c_at (l : Launch) (dC : Nat → ClassId) (dI : Nat → Nat → Nat) (cB cC cI cJ cZ : ClassId) (a : Nat → Nat) (F : Nat → Int32) (X : Nat → Nat → Int32) (J : Nat → Nat → Int64) (R : Nat → Nat) (gf gn : Nat) (x : Int)  (ix : (-2147483648 ≤ x ∧ x < 2147483648)) (s0 : Nat) : Met l yX10_at vX10_at { frames := 1, cells := 0, slots := 0, locals := 60 } (va_Pc [.ref (a 10), .int (oI x)] (cPre dC dI cB cC cI cJ cZ a F X J R gf gn s0)) (va_Qi (fun (r : Int32) (_ : Unit) => True) (fun _ => cPost dC dI cB cC cI cJ cZ a F X J R gf gn (va_A (CW cB cC cI cJ cZ a F X J R gf gn) s0)) (va_A (CW cB cC cI cJ cZ a F X J R gf gn) s0)) 0 0 (va_A (CW cB cC cI cJ cZ a F X J R gf gn) s0) := by
  refine Met.ofW (cc := cX10_at) (maxL := 2) (ret := (some .int)) (by decide) rfl ?_
  intro p e s m args below meth c s₁ B9 hml hv
  obtain ⟨rfl, hsz0, hP, hK, hD0, hNW⟩ := hv
  have hx := B9.exec
  have hb := B9.bytes
  have hr := B9.returns
  have hts := atoms_spec (ws := vX10_at) B9.pre
  have hown : s.vm.findClass RX10 = some m.cls := findClass_of_methodNamed B9.named
  have hlocks := B9.notSynchronized
  clear B9
  subst hsz0
  have hD := hD0.self (sz := s.heap.size)
  generalize hAe : va_A (CW cB cC cI cJ cZ a F X J R gf gn) s.heap.size = A at hD ⊢
  have hA : ∀ q : Nat, s.heap.size ≤ q → A q := fun q h => by rw [← hAe]; exact Or.inr h
  have hS : va_S A s.heap s.heap [] := va_S.rf
  have hcs : 0 + 0 ≤ (0 : Nat) ∧ 0 + 0 ≤ (0 : Nat) := ⟨Nat.le_refl 0, Nat.le_refl 0⟩
  have hl := lv_entry ([.ref (a 10), .int (oI x)]) (n := 2) (Nat.le_of_ble_eq_true rfl)
  rw [lg_entry_eq]
  generalize (lg_sl ([.ref (a 10), .int (oI x)]) ++ List.replicate (2 - (lg_sl ([.ref (a 10), .int (oI x)])).length) Slot.unset).toArray = ls at hl ⊢
  have hl : lv_has ls 2 [(0, .ref (a 10)), (1, .int (oI x))] := hl
  refine lv_iload_n hx hb dX10_at_0 rfl (lv_at hl 1 rfl) ?_
  refine cz_lt (tgt := 30) hx hb (by omega) dX10_at_1 (by decide) (fun c_1 => ?_) (fun c_1 => ?_)
  · refine lv_iconst (v := oI (-1)) hx hb dX10_at_30 (by decide) ?_
    have hpost : True := trivial
    exact W.iret (v := (oI ((-1)))) hx hb hr (fun t ht hW => ⟨⟨(oI ((-1))), (), rfl, hpost, by rw [ht]; exact hP, va_K.moved hW.alike hK, hD⟩, hS.F ht⟩) hS.2.2 dX10_at_31
  · refine lv_iload_n hx hb dX10_at_4 rfl (lv_at hl 1 rfl) ?_
    refine lv_aload_n hx hb dX10_at_5 rfl (lv_at hl 0 rfl) ?_
    refine cg_10_1 hx hb hts inX10_at_X10 hown hK hP (hts _ lkX10_at_f15) dX10_at_6 ?_
    have i_2 := i32r (F 24)
    refine ci_ge (tgt := 30) hx hb (by omega) (i32r _) dX10_at_9 (by decide) (fun c_3 => ?_) (fun c_3 => ?_)
    · refine lv_iconst (v := oI (-1)) hx hb dX10_at_30 (by decide) ?_
      have hpost : True := trivial
      exact W.iret (v := (oI ((-1)))) hx hb hr (fun t ht hW => ⟨⟨(oI ((-1))), (), rfl, hpost, by rw [ht]; exact hP, va_K.moved hW.alike hK, hD⟩, hS.F ht⟩) hS.2.2 dX10_at_31
    · refine lv_iload_n hx hb dX10_at_12 rfl (lv_at hl 1 rfl) ?_
      refine lv_aload_n hx hb dX10_at_13 rfl (lv_at hl 0 rfl) ?_
      refine cg_10_0 hx hb hts inX10_at_X10 hown hK hP (hts _ lkX10_at_f9) dX10_at_14 ?_
      refine cn_24 hx hb hK hP dX10_at_17 ?_
      refine ci_ge (tgt := 30) hx hb (by omega) (by decide) dX10_at_18 (by decide) (fun c_4 => ?_) (fun c_4 => ?_)
      · refine lv_iconst (v := oI (-1)) hx hb dX10_at_30 (by decide) ?_
        have hpost : True := trivial
        exact W.iret (v := (oI ((-1)))) hx hb hr (fun t ht hW => ⟨⟨(oI ((-1))), (), rfl, hpost, by rw [ht]; exact hP, va_K.moved hW.alike hK, hD⟩, hS.F ht⟩) hS.2.2 dX10_at_31
      · refine lv_aload_n hx hb dX10_at_21 rfl (lv_at hl 0 rfl) ?_
        refine cg_10_0 hx hb hts inX10_at_X10 hown hK hP (hts _ lkX10_at_f9) dX10_at_22 ?_
        refine lv_iload_n hx hb dX10_at_25 rfl (lv_at hl 1 rfl) ?_
        refine cl_24 hx hb hK hP (by omega) dX10_at_26 (fun w_5 hw_5 => ?_)
        have i_6 := i32r w_5
        refine lv_goto (tgt := 31) hx hb dX10_at_27 (by decide) ?_
        have hpost : True := trivial
        exact W.iret (v := (oI w_5.toInt)) hx hb hr (fun t ht hW => ⟨⟨(oI w_5.toInt), (), rfl, hpost, by rw [ht]; exact hP, va_K.moved hW.alike hK, hD⟩, hS.F ht⟩) hS.2.2 dX10_at_31

set_option maxHeartbeats 4000000 in
set_option maxRecDepth 100000 in
theorem lp_cbr {p : Program} {l : Launch} {e : Env} {s : State} {m : MethodId} {args : Array Value} {below : List Frame} {meth : Method} {c : Code} {A : Nat → Prop} {dC : Nat → ClassId} {dI : Nat → Nat → Nat} {cB cC cI cJ cZ : ClassId} {a : Nat → Nat} {F : Nat → Int32} {X : Nat → Nat → Int32} {J : Nat → Nat → Int64} {R : Nat → Nat} {gf gn : Nat} (hx : p.tables.exec = Jvm.exec) (hb : c.code = cX10_canBeRead) (hml : c.maxLocals = 3) (hown : s.vm.findClass RX10 = some m.cls) (hts : ∀ w ∈ vX10_canBeRead, w.before args s = true) (hK : va_K (dC, dI) vwCl (TY cB cC cI cJ cZ) s) (hNW : NW s) (hA : ∀ q : Nat, s.heap.size ≤ q → A q) (hr : meth.sig.returnType = (some .boolean)) (hlocks : meth.locks = false)    : ∀ (k : Nat) (o : Int) (q : Int), (4000 - q).toNat < k → (-2147483648 ≤ o ∧ o < 2147483648) → (-2147483648 ≤ q ∧ q < 2147483648) → (0 ≤ q ∧ 0 ≤ o ∧ o ≤ 61) → ∀ (H : Heap) (locs : List Loc), va_P (dC, dI) vwCl (CW cB cC cI cJ cZ a F X J R gf gn) H → va_D A (CW cB cC cI cJ cZ a F X J R gf gn) → va_S A s.heap H locs → ∀ (ls : Array Slot), lv_has ls 3 [(0, .ref (a 10)), (1, .int (oI o)), (2, .int (oI q))] → W p l e (headSpec vX10_canBeRead { frames := 1, cells := 0, slots := 0, locals := 60 }).room s m args below meth c H locs 0 0 (MQ below (va_Qi (fun (r : Int32) (_ : Unit) => (r).toInt = 0 ∨ (r).toInt = 1) (fun _ => cPost dC dI cB cC cI cJ cZ a F X J R gf gn A) A) args s 0 0 A) (F0 m 4 ls []) := by
  have hcs : 0 + 0 ≤ (0 : Nat) ∧ 0 + 0 ≤ (0 : Nat) := ⟨Nat.le_refl 0, Nat.le_refl 0⟩
  intro k
  induction k with
  | zero =>
    intro o q hk io9 iq9 hq
    exact absurd hk (Nat.not_lt_zero _)
  | succ k ih =>
    intro o q hk io9 iq9 hq H locs hP hD hS ls hl
    refine lv_iload_n hx hb dX10_canBeRead_4 rfl (lv_at hl 2 rfl) ?_
    refine lv_aload_n hx hb dX10_canBeRead_5 rfl (lv_at hl 0 rfl) ?_
    refine cg_10_1 hx hb hts inX10_canBeRead_X10 hown hK hP (hts _ lkX10_canBeRead_f15) dX10_canBeRead_6 ?_
    have i_1 := i32r (F 24)
    refine ci_ge (tgt := 70) hx hb (by omega) (i32r _) dX10_canBeRead_9 (by decide) (fun c_2 => ?_) (fun c_2 => ?_)
    · refine lv_iload_n hx hb dX10_canBeRead_70 rfl (lv_at hl 1 rfl) ?_
      refine cz_ne (tgt := 78) hx hb (by omega) dX10_canBeRead_71 (by decide) (fun c_3 => ?_) (fun c_3 => ?_)
      · refine lv_iconst (v := oI 0) hx hb dX10_canBeRead_78 (by decide) ?_
        have e0 : (oI 0).toInt = 0 := by decide
        have hpost : (oI 0).toInt = 0 ∨ (oI 0).toInt = 1 := by first | assumption | omega | (with_reducible rfl) | ((repeat' apply And.intro) <;> first | assumption | omega | (with_reducible rfl))
        exact W.zret (v := (oI 0)) hx hb hr (by first | rfl | decide | exact zb9 (by omega)) (fun t ht hW => ⟨⟨(oI 0), (), rfl, hpost, by rw [ht]; exact hP, va_K.moved hW.alike hK, hD⟩, hS.F ht⟩) hS.2.2 dX10_canBeRead_79
      · refine lv_iconst (v := oI 1) hx hb dX10_canBeRead_74 (by decide) ?_
        refine lv_goto (tgt := 79) hx hb dX10_canBeRead_75 (by decide) ?_
        have e0 : (oI 1).toInt = 1 := by decide
        have hpost : (oI 1).toInt = 0 ∨ (oI 1).toInt = 1 := by first | assumption | omega | (with_reducible rfl) | ((repeat' apply And.intro) <;> first | assumption | omega | (with_reducible rfl))
        exact W.zret (v := (oI 1)) hx hb hr (by first | rfl | decide | exact zb9 (by omega)) (fun t ht hW => ⟨⟨(oI 1), (), rfl, hpost, by rw [ht]; exact hP, va_K.moved hW.alike hK, hD⟩, hS.F ht⟩) hS.2.2 dX10_canBeRead_79
    · refine lv_iload_n hx hb dX10_canBeRead_12 rfl (lv_at hl 2 rfl) ?_
      refine lv_aload_n hx hb dX10_canBeRead_13 rfl (lv_at hl 0 rfl) ?_
      refine cg_10_0 hx hb hts inX10_canBeRead_X10 hown hK hP (hts _ lkX10_canBeRead_f9) dX10_canBeRead_14 ?_
      refine cn_24 hx hb hK hP dX10_canBeRead_17 ?_
      refine ci_ge (tgt := 70) hx hb (by omega) (by decide) dX10_canBeRead_18 (by decide) (fun c_4 => ?_) (fun c_4 => ?_)
      · refine lv_iload_n hx hb dX10_canBeRead_70 rfl (lv_at hl 1 rfl) ?_
        refine cz_ne (tgt := 78) hx hb (by omega) dX10_canBeRead_71 (by decide) (fun c_5 => ?_) (fun c_5 => ?_)
        · refine lv_iconst (v := oI 0) hx hb dX10_canBeRead_78 (by decide) ?_
          have e0 : (oI 0).toInt = 0 := by decide
          have hpost : (oI 0).toInt = 0 ∨ (oI 0).toInt = 1 := by first | assumption | omega | (with_reducible rfl) | ((repeat' apply And.intro) <;> first | assumption | omega | (with_reducible rfl))
          exact W.zret (v := (oI 0)) hx hb hr (by first | rfl | decide | exact zb9 (by omega)) (fun t ht hW => ⟨⟨(oI 0), (), rfl, hpost, by rw [ht]; exact hP, va_K.moved hW.alike hK, hD⟩, hS.F ht⟩) hS.2.2 dX10_canBeRead_79
        · refine lv_iconst (v := oI 1) hx hb dX10_canBeRead_74 (by decide) ?_
          refine lv_goto (tgt := 79) hx hb dX10_canBeRead_75 (by decide) ?_
          have e0 : (oI 1).toInt = 1 := by decide
          have hpost : (oI 1).toInt = 0 ∨ (oI 1).toInt = 1 := by first | assumption | omega | (with_reducible rfl) | ((repeat' apply And.intro) <;> first | assumption | omega | (with_reducible rfl))
          exact W.zret (v := (oI 1)) hx hb hr (by first | rfl | decide | exact zb9 (by omega)) (fun t ht hW => ⟨⟨(oI 1), (), rfl, hpost, by rw [ht]; exact hP, va_K.moved hW.alike hK, hD⟩, hS.F ht⟩) hS.2.2 dX10_canBeRead_79
      · refine lv_aload_n hx hb dX10_canBeRead_21 rfl (lv_at hl 0 rfl) ?_
        refine cg_10_0 hx hb hts inX10_canBeRead_X10 hown hK hP (hts _ lkX10_canBeRead_f9) dX10_canBeRead_22 ?_
        refine lv_iload_n hx hb dX10_canBeRead_25 rfl (lv_at hl 2 rfl) ?_
        refine cl_24 hx hb hK hP (by omega) dX10_canBeRead_26 (fun w_6 hw_6 => ?_)
        have i_7 := i32r w_6
        refine lv_bipush (v := oI 40) hx hb dX10_canBeRead_27 (by decide) ?_
        refine ci_ne (tgt := 38) hx hb (i32r _) (by decide) dX10_canBeRead_29 (by decide) (fun c_8 => ?_) (fun c_8 => ?_)
        · refine lv_aload_n hx hb dX10_canBeRead_38 rfl (lv_at hl 0 rfl) ?_
          refine cg_10_0 hx hb hts inX10_canBeRead_X10 hown hK hP (hts _ lkX10_canBeRead_f9) dX10_canBeRead_39 ?_
          refine lv_iload_n hx hb dX10_canBeRead_42 rfl (lv_at hl 2 rfl) ?_
          refine cl_24 hx hb hK hP (by omega) dX10_canBeRead_43 (fun w_9 hw_9 => ?_)
          have i_10 := i32r w_9
          have q_11 : w_9.toInt = w_6.toInt := by rw [hw_9, hw_6]
          refine lv_bipush (v := oI 41) hx hb dX10_canBeRead_44 (by decide) ?_
          refine ci_ne (tgt := 52) hx hb (i32r _) (by decide) dX10_canBeRead_46 (by decide) (fun c_12 => ?_) (fun c_12 => ?_)
          · refine lv_iload_n hx hb dX10_canBeRead_52 rfl (lv_at hl 1 rfl) ?_
            refine cz_lt (tgt := 62) hx hb (by omega) dX10_canBeRead_53 (by decide) (fun c_13 => ?_) (fun c_13 => ?_)
            · refine lv_iconst (v := oI 0) hx hb dX10_canBeRead_62 (by decide) ?_
              have e0 : (oI 0).toInt = 0 := by decide
              have hpost : (oI 0).toInt = 0 ∨ (oI 0).toInt = 1 := by first | assumption | omega | (with_reducible rfl) | ((repeat' apply And.intro) <;> first | assumption | omega | (with_reducible rfl))
              exact W.zret (v := (oI 0)) hx hb hr (by first | rfl | decide | exact zb9 (by omega)) (fun t ht hW => ⟨⟨(oI 0), (), rfl, hpost, by rw [ht]; exact hP, va_K.moved hW.alike hK, hD⟩, hS.F ht⟩) hS.2.2 dX10_canBeRead_63
            · refine lv_iload_n hx hb dX10_canBeRead_56 rfl (lv_at hl 1 rfl) ?_
              refine lv_bipush (v := oI 61) hx hb dX10_canBeRead_57 (by decide) ?_
              refine ci_le (tgt := 64) hx hb (by omega) (by decide) dX10_canBeRead_59 (by decide) (fun c_14 => ?_) (fun c_14 => ?_)
              · refine lv_iinc (v := oI (q + 1)) (lv' := [(2, .int (oI (q + 1))), (0, .ref (a 10)), (1, .int (oI o))]) hx hb dX10_canBeRead_64 hl (k := 2) rfl (oI_add q 1) (by decide) rfl (fun ls hl => ?_)
                refine lv_goto (tgt := 4) hx hb dX10_canBeRead_67 (by decide) ?_
                exact ih o (q + 1) (show (4000 - (q + 1)).toNat < k from by omega) (by omega) (by omega) (show 0 ≤ (q + 1) ∧ 0 ≤ o ∧ o ≤ 61 from by first | assumption | omega | (with_reducible rfl) | ((repeat' apply And.intro) <;> first | assumption | omega | (with_reducible rfl))) _ _ hP hD hS ls (lv_sub hl [1, 2, 0] rfl)
              · refine lv_iconst (v := oI 0) hx hb dX10_canBeRead_62 (by decide) ?_
                have e0 : (oI 0).toInt = 0 := by decide
                have hpost : (oI 0).toInt = 0 ∨ (oI 0).toInt = 1 := by first | assumption | omega | (with_reducible rfl) | ((repeat' apply And.intro) <;> first | assumption | omega | (with_reducible rfl))
                exact W.zret (v := (oI 0)) hx hb hr (by first | rfl | decide | exact zb9 (by omega)) (fun t ht hW => ⟨⟨(oI 0), (), rfl, hpost, by rw [ht]; exact hP, va_K.moved hW.alike hK, hD⟩, hS.F ht⟩) hS.2.2 dX10_canBeRead_63
          · refine lv_iinc (v := oI (o + (-1))) (lv' := [(1, .int (oI (o + (-1)))), (0, .ref (a 10)), (2, .int (oI q))]) hx hb dX10_canBeRead_49 hl (k := 1) rfl (oI_add o (-1)) (by decide) rfl (fun ls hl => ?_)
            refine lv_iload_n hx hb dX10_canBeRead_52 rfl (lv_at hl 0 rfl) ?_
            refine cz_lt (tgt := 62) hx hb (by omega) dX10_canBeRead_53 (by decide) (fun c_15 => ?_) (fun c_15 => ?_)
            · refine lv_iconst (v := oI 0) hx hb dX10_canBeRead_62 (by decide) ?_
              have e0 : (oI 0).toInt = 0 := by decide
              have hpost : (oI 0).toInt = 0 ∨ (oI 0).toInt = 1 := by first | assumption | omega | (with_reducible rfl) | ((repeat' apply And.intro) <;> first | assumption | omega | (with_reducible rfl))
              exact W.zret (v := (oI 0)) hx hb hr (by first | rfl | decide | exact zb9 (by omega)) (fun t ht hW => ⟨⟨(oI 0), (), rfl, hpost, by rw [ht]; exact hP, va_K.moved hW.alike hK, hD⟩, hS.F ht⟩) hS.2.2 dX10_canBeRead_63
            · refine lv_iload_n hx hb dX10_canBeRead_56 rfl (lv_at hl 0 rfl) ?_
              refine lv_bipush (v := oI 61) hx hb dX10_canBeRead_57 (by decide) ?_
              refine ci_le (tgt := 64) hx hb (by omega) (by decide) dX10_canBeRead_59 (by decide) (fun c_16 => ?_) (fun c_16 => ?_)
              · refine lv_iinc (v := oI (q + 1)) (lv' := [(2, .int (oI (q + 1))), (1, .int (oI (o + (-1)))), (0, .ref (a 10))]) hx hb dX10_canBeRead_64 hl (k := 2) rfl (oI_add q 1) (by decide) rfl (fun ls hl => ?_)
                refine lv_goto (tgt := 4) hx hb dX10_canBeRead_67 (by decide) ?_
                exact ih (o + (-1)) (q + 1) (show (4000 - (q + 1)).toNat < k from by omega) (by omega) (by omega) (show 0 ≤ (q + 1) ∧ 0 ≤ (o + (-1)) ∧ (o + (-1)) ≤ 61 from by first | assumption | omega | (with_reducible rfl) | ((repeat' apply And.intro) <;> first | assumption | omega | (with_reducible rfl))) _ _ hP hD hS ls (lv_sub hl [2, 1, 0] rfl)
              · refine lv_iconst (v := oI 0) hx hb dX10_canBeRead_62 (by decide) ?_
                have e0 : (oI 0).toInt = 0 := by decide
                have hpost : (oI 0).toInt = 0 ∨ (oI 0).toInt = 1 := by first | assumption | omega | (with_reducible rfl) | ((repeat' apply And.intro) <;> first | assumption | omega | (with_reducible rfl))
                exact W.zret (v := (oI 0)) hx hb hr (by first | rfl | decide | exact zb9 (by omega)) (fun t ht hW => ⟨⟨(oI 0), (), rfl, hpost, by rw [ht]; exact hP, va_K.moved hW.alike hK, hD⟩, hS.F ht⟩) hS.2.2 dX10_canBeRead_63
        · refine lv_iinc (v := oI (o + 1)) (lv' := [(1, .int (oI (o + 1))), (0, .ref (a 10)), (2, .int (oI q))]) hx hb dX10_canBeRead_32 hl (k := 1) rfl (oI_add o 1) (by decide) rfl (fun ls hl => ?_)
          refine lv_goto (tgt := 52) hx hb dX10_canBeRead_35 (by decide) ?_
          refine lv_iload_n hx hb dX10_canBeRead_52 rfl (lv_at hl 0 rfl) ?_
          refine cz_lt (tgt := 62) hx hb (by omega) dX10_canBeRead_53 (by decide) (fun c_17 => ?_) (fun c_17 => ?_)
          · refine lv_iconst (v := oI 0) hx hb dX10_canBeRead_62 (by decide) ?_
            have e0 : (oI 0).toInt = 0 := by decide
            have hpost : (oI 0).toInt = 0 ∨ (oI 0).toInt = 1 := by first | assumption | omega | (with_reducible rfl) | ((repeat' apply And.intro) <;> first | assumption | omega | (with_reducible rfl))
            exact W.zret (v := (oI 0)) hx hb hr (by first | rfl | decide | exact zb9 (by omega)) (fun t ht hW => ⟨⟨(oI 0), (), rfl, hpost, by rw [ht]; exact hP, va_K.moved hW.alike hK, hD⟩, hS.F ht⟩) hS.2.2 dX10_canBeRead_63
          · refine lv_iload_n hx hb dX10_canBeRead_56 rfl (lv_at hl 0 rfl) ?_
            refine lv_bipush (v := oI 61) hx hb dX10_canBeRead_57 (by decide) ?_
            refine ci_le (tgt := 64) hx hb (by omega) (by decide) dX10_canBeRead_59 (by decide) (fun c_18 => ?_) (fun c_18 => ?_)
            · refine lv_iinc (v := oI (q + 1)) (lv' := [(2, .int (oI (q + 1))), (1, .int (oI (o + 1))), (0, .ref (a 10))]) hx hb dX10_canBeRead_64 hl (k := 2) rfl (oI_add q 1) (by decide) rfl (fun ls hl => ?_)
              refine lv_goto (tgt := 4) hx hb dX10_canBeRead_67 (by decide) ?_
              exact ih (o + 1) (q + 1) (show (4000 - (q + 1)).toNat < k from by omega) (by omega) (by omega) (show 0 ≤ (q + 1) ∧ 0 ≤ (o + 1) ∧ (o + 1) ≤ 61 from by first | assumption | omega | (with_reducible rfl) | ((repeat' apply And.intro) <;> first | assumption | omega | (with_reducible rfl))) _ _ hP hD hS ls (lv_sub hl [2, 1, 0] rfl)
            · refine lv_iconst (v := oI 0) hx hb dX10_canBeRead_62 (by decide) ?_
              have e0 : (oI 0).toInt = 0 := by decide
              have hpost : (oI 0).toInt = 0 ∨ (oI 0).toInt = 1 := by first | assumption | omega | (with_reducible rfl) | ((repeat' apply And.intro) <;> first | assumption | omega | (with_reducible rfl))
              exact W.zret (v := (oI 0)) hx hb hr (by first | rfl | decide | exact zb9 (by omega)) (fun t ht hW => ⟨⟨(oI 0), (), rfl, hpost, by rw [ht]; exact hP, va_K.moved hW.alike hK, hD⟩, hS.F ht⟩) hS.2.2 dX10_canBeRead_63

set_option maxHeartbeats 4000000 in
set_option maxRecDepth 100000 in
/-- X10_canBeRead -/
theorem c_canBeRead (l : Launch) (dC : Nat → ClassId) (dI : Nat → Nat → Nat) (cB cC cI cJ cZ : ClassId) (a : Nat → Nat) (F : Nat → Int32) (X : Nat → Nat → Int32) (J : Nat → Nat → Int64) (R : Nat → Nat) (gf gn : Nat)  (s0 : Nat) : Met l yX10_canBeRead vX10_canBeRead { frames := 1, cells := 0, slots := 0, locals := 60 } (va_Pc [.ref (a 10)] (cPre dC dI cB cC cI cJ cZ a F X J R gf gn s0)) (va_Qi (fun (r : Int32) (_ : Unit) => (r).toInt = 0 ∨ (r).toInt = 1) (fun _ => cPost dC dI cB cC cI cJ cZ a F X J R gf gn (va_A (CW cB cC cI cJ cZ a F X J R gf gn) s0)) (va_A (CW cB cC cI cJ cZ a F X J R gf gn) s0)) 0 0 (va_A (CW cB cC cI cJ cZ a F X J R gf gn) s0) := by
  refine Met.ofW (cc := cX10_canBeRead) (maxL := 3) (ret := (some .boolean)) (by decide) rfl ?_
  intro p e s m args below meth c s₁ B9 hml hv
  obtain ⟨rfl, hsz0, hP, hK, hD0, hNW⟩ := hv
  have hx := B9.exec
  have hb := B9.bytes
  have hr := B9.returns
  have hts := atoms_spec (ws := vX10_canBeRead) B9.pre
  have hown : s.vm.findClass RX10 = some m.cls := findClass_of_methodNamed B9.named
  have hlocks := B9.notSynchronized
  clear B9
  subst hsz0
  have hD := hD0.self (sz := s.heap.size)
  generalize hAe : va_A (CW cB cC cI cJ cZ a F X J R gf gn) s.heap.size = A at hD ⊢
  have hA : ∀ q : Nat, s.heap.size ≤ q → A q := fun q h => by rw [← hAe]; exact Or.inr h
  have hS : va_S A s.heap s.heap [] := va_S.rf
  have hcs : 0 + 0 ≤ (0 : Nat) ∧ 0 + 0 ≤ (0 : Nat) := ⟨Nat.le_refl 0, Nat.le_refl 0⟩
  have hl := lv_entry ([.ref (a 10)]) (n := 3) (Nat.le_of_ble_eq_true rfl)
  rw [lg_entry_eq]
  generalize (lg_sl ([.ref (a 10)]) ++ List.replicate (3 - (lg_sl ([.ref (a 10)])).length) Slot.unset).toArray = ls at hl ⊢
  have hl : lv_has ls 3 [(0, .ref (a 10))] := hl
  refine lv_iconst (v := oI 0) hx hb dX10_canBeRead_0 (by decide) ?_
  refine lv_istore_n (lv' := [(1, .int (oI 0)), (0, .ref (a 10))]) hx hb dX10_canBeRead_1 rfl hl (by decide) rfl (fun ls hl => ?_)
  refine lv_iconst (v := oI 0) hx hb dX10_canBeRead_2 (by decide) ?_
  refine lv_istore_n (lv' := [(2, .int (oI 0)), (1, .int (oI 0)), (0, .ref (a 10))]) hx hb dX10_canBeRead_3 rfl hl (by decide) rfl (fun ls hl => ?_)
  exact lp_cbr hx hb hml hown hts hK hNW hA hr hlocks   _ 0 0 (Nat.lt_succ_self _) (by decide) (by decide) (show 0 ≤ 0 ∧ 0 ≤ 0 ∧ 0 ≤ 61 from by first | assumption | omega | (with_reducible rfl) | ((repeat' apply And.intro) <;> first | assumption | omega | (with_reducible rfl))) _ _ hP hD hS ls (lv_sub hl [2, 1, 0] rfl)
