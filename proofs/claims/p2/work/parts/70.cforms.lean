def oX1_startText : List Cond := [Cond.fieldLink RX1 18 "MacroScopes$Forms" "top" "I"]
def vX1_startText : List Cond := .code yX1_startText cX1_startText 1 none :: (oX1_startText ++ (wsX10))
theorem lkX1_startText_f18 : Cond.fieldLink RX1 18 "MacroScopes$Forms" "top" "I" ∈ vX1_startText := List.mem_cons_of_mem _ (List.mem_append_left _ (List.mem_of_getElem? (i := 0) rfl))
theorem inX1_startText_X1 : ∀ w ∈ wsX10, w ∈ vX1_startText := fun w h => List.mem_cons_of_mem _ (List.mem_append_right _ (h))
def oX1_add : List Cond := [Cond.fieldLink RX1 18 "MacroScopes$Forms" "top" "I", Cond.fieldLink RX1 11 "MacroScopes$Forms" "what" "[I", Cond.fieldLink RX1 15 "MacroScopes$Forms" "span" "[I"]
def vX1_add : List Cond := .code yX1_add cX1_add 2 (some .int) :: (oX1_add ++ (wsX10))
theorem lkX1_add_f18 : Cond.fieldLink RX1 18 "MacroScopes$Forms" "top" "I" ∈ vX1_add := List.mem_cons_of_mem _ (List.mem_append_left _ (List.mem_of_getElem? (i := 0) rfl))
theorem lkX1_add_f11 : Cond.fieldLink RX1 11 "MacroScopes$Forms" "what" "[I" ∈ vX1_add := List.mem_cons_of_mem _ (List.mem_append_left _ (List.mem_of_getElem? (i := 1) rfl))
theorem lkX1_add_f15 : Cond.fieldLink RX1 15 "MacroScopes$Forms" "span" "[I" ∈ vX1_add := List.mem_cons_of_mem _ (List.mem_append_left _ (List.mem_of_getElem? (i := 2) rfl))
theorem inX1_add_X1 : ∀ w ∈ wsX10, w ∈ vX1_add := fun w h => List.mem_cons_of_mem _ (List.mem_append_right _ (h))
def oX1_ofNumber : List Cond := []
def vX1_ofNumber : List Cond := .code yX1_ofNumber cX1_ofNumber 1 (some .int) :: (oX1_ofNumber)
def oX1_ofName : List Cond := []
def vX1_ofName : List Cond := .code yX1_ofName cX1_ofName 1 (some .int) :: (oX1_ofName)
def oX1_endList : List Cond := [Cond.fieldLink RX1 18 "MacroScopes$Forms" "top" "I", Cond.fieldLink RX1 15 "MacroScopes$Forms" "span" "[I"]
def vX1_endList : List Cond := .code yX1_endList cX1_endList 2 none :: (oX1_endList ++ (wsX10))
theorem lkX1_endList_f18 : Cond.fieldLink RX1 18 "MacroScopes$Forms" "top" "I" ∈ vX1_endList := List.mem_cons_of_mem _ (List.mem_append_left _ (List.mem_of_getElem? (i := 0) rfl))
theorem lkX1_endList_f15 : Cond.fieldLink RX1 15 "MacroScopes$Forms" "span" "[I" ∈ vX1_endList := List.mem_cons_of_mem _ (List.mem_append_left _ (List.mem_of_getElem? (i := 1) rfl))
theorem inX1_endList_X1 : ∀ w ∈ wsX10, w ∈ vX1_endList := fun w h => List.mem_cons_of_mem _ (List.mem_append_right _ (h))
def oX1_whatIs : List Cond := [Cond.fieldLink RX1 11 "MacroScopes$Forms" "what" "[I"]
def vX1_whatIs : List Cond := .code yX1_whatIs cX1_whatIs 2 (some .int) :: (oX1_whatIs ++ (wsX10))
theorem lkX1_whatIs_f11 : Cond.fieldLink RX1 11 "MacroScopes$Forms" "what" "[I" ∈ vX1_whatIs := List.mem_cons_of_mem _ (List.mem_append_left _ (List.mem_of_getElem? (i := 0) rfl))
theorem inX1_whatIs_X1 : ∀ w ∈ wsX10, w ∈ vX1_whatIs := fun w h => List.mem_cons_of_mem _ (List.mem_append_right _ (h))
def oX1_isList : List Cond := [Cond.fieldLink RX1 11 "MacroScopes$Forms" "what" "[I"]
def vX1_isList : List Cond := .code yX1_isList cX1_isList 2 (some .boolean) :: (oX1_isList ++ (wsX10))
theorem lkX1_isList_f11 : Cond.fieldLink RX1 11 "MacroScopes$Forms" "what" "[I" ∈ vX1_isList := List.mem_cons_of_mem _ (List.mem_append_left _ (List.mem_of_getElem? (i := 0) rfl))
theorem inX1_isList_X1 : ∀ w ∈ wsX10, w ∈ vX1_isList := fun w h => List.mem_cons_of_mem _ (List.mem_append_right _ (h))
def oX1_nameOf : List Cond := [Cond.fieldLink RX1 11 "MacroScopes$Forms" "what" "[I"]
def vX1_nameOf : List Cond := .code yX1_nameOf cX1_nameOf 3 (some .int) :: (oX1_nameOf ++ (wsX10))
theorem lkX1_nameOf_f11 : Cond.fieldLink RX1 11 "MacroScopes$Forms" "what" "[I" ∈ vX1_nameOf := List.mem_cons_of_mem _ (List.mem_append_left _ (List.mem_of_getElem? (i := 0) rfl))
theorem inX1_nameOf_X1 : ∀ w ∈ wsX10, w ∈ vX1_nameOf := fun w h => List.mem_cons_of_mem _ (List.mem_append_right _ (h))
def oX1_numberOf : List Cond := [Cond.methodLink RX1 32 yX1_whatIs, Cond.instanceMethod yX1_whatIs, Cond.selects RX1 yX1_whatIs yX1_whatIs, Cond.initialized RX1]
def vX1_numberOf : List Cond := .code yX1_numberOf cX1_numberOf 2 (some .int) :: (oX1_numberOf ++ (vX1_whatIs))
theorem kX1_numberOf_X1_whatIs_32 : GoodIn vX1_numberOf (wsV RX1 32 RX1 yX1_whatIs vX1_whatIs) := goodIn_sub (fun w h => (List.mem_append.mp h).elim (fun h => List.mem_cons_of_mem _ (List.mem_append_left _ ((by decide +kernel : ∀ w ∈ ([.methodLink RX1 32 yX1_whatIs, .instanceMethod yX1_whatIs, .selects RX1 yX1_whatIs yX1_whatIs, .initialized RX1] : List Cond), w ∈ oX1_numberOf) w h))) (fun h => List.mem_cons_of_mem _ (List.mem_append_right _ (h)))) (by decide +kernel)
def oX1_size : List Cond := [Cond.fieldLink RX1 15 "MacroScopes$Forms" "span" "[I"]
def vX1_size : List Cond := .code yX1_size cX1_size 2 (some .int) :: (oX1_size ++ (wsX10))
theorem lkX1_size_f15 : Cond.fieldLink RX1 15 "MacroScopes$Forms" "span" "[I" ∈ vX1_size := List.mem_cons_of_mem _ (List.mem_append_left _ (List.mem_of_getElem? (i := 0) rfl))
theorem inX1_size_X1 : ∀ w ∈ wsX10, w ∈ vX1_size := fun w h => List.mem_cons_of_mem _ (List.mem_append_right _ (h))
def oX1_after : List Cond := [Cond.fieldLink RX1 15 "MacroScopes$Forms" "span" "[I"]
def vX1_after : List Cond := .code yX1_after cX1_after 2 (some .int) :: (oX1_after ++ (wsX10))
theorem lkX1_after_f15 : Cond.fieldLink RX1 15 "MacroScopes$Forms" "span" "[I" ∈ vX1_after := List.mem_cons_of_mem _ (List.mem_append_left _ (List.mem_of_getElem? (i := 0) rfl))
theorem inX1_after_X1 : ∀ w ∈ wsX10, w ∈ vX1_after := fun w h => List.mem_cons_of_mem _ (List.mem_append_right _ (h))
def oX1_head : List Cond := [Cond.methodLink RX1 36 yX1_isList, Cond.instanceMethod yX1_isList, Cond.selects RX1 yX1_isList yX1_isList, Cond.initialized RX1, Cond.methodLink RX1 40 yX1_size, Cond.instanceMethod yX1_size, Cond.selects RX1 yX1_size yX1_size, Cond.methodLink RX1 43 yX1_nameOf, Cond.instanceMethod yX1_nameOf, Cond.selects RX1 yX1_nameOf yX1_nameOf]
def vX1_head : List Cond := .code yX1_head cX1_head 2 (some .int) :: (oX1_head ++ (vX1_isList ++ (vX1_size ++ (vX1_nameOf))))
theorem kX1_head_X1_isList_36 : GoodIn vX1_head (wsV RX1 36 RX1 yX1_isList vX1_isList) := goodIn_sub (fun w h => (List.mem_append.mp h).elim (fun h => List.mem_cons_of_mem _ (List.mem_append_left _ ((by decide +kernel : ∀ w ∈ ([.methodLink RX1 36 yX1_isList, .instanceMethod yX1_isList, .selects RX1 yX1_isList yX1_isList, .initialized RX1] : List Cond), w ∈ oX1_head) w h))) (fun h => List.mem_cons_of_mem _ (List.mem_append_right _ (List.mem_append_left _ (h))))) (by decide +kernel)
theorem kX1_head_X1_size_40 : GoodIn vX1_head (wsV RX1 40 RX1 yX1_size vX1_size) := goodIn_sub (fun w h => (List.mem_append.mp h).elim (fun h => List.mem_cons_of_mem _ (List.mem_append_left _ ((by decide +kernel : ∀ w ∈ ([.methodLink RX1 40 yX1_size, .instanceMethod yX1_size, .selects RX1 yX1_size yX1_size, .initialized RX1] : List Cond), w ∈ oX1_head) w h))) (fun h => List.mem_cons_of_mem _ (List.mem_append_right _ (List.mem_append_right _ (List.mem_append_left _ (h)))))) (by decide +kernel)
theorem kX1_head_X1_nameOf_43 : GoodIn vX1_head (wsV RX1 43 RX1 yX1_nameOf vX1_nameOf) := goodIn_sub (fun w h => (List.mem_append.mp h).elim (fun h => List.mem_cons_of_mem _ (List.mem_append_left _ ((by decide +kernel : ∀ w ∈ ([.methodLink RX1 43 yX1_nameOf, .instanceMethod yX1_nameOf, .selects RX1 yX1_nameOf yX1_nameOf, .initialized RX1] : List Cond), w ∈ oX1_head) w h))) (fun h => List.mem_cons_of_mem _ (List.mem_append_right _ (List.mem_append_right _ (List.mem_append_right _ (h)))))) (by decide +kernel)
def oX1_parts : List Cond := [Cond.methodLink RX1 46 yX1_after, Cond.instanceMethod yX1_after, Cond.selects RX1 yX1_after yX1_after, Cond.initialized RX1, Cond.methodLink RX1 36 yX1_isList, Cond.instanceMethod yX1_isList, Cond.selects RX1 yX1_isList yX1_isList]
def vX1_parts : List Cond := .code yX1_parts cX1_parts 4 (some .int) :: (oX1_parts ++ (vX1_after ++ (vX1_isList)))
theorem kX1_parts_X1_after_46 : GoodIn vX1_parts (wsV RX1 46 RX1 yX1_after vX1_after) := goodIn_sub (fun w h => (List.mem_append.mp h).elim (fun h => List.mem_cons_of_mem _ (List.mem_append_left _ ((by decide +kernel : ∀ w ∈ ([.methodLink RX1 46 yX1_after, .instanceMethod yX1_after, .selects RX1 yX1_after yX1_after, .initialized RX1] : List Cond), w ∈ oX1_parts) w h))) (fun h => List.mem_cons_of_mem _ (List.mem_append_right _ (List.mem_append_left _ (h))))) (by decide +kernel)
theorem kX1_parts_X1_isList_36 : GoodIn vX1_parts (wsV RX1 36 RX1 yX1_isList vX1_isList) := goodIn_sub (fun w h => (List.mem_append.mp h).elim (fun h => List.mem_cons_of_mem _ (List.mem_append_left _ ((by decide +kernel : ∀ w ∈ ([.methodLink RX1 36 yX1_isList, .instanceMethod yX1_isList, .selects RX1 yX1_isList yX1_isList, .initialized RX1] : List Cond), w ∈ oX1_parts) w h))) (fun h => List.mem_cons_of_mem _ (List.mem_append_right _ (List.mem_append_right _ (h))))) (by decide +kernel)
def oX1_part : List Cond := [Cond.methodLink RX1 46 yX1_after, Cond.instanceMethod yX1_after, Cond.selects RX1 yX1_after yX1_after, Cond.initialized RX1]
def vX1_part : List Cond := .code yX1_part cX1_part 5 (some .int) :: (oX1_part ++ (vX1_after))
theorem kX1_part_X1_after_46 : GoodIn vX1_part (wsV RX1 46 RX1 yX1_after vX1_after) := goodIn_sub (fun w h => (List.mem_append.mp h).elim (fun h => List.mem_cons_of_mem _ (List.mem_append_left _ ((by decide +kernel : ∀ w ∈ ([.methodLink RX1 46 yX1_after, .instanceMethod yX1_after, .selects RX1 yX1_after yX1_after, .initialized RX1] : List Cond), w ∈ oX1_part) w h))) (fun h => List.mem_cons_of_mem _ (List.mem_append_right _ (h)))) (by decide +kernel)
def oX1_holdsDots : List Cond := [Cond.methodLink RX1 46 yX1_after, Cond.instanceMethod yX1_after, Cond.selects RX1 yX1_after yX1_after, Cond.initialized RX1, Cond.methodLink RX1 43 yX1_nameOf, Cond.instanceMethod yX1_nameOf, Cond.selects RX1 yX1_nameOf yX1_nameOf]
def vX1_holdsDots : List Cond := .code yX1_holdsDots cX1_holdsDots 3 (some .boolean) :: (oX1_holdsDots ++ (vX1_after ++ (vX1_nameOf)))
theorem kX1_holdsDots_X1_after_46 : GoodIn vX1_holdsDots (wsV RX1 46 RX1 yX1_after vX1_after) := goodIn_sub (fun w h => (List.mem_append.mp h).elim (fun h => List.mem_cons_of_mem _ (List.mem_append_left _ ((by decide +kernel : ∀ w ∈ ([.methodLink RX1 46 yX1_after, .instanceMethod yX1_after, .selects RX1 yX1_after yX1_after, .initialized RX1] : List Cond), w ∈ oX1_holdsDots) w h))) (fun h => List.mem_cons_of_mem _ (List.mem_append_right _ (List.mem_append_left _ (h))))) (by decide +kernel)
theorem kX1_holdsDots_X1_nameOf_43 : GoodIn vX1_holdsDots (wsV RX1 43 RX1 yX1_nameOf vX1_nameOf) := goodIn_sub (fun w h => (List.mem_append.mp h).elim (fun h => List.mem_cons_of_mem _ (List.mem_append_left _ ((by decide +kernel : ∀ w ∈ ([.methodLink RX1 43 yX1_nameOf, .instanceMethod yX1_nameOf, .selects RX1 yX1_nameOf yX1_nameOf, .initialized RX1] : List Cond), w ∈ oX1_holdsDots) w h))) (fun h => List.mem_cons_of_mem _ (List.mem_append_right _ (List.mem_append_right _ (h))))) (by decide +kernel)
def oX1_isRepeated : List Cond := [Cond.methodLink RX1 46 yX1_after, Cond.instanceMethod yX1_after, Cond.selects RX1 yX1_after yX1_after, Cond.initialized RX1, Cond.methodLink RX1 43 yX1_nameOf, Cond.instanceMethod yX1_nameOf, Cond.selects RX1 yX1_nameOf yX1_nameOf]
def vX1_isRepeated : List Cond := .code yX1_isRepeated cX1_isRepeated 3 (some .boolean) :: (oX1_isRepeated ++ (vX1_after ++ (vX1_nameOf)))
theorem kX1_isRepeated_X1_after_46 : GoodIn vX1_isRepeated (wsV RX1 46 RX1 yX1_after vX1_after) := goodIn_sub (fun w h => (List.mem_append.mp h).elim (fun h => List.mem_cons_of_mem _ (List.mem_append_left _ ((by decide +kernel : ∀ w ∈ ([.methodLink RX1 46 yX1_after, .instanceMethod yX1_after, .selects RX1 yX1_after yX1_after, .initialized RX1] : List Cond), w ∈ oX1_isRepeated) w h))) (fun h => List.mem_cons_of_mem _ (List.mem_append_right _ (List.mem_append_left _ (h))))) (by decide +kernel)
theorem kX1_isRepeated_X1_nameOf_43 : GoodIn vX1_isRepeated (wsV RX1 43 RX1 yX1_nameOf vX1_nameOf) := goodIn_sub (fun w h => (List.mem_append.mp h).elim (fun h => List.mem_cons_of_mem _ (List.mem_append_left _ ((by decide +kernel : ∀ w ∈ ([.methodLink RX1 43 yX1_nameOf, .instanceMethod yX1_nameOf, .selects RX1 yX1_nameOf yX1_nameOf, .initialized RX1] : List Cond), w ∈ oX1_isRepeated) w h))) (fun h => List.mem_cons_of_mem _ (List.mem_append_right _ (List.mem_append_right _ (h))))) (by decide +kernel)
set_option maxHeartbeats 4000000 in
set_option maxRecDepth 100000 in
/-- X1_startText -/
theorem c_startF (l : Launch) (dC : Nat → ClassId) (dI : Nat → Nat → Nat) (cB cC cI cJ cZ : ClassId) (a : Nat → Nat) (F : Nat → Int32) (X : Nat → Nat → Int32) (J : Nat → Nat → Int64) (R : Nat → Nat) (gf gn : Nat)  (s0 : Nat) : Met l yX1_startText vX1_startText { frames := 1, cells := 0, slots := 0, locals := 60 } (va_Pc [.ref (a 1)] (cPre dC dI cB cC cI cJ cZ a F X J R gf gn s0)) (va_Qv (fun (u : (Nat → Int32) × (Nat → Nat → Int32)) => match u with | (F1, X1) => (F1 12).toInt = 4000) (fun u => cPost dC dI cB cC cI cJ cZ a (rg 12 12 F u.1) X J R gf gn (va_A (CW cB cC cI cJ cZ a F X J R gf gn) s0)) (va_A (CW cB cC cI cJ cZ a F X J R gf gn) s0)) 0 0 (va_A (CW cB cC cI cJ cZ a F X J R gf gn) s0) := by
  refine Met.ofW (cc := cX1_startText) (maxL := 1) (ret := none) (by decide) rfl ?_
  intro p e s m args below meth c s₁ B9 hml hv
  obtain ⟨rfl, hsz0, hP, hK, hD0, hNW⟩ := hv
  have hx := B9.exec
  have hb := B9.bytes
  have hr := B9.returns
  have hts := atoms_spec (ws := vX1_startText) B9.pre
  have hown : s.vm.findClass RX1 = some m.cls := findClass_of_methodNamed B9.named
  have hlocks := B9.notSynchronized
  clear B9
  subst hsz0
  have hD := hD0.self (sz := s.heap.size)
  generalize hAe : va_A (CW cB cC cI cJ cZ a F X J R gf gn) s.heap.size = A at hD ⊢
  have hA : ∀ q : Nat, s.heap.size ≤ q → A q := fun q h => by rw [← hAe]; exact Or.inr h
  have hS : va_S A s.heap s.heap [] := va_S.rf
  have hcs : 0 + 0 ≤ (0 : Nat) ∧ 0 + 0 ≤ (0 : Nat) := ⟨Nat.le_refl 0, Nat.le_refl 0⟩
  have hl := lv_entry ([.ref (a 1)]) (n := 1) (Nat.le_of_ble_eq_true rfl)
  rw [lg_entry_eq]
  generalize (lg_sl ([.ref (a 1)]) ++ List.replicate (1 - (lg_sl ([.ref (a 1)])).length) Slot.unset).toArray = ls at hl ⊢
  have hl : lv_has ls 1 [(0, .ref (a 1))] := hl
  refine lv_aload_n hx hb dX1_startText_0 rfl (lv_at hl 0 rfl) ?_
  refine lv_sipush (v := oI 4000) hx hb dX1_startText_1 (by decide) ?_
  refine cp_1_2 hx hb hts inX1_startText_X1 hown hK hP hD hS (hts _ lkX1_startText_f18) dX1_startText_4 (fun H locs hP hD hS => ?_)
  have hP : va_P (dC, dI) vwCl (CW cB cC cI cJ cZ a (va_up F 12 (oI 4000)) X J R gf gn) H := hP
  have hD : va_D A (CW cB cC cI cJ cZ a (va_up F 12 (oI 4000)) X J R gf gn) := hD
  have e_1 : (oI 4000).toInt = 4000 := by decide
  have eF9 : rg 12 12 F (va_up F 12 (oI 4000)) = va_up F 12 (oI 4000) := by funext k; simp only [rg, va_up]; (repeat' split) <;> first | with_reducible rfl | omega
  have hP9 : va_P (dC, dI) vwCl (CW cB cC cI cJ cZ a (rg 12 12 F (va_up F 12 (oI 4000))) X J R gf gn) H := by rw [eF9]; exact hP
  have hD9 : va_D A (CW cB cC cI cJ cZ a (rg 12 12 F (va_up F 12 (oI 4000))) X J R gf gn) := by rw [eF9]; exact hD
  have hpost : (oI 4000).toInt = 4000 := by first | assumption | omega | (with_reducible rfl) | ((repeat' apply And.intro) <;> first | assumption | omega | (with_reducible rfl))
  exact W.vret hx hb hr (fun t ht hW => ⟨⟨(va_up F 12 (oI 4000), X), rfl, hpost, by rw [ht]; exact hP9, va_K.moved hW.alike hK, hD9⟩, hS.F ht⟩) hS.2.2 dX1_startText_7

set_option maxHeartbeats 4000000 in
set_option maxRecDepth 100000 in
/-- X1_add -/
theorem c_addF (l : Launch) (dC : Nat → ClassId) (dI : Nat → Nat → Nat) (cB cC cI cJ cZ : ClassId) (a : Nat → Nat) (F : Nat → Int32) (X : Nat → Nat → Int32) (J : Nat → Nat → Int64) (R : Nat → Nat) (gf gn : Nat) (x : Int)  (ix : (-2147483648 ≤ x ∧ x < 2147483648)) (hgf : gf ≤ 67600) (s0 : Nat) : Met l yX1_add vX1_add { frames := 1, cells := 0, slots := 0, locals := 60 } (va_Pc [.ref (a 1), .int (oI x)] (cPre dC dI cB cC cI cJ cZ a F X J R gf gn s0)) (va_Qi (fun (r : Int32) (u : (Nat → Int32) × (Nat → Nat → Int32)) => match u with | (F1, X1) => ((0 ≤ (F 12).toInt ∧ (F 12).toInt < (gf : Int)) ∧ (r).toInt = (F 12).toInt ∧ (F1 12).toInt = (F 12).toInt + 1 ∧ X1 1 = upd (X 1) (F 12).toInt.toNat (oI 1)) ∨ (¬ (0 ≤ (F 12).toInt ∧ (F 12).toInt < (gf : Int)) ∧ (r).toInt = -1 ∧ (F1 12).toInt = (F 12).toInt ∧ X1 1 = (X 1))) (fun u => cPost dC dI cB cC cI cJ cZ a (rg 12 12 F u.1) (rg 0 1 X u.2) J R gf gn (va_A (CW cB cC cI cJ cZ a F X J R gf gn) s0)) (va_A (CW cB cC cI cJ cZ a F X J R gf gn) s0)) 0 0 (va_A (CW cB cC cI cJ cZ a F X J R gf gn) s0) := by
  refine Met.ofW (cc := cX1_add) (maxL := 2) (ret := (some .int)) (by decide) rfl ?_
  intro p e s m args below meth c s₁ B9 hml hv
  obtain ⟨rfl, hsz0, hP, hK, hD0, hNW⟩ := hv
  have hx := B9.exec
  have hb := B9.bytes
  have hr := B9.returns
  have hts := atoms_spec (ws := vX1_add) B9.pre
  have hown : s.vm.findClass RX1 = some m.cls := findClass_of_methodNamed B9.named
  have hlocks := B9.notSynchronized
  clear B9
  subst hsz0
  have hD := hD0.self (sz := s.heap.size)
  generalize hAe : va_A (CW cB cC cI cJ cZ a F X J R gf gn) s.heap.size = A at hD ⊢
  have hA : ∀ q : Nat, s.heap.size ≤ q → A q := fun q h => by rw [← hAe]; exact Or.inr h
  have hS : va_S A s.heap s.heap [] := va_S.rf
  have hcs : 0 + 0 ≤ (0 : Nat) ∧ 0 + 0 ≤ (0 : Nat) := ⟨Nat.le_refl 0, Nat.le_refl 0⟩
  have hl := lv_entry ([.ref (a 1), .int (oI x)]) (n := 2) (Nat.le_of_ble_eq_true rfl)
  rw [lg_entry_eq]
  generalize (lg_sl ([.ref (a 1), .int (oI x)]) ++ List.replicate (2 - (lg_sl ([.ref (a 1), .int (oI x)])).length) Slot.unset).toArray = ls at hl ⊢
  have hl : lv_has ls 2 [(0, .ref (a 1)), (1, .int (oI x))] := hl
  refine lv_aload_n hx hb dX1_add_0 rfl (lv_at hl 0 rfl) ?_
  refine cg_1_2 hx hb hts inX1_add_X1 hown hK hP (hts _ lkX1_add_f18) dX1_add_1 ?_
  have i_1 := i32r (F 12)
  refine cz_lt (tgt := 19) hx hb (i32r _) dX1_add_4 (by decide) (fun c_2 => ?_) (fun c_2 => ?_)
  · refine lv_iconst (v := oI (-1)) hx hb dX1_add_19 (by decide) ?_
    have e0 : (oI ((-1))).toInt = (-1) := by decide
    have eF9 : rg 12 12 F F = F := by funext k; simp only [rg, va_up]; (repeat' split) <;> first | with_reducible rfl | omega
    have eX9 : rg 0 1 X X = X := by funext k; simp only [rg, va_up]; (repeat' split) <;> first | with_reducible rfl | omega
    have hP9 : va_P (dC, dI) vwCl (CW cB cC cI cJ cZ a (rg 12 12 F F) (rg 0 1 X X) J R gf gn) s.heap := by rw [eF9, eX9]; exact hP
    have hD9 : va_D A (CW cB cC cI cJ cZ a (rg 12 12 F F) (rg 0 1 X X) J R gf gn) := by rw [eF9, eX9]; exact hD
    have hpost : ((0 ≤ (F 12).toInt ∧ (F 12).toInt < (gf : Int)) ∧ (oI ((-1))).toInt = (F 12).toInt ∧ (F 12).toInt = (F 12).toInt + 1 ∧ X 1 = upd (X 1) (F 12).toInt.toNat (oI 1)) ∨ (¬ (0 ≤ (F 12).toInt ∧ (F 12).toInt < (gf : Int)) ∧ (oI ((-1))).toInt = -1 ∧ (F 12).toInt = (F 12).toInt ∧ X 1 = (X 1)) := Or.inr ⟨by omega, rfl, rfl, rfl⟩
    exact W.iret (v := (oI ((-1)))) hx hb hr (fun t ht hW => ⟨⟨(oI ((-1))), (F, X), rfl, hpost, by rw [ht]; exact hP9, va_K.moved hW.alike hK, hD9⟩, hS.F ht⟩) hS.2.2 dX1_add_20
  · refine lv_aload_n hx hb dX1_add_7 rfl (lv_at hl 0 rfl) ?_
    refine cg_1_2 hx hb hts inX1_add_X1 hown hK hP (hts _ lkX1_add_f18) dX1_add_8 ?_
    refine lv_aload_n hx hb dX1_add_11 rfl (lv_at hl 0 rfl) ?_
    refine cg_1_0 hx hb hts inX1_add_X1 hown hK hP (hts _ lkX1_add_f11) dX1_add_12 ?_
    refine cn_0 hx hb hK hP dX1_add_15 ?_
    refine ci_lt (tgt := 21) hx hb (i32r _) (by omega) dX1_add_16 (by decide) (fun c_3 => ?_) (fun c_3 => ?_)
    · refine lv_aload_n hx hb dX1_add_21 rfl (lv_at hl 0 rfl) ?_
      refine cg_1_0 hx hb hts inX1_add_X1 hown hK hP (hts _ lkX1_add_f11) dX1_add_22 ?_
      refine lv_aload_n hx hb dX1_add_25 rfl (lv_at hl 0 rfl) ?_
      refine cg_1_2 hx hb hts inX1_add_X1 hown hK hP (hts _ lkX1_add_f18) dX1_add_26 ?_
      refine lv_iload_n hx hb dX1_add_29 rfl (lv_at hl 1 rfl) ?_
      refine cs_0 hx hb hK hP hD hS hgf (by omega) dX1_add_30 (fun H locs hP hD hS => ?_)
      have hP : va_P (dC, dI) vwCl (CW cB cC cI cJ cZ a F (va_up X 0 (upd (X 0) ((F 12).toInt).toNat (oI x))) J R gf gn) H := hP
      have hD : va_D A (CW cB cC cI cJ cZ a F (va_up X 0 (upd (X 0) ((F 12).toInt).toNat (oI x))) J R gf gn) := hD
      refine lv_aload_n hx hb dX1_add_31 rfl (lv_at hl 0 rfl) ?_
      refine cg_1_1 hx hb hts inX1_add_X1 hown hK hP (hts _ lkX1_add_f15) dX1_add_32 ?_
      refine lv_aload_n hx hb dX1_add_35 rfl (lv_at hl 0 rfl) ?_
      refine cg_1_2 hx hb hts inX1_add_X1 hown hK hP (hts _ lkX1_add_f18) dX1_add_36 ?_
      refine lv_iconst (v := oI 1) hx hb dX1_add_39 (by decide) ?_
      refine cs_1 hx hb hK hP hD hS hgf (by omega) dX1_add_40 (fun H locs hP hD hS => ?_)
      have hP : va_P (dC, dI) vwCl (CW cB cC cI cJ cZ a F (va_up (va_up X 0 (upd (X 0) ((F 12).toInt).toNat (oI x))) 1 (upd (X 1) ((F 12).toInt).toNat (oI 1))) J R gf gn) H := hP
      have hD : va_D A (CW cB cC cI cJ cZ a F (va_up (va_up X 0 (upd (X 0) ((F 12).toInt).toNat (oI x))) 1 (upd (X 1) ((F 12).toInt).toNat (oI 1))) J R gf gn) := hD
      refine lv_aload_n hx hb dX1_add_41 rfl (lv_at hl 0 rfl) ?_
      refine lv_dup hx hb dX1_add_42 rfl ?_
      refine cg_1_2 hx hb hts inX1_add_X1 hown hK hP (hts _ lkX1_add_f18) dX1_add_43 ?_
      refine lv_iconst (v := oI 1) hx hb dX1_add_46 (by decide) ?_
      refine lv_iadd hx hb dX1_add_47 ?_
      refine tp_i (oI_add ((F 12).toInt) 1) ?_
      refine cp_1_2 hx hb hts inX1_add_X1 hown hK hP hD hS (hts _ lkX1_add_f18) dX1_add_48 (fun H locs hP hD hS => ?_)
      have hP : va_P (dC, dI) vwCl (CW cB cC cI cJ cZ a (va_up F 12 (oI (((F 12).toInt) + 1))) (va_up (va_up X 0 (upd (X 0) ((F 12).toInt).toNat (oI x))) 1 (upd (X 1) ((F 12).toInt).toNat (oI 1))) J R gf gn) H := hP
      have hD : va_D A (CW cB cC cI cJ cZ a (va_up F 12 (oI (((F 12).toInt) + 1))) (va_up (va_up X 0 (upd (X 0) ((F 12).toInt).toNat (oI x))) 1 (upd (X 1) ((F 12).toInt).toNat (oI 1))) J R gf gn) := hD
      have e_4 : (oI (((F 12).toInt) + 1)).toInt = ((F 12).toInt) + 1 := toInt_oI (by omega)
      refine lv_aload_n hx hb dX1_add_51 rfl (lv_at hl 0 rfl) ?_
      refine cg_1_2 hx hb hts inX1_add_X1 hown hK hP (hts _ lkX1_add_f18) dX1_add_52 ?_
      refine tp_i (y := oI (((F 12).toInt) + 1)) (oI_toInt _) ?_
      refine lv_iconst (v := oI 1) hx hb dX1_add_55 (by decide) ?_
      refine lv_isub hx hb dX1_add_56 ?_
      refine tp_i (oI_sub (((F 12).toInt) + 1) 1) ?_
      have e0 : (oI ((((F 12).toInt) + 1) - 1)).toInt = (((F 12).toInt) + 1) - 1 := toInt_oI (by omega)
      have eF9 : rg 12 12 F (va_up F 12 (oI (((F 12).toInt) + 1))) = va_up F 12 (oI (((F 12).toInt) + 1)) := by funext k; simp only [rg, va_up]; (repeat' split) <;> first | with_reducible rfl | omega
      have eX9 : rg 0 1 X (va_up (va_up X 0 (upd (X 0) ((F 12).toInt).toNat (oI x))) 1 (upd (X 1) ((F 12).toInt).toNat (oI 1))) = va_up (va_up X 0 (upd (X 0) ((F 12).toInt).toNat (oI x))) 1 (upd (X 1) ((F 12).toInt).toNat (oI 1)) := by funext k; simp only [rg, va_up]; (repeat' split) <;> first | with_reducible rfl | omega
      have hP9 : va_P (dC, dI) vwCl (CW cB cC cI cJ cZ a (rg 12 12 F (va_up F 12 (oI (((F 12).toInt) + 1)))) (rg 0 1 X (va_up (va_up X 0 (upd (X 0) ((F 12).toInt).toNat (oI x))) 1 (upd (X 1) ((F 12).toInt).toNat (oI 1)))) J R gf gn) H := by rw [eF9, eX9]; exact hP
      have hD9 : va_D A (CW cB cC cI cJ cZ a (rg 12 12 F (va_up F 12 (oI (((F 12).toInt) + 1)))) (rg 0 1 X (va_up (va_up X 0 (upd (X 0) ((F 12).toInt).toNat (oI x))) 1 (upd (X 1) ((F 12).toInt).toNat (oI 1)))) J R gf gn) := by rw [eF9, eX9]; exact hD
      have hpost : ((0 ≤ (F 12).toInt ∧ (F 12).toInt < (gf : Int)) ∧ (oI ((((F 12).toInt) + 1) - 1)).toInt = (F 12).toInt ∧ (oI (((F 12).toInt) + 1)).toInt = (F 12).toInt + 1 ∧ upd (X 1) ((F 12).toInt).toNat (oI 1) = upd (X 1) (F 12).toInt.toNat (oI 1)) ∨ (¬ (0 ≤ (F 12).toInt ∧ (F 12).toInt < (gf : Int)) ∧ (oI ((((F 12).toInt) + 1) - 1)).toInt = -1 ∧ (oI (((F 12).toInt) + 1)).toInt = (F 12).toInt ∧ upd (X 1) ((F 12).toInt).toNat (oI 1) = (X 1)) := Or.inl ⟨by omega, by omega, by omega, rfl⟩
      exact W.iret (v := (oI ((((F 12).toInt) + 1) - 1))) hx hb hr (fun t ht hW => ⟨⟨(oI ((((F 12).toInt) + 1) - 1)), (va_up F 12 (oI (((F 12).toInt) + 1)), va_up (va_up X 0 (upd (X 0) ((F 12).toInt).toNat (oI x))) 1 (upd (X 1) ((F 12).toInt).toNat (oI 1))), rfl, hpost, by rw [ht]; exact hP9, va_K.moved hW.alike hK, hD9⟩, hS.F ht⟩) hS.2.2 dX1_add_57
    · refine lv_iconst (v := oI (-1)) hx hb dX1_add_19 (by decide) ?_
      have e0 : (oI ((-1))).toInt = (-1) := by decide
      have eF9 : rg 12 12 F F = F := by funext k; simp only [rg, va_up]; (repeat' split) <;> first | with_reducible rfl | omega
      have eX9 : rg 0 1 X X = X := by funext k; simp only [rg, va_up]; (repeat' split) <;> first | with_reducible rfl | omega
      have hP9 : va_P (dC, dI) vwCl (CW cB cC cI cJ cZ a (rg 12 12 F F) (rg 0 1 X X) J R gf gn) s.heap := by rw [eF9, eX9]; exact hP
      have hD9 : va_D A (CW cB cC cI cJ cZ a (rg 12 12 F F) (rg 0 1 X X) J R gf gn) := by rw [eF9, eX9]; exact hD
      have hpost : ((0 ≤ (F 12).toInt ∧ (F 12).toInt < (gf : Int)) ∧ (oI ((-1))).toInt = (F 12).toInt ∧ (F 12).toInt = (F 12).toInt + 1 ∧ X 1 = upd (X 1) (F 12).toInt.toNat (oI 1)) ∨ (¬ (0 ≤ (F 12).toInt ∧ (F 12).toInt < (gf : Int)) ∧ (oI ((-1))).toInt = -1 ∧ (F 12).toInt = (F 12).toInt ∧ X 1 = (X 1)) := Or.inr ⟨by omega, rfl, rfl, rfl⟩
      exact W.iret (v := (oI ((-1)))) hx hb hr (fun t ht hW => ⟨⟨(oI ((-1))), (F, X), rfl, hpost, by rw [ht]; exact hP9, va_K.moved hW.alike hK, hD9⟩, hS.F ht⟩) hS.2.2 dX1_add_20

set_option maxHeartbeats 4000000 in
set_option maxRecDepth 100000 in
/-- X1_ofNumber -/
theorem c_ofNumber (l : Launch) (dC : Nat → ClassId) (dI : Nat → Nat → Nat) (cB cC cI cJ cZ : ClassId) (a : Nat → Nat) (F : Nat → Int32) (X : Nat → Nat → Int32) (J : Nat → Nat → Int64) (R : Nat → Nat) (gf gn : Nat) (x : Int)  (ix : (-2147483648 ≤ x ∧ x < 2147483648)) (s0 : Nat) : Met l yX1_ofNumber vX1_ofNumber { frames := 1, cells := 0, slots := 0, locals := 60 } (va_Pc [.int (oI x)] (cPre dC dI cB cC cI cJ cZ a F X J R gf gn s0)) (va_Qi (fun (r : Int32) (_ : Unit) => True) (fun _ => cPost dC dI cB cC cI cJ cZ a F X J R gf gn (va_A (CW cB cC cI cJ cZ a F X J R gf gn) s0)) (va_A (CW cB cC cI cJ cZ a F X J R gf gn) s0)) 0 0 (va_A (CW cB cC cI cJ cZ a F X J R gf gn) s0) := by
  refine Met.ofW (cc := cX1_ofNumber) (maxL := 1) (ret := (some .int)) (by decide) rfl ?_
  intro p e s m args below meth c s₁ B9 hml hv
  obtain ⟨rfl, hsz0, hP, hK, hD0, hNW⟩ := hv
  have hx := B9.exec
  have hb := B9.bytes
  have hr := B9.returns
  have hts := atoms_spec (ws := vX1_ofNumber) B9.pre
  have hown : s.vm.findClass RX1 = some m.cls := findClass_of_methodNamed B9.named
  have hlocks := B9.notSynchronized
  clear B9
  subst hsz0
  have hD := hD0.self (sz := s.heap.size)
  generalize hAe : va_A (CW cB cC cI cJ cZ a F X J R gf gn) s.heap.size = A at hD ⊢
  have hA : ∀ q : Nat, s.heap.size ≤ q → A q := fun q h => by rw [← hAe]; exact Or.inr h
  have hS : va_S A s.heap s.heap [] := va_S.rf
  have hcs : 0 + 0 ≤ (0 : Nat) ∧ 0 + 0 ≤ (0 : Nat) := ⟨Nat.le_refl 0, Nat.le_refl 0⟩
  have hl := lv_entry ([.int (oI x)]) (n := 1) (Nat.le_of_ble_eq_true rfl)
  rw [lg_entry_eq]
  generalize (lg_sl ([.int (oI x)]) ++ List.replicate (1 - (lg_sl ([.int (oI x)])).length) Slot.unset).toArray = ls at hl ⊢
  have hl : lv_has ls 1 [(0, .int (oI x))] := hl
  refine lv_iconst (v := oI 2) hx hb dX1_ofNumber_0 (by decide) ?_
  refine lv_iload_n hx hb dX1_ofNumber_1 rfl (lv_at hl 0 rfl) ?_
  refine lv_imul hx hb dX1_ofNumber_2 ?_
  refine tp_i (oI_mul 2 x) ?_
  have hpost : True := trivial
  exact W.iret (v := (oI (2 * x))) hx hb hr (fun t ht hW => ⟨⟨(oI (2 * x)), (), rfl, hpost, by rw [ht]; exact hP, va_K.moved hW.alike hK, hD⟩, hS.F ht⟩) hS.2.2 dX1_ofNumber_3

set_option maxHeartbeats 4000000 in
set_option maxRecDepth 100000 in
/-- X1_ofName -/
theorem c_ofName (l : Launch) (dC : Nat → ClassId) (dI : Nat → Nat → Nat) (cB cC cI cJ cZ : ClassId) (a : Nat → Nat) (F : Nat → Int32) (X : Nat → Nat → Int32) (J : Nat → Nat → Int64) (R : Nat → Nat) (gf gn : Nat) (x : Int)  (ix : (-2147483648 ≤ x ∧ x < 2147483648)) (s0 : Nat) : Met l yX1_ofName vX1_ofName { frames := 1, cells := 0, slots := 0, locals := 60 } (va_Pc [.int (oI x)] (cPre dC dI cB cC cI cJ cZ a F X J R gf gn s0)) (va_Qi (fun (r : Int32) (_ : Unit) => True) (fun _ => cPost dC dI cB cC cI cJ cZ a F X J R gf gn (va_A (CW cB cC cI cJ cZ a F X J R gf gn) s0)) (va_A (CW cB cC cI cJ cZ a F X J R gf gn) s0)) 0 0 (va_A (CW cB cC cI cJ cZ a F X J R gf gn) s0) := by
  refine Met.ofW (cc := cX1_ofName) (maxL := 1) (ret := (some .int)) (by decide) rfl ?_
  intro p e s m args below meth c s₁ B9 hml hv
  obtain ⟨rfl, hsz0, hP, hK, hD0, hNW⟩ := hv
  have hx := B9.exec
  have hb := B9.bytes
  have hr := B9.returns
  have hts := atoms_spec (ws := vX1_ofName) B9.pre
  have hown : s.vm.findClass RX1 = some m.cls := findClass_of_methodNamed B9.named
  have hlocks := B9.notSynchronized
  clear B9
  subst hsz0
  have hD := hD0.self (sz := s.heap.size)
  generalize hAe : va_A (CW cB cC cI cJ cZ a F X J R gf gn) s.heap.size = A at hD ⊢
  have hA : ∀ q : Nat, s.heap.size ≤ q → A q := fun q h => by rw [← hAe]; exact Or.inr h
  have hS : va_S A s.heap s.heap [] := va_S.rf
  have hcs : 0 + 0 ≤ (0 : Nat) ∧ 0 + 0 ≤ (0 : Nat) := ⟨Nat.le_refl 0, Nat.le_refl 0⟩
  have hl := lv_entry ([.int (oI x)]) (n := 1) (Nat.le_of_ble_eq_true rfl)
  rw [lg_entry_eq]
  generalize (lg_sl ([.int (oI x)]) ++ List.replicate (1 - (lg_sl ([.int (oI x)])).length) Slot.unset).toArray = ls at hl ⊢
  have hl : lv_has ls 1 [(0, .int (oI x))] := hl
  refine lv_iconst (v := oI 2) hx hb dX1_ofName_0 (by decide) ?_
  refine lv_iload_n hx hb dX1_ofName_1 rfl (lv_at hl 0 rfl) ?_
  refine lv_imul hx hb dX1_ofName_2 ?_
  refine tp_i (oI_mul 2 x) ?_
  refine lv_iconst (v := oI 1) hx hb dX1_ofName_3 (by decide) ?_
  refine lv_iadd hx hb dX1_ofName_4 ?_
  refine tp_i (oI_add (2 * x) 1) ?_
  have hpost : True := trivial
  exact W.iret (v := (oI ((2 * x) + 1))) hx hb hr (fun t ht hW => ⟨⟨(oI ((2 * x) + 1)), (), rfl, hpost, by rw [ht]; exact hP, va_K.moved hW.alike hK, hD⟩, hS.F ht⟩) hS.2.2 dX1_ofName_5

set_option maxHeartbeats 4000000 in
set_option maxRecDepth 100000 in
/-- X1_endList -/
theorem c_endList (l : Launch) (dC : Nat → ClassId) (dI : Nat → Nat → Nat) (cB cC cI cJ cZ : ClassId) (a : Nat → Nat) (F : Nat → Int32) (X : Nat → Nat → Int32) (J : Nat → Nat → Int64) (R : Nat → Nat) (gf gn : Nat) (x : Int)  (ix : (-2147483648 ≤ x ∧ x < 2147483648)) (hgf : gf ≤ 67600) (s0 : Nat) : Met l yX1_endList vX1_endList { frames := 1, cells := 0, slots := 0, locals := 60 } (va_Pc [.ref (a 1), .int (oI x)] (cPre dC dI cB cC cI cJ cZ a F X J R gf gn s0)) (va_Qv (fun (u : (Nat → Int32) × (Nat → Nat → Int32)) => match u with | (F1, X1) => ((0 ≤ x ∧ x < (F 12).toInt ∧ x < (gf : Int)) ∧ X1 1 = upd (X 1) (x).toNat (oI ((F 12).toInt - x))) ∨ (¬ (0 ≤ x ∧ x < (F 12).toInt ∧ x < (gf : Int)) ∧ X1 1 = (X 1))) (fun u => cPost dC dI cB cC cI cJ cZ a F (rg 1 1 X u.2) J R gf gn (va_A (CW cB cC cI cJ cZ a F X J R gf gn) s0)) (va_A (CW cB cC cI cJ cZ a F X J R gf gn) s0)) 0 0 (va_A (CW cB cC cI cJ cZ a F X J R gf gn) s0) := by
  refine Met.ofW (cc := cX1_endList) (maxL := 2) (ret := none) (by decide) rfl ?_
  intro p e s m args below meth c s₁ B9 hml hv
  obtain ⟨rfl, hsz0, hP, hK, hD0, hNW⟩ := hv
  have hx := B9.exec
  have hb := B9.bytes
  have hr := B9.returns
  have hts := atoms_spec (ws := vX1_endList) B9.pre
  have hown : s.vm.findClass RX1 = some m.cls := findClass_of_methodNamed B9.named
  have hlocks := B9.notSynchronized
  clear B9
  subst hsz0
  have hD := hD0.self (sz := s.heap.size)
  generalize hAe : va_A (CW cB cC cI cJ cZ a F X J R gf gn) s.heap.size = A at hD ⊢
  have hA : ∀ q : Nat, s.heap.size ≤ q → A q := fun q h => by rw [← hAe]; exact Or.inr h
  have hS : va_S A s.heap s.heap [] := va_S.rf
  have hcs : 0 + 0 ≤ (0 : Nat) ∧ 0 + 0 ≤ (0 : Nat) := ⟨Nat.le_refl 0, Nat.le_refl 0⟩
  have hl := lv_entry ([.ref (a 1), .int (oI x)]) (n := 2) (Nat.le_of_ble_eq_true rfl)
  rw [lg_entry_eq]
  generalize (lg_sl ([.ref (a 1), .int (oI x)]) ++ List.replicate (2 - (lg_sl ([.ref (a 1), .int (oI x)])).length) Slot.unset).toArray = ls at hl ⊢
  have hl : lv_has ls 2 [(0, .ref (a 1)), (1, .int (oI x))] := hl
  refine lv_iload_n hx hb dX1_endList_0 rfl (lv_at hl 1 rfl) ?_
  refine cz_lt (tgt := 33) hx hb (by omega) dX1_endList_1 (by decide) (fun c_1 => ?_) (fun c_1 => ?_)
  · have eX9 : rg 1 1 X X = X := by funext k; simp only [rg, va_up]; (repeat' split) <;> first | with_reducible rfl | omega
    have hP9 : va_P (dC, dI) vwCl (CW cB cC cI cJ cZ a F (rg 1 1 X X) J R gf gn) s.heap := by rw [eX9]; exact hP
    have hD9 : va_D A (CW cB cC cI cJ cZ a F (rg 1 1 X X) J R gf gn) := by rw [eX9]; exact hD
    have hpost : ((0 ≤ x ∧ x < (F 12).toInt ∧ x < (gf : Int)) ∧ X 1 = upd (X 1) (x).toNat (oI ((F 12).toInt - x))) ∨ (¬ (0 ≤ x ∧ x < (F 12).toInt ∧ x < (gf : Int)) ∧ X 1 = (X 1)) := Or.inr ⟨by omega, rfl⟩
    exact W.vret hx hb hr (fun t ht hW => ⟨⟨(F, X), rfl, hpost, by rw [ht]; exact hP9, va_K.moved hW.alike hK, hD9⟩, hS.F ht⟩) hS.2.2 dX1_endList_33
  · refine lv_iload_n hx hb dX1_endList_4 rfl (lv_at hl 1 rfl) ?_
    refine lv_aload_n hx hb dX1_endList_5 rfl (lv_at hl 0 rfl) ?_
    refine cg_1_2 hx hb hts inX1_endList_X1 hown hK hP (hts _ lkX1_endList_f18) dX1_endList_6 ?_
    have i_2 := i32r (F 12)
    refine ci_ge (tgt := 33) hx hb (by omega) (i32r _) dX1_endList_9 (by decide) (fun c_3 => ?_) (fun c_3 => ?_)
    · have eX9 : rg 1 1 X X = X := by funext k; simp only [rg, va_up]; (repeat' split) <;> first | with_reducible rfl | omega
      have hP9 : va_P (dC, dI) vwCl (CW cB cC cI cJ cZ a F (rg 1 1 X X) J R gf gn) s.heap := by rw [eX9]; exact hP
      have hD9 : va_D A (CW cB cC cI cJ cZ a F (rg 1 1 X X) J R gf gn) := by rw [eX9]; exact hD
      have hpost : ((0 ≤ x ∧ x < (F 12).toInt ∧ x < (gf : Int)) ∧ X 1 = upd (X 1) (x).toNat (oI ((F 12).toInt - x))) ∨ (¬ (0 ≤ x ∧ x < (F 12).toInt ∧ x < (gf : Int)) ∧ X 1 = (X 1)) := Or.inr ⟨by omega, rfl⟩
      exact W.vret hx hb hr (fun t ht hW => ⟨⟨(F, X), rfl, hpost, by rw [ht]; exact hP9, va_K.moved hW.alike hK, hD9⟩, hS.F ht⟩) hS.2.2 dX1_endList_33
    · refine lv_iload_n hx hb dX1_endList_12 rfl (lv_at hl 1 rfl) ?_
      refine lv_aload_n hx hb dX1_endList_13 rfl (lv_at hl 0 rfl) ?_
      refine cg_1_1 hx hb hts inX1_endList_X1 hown hK hP (hts _ lkX1_endList_f15) dX1_endList_14 ?_
      refine cn_1 hx hb hK hP dX1_endList_17 ?_
      refine ci_ge (tgt := 33) hx hb (by omega) (by omega) dX1_endList_18 (by decide) (fun c_4 => ?_) (fun c_4 => ?_)
      · have eX9 : rg 1 1 X X = X := by funext k; simp only [rg, va_up]; (repeat' split) <;> first | with_reducible rfl | omega
        have hP9 : va_P (dC, dI) vwCl (CW cB cC cI cJ cZ a F (rg 1 1 X X) J R gf gn) s.heap := by rw [eX9]; exact hP
        have hD9 : va_D A (CW cB cC cI cJ cZ a F (rg 1 1 X X) J R gf gn) := by rw [eX9]; exact hD
        have hpost : ((0 ≤ x ∧ x < (F 12).toInt ∧ x < (gf : Int)) ∧ X 1 = upd (X 1) (x).toNat (oI ((F 12).toInt - x))) ∨ (¬ (0 ≤ x ∧ x < (F 12).toInt ∧ x < (gf : Int)) ∧ X 1 = (X 1)) := Or.inr ⟨by omega, rfl⟩
        exact W.vret hx hb hr (fun t ht hW => ⟨⟨(F, X), rfl, hpost, by rw [ht]; exact hP9, va_K.moved hW.alike hK, hD9⟩, hS.F ht⟩) hS.2.2 dX1_endList_33
      · refine lv_aload_n hx hb dX1_endList_21 rfl (lv_at hl 0 rfl) ?_
        refine cg_1_1 hx hb hts inX1_endList_X1 hown hK hP (hts _ lkX1_endList_f15) dX1_endList_22 ?_
        refine lv_iload_n hx hb dX1_endList_25 rfl (lv_at hl 1 rfl) ?_
        refine lv_aload_n hx hb dX1_endList_26 rfl (lv_at hl 0 rfl) ?_
        refine cg_1_2 hx hb hts inX1_endList_X1 hown hK hP (hts _ lkX1_endList_f18) dX1_endList_27 ?_
        refine lv_iload_n hx hb dX1_endList_30 rfl (lv_at hl 1 rfl) ?_
        refine lv_isub hx hb dX1_endList_31 ?_
        refine tp_i (oI_sub ((F 12).toInt) x) ?_
        refine cs_1 hx hb hK hP hD hS hgf (by omega) dX1_endList_32 (fun H locs hP hD hS => ?_)
        have hP : va_P (dC, dI) vwCl (CW cB cC cI cJ cZ a F (va_up X 1 (upd (X 1) (x).toNat (oI (((F 12).toInt) - x)))) J R gf gn) H := hP
        have hD : va_D A (CW cB cC cI cJ cZ a F (va_up X 1 (upd (X 1) (x).toNat (oI (((F 12).toInt) - x)))) J R gf gn) := hD
        have eX9 : rg 1 1 X (va_up X 1 (upd (X 1) (x).toNat (oI (((F 12).toInt) - x)))) = va_up X 1 (upd (X 1) (x).toNat (oI (((F 12).toInt) - x))) := by funext k; simp only [rg, va_up]; (repeat' split) <;> first | with_reducible rfl | omega
        have hP9 : va_P (dC, dI) vwCl (CW cB cC cI cJ cZ a F (rg 1 1 X (va_up X 1 (upd (X 1) (x).toNat (oI (((F 12).toInt) - x))))) J R gf gn) H := by rw [eX9]; exact hP
        have hD9 : va_D A (CW cB cC cI cJ cZ a F (rg 1 1 X (va_up X 1 (upd (X 1) (x).toNat (oI (((F 12).toInt) - x))))) J R gf gn) := by rw [eX9]; exact hD
        have hpost : ((0 ≤ x ∧ x < (F 12).toInt ∧ x < (gf : Int)) ∧ upd (X 1) (x).toNat (oI (((F 12).toInt) - x)) = upd (X 1) (x).toNat (oI ((F 12).toInt - x))) ∨ (¬ (0 ≤ x ∧ x < (F 12).toInt ∧ x < (gf : Int)) ∧ upd (X 1) (x).toNat (oI (((F 12).toInt) - x)) = (X 1)) := Or.inl ⟨by omega, rfl⟩
        exact W.vret hx hb hr (fun t ht hW => ⟨⟨(F, va_up X 1 (upd (X 1) (x).toNat (oI (((F 12).toInt) - x)))), rfl, hpost, by rw [ht]; exact hP9, va_K.moved hW.alike hK, hD9⟩, hS.F ht⟩) hS.2.2 dX1_endList_33

set_option maxHeartbeats 4000000 in
set_option maxRecDepth 100000 in
/-- X1_whatIs -/
theorem c_whatIs (l : Launch) (dC : Nat → ClassId) (dI : Nat → Nat → Nat) (cB cC cI cJ cZ : ClassId) (a : Nat → Nat) (F : Nat → Int32) (X : Nat → Nat → Int32) (J : Nat → Nat → Int64) (R : Nat → Nat) (gf gn : Nat) (x : Int)  (ix : (-2147483648 ≤ x ∧ x < 2147483648)) (hgf : gf ≤ 67600) (s0 : Nat) : Met l yX1_whatIs vX1_whatIs { frames := 1, cells := 0, slots := 0, locals := 60 } (va_Pc [.ref (a 1), .int (oI x)] (cPre dC dI cB cC cI cJ cZ a F X J R gf gn s0)) (va_Qi (fun (r : Int32) (_ : Unit) => True) (fun _ => cPost dC dI cB cC cI cJ cZ a F X J R gf gn (va_A (CW cB cC cI cJ cZ a F X J R gf gn) s0)) (va_A (CW cB cC cI cJ cZ a F X J R gf gn) s0)) 0 0 (va_A (CW cB cC cI cJ cZ a F X J R gf gn) s0) := by
  refine Met.ofW (cc := cX1_whatIs) (maxL := 2) (ret := (some .int)) (by decide) rfl ?_
  intro p e s m args below meth c s₁ B9 hml hv
  obtain ⟨rfl, hsz0, hP, hK, hD0, hNW⟩ := hv
  have hx := B9.exec
  have hb := B9.bytes
  have hr := B9.returns
  have hts := atoms_spec (ws := vX1_whatIs) B9.pre
  have hown : s.vm.findClass RX1 = some m.cls := findClass_of_methodNamed B9.named
  have hlocks := B9.notSynchronized
  clear B9
  subst hsz0
  have hD := hD0.self (sz := s.heap.size)
  generalize hAe : va_A (CW cB cC cI cJ cZ a F X J R gf gn) s.heap.size = A at hD ⊢
  have hA : ∀ q : Nat, s.heap.size ≤ q → A q := fun q h => by rw [← hAe]; exact Or.inr h
  have hS : va_S A s.heap s.heap [] := va_S.rf
  have hcs : 0 + 0 ≤ (0 : Nat) ∧ 0 + 0 ≤ (0 : Nat) := ⟨Nat.le_refl 0, Nat.le_refl 0⟩
  have hl := lv_entry ([.ref (a 1), .int (oI x)]) (n := 2) (Nat.le_of_ble_eq_true rfl)
  rw [lg_entry_eq]
  generalize (lg_sl ([.ref (a 1), .int (oI x)]) ++ List.replicate (2 - (lg_sl ([.ref (a 1), .int (oI x)])).length) Slot.unset).toArray = ls at hl ⊢
  have hl : lv_has ls 2 [(0, .ref (a 1)), (1, .int (oI x))] := hl
  refine lv_iload_n hx hb dX1_whatIs_0 rfl (lv_at hl 1 rfl) ?_
  refine cz_lt (tgt := 22) hx hb (by omega) dX1_whatIs_1 (by decide) (fun c_1 => ?_) (fun c_1 => ?_)
  · refine lv_iconst (v := oI 0) hx hb dX1_whatIs_22 (by decide) ?_
    have hpost : True := trivial
    exact W.iret (v := (oI 0)) hx hb hr (fun t ht hW => ⟨⟨(oI 0), (), rfl, hpost, by rw [ht]; exact hP, va_K.moved hW.alike hK, hD⟩, hS.F ht⟩) hS.2.2 dX1_whatIs_23
  · refine lv_iload_n hx hb dX1_whatIs_4 rfl (lv_at hl 1 rfl) ?_
    refine lv_aload_n hx hb dX1_whatIs_5 rfl (lv_at hl 0 rfl) ?_
    refine cg_1_0 hx hb hts inX1_whatIs_X1 hown hK hP (hts _ lkX1_whatIs_f11) dX1_whatIs_6 ?_
    refine cn_0 hx hb hK hP dX1_whatIs_9 ?_
    refine ci_ge (tgt := 22) hx hb (by omega) (by omega) dX1_whatIs_10 (by decide) (fun c_2 => ?_) (fun c_2 => ?_)
    · refine lv_iconst (v := oI 0) hx hb dX1_whatIs_22 (by decide) ?_
      have hpost : True := trivial
      exact W.iret (v := (oI 0)) hx hb hr (fun t ht hW => ⟨⟨(oI 0), (), rfl, hpost, by rw [ht]; exact hP, va_K.moved hW.alike hK, hD⟩, hS.F ht⟩) hS.2.2 dX1_whatIs_23
    · refine lv_aload_n hx hb dX1_whatIs_13 rfl (lv_at hl 0 rfl) ?_
      refine cg_1_0 hx hb hts inX1_whatIs_X1 hown hK hP (hts _ lkX1_whatIs_f11) dX1_whatIs_14 ?_
      refine lv_iload_n hx hb dX1_whatIs_17 rfl (lv_at hl 1 rfl) ?_
      refine cl_0 hx hb hK hP hgf (by omega) dX1_whatIs_18 (fun w_3 hw_3 => ?_)
      have i_4 := i32r w_3
      refine lv_goto (tgt := 23) hx hb dX1_whatIs_19 (by decide) ?_
      have hpost : True := trivial
      exact W.iret (v := (oI w_3.toInt)) hx hb hr (fun t ht hW => ⟨⟨(oI w_3.toInt), (), rfl, hpost, by rw [ht]; exact hP, va_K.moved hW.alike hK, hD⟩, hS.F ht⟩) hS.2.2 dX1_whatIs_23

set_option maxHeartbeats 4000000 in
set_option maxRecDepth 100000 in
/-- X1_isList -/
theorem c_isList (l : Launch) (dC : Nat → ClassId) (dI : Nat → Nat → Nat) (cB cC cI cJ cZ : ClassId) (a : Nat → Nat) (F : Nat → Int32) (X : Nat → Nat → Int32) (J : Nat → Nat → Int64) (R : Nat → Nat) (gf gn : Nat) (x : Int)  (ix : (-2147483648 ≤ x ∧ x < 2147483648)) (hgf : gf ≤ 67600) (s0 : Nat) : Met l yX1_isList vX1_isList { frames := 1, cells := 0, slots := 0, locals := 60 } (va_Pc [.ref (a 1), .int (oI x)] (cPre dC dI cB cC cI cJ cZ a F X J R gf gn s0)) (va_Qi (fun (r : Int32) (_ : Unit) => ((r).toInt = 1 ∧ 0 ≤ x ∧ x < (gf : Int)) ∨ (r).toInt = 0) (fun _ => cPost dC dI cB cC cI cJ cZ a F X J R gf gn (va_A (CW cB cC cI cJ cZ a F X J R gf gn) s0)) (va_A (CW cB cC cI cJ cZ a F X J R gf gn) s0)) 0 0 (va_A (CW cB cC cI cJ cZ a F X J R gf gn) s0) := by
  refine Met.ofW (cc := cX1_isList) (maxL := 2) (ret := (some .boolean)) (by decide) rfl ?_
  intro p e s m args below meth c s₁ B9 hml hv
  obtain ⟨rfl, hsz0, hP, hK, hD0, hNW⟩ := hv
  have hx := B9.exec
  have hb := B9.bytes
  have hr := B9.returns
  have hts := atoms_spec (ws := vX1_isList) B9.pre
  have hown : s.vm.findClass RX1 = some m.cls := findClass_of_methodNamed B9.named
  have hlocks := B9.notSynchronized
  clear B9
  subst hsz0
  have hD := hD0.self (sz := s.heap.size)
  generalize hAe : va_A (CW cB cC cI cJ cZ a F X J R gf gn) s.heap.size = A at hD ⊢
  have hA : ∀ q : Nat, s.heap.size ≤ q → A q := fun q h => by rw [← hAe]; exact Or.inr h
  have hS : va_S A s.heap s.heap [] := va_S.rf
  have hcs : 0 + 0 ≤ (0 : Nat) ∧ 0 + 0 ≤ (0 : Nat) := ⟨Nat.le_refl 0, Nat.le_refl 0⟩
  have hl := lv_entry ([.ref (a 1), .int (oI x)]) (n := 2) (Nat.le_of_ble_eq_true rfl)
  rw [lg_entry_eq]
  generalize (lg_sl ([.ref (a 1), .int (oI x)]) ++ List.replicate (2 - (lg_sl ([.ref (a 1), .int (oI x)])).length) Slot.unset).toArray = ls at hl ⊢
  have hl : lv_has ls 2 [(0, .ref (a 1)), (1, .int (oI x))] := hl
  refine lv_iload_n hx hb dX1_isList_0 rfl (lv_at hl 1 rfl) ?_
  refine cz_lt (tgt := 27) hx hb (by omega) dX1_isList_1 (by decide) (fun c_1 => ?_) (fun c_1 => ?_)
  · refine lv_iconst (v := oI 0) hx hb dX1_isList_27 (by decide) ?_
    have e0 : (oI 0).toInt = 0 := by decide
    have hpost : ((oI 0).toInt = 1 ∧ 0 ≤ x ∧ x < (gf : Int)) ∨ (oI 0).toInt = 0 := by first | assumption | omega | (with_reducible rfl) | ((repeat' apply And.intro) <;> first | assumption | omega | (with_reducible rfl))
    exact W.zret (v := (oI 0)) hx hb hr (by first | rfl | decide | exact zb9 (by omega)) (fun t ht hW => ⟨⟨(oI 0), (), rfl, hpost, by rw [ht]; exact hP, va_K.moved hW.alike hK, hD⟩, hS.F ht⟩) hS.2.2 dX1_isList_28
  · refine lv_iload_n hx hb dX1_isList_4 rfl (lv_at hl 1 rfl) ?_
    refine lv_aload_n hx hb dX1_isList_5 rfl (lv_at hl 0 rfl) ?_
    refine cg_1_0 hx hb hts inX1_isList_X1 hown hK hP (hts _ lkX1_isList_f11) dX1_isList_6 ?_
    refine cn_0 hx hb hK hP dX1_isList_9 ?_
    refine ci_ge (tgt := 27) hx hb (by omega) (by omega) dX1_isList_10 (by decide) (fun c_2 => ?_) (fun c_2 => ?_)
    · refine lv_iconst (v := oI 0) hx hb dX1_isList_27 (by decide) ?_
      have e0 : (oI 0).toInt = 0 := by decide
      have hpost : ((oI 0).toInt = 1 ∧ 0 ≤ x ∧ x < (gf : Int)) ∨ (oI 0).toInt = 0 := by first | assumption | omega | (with_reducible rfl) | ((repeat' apply And.intro) <;> first | assumption | omega | (with_reducible rfl))
      exact W.zret (v := (oI 0)) hx hb hr (by first | rfl | decide | exact zb9 (by omega)) (fun t ht hW => ⟨⟨(oI 0), (), rfl, hpost, by rw [ht]; exact hP, va_K.moved hW.alike hK, hD⟩, hS.F ht⟩) hS.2.2 dX1_isList_28
    · refine lv_aload_n hx hb dX1_isList_13 rfl (lv_at hl 0 rfl) ?_
      refine cg_1_0 hx hb hts inX1_isList_X1 hown hK hP (hts _ lkX1_isList_f11) dX1_isList_14 ?_
      refine lv_iload_n hx hb dX1_isList_17 rfl (lv_at hl 1 rfl) ?_
      refine cl_0 hx hb hK hP hgf (by omega) dX1_isList_18 (fun w_3 hw_3 => ?_)
      have i_4 := i32r w_3
      refine lv_iconst (v := oI (-1)) hx hb dX1_isList_19 (by decide) ?_
      refine ci_ne (tgt := 27) hx hb (i32r _) (by decide) dX1_isList_20 (by decide) (fun c_5 => ?_) (fun c_5 => ?_)
      · refine lv_iconst (v := oI 0) hx hb dX1_isList_27 (by decide) ?_
        have e0 : (oI 0).toInt = 0 := by decide
        have hpost : ((oI 0).toInt = 1 ∧ 0 ≤ x ∧ x < (gf : Int)) ∨ (oI 0).toInt = 0 := by first | assumption | omega | (with_reducible rfl) | ((repeat' apply And.intro) <;> first | assumption | omega | (with_reducible rfl))
        exact W.zret (v := (oI 0)) hx hb hr (by first | rfl | decide | exact zb9 (by omega)) (fun t ht hW => ⟨⟨(oI 0), (), rfl, hpost, by rw [ht]; exact hP, va_K.moved hW.alike hK, hD⟩, hS.F ht⟩) hS.2.2 dX1_isList_28
      · refine lv_iconst (v := oI 1) hx hb dX1_isList_23 (by decide) ?_
        refine lv_goto (tgt := 28) hx hb dX1_isList_24 (by decide) ?_
        have e0 : (oI 1).toInt = 1 := by decide
        have hpost : ((oI 1).toInt = 1 ∧ 0 ≤ x ∧ x < (gf : Int)) ∨ (oI 1).toInt = 0 := by first | assumption | omega | (with_reducible rfl) | ((repeat' apply And.intro) <;> first | assumption | omega | (with_reducible rfl))
        exact W.zret (v := (oI 1)) hx hb hr (by first | rfl | decide | exact zb9 (by omega)) (fun t ht hW => ⟨⟨(oI 1), (), rfl, hpost, by rw [ht]; exact hP, va_K.moved hW.alike hK, hD⟩, hS.F ht⟩) hS.2.2 dX1_isList_28

set_option maxHeartbeats 4000000 in
set_option maxRecDepth 100000 in
/-- X1_nameOf -/
theorem c_nameOf (l : Launch) (dC : Nat → ClassId) (dI : Nat → Nat → Nat) (cB cC cI cJ cZ : ClassId) (a : Nat → Nat) (F : Nat → Int32) (X : Nat → Nat → Int32) (J : Nat → Nat → Int64) (R : Nat → Nat) (gf gn : Nat) (x : Int)  (ix : (-2147483648 ≤ x ∧ x < 2147483648)) (hgf : gf ≤ 67600) (s0 : Nat) : Met l yX1_nameOf vX1_nameOf { frames := 1, cells := 0, slots := 0, locals := 60 } (va_Pc [.ref (a 1), .int (oI x)] (cPre dC dI cB cC cI cJ cZ a F X J R gf gn s0)) (va_Qi (fun (r : Int32) (_ : Unit) => True) (fun _ => cPost dC dI cB cC cI cJ cZ a F X J R gf gn (va_A (CW cB cC cI cJ cZ a F X J R gf gn) s0)) (va_A (CW cB cC cI cJ cZ a F X J R gf gn) s0)) 0 0 (va_A (CW cB cC cI cJ cZ a F X J R gf gn) s0) := by
  refine Met.ofW (cc := cX1_nameOf) (maxL := 3) (ret := (some .int)) (by decide) rfl ?_
  intro p e s m args below meth c s₁ B9 hml hv
  obtain ⟨rfl, hsz0, hP, hK, hD0, hNW⟩ := hv
  have hx := B9.exec
  have hb := B9.bytes
  have hr := B9.returns
  have hts := atoms_spec (ws := vX1_nameOf) B9.pre
  have hown : s.vm.findClass RX1 = some m.cls := findClass_of_methodNamed B9.named
  have hlocks := B9.notSynchronized
  clear B9
  subst hsz0
  have hD := hD0.self (sz := s.heap.size)
  generalize hAe : va_A (CW cB cC cI cJ cZ a F X J R gf gn) s.heap.size = A at hD ⊢
  have hA : ∀ q : Nat, s.heap.size ≤ q → A q := fun q h => by rw [← hAe]; exact Or.inr h
  have hS : va_S A s.heap s.heap [] := va_S.rf
  have hcs : 0 + 0 ≤ (0 : Nat) ∧ 0 + 0 ≤ (0 : Nat) := ⟨Nat.le_refl 0, Nat.le_refl 0⟩
  have hl := lv_entry ([.ref (a 1), .int (oI x)]) (n := 3) (Nat.le_of_ble_eq_true rfl)
  rw [lg_entry_eq]
  generalize (lg_sl ([.ref (a 1), .int (oI x)]) ++ List.replicate (3 - (lg_sl ([.ref (a 1), .int (oI x)])).length) Slot.unset).toArray = ls at hl ⊢
  have hl : lv_has ls 3 [(0, .ref (a 1)), (1, .int (oI x))] := hl
  refine lv_iload_n hx hb dX1_nameOf_0 rfl (lv_at hl 1 rfl) ?_
  refine cz_lt (tgt := 22) hx hb (by omega) dX1_nameOf_1 (by decide) (fun c_1 => ?_) (fun c_1 => ?_)
  · refine lv_iconst (v := oI 0) hx hb dX1_nameOf_22 (by decide) ?_
    refine lv_istore_n (lv' := [(2, .int (oI 0)), (0, .ref (a 1)), (1, .int (oI x))]) hx hb dX1_nameOf_23 rfl hl (by decide) rfl (fun ls hl => ?_)
    refine lv_iload_n hx hb dX1_nameOf_24 rfl (lv_at hl 0 rfl) ?_
    refine cz_le (tgt := 41) hx hb (by decide) dX1_nameOf_25 (by decide) (fun _ => ?_) (fun q9 => absurd q9 (by omega))
    refine lv_iconst (v := oI (-1)) hx hb dX1_nameOf_41 (by decide) ?_
    have hpost : True := trivial
    exact W.iret (v := (oI ((-1)))) hx hb hr (fun t ht hW => ⟨⟨(oI ((-1))), (), rfl, hpost, by rw [ht]; exact hP, va_K.moved hW.alike hK, hD⟩, hS.F ht⟩) hS.2.2 dX1_nameOf_42
  · refine lv_iload_n hx hb dX1_nameOf_4 rfl (lv_at hl 1 rfl) ?_
    refine lv_aload_n hx hb dX1_nameOf_5 rfl (lv_at hl 0 rfl) ?_
    refine cg_1_0 hx hb hts inX1_nameOf_X1 hown hK hP (hts _ lkX1_nameOf_f11) dX1_nameOf_6 ?_
    refine cn_0 hx hb hK hP dX1_nameOf_9 ?_
    refine ci_ge (tgt := 22) hx hb (by omega) (by omega) dX1_nameOf_10 (by decide) (fun c_2 => ?_) (fun c_2 => ?_)
    · refine lv_iconst (v := oI 0) hx hb dX1_nameOf_22 (by decide) ?_
      refine lv_istore_n (lv' := [(2, .int (oI 0)), (0, .ref (a 1)), (1, .int (oI x))]) hx hb dX1_nameOf_23 rfl hl (by decide) rfl (fun ls hl => ?_)
      refine lv_iload_n hx hb dX1_nameOf_24 rfl (lv_at hl 0 rfl) ?_
      refine cz_le (tgt := 41) hx hb (by decide) dX1_nameOf_25 (by decide) (fun _ => ?_) (fun q9 => absurd q9 (by omega))
      refine lv_iconst (v := oI (-1)) hx hb dX1_nameOf_41 (by decide) ?_
      have hpost : True := trivial
      exact W.iret (v := (oI ((-1)))) hx hb hr (fun t ht hW => ⟨⟨(oI ((-1))), (), rfl, hpost, by rw [ht]; exact hP, va_K.moved hW.alike hK, hD⟩, hS.F ht⟩) hS.2.2 dX1_nameOf_42
    · refine lv_aload_n hx hb dX1_nameOf_13 rfl (lv_at hl 0 rfl) ?_
      refine cg_1_0 hx hb hts inX1_nameOf_X1 hown hK hP (hts _ lkX1_nameOf_f11) dX1_nameOf_14 ?_
      refine lv_iload_n hx hb dX1_nameOf_17 rfl (lv_at hl 1 rfl) ?_
      refine cl_0 hx hb hK hP hgf (by omega) dX1_nameOf_18 (fun w_3 hw_3 => ?_)
      have i_4 := i32r w_3
      refine lv_goto (tgt := 23) hx hb dX1_nameOf_19 (by decide) ?_
      refine lv_istore_n (lv' := [(2, .int (oI w_3.toInt)), (0, .ref (a 1)), (1, .int (oI x))]) hx hb dX1_nameOf_23 rfl hl (by decide) rfl (fun ls hl => ?_)
      refine lv_iload_n hx hb dX1_nameOf_24 rfl (lv_at hl 0 rfl) ?_
      refine cz_le (tgt := 41) hx hb (i32r _) dX1_nameOf_25 (by decide) (fun c_5 => ?_) (fun c_5 => ?_)
      · refine lv_iconst (v := oI (-1)) hx hb dX1_nameOf_41 (by decide) ?_
        have hpost : True := trivial
        exact W.iret (v := (oI ((-1)))) hx hb hr (fun t ht hW => ⟨⟨(oI ((-1))), (), rfl, hpost, by rw [ht]; exact hP, va_K.moved hW.alike hK, hD⟩, hS.F ht⟩) hS.2.2 dX1_nameOf_42
      · refine lv_iload_n hx hb dX1_nameOf_28 rfl (lv_at hl 0 rfl) ?_
        refine lv_iconst (v := oI 1) hx hb dX1_nameOf_29 (by decide) ?_
        refine lv_iand hx hb dX1_nameOf_30 ?_
        refine lv_topi (fun v_6 ev_6 => ?_)
        refine tp_i (oI_toInt v_6).symm ?_
        have i_7 := i32r v_6
        refine lv_iconst (v := oI 1) hx hb dX1_nameOf_31 (by decide) ?_
        refine ci_ne (tgt := 41) hx hb (i32r _) (by decide) dX1_nameOf_32 (by decide) (fun c_8 => ?_) (fun c_8 => ?_)
        · refine lv_iconst (v := oI (-1)) hx hb dX1_nameOf_41 (by decide) ?_
          have hpost : True := trivial
          exact W.iret (v := (oI ((-1)))) hx hb hr (fun t ht hW => ⟨⟨(oI ((-1))), (), rfl, hpost, by rw [ht]; exact hP, va_K.moved hW.alike hK, hD⟩, hS.F ht⟩) hS.2.2 dX1_nameOf_42
        · refine lv_iload_n hx hb dX1_nameOf_35 rfl (lv_at hl 0 rfl) ?_
          refine lv_iconst (v := oI 1) hx hb dX1_nameOf_36 (by decide) ?_
          refine lv_ishr hx hb dX1_nameOf_37 ?_
          refine lv_topi (fun v_9 ev_9 => ?_)
          refine tp_i (oI_toInt v_9).symm ?_
          have i_10 := i32r v_9
          refine lv_goto (tgt := 42) hx hb dX1_nameOf_38 (by decide) ?_
          have hpost : True := trivial
          exact W.iret (v := (oI v_9.toInt)) hx hb hr (fun t ht hW => ⟨⟨(oI v_9.toInt), (), rfl, hpost, by rw [ht]; exact hP, va_K.moved hW.alike hK, hD⟩, hS.F ht⟩) hS.2.2 dX1_nameOf_42

set_option maxHeartbeats 4000000 in
set_option maxRecDepth 100000 in
/-- X1_numberOf -/
theorem c_numberOf (l : Launch) (dC : Nat → ClassId) (dI : Nat → Nat → Nat) (cB cC cI cJ cZ : ClassId) (a : Nat → Nat) (F : Nat → Int32) (X : Nat → Nat → Int32) (J : Nat → Nat → Int64) (R : Nat → Nat) (gf gn : Nat) (x : Int)  (ix : (-2147483648 ≤ x ∧ x < 2147483648)) (hgf : gf ≤ 67600) (s0 : Nat) : Met l yX1_numberOf vX1_numberOf { frames := 2, cells := 0, slots := 0, locals := 81 } (va_Pc [.ref (a 1), .int (oI x)] (cPre dC dI cB cC cI cJ cZ a F X J R gf gn s0)) (va_Qi (fun (r : Int32) (_ : Unit) => True) (fun _ => cPost dC dI cB cC cI cJ cZ a F X J R gf gn (va_A (CW cB cC cI cJ cZ a F X J R gf gn) s0)) (va_A (CW cB cC cI cJ cZ a F X J R gf gn) s0)) 0 0 (va_A (CW cB cC cI cJ cZ a F X J R gf gn) s0) := by
  refine Met.ofW (cc := cX1_numberOf) (maxL := 2) (ret := (some .int)) (by decide) rfl ?_
  intro p e s m args below meth c s₁ B9 hml hv
  obtain ⟨rfl, hsz0, hP, hK, hD0, hNW⟩ := hv
  have hx := B9.exec
  have hb := B9.bytes
  have hr := B9.returns
  have hts := atoms_spec (ws := vX1_numberOf) B9.pre
  have hown : s.vm.findClass RX1 = some m.cls := findClass_of_methodNamed B9.named
  have hlocks := B9.notSynchronized
  clear B9
  subst hsz0
  have hD := hD0.self (sz := s.heap.size)
  generalize hAe : va_A (CW cB cC cI cJ cZ a F X J R gf gn) s.heap.size = A at hD ⊢
  have hA : ∀ q : Nat, s.heap.size ≤ q → A q := fun q h => by rw [← hAe]; exact Or.inr h
  have hS : va_S A s.heap s.heap [] := va_S.rf
  have hcs : 0 + 0 ≤ (0 : Nat) ∧ 0 + 0 ≤ (0 : Nat) := ⟨Nat.le_refl 0, Nat.le_refl 0⟩
  have hl := lv_entry ([.ref (a 1), .int (oI x)]) (n := 2) (Nat.le_of_ble_eq_true rfl)
  rw [lg_entry_eq]
  generalize (lg_sl ([.ref (a 1), .int (oI x)]) ++ List.replicate (2 - (lg_sl ([.ref (a 1), .int (oI x)])).length) Slot.unset).toArray = ls at hl ⊢
  have hl : lv_has ls 2 [(0, .ref (a 1)), (1, .int (oI x))] := hl
  refine lv_aload_n hx hb dX1_numberOf_0 rfl (lv_at hl 0 rfl) ?_
  refine lv_iload_n hx hb dX1_numberOf_1 rfl (lv_at hl 1 rfl) ?_
  refine ccs_iV (As := [.int (oI x)]) (rest := []) ⟨hx, hb, hml, hown, hts⟩ (c_whatIs l dC dI cB cC cI cJ cZ a F X J R gf gn x  (by omega) (show gf ≤ 67600 from by first | assumption | omega)  s.heap.size) (cwV 1 hts kX1_numberOf_X1_whatIs_32 rfl rfl rfl (by decide +kernel) ⟨Nat.le_of_ble_eq_true rfl, Nat.le_of_ble_eq_true rfl⟩) (va_recv hK hP (ci := 1) (q0 := 1) rfl rfl) hK hNW hP hD hS hA rfl rfl hl.1 (lv_room (Nat.le_of_ble_eq_true rfl)) dX1_numberOf_2 hcs (fun r_1 hw_2 H locs hP hD hS => ?_)
  have i_3 := i32r r_1
  refine lv_iconst (v := oI 1) hx hb dX1_numberOf_5 (by decide) ?_
  refine lv_ishr hx hb dX1_numberOf_6 ?_
  refine lv_topi (fun v_4 ev_4 => ?_)
  refine tp_i (oI_toInt v_4).symm ?_
  have i_5 := i32r v_4
  have hpost : True := trivial
  exact W.iret (v := (oI v_4.toInt)) hx hb hr (fun t ht hW => ⟨⟨(oI v_4.toInt), (), rfl, hpost, by rw [ht]; exact hP, va_K.moved hW.alike hK, hD⟩, hS.F ht⟩) hS.2.2 dX1_numberOf_7

set_option maxHeartbeats 4000000 in
set_option maxRecDepth 100000 in
/-- X1_size -/
theorem c_size (l : Launch) (dC : Nat → ClassId) (dI : Nat → Nat → Nat) (cB cC cI cJ cZ : ClassId) (a : Nat → Nat) (F : Nat → Int32) (X : Nat → Nat → Int32) (J : Nat → Nat → Int64) (R : Nat → Nat) (gf gn : Nat) (x : Int)  (ix : (-2147483648 ≤ x ∧ x < 2147483648)) (hgf : gf ≤ 67600) (s0 : Nat) : Met l yX1_size vX1_size { frames := 1, cells := 0, slots := 0, locals := 60 } (va_Pc [.ref (a 1), .int (oI x)] (cPre dC dI cB cC cI cJ cZ a F X J R gf gn s0)) (va_Qi (fun (r : Int32) (_ : Unit) => (0 ≤ x ∧ x < (gf : Int) ∧ (r).toInt = ((X 1) (x).toNat).toInt) ∨ (¬ (0 ≤ x ∧ x < (gf : Int)) ∧ (r).toInt = 0)) (fun _ => cPost dC dI cB cC cI cJ cZ a F X J R gf gn (va_A (CW cB cC cI cJ cZ a F X J R gf gn) s0)) (va_A (CW cB cC cI cJ cZ a F X J R gf gn) s0)) 0 0 (va_A (CW cB cC cI cJ cZ a F X J R gf gn) s0) := by
  refine Met.ofW (cc := cX1_size) (maxL := 2) (ret := (some .int)) (by decide) rfl ?_
  intro p e s m args below meth c s₁ B9 hml hv
  obtain ⟨rfl, hsz0, hP, hK, hD0, hNW⟩ := hv
  have hx := B9.exec
  have hb := B9.bytes
  have hr := B9.returns
  have hts := atoms_spec (ws := vX1_size) B9.pre
  have hown : s.vm.findClass RX1 = some m.cls := findClass_of_methodNamed B9.named
  have hlocks := B9.notSynchronized
  clear B9
  subst hsz0
  have hD := hD0.self (sz := s.heap.size)
  generalize hAe : va_A (CW cB cC cI cJ cZ a F X J R gf gn) s.heap.size = A at hD ⊢
  have hA : ∀ q : Nat, s.heap.size ≤ q → A q := fun q h => by rw [← hAe]; exact Or.inr h
  have hS : va_S A s.heap s.heap [] := va_S.rf
  have hcs : 0 + 0 ≤ (0 : Nat) ∧ 0 + 0 ≤ (0 : Nat) := ⟨Nat.le_refl 0, Nat.le_refl 0⟩
  have hl := lv_entry ([.ref (a 1), .int (oI x)]) (n := 2) (Nat.le_of_ble_eq_true rfl)
  rw [lg_entry_eq]
  generalize (lg_sl ([.ref (a 1), .int (oI x)]) ++ List.replicate (2 - (lg_sl ([.ref (a 1), .int (oI x)])).length) Slot.unset).toArray = ls at hl ⊢
  have hl : lv_has ls 2 [(0, .ref (a 1)), (1, .int (oI x))] := hl
  refine lv_iload_n hx hb dX1_size_0 rfl (lv_at hl 1 rfl) ?_
  refine cz_lt (tgt := 22) hx hb (by omega) dX1_size_1 (by decide) (fun c_1 => ?_) (fun c_1 => ?_)
  · refine lv_iconst (v := oI 0) hx hb dX1_size_22 (by decide) ?_
    have e0 : (oI 0).toInt = 0 := by decide
    have hpost : (0 ≤ x ∧ x < (gf : Int) ∧ (oI 0).toInt = ((X 1) (x).toNat).toInt) ∨ (¬ (0 ≤ x ∧ x < (gf : Int)) ∧ (oI 0).toInt = 0) := Or.inr ⟨by omega, by omega⟩
    exact W.iret (v := (oI 0)) hx hb hr (fun t ht hW => ⟨⟨(oI 0), (), rfl, hpost, by rw [ht]; exact hP, va_K.moved hW.alike hK, hD⟩, hS.F ht⟩) hS.2.2 dX1_size_23
  · refine lv_iload_n hx hb dX1_size_4 rfl (lv_at hl 1 rfl) ?_
    refine lv_aload_n hx hb dX1_size_5 rfl (lv_at hl 0 rfl) ?_
    refine cg_1_1 hx hb hts inX1_size_X1 hown hK hP (hts _ lkX1_size_f15) dX1_size_6 ?_
    refine cn_1 hx hb hK hP dX1_size_9 ?_
    refine ci_ge (tgt := 22) hx hb (by omega) (by omega) dX1_size_10 (by decide) (fun c_2 => ?_) (fun c_2 => ?_)
    · refine lv_iconst (v := oI 0) hx hb dX1_size_22 (by decide) ?_
      have e0 : (oI 0).toInt = 0 := by decide
      have hpost : (0 ≤ x ∧ x < (gf : Int) ∧ (oI 0).toInt = ((X 1) (x).toNat).toInt) ∨ (¬ (0 ≤ x ∧ x < (gf : Int)) ∧ (oI 0).toInt = 0) := Or.inr ⟨by omega, by omega⟩
      exact W.iret (v := (oI 0)) hx hb hr (fun t ht hW => ⟨⟨(oI 0), (), rfl, hpost, by rw [ht]; exact hP, va_K.moved hW.alike hK, hD⟩, hS.F ht⟩) hS.2.2 dX1_size_23
    · refine lv_aload_n hx hb dX1_size_13 rfl (lv_at hl 0 rfl) ?_
      refine cg_1_1 hx hb hts inX1_size_X1 hown hK hP (hts _ lkX1_size_f15) dX1_size_14 ?_
      refine lv_iload_n hx hb dX1_size_17 rfl (lv_at hl 1 rfl) ?_
      refine cl_1 hx hb hK hP hgf (by omega) dX1_size_18 (fun w_3 hw_3 => ?_)
      have i_4 := i32r w_3
      refine lv_goto (tgt := 23) hx hb dX1_size_19 (by decide) ?_
      have e0 : (oI w_3.toInt).toInt = w_3.toInt := congrArg Int32.toInt (oI_toInt _)
      have hpost : (0 ≤ x ∧ x < (gf : Int) ∧ (oI w_3.toInt).toInt = ((X 1) (x).toNat).toInt) ∨ (¬ (0 ≤ x ∧ x < (gf : Int)) ∧ (oI w_3.toInt).toInt = 0) := Or.inl ⟨by omega, by omega, by rw [e0, hw_3]⟩
      exact W.iret (v := (oI w_3.toInt)) hx hb hr (fun t ht hW => ⟨⟨(oI w_3.toInt), (), rfl, hpost, by rw [ht]; exact hP, va_K.moved hW.alike hK, hD⟩, hS.F ht⟩) hS.2.2 dX1_size_23

set_option maxHeartbeats 4000000 in
set_option maxRecDepth 100000 in
/-- X1_after -/
theorem c_after (l : Launch) (dC : Nat → ClassId) (dI : Nat → Nat → Nat) (cB cC cI cJ cZ : ClassId) (a : Nat → Nat) (F : Nat → Int32) (X : Nat → Nat → Int32) (J : Nat → Nat → Int64) (R : Nat → Nat) (gf gn : Nat) (x : Int)  (ix : (-2147483648 ≤ x ∧ x < 2147483648)) (hgf : gf ≤ 67600) (hsp : SPR (X 1)) (hx2 : x < 2147483647) (s0 : Nat) : Met l yX1_after vX1_after { frames := 1, cells := 0, slots := 0, locals := 60 } (va_Pc [.ref (a 1), .int (oI x)] (cPre dC dI cB cC cI cJ cZ a F X J R gf gn s0)) (va_Qi (fun (r : Int32) (_ : Unit) => (r).toInt = AF (X 1) gf x ∧ x < (r).toInt ∧ (r).toInt ≤ x + 67600) (fun _ => cPost dC dI cB cC cI cJ cZ a F X J R gf gn (va_A (CW cB cC cI cJ cZ a F X J R gf gn) s0)) (va_A (CW cB cC cI cJ cZ a F X J R gf gn) s0)) 0 0 (va_A (CW cB cC cI cJ cZ a F X J R gf gn) s0) := by
  refine Met.ofW (cc := cX1_after) (maxL := 2) (ret := (some .int)) (by decide) rfl ?_
  intro p e s m args below meth c s₁ B9 hml hv
  obtain ⟨rfl, hsz0, hP, hK, hD0, hNW⟩ := hv
  have hx := B9.exec
  have hb := B9.bytes
  have hr := B9.returns
  have hts := atoms_spec (ws := vX1_after) B9.pre
  have hown : s.vm.findClass RX1 = some m.cls := findClass_of_methodNamed B9.named
  have hlocks := B9.notSynchronized
  clear B9
  subst hsz0
  have hD := hD0.self (sz := s.heap.size)
  generalize hAe : va_A (CW cB cC cI cJ cZ a F X J R gf gn) s.heap.size = A at hD ⊢
  have hA : ∀ q : Nat, s.heap.size ≤ q → A q := fun q h => by rw [← hAe]; exact Or.inr h
  have hS : va_S A s.heap s.heap [] := va_S.rf
  have hcs : 0 + 0 ≤ (0 : Nat) ∧ 0 + 0 ≤ (0 : Nat) := ⟨Nat.le_refl 0, Nat.le_refl 0⟩
  have hl := lv_entry ([.ref (a 1), .int (oI x)]) (n := 2) (Nat.le_of_ble_eq_true rfl)
  rw [lg_entry_eq]
  generalize (lg_sl ([.ref (a 1), .int (oI x)]) ++ List.replicate (2 - (lg_sl ([.ref (a 1), .int (oI x)])).length) Slot.unset).toArray = ls at hl ⊢
  have hl : lv_has ls 2 [(0, .ref (a 1)), (1, .int (oI x))] := hl
  have ac := AF_cases (X 1) gf x
  have sp := hsp x.toNat
  refine lv_iload_n hx hb dX1_after_0 rfl (lv_at hl 1 rfl) ?_
  refine cz_lt (tgt := 34) hx hb (by omega) dX1_after_1 (by decide) (fun c_1 => ?_) (fun c_1 => ?_)
  · refine lv_iload_n hx hb dX1_after_34 rfl (lv_at hl 1 rfl) ?_
    refine lv_iconst (v := oI 1) hx hb dX1_after_35 (by decide) ?_
    refine lv_iadd hx hb dX1_after_36 ?_
    refine tp_i (oI_add x 1) ?_
    have e0 : (oI (x + 1)).toInt = x + 1 := toInt_oI (by omega)
    have hpost : (oI (x + 1)).toInt = AF (X 1) gf x ∧ x < (oI (x + 1)).toInt ∧ (oI (x + 1)).toInt ≤ x + 67600 := by rw [e0]; omega
    exact W.iret (v := (oI (x + 1))) hx hb hr (fun t ht hW => ⟨⟨(oI (x + 1)), (), rfl, hpost, by rw [ht]; exact hP, va_K.moved hW.alike hK, hD⟩, hS.F ht⟩) hS.2.2 dX1_after_37
  · refine lv_iload_n hx hb dX1_after_4 rfl (lv_at hl 1 rfl) ?_
    refine lv_aload_n hx hb dX1_after_5 rfl (lv_at hl 0 rfl) ?_
    refine cg_1_1 hx hb hts inX1_after_X1 hown hK hP (hts _ lkX1_after_f15) dX1_after_6 ?_
    refine cn_1 hx hb hK hP dX1_after_9 ?_
    refine ci_ge (tgt := 34) hx hb (by omega) (by omega) dX1_after_10 (by decide) (fun c_2 => ?_) (fun c_2 => ?_)
    · refine lv_iload_n hx hb dX1_after_34 rfl (lv_at hl 1 rfl) ?_
      refine lv_iconst (v := oI 1) hx hb dX1_after_35 (by decide) ?_
      refine lv_iadd hx hb dX1_after_36 ?_
      refine tp_i (oI_add x 1) ?_
      have e0 : (oI (x + 1)).toInt = x + 1 := toInt_oI (by omega)
      have hpost : (oI (x + 1)).toInt = AF (X 1) gf x ∧ x < (oI (x + 1)).toInt ∧ (oI (x + 1)).toInt ≤ x + 67600 := by rw [e0]; omega
      exact W.iret (v := (oI (x + 1))) hx hb hr (fun t ht hW => ⟨⟨(oI (x + 1)), (), rfl, hpost, by rw [ht]; exact hP, va_K.moved hW.alike hK, hD⟩, hS.F ht⟩) hS.2.2 dX1_after_37
    · refine lv_aload_n hx hb dX1_after_13 rfl (lv_at hl 0 rfl) ?_
      refine cg_1_1 hx hb hts inX1_after_X1 hown hK hP (hts _ lkX1_after_f15) dX1_after_14 ?_
      refine lv_iload_n hx hb dX1_after_17 rfl (lv_at hl 1 rfl) ?_
      refine cl_1 hx hb hK hP hgf (by omega) dX1_after_18 (fun w_3 hw_3 => ?_)
      have i_4 := i32r w_3
      refine lv_iconst (v := oI 1) hx hb dX1_after_19 (by decide) ?_
      refine ci_le (tgt := 34) hx hb (i32r _) (by decide) dX1_after_20 (by decide) (fun c_5 => ?_) (fun c_5 => ?_)
      · refine lv_iload_n hx hb dX1_after_34 rfl (lv_at hl 1 rfl) ?_
        refine lv_iconst (v := oI 1) hx hb dX1_after_35 (by decide) ?_
        refine lv_iadd hx hb dX1_after_36 ?_
        refine tp_i (oI_add x 1) ?_
        have tw_3 : w_3.toInt = (X 1 x.toNat).toInt := by rw [hw_3]
        have e0 : (oI (x + 1)).toInt = x + 1 := toInt_oI (by omega)
        have hpost : (oI (x + 1)).toInt = AF (X 1) gf x ∧ x < (oI (x + 1)).toInt ∧ (oI (x + 1)).toInt ≤ x + 67600 := by rw [e0]; omega
        exact W.iret (v := (oI (x + 1))) hx hb hr (fun t ht hW => ⟨⟨(oI (x + 1)), (), rfl, hpost, by rw [ht]; exact hP, va_K.moved hW.alike hK, hD⟩, hS.F ht⟩) hS.2.2 dX1_after_37
      · refine lv_iload_n hx hb dX1_after_23 rfl (lv_at hl 1 rfl) ?_
        refine lv_aload_n hx hb dX1_after_24 rfl (lv_at hl 0 rfl) ?_
        refine cg_1_1 hx hb hts inX1_after_X1 hown hK hP (hts _ lkX1_after_f15) dX1_after_25 ?_
        refine lv_iload_n hx hb dX1_after_28 rfl (lv_at hl 1 rfl) ?_
        refine cl_1 hx hb hK hP hgf (by omega) dX1_after_29 (fun w_6 hw_6 => ?_)
        have i_7 := i32r w_6
        have q_8 : w_6.toInt = w_3.toInt := by rw [hw_6, hw_3]
        refine lv_iadd hx hb dX1_after_30 ?_
        refine tp_i (oI_add x w_6.toInt) ?_
        refine lv_goto (tgt := 37) hx hb dX1_after_31 (by decide) ?_
        have tw_3 : w_3.toInt = (X 1 x.toNat).toInt := by rw [hw_3]
        have tw_6 : w_6.toInt = (X 1 x.toNat).toInt := by rw [hw_6]
        have e0 : (oI (x + w_6.toInt)).toInt = x + w_6.toInt := toInt_oI (by omega)
        have hpost : (oI (x + w_6.toInt)).toInt = AF (X 1) gf x ∧ x < (oI (x + w_6.toInt)).toInt ∧ (oI (x + w_6.toInt)).toInt ≤ x + 67600 := by rw [e0]; omega
        exact W.iret (v := (oI (x + w_6.toInt))) hx hb hr (fun t ht hW => ⟨⟨(oI (x + w_6.toInt)), (), rfl, hpost, by rw [ht]; exact hP, va_K.moved hW.alike hK, hD⟩, hS.F ht⟩) hS.2.2 dX1_after_37

set_option maxHeartbeats 4000000 in
set_option maxRecDepth 100000 in
/-- X1_head -/
theorem c_head (l : Launch) (dC : Nat → ClassId) (dI : Nat → Nat → Nat) (cB cC cI cJ cZ : ClassId) (a : Nat → Nat) (F : Nat → Int32) (X : Nat → Nat → Int32) (J : Nat → Nat → Int64) (R : Nat → Nat) (gf gn : Nat) (x : Int)  (ix : (-2147483648 ≤ x ∧ x < 2147483648)) (hgf : gf ≤ 67600) (s0 : Nat) : Met l yX1_head vX1_head { frames := 2, cells := 0, slots := 0, locals := 82 } (va_Pc [.ref (a 1), .int (oI x)] (cPre dC dI cB cC cI cJ cZ a F X J R gf gn s0)) (va_Qi (fun (r : Int32) (_ : Unit) => True) (fun _ => cPost dC dI cB cC cI cJ cZ a F X J R gf gn (va_A (CW cB cC cI cJ cZ a F X J R gf gn) s0)) (va_A (CW cB cC cI cJ cZ a F X J R gf gn) s0)) 0 0 (va_A (CW cB cC cI cJ cZ a F X J R gf gn) s0) := by
  refine Met.ofW (cc := cX1_head) (maxL := 2) (ret := (some .int)) (by decide) rfl ?_
  intro p e s m args below meth c s₁ B9 hml hv
  obtain ⟨rfl, hsz0, hP, hK, hD0, hNW⟩ := hv
  have hx := B9.exec
  have hb := B9.bytes
  have hr := B9.returns
  have hts := atoms_spec (ws := vX1_head) B9.pre
  have hown : s.vm.findClass RX1 = some m.cls := findClass_of_methodNamed B9.named
  have hlocks := B9.notSynchronized
  clear B9
  subst hsz0
  have hD := hD0.self (sz := s.heap.size)
  generalize hAe : va_A (CW cB cC cI cJ cZ a F X J R gf gn) s.heap.size = A at hD ⊢
  have hA : ∀ q : Nat, s.heap.size ≤ q → A q := fun q h => by rw [← hAe]; exact Or.inr h
  have hS : va_S A s.heap s.heap [] := va_S.rf
  have hcs : 0 + 0 ≤ (0 : Nat) ∧ 0 + 0 ≤ (0 : Nat) := ⟨Nat.le_refl 0, Nat.le_refl 0⟩
  have hl := lv_entry ([.ref (a 1), .int (oI x)]) (n := 2) (Nat.le_of_ble_eq_true rfl)
  rw [lg_entry_eq]
  generalize (lg_sl ([.ref (a 1), .int (oI x)]) ++ List.replicate (2 - (lg_sl ([.ref (a 1), .int (oI x)])).length) Slot.unset).toArray = ls at hl ⊢
  have hl : lv_has ls 2 [(0, .ref (a 1)), (1, .int (oI x))] := hl
  refine lv_aload_n hx hb dX1_head_0 rfl (lv_at hl 0 rfl) ?_
  refine lv_iload_n hx hb dX1_head_1 rfl (lv_at hl 1 rfl) ?_
  refine ccs_iV (As := [.int (oI x)]) (rest := []) ⟨hx, hb, hml, hown, hts⟩ (c_isList l dC dI cB cC cI cJ cZ a F X J R gf gn x  (by omega) (show gf ≤ 67600 from by first | assumption | omega)  s.heap.size) (cwV 1 hts kX1_head_X1_isList_36 rfl rfl rfl (by decide +kernel) ⟨Nat.le_of_ble_eq_true rfl, Nat.le_of_ble_eq_true rfl⟩) (va_recv hK hP (ci := 1) (q0 := 1) rfl rfl) hK hNW hP hD hS hA rfl rfl hl.1 (lv_room (Nat.le_of_ble_eq_true rfl)) dX1_head_2 hcs (fun r_1 hw_2 H locs hP hD hS => ?_)
  have hw_2 : ((r_1).toInt = 1 ∧ 0 ≤ x ∧ x < (gf : Int)) ∨ (r_1).toInt = 0 := hw_2
  have hil := hw_2
  have i_3 := i32r r_1
  refine cz_eq (tgt := 27) hx hb (i32r _) dX1_head_5 (by decide) (fun c_4 => ?_) (fun c_4 => ?_)
  · refine lv_iconst (v := oI (-1)) hx hb dX1_head_27 (by decide) ?_
    have hpost : True := trivial
    exact W.iret (v := (oI ((-1)))) hx hb hr (fun t ht hW => ⟨⟨(oI ((-1))), (), rfl, hpost, by rw [ht]; exact hP, va_K.moved hW.alike hK, hD⟩, hS.F ht⟩) hS.2.2 dX1_head_28
  · refine lv_aload_n hx hb dX1_head_8 rfl (lv_at hl 0 rfl) ?_
    refine lv_iload_n hx hb dX1_head_9 rfl (lv_at hl 1 rfl) ?_
    refine ccs_iV (As := [.int (oI x)]) (rest := []) ⟨hx, hb, hml, hown, hts⟩ (c_size l dC dI cB cC cI cJ cZ a F X J R gf gn x  (by omega) (show gf ≤ 67600 from by first | assumption | omega)  H.size) (cwV 1 hts kX1_head_X1_size_40 rfl rfl rfl (by decide +kernel) ⟨Nat.le_of_ble_eq_true rfl, Nat.le_of_ble_eq_true rfl⟩) (va_recv hK hP (ci := 1) (q0 := 1) rfl rfl) hK hNW hP hD hS hA rfl rfl hl.1 (lv_room (Nat.le_of_ble_eq_true rfl)) dX1_head_10 hcs (fun r_5 hw_6 H locs hP hD hS => ?_)
    have hw_6 : (0 ≤ x ∧ x < (gf : Int) ∧ (r_5).toInt = ((X 1) (x).toNat).toInt) ∨ (¬ (0 ≤ x ∧ x < (gf : Int)) ∧ (r_5).toInt = 0) := hw_6
    have hsi := hw_6
    have i_7 := i32r r_5
    refine lv_iconst (v := oI 1) hx hb dX1_head_13 (by decide) ?_
    refine ci_le (tgt := 27) hx hb (i32r _) (by decide) dX1_head_14 (by decide) (fun c_8 => ?_) (fun c_8 => ?_)
    · refine lv_iconst (v := oI (-1)) hx hb dX1_head_27 (by decide) ?_
      have hpost : True := trivial
      exact W.iret (v := (oI ((-1)))) hx hb hr (fun t ht hW => ⟨⟨(oI ((-1))), (), rfl, hpost, by rw [ht]; exact hP, va_K.moved hW.alike hK, hD⟩, hS.F ht⟩) hS.2.2 dX1_head_28
    · refine lv_aload_n hx hb dX1_head_17 rfl (lv_at hl 0 rfl) ?_
      refine lv_iload_n hx hb dX1_head_18 rfl (lv_at hl 1 rfl) ?_
      refine lv_iconst (v := oI 1) hx hb dX1_head_19 (by decide) ?_
      refine lv_iadd hx hb dX1_head_20 ?_
      refine tp_i (oI_add x 1) ?_
      refine ccs_iV (As := [.int (oI (x + 1))]) (rest := []) ⟨hx, hb, hml, hown, hts⟩ (c_nameOf l dC dI cB cC cI cJ cZ a F X J R gf gn (x + 1)  (by omega) (show gf ≤ 67600 from by first | assumption | omega)  H.size) (cwV 1 hts kX1_head_X1_nameOf_43 rfl rfl rfl (by decide +kernel) ⟨Nat.le_of_ble_eq_true rfl, Nat.le_of_ble_eq_true rfl⟩) (va_recv hK hP (ci := 1) (q0 := 1) rfl rfl) hK hNW hP hD hS hA rfl rfl hl.1 (lv_room (Nat.le_of_ble_eq_true rfl)) dX1_head_21 hcs (fun r_9 hw_10 H locs hP hD hS => ?_)
      have i_11 := i32r r_9
      refine lv_goto (tgt := 28) hx hb dX1_head_24 (by decide) ?_
      have hpost : True := trivial
      exact W.iret (v := (oI r_9.toInt)) hx hb hr (fun t ht hW => ⟨⟨(oI r_9.toInt), (), rfl, hpost, by rw [ht]; exact hP, va_K.moved hW.alike hK, hD⟩, hS.F ht⟩) hS.2.2 dX1_head_28

set_option maxHeartbeats 4000000 in
set_option maxRecDepth 100000 in
theorem lp_parts {p : Program} {l : Launch} {e : Env} {s : State} {m : MethodId} {args : Array Value} {below : List Frame} {meth : Method} {c : Code} {A : Nat → Prop} {dC : Nat → ClassId} {dI : Nat → Nat → Nat} {cB cC cI cJ cZ : ClassId} {a : Nat → Nat} {F : Nat → Int32} {X : Nat → Nat → Int32} {J : Nat → Nat → Int64} {R : Nat → Nat} {gf gn : Nat} (hx : p.tables.exec = Jvm.exec) (hb : c.code = cX1_parts) (hml : c.maxLocals = 4) (hown : s.vm.findClass RX1 = some m.cls) (hts : ∀ w ∈ vX1_parts, w.before args s = true) (hK : va_K (dC, dI) vwCl (TY cB cC cI cJ cZ) s) (hNW : NW s) (hA : ∀ q : Nat, s.heap.size ≤ q → A q) (hr : meth.sig.returnType = (some .int)) (hlocks : meth.locks = false) (x : Int)  (ix : (-2147483648 ≤ x ∧ x < 2147483648)) (hgf : gf ≤ 67600) (hsp : SPR (X 1))  (hx0 : 0 ≤ x ∧ x < (gf : Int)) : ∀ (k : Nat) (n : Int) (q : Int), (AF (X 1) gf x - q).toNat < k → (-2147483648 ≤ n ∧ n < 2147483648) → (-2147483648 ≤ q ∧ q < 2147483648) → (x < q ∧ q ≤ x + 200000) → (0 ≤ n ∧ n ≤ q - x - 1 ∧ (1 ≤ n → n ≤ AF (X 1) gf x - x - 1)) → (((n = 0 ∧ q = x + 1) ∨ (n = 1 ∧ q = AF (X 1) gf (x + 1) ∧ x + 1 < AF (X 1) gf x) ∨ (n = 2 ∧ q = AF (X 1) gf (AF (X 1) gf (x + 1)) ∧ x + 1 < AF (X 1) gf x ∧ AF (X 1) gf (x + 1) < AF (X 1) gf x) ∨ (3 ≤ n ∧ x + 1 < AF (X 1) gf x ∧ AF (X 1) gf (x + 1) < AF (X 1) gf x ∧ AF (X 1) gf (AF (X 1) gf (x + 1)) < AF (X 1) gf x))) → ∀ (H : Heap) (locs : List Loc), va_P (dC, dI) vwCl (CW cB cC cI cJ cZ a F X J R gf gn) H → va_D A (CW cB cC cI cJ cZ a F X J R gf gn) → va_S A s.heap H locs → ∀ (ls : Array Slot), lv_has ls 4 [(0, .ref (a 1)), (1, .int (oI x)), (2, .int (oI n)), (3, .int (oI q))] → W p l e (headSpec vX1_parts { frames := 2, cells := 0, slots := 0, locals := 81 }).room s m args below meth c H locs 0 0 (MQ below (va_Qi (fun (r : Int32) (_ : Unit) => 0 ≤ (r).toInt ∧ (r).toInt ≤ 67600 ∧ (1 ≤ (r).toInt → x + 1 < AF (X 1) gf x ∧ 0 ≤ x ∧ x < (gf : Int)) ∧ (2 ≤ (r).toInt → AF (X 1) gf (x + 1) < AF (X 1) gf x) ∧ (3 ≤ (r).toInt → AF (X 1) gf (AF (X 1) gf (x + 1)) < AF (X 1) gf x)) (fun _ => cPost dC dI cB cC cI cJ cZ a F X J R gf gn A) A) args s 0 0 A) (F0 m 14 ls []) := by
  have hcs : 0 + 0 ≤ (0 : Nat) ∧ 0 + 0 ≤ (0 : Nat) := ⟨Nat.le_refl 0, Nat.le_refl 0⟩
  intro k
  induction k with
  | zero =>
    intro n q hk in9 iq9 hq hn hc
    exact absurd hk (Nat.not_lt_zero _)
  | succ k ih =>
    intro n q hk in9 iq9 hq hn hc H locs hP hD hS ls hl
    have eb := AF_b hsp gf x
    refine lv_iload_n hx hb dX1_parts_14 rfl (lv_at hl 3 rfl) ?_
    refine lv_aload_n hx hb dX1_parts_15 rfl (lv_at hl 0 rfl) ?_
    refine lv_iload_n hx hb dX1_parts_16 rfl (lv_at hl 1 rfl) ?_
    refine ccs_iV (As := [.int (oI x)]) (rest := [.int (oI q)]) ⟨hx, hb, hml, hown, hts⟩ (c_after l dC dI cB cC cI cJ cZ a F X J R gf gn x  (by omega) (show gf ≤ 67600 from by first | assumption | omega) (show SPR (X 1) from by first | assumption | omega) (show x < 2147483647 from by first | assumption | omega) H.size) (cwV 1 hts kX1_parts_X1_after_46 rfl rfl rfl (by decide +kernel) ⟨Nat.le_of_ble_eq_true rfl, Nat.le_of_ble_eq_true rfl⟩) (va_recv hK hP (ci := 1) (q0 := 1) rfl rfl) hK hNW hP hD hS hA rfl rfl hl.1 (lv_room (Nat.le_of_ble_eq_true rfl)) dX1_parts_17 hcs (fun r_1 hw_2 H locs hP hD hS => ?_)
    have hw_2 : (r_1).toInt = AF (X 1) gf x ∧ x < (r_1).toInt ∧ (r_1).toInt ≤ x + 67600 := hw_2
    obtain ⟨eq1, lq, uq⟩ := hw_2
    have i_3 := i32r r_1
    refine ci_ge (tgt := 35) hx hb (by omega) (i32r _) dX1_parts_20 (by decide) (fun c_4 => ?_) (fun c_4 => ?_)
    · refine lv_iload_n hx hb dX1_parts_35 rfl (lv_at hl 2 rfl) ?_
      have e0 : (oI n).toInt = n := toInt_oI (by omega)
      have hpost : 0 ≤ (oI n).toInt ∧ (oI n).toInt ≤ 67600 ∧ (1 ≤ (oI n).toInt → x + 1 < AF (X 1) gf x ∧ 0 ≤ x ∧ x < (gf : Int)) ∧ (2 ≤ (oI n).toInt → AF (X 1) gf (x + 1) < AF (X 1) gf x) ∧ (3 ≤ (oI n).toInt → AF (X 1) gf (AF (X 1) gf (x + 1)) < AF (X 1) gf x) := by first | assumption | omega | (with_reducible rfl) | ((repeat' apply And.intro) <;> first | assumption | omega | (with_reducible rfl))
      exact W.iret (v := (oI n)) hx hb hr (fun t ht hW => ⟨⟨(oI n), (), rfl, hpost, by rw [ht]; exact hP, va_K.moved hW.alike hK, hD⟩, hS.F ht⟩) hS.2.2 dX1_parts_36
    · refine lv_iinc (v := oI (n + 1)) (lv' := [(2, .int (oI (n + 1))), (0, .ref (a 1)), (1, .int (oI x)), (3, .int (oI q))]) hx hb dX1_parts_23 hl (k := 2) rfl (oI_add n 1) (by decide) rfl (fun ls hl => ?_)
      refine lv_aload_n hx hb dX1_parts_26 rfl (lv_at hl 1 rfl) ?_
      refine lv_iload_n hx hb dX1_parts_27 rfl (lv_at hl 3 rfl) ?_
      refine ccs_iV (As := [.int (oI q)]) (rest := []) ⟨hx, hb, hml, hown, hts⟩ (c_after l dC dI cB cC cI cJ cZ a F X J R gf gn q  (by omega) (show gf ≤ 67600 from by first | assumption | omega) (show SPR (X 1) from by first | assumption | omega) (show q < 2147483647 from by first | assumption | omega) H.size) (cwV 1 hts kX1_parts_X1_after_46 rfl rfl rfl (by decide +kernel) ⟨Nat.le_of_ble_eq_true rfl, Nat.le_of_ble_eq_true rfl⟩) (va_recv hK hP (ci := 1) (q0 := 1) rfl rfl) hK hNW hP hD hS hA rfl rfl hl.1 (lv_room (Nat.le_of_ble_eq_true rfl)) dX1_parts_28 hcs (fun r_5 hw_6 H locs hP hD hS => ?_)
      have hw_6 : (r_5).toInt = AF (X 1) gf q ∧ q < (r_5).toInt ∧ (r_5).toInt ≤ q + 67600 := hw_6
      obtain ⟨eq2, lq, uq⟩ := hw_6
      have i_7 := i32r r_5
      refine lv_istore_n (lv' := [(3, .int (oI r_5.toInt)), (2, .int (oI (n + 1))), (0, .ref (a 1)), (1, .int (oI x))]) hx hb dX1_parts_31 rfl hl (by decide) rfl (fun ls hl => ?_)
      refine lv_goto (tgt := 14) hx hb dX1_parts_32 (by decide) ?_
      have hc2 : (((n + 1) = 0 ∧ r_5.toInt = x + 1) ∨ ((n + 1) = 1 ∧ r_5.toInt = AF (X 1) gf (x + 1) ∧ x + 1 < AF (X 1) gf x) ∨ ((n + 1) = 2 ∧ r_5.toInt = AF (X 1) gf (AF (X 1) gf (x + 1)) ∧ x + 1 < AF (X 1) gf x ∧ AF (X 1) gf (x + 1) < AF (X 1) gf x) ∨ (3 ≤ (n + 1) ∧ x + 1 < AF (X 1) gf x ∧ AF (X 1) gf (x + 1) < AF (X 1) gf x ∧ AF (X 1) gf (AF (X 1) gf (x + 1)) < AF (X 1) gf x)) := by rcases hc with ⟨h1, h2⟩ | ⟨h1, h2, h3⟩ | ⟨h1, h2, h3, h4⟩ | ⟨h1, h2, h3, h4⟩ <;> (try rw [h2] at eq2) <;> omega
      exact ih (n + 1) r_5.toInt (show (AF (X 1) gf x - r_5.toInt).toNat < k from by omega) (by omega) (i32r _) (show x < r_5.toInt ∧ r_5.toInt ≤ x + 200000 from by first | assumption | omega | (with_reducible rfl) | ((repeat' apply And.intro) <;> first | assumption | omega | (with_reducible rfl))) (show 0 ≤ (n + 1) ∧ (n + 1) ≤ r_5.toInt - x - 1 ∧ (1 ≤ (n + 1) → (n + 1) ≤ AF (X 1) gf x - x - 1) from by first | assumption | omega | (with_reducible rfl) | ((repeat' apply And.intro) <;> first | assumption | omega | (with_reducible rfl))) (show ((n + 1 = 0 ∧ r_5.toInt = x + 1) ∨ (n + 1 = 1 ∧ r_5.toInt = AF (X 1) gf (x + 1) ∧ x + 1 < AF (X 1) gf x) ∨ (n + 1 = 2 ∧ r_5.toInt = AF (X 1) gf (AF (X 1) gf (x + 1)) ∧ x + 1 < AF (X 1) gf x ∧ AF (X 1) gf (x + 1) < AF (X 1) gf x) ∨ (3 ≤ n + 1 ∧ x + 1 < AF (X 1) gf x ∧ AF (X 1) gf (x + 1) < AF (X 1) gf x ∧ AF (X 1) gf (AF (X 1) gf (x + 1)) < AF (X 1) gf x)) from hc2) _ _ hP hD hS ls (lv_sub hl [2, 3, 1, 0] rfl)

set_option maxHeartbeats 4000000 in
set_option maxRecDepth 100000 in
theorem c_parts (l : Launch) (dC : Nat → ClassId) (dI : Nat → Nat → Nat) (cB cC cI cJ cZ : ClassId) (a : Nat → Nat) (F : Nat → Int32) (X : Nat → Nat → Int32) (J : Nat → Nat → Int64) (R : Nat → Nat) (gf gn : Nat) (x : Int)  (ix : (-2147483648 ≤ x ∧ x < 2147483648)) (hgf : gf ≤ 67600) (hsp : SPR (X 1)) (s0 : Nat) : Met l yX1_parts vX1_parts { frames := 2, cells := 0, slots := 0, locals := 81 } (va_Pc [.ref (a 1), .int (oI x)] (cPre dC dI cB cC cI cJ cZ a F X J R gf gn s0)) (va_Qi (fun (r : Int32) (_ : Unit) => 0 ≤ (r).toInt ∧ (r).toInt ≤ 67600 ∧ (1 ≤ (r).toInt → x + 1 < AF (X 1) gf x ∧ 0 ≤ x ∧ x < (gf : Int)) ∧ (2 ≤ (r).toInt → AF (X 1) gf (x + 1) < AF (X 1) gf x) ∧ (3 ≤ (r).toInt → AF (X 1) gf (AF (X 1) gf (x + 1)) < AF (X 1) gf x)) (fun _ => cPost dC dI cB cC cI cJ cZ a F X J R gf gn (va_A (CW cB cC cI cJ cZ a F X J R gf gn) s0)) (va_A (CW cB cC cI cJ cZ a F X J R gf gn) s0)) 0 0 (va_A (CW cB cC cI cJ cZ a F X J R gf gn) s0) := by
  refine Met.ofW (cc := cX1_parts) (maxL := 4) (ret := (some .int)) (by decide) rfl ?_
  intro p e s m args below meth c s₁ B9 hml hv
  obtain ⟨rfl, hsz0, hP, hK, hD0, hNW⟩ := hv
  have hx := B9.exec
  have hb := B9.bytes
  have hr := B9.returns
  have hts := atoms_spec (ws := vX1_parts) B9.pre
  have hown : s.vm.findClass RX1 = some m.cls := findClass_of_methodNamed B9.named
  have hlocks := B9.notSynchronized
  clear B9
  subst hsz0
  have hD := hD0.self (sz := s.heap.size)
  generalize hAe : va_A (CW cB cC cI cJ cZ a F X J R gf gn) s.heap.size = A at hD ⊢
  have hA : ∀ q : Nat, s.heap.size ≤ q → A q := fun q h => by rw [← hAe]; exact Or.inr h
  have hS : va_S A s.heap s.heap [] := va_S.rf
  have hcs : 0 + 0 ≤ (0 : Nat) ∧ 0 + 0 ≤ (0 : Nat) := ⟨Nat.le_refl 0, Nat.le_refl 0⟩
  have hl := lv_entry ([.ref (a 1), .int (oI x)]) (n := 4) (Nat.le_of_ble_eq_true rfl)
  rw [lg_entry_eq]
  generalize (lg_sl ([.ref (a 1), .int (oI x)]) ++ List.replicate (4 - (lg_sl ([.ref (a 1), .int (oI x)])).length) Slot.unset).toArray = ls at hl ⊢
  have hl : lv_has ls 4 [(0, .ref (a 1)), (1, .int (oI x))] := hl
  have eb := AF_b hsp gf x
  refine lv_iconst (v := oI 0) hx hb dX1_parts_0 (by decide) ?_
  refine lv_istore_n (lv' := [(2, .int (oI 0)), (0, .ref (a 1)), (1, .int (oI x))]) hx hb dX1_parts_1 rfl hl (by decide) rfl (fun ls hl => ?_)
  refine lv_aload_n hx hb dX1_parts_2 rfl (lv_at hl 1 rfl) ?_
  refine lv_iload_n hx hb dX1_parts_3 rfl (lv_at hl 2 rfl) ?_
  refine ccs_iV (As := [.int (oI x)]) (rest := []) ⟨hx, hb, hml, hown, hts⟩ (c_isList l dC dI cB cC cI cJ cZ a F X J R gf gn x  (by omega) (show gf ≤ 67600 from by first | assumption | omega)  s.heap.size) (cwV 1 hts kX1_parts_X1_isList_36 rfl rfl rfl (by decide +kernel) ⟨Nat.le_of_ble_eq_true rfl, Nat.le_of_ble_eq_true rfl⟩) (va_recv hK hP (ci := 1) (q0 := 1) rfl rfl) hK hNW hP hD hS hA rfl rfl hl.1 (lv_room (Nat.le_of_ble_eq_true rfl)) dX1_parts_4 hcs (fun r_1 hw_2 H locs hP hD hS => ?_)
  have hw_2 : ((r_1).toInt = 1 ∧ 0 ≤ x ∧ x < (gf : Int)) ∨ (r_1).toInt = 0 := hw_2
  have hil := hw_2
  have i_3 := i32r r_1
  refine cz_eq (tgt := 35) hx hb (i32r _) dX1_parts_7 (by decide) (fun c_4 => ?_) (fun c_4 => ?_)
  · refine lv_iload_n hx hb dX1_parts_35 rfl (lv_at hl 0 rfl) ?_
    have e0 : (oI 0).toInt = 0 := by decide
    have hpost : 0 ≤ (oI 0).toInt ∧ (oI 0).toInt ≤ 67600 ∧ (1 ≤ (oI 0).toInt → x + 1 < AF (X 1) gf x ∧ 0 ≤ x ∧ x < (gf : Int)) ∧ (2 ≤ (oI 0).toInt → AF (X 1) gf (x + 1) < AF (X 1) gf x) ∧ (3 ≤ (oI 0).toInt → AF (X 1) gf (AF (X 1) gf (x + 1)) < AF (X 1) gf x) := by first | assumption | omega | (with_reducible rfl) | ((repeat' apply And.intro) <;> first | assumption | omega | (with_reducible rfl))
    exact W.iret (v := (oI 0)) hx hb hr (fun t ht hW => ⟨⟨(oI 0), (), rfl, hpost, by rw [ht]; exact hP, va_K.moved hW.alike hK, hD⟩, hS.F ht⟩) hS.2.2 dX1_parts_36
  · refine lv_iload_n hx hb dX1_parts_10 rfl (lv_at hl 2 rfl) ?_
    refine lv_iconst (v := oI 1) hx hb dX1_parts_11 (by decide) ?_
    refine lv_iadd hx hb dX1_parts_12 ?_
    refine tp_i (oI_add x 1) ?_
    refine lv_istore_n (lv' := [(3, .int (oI (x + 1))), (2, .int (oI 0)), (0, .ref (a 1)), (1, .int (oI x))]) hx hb dX1_parts_13 rfl hl (by decide) rfl (fun ls hl => ?_)
    have hx0 : 0 ≤ x ∧ x < (gf : Int) := by omega
    exact lp_parts hx hb hml hown hts hK hNW hA hr hlocks x ix (by assumption) (by assumption)  hx0 _ 0 (x + 1) (Nat.lt_succ_self _) (by decide) (by omega) (show x < (x + 1) ∧ (x + 1) ≤ x + 200000 from by first | assumption | omega | (with_reducible rfl) | ((repeat' apply And.intro) <;> first | assumption | omega | (with_reducible rfl))) (show 0 ≤ 0 ∧ 0 ≤ (x + 1) - x - 1 ∧ (1 ≤ 0 → 0 ≤ AF (X 1) gf x - x - 1) from by first | assumption | omega | (with_reducible rfl) | ((repeat' apply And.intro) <;> first | assumption | omega | (with_reducible rfl))) (show ((0 = 0 ∧ x + 1 = x + 1) ∨ (0 = 1 ∧ x + 1 = AF (X 1) gf (x + 1) ∧ x + 1 < AF (X 1) gf x) ∨ (0 = 2 ∧ x + 1 = AF (X 1) gf (AF (X 1) gf (x + 1)) ∧ x + 1 < AF (X 1) gf x ∧ AF (X 1) gf (x + 1) < AF (X 1) gf x) ∨ (3 ≤ 0 ∧ x + 1 < AF (X 1) gf x ∧ AF (X 1) gf (x + 1) < AF (X 1) gf x ∧ AF (X 1) gf (AF (X 1) gf (x + 1)) < AF (X 1) gf x)) from Or.inl ⟨rfl, rfl⟩) _ _ hP hD hS ls (lv_sub hl [2, 3, 1, 0] rfl)

set_option maxHeartbeats 4000000 in
set_option maxRecDepth 100000 in
/-- X1_part -/
theorem c_part1 (l : Launch) (dC : Nat → ClassId) (dI : Nat → Nat → Nat) (cB cC cI cJ cZ : ClassId) (a : Nat → Nat) (F : Nat → Int32) (X : Nat → Nat → Int32) (J : Nat → Nat → Int64) (R : Nat → Nat) (gf gn : Nat) (x : Int)  (ix : (-2147483648 ≤ x ∧ x < 2147483648)) (hgf : gf ≤ 67600) (hsp : SPR (X 1)) (hx2 : x < 1073741824) (s0 : Nat) : Met l yX1_part vX1_part { frames := 2, cells := 0, slots := 0, locals := 81 } (va_Pc [.ref (a 1), .int (oI x), .int (oI 1)] (cPre dC dI cB cC cI cJ cZ a F X J R gf gn s0)) (va_Qi (fun (r : Int32) (_ : Unit) => (r).toInt = AF (X 1) gf (x + 1) ∧ x + 1 < (r).toInt ∧ (r).toInt ≤ x + 67601) (fun _ => cPost dC dI cB cC cI cJ cZ a F X J R gf gn (va_A (CW cB cC cI cJ cZ a F X J R gf gn) s0)) (va_A (CW cB cC cI cJ cZ a F X J R gf gn) s0)) 0 0 (va_A (CW cB cC cI cJ cZ a F X J R gf gn) s0) := by
  refine Met.ofW (cc := cX1_part) (maxL := 5) (ret := (some .int)) (by decide) rfl ?_
  intro p e s m args below meth c s₁ B9 hml hv
  obtain ⟨rfl, hsz0, hP, hK, hD0, hNW⟩ := hv
  have hx := B9.exec
  have hb := B9.bytes
  have hr := B9.returns
  have hts := atoms_spec (ws := vX1_part) B9.pre
  have hown : s.vm.findClass RX1 = some m.cls := findClass_of_methodNamed B9.named
  have hlocks := B9.notSynchronized
  clear B9
  subst hsz0
  have hD := hD0.self (sz := s.heap.size)
  generalize hAe : va_A (CW cB cC cI cJ cZ a F X J R gf gn) s.heap.size = A at hD ⊢
  have hA : ∀ q : Nat, s.heap.size ≤ q → A q := fun q h => by rw [← hAe]; exact Or.inr h
  have hS : va_S A s.heap s.heap [] := va_S.rf
  have hcs : 0 + 0 ≤ (0 : Nat) ∧ 0 + 0 ≤ (0 : Nat) := ⟨Nat.le_refl 0, Nat.le_refl 0⟩
  have hl := lv_entry ([.ref (a 1), .int (oI x), .int (oI 1)]) (n := 5) (Nat.le_of_ble_eq_true rfl)
  rw [lg_entry_eq]
  generalize (lg_sl ([.ref (a 1), .int (oI x), .int (oI 1)]) ++ List.replicate (5 - (lg_sl ([.ref (a 1), .int (oI x), .int (oI 1)])).length) Slot.unset).toArray = ls at hl ⊢
  have hl : lv_has ls 5 [(0, .ref (a 1)), (1, .int (oI x)), (2, .int (oI 1))] := hl
  refine lv_iload_n hx hb dX1_part_0 rfl (lv_at hl 1 rfl) ?_
  refine lv_iconst (v := oI 1) hx hb dX1_part_1 (by decide) ?_
  refine lv_iadd hx hb dX1_part_2 ?_
  refine tp_i (oI_add x 1) ?_
  refine lv_istore_n (lv' := [(3, .int (oI (x + 1))), (0, .ref (a 1)), (1, .int (oI x)), (2, .int (oI 1))]) hx hb dX1_part_3 rfl hl (by decide) rfl (fun ls hl => ?_)
  refine lv_iconst (v := oI 0) hx hb dX1_part_4 (by decide) ?_
  refine lv_istore (lv' := [(4, .int (oI 0)), (3, .int (oI (x + 1))), (0, .ref (a 1)), (1, .int (oI x)), (2, .int (oI 1))]) hx hb dX1_part_5 hl (by decide) rfl (fun ls hl => ?_)
  refine lv_iload hx hb dX1_part_7 (lv_at hl 0 rfl) ?_
  refine lv_iload_n hx hb dX1_part_9 rfl (lv_at hl 4 rfl) ?_
  refine ci_ge (tgt := 25) hx hb (by decide) (by decide) dX1_part_10 (by decide) (fun q9 => absurd q9 (by omega)) (fun _ => ?_)
  refine lv_aload_n hx hb dX1_part_13 rfl (lv_at hl 2 rfl) ?_
  refine lv_iload_n hx hb dX1_part_14 rfl (lv_at hl 1 rfl) ?_
  refine ccs_iV (As := [.int (oI (x + 1))]) (rest := []) ⟨hx, hb, hml, hown, hts⟩ (c_after l dC dI cB cC cI cJ cZ a F X J R gf gn (x + 1)  (by omega) (show gf ≤ 67600 from by first | assumption | omega) (show SPR (X 1) from by first | assumption | omega) (show x + 1 < 2147483647 from by first | assumption | omega) s.heap.size) (cwV 1 hts kX1_part_X1_after_46 rfl rfl rfl (by decide +kernel) ⟨Nat.le_of_ble_eq_true rfl, Nat.le_of_ble_eq_true rfl⟩) (va_recv hK hP (ci := 1) (q0 := 1) rfl rfl) hK hNW hP hD hS hA rfl rfl hl.1 (lv_room (Nat.le_of_ble_eq_true rfl)) dX1_part_15 hcs (fun r_1 hw_2 H locs hP hD hS => ?_)
  have hw_2 : (r_1).toInt = AF (X 1) gf (x + 1) ∧ (x + 1) < (r_1).toInt ∧ (r_1).toInt ≤ (x + 1) + 67600 := hw_2
  obtain ⟨ea1, la1, ua1⟩ := hw_2
  have i_3 := i32r r_1
  refine lv_istore_n (lv' := [(3, .int (oI r_1.toInt)), (4, .int (oI 0)), (0, .ref (a 1)), (1, .int (oI x)), (2, .int (oI 1))]) hx hb dX1_part_18 rfl hl (by decide) rfl (fun ls hl => ?_)
  refine lv_iinc (v := oI (1)) (lv' := [(4, .int (oI 1)), (3, .int (oI r_1.toInt)), (0, .ref (a 1)), (1, .int (oI x)), (2, .int (oI 1))]) hx hb dX1_part_19 hl (k := 1) rfl (by decide) (by decide) rfl (fun ls hl => ?_)
  refine lv_goto (tgt := 7) hx hb dX1_part_22 (by decide) ?_
  refine lv_iload hx hb dX1_part_7 (lv_at hl 0 rfl) ?_
  refine lv_iload_n hx hb dX1_part_9 rfl (lv_at hl 4 rfl) ?_
  refine ci_ge (tgt := 25) hx hb (by decide) (by decide) dX1_part_10 (by decide) (fun _ => ?_) (fun q9 => absurd q9 (by omega))
  refine lv_iload_n hx hb dX1_part_25 rfl (lv_at hl 1 rfl) ?_
  have e0 : (oI r_1.toInt).toInt = r_1.toInt := congrArg Int32.toInt (oI_toInt _)
  have hpost : (oI r_1.toInt).toInt = AF (X 1) gf (x + 1) ∧ x + 1 < (oI r_1.toInt).toInt ∧ (oI r_1.toInt).toInt ≤ x + 67601 := by rw [e0]; omega
  exact W.iret (v := (oI r_1.toInt)) hx hb hr (fun t ht hW => ⟨⟨(oI r_1.toInt), (), rfl, hpost, by rw [ht]; exact hP, va_K.moved hW.alike hK, hD⟩, hS.F ht⟩) hS.2.2 dX1_part_26

set_option maxHeartbeats 4000000 in
set_option maxRecDepth 100000 in
/-- X1_part -/
theorem c_part2 (l : Launch) (dC : Nat → ClassId) (dI : Nat → Nat → Nat) (cB cC cI cJ cZ : ClassId) (a : Nat → Nat) (F : Nat → Int32) (X : Nat → Nat → Int32) (J : Nat → Nat → Int64) (R : Nat → Nat) (gf gn : Nat) (x : Int)  (ix : (-2147483648 ≤ x ∧ x < 2147483648)) (hgf : gf ≤ 67600) (hsp : SPR (X 1)) (hx2 : x < 1073741824) (s0 : Nat) : Met l yX1_part vX1_part { frames := 2, cells := 0, slots := 0, locals := 81 } (va_Pc [.ref (a 1), .int (oI x), .int (oI 2)] (cPre dC dI cB cC cI cJ cZ a F X J R gf gn s0)) (va_Qi (fun (r : Int32) (_ : Unit) => (r).toInt = AF (X 1) gf (AF (X 1) gf (x + 1)) ∧ x + 2 < (r).toInt ∧ (r).toInt ≤ x + 135201) (fun _ => cPost dC dI cB cC cI cJ cZ a F X J R gf gn (va_A (CW cB cC cI cJ cZ a F X J R gf gn) s0)) (va_A (CW cB cC cI cJ cZ a F X J R gf gn) s0)) 0 0 (va_A (CW cB cC cI cJ cZ a F X J R gf gn) s0) := by
  refine Met.ofW (cc := cX1_part) (maxL := 5) (ret := (some .int)) (by decide) rfl ?_
  intro p e s m args below meth c s₁ B9 hml hv
  obtain ⟨rfl, hsz0, hP, hK, hD0, hNW⟩ := hv
  have hx := B9.exec
  have hb := B9.bytes
  have hr := B9.returns
  have hts := atoms_spec (ws := vX1_part) B9.pre
  have hown : s.vm.findClass RX1 = some m.cls := findClass_of_methodNamed B9.named
  have hlocks := B9.notSynchronized
  clear B9
  subst hsz0
  have hD := hD0.self (sz := s.heap.size)
  generalize hAe : va_A (CW cB cC cI cJ cZ a F X J R gf gn) s.heap.size = A at hD ⊢
  have hA : ∀ q : Nat, s.heap.size ≤ q → A q := fun q h => by rw [← hAe]; exact Or.inr h
  have hS : va_S A s.heap s.heap [] := va_S.rf
  have hcs : 0 + 0 ≤ (0 : Nat) ∧ 0 + 0 ≤ (0 : Nat) := ⟨Nat.le_refl 0, Nat.le_refl 0⟩
  have hl := lv_entry ([.ref (a 1), .int (oI x), .int (oI 2)]) (n := 5) (Nat.le_of_ble_eq_true rfl)
  rw [lg_entry_eq]
  generalize (lg_sl ([.ref (a 1), .int (oI x), .int (oI 2)]) ++ List.replicate (5 - (lg_sl ([.ref (a 1), .int (oI x), .int (oI 2)])).length) Slot.unset).toArray = ls at hl ⊢
  have hl : lv_has ls 5 [(0, .ref (a 1)), (1, .int (oI x)), (2, .int (oI 2))] := hl
  refine lv_iload_n hx hb dX1_part_0 rfl (lv_at hl 1 rfl) ?_
  refine lv_iconst (v := oI 1) hx hb dX1_part_1 (by decide) ?_
  refine lv_iadd hx hb dX1_part_2 ?_
  refine tp_i (oI_add x 1) ?_
  refine lv_istore_n (lv' := [(3, .int (oI (x + 1))), (0, .ref (a 1)), (1, .int (oI x)), (2, .int (oI 2))]) hx hb dX1_part_3 rfl hl (by decide) rfl (fun ls hl => ?_)
  refine lv_iconst (v := oI 0) hx hb dX1_part_4 (by decide) ?_
  refine lv_istore (lv' := [(4, .int (oI 0)), (3, .int (oI (x + 1))), (0, .ref (a 1)), (1, .int (oI x)), (2, .int (oI 2))]) hx hb dX1_part_5 hl (by decide) rfl (fun ls hl => ?_)
  refine lv_iload hx hb dX1_part_7 (lv_at hl 0 rfl) ?_
  refine lv_iload_n hx hb dX1_part_9 rfl (lv_at hl 4 rfl) ?_
  refine ci_ge (tgt := 25) hx hb (by decide) (by decide) dX1_part_10 (by decide) (fun q9 => absurd q9 (by omega)) (fun _ => ?_)
  refine lv_aload_n hx hb dX1_part_13 rfl (lv_at hl 2 rfl) ?_
  refine lv_iload_n hx hb dX1_part_14 rfl (lv_at hl 1 rfl) ?_
  refine ccs_iV (As := [.int (oI (x + 1))]) (rest := []) ⟨hx, hb, hml, hown, hts⟩ (c_after l dC dI cB cC cI cJ cZ a F X J R gf gn (x + 1)  (by omega) (show gf ≤ 67600 from by first | assumption | omega) (show SPR (X 1) from by first | assumption | omega) (show x + 1 < 2147483647 from by first | assumption | omega) s.heap.size) (cwV 1 hts kX1_part_X1_after_46 rfl rfl rfl (by decide +kernel) ⟨Nat.le_of_ble_eq_true rfl, Nat.le_of_ble_eq_true rfl⟩) (va_recv hK hP (ci := 1) (q0 := 1) rfl rfl) hK hNW hP hD hS hA rfl rfl hl.1 (lv_room (Nat.le_of_ble_eq_true rfl)) dX1_part_15 hcs (fun r_1 hw_2 H locs hP hD hS => ?_)
  have hw_2 : (r_1).toInt = AF (X 1) gf (x + 1) ∧ (x + 1) < (r_1).toInt ∧ (r_1).toInt ≤ (x + 1) + 67600 := hw_2
  obtain ⟨ea1, la1, ua1⟩ := hw_2
  have i_3 := i32r r_1
  refine lv_istore_n (lv' := [(3, .int (oI r_1.toInt)), (4, .int (oI 0)), (0, .ref (a 1)), (1, .int (oI x)), (2, .int (oI 2))]) hx hb dX1_part_18 rfl hl (by decide) rfl (fun ls hl => ?_)
  refine lv_iinc (v := oI (1)) (lv' := [(4, .int (oI 1)), (3, .int (oI r_1.toInt)), (0, .ref (a 1)), (1, .int (oI x)), (2, .int (oI 2))]) hx hb dX1_part_19 hl (k := 1) rfl (by decide) (by decide) rfl (fun ls hl => ?_)
  refine lv_goto (tgt := 7) hx hb dX1_part_22 (by decide) ?_
  refine lv_iload hx hb dX1_part_7 (lv_at hl 0 rfl) ?_
  refine lv_iload_n hx hb dX1_part_9 rfl (lv_at hl 4 rfl) ?_
  refine ci_ge (tgt := 25) hx hb (by decide) (by decide) dX1_part_10 (by decide) (fun q9 => absurd q9 (by omega)) (fun _ => ?_)
  refine lv_aload_n hx hb dX1_part_13 rfl (lv_at hl 2 rfl) ?_
  refine lv_iload_n hx hb dX1_part_14 rfl (lv_at hl 1 rfl) ?_
  refine ccs_iV (As := [.int (oI r_1.toInt)]) (rest := []) ⟨hx, hb, hml, hown, hts⟩ (c_after l dC dI cB cC cI cJ cZ a F X J R gf gn r_1.toInt  (i32r _) (show gf ≤ 67600 from by first | assumption | omega) (show SPR (X 1) from by first | assumption | omega) (show r_1.toInt < 2147483647 from by first | assumption | omega) H.size) (cwV 1 hts kX1_part_X1_after_46 rfl rfl rfl (by decide +kernel) ⟨Nat.le_of_ble_eq_true rfl, Nat.le_of_ble_eq_true rfl⟩) (va_recv hK hP (ci := 1) (q0 := 1) rfl rfl) hK hNW hP hD hS hA rfl rfl hl.1 (lv_room (Nat.le_of_ble_eq_true rfl)) dX1_part_15 hcs (fun r_4 hw_5 H locs hP hD hS => ?_)
  have hw_5 : (r_4).toInt = AF (X 1) gf r_1.toInt ∧ r_1.toInt < (r_4).toInt ∧ (r_4).toInt ≤ r_1.toInt + 67600 := hw_5
  obtain ⟨ea2, la2, ua2⟩ := hw_5
  have i_6 := i32r r_4
  refine lv_istore_n (lv' := [(3, .int (oI r_4.toInt)), (4, .int (oI 1)), (0, .ref (a 1)), (1, .int (oI x)), (2, .int (oI 2))]) hx hb dX1_part_18 rfl hl (by decide) rfl (fun ls hl => ?_)
  refine lv_iinc (v := oI (2)) (lv' := [(4, .int (oI 2)), (3, .int (oI r_4.toInt)), (0, .ref (a 1)), (1, .int (oI x)), (2, .int (oI 2))]) hx hb dX1_part_19 hl (k := 1) rfl (by decide) (by decide) rfl (fun ls hl => ?_)
  refine lv_goto (tgt := 7) hx hb dX1_part_22 (by decide) ?_
  refine lv_iload hx hb dX1_part_7 (lv_at hl 0 rfl) ?_
  refine lv_iload_n hx hb dX1_part_9 rfl (lv_at hl 4 rfl) ?_
  refine ci_ge (tgt := 25) hx hb (by decide) (by decide) dX1_part_10 (by decide) (fun _ => ?_) (fun q9 => absurd q9 (by omega))
  refine lv_iload_n hx hb dX1_part_25 rfl (lv_at hl 1 rfl) ?_
  rw [ea1] at ea2
  have e0 : (oI r_4.toInt).toInt = r_4.toInt := congrArg Int32.toInt (oI_toInt _)
  have hpost : (oI r_4.toInt).toInt = AF (X 1) gf (AF (X 1) gf (x + 1)) ∧ x + 2 < (oI r_4.toInt).toInt ∧ (oI r_4.toInt).toInt ≤ x + 135201 := by rw [e0]; omega
  exact W.iret (v := (oI r_4.toInt)) hx hb hr (fun t ht hW => ⟨⟨(oI r_4.toInt), (), rfl, hpost, by rw [ht]; exact hP, va_K.moved hW.alike hK, hD⟩, hS.F ht⟩) hS.2.2 dX1_part_26

set_option maxHeartbeats 4000000 in
set_option maxRecDepth 100000 in
theorem lp_holdsDots {p : Program} {l : Launch} {e : Env} {s : State} {m : MethodId} {args : Array Value} {below : List Frame} {meth : Method} {c : Code} {A : Nat → Prop} {dC : Nat → ClassId} {dI : Nat → Nat → Nat} {cB cC cI cJ cZ : ClassId} {a : Nat → Nat} {F : Nat → Int32} {X : Nat → Nat → Int32} {J : Nat → Nat → Int64} {R : Nat → Nat} {gf gn : Nat} (hx : p.tables.exec = Jvm.exec) (hb : c.code = cX1_holdsDots) (hml : c.maxLocals = 3) (hown : s.vm.findClass RX1 = some m.cls) (hts : ∀ w ∈ vX1_holdsDots, w.before args s = true) (hK : va_K (dC, dI) vwCl (TY cB cC cI cJ cZ) s) (hNW : NW s) (hA : ∀ q : Nat, s.heap.size ≤ q → A q) (hr : meth.sig.returnType = (some .boolean)) (hlocks : meth.locks = false) (x : Int)  (ix : (-2147483648 ≤ x ∧ x < 2147483648)) (hgf : gf ≤ 67600) (hsp : SPR (X 1)) (hx2 : x < 1073741824)   : ∀ (k : Nat) (q : Int), (AF (X 1) gf x - q).toNat < k → (-2147483648 ≤ q ∧ q < 2147483648) → (x ≤ q ∧ q ≤ x + 67600) → ∀ (H : Heap) (locs : List Loc), va_P (dC, dI) vwCl (CW cB cC cI cJ cZ a F X J R gf gn) H → va_D A (CW cB cC cI cJ cZ a F X J R gf gn) → va_S A s.heap H locs → ∀ (ls : Array Slot), lv_has ls 3 [(0, .ref (a 1)), (1, .int (oI x)), (2, .int (oI q))] → W p l e (headSpec vX1_holdsDots { frames := 2, cells := 0, slots := 0, locals := 82 }).room s m args below meth c H locs 0 0 (MQ below (va_Qi (fun (r : Int32) (_ : Unit) => (r).toInt = 0 ∨ (r).toInt = 1) (fun _ => cPost dC dI cB cC cI cJ cZ a F X J R gf gn A) A) args s 0 0 A) (F0 m 2 ls []) := by
  have hcs : 0 + 0 ≤ (0 : Nat) ∧ 0 + 0 ≤ (0 : Nat) := ⟨Nat.le_refl 0, Nat.le_refl 0⟩
  intro k
  induction k with
  | zero =>
    intro q hk iq9 hq
    exact absurd hk (Nat.not_lt_zero _)
  | succ k ih =>
    intro q hk iq9 hq H locs hP hD hS ls hl
    have eb := AF_b hsp gf x
    refine lv_iload_n hx hb dX1_holdsDots_2 rfl (lv_at hl 2 rfl) ?_
    refine lv_aload_n hx hb dX1_holdsDots_3 rfl (lv_at hl 0 rfl) ?_
    refine lv_iload_n hx hb dX1_holdsDots_4 rfl (lv_at hl 1 rfl) ?_
    refine ccs_iV (As := [.int (oI x)]) (rest := [.int (oI q)]) ⟨hx, hb, hml, hown, hts⟩ (c_after l dC dI cB cC cI cJ cZ a F X J R gf gn x  (by omega) (show gf ≤ 67600 from by first | assumption | omega) (show SPR (X 1) from by first | assumption | omega) (show x < 2147483647 from by first | assumption | omega) H.size) (cwV 1 hts kX1_holdsDots_X1_after_46 rfl rfl rfl (by decide +kernel) ⟨Nat.le_of_ble_eq_true rfl, Nat.le_of_ble_eq_true rfl⟩) (va_recv hK hP (ci := 1) (q0 := 1) rfl rfl) hK hNW hP hD hS hA rfl rfl hl.1 (lv_room (Nat.le_of_ble_eq_true rfl)) dX1_holdsDots_5 hcs (fun r_1 hw_2 H locs hP hD hS => ?_)
    have hw_2 : (r_1).toInt = AF (X 1) gf x ∧ x < (r_1).toInt ∧ (r_1).toInt ≤ x + 67600 := hw_2
    obtain ⟨ea, la, ua⟩ := hw_2
    have i_3 := i32r r_1
    refine ci_ge (tgt := 29) hx hb (by omega) (i32r _) dX1_holdsDots_8 (by decide) (fun c_4 => ?_) (fun c_4 => ?_)
    · refine lv_iconst (v := oI 0) hx hb dX1_holdsDots_29 (by decide) ?_
      have e0 : (oI 0).toInt = 0 := by decide
      have hpost : (oI 0).toInt = 0 ∨ (oI 0).toInt = 1 := by first | assumption | omega | (with_reducible rfl) | ((repeat' apply And.intro) <;> first | assumption | omega | (with_reducible rfl))
      exact W.zret (v := (oI 0)) hx hb hr (by first | rfl | decide | exact zb9 (by omega)) (fun t ht hW => ⟨⟨(oI 0), (), rfl, hpost, by rw [ht]; exact hP, va_K.moved hW.alike hK, hD⟩, hS.F ht⟩) hS.2.2 dX1_holdsDots_30
    · refine lv_aload_n hx hb dX1_holdsDots_11 rfl (lv_at hl 0 rfl) ?_
      refine lv_iload_n hx hb dX1_holdsDots_12 rfl (lv_at hl 2 rfl) ?_
      refine ccs_iV (As := [.int (oI q)]) (rest := []) ⟨hx, hb, hml, hown, hts⟩ (c_nameOf l dC dI cB cC cI cJ cZ a F X J R gf gn q  (by omega) (show gf ≤ 67600 from by first | assumption | omega)  H.size) (cwV 1 hts kX1_holdsDots_X1_nameOf_43 rfl rfl rfl (by decide +kernel) ⟨Nat.le_of_ble_eq_true rfl, Nat.le_of_ble_eq_true rfl⟩) (va_recv hK hP (ci := 1) (q0 := 1) rfl rfl) hK hNW hP hD hS hA rfl rfl hl.1 (lv_room (Nat.le_of_ble_eq_true rfl)) dX1_holdsDots_13 hcs (fun r_5 hw_6 H locs hP hD hS => ?_)
      have i_7 := i32r r_5
      refine lv_bipush (v := oI 7) hx hb dX1_holdsDots_16 (by decide) ?_
      refine ci_ne (tgt := 23) hx hb (i32r _) (by decide) dX1_holdsDots_18 (by decide) (fun c_8 => ?_) (fun c_8 => ?_)
      · refine lv_iinc (v := oI (q + 1)) (lv' := [(2, .int (oI (q + 1))), (0, .ref (a 1)), (1, .int (oI x))]) hx hb dX1_holdsDots_23 hl (k := 2) rfl (oI_add q 1) (by decide) rfl (fun ls hl => ?_)
        refine lv_goto (tgt := 2) hx hb dX1_holdsDots_26 (by decide) ?_
        exact ih (q + 1) (show (AF (X 1) gf x - (q + 1)).toNat < k from by omega) (by omega) (show x ≤ (q + 1) ∧ (q + 1) ≤ x + 67600 from by first | assumption | omega | (with_reducible rfl) | ((repeat' apply And.intro) <;> first | assumption | omega | (with_reducible rfl))) _ _ hP hD hS ls (lv_sub hl [1, 2, 0] rfl)
      · refine lv_iconst (v := oI 1) hx hb dX1_holdsDots_21 (by decide) ?_
        have e0 : (oI 1).toInt = 1 := by decide
        have hpost : (oI 1).toInt = 0 ∨ (oI 1).toInt = 1 := by first | assumption | omega | (with_reducible rfl) | ((repeat' apply And.intro) <;> first | assumption | omega | (with_reducible rfl))
        exact W.zret (v := (oI 1)) hx hb hr (by first | rfl | decide | exact zb9 (by omega)) (fun t ht hW => ⟨⟨(oI 1), (), rfl, hpost, by rw [ht]; exact hP, va_K.moved hW.alike hK, hD⟩, hS.F ht⟩) hS.2.2 dX1_holdsDots_22

set_option maxHeartbeats 4000000 in
set_option maxRecDepth 100000 in
/-- X1_holdsDots -/
theorem c_holdsDots (l : Launch) (dC : Nat → ClassId) (dI : Nat → Nat → Nat) (cB cC cI cJ cZ : ClassId) (a : Nat → Nat) (F : Nat → Int32) (X : Nat → Nat → Int32) (J : Nat → Nat → Int64) (R : Nat → Nat) (gf gn : Nat) (x : Int)  (ix : (-2147483648 ≤ x ∧ x < 2147483648)) (hgf : gf ≤ 67600) (hsp : SPR (X 1)) (hx2 : x < 1073741824) (s0 : Nat) : Met l yX1_holdsDots vX1_holdsDots { frames := 2, cells := 0, slots := 0, locals := 82 } (va_Pc [.ref (a 1), .int (oI x)] (cPre dC dI cB cC cI cJ cZ a F X J R gf gn s0)) (va_Qi (fun (r : Int32) (_ : Unit) => (r).toInt = 0 ∨ (r).toInt = 1) (fun _ => cPost dC dI cB cC cI cJ cZ a F X J R gf gn (va_A (CW cB cC cI cJ cZ a F X J R gf gn) s0)) (va_A (CW cB cC cI cJ cZ a F X J R gf gn) s0)) 0 0 (va_A (CW cB cC cI cJ cZ a F X J R gf gn) s0) := by
  refine Met.ofW (cc := cX1_holdsDots) (maxL := 3) (ret := (some .boolean)) (by decide) rfl ?_
  intro p e s m args below meth c s₁ B9 hml hv
  obtain ⟨rfl, hsz0, hP, hK, hD0, hNW⟩ := hv
  have hx := B9.exec
  have hb := B9.bytes
  have hr := B9.returns
  have hts := atoms_spec (ws := vX1_holdsDots) B9.pre
  have hown : s.vm.findClass RX1 = some m.cls := findClass_of_methodNamed B9.named
  have hlocks := B9.notSynchronized
  clear B9
  subst hsz0
  have hD := hD0.self (sz := s.heap.size)
  generalize hAe : va_A (CW cB cC cI cJ cZ a F X J R gf gn) s.heap.size = A at hD ⊢
  have hA : ∀ q : Nat, s.heap.size ≤ q → A q := fun q h => by rw [← hAe]; exact Or.inr h
  have hS : va_S A s.heap s.heap [] := va_S.rf
  have hcs : 0 + 0 ≤ (0 : Nat) ∧ 0 + 0 ≤ (0 : Nat) := ⟨Nat.le_refl 0, Nat.le_refl 0⟩
  have hl := lv_entry ([.ref (a 1), .int (oI x)]) (n := 3) (Nat.le_of_ble_eq_true rfl)
  rw [lg_entry_eq]
  generalize (lg_sl ([.ref (a 1), .int (oI x)]) ++ List.replicate (3 - (lg_sl ([.ref (a 1), .int (oI x)])).length) Slot.unset).toArray = ls at hl ⊢
  have hl : lv_has ls 3 [(0, .ref (a 1)), (1, .int (oI x))] := hl
  have eb := AF_b hsp gf x
  refine lv_iload_n hx hb dX1_holdsDots_0 rfl (lv_at hl 1 rfl) ?_
  refine lv_istore_n (lv' := [(2, .int (oI x)), (0, .ref (a 1)), (1, .int (oI x))]) hx hb dX1_holdsDots_1 rfl hl (by decide) rfl (fun ls hl => ?_)
  exact lp_holdsDots hx hb hml hown hts hK hNW hA hr hlocks x ix (by assumption) (by assumption) (by assumption)  _ x (Nat.lt_succ_self _) (by omega) (show x ≤ x ∧ x ≤ x + 67600 from by first | assumption | omega | (with_reducible rfl) | ((repeat' apply And.intro) <;> first | assumption | omega | (with_reducible rfl))) _ _ hP hD hS ls (lv_sub hl [1, 2, 0] rfl)

set_option maxHeartbeats 4000000 in
set_option maxRecDepth 100000 in
/-- X1_isRepeated -/
theorem c_isRepeated (l : Launch) (dC : Nat → ClassId) (dI : Nat → Nat → Nat) (cB cC cI cJ cZ : ClassId) (a : Nat → Nat) (F : Nat → Int32) (X : Nat → Nat → Int32) (J : Nat → Nat → Int64) (R : Nat → Nat) (gf gn : Nat) (x y : Int)  (ix : (-2147483648 ≤ x ∧ x < 2147483648)) (iy : (-2147483648 ≤ y ∧ y < 2147483648)) (hgf : gf ≤ 67600) (hsp : SPR (X 1)) (hx2 : x < 1073741824) (s0 : Nat) : Met l yX1_isRepeated vX1_isRepeated { frames := 2, cells := 0, slots := 0, locals := 82 } (va_Pc [.ref (a 1), .int (oI x), .int (oI y)] (cPre dC dI cB cC cI cJ cZ a F X J R gf gn s0)) (va_Qi (fun (r : Int32) (_ : Unit) => ((r).toInt = 1 ∧ AF (X 1) gf x < y) ∨ (r).toInt = 0) (fun _ => cPost dC dI cB cC cI cJ cZ a F X J R gf gn (va_A (CW cB cC cI cJ cZ a F X J R gf gn) s0)) (va_A (CW cB cC cI cJ cZ a F X J R gf gn) s0)) 0 0 (va_A (CW cB cC cI cJ cZ a F X J R gf gn) s0) := by
  refine Met.ofW (cc := cX1_isRepeated) (maxL := 3) (ret := (some .boolean)) (by decide) rfl ?_
  intro p e s m args below meth c s₁ B9 hml hv
  obtain ⟨rfl, hsz0, hP, hK, hD0, hNW⟩ := hv
  have hx := B9.exec
  have hb := B9.bytes
  have hr := B9.returns
  have hts := atoms_spec (ws := vX1_isRepeated) B9.pre
  have hown : s.vm.findClass RX1 = some m.cls := findClass_of_methodNamed B9.named
  have hlocks := B9.notSynchronized
  clear B9
  subst hsz0
  have hD := hD0.self (sz := s.heap.size)
  generalize hAe : va_A (CW cB cC cI cJ cZ a F X J R gf gn) s.heap.size = A at hD ⊢
  have hA : ∀ q : Nat, s.heap.size ≤ q → A q := fun q h => by rw [← hAe]; exact Or.inr h
  have hS : va_S A s.heap s.heap [] := va_S.rf
  have hcs : 0 + 0 ≤ (0 : Nat) ∧ 0 + 0 ≤ (0 : Nat) := ⟨Nat.le_refl 0, Nat.le_refl 0⟩
  have hl := lv_entry ([.ref (a 1), .int (oI x), .int (oI y)]) (n := 3) (Nat.le_of_ble_eq_true rfl)
  rw [lg_entry_eq]
  generalize (lg_sl ([.ref (a 1), .int (oI x), .int (oI y)]) ++ List.replicate (3 - (lg_sl ([.ref (a 1), .int (oI x), .int (oI y)])).length) Slot.unset).toArray = ls at hl ⊢
  have hl : lv_has ls 3 [(0, .ref (a 1)), (1, .int (oI x)), (2, .int (oI y))] := hl
  refine lv_aload_n hx hb dX1_isRepeated_0 rfl (lv_at hl 0 rfl) ?_
  refine lv_iload_n hx hb dX1_isRepeated_1 rfl (lv_at hl 1 rfl) ?_
  refine ccs_iV (As := [.int (oI x)]) (rest := []) ⟨hx, hb, hml, hown, hts⟩ (c_after l dC dI cB cC cI cJ cZ a F X J R gf gn x  (by omega) (show gf ≤ 67600 from by first | assumption | omega) (show SPR (X 1) from by first | assumption | omega) (show x < 2147483647 from by first | assumption | omega) s.heap.size) (cwV 1 hts kX1_isRepeated_X1_after_46 rfl rfl rfl (by decide +kernel) ⟨Nat.le_of_ble_eq_true rfl, Nat.le_of_ble_eq_true rfl⟩) (va_recv hK hP (ci := 1) (q0 := 1) rfl rfl) hK hNW hP hD hS hA rfl rfl hl.1 (lv_room (Nat.le_of_ble_eq_true rfl)) dX1_isRepeated_2 hcs (fun r_1 hw_2 H locs hP hD hS => ?_)
  have hw_2 : (r_1).toInt = AF (X 1) gf x ∧ x < (r_1).toInt ∧ (r_1).toInt ≤ x + 67600 := hw_2
  obtain ⟨ea, la, ua⟩ := hw_2
  have i_3 := i32r r_1
  refine lv_iload_n hx hb dX1_isRepeated_5 rfl (lv_at hl 2 rfl) ?_
  refine ci_ge (tgt := 27) hx hb (i32r _) (by omega) dX1_isRepeated_6 (by decide) (fun c_4 => ?_) (fun c_4 => ?_)
  · refine lv_iconst (v := oI 0) hx hb dX1_isRepeated_27 (by decide) ?_
    have e0 : (oI 0).toInt = 0 := by decide
    have hpost : ((oI 0).toInt = 1 ∧ AF (X 1) gf x < y) ∨ (oI 0).toInt = 0 := by first | assumption | omega | (with_reducible rfl) | ((repeat' apply And.intro) <;> first | assumption | omega | (with_reducible rfl))
    exact W.zret (v := (oI 0)) hx hb hr (by first | rfl | decide | exact zb9 (by omega)) (fun t ht hW => ⟨⟨(oI 0), (), rfl, hpost, by rw [ht]; exact hP, va_K.moved hW.alike hK, hD⟩, hS.F ht⟩) hS.2.2 dX1_isRepeated_28
  · refine lv_aload_n hx hb dX1_isRepeated_9 rfl (lv_at hl 0 rfl) ?_
    refine lv_aload_n hx hb dX1_isRepeated_10 rfl (lv_at hl 0 rfl) ?_
    refine lv_iload_n hx hb dX1_isRepeated_11 rfl (lv_at hl 1 rfl) ?_
    refine ccs_iV (As := [.int (oI x)]) (rest := [.ref (a 1)]) ⟨hx, hb, hml, hown, hts⟩ (c_after l dC dI cB cC cI cJ cZ a F X J R gf gn x  (by omega) (show gf ≤ 67600 from by first | assumption | omega) (show SPR (X 1) from by first | assumption | omega) (show x < 2147483647 from by first | assumption | omega) H.size) (cwV 1 hts kX1_isRepeated_X1_after_46 rfl rfl rfl (by decide +kernel) ⟨Nat.le_of_ble_eq_true rfl, Nat.le_of_ble_eq_true rfl⟩) (va_recv hK hP (ci := 1) (q0 := 1) rfl rfl) hK hNW hP hD hS hA rfl rfl hl.1 (lv_room (Nat.le_of_ble_eq_true rfl)) dX1_isRepeated_12 hcs (fun r_5 hw_6 H locs hP hD hS => ?_)
    have hw_6 : (r_5).toInt = AF (X 1) gf x ∧ x < (r_5).toInt ∧ (r_5).toInt ≤ x + 67600 := hw_6
    obtain ⟨ea, la, ua⟩ := hw_6
    have i_7 := i32r r_5
    refine ccs_iV (As := [.int (oI r_5.toInt)]) (rest := []) ⟨hx, hb, hml, hown, hts⟩ (c_nameOf l dC dI cB cC cI cJ cZ a F X J R gf gn r_5.toInt  (i32r _) (show gf ≤ 67600 from by first | assumption | omega)  H.size) (cwV 1 hts kX1_isRepeated_X1_nameOf_43 rfl rfl rfl (by decide +kernel) ⟨Nat.le_of_ble_eq_true rfl, Nat.le_of_ble_eq_true rfl⟩) (va_recv hK hP (ci := 1) (q0 := 1) rfl rfl) hK hNW hP hD hS hA rfl rfl hl.1 (lv_room (Nat.le_of_ble_eq_true rfl)) dX1_isRepeated_15 hcs (fun r_8 hw_9 H locs hP hD hS => ?_)
    have i_10 := i32r r_8
    refine lv_bipush (v := oI 7) hx hb dX1_isRepeated_18 (by decide) ?_
    refine ci_ne (tgt := 27) hx hb (i32r _) (by decide) dX1_isRepeated_20 (by decide) (fun c_11 => ?_) (fun c_11 => ?_)
    · refine lv_iconst (v := oI 0) hx hb dX1_isRepeated_27 (by decide) ?_
      have e0 : (oI 0).toInt = 0 := by decide
      have hpost : ((oI 0).toInt = 1 ∧ AF (X 1) gf x < y) ∨ (oI 0).toInt = 0 := by first | assumption | omega | (with_reducible rfl) | ((repeat' apply And.intro) <;> first | assumption | omega | (with_reducible rfl))
      exact W.zret (v := (oI 0)) hx hb hr (by first | rfl | decide | exact zb9 (by omega)) (fun t ht hW => ⟨⟨(oI 0), (), rfl, hpost, by rw [ht]; exact hP, va_K.moved hW.alike hK, hD⟩, hS.F ht⟩) hS.2.2 dX1_isRepeated_28
    · refine lv_iconst (v := oI 1) hx hb dX1_isRepeated_23 (by decide) ?_
      refine lv_goto (tgt := 28) hx hb dX1_isRepeated_24 (by decide) ?_
      have e0 : (oI 1).toInt = 1 := by decide
      have hpost : ((oI 1).toInt = 1 ∧ AF (X 1) gf x < y) ∨ (oI 1).toInt = 0 := by first | assumption | omega | (with_reducible rfl) | ((repeat' apply And.intro) <;> first | assumption | omega | (with_reducible rfl))
      exact W.zret (v := (oI 1)) hx hb hr (by first | rfl | decide | exact zb9 (by omega)) (fun t ht hW => ⟨⟨(oI 1), (), rfl, hpost, by rw [ht]; exact hP, va_K.moved hW.alike hK, hD⟩, hS.F ht⟩) hS.2.2 dX1_isRepeated_28
