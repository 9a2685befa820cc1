def oX7_tokenFrom : List Cond := []
def vX7_tokenFrom : List Cond := .code yX7_tokenFrom cX7_tokenFrom 5 (some .int) :: (oX7_tokenFrom)
def oX7_isBreak : List Cond := []
def vX7_isBreak : List Cond := .code yX7_isBreak cX7_isBreak 1 (some .boolean) :: (oX7_isBreak)
def oX7_tokenEnd : List Cond := [Cond.methodLink RX7 91 yX7_isBreak, Cond.static yX7_isBreak, Cond.initialized RX7]
def vX7_tokenEnd : List Cond := .code yX7_tokenEnd cX7_tokenEnd 5 (some .int) :: (oX7_tokenEnd ++ (vX7_isBreak))
theorem kX7_tokenEnd_X7_isBreak_91 : GoodIn vX7_tokenEnd (va_wsS RX7 91 yX7_isBreak vX7_isBreak) := goodIn_sub (fun w h => (List.mem_append.mp h).elim (fun h => List.mem_cons_of_mem _ (List.mem_append_left _ ((by decide +kernel : ∀ w ∈ ([.methodLink RX7 91 yX7_isBreak, .static yX7_isBreak, .initialized yX7_isBreak.cls] : List Cond), w ∈ oX7_tokenEnd) w h))) (fun h => List.mem_cons_of_mem _ (List.mem_append_right _ (h)))) (by decide +kernel)
def oX7_isDigits : List Cond := []
def vX7_isDigits : List Cond := .code yX7_isDigits cX7_isDigits 4 (some .boolean) :: (oX7_isDigits)
def oX7_isNumber : List Cond := [Cond.methodLink RX7 95 yX7_isDigits, Cond.static yX7_isDigits, Cond.initialized RX7]
def vX7_isNumber : List Cond := .code yX7_isNumber cX7_isNumber 3 (some .boolean) :: (oX7_isNumber ++ (vX7_isDigits))
theorem kX7_isNumber_X7_isDigits_95 : GoodIn vX7_isNumber (va_wsS RX7 95 yX7_isDigits vX7_isDigits) := goodIn_sub (fun w h => (List.mem_append.mp h).elim (fun h => List.mem_cons_of_mem _ (List.mem_append_left _ ((by decide +kernel : ∀ w ∈ ([.methodLink RX7 95 yX7_isDigits, .static yX7_isDigits, .initialized yX7_isDigits.cls] : List Cond), w ∈ oX7_isNumber) w h))) (fun h => List.mem_cons_of_mem _ (List.mem_append_right _ (h)))) (by decide +kernel)
def oX7_symbolOf : List Cond := [Cond.fieldLink RX7 23 "MacroScopes$Reader" "names" "LMacroScopes$Names;", Cond.methodLink RX7 79 yX6_half, Cond.static yX6_half, Cond.initialized RX6, Cond.methodLink RX7 98 yX6_find, Cond.instanceMethod yX6_find, Cond.selects RX6 yX6_find yX6_find]
def vX7_symbolOf : List Cond := .code yX7_symbolOf cX7_symbolOf 4 (some .int) :: (oX7_symbolOf ++ (vX6_half ++ (vX6_find ++ (wsX70))))
theorem lkX7_symbolOf_f23 : Cond.fieldLink RX7 23 "MacroScopes$Reader" "names" "LMacroScopes$Names;" ∈ vX7_symbolOf := List.mem_cons_of_mem _ (List.mem_append_left _ (List.mem_of_getElem? (i := 0) rfl))
theorem inX7_symbolOf_X7 : ∀ w ∈ wsX70, w ∈ vX7_symbolOf := fun w h => List.mem_cons_of_mem _ (List.mem_append_right _ (List.mem_append_right _ (List.mem_append_right _ (h))))
theorem kX7_symbolOf_X6_half_79 : GoodIn vX7_symbolOf (va_wsS RX7 79 yX6_half vX6_half) := goodIn_sub (fun w h => (List.mem_append.mp h).elim (fun h => List.mem_cons_of_mem _ (List.mem_append_left _ ((by decide +kernel : ∀ w ∈ ([.methodLink RX7 79 yX6_half, .static yX6_half, .initialized yX6_half.cls] : List Cond), w ∈ oX7_symbolOf) w h))) (fun h => List.mem_cons_of_mem _ (List.mem_append_right _ (List.mem_append_left _ (h))))) (by decide +kernel)
theorem kX7_symbolOf_X6_find_98 : GoodIn vX7_symbolOf (wsV RX7 98 RX6 yX6_find vX6_find) := goodIn_sub (fun w h => (List.mem_append.mp h).elim (fun h => List.mem_cons_of_mem _ (List.mem_append_left _ ((by decide +kernel : ∀ w ∈ ([.methodLink RX7 98 yX6_find, .instanceMethod yX6_find, .selects RX6 yX6_find yX6_find, .initialized RX6] : List Cond), w ∈ oX7_symbolOf) w h))) (fun h => List.mem_cons_of_mem _ (List.mem_append_right _ (List.mem_append_right _ (List.mem_append_left _ (h)))))) (by decide +kernel)
def oX7_isSymbol : List Cond := [Cond.methodLink RX7 91 yX7_isBreak, Cond.static yX7_isBreak, Cond.initialized RX7, Cond.methodLink RX7 95 yX7_isDigits, Cond.static yX7_isDigits, Cond.methodLink RX7 76 yX7_symbolOf, Cond.instanceMethod yX7_symbolOf, Cond.selects RX7 yX7_symbolOf yX7_symbolOf]
def vX7_isSymbol : List Cond := .code yX7_isSymbol cX7_isSymbol 4 (some .boolean) :: (oX7_isSymbol ++ (vX7_isBreak ++ (vX7_isDigits ++ (vX7_symbolOf))))
theorem kX7_isSymbol_X7_isBreak_91 : GoodIn vX7_isSymbol (va_wsS RX7 91 yX7_isBreak vX7_isBreak) := goodIn_sub (fun w h => (List.mem_append.mp h).elim (fun h => List.mem_cons_of_mem _ (List.mem_append_left _ ((by decide +kernel : ∀ w ∈ ([.methodLink RX7 91 yX7_isBreak, .static yX7_isBreak, .initialized yX7_isBreak.cls] : List Cond), w ∈ oX7_isSymbol) w h))) (fun h => List.mem_cons_of_mem _ (List.mem_append_right _ (List.mem_append_left _ (h))))) (by decide +kernel)
theorem kX7_isSymbol_X7_isDigits_95 : GoodIn vX7_isSymbol (va_wsS RX7 95 yX7_isDigits vX7_isDigits) := goodIn_sub (fun w h => (List.mem_append.mp h).elim (fun h => List.mem_cons_of_mem _ (List.mem_append_left _ ((by decide +kernel : ∀ w ∈ ([.methodLink RX7 95 yX7_isDigits, .static yX7_isDigits, .initialized yX7_isDigits.cls] : List Cond), w ∈ oX7_isSymbol) w h))) (fun h => List.mem_cons_of_mem _ (List.mem_append_right _ (List.mem_append_right _ (List.mem_append_left _ (h)))))) (by decide +kernel)
theorem kX7_isSymbol_X7_symbolOf_76 : GoodIn vX7_isSymbol (wsV RX7 76 RX7 yX7_symbolOf vX7_symbolOf) := goodIn_sub (fun w h => (List.mem_append.mp h).elim (fun h => List.mem_cons_of_mem _ (List.mem_append_left _ ((by decide +kernel : ∀ w ∈ ([.methodLink RX7 76 yX7_symbolOf, .instanceMethod yX7_symbolOf, .selects RX7 yX7_symbolOf yX7_symbolOf, .initialized RX7] : List Cond), w ∈ oX7_isSymbol) w h))) (fun h => List.mem_cons_of_mem _ (List.mem_append_right _ (List.mem_append_right _ (List.mem_append_right _ (h)))))) (by decide +kernel)
def oX7_addNumber : List Cond := [Cond.fieldLink RX7 19 "MacroScopes$Reader" "forms" "LMacroScopes$Forms;", Cond.methodLink RX7 73 yX1_ofNumber, Cond.static yX1_ofNumber, Cond.initialized RX1, Cond.methodLink RX7 65 yX1_add, Cond.instanceMethod yX1_add, Cond.selects RX1 yX1_add yX1_add]
def vX7_addNumber : List Cond := .code yX7_addNumber cX7_addNumber 6 (some .int) :: (oX7_addNumber ++ (vX1_ofNumber ++ (vX1_add ++ (wsX70))))
theorem lkX7_addNumber_f19 : Cond.fieldLink RX7 19 "MacroScopes$Reader" "forms" "LMacroScopes$Forms;" ∈ vX7_addNumber := List.mem_cons_of_mem _ (List.mem_append_left _ (List.mem_of_getElem? (i := 0) rfl))
theorem inX7_addNumber_X7 : ∀ w ∈ wsX70, w ∈ vX7_addNumber := fun w h => List.mem_cons_of_mem _ (List.mem_append_right _ (List.mem_append_right _ (List.mem_append_right _ (h))))
theorem kX7_addNumber_X1_ofNumber_73 : GoodIn vX7_addNumber (va_wsS RX7 73 yX1_ofNumber vX1_ofNumber) := goodIn_sub (fun w h => (List.mem_append.mp h).elim (fun h => List.mem_cons_of_mem _ (List.mem_append_left _ ((by decide +kernel : ∀ w ∈ ([.methodLink RX7 73 yX1_ofNumber, .static yX1_ofNumber, .initialized yX1_ofNumber.cls] : List Cond), w ∈ oX7_addNumber) w h))) (fun h => List.mem_cons_of_mem _ (List.mem_append_right _ (List.mem_append_left _ (h))))) (by decide +kernel)
theorem kX7_addNumber_X1_add_65 : GoodIn vX7_addNumber (wsV RX7 65 RX1 yX1_add vX1_add) := goodIn_sub (fun w h => (List.mem_append.mp h).elim (fun h => List.mem_cons_of_mem _ (List.mem_append_left _ ((by decide +kernel : ∀ w ∈ ([.methodLink RX7 65 yX1_add, .instanceMethod yX1_add, .selects RX1 yX1_add yX1_add, .initialized RX1] : List Cond), w ∈ oX7_addNumber) w h))) (fun h => List.mem_cons_of_mem _ (List.mem_append_right _ (List.mem_append_right _ (List.mem_append_left _ (h)))))) (by decide +kernel)
def oX7_addSymbol : List Cond := [Cond.methodLink RX7 76 yX7_symbolOf, Cond.instanceMethod yX7_symbolOf, Cond.selects RX7 yX7_symbolOf yX7_symbolOf, Cond.initialized RX7, Cond.fieldLink RX7 19 "MacroScopes$Reader" "forms" "LMacroScopes$Forms;", Cond.methodLink RX7 88 yX1_ofName, Cond.static yX1_ofName, Cond.initialized RX1, Cond.methodLink RX7 65 yX1_add, Cond.instanceMethod yX1_add, Cond.selects RX1 yX1_add yX1_add, Cond.fieldLink RX7 23 "MacroScopes$Reader" "names" "LMacroScopes$Names;", Cond.methodLink RX7 79 yX6_half, Cond.static yX6_half, Cond.initialized RX6, Cond.methodLink RX7 85 yX6_addSymbol, Cond.instanceMethod yX6_addSymbol, Cond.selects RX6 yX6_addSymbol yX6_addSymbol]
def vX7_addSymbol : List Cond := .code yX7_addSymbol cX7_addSymbol 5 (some .int) :: (oX7_addSymbol ++ (vX7_symbolOf ++ (vX1_ofName ++ (vX1_add ++ (vX6_half ++ (vX6_addSymbol ++ (wsX70)))))))
theorem lkX7_addSymbol_f19 : Cond.fieldLink RX7 19 "MacroScopes$Reader" "forms" "LMacroScopes$Forms;" ∈ vX7_addSymbol := List.mem_cons_of_mem _ (List.mem_append_left _ (List.mem_of_getElem? (i := 4) rfl))
theorem lkX7_addSymbol_f23 : Cond.fieldLink RX7 23 "MacroScopes$Reader" "names" "LMacroScopes$Names;" ∈ vX7_addSymbol := List.mem_cons_of_mem _ (List.mem_append_left _ (List.mem_of_getElem? (i := 11) rfl))
theorem inX7_addSymbol_X7 : ∀ w ∈ wsX70, w ∈ vX7_addSymbol := fun w h => List.mem_cons_of_mem _ (List.mem_append_right _ (List.mem_append_right _ (List.mem_append_right _ (List.mem_append_right _ (List.mem_append_right _ (List.mem_append_right _ (h)))))))
theorem kX7_addSymbol_X7_symbolOf_76 : GoodIn vX7_addSymbol (wsV RX7 76 RX7 yX7_symbolOf vX7_symbolOf) := goodIn_sub (fun w h => (List.mem_append.mp h).elim (fun h => List.mem_cons_of_mem _ (List.mem_append_left _ ((by decide +kernel : ∀ w ∈ ([.methodLink RX7 76 yX7_symbolOf, .instanceMethod yX7_symbolOf, .selects RX7 yX7_symbolOf yX7_symbolOf, .initialized RX7] : List Cond), w ∈ oX7_addSymbol) w h))) (fun h => List.mem_cons_of_mem _ (List.mem_append_right _ (List.mem_append_left _ (h))))) (by decide +kernel)
theorem kX7_addSymbol_X1_ofName_88 : GoodIn vX7_addSymbol (va_wsS RX7 88 yX1_ofName vX1_ofName) := goodIn_sub (fun w h => (List.mem_append.mp h).elim (fun h => List.mem_cons_of_mem _ (List.mem_append_left _ ((by decide +kernel : ∀ w ∈ ([.methodLink RX7 88 yX1_ofName, .static yX1_ofName, .initialized yX1_ofName.cls] : List Cond), w ∈ oX7_addSymbol) w h))) (fun h => List.mem_cons_of_mem _ (List.mem_append_right _ (List.mem_append_right _ (List.mem_append_left _ (h)))))) (by decide +kernel)
theorem kX7_addSymbol_X1_add_65 : GoodIn vX7_addSymbol (wsV RX7 65 RX1 yX1_add vX1_add) := goodIn_sub (fun w h => (List.mem_append.mp h).elim (fun h => List.mem_cons_of_mem _ (List.mem_append_left _ ((by decide +kernel : ∀ w ∈ ([.methodLink RX7 65 yX1_add, .instanceMethod yX1_add, .selects RX1 yX1_add yX1_add, .initialized RX1] : List Cond), w ∈ oX7_addSymbol) w h))) (fun h => List.mem_cons_of_mem _ (List.mem_append_right _ (List.mem_append_right _ (List.mem_append_right _ (List.mem_append_left _ (h))))))) (by decide +kernel)
theorem kX7_addSymbol_X6_half_79 : GoodIn vX7_addSymbol (va_wsS RX7 79 yX6_half vX6_half) := goodIn_sub (fun w h => (List.mem_append.mp h).elim (fun h => List.mem_cons_of_mem _ (List.mem_append_left _ ((by decide +kernel : ∀ w ∈ ([.methodLink RX7 79 yX6_half, .static yX6_half, .initialized yX6_half.cls] : List Cond), w ∈ oX7_addSymbol) w h))) (fun h => List.mem_cons_of_mem _ (List.mem_append_right _ (List.mem_append_right _ (List.mem_append_right _ (List.mem_append_right _ (List.mem_append_left _ (h)))))))) (by decide +kernel)
theorem kX7_addSymbol_X6_addSymbol_85 : GoodIn vX7_addSymbol (wsV RX7 85 RX6 yX6_addSymbol vX6_addSymbol) := goodIn_sub (fun w h => (List.mem_append.mp h).elim (fun h => List.mem_cons_of_mem _ (List.mem_append_left _ ((by decide +kernel : ∀ w ∈ ([.methodLink RX7 85 yX6_addSymbol, .instanceMethod yX6_addSymbol, .selects RX6 yX6_addSymbol yX6_addSymbol, .initialized RX6] : List Cond), w ∈ oX7_addSymbol) w h))) (fun h => List.mem_cons_of_mem _ (List.mem_append_right _ (List.mem_append_right _ (List.mem_append_right _ (List.mem_append_right _ (List.mem_append_right _ (List.mem_append_left _ (h))))))))) (by decide +kernel)
def oX7_openList : List Cond := [Cond.fieldLink RX7 15 "MacroScopes$Reader" "opened" "I", Cond.fieldLink RX7 9 "MacroScopes$Reader" "open" "[I", Cond.fieldLink RX7 19 "MacroScopes$Reader" "forms" "LMacroScopes$Forms;", Cond.methodLink RX7 65 yX1_add, Cond.instanceMethod yX1_add, Cond.selects RX1 yX1_add yX1_add, Cond.initialized RX1]
def vX7_openList : List Cond := .code yX7_openList cX7_openList 1 (some .int) :: (oX7_openList ++ (vX1_add ++ (wsX70)))
theorem lkX7_openList_f15 : Cond.fieldLink RX7 15 "MacroScopes$Reader" "opened" "I" ∈ vX7_openList := List.mem_cons_of_mem _ (List.mem_append_left _ (List.mem_of_getElem? (i := 0) rfl))
theorem lkX7_openList_f9 : Cond.fieldLink RX7 9 "MacroScopes$Reader" "open" "[I" ∈ vX7_openList := List.mem_cons_of_mem _ (List.mem_append_left _ (List.mem_of_getElem? (i := 1) rfl))
theorem lkX7_openList_f19 : Cond.fieldLink RX7 19 "MacroScopes$Reader" "forms" "LMacroScopes$Forms;" ∈ vX7_openList := List.mem_cons_of_mem _ (List.mem_append_left _ (List.mem_of_getElem? (i := 2) rfl))
theorem inX7_openList_X7 : ∀ w ∈ wsX70, w ∈ vX7_openList := fun w h => List.mem_cons_of_mem _ (List.mem_append_right _ (List.mem_append_right _ (h)))
theorem kX7_openList_X1_add_65 : GoodIn vX7_openList (wsV RX7 65 RX1 yX1_add vX1_add) := goodIn_sub (fun w h => (List.mem_append.mp h).elim (fun h => List.mem_cons_of_mem _ (List.mem_append_left _ ((by decide +kernel : ∀ w ∈ ([.methodLink RX7 65 yX1_add, .instanceMethod yX1_add, .selects RX1 yX1_add yX1_add, .initialized RX1] : List Cond), w ∈ oX7_openList) w h))) (fun h => List.mem_cons_of_mem _ (List.mem_append_right _ (List.mem_append_left _ (h))))) (by decide +kernel)
def oX7_closeList : List Cond := [Cond.fieldLink RX7 15 "MacroScopes$Reader" "opened" "I", Cond.fieldLink RX7 19 "MacroScopes$Reader" "forms" "LMacroScopes$Forms;", Cond.fieldLink RX7 9 "MacroScopes$Reader" "open" "[I", Cond.methodLink RX7 69 yX1_endList, Cond.instanceMethod yX1_endList, Cond.selects RX1 yX1_endList yX1_endList, Cond.initialized RX1]
def vX7_closeList : List Cond := .code yX7_closeList cX7_closeList 1 (some .int) :: (oX7_closeList ++ (vX1_endList ++ (wsX70)))
theorem lkX7_closeList_f15 : Cond.fieldLink RX7 15 "MacroScopes$Reader" "opened" "I" ∈ vX7_closeList := List.mem_cons_of_mem _ (List.mem_append_left _ (List.mem_of_getElem? (i := 0) rfl))
theorem lkX7_closeList_f19 : Cond.fieldLink RX7 19 "MacroScopes$Reader" "forms" "LMacroScopes$Forms;" ∈ vX7_closeList := List.mem_cons_of_mem _ (List.mem_append_left _ (List.mem_of_getElem? (i := 1) rfl))
theorem lkX7_closeList_f9 : Cond.fieldLink RX7 9 "MacroScopes$Reader" "open" "[I" ∈ vX7_closeList := List.mem_cons_of_mem _ (List.mem_append_left _ (List.mem_of_getElem? (i := 2) rfl))
theorem inX7_closeList_X7 : ∀ w ∈ wsX70, w ∈ vX7_closeList := fun w h => List.mem_cons_of_mem _ (List.mem_append_right _ (List.mem_append_right _ (h)))
theorem kX7_closeList_X1_endList_69 : GoodIn vX7_closeList (wsV RX7 69 RX1 yX1_endList vX1_endList) := goodIn_sub (fun w h => (List.mem_append.mp h).elim (fun h => List.mem_cons_of_mem _ (List.mem_append_left _ ((by decide +kernel : ∀ w ∈ ([.methodLink RX7 69 yX1_endList, .instanceMethod yX1_endList, .selects RX1 yX1_endList yX1_endList, .initialized RX1] : List Cond), w ∈ oX7_closeList) w h))) (fun h => List.mem_cons_of_mem _ (List.mem_append_right _ (List.mem_append_left _ (h))))) (by decide +kernel)
set_option maxHeartbeats 4000000 in
set_option maxRecDepth 100000 in
theorem lq_tokenFrom {p : Program} {l : Launch} {e : Env} {s : State} {m : MethodId} {args : Array Value} {below : List Frame} {meth : Method} {c : Code} {A : Nat → Prop} {dC : Nat → ClassId} {dI : Nat → Nat → Nat} {cB cC cI cJ cZ : ClassId} {a : Nat → Nat} {F : Nat → Int32} {X : Nat → Nat → Int32} {J : Nat → Nat → Int64} {R : Nat → Nat} {gf gn : Nat} (hx : p.tables.exec = Jvm.exec) (hb : c.code = cX7_tokenFrom) (hml : c.maxLocals = 5) (hown : s.vm.findClass RX7 = some m.cls) (hts : ∀ w ∈ vX7_tokenFrom, w.before args s = true) (hK : va_K (dC, dI) vwCl (TY cB cC cI cJ cZ) s) (hNW : NW s) (hA : ∀ q : Nat, s.heap.size ≤ q → A q) (hr : meth.sig.returnType = (some .int)) (hlocks : meth.locks = false) (x y : Int)  (ix : (-2147483648 ≤ x ∧ x < 2147483648)) (iy : (-2147483648 ≤ y ∧ y < 2147483648)) (hx2 : 0 ≤ x ∧ x ≤ 3001 ∧ 0 ≤ y ∧ y ≤ 3001)   : ∀ (k : Nat) (q : Int), (3001 - q).toNat < k → (-2147483648 ≤ q ∧ q < 2147483648) → (x ≤ q ∧ q ≤ 3001) → ∀ (H : Heap) (locs : List Loc), va_P (dC, dI) vwCl (CW cB cC cI cJ cZ a F X J R gf gn) H → va_D A (CW cB cC cI cJ cZ a F X J R gf gn) → va_S A s.heap H locs → ∀ (ls : Array Slot), lv_has ls 5 [(0, .ref (a 7)), (1, .ref (R 26)), (2, .int (oI x)), (3, .int (oI y)), (4, .int (oI q))] → W p l e (headSpec vX7_tokenFrom { frames := 1, cells := 0, slots := 0, locals := 60 }).room s m args below meth c H locs 0 0 (MQ below (va_Qi (fun (r : Int32) (_ : Unit) => x ≤ (r).toInt ∧ (r).toInt ≤ 3001) (fun _ => cPost dC dI cB cC cI cJ cZ a F X J R gf gn A) A) args s 0 0 A) (F0 m 3 ls []) := by
  have hcs : 0 + 0 ≤ (0 : Nat) ∧ 0 + 0 ≤ (0 : Nat) := ⟨Nat.le_refl 0, Nat.le_refl 0⟩
  intro k
  induction k with
  | zero =>
    intro q hk iq9 hq
    exact absurd hk (Nat.not_lt_zero _)
  | succ k ih =>
    intro q hk iq9 hq H locs hP hD hS ls hl
    refine lv_iload hx hb dX7_tokenFrom_3 (lv_at hl 4 rfl) ?_
    refine cz_lt (tgt := 36) hx hb (by omega) dX7_tokenFrom_5 (by decide) (fun c_1 => ?_) (fun c_1 => ?_)
    · refine lv_iload hx hb dX7_tokenFrom_36 (lv_at hl 4 rfl) ?_
      have e0 : (oI q).toInt = q := toInt_oI (by omega)
      have hpost : x ≤ (oI q).toInt ∧ (oI q).toInt ≤ 3001 := by first | assumption | omega | (with_reducible rfl) | ((repeat' apply And.intro) <;> first | assumption | omega | (with_reducible rfl))
      exact W.iret (v := (oI q)) hx hb hr (fun t ht hW => ⟨⟨(oI q), (), rfl, hpost, by rw [ht]; exact hP, va_K.moved hW.alike hK, hD⟩, hS.F ht⟩) hS.2.2 dX7_tokenFrom_38
    · refine lv_iload hx hb dX7_tokenFrom_8 (lv_at hl 4 rfl) ?_
      refine lv_iload_n hx hb dX7_tokenFrom_10 rfl (lv_at hl 3 rfl) ?_
      refine ci_ge (tgt := 36) hx hb (by omega) (by omega) dX7_tokenFrom_11 (by decide) (fun c_2 => ?_) (fun c_2 => ?_)
      · refine lv_iload hx hb dX7_tokenFrom_36 (lv_at hl 4 rfl) ?_
        have e0 : (oI q).toInt = q := toInt_oI (by omega)
        have hpost : x ≤ (oI q).toInt ∧ (oI q).toInt ≤ 3001 := by first | assumption | omega | (with_reducible rfl) | ((repeat' apply And.intro) <;> first | assumption | omega | (with_reducible rfl))
        exact W.iret (v := (oI q)) hx hb hr (fun t ht hW => ⟨⟨(oI q), (), rfl, hpost, by rw [ht]; exact hP, va_K.moved hW.alike hK, hD⟩, hS.F ht⟩) hS.2.2 dX7_tokenFrom_38
      · refine lv_iload hx hb dX7_tokenFrom_14 (lv_at hl 4 rfl) ?_
        refine lv_aload_n hx hb dX7_tokenFrom_16 rfl (lv_at hl 1 rfl) ?_
        refine cn_26 hx hb hK hP dX7_tokenFrom_17 ?_
        refine ci_ge (tgt := 36) hx hb (by omega) (by decide) dX7_tokenFrom_18 (by decide) (fun c_3 => ?_) (fun c_3 => ?_)
        · refine lv_iload hx hb dX7_tokenFrom_36 (lv_at hl 4 rfl) ?_
          have e0 : (oI q).toInt = q := toInt_oI (by omega)
          have hpost : x ≤ (oI q).toInt ∧ (oI q).toInt ≤ 3001 := by first | assumption | omega | (with_reducible rfl) | ((repeat' apply And.intro) <;> first | assumption | omega | (with_reducible rfl))
          exact W.iret (v := (oI q)) hx hb hr (fun t ht hW => ⟨⟨(oI q), (), rfl, hpost, by rw [ht]; exact hP, va_K.moved hW.alike hK, hD⟩, hS.F ht⟩) hS.2.2 dX7_tokenFrom_38
        · refine lv_aload_n hx hb dX7_tokenFrom_21 rfl (lv_at hl 1 rfl) ?_
          refine lv_iload hx hb dX7_tokenFrom_22 (lv_at hl 4 rfl) ?_
          refine cl_26 hx hb hK hP (by omega) dX7_tokenFrom_24 (fun w_4 hw_4 => ?_)
          have i_5 := i32r w_4
          refine lv_bipush (v := oI 32) hx hb dX7_tokenFrom_25 (by decide) ?_
          refine ci_ne (tgt := 36) hx hb (i32r _) (by decide) dX7_tokenFrom_27 (by decide) (fun c_6 => ?_) (fun c_6 => ?_)
          · refine lv_iload hx hb dX7_tokenFrom_36 (lv_at hl 4 rfl) ?_
            have e0 : (oI q).toInt = q := toInt_oI (by omega)
            have hpost : x ≤ (oI q).toInt ∧ (oI q).toInt ≤ 3001 := by first | assumption | omega | (with_reducible rfl) | ((repeat' apply And.intro) <;> first | assumption | omega | (with_reducible rfl))
            exact W.iret (v := (oI q)) hx hb hr (fun t ht hW => ⟨⟨(oI q), (), rfl, hpost, by rw [ht]; exact hP, va_K.moved hW.alike hK, hD⟩, hS.F ht⟩) hS.2.2 dX7_tokenFrom_38
          · refine lv_iinc (v := oI (q + 1)) (lv' := [(4, .int (oI (q + 1))), (0, .ref (a 7)), (1, .ref (R 26)), (2, .int (oI x)), (3, .int (oI y))]) hx hb dX7_tokenFrom_30 hl (k := 4) rfl (oI_add q 1) (by decide) rfl (fun ls hl => ?_)
            refine lv_goto (tgt := 3) hx hb dX7_tokenFrom_33 (by decide) ?_
            exact ih (q + 1) (show (3001 - (q + 1)).toNat < k from by omega) (by omega) (show x ≤ (q + 1) ∧ (q + 1) ≤ 3001 from by first | assumption | omega | (with_reducible rfl) | ((repeat' apply And.intro) <;> first | assumption | omega | (with_reducible rfl))) _ _ hP hD hS ls (lv_sub hl [1, 2, 3, 4, 0] rfl)

set_option maxHeartbeats 4000000 in
set_option maxRecDepth 100000 in
/-- X7_tokenFrom -/
theorem c_tokenFrom (l : Launch) (dC : Nat → ClassId) (dI : Nat → Nat → Nat) (cB cC cI cJ cZ : ClassId) (a : Nat → Nat) (F : Nat → Int32) (X : Nat → Nat → Int32) (J : Nat → Nat → Int64) (R : Nat → Nat) (gf gn : Nat) (x y : Int)  (ix : (-2147483648 ≤ x ∧ x < 2147483648)) (iy : (-2147483648 ≤ y ∧ y < 2147483648)) (hx2 : 0 ≤ x ∧ x ≤ 3001 ∧ 0 ≤ y ∧ y ≤ 3001) (s0 : Nat) : Met l yX7_tokenFrom vX7_tokenFrom { frames := 1, cells := 0, slots := 0, locals := 60 } (va_Pc [.ref (a 7), .ref (R 26), .int (oI x), .int (oI y)] (cPre dC dI cB cC cI cJ cZ a F X J R gf gn s0)) (va_Qi (fun (r : Int32) (_ : Unit) => x ≤ (r).toInt ∧ (r).toInt ≤ 3001) (fun _ => cPost dC dI cB cC cI cJ cZ a F X J R gf gn (va_A (CW cB cC cI cJ cZ a F X J R gf gn) s0)) (va_A (CW cB cC cI cJ cZ a F X J R gf gn) s0)) 0 0 (va_A (CW cB cC cI cJ cZ a F X J R gf gn) s0) := by
  refine Met.ofW (cc := cX7_tokenFrom) (maxL := 5) (ret := (some .int)) (by decide) rfl ?_
  intro p e s m args below meth c s₁ B9 hml hv
  obtain ⟨rfl, hsz0, hP, hK, hD0, hNW⟩ := hv
  have hx := B9.exec
  have hb := B9.bytes
  have hr := B9.returns
  have hts := atoms_spec (ws := vX7_tokenFrom) B9.pre
  have hown : s.vm.findClass RX7 = some m.cls := findClass_of_methodNamed B9.named
  have hlocks := B9.notSynchronized
  clear B9
  subst hsz0
  have hD := hD0.self (sz := s.heap.size)
  generalize hAe : va_A (CW cB cC cI cJ cZ a F X J R gf gn) s.heap.size = A at hD ⊢
  have hA : ∀ q : Nat, s.heap.size ≤ q → A q := fun q h => by rw [← hAe]; exact Or.inr h
  have hS : va_S A s.heap s.heap [] := va_S.rf
  have hcs : 0 + 0 ≤ (0 : Nat) ∧ 0 + 0 ≤ (0 : Nat) := ⟨Nat.le_refl 0, Nat.le_refl 0⟩
  have hl := lv_entry ([.ref (a 7), .ref (R 26), .int (oI x), .int (oI y)]) (n := 5) (Nat.le_of_ble_eq_true rfl)
  rw [lg_entry_eq]
  generalize (lg_sl ([.ref (a 7), .ref (R 26), .int (oI x), .int (oI y)]) ++ List.replicate (5 - (lg_sl ([.ref (a 7), .ref (R 26), .int (oI x), .int (oI y)])).length) Slot.unset).toArray = ls at hl ⊢
  have hl : lv_has ls 5 [(0, .ref (a 7)), (1, .ref (R 26)), (2, .int (oI x)), (3, .int (oI y))] := hl
  refine lv_iload_n hx hb dX7_tokenFrom_0 rfl (lv_at hl 2 rfl) ?_
  refine lv_istore (lv' := [(4, .int (oI x)), (0, .ref (a 7)), (1, .ref (R 26)), (2, .int (oI x)), (3, .int (oI y))]) hx hb dX7_tokenFrom_1 hl (by decide) rfl (fun ls hl => ?_)
  exact lq_tokenFrom hx hb hml hown hts hK hNW hA hr hlocks x y ix iy (by assumption)  _ x (Nat.lt_succ_self _) (by omega) (show x ≤ x ∧ x ≤ 3001 from by first | assumption | omega | (with_reducible rfl) | ((repeat' apply And.intro) <;> first | assumption | omega | (with_reducible rfl))) _ _ hP hD hS ls (lv_sub hl [1, 2, 3, 4, 0] rfl)

set_option maxHeartbeats 4000000 in
set_option maxRecDepth 100000 in
/-- X7_isBreak -/
theorem c_isBreak (l : Launch) (dC : Nat → ClassId) (dI : Nat → Nat → Nat) (cB cC cI cJ cZ : ClassId) (a : Nat → Nat) (F : Nat → Int32) (X : Nat → Nat → Int32) (J : Nat → Nat → Int64) (R : Nat → Nat) (gf gn : Nat) (x : Int)  (ix : (-2147483648 ≤ x ∧ x < 2147483648)) (s0 : Nat) : Met l yX7_isBreak vX7_isBreak { frames := 1, cells := 0, slots := 0, locals := 60 } (va_Pc [.int (oI x)] (cPre dC dI cB cC cI cJ cZ a F X J R gf gn s0)) (va_Qi (fun (r : Int32) (_ : Unit) => (r).toInt = 0 ∨ (r).toInt = 1) (fun _ => cPost dC dI cB cC cI cJ cZ a F X J R gf gn (va_A (CW cB cC cI cJ cZ a F X J R gf gn) s0)) (va_A (CW cB cC cI cJ cZ a F X J R gf gn) s0)) 0 0 (va_A (CW cB cC cI cJ cZ a F X J R gf gn) s0) := by
  refine Met.ofW (cc := cX7_isBreak) (maxL := 1) (ret := (some .boolean)) (by decide) rfl ?_
  intro p e s m args below meth c s₁ B9 hml hv
  obtain ⟨rfl, hsz0, hP, hK, hD0, hNW⟩ := hv
  have hx := B9.exec
  have hb := B9.bytes
  have hr := B9.returns
  have hts := atoms_spec (ws := vX7_isBreak) B9.pre
  have hown : s.vm.findClass RX7 = some m.cls := findClass_of_methodNamed B9.named
  have hlocks := B9.notSynchronized
  clear B9
  subst hsz0
  have hD := hD0.self (sz := s.heap.size)
  generalize hAe : va_A (CW cB cC cI cJ cZ a F X J R gf gn) s.heap.size = A at hD ⊢
  have hA : ∀ q : Nat, s.heap.size ≤ q → A q := fun q h => by rw [← hAe]; exact Or.inr h
  have hS : va_S A s.heap s.heap [] := va_S.rf
  have hcs : 0 + 0 ≤ (0 : Nat) ∧ 0 + 0 ≤ (0 : Nat) := ⟨Nat.le_refl 0, Nat.le_refl 0⟩
  have hl := lv_entry ([.int (oI x)]) (n := 1) (Nat.le_of_ble_eq_true rfl)
  rw [lg_entry_eq]
  generalize (lg_sl ([.int (oI x)]) ++ List.replicate (1 - (lg_sl ([.int (oI x)])).length) Slot.unset).toArray = ls at hl ⊢
  have hl : lv_has ls 1 [(0, .int (oI x))] := hl
  refine lv_iload_n hx hb dX7_isBreak_0 rfl (lv_at hl 0 rfl) ?_
  refine lv_bipush (v := oI 32) hx hb dX7_isBreak_1 (by decide) ?_
  refine ci_eq (tgt := 18) hx hb (by omega) (by decide) dX7_isBreak_3 (by decide) (fun c_1 => ?_) (fun c_1 => ?_)
  · refine lv_iconst (v := oI 1) hx hb dX7_isBreak_18 (by decide) ?_
    refine lv_goto (tgt := 23) hx hb dX7_isBreak_19 (by decide) ?_
    have e0 : (oI 1).toInt = 1 := by decide
    have hpost : (oI 1).toInt = 0 ∨ (oI 1).toInt = 1 := by first | assumption | omega | (with_reducible rfl) | ((repeat' apply And.intro) <;> first | assumption | omega | (with_reducible rfl))
    exact W.zret (v := (oI 1)) hx hb hr (by first | rfl | decide | exact zb9 (by omega)) (fun t ht hW => ⟨⟨(oI 1), (), rfl, hpost, by rw [ht]; exact hP, va_K.moved hW.alike hK, hD⟩, hS.F ht⟩) hS.2.2 dX7_isBreak_23
  · refine lv_iload_n hx hb dX7_isBreak_6 rfl (lv_at hl 0 rfl) ?_
    refine lv_bipush (v := oI 40) hx hb dX7_isBreak_7 (by decide) ?_
    refine ci_eq (tgt := 18) hx hb (by omega) (by decide) dX7_isBreak_9 (by decide) (fun c_2 => ?_) (fun c_2 => ?_)
    · refine lv_iconst (v := oI 1) hx hb dX7_isBreak_18 (by decide) ?_
      refine lv_goto (tgt := 23) hx hb dX7_isBreak_19 (by decide) ?_
      have e0 : (oI 1).toInt = 1 := by decide
      have hpost : (oI 1).toInt = 0 ∨ (oI 1).toInt = 1 := by first | assumption | omega | (with_reducible rfl) | ((repeat' apply And.intro) <;> first | assumption | omega | (with_reducible rfl))
      exact W.zret (v := (oI 1)) hx hb hr (by first | rfl | decide | exact zb9 (by omega)) (fun t ht hW => ⟨⟨(oI 1), (), rfl, hpost, by rw [ht]; exact hP, va_K.moved hW.alike hK, hD⟩, hS.F ht⟩) hS.2.2 dX7_isBreak_23
    · refine lv_iload_n hx hb dX7_isBreak_12 rfl (lv_at hl 0 rfl) ?_
      refine lv_bipush (v := oI 41) hx hb dX7_isBreak_13 (by decide) ?_
      refine ci_ne (tgt := 22) hx hb (by omega) (by decide) dX7_isBreak_15 (by decide) (fun c_3 => ?_) (fun c_3 => ?_)
      · refine lv_iconst (v := oI 0) hx hb dX7_isBreak_22 (by decide) ?_
        have e0 : (oI 0).toInt = 0 := by decide
        have hpost : (oI 0).toInt = 0 ∨ (oI 0).toInt = 1 := by first | assumption | omega | (with_reducible rfl) | ((repeat' apply And.intro) <;> first | assumption | omega | (with_reducible rfl))
        exact W.zret (v := (oI 0)) hx hb hr (by first | rfl | decide | exact zb9 (by omega)) (fun t ht hW => ⟨⟨(oI 0), (), rfl, hpost, by rw [ht]; exact hP, va_K.moved hW.alike hK, hD⟩, hS.F ht⟩) hS.2.2 dX7_isBreak_23
      · refine lv_iconst (v := oI 1) hx hb dX7_isBreak_18 (by decide) ?_
        refine lv_goto (tgt := 23) hx hb dX7_isBreak_19 (by decide) ?_
        have e0 : (oI 1).toInt = 1 := by decide
        have hpost : (oI 1).toInt = 0 ∨ (oI 1).toInt = 1 := by first | assumption | omega | (with_reducible rfl) | ((repeat' apply And.intro) <;> first | assumption | omega | (with_reducible rfl))
        exact W.zret (v := (oI 1)) hx hb hr (by first | rfl | decide | exact zb9 (by omega)) (fun t ht hW => ⟨⟨(oI 1), (), rfl, hpost, by rw [ht]; exact hP, va_K.moved hW.alike hK, hD⟩, hS.F ht⟩) hS.2.2 dX7_isBreak_23

set_option maxHeartbeats 4000000 in
set_option maxRecDepth 100000 in
theorem lq_tokenEnd {p : Program} {l : Launch} {e : Env} {s : State} {m : MethodId} {args : Array Value} {below : List Frame} {meth : Method} {c : Code} {A : Nat → Prop} {dC : Nat → ClassId} {dI : Nat → Nat → Nat} {cB cC cI cJ cZ : ClassId} {a : Nat → Nat} {F : Nat → Int32} {X : Nat → Nat → Int32} {J : Nat → Nat → Int64} {R : Nat → Nat} {gf gn : Nat} (hx : p.tables.exec = Jvm.exec) (hb : c.code = cX7_tokenEnd) (hml : c.maxLocals = 5) (hown : s.vm.findClass RX7 = some m.cls) (hts : ∀ w ∈ vX7_tokenEnd, w.before args s = true) (hK : va_K (dC, dI) vwCl (TY cB cC cI cJ cZ) s) (hNW : NW s) (hA : ∀ q : Nat, s.heap.size ≤ q → A q) (hr : meth.sig.returnType = (some .int)) (hlocks : meth.locks = false) (x y : Int)  (ix : (-2147483648 ≤ x ∧ x < 2147483648)) (iy : (-2147483648 ≤ y ∧ y < 2147483648)) (hx2 : 0 ≤ x ∧ x ≤ 3000 ∧ 0 ≤ y ∧ y ≤ 3000)   : ∀ (k : Nat) (q : Int), (3001 - q).toNat < k → (-2147483648 ≤ q ∧ q < 2147483648) → (x ≤ q ∧ q ≤ 3000) → ∀ (H : Heap) (locs : List Loc), va_P (dC, dI) vwCl (CW cB cC cI cJ cZ a F X J R gf gn) H → va_D A (CW cB cC cI cJ cZ a F X J R gf gn) → va_S A s.heap H locs → ∀ (ls : Array Slot), lv_has ls 5 [(0, .ref (a 7)), (1, .ref (R 26)), (2, .int (oI x)), (3, .int (oI y)), (4, .int (oI q))] → W p l e (headSpec vX7_tokenEnd { frames := 2, cells := 0, slots := 0, locals := 80 }).room s m args below meth c H locs 0 0 (MQ below (va_Qi (fun (r : Int32) (_ : Unit) => x ≤ (r).toInt ∧ (r).toInt ≤ 3001) (fun _ => cPost dC dI cB cC cI cJ cZ a F X J R gf gn A) A) args s 0 0 A) (F0 m 3 ls []) := by
  have hcs : 0 + 0 ≤ (0 : Nat) ∧ 0 + 0 ≤ (0 : Nat) := ⟨Nat.le_refl 0, Nat.le_refl 0⟩
  intro k
  induction k with
  | zero =>
    intro q hk iq9 hq
    exact absurd hk (Nat.not_lt_zero _)
  | succ k ih =>
    intro q hk iq9 hq H locs hP hD hS ls hl
    refine lv_iload hx hb dX7_tokenEnd_3 (lv_at hl 4 rfl) ?_
    refine cz_lt (tgt := 37) hx hb (by omega) dX7_tokenEnd_5 (by decide) (fun c_1 => ?_) (fun c_1 => ?_)
    · refine lv_iload hx hb dX7_tokenEnd_37 (lv_at hl 4 rfl) ?_
      refine lv_iload_n hx hb dX7_tokenEnd_39 rfl (lv_at hl 2 rfl) ?_
      refine ci_ne (tgt := 54) hx hb (by omega) (by omega) dX7_tokenEnd_40 (by decide) (fun c_2 => ?_) (fun c_2 => ?_)
      · refine lv_iload hx hb dX7_tokenEnd_54 (lv_at hl 4 rfl) ?_
        have e0 : (oI q).toInt = q := toInt_oI (by omega)
        have hpost : x ≤ (oI q).toInt ∧ (oI q).toInt ≤ 3001 := by first | assumption | omega | (with_reducible rfl) | ((repeat' apply And.intro) <;> first | assumption | omega | (with_reducible rfl))
        exact W.iret (v := (oI q)) hx hb hr (fun t ht hW => ⟨⟨(oI q), (), rfl, hpost, by rw [ht]; exact hP, va_K.moved hW.alike hK, hD⟩, hS.F ht⟩) hS.2.2 dX7_tokenEnd_56
      · refine lv_iload_n hx hb dX7_tokenEnd_43 rfl (lv_at hl 2 rfl) ?_
        refine lv_iload_n hx hb dX7_tokenEnd_44 rfl (lv_at hl 3 rfl) ?_
        refine ci_ge (tgt := 54) hx hb (by omega) (by omega) dX7_tokenEnd_45 (by decide) (fun c_3 => ?_) (fun c_3 => ?_)
        · refine lv_iload hx hb dX7_tokenEnd_54 (lv_at hl 4 rfl) ?_
          have e0 : (oI q).toInt = q := toInt_oI (by omega)
          have hpost : x ≤ (oI q).toInt ∧ (oI q).toInt ≤ 3001 := by first | assumption | omega | (with_reducible rfl) | ((repeat' apply And.intro) <;> first | assumption | omega | (with_reducible rfl))
          exact W.iret (v := (oI q)) hx hb hr (fun t ht hW => ⟨⟨(oI q), (), rfl, hpost, by rw [ht]; exact hP, va_K.moved hW.alike hK, hD⟩, hS.F ht⟩) hS.2.2 dX7_tokenEnd_56
        · refine lv_iload_n hx hb dX7_tokenEnd_48 rfl (lv_at hl 2 rfl) ?_
          refine lv_iconst (v := oI 1) hx hb dX7_tokenEnd_49 (by decide) ?_
          refine lv_iadd hx hb dX7_tokenEnd_50 ?_
          refine tp_i (oI_add x 1) ?_
          refine lv_goto (tgt := 56) hx hb dX7_tokenEnd_51 (by decide) ?_
          have e0 : (oI (x + 1)).toInt = x + 1 := toInt_oI (by omega)
          have hpost : x ≤ (oI (x + 1)).toInt ∧ (oI (x + 1)).toInt ≤ 3001 := by first | assumption | omega | (with_reducible rfl) | ((repeat' apply And.intro) <;> first | assumption | omega | (with_reducible rfl))
          exact W.iret (v := (oI (x + 1))) hx hb hr (fun t ht hW => ⟨⟨(oI (x + 1)), (), rfl, hpost, by rw [ht]; exact hP, va_K.moved hW.alike hK, hD⟩, hS.F ht⟩) hS.2.2 dX7_tokenEnd_56
    · refine lv_iload hx hb dX7_tokenEnd_8 (lv_at hl 4 rfl) ?_
      refine lv_iload_n hx hb dX7_tokenEnd_10 rfl (lv_at hl 3 rfl) ?_
      refine ci_ge (tgt := 37) hx hb (by omega) (by omega) dX7_tokenEnd_11 (by decide) (fun c_4 => ?_) (fun c_4 => ?_)
      · refine lv_iload hx hb dX7_tokenEnd_37 (lv_at hl 4 rfl) ?_
        refine lv_iload_n hx hb dX7_tokenEnd_39 rfl (lv_at hl 2 rfl) ?_
        refine ci_ne (tgt := 54) hx hb (by omega) (by omega) dX7_tokenEnd_40 (by decide) (fun c_5 => ?_) (fun c_5 => ?_)
        · refine lv_iload hx hb dX7_tokenEnd_54 (lv_at hl 4 rfl) ?_
          have e0 : (oI q).toInt = q := toInt_oI (by omega)
          have hpost : x ≤ (oI q).toInt ∧ (oI q).toInt ≤ 3001 := by first | assumption | omega | (with_reducible rfl) | ((repeat' apply And.intro) <;> first | assumption | omega | (with_reducible rfl))
          exact W.iret (v := (oI q)) hx hb hr (fun t ht hW => ⟨⟨(oI q), (), rfl, hpost, by rw [ht]; exact hP, va_K.moved hW.alike hK, hD⟩, hS.F ht⟩) hS.2.2 dX7_tokenEnd_56
        · refine lv_iload_n hx hb dX7_tokenEnd_43 rfl (lv_at hl 2 rfl) ?_
          refine lv_iload_n hx hb dX7_tokenEnd_44 rfl (lv_at hl 3 rfl) ?_
          refine ci_ge (tgt := 54) hx hb (by omega) (by omega) dX7_tokenEnd_45 (by decide) (fun c_6 => ?_) (fun c_6 => ?_)
          · refine lv_iload hx hb dX7_tokenEnd_54 (lv_at hl 4 rfl) ?_
            have e0 : (oI q).toInt = q := toInt_oI (by omega)
            have hpost : x ≤ (oI q).toInt ∧ (oI q).toInt ≤ 3001 := by first | assumption | omega | (with_reducible rfl) | ((repeat' apply And.intro) <;> first | assumption | omega | (with_reducible rfl))
            exact W.iret (v := (oI q)) hx hb hr (fun t ht hW => ⟨⟨(oI q), (), rfl, hpost, by rw [ht]; exact hP, va_K.moved hW.alike hK, hD⟩, hS.F ht⟩) hS.2.2 dX7_tokenEnd_56
          · refine lv_iload_n hx hb dX7_tokenEnd_48 rfl (lv_at hl 2 rfl) ?_
            refine lv_iconst (v := oI 1) hx hb dX7_tokenEnd_49 (by decide) ?_
            refine lv_iadd hx hb dX7_tokenEnd_50 ?_
            refine tp_i (oI_add x 1) ?_
            refine lv_goto (tgt := 56) hx hb dX7_tokenEnd_51 (by decide) ?_
            have e0 : (oI (x + 1)).toInt = x + 1 := toInt_oI (by omega)
            have hpost : x ≤ (oI (x + 1)).toInt ∧ (oI (x + 1)).toInt ≤ 3001 := by first | assumption | omega | (with_reducible rfl) | ((repeat' apply And.intro) <;> first | assumption | omega | (with_reducible rfl))
            exact W.iret (v := (oI (x + 1))) hx hb hr (fun t ht hW => ⟨⟨(oI (x + 1)), (), rfl, hpost, by rw [ht]; exact hP, va_K.moved hW.alike hK, hD⟩, hS.F ht⟩) hS.2.2 dX7_tokenEnd_56
      · refine lv_iload hx hb dX7_tokenEnd_14 (lv_at hl 4 rfl) ?_
        refine lv_aload_n hx hb dX7_tokenEnd_16 rfl (lv_at hl 1 rfl) ?_
        refine cn_26 hx hb hK hP dX7_tokenEnd_17 ?_
        refine ci_ge (tgt := 37) hx hb (by omega) (by decide) dX7_tokenEnd_18 (by decide) (fun c_7 => ?_) (fun c_7 => ?_)
        · refine lv_iload hx hb dX7_tokenEnd_37 (lv_at hl 4 rfl) ?_
          refine lv_iload_n hx hb dX7_tokenEnd_39 rfl (lv_at hl 2 rfl) ?_
          refine ci_ne (tgt := 54) hx hb (by omega) (by omega) dX7_tokenEnd_40 (by decide) (fun c_8 => ?_) (fun c_8 => ?_)
          · refine lv_iload hx hb dX7_tokenEnd_54 (lv_at hl 4 rfl) ?_
            have e0 : (oI q).toInt = q := toInt_oI (by omega)
            have hpost : x ≤ (oI q).toInt ∧ (oI q).toInt ≤ 3001 := by first | assumption | omega | (with_reducible rfl) | ((repeat' apply And.intro) <;> first | assumption | omega | (with_reducible rfl))
            exact W.iret (v := (oI q)) hx hb hr (fun t ht hW => ⟨⟨(oI q), (), rfl, hpost, by rw [ht]; exact hP, va_K.moved hW.alike hK, hD⟩, hS.F ht⟩) hS.2.2 dX7_tokenEnd_56
          · refine lv_iload_n hx hb dX7_tokenEnd_43 rfl (lv_at hl 2 rfl) ?_
            refine lv_iload_n hx hb dX7_tokenEnd_44 rfl (lv_at hl 3 rfl) ?_
            refine ci_ge (tgt := 54) hx hb (by omega) (by omega) dX7_tokenEnd_45 (by decide) (fun c_9 => ?_) (fun c_9 => ?_)
            · refine lv_iload hx hb dX7_tokenEnd_54 (lv_at hl 4 rfl) ?_
              have e0 : (oI q).toInt = q := toInt_oI (by omega)
              have hpost : x ≤ (oI q).toInt ∧ (oI q).toInt ≤ 3001 := by first | assumption | omega | (with_reducible rfl) | ((repeat' apply And.intro) <;> first | assumption | omega | (with_reducible rfl))
              exact W.iret (v := (oI q)) hx hb hr (fun t ht hW => ⟨⟨(oI q), (), rfl, hpost, by rw [ht]; exact hP, va_K.moved hW.alike hK, hD⟩, hS.F ht⟩) hS.2.2 dX7_tokenEnd_56
            · refine lv_iload_n hx hb dX7_tokenEnd_48 rfl (lv_at hl 2 rfl) ?_
              refine lv_iconst (v := oI 1) hx hb dX7_tokenEnd_49 (by decide) ?_
              refine lv_iadd hx hb dX7_tokenEnd_50 ?_
              refine tp_i (oI_add x 1) ?_
              refine lv_goto (tgt := 56) hx hb dX7_tokenEnd_51 (by decide) ?_
              have e0 : (oI (x + 1)).toInt = x + 1 := toInt_oI (by omega)
              have hpost : x ≤ (oI (x + 1)).toInt ∧ (oI (x + 1)).toInt ≤ 3001 := by first | assumption | omega | (with_reducible rfl) | ((repeat' apply And.intro) <;> first | assumption | omega | (with_reducible rfl))
              exact W.iret (v := (oI (x + 1))) hx hb hr (fun t ht hW => ⟨⟨(oI (x + 1)), (), rfl, hpost, by rw [ht]; exact hP, va_K.moved hW.alike hK, hD⟩, hS.F ht⟩) hS.2.2 dX7_tokenEnd_56
        · refine lv_aload_n hx hb dX7_tokenEnd_21 rfl (lv_at hl 1 rfl) ?_
          refine lv_iload hx hb dX7_tokenEnd_22 (lv_at hl 4 rfl) ?_
          refine cl_26 hx hb hK hP (by omega) dX7_tokenEnd_24 (fun w_10 hw_10 => ?_)
          have i_11 := i32r w_10
          refine ccs_iS (As := [.int (oI w_10.toInt)]) (rest := []) ⟨hx, hb, hml, hown, hts⟩ (c_isBreak l dC dI cB cC cI cJ cZ a F X J R gf gn w_10.toInt  (i32r _)   H.size) (va_cwS 1 hts kX7_tokenEnd_X7_isBreak_91 rfl rfl rfl (by decide +kernel) ⟨Nat.le_of_ble_eq_true rfl, Nat.le_of_ble_eq_true rfl⟩) hK hNW hP hD hS hA rfl rfl hl.1 (lv_room (Nat.le_of_ble_eq_true rfl)) dX7_tokenEnd_25 hcs (fun r_12 hw_13 H locs hP hD hS => ?_)
          have hw_13 : (r_12).toInt = 0 ∨ (r_12).toInt = 1 := hw_13
          have hz := hw_13
          have i_14 := i32r r_12
          refine cz_ne (tgt := 37) hx hb (i32r _) dX7_tokenEnd_28 (by decide) (fun c_15 => ?_) (fun c_15 => ?_)
          · refine lv_iload hx hb dX7_tokenEnd_37 (lv_at hl 4 rfl) ?_
            refine lv_iload_n hx hb dX7_tokenEnd_39 rfl (lv_at hl 2 rfl) ?_
            refine ci_ne (tgt := 54) hx hb (by omega) (by omega) dX7_tokenEnd_40 (by decide) (fun c_16 => ?_) (fun c_16 => ?_)
            · refine lv_iload hx hb dX7_tokenEnd_54 (lv_at hl 4 rfl) ?_
              have e0 : (oI q).toInt = q := toInt_oI (by omega)
              have hpost : x ≤ (oI q).toInt ∧ (oI q).toInt ≤ 3001 := by first | assumption | omega | (with_reducible rfl) | ((repeat' apply And.intro) <;> first | assumption | omega | (with_reducible rfl))
              exact W.iret (v := (oI q)) hx hb hr (fun t ht hW => ⟨⟨(oI q), (), rfl, hpost, by rw [ht]; exact hP, va_K.moved hW.alike hK, hD⟩, hS.F ht⟩) hS.2.2 dX7_tokenEnd_56
            · refine lv_iload_n hx hb dX7_tokenEnd_43 rfl (lv_at hl 2 rfl) ?_
              refine lv_iload_n hx hb dX7_tokenEnd_44 rfl (lv_at hl 3 rfl) ?_
              refine ci_ge (tgt := 54) hx hb (by omega) (by omega) dX7_tokenEnd_45 (by decide) (fun c_17 => ?_) (fun c_17 => ?_)
              · refine lv_iload hx hb dX7_tokenEnd_54 (lv_at hl 4 rfl) ?_
                have e0 : (oI q).toInt = q := toInt_oI (by omega)
                have hpost : x ≤ (oI q).toInt ∧ (oI q).toInt ≤ 3001 := by first | assumption | omega | (with_reducible rfl) | ((repeat' apply And.intro) <;> first | assumption | omega | (with_reducible rfl))
                exact W.iret (v := (oI q)) hx hb hr (fun t ht hW => ⟨⟨(oI q), (), rfl, hpost, by rw [ht]; exact hP, va_K.moved hW.alike hK, hD⟩, hS.F ht⟩) hS.2.2 dX7_tokenEnd_56
              · refine lv_iload_n hx hb dX7_tokenEnd_48 rfl (lv_at hl 2 rfl) ?_
                refine lv_iconst (v := oI 1) hx hb dX7_tokenEnd_49 (by decide) ?_
                refine lv_iadd hx hb dX7_tokenEnd_50 ?_
                refine tp_i (oI_add x 1) ?_
                refine lv_goto (tgt := 56) hx hb dX7_tokenEnd_51 (by decide) ?_
                have e0 : (oI (x + 1)).toInt = x + 1 := toInt_oI (by omega)
                have hpost : x ≤ (oI (x + 1)).toInt ∧ (oI (x + 1)).toInt ≤ 3001 := by first | assumption | omega | (with_reducible rfl) | ((repeat' apply And.intro) <;> first | assumption | omega | (with_reducible rfl))
                exact W.iret (v := (oI (x + 1))) hx hb hr (fun t ht hW => ⟨⟨(oI (x + 1)), (), rfl, hpost, by rw [ht]; exact hP, va_K.moved hW.alike hK, hD⟩, hS.F ht⟩) hS.2.2 dX7_tokenEnd_56
          · refine lv_iinc (v := oI (q + 1)) (lv' := [(4, .int (oI (q + 1))), (0, .ref (a 7)), (1, .ref (R 26)), (2, .int (oI x)), (3, .int (oI y))]) hx hb dX7_tokenEnd_31 hl (k := 4) rfl (oI_add q 1) (by decide) rfl (fun ls hl => ?_)
            refine lv_goto (tgt := 3) hx hb dX7_tokenEnd_34 (by decide) ?_
            exact ih (q + 1) (show (3001 - (q + 1)).toNat < k from by omega) (by omega) (show x ≤ (q + 1) ∧ (q + 1) ≤ 3000 from by first | assumption | omega | (with_reducible rfl) | ((repeat' apply And.intro) <;> first | assumption | omega | (with_reducible rfl))) _ _ hP hD hS ls (lv_sub hl [1, 2, 3, 4, 0] rfl)

set_option maxHeartbeats 4000000 in
set_option maxRecDepth 100000 in
/-- X7_tokenEnd -/
theorem c_tokenEnd (l : Launch) (dC : Nat → ClassId) (dI : Nat → Nat → Nat) (cB cC cI cJ cZ : ClassId) (a : Nat → Nat) (F : Nat → Int32) (X : Nat → Nat → Int32) (J : Nat → Nat → Int64) (R : Nat → Nat) (gf gn : Nat) (x y : Int)  (ix : (-2147483648 ≤ x ∧ x < 2147483648)) (iy : (-2147483648 ≤ y ∧ y < 2147483648)) (hx2 : 0 ≤ x ∧ x ≤ 3000 ∧ 0 ≤ y ∧ y ≤ 3000) (s0 : Nat) : Met l yX7_tokenEnd vX7_tokenEnd { frames := 2, cells := 0, slots := 0, locals := 80 } (va_Pc [.ref (a 7), .ref (R 26), .int (oI x), .int (oI y)] (cPre dC dI cB cC cI cJ cZ a F X J R gf gn s0)) (va_Qi (fun (r : Int32) (_ : Unit) => x ≤ (r).toInt ∧ (r).toInt ≤ 3001) (fun _ => cPost dC dI cB cC cI cJ cZ a F X J R gf gn (va_A (CW cB cC cI cJ cZ a F X J R gf gn) s0)) (va_A (CW cB cC cI cJ cZ a F X J R gf gn) s0)) 0 0 (va_A (CW cB cC cI cJ cZ a F X J R gf gn) s0) := by
  refine Met.ofW (cc := cX7_tokenEnd) (maxL := 5) (ret := (some .int)) (by decide) rfl ?_
  intro p e s m args below meth c s₁ B9 hml hv
  obtain ⟨rfl, hsz0, hP, hK, hD0, hNW⟩ := hv
  have hx := B9.exec
  have hb := B9.bytes
  have hr := B9.returns
  have hts := atoms_spec (ws := vX7_tokenEnd) B9.pre
  have hown : s.vm.findClass RX7 = some m.cls := findClass_of_methodNamed B9.named
  have hlocks := B9.notSynchronized
  clear B9
  subst hsz0
  have hD := hD0.self (sz := s.heap.size)
  generalize hAe : va_A (CW cB cC cI cJ cZ a F X J R gf gn) s.heap.size = A at hD ⊢
  have hA : ∀ q : Nat, s.heap.size ≤ q → A q := fun q h => by rw [← hAe]; exact Or.inr h
  have hS : va_S A s.heap s.heap [] := va_S.rf
  have hcs : 0 + 0 ≤ (0 : Nat) ∧ 0 + 0 ≤ (0 : Nat) := ⟨Nat.le_refl 0, Nat.le_refl 0⟩
  have hl := lv_entry ([.ref (a 7), .ref (R 26), .int (oI x), .int (oI y)]) (n := 5) (Nat.le_of_ble_eq_true rfl)
  rw [lg_entry_eq]
  generalize (lg_sl ([.ref (a 7), .ref (R 26), .int (oI x), .int (oI y)]) ++ List.replicate (5 - (lg_sl ([.ref (a 7), .ref (R 26), .int (oI x), .int (oI y)])).length) Slot.unset).toArray = ls at hl ⊢
  have hl : lv_has ls 5 [(0, .ref (a 7)), (1, .ref (R 26)), (2, .int (oI x)), (3, .int (oI y))] := hl
  refine lv_iload_n hx hb dX7_tokenEnd_0 rfl (lv_at hl 2 rfl) ?_
  refine lv_istore (lv' := [(4, .int (oI x)), (0, .ref (a 7)), (1, .ref (R 26)), (2, .int (oI x)), (3, .int (oI y))]) hx hb dX7_tokenEnd_1 hl (by decide) rfl (fun ls hl => ?_)
  exact lq_tokenEnd hx hb hml hown hts hK hNW hA hr hlocks x y ix iy (by assumption)  _ x (Nat.lt_succ_self _) (by omega) (show x ≤ x ∧ x ≤ 3000 from by first | assumption | omega | (with_reducible rfl) | ((repeat' apply And.intro) <;> first | assumption | omega | (with_reducible rfl))) _ _ hP hD hS ls (lv_sub hl [1, 2, 3, 4, 0] rfl)

set_option maxHeartbeats 4000000 in
set_option maxRecDepth 100000 in
theorem lq_isDigits {p : Program} {l : Launch} {e : Env} {s : State} {m : MethodId} {args : Array Value} {below : List Frame} {meth : Method} {c : Code} {A : Nat → Prop} {dC : Nat → ClassId} {dI : Nat → Nat → Nat} {cB cC cI cJ cZ : ClassId} {a : Nat → Nat} {F : Nat → Int32} {X : Nat → Nat → Int32} {J : Nat → Nat → Int64} {R : Nat → Nat} {gf gn : Nat} (hx : p.tables.exec = Jvm.exec) (hb : c.code = cX7_isDigits) (hml : c.maxLocals = 4) (hown : s.vm.findClass RX7 = some m.cls) (hts : ∀ w ∈ vX7_isDigits, w.before args s = true) (hK : va_K (dC, dI) vwCl (TY cB cC cI cJ cZ) s) (hNW : NW s) (hA : ∀ q : Nat, s.heap.size ≤ q → A q) (hr : meth.sig.returnType = (some .boolean)) (hlocks : meth.locks = false) (x y : Int)  (ix : (-2147483648 ≤ x ∧ x < 2147483648)) (iy : (-2147483648 ≤ y ∧ y < 2147483648)) (hx2 : 0 ≤ x ∧ x ≤ 3001 ∧ 0 ≤ y ∧ y ≤ 3001)   : ∀ (k : Nat) (q : Int), (3001 - q).toNat < k → (-2147483648 ≤ q ∧ q < 2147483648) → (0 ≤ q) → ∀ (H : Heap) (locs : List Loc), va_P (dC, dI) vwCl (CW cB cC cI cJ cZ a F X J R gf gn) H → va_D A (CW cB cC cI cJ cZ a F X J R gf gn) → va_S A s.heap H locs → ∀ (ls : Array Slot), lv_has ls 4 [(0, .ref (R 26)), (1, .int (oI x)), (2, .int (oI y)), (3, .int (oI q))] → W p l e (headSpec vX7_isDigits { frames := 1, cells := 0, slots := 0, locals := 60 }).room s m args below meth c H locs 0 0 (MQ below (va_Qi (fun (r : Int32) (_ : Unit) => (r).toInt = 0 ∨ (r).toInt = 1) (fun _ => cPost dC dI cB cC cI cJ cZ a F X J R gf gn A) A) args s 0 0 A) (F0 m 2 ls []) := by
  have hcs : 0 + 0 ≤ (0 : Nat) ∧ 0 + 0 ≤ (0 : Nat) := ⟨Nat.le_refl 0, Nat.le_refl 0⟩
  intro k
  induction k with
  | zero =>
    intro q hk iq9 hq
    exact absurd hk (Nat.not_lt_zero _)
  | succ k ih =>
    intro q hk iq9 hq H locs hP hD hS ls hl
    refine lv_iload_n hx hb dX7_isDigits_2 rfl (lv_at hl 3 rfl) ?_
    refine cz_lt (tgt := 41) hx hb (by omega) dX7_isDigits_3 (by decide) (fun c_1 => ?_) (fun c_1 => ?_)
    · refine lv_iload_n hx hb dX7_isDigits_41 rfl (lv_at hl 1 rfl) ?_
      refine lv_iload_n hx hb dX7_isDigits_42 rfl (lv_at hl 2 rfl) ?_
      refine ci_ge (tgt := 50) hx hb (by omega) (by omega) dX7_isDigits_43 (by decide) (fun c_2 => ?_) (fun c_2 => ?_)
      · refine lv_iconst (v := oI 0) hx hb dX7_isDigits_50 (by decide) ?_
        have e0 : (oI 0).toInt = 0 := by decide
        have hpost : (oI 0).toInt = 0 ∨ (oI 0).toInt = 1 := by first | assumption | omega | (with_reducible rfl) | ((repeat' apply And.intro) <;> first | assumption | omega | (with_reducible rfl))
        exact W.zret (v := (oI 0)) hx hb hr (by first | rfl | decide | exact zb9 (by omega)) (fun t ht hW => ⟨⟨(oI 0), (), rfl, hpost, by rw [ht]; exact hP, va_K.moved hW.alike hK, hD⟩, hS.F ht⟩) hS.2.2 dX7_isDigits_51
      · refine lv_iconst (v := oI 1) hx hb dX7_isDigits_46 (by decide) ?_
        refine lv_goto (tgt := 51) hx hb dX7_isDigits_47 (by decide) ?_
        have e0 : (oI 1).toInt = 1 := by decide
        have hpost : (oI 1).toInt = 0 ∨ (oI 1).toInt = 1 := by first | assumption | omega | (with_reducible rfl) | ((repeat' apply And.intro) <;> first | assumption | omega | (with_reducible rfl))
        exact W.zret (v := (oI 1)) hx hb hr (by first | rfl | decide | exact zb9 (by omega)) (fun t ht hW => ⟨⟨(oI 1), (), rfl, hpost, by rw [ht]; exact hP, va_K.moved hW.alike hK, hD⟩, hS.F ht⟩) hS.2.2 dX7_isDigits_51
    · refine lv_iload_n hx hb dX7_isDigits_6 rfl (lv_at hl 3 rfl) ?_
      refine lv_iload_n hx hb dX7_isDigits_7 rfl (lv_at hl 2 rfl) ?_
      refine ci_ge (tgt := 41) hx hb (by omega) (by omega) dX7_isDigits_8 (by decide) (fun c_3 => ?_) (fun c_3 => ?_)
      · refine lv_iload_n hx hb dX7_isDigits_41 rfl (lv_at hl 1 rfl) ?_
        refine lv_iload_n hx hb dX7_isDigits_42 rfl (lv_at hl 2 rfl) ?_
        refine ci_ge (tgt := 50) hx hb (by omega) (by omega) dX7_isDigits_43 (by decide) (fun c_4 => ?_) (fun c_4 => ?_)
        · refine lv_iconst (v := oI 0) hx hb dX7_isDigits_50 (by decide) ?_
          have e0 : (oI 0).toInt = 0 := by decide
          have hpost : (oI 0).toInt = 0 ∨ (oI 0).toInt = 1 := by first | assumption | omega | (with_reducible rfl) | ((repeat' apply And.intro) <;> first | assumption | omega | (with_reducible rfl))
          exact W.zret (v := (oI 0)) hx hb hr (by first | rfl | decide | exact zb9 (by omega)) (fun t ht hW => ⟨⟨(oI 0), (), rfl, hpost, by rw [ht]; exact hP, va_K.moved hW.alike hK, hD⟩, hS.F ht⟩) hS.2.2 dX7_isDigits_51
        · refine lv_iconst (v := oI 1) hx hb dX7_isDigits_46 (by decide) ?_
          refine lv_goto (tgt := 51) hx hb dX7_isDigits_47 (by decide) ?_
          have e0 : (oI 1).toInt = 1 := by decide
          have hpost : (oI 1).toInt = 0 ∨ (oI 1).toInt = 1 := by first | assumption | omega | (with_reducible rfl) | ((repeat' apply And.intro) <;> first | assumption | omega | (with_reducible rfl))
          exact W.zret (v := (oI 1)) hx hb hr (by first | rfl | decide | exact zb9 (by omega)) (fun t ht hW => ⟨⟨(oI 1), (), rfl, hpost, by rw [ht]; exact hP, va_K.moved hW.alike hK, hD⟩, hS.F ht⟩) hS.2.2 dX7_isDigits_51
      · refine lv_iload_n hx hb dX7_isDigits_11 rfl (lv_at hl 3 rfl) ?_
        refine lv_aload_n hx hb dX7_isDigits_12 rfl (lv_at hl 0 rfl) ?_
        refine cn_26 hx hb hK hP dX7_isDigits_13 ?_
        refine ci_ge (tgt := 41) hx hb (by omega) (by decide) dX7_isDigits_14 (by decide) (fun c_5 => ?_) (fun c_5 => ?_)
        · refine lv_iload_n hx hb dX7_isDigits_41 rfl (lv_at hl 1 rfl) ?_
          refine lv_iload_n hx hb dX7_isDigits_42 rfl (lv_at hl 2 rfl) ?_
          refine ci_ge (tgt := 50) hx hb (by omega) (by omega) dX7_isDigits_43 (by decide) (fun c_6 => ?_) (fun c_6 => ?_)
          · refine lv_iconst (v := oI 0) hx hb dX7_isDigits_50 (by decide) ?_
            have e0 : (oI 0).toInt = 0 := by decide
            have hpost : (oI 0).toInt = 0 ∨ (oI 0).toInt = 1 := by first | assumption | omega | (with_reducible rfl) | ((repeat' apply And.intro) <;> first | assumption | omega | (with_reducible rfl))
            exact W.zret (v := (oI 0)) hx hb hr (by first | rfl | decide | exact zb9 (by omega)) (fun t ht hW => ⟨⟨(oI 0), (), rfl, hpost, by rw [ht]; exact hP, va_K.moved hW.alike hK, hD⟩, hS.F ht⟩) hS.2.2 dX7_isDigits_51
          · refine lv_iconst (v := oI 1) hx hb dX7_isDigits_46 (by decide) ?_
            refine lv_goto (tgt := 51) hx hb dX7_isDigits_47 (by decide) ?_
            have e0 : (oI 1).toInt = 1 := by decide
            have hpost : (oI 1).toInt = 0 ∨ (oI 1).toInt = 1 := by first | assumption | omega | (with_reducible rfl) | ((repeat' apply And.intro) <;> first | assumption | omega | (with_reducible rfl))
            exact W.zret (v := (oI 1)) hx hb hr (by first | rfl | decide | exact zb9 (by omega)) (fun t ht hW => ⟨⟨(oI 1), (), rfl, hpost, by rw [ht]; exact hP, va_K.moved hW.alike hK, hD⟩, hS.F ht⟩) hS.2.2 dX7_isDigits_51
        · refine lv_aload_n hx hb dX7_isDigits_17 rfl (lv_at hl 0 rfl) ?_
          refine lv_iload_n hx hb dX7_isDigits_18 rfl (lv_at hl 3 rfl) ?_
          refine cl_26 hx hb hK hP (by omega) dX7_isDigits_19 (fun w_7 hw_7 => ?_)
          have i_8 := i32r w_7
          refine lv_bipush (v := oI 48) hx hb dX7_isDigits_20 (by decide) ?_
          refine ci_lt (tgt := 33) hx hb (i32r _) (by decide) dX7_isDigits_22 (by decide) (fun c_9 => ?_) (fun c_9 => ?_)
          · refine lv_iconst (v := oI 0) hx hb dX7_isDigits_33 (by decide) ?_
            have e0 : (oI 0).toInt = 0 := by decide
            have hpost : (oI 0).toInt = 0 ∨ (oI 0).toInt = 1 := by first | assumption | omega | (with_reducible rfl) | ((repeat' apply And.intro) <;> first | assumption | omega | (with_reducible rfl))
            exact W.zret (v := (oI 0)) hx hb hr (by first | rfl | decide | exact zb9 (by omega)) (fun t ht hW => ⟨⟨(oI 0), (), rfl, hpost, by rw [ht]; exact hP, va_K.moved hW.alike hK, hD⟩, hS.F ht⟩) hS.2.2 dX7_isDigits_34
          · refine lv_aload_n hx hb dX7_isDigits_25 rfl (lv_at hl 0 rfl) ?_
            refine lv_iload_n hx hb dX7_isDigits_26 rfl (lv_at hl 3 rfl) ?_
            refine cl_26 hx hb hK hP (by omega) dX7_isDigits_27 (fun w_10 hw_10 => ?_)
            have i_11 := i32r w_10
            have q_12 : w_10.toInt = w_7.toInt := by rw [hw_10, hw_7]
            refine lv_bipush (v := oI 57) hx hb dX7_isDigits_28 (by decide) ?_
            refine ci_le (tgt := 35) hx hb (i32r _) (by decide) dX7_isDigits_30 (by decide) (fun c_13 => ?_) (fun c_13 => ?_)
            · refine lv_iinc (v := oI (q + 1)) (lv' := [(3, .int (oI (q + 1))), (0, .ref (R 26)), (1, .int (oI x)), (2, .int (oI y))]) hx hb dX7_isDigits_35 hl (k := 3) rfl (oI_add q 1) (by decide) rfl (fun ls hl => ?_)
              refine lv_goto (tgt := 2) hx hb dX7_isDigits_38 (by decide) ?_
              exact ih (q + 1) (show (3001 - (q + 1)).toNat < k from by omega) (by omega) (show 0 ≤ (q + 1) from by first | assumption | omega | (with_reducible rfl) | ((repeat' apply And.intro) <;> first | assumption | omega | (with_reducible rfl))) _ _ hP hD hS ls (lv_sub hl [1, 2, 3, 0] rfl)
            · refine lv_iconst (v := oI 0) hx hb dX7_isDigits_33 (by decide) ?_
              have e0 : (oI 0).toInt = 0 := by decide
              have hpost : (oI 0).toInt = 0 ∨ (oI 0).toInt = 1 := by first | assumption | omega | (with_reducible rfl) | ((repeat' apply And.intro) <;> first | assumption | omega | (with_reducible rfl))
              exact W.zret (v := (oI 0)) hx hb hr (by first | rfl | decide | exact zb9 (by omega)) (fun t ht hW => ⟨⟨(oI 0), (), rfl, hpost, by rw [ht]; exact hP, va_K.moved hW.alike hK, hD⟩, hS.F ht⟩) hS.2.2 dX7_isDigits_34

set_option maxHeartbeats 4000000 in
set_option maxRecDepth 100000 in
/-- X7_isDigits -/
theorem c_isDigits (l : Launch) (dC : Nat → ClassId) (dI : Nat → Nat → Nat) (cB cC cI cJ cZ : ClassId) (a : Nat → Nat) (F : Nat → Int32) (X : Nat → Nat → Int32) (J : Nat → Nat → Int64) (R : Nat → Nat) (gf gn : Nat) (x y : Int)  (ix : (-2147483648 ≤ x ∧ x < 2147483648)) (iy : (-2147483648 ≤ y ∧ y < 2147483648)) (hx2 : 0 ≤ x ∧ x ≤ 3001 ∧ 0 ≤ y ∧ y ≤ 3001) (s0 : Nat) : Met l yX7_isDigits vX7_isDigits { frames := 1, cells := 0, slots := 0, locals := 60 } (va_Pc [.ref (R 26), .int (oI x), .int (oI y)] (cPre dC dI cB cC cI cJ cZ a F X J R gf gn s0)) (va_Qi (fun (r : Int32) (_ : Unit) => (r).toInt = 0 ∨ (r).toInt = 1) (fun _ => cPost dC dI cB cC cI cJ cZ a F X J R gf gn (va_A (CW cB cC cI cJ cZ a F X J R gf gn) s0)) (va_A (CW cB cC cI cJ cZ a F X J R gf gn) s0)) 0 0 (va_A (CW cB cC cI cJ cZ a F X J R gf gn) s0) := by
  refine Met.ofW (cc := cX7_isDigits) (maxL := 4) (ret := (some .boolean)) (by decide) rfl ?_
  intro p e s m args below meth c s₁ B9 hml hv
  obtain ⟨rfl, hsz0, hP, hK, hD0, hNW⟩ := hv
  have hx := B9.exec
  have hb := B9.bytes
  have hr := B9.returns
  have hts := atoms_spec (ws := vX7_isDigits) B9.pre
  have hown : s.vm.findClass RX7 = some m.cls := findClass_of_methodNamed B9.named
  have hlocks := B9.notSynchronized
  clear B9
  subst hsz0
  have hD := hD0.self (sz := s.heap.size)
  generalize hAe : va_A (CW cB cC cI cJ cZ a F X J R gf gn) s.heap.size = A at hD ⊢
  have hA : ∀ q : Nat, s.heap.size ≤ q → A q := fun q h => by rw [← hAe]; exact Or.inr h
  have hS : va_S A s.heap s.heap [] := va_S.rf
  have hcs : 0 + 0 ≤ (0 : Nat) ∧ 0 + 0 ≤ (0 : Nat) := ⟨Nat.le_refl 0, Nat.le_refl 0⟩
  have hl := lv_entry ([.ref (R 26), .int (oI x), .int (oI y)]) (n := 4) (Nat.le_of_ble_eq_true rfl)
  rw [lg_entry_eq]
  generalize (lg_sl ([.ref (R 26), .int (oI x), .int (oI y)]) ++ List.replicate (4 - (lg_sl ([.ref (R 26), .int (oI x), .int (oI y)])).length) Slot.unset).toArray = ls at hl ⊢
  have hl : lv_has ls 4 [(0, .ref (R 26)), (1, .int (oI x)), (2, .int (oI y))] := hl
  refine lv_iload_n hx hb dX7_isDigits_0 rfl (lv_at hl 1 rfl) ?_
  refine lv_istore_n (lv' := [(3, .int (oI x)), (0, .ref (R 26)), (1, .int (oI x)), (2, .int (oI y))]) hx hb dX7_isDigits_1 rfl hl (by decide) rfl (fun ls hl => ?_)
  exact lq_isDigits hx hb hml hown hts hK hNW hA hr hlocks x y ix iy (by assumption)  _ x (Nat.lt_succ_self _) (by omega) (show 0 ≤ x from by first | assumption | omega | (with_reducible rfl) | ((repeat' apply And.intro) <;> first | assumption | omega | (with_reducible rfl))) _ _ hP hD hS ls (lv_sub hl [1, 2, 3, 0] rfl)

set_option maxHeartbeats 4000000 in
set_option maxRecDepth 100000 in
/-- X7_isNumber -/
theorem c_isNumber (l : Launch) (dC : Nat → ClassId) (dI : Nat → Nat → Nat) (cB cC cI cJ cZ : ClassId) (a : Nat → Nat) (F : Nat → Int32) (X : Nat → Nat → Int32) (J : Nat → Nat → Int64) (R : Nat → Nat) (gf gn : Nat) (x y : Int)  (ix : (-2147483648 ≤ x ∧ x < 2147483648)) (iy : (-2147483648 ≤ y ∧ y < 2147483648)) (hx2 : 0 ≤ x ∧ x ≤ 3001 ∧ 0 ≤ y ∧ y ≤ 3001) (s0 : Nat) : Met l yX7_isNumber vX7_isNumber { frames := 2, cells := 0, slots := 0, locals := 83 } (va_Pc [.ref (R 26), .int (oI x), .int (oI y)] (cPre dC dI cB cC cI cJ cZ a F X J R gf gn s0)) (va_Qi (fun (r : Int32) (_ : Unit) => (r).toInt = 0 ∨ (r).toInt = 1) (fun _ => cPost dC dI cB cC cI cJ cZ a F X J R gf gn (va_A (CW cB cC cI cJ cZ a F X J R gf gn) s0)) (va_A (CW cB cC cI cJ cZ a F X J R gf gn) s0)) 0 0 (va_A (CW cB cC cI cJ cZ a F X J R gf gn) s0) := by
  refine Met.ofW (cc := cX7_isNumber) (maxL := 3) (ret := (some .boolean)) (by decide) rfl ?_
  intro p e s m args below meth c s₁ B9 hml hv
  obtain ⟨rfl, hsz0, hP, hK, hD0, hNW⟩ := hv
  have hx := B9.exec
  have hb := B9.bytes
  have hr := B9.returns
  have hts := atoms_spec (ws := vX7_isNumber) B9.pre
  have hown : s.vm.findClass RX7 = some m.cls := findClass_of_methodNamed B9.named
  have hlocks := B9.notSynchronized
  clear B9
  subst hsz0
  have hD := hD0.self (sz := s.heap.size)
  generalize hAe : va_A (CW cB cC cI cJ cZ a F X J R gf gn) s.heap.size = A at hD ⊢
  have hA : ∀ q : Nat, s.heap.size ≤ q → A q := fun q h => by rw [← hAe]; exact Or.inr h
  have hS : va_S A s.heap s.heap [] := va_S.rf
  have hcs : 0 + 0 ≤ (0 : Nat) ∧ 0 + 0 ≤ (0 : Nat) := ⟨Nat.le_refl 0, Nat.le_refl 0⟩
  have hl := lv_entry ([.ref (R 26), .int (oI x), .int (oI y)]) (n := 3) (Nat.le_of_ble_eq_true rfl)
  rw [lg_entry_eq]
  generalize (lg_sl ([.ref (R 26), .int (oI x), .int (oI y)]) ++ List.replicate (3 - (lg_sl ([.ref (R 26), .int (oI x), .int (oI y)])).length) Slot.unset).toArray = ls at hl ⊢
  have hl : lv_has ls 3 [(0, .ref (R 26)), (1, .int (oI x)), (2, .int (oI y))] := hl
  refine lv_iload_n hx hb dX7_isNumber_0 rfl (lv_at hl 2 rfl) ?_
  refine lv_iload_n hx hb dX7_isNumber_1 rfl (lv_at hl 1 rfl) ?_
  refine lv_isub hx hb dX7_isNumber_2 ?_
  refine tp_i (oI_sub y x) ?_
  refine lv_bipush (v := oI 6) hx hb dX7_isNumber_3 (by decide) ?_
  refine ci_gt (tgt := 21) hx hb (by omega) (by decide) dX7_isNumber_5 (by decide) (fun c_1 => ?_) (fun c_1 => ?_)
  · refine lv_iconst (v := oI 0) hx hb dX7_isNumber_21 (by decide) ?_
    have e0 : (oI 0).toInt = 0 := by decide
    have hpost : (oI 0).toInt = 0 ∨ (oI 0).toInt = 1 := by first | assumption | omega | (with_reducible rfl) | ((repeat' apply And.intro) <;> first | assumption | omega | (with_reducible rfl))
    exact W.zret (v := (oI 0)) hx hb hr (by first | rfl | decide | exact zb9 (by omega)) (fun t ht hW => ⟨⟨(oI 0), (), rfl, hpost, by rw [ht]; exact hP, va_K.moved hW.alike hK, hD⟩, hS.F ht⟩) hS.2.2 dX7_isNumber_22
  · refine lv_aload_n hx hb dX7_isNumber_8 rfl (lv_at hl 0 rfl) ?_
    refine lv_iload_n hx hb dX7_isNumber_9 rfl (lv_at hl 1 rfl) ?_
    refine lv_iload_n hx hb dX7_isNumber_10 rfl (lv_at hl 2 rfl) ?_
    refine ccs_iS (As := [.ref (R 26), .int (oI x), .int (oI y)]) (rest := []) ⟨hx, hb, hml, hown, hts⟩ (c_isDigits l dC dI cB cC cI cJ cZ a F X J R gf gn x y  (by omega) (by omega)  (show 0 ≤ x ∧ x ≤ 3001 ∧ 0 ≤ y ∧ y ≤ 3001 from by first | assumption | omega) s.heap.size) (va_cwS 3 hts kX7_isNumber_X7_isDigits_95 rfl rfl rfl (by decide +kernel) ⟨Nat.le_of_ble_eq_true rfl, Nat.le_of_ble_eq_true rfl⟩) hK hNW hP hD hS hA rfl rfl hl.1 (lv_room (Nat.le_of_ble_eq_true rfl)) dX7_isNumber_11 hcs (fun r_2 hw_3 H locs hP hD hS => ?_)
    have hw_3 : (r_2).toInt = 0 ∨ (r_2).toInt = 1 := hw_3
    have hz := hw_3
    have i_4 := i32r r_2
    refine cz_eq (tgt := 21) hx hb (i32r _) dX7_isNumber_14 (by decide) (fun c_5 => ?_) (fun c_5 => ?_)
    · refine lv_iconst (v := oI 0) hx hb dX7_isNumber_21 (by decide) ?_
      have e0 : (oI 0).toInt = 0 := by decide
      have hpost : (oI 0).toInt = 0 ∨ (oI 0).toInt = 1 := by first | assumption | omega | (with_reducible rfl) | ((repeat' apply And.intro) <;> first | assumption | omega | (with_reducible rfl))
      exact W.zret (v := (oI 0)) hx hb hr (by first | rfl | decide | exact zb9 (by omega)) (fun t ht hW => ⟨⟨(oI 0), (), rfl, hpost, by rw [ht]; exact hP, va_K.moved hW.alike hK, hD⟩, hS.F ht⟩) hS.2.2 dX7_isNumber_22
    · refine lv_iconst (v := oI 1) hx hb dX7_isNumber_17 (by decide) ?_
      refine lv_goto (tgt := 22) hx hb dX7_isNumber_18 (by decide) ?_
      have e0 : (oI 1).toInt = 1 := by decide
      have hpost : (oI 1).toInt = 0 ∨ (oI 1).toInt = 1 := by first | assumption | omega | (with_reducible rfl) | ((repeat' apply And.intro) <;> first | assumption | omega | (with_reducible rfl))
      exact W.zret (v := (oI 1)) hx hb hr (by first | rfl | decide | exact zb9 (by omega)) (fun t ht hW => ⟨⟨(oI 1), (), rfl, hpost, by rw [ht]; exact hP, va_K.moved hW.alike hK, hD⟩, hS.F ht⟩) hS.2.2 dX7_isNumber_22

set_option maxHeartbeats 4000000 in
set_option maxRecDepth 100000 in
/-- X7_symbolOf -/
theorem c_symbolOf (l : Launch) (dC : Nat → ClassId) (dI : Nat → Nat → Nat) (cB cC cI cJ cZ : ClassId) (a : Nat → Nat) (F : Nat → Int32) (X : Nat → Nat → Int32) (J : Nat → Nat → Int64) (R : Nat → Nat) (gf gn : Nat) (x y : Int)  (ix : (-2147483648 ≤ x ∧ x < 2147483648)) (iy : (-2147483648 ≤ y ∧ y < 2147483648)) (hsy : 0 ≤ (F 15).toInt ∧ (F 15).toInt ≤ 2560) (hx2 : 0 ≤ x ∧ x ≤ 3001 ∧ 0 ≤ y ∧ y ≤ 3001) (s0 : Nat) : Met l yX7_symbolOf vX7_symbolOf { frames := 2, cells := 0, slots := 0, locals := 85 } (va_Pc [.ref (a 7), .ref (R 26), .int (oI x), .int (oI y)] (cPre dC dI cB cC cI cJ cZ a F X J R gf gn s0)) (va_Qi (fun (r : Int32) (_ : Unit) => True) (fun _ => cPost dC dI cB cC cI cJ cZ a F X J R gf gn (va_A (CW cB cC cI cJ cZ a F X J R gf gn) s0)) (va_A (CW cB cC cI cJ cZ a F X J R gf gn) s0)) 0 0 (va_A (CW cB cC cI cJ cZ a F X J R gf gn) s0) := by
  refine Met.ofW (cc := cX7_symbolOf) (maxL := 4) (ret := (some .int)) (by decide) rfl ?_
  intro p e s m args below meth c s₁ B9 hml hv
  obtain ⟨rfl, hsz0, hP, hK, hD0, hNW⟩ := hv
  have hx := B9.exec
  have hb := B9.bytes
  have hr := B9.returns
  have hts := atoms_spec (ws := vX7_symbolOf) B9.pre
  have hown : s.vm.findClass RX7 = some m.cls := findClass_of_methodNamed B9.named
  have hlocks := B9.notSynchronized
  clear B9
  subst hsz0
  have hD := hD0.self (sz := s.heap.size)
  generalize hAe : va_A (CW cB cC cI cJ cZ a F X J R gf gn) s.heap.size = A at hD ⊢
  have hA : ∀ q : Nat, s.heap.size ≤ q → A q := fun q h => by rw [← hAe]; exact Or.inr h
  have hS : va_S A s.heap s.heap [] := va_S.rf
  have hcs : 0 + 0 ≤ (0 : Nat) ∧ 0 + 0 ≤ (0 : Nat) := ⟨Nat.le_refl 0, Nat.le_refl 0⟩
  have hl := lv_entry ([.ref (a 7), .ref (R 26), .int (oI x), .int (oI y)]) (n := 4) (Nat.le_of_ble_eq_true rfl)
  rw [lg_entry_eq]
  generalize (lg_sl ([.ref (a 7), .ref (R 26), .int (oI x), .int (oI y)]) ++ List.replicate (4 - (lg_sl ([.ref (a 7), .ref (R 26), .int (oI x), .int (oI y)])).length) Slot.unset).toArray = ls at hl ⊢
  have hl : lv_has ls 4 [(0, .ref (a 7)), (1, .ref (R 26)), (2, .int (oI x)), (3, .int (oI y))] := hl
  refine lv_aload_n hx hb dX7_symbolOf_0 rfl (lv_at hl 0 rfl) ?_
  refine cg_7_1 hx hb hts inX7_symbolOf_X7 hown hK hP (hts _ lkX7_symbolOf_f23) dX7_symbolOf_1 ?_
  refine lv_aload_n hx hb dX7_symbolOf_4 rfl (lv_at hl 1 rfl) ?_
  refine lv_iload_n hx hb dX7_symbolOf_5 rfl (lv_at hl 2 rfl) ?_
  refine lv_iload_n hx hb dX7_symbolOf_6 rfl (lv_at hl 3 rfl) ?_
  refine ccs_lS (As := [.ref (R 26), .int (oI x), .int (oI y)]) (rest := [.ref (a 6)]) ⟨hx, hb, hml, hown, hts⟩ (c_half l dC dI cB cC cI cJ cZ a F X J R gf gn x y  (by omega) (by omega)  (show x < 1073741824 from by first | assumption | omega) s.heap.size) (va_cwS 3 hts kX7_symbolOf_X6_half_79 rfl rfl rfl (by decide +kernel) ⟨Nat.le_of_ble_eq_true rfl, Nat.le_of_ble_eq_true rfl⟩) hK hNW hP hD hS hA rfl rfl hl.1 (lv_room (Nat.le_of_ble_eq_true rfl)) dX7_symbolOf_7 hcs (fun r_1 hw_2 H locs hP hD hS => ?_)
  refine lv_aload_n hx hb dX7_symbolOf_10 rfl (lv_at hl 1 rfl) ?_
  refine lv_iload_n hx hb dX7_symbolOf_11 rfl (lv_at hl 2 rfl) ?_
  refine lv_bipush (v := oI 8) hx hb dX7_symbolOf_12 (by decide) ?_
  refine lv_iadd hx hb dX7_symbolOf_14 ?_
  refine tp_i (oI_add x 8) ?_
  refine lv_iload_n hx hb dX7_symbolOf_15 rfl (lv_at hl 3 rfl) ?_
  refine ccs_lS (As := [.ref (R 26), .int (oI (x + 8)), .int (oI y)]) (rest := [.long r_1, .ref (a 6)]) ⟨hx, hb, hml, hown, hts⟩ (c_half l dC dI cB cC cI cJ cZ a F X J R gf gn (x + 8) y  (by omega) (by omega)  (show x + 8 < 1073741824 from by first | assumption | omega) H.size) (va_cwS 3 hts kX7_symbolOf_X6_half_79 rfl rfl rfl (by decide +kernel) ⟨Nat.le_of_ble_eq_true rfl, Nat.le_of_ble_eq_true rfl⟩) hK hNW hP hD hS hA rfl rfl hl.1 (lv_room (Nat.le_of_ble_eq_true rfl)) dX7_symbolOf_16 hcs (fun r_3 hw_4 H locs hP hD hS => ?_)
  refine ccs_iV (As := [.long r_1, .long r_3]) (rest := []) ⟨hx, hb, hml, hown, hts⟩ (c_find l dC dI cB cC cI cJ cZ a F X J R gf gn r_1 r_3   (show 0 ≤ (F 15).toInt ∧ (F 15).toInt ≤ 2560 from by first | assumption | omega)  H.size) (cwV 2 hts kX7_symbolOf_X6_find_98 rfl rfl rfl (by decide +kernel) ⟨Nat.le_of_ble_eq_true rfl, Nat.le_of_ble_eq_true rfl⟩) (va_recv hK hP (ci := 6) (q0 := 6) rfl rfl) hK hNW hP hD hS hA rfl rfl hl.1 (lv_room (Nat.le_of_ble_eq_true rfl)) dX7_symbolOf_19 hcs (fun r_5 hw_6 H locs hP hD hS => ?_)
  have i_7 := i32r r_5
  have hpost : True := trivial
  exact W.iret (v := (oI r_5.toInt)) hx hb hr (fun t ht hW => ⟨⟨(oI r_5.toInt), (), rfl, hpost, by rw [ht]; exact hP, va_K.moved hW.alike hK, hD⟩, hS.F ht⟩) hS.2.2 dX7_symbolOf_22

set_option maxHeartbeats 4000000 in
set_option maxRecDepth 100000 in
/-- X7_isSymbol -/
theorem c_isSymbol (l : Launch) (dC : Nat → ClassId) (dI : Nat → Nat → Nat) (cB cC cI cJ cZ : ClassId) (a : Nat → Nat) (F : Nat → Int32) (X : Nat → Nat → Int32) (J : Nat → Nat → Int64) (R : Nat → Nat) (gf gn : Nat) (x y : Int)  (ix : (-2147483648 ≤ x ∧ x < 2147483648)) (iy : (-2147483648 ≤ y ∧ y < 2147483648)) (hsy : 0 ≤ (F 15).toInt ∧ (F 15).toInt ≤ 2560) (hx2 : 0 ≤ x ∧ x ≤ 3001 ∧ 0 ≤ y ∧ y ≤ 3001) (s0 : Nat) : Met l yX7_isSymbol vX7_isSymbol { frames := 3, cells := 0, slots := 0, locals := 108 } (va_Pc [.ref (a 7), .ref (R 26), .int (oI x), .int (oI y)] (cPre dC dI cB cC cI cJ cZ a F X J R gf gn s0)) (va_Qi (fun (r : Int32) (_ : Unit) => (r).toInt = 0 ∨ (r).toInt = 1) (fun _ => cPost dC dI cB cC cI cJ cZ a F X J R gf gn (va_A (CW cB cC cI cJ cZ a F X J R gf gn) s0)) (va_A (CW cB cC cI cJ cZ a F X J R gf gn) s0)) 0 0 (va_A (CW cB cC cI cJ cZ a F X J R gf gn) s0) := by
  refine Met.ofW (cc := cX7_isSymbol) (maxL := 4) (ret := (some .boolean)) (by decide) rfl ?_
  intro p e s m args below meth c s₁ B9 hml hv
  obtain ⟨rfl, hsz0, hP, hK, hD0, hNW⟩ := hv
  have hx := B9.exec
  have hb := B9.bytes
  have hr := B9.returns
  have hts := atoms_spec (ws := vX7_isSymbol) B9.pre
  have hown : s.vm.findClass RX7 = some m.cls := findClass_of_methodNamed B9.named
  have hlocks := B9.notSynchronized
  clear B9
  subst hsz0
  have hD := hD0.self (sz := s.heap.size)
  generalize hAe : va_A (CW cB cC cI cJ cZ a F X J R gf gn) s.heap.size = A at hD ⊢
  have hA : ∀ q : Nat, s.heap.size ≤ q → A q := fun q h => by rw [← hAe]; exact Or.inr h
  have hS : va_S A s.heap s.heap [] := va_S.rf
  have hcs : 0 + 0 ≤ (0 : Nat) ∧ 0 + 0 ≤ (0 : Nat) := ⟨Nat.le_refl 0, Nat.le_refl 0⟩
  have hl := lv_entry ([.ref (a 7), .ref (R 26), .int (oI x), .int (oI y)]) (n := 4) (Nat.le_of_ble_eq_true rfl)
  rw [lg_entry_eq]
  generalize (lg_sl ([.ref (a 7), .ref (R 26), .int (oI x), .int (oI y)]) ++ List.replicate (4 - (lg_sl ([.ref (a 7), .ref (R 26), .int (oI x), .int (oI y)])).length) Slot.unset).toArray = ls at hl ⊢
  have hl : lv_has ls 4 [(0, .ref (a 7)), (1, .ref (R 26)), (2, .int (oI x)), (3, .int (oI y))] := hl
  refine lv_iload_n hx hb dX7_isSymbol_0 rfl (lv_at hl 2 rfl) ?_
  refine cz_lt (tgt := 33) hx hb (by omega) dX7_isSymbol_1 (by decide) (fun c_1 => ?_) (fun c_1 => ?_)
  · refine lv_iconst (v := oI 0) hx hb dX7_isSymbol_33 (by decide) ?_
    have e0 : (oI 0).toInt = 0 := by decide
    have hpost : (oI 0).toInt = 0 ∨ (oI 0).toInt = 1 := by first | assumption | omega | (with_reducible rfl) | ((repeat' apply And.intro) <;> first | assumption | omega | (with_reducible rfl))
    exact W.zret (v := (oI 0)) hx hb hr (by first | rfl | decide | exact zb9 (by omega)) (fun t ht hW => ⟨⟨(oI 0), (), rfl, hpost, by rw [ht]; exact hP, va_K.moved hW.alike hK, hD⟩, hS.F ht⟩) hS.2.2 dX7_isSymbol_34
  · refine lv_iload_n hx hb dX7_isSymbol_4 rfl (lv_at hl 2 rfl) ?_
    refine lv_iload_n hx hb dX7_isSymbol_5 rfl (lv_at hl 3 rfl) ?_
    refine ci_ge (tgt := 33) hx hb (by omega) (by omega) dX7_isSymbol_6 (by decide) (fun c_2 => ?_) (fun c_2 => ?_)
    · refine lv_iconst (v := oI 0) hx hb dX7_isSymbol_33 (by decide) ?_
      have e0 : (oI 0).toInt = 0 := by decide
      have hpost : (oI 0).toInt = 0 ∨ (oI 0).toInt = 1 := by first | assumption | omega | (with_reducible rfl) | ((repeat' apply And.intro) <;> first | assumption | omega | (with_reducible rfl))
      exact W.zret (v := (oI 0)) hx hb hr (by first | rfl | decide | exact zb9 (by omega)) (fun t ht hW => ⟨⟨(oI 0), (), rfl, hpost, by rw [ht]; exact hP, va_K.moved hW.alike hK, hD⟩, hS.F ht⟩) hS.2.2 dX7_isSymbol_34
    · refine lv_iload_n hx hb dX7_isSymbol_9 rfl (lv_at hl 3 rfl) ?_
      refine lv_aload_n hx hb dX7_isSymbol_10 rfl (lv_at hl 1 rfl) ?_
      refine cn_26 hx hb hK hP dX7_isSymbol_11 ?_
      refine ci_gt (tgt := 33) hx hb (by omega) (by decide) dX7_isSymbol_12 (by decide) (fun c_3 => ?_) (fun c_3 => ?_)
      · refine lv_iconst (v := oI 0) hx hb dX7_isSymbol_33 (by decide) ?_
        have e0 : (oI 0).toInt = 0 := by decide
        have hpost : (oI 0).toInt = 0 ∨ (oI 0).toInt = 1 := by first | assumption | omega | (with_reducible rfl) | ((repeat' apply And.intro) <;> first | assumption | omega | (with_reducible rfl))
        exact W.zret (v := (oI 0)) hx hb hr (by first | rfl | decide | exact zb9 (by omega)) (fun t ht hW => ⟨⟨(oI 0), (), rfl, hpost, by rw [ht]; exact hP, va_K.moved hW.alike hK, hD⟩, hS.F ht⟩) hS.2.2 dX7_isSymbol_34
      · refine lv_aload_n hx hb dX7_isSymbol_15 rfl (lv_at hl 1 rfl) ?_
        refine lv_iload_n hx hb dX7_isSymbol_16 rfl (lv_at hl 2 rfl) ?_
        refine cl_26 hx hb hK hP (by omega) dX7_isSymbol_17 (fun w_4 hw_4 => ?_)
        have i_5 := i32r w_4
        refine ccs_iS (As := [.int (oI w_4.toInt)]) (rest := []) ⟨hx, hb, hml, hown, hts⟩ (c_isBreak l dC dI cB cC cI cJ cZ a F X J R gf gn w_4.toInt  (i32r _)   s.heap.size) (va_cwS 1 hts kX7_isSymbol_X7_isBreak_91 rfl rfl rfl (by decide +kernel) ⟨Nat.le_of_ble_eq_true rfl, Nat.le_of_ble_eq_true rfl⟩) hK hNW hP hD hS hA rfl rfl hl.1 (lv_room (Nat.le_of_ble_eq_true rfl)) dX7_isSymbol_18 hcs (fun r_6 hw_7 H locs hP hD hS => ?_)
        have hw_7 : (r_6).toInt = 0 ∨ (r_6).toInt = 1 := hw_7
        have hz := hw_7
        have i_8 := i32r r_6
        refine cz_ne (tgt := 33) hx hb (i32r _) dX7_isSymbol_21 (by decide) (fun c_9 => ?_) (fun c_9 => ?_)
        · refine lv_iconst (v := oI 0) hx hb dX7_isSymbol_33 (by decide) ?_
          have e0 : (oI 0).toInt = 0 := by decide
          have hpost : (oI 0).toInt = 0 ∨ (oI 0).toInt = 1 := by first | assumption | omega | (with_reducible rfl) | ((repeat' apply And.intro) <;> first | assumption | omega | (with_reducible rfl))
          exact W.zret (v := (oI 0)) hx hb hr (by first | rfl | decide | exact zb9 (by omega)) (fun t ht hW => ⟨⟨(oI 0), (), rfl, hpost, by rw [ht]; exact hP, va_K.moved hW.alike hK, hD⟩, hS.F ht⟩) hS.2.2 dX7_isSymbol_34
        · refine lv_aload_n hx hb dX7_isSymbol_24 rfl (lv_at hl 1 rfl) ?_
          refine lv_iload_n hx hb dX7_isSymbol_25 rfl (lv_at hl 2 rfl) ?_
          refine lv_iload_n hx hb dX7_isSymbol_26 rfl (lv_at hl 3 rfl) ?_
          refine ccs_iS (As := [.ref (R 26), .int (oI x), .int (oI y)]) (rest := []) ⟨hx, hb, hml, hown, hts⟩ (c_isDigits l dC dI cB cC cI cJ cZ a F X J R gf gn x y  (by omega) (by omega)  (show 0 ≤ x ∧ x ≤ 3001 ∧ 0 ≤ y ∧ y ≤ 3001 from by first | assumption | omega) H.size) (va_cwS 3 hts kX7_isSymbol_X7_isDigits_95 rfl rfl rfl (by decide +kernel) ⟨Nat.le_of_ble_eq_true rfl, Nat.le_of_ble_eq_true rfl⟩) hK hNW hP hD hS hA rfl rfl hl.1 (lv_room (Nat.le_of_ble_eq_true rfl)) dX7_isSymbol_27 hcs (fun r_10 hw_11 H locs hP hD hS => ?_)
          have hw_11 : (r_10).toInt = 0 ∨ (r_10).toInt = 1 := hw_11
          have hz := hw_11
          have i_12 := i32r r_10
          refine cz_eq (tgt := 35) hx hb (i32r _) dX7_isSymbol_30 (by decide) (fun c_13 => ?_) (fun c_13 => ?_)
          · refine lv_iload_n hx hb dX7_isSymbol_35 rfl (lv_at hl 3 rfl) ?_
            refine lv_iload_n hx hb dX7_isSymbol_36 rfl (lv_at hl 2 rfl) ?_
            refine lv_isub hx hb dX7_isSymbol_37 ?_
            refine tp_i (oI_sub y x) ?_
            refine lv_bipush (v := oI 12) hx hb dX7_isSymbol_38 (by decide) ?_
            refine ci_le (tgt := 63) hx hb (by omega) (by decide) dX7_isSymbol_40 (by decide) (fun c_14 => ?_) (fun c_14 => ?_)
            · refine lv_iconst (v := oI 1) hx hb dX7_isSymbol_63 (by decide) ?_
              refine lv_goto (tgt := 68) hx hb dX7_isSymbol_64 (by decide) ?_
              have e0 : (oI 1).toInt = 1 := by decide
              have hpost : (oI 1).toInt = 0 ∨ (oI 1).toInt = 1 := by first | assumption | omega | (with_reducible rfl) | ((repeat' apply And.intro) <;> first | assumption | omega | (with_reducible rfl))
              exact W.zret (v := (oI 1)) hx hb hr (by first | rfl | decide | exact zb9 (by omega)) (fun t ht hW => ⟨⟨(oI 1), (), rfl, hpost, by rw [ht]; exact hP, va_K.moved hW.alike hK, hD⟩, hS.F ht⟩) hS.2.2 dX7_isSymbol_68
            · refine lv_iload_n hx hb dX7_isSymbol_43 rfl (lv_at hl 3 rfl) ?_
              refine lv_iload_n hx hb dX7_isSymbol_44 rfl (lv_at hl 2 rfl) ?_
              refine lv_isub hx hb dX7_isSymbol_45 ?_
              refine tp_i (oI_sub y x) ?_
              refine lv_bipush (v := oI 16) hx hb dX7_isSymbol_46 (by decide) ?_
              refine ci_gt (tgt := 67) hx hb (by omega) (by decide) dX7_isSymbol_48 (by decide) (fun c_15 => ?_) (fun c_15 => ?_)
              · refine lv_iconst (v := oI 0) hx hb dX7_isSymbol_67 (by decide) ?_
                have e0 : (oI 0).toInt = 0 := by decide
                have hpost : (oI 0).toInt = 0 ∨ (oI 0).toInt = 1 := by first | assumption | omega | (with_reducible rfl) | ((repeat' apply And.intro) <;> first | assumption | omega | (with_reducible rfl))
                exact W.zret (v := (oI 0)) hx hb hr (by first | rfl | decide | exact zb9 (by omega)) (fun t ht hW => ⟨⟨(oI 0), (), rfl, hpost, by rw [ht]; exact hP, va_K.moved hW.alike hK, hD⟩, hS.F ht⟩) hS.2.2 dX7_isSymbol_68
              · refine lv_aload_n hx hb dX7_isSymbol_51 rfl (lv_at hl 0 rfl) ?_
                refine lv_aload_n hx hb dX7_isSymbol_52 rfl (lv_at hl 1 rfl) ?_
                refine lv_iload_n hx hb dX7_isSymbol_53 rfl (lv_at hl 2 rfl) ?_
                refine lv_iload_n hx hb dX7_isSymbol_54 rfl (lv_at hl 3 rfl) ?_
                refine ccs_iV (As := [.ref (R 26), .int (oI x), .int (oI y)]) (rest := []) ⟨hx, hb, hml, hown, hts⟩ (c_symbolOf l dC dI cB cC cI cJ cZ a F X J R gf gn x y  (by omega) (by omega) (show 0 ≤ (F 15).toInt ∧ (F 15).toInt ≤ 2560 from by first | assumption | omega) (show 0 ≤ x ∧ x ≤ 3001 ∧ 0 ≤ y ∧ y ≤ 3001 from by first | assumption | omega) H.size) (cwV 3 hts kX7_isSymbol_X7_symbolOf_76 rfl rfl rfl (by decide +kernel) ⟨Nat.le_of_ble_eq_true rfl, Nat.le_of_ble_eq_true rfl⟩) (va_recv hK hP (ci := 7) (q0 := 7) rfl rfl) hK hNW hP hD hS hA rfl rfl hl.1 (lv_room (Nat.le_of_ble_eq_true rfl)) dX7_isSymbol_55 hcs (fun r_16 hw_17 H locs hP hD hS => ?_)
                have i_18 := i32r r_16
                refine lv_bipush (v := oI 6) hx hb dX7_isSymbol_58 (by decide) ?_
                refine ci_ne (tgt := 67) hx hb (i32r _) (by decide) dX7_isSymbol_60 (by decide) (fun c_19 => ?_) (fun c_19 => ?_)
                · refine lv_iconst (v := oI 0) hx hb dX7_isSymbol_67 (by decide) ?_
                  have e0 : (oI 0).toInt = 0 := by decide
                  have hpost : (oI 0).toInt = 0 ∨ (oI 0).toInt = 1 := by first | assumption | omega | (with_reducible rfl) | ((repeat' apply And.intro) <;> first | assumption | omega | (with_reducible rfl))
                  exact W.zret (v := (oI 0)) hx hb hr (by first | rfl | decide | exact zb9 (by omega)) (fun t ht hW => ⟨⟨(oI 0), (), rfl, hpost, by rw [ht]; exact hP, va_K.moved hW.alike hK, hD⟩, hS.F ht⟩) hS.2.2 dX7_isSymbol_68
                · refine lv_iconst (v := oI 1) hx hb dX7_isSymbol_63 (by decide) ?_
                  refine lv_goto (tgt := 68) hx hb dX7_isSymbol_64 (by decide) ?_
                  have e0 : (oI 1).toInt = 1 := by decide
                  have hpost : (oI 1).toInt = 0 ∨ (oI 1).toInt = 1 := by first | assumption | omega | (with_reducible rfl) | ((repeat' apply And.intro) <;> first | assumption | omega | (with_reducible rfl))
                  exact W.zret (v := (oI 1)) hx hb hr (by first | rfl | decide | exact zb9 (by omega)) (fun t ht hW => ⟨⟨(oI 1), (), rfl, hpost, by rw [ht]; exact hP, va_K.moved hW.alike hK, hD⟩, hS.F ht⟩) hS.2.2 dX7_isSymbol_68
          · refine lv_iconst (v := oI 0) hx hb dX7_isSymbol_33 (by decide) ?_
            have e0 : (oI 0).toInt = 0 := by decide
            have hpost : (oI 0).toInt = 0 ∨ (oI 0).toInt = 1 := by first | assumption | omega | (with_reducible rfl) | ((repeat' apply And.intro) <;> first | assumption | omega | (with_reducible rfl))
            exact W.zret (v := (oI 0)) hx hb hr (by first | rfl | decide | exact zb9 (by omega)) (fun t ht hW => ⟨⟨(oI 0), (), rfl, hpost, by rw [ht]; exact hP, va_K.moved hW.alike hK, hD⟩, hS.F ht⟩) hS.2.2 dX7_isSymbol_34

set_option maxHeartbeats 4000000 in
set_option maxRecDepth 100000 in
theorem lq_addNumber {p : Program} {l : Launch} {e : Env} {s : State} {m : MethodId} {args : Array Value} {below : List Frame} {meth : Method} {c : Code} {A : Nat → Prop} {dC : Nat → ClassId} {dI : Nat → Nat → Nat} {cB cC cI cJ cZ : ClassId} {a : Nat → Nat} {F : Nat → Int32} {X : Nat → Nat → Int32} {J : Nat → Nat → Int64} {R : Nat → Nat} {gf gn : Nat} (hx : p.tables.exec = Jvm.exec) (hb : c.code = cX7_addNumber) (hml : c.maxLocals = 6) (hown : s.vm.findClass RX7 = some m.cls) (hts : ∀ w ∈ vX7_addNumber, w.before args s = true) (hK : va_K (dC, dI) vwCl (TY cB cC cI cJ cZ) s) (hNW : NW s) (hA : ∀ q : Nat, s.heap.size ≤ q → A q) (hr : meth.sig.returnType = (some .int)) (hlocks : meth.locks = false) (x y : Int) (D : Int → Nat) (ix : (-2147483648 ≤ x ∧ x < 2147483648)) (iy : (-2147483648 ≤ y ∧ y < 2147483648)) (hgf : gf ≤ 67600) (hop : 0 ≤ (F 22).toInt ∧ (F 22).toInt ≤ 61) (hx2 : 0 ≤ x ∧ x ≤ 3001 ∧ 0 ≤ y ∧ y ≤ 3001) (hfi : FI (X 1) D gf (F 0).toInt (F 12).toInt) (hrd : RD (X 1) D (X 23) (F 22).toInt (F 12).toInt)   : ∀ (k : Nat) (va : Int) (q : Int), (3001 - q).toNat < k → (-2147483648 ≤ va ∧ va < 2147483648) → (-2147483648 ≤ q ∧ q < 2147483648) → (0 ≤ q) → ∀ (H : Heap) (locs : List Loc), va_P (dC, dI) vwCl (CW cB cC cI cJ cZ a F X J R gf gn) H → va_D A (CW cB cC cI cJ cZ a F X J R gf gn) → va_S A s.heap H locs → ∀ (ls : Array Slot), lv_has ls 6 [(0, .ref (a 7)), (1, .ref (R 26)), (2, .int (oI x)), (3, .int (oI y)), (4, .int (oI va)), (5, .int (oI q))] → W p l e (headSpec vX7_addNumber { frames := 2, cells := 0, slots := 0, locals := 81 }).room s m args below meth c H locs 0 0 (MQ below (va_Qi (fun (r : Int32) (u : (Nat → Int32) × (Nat → Nat → Int32)) => match u with | (F1, X1) => ∃ D9 : Int → Nat, FI (X1 1) D9 gf (F 0).toInt (F1 12).toInt ∧ RD (X1 1) D9 (X 23) (F 22).toInt (F1 12).toInt) (fun u => cPost dC dI cB cC cI cJ cZ a (rg 12 12 F u.1) (rg 0 1 X u.2) J R gf gn A) A) args s 0 0 A) (F0 m 6 ls []) := by
  have hcs : 0 + 0 ≤ (0 : Nat) ∧ 0 + 0 ≤ (0 : Nat) := ⟨Nat.le_refl 0, Nat.le_refl 0⟩
  intro k
  induction k with
  | zero =>
    intro va q hk iva9 iq9 hq
    exact absurd hk (Nat.not_lt_zero _)
  | succ k ih =>
    intro va q hk iva9 iq9 hq H locs hP hD hS ls hl
    refine lv_iload hx hb dX7_addNumber_6 (lv_at hl 5 rfl) ?_
    refine cz_lt (tgt := 45) hx hb (by omega) dX7_addNumber_8 (by decide) (fun c_1 => ?_) (fun c_1 => ?_)
    · refine lv_aload_n hx hb dX7_addNumber_45 rfl (lv_at hl 0 rfl) ?_
      refine cg_7_0 hx hb hts inX7_addNumber_X7 hown hK hP (hts _ lkX7_addNumber_f19) dX7_addNumber_46 ?_
      refine lv_iload hx hb dX7_addNumber_49 (lv_at hl 4 rfl) ?_
      refine ccs_iS (As := [.int (oI va)]) (rest := [.ref (a 1)]) ⟨hx, hb, hml, hown, hts⟩ (c_ofNumber l dC dI cB cC cI cJ cZ a F X J R gf gn va  (by omega)   H.size) (va_cwS 1 hts kX7_addNumber_X1_ofNumber_73 rfl rfl rfl (by decide +kernel) ⟨Nat.le_of_ble_eq_true rfl, Nat.le_of_ble_eq_true rfl⟩) hK hNW hP hD hS hA rfl rfl hl.1 (lv_room (Nat.le_of_ble_eq_true rfl)) dX7_addNumber_51 hcs (fun r_2 hw_3 H locs hP hD hS => ?_)
      have i_4 := i32r r_2
      refine ccp_iV (As := [.int (oI r_2.toInt)]) (rest := []) (gF := fun F9 => rg 12 12 F F9) (gX := fun X9 => rg 0 1 X X9) ⟨hx, hb, hml, hown, hts⟩ (c_addF l dC dI cB cC cI cJ cZ a F X J R gf gn r_2.toInt  (i32r _) (show gf ≤ 67600 from by first | assumption | omega)  H.size) (cwV 1 hts kX7_addNumber_X1_add_65 rfl rfl rfl (by decide +kernel) ⟨Nat.le_of_ble_eq_true rfl, Nat.le_of_ble_eq_true rfl⟩) (va_recv hK hP (ci := 1) (q0 := 1) rfl rfl) hK hNW hP hD hS hA rfl rfl hl.1 (lv_room (Nat.le_of_ble_eq_true rfl)) dX7_addNumber_54 hcs (fun r_5 F_6 X_7 hw_8 H locs hP hD hS => ?_)
      have hw_8 : ((0 ≤ (F 12).toInt ∧ (F 12).toInt < (gf : Int)) ∧ (r_5).toInt = (F 12).toInt ∧ (F_6 12).toInt = (F 12).toInt + 1 ∧ X_7 1 = upd (X 1) (F 12).toInt.toNat (oI 1)) ∨ (¬ (0 ≤ (F 12).toInt ∧ (F 12).toInt < (gf : Int)) ∧ (r_5).toInt = -1 ∧ (F_6 12).toInt = (F 12).toInt ∧ X_7 1 = (X 1)) := hw_8
      have hadd := hw_8
      have i_9 := i32r r_5
      refine lv_pop hx hb dX7_addNumber_57 rfl ?_
      refine lv_iconst (v := oI 0) hx hb dX7_addNumber_58 (by decide) ?_
      obtain ⟨D2, hf2, hG2, hL2⟩ := MK_add (z := (F 22).toInt) hfi (by omega) (hadd.elim Or.inl (fun h => Or.inr h.2))
      have hr2 := RD_gr hrd hG2
      have e0 : (oI 0).toInt = 0 := by decide
      have eF9 : rg 12 12 F (rg 12 12 F F_6) = rg 12 12 F F_6 := by funext k; simp only [rg, va_up]; (repeat' split) <;> first | with_reducible rfl | omega
      have eX9 : rg 0 1 X (rg 0 1 X X_7) = rg 0 1 X X_7 := by funext k; simp only [rg, va_up]; (repeat' split) <;> first | with_reducible rfl | omega
      have hP9 : va_P (dC, dI) vwCl (CW cB cC cI cJ cZ a (rg 12 12 F (rg 12 12 F F_6)) (rg 0 1 X (rg 0 1 X X_7)) J R gf gn) H := by rw [eF9, eX9]; exact hP
      have hD9 : va_D A (CW cB cC cI cJ cZ a (rg 12 12 F (rg 12 12 F F_6)) (rg 0 1 X (rg 0 1 X X_7)) J R gf gn) := by rw [eF9, eX9]; exact hD
      have hpost : ∃ D9 : Int → Nat, FI (X_7 1) D9 gf (F 0).toInt (F_6 12).toInt ∧ RD (X_7 1) D9 (X 23) (F 22).toInt (F_6 12).toInt := ⟨D2, hf2, hr2⟩
      exact W.iret (v := (oI 0)) hx hb hr (fun t ht hW => ⟨⟨(oI 0), (rg 12 12 F F_6, rg 0 1 X X_7), rfl, hpost, by rw [ht]; exact hP9, va_K.moved hW.alike hK, hD9⟩, hS.F ht⟩) hS.2.2 dX7_addNumber_59
    · refine lv_iload hx hb dX7_addNumber_11 (lv_at hl 5 rfl) ?_
      refine lv_iload_n hx hb dX7_addNumber_13 rfl (lv_at hl 3 rfl) ?_
      refine ci_ge (tgt := 45) hx hb (by omega) (by omega) dX7_addNumber_14 (by decide) (fun c_10 => ?_) (fun c_10 => ?_)
      · refine lv_aload_n hx hb dX7_addNumber_45 rfl (lv_at hl 0 rfl) ?_
        refine cg_7_0 hx hb hts inX7_addNumber_X7 hown hK hP (hts _ lkX7_addNumber_f19) dX7_addNumber_46 ?_
        refine lv_iload hx hb dX7_addNumber_49 (lv_at hl 4 rfl) ?_
        refine ccs_iS (As := [.int (oI va)]) (rest := [.ref (a 1)]) ⟨hx, hb, hml, hown, hts⟩ (c_ofNumber l dC dI cB cC cI cJ cZ a F X J R gf gn va  (by omega)   H.size) (va_cwS 1 hts kX7_addNumber_X1_ofNumber_73 rfl rfl rfl (by decide +kernel) ⟨Nat.le_of_ble_eq_true rfl, Nat.le_of_ble_eq_true rfl⟩) hK hNW hP hD hS hA rfl rfl hl.1 (lv_room (Nat.le_of_ble_eq_true rfl)) dX7_addNumber_51 hcs (fun r_11 hw_12 H locs hP hD hS => ?_)
        have i_13 := i32r r_11
        refine ccp_iV (As := [.int (oI r_11.toInt)]) (rest := []) (gF := fun F9 => rg 12 12 F F9) (gX := fun X9 => rg 0 1 X X9) ⟨hx, hb, hml, hown, hts⟩ (c_addF l dC dI cB cC cI cJ cZ a F X J R gf gn r_11.toInt  (i32r _) (show gf ≤ 67600 from by first | assumption | omega)  H.size) (cwV 1 hts kX7_addNumber_X1_add_65 rfl rfl rfl (by decide +kernel) ⟨Nat.le_of_ble_eq_true rfl, Nat.le_of_ble_eq_true rfl⟩) (va_recv hK hP (ci := 1) (q0 := 1) rfl rfl) hK hNW hP hD hS hA rfl rfl hl.1 (lv_room (Nat.le_of_ble_eq_true rfl)) dX7_addNumber_54 hcs (fun r_14 F_15 X_16 hw_17 H locs hP hD hS => ?_)
        have hw_17 : ((0 ≤ (F 12).toInt ∧ (F 12).toInt < (gf : Int)) ∧ (r_14).toInt = (F 12).toInt ∧ (F_15 12).toInt = (F 12).toInt + 1 ∧ X_16 1 = upd (X 1) (F 12).toInt.toNat (oI 1)) ∨ (¬ (0 ≤ (F 12).toInt ∧ (F 12).toInt < (gf : Int)) ∧ (r_14).toInt = -1 ∧ (F_15 12).toInt = (F 12).toInt ∧ X_16 1 = (X 1)) := hw_17
        have hadd := hw_17
        have i_18 := i32r r_14
        refine lv_pop hx hb dX7_addNumber_57 rfl ?_
        refine lv_iconst (v := oI 0) hx hb dX7_addNumber_58 (by decide) ?_
        obtain ⟨D2, hf2, hG2, hL2⟩ := MK_add (z := (F 22).toInt) hfi (by omega) (hadd.elim Or.inl (fun h => Or.inr h.2))
        have hr2 := RD_gr hrd hG2
        have e0 : (oI 0).toInt = 0 := by decide
        have eF9 : rg 12 12 F (rg 12 12 F F_15) = rg 12 12 F F_15 := by funext k; simp only [rg, va_up]; (repeat' split) <;> first | with_reducible rfl | omega
        have eX9 : rg 0 1 X (rg 0 1 X X_16) = rg 0 1 X X_16 := by funext k; simp only [rg, va_up]; (repeat' split) <;> first | with_reducible rfl | omega
        have hP9 : va_P (dC, dI) vwCl (CW cB cC cI cJ cZ a (rg 12 12 F (rg 12 12 F F_15)) (rg 0 1 X (rg 0 1 X X_16)) J R gf gn) H := by rw [eF9, eX9]; exact hP
        have hD9 : va_D A (CW cB cC cI cJ cZ a (rg 12 12 F (rg 12 12 F F_15)) (rg 0 1 X (rg 0 1 X X_16)) J R gf gn) := by rw [eF9, eX9]; exact hD
        have hpost : ∃ D9 : Int → Nat, FI (X_16 1) D9 gf (F 0).toInt (F_15 12).toInt ∧ RD (X_16 1) D9 (X 23) (F 22).toInt (F_15 12).toInt := ⟨D2, hf2, hr2⟩
        exact W.iret (v := (oI 0)) hx hb hr (fun t ht hW => ⟨⟨(oI 0), (rg 12 12 F F_15, rg 0 1 X X_16), rfl, hpost, by rw [ht]; exact hP9, va_K.moved hW.alike hK, hD9⟩, hS.F ht⟩) hS.2.2 dX7_addNumber_59
      · refine lv_iload hx hb dX7_addNumber_17 (lv_at hl 5 rfl) ?_
        refine lv_aload_n hx hb dX7_addNumber_19 rfl (lv_at hl 1 rfl) ?_
        refine cn_26 hx hb hK hP dX7_addNumber_20 ?_
        refine ci_ge (tgt := 45) hx hb (by omega) (by decide) dX7_addNumber_21 (by decide) (fun c_19 => ?_) (fun c_19 => ?_)
        · refine lv_aload_n hx hb dX7_addNumber_45 rfl (lv_at hl 0 rfl) ?_
          refine cg_7_0 hx hb hts inX7_addNumber_X7 hown hK hP (hts _ lkX7_addNumber_f19) dX7_addNumber_46 ?_
          refine lv_iload hx hb dX7_addNumber_49 (lv_at hl 4 rfl) ?_
          refine ccs_iS (As := [.int (oI va)]) (rest := [.ref (a 1)]) ⟨hx, hb, hml, hown, hts⟩ (c_ofNumber l dC dI cB cC cI cJ cZ a F X J R gf gn va  (by omega)   H.size) (va_cwS 1 hts kX7_addNumber_X1_ofNumber_73 rfl rfl rfl (by decide +kernel) ⟨Nat.le_of_ble_eq_true rfl, Nat.le_of_ble_eq_true rfl⟩) hK hNW hP hD hS hA rfl rfl hl.1 (lv_room (Nat.le_of_ble_eq_true rfl)) dX7_addNumber_51 hcs (fun r_20 hw_21 H locs hP hD hS => ?_)
          have i_22 := i32r r_20
          refine ccp_iV (As := [.int (oI r_20.toInt)]) (rest := []) (gF := fun F9 => rg 12 12 F F9) (gX := fun X9 => rg 0 1 X X9) ⟨hx, hb, hml, hown, hts⟩ (c_addF l dC dI cB cC cI cJ cZ a F X J R gf gn r_20.toInt  (i32r _) (show gf ≤ 67600 from by first | assumption | omega)  H.size) (cwV 1 hts kX7_addNumber_X1_add_65 rfl rfl rfl (by decide +kernel) ⟨Nat.le_of_ble_eq_true rfl, Nat.le_of_ble_eq_true rfl⟩) (va_recv hK hP (ci := 1) (q0 := 1) rfl rfl) hK hNW hP hD hS hA rfl rfl hl.1 (lv_room (Nat.le_of_ble_eq_true rfl)) dX7_addNumber_54 hcs (fun r_23 F_24 X_25 hw_26 H locs hP hD hS => ?_)
          have hw_26 : ((0 ≤ (F 12).toInt ∧ (F 12).toInt < (gf : Int)) ∧ (r_23).toInt = (F 12).toInt ∧ (F_24 12).toInt = (F 12).toInt + 1 ∧ X_25 1 = upd (X 1) (F 12).toInt.toNat (oI 1)) ∨ (¬ (0 ≤ (F 12).toInt ∧ (F 12).toInt < (gf : Int)) ∧ (r_23).toInt = -1 ∧ (F_24 12).toInt = (F 12).toInt ∧ X_25 1 = (X 1)) := hw_26
          have hadd := hw_26
          have i_27 := i32r r_23
          refine lv_pop hx hb dX7_addNumber_57 rfl ?_
          refine lv_iconst (v := oI 0) hx hb dX7_addNumber_58 (by decide) ?_
          obtain ⟨D2, hf2, hG2, hL2⟩ := MK_add (z := (F 22).toInt) hfi (by omega) (hadd.elim Or.inl (fun h => Or.inr h.2))
          have hr2 := RD_gr hrd hG2
          have e0 : (oI 0).toInt = 0 := by decide
          have eF9 : rg 12 12 F (rg 12 12 F F_24) = rg 12 12 F F_24 := by funext k; simp only [rg, va_up]; (repeat' split) <;> first | with_reducible rfl | omega
          have eX9 : rg 0 1 X (rg 0 1 X X_25) = rg 0 1 X X_25 := by funext k; simp only [rg, va_up]; (repeat' split) <;> first | with_reducible rfl | omega
          have hP9 : va_P (dC, dI) vwCl (CW cB cC cI cJ cZ a (rg 12 12 F (rg 12 12 F F_24)) (rg 0 1 X (rg 0 1 X X_25)) J R gf gn) H := by rw [eF9, eX9]; exact hP
          have hD9 : va_D A (CW cB cC cI cJ cZ a (rg 12 12 F (rg 12 12 F F_24)) (rg 0 1 X (rg 0 1 X X_25)) J R gf gn) := by rw [eF9, eX9]; exact hD
          have hpost : ∃ D9 : Int → Nat, FI (X_25 1) D9 gf (F 0).toInt (F_24 12).toInt ∧ RD (X_25 1) D9 (X 23) (F 22).toInt (F_24 12).toInt := ⟨D2, hf2, hr2⟩
          exact W.iret (v := (oI 0)) hx hb hr (fun t ht hW => ⟨⟨(oI 0), (rg 12 12 F F_24, rg 0 1 X X_25), rfl, hpost, by rw [ht]; exact hP9, va_K.moved hW.alike hK, hD9⟩, hS.F ht⟩) hS.2.2 dX7_addNumber_59
        · refine lv_bipush (v := oI 10) hx hb dX7_addNumber_24 (by decide) ?_
          refine lv_iload hx hb dX7_addNumber_26 (lv_at hl 4 rfl) ?_
          refine lv_imul hx hb dX7_addNumber_28 ?_
          refine tp_i (oI_mul 10 va) ?_
          refine lv_aload_n hx hb dX7_addNumber_29 rfl (lv_at hl 1 rfl) ?_
          refine lv_iload hx hb dX7_addNumber_30 (lv_at hl 5 rfl) ?_
          refine cl_26 hx hb hK hP (by omega) dX7_addNumber_32 (fun w_28 hw_28 => ?_)
          have i_29 := i32r w_28
          refine lv_bipush (v := oI 48) hx hb dX7_addNumber_33 (by decide) ?_
          refine lv_isub hx hb dX7_addNumber_35 ?_
          refine tp_i (oI_sub w_28.toInt 48) ?_
          refine lv_iadd hx hb dX7_addNumber_36 ?_
          refine tp_i (oI_add (10 * va) (w_28.toInt - 48)) ?_
          refine lv_topi (fun v_30 ev_30 => ?_)
          refine tp_i (oI_toInt v_30).symm ?_
          have i_31 := i32r v_30
          refine lv_istore (lv' := [(4, .int (oI v_30.toInt)), (0, .ref (a 7)), (1, .ref (R 26)), (2, .int (oI x)), (3, .int (oI y)), (5, .int (oI q))]) hx hb dX7_addNumber_37 hl (by decide) rfl (fun ls hl => ?_)
          refine lv_iinc (v := oI (q + 1)) (lv' := [(5, .int (oI (q + 1))), (4, .int (oI v_30.toInt)), (0, .ref (a 7)), (1, .ref (R 26)), (2, .int (oI x)), (3, .int (oI y))]) hx hb dX7_addNumber_39 hl (k := 5) rfl (oI_add q 1) (by decide) rfl (fun ls hl => ?_)
          refine lv_goto (tgt := 6) hx hb dX7_addNumber_42 (by decide) ?_
          exact ih v_30.toInt (q + 1) (show (3001 - (q + 1)).toNat < k from by omega) (i32r _) (by omega) (show 0 ≤ (q + 1) from by first | assumption | omega | (with_reducible rfl) | ((repeat' apply And.intro) <;> first | assumption | omega | (with_reducible rfl))) _ _ hP hD hS ls (lv_sub hl [2, 3, 4, 5, 1, 0] rfl)

set_option maxHeartbeats 4000000 in
set_option maxRecDepth 100000 in
/-- X7_addNumber -/
theorem c_addNumberR (l : Launch) (dC : Nat → ClassId) (dI : Nat → Nat → Nat) (cB cC cI cJ cZ : ClassId) (a : Nat → Nat) (F : Nat → Int32) (X : Nat → Nat → Int32) (J : Nat → Nat → Int64) (R : Nat → Nat) (gf gn : Nat) (x y : Int) (D : Int → Nat) (ix : (-2147483648 ≤ x ∧ x < 2147483648)) (iy : (-2147483648 ≤ y ∧ y < 2147483648)) (hgf : gf ≤ 67600) (hop : 0 ≤ (F 22).toInt ∧ (F 22).toInt ≤ 61) (hx2 : 0 ≤ x ∧ x ≤ 3001 ∧ 0 ≤ y ∧ y ≤ 3001) (hfi : FI (X 1) D gf (F 0).toInt (F 12).toInt) (hrd : RD (X 1) D (X 23) (F 22).toInt (F 12).toInt) (s0 : Nat) : Met l yX7_addNumber vX7_addNumber { frames := 2, cells := 0, slots := 0, locals := 81 } (va_Pc [.ref (a 7), .ref (R 26), .int (oI x), .int (oI y)] (cPre dC dI cB cC cI cJ cZ a F X J R gf gn s0)) (va_Qi (fun (r : Int32) (u : (Nat → Int32) × (Nat → Nat → Int32)) => match u with | (F1, X1) => ∃ D9 : Int → Nat, FI (X1 1) D9 gf (F 0).toInt (F1 12).toInt ∧ RD (X1 1) D9 (X 23) (F 22).toInt (F1 12).toInt) (fun u => cPost dC dI cB cC cI cJ cZ a (rg 12 12 F u.1) (rg 0 1 X u.2) J R gf gn (va_A (CW cB cC cI cJ cZ a F X J R gf gn) s0)) (va_A (CW cB cC cI cJ cZ a F X J R gf gn) s0)) 0 0 (va_A (CW cB cC cI cJ cZ a F X J R gf gn) s0) := by
  refine Met.ofW (cc := cX7_addNumber) (maxL := 6) (ret := (some .int)) (by decide) rfl ?_
  intro p e s m args below meth c s₁ B9 hml hv
  obtain ⟨rfl, hsz0, hP, hK, hD0, hNW⟩ := hv
  have hx := B9.exec
  have hb := B9.bytes
  have hr := B9.returns
  have hts := atoms_spec (ws := vX7_addNumber) B9.pre
  have hown : s.vm.findClass RX7 = some m.cls := findClass_of_methodNamed B9.named
  have hlocks := B9.notSynchronized
  clear B9
  subst hsz0
  have hD := hD0.self (sz := s.heap.size)
  generalize hAe : va_A (CW cB cC cI cJ cZ a F X J R gf gn) s.heap.size = A at hD ⊢
  have hA : ∀ q : Nat, s.heap.size ≤ q → A q := fun q h => by rw [← hAe]; exact Or.inr h
  have hS : va_S A s.heap s.heap [] := va_S.rf
  have hcs : 0 + 0 ≤ (0 : Nat) ∧ 0 + 0 ≤ (0 : Nat) := ⟨Nat.le_refl 0, Nat.le_refl 0⟩
  have hl := lv_entry ([.ref (a 7), .ref (R 26), .int (oI x), .int (oI y)]) (n := 6) (Nat.le_of_ble_eq_true rfl)
  rw [lg_entry_eq]
  generalize (lg_sl ([.ref (a 7), .ref (R 26), .int (oI x), .int (oI y)]) ++ List.replicate (6 - (lg_sl ([.ref (a 7), .ref (R 26), .int (oI x), .int (oI y)])).length) Slot.unset).toArray = ls at hl ⊢
  have hl : lv_has ls 6 [(0, .ref (a 7)), (1, .ref (R 26)), (2, .int (oI x)), (3, .int (oI y))] := hl
  refine lv_iconst (v := oI 0) hx hb dX7_addNumber_0 (by decide) ?_
  refine lv_istore (lv' := [(4, .int (oI 0)), (0, .ref (a 7)), (1, .ref (R 26)), (2, .int (oI x)), (3, .int (oI y))]) hx hb dX7_addNumber_1 hl (by decide) rfl (fun ls hl => ?_)
  refine lv_iload_n hx hb dX7_addNumber_3 rfl (lv_at hl 3 rfl) ?_
  refine lv_istore (lv' := [(5, .int (oI x)), (4, .int (oI 0)), (0, .ref (a 7)), (1, .ref (R 26)), (2, .int (oI x)), (3, .int (oI y))]) hx hb dX7_addNumber_4 hl (by decide) rfl (fun ls hl => ?_)
  exact lq_addNumber hx hb hml hown hts hK hNW hA hr hlocks x y D ix iy (by assumption) (by assumption) (by assumption) (by assumption) (by assumption)  _ 0 x (Nat.lt_succ_self _) (by decide) (by omega) (show 0 ≤ x from by first | assumption | omega | (with_reducible rfl) | ((repeat' apply And.intro) <;> first | assumption | omega | (with_reducible rfl))) _ _ hP hD hS ls (lv_sub hl [2, 3, 4, 5, 1, 0] rfl)

set_option maxHeartbeats 4000000 in
set_option maxRecDepth 100000 in
/-- X7_addSymbol -/
theorem c_addSymbolR (l : Launch) (dC : Nat → ClassId) (dI : Nat → Nat → Nat) (cB cC cI cJ cZ : ClassId) (a : Nat → Nat) (F : Nat → Int32) (X : Nat → Nat → Int32) (J : Nat → Nat → Int64) (R : Nat → Nat) (gf gn : Nat) (x y : Int) (D : Int → Nat) (ix : (-2147483648 ≤ x ∧ x < 2147483648)) (iy : (-2147483648 ≤ y ∧ y < 2147483648)) (hgf : gf ≤ 67600) (hop : 0 ≤ (F 22).toInt ∧ (F 22).toInt ≤ 61) (hgn : gn ≤ 63261) (hnt : 0 ≤ (F 13).toInt ∧ (F 13).toInt ≤ (gn : Int)) (hsy : 0 ≤ (F 15).toInt ∧ (F 15).toInt ≤ 2560) (hru : VB (X 12)) (hx2 : 0 ≤ x ∧ x ≤ 3001 ∧ 0 ≤ y ∧ y ≤ 3001) (hfi : FI (X 1) D gf (F 0).toInt (F 12).toInt) (hrd : RD (X 1) D (X 23) (F 22).toInt (F 12).toInt) (s0 : Nat) : Met l yX7_addSymbol vX7_addSymbol { frames := 3, cells := 0, slots := 0, locals := 108 } (va_Pc [.ref (a 7), .ref (R 26), .int (oI x), .int (oI y)] (cPre dC dI cB cC cI cJ cZ a F X J R gf gn s0)) (va_Qi (fun (r : Int32) (u : (Nat → Int32) × (Nat → Nat → Int32) × (Nat → Nat → Int64)) => match u with | (F1, X1, J1) => (∃ D9 : Int → Nat, FI (X1 1) D9 gf (F 0).toInt (F1 12).toInt ∧ RD (X1 1) D9 (X 23) (F 22).toInt (F1 12).toInt) ∧ (0 ≤ (F1 13).toInt ∧ (F1 13).toInt ≤ (gn : Int)) ∧ (0 ≤ (F1 15).toInt ∧ (F1 15).toInt ≤ 2560) ∧ VB (X1 12)) (fun u => cPost dC dI cB cC cI cJ cZ a (rg 15 15 (rg 12 13 F u.1) u.1) (rg 14 17 (rg 12 12 (rg 0 1 X u.2.1) u.2.1) u.2.1) u.2.2 R gf gn (va_A (CW cB cC cI cJ cZ a F X J R gf gn) s0)) (va_A (CW cB cC cI cJ cZ a F X J R gf gn) s0)) 0 0 (va_A (CW cB cC cI cJ cZ a F X J R gf gn) s0) := by
  refine Met.ofW (cc := cX7_addSymbol) (maxL := 5) (ret := (some .int)) (by decide) rfl ?_
  intro p e s m args below meth c s₁ B9 hml hv
  obtain ⟨rfl, hsz0, hP, hK, hD0, hNW⟩ := hv
  have hx := B9.exec
  have hb := B9.bytes
  have hr := B9.returns
  have hts := atoms_spec (ws := vX7_addSymbol) B9.pre
  have hown : s.vm.findClass RX7 = some m.cls := findClass_of_methodNamed B9.named
  have hlocks := B9.notSynchronized
  clear B9
  subst hsz0
  have hD := hD0.self (sz := s.heap.size)
  generalize hAe : va_A (CW cB cC cI cJ cZ a F X J R gf gn) s.heap.size = A at hD ⊢
  have hA : ∀ q : Nat, s.heap.size ≤ q → A q := fun q h => by rw [← hAe]; exact Or.inr h
  have hS : va_S A s.heap s.heap [] := va_S.rf
  have hcs : 0 + 0 ≤ (0 : Nat) ∧ 0 + 0 ≤ (0 : Nat) := ⟨Nat.le_refl 0, Nat.le_refl 0⟩
  have hl := lv_entry ([.ref (a 7), .ref (R 26), .int (oI x), .int (oI y)]) (n := 5) (Nat.le_of_ble_eq_true rfl)
  rw [lg_entry_eq]
  generalize (lg_sl ([.ref (a 7), .ref (R 26), .int (oI x), .int (oI y)]) ++ List.replicate (5 - (lg_sl ([.ref (a 7), .ref (R 26), .int (oI x), .int (oI y)])).length) Slot.unset).toArray = ls at hl ⊢
  have hl : lv_has ls 5 [(0, .ref (a 7)), (1, .ref (R 26)), (2, .int (oI x)), (3, .int (oI y))] := hl
  refine lv_aload_n hx hb dX7_addSymbol_0 rfl (lv_at hl 0 rfl) ?_
  refine lv_aload_n hx hb dX7_addSymbol_1 rfl (lv_at hl 1 rfl) ?_
  refine lv_iload_n hx hb dX7_addSymbol_2 rfl (lv_at hl 2 rfl) ?_
  refine lv_iload_n hx hb dX7_addSymbol_3 rfl (lv_at hl 3 rfl) ?_
  refine ccs_iV (As := [.ref (R 26), .int (oI x), .int (oI y)]) (rest := []) ⟨hx, hb, hml, hown, hts⟩ (c_symbolOf l dC dI cB cC cI cJ cZ a F X J R gf gn x y  (by omega) (by omega) (show 0 ≤ (F 15).toInt ∧ (F 15).toInt ≤ 2560 from by first | assumption | omega) (show 0 ≤ x ∧ x ≤ 3001 ∧ 0 ≤ y ∧ y ≤ 3001 from by first | assumption | omega) s.heap.size) (cwV 3 hts kX7_addSymbol_X7_symbolOf_76 rfl rfl rfl (by decide +kernel) ⟨Nat.le_of_ble_eq_true rfl, Nat.le_of_ble_eq_true rfl⟩) (va_recv hK hP (ci := 7) (q0 := 7) rfl rfl) hK hNW hP hD hS hA rfl rfl hl.1 (lv_room (Nat.le_of_ble_eq_true rfl)) dX7_addSymbol_4 hcs (fun r_1 hw_2 H locs hP hD hS => ?_)
  have i_3 := i32r r_1
  refine lv_istore (lv' := [(4, .int (oI r_1.toInt)), (0, .ref (a 7)), (1, .ref (R 26)), (2, .int (oI x)), (3, .int (oI y))]) hx hb dX7_addSymbol_7 hl (by decide) rfl (fun ls hl => ?_)
  refine lv_iload hx hb dX7_addSymbol_9 (lv_at hl 0 rfl) ?_
  refine lv_iconst (v := oI (-1)) hx hb dX7_addSymbol_11 (by decide) ?_
  refine ci_ne (tgt := 39) hx hb (i32r _) (by decide) dX7_addSymbol_12 (by decide) (fun c_4 => ?_) (fun c_4 => ?_)
  · refine lv_iload hx hb dX7_addSymbol_39 (lv_at hl 0 rfl) ?_
    refine lv_iconst (v := oI (-1)) hx hb dX7_addSymbol_41 (by decide) ?_
    refine ci_ne (tgt := 47) hx hb (i32r _) (by decide) dX7_addSymbol_42 (by decide) (fun c_5 => ?_) (fun c_5 => ?_)
    · refine lv_aload_n hx hb dX7_addSymbol_47 rfl (lv_at hl 1 rfl) ?_
      refine cg_7_0 hx hb hts inX7_addSymbol_X7 hown hK hP (hts _ lkX7_addSymbol_f19) dX7_addSymbol_48 ?_
      refine lv_iload hx hb dX7_addSymbol_51 (lv_at hl 0 rfl) ?_
      refine ccs_iS (As := [.int (oI r_1.toInt)]) (rest := [.ref (a 1)]) ⟨hx, hb, hml, hown, hts⟩ (c_ofName l dC dI cB cC cI cJ cZ a F X J R gf gn r_1.toInt  (i32r _)   H.size) (va_cwS 1 hts kX7_addSymbol_X1_ofName_88 rfl rfl rfl (by decide +kernel) ⟨Nat.le_of_ble_eq_true rfl, Nat.le_of_ble_eq_true rfl⟩) hK hNW hP hD hS hA rfl rfl hl.1 (lv_room (Nat.le_of_ble_eq_true rfl)) dX7_addSymbol_53 hcs (fun r_6 hw_7 H locs hP hD hS => ?_)
      have i_8 := i32r r_6
      refine ccp_iV (As := [.int (oI r_6.toInt)]) (rest := []) (gF := fun F9 => rg 12 12 F F9) (gX := fun X9 => rg 0 1 X X9) ⟨hx, hb, hml, hown, hts⟩ (c_addF l dC dI cB cC cI cJ cZ a F X J R gf gn r_6.toInt  (i32r _) (show gf ≤ 67600 from by first | assumption | omega)  H.size) (cwV 1 hts kX7_addSymbol_X1_add_65 rfl rfl rfl (by decide +kernel) ⟨Nat.le_of_ble_eq_true rfl, Nat.le_of_ble_eq_true rfl⟩) (va_recv hK hP (ci := 1) (q0 := 1) rfl rfl) hK hNW hP hD hS hA rfl rfl hl.1 (lv_room (Nat.le_of_ble_eq_true rfl)) dX7_addSymbol_56 hcs (fun r_9 F_10 X_11 hw_12 H locs hP hD hS => ?_)
      have hw_12 : ((0 ≤ (F 12).toInt ∧ (F 12).toInt < (gf : Int)) ∧ (r_9).toInt = (F 12).toInt ∧ (F_10 12).toInt = (F 12).toInt + 1 ∧ X_11 1 = upd (X 1) (F 12).toInt.toNat (oI 1)) ∨ (¬ (0 ≤ (F 12).toInt ∧ (F 12).toInt < (gf : Int)) ∧ (r_9).toInt = -1 ∧ (F_10 12).toInt = (F 12).toInt ∧ X_11 1 = (X 1)) := hw_12
      have hadd := hw_12
      have i_13 := i32r r_9
      refine lv_pop hx hb dX7_addSymbol_59 rfl ?_
      refine lv_iconst (v := oI 0) hx hb dX7_addSymbol_60 (by decide) ?_
      obtain ⟨D2, hf2, hG2, hL2⟩ := MK_add (z := (F 22).toInt) hfi (by omega) (hadd.elim Or.inl (fun h => Or.inr h.2))
      have hr2 := RD_gr hrd hG2
      have e0 : (oI 0).toInt = 0 := by decide
      have eF9 : rg 15 15 (rg 12 13 F (rg 12 12 F F_10)) (rg 12 12 F F_10) = rg 12 12 F F_10 := by funext k; simp only [rg, va_up]; (repeat' split) <;> first | with_reducible rfl | omega
      have eX9 : rg 14 17 (rg 12 12 (rg 0 1 X (rg 0 1 X X_11)) (rg 0 1 X X_11)) (rg 0 1 X X_11) = rg 0 1 X X_11 := by funext k; simp only [rg, va_up]; (repeat' split) <;> first | with_reducible rfl | omega
      have hP9 : va_P (dC, dI) vwCl (CW cB cC cI cJ cZ a (rg 15 15 (rg 12 13 F (rg 12 12 F F_10)) (rg 12 12 F F_10)) (rg 14 17 (rg 12 12 (rg 0 1 X (rg 0 1 X X_11)) (rg 0 1 X X_11)) (rg 0 1 X X_11)) J R gf gn) H := by rw [eF9, eX9]; exact hP
      have hD9 : va_D A (CW cB cC cI cJ cZ a (rg 15 15 (rg 12 13 F (rg 12 12 F F_10)) (rg 12 12 F F_10)) (rg 14 17 (rg 12 12 (rg 0 1 X (rg 0 1 X X_11)) (rg 0 1 X X_11)) (rg 0 1 X X_11)) J R gf gn) := by rw [eF9, eX9]; exact hD
      have hpost : (∃ D9 : Int → Nat, FI (X_11 1) D9 gf (F 0).toInt (F_10 12).toInt ∧ RD (X_11 1) D9 (X 23) (F 22).toInt (F_10 12).toInt) ∧ (0 ≤ (F 13).toInt ∧ (F 13).toInt ≤ (gn : Int)) ∧ (0 ≤ (F 15).toInt ∧ (F 15).toInt ≤ 2560) ∧ VB (X 12) := ⟨⟨D2, hf2, hr2⟩, by omega, by omega, hru⟩
      exact W.iret (v := (oI 0)) hx hb hr (fun t ht hW => ⟨⟨(oI 0), (rg 12 12 F F_10, rg 0 1 X X_11, J), rfl, hpost, by rw [ht]; exact hP9, va_K.moved hW.alike hK, hD9⟩, hS.F ht⟩) hS.2.2 dX7_addSymbol_61
    · refine lv_iconst (v := oI 2) hx hb dX7_addSymbol_45 (by decide) ?_
      have e0 : (oI 2).toInt = 2 := by decide
      have eF9 : rg 15 15 (rg 12 13 F F) F = F := by funext k; simp only [rg, va_up]; (repeat' split) <;> first | with_reducible rfl | omega
      have eX9 : rg 14 17 (rg 12 12 (rg 0 1 X X) X) X = X := by funext k; simp only [rg, va_up]; (repeat' split) <;> first | with_reducible rfl | omega
      have hP9 : va_P (dC, dI) vwCl (CW cB cC cI cJ cZ a (rg 15 15 (rg 12 13 F F) F) (rg 14 17 (rg 12 12 (rg 0 1 X X) X) X) J R gf gn) H := by rw [eF9, eX9]; exact hP
      have hD9 : va_D A (CW cB cC cI cJ cZ a (rg 15 15 (rg 12 13 F F) F) (rg 14 17 (rg 12 12 (rg 0 1 X X) X) X) J R gf gn) := by rw [eF9, eX9]; exact hD
      have hpost : (∃ D9 : Int → Nat, FI (X 1) D9 gf (F 0).toInt (F 12).toInt ∧ RD (X 1) D9 (X 23) (F 22).toInt (F 12).toInt) ∧ (0 ≤ (F 13).toInt ∧ (F 13).toInt ≤ (gn : Int)) ∧ (0 ≤ (F 15).toInt ∧ (F 15).toInt ≤ 2560) ∧ VB (X 12) := ⟨⟨D, hfi, hrd⟩, by omega, by omega, hru⟩
      exact W.iret (v := (oI 2)) hx hb hr (fun t ht hW => ⟨⟨(oI 2), (F, X, J), rfl, hpost, by rw [ht]; exact hP9, va_K.moved hW.alike hK, hD9⟩, hS.F ht⟩) hS.2.2 dX7_addSymbol_46
  · refine lv_aload_n hx hb dX7_addSymbol_15 rfl (lv_at hl 1 rfl) ?_
    refine cg_7_1 hx hb hts inX7_addSymbol_X7 hown hK hP (hts _ lkX7_addSymbol_f23) dX7_addSymbol_16 ?_
    refine lv_aload_n hx hb dX7_addSymbol_19 rfl (lv_at hl 2 rfl) ?_
    refine lv_iload_n hx hb dX7_addSymbol_20 rfl (lv_at hl 3 rfl) ?_
    refine lv_iload_n hx hb dX7_addSymbol_21 rfl (lv_at hl 4 rfl) ?_
    refine ccs_lS (As := [.ref (R 26), .int (oI x), .int (oI y)]) (rest := [.ref (a 6)]) ⟨hx, hb, hml, hown, hts⟩ (c_half l dC dI cB cC cI cJ cZ a F X J R gf gn x y  (by omega) (by omega)  (show x < 1073741824 from by first | assumption | omega) H.size) (va_cwS 3 hts kX7_addSymbol_X6_half_79 rfl rfl rfl (by decide +kernel) ⟨Nat.le_of_ble_eq_true rfl, Nat.le_of_ble_eq_true rfl⟩) hK hNW hP hD hS hA rfl rfl hl.1 (lv_room (Nat.le_of_ble_eq_true rfl)) dX7_addSymbol_22 hcs (fun r_14 hw_15 H locs hP hD hS => ?_)
    refine lv_aload_n hx hb dX7_addSymbol_25 rfl (lv_at hl 2 rfl) ?_
    refine lv_iload_n hx hb dX7_addSymbol_26 rfl (lv_at hl 3 rfl) ?_
    refine lv_bipush (v := oI 8) hx hb dX7_addSymbol_27 (by decide) ?_
    refine lv_iadd hx hb dX7_addSymbol_29 ?_
    refine tp_i (oI_add x 8) ?_
    refine lv_iload_n hx hb dX7_addSymbol_30 rfl (lv_at hl 4 rfl) ?_
    refine ccs_lS (As := [.ref (R 26), .int (oI (x + 8)), .int (oI y)]) (rest := [.long r_14, .ref (a 6)]) ⟨hx, hb, hml, hown, hts⟩ (c_half l dC dI cB cC cI cJ cZ a F X J R gf gn (x + 8) y  (by omega) (by omega)  (show x + 8 < 1073741824 from by first | assumption | omega) H.size) (va_cwS 3 hts kX7_addSymbol_X6_half_79 rfl rfl rfl (by decide +kernel) ⟨Nat.le_of_ble_eq_true rfl, Nat.le_of_ble_eq_true rfl⟩) hK hNW hP hD hS hA rfl rfl hl.1 (lv_room (Nat.le_of_ble_eq_true rfl)) dX7_addSymbol_31 hcs (fun r_16 hw_17 H locs hP hD hS => ?_)
    refine ccj_iV (As := [.long r_14, .long r_16]) (rest := []) (gF := fun F9 => rg 15 15 (rg 13 13 F F9) F9) (gX := fun X9 => rg 14 17 (rg 12 12 X X9) X9) ⟨hx, hb, hml, hown, hts⟩ (c_addSymbolN l dC dI cB cC cI cJ cZ a F X J R gf gn r_14 r_16   (show gn ≤ 63261 from by first | assumption | omega) (show 0 ≤ (F 13).toInt ∧ (F 13).toInt ≤ (gn : Int) from by first | assumption | omega) (show 0 ≤ (F 15).toInt ∧ (F 15).toInt ≤ 2560 from by first | assumption | omega) (show VB (X 12) from by first | assumption | omega)  H.size) (cwV 2 hts kX7_addSymbol_X6_addSymbol_85 rfl rfl rfl (by decide +kernel) ⟨Nat.le_of_ble_eq_true rfl, Nat.le_of_ble_eq_true rfl⟩) (va_recv hK hP (ci := 6) (q0 := 6) rfl rfl) hK hNW hP hD hS hA rfl rfl hl.1 (lv_room (Nat.le_of_ble_eq_true rfl)) dX7_addSymbol_34 hcs (fun r_18 F_19 X_20 J_21 hw_22 H locs hP hD hS => ?_)
    have hw_22 : (0 ≤ (F_19 13).toInt ∧ (F_19 13).toInt ≤ (gn : Int)) ∧ (0 ≤ (F_19 15).toInt ∧ (F_19 15).toInt ≤ 2560) ∧ VB (X_20 12) := hw_22
    obtain ⟨hnt, hsy, hru⟩ := hw_22
    have i_23 := i32r r_18
    refine lv_istore (lv' := [(4, .int (oI r_18.toInt)), (0, .ref (a 7)), (1, .ref (R 26)), (2, .int (oI x)), (3, .int (oI y))]) hx hb dX7_addSymbol_37 hl (by decide) rfl (fun ls hl => ?_)
    refine lv_iload hx hb dX7_addSymbol_39 (lv_at hl 0 rfl) ?_
    refine lv_iconst (v := oI (-1)) hx hb dX7_addSymbol_41 (by decide) ?_
    refine ci_ne (tgt := 47) hx hb (i32r _) (by decide) dX7_addSymbol_42 (by decide) (fun c_24 => ?_) (fun c_24 => ?_)
    · refine lv_aload_n hx hb dX7_addSymbol_47 rfl (lv_at hl 1 rfl) ?_
      refine cg_7_0 hx hb hts inX7_addSymbol_X7 hown hK hP (hts _ lkX7_addSymbol_f19) dX7_addSymbol_48 ?_
      refine lv_iload hx hb dX7_addSymbol_51 (lv_at hl 0 rfl) ?_
      refine ccs_iS (As := [.int (oI r_18.toInt)]) (rest := [.ref (a 1)]) ⟨hx, hb, hml, hown, hts⟩ (c_ofName l dC dI cB cC cI cJ cZ a (rg 15 15 (rg 13 13 F F_19) F_19) (rg 14 17 (rg 12 12 X X_20) X_20) J_21 R gf gn r_18.toInt  (i32r _)   H.size) (va_cwS 1 hts kX7_addSymbol_X1_ofName_88 rfl rfl rfl (by decide +kernel) ⟨Nat.le_of_ble_eq_true rfl, Nat.le_of_ble_eq_true rfl⟩) hK hNW hP hD hS hA rfl rfl hl.1 (lv_room (Nat.le_of_ble_eq_true rfl)) dX7_addSymbol_53 hcs (fun r_25 hw_26 H locs hP hD hS => ?_)
      have i_27 := i32r r_25
      refine ccp_iV (As := [.int (oI r_25.toInt)]) (rest := []) (gF := fun F9 => rg 12 12 (rg 15 15 (rg 13 13 F F_19) F_19) F9) (gX := fun X9 => rg 0 1 (rg 14 17 (rg 12 12 X X_20) X_20) X9) ⟨hx, hb, hml, hown, hts⟩ (c_addF l dC dI cB cC cI cJ cZ a (rg 15 15 (rg 13 13 F F_19) F_19) (rg 14 17 (rg 12 12 X X_20) X_20) J_21 R gf gn r_25.toInt  (i32r _) (show gf ≤ 67600 from by first | assumption | omega)  H.size) (cwV 1 hts kX7_addSymbol_X1_add_65 rfl rfl rfl (by decide +kernel) ⟨Nat.le_of_ble_eq_true rfl, Nat.le_of_ble_eq_true rfl⟩) (va_recv hK hP (ci := 1) (q0 := 1) rfl rfl) hK hNW hP hD hS hA rfl rfl hl.1 (lv_room (Nat.le_of_ble_eq_true rfl)) dX7_addSymbol_56 hcs (fun r_28 F_29 X_30 hw_31 H locs hP hD hS => ?_)
      have hw_31 : ((0 ≤ (F 12).toInt ∧ (F 12).toInt < (gf : Int)) ∧ (r_28).toInt = (F 12).toInt ∧ (F_29 12).toInt = (F 12).toInt + 1 ∧ X_30 1 = upd (X 1) (F 12).toInt.toNat (oI 1)) ∨ (¬ (0 ≤ (F 12).toInt ∧ (F 12).toInt < (gf : Int)) ∧ (r_28).toInt = -1 ∧ (F_29 12).toInt = (F 12).toInt ∧ X_30 1 = (X 1)) := hw_31
      have hadd := hw_31
      have i_32 := i32r r_28
      refine lv_pop hx hb dX7_addSymbol_59 rfl ?_
      refine lv_iconst (v := oI 0) hx hb dX7_addSymbol_60 (by decide) ?_
      obtain ⟨D2, hf2, hG2, hL2⟩ := MK_add (z := (F 22).toInt) hfi (by omega) (hadd.elim Or.inl (fun h => Or.inr h.2))
      have hr2 := RD_gr hrd hG2
      have e0 : (oI 0).toInt = 0 := by decide
      have eF9 : rg 15 15 (rg 12 13 F (rg 12 12 (rg 15 15 (rg 13 13 F F_19) F_19) F_29)) (rg 12 12 (rg 15 15 (rg 13 13 F F_19) F_19) F_29) = rg 12 12 (rg 15 15 (rg 13 13 F F_19) F_19) F_29 := by funext k; simp only [rg, va_up]; (repeat' split) <;> first | with_reducible rfl | omega
      have eX9 : rg 14 17 (rg 12 12 (rg 0 1 X (rg 0 1 (rg 14 17 (rg 12 12 X X_20) X_20) X_30)) (rg 0 1 (rg 14 17 (rg 12 12 X X_20) X_20) X_30)) (rg 0 1 (rg 14 17 (rg 12 12 X X_20) X_20) X_30) = rg 0 1 (rg 14 17 (rg 12 12 X X_20) X_20) X_30 := by funext k; simp only [rg, va_up]; (repeat' split) <;> first | with_reducible rfl | omega
      have hP9 : va_P (dC, dI) vwCl (CW cB cC cI cJ cZ a (rg 15 15 (rg 12 13 F (rg 12 12 (rg 15 15 (rg 13 13 F F_19) F_19) F_29)) (rg 12 12 (rg 15 15 (rg 13 13 F F_19) F_19) F_29)) (rg 14 17 (rg 12 12 (rg 0 1 X (rg 0 1 (rg 14 17 (rg 12 12 X X_20) X_20) X_30)) (rg 0 1 (rg 14 17 (rg 12 12 X X_20) X_20) X_30)) (rg 0 1 (rg 14 17 (rg 12 12 X X_20) X_20) X_30)) J_21 R gf gn) H := by rw [eF9, eX9]; exact hP
      have hD9 : va_D A (CW cB cC cI cJ cZ a (rg 15 15 (rg 12 13 F (rg 12 12 (rg 15 15 (rg 13 13 F F_19) F_19) F_29)) (rg 12 12 (rg 15 15 (rg 13 13 F F_19) F_19) F_29)) (rg 14 17 (rg 12 12 (rg 0 1 X (rg 0 1 (rg 14 17 (rg 12 12 X X_20) X_20) X_30)) (rg 0 1 (rg 14 17 (rg 12 12 X X_20) X_20) X_30)) (rg 0 1 (rg 14 17 (rg 12 12 X X_20) X_20) X_30)) J_21 R gf gn) := by rw [eF9, eX9]; exact hD
      have hpost : (∃ D9 : Int → Nat, FI (X_30 1) D9 gf (F 0).toInt (F_29 12).toInt ∧ RD (X_30 1) D9 (X 23) (F 22).toInt (F_29 12).toInt) ∧ (0 ≤ (F_19 13).toInt ∧ (F_19 13).toInt ≤ (gn : Int)) ∧ (0 ≤ (F_19 15).toInt ∧ (F_19 15).toInt ≤ 2560) ∧ VB (X_20 12) := ⟨⟨D2, hf2, hr2⟩, by omega, by omega, hru⟩
      exact W.iret (v := (oI 0)) hx hb hr (fun t ht hW => ⟨⟨(oI 0), (rg 12 12 (rg 15 15 (rg 13 13 F F_19) F_19) F_29, rg 0 1 (rg 14 17 (rg 12 12 X X_20) X_20) X_30, J_21), rfl, hpost, by rw [ht]; exact hP9, va_K.moved hW.alike hK, hD9⟩, hS.F ht⟩) hS.2.2 dX7_addSymbol_61
    · refine lv_iconst (v := oI 2) hx hb dX7_addSymbol_45 (by decide) ?_
      have e0 : (oI 2).toInt = 2 := by decide
      have eF9 : rg 15 15 (rg 12 13 F (rg 15 15 (rg 13 13 F F_19) F_19)) (rg 15 15 (rg 13 13 F F_19) F_19) = rg 15 15 (rg 13 13 F F_19) F_19 := by funext k; simp only [rg, va_up]; (repeat' split) <;> first | with_reducible rfl | omega
      have eX9 : rg 14 17 (rg 12 12 (rg 0 1 X (rg 14 17 (rg 12 12 X X_20) X_20)) (rg 14 17 (rg 12 12 X X_20) X_20)) (rg 14 17 (rg 12 12 X X_20) X_20) = rg 14 17 (rg 12 12 X X_20) X_20 := by funext k; simp only [rg, va_up]; (repeat' split) <;> first | with_reducible rfl | omega
      have hP9 : va_P (dC, dI) vwCl (CW cB cC cI cJ cZ a (rg 15 15 (rg 12 13 F (rg 15 15 (rg 13 13 F F_19) F_19)) (rg 15 15 (rg 13 13 F F_19) F_19)) (rg 14 17 (rg 12 12 (rg 0 1 X (rg 14 17 (rg 12 12 X X_20) X_20)) (rg 14 17 (rg 12 12 X X_20) X_20)) (rg 14 17 (rg 12 12 X X_20) X_20)) J_21 R gf gn) H := by rw [eF9, eX9]; exact hP
      have hD9 : va_D A (CW cB cC cI cJ cZ a (rg 15 15 (rg 12 13 F (rg 15 15 (rg 13 13 F F_19) F_19)) (rg 15 15 (rg 13 13 F F_19) F_19)) (rg 14 17 (rg 12 12 (rg 0 1 X (rg 14 17 (rg 12 12 X X_20) X_20)) (rg 14 17 (rg 12 12 X X_20) X_20)) (rg 14 17 (rg 12 12 X X_20) X_20)) J_21 R gf gn) := by rw [eF9, eX9]; exact hD
      have hpost : (∃ D9 : Int → Nat, FI (X 1) D9 gf (F 0).toInt (F 12).toInt ∧ RD (X 1) D9 (X 23) (F 22).toInt (F 12).toInt) ∧ (0 ≤ (F_19 13).toInt ∧ (F_19 13).toInt ≤ (gn : Int)) ∧ (0 ≤ (F_19 15).toInt ∧ (F_19 15).toInt ≤ 2560) ∧ VB (X_20 12) := ⟨⟨D, hfi, hrd⟩, by omega, by omega, hru⟩
      exact W.iret (v := (oI 2)) hx hb hr (fun t ht hW => ⟨⟨(oI 2), (rg 15 15 (rg 13 13 F F_19) F_19, rg 14 17 (rg 12 12 X X_20) X_20, J_21), rfl, hpost, by rw [ht]; exact hP9, va_K.moved hW.alike hK, hD9⟩, hS.F ht⟩) hS.2.2 dX7_addSymbol_46

set_option maxHeartbeats 4000000 in
set_option maxRecDepth 100000 in
/-- X7_openList -/
theorem c_openList (l : Launch) (dC : Nat → ClassId) (dI : Nat → Nat → Nat) (cB cC cI cJ cZ : ClassId) (a : Nat → Nat) (F : Nat → Int32) (X : Nat → Nat → Int32) (J : Nat → Nat → Int64) (R : Nat → Nat) (gf gn : Nat) (D : Int → Nat) (hgf : gf ≤ 67600) (hop : 0 ≤ (F 22).toInt ∧ (F 22).toInt ≤ 61) (hfi : FI (X 1) D gf (F 0).toInt (F 12).toInt) (hrd : RD (X 1) D (X 23) (F 22).toInt (F 12).toInt) (s0 : Nat) : Met l yX7_openList vX7_openList { frames := 2, cells := 0, slots := 0, locals := 81 } (va_Pc [.ref (a 7)] (cPre dC dI cB cC cI cJ cZ a F X J R gf gn s0)) (va_Qi (fun (r : Int32) (u : (Nat → Int32) × (Nat → Nat → Int32)) => match u with | (F1, X1) => (∃ D9 : Int → Nat, FI (X1 1) D9 gf (F 0).toInt (F1 12).toInt ∧ RD (X1 1) D9 (X1 23) (F1 22).toInt (F1 12).toInt) ∧ (0 ≤ (F1 22).toInt ∧ (F1 22).toInt ≤ 61)) (fun u => cPost dC dI cB cC cI cJ cZ a (rg 22 22 (rg 12 12 F u.1) u.1) (rg 23 23 (rg 0 1 X u.2) u.2) J R gf gn (va_A (CW cB cC cI cJ cZ a F X J R gf gn) s0)) (va_A (CW cB cC cI cJ cZ a F X J R gf gn) s0)) 0 0 (va_A (CW cB cC cI cJ cZ a F X J R gf gn) s0) := by
  refine Met.ofW (cc := cX7_openList) (maxL := 1) (ret := (some .int)) (by decide) rfl ?_
  intro p e s m args below meth c s₁ B9 hml hv
  obtain ⟨rfl, hsz0, hP, hK, hD0, hNW⟩ := hv
  have hx := B9.exec
  have hb := B9.bytes
  have hr := B9.returns
  have hts := atoms_spec (ws := vX7_openList) B9.pre
  have hown : s.vm.findClass RX7 = some m.cls := findClass_of_methodNamed B9.named
  have hlocks := B9.notSynchronized
  clear B9
  subst hsz0
  have hD := hD0.self (sz := s.heap.size)
  generalize hAe : va_A (CW cB cC cI cJ cZ a F X J R gf gn) s.heap.size = A at hD ⊢
  have hA : ∀ q : Nat, s.heap.size ≤ q → A q := fun q h => by rw [← hAe]; exact Or.inr h
  have hS : va_S A s.heap s.heap [] := va_S.rf
  have hcs : 0 + 0 ≤ (0 : Nat) ∧ 0 + 0 ≤ (0 : Nat) := ⟨Nat.le_refl 0, Nat.le_refl 0⟩
  have hl := lv_entry ([.ref (a 7)]) (n := 1) (Nat.le_of_ble_eq_true rfl)
  rw [lg_entry_eq]
  generalize (lg_sl ([.ref (a 7)]) ++ List.replicate (1 - (lg_sl ([.ref (a 7)])).length) Slot.unset).toArray = ls at hl ⊢
  have hl : lv_has ls 1 [(0, .ref (a 7))] := hl
  refine lv_aload_n hx hb dX7_openList_0 rfl (lv_at hl 0 rfl) ?_
  refine cg_7_3 hx hb hts inX7_openList_X7 hown hK hP (hts _ lkX7_openList_f15) dX7_openList_1 ?_
  have i_1 := i32r (F 22)
  refine lv_aload_n hx hb dX7_openList_4 rfl (lv_at hl 0 rfl) ?_
  refine cg_7_2 hx hb hts inX7_openList_X7 hown hK hP (hts _ lkX7_openList_f9) dX7_openList_5 ?_
  refine cn_23 hx hb hK hP dX7_openList_8 ?_
  refine ci_lt (tgt := 14) hx hb (i32r _) (by decide) dX7_openList_9 (by decide) (fun c_2 => ?_) (fun c_2 => ?_)
  · refine lv_aload_n hx hb dX7_openList_14 rfl (lv_at hl 0 rfl) ?_
    refine cg_7_2 hx hb hts inX7_openList_X7 hown hK hP (hts _ lkX7_openList_f9) dX7_openList_15 ?_
    refine lv_aload_n hx hb dX7_openList_18 rfl (lv_at hl 0 rfl) ?_
    refine cg_7_3 hx hb hts inX7_openList_X7 hown hK hP (hts _ lkX7_openList_f15) dX7_openList_19 ?_
    refine lv_aload_n hx hb dX7_openList_22 rfl (lv_at hl 0 rfl) ?_
    refine cg_7_0 hx hb hts inX7_openList_X7 hown hK hP (hts _ lkX7_openList_f19) dX7_openList_23 ?_
    refine lv_iconst (v := oI (-1)) hx hb dX7_openList_26 (by decide) ?_
    refine ccp_iV (As := [.int (oI ((-1)))]) (rest := [.int (oI ((F 22).toInt)), .ref (R 23)]) (gF := fun F9 => rg 12 12 F F9) (gX := fun X9 => rg 0 1 X X9) ⟨hx, hb, hml, hown, hts⟩ (c_addF l dC dI cB cC cI cJ cZ a F X J R gf gn ((-1))  (by decide) (show gf ≤ 67600 from by first | assumption | omega)  s.heap.size) (cwV 1 hts kX7_openList_X1_add_65 rfl rfl rfl (by decide +kernel) ⟨Nat.le_of_ble_eq_true rfl, Nat.le_of_ble_eq_true rfl⟩) (va_recv hK hP (ci := 1) (q0 := 1) rfl rfl) hK hNW hP hD hS hA rfl rfl hl.1 (lv_room (Nat.le_of_ble_eq_true rfl)) dX7_openList_27 hcs (fun r_3 F_4 X_5 hw_6 H locs hP hD hS => ?_)
    have hw_6 : ((0 ≤ (F 12).toInt ∧ (F 12).toInt < (gf : Int)) ∧ (r_3).toInt = (F 12).toInt ∧ (F_4 12).toInt = (F 12).toInt + 1 ∧ X_5 1 = upd (X 1) (F 12).toInt.toNat (oI 1)) ∨ (¬ (0 ≤ (F 12).toInt ∧ (F 12).toInt < (gf : Int)) ∧ (r_3).toInt = -1 ∧ (F_4 12).toInt = (F 12).toInt ∧ X_5 1 = (X 1)) := hw_6
    have hadd := hw_6
    have i_7 := i32r r_3
    refine cs_23 hx hb hK hP hD hS (by omega) dX7_openList_30 (fun H locs hP hD hS => ?_)
    have hP : va_P (dC, dI) vwCl (CW cB cC cI cJ cZ a (rg 12 12 F F_4) (va_up (rg 0 1 X X_5) 23 (upd (X 23) ((F 22).toInt).toNat (oI r_3.toInt))) J R gf gn) H := hP
    have hD : va_D A (CW cB cC cI cJ cZ a (rg 12 12 F F_4) (va_up (rg 0 1 X X_5) 23 (upd (X 23) ((F 22).toInt).toNat (oI r_3.toInt))) J R gf gn) := hD
    refine lv_aload_n hx hb dX7_openList_31 rfl (lv_at hl 0 rfl) ?_
    refine lv_dup hx hb dX7_openList_32 rfl ?_
    refine cg_7_3 hx hb hts inX7_openList_X7 hown hK hP (hts _ lkX7_openList_f15) dX7_openList_33 ?_
    refine tp_i (y := oI (F 22).toInt) rfl ?_
    refine lv_iconst (v := oI 1) hx hb dX7_openList_36 (by decide) ?_
    refine lv_iadd hx hb dX7_openList_37 ?_
    refine tp_i (oI_add ((F 22).toInt) 1) ?_
    refine cp_7_3 hx hb hts inX7_openList_X7 hown hK hP hD hS (hts _ lkX7_openList_f15) dX7_openList_38 (fun H locs hP hD hS => ?_)
    have hP : va_P (dC, dI) vwCl (CW cB cC cI cJ cZ a (va_up (rg 12 12 F F_4) 22 (oI (((F 22).toInt) + 1))) (va_up (rg 0 1 X X_5) 23 (upd (X 23) ((F 22).toInt).toNat (oI r_3.toInt))) J R gf gn) H := hP
    have hD : va_D A (CW cB cC cI cJ cZ a (va_up (rg 12 12 F F_4) 22 (oI (((F 22).toInt) + 1))) (va_up (rg 0 1 X X_5) 23 (upd (X 23) ((F 22).toInt).toNat (oI r_3.toInt))) J R gf gn) := hD
    have e_8 : (oI (((F 22).toInt) + 1)).toInt = ((F 22).toInt) + 1 := toInt_oI (by omega)
    refine lv_iconst (v := oI 0) hx hb dX7_openList_41 (by decide) ?_
    obtain ⟨D2, hf2, hG2, hL2⟩ := MK_add (z := (F 22).toInt) hfi (by omega) (hadd.elim Or.inl (fun h => Or.inr h.2))
    have hr2 := RD_open hfi hrd (by omega) (i32r r_3) hG2 hL2
    rw [← e_8] at hr2
    have e0 : (oI 0).toInt = 0 := by decide
    have eF9 : rg 22 22 (rg 12 12 F (va_up (rg 12 12 F F_4) 22 (oI (((F 22).toInt) + 1)))) (va_up (rg 12 12 F F_4) 22 (oI (((F 22).toInt) + 1))) = va_up (rg 12 12 F F_4) 22 (oI (((F 22).toInt) + 1)) := by funext k; simp only [rg, va_up]; (repeat' split) <;> first | with_reducible rfl | omega
    have eX9 : rg 23 23 (rg 0 1 X (va_up (rg 0 1 X X_5) 23 (upd (X 23) ((F 22).toInt).toNat (oI r_3.toInt)))) (va_up (rg 0 1 X X_5) 23 (upd (X 23) ((F 22).toInt).toNat (oI r_3.toInt))) = va_up (rg 0 1 X X_5) 23 (upd (X 23) ((F 22).toInt).toNat (oI r_3.toInt)) := by funext k; simp only [rg, va_up]; (repeat' split) <;> first | with_reducible rfl | omega
    have hP9 : va_P (dC, dI) vwCl (CW cB cC cI cJ cZ a (rg 22 22 (rg 12 12 F (va_up (rg 12 12 F F_4) 22 (oI (((F 22).toInt) + 1)))) (va_up (rg 12 12 F F_4) 22 (oI (((F 22).toInt) + 1)))) (rg 23 23 (rg 0 1 X (va_up (rg 0 1 X X_5) 23 (upd (X 23) ((F 22).toInt).toNat (oI r_3.toInt)))) (va_up (rg 0 1 X X_5) 23 (upd (X 23) ((F 22).toInt).toNat (oI r_3.toInt)))) J R gf gn) H := by rw [eF9, eX9]; exact hP
    have hD9 : va_D A (CW cB cC cI cJ cZ a (rg 22 22 (rg 12 12 F (va_up (rg 12 12 F F_4) 22 (oI (((F 22).toInt) + 1)))) (va_up (rg 12 12 F F_4) 22 (oI (((F 22).toInt) + 1)))) (rg 23 23 (rg 0 1 X (va_up (rg 0 1 X X_5) 23 (upd (X 23) ((F 22).toInt).toNat (oI r_3.toInt)))) (va_up (rg 0 1 X X_5) 23 (upd (X 23) ((F 22).toInt).toNat (oI r_3.toInt)))) J R gf gn) := by rw [eF9, eX9]; exact hD
    have hpost : (∃ D9 : Int → Nat, FI (X_5 1) D9 gf (F 0).toInt (F_4 12).toInt ∧ RD (X_5 1) D9 (upd (X 23) ((F 22).toInt).toNat (oI r_3.toInt)) (oI (((F 22).toInt) + 1)).toInt (F_4 12).toInt) ∧ (0 ≤ (oI (((F 22).toInt) + 1)).toInt ∧ (oI (((F 22).toInt) + 1)).toInt ≤ 61) := ⟨⟨D2, hf2, hr2⟩, by omega⟩
    exact W.iret (v := (oI 0)) hx hb hr (fun t ht hW => ⟨⟨(oI 0), (va_up (rg 12 12 F F_4) 22 (oI (((F 22).toInt) + 1)), va_up (rg 0 1 X X_5) 23 (upd (X 23) ((F 22).toInt).toNat (oI r_3.toInt))), rfl, hpost, by rw [ht]; exact hP9, va_K.moved hW.alike hK, hD9⟩, hS.F ht⟩) hS.2.2 dX7_openList_42
  · refine lv_iconst (v := oI 1) hx hb dX7_openList_12 (by decide) ?_
    have e0 : (oI 1).toInt = 1 := by decide
    have eF9 : rg 22 22 (rg 12 12 F F) F = F := by funext k; simp only [rg, va_up]; (repeat' split) <;> first | with_reducible rfl | omega
    have eX9 : rg 23 23 (rg 0 1 X X) X = X := by funext k; simp only [rg, va_up]; (repeat' split) <;> first | with_reducible rfl | omega
    have hP9 : va_P (dC, dI) vwCl (CW cB cC cI cJ cZ a (rg 22 22 (rg 12 12 F F) F) (rg 23 23 (rg 0 1 X X) X) J R gf gn) s.heap := by rw [eF9, eX9]; exact hP
    have hD9 : va_D A (CW cB cC cI cJ cZ a (rg 22 22 (rg 12 12 F F) F) (rg 23 23 (rg 0 1 X X) X) J R gf gn) := by rw [eF9, eX9]; exact hD
    have hpost : (∃ D9 : Int → Nat, FI (X 1) D9 gf (F 0).toInt (F 12).toInt ∧ RD (X 1) D9 (X 23) (F 22).toInt (F 12).toInt) ∧ (0 ≤ (F 22).toInt ∧ (F 22).toInt ≤ 61) := ⟨⟨D, hfi, hrd⟩, by omega⟩
    exact W.iret (v := (oI 1)) hx hb hr (fun t ht hW => ⟨⟨(oI 1), (F, X), rfl, hpost, by rw [ht]; exact hP9, va_K.moved hW.alike hK, hD9⟩, hS.F ht⟩) hS.2.2 dX7_openList_13

set_option maxHeartbeats 4000000 in
set_option maxRecDepth 100000 in
/-- X7_closeList -/
theorem c_closeList (l : Launch) (dC : Nat → ClassId) (dI : Nat → Nat → Nat) (cB cC cI cJ cZ : ClassId) (a : Nat → Nat) (F : Nat → Int32) (X : Nat → Nat → Int32) (J : Nat → Nat → Int64) (R : Nat → Nat) (gf gn : Nat) (D : Int → Nat) (hgf : gf ≤ 67600) (hop : 0 ≤ (F 22).toInt ∧ (F 22).toInt ≤ 61) (hfi : FI (X 1) D gf (F 0).toInt (F 12).toInt) (hrd : RD (X 1) D (X 23) (F 22).toInt (F 12).toInt) (s0 : Nat) : Met l yX7_closeList vX7_closeList { frames := 2, cells := 0, slots := 0, locals := 81 } (va_Pc [.ref (a 7)] (cPre dC dI cB cC cI cJ cZ a F X J R gf gn s0)) (va_Qi (fun (r : Int32) (u : (Nat → Int32) × (Nat → Nat → Int32)) => match u with | (F1, X1) => (∃ D9 : Int → Nat, FI (X1 1) D9 gf (F 0).toInt (F 12).toInt ∧ RD (X1 1) D9 (X 23) (F1 22).toInt (F 12).toInt) ∧ (0 ≤ (F1 22).toInt ∧ (F1 22).toInt ≤ 61)) (fun u => cPost dC dI cB cC cI cJ cZ a (rg 22 22 F u.1) (rg 1 1 X u.2) J R gf gn (va_A (CW cB cC cI cJ cZ a F X J R gf gn) s0)) (va_A (CW cB cC cI cJ cZ a F X J R gf gn) s0)) 0 0 (va_A (CW cB cC cI cJ cZ a F X J R gf gn) s0) := by
  refine Met.ofW (cc := cX7_closeList) (maxL := 1) (ret := (some .int)) (by decide) rfl ?_
  intro p e s m args below meth c s₁ B9 hml hv
  obtain ⟨rfl, hsz0, hP, hK, hD0, hNW⟩ := hv
  have hx := B9.exec
  have hb := B9.bytes
  have hr := B9.returns
  have hts := atoms_spec (ws := vX7_closeList) B9.pre
  have hown : s.vm.findClass RX7 = some m.cls := findClass_of_methodNamed B9.named
  have hlocks := B9.notSynchronized
  clear B9
  subst hsz0
  have hD := hD0.self (sz := s.heap.size)
  generalize hAe : va_A (CW cB cC cI cJ cZ a F X J R gf gn) s.heap.size = A at hD ⊢
  have hA : ∀ q : Nat, s.heap.size ≤ q → A q := fun q h => by rw [← hAe]; exact Or.inr h
  have hS : va_S A s.heap s.heap [] := va_S.rf
  have hcs : 0 + 0 ≤ (0 : Nat) ∧ 0 + 0 ≤ (0 : Nat) := ⟨Nat.le_refl 0, Nat.le_refl 0⟩
  have hl := lv_entry ([.ref (a 7)]) (n := 1) (Nat.le_of_ble_eq_true rfl)
  rw [lg_entry_eq]
  generalize (lg_sl ([.ref (a 7)]) ++ List.replicate (1 - (lg_sl ([.ref (a 7)])).length) Slot.unset).toArray = ls at hl ⊢
  have hl : lv_has ls 1 [(0, .ref (a 7))] := hl
  refine lv_aload_n hx hb dX7_closeList_0 rfl (lv_at hl 0 rfl) ?_
  refine cg_7_3 hx hb hts inX7_closeList_X7 hown hK hP (hts _ lkX7_closeList_f15) dX7_closeList_1 ?_
  have i_1 := i32r (F 22)
  refine cz_ne (tgt := 9) hx hb (i32r _) dX7_closeList_4 (by decide) (fun c_2 => ?_) (fun c_2 => ?_)
  · refine lv_aload_n hx hb dX7_closeList_9 rfl (lv_at hl 0 rfl) ?_
    refine lv_dup hx hb dX7_closeList_10 rfl ?_
    refine cg_7_3 hx hb hts inX7_closeList_X7 hown hK hP (hts _ lkX7_closeList_f15) dX7_closeList_11 ?_
    refine lv_iconst (v := oI 1) hx hb dX7_closeList_14 (by decide) ?_
    refine lv_isub hx hb dX7_closeList_15 ?_
    refine tp_i (oI_sub ((F 22).toInt) 1) ?_
    refine cp_7_3 hx hb hts inX7_closeList_X7 hown hK hP hD hS (hts _ lkX7_closeList_f15) dX7_closeList_16 (fun H locs hP hD hS => ?_)
    have hP : va_P (dC, dI) vwCl (CW cB cC cI cJ cZ a (va_up F 22 (oI (((F 22).toInt) - 1))) X J R gf gn) H := hP
    have hD : va_D A (CW cB cC cI cJ cZ a (va_up F 22 (oI (((F 22).toInt) - 1))) X J R gf gn) := hD
    have e_3 : (oI (((F 22).toInt) - 1)).toInt = ((F 22).toInt) - 1 := toInt_oI (by omega)
    refine lv_aload_n hx hb dX7_closeList_19 rfl (lv_at hl 0 rfl) ?_
    refine cg_7_0 hx hb hts inX7_closeList_X7 hown hK hP (hts _ lkX7_closeList_f19) dX7_closeList_20 ?_
    refine lv_aload_n hx hb dX7_closeList_23 rfl (lv_at hl 0 rfl) ?_
    refine cg_7_2 hx hb hts inX7_closeList_X7 hown hK hP (hts _ lkX7_closeList_f9) dX7_closeList_24 ?_
    refine lv_aload_n hx hb dX7_closeList_27 rfl (lv_at hl 0 rfl) ?_
    refine cg_7_3 hx hb hts inX7_closeList_X7 hown hK hP (hts _ lkX7_closeList_f15) dX7_closeList_28 ?_
    refine tp_i (y := oI (((F 22).toInt) - 1)) (oI_toInt _) ?_
    refine cl_23 hx hb hK hP (by omega) dX7_closeList_31 (fun w_4 hw_4 => ?_)
    have i_5 := i32r w_4
    refine ccp_vV (As := [.int (oI w_4.toInt)]) (rest := []) (gF := fun _ => va_up F 22 (oI (((F 22).toInt) - 1))) (gX := fun X9 => rg 1 1 X X9) ⟨hx, hb, hml, hown, hts⟩ (c_endList l dC dI cB cC cI cJ cZ a (va_up F 22 (oI (((F 22).toInt) - 1))) X J R gf gn w_4.toInt  (i32r _) (show gf ≤ 67600 from by first | assumption | omega)  H.size) (cwV 1 hts kX7_closeList_X1_endList_69 rfl rfl rfl (by decide +kernel) ⟨Nat.le_of_ble_eq_true rfl, Nat.le_of_ble_eq_true rfl⟩) (va_recv hK hP (ci := 1) (q0 := 1) rfl rfl) hK hNW hP hD hS hA rfl rfl hl.1 (lv_room (Nat.le_of_ble_eq_true rfl)) dX7_closeList_32 hcs (fun F_6 X_7 hw_8 H locs hP hD hS => ?_)
    have hw_8 : ((0 ≤ w_4.toInt ∧ w_4.toInt < (F 12).toInt ∧ w_4.toInt < (gf : Int)) ∧ X_7 1 = upd (X 1) (w_4.toInt).toNat (oI ((F 12).toInt - w_4.toInt))) ∨ (¬ (0 ≤ w_4.toInt ∧ w_4.toInt < (F 12).toInt ∧ w_4.toInt < (gf : Int)) ∧ X_7 1 = (X 1)) := hw_8
    have hend := hw_8
    refine lv_iconst (v := oI 0) hx hb dX7_closeList_35 (by decide) ?_
    have tw : w_4.toInt = (X 23 ((F 22).toInt - 1).toNat).toInt := by rw [hw_4]
    rw [tw] at hend
    obtain ⟨m1, m2⟩ := RD_close hgf hfi hrd (by omega) hend
    rw [← e_3] at m2
    have e0 : (oI 0).toInt = 0 := by decide
    have eF9 : rg 22 22 F (va_up F 22 (oI (((F 22).toInt) - 1))) = va_up F 22 (oI (((F 22).toInt) - 1)) := by funext k; simp only [rg, va_up]; (repeat' split) <;> first | with_reducible rfl | omega
    have eX9 : rg 1 1 X (rg 1 1 X X_7) = rg 1 1 X X_7 := by funext k; simp only [rg, va_up]; (repeat' split) <;> first | with_reducible rfl | omega
    have hP9 : va_P (dC, dI) vwCl (CW cB cC cI cJ cZ a (rg 22 22 F (va_up F 22 (oI (((F 22).toInt) - 1)))) (rg 1 1 X (rg 1 1 X X_7)) J R gf gn) H := by rw [eF9, eX9]; exact hP
    have hD9 : va_D A (CW cB cC cI cJ cZ a (rg 22 22 F (va_up F 22 (oI (((F 22).toInt) - 1)))) (rg 1 1 X (rg 1 1 X X_7)) J R gf gn) := by rw [eF9, eX9]; exact hD
    have hpost : (∃ D9 : Int → Nat, FI (X_7 1) D9 gf (F 0).toInt (F 12).toInt ∧ RD (X_7 1) D9 (X 23) (oI (((F 22).toInt) - 1)).toInt (F 12).toInt) ∧ (0 ≤ (oI (((F 22).toInt) - 1)).toInt ∧ (oI (((F 22).toInt) - 1)).toInt ≤ 61) := ⟨⟨D, m1, m2⟩, by omega⟩
    exact W.iret (v := (oI 0)) hx hb hr (fun t ht hW => ⟨⟨(oI 0), (va_up F 22 (oI (((F 22).toInt) - 1)), rg 1 1 X X_7), rfl, hpost, by rw [ht]; exact hP9, va_K.moved hW.alike hK, hD9⟩, hS.F ht⟩) hS.2.2 dX7_closeList_36
  · refine lv_iconst (v := oI 1) hx hb dX7_closeList_7 (by decide) ?_
    have e0 : (oI 1).toInt = 1 := by decide
    have eF9 : rg 22 22 F F = F := by funext k; simp only [rg, va_up]; (repeat' split) <;> first | with_reducible rfl | omega
    have eX9 : rg 1 1 X X = X := by funext k; simp only [rg, va_up]; (repeat' split) <;> first | with_reducible rfl | omega
    have hP9 : va_P (dC, dI) vwCl (CW cB cC cI cJ cZ a (rg 22 22 F F) (rg 1 1 X X) J R gf gn) s.heap := by rw [eF9, eX9]; exact hP
    have hD9 : va_D A (CW cB cC cI cJ cZ a (rg 22 22 F F) (rg 1 1 X X) J R gf gn) := by rw [eF9, eX9]; exact hD
    have hpost : (∃ D9 : Int → Nat, FI (X 1) D9 gf (F 0).toInt (F 12).toInt ∧ RD (X 1) D9 (X 23) (F 22).toInt (F 12).toInt) ∧ (0 ≤ (F 22).toInt ∧ (F 22).toInt ≤ 61) := ⟨⟨D, hfi, hrd⟩, by omega⟩
    exact W.iret (v := (oI 1)) hx hb hr (fun t ht hW => ⟨⟨(oI 1), (F, X), rfl, hpost, by rw [ht]; exact hP9, va_K.moved hW.alike hK, hD9⟩, hS.F ht⟩) hS.2.2 dX7_closeList_8
