def oX2_enter : List Cond := [Cond.fieldLink RX2 31 "MacroScopes$Frames" "top" "I", Cond.fieldLink RX2 11 "MacroScopes$Frames" "next" "[I", Cond.fieldLink RX2 15 "MacroScopes$Frames" "end" "[I", Cond.fieldLink RX2 18 "MacroScopes$Frames" "closes" "[Z"]
def vX2_enter : List Cond := .code yX2_enter cX2_enter 4 none :: (oX2_enter ++ (wsX20))
theorem lkX2_enter_f31 : Cond.fieldLink RX2 31 "MacroScopes$Frames" "top" "I" ∈ vX2_enter := List.mem_cons_of_mem _ (List.mem_append_left _ (List.mem_of_getElem? (i := 0) rfl))
theorem lkX2_enter_f11 : Cond.fieldLink RX2 11 "MacroScopes$Frames" "next" "[I" ∈ vX2_enter := List.mem_cons_of_mem _ (List.mem_append_left _ (List.mem_of_getElem? (i := 1) rfl))
theorem lkX2_enter_f15 : Cond.fieldLink RX2 15 "MacroScopes$Frames" "end" "[I" ∈ vX2_enter := List.mem_cons_of_mem _ (List.mem_append_left _ (List.mem_of_getElem? (i := 2) rfl))
theorem lkX2_enter_f18 : Cond.fieldLink RX2 18 "MacroScopes$Frames" "closes" "[Z" ∈ vX2_enter := List.mem_cons_of_mem _ (List.mem_append_left _ (List.mem_of_getElem? (i := 3) rfl))
theorem inX2_enter_X2 : ∀ w ∈ wsX20, w ∈ vX2_enter := fun w h => List.mem_cons_of_mem _ (List.mem_append_right _ (h))
def oX2_remember : List Cond := [Cond.fieldLink RX2 31 "MacroScopes$Frames" "top" "I", Cond.fieldLink RX2 22 "MacroScopes$Frames" "formsBefore" "[I", Cond.fieldLink RX2 25 "MacroScopes$Frames" "namesBefore" "[I", Cond.fieldLink RX2 28 "MacroScopes$Frames" "scopesBefore" "[I"]
def vX2_remember : List Cond := .code yX2_remember cX2_remember 4 none :: (oX2_remember ++ (wsX20))
theorem lkX2_remember_f31 : Cond.fieldLink RX2 31 "MacroScopes$Frames" "top" "I" ∈ vX2_remember := List.mem_cons_of_mem _ (List.mem_append_left _ (List.mem_of_getElem? (i := 0) rfl))
theorem lkX2_remember_f22 : Cond.fieldLink RX2 22 "MacroScopes$Frames" "formsBefore" "[I" ∈ vX2_remember := List.mem_cons_of_mem _ (List.mem_append_left _ (List.mem_of_getElem? (i := 1) rfl))
theorem lkX2_remember_f25 : Cond.fieldLink RX2 25 "MacroScopes$Frames" "namesBefore" "[I" ∈ vX2_remember := List.mem_cons_of_mem _ (List.mem_append_left _ (List.mem_of_getElem? (i := 2) rfl))
theorem lkX2_remember_f28 : Cond.fieldLink RX2 28 "MacroScopes$Frames" "scopesBefore" "[I" ∈ vX2_remember := List.mem_cons_of_mem _ (List.mem_append_left _ (List.mem_of_getElem? (i := 3) rfl))
theorem inX2_remember_X2 : ∀ w ∈ wsX20, w ∈ vX2_remember := fun w h => List.mem_cons_of_mem _ (List.mem_append_right _ (h))
def oX2_nextForm : List Cond := [Cond.fieldLink RX2 31 "MacroScopes$Frames" "top" "I", Cond.fieldLink RX2 11 "MacroScopes$Frames" "next" "[I", Cond.fieldLink RX2 15 "MacroScopes$Frames" "end" "[I", Cond.methodLink RX2 35 yX1_after, Cond.instanceMethod yX1_after, Cond.selects RX1 yX1_after yX1_after, Cond.initialized RX1]
def vX2_nextForm : List Cond := .code yX2_nextForm cX2_nextForm 4 (some .int) :: (oX2_nextForm ++ (vX1_after ++ (wsX20)))
theorem lkX2_nextForm_f31 : Cond.fieldLink RX2 31 "MacroScopes$Frames" "top" "I" ∈ vX2_nextForm := List.mem_cons_of_mem _ (List.mem_append_left _ (List.mem_of_getElem? (i := 0) rfl))
theorem lkX2_nextForm_f11 : Cond.fieldLink RX2 11 "MacroScopes$Frames" "next" "[I" ∈ vX2_nextForm := List.mem_cons_of_mem _ (List.mem_append_left _ (List.mem_of_getElem? (i := 1) rfl))
theorem lkX2_nextForm_f15 : Cond.fieldLink RX2 15 "MacroScopes$Frames" "end" "[I" ∈ vX2_nextForm := List.mem_cons_of_mem _ (List.mem_append_left _ (List.mem_of_getElem? (i := 2) rfl))
theorem inX2_nextForm_X2 : ∀ w ∈ wsX20, w ∈ vX2_nextForm := fun w h => List.mem_cons_of_mem _ (List.mem_append_right _ (List.mem_append_right _ (h)))
theorem kX2_nextForm_X1_after_35 : GoodIn vX2_nextForm (wsV RX2 35 RX1 yX1_after vX1_after) := goodIn_sub (fun w h => (List.mem_append.mp h).elim (fun h => List.mem_cons_of_mem _ (List.mem_append_left _ ((by decide +kernel : ∀ w ∈ ([.methodLink RX2 35 yX1_after, .instanceMethod yX1_after, .selects RX1 yX1_after yX1_after, .initialized RX1] : List Cond), w ∈ oX2_nextForm) w h))) (fun h => List.mem_cons_of_mem _ (List.mem_append_right _ (List.mem_append_left _ (h))))) (by decide +kernel)
set_option maxHeartbeats 4000000 in
set_option maxRecDepth 100000 in
/-- X2_enter -/
theorem c_enter (l : Launch) (dC : Nat → ClassId) (dI : Nat → Nat → Nat) (cB cC cI cJ cZ : ClassId) (a : Nat → Nat) (F : Nat → Int32) (X : Nat → Nat → Int32) (J : Nat → Nat → Int64) (R : Nat → Nat) (gf gn : Nat) (x y z : Int)  (ix : (-2147483648 ≤ x ∧ x < 2147483648)) (iy : (-2147483648 ≤ y ∧ y < 2147483648)) (iz : (-2147483648 ≤ z ∧ z < 2147483648)) (hft : 0 ≤ (F 1).toInt ∧ (F 1).toInt ≤ 101) (s0 : Nat) : Met l yX2_enter vX2_enter { frames := 1, cells := 0, slots := 0, locals := 60 } (va_Pc [.ref (a 2), .int (oI x), .int (oI y), .int (oI z)] (cPre dC dI cB cC cI cJ cZ a F X J R gf gn s0)) (va_Qv (fun (u : (Nat → Int32) × (Nat → Nat → Int32)) => match u with | (F1, X1) => ((F 1).toInt < 101 ∧ (F1 1).toInt = (F 1).toInt + 1 ∧ X1 2 = upd (X 2) (F 1).toInt.toNat (oI x) ∧ X1 3 = upd (X 3) (F 1).toInt.toNat (oI y)) ∨ ((F 1).toInt = 101 ∧ (F1 1).toInt = (F 1).toInt ∧ X1 2 = (X 2) ∧ X1 3 = (X 3))) (fun u => cPost dC dI cB cC cI cJ cZ a (rg 1 1 F u.1) (rg 2 4 X u.2) J R gf gn (va_A (CW cB cC cI cJ cZ a F X J R gf gn) s0)) (va_A (CW cB cC cI cJ cZ a F X J R gf gn) s0)) 0 0 (va_A (CW cB cC cI cJ cZ a F X J R gf gn) s0) := by
  refine Met.ofW (cc := cX2_enter) (maxL := 4) (ret := none) (by decide) rfl ?_
  intro p e s m args below meth c s₁ B9 hml hv
  obtain ⟨rfl, hsz0, hP, hK, hD0, hNW⟩ := hv
  have hx := B9.exec
  have hb := B9.bytes
  have hr := B9.returns
  have hts := atoms_spec (ws := vX2_enter) B9.pre
  have hown : s.vm.findClass RX2 = some m.cls := findClass_of_methodNamed B9.named
  have hlocks := B9.notSynchronized
  clear B9
  subst hsz0
  have hD := hD0.self (sz := s.heap.size)
  generalize hAe : va_A (CW cB cC cI cJ cZ a F X J R gf gn) s.heap.size = A at hD ⊢
  have hA : ∀ q : Nat, s.heap.size ≤ q → A q := fun q h => by rw [← hAe]; exact Or.inr h
  have hS : va_S A s.heap s.heap [] := va_S.rf
  have hcs : 0 + 0 ≤ (0 : Nat) ∧ 0 + 0 ≤ (0 : Nat) := ⟨Nat.le_refl 0, Nat.le_refl 0⟩
  have hl := lv_entry ([.ref (a 2), .int (oI x), .int (oI y), .int (oI z)]) (n := 4) (Nat.le_of_ble_eq_true rfl)
  rw [lg_entry_eq]
  generalize (lg_sl ([.ref (a 2), .int (oI x), .int (oI y), .int (oI z)]) ++ List.replicate (4 - (lg_sl ([.ref (a 2), .int (oI x), .int (oI y), .int (oI z)])).length) Slot.unset).toArray = ls at hl ⊢
  have hl : lv_has ls 4 [(0, .ref (a 2)), (1, .int (oI x)), (2, .int (oI y)), (3, .int (oI z))] := hl
  refine lv_aload_n hx hb dX2_enter_0 rfl (lv_at hl 0 rfl) ?_
  refine cg_2_6 hx hb hts inX2_enter_X2 hown hK hP (hts _ lkX2_enter_f31) dX2_enter_1 ?_
  have i_1 := i32r (F 1)
  refine lv_bipush (v := oI 101) hx hb dX2_enter_4 (by decide) ?_
  refine ci_ge (tgt := 49) hx hb (i32r _) (by decide) dX2_enter_6 (by decide) (fun c_2 => ?_) (fun c_2 => ?_)
  · have eF9 : rg 1 1 F F = F := by funext k; simp only [rg, va_up]; (repeat' split) <;> first | with_reducible rfl | omega
    have eX9 : rg 2 4 X X = X := by funext k; simp only [rg, va_up]; (repeat' split) <;> first | with_reducible rfl | omega
    have hP9 : va_P (dC, dI) vwCl (CW cB cC cI cJ cZ a (rg 1 1 F F) (rg 2 4 X X) J R gf gn) s.heap := by rw [eF9, eX9]; exact hP
    have hD9 : va_D A (CW cB cC cI cJ cZ a (rg 1 1 F F) (rg 2 4 X X) J R gf gn) := by rw [eF9, eX9]; exact hD
    have hpost : ((F 1).toInt < 101 ∧ (F 1).toInt = (F 1).toInt + 1 ∧ X 2 = upd (X 2) (F 1).toInt.toNat (oI x) ∧ X 3 = upd (X 3) (F 1).toInt.toNat (oI y)) ∨ ((F 1).toInt = 101 ∧ (F 1).toInt = (F 1).toInt ∧ X 2 = (X 2) ∧ X 3 = (X 3)) := Or.inr ⟨by omega, by omega, rfl, rfl⟩
    exact W.vret hx hb hr (fun t ht hW => ⟨⟨(F, X), rfl, hpost, by rw [ht]; exact hP9, va_K.moved hW.alike hK, hD9⟩, hS.F ht⟩) hS.2.2 dX2_enter_49
  · refine lv_aload_n hx hb dX2_enter_9 rfl (lv_at hl 0 rfl) ?_
    refine cg_2_0 hx hb hts inX2_enter_X2 hown hK hP (hts _ lkX2_enter_f11) dX2_enter_10 ?_
    refine lv_aload_n hx hb dX2_enter_13 rfl (lv_at hl 0 rfl) ?_
    refine cg_2_6 hx hb hts inX2_enter_X2 hown hK hP (hts _ lkX2_enter_f31) dX2_enter_14 ?_
    refine lv_iload_n hx hb dX2_enter_17 rfl (lv_at hl 1 rfl) ?_
    refine cs_2 hx hb hK hP hD hS (by omega) dX2_enter_18 (fun H locs hP hD hS => ?_)
    have hP : va_P (dC, dI) vwCl (CW cB cC cI cJ cZ a F (va_up X 2 (upd (X 2) ((F 1).toInt).toNat (oI x))) J R gf gn) H := hP
    have hD : va_D A (CW cB cC cI cJ cZ a F (va_up X 2 (upd (X 2) ((F 1).toInt).toNat (oI x))) J R gf gn) := hD
    refine lv_aload_n hx hb dX2_enter_19 rfl (lv_at hl 0 rfl) ?_
    refine cg_2_1 hx hb hts inX2_enter_X2 hown hK hP (hts _ lkX2_enter_f15) dX2_enter_20 ?_
    refine lv_aload_n hx hb dX2_enter_23 rfl (lv_at hl 0 rfl) ?_
    refine cg_2_6 hx hb hts inX2_enter_X2 hown hK hP (hts _ lkX2_enter_f31) dX2_enter_24 ?_
    refine lv_iload_n hx hb dX2_enter_27 rfl (lv_at hl 2 rfl) ?_
    refine cs_3 hx hb hK hP hD hS (by omega) dX2_enter_28 (fun H locs hP hD hS => ?_)
    have hP : va_P (dC, dI) vwCl (CW cB cC cI cJ cZ a F (va_up (va_up X 2 (upd (X 2) ((F 1).toInt).toNat (oI x))) 3 (upd (X 3) ((F 1).toInt).toNat (oI y))) J R gf gn) H := hP
    have hD : va_D A (CW cB cC cI cJ cZ a F (va_up (va_up X 2 (upd (X 2) ((F 1).toInt).toNat (oI x))) 3 (upd (X 3) ((F 1).toInt).toNat (oI y))) J R gf gn) := hD
    refine lv_aload_n hx hb dX2_enter_29 rfl (lv_at hl 0 rfl) ?_
    refine cg_2_2 hx hb hts inX2_enter_X2 hown hK hP (hts _ lkX2_enter_f18) dX2_enter_30 ?_
    refine lv_aload_n hx hb dX2_enter_33 rfl (lv_at hl 0 rfl) ?_
    refine cg_2_6 hx hb hts inX2_enter_X2 hown hK hP (hts _ lkX2_enter_f31) dX2_enter_34 ?_
    refine lv_iload_n hx hb dX2_enter_37 rfl (lv_at hl 3 rfl) ?_
    refine cs_4 hx hb hK hP hD hS (by omega) dX2_enter_38 (fun H locs hP hD hS => ?_)
    have hP : va_P (dC, dI) vwCl (CW cB cC cI cJ cZ a F (va_up (va_up (va_up X 2 (upd (X 2) ((F 1).toInt).toNat (oI x))) 3 (upd (X 3) ((F 1).toInt).toNat (oI y))) 4 (upd (X 4) ((F 1).toInt).toNat (vp_nar .boolean (oI z)))) J R gf gn) H := hP
    have hD : va_D A (CW cB cC cI cJ cZ a F (va_up (va_up (va_up X 2 (upd (X 2) ((F 1).toInt).toNat (oI x))) 3 (upd (X 3) ((F 1).toInt).toNat (oI y))) 4 (upd (X 4) ((F 1).toInt).toNat (vp_nar .boolean (oI z)))) J R gf gn) := hD
    refine lv_aload_n hx hb dX2_enter_39 rfl (lv_at hl 0 rfl) ?_
    refine lv_dup hx hb dX2_enter_40 rfl ?_
    refine cg_2_6 hx hb hts inX2_enter_X2 hown hK hP (hts _ lkX2_enter_f31) dX2_enter_41 ?_
    refine lv_iconst (v := oI 1) hx hb dX2_enter_44 (by decide) ?_
    refine lv_iadd hx hb dX2_enter_45 ?_
    refine tp_i (oI_add ((F 1).toInt) 1) ?_
    refine cp_2_6 hx hb hts inX2_enter_X2 hown hK hP hD hS (hts _ lkX2_enter_f31) dX2_enter_46 (fun H locs hP hD hS => ?_)
    have hP : va_P (dC, dI) vwCl (CW cB cC cI cJ cZ a (va_up F 1 (oI (((F 1).toInt) + 1))) (va_up (va_up (va_up X 2 (upd (X 2) ((F 1).toInt).toNat (oI x))) 3 (upd (X 3) ((F 1).toInt).toNat (oI y))) 4 (upd (X 4) ((F 1).toInt).toNat (vp_nar .boolean (oI z)))) J R gf gn) H := hP
    have hD : va_D A (CW cB cC cI cJ cZ a (va_up F 1 (oI (((F 1).toInt) + 1))) (va_up (va_up (va_up X 2 (upd (X 2) ((F 1).toInt).toNat (oI x))) 3 (upd (X 3) ((F 1).toInt).toNat (oI y))) 4 (upd (X 4) ((F 1).toInt).toNat (vp_nar .boolean (oI z)))) J R gf gn) := hD
    have e_3 : (oI (((F 1).toInt) + 1)).toInt = ((F 1).toInt) + 1 := toInt_oI (by omega)
    have eF9 : rg 1 1 F (va_up F 1 (oI (((F 1).toInt) + 1))) = va_up F 1 (oI (((F 1).toInt) + 1)) := by funext k; simp only [rg, va_up]; (repeat' split) <;> first | with_reducible rfl | omega
    have eX9 : rg 2 4 X (va_up (va_up (va_up X 2 (upd (X 2) ((F 1).toInt).toNat (oI x))) 3 (upd (X 3) ((F 1).toInt).toNat (oI y))) 4 (upd (X 4) ((F 1).toInt).toNat (vp_nar .boolean (oI z)))) = va_up (va_up (va_up X 2 (upd (X 2) ((F 1).toInt).toNat (oI x))) 3 (upd (X 3) ((F 1).toInt).toNat (oI y))) 4 (upd (X 4) ((F 1).toInt).toNat (vp_nar .boolean (oI z))) := by funext k; simp only [rg, va_up]; (repeat' split) <;> first | with_reducible rfl | omega
    have hP9 : va_P (dC, dI) vwCl (CW cB cC cI cJ cZ a (rg 1 1 F (va_up F 1 (oI (((F 1).toInt) + 1)))) (rg 2 4 X (va_up (va_up (va_up X 2 (upd (X 2) ((F 1).toInt).toNat (oI x))) 3 (upd (X 3) ((F 1).toInt).toNat (oI y))) 4 (upd (X 4) ((F 1).toInt).toNat (vp_nar .boolean (oI z))))) J R gf gn) H := by rw [eF9, eX9]; exact hP
    have hD9 : va_D A (CW cB cC cI cJ cZ a (rg 1 1 F (va_up F 1 (oI (((F 1).toInt) + 1)))) (rg 2 4 X (va_up (va_up (va_up X 2 (upd (X 2) ((F 1).toInt).toNat (oI x))) 3 (upd (X 3) ((F 1).toInt).toNat (oI y))) 4 (upd (X 4) ((F 1).toInt).toNat (vp_nar .boolean (oI z))))) J R gf gn) := by rw [eF9, eX9]; exact hD
    have hpost : ((F 1).toInt < 101 ∧ (oI (((F 1).toInt) + 1)).toInt = (F 1).toInt + 1 ∧ upd (X 2) ((F 1).toInt).toNat (oI x) = upd (X 2) (F 1).toInt.toNat (oI x) ∧ upd (X 3) ((F 1).toInt).toNat (oI y) = upd (X 3) (F 1).toInt.toNat (oI y)) ∨ ((F 1).toInt = 101 ∧ (oI (((F 1).toInt) + 1)).toInt = (F 1).toInt ∧ upd (X 2) ((F 1).toInt).toNat (oI x) = (X 2) ∧ upd (X 3) ((F 1).toInt).toNat (oI y) = (X 3)) := Or.inl ⟨by omega, by omega, rfl, rfl⟩
    exact W.vret hx hb hr (fun t ht hW => ⟨⟨(va_up F 1 (oI (((F 1).toInt) + 1)), va_up (va_up (va_up X 2 (upd (X 2) ((F 1).toInt).toNat (oI x))) 3 (upd (X 3) ((F 1).toInt).toNat (oI y))) 4 (upd (X 4) ((F 1).toInt).toNat (vp_nar .boolean (oI z)))), rfl, hpost, by rw [ht]; exact hP9, va_K.moved hW.alike hK, hD9⟩, hS.F ht⟩) hS.2.2 dX2_enter_49

set_option maxHeartbeats 4000000 in
set_option maxRecDepth 100000 in
/-- X2_remember -/
theorem c_rememberF (l : Launch) (dC : Nat → ClassId) (dI : Nat → Nat → Nat) (cB cC cI cJ cZ : ClassId) (a : Nat → Nat) (F : Nat → Int32) (X : Nat → Nat → Int32) (J : Nat → Nat → Int64) (R : Nat → Nat) (gf gn : Nat) (x y z : Int)  (ix : (-2147483648 ≤ x ∧ x < 2147483648)) (iy : (-2147483648 ≤ y ∧ y < 2147483648)) (iz : (-2147483648 ≤ z ∧ z < 2147483648)) (hft : 0 ≤ (F 1).toInt ∧ (F 1).toInt ≤ 101) (s0 : Nat) : Met l yX2_remember vX2_remember { frames := 1, cells := 0, slots := 0, locals := 60 } (va_Pc [.ref (a 2), .int (oI x), .int (oI y), .int (oI z)] (cPre dC dI cB cC cI cJ cZ a F X J R gf gn s0)) (va_Qv (fun (u : (Nat → Int32) × (Nat → Nat → Int32)) => match u with | (F1, X1) => ((F 1).toInt < 101 ∧ X1 5 = upd (X 5) (F 1).toInt.toNat (oI x) ∧ X1 6 = upd (X 6) (F 1).toInt.toNat (oI y)) ∨ ((F 1).toInt = 101 ∧ X1 5 = (X 5) ∧ X1 6 = (X 6))) (fun u => cPost dC dI cB cC cI cJ cZ a F (rg 5 7 X u.2) J R gf gn (va_A (CW cB cC cI cJ cZ a F X J R gf gn) s0)) (va_A (CW cB cC cI cJ cZ a F X J R gf gn) s0)) 0 0 (va_A (CW cB cC cI cJ cZ a F X J R gf gn) s0) := by
  refine Met.ofW (cc := cX2_remember) (maxL := 4) (ret := none) (by decide) rfl ?_
  intro p e s m args below meth c s₁ B9 hml hv
  obtain ⟨rfl, hsz0, hP, hK, hD0, hNW⟩ := hv
  have hx := B9.exec
  have hb := B9.bytes
  have hr := B9.returns
  have hts := atoms_spec (ws := vX2_remember) B9.pre
  have hown : s.vm.findClass RX2 = some m.cls := findClass_of_methodNamed B9.named
  have hlocks := B9.notSynchronized
  clear B9
  subst hsz0
  have hD := hD0.self (sz := s.heap.size)
  generalize hAe : va_A (CW cB cC cI cJ cZ a F X J R gf gn) s.heap.size = A at hD ⊢
  have hA : ∀ q : Nat, s.heap.size ≤ q → A q := fun q h => by rw [← hAe]; exact Or.inr h
  have hS : va_S A s.heap s.heap [] := va_S.rf
  have hcs : 0 + 0 ≤ (0 : Nat) ∧ 0 + 0 ≤ (0 : Nat) := ⟨Nat.le_refl 0, Nat.le_refl 0⟩
  have hl := lv_entry ([.ref (a 2), .int (oI x), .int (oI y), .int (oI z)]) (n := 4) (Nat.le_of_ble_eq_true rfl)
  rw [lg_entry_eq]
  generalize (lg_sl ([.ref (a 2), .int (oI x), .int (oI y), .int (oI z)]) ++ List.replicate (4 - (lg_sl ([.ref (a 2), .int (oI x), .int (oI y), .int (oI z)])).length) Slot.unset).toArray = ls at hl ⊢
  have hl : lv_has ls 4 [(0, .ref (a 2)), (1, .int (oI x)), (2, .int (oI y)), (3, .int (oI z))] := hl
  refine lv_aload_n hx hb dX2_remember_0 rfl (lv_at hl 0 rfl) ?_
  refine cg_2_6 hx hb hts inX2_remember_X2 hown hK hP (hts _ lkX2_remember_f31) dX2_remember_1 ?_
  have i_1 := i32r (F 1)
  refine lv_bipush (v := oI 101) hx hb dX2_remember_4 (by decide) ?_
  refine ci_ge (tgt := 39) hx hb (i32r _) (by decide) dX2_remember_6 (by decide) (fun c_2 => ?_) (fun c_2 => ?_)
  · have eX9 : rg 5 7 X X = X := by funext k; simp only [rg, va_up]; (repeat' split) <;> first | with_reducible rfl | omega
    have hP9 : va_P (dC, dI) vwCl (CW cB cC cI cJ cZ a F (rg 5 7 X X) J R gf gn) s.heap := by rw [eX9]; exact hP
    have hD9 : va_D A (CW cB cC cI cJ cZ a F (rg 5 7 X X) J R gf gn) := by rw [eX9]; exact hD
    have hpost : ((F 1).toInt < 101 ∧ X 5 = upd (X 5) (F 1).toInt.toNat (oI x) ∧ X 6 = upd (X 6) (F 1).toInt.toNat (oI y)) ∨ ((F 1).toInt = 101 ∧ X 5 = (X 5) ∧ X 6 = (X 6)) := Or.inr ⟨by omega, rfl, rfl⟩
    exact W.vret hx hb hr (fun t ht hW => ⟨⟨(F, X), rfl, hpost, by rw [ht]; exact hP9, va_K.moved hW.alike hK, hD9⟩, hS.F ht⟩) hS.2.2 dX2_remember_39
  · refine lv_aload_n hx hb dX2_remember_9 rfl (lv_at hl 0 rfl) ?_
    refine cg_2_3 hx hb hts inX2_remember_X2 hown hK hP (hts _ lkX2_remember_f22) dX2_remember_10 ?_
    refine lv_aload_n hx hb dX2_remember_13 rfl (lv_at hl 0 rfl) ?_
    refine cg_2_6 hx hb hts inX2_remember_X2 hown hK hP (hts _ lkX2_remember_f31) dX2_remember_14 ?_
    refine lv_iload_n hx hb dX2_remember_17 rfl (lv_at hl 1 rfl) ?_
    refine cs_5 hx hb hK hP hD hS (by omega) dX2_remember_18 (fun H locs hP hD hS => ?_)
    have hP : va_P (dC, dI) vwCl (CW cB cC cI cJ cZ a F (va_up X 5 (upd (X 5) ((F 1).toInt).toNat (oI x))) J R gf gn) H := hP
    have hD : va_D A (CW cB cC cI cJ cZ a F (va_up X 5 (upd (X 5) ((F 1).toInt).toNat (oI x))) J R gf gn) := hD
    refine lv_aload_n hx hb dX2_remember_19 rfl (lv_at hl 0 rfl) ?_
    refine cg_2_4 hx hb hts inX2_remember_X2 hown hK hP (hts _ lkX2_remember_f25) dX2_remember_20 ?_
    refine lv_aload_n hx hb dX2_remember_23 rfl (lv_at hl 0 rfl) ?_
    refine cg_2_6 hx hb hts inX2_remember_X2 hown hK hP (hts _ lkX2_remember_f31) dX2_remember_24 ?_
    refine lv_iload_n hx hb dX2_remember_27 rfl (lv_at hl 2 rfl) ?_
    refine cs_6 hx hb hK hP hD hS (by omega) dX2_remember_28 (fun H locs hP hD hS => ?_)
    have hP : va_P (dC, dI) vwCl (CW cB cC cI cJ cZ a F (va_up (va_up X 5 (upd (X 5) ((F 1).toInt).toNat (oI x))) 6 (upd (X 6) ((F 1).toInt).toNat (oI y))) J R gf gn) H := hP
    have hD : va_D A (CW cB cC cI cJ cZ a F (va_up (va_up X 5 (upd (X 5) ((F 1).toInt).toNat (oI x))) 6 (upd (X 6) ((F 1).toInt).toNat (oI y))) J R gf gn) := hD
    refine lv_aload_n hx hb dX2_remember_29 rfl (lv_at hl 0 rfl) ?_
    refine cg_2_5 hx hb hts inX2_remember_X2 hown hK hP (hts _ lkX2_remember_f28) dX2_remember_30 ?_
    refine lv_aload_n hx hb dX2_remember_33 rfl (lv_at hl 0 rfl) ?_
    refine cg_2_6 hx hb hts inX2_remember_X2 hown hK hP (hts _ lkX2_remember_f31) dX2_remember_34 ?_
    refine lv_iload_n hx hb dX2_remember_37 rfl (lv_at hl 3 rfl) ?_
    refine cs_7 hx hb hK hP hD hS (by omega) dX2_remember_38 (fun H locs hP hD hS => ?_)
    have hP : va_P (dC, dI) vwCl (CW cB cC cI cJ cZ a F (va_up (va_up (va_up X 5 (upd (X 5) ((F 1).toInt).toNat (oI x))) 6 (upd (X 6) ((F 1).toInt).toNat (oI y))) 7 (upd (X 7) ((F 1).toInt).toNat (oI z))) J R gf gn) H := hP
    have hD : va_D A (CW cB cC cI cJ cZ a F (va_up (va_up (va_up X 5 (upd (X 5) ((F 1).toInt).toNat (oI x))) 6 (upd (X 6) ((F 1).toInt).toNat (oI y))) 7 (upd (X 7) ((F 1).toInt).toNat (oI z))) J R gf gn) := hD
    have eX9 : rg 5 7 X (va_up (va_up (va_up X 5 (upd (X 5) ((F 1).toInt).toNat (oI x))) 6 (upd (X 6) ((F 1).toInt).toNat (oI y))) 7 (upd (X 7) ((F 1).toInt).toNat (oI z))) = va_up (va_up (va_up X 5 (upd (X 5) ((F 1).toInt).toNat (oI x))) 6 (upd (X 6) ((F 1).toInt).toNat (oI y))) 7 (upd (X 7) ((F 1).toInt).toNat (oI z)) := by funext k; simp only [rg, va_up]; (repeat' split) <;> first | with_reducible rfl | omega
    have hP9 : va_P (dC, dI) vwCl (CW cB cC cI cJ cZ a F (rg 5 7 X (va_up (va_up (va_up X 5 (upd (X 5) ((F 1).toInt).toNat (oI x))) 6 (upd (X 6) ((F 1).toInt).toNat (oI y))) 7 (upd (X 7) ((F 1).toInt).toNat (oI z)))) J R gf gn) H := by rw [eX9]; exact hP
    have hD9 : va_D A (CW cB cC cI cJ cZ a F (rg 5 7 X (va_up (va_up (va_up X 5 (upd (X 5) ((F 1).toInt).toNat (oI x))) 6 (upd (X 6) ((F 1).toInt).toNat (oI y))) 7 (upd (X 7) ((F 1).toInt).toNat (oI z)))) J R gf gn) := by rw [eX9]; exact hD
    have hpost : ((F 1).toInt < 101 ∧ upd (X 5) ((F 1).toInt).toNat (oI x) = upd (X 5) (F 1).toInt.toNat (oI x) ∧ upd (X 6) ((F 1).toInt).toNat (oI y) = upd (X 6) (F 1).toInt.toNat (oI y)) ∨ ((F 1).toInt = 101 ∧ upd (X 5) ((F 1).toInt).toNat (oI x) = (X 5) ∧ upd (X 6) ((F 1).toInt).toNat (oI y) = (X 6)) := Or.inl ⟨by omega, rfl, rfl⟩
    exact W.vret hx hb hr (fun t ht hW => ⟨⟨(F, va_up (va_up (va_up X 5 (upd (X 5) ((F 1).toInt).toNat (oI x))) 6 (upd (X 6) ((F 1).toInt).toNat (oI y))) 7 (upd (X 7) ((F 1).toInt).toNat (oI z))), rfl, hpost, by rw [ht]; exact hP9, va_K.moved hW.alike hK, hD9⟩, hS.F ht⟩) hS.2.2 dX2_remember_39

set_option maxHeartbeats 4000000 in
set_option maxRecDepth 100000 in
/-- X2_nextForm -/
theorem c_nextForm (l : Launch) (dC : Nat → ClassId) (dI : Nat → Nat → Nat) (cB cC cI cJ cZ : ClassId) (a : Nat → Nat) (F : Nat → Int32) (X : Nat → Nat → Int32) (J : Nat → Nat → Int64) (R : Nat → Nat) (gf gn : Nat)  (hgf : gf ≤ 67600) (hsp : SPR (X 1)) (hft : 0 ≤ (F 1).toInt ∧ (F 1).toInt ≤ 101) (hv2 : VB (X 2)) (s0 : Nat) : Met l yX2_nextForm vX2_nextForm { frames := 2, cells := 0, slots := 0, locals := 81 } (va_Pc [.ref (a 2), .ref (a 1)] (cPre dC dI cB cC cI cJ cZ a F X J R gf gn s0)) (va_Qi (fun (r : Int32) (u : (Nat → Int32) × (Nat → Nat → Int32)) => match u with | (F1, X1) => ((r).toInt = -1 ∧ X1 2 = (X 2) ∧ ((F 1).toInt = 0 ∨ ((X 3) ((F 1).toInt - 1).toNat).toInt ≤ ((X 2) ((F 1).toInt - 1).toNat).toInt)) ∨ (0 < (F 1).toInt ∧ (r).toInt = ((X 2) ((F 1).toInt - 1).toNat).toInt ∧ ((X 2) ((F 1).toInt - 1).toNat).toInt < ((X 3) ((F 1).toInt - 1).toNat).toInt ∧ X1 2 = upd (X 2) ((F 1).toInt - 1).toNat (oI (AF (X 1) gf (((X 2) ((F 1).toInt - 1).toNat).toInt))))) (fun u => cPost dC dI cB cC cI cJ cZ a F (rg 2 2 X u.2) J R gf gn (va_A (CW cB cC cI cJ cZ a F X J R gf gn) s0)) (va_A (CW cB cC cI cJ cZ a F X J R gf gn) s0)) 0 0 (va_A (CW cB cC cI cJ cZ a F X J R gf gn) s0) := by
  refine Met.ofW (cc := cX2_nextForm) (maxL := 4) (ret := (some .int)) (by decide) rfl ?_
  intro p e s m args below meth c s₁ B9 hml hv
  obtain ⟨rfl, hsz0, hP, hK, hD0, hNW⟩ := hv
  have hx := B9.exec
  have hb := B9.bytes
  have hr := B9.returns
  have hts := atoms_spec (ws := vX2_nextForm) B9.pre
  have hown : s.vm.findClass RX2 = some m.cls := findClass_of_methodNamed B9.named
  have hlocks := B9.notSynchronized
  clear B9
  subst hsz0
  have hD := hD0.self (sz := s.heap.size)
  generalize hAe : va_A (CW cB cC cI cJ cZ a F X J R gf gn) s.heap.size = A at hD ⊢
  have hA : ∀ q : Nat, s.heap.size ≤ q → A q := fun q h => by rw [← hAe]; exact Or.inr h
  have hS : va_S A s.heap s.heap [] := va_S.rf
  have hcs : 0 + 0 ≤ (0 : Nat) ∧ 0 + 0 ≤ (0 : Nat) := ⟨Nat.le_refl 0, Nat.le_refl 0⟩
  have hl := lv_entry ([.ref (a 2), .ref (a 1)]) (n := 4) (Nat.le_of_ble_eq_true rfl)
  rw [lg_entry_eq]
  generalize (lg_sl ([.ref (a 2), .ref (a 1)]) ++ List.replicate (4 - (lg_sl ([.ref (a 2), .ref (a 1)])).length) Slot.unset).toArray = ls at hl ⊢
  have hl : lv_has ls 4 [(0, .ref (a 2)), (1, .ref (a 1))] := hl
  refine lv_aload_n hx hb dX2_nextForm_0 rfl (lv_at hl 0 rfl) ?_
  refine cg_2_6 hx hb hts inX2_nextForm_X2 hown hK hP (hts _ lkX2_nextForm_f31) dX2_nextForm_1 ?_
  have i_1 := i32r (F 1)
  refine lv_iconst (v := oI 1) hx hb dX2_nextForm_4 (by decide) ?_
  refine lv_isub hx hb dX2_nextForm_5 ?_
  refine tp_i (oI_sub ((F 1).toInt) 1) ?_
  refine lv_istore_n (lv' := [(2, .int (oI (((F 1).toInt) - 1))), (0, .ref (a 2)), (1, .ref (a 1))]) hx hb dX2_nextForm_6 rfl hl (by decide) rfl (fun ls hl => ?_)
  refine lv_iload_n hx hb dX2_nextForm_7 rfl (lv_at hl 0 rfl) ?_
  refine cz_lt (tgt := 26) hx hb (by omega) dX2_nextForm_8 (by decide) (fun c_2 => ?_) (fun c_2 => ?_)
  · refine lv_iconst (v := oI (-1)) hx hb dX2_nextForm_26 (by decide) ?_
    have e0 : (oI ((-1))).toInt = (-1) := by decide
    have eX9 : rg 2 2 X X = X := by funext k; simp only [rg, va_up]; (repeat' split) <;> first | with_reducible rfl | omega
    have hP9 : va_P (dC, dI) vwCl (CW cB cC cI cJ cZ a F (rg 2 2 X X) J R gf gn) s.heap := by rw [eX9]; exact hP
    have hD9 : va_D A (CW cB cC cI cJ cZ a F (rg 2 2 X X) J R gf gn) := by rw [eX9]; exact hD
    have hpost : ((oI ((-1))).toInt = -1 ∧ X 2 = (X 2) ∧ ((F 1).toInt = 0 ∨ ((X 3) ((F 1).toInt - 1).toNat).toInt ≤ ((X 2) ((F 1).toInt - 1).toNat).toInt)) ∨ (0 < (F 1).toInt ∧ (oI ((-1))).toInt = ((X 2) ((F 1).toInt - 1).toNat).toInt ∧ ((X 2) ((F 1).toInt - 1).toNat).toInt < ((X 3) ((F 1).toInt - 1).toNat).toInt ∧ X 2 = upd (X 2) ((F 1).toInt - 1).toNat (oI (AF (X 1) gf (((X 2) ((F 1).toInt - 1).toNat).toInt)))) := Or.inl ⟨rfl, rfl, Or.inl (by omega)⟩
    exact W.iret (v := (oI ((-1)))) hx hb hr (fun t ht hW => ⟨⟨(oI ((-1))), (F, X), rfl, hpost, by rw [ht]; exact hP9, va_K.moved hW.alike hK, hD9⟩, hS.F ht⟩) hS.2.2 dX2_nextForm_27
  · refine lv_aload_n hx hb dX2_nextForm_11 rfl (lv_at hl 1 rfl) ?_
    refine cg_2_0 hx hb hts inX2_nextForm_X2 hown hK hP (hts _ lkX2_nextForm_f11) dX2_nextForm_12 ?_
    refine lv_iload_n hx hb dX2_nextForm_15 rfl (lv_at hl 0 rfl) ?_
    refine cl_2 hx hb hK hP (by omega) dX2_nextForm_16 (fun w_3 hw_3 => ?_)
    have i_4 := i32r w_3
    refine lv_aload_n hx hb dX2_nextForm_17 rfl (lv_at hl 1 rfl) ?_
    refine cg_2_1 hx hb hts inX2_nextForm_X2 hown hK hP (hts _ lkX2_nextForm_f15) dX2_nextForm_18 ?_
    refine lv_iload_n hx hb dX2_nextForm_21 rfl (lv_at hl 0 rfl) ?_
    refine cl_3 hx hb hK hP (by omega) dX2_nextForm_22 (fun w_5 hw_5 => ?_)
    have i_6 := i32r w_5
    refine ci_lt (tgt := 28) hx hb (i32r _) (i32r _) dX2_nextForm_23 (by decide) (fun c_7 => ?_) (fun c_7 => ?_)
    · refine lv_aload_n hx hb dX2_nextForm_28 rfl (lv_at hl 1 rfl) ?_
      refine cg_2_0 hx hb hts inX2_nextForm_X2 hown hK hP (hts _ lkX2_nextForm_f11) dX2_nextForm_29 ?_
      refine lv_iload_n hx hb dX2_nextForm_32 rfl (lv_at hl 0 rfl) ?_
      refine cl_2 hx hb hK hP (by omega) dX2_nextForm_33 (fun w_8 hw_8 => ?_)
      have i_9 := i32r w_8
      have q_10 : w_8.toInt = w_3.toInt := by rw [hw_8, hw_3]
      refine lv_istore_n (lv' := [(3, .int (oI w_8.toInt)), (2, .int (oI (((F 1).toInt) - 1))), (0, .ref (a 2)), (1, .ref (a 1))]) hx hb dX2_nextForm_34 rfl hl (by decide) rfl (fun ls hl => ?_)
      refine lv_aload_n hx hb dX2_nextForm_35 rfl (lv_at hl 2 rfl) ?_
      refine cg_2_0 hx hb hts inX2_nextForm_X2 hown hK hP (hts _ lkX2_nextForm_f11) dX2_nextForm_36 ?_
      refine lv_iload_n hx hb dX2_nextForm_39 rfl (lv_at hl 1 rfl) ?_
      refine lv_aload_n hx hb dX2_nextForm_40 rfl (lv_at hl 3 rfl) ?_
      refine lv_iload_n hx hb dX2_nextForm_41 rfl (lv_at hl 0 rfl) ?_
      have hv9 := hv2 (((F 1).toInt) - 1).toNat
      have tv9 : w_8.toInt = (X 2 (((F 1).toInt) - 1).toNat).toInt := by rw [hw_8]
      refine ccs_iV (As := [.int (oI w_8.toInt)]) (rest := [.int (oI (((F 1).toInt) - 1)), .ref (R 2)]) ⟨hx, hb, hml, hown, hts⟩ (c_after l dC dI cB cC cI cJ cZ a F X J R gf gn w_8.toInt  (i32r _) (show gf ≤ 67600 from by first | assumption | omega) (show SPR (X 1) from by first | assumption | omega) (show w_8.toInt < 2147483647 from by first | assumption | omega) s.heap.size) (cwV 1 hts kX2_nextForm_X1_after_35 rfl rfl rfl (by decide +kernel) ⟨Nat.le_of_ble_eq_true rfl, Nat.le_of_ble_eq_true rfl⟩) (va_recv hK hP (ci := 1) (q0 := 1) rfl rfl) hK hNW hP hD hS hA rfl rfl hl.1 (lv_room (Nat.le_of_ble_eq_true rfl)) dX2_nextForm_42 hcs (fun r_11 hw_12 H locs hP hD hS => ?_)
      have hw_12 : (r_11).toInt = AF (X 1) gf w_8.toInt ∧ w_8.toInt < (r_11).toInt ∧ (r_11).toInt ≤ w_8.toInt + 67600 := hw_12
      obtain ⟨ea, la, ua⟩ := hw_12
      have i_13 := i32r r_11
      refine cs_2 hx hb hK hP hD hS (by omega) dX2_nextForm_45 (fun H locs hP hD hS => ?_)
      have hP : va_P (dC, dI) vwCl (CW cB cC cI cJ cZ a F (va_up X 2 (upd (X 2) (((F 1).toInt) - 1).toNat (oI r_11.toInt))) J R gf gn) H := hP
      have hD : va_D A (CW cB cC cI cJ cZ a F (va_up X 2 (upd (X 2) (((F 1).toInt) - 1).toNat (oI r_11.toInt))) J R gf gn) := hD
      refine lv_iload_n hx hb dX2_nextForm_46 rfl (lv_at hl 0 rfl) ?_
      have tw_3 : w_3.toInt = (X 2 (((F 1).toInt) - 1).toNat).toInt := by rw [hw_3]
      have tw_5 : w_5.toInt = (X 3 (((F 1).toInt) - 1).toNat).toInt := by rw [hw_5]
      have tw_8 : w_8.toInt = (X 2 (((F 1).toInt) - 1).toNat).toInt := by rw [hw_8]
      have e0 : (oI w_8.toInt).toInt = w_8.toInt := congrArg Int32.toInt (oI_toInt _)
      have eX9 : rg 2 2 X (va_up X 2 (upd (X 2) (((F 1).toInt) - 1).toNat (oI r_11.toInt))) = va_up X 2 (upd (X 2) (((F 1).toInt) - 1).toNat (oI r_11.toInt)) := by funext k; simp only [rg, va_up]; (repeat' split) <;> first | with_reducible rfl | omega
      have hP9 : va_P (dC, dI) vwCl (CW cB cC cI cJ cZ a F (rg 2 2 X (va_up X 2 (upd (X 2) (((F 1).toInt) - 1).toNat (oI r_11.toInt)))) J R gf gn) H := by rw [eX9]; exact hP
      have hD9 : va_D A (CW cB cC cI cJ cZ a F (rg 2 2 X (va_up X 2 (upd (X 2) (((F 1).toInt) - 1).toNat (oI r_11.toInt)))) J R gf gn) := by rw [eX9]; exact hD
      have hpost : ((oI w_8.toInt).toInt = -1 ∧ upd (X 2) (((F 1).toInt) - 1).toNat (oI r_11.toInt) = (X 2) ∧ ((F 1).toInt = 0 ∨ ((X 3) ((F 1).toInt - 1).toNat).toInt ≤ ((X 2) ((F 1).toInt - 1).toNat).toInt)) ∨ (0 < (F 1).toInt ∧ (oI w_8.toInt).toInt = ((X 2) ((F 1).toInt - 1).toNat).toInt ∧ ((X 2) ((F 1).toInt - 1).toNat).toInt < ((X 3) ((F 1).toInt - 1).toNat).toInt ∧ upd (X 2) (((F 1).toInt) - 1).toNat (oI r_11.toInt) = upd (X 2) ((F 1).toInt - 1).toNat (oI (AF (X 1) gf (((X 2) ((F 1).toInt - 1).toNat).toInt)))) := Or.inr ⟨by omega, by omega, by omega, by rw [ea, tw_8]⟩
      exact W.iret (v := (oI w_8.toInt)) hx hb hr (fun t ht hW => ⟨⟨(oI w_8.toInt), (F, va_up X 2 (upd (X 2) (((F 1).toInt) - 1).toNat (oI r_11.toInt))), rfl, hpost, by rw [ht]; exact hP9, va_K.moved hW.alike hK, hD9⟩, hS.F ht⟩) hS.2.2 dX2_nextForm_47
    · refine lv_iconst (v := oI (-1)) hx hb dX2_nextForm_26 (by decide) ?_
      have tw_3 : w_3.toInt = (X 2 (((F 1).toInt) - 1).toNat).toInt := by rw [hw_3]
      have tw_5 : w_5.toInt = (X 3 (((F 1).toInt) - 1).toNat).toInt := by rw [hw_5]
      have e0 : (oI ((-1))).toInt = (-1) := by decide
      have eX9 : rg 2 2 X X = X := by funext k; simp only [rg, va_up]; (repeat' split) <;> first | with_reducible rfl | omega
      have hP9 : va_P (dC, dI) vwCl (CW cB cC cI cJ cZ a F (rg 2 2 X X) J R gf gn) s.heap := by rw [eX9]; exact hP
      have hD9 : va_D A (CW cB cC cI cJ cZ a F (rg 2 2 X X) J R gf gn) := by rw [eX9]; exact hD
      have hpost : ((oI ((-1))).toInt = -1 ∧ X 2 = (X 2) ∧ ((F 1).toInt = 0 ∨ ((X 3) ((F 1).toInt - 1).toNat).toInt ≤ ((X 2) ((F 1).toInt - 1).toNat).toInt)) ∨ (0 < (F 1).toInt ∧ (oI ((-1))).toInt = ((X 2) ((F 1).toInt - 1).toNat).toInt ∧ ((X 2) ((F 1).toInt - 1).toNat).toInt < ((X 3) ((F 1).toInt - 1).toNat).toInt ∧ X 2 = upd (X 2) ((F 1).toInt - 1).toNat (oI (AF (X 1) gf (((X 2) ((F 1).toInt - 1).toNat).toInt)))) := Or.inl ⟨rfl, rfl, Or.inr (by omega)⟩
      exact W.iret (v := (oI ((-1)))) hx hb hr (fun t ht hW => ⟨⟨(oI ((-1))), (F, X), rfl, hpost, by rw [ht]; exact hP9, va_K.moved hW.alike hK, hD9⟩, hS.F ht⟩) hS.2.2 dX2_nextForm_27
