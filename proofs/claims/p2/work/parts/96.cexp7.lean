def oX0_expandUse : List Cond := [Cond.fieldLink RX0 31 "MacroScopes$Expander" "uses" "I", Cond.fieldLink RX0 60 "MacroScopes$Expander" "scopes" "LMacroScopes$Scopes;", Cond.methodLink RX0 245 yX9_homeOf, Cond.instanceMethod yX9_homeOf, Cond.selects RX9 yX9_homeOf yX9_homeOf, Cond.initialized RX9, Cond.fieldLink RX0 78 "MacroScopes$Expander" "matcher" "LMacroScopes$Matcher;", Cond.methodLink RX0 248 yX9_rulesOf, Cond.instanceMethod yX9_rulesOf, Cond.selects RX9 yX9_rulesOf yX9_rulesOf, Cond.methodLink RX0 251 yX4_ruleFor, Cond.instanceMethod yX4_ruleFor, Cond.selects RX4 yX4_ruleFor yX4_ruleFor, Cond.initialized RX4, Cond.fieldLink RX0 43 "MacroScopes$Expander" "forms" "LMacroScopes$Forms;", Cond.fieldLink RX0 87 "MacroScopes$Expander" "maker" "LMacroScopes$Maker;", Cond.methodLink RX0 196 yX1_part, Cond.instanceMethod yX1_part, Cond.selects RX1 yX1_part yX1_part, Cond.initialized RX1, Cond.methodLink RX0 255 yX3_make, Cond.instanceMethod yX3_make, Cond.selects RX3 yX3_make yX3_make, Cond.initialized RX3, Cond.fieldLink RX0 25 "MacroScopes$Expander" "fault" "I", Cond.fieldLink RX0 12 "MacroScopes$Expander" "frames" "LMacroScopes$Frames;", Cond.methodLink RX0 216 yX2_enter, Cond.instanceMethod yX2_enter, Cond.selects RX2 yX2_enter yX2_enter, Cond.initialized RX2]
def vX0_expandUse : List Cond := .code yX0_expandUse cX0_expandUse 6 none :: (oX0_expandUse ++ (vX9_homeOf ++ (vX9_rulesOf ++ (vX4_ruleFor ++ (vX1_part ++ (vX3_make ++ (vX2_enter ++ (wsX00 ++ (wsX10)))))))))
theorem lkX0_expandUse_f31 : Cond.fieldLink RX0 31 "MacroScopes$Expander" "uses" "I" ∈ vX0_expandUse := List.mem_cons_of_mem _ (List.mem_append_left _ (List.mem_of_getElem? (i := 0) rfl))
theorem lkX0_expandUse_f60 : Cond.fieldLink RX0 60 "MacroScopes$Expander" "scopes" "LMacroScopes$Scopes;" ∈ vX0_expandUse := List.mem_cons_of_mem _ (List.mem_append_left _ (List.mem_of_getElem? (i := 1) rfl))
theorem lkX0_expandUse_f78 : Cond.fieldLink RX0 78 "MacroScopes$Expander" "matcher" "LMacroScopes$Matcher;" ∈ vX0_expandUse := List.mem_cons_of_mem _ (List.mem_append_left _ (List.mem_of_getElem? (i := 6) rfl))
theorem lkX0_expandUse_f43 : Cond.fieldLink RX0 43 "MacroScopes$Expander" "forms" "LMacroScopes$Forms;" ∈ vX0_expandUse := List.mem_cons_of_mem _ (List.mem_append_left _ (List.mem_of_getElem? (i := 14) rfl))
theorem lkX0_expandUse_f87 : Cond.fieldLink RX0 87 "MacroScopes$Expander" "maker" "LMacroScopes$Maker;" ∈ vX0_expandUse := List.mem_cons_of_mem _ (List.mem_append_left _ (List.mem_of_getElem? (i := 15) rfl))
theorem lkX0_expandUse_f25 : Cond.fieldLink RX0 25 "MacroScopes$Expander" "fault" "I" ∈ vX0_expandUse := List.mem_cons_of_mem _ (List.mem_append_left _ (List.mem_of_getElem? (i := 24) rfl))
theorem lkX0_expandUse_f12 : Cond.fieldLink RX0 12 "MacroScopes$Expander" "frames" "LMacroScopes$Frames;" ∈ vX0_expandUse := List.mem_cons_of_mem _ (List.mem_append_left _ (List.mem_of_getElem? (i := 25) rfl))
theorem inX0_expandUse_X0 : ∀ w ∈ wsX00, w ∈ vX0_expandUse := fun w h => List.mem_cons_of_mem _ (List.mem_append_right _ (List.mem_append_right _ (List.mem_append_right _ (List.mem_append_right _ (List.mem_append_right _ (List.mem_append_right _ (List.mem_append_right _ (List.mem_append_left _ (h)))))))))
theorem inX0_expandUse_X1 : ∀ w ∈ wsX10, w ∈ vX0_expandUse := fun w h => List.mem_cons_of_mem _ (List.mem_append_right _ (List.mem_append_right _ (List.mem_append_right _ (List.mem_append_right _ (List.mem_append_right _ (List.mem_append_right _ (List.mem_append_right _ (List.mem_append_right _ (h)))))))))
theorem kX0_expandUse_X9_homeOf_245 : GoodIn vX0_expandUse (wsV RX0 245 RX9 yX9_homeOf vX9_homeOf) := goodIn_sub (fun w h => (List.mem_append.mp h).elim (fun h => List.mem_cons_of_mem _ (List.mem_append_left _ ((by decide +kernel : ∀ w ∈ ([.methodLink RX0 245 yX9_homeOf, .instanceMethod yX9_homeOf, .selects RX9 yX9_homeOf yX9_homeOf, .initialized RX9] : List Cond), w ∈ oX0_expandUse) w h))) (fun h => List.mem_cons_of_mem _ (List.mem_append_right _ (List.mem_append_left _ (h))))) (by decide +kernel)
theorem kX0_expandUse_X9_rulesOf_248 : GoodIn vX0_expandUse (wsV RX0 248 RX9 yX9_rulesOf vX9_rulesOf) := goodIn_sub (fun w h => (List.mem_append.mp h).elim (fun h => List.mem_cons_of_mem _ (List.mem_append_left _ ((by decide +kernel : ∀ w ∈ ([.methodLink RX0 248 yX9_rulesOf, .instanceMethod yX9_rulesOf, .selects RX9 yX9_rulesOf yX9_rulesOf, .initialized RX9] : List Cond), w ∈ oX0_expandUse) w h))) (fun h => List.mem_cons_of_mem _ (List.mem_append_right _ (List.mem_append_right _ (List.mem_append_left _ (h)))))) (by decide +kernel)
theorem kX0_expandUse_X4_ruleFor_251 : GoodIn vX0_expandUse (wsV RX0 251 RX4 yX4_ruleFor vX4_ruleFor) := goodIn_sub (fun w h => (List.mem_append.mp h).elim (fun h => List.mem_cons_of_mem _ (List.mem_append_left _ ((by decide +kernel : ∀ w ∈ ([.methodLink RX0 251 yX4_ruleFor, .instanceMethod yX4_ruleFor, .selects RX4 yX4_ruleFor yX4_ruleFor, .initialized RX4] : List Cond), w ∈ oX0_expandUse) w h))) (fun h => List.mem_cons_of_mem _ (List.mem_append_right _ (List.mem_append_right _ (List.mem_append_right _ (List.mem_append_left _ (h))))))) (by decide +kernel)
theorem kX0_expandUse_X1_part_196 : GoodIn vX0_expandUse (wsV RX0 196 RX1 yX1_part vX1_part) := goodIn_sub (fun w h => (List.mem_append.mp h).elim (fun h => List.mem_cons_of_mem _ (List.mem_append_left _ ((by decide +kernel : ∀ w ∈ ([.methodLink RX0 196 yX1_part, .instanceMethod yX1_part, .selects RX1 yX1_part yX1_part, .initialized RX1] : List Cond), w ∈ oX0_expandUse) w h))) (fun h => List.mem_cons_of_mem _ (List.mem_append_right _ (List.mem_append_right _ (List.mem_append_right _ (List.mem_append_right _ (List.mem_append_left _ (h)))))))) (by decide +kernel)
theorem kX0_expandUse_X3_make_255 : GoodIn vX0_expandUse (wsV RX0 255 RX3 yX3_make vX3_make) := goodIn_sub (fun w h => (List.mem_append.mp h).elim (fun h => List.mem_cons_of_mem _ (List.mem_append_left _ ((by decide +kernel : ∀ w ∈ ([.methodLink RX0 255 yX3_make, .instanceMethod yX3_make, .selects RX3 yX3_make yX3_make, .initialized RX3] : List Cond), w ∈ oX0_expandUse) w h))) (fun h => List.mem_cons_of_mem _ (List.mem_append_right _ (List.mem_append_right _ (List.mem_append_right _ (List.mem_append_right _ (List.mem_append_right _ (List.mem_append_left _ (h))))))))) (by decide +kernel)
theorem kX0_expandUse_X2_enter_216 : GoodIn vX0_expandUse (wsV RX0 216 RX2 yX2_enter vX2_enter) := goodIn_sub (fun w h => (List.mem_append.mp h).elim (fun h => List.mem_cons_of_mem _ (List.mem_append_left _ ((by decide +kernel : ∀ w ∈ ([.methodLink RX0 216 yX2_enter, .instanceMethod yX2_enter, .selects RX2 yX2_enter yX2_enter, .initialized RX2] : List Cond), w ∈ oX0_expandUse) w h))) (fun h => List.mem_cons_of_mem _ (List.mem_append_right _ (List.mem_append_right _ (List.mem_append_right _ (List.mem_append_right _ (List.mem_append_right _ (List.mem_append_right _ (List.mem_append_left _ (h)))))))))) (by decide +kernel)
set_option maxHeartbeats 4000000 in
set_option maxRecDepth 100000 in
theorem c_expandUse (l : Launch) (dC : Nat → ClassId) (dI : Nat → Nat → Nat) (cB cC cI cJ cZ : ClassId) (a : Nat → Nat) (F : Nat → Int32) (X : Nat → Nat → Int32) (J : Nat → Nat → Int64) (R : Nat → Nat) (gf gn : Nat) (x y : Int) (D : Int → Nat) (ee K k0 : Int) (ix : (-2147483648 ≤ x ∧ x < 2147483648)) (iy : (-2147483648 ≤ y ∧ y < 2147483648)) (hgf : gf ≤ 67600) (hgn : gn ≤ 63261) (hg2 : (gf = 10000 ∨ gf = 67600) ∧ (gn = 3760 ∨ gn = 63261)) (hnt : 0 ≤ (F 13).toInt ∧ (F 13).toInt ≤ (gn : Int)) (hsy : 0 ≤ (F 15).toInt ∧ (F 15).toInt ≤ 2560) (hst : 0 ≤ (F 23).toInt ∧ (F 23).toInt ≤ 606) (hms : 0 ≤ (F 19).toInt ∧ (F 19).toInt ≤ 3000 ∧ 0 ≤ (F 20).toInt ∧ (F 20).toInt ≤ 3000) (hru : VB (X 12)) (hva : VB (X 22)) (hft : 0 ≤ (F 1).toInt ∧ (F 1).toInt ≤ 101) (hnb : NB (X 6) gn) (hv2 : VB (X 2)) (hsb : 0 ≤ (F 16).toInt ∧ (F 16).toInt ≤ 2560) (hrb : VB (X 13)) (hx2 : 4000 ≤ x ∧ AF (X 1) gf x ≤ (F 12).toInt) (hfi : FI (X 1) D gf (F 0).toInt (F 12).toInt) (hfr : FRM (X 1) (X 2) (X 3) (X 5) (F 1).toInt (F 12).toInt ee) (hpn : PND (X 1) (X 3) (X 5) (F 1).toInt (F 12).toInt ee) (hk0 : (CUT (X 1) 0 k0 ∧ 0 ≤ k0 ∧ k0 ≤ (F 0).toInt)) (hnum : K ≤ 900000000 ∧ (4000 ≤ (F 2).toInt ∧ (F 2).toInt ≤ ee) ∧ (0 ≤ (F 8).toInt ∧ (F 8).toInt ≤ (F 25).toInt) ∧ (0 ≤ (F 6).toInt ∧ (F 6).toInt ≤ 100) ∧ (F 25).toInt + 40 * (((PSI (X 2) (X 3) (F 1).toInt.toNat : Nat) : Int) + ((ee - (F 2).toInt).toNat : Int) + 67600 * (100 - (F 6).toInt) + (AF (X 1) gf x - x)) + (F 1).toInt ≤ K) (s0 n0 : Nat) : Met l yX0_expandUse vX0_expandUse { frames := 195, cells := cg gf gn, slots := sg gf gn, locals := 5833 } (va_Pc [.ref (a 0), .int (oI x), .int (oI y)] (gPre dC dI cB cC cI cJ cZ a F X J R gf gn s0 n0)) (va_Qv (fun (u : (Nat → Int32) × (Nat → Nat → Int32) × (Nat → Nat → Int64) × (Nat → Nat) × Nat × Nat) => match u with | (F1, X1, J1, R1, gf1, gn1) => (∃ D9 : Int → Nat, FI (X1 1) D9 gf1 (F1 0).toInt (F1 12).toInt ∧ FRM (X1 1) (X1 2) (X1 3) (X1 5) (F1 1).toInt (F1 12).toInt ee ∧ (CUT (X1 1) 0 k0 ∧ 0 ≤ k0 ∧ k0 ≤ (F1 0).toInt)) ∧ (gf1 ≤ 67600) ∧ (gn1 ≤ 63261) ∧ ((gf1 = 10000 ∨ gf1 = 67600) ∧ (gn1 = 3760 ∨ gn1 = 63261)) ∧ (0 ≤ (F1 13).toInt ∧ (F1 13).toInt ≤ (gn1 : Int)) ∧ (0 ≤ (F1 15).toInt ∧ (F1 15).toInt ≤ 2560) ∧ (0 ≤ (F1 23).toInt ∧ (F1 23).toInt ≤ 606) ∧ (0 ≤ (F1 19).toInt ∧ (F1 19).toInt ≤ 3000 ∧ 0 ≤ (F1 20).toInt ∧ (F1 20).toInt ≤ 3000) ∧ (VB (X1 12)) ∧ (VB (X1 22)) ∧ (0 ≤ (F1 1).toInt ∧ (F1 1).toInt ≤ 101) ∧ (NB (X1 6) gn1) ∧ (VB (X1 2)) ∧ (0 ≤ (F1 16).toInt ∧ (F1 16).toInt ≤ 2560) ∧ (VB (X1 13)) ∧ ((4000 ≤ (F1 2).toInt ∧ (F1 2).toInt ≤ ee) ∧ (0 ≤ (F1 8).toInt ∧ (F1 8).toInt ≤ (F1 25).toInt) ∧ (0 ≤ (F1 6).toInt ∧ (F1 6).toInt ≤ 100) ∧ (F1 25).toInt + 40 * (((PSI (X1 2) (X1 3) (F1 1).toInt.toNat : Nat) : Int) + ((ee - (F1 2).toInt).toNat : Int) + 67600 * (100 - (F1 6).toInt) + 0) + (F1 1).toInt ≤ K) ∧ F1 27 = F 27) (fun u => gPost dC dI cB cC cI cJ cZ a u.1 u.2.1 u.2.2.1 u.2.2.2.1 u.2.2.2.2.1 u.2.2.2.2.2 (s0 + cg gf gn) (n0 + sg gf gn) (cg gf gn) (sg gf gn) (va_A (CW cB cC cI cJ cZ a F X J R gf gn) s0)) (va_A (CW cB cC cI cJ cZ a F X J R gf gn) s0)) (cg gf gn) (sg gf gn) (va_A (CW cB cC cI cJ cZ a F X J R gf gn) s0) := by
  refine Met.ofW (cc := cX0_expandUse) (maxL := 6) (ret := none) (by decide) rfl ?_
  intro p e s m args below meth c s₁ B9 hml hv
  obtain ⟨rfl, ⟨hsz0, hP, hK, hD0, hNW⟩, htot0⟩ := hv
  have hx := B9.exec
  have hb := B9.bytes
  have hr := B9.returns
  have hts := atoms_spec (ws := vX0_expandUse) B9.pre
  have hown : s.vm.findClass RX0 = some m.cls := findClass_of_methodNamed B9.named
  have hlocks := B9.notSynchronized
  clear B9
  subst hsz0
  subst htot0
  have hD := hD0.self (sz := s.heap.size)
  generalize hAe : va_A (CW cB cC cI cJ cZ a F X J R gf gn) s.heap.size = A at hD ⊢
  have hA : ∀ q : Nat, s.heap.size ≤ q → A q := fun q h => by rw [← hAe]; exact Or.inr h
  have hS : va_S A s.heap s.heap [] := va_S.rf
  have hcs : 0 + 0 ≤ cg gf gn ∧ 0 + 0 ≤ sg gf gn := ⟨Nat.zero_le _, Nat.zero_le _⟩
  have hl := lv_entry ([.ref (a 0), .int (oI x), .int (oI y)]) (n := 6) (Nat.le_of_ble_eq_true rfl)
  rw [lg_entry_eq]
  generalize (lg_sl ([.ref (a 0), .int (oI x), .int (oI y)]) ++ List.replicate (6 - (lg_sl ([.ref (a 0), .int (oI x), .int (oI y)])).length) Slot.unset).toArray = ls at hl ⊢
  have hl : lv_has ls 6 [(0, .ref (a 0)), (1, .int (oI x)), (2, .int (oI y))] := hl
  have hgc : gC gf gn gf gn 0 0 := gC.rf
  have hsp := FI_sp hfi
  have hne := FI_ns hfi
  have hbb := FI_b hfi
  have eb := AF_b hsp gf x
  refine lv_aload_n hx hb dX0_expandUse_0 rfl (lv_at hl 0 rfl) ?_
  refine cg_0_12 hx hb hts inX0_expandUse_X0 hown hK hP (hts _ lkX0_expandUse_f31) dX0_expandUse_1 ?_
  have i_1 := i32r (F 6)
  refine lv_bipush (v := oI 100) hx hb dX0_expandUse_4 (by decide) ?_
  refine ci_lt (tgt := 15) hx hb (i32r _) (by decide) dX0_expandUse_6 (by decide) (fun c_2 => ?_) (fun c_2 => ?_)
  · refine lv_aload_n hx hb dX0_expandUse_15 rfl (lv_at hl 0 rfl) ?_
    refine lv_dup hx hb dX0_expandUse_16 rfl ?_
    refine cg_0_12 hx hb hts inX0_expandUse_X0 hown hK hP (hts _ lkX0_expandUse_f31) dX0_expandUse_17 ?_
    refine lv_iconst (v := oI 1) hx hb dX0_expandUse_20 (by decide) ?_
    refine lv_iadd hx hb dX0_expandUse_21 ?_
    refine tp_i (oI_add ((F 6).toInt) 1) ?_
    refine cp_0_12 hx hb hts inX0_expandUse_X0 hown hK hP hD hS (hts _ lkX0_expandUse_f31) dX0_expandUse_22 (fun H locs hP hD hS => ?_)
    have hP : va_P (dC, dI) vwCl (CW cB cC cI cJ cZ a (va_up F 6 (oI (((F 6).toInt) + 1))) X J R gf gn) H := hP
    have hD : va_D A (CW cB cC cI cJ cZ a (va_up F 6 (oI (((F 6).toInt) + 1))) X J R gf gn) := hD
    have e_3 : (oI (((F 6).toInt) + 1)).toInt = ((F 6).toInt) + 1 := toInt_oI (by omega)
    refine lv_aload_n hx hb dX0_expandUse_25 rfl (lv_at hl 0 rfl) ?_
    refine cg_0_3 hx hb hts inX0_expandUse_X0 hown hK hP (hts _ lkX0_expandUse_f60) dX0_expandUse_26 ?_
    refine lv_iload_n hx hb dX0_expandUse_29 rfl (lv_at hl 2 rfl) ?_
    refine ccs_iV (As := [.int (oI y)]) (rest := []) ⟨hx, hb, hml, hown, hts⟩ (c_homeOf l dC dI cB cC cI cJ cZ a (va_up F 6 (oI (((F 6).toInt) + 1))) X J R gf gn y  (by omega) (show 0 ≤ (F 23).toInt ∧ (F 23).toInt ≤ 606 from by first | assumption | omega)  H.size) (cwV 1 hts kX0_expandUse_X9_homeOf_245 rfl rfl rfl (by decide +kernel) ⟨Nat.le_of_ble_eq_true rfl, Nat.le_of_ble_eq_true rfl⟩) (va_recv hK hP (ci := 9) (q0 := 9) rfl rfl) hK hNW hP hD hS hA rfl rfl hl.1 (lv_room (Nat.le_of_ble_eq_true rfl)) dX0_expandUse_30 hcs (fun r_4 hw_5 H locs hP hD hS => ?_)
    have i_6 := i32r r_4
    refine lv_istore_n (lv' := [(3, .int (oI r_4.toInt)), (0, .ref (a 0)), (1, .int (oI x)), (2, .int (oI y))]) hx hb dX0_expandUse_33 rfl hl (by decide) rfl (fun ls hl => ?_)
    refine lv_aload_n hx hb dX0_expandUse_34 rfl (lv_at hl 1 rfl) ?_
    refine cg_0_5 hx hb hts inX0_expandUse_X0 hown hK hP (hts _ lkX0_expandUse_f78) dX0_expandUse_35 ?_
    refine lv_iload_n hx hb dX0_expandUse_38 rfl (lv_at hl 2 rfl) ?_
    refine lv_aload_n hx hb dX0_expandUse_39 rfl (lv_at hl 1 rfl) ?_
    refine cg_0_3 hx hb hts inX0_expandUse_X0 hown hK hP (hts _ lkX0_expandUse_f60) dX0_expandUse_40 ?_
    refine lv_iload_n hx hb dX0_expandUse_43 rfl (lv_at hl 3 rfl) ?_
    refine ccs_iV (As := [.int (oI y)]) (rest := [.int (oI x), .ref (a 4)]) ⟨hx, hb, hml, hown, hts⟩ (c_rulesOfS l dC dI cB cC cI cJ cZ a (va_up F 6 (oI (((F 6).toInt) + 1))) X J R gf gn y  (by omega) (show 0 ≤ (F 15).toInt ∧ (F 15).toInt ≤ 2560 from by first | assumption | omega) (show VB (X 12) from by first | assumption | omega) (show 0 ≤ (F 23).toInt ∧ (F 23).toInt ≤ 606 from by first | assumption | omega) (show VB (X 22) from by first | assumption | omega)  H.size) (cwV 1 hts kX0_expandUse_X9_rulesOf_248 rfl rfl rfl (by decide +kernel) ⟨Nat.le_of_ble_eq_true rfl, Nat.le_of_ble_eq_true rfl⟩) (va_recv hK hP (ci := 9) (q0 := 9) rfl rfl) hK hNW hP hD hS hA rfl rfl hl.1 (lv_room (Nat.le_of_ble_eq_true rfl)) dX0_expandUse_44 hcs (fun r_7 hw_8 H locs hP hD hS => ?_)
    replace hw_8 : (r_7).toInt < 1073741824 := hw_8
    have hrl := hw_8
    clear hw_8
    have i_9 := i32r r_7
    refine lv_iload_n hx hb dX0_expandUse_47 rfl (lv_at hl 0 rfl) ?_
    refine ccp_iV (As := [.int (oI x), .int (oI r_7.toInt), .int (oI r_4.toInt)]) (rest := []) (gF := fun F9 => rg 17 20 (rg 14 14 (va_up F 6 (oI (((F 6).toInt) + 1))) F9) F9) (gX := fun X9 => rg 17 18 (rg 8 11 X X9) X9) ⟨hx, hb, hml, hown, hts⟩ (c_ruleFor l dC dI cB cC cI cJ cZ a (va_up F 6 (oI (((F 6).toInt) + 1))) X J R gf gn x r_7.toInt r_4.toInt D (by omega) (i32r _) (i32r _) (show gf ≤ 67600 from by first | assumption | omega) (show gn ≤ 63261 from by first | assumption | omega) (show SPR (X 1) from by first | assumption | omega) (show 0 ≤ (F 13).toInt ∧ (F 13).toInt ≤ (gn : Int) from by first | assumption | omega) (show 0 ≤ (F 23).toInt ∧ (F 23).toInt ≤ 606 from by first | assumption | omega) (show 0 ≤ (F 15).toInt ∧ (F 15).toInt ≤ 2560 from by first | assumption | omega) (show VB (X 12) from by first | assumption | omega) (show 0 ≤ (F 19).toInt ∧ (F 19).toInt ≤ 3000 ∧ 0 ≤ (F 20).toInt ∧ (F 20).toInt ≤ 3000 from by first | assumption | omega) (show 0 ≤ x ∧ x < 1000000000 ∧ r_7.toInt < 1073741824 from by first | assumption | omega) (show NST (X 1) D gf from by assumption) H.size) (cwV 3 hts kX0_expandUse_X4_ruleFor_251 rfl rfl rfl (by decide +kernel) ⟨Nat.le_of_ble_eq_true rfl, Nat.le_of_ble_eq_true rfl⟩) (va_recv hK hP (ci := 4) (q0 := 4) rfl rfl) hK hNW hP hD hS hA rfl rfl hl.1 (lv_room (Nat.le_of_ble_eq_true rfl)) dX0_expandUse_48 hcs (fun r_10 F_11 X_12 hw_13 H locs hP hD hS => ?_)
    replace hw_13 : (0 ≤ (F_11 19).toInt ∧ (F_11 19).toInt ≤ 3000 ∧ 0 ≤ (F_11 20).toInt ∧ (F_11 20).toInt ≤ 3000) ∧ (r_10).toInt < 1000000000 := hw_13
    obtain ⟨hms, hrf⟩ := hw_13
    have i_14 := i32r r_10
    refine lv_istore (lv' := [(4, .int (oI r_10.toInt)), (3, .int (oI r_4.toInt)), (0, .ref (a 0)), (1, .int (oI x)), (2, .int (oI y))]) hx hb dX0_expandUse_51 hl (by decide) rfl (fun ls hl => ?_)
    refine lv_iload hx hb dX0_expandUse_53 (lv_at hl 0 rfl) ?_
    refine lv_iconst (v := oI (-1)) hx hb dX0_expandUse_55 (by decide) ?_
    refine ci_ne (tgt := 65) hx hb (i32r _) (by decide) dX0_expandUse_56 (by decide) (fun c_15 => ?_) (fun c_15 => ?_)
    · refine lv_aload_n hx hb dX0_expandUse_65 rfl (lv_at hl 2 rfl) ?_
      refine cg_0_0 hx hb hts inX0_expandUse_X0 hown hK hP (hts _ lkX0_expandUse_f43) dX0_expandUse_66 ?_
      refine cgN_1_2 hx hb hts inX0_expandUse_X1 hown hK hP (va_Nw.use rfl hNW.2.2.1) dX0_expandUse_69 ?_
      refine tp_i (y := oI (F 12).toInt) rfl ?_
      have i_16 := i32r (F 12)
      refine lv_istore (lv' := [(5, .int (oI ((F 12).toInt))), (4, .int (oI r_10.toInt)), (3, .int (oI r_4.toInt)), (0, .ref (a 0)), (1, .int (oI x)), (2, .int (oI y))]) hx hb dX0_expandUse_72 hl (by decide) rfl (fun ls hl => ?_)
      refine lv_aload_n hx hb dX0_expandUse_74 rfl (lv_at hl 3 rfl) ?_
      refine lv_aload_n hx hb dX0_expandUse_75 rfl (lv_at hl 3 rfl) ?_
      refine cg_0_6 hx hb hts inX0_expandUse_X0 hown hK hP (hts _ lkX0_expandUse_f87) dX0_expandUse_76 ?_
      refine lv_aload_n hx hb dX0_expandUse_79 rfl (lv_at hl 3 rfl) ?_
      refine cg_0_0 hx hb hts inX0_expandUse_X0 hown hK hP (hts _ lkX0_expandUse_f43) dX0_expandUse_80 ?_
      refine lv_iload hx hb dX0_expandUse_83 (lv_at hl 1 rfl) ?_
      refine lv_iconst (v := oI 1) hx hb dX0_expandUse_85 (by decide) ?_
      refine ccs_iV (As := [.int (oI r_10.toInt), .int (oI 1)]) (rest := [.ref (a 3), .ref (a 0)]) ⟨hx, hb, hml, hown, hts⟩ (c_part1 l dC dI cB cC cI cJ cZ a (rg 17 20 (rg 14 14 (va_up F 6 (oI (((F 6).toInt) + 1))) F_11) F_11) (rg 17 18 (rg 8 11 X X_12) X_12) J R gf gn r_10.toInt  (i32r _) (show gf ≤ 67600 from by first | assumption | omega) (show SPR (X 1) from by first | assumption | omega) (show r_10.toInt < 1073741824 from by first | assumption | omega) H.size) (cwV 2 hts kX0_expandUse_X1_part_196 rfl rfl rfl (by decide +kernel) ⟨Nat.le_of_ble_eq_true rfl, Nat.le_of_ble_eq_true rfl⟩) (va_recv hK hP (ci := 1) (q0 := 1) rfl rfl) hK hNW hP hD hS hA rfl rfl hl.1 (lv_room (Nat.le_of_ble_eq_true rfl)) dX0_expandUse_86 hcs (fun r_17 hw_18 H locs hP hD hS => ?_)
      replace hw_18 : (r_17).toInt = AF (X 1) gf (r_10.toInt + 1) ∧ r_10.toInt + 1 < (r_17).toInt ∧ (r_17).toInt ≤ r_10.toInt + 67601 := hw_18
      obtain ⟨ep1, lp1, up1⟩ := hw_18
      have i_19 := i32r r_17
      refine lv_iload_n hx hb dX0_expandUse_89 rfl (lv_at hl 2 rfl) ?_
      refine W.know (fun hsz htot => ?_)
      refine ccg_iV (As := [.int (oI r_17.toInt), .int (oI r_4.toInt)]) (rest := [.ref (a 0)]) ⟨hx, hb, hml, hown, hts⟩ (c_make l dC dI cB cC cI cJ cZ a (rg 17 20 (rg 14 14 (va_up F 6 (oI (((F 6).toInt) + 1))) F_11) F_11) (rg 17 18 (rg 8 11 X X_12) X_12) J R gf gn r_17.toInt r_4.toInt D (i32r _) (i32r _) (show gf ≤ 67600 from by first | assumption | omega) (show gn ≤ 63261 from by first | assumption | omega) (show (gf = 10000 ∨ gf = 67600) ∧ (gn = 3760 ∨ gn = 63261) from by first | assumption | omega) (show 0 ≤ (F 13).toInt ∧ (F 13).toInt ≤ (gn : Int) from by first | assumption | omega) (show 0 ≤ (F_11 19).toInt ∧ (F_11 19).toInt ≤ 3000 ∧ 0 ≤ (F_11 20).toInt ∧ (F_11 20).toInt ≤ 3000 from by first | assumption | omega) (show r_17.toInt < 1073600000 from by first | assumption | omega) (show FI (X 1) D gf (F 0).toInt (F 12).toInt from by assumption) H.size (tot H)) (cwV 2 hts kX0_expandUse_X3_make_255 rfl rfl rfl (by decide +kernel) ⟨Nat.le_of_ble_eq_true rfl, Nat.le_of_ble_eq_true rfl⟩) (va_recv hK hP (ci := 3) (q0 := 3) rfl rfl) hK hNW hP hD hS hA rfl rfl hl.1 (lv_room (Nat.le_of_ble_eq_true rfl)) dX0_expandUse_90 rfl rfl hsz htot hgc (fun r_20 F_21 X_22 J_23 R_24 gf_25 gn_26 hw_27 H locs cells slots hgc hcs hP hD hS => ?_)
      replace hw_27 : (∃ D9 : Int → Nat, FI (X_22 1) D9 gf_25 (F 0).toInt (F_21 12).toInt ∧ GR (X 1) D (F 12).toInt (X_22 1) D9 (F_21 12).toInt (61)) ∧ (0 ≤ (F_21 13).toInt ∧ (F_21 13).toInt ≤ (gn_26 : Int)) ∧ gf ≤ gf_25 ∧ gn ≤ gn_26 ∧ ((gf_25 = 10000 ∨ gf_25 = 67600) ∧ (gn_26 = 3760 ∨ gn_26 = 63261)) ∧ J_23 = J ∧ (∀ k9, (k9 < 9 ∨ 13 < k9) → F_21 k9 = (rg 17 20 (rg 14 14 (va_up F 6 (oI (((F 6).toInt) + 1))) F_11) F_11) k9) ∧ (∀ k9, 2 ≤ k9 → (k9 < 14 ∨ 18 < k9) → X_22 k9 = (rg 17 18 (rg 8 11 X X_12) X_12) k9) := hw_27
      obtain ⟨⟨D2, hf2, hG⟩, hnt, hgf1, hgn1, hg2, eJ, eF, eX⟩ := hw_27
      have i_28 := i32r r_20
      have n0 : (F_21 0).toInt = (F 0).toInt := congrArg Int32.toInt (eF 0 (by omega))
      have n1 : (F_21 1).toInt = (F 1).toInt := congrArg Int32.toInt (eF 1 (by omega))
      have n2 : (F_21 2).toInt = (F 2).toInt := congrArg Int32.toInt (eF 2 (by omega))
      have n4 : (F_21 4).toInt = (F 4).toInt := congrArg Int32.toInt (eF 4 (by omega))
      have n6 : (F_21 6).toInt = (oI (((F 6).toInt) + 1)).toInt := congrArg Int32.toInt (eF 6 (by omega))
      have n8 : (F_21 8).toInt = (F 8).toInt := congrArg Int32.toInt (eF 8 (by omega))
      have n15 : (F_21 15).toInt = (F 15).toInt := congrArg Int32.toInt (eF 15 (by omega))
      have n16 : (F_21 16).toInt = (F 16).toInt := congrArg Int32.toInt (eF 16 (by omega))
      have n19 : (F_21 19).toInt = (F_11 19).toInt := congrArg Int32.toInt (eF 19 (by omega))
      have n20 : (F_21 20).toInt = (F_11 20).toInt := congrArg Int32.toInt (eF 20 (by omega))
      have n23 : (F_21 23).toInt = (F 23).toInt := congrArg Int32.toInt (eF 23 (by omega))
      have n25 : (F_21 25).toInt = (F 25).toInt := congrArg Int32.toInt (eF 25 (by omega))
      have x2 : X_22 2 = X 2 := eX 2 (by omega) (by omega)
      have x3 : X_22 3 = X 3 := eX 3 (by omega) (by omega)
      have x5 : X_22 5 = X 5 := eX 5 (by omega) (by omega)
      have x6 : X_22 6 = X 6 := eX 6 (by omega) (by omega)
      have x12 : X_22 12 = X 12 := eX 12 (by omega) (by omega)
      have x13 : X_22 13 = X 13 := eX 13 (by omega) (by omega)
      have x22 : X_22 22 = X 22 := eX 22 (by omega) (by omega)
      have h27 : F_21 27 = F 27 := eF 27 (by omega)
      have hgf9 : gf_25 ≤ 67600 := by omega
      have hgn9 : gn_26 ≤ 63261 := by omega
      have hf2 : FI (X_22 1) D2 gf_25 (F_21 0).toInt (F_21 12).toInt := by rw [n0]; exact hf2
      have hfr : FRM (X_22 1) (X_22 2) (X_22 3) (X_22 5) (F_21 1).toInt (F_21 12).toInt ee := by rw [x2, x3, x5, n1]; exact FRM_ag hfr hG.1 (GR_ag hG)
      have hpn : PND (X_22 1) (X_22 3) (X_22 5) (F_21 1).toInt (F_21 12).toInt ee := by rw [x3, x5, n1]; exact PND_ag hpn hG.1 (GR_ag hG)
      have hk0 : (CUT (X_22 1) 0 k0 ∧ 0 ≤ k0 ∧ k0 ≤ (F_21 0).toInt) := ⟨CUT_agree hk0.1 (fun p a b => (hG.2.1 p (by omega)).1), hk0.2.1, by omega⟩
      have hps : PSI (X_22 2) (X_22 3) (F_21 1).toInt.toNat = PSI (X 2) (X 3) (F 1).toInt.toNat := by rw [x2, x3, n1]
      have hru : VB (X_22 12) := by rw [x12]; exact hru
      have hva : VB (X_22 22) := by rw [x22]; exact hva
      have hv2 : VB (X_22 2) := by rw [x2]; exact hv2
      have hrb : VB (X_22 13) := by rw [x13]; exact hrb
      have hnb : NB (X_22 6) gn_26 := fun i => by rw [x6]; exact ⟨(hnb i).1, by have := (hnb i).2; omega⟩
      have hbb2 := FI_b hf2
      have hGt := hG.1
      refine cp_0_10 hx hb hts inX0_expandUse_X0 hown hK hP hD hS (hts _ lkX0_expandUse_f25) dX0_expandUse_93 (fun H locs hP hD hS => ?_)
      have hP : va_P (dC, dI) vwCl (CW cB cC cI cJ cZ a (va_up F_21 4 (oI r_20.toInt)) X_22 J_23 R_24 gf_25 gn_26) H := hP
      have hD : va_D A (CW cB cC cI cJ cZ a (va_up F_21 4 (oI r_20.toInt)) X_22 J_23 R_24 gf_25 gn_26) := hD
      refine lv_aload_n hx hb dX0_expandUse_96 rfl (lv_at hl 3 rfl) ?_
      refine cg_0_10 hx hb hts inX0_expandUse_X0 hown hK hP (hts _ lkX0_expandUse_f25) dX0_expandUse_97 ?_
      refine tp_i (y := oI r_20.toInt) (oI_toInt _) ?_
      refine cz_ne (tgt := 120) hx hb (i32r _) dX0_expandUse_100 (by decide) (fun c_29 => ?_) (fun c_29 => ?_)
      · refine W.know (fun hsz htot => ?_)
        have hend := gEnd hgc hsz htot
        refine W.widen (k := cg gf gn) (n := sg gf gn) (Nat.le_trans (Nat.le_add_right _ _) hcs.1) (Nat.le_trans (Nat.le_add_right _ _) hcs.2) ?_
        have hpost : (∃ D9 : Int → Nat, FI (X_22 1) D9 gf_25 (F_21 0).toInt (F_21 12).toInt ∧ FRM (X_22 1) (X_22 2) (X_22 3) (X_22 5) (F_21 1).toInt (F_21 12).toInt ee ∧ (CUT (X_22 1) 0 k0 ∧ 0 ≤ k0 ∧ k0 ≤ (F_21 0).toInt)) ∧ (gf_25 ≤ 67600) ∧ (gn_26 ≤ 63261) ∧ ((gf_25 = 10000 ∨ gf_25 = 67600) ∧ (gn_26 = 3760 ∨ gn_26 = 63261)) ∧ (0 ≤ (F_21 13).toInt ∧ (F_21 13).toInt ≤ (gn_26 : Int)) ∧ (0 ≤ (F_21 15).toInt ∧ (F_21 15).toInt ≤ 2560) ∧ (0 ≤ (F_21 23).toInt ∧ (F_21 23).toInt ≤ 606) ∧ (0 ≤ (F_21 19).toInt ∧ (F_21 19).toInt ≤ 3000 ∧ 0 ≤ (F_21 20).toInt ∧ (F_21 20).toInt ≤ 3000) ∧ (VB (X_22 12)) ∧ (VB (X_22 22)) ∧ (0 ≤ (F_21 1).toInt ∧ (F_21 1).toInt ≤ 101) ∧ (NB (X_22 6) gn_26) ∧ (VB (X_22 2)) ∧ (0 ≤ (F_21 16).toInt ∧ (F_21 16).toInt ≤ 2560) ∧ (VB (X_22 13)) ∧ ((4000 ≤ (F_21 2).toInt ∧ (F_21 2).toInt ≤ ee) ∧ (0 ≤ (F_21 8).toInt ∧ (F_21 8).toInt ≤ (F_21 25).toInt) ∧ (0 ≤ (F_21 6).toInt ∧ (F_21 6).toInt ≤ 100) ∧ (F_21 25).toInt + 40 * (((PSI (X_22 2) (X_22 3) (F_21 1).toInt.toNat : Nat) : Int) + ((ee - (F_21 2).toInt).toNat : Int) + 67600 * (100 - (F_21 6).toInt) + 0) + (F_21 1).toInt ≤ K) ∧ F_21 27 = F 27 := ⟨⟨D2, hf2, hfr, hk0⟩, by omega, by omega, by omega, by omega, by omega, by omega, by omega, hru, hva, by omega, hnb, hv2, by omega, hrb, by omega, h27⟩
        exact W.vret hx hb hr (fun t ht hW => ⟨⟨(va_up F_21 4 (oI r_20.toInt), X_22, J_23, R_24, gf_25, gn_26), rfl, hpost, ⟨by rw [ht]; exact hP, va_K.moved hW.alike hK, hD⟩, by rw [ht]; exact hend.1, by rw [ht]; exact hend.2.1, hend.2.2⟩, hS.F ht⟩) hS.2.2 dX0_expandUse_120
      · refine lv_aload_n hx hb dX0_expandUse_103 rfl (lv_at hl 3 rfl) ?_
        refine cg_0_7 hx hb hts inX0_expandUse_X0 hown hK hP (hts _ lkX0_expandUse_f12) dX0_expandUse_104 ?_
        refine lv_iload hx hb dX0_expandUse_107 (lv_at hl 0 rfl) ?_
        refine lv_aload_n hx hb dX0_expandUse_109 rfl (lv_at hl 3 rfl) ?_
        refine cg_0_0 hx hb hts inX0_expandUse_X0 hown hK hP (hts _ lkX0_expandUse_f43) dX0_expandUse_110 ?_
        refine cgN_1_2 hx hb hts inX0_expandUse_X1 hown hK hP (va_Nw.use rfl hNW.2.2.1) dX0_expandUse_113 ?_
        refine tp_i (y := oI (F_21 12).toInt) rfl ?_
        have i_30 := i32r (F_21 12)
        refine lv_iconst (v := oI 0) hx hb dX0_expandUse_116 (by decide) ?_
        refine ccp_vV (As := [.int (oI ((F 12).toInt)), .int (oI ((F_21 12).toInt)), .int (oI 0)]) (rest := []) (gF := fun F9 => rg 1 1 (va_up F_21 4 (oI r_20.toInt)) F9) (gX := fun X9 => rg 2 4 X_22 X9) ⟨hx, hb, hml, hown, hts⟩ (c_enter l dC dI cB cC cI cJ cZ a (va_up F_21 4 (oI r_20.toInt)) X_22 J_23 R_24 gf_25 gn_26 ((F 12).toInt) ((F_21 12).toInt) 0  (i32r _) (i32r _) (by decide) (show 0 ≤ (F_21 1).toInt ∧ (F_21 1).toInt ≤ 101 from by first | assumption | omega)  H.size) (cwV 3 hts kX0_expandUse_X2_enter_216 rfl rfl rfl (by decide +kernel) ⟨Nat.le_of_ble_eq_true rfl, Nat.le_of_ble_eq_true rfl⟩) (va_recv hK hP (ci := 2) (q0 := 2) rfl rfl) hK hNW hP hD hS hA rfl rfl hl.1 (lv_room (Nat.le_of_ble_eq_true rfl)) dX0_expandUse_117 hcs (fun F_31 X_32 hw_33 H locs hP hD hS => ?_)
        replace hw_33 : ((F_21 1).toInt < 101 ∧ (F_31 1).toInt = (F_21 1).toInt + 1 ∧ X_32 2 = upd (X_22 2) (F_21 1).toInt.toNat (oI ((F 12).toInt)) ∧ X_32 3 = upd (X_22 3) (F_21 1).toInt.toNat (oI ((F_21 12).toInt))) ∨ ((F_21 1).toInt = 101 ∧ (F_31 1).toInt = (F_21 1).toInt ∧ X_32 2 = (X_22 2) ∧ X_32 3 = (X_22 3)) := hw_33
        have hen := hw_33
        clear hw_33
        have hcut : CUT (X_22 1) ((F 12).toInt) ((F_21 12).toInt) := fun p a b => hf2.2.2.2.2.2 p (by omega) b
        have hv2 : VB (X_32 2) := hen.elim (fun h => by rw [h.2.2.1]; exact VB_upd hv2 (by omega)) (fun h => by rw [h.2.2.1]; exact hv2)
        have hft0 : 0 ≤ (F_21 1).toInt ∧ (F_21 1).toInt ≤ 101 := by omega
        obtain ⟨hfr, hph, hn1, hn2, hn3⟩ := FRM_en hfr hpn hft0 hen (by omega) (by omega) hcut
        clear hen
        refine W.know (fun hsz htot => ?_)
        have hend := gEnd hgc hsz htot
        refine W.widen (k := cg gf gn) (n := sg gf gn) (Nat.le_trans (Nat.le_add_right _ _) hcs.1) (Nat.le_trans (Nat.le_add_right _ _) hcs.2) ?_
        have hpost : (∃ D9 : Int → Nat, FI (X_22 1) D9 gf_25 (F_21 0).toInt (F_21 12).toInt ∧ FRM (X_22 1) (X_32 2) (X_32 3) (X_22 5) (F_31 1).toInt (F_21 12).toInt ee ∧ (CUT (X_22 1) 0 k0 ∧ 0 ≤ k0 ∧ k0 ≤ (F_21 0).toInt)) ∧ (gf_25 ≤ 67600) ∧ (gn_26 ≤ 63261) ∧ ((gf_25 = 10000 ∨ gf_25 = 67600) ∧ (gn_26 = 3760 ∨ gn_26 = 63261)) ∧ (0 ≤ (F_21 13).toInt ∧ (F_21 13).toInt ≤ (gn_26 : Int)) ∧ (0 ≤ (F_21 15).toInt ∧ (F_21 15).toInt ≤ 2560) ∧ (0 ≤ (F_21 23).toInt ∧ (F_21 23).toInt ≤ 606) ∧ (0 ≤ (F_21 19).toInt ∧ (F_21 19).toInt ≤ 3000 ∧ 0 ≤ (F_21 20).toInt ∧ (F_21 20).toInt ≤ 3000) ∧ (VB (X_22 12)) ∧ (VB (X_22 22)) ∧ (0 ≤ (F_31 1).toInt ∧ (F_31 1).toInt ≤ 101) ∧ (NB (X_22 6) gn_26) ∧ (VB (X_32 2)) ∧ (0 ≤ (F_21 16).toInt ∧ (F_21 16).toInt ≤ 2560) ∧ (VB (X_22 13)) ∧ ((4000 ≤ (F_21 2).toInt ∧ (F_21 2).toInt ≤ ee) ∧ (0 ≤ (F_21 8).toInt ∧ (F_21 8).toInt ≤ (F_21 25).toInt) ∧ (0 ≤ (F_21 6).toInt ∧ (F_21 6).toInt ≤ 100) ∧ (F_21 25).toInt + 40 * (((PSI (X_32 2) (X_32 3) (F_31 1).toInt.toNat : Nat) : Int) + ((ee - (F_21 2).toInt).toNat : Int) + 67600 * (100 - (F_21 6).toInt) + 0) + (F_31 1).toInt ≤ K) ∧ F_21 27 = F 27 := ⟨⟨D2, hf2, hfr, hk0⟩, by omega, by omega, by omega, by omega, by omega, by omega, by omega, hru, hva, by omega, hnb, hv2, by omega, hrb, by omega, h27⟩
        exact W.vret hx hb hr (fun t ht hW => ⟨⟨(rg 1 1 (va_up F_21 4 (oI r_20.toInt)) F_31, rg 2 4 X_22 X_32, J_23, R_24, gf_25, gn_26), rfl, hpost, ⟨by rw [ht]; exact hP, va_K.moved hW.alike hK, hD⟩, by rw [ht]; exact hend.1, by rw [ht]; exact hend.2.1, hend.2.2⟩, hS.F ht⟩) hS.2.2 dX0_expandUse_120
    · refine lv_aload_n hx hb dX0_expandUse_59 rfl (lv_at hl 2 rfl) ?_
      refine lv_iconst (v := oI 5) hx hb dX0_expandUse_60 (by decide) ?_
      refine cp_0_10 hx hb hts inX0_expandUse_X0 hown hK hP hD hS (hts _ lkX0_expandUse_f25) dX0_expandUse_61 (fun H locs hP hD hS => ?_)
      have hP : va_P (dC, dI) vwCl (CW cB cC cI cJ cZ a (va_up (rg 17 20 (rg 14 14 (va_up F 6 (oI (((F 6).toInt) + 1))) F_11) F_11) 4 (oI 5)) (rg 17 18 (rg 8 11 X X_12) X_12) J R gf gn) H := hP
      have hD : va_D A (CW cB cC cI cJ cZ a (va_up (rg 17 20 (rg 14 14 (va_up F 6 (oI (((F 6).toInt) + 1))) F_11) F_11) 4 (oI 5)) (rg 17 18 (rg 8 11 X X_12) X_12) J R gf gn) := hD
      refine W.know (fun hsz htot => ?_)
      have hend := gEnd hgc hsz htot
      refine W.widen (k := cg gf gn) (n := sg gf gn) (Nat.le_trans (Nat.le_add_right _ _) hcs.1) (Nat.le_trans (Nat.le_add_right _ _) hcs.2) ?_
      have hpost : (∃ D9 : Int → Nat, FI (X 1) D9 gf (F 0).toInt (F 12).toInt ∧ FRM (X 1) (X 2) (X 3) (X 5) (F 1).toInt (F 12).toInt ee ∧ (CUT (X 1) 0 k0 ∧ 0 ≤ k0 ∧ k0 ≤ (F 0).toInt)) ∧ (gf ≤ 67600) ∧ (gn ≤ 63261) ∧ ((gf = 10000 ∨ gf = 67600) ∧ (gn = 3760 ∨ gn = 63261)) ∧ (0 ≤ (F 13).toInt ∧ (F 13).toInt ≤ (gn : Int)) ∧ (0 ≤ (F 15).toInt ∧ (F 15).toInt ≤ 2560) ∧ (0 ≤ (F 23).toInt ∧ (F 23).toInt ≤ 606) ∧ (0 ≤ (F_11 19).toInt ∧ (F_11 19).toInt ≤ 3000 ∧ 0 ≤ (F_11 20).toInt ∧ (F_11 20).toInt ≤ 3000) ∧ (VB (X 12)) ∧ (VB (X 22)) ∧ (0 ≤ (F 1).toInt ∧ (F 1).toInt ≤ 101) ∧ (NB (X 6) gn) ∧ (VB (X 2)) ∧ (0 ≤ (F 16).toInt ∧ (F 16).toInt ≤ 2560) ∧ (VB (X 13)) ∧ ((4000 ≤ (F 2).toInt ∧ (F 2).toInt ≤ ee) ∧ (0 ≤ (F 8).toInt ∧ (F 8).toInt ≤ (F 25).toInt) ∧ (0 ≤ (oI (((F 6).toInt) + 1)).toInt ∧ (oI (((F 6).toInt) + 1)).toInt ≤ 100) ∧ (F 25).toInt + 40 * (((PSI (X 2) (X 3) (F 1).toInt.toNat : Nat) : Int) + ((ee - (F 2).toInt).toNat : Int) + 67600 * (100 - (oI (((F 6).toInt) + 1)).toInt) + 0) + (F 1).toInt ≤ K) ∧ F 27 = F 27 := ⟨⟨D, hfi, hfr, hk0⟩, by omega, by omega, by omega, by omega, by omega, by omega, by omega, hru, hva, by omega, hnb, hv2, by omega, hrb, by omega, rfl⟩
      exact W.vret hx hb hr (fun t ht hW => ⟨⟨(va_up (rg 17 20 (rg 14 14 (va_up F 6 (oI (((F 6).toInt) + 1))) F_11) F_11) 4 (oI 5), rg 17 18 (rg 8 11 X X_12) X_12, J, R, gf, gn), rfl, hpost, ⟨by rw [ht]; exact hP, va_K.moved hW.alike hK, hD⟩, by rw [ht]; exact hend.1, by rw [ht]; exact hend.2.1, hend.2.2⟩, hS.F ht⟩) hS.2.2 dX0_expandUse_64
  · refine lv_aload_n hx hb dX0_expandUse_9 rfl (lv_at hl 0 rfl) ?_
    refine lv_iconst (v := oI 2) hx hb dX0_expandUse_10 (by decide) ?_
    refine cp_0_10 hx hb hts inX0_expandUse_X0 hown hK hP hD hS (hts _ lkX0_expandUse_f25) dX0_expandUse_11 (fun H locs hP hD hS => ?_)
    have hP : va_P (dC, dI) vwCl (CW cB cC cI cJ cZ a (va_up F 4 (oI 2)) X J R gf gn) H := hP
    have hD : va_D A (CW cB cC cI cJ cZ a (va_up F 4 (oI 2)) X J R gf gn) := hD
    refine W.know (fun hsz htot => ?_)
    have hend := gEnd hgc hsz htot
    refine W.widen (k := cg gf gn) (n := sg gf gn) (Nat.le_trans (Nat.le_add_right _ _) hcs.1) (Nat.le_trans (Nat.le_add_right _ _) hcs.2) ?_
    have hpost : (∃ D9 : Int → Nat, FI (X 1) D9 gf (F 0).toInt (F 12).toInt ∧ FRM (X 1) (X 2) (X 3) (X 5) (F 1).toInt (F 12).toInt ee ∧ (CUT (X 1) 0 k0 ∧ 0 ≤ k0 ∧ k0 ≤ (F 0).toInt)) ∧ (gf ≤ 67600) ∧ (gn ≤ 63261) ∧ ((gf = 10000 ∨ gf = 67600) ∧ (gn = 3760 ∨ gn = 63261)) ∧ (0 ≤ (F 13).toInt ∧ (F 13).toInt ≤ (gn : Int)) ∧ (0 ≤ (F 15).toInt ∧ (F 15).toInt ≤ 2560) ∧ (0 ≤ (F 23).toInt ∧ (F 23).toInt ≤ 606) ∧ (0 ≤ (F 19).toInt ∧ (F 19).toInt ≤ 3000 ∧ 0 ≤ (F 20).toInt ∧ (F 20).toInt ≤ 3000) ∧ (VB (X 12)) ∧ (VB (X 22)) ∧ (0 ≤ (F 1).toInt ∧ (F 1).toInt ≤ 101) ∧ (NB (X 6) gn) ∧ (VB (X 2)) ∧ (0 ≤ (F 16).toInt ∧ (F 16).toInt ≤ 2560) ∧ (VB (X 13)) ∧ ((4000 ≤ (F 2).toInt ∧ (F 2).toInt ≤ ee) ∧ (0 ≤ (F 8).toInt ∧ (F 8).toInt ≤ (F 25).toInt) ∧ (0 ≤ (F 6).toInt ∧ (F 6).toInt ≤ 100) ∧ (F 25).toInt + 40 * (((PSI (X 2) (X 3) (F 1).toInt.toNat : Nat) : Int) + ((ee - (F 2).toInt).toNat : Int) + 67600 * (100 - (F 6).toInt) + 0) + (F 1).toInt ≤ K) ∧ F 27 = F 27 := ⟨⟨D, hfi, hfr, hk0⟩, by omega, by omega, by omega, by omega, by omega, by omega, by omega, hru, hva, by omega, hnb, hv2, by omega, hrb, by omega, rfl⟩
    exact W.vret hx hb hr (fun t ht hW => ⟨⟨(va_up F 4 (oI 2), X, J, R, gf, gn), rfl, hpost, ⟨by rw [ht]; exact hP, va_K.moved hW.alike hK, hD⟩, by rw [ht]; exact hend.1, by rw [ht]; exact hend.2.1, hend.2.2⟩, hS.F ht⟩) hS.2.2 dX0_expandUse_14
