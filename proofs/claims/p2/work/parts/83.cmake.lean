def oX3_make : List Cond := [Cond.methodLink RX3 34 yX3_isEven, Cond.instanceMethod yX3_isEven, Cond.selects RX3 yX3_isEven yX3_isEven, Cond.initialized RX3, Cond.fieldLink RX3 22 "MacroScopes$Maker" "forms" "LMacroScopes$Forms;", Cond.methodLink RX3 38 yX1_makeRoom, Cond.instanceMethod yX1_makeRoom, Cond.selects RX1 yX1_makeRoom yX1_makeRoom, Cond.initialized RX1, Cond.fieldLink RX3 26 "MacroScopes$Maker" "names" "LMacroScopes$Names;", Cond.methodLink RX3 43 yX6_makeRoom, Cond.instanceMethod yX6_makeRoom, Cond.selects RX6 yX6_makeRoom yX6_makeRoom, Cond.initialized RX6, Cond.fieldLink RX3 9 "MacroScopes$Maker" "home" "I", Cond.fieldLink RX3 15 "MacroScopes$Maker" "start" "I", Cond.fieldLink RX3 18 "MacroScopes$Maker" "tooMuch" "Z", Cond.methodLink RX3 49 yX3_build, Cond.instanceMethod yX3_build, Cond.selects RX3 yX3_build yX3_build]
def vX3_make : List Cond := .code yX3_make cX3_make 3 (some .int) :: (oX3_make ++ (vX3_isEven ++ (vX1_makeRoom ++ (vX6_makeRoom ++ (vX3_build ++ (wsX30 ++ (wsX10)))))))
theorem lkX3_make_f22 : Cond.fieldLink RX3 22 "MacroScopes$Maker" "forms" "LMacroScopes$Forms;" ∈ vX3_make := List.mem_cons_of_mem _ (List.mem_append_left _ (List.mem_of_getElem? (i := 4) rfl))
theorem lkX3_make_f26 : Cond.fieldLink RX3 26 "MacroScopes$Maker" "names" "LMacroScopes$Names;" ∈ vX3_make := List.mem_cons_of_mem _ (List.mem_append_left _ (List.mem_of_getElem? (i := 9) rfl))
theorem lkX3_make_f9 : Cond.fieldLink RX3 9 "MacroScopes$Maker" "home" "I" ∈ vX3_make := List.mem_cons_of_mem _ (List.mem_append_left _ (List.mem_of_getElem? (i := 14) rfl))
theorem lkX3_make_f15 : Cond.fieldLink RX3 15 "MacroScopes$Maker" "start" "I" ∈ vX3_make := List.mem_cons_of_mem _ (List.mem_append_left _ (List.mem_of_getElem? (i := 15) rfl))
theorem lkX3_make_f18 : Cond.fieldLink RX3 18 "MacroScopes$Maker" "tooMuch" "Z" ∈ vX3_make := List.mem_cons_of_mem _ (List.mem_append_left _ (List.mem_of_getElem? (i := 16) rfl))
theorem inX3_make_X3 : ∀ w ∈ wsX30, w ∈ vX3_make := fun w h => List.mem_cons_of_mem _ (List.mem_append_right _ (List.mem_append_right _ (List.mem_append_right _ (List.mem_append_right _ (List.mem_append_right _ (List.mem_append_left _ (h)))))))
theorem inX3_make_X1 : ∀ w ∈ wsX10, w ∈ vX3_make := fun w h => List.mem_cons_of_mem _ (List.mem_append_right _ (List.mem_append_right _ (List.mem_append_right _ (List.mem_append_right _ (List.mem_append_right _ (List.mem_append_right _ (h)))))))
theorem kX3_make_X3_isEven_34 : GoodIn vX3_make (wsV RX3 34 RX3 yX3_isEven vX3_isEven) := goodIn_sub (fun w h => (List.mem_append.mp h).elim (fun h => List.mem_cons_of_mem _ (List.mem_append_left _ ((by decide +kernel : ∀ w ∈ ([.methodLink RX3 34 yX3_isEven, .instanceMethod yX3_isEven, .selects RX3 yX3_isEven yX3_isEven, .initialized RX3] : List Cond), w ∈ oX3_make) w h))) (fun h => List.mem_cons_of_mem _ (List.mem_append_right _ (List.mem_append_left _ (h))))) (by decide +kernel)
theorem kX3_make_X1_makeRoom_38 : GoodIn vX3_make (wsV RX3 38 RX1 yX1_makeRoom vX1_makeRoom) := goodIn_sub (fun w h => (List.mem_append.mp h).elim (fun h => List.mem_cons_of_mem _ (List.mem_append_left _ ((by decide +kernel : ∀ w ∈ ([.methodLink RX3 38 yX1_makeRoom, .instanceMethod yX1_makeRoom, .selects RX1 yX1_makeRoom yX1_makeRoom, .initialized RX1] : List Cond), w ∈ oX3_make) w h))) (fun h => List.mem_cons_of_mem _ (List.mem_append_right _ (List.mem_append_right _ (List.mem_append_left _ (h)))))) (by decide +kernel)
theorem kX3_make_X6_makeRoom_43 : GoodIn vX3_make (wsV RX3 43 RX6 yX6_makeRoom vX6_makeRoom) := goodIn_sub (fun w h => (List.mem_append.mp h).elim (fun h => List.mem_cons_of_mem _ (List.mem_append_left _ ((by decide +kernel : ∀ w ∈ ([.methodLink RX3 43 yX6_makeRoom, .instanceMethod yX6_makeRoom, .selects RX6 yX6_makeRoom yX6_makeRoom, .initialized RX6] : List Cond), w ∈ oX3_make) w h))) (fun h => List.mem_cons_of_mem _ (List.mem_append_right _ (List.mem_append_right _ (List.mem_append_right _ (List.mem_append_left _ (h))))))) (by decide +kernel)
theorem kX3_make_X3_build_49 : GoodIn vX3_make (wsV RX3 49 RX3 yX3_build vX3_build) := goodIn_sub (fun w h => (List.mem_append.mp h).elim (fun h => List.mem_cons_of_mem _ (List.mem_append_left _ ((by decide +kernel : ∀ w ∈ ([.methodLink RX3 49 yX3_build, .instanceMethod yX3_build, .selects RX3 yX3_build yX3_build, .initialized RX3] : List Cond), w ∈ oX3_make) w h))) (fun h => List.mem_cons_of_mem _ (List.mem_append_right _ (List.mem_append_right _ (List.mem_append_right _ (List.mem_append_right _ (List.mem_append_left _ (h)))))))) (by decide +kernel)
set_option maxHeartbeats 4000000 in
set_option maxRecDepth 100000 in
theorem c_make (l : Launch) (dC : Nat → ClassId) (dI : Nat → Nat → Nat) (cB cC cI cJ cZ : ClassId) (a : Nat → Nat) (F : Nat → Int32) (X : Nat → Nat → Int32) (J : Nat → Nat → Int64) (R : Nat → Nat) (gf gn : Nat) (x y : Int) (D : Int → Nat) (ix : (-2147483648 ≤ x ∧ x < 2147483648)) (iy : (-2147483648 ≤ y ∧ y < 2147483648)) (hgf : gf ≤ 67600) (hgn : gn ≤ 63261) (hg2 : (gf = 10000 ∨ gf = 67600) ∧ (gn = 3760 ∨ gn = 63261)) (hnt : 0 ≤ (F 13).toInt ∧ (F 13).toInt ≤ (gn : Int)) (hms : 0 ≤ (F 19).toInt ∧ (F 19).toInt ≤ 3000 ∧ 0 ≤ (F 20).toInt ∧ (F 20).toInt ≤ 3000) (hx2 : x < 1073600000) (hfi : FI (X 1) D gf (F 0).toInt (F 12).toInt) (s0 n0 : Nat) : Met l yX3_make vX3_make { frames := 193, cells := cg gf gn, slots := sg gf gn, locals := 5779 } (va_Pc [.ref (a 3), .int (oI x), .int (oI y)] (gPre dC dI cB cC cI cJ cZ a F X J R gf gn s0 n0)) (va_Qi (fun (r : Int32) (u : (Nat → Int32) × (Nat → Nat → Int32) × (Nat → Nat → Int64) × (Nat → Nat) × Nat × Nat) => match u with | (F1, X1, J1, R1, gf1, gn1) => (∃ D9 : Int → Nat, FI (X1 1) D9 gf1 (F 0).toInt (F1 12).toInt ∧ GR (X 1) D (F 12).toInt (X1 1) D9 (F1 12).toInt (61)) ∧ (0 ≤ (F1 13).toInt ∧ (F1 13).toInt ≤ (gn1 : Int)) ∧ gf ≤ gf1 ∧ gn ≤ gn1 ∧ ((gf1 = 10000 ∨ gf1 = 67600) ∧ (gn1 = 3760 ∨ gn1 = 63261)) ∧ J1 = J ∧ (∀ k9, (k9 < 9 ∨ 13 < k9) → F1 k9 = F k9) ∧ (∀ k9, 2 ≤ k9 → (k9 < 14 ∨ 18 < k9) → X1 k9 = X k9)) (fun u => gPost dC dI cB cC cI cJ cZ a u.1 u.2.1 u.2.2.1 u.2.2.2.1 u.2.2.2.2.1 u.2.2.2.2.2 (s0 + cg gf gn) (n0 + sg gf gn) (cg gf gn) (sg gf gn) (va_A (CW cB cC cI cJ cZ a F X J R gf gn) s0)) (va_A (CW cB cC cI cJ cZ a F X J R gf gn) s0)) (cg gf gn) (sg gf gn) (va_A (CW cB cC cI cJ cZ a F X J R gf gn) s0) := by
  refine Met.ofW (cc := cX3_make) (maxL := 3) (ret := (some .int)) (by decide) rfl ?_
  intro p e s m args below meth c s₁ B9 hml hv
  obtain ⟨rfl, ⟨hsz0, hP, hK, hD0, hNW⟩, htot0⟩ := hv
  have hx := B9.exec
  have hb := B9.bytes
  have hr := B9.returns
  have hts := atoms_spec (ws := vX3_make) B9.pre
  have hown : s.vm.findClass RX3 = some m.cls := findClass_of_methodNamed B9.named
  have hlocks := B9.notSynchronized
  clear B9
  subst hsz0
  subst htot0
  have hD := hD0.self (sz := s.heap.size)
  generalize hAe : va_A (CW cB cC cI cJ cZ a F X J R gf gn) s.heap.size = A at hD ⊢
  have hA : ∀ q : Nat, s.heap.size ≤ q → A q := fun q h => by rw [← hAe]; exact Or.inr h
  have hS : va_S A s.heap s.heap [] := va_S.rf
  have hcs : 0 + 0 ≤ cg gf gn ∧ 0 + 0 ≤ sg gf gn := ⟨Nat.zero_le _, Nat.zero_le _⟩
  have hl := lv_entry ([.ref (a 3), .int (oI x), .int (oI y)]) (n := 3) (Nat.le_of_ble_eq_true rfl)
  rw [lg_entry_eq]
  generalize (lg_sl ([.ref (a 3), .int (oI x), .int (oI y)]) ++ List.replicate (3 - (lg_sl ([.ref (a 3), .int (oI x), .int (oI y)])).length) Slot.unset).toArray = ls at hl ⊢
  have hl : lv_has ls 3 [(0, .ref (a 3)), (1, .int (oI x)), (2, .int (oI y))] := hl
  have hgc : gC gf gn gf gn 0 0 := gC.rf
  have hsp := FI_sp hfi
  have hbb := FI_b hfi
  refine lv_aload_n hx hb dX3_make_0 rfl (lv_at hl 0 rfl) ?_
  refine lv_iload_n hx hb dX3_make_1 rfl (lv_at hl 1 rfl) ?_
  refine ccs_iV (As := [.int (oI x)]) (rest := []) ⟨hx, hb, hml, hown, hts⟩ (c_isEven l dC dI cB cC cI cJ cZ a F X J R gf gn x  (by omega) (show gf ≤ 67600 from by first | assumption | omega) (show gn ≤ 63261 from by first | assumption | omega) (show SPR (X 1) from by first | assumption | omega) (show 0 ≤ (F 13).toInt ∧ (F 13).toInt ≤ (gn : Int) from by first | assumption | omega) (show 0 ≤ (F 19).toInt ∧ (F 19).toInt ≤ 3000 ∧ 0 ≤ (F 20).toInt ∧ (F 20).toInt ≤ 3000 from by first | assumption | omega) (show x < 1073600000 from by first | assumption | omega) s.heap.size) (cwV 1 hts kX3_make_X3_isEven_34 rfl rfl rfl (by decide +kernel) ⟨Nat.le_of_ble_eq_true rfl, Nat.le_of_ble_eq_true rfl⟩) (va_recv hK hP (ci := 3) (q0 := 3) rfl rfl) hK hNW hP hD hS hA rfl rfl hl.1 (lv_room (Nat.le_of_ble_eq_true rfl)) dX3_make_2 hcs (fun r_1 hw_2 H locs hP hD hS => ?_)
  have hw_2 : (r_1).toInt = 0 ∨ (r_1).toInt = 1 := hw_2
  have hz := hw_2
  have i_3 := i32r r_1
  refine cz_ne (tgt := 11) hx hb (i32r _) dX3_make_5 (by decide) (fun c_4 => ?_) (fun c_4 => ?_)
  · refine lv_aload_n hx hb dX3_make_11 rfl (lv_at hl 0 rfl) ?_
    refine cg_3_0 hx hb hts inX3_make_X3 hown hK hP (hts _ lkX3_make_f22) dX3_make_12 ?_
    refine W.know (fun hsz htot => ?_)
    refine ccg_vV (As := []) (rest := []) ⟨hx, hb, hml, hown, hts⟩ (c_makeRoomF l dC dI cB cC cI cJ cZ a F X J R gf gn    (show gf ≤ 67600 from by first | assumption | omega) (show (gf = 10000 ∨ gf = 67600) ∧ (gn = 3760 ∨ gn = 63261) from by first | assumption | omega) (show 0 ≤ (F 12).toInt ∧ (F 12).toInt ≤ (gf : Int) from by first | assumption | omega)  H.size (tot H)) (cwV 0 hts kX3_make_X1_makeRoom_38 rfl rfl rfl (by decide +kernel) ⟨Nat.le_of_ble_eq_true rfl, Nat.le_of_ble_eq_true rfl⟩) (va_recv hK hP (ci := 1) (q0 := 1) rfl rfl) hK hNW hP hD hS hA rfl rfl hl.1 (lv_room (Nat.le_of_ble_eq_true rfl)) dX3_make_15 rfl rfl hsz htot hgc (fun F_5 X_6 J_7 R_8 gf_9 gn_10 hw_11 H locs cells slots hgc hcs hP hD hS => ?_)
    have hw_11 : F_5 = F ∧ J_7 = J ∧ gn_10 = gn ∧ (∀ k9, 2 ≤ k9 → X_6 k9 = X k9) ∧ ((gf_9 = gf ∧ X_6 1 = (X 1)) ∨ (gf_9 = 67600 ∧ gf = 10000 ∧ X_6 1 = va_cpy (X 1) (fun _ => 0) 0 0 gf)) := hw_11
    obtain ⟨e1, e2, e3, e4, e5⟩ := hw_11
    rw [e1, e2, e3] at hP hD
    rw [e3] at hgc
    have hgf : gf_9 ≤ 67600 := by rcases e5 with ⟨g1, _⟩ | ⟨g1, _⟩ <;> omega
    have hgf1 : gf ≤ gf_9 := by rcases e5 with ⟨g1, _⟩ | ⟨g1, _⟩ <;> omega
    have hg2 : (gf_9 = 10000 ∨ gf_9 = 67600) ∧ (gn = 3760 ∨ gn = 63261) := by rcases e5 with ⟨g1, _⟩ | ⟨g1, _⟩ <;> omega
    have hfi : FI (X_6 1) D gf_9 (F 0).toInt (F 12).toInt := e5.elim (fun g => by rw [g.1, g.2]; exact hfi) (fun g => by rw [g.1, g.2.2]; exact FI_room hfi (by omega))
    have hbb := FI_b hfi
    have hGr : GR (X 1) D (F 12).toInt (X_6 1) D (F 12).toInt (61) := ⟨Int.le_refl _, fun p hp => ⟨e5.elim (fun g => by rw [g.2]) (fun g => by rw [g.2.2]; unfold va_cpy; rw [if_pos (by omega)]; congr 1; omega), rfl⟩, fun q a b => by omega⟩
    refine lv_aload_n hx hb dX3_make_18 rfl (lv_at hl 0 rfl) ?_
    refine cg_3_1 hx hb hts inX3_make_X3 hown hK hP (hts _ lkX3_make_f26) dX3_make_19 ?_
    refine W.know (fun hsz htot => ?_)
    refine ccg_vV (As := []) (rest := []) ⟨hx, hb, hml, hown, hts⟩ (c_makeRoomN l dC dI cB cC cI cJ cZ a F X_6 J R_8 gf_9 gn    (show gn ≤ 63261 from by first | assumption | omega) (show (gf_9 = 10000 ∨ gf_9 = 67600) ∧ (gn = 3760 ∨ gn = 63261) from by first | assumption | omega) (show 0 ≤ (F 13).toInt ∧ (F 13).toInt ≤ (gn : Int) from by first | assumption | omega)  H.size (tot H)) (cwV 0 hts kX3_make_X6_makeRoom_43 rfl rfl rfl (by decide +kernel) ⟨Nat.le_of_ble_eq_true rfl, Nat.le_of_ble_eq_true rfl⟩) (va_recv hK hP (ci := 6) (q0 := 6) rfl rfl) hK hNW hP hD hS hA rfl rfl hl.1 (lv_room (Nat.le_of_ble_eq_true rfl)) dX3_make_22 rfl rfl hsz htot hgc (fun F_12 X_13 J_14 R_15 gf_16 gn_17 hw_18 H locs cells slots hgc hcs hP hD hS => ?_)
    have hw_18 : F_12 = F ∧ J_14 = J ∧ gf_16 = gf_9 ∧ (∀ k9, (k9 < 14 ∨ 18 < k9) → X_13 k9 = X_6 k9) ∧ (gn_17 = gn ∨ (gn_17 = 63261 ∧ gn = 3760)) := hw_18
    obtain ⟨d1, d2, d3, d4, d5⟩ := hw_18
    rw [d1, d2, d3] at hP hD
    rw [d3] at hgc
    have hgn : gn_17 ≤ 63261 := by omega
    have hgn1 : gn ≤ gn_17 := by omega
    have hg2 : (gf_9 = 10000 ∨ gf_9 = 67600) ∧ (gn_17 = 3760 ∨ gn_17 = 63261) := by omega
    have hnt : 0 ≤ (F 13).toInt ∧ (F 13).toInt ≤ (gn_17 : Int) := by omega
    have d6 := d4 1 (Or.inl (by decide))
    have hfi : FI (X_13 1) D gf_9 (F 0).toInt (F 12).toInt := by rw [d6]; exact hfi
    have hGr : GR (X 1) D (F 12).toInt (X_13 1) D (F 12).toInt (61) := by rw [d6]; exact hGr
    refine lv_aload_n hx hb dX3_make_25 rfl (lv_at hl 0 rfl) ?_
    refine lv_iload_n hx hb dX3_make_26 rfl (lv_at hl 2 rfl) ?_
    refine cp_3_3 hx hb hts inX3_make_X3 hown hK hP hD hS (hts _ lkX3_make_f9) dX3_make_27 (fun H locs hP hD hS => ?_)
    have hP : va_P (dC, dI) vwCl (CW cB cC cI cJ cZ a (va_up F 9 (oI y)) X_13 J R_15 gf_9 gn_17) H := hP
    have hD : va_D A (CW cB cC cI cJ cZ a (va_up F 9 (oI y)) X_13 J R_15 gf_9 gn_17) := hD
    refine lv_aload_n hx hb dX3_make_30 rfl (lv_at hl 0 rfl) ?_
    refine lv_aload_n hx hb dX3_make_31 rfl (lv_at hl 0 rfl) ?_
    refine cg_3_0 hx hb hts inX3_make_X3 hown hK hP (hts _ lkX3_make_f22) dX3_make_32 ?_
    refine cgN_1_2 hx hb hts inX3_make_X1 hown hK hP (va_Nw.use rfl hNW.2.2.2.2.2.2.2.2.2.2.2.1) dX3_make_35 ?_
    refine tp_i (y := oI (F 12).toInt) rfl ?_
    have i_19 := i32r (F 12)
    refine cp_3_4 hx hb hts inX3_make_X3 hown hK hP hD hS (hts _ lkX3_make_f15) dX3_make_38 (fun H locs hP hD hS => ?_)
    have hP : va_P (dC, dI) vwCl (CW cB cC cI cJ cZ a (va_up (va_up F 9 (oI y)) 10 (oI ((F 12).toInt))) X_13 J R_15 gf_9 gn_17) H := hP
    have hD : va_D A (CW cB cC cI cJ cZ a (va_up (va_up F 9 (oI y)) 10 (oI ((F 12).toInt))) X_13 J R_15 gf_9 gn_17) := hD
    have e_20 : (oI ((F 12).toInt)).toInt = (F 12).toInt := congrArg Int32.toInt (oI_toInt _)
    refine lv_aload_n hx hb dX3_make_41 rfl (lv_at hl 0 rfl) ?_
    refine lv_iconst (v := oI 0) hx hb dX3_make_42 (by decide) ?_
    refine cp_3_5 hx hb hts inX3_make_X3 hown hK hP hD hS (by decide) (hts _ lkX3_make_f18) dX3_make_43 (fun H locs hP hD hS => ?_)
    have hP : va_P (dC, dI) vwCl (CW cB cC cI cJ cZ a (va_up (va_up (va_up F 9 (oI y)) 10 (oI ((F 12).toInt))) 11 (oI 0)) X_13 J R_15 gf_9 gn_17) H := hP
    have hD : va_D A (CW cB cC cI cJ cZ a (va_up (va_up (va_up F 9 (oI y)) 10 (oI ((F 12).toInt))) 11 (oI 0)) X_13 J R_15 gf_9 gn_17) := hD
    have e_21 : (oI 0).toInt = 0 := by decide
    refine lv_aload_n hx hb dX3_make_46 rfl (lv_at hl 0 rfl) ?_
    refine lv_iload_n hx hb dX3_make_47 rfl (lv_at hl 1 rfl) ?_
    refine lv_iconst (v := oI 0) hx hb dX3_make_48 (by decide) ?_
    refine lv_iconst (v := oI 0) hx hb dX3_make_49 (by decide) ?_
    refine ccp_vV (As := [.int (oI x), .int (oI 0), .int (oI 0)]) (rest := []) (gF := fun F9 => rg 11 13 (va_up (va_up (va_up F 9 (oI y)) 10 (oI ((F 12).toInt))) 11 (oI 0)) F9) (gX := fun X9 => rg 14 18 (rg 0 1 X_13 X9) X9) ⟨hx, hb, hml, hown, hts⟩ (c_build l dC dI cB cC cI cJ cZ a (va_up (va_up (va_up F 9 (oI y)) 10 (oI ((F 12).toInt))) 11 (oI 0)) X_13 J R_15 gf_9 gn_17 x 0 0 62 D (by omega) (by decide) (by decide) (show gf_9 ≤ 67600 from by first | assumption | omega) (show gn_17 ≤ 63261 from by first | assumption | omega) (show 0 ≤ (F 13).toInt ∧ (F 13).toInt ≤ (gn_17 : Int) from by first | assumption | omega) (show 0 ≤ (F 19).toInt ∧ (F 19).toInt ≤ 3000 ∧ 0 ≤ (F 20).toInt ∧ (F 20).toInt ≤ 3000 from by first | assumption | omega) (show 0 ≤ (oI ((F 12).toInt)).toInt ∧ (oI ((F 12).toInt)).toInt ≤ 67600 from by first | assumption | omega) (show x < 1073741824 from by first | assumption | omega) (show 0 ≤ 0 ∧ 0 ≤ 61 ∧ 62 ≤ 0 + ((62 : Nat) : Int) from by first | assumption | omega) (show FI (X_13 1) D gf_9 (F 0).toInt (F 12).toInt from by assumption) H.size) (cwV 3 hts kX3_make_X3_build_49 rfl rfl rfl (by decide +kernel) ⟨show (2 * 62 + 68) + 1 ≤ 193 from by omega, show 8 + (8 + 11) + (60 * 62 + 2032) ≤ 5779 from by omega⟩) (va_recv hK hP (ci := 3) (q0 := 3) rfl rfl) hK hNW hP hD hS hA rfl rfl hl.1 (lv_room (Nat.le_of_ble_eq_true rfl)) dX3_make_50 hcs (fun F_22 X_23 hw_24 H locs hP hD hS => ?_)
    have hw_24 : (∃ D9 : Int → Nat, FI (X_23 1) D9 gf_9 (F 0).toInt (F_22 12).toInt ∧ GR (X_13 1) D (F 12).toInt (X_23 1) D9 (F_22 12).toInt (61 - 0)) ∧ (0 ≤ (F_22 13).toInt ∧ (F_22 13).toInt ≤ (gn_17 : Int)) := hw_24
    obtain ⟨⟨D2, hfi, hG2⟩, hnt⟩ := hw_24
    refine lv_aload_n hx hb dX3_make_53 rfl (lv_at hl 0 rfl) ?_
    refine cg_3_5 hx hb hts inX3_make_X3 hown hK hP (hts _ lkX3_make_f18) dX3_make_54 ?_
    refine tp_i (y := oI (F_22 11).toInt) rfl ?_
    have i_25 := i32r (F_22 11)
    refine cz_eq (tgt := 64) hx hb (i32r _) dX3_make_57 (by decide) (fun c_26 => ?_) (fun c_26 => ?_)
    · refine lv_iconst (v := oI 0) hx hb dX3_make_64 (by decide) ?_
      have hG := GR_tr hGr hG2 (Int.le_refl _) (by omega)
      have hF9 : ∀ k9, (k9 < 9 ∨ 13 < k9) → (rg 11 13 (va_up (va_up (va_up F 9 (oI y)) 10 (oI ((F 12).toInt))) 11 (oI 0)) F_22) k9 = F k9 := fun k9 h9 => by simp only [rg, va_up]; (repeat' split) <;> first | with_reducible rfl | omega
      have hX9 : ∀ k9, 2 ≤ k9 → (k9 < 14 ∨ 18 < k9) → (rg 14 18 (rg 0 1 X_13 X_23) X_23) k9 = X k9 := fun k9 h8 h9 => by have q1 := d4 k9 h9; have q2 := e4 k9 h8; simp only [rg, va_up]; (repeat' split) <;> first | omega | (rw [q1, q2])
      have e0 : (oI 0).toInt = 0 := by decide
      refine W.know (fun hsz htot => ?_)
      have hend := gEnd hgc hsz htot
      refine W.widen (k := cg gf gn) (n := sg gf gn) (Nat.le_trans (Nat.le_add_right _ _) hcs.1) (Nat.le_trans (Nat.le_add_right _ _) hcs.2) ?_
      have hpost : (∃ D9 : Int → Nat, FI (X_23 1) D9 gf_9 (F 0).toInt (F_22 12).toInt ∧ GR (X 1) D (F 12).toInt (X_23 1) D9 (F_22 12).toInt (61)) ∧ (0 ≤ (F_22 13).toInt ∧ (F_22 13).toInt ≤ (gn_17 : Int)) ∧ gf ≤ gf_9 ∧ gn ≤ gn_17 ∧ ((gf_9 = 10000 ∨ gf_9 = 67600) ∧ (gn_17 = 3760 ∨ gn_17 = 63261)) ∧ J = J ∧ (∀ k9, (k9 < 9 ∨ 13 < k9) → (rg 11 13 (va_up (va_up (va_up F 9 (oI y)) 10 (oI ((F 12).toInt))) 11 (oI 0)) F_22) k9 = F k9) ∧ (∀ k9, 2 ≤ k9 → (k9 < 14 ∨ 18 < k9) → (rg 14 18 (rg 0 1 X_13 X_23) X_23) k9 = X k9) := ⟨⟨D2, hfi, hG⟩, by omega, by omega, by omega, hg2, rfl, hF9, hX9⟩
      exact W.iret (v := (oI 0)) hx hb hr (fun t ht hW => ⟨⟨(oI 0), (rg 11 13 (va_up (va_up (va_up F 9 (oI y)) 10 (oI ((F 12).toInt))) 11 (oI 0)) F_22, rg 14 18 (rg 0 1 X_13 X_23) X_23, J, R_15, gf_9, gn_17), rfl, hpost, ⟨by rw [ht]; exact hP, va_K.moved hW.alike hK, hD⟩, by rw [ht]; exact hend.1, by rw [ht]; exact hend.2.1, hend.2.2⟩, hS.F ht⟩) hS.2.2 dX3_make_65
    · refine lv_iconst (v := oI 2) hx hb dX3_make_60 (by decide) ?_
      refine lv_goto (tgt := 65) hx hb dX3_make_61 (by decide) ?_
      have hG := GR_tr hGr hG2 (Int.le_refl _) (by omega)
      have hF9 : ∀ k9, (k9 < 9 ∨ 13 < k9) → (rg 11 13 (va_up (va_up (va_up F 9 (oI y)) 10 (oI ((F 12).toInt))) 11 (oI 0)) F_22) k9 = F k9 := fun k9 h9 => by simp only [rg, va_up]; (repeat' split) <;> first | with_reducible rfl | omega
      have hX9 : ∀ k9, 2 ≤ k9 → (k9 < 14 ∨ 18 < k9) → (rg 14 18 (rg 0 1 X_13 X_23) X_23) k9 = X k9 := fun k9 h8 h9 => by have q1 := d4 k9 h9; have q2 := e4 k9 h8; simp only [rg, va_up]; (repeat' split) <;> first | omega | (rw [q1, q2])
      have e0 : (oI 2).toInt = 2 := by decide
      refine W.know (fun hsz htot => ?_)
      have hend := gEnd hgc hsz htot
      refine W.widen (k := cg gf gn) (n := sg gf gn) (Nat.le_trans (Nat.le_add_right _ _) hcs.1) (Nat.le_trans (Nat.le_add_right _ _) hcs.2) ?_
      have hpost : (∃ D9 : Int → Nat, FI (X_23 1) D9 gf_9 (F 0).toInt (F_22 12).toInt ∧ GR (X 1) D (F 12).toInt (X_23 1) D9 (F_22 12).toInt (61)) ∧ (0 ≤ (F_22 13).toInt ∧ (F_22 13).toInt ≤ (gn_17 : Int)) ∧ gf ≤ gf_9 ∧ gn ≤ gn_17 ∧ ((gf_9 = 10000 ∨ gf_9 = 67600) ∧ (gn_17 = 3760 ∨ gn_17 = 63261)) ∧ J = J ∧ (∀ k9, (k9 < 9 ∨ 13 < k9) → (rg 11 13 (va_up (va_up (va_up F 9 (oI y)) 10 (oI ((F 12).toInt))) 11 (oI 0)) F_22) k9 = F k9) ∧ (∀ k9, 2 ≤ k9 → (k9 < 14 ∨ 18 < k9) → (rg 14 18 (rg 0 1 X_13 X_23) X_23) k9 = X k9) := ⟨⟨D2, hfi, hG⟩, by omega, by omega, by omega, hg2, rfl, hF9, hX9⟩
      exact W.iret (v := (oI 2)) hx hb hr (fun t ht hW => ⟨⟨(oI 2), (rg 11 13 (va_up (va_up (va_up F 9 (oI y)) 10 (oI ((F 12).toInt))) 11 (oI 0)) F_22, rg 14 18 (rg 0 1 X_13 X_23) X_23, J, R_15, gf_9, gn_17), rfl, hpost, ⟨by rw [ht]; exact hP, va_K.moved hW.alike hK, hD⟩, by rw [ht]; exact hend.1, by rw [ht]; exact hend.2.1, hend.2.2⟩, hS.F ht⟩) hS.2.2 dX3_make_65
  · refine lv_bipush (v := oI 6) hx hb dX3_make_8 (by decide) ?_
    have e0 : (oI 6).toInt = 6 := by decide
    refine W.know (fun hsz htot => ?_)
    have hend := gEnd hgc hsz htot
    refine W.widen (k := cg gf gn) (n := sg gf gn) (Nat.le_trans (Nat.le_add_right _ _) hcs.1) (Nat.le_trans (Nat.le_add_right _ _) hcs.2) ?_
    have hpost : (∃ D9 : Int → Nat, FI (X 1) D9 gf (F 0).toInt (F 12).toInt ∧ GR (X 1) D (F 12).toInt (X 1) D9 (F 12).toInt (61)) ∧ (0 ≤ (F 13).toInt ∧ (F 13).toInt ≤ (gn : Int)) ∧ gf ≤ gf ∧ gn ≤ gn ∧ ((gf = 10000 ∨ gf = 67600) ∧ (gn = 3760 ∨ gn = 63261)) ∧ J = J ∧ (∀ k9, (k9 < 9 ∨ 13 < k9) → F k9 = F k9) ∧ (∀ k9, 2 ≤ k9 → (k9 < 14 ∨ 18 < k9) → X k9 = X k9) := ⟨⟨D, hfi, GR_rf⟩, by omega, Nat.le_refl _, Nat.le_refl _, hg2, rfl, fun _ _ => rfl, fun _ _ _ => rfl⟩
    exact W.iret (v := (oI 6)) hx hb hr (fun t ht hW => ⟨⟨(oI 6), (F, X, J, R, gf, gn), rfl, hpost, ⟨by rw [ht]; exact hP, va_K.moved hW.alike hK, hD⟩, by rw [ht]; exact hend.1, by rw [ht]; exact hend.2.1, hend.2.2⟩, hS.F ht⟩) hS.2.2 dX3_make_10
