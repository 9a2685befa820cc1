def oX12_copyOne : List Cond := [Cond.fieldLink RX12 119 "MacroScopesModel" "copyKinds" "[B", Cond.fieldLink RX12 433 "MacroScopesModel" "copies" "I", Cond.fieldLink RX12 32 "MacroScopesModel" "kinds" "[B", Cond.fieldLink RX12 122 "MacroScopesModel" "copyValues" "[I", Cond.fieldLink RX12 35 "MacroScopesModel" "values" "[I", Cond.fieldLink RX12 125 "MacroScopesModel" "copyCounts" "[I", Cond.fieldLink RX12 38 "MacroScopesModel" "counts" "[I", Cond.methodLink RX12 318 yX12_lookAt, Cond.instanceMethod yX12_lookAt, Cond.selects RX12 yX12_lookAt yX12_lookAt, Cond.initialized RX12, Cond.fieldLink RX12 402 "MacroScopesModel" "staying" "I"]
def vX12_copyOne : List Cond := .code yX12_copyOne cX12_copyOne 2 (some .int) :: (oX12_copyOne ++ (vX12_lookAt ++ (wsX120)))
theorem lkX12_copyOne_f119 : Cond.fieldLink RX12 119 "MacroScopesModel" "copyKinds" "[B" ∈ vX12_copyOne := List.mem_cons_of_mem _ (List.mem_append_left _ (List.mem_of_getElem? (i := 0) rfl))
theorem lkX12_copyOne_f433 : Cond.fieldLink RX12 433 "MacroScopesModel" "copies" "I" ∈ vX12_copyOne := List.mem_cons_of_mem _ (List.mem_append_left _ (List.mem_of_getElem? (i := 1) rfl))
theorem lkX12_copyOne_f32 : Cond.fieldLink RX12 32 "MacroScopesModel" "kinds" "[B" ∈ vX12_copyOne := List.mem_cons_of_mem _ (List.mem_append_left _ (List.mem_of_getElem? (i := 2) rfl))
theorem lkX12_copyOne_f122 : Cond.fieldLink RX12 122 "MacroScopesModel" "copyValues" "[I" ∈ vX12_copyOne := List.mem_cons_of_mem _ (List.mem_append_left _ (List.mem_of_getElem? (i := 3) rfl))
theorem lkX12_copyOne_f35 : Cond.fieldLink RX12 35 "MacroScopesModel" "values" "[I" ∈ vX12_copyOne := List.mem_cons_of_mem _ (List.mem_append_left _ (List.mem_of_getElem? (i := 4) rfl))
theorem lkX12_copyOne_f125 : Cond.fieldLink RX12 125 "MacroScopesModel" "copyCounts" "[I" ∈ vX12_copyOne := List.mem_cons_of_mem _ (List.mem_append_left _ (List.mem_of_getElem? (i := 5) rfl))
theorem lkX12_copyOne_f38 : Cond.fieldLink RX12 38 "MacroScopesModel" "counts" "[I" ∈ vX12_copyOne := List.mem_cons_of_mem _ (List.mem_append_left _ (List.mem_of_getElem? (i := 6) rfl))
theorem lkX12_copyOne_f402 : Cond.fieldLink RX12 402 "MacroScopesModel" "staying" "I" ∈ vX12_copyOne := List.mem_cons_of_mem _ (List.mem_append_left _ (List.mem_of_getElem? (i := 11) rfl))
theorem inX12_copyOne : ∀ w ∈ wsX120, w ∈ vX12_copyOne := fun w h => List.mem_cons_of_mem _ (List.mem_append_right _ (List.mem_append_right _ (h)))
theorem kX12_copyOne_X12_lookAt_318 : GoodIn vX12_copyOne (wsV RX12 318 RX12 yX12_lookAt vX12_lookAt) := goodIn_sub (fun w h => (List.mem_append.mp h).elim (fun h => List.mem_cons_of_mem _ (List.mem_append_left _ ((by decide +kernel : ∀ w ∈ ([.methodLink RX12 318 yX12_lookAt, .instanceMethod yX12_lookAt, .selects RX12 yX12_lookAt yX12_lookAt, .initialized RX12] : List Cond), w ∈ oX12_copyOne) w h))) (fun h => List.mem_cons_of_mem _ (List.mem_append_right _ (List.mem_append_left _ (h))))) (by decide +kernel)
set_option maxHeartbeats 4000000 in
set_option maxRecDepth 100000 in
/-- copyOne -/
theorem m_copyOne (l : Launch) (dC : Nat → ClassId) (dI : Nat → Nat → Nat) (cB cC cI cJ cZ : ClassId) (z0 : Nat) (R : Nat → Nat) (pl : Int32) (N : Nat → Nat) (G : Nat → Nat → Nat) (B : Nat → Nat → Int32) (f : Nat) (hG : ∀ k i, G k i < 1048576) (hf : f < 90000) (h10 : G 10 f ≤ 2) (h62 : N 62 < 4200) (h53 : N 53 < 90000) (s0 : Nat) : Met l yX12_copyOne vX12_copyOne { frames := 1, cells := 0, slots := 0, locals := 23 } (va_Pc [.ref z0, .int (nI f)] (mPre dC dI cB cC cI cJ cZ z0 R pl N G B s0)) (va_Qi (fun (r : Int32) (u : ((Nat → Nat) × (Nat → Nat → Nat) × (Nat → Nat → Int32) × Int32)) => match u with | (N1, G1, B1, pl1) => B1 = B ∧ pl1 = pl ∧ N1 = va_up (va_up N 53 (N 53 + 1)) 62 (N 62 + 1) ∧ G1 = CY G (N 62) (N 53) f ∧ r = nI (N 16 + N 62)) (mPost dC dI cB cC cI cJ cZ z0 R (va_A (MW cB cC cI cJ cZ z0 R pl N G B) s0)) (va_A (MW cB cC cI cJ cZ z0 R pl N G B) s0)) 0 0 (va_A (MW cB cC cI cJ cZ z0 R pl N G B) s0) := by
  refine Met.ofW (cc := cX12_copyOne) (maxL := 2) (ret := (some .int)) (by decide) rfl ?_
  intro p e s m args below meth c s₁ B9 hml hv
  obtain ⟨rfl, hsz, hP, hK, hD0⟩ := hv
  have hx := B9.exec
  have hb := B9.bytes
  have hr := B9.returns
  have hts := atoms_spec (ws := vX12_copyOne) B9.pre
  have hown : s.vm.findClass RX12 = some m.cls := findClass_of_methodNamed B9.named
  have hlocks := B9.notSynchronized
  subst hsz
  have hD := hD0.self (sz := s.heap.size)
  generalize hAe : va_A (MW cB cC cI cJ cZ z0 R pl N G B) s.heap.size = A at hD ⊢
  have hA : ∀ q : Nat, s.heap.size ≤ q → A q := fun q h => by rw [← hAe]; exact Or.inr h
  have hS : va_S A s.heap s.heap [] := va_S.rf
  have hcs : 0 + 0 ≤ (0 : Nat) ∧ 0 + 0 ≤ (0 : Nat) := ⟨Nat.le_refl 0, Nat.le_refl 0⟩
  have hl := lv_entry ([.ref z0, .int (nI f)]) (n := 2) (Nat.le_of_ble_eq_true rfl)
  rw [lg_entry_eq]
  generalize (lg_sl ([.ref z0, .int (nI f)]) ++ List.replicate (2 - (lg_sl ([.ref z0, .int (nI f)])).length) Slot.unset).toArray = ls at hl ⊢
  have hl : lv_has ls 2 [(0, .ref z0), (1, .int (nI f))] := hl
  refine lv_aload_n hx hb dX12_copyOne_0 rfl (lv_at hl 0 rfl) ?_
  refine mg_58 hx hb hts inX12_copyOne hown hK hP (hts _ lkX12_copyOne_f119) dX12_copyOne_1 ?_
  refine lv_aload_n hx hb dX12_copyOne_4 rfl (lv_at hl 0 rfl) ?_
  refine mg_62 hx hb hts inX12_copyOne hown hK hP (hts _ lkX12_copyOne_f433) dX12_copyOne_5 ?_
  refine lv_aload_n hx hb dX12_copyOne_8 rfl (lv_at hl 0 rfl) ?_
  refine mg_10 hx hb hts inX12_copyOne hown hK hP (hts _ lkX12_copyOne_f32) dX12_copyOne_9 ?_
  refine lv_iload_n hx hb dX12_copyOne_12 rfl (lv_at hl 1 rfl) ?_
  refine ml_10 hx hb hK hP (by omega) dX12_copyOne_13 ?_
  refine ms_58 hx hb hK hP hD hS (by omega) (by omega) dX12_copyOne_14 (fun H locs hP hD hS => ?_)
  refine lv_aload_n hx hb dX12_copyOne_15 rfl (lv_at hl 0 rfl) ?_
  refine mg_59 hx hb hts inX12_copyOne hown hK hP (hts _ lkX12_copyOne_f122) dX12_copyOne_16 ?_
  refine lv_aload_n hx hb dX12_copyOne_19 rfl (lv_at hl 0 rfl) ?_
  refine mg_62 hx hb hts inX12_copyOne hown hK hP (hts _ lkX12_copyOne_f433) dX12_copyOne_20 ?_
  refine lv_aload_n hx hb dX12_copyOne_23 rfl (lv_at hl 0 rfl) ?_
  refine mg_11 hx hb hts inX12_copyOne hown hK hP (hts _ lkX12_copyOne_f35) dX12_copyOne_24 ?_
  refine lv_iload_n hx hb dX12_copyOne_27 rfl (lv_at hl 1 rfl) ?_
  refine ml_11 hx hb hK hP (by omega) dX12_copyOne_28 ?_
  refine tp_i (y := nI (G 11 f)) rfl ?_
  refine ms_59 hx hb hK hP hD hS (by omega) dX12_copyOne_29 (fun H locs hP hD hS => ?_)
  refine lv_aload_n hx hb dX12_copyOne_30 rfl (lv_at hl 0 rfl) ?_
  refine mg_60 hx hb hts inX12_copyOne hown hK hP (hts _ lkX12_copyOne_f125) dX12_copyOne_31 ?_
  refine lv_aload_n hx hb dX12_copyOne_34 rfl (lv_at hl 0 rfl) ?_
  refine mg_62 hx hb hts inX12_copyOne hown hK hP (hts _ lkX12_copyOne_f433) dX12_copyOne_35 ?_
  refine lv_aload_n hx hb dX12_copyOne_38 rfl (lv_at hl 0 rfl) ?_
  refine mg_12 hx hb hts inX12_copyOne hown hK hP (hts _ lkX12_copyOne_f38) dX12_copyOne_39 ?_
  refine lv_iload_n hx hb dX12_copyOne_42 rfl (lv_at hl 1 rfl) ?_
  refine ml_12 hx hb hK hP (by omega) dX12_copyOne_43 ?_
  refine tp_i (y := nI (G 12 f)) rfl ?_
  refine ms_60 hx hb hK hP hD hS (by omega) dX12_copyOne_44 (fun H locs hP hD hS => ?_)
  refine lv_aload_n hx hb dX12_copyOne_45 rfl (lv_at hl 0 rfl) ?_
  refine lv_iload_n hx hb dX12_copyOne_46 rfl (lv_at hl 1 rfl) ?_
  refine lv_aload_n hx hb dX12_copyOne_47 rfl (lv_at hl 0 rfl) ?_
  refine mg_62 hx hb hts inX12_copyOne hown hK hP (hts _ lkX12_copyOne_f433) dX12_copyOne_48 ?_
  refine lv_iconst (v := nI 0) hx hb dX12_copyOne_51 (by decide) ?_
  refine mcl_v (As := [.int (nI f), .int (nI (N 62)), .int (nI 0)]) (rest := []) ⟨hx, hb, hml, hown, hts⟩ (m_lookAt l dC dI cB cC cI cJ cZ z0 R pl N (va_up (va_up (va_up G 58 (va_up (G 58) (N 62) (G 10 f))) 59 (va_up (G 59) (N 62) (G 11 f))) 60 (va_up (G 60) (N 62) (G 12 f))) B f (N 62) 0 h53 H.size) (cwV 3 hts kX12_copyOne_X12_lookAt_318 rfl rfl rfl (by decide +kernel) ⟨Nat.le_of_ble_eq_true rfl, Nat.le_of_ble_eq_true rfl⟩) hK hP hD hS hA rfl rfl hl.1 (lv_room (Nat.le_of_ble_eq_true rfl)) dX12_copyOne_52 hcs (fun  N_1 G_2 B_3 pl_4 hw H locs hP hD hS => ?_)
  dsimp only at hw
  obtain ⟨e1, e2, e3, e4⟩ := hw
  rw [e1, e2, e3, e4] at hP hD
  have hP : va_P (dC, dI) vwCl (MW cB cC cI cJ cZ z0 R pl (va_up N 53 (N 53 + 1)) (CY G (N 62) (N 53) f) B) H := hP
  have hD : va_D A (MW cB cC cI cJ cZ z0 R pl (va_up N 53 (N 53 + 1)) (CY G (N 62) (N 53) f) B) := hD
  refine lv_aload_n hx hb dX12_copyOne_55 rfl (lv_at hl 0 rfl) ?_
  refine lv_dup hx hb dX12_copyOne_56 rfl ?_
  refine mg_62 hx hb hts inX12_copyOne hown hK hP (hts _ lkX12_copyOne_f433) dX12_copyOne_57 ?_
  refine tp_i (y := nI (N 62)) rfl ?_
  refine lv_iconst (v := nI 1) hx hb dX12_copyOne_60 (by decide) ?_
  refine lv_iadd hx hb dX12_copyOne_61 ?_
  refine tp_i (nI_add (N 62) 1) ?_
  refine mp_62 hx hb hts inX12_copyOne hown hK hP hD hS (hts _ lkX12_copyOne_f433) dX12_copyOne_62 (fun H locs hP hD hS => ?_)
  refine lv_aload_n hx hb dX12_copyOne_65 rfl (lv_at hl 0 rfl) ?_
  refine mg_16 hx hb hts inX12_copyOne hown hK hP (hts _ lkX12_copyOne_f402) dX12_copyOne_66 ?_
  refine tp_i (y := nI (N 16)) rfl ?_
  refine lv_aload_n hx hb dX12_copyOne_69 rfl (lv_at hl 0 rfl) ?_
  refine mg_62 hx hb hts inX12_copyOne hown hK hP (hts _ lkX12_copyOne_f433) dX12_copyOne_70 ?_
  refine tp_i (y := nI ((N 62) + 1)) rfl ?_
  refine lv_iadd hx hb dX12_copyOne_73 ?_
  refine tp_i (nI_add (N 16) ((N 62) + 1)) ?_
  refine lv_iconst (v := nI 1) hx hb dX12_copyOne_74 (by decide) ?_
  refine lv_isub hx hb dX12_copyOne_75 ?_
  refine tp_i (pk_sub (a := (N 16) + ((N 62) + 1)) (b := 1) (by omega)) ?_
  exact W.iret (v := (nI (((N 16) + ((N 62) + 1)) - 1))) hx hb hr (fun t ht hW => ⟨⟨(nI (((N 16) + ((N 62) + 1)) - 1)), (va_up (va_up N 53 (N 53 + 1)) 62 ((N 62) + 1), CY G (N 62) (N 53) f, B, pl), rfl, ⟨rfl, rfl, rfl, rfl, by congr 1⟩, by rw [ht]; exact hP, va_K.moved hW.alike hK, hD⟩, hS.F ht⟩) hS.2.2 dX12_copyOne_76
