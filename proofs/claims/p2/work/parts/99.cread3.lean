def oX11_read : List Cond := [Cond.fieldLink RX11 23 "MacroScopes" "forms" "LMacroScopes$Forms;", Cond.fieldLink RX11 16 "MacroScopes" "names" "LMacroScopes$Names;", Cond.methodLink RX11 75 yX6_startText, Cond.instanceMethod yX6_startText, Cond.selects RX6 yX6_startText yX6_startText, Cond.initialized RX6, Cond.methodLink RX11 78 yX1_startText, Cond.instanceMethod yX1_startText, Cond.selects RX1 yX1_startText yX1_startText, Cond.initialized RX1, Cond.fieldLink RX11 30 "MacroScopes" "told" "LMacroScopes$Told;", Cond.methodLink RX11 79 yX10_startText, Cond.instanceMethod yX10_startText, Cond.selects RX10 yX10_startText yX10_startText, Cond.initialized RX10, Cond.fieldLink RX11 56 "MacroScopes" "place" "I", Cond.fieldLink RX11 39 "MacroScopes" "reader" "LMacroScopes$Reader;", Cond.fieldLink RX11 9 "MacroScopes" "typed" "[C", Cond.fieldLink RX11 52 "MacroScopes" "typedLength" "I", Cond.methodLink RX11 80 yX7_addForms, Cond.instanceMethod yX7_addForms, Cond.selects RX7 yX7_addForms yX7_addForms, Cond.initialized RX7, Cond.methodLink RX11 93 yX6_takeBack, Cond.instanceMethod yX6_takeBack, Cond.selects RX6 yX6_takeBack yX6_takeBack, Cond.methodLink RX11 89 yX11_takeText, Cond.instanceMethod yX11_takeText, Cond.selects RX11 yX11_takeText yX11_takeText, Cond.initialized RX11, Cond.fieldLink RX11 48 "MacroScopes" "expander" "LMacroScopes$Expander;", Cond.methodLink RX11 84 yX0_tellText, Cond.instanceMethod yX0_tellText, Cond.selects RX0 yX0_tellText yX0_tellText, Cond.initialized RX0]
def vX11_read : List Cond := .code yX11_read cX11_read 3 (some .int) :: (oX11_read ++ (vX6_startText ++ (vX1_startText ++ (vX10_startText ++ (vX7_addForms ++ (vX6_takeBack ++ (vX11_takeText ++ (vX0_tellText ++ (wsX110 ++ (wsX10 ++ (wsX00)))))))))))
theorem lkX11_read_f23 : Cond.fieldLink RX11 23 "MacroScopes" "forms" "LMacroScopes$Forms;" ∈ vX11_read := List.mem_cons_of_mem _ (List.mem_append_left _ (List.mem_of_getElem? (i := 0) rfl))
theorem lkX11_read_f16 : Cond.fieldLink RX11 16 "MacroScopes" "names" "LMacroScopes$Names;" ∈ vX11_read := List.mem_cons_of_mem _ (List.mem_append_left _ (List.mem_of_getElem? (i := 1) rfl))
theorem lkX11_read_f30 : Cond.fieldLink RX11 30 "MacroScopes" "told" "LMacroScopes$Told;" ∈ vX11_read := List.mem_cons_of_mem _ (List.mem_append_left _ (List.mem_of_getElem? (i := 10) rfl))
theorem lkX11_read_f56 : Cond.fieldLink RX11 56 "MacroScopes" "place" "I" ∈ vX11_read := List.mem_cons_of_mem _ (List.mem_append_left _ (List.mem_of_getElem? (i := 15) rfl))
theorem lkX11_read_f39 : Cond.fieldLink RX11 39 "MacroScopes" "reader" "LMacroScopes$Reader;" ∈ vX11_read := List.mem_cons_of_mem _ (List.mem_append_left _ (List.mem_of_getElem? (i := 16) rfl))
theorem lkX11_read_f9 : Cond.fieldLink RX11 9 "MacroScopes" "typed" "[C" ∈ vX11_read := List.mem_cons_of_mem _ (List.mem_append_left _ (List.mem_of_getElem? (i := 17) rfl))
theorem lkX11_read_f52 : Cond.fieldLink RX11 52 "MacroScopes" "typedLength" "I" ∈ vX11_read := List.mem_cons_of_mem _ (List.mem_append_left _ (List.mem_of_getElem? (i := 18) rfl))
theorem lkX11_read_f48 : Cond.fieldLink RX11 48 "MacroScopes" "expander" "LMacroScopes$Expander;" ∈ vX11_read := List.mem_cons_of_mem _ (List.mem_append_left _ (List.mem_of_getElem? (i := 30) rfl))
theorem inX11_read_X11 : ∀ w ∈ wsX110, w ∈ vX11_read := fun w h => List.mem_cons_of_mem _ (List.mem_append_right _ (List.mem_append_right _ (List.mem_append_right _ (List.mem_append_right _ (List.mem_append_right _ (List.mem_append_right _ (List.mem_append_right _ (List.mem_append_right _ (List.mem_append_left _ (h))))))))))
theorem inX11_read_X1 : ∀ w ∈ wsX10, w ∈ vX11_read := fun w h => List.mem_cons_of_mem _ (List.mem_append_right _ (List.mem_append_right _ (List.mem_append_right _ (List.mem_append_right _ (List.mem_append_right _ (List.mem_append_right _ (List.mem_append_right _ (List.mem_append_right _ (List.mem_append_right _ (List.mem_append_left _ (h)))))))))))
theorem inX11_read_X0 : ∀ w ∈ wsX00, w ∈ vX11_read := fun w h => List.mem_cons_of_mem _ (List.mem_append_right _ (List.mem_append_right _ (List.mem_append_right _ (List.mem_append_right _ (List.mem_append_right _ (List.mem_append_right _ (List.mem_append_right _ (List.mem_append_right _ (List.mem_append_right _ (List.mem_append_right _ (h)))))))))))
theorem kX11_read_X6_startText_75 : GoodIn vX11_read (wsV RX11 75 RX6 yX6_startText vX6_startText) := goodIn_sub (fun w h => (List.mem_append.mp h).elim (fun h => List.mem_cons_of_mem _ (List.mem_append_left _ ((by decide +kernel : ∀ w ∈ ([.methodLink RX11 75 yX6_startText, .instanceMethod yX6_startText, .selects RX6 yX6_startText yX6_startText, .initialized RX6] : List Cond), w ∈ oX11_read) w h))) (fun h => List.mem_cons_of_mem _ (List.mem_append_right _ (List.mem_append_left _ (h))))) (by decide +kernel)
theorem kX11_read_X1_startText_78 : GoodIn vX11_read (wsV RX11 78 RX1 yX1_startText vX1_startText) := goodIn_sub (fun w h => (List.mem_append.mp h).elim (fun h => List.mem_cons_of_mem _ (List.mem_append_left _ ((by decide +kernel : ∀ w ∈ ([.methodLink RX11 78 yX1_startText, .instanceMethod yX1_startText, .selects RX1 yX1_startText yX1_startText, .initialized RX1] : List Cond), w ∈ oX11_read) w h))) (fun h => List.mem_cons_of_mem _ (List.mem_append_right _ (List.mem_append_right _ (List.mem_append_left _ (h)))))) (by decide +kernel)
theorem kX11_read_X10_startText_79 : GoodIn vX11_read (wsV RX11 79 RX10 yX10_startText vX10_startText) := goodIn_sub (fun w h => (List.mem_append.mp h).elim (fun h => List.mem_cons_of_mem _ (List.mem_append_left _ ((by decide +kernel : ∀ w ∈ ([.methodLink RX11 79 yX10_startText, .instanceMethod yX10_startText, .selects RX10 yX10_startText yX10_startText, .initialized RX10] : List Cond), w ∈ oX11_read) w h))) (fun h => List.mem_cons_of_mem _ (List.mem_append_right _ (List.mem_append_right _ (List.mem_append_right _ (List.mem_append_left _ (h))))))) (by decide +kernel)
theorem kX11_read_X7_addForms_80 : GoodIn vX11_read (wsV RX11 80 RX7 yX7_addForms vX7_addForms) := goodIn_sub (fun w h => (List.mem_append.mp h).elim (fun h => List.mem_cons_of_mem _ (List.mem_append_left _ ((by decide +kernel : ∀ w ∈ ([.methodLink RX11 80 yX7_addForms, .instanceMethod yX7_addForms, .selects RX7 yX7_addForms yX7_addForms, .initialized RX7] : List Cond), w ∈ oX11_read) w h))) (fun h => List.mem_cons_of_mem _ (List.mem_append_right _ (List.mem_append_right _ (List.mem_append_right _ (List.mem_append_right _ (List.mem_append_left _ (h)))))))) (by decide +kernel)
theorem kX11_read_X6_takeBack_93 : GoodIn vX11_read (wsV RX11 93 RX6 yX6_takeBack vX6_takeBack) := goodIn_sub (fun w h => (List.mem_append.mp h).elim (fun h => List.mem_cons_of_mem _ (List.mem_append_left _ ((by decide +kernel : ∀ w ∈ ([.methodLink RX11 93 yX6_takeBack, .instanceMethod yX6_takeBack, .selects RX6 yX6_takeBack yX6_takeBack, .initialized RX6] : List Cond), w ∈ oX11_read) w h))) (fun h => List.mem_cons_of_mem _ (List.mem_append_right _ (List.mem_append_right _ (List.mem_append_right _ (List.mem_append_right _ (List.mem_append_right _ (List.mem_append_left _ (h))))))))) (by decide +kernel)
theorem kX11_read_X11_takeText_89 : GoodIn vX11_read (wsV RX11 89 RX11 yX11_takeText vX11_takeText) := goodIn_sub (fun w h => (List.mem_append.mp h).elim (fun h => List.mem_cons_of_mem _ (List.mem_append_left _ ((by decide +kernel : ∀ w ∈ ([.methodLink RX11 89 yX11_takeText, .instanceMethod yX11_takeText, .selects RX11 yX11_takeText yX11_takeText, .initialized RX11] : List Cond), w ∈ oX11_read) w h))) (fun h => List.mem_cons_of_mem _ (List.mem_append_right _ (List.mem_append_right _ (List.mem_append_right _ (List.mem_append_right _ (List.mem_append_right _ (List.mem_append_right _ (List.mem_append_left _ (h)))))))))) (by decide +kernel)
theorem kX11_read_X0_tellText_84 : GoodIn vX11_read (wsV RX11 84 RX0 yX0_tellText vX0_tellText) := goodIn_sub (fun w h => (List.mem_append.mp h).elim (fun h => List.mem_cons_of_mem _ (List.mem_append_left _ ((by decide +kernel : ∀ w ∈ ([.methodLink RX11 84 yX0_tellText, .instanceMethod yX0_tellText, .selects RX0 yX0_tellText yX0_tellText, .initialized RX0] : List Cond), w ∈ oX11_read) w h))) (fun h => List.mem_cons_of_mem _ (List.mem_append_right _ (List.mem_append_right _ (List.mem_append_right _ (List.mem_append_right _ (List.mem_append_right _ (List.mem_append_right _ (List.mem_append_right _ (List.mem_append_left _ (h))))))))))) (by decide +kernel)
theorem FI_top {f : Nat → Int32} {D : Int → Nat} {gf : Nat} {k t : Int} (h : FI f D gf k t) : FI f D gf k 4000 := ⟨h.1, h.2.1, by have := h.2.2.1; omega, h.2.2.2.1, h.2.2.2.2.1, fun p a b => by omega⟩
theorem FI_kb {f : Nat → Int32} {D : Int → Nat} {gf : Nat} {k t k0 : Int} (h : FI f D gf k t) (h0 : CUT f 0 k0 ∧ 0 ≤ k0 ∧ k0 ≤ k) : FI f D gf k0 t := ⟨h.1, h.2.1, by have := h.2.2.1; omega, h0.1, h.2.2.2.2.1, h.2.2.2.2.2⟩
theorem FI_k0 {f : Nat → Int32} {D : Int → Nat} {gf : Nat} {k t : Int} (h : FI f D gf k t) : CUT f 0 k ∧ 0 ≤ k ∧ k ≤ k := ⟨h.2.2.2.1, h.2.2.1.1, Int.le_refl _⟩
set_option maxHeartbeats 4000000 in
set_option maxRecDepth 100000 in
theorem c_readX (l : Launch) (dC : Nat → ClassId) (dI : Nat → Nat → Nat) (cB cC cI cJ cZ : ClassId) (a : Nat → Nat) (F : Nat → Int32) (X : Nat → Nat → Int32) (J : Nat → Nat → Int64) (R : Nat → Nat) (gf gn : Nat) (D : Int → Nat) (hgf : gf ≤ 67600) (hgn : gn ≤ 63261) (hg2 : (gf = 10000 ∨ gf = 67600) ∧ (gn = 3760 ∨ gn = 63261)) (hsy : 0 ≤ (F 15).toInt ∧ (F 15).toInt ≤ 2560) (hst : 0 ≤ (F 23).toInt ∧ (F 23).toInt ≤ 606) (hms : 0 ≤ (F 19).toInt ∧ (F 19).toInt ≤ 3000 ∧ 0 ≤ (F 20).toInt ∧ (F 20).toInt ≤ 3000) (hru : VB (X 12)) (hrb : VB (X 13)) (hva : VB (X 22)) (hnb : NB (X 6) gn) (hv2 : VB (X 2)) (hty : 0 ≤ (F 27).toInt ∧ (F 27).toInt ≤ 3000) (hfi : FI (X 1) D gf (F 0).toInt (F 12).toInt) (s0 n0 : Nat) : Met l yX11_read vX11_read { frames := 197, cells := cg gf gn, slots := sg gf gn, locals := 5882 } (va_Pc [.ref (a 11)] (gPre dC dI cB cC cI cJ cZ a F X J R gf gn s0 n0)) (va_Qi (fun (r : Int32) (u : (Nat → Int32) × (Nat → Nat → Int32) × (Nat → Nat → Int64) × (Nat → Nat) × Nat × Nat) => match u with | (F1, X1, J1, R1, gf1, gn1) => ((∃ D9 : Int → Nat, FI (X1 1) D9 gf1 (F1 0).toInt (F1 12).toInt) ∧ (gf1 ≤ 67600) ∧ (gn1 ≤ 63261) ∧ ((gf1 = 10000 ∨ gf1 = 67600) ∧ (gn1 = 3760 ∨ gn1 = 63261)) ∧ (0 ≤ (F1 15).toInt ∧ (F1 15).toInt ≤ 2560) ∧ (0 ≤ (F1 23).toInt ∧ (F1 23).toInt ≤ 606) ∧ (0 ≤ (F1 19).toInt ∧ (F1 19).toInt ≤ 3000 ∧ 0 ≤ (F1 20).toInt ∧ (F1 20).toInt ≤ 3000) ∧ (VB (X1 12)) ∧ (VB (X1 13)) ∧ (VB (X1 22)) ∧ (NB (X1 6) gn1) ∧ (VB (X1 2)) ∧ (0 ≤ (F1 27).toInt ∧ (F1 27).toInt ≤ 3000)) ∧ (F1 27).toInt = 0) (fun u => gPost dC dI cB cC cI cJ cZ a u.1 u.2.1 u.2.2.1 u.2.2.2.1 u.2.2.2.2.1 u.2.2.2.2.2 (s0 + cg gf gn) (n0 + sg gf gn) (cg gf gn) (sg gf gn) (va_A (CW cB cC cI cJ cZ a F X J R gf gn) s0)) (va_A (CW cB cC cI cJ cZ a F X J R gf gn) s0)) (cg gf gn) (sg gf gn) (va_A (CW cB cC cI cJ cZ a F X J R gf gn) s0) := by
  refine Met.ofW (cc := cX11_read) (maxL := 3) (ret := (some .int)) (by decide) rfl ?_
  intro p e s m args below meth c s₁ B9 hml hv
  obtain ⟨rfl, ⟨hsz0, hP, hK, hD0, hNW⟩, htot0⟩ := hv
  have hx := B9.exec
  have hb := B9.bytes
  have hr := B9.returns
  have hts := atoms_spec (ws := vX11_read) B9.pre
  have hown : s.vm.findClass RX11 = some m.cls := findClass_of_methodNamed B9.named
  have hlocks := B9.notSynchronized
  clear B9
  subst hsz0
  subst htot0
  have hD := hD0.self (sz := s.heap.size)
  generalize hAe : va_A (CW cB cC cI cJ cZ a F X J R gf gn) s.heap.size = A at hD ⊢
  have hA : ∀ q : Nat, s.heap.size ≤ q → A q := fun q h => by rw [← hAe]; exact Or.inr h
  have hS : va_S A s.heap s.heap [] := va_S.rf
  have hcs : 0 + 0 ≤ cg gf gn ∧ 0 + 0 ≤ sg gf gn := ⟨Nat.zero_le _, Nat.zero_le _⟩
  have hl := lv_entry ([.ref (a 11)]) (n := 3) (Nat.le_of_ble_eq_true rfl)
  rw [lg_entry_eq]
  generalize (lg_sl ([.ref (a 11)]) ++ List.replicate (3 - (lg_sl ([.ref (a 11)])).length) Slot.unset).toArray = ls at hl ⊢
  have hl : lv_has ls 3 [(0, .ref (a 11))] := hl
  have hgc : gC gf gn gf gn 0 0 := gC.rf
  refine lv_aload_n hx hb dX11_read_0 rfl (lv_at hl 0 rfl) ?_
  refine cg_11_2 hx hb hts inX11_read_X11 hown hK hP (hts _ lkX11_read_f23) dX11_read_1 ?_
  refine cgN_1_3 hx hb hts inX11_read_X1 hown hK hP (va_Nw.use rfl hNW.2.2.2.2.2.2.2.2.2.2.2.2.2.2.2.2.2.2.2.2.2.2.1) dX11_read_4 ?_
  have i_1 := i32r (F 0)
  refine lv_istore_n (lv' := [(1, .int (oI ((F 0).toInt))), (0, .ref (a 11))]) hx hb dX11_read_7 rfl hl (by decide) rfl (fun ls hl => ?_)
  refine lv_aload_n hx hb dX11_read_8 rfl (lv_at hl 1 rfl) ?_
  refine cg_11_1 hx hb hts inX11_read_X11 hown hK hP (hts _ lkX11_read_f16) dX11_read_9 ?_
  refine ccp_vV (As := []) (rest := []) (gF := fun F9 => rg 16 16 (rg 13 13 F F9) F9) (gX := fun X9 => rg 13 13 X X9) ⟨hx, hb, hml, hown, hts⟩ (c_startN l dC dI cB cC cI cJ cZ a F X J R gf gn    (show (gf = 10000 ∨ gf = 67600) ∧ (gn = 3760 ∨ gn = 63261) from by first | assumption | omega) (show 0 ≤ (F 15).toInt ∧ (F 15).toInt ≤ 2560 from by first | assumption | omega) (show VB (X 12) from by first | assumption | omega) (show VB (X 13) from by first | assumption | omega)  s.heap.size) (cwV 0 hts kX11_read_X6_startText_75 rfl rfl rfl (by decide +kernel) ⟨Nat.le_of_ble_eq_true rfl, Nat.le_of_ble_eq_true rfl⟩) (va_recv hK hP (ci := 6) (q0 := 6) rfl rfl) hK hNW hP hD hS hA rfl rfl hl.1 (lv_room (Nat.le_of_ble_eq_true rfl)) dX11_read_12 hcs (fun F_2 X_3 hw_4 H locs hP hD hS => ?_)
  replace hw_4 : (0 ≤ (F_2 13).toInt ∧ (F_2 13).toInt ≤ (gn : Int)) ∧ (0 ≤ (F_2 16).toInt ∧ (F_2 16).toInt ≤ 2560) ∧ VB (X_3 13) ∧ (F_2 16).toInt = (F 15).toInt := hw_4
  obtain ⟨hnt, hsb, hrb, hs16⟩ := hw_4
  refine lv_aload_n hx hb dX11_read_15 rfl (lv_at hl 1 rfl) ?_
  refine cg_11_2 hx hb hts inX11_read_X11 hown hK hP (hts _ lkX11_read_f23) dX11_read_16 ?_
  refine ccp_vV (As := []) (rest := []) (gF := fun F9 => rg 12 12 (rg 16 16 (rg 13 13 F F_2) F_2) F9) (gX := fun _ => rg 13 13 X X_3) ⟨hx, hb, hml, hown, hts⟩ (c_startF l dC dI cB cC cI cJ cZ a (rg 16 16 (rg 13 13 F F_2) F_2) (rg 13 13 X X_3) J R gf gn      H.size) (cwV 0 hts kX11_read_X1_startText_78 rfl rfl rfl (by decide +kernel) ⟨Nat.le_of_ble_eq_true rfl, Nat.le_of_ble_eq_true rfl⟩) (va_recv hK hP (ci := 1) (q0 := 1) rfl rfl) hK hNW hP hD hS hA rfl rfl hl.1 (lv_room (Nat.le_of_ble_eq_true rfl)) dX11_read_19 hcs (fun F_5 X_6 hw_7 H locs hP hD hS => ?_)
  replace hw_7 : (F_5 12).toInt = 4000 := hw_7
  have htp := hw_7
  clear hw_7
  have hfi : FI (X 1) D gf (F 0).toInt (F_5 12).toInt := by rw [htp]; exact FI_top hfi
  refine lv_aload_n hx hb dX11_read_22 rfl (lv_at hl 1 rfl) ?_
  refine cg_11_3 hx hb hts inX11_read_X11 hown hK hP (hts _ lkX11_read_f30) dX11_read_23 ?_
  refine ccp_vV (As := []) (rest := []) (gF := fun F9 => rg 25 25 (rg 12 12 (rg 16 16 (rg 13 13 F F_2) F_2) F_5) F9) (gX := fun _ => rg 13 13 X X_3) ⟨hx, hb, hml, hown, hts⟩ (c_startT l dC dI cB cC cI cJ cZ a (rg 12 12 (rg 16 16 (rg 13 13 F F_2) F_2) F_5) (rg 13 13 X X_3) J R gf gn      H.size) (cwV 0 hts kX11_read_X10_startText_79 rfl rfl rfl (by decide +kernel) ⟨Nat.le_of_ble_eq_true rfl, Nat.le_of_ble_eq_true rfl⟩) (va_recv hK hP (ci := 10) (q0 := 10) rfl rfl) hK hNW hP hD hS hA rfl rfl hl.1 (lv_room (Nat.le_of_ble_eq_true rfl)) dX11_read_26 hcs (fun F_8 X_9 hw_10 H locs hP hD hS => ?_)
  replace hw_10 : (F_8 25).toInt = 0 := hw_10
  have ht0 := hw_10
  clear hw_10
  refine lv_aload_n hx hb dX11_read_29 rfl (lv_at hl 1 rfl) ?_
  refine lv_iconst (v := oI (-1)) hx hb dX11_read_30 (by decide) ?_
  refine cp_11_7 hx hb hts inX11_read_X11 hown hK hP hD hS (hts _ lkX11_read_f56) dX11_read_31 (fun H locs hP hD hS => ?_)
  have hP : va_P (dC, dI) vwCl (CW cB cC cI cJ cZ a (va_up (rg 25 25 (rg 12 12 (rg 16 16 (rg 13 13 F F_2) F_2) F_5) F_8) 28 (oI ((-1)))) (rg 13 13 X X_3) J R gf gn) H := hP
  have hD : va_D A (CW cB cC cI cJ cZ a (va_up (rg 25 25 (rg 12 12 (rg 16 16 (rg 13 13 F F_2) F_2) F_5) F_8) 28 (oI ((-1)))) (rg 13 13 X X_3) J R gf gn) := hD
  refine lv_aload_n hx hb dX11_read_34 rfl (lv_at hl 1 rfl) ?_
  refine cg_11_4 hx hb hts inX11_read_X11 hown hK hP (hts _ lkX11_read_f39) dX11_read_35 ?_
  refine lv_aload_n hx hb dX11_read_38 rfl (lv_at hl 1 rfl) ?_
  refine cg_11_0 hx hb hts inX11_read_X11 hown hK hP (hts _ lkX11_read_f9) dX11_read_39 ?_
  refine lv_aload_n hx hb dX11_read_42 rfl (lv_at hl 1 rfl) ?_
  refine cg_11_6 hx hb hts inX11_read_X11 hown hK hP (hts _ lkX11_read_f52) dX11_read_43 ?_
  refine tp_i (y := oI (F 27).toInt) rfl ?_
  have i_11 := i32r (F 27)
  refine ccj_iV (As := [.ref (R 26), .int (oI ((F 27).toInt))]) (rest := []) (gF := fun F9 => rg 22 22 (rg 15 15 (rg 12 13 (va_up (rg 25 25 (rg 12 12 (rg 16 16 (rg 13 13 F F_2) F_2) F_5) F_8) 28 (oI ((-1)))) F9) F9) F9) (gX := fun X9 => rg 23 23 (rg 14 17 (rg 12 12 (rg 0 1 (rg 13 13 X X_3) X9) X9) X9) X9) ⟨hx, hb, hml, hown, hts⟩ (c_addForms l dC dI cB cC cI cJ cZ a (va_up (rg 25 25 (rg 12 12 (rg 16 16 (rg 13 13 F F_2) F_2) F_5) F_8) 28 (oI ((-1)))) (rg 13 13 X X_3) J R gf gn ((F 27).toInt) D (i32r _) (show gf ≤ 67600 from by first | assumption | omega) (show gn ≤ 63261 from by first | assumption | omega) (show 0 ≤ (F_2 13).toInt ∧ (F_2 13).toInt ≤ (gn : Int) from by first | assumption | omega) (show 0 ≤ (F 15).toInt ∧ (F 15).toInt ≤ 2560 from by first | assumption | omega) (show VB (X 12) from by first | assumption | omega) (show 0 ≤ ((F 27).toInt) ∧ ((F 27).toInt) ≤ 3000 from by first | assumption | omega) (show FI (X 1) D gf (F 0).toInt (F_5 12).toInt from by assumption) H.size) (cwV 2 hts kX11_read_X7_addForms_80 rfl rfl rfl (by decide +kernel) ⟨Nat.le_of_ble_eq_true rfl, Nat.le_of_ble_eq_true rfl⟩) (va_recv hK hP (ci := 7) (q0 := 7) rfl rfl) hK hNW hP hD hS hA rfl rfl hl.1 (lv_room (Nat.le_of_ble_eq_true rfl)) dX11_read_46 hcs (fun r_12 F_13 X_14 J_15 hw_16 H locs hP hD hS => ?_)
  replace hw_16 : (∃ D9 : Int → Nat, FI (X_14 1) D9 gf (F 0).toInt (F_13 12).toInt) ∧ (0 ≤ (F_13 13).toInt ∧ (F_13 13).toInt ≤ (gn : Int)) ∧ (0 ≤ (F_13 15).toInt ∧ (F_13 15).toInt ≤ 2560) ∧ VB (X_14 12) := hw_16
  obtain ⟨⟨D2, hf2⟩, hnt, hsy, hru⟩ := hw_16
  have i_17 := i32r r_12
  have hk0 := FI_k0 hf2
  have hbb := FI_b hf2
  refine lv_istore_n (lv' := [(2, .int (oI r_12.toInt)), (1, .int (oI ((F 0).toInt))), (0, .ref (a 11))]) hx hb dX11_read_49 rfl hl (by decide) rfl (fun ls hl => ?_)
  refine lv_aload_n hx hb dX11_read_50 rfl (lv_at hl 2 rfl) ?_
  refine lv_iconst (v := oI 0) hx hb dX11_read_51 (by decide) ?_
  refine cp_11_6 hx hb hts inX11_read_X11 hown hK hP hD hS (hts _ lkX11_read_f52) dX11_read_52 (fun H locs hP hD hS => ?_)
  have hP : va_P (dC, dI) vwCl (CW cB cC cI cJ cZ a (va_up (rg 22 22 (rg 15 15 (rg 12 13 (va_up (rg 25 25 (rg 12 12 (rg 16 16 (rg 13 13 F F_2) F_2) F_5) F_8) 28 (oI ((-1)))) F_13) F_13) F_13) 27 (oI 0)) (rg 23 23 (rg 14 17 (rg 12 12 (rg 0 1 (rg 13 13 X X_3) X_14) X_14) X_14) X_14) J_15 R gf gn) H := hP
  have hD : va_D A (CW cB cC cI cJ cZ a (va_up (rg 22 22 (rg 15 15 (rg 12 13 (va_up (rg 25 25 (rg 12 12 (rg 16 16 (rg 13 13 F F_2) F_2) F_5) F_8) 28 (oI ((-1)))) F_13) F_13) F_13) 27 (oI 0)) (rg 23 23 (rg 14 17 (rg 12 12 (rg 0 1 (rg 13 13 X X_3) X_14) X_14) X_14) X_14) J_15 R gf gn) := hD
  have e_18 : (oI 0).toInt = 0 := by decide
  refine lv_iload_n hx hb dX11_read_55 rfl (lv_at hl 0 rfl) ?_
  refine cz_ne (tgt := 86) hx hb (i32r _) dX11_read_56 (by decide) (fun c_19 => ?_) (fun c_19 => ?_)
  · refine lv_iload_n hx hb dX11_read_86 rfl (lv_at hl 0 rfl) ?_
    refine cz_ne (tgt := 113) hx hb (i32r _) dX11_read_87 (by decide) (fun c_20 => ?_) (fun c_20 => ?_)
    · refine lv_aload_n hx hb dX11_read_113 rfl (lv_at hl 2 rfl) ?_
      refine cg_11_2 hx hb hts inX11_read_X11 hown hK hP (hts _ lkX11_read_f23) dX11_read_114 ?_
      refine lv_iload_n hx hb dX11_read_117 rfl (lv_at hl 1 rfl) ?_
      refine cpN_1_3 hx hb hts inX11_read_X1 hown hK hP hD hS (va_Nw.use rfl hNW.2.2.2.2.2.2.2.2.2.2.2.2.2.2.2.2.2.2.2.2.2.2.1) dX11_read_118 (fun H locs hP hD hS => ?_)
      have hP : va_P (dC, dI) vwCl (CW cB cC cI cJ cZ a (va_up (va_up (rg 22 22 (rg 15 15 (rg 12 13 (va_up (rg 25 25 (rg 12 12 (rg 16 16 (rg 13 13 F F_2) F_2) F_5) F_8) 28 (oI ((-1)))) F_13) F_13) F_13) 27 (oI 0)) 0 (oI ((F 0).toInt))) (rg 23 23 (rg 14 17 (rg 12 12 (rg 0 1 (rg 13 13 X X_3) X_14) X_14) X_14) X_14) J_15 R gf gn) H := hP
      have hD : va_D A (CW cB cC cI cJ cZ a (va_up (va_up (rg 22 22 (rg 15 15 (rg 12 13 (va_up (rg 25 25 (rg 12 12 (rg 16 16 (rg 13 13 F F_2) F_2) F_5) F_8) 28 (oI ((-1)))) F_13) F_13) F_13) 27 (oI 0)) 0 (oI ((F 0).toInt))) (rg 23 23 (rg 14 17 (rg 12 12 (rg 0 1 (rg 13 13 X X_3) X_14) X_14) X_14) X_14) J_15 R gf gn) := hD
      have e_21 : (oI ((F 0).toInt)).toInt = (F 0).toInt := congrArg Int32.toInt (oI_toInt _)
      refine lv_aload_n hx hb dX11_read_121 rfl (lv_at hl 2 rfl) ?_
      refine cg_11_1 hx hb hts inX11_read_X11 hown hK hP (hts _ lkX11_read_f16) dX11_read_122 ?_
      refine ccp_vV (As := []) (rest := []) (gF := fun F9 => rg 15 15 (va_up (va_up (rg 22 22 (rg 15 15 (rg 12 13 (va_up (rg 25 25 (rg 12 12 (rg 16 16 (rg 13 13 F F_2) F_2) F_5) F_8) 28 (oI ((-1)))) F_13) F_13) F_13) 27 (oI 0)) 0 (oI ((F 0).toInt))) F9) (gX := fun X9 => rg 12 12 (rg 23 23 (rg 14 17 (rg 12 12 (rg 0 1 (rg 13 13 X X_3) X_14) X_14) X_14) X_14) X9) ⟨hx, hb, hml, hown, hts⟩ (c_takeBack l dC dI cB cC cI cJ cZ a (va_up (va_up (rg 22 22 (rg 15 15 (rg 12 13 (va_up (rg 25 25 (rg 12 12 (rg 16 16 (rg 13 13 F F_2) F_2) F_5) F_8) 28 (oI ((-1)))) F_13) F_13) F_13) 27 (oI 0)) 0 (oI ((F 0).toInt))) (rg 23 23 (rg 14 17 (rg 12 12 (rg 0 1 (rg 13 13 X X_3) X_14) X_14) X_14) X_14) J_15 R gf gn    (show 0 ≤ (F_2 16).toInt ∧ (F_2 16).toInt ≤ 2560 from by first | assumption | omega) (show VB (X_14 12) from by first | assumption | omega) (show VB (X_3 13) from by first | assumption | omega)  H.size) (cwV 0 hts kX11_read_X6_takeBack_93 rfl rfl rfl (by decide +kernel) ⟨Nat.le_of_ble_eq_true rfl, Nat.le_of_ble_eq_true rfl⟩) (va_recv hK hP (ci := 6) (q0 := 6) rfl rfl) hK hNW hP hD hS hA rfl rfl hl.1 (lv_room (Nat.le_of_ble_eq_true rfl)) dX11_read_125 hcs (fun F_22 X_23 hw_24 H locs hP hD hS => ?_)
      replace hw_24 : (0 ≤ (F_22 15).toInt ∧ (F_22 15).toInt ≤ 2560) ∧ VB (X_23 12) := hw_24
      obtain ⟨hsy, hru⟩ := hw_24
      refine lv_iload_n hx hb dX11_read_128 rfl (lv_at hl 0 rfl) ?_
      have hf3 : FI (X_14 1) D2 gf (oI ((F 0).toInt)).toInt (F_13 12).toInt := by first | exact FI_kb hf2 hk0 | (rw [show (oI ((F 0).toInt)).toInt = (F 0).toInt by omega]; exact FI_kb hf2 hk0)
      refine W.know (fun hsz htot => ?_)
      have hend := gEnd hgc hsz htot
      refine W.widen (k := cg gf gn) (n := sg gf gn) (Nat.le_trans (Nat.le_add_right _ _) hcs.1) (Nat.le_trans (Nat.le_add_right _ _) hcs.2) ?_
      have hpost : ((∃ D9 : Int → Nat, FI (X_14 1) D9 gf (oI ((F 0).toInt)).toInt (F_13 12).toInt) ∧ (gf ≤ 67600) ∧ (gn ≤ 63261) ∧ ((gf = 10000 ∨ gf = 67600) ∧ (gn = 3760 ∨ gn = 63261)) ∧ (0 ≤ (F_22 15).toInt ∧ (F_22 15).toInt ≤ 2560) ∧ (0 ≤ (F 23).toInt ∧ (F 23).toInt ≤ 606) ∧ (0 ≤ (F 19).toInt ∧ (F 19).toInt ≤ 3000 ∧ 0 ≤ (F 20).toInt ∧ (F 20).toInt ≤ 3000) ∧ (VB (X_23 12)) ∧ (VB (X_3 13)) ∧ (VB (X 22)) ∧ (NB (X 6) gn) ∧ (VB (X 2)) ∧ (0 ≤ (oI 0).toInt ∧ (oI 0).toInt ≤ 3000)) ∧ (oI 0).toInt = 0 := ⟨⟨⟨D2, hf3⟩, by omega, by omega, by omega, by omega, by omega, by omega, hru, hrb, hva, hnb, hv2, by omega⟩, by omega⟩
      exact W.iret (v := (oI r_12.toInt)) hx hb hr (fun t ht hW => ⟨⟨(oI r_12.toInt), (rg 15 15 (va_up (va_up (rg 22 22 (rg 15 15 (rg 12 13 (va_up (rg 25 25 (rg 12 12 (rg 16 16 (rg 13 13 F F_2) F_2) F_5) F_8) 28 (oI ((-1)))) F_13) F_13) F_13) 27 (oI 0)) 0 (oI ((F 0).toInt))) F_22, rg 12 12 (rg 23 23 (rg 14 17 (rg 12 12 (rg 0 1 (rg 13 13 X X_3) X_14) X_14) X_14) X_14) X_23, J_15, R, gf, gn), rfl, hpost, ⟨by rw [ht]; exact hP, va_K.moved hW.alike hK, hD⟩, by rw [ht]; exact hend.1, by rw [ht]; exact hend.2.1, hend.2.2⟩, hS.F ht⟩) hS.2.2 dX11_read_129
    · refine lv_aload_n hx hb dX11_read_90 rfl (lv_at hl 2 rfl) ?_
      refine lv_aload_n hx hb dX11_read_91 rfl (lv_at hl 2 rfl) ?_
      refine cg_11_2 hx hb hts inX11_read_X11 hown hK hP (hts _ lkX11_read_f23) dX11_read_92 ?_
      refine cgN_1_3 hx hb hts inX11_read_X1 hown hK hP (va_Nw.use rfl hNW.2.2.2.2.2.2.2.2.2.2.2.2.2.2.2.2.2.2.2.2.2.2.1) dX11_read_95 ?_
      refine tp_i (y := oI (F 0).toInt) rfl ?_
      refine lv_iload_n hx hb dX11_read_98 rfl (lv_at hl 1 rfl) ?_
      refine ci_le (tgt := 106) hx hb (i32r _) (i32r _) dX11_read_99 (by decide) (fun c_25 => ?_) (fun c_25 => ?_)
      · refine lv_iconst (v := oI 0) hx hb dX11_read_106 (by decide) ?_
        refine ccf_vV (As := [.int (oI 0)]) (rest := []) ⟨hx, hb, hml, hown, hts⟩ (c_takeText l dC dI cB cC cI cJ cZ a (va_up (rg 22 22 (rg 15 15 (rg 12 13 (va_up (rg 25 25 (rg 12 12 (rg 16 16 (rg 13 13 F F_2) F_2) F_5) F_8) 28 (oI ((-1)))) F_13) F_13) F_13) 27 (oI 0)) (rg 23 23 (rg 14 17 (rg 12 12 (rg 0 1 (rg 13 13 X X_3) X_14) X_14) X_14) X_14) J_15 R gf gn 0  (by decide) (show 0 ≤ (F_13 15).toInt ∧ (F_13 15).toInt ≤ 2560 from by first | assumption | omega) (show 0 ≤ (F_2 16).toInt ∧ (F_2 16).toInt ≤ 2560 from by first | assumption | omega)  H.size) (cwV 1 hts kX11_read_X11_takeText_89 rfl rfl rfl (by decide +kernel) ⟨Nat.le_of_ble_eq_true rfl, Nat.le_of_ble_eq_true rfl⟩) (va_recv hK hP (ci := 11) (q0 := 11) rfl rfl) hK hNW hP hD hS hA rfl rfl hl.1 (lv_room (Nat.le_of_ble_eq_true rfl)) dX11_read_107 hcs (fun F_26 X_27 J_28 R_29 gf_30 gn_31 hw_32 H locs hP hD hS => ?_)
        replace hw_32 : (∀ k9, (k9 < 24 ∨ k9 = 25 ∨ k9 = 27) → k9 ≠ 15 → F_26 k9 = (va_up (rg 22 22 (rg 15 15 (rg 12 13 (va_up (rg 25 25 (rg 12 12 (rg 16 16 (rg 13 13 F F_2) F_2) F_5) F_8) 28 (oI ((-1)))) F_13) F_13) F_13) 27 (oI 0)) k9) ∧ (∀ k9, (k9 < 24 ∨ k9 = 26) → X_27 k9 = (rg 23 23 (rg 14 17 (rg 12 12 (rg 0 1 (rg 13 13 X X_3) X_14) X_14) X_14) X_14) k9) ∧ J_28 = J_15 ∧ gf_30 = gf ∧ gn_31 = gn ∧ 0 ≤ (F_26 15).toInt ∧ (F_26 15).toInt ≤ 2560 := hw_32
        obtain ⟨tF, tX, tJ, tg, th, hsy⟩ := hw_32
        have m0 : (F_26 0).toInt = (F 0).toInt := congrArg Int32.toInt (tF 0 (by omega) (by omega))
        have m12 : (F_26 12).toInt = (F_13 12).toInt := congrArg Int32.toInt (tF 12 (by omega) (by omega))
        have m19 : (F_26 19).toInt = (F 19).toInt := congrArg Int32.toInt (tF 19 (by omega) (by omega))
        have m20 : (F_26 20).toInt = (F 20).toInt := congrArg Int32.toInt (tF 20 (by omega) (by omega))
        have m23 : (F_26 23).toInt = (F 23).toInt := congrArg Int32.toInt (tF 23 (by omega) (by omega))
        have m27 : (F_26 27).toInt = (oI 0).toInt := congrArg Int32.toInt (tF 27 (by omega) (by omega))
        have y1 : X_27 1 = X_14 1 := tX 1 (by omega)
        have y2 : X_27 2 = X 2 := tX 2 (by omega)
        have y6 : X_27 6 = X 6 := tX 6 (by omega)
        have y12 : X_27 12 = X_14 12 := tX 12 (by omega)
        have y13 : X_27 13 = X_3 13 := tX 13 (by omega)
        have y22 : X_27 22 = X 22 := tX 22 (by omega)
        have hgc : gC gf_30 gn_31 gf gn 0 0 := by rw [tg, th]; exact hgc
        have hf2 : FI (X_27 1) D2 gf_30 (F_26 0).toInt (F_26 12).toInt := by rw [y1, m0, m12, tg]; exact hf2
        have hru : VB (X_27 12) := by rw [y12]; exact hru
        have hva : VB (X_27 22) := by rw [y22]; exact hva
        have hv2 : VB (X_27 2) := by rw [y2]; exact hv2
        have hrb : VB (X_27 13) := by rw [y13]; exact hrb
        have hnb : NB (X_27 6) gn_31 := by rw [y6, th]; exact hnb
        refine lv_goto (tgt := 128) hx hb dX11_read_110 (by decide) ?_
        refine lv_iload_n hx hb dX11_read_128 rfl (lv_at hl 0 rfl) ?_
        refine W.know (fun hsz htot => ?_)
        have hend := gEnd hgc hsz htot
        refine W.widen (k := cg gf gn) (n := sg gf gn) (Nat.le_trans (Nat.le_add_right _ _) hcs.1) (Nat.le_trans (Nat.le_add_right _ _) hcs.2) ?_
        have hpost : ((∃ D9 : Int → Nat, FI (X_27 1) D9 gf_30 (F_26 0).toInt (F_26 12).toInt) ∧ (gf_30 ≤ 67600) ∧ (gn_31 ≤ 63261) ∧ ((gf_30 = 10000 ∨ gf_30 = 67600) ∧ (gn_31 = 3760 ∨ gn_31 = 63261)) ∧ (0 ≤ (F_26 15).toInt ∧ (F_26 15).toInt ≤ 2560) ∧ (0 ≤ (F_26 23).toInt ∧ (F_26 23).toInt ≤ 606) ∧ (0 ≤ (F_26 19).toInt ∧ (F_26 19).toInt ≤ 3000 ∧ 0 ≤ (F_26 20).toInt ∧ (F_26 20).toInt ≤ 3000) ∧ (VB (X_27 12)) ∧ (VB (X_27 13)) ∧ (VB (X_27 22)) ∧ (NB (X_27 6) gn_31) ∧ (VB (X_27 2)) ∧ (0 ≤ (F_26 27).toInt ∧ (F_26 27).toInt ≤ 3000)) ∧ (F_26 27).toInt = 0 := ⟨⟨⟨D2, hf2⟩, by omega, by omega, by omega, by omega, by omega, by omega, hru, hrb, hva, hnb, hv2, by omega⟩, by omega⟩
        exact W.iret (v := (oI r_12.toInt)) hx hb hr (fun t ht hW => ⟨⟨(oI r_12.toInt), (F_26, X_27, J_28, R_29, gf_30, gn_31), rfl, hpost, ⟨by rw [ht]; exact hP, va_K.moved hW.alike hK, hD⟩, by rw [ht]; exact hend.1, by rw [ht]; exact hend.2.1, hend.2.2⟩, hS.F ht⟩) hS.2.2 dX11_read_129
      · refine lv_iconst (v := oI 1) hx hb dX11_read_102 (by decide) ?_
        refine lv_goto (tgt := 107) hx hb dX11_read_103 (by decide) ?_
        refine ccf_vV (As := [.int (oI 1)]) (rest := []) ⟨hx, hb, hml, hown, hts⟩ (c_takeText l dC dI cB cC cI cJ cZ a (va_up (rg 22 22 (rg 15 15 (rg 12 13 (va_up (rg 25 25 (rg 12 12 (rg 16 16 (rg 13 13 F F_2) F_2) F_5) F_8) 28 (oI ((-1)))) F_13) F_13) F_13) 27 (oI 0)) (rg 23 23 (rg 14 17 (rg 12 12 (rg 0 1 (rg 13 13 X X_3) X_14) X_14) X_14) X_14) J_15 R gf gn 1  (by decide) (show 0 ≤ (F_13 15).toInt ∧ (F_13 15).toInt ≤ 2560 from by first | assumption | omega) (show 0 ≤ (F_2 16).toInt ∧ (F_2 16).toInt ≤ 2560 from by first | assumption | omega)  H.size) (cwV 1 hts kX11_read_X11_takeText_89 rfl rfl rfl (by decide +kernel) ⟨Nat.le_of_ble_eq_true rfl, Nat.le_of_ble_eq_true rfl⟩) (va_recv hK hP (ci := 11) (q0 := 11) rfl rfl) hK hNW hP hD hS hA rfl rfl hl.1 (lv_room (Nat.le_of_ble_eq_true rfl)) dX11_read_107 hcs (fun F_33 X_34 J_35 R_36 gf_37 gn_38 hw_39 H locs hP hD hS => ?_)
        replace hw_39 : (∀ k9, (k9 < 24 ∨ k9 = 25 ∨ k9 = 27) → k9 ≠ 15 → F_33 k9 = (va_up (rg 22 22 (rg 15 15 (rg 12 13 (va_up (rg 25 25 (rg 12 12 (rg 16 16 (rg 13 13 F F_2) F_2) F_5) F_8) 28 (oI ((-1)))) F_13) F_13) F_13) 27 (oI 0)) k9) ∧ (∀ k9, (k9 < 24 ∨ k9 = 26) → X_34 k9 = (rg 23 23 (rg 14 17 (rg 12 12 (rg 0 1 (rg 13 13 X X_3) X_14) X_14) X_14) X_14) k9) ∧ J_35 = J_15 ∧ gf_37 = gf ∧ gn_38 = gn ∧ 0 ≤ (F_33 15).toInt ∧ (F_33 15).toInt ≤ 2560 := hw_39
        obtain ⟨tF, tX, tJ, tg, th, hsy⟩ := hw_39
        have m0 : (F_33 0).toInt = (F 0).toInt := congrArg Int32.toInt (tF 0 (by omega) (by omega))
        have m12 : (F_33 12).toInt = (F_13 12).toInt := congrArg Int32.toInt (tF 12 (by omega) (by omega))
        have m19 : (F_33 19).toInt = (F 19).toInt := congrArg Int32.toInt (tF 19 (by omega) (by omega))
        have m20 : (F_33 20).toInt = (F 20).toInt := congrArg Int32.toInt (tF 20 (by omega) (by omega))
        have m23 : (F_33 23).toInt = (F 23).toInt := congrArg Int32.toInt (tF 23 (by omega) (by omega))
        have m27 : (F_33 27).toInt = (oI 0).toInt := congrArg Int32.toInt (tF 27 (by omega) (by omega))
        have y1 : X_34 1 = X_14 1 := tX 1 (by omega)
        have y2 : X_34 2 = X 2 := tX 2 (by omega)
        have y6 : X_34 6 = X 6 := tX 6 (by omega)
        have y12 : X_34 12 = X_14 12 := tX 12 (by omega)
        have y13 : X_34 13 = X_3 13 := tX 13 (by omega)
        have y22 : X_34 22 = X 22 := tX 22 (by omega)
        have hgc : gC gf_37 gn_38 gf gn 0 0 := by rw [tg, th]; exact hgc
        have hf2 : FI (X_34 1) D2 gf_37 (F_33 0).toInt (F_33 12).toInt := by rw [y1, m0, m12, tg]; exact hf2
        have hru : VB (X_34 12) := by rw [y12]; exact hru
        have hva : VB (X_34 22) := by rw [y22]; exact hva
        have hv2 : VB (X_34 2) := by rw [y2]; exact hv2
        have hrb : VB (X_34 13) := by rw [y13]; exact hrb
        have hnb : NB (X_34 6) gn_38 := by rw [y6, th]; exact hnb
        refine lv_goto (tgt := 128) hx hb dX11_read_110 (by decide) ?_
        refine lv_iload_n hx hb dX11_read_128 rfl (lv_at hl 0 rfl) ?_
        refine W.know (fun hsz htot => ?_)
        have hend := gEnd hgc hsz htot
        refine W.widen (k := cg gf gn) (n := sg gf gn) (Nat.le_trans (Nat.le_add_right _ _) hcs.1) (Nat.le_trans (Nat.le_add_right _ _) hcs.2) ?_
        have hpost : ((∃ D9 : Int → Nat, FI (X_34 1) D9 gf_37 (F_33 0).toInt (F_33 12).toInt) ∧ (gf_37 ≤ 67600) ∧ (gn_38 ≤ 63261) ∧ ((gf_37 = 10000 ∨ gf_37 = 67600) ∧ (gn_38 = 3760 ∨ gn_38 = 63261)) ∧ (0 ≤ (F_33 15).toInt ∧ (F_33 15).toInt ≤ 2560) ∧ (0 ≤ (F_33 23).toInt ∧ (F_33 23).toInt ≤ 606) ∧ (0 ≤ (F_33 19).toInt ∧ (F_33 19).toInt ≤ 3000 ∧ 0 ≤ (F_33 20).toInt ∧ (F_33 20).toInt ≤ 3000) ∧ (VB (X_34 12)) ∧ (VB (X_34 13)) ∧ (VB (X_34 22)) ∧ (NB (X_34 6) gn_38) ∧ (VB (X_34 2)) ∧ (0 ≤ (F_33 27).toInt ∧ (F_33 27).toInt ≤ 3000)) ∧ (F_33 27).toInt = 0 := ⟨⟨⟨D2, hf2⟩, by omega, by omega, by omega, by omega, by omega, by omega, hru, hrb, hva, hnb, hv2, by omega⟩, by omega⟩
        exact W.iret (v := (oI r_12.toInt)) hx hb hr (fun t ht hW => ⟨⟨(oI r_12.toInt), (F_33, X_34, J_35, R_36, gf_37, gn_38), rfl, hpost, ⟨by rw [ht]; exact hP, va_K.moved hW.alike hK, hD⟩, by rw [ht]; exact hend.1, by rw [ht]; exact hend.2.1, hend.2.2⟩, hS.F ht⟩) hS.2.2 dX11_read_129
  · refine lv_aload_n hx hb dX11_read_59 rfl (lv_at hl 2 rfl) ?_
    refine cg_11_5 hx hb hts inX11_read_X11 hown hK hP (hts _ lkX11_read_f48) dX11_read_60 ?_
    have h270 : oI 0 = oI 0 := rfl
    refine W.know (fun hsz htot => ?_)
    refine ccg_iV (As := []) (rest := []) ⟨hx, hb, hml, hown, hts⟩ (c_tellText l dC dI cB cC cI cJ cZ a (va_up (rg 22 22 (rg 15 15 (rg 12 13 (va_up (rg 25 25 (rg 12 12 (rg 16 16 (rg 13 13 F F_2) F_2) F_5) F_8) 28 (oI ((-1)))) F_13) F_13) F_13) 27 (oI 0)) (rg 23 23 (rg 14 17 (rg 12 12 (rg 0 1 (rg 13 13 X X_3) X_14) X_14) X_14) X_14) J_15 R gf gn  D2 ((F 0).toInt)  (show gf ≤ 67600 from by first | assumption | omega) (show gn ≤ 63261 from by first | assumption | omega) (show (gf = 10000 ∨ gf = 67600) ∧ (gn = 3760 ∨ gn = 63261) from by first | assumption | omega) (show 0 ≤ (F_13 13).toInt ∧ (F_13 13).toInt ≤ (gn : Int) from by first | assumption | omega) (show 0 ≤ (F_13 15).toInt ∧ (F_13 15).toInt ≤ 2560 from by first | assumption | omega) (show 0 ≤ (F 23).toInt ∧ (F 23).toInt ≤ 606 from by first | assumption | omega) (show 0 ≤ (F 19).toInt ∧ (F 19).toInt ≤ 3000 ∧ 0 ≤ (F 20).toInt ∧ (F 20).toInt ≤ 3000 from by first | assumption | omega) (show VB (X_14 12) from by first | assumption | omega) (show VB (X 22) from by first | assumption | omega) (show NB (X 6) gn from by first | assumption | omega) (show VB (X 2) from by first | assumption | omega) (show 0 ≤ (F_2 16).toInt ∧ (F_2 16).toInt ≤ 2560 from by first | assumption | omega) (show VB (X_3 13) from by first | assumption | omega) (show FI (X_14 1) D2 gf (F 0).toInt (F_13 12).toInt from by assumption) (show (CUT (X_14 1) 0 (F 0).toInt ∧ 0 ≤ (F 0).toInt ∧ (F 0).toInt ≤ (F 0).toInt) from by assumption) (show (F_8 25).toInt = 0 from by first | assumption | omega) H.size (tot H)) (cwV 0 hts kX11_read_X0_tellText_84 rfl rfl rfl (by decide +kernel) ⟨Nat.le_of_ble_eq_true rfl, Nat.le_of_ble_eq_true rfl⟩) (va_recv hK hP (ci := 0) (q0 := 0) rfl rfl) hK hNW hP hD hS hA rfl rfl hl.1 (lv_room (Nat.le_of_ble_eq_true rfl)) dX11_read_63 rfl rfl hsz htot hgc (fun r_40 F_41 X_42 J_43 R_44 gf_45 gn_46 hw_47 H locs cells slots hgc hcs hP hD hS => ?_)
    replace hw_47 : (∃ D9 : Int → Nat, FI (X_42 1) D9 gf_45 (F_41 0).toInt (F_41 12).toInt ∧ (CUT (X_42 1) 0 (F 0).toInt ∧ 0 ≤ (F 0).toInt ∧ (F 0).toInt ≤ (F_41 0).toInt)) ∧ (gf_45 ≤ 67600) ∧ (gn_46 ≤ 63261) ∧ ((gf_45 = 10000 ∨ gf_45 = 67600) ∧ (gn_46 = 3760 ∨ gn_46 = 63261)) ∧ (0 ≤ (F_41 13).toInt ∧ (F_41 13).toInt ≤ (gn_46 : Int)) ∧ (0 ≤ (F_41 15).toInt ∧ (F_41 15).toInt ≤ 2560) ∧ (0 ≤ (F_41 23).toInt ∧ (F_41 23).toInt ≤ 606) ∧ (0 ≤ (F_41 19).toInt ∧ (F_41 19).toInt ≤ 3000 ∧ 0 ≤ (F_41 20).toInt ∧ (F_41 20).toInt ≤ 3000) ∧ (VB (X_42 12)) ∧ (VB (X_42 22)) ∧ (NB (X_42 6) gn_46) ∧ (VB (X_42 2)) ∧ (0 ≤ (F_41 16).toInt ∧ (F_41 16).toInt ≤ 2560) ∧ (VB (X_42 13)) ∧ 0 ≤ (F_41 25).toInt ∧ F_41 27 = oI 0 := hw_47
    obtain ⟨⟨D3, hf2, hk0⟩, hgf, hgn, hg2, hnt, hsy, hst, hms, hru, hva, hnb, hv2, hsb, hrb, ht25, h27⟩ := hw_47
    have i_48 := i32r r_40
    have t27 : (F_41 27).toInt = 0 := by rw [h27]; rfl
    have hbb := FI_b hf2
    refine lv_istore_n (lv' := [(2, .int (oI r_40.toInt)), (1, .int (oI ((F 0).toInt))), (0, .ref (a 11))]) hx hb dX11_read_66 rfl hl (by decide) rfl (fun ls hl => ?_)
    refine lv_aload_n hx hb dX11_read_67 rfl (lv_at hl 2 rfl) ?_
    refine lv_iload_n hx hb dX11_read_68 rfl (lv_at hl 0 rfl) ?_
    refine cz_ne (tgt := 76) hx hb (i32r _) dX11_read_69 (by decide) (fun c_49 => ?_) (fun c_49 => ?_)
    · refine lv_aload_n hx hb dX11_read_76 rfl (lv_at hl 2 rfl) ?_
      refine cg_11_5 hx hb hts inX11_read_X11 hown hK hP (hts _ lkX11_read_f48) dX11_read_77 ?_
      refine cgN_0_11 hx hb hts inX11_read_X0 hown hK hP (va_Nw.use rfl hNW.2.2.2.2.2.2.2.2.2.2.2.2.2.2.2.2.2.2.2.2.2.2.2.1) dX11_read_80 ?_
      have i_50 := i32r (F_41 5)
      refine cp_11_7 hx hb hts inX11_read_X11 hown hK hP hD hS (hts _ lkX11_read_f56) dX11_read_83 (fun H locs hP hD hS => ?_)
      have hP : va_P (dC, dI) vwCl (CW cB cC cI cJ cZ a (va_up F_41 28 (oI ((F_41 5).toInt))) X_42 J_43 R_44 gf_45 gn_46) H := hP
      have hD : va_D A (CW cB cC cI cJ cZ a (va_up F_41 28 (oI ((F_41 5).toInt))) X_42 J_43 R_44 gf_45 gn_46) := hD
      refine lv_iload_n hx hb dX11_read_86 rfl (lv_at hl 0 rfl) ?_
      refine cz_ne (tgt := 113) hx hb (i32r _) dX11_read_87 (by decide) (fun c_51 => ?_) (fun c_51 => ?_)
      · refine lv_aload_n hx hb dX11_read_113 rfl (lv_at hl 2 rfl) ?_
        refine cg_11_2 hx hb hts inX11_read_X11 hown hK hP (hts _ lkX11_read_f23) dX11_read_114 ?_
        refine lv_iload_n hx hb dX11_read_117 rfl (lv_at hl 1 rfl) ?_
        refine cpN_1_3 hx hb hts inX11_read_X1 hown hK hP hD hS (va_Nw.use rfl hNW.2.2.2.2.2.2.2.2.2.2.2.2.2.2.2.2.2.2.2.2.2.2.1) dX11_read_118 (fun H locs hP hD hS => ?_)
        have hP : va_P (dC, dI) vwCl (CW cB cC cI cJ cZ a (va_up (va_up F_41 28 (oI ((F_41 5).toInt))) 0 (oI ((F 0).toInt))) X_42 J_43 R_44 gf_45 gn_46) H := hP
        have hD : va_D A (CW cB cC cI cJ cZ a (va_up (va_up F_41 28 (oI ((F_41 5).toInt))) 0 (oI ((F 0).toInt))) X_42 J_43 R_44 gf_45 gn_46) := hD
        have e_52 : (oI ((F 0).toInt)).toInt = (F 0).toInt := congrArg Int32.toInt (oI_toInt _)
        refine lv_aload_n hx hb dX11_read_121 rfl (lv_at hl 2 rfl) ?_
        refine cg_11_1 hx hb hts inX11_read_X11 hown hK hP (hts _ lkX11_read_f16) dX11_read_122 ?_
        refine ccp_vV (As := []) (rest := []) (gF := fun F9 => rg 15 15 (va_up (va_up F_41 28 (oI ((F_41 5).toInt))) 0 (oI ((F 0).toInt))) F9) (gX := fun X9 => rg 12 12 X_42 X9) ⟨hx, hb, hml, hown, hts⟩ (c_takeBack l dC dI cB cC cI cJ cZ a (va_up (va_up F_41 28 (oI ((F_41 5).toInt))) 0 (oI ((F 0).toInt))) X_42 J_43 R_44 gf_45 gn_46    (show 0 ≤ (F_41 16).toInt ∧ (F_41 16).toInt ≤ 2560 from by first | assumption | omega) (show VB (X_42 12) from by first | assumption | omega) (show VB (X_42 13) from by first | assumption | omega)  H.size) (cwV 0 hts kX11_read_X6_takeBack_93 rfl rfl rfl (by decide +kernel) ⟨Nat.le_of_ble_eq_true rfl, Nat.le_of_ble_eq_true rfl⟩) (va_recv hK hP (ci := 6) (q0 := 6) rfl rfl) hK hNW hP hD hS hA rfl rfl hl.1 (lv_room (Nat.le_of_ble_eq_true rfl)) dX11_read_125 hcs (fun F_53 X_54 hw_55 H locs hP hD hS => ?_)
        replace hw_55 : (0 ≤ (F_53 15).toInt ∧ (F_53 15).toInt ≤ 2560) ∧ VB (X_54 12) := hw_55
        obtain ⟨hsy, hru⟩ := hw_55
        refine lv_iload_n hx hb dX11_read_128 rfl (lv_at hl 0 rfl) ?_
        have hf3 : FI (X_42 1) D3 gf_45 (oI ((F 0).toInt)).toInt (F_41 12).toInt := by first | exact FI_kb hf2 hk0 | (rw [show (oI ((F 0).toInt)).toInt = (F 0).toInt by omega]; exact FI_kb hf2 hk0)
        refine W.know (fun hsz htot => ?_)
        have hend := gEnd hgc hsz htot
        refine W.widen (k := cg gf gn) (n := sg gf gn) (Nat.le_trans (Nat.le_add_right _ _) hcs.1) (Nat.le_trans (Nat.le_add_right _ _) hcs.2) ?_
        have hpost : ((∃ D9 : Int → Nat, FI (X_42 1) D9 gf_45 (oI ((F 0).toInt)).toInt (F_41 12).toInt) ∧ (gf_45 ≤ 67600) ∧ (gn_46 ≤ 63261) ∧ ((gf_45 = 10000 ∨ gf_45 = 67600) ∧ (gn_46 = 3760 ∨ gn_46 = 63261)) ∧ (0 ≤ (F_53 15).toInt ∧ (F_53 15).toInt ≤ 2560) ∧ (0 ≤ (F_41 23).toInt ∧ (F_41 23).toInt ≤ 606) ∧ (0 ≤ (F_41 19).toInt ∧ (F_41 19).toInt ≤ 3000 ∧ 0 ≤ (F_41 20).toInt ∧ (F_41 20).toInt ≤ 3000) ∧ (VB (X_54 12)) ∧ (VB (X_42 13)) ∧ (VB (X_42 22)) ∧ (NB (X_42 6) gn_46) ∧ (VB (X_42 2)) ∧ (0 ≤ (F_41 27).toInt ∧ (F_41 27).toInt ≤ 3000)) ∧ (F_41 27).toInt = 0 := ⟨⟨⟨D3, hf3⟩, by omega, by omega, by omega, by omega, by omega, by omega, hru, hrb, hva, hnb, hv2, by omega⟩, by omega⟩
        exact W.iret (v := (oI r_40.toInt)) hx hb hr (fun t ht hW => ⟨⟨(oI r_40.toInt), (rg 15 15 (va_up (va_up F_41 28 (oI ((F_41 5).toInt))) 0 (oI ((F 0).toInt))) F_53, rg 12 12 X_42 X_54, J_43, R_44, gf_45, gn_46), rfl, hpost, ⟨by rw [ht]; exact hP, va_K.moved hW.alike hK, hD⟩, by rw [ht]; exact hend.1, by rw [ht]; exact hend.2.1, hend.2.2⟩, hS.F ht⟩) hS.2.2 dX11_read_129
      · refine lv_aload_n hx hb dX11_read_90 rfl (lv_at hl 2 rfl) ?_
        refine lv_aload_n hx hb dX11_read_91 rfl (lv_at hl 2 rfl) ?_
        refine cg_11_2 hx hb hts inX11_read_X11 hown hK hP (hts _ lkX11_read_f23) dX11_read_92 ?_
        refine cgN_1_3 hx hb hts inX11_read_X1 hown hK hP (va_Nw.use rfl hNW.2.2.2.2.2.2.2.2.2.2.2.2.2.2.2.2.2.2.2.2.2.2.1) dX11_read_95 ?_
        refine tp_i (y := oI (F_41 0).toInt) rfl ?_
        have i_56 := i32r (F_41 0)
        refine lv_iload_n hx hb dX11_read_98 rfl (lv_at hl 1 rfl) ?_
        refine ci_le (tgt := 106) hx hb (i32r _) (i32r _) dX11_read_99 (by decide) (fun c_57 => ?_) (fun c_57 => ?_)
        · refine lv_iconst (v := oI 0) hx hb dX11_read_106 (by decide) ?_
          refine ccf_vV (As := [.int (oI 0)]) (rest := []) ⟨hx, hb, hml, hown, hts⟩ (c_takeText l dC dI cB cC cI cJ cZ a (va_up F_41 28 (oI ((F_41 5).toInt))) X_42 J_43 R_44 gf_45 gn_46 0  (by decide) (show 0 ≤ (F_41 15).toInt ∧ (F_41 15).toInt ≤ 2560 from by first | assumption | omega) (show 0 ≤ (F_41 16).toInt ∧ (F_41 16).toInt ≤ 2560 from by first | assumption | omega)  H.size) (cwV 1 hts kX11_read_X11_takeText_89 rfl rfl rfl (by decide +kernel) ⟨Nat.le_of_ble_eq_true rfl, Nat.le_of_ble_eq_true rfl⟩) (va_recv hK hP (ci := 11) (q0 := 11) rfl rfl) hK hNW hP hD hS hA rfl rfl hl.1 (lv_room (Nat.le_of_ble_eq_true rfl)) dX11_read_107 hcs (fun F_58 X_59 J_60 R_61 gf_62 gn_63 hw_64 H locs hP hD hS => ?_)
          replace hw_64 : (∀ k9, (k9 < 24 ∨ k9 = 25 ∨ k9 = 27) → k9 ≠ 15 → F_58 k9 = (va_up F_41 28 (oI ((F_41 5).toInt))) k9) ∧ (∀ k9, (k9 < 24 ∨ k9 = 26) → X_59 k9 = X_42 k9) ∧ J_60 = J_43 ∧ gf_62 = gf_45 ∧ gn_63 = gn_46 ∧ 0 ≤ (F_58 15).toInt ∧ (F_58 15).toInt ≤ 2560 := hw_64
          obtain ⟨tF, tX, tJ, tg, th, hsy⟩ := hw_64
          have m0 : (F_58 0).toInt = (F_41 0).toInt := congrArg Int32.toInt (tF 0 (by omega) (by omega))
          have m12 : (F_58 12).toInt = (F_41 12).toInt := congrArg Int32.toInt (tF 12 (by omega) (by omega))
          have m19 : (F_58 19).toInt = (F_41 19).toInt := congrArg Int32.toInt (tF 19 (by omega) (by omega))
          have m20 : (F_58 20).toInt = (F_41 20).toInt := congrArg Int32.toInt (tF 20 (by omega) (by omega))
          have m23 : (F_58 23).toInt = (F_41 23).toInt := congrArg Int32.toInt (tF 23 (by omega) (by omega))
          have m27 : (F_58 27).toInt = (F_41 27).toInt := congrArg Int32.toInt (tF 27 (by omega) (by omega))
          have y1 : X_59 1 = X_42 1 := tX 1 (by omega)
          have y2 : X_59 2 = X_42 2 := tX 2 (by omega)
          have y6 : X_59 6 = X_42 6 := tX 6 (by omega)
          have y12 : X_59 12 = X_42 12 := tX 12 (by omega)
          have y13 : X_59 13 = X_42 13 := tX 13 (by omega)
          have y22 : X_59 22 = X_42 22 := tX 22 (by omega)
          have hgc : gC gf_62 gn_63 gf gn cells slots := by rw [tg, th]; exact hgc
          have hf2 : FI (X_59 1) D3 gf_62 (F_58 0).toInt (F_58 12).toInt := by rw [y1, m0, m12, tg]; exact hf2
          have hru : VB (X_59 12) := by rw [y12]; exact hru
          have hva : VB (X_59 22) := by rw [y22]; exact hva
          have hv2 : VB (X_59 2) := by rw [y2]; exact hv2
          have hrb : VB (X_59 13) := by rw [y13]; exact hrb
          have hnb : NB (X_59 6) gn_63 := by rw [y6, th]; exact hnb
          refine lv_goto (tgt := 128) hx hb dX11_read_110 (by decide) ?_
          refine lv_iload_n hx hb dX11_read_128 rfl (lv_at hl 0 rfl) ?_
          refine W.know (fun hsz htot => ?_)
          have hend := gEnd hgc hsz htot
          refine W.widen (k := cg gf gn) (n := sg gf gn) (Nat.le_trans (Nat.le_add_right _ _) hcs.1) (Nat.le_trans (Nat.le_add_right _ _) hcs.2) ?_
          have hpost : ((∃ D9 : Int → Nat, FI (X_59 1) D9 gf_62 (F_58 0).toInt (F_58 12).toInt) ∧ (gf_62 ≤ 67600) ∧ (gn_63 ≤ 63261) ∧ ((gf_62 = 10000 ∨ gf_62 = 67600) ∧ (gn_63 = 3760 ∨ gn_63 = 63261)) ∧ (0 ≤ (F_58 15).toInt ∧ (F_58 15).toInt ≤ 2560) ∧ (0 ≤ (F_58 23).toInt ∧ (F_58 23).toInt ≤ 606) ∧ (0 ≤ (F_58 19).toInt ∧ (F_58 19).toInt ≤ 3000 ∧ 0 ≤ (F_58 20).toInt ∧ (F_58 20).toInt ≤ 3000) ∧ (VB (X_59 12)) ∧ (VB (X_59 13)) ∧ (VB (X_59 22)) ∧ (NB (X_59 6) gn_63) ∧ (VB (X_59 2)) ∧ (0 ≤ (F_58 27).toInt ∧ (F_58 27).toInt ≤ 3000)) ∧ (F_58 27).toInt = 0 := ⟨⟨⟨D3, hf2⟩, by omega, by omega, by omega, by omega, by omega, by omega, hru, hrb, hva, hnb, hv2, by omega⟩, by omega⟩
          exact W.iret (v := (oI r_40.toInt)) hx hb hr (fun t ht hW => ⟨⟨(oI r_40.toInt), (F_58, X_59, J_60, R_61, gf_62, gn_63), rfl, hpost, ⟨by rw [ht]; exact hP, va_K.moved hW.alike hK, hD⟩, by rw [ht]; exact hend.1, by rw [ht]; exact hend.2.1, hend.2.2⟩, hS.F ht⟩) hS.2.2 dX11_read_129
        · refine lv_iconst (v := oI 1) hx hb dX11_read_102 (by decide) ?_
          refine lv_goto (tgt := 107) hx hb dX11_read_103 (by decide) ?_
          refine ccf_vV (As := [.int (oI 1)]) (rest := []) ⟨hx, hb, hml, hown, hts⟩ (c_takeText l dC dI cB cC cI cJ cZ a (va_up F_41 28 (oI ((F_41 5).toInt))) X_42 J_43 R_44 gf_45 gn_46 1  (by decide) (show 0 ≤ (F_41 15).toInt ∧ (F_41 15).toInt ≤ 2560 from by first | assumption | omega) (show 0 ≤ (F_41 16).toInt ∧ (F_41 16).toInt ≤ 2560 from by first | assumption | omega)  H.size) (cwV 1 hts kX11_read_X11_takeText_89 rfl rfl rfl (by decide +kernel) ⟨Nat.le_of_ble_eq_true rfl, Nat.le_of_ble_eq_true rfl⟩) (va_recv hK hP (ci := 11) (q0 := 11) rfl rfl) hK hNW hP hD hS hA rfl rfl hl.1 (lv_room (Nat.le_of_ble_eq_true rfl)) dX11_read_107 hcs (fun F_65 X_66 J_67 R_68 gf_69 gn_70 hw_71 H locs hP hD hS => ?_)
          replace hw_71 : (∀ k9, (k9 < 24 ∨ k9 = 25 ∨ k9 = 27) → k9 ≠ 15 → F_65 k9 = (va_up F_41 28 (oI ((F_41 5).toInt))) k9) ∧ (∀ k9, (k9 < 24 ∨ k9 = 26) → X_66 k9 = X_42 k9) ∧ J_67 = J_43 ∧ gf_69 = gf_45 ∧ gn_70 = gn_46 ∧ 0 ≤ (F_65 15).toInt ∧ (F_65 15).toInt ≤ 2560 := hw_71
          obtain ⟨tF, tX, tJ, tg, th, hsy⟩ := hw_71
          have m0 : (F_65 0).toInt = (F_41 0).toInt := congrArg Int32.toInt (tF 0 (by omega) (by omega))
          have m12 : (F_65 12).toInt = (F_41 12).toInt := congrArg Int32.toInt (tF 12 (by omega) (by omega))
          have m19 : (F_65 19).toInt = (F_41 19).toInt := congrArg Int32.toInt (tF 19 (by omega) (by omega))
          have m20 : (F_65 20).toInt = (F_41 20).toInt := congrArg Int32.toInt (tF 20 (by omega) (by omega))
          have m23 : (F_65 23).toInt = (F_41 23).toInt := congrArg Int32.toInt (tF 23 (by omega) (by omega))
          have m27 : (F_65 27).toInt = (F_41 27).toInt := congrArg Int32.toInt (tF 27 (by omega) (by omega))
          have y1 : X_66 1 = X_42 1 := tX 1 (by omega)
          have y2 : X_66 2 = X_42 2 := tX 2 (by omega)
          have y6 : X_66 6 = X_42 6 := tX 6 (by omega)
          have y12 : X_66 12 = X_42 12 := tX 12 (by omega)
          have y13 : X_66 13 = X_42 13 := tX 13 (by omega)
          have y22 : X_66 22 = X_42 22 := tX 22 (by omega)
          have hgc : gC gf_69 gn_70 gf gn cells slots := by rw [tg, th]; exact hgc
          have hf2 : FI (X_66 1) D3 gf_69 (F_65 0).toInt (F_65 12).toInt := by rw [y1, m0, m12, tg]; exact hf2
          have hru : VB (X_66 12) := by rw [y12]; exact hru
          have hva : VB (X_66 22) := by rw [y22]; exact hva
          have hv2 : VB (X_66 2) := by rw [y2]; exact hv2
          have hrb : VB (X_66 13) := by rw [y13]; exact hrb
          have hnb : NB (X_66 6) gn_70 := by rw [y6, th]; exact hnb
          refine lv_goto (tgt := 128) hx hb dX11_read_110 (by decide) ?_
          refine lv_iload_n hx hb dX11_read_128 rfl (lv_at hl 0 rfl) ?_
          refine W.know (fun hsz htot => ?_)
          have hend := gEnd hgc hsz htot
          refine W.widen (k := cg gf gn) (n := sg gf gn) (Nat.le_trans (Nat.le_add_right _ _) hcs.1) (Nat.le_trans (Nat.le_add_right _ _) hcs.2) ?_
          have hpost : ((∃ D9 : Int → Nat, FI (X_66 1) D9 gf_69 (F_65 0).toInt (F_65 12).toInt) ∧ (gf_69 ≤ 67600) ∧ (gn_70 ≤ 63261) ∧ ((gf_69 = 10000 ∨ gf_69 = 67600) ∧ (gn_70 = 3760 ∨ gn_70 = 63261)) ∧ (0 ≤ (F_65 15).toInt ∧ (F_65 15).toInt ≤ 2560) ∧ (0 ≤ (F_65 23).toInt ∧ (F_65 23).toInt ≤ 606) ∧ (0 ≤ (F_65 19).toInt ∧ (F_65 19).toInt ≤ 3000 ∧ 0 ≤ (F_65 20).toInt ∧ (F_65 20).toInt ≤ 3000) ∧ (VB (X_66 12)) ∧ (VB (X_66 13)) ∧ (VB (X_66 22)) ∧ (NB (X_66 6) gn_70) ∧ (VB (X_66 2)) ∧ (0 ≤ (F_65 27).toInt ∧ (F_65 27).toInt ≤ 3000)) ∧ (F_65 27).toInt = 0 := ⟨⟨⟨D3, hf2⟩, by omega, by omega, by omega, by omega, by omega, by omega, hru, hrb, hva, hnb, hv2, by omega⟩, by omega⟩
          exact W.iret (v := (oI r_40.toInt)) hx hb hr (fun t ht hW => ⟨⟨(oI r_40.toInt), (F_65, X_66, J_67, R_68, gf_69, gn_70), rfl, hpost, ⟨by rw [ht]; exact hP, va_K.moved hW.alike hK, hD⟩, by rw [ht]; exact hend.1, by rw [ht]; exact hend.2.1, hend.2.2⟩, hS.F ht⟩) hS.2.2 dX11_read_129
    · refine lv_iconst (v := oI (-1)) hx hb dX11_read_72 (by decide) ?_
      refine lv_goto (tgt := 83) hx hb dX11_read_73 (by decide) ?_
      refine cp_11_7 hx hb hts inX11_read_X11 hown hK hP hD hS (hts _ lkX11_read_f56) dX11_read_83 (fun H locs hP hD hS => ?_)
      have hP : va_P (dC, dI) vwCl (CW cB cC cI cJ cZ a (va_up F_41 28 (oI ((-1)))) X_42 J_43 R_44 gf_45 gn_46) H := hP
      have hD : va_D A (CW cB cC cI cJ cZ a (va_up F_41 28 (oI ((-1)))) X_42 J_43 R_44 gf_45 gn_46) := hD
      refine lv_iload_n hx hb dX11_read_86 rfl (lv_at hl 0 rfl) ?_
      refine cz_ne (tgt := 113) hx hb (i32r _) dX11_read_87 (by decide) (fun c_72 => ?_) (fun c_72 => ?_)
      · refine lv_aload_n hx hb dX11_read_113 rfl (lv_at hl 2 rfl) ?_
        refine cg_11_2 hx hb hts inX11_read_X11 hown hK hP (hts _ lkX11_read_f23) dX11_read_114 ?_
        refine lv_iload_n hx hb dX11_read_117 rfl (lv_at hl 1 rfl) ?_
        refine cpN_1_3 hx hb hts inX11_read_X1 hown hK hP hD hS (va_Nw.use rfl hNW.2.2.2.2.2.2.2.2.2.2.2.2.2.2.2.2.2.2.2.2.2.2.1) dX11_read_118 (fun H locs hP hD hS => ?_)
        have hP : va_P (dC, dI) vwCl (CW cB cC cI cJ cZ a (va_up (va_up F_41 28 (oI ((-1)))) 0 (oI ((F 0).toInt))) X_42 J_43 R_44 gf_45 gn_46) H := hP
        have hD : va_D A (CW cB cC cI cJ cZ a (va_up (va_up F_41 28 (oI ((-1)))) 0 (oI ((F 0).toInt))) X_42 J_43 R_44 gf_45 gn_46) := hD
        have e_73 : (oI ((F 0).toInt)).toInt = (F 0).toInt := congrArg Int32.toInt (oI_toInt _)
        refine lv_aload_n hx hb dX11_read_121 rfl (lv_at hl 2 rfl) ?_
        refine cg_11_1 hx hb hts inX11_read_X11 hown hK hP (hts _ lkX11_read_f16) dX11_read_122 ?_
        refine ccp_vV (As := []) (rest := []) (gF := fun F9 => rg 15 15 (va_up (va_up F_41 28 (oI ((-1)))) 0 (oI ((F 0).toInt))) F9) (gX := fun X9 => rg 12 12 X_42 X9) ⟨hx, hb, hml, hown, hts⟩ (c_takeBack l dC dI cB cC cI cJ cZ a (va_up (va_up F_41 28 (oI ((-1)))) 0 (oI ((F 0).toInt))) X_42 J_43 R_44 gf_45 gn_46    (show 0 ≤ (F_41 16).toInt ∧ (F_41 16).toInt ≤ 2560 from by first | assumption | omega) (show VB (X_42 12) from by first | assumption | omega) (show VB (X_42 13) from by first | assumption | omega)  H.size) (cwV 0 hts kX11_read_X6_takeBack_93 rfl rfl rfl (by decide +kernel) ⟨Nat.le_of_ble_eq_true rfl, Nat.le_of_ble_eq_true rfl⟩) (va_recv hK hP (ci := 6) (q0 := 6) rfl rfl) hK hNW hP hD hS hA rfl rfl hl.1 (lv_room (Nat.le_of_ble_eq_true rfl)) dX11_read_125 hcs (fun F_74 X_75 hw_76 H locs hP hD hS => ?_)
        replace hw_76 : (0 ≤ (F_74 15).toInt ∧ (F_74 15).toInt ≤ 2560) ∧ VB (X_75 12) := hw_76
        obtain ⟨hsy, hru⟩ := hw_76
        refine lv_iload_n hx hb dX11_read_128 rfl (lv_at hl 0 rfl) ?_
        have hf3 : FI (X_42 1) D3 gf_45 (oI ((F 0).toInt)).toInt (F_41 12).toInt := by first | exact FI_kb hf2 hk0 | (rw [show (oI ((F 0).toInt)).toInt = (F 0).toInt by omega]; exact FI_kb hf2 hk0)
        refine W.know (fun hsz htot => ?_)
        have hend := gEnd hgc hsz htot
        refine W.widen (k := cg gf gn) (n := sg gf gn) (Nat.le_trans (Nat.le_add_right _ _) hcs.1) (Nat.le_trans (Nat.le_add_right _ _) hcs.2) ?_
        have hpost : ((∃ D9 : Int → Nat, FI (X_42 1) D9 gf_45 (oI ((F 0).toInt)).toInt (F_41 12).toInt) ∧ (gf_45 ≤ 67600) ∧ (gn_46 ≤ 63261) ∧ ((gf_45 = 10000 ∨ gf_45 = 67600) ∧ (gn_46 = 3760 ∨ gn_46 = 63261)) ∧ (0 ≤ (F_74 15).toInt ∧ (F_74 15).toInt ≤ 2560) ∧ (0 ≤ (F_41 23).toInt ∧ (F_41 23).toInt ≤ 606) ∧ (0 ≤ (F_41 19).toInt ∧ (F_41 19).toInt ≤ 3000 ∧ 0 ≤ (F_41 20).toInt ∧ (F_41 20).toInt ≤ 3000) ∧ (VB (X_75 12)) ∧ (VB (X_42 13)) ∧ (VB (X_42 22)) ∧ (NB (X_42 6) gn_46) ∧ (VB (X_42 2)) ∧ (0 ≤ (F_41 27).toInt ∧ (F_41 27).toInt ≤ 3000)) ∧ (F_41 27).toInt = 0 := ⟨⟨⟨D3, hf3⟩, by omega, by omega, by omega, by omega, by omega, by omega, hru, hrb, hva, hnb, hv2, by omega⟩, by omega⟩
        exact W.iret (v := (oI r_40.toInt)) hx hb hr (fun t ht hW => ⟨⟨(oI r_40.toInt), (rg 15 15 (va_up (va_up F_41 28 (oI ((-1)))) 0 (oI ((F 0).toInt))) F_74, rg 12 12 X_42 X_75, J_43, R_44, gf_45, gn_46), rfl, hpost, ⟨by rw [ht]; exact hP, va_K.moved hW.alike hK, hD⟩, by rw [ht]; exact hend.1, by rw [ht]; exact hend.2.1, hend.2.2⟩, hS.F ht⟩) hS.2.2 dX11_read_129
      · refine lv_aload_n hx hb dX11_read_90 rfl (lv_at hl 2 rfl) ?_
        refine lv_aload_n hx hb dX11_read_91 rfl (lv_at hl 2 rfl) ?_
        refine cg_11_2 hx hb hts inX11_read_X11 hown hK hP (hts _ lkX11_read_f23) dX11_read_92 ?_
        refine cgN_1_3 hx hb hts inX11_read_X1 hown hK hP (va_Nw.use rfl hNW.2.2.2.2.2.2.2.2.2.2.2.2.2.2.2.2.2.2.2.2.2.2.1) dX11_read_95 ?_
        refine tp_i (y := oI (F_41 0).toInt) rfl ?_
        have i_77 := i32r (F_41 0)
        refine lv_iload_n hx hb dX11_read_98 rfl (lv_at hl 1 rfl) ?_
        refine ci_le (tgt := 106) hx hb (i32r _) (i32r _) dX11_read_99 (by decide) (fun c_78 => ?_) (fun c_78 => ?_)
        · refine lv_iconst (v := oI 0) hx hb dX11_read_106 (by decide) ?_
          refine ccf_vV (As := [.int (oI 0)]) (rest := []) ⟨hx, hb, hml, hown, hts⟩ (c_takeText l dC dI cB cC cI cJ cZ a (va_up F_41 28 (oI ((-1)))) X_42 J_43 R_44 gf_45 gn_46 0  (by decide) (show 0 ≤ (F_41 15).toInt ∧ (F_41 15).toInt ≤ 2560 from by first | assumption | omega) (show 0 ≤ (F_41 16).toInt ∧ (F_41 16).toInt ≤ 2560 from by first | assumption | omega)  H.size) (cwV 1 hts kX11_read_X11_takeText_89 rfl rfl rfl (by decide +kernel) ⟨Nat.le_of_ble_eq_true rfl, Nat.le_of_ble_eq_true rfl⟩) (va_recv hK hP (ci := 11) (q0 := 11) rfl rfl) hK hNW hP hD hS hA rfl rfl hl.1 (lv_room (Nat.le_of_ble_eq_true rfl)) dX11_read_107 hcs (fun F_79 X_80 J_81 R_82 gf_83 gn_84 hw_85 H locs hP hD hS => ?_)
          replace hw_85 : (∀ k9, (k9 < 24 ∨ k9 = 25 ∨ k9 = 27) → k9 ≠ 15 → F_79 k9 = (va_up F_41 28 (oI ((-1)))) k9) ∧ (∀ k9, (k9 < 24 ∨ k9 = 26) → X_80 k9 = X_42 k9) ∧ J_81 = J_43 ∧ gf_83 = gf_45 ∧ gn_84 = gn_46 ∧ 0 ≤ (F_79 15).toInt ∧ (F_79 15).toInt ≤ 2560 := hw_85
          obtain ⟨tF, tX, tJ, tg, th, hsy⟩ := hw_85
          have m0 : (F_79 0).toInt = (F_41 0).toInt := congrArg Int32.toInt (tF 0 (by omega) (by omega))
          have m12 : (F_79 12).toInt = (F_41 12).toInt := congrArg Int32.toInt (tF 12 (by omega) (by omega))
          have m19 : (F_79 19).toInt = (F_41 19).toInt := congrArg Int32.toInt (tF 19 (by omega) (by omega))
          have m20 : (F_79 20).toInt = (F_41 20).toInt := congrArg Int32.toInt (tF 20 (by omega) (by omega))
          have m23 : (F_79 23).toInt = (F_41 23).toInt := congrArg Int32.toInt (tF 23 (by omega) (by omega))
          have m27 : (F_79 27).toInt = (F_41 27).toInt := congrArg Int32.toInt (tF 27 (by omega) (by omega))
          have y1 : X_80 1 = X_42 1 := tX 1 (by omega)
          have y2 : X_80 2 = X_42 2 := tX 2 (by omega)
          have y6 : X_80 6 = X_42 6 := tX 6 (by omega)
          have y12 : X_80 12 = X_42 12 := tX 12 (by omega)
          have y13 : X_80 13 = X_42 13 := tX 13 (by omega)
          have y22 : X_80 22 = X_42 22 := tX 22 (by omega)
          have hgc : gC gf_83 gn_84 gf gn cells slots := by rw [tg, th]; exact hgc
          have hf2 : FI (X_80 1) D3 gf_83 (F_79 0).toInt (F_79 12).toInt := by rw [y1, m0, m12, tg]; exact hf2
          have hru : VB (X_80 12) := by rw [y12]; exact hru
          have hva : VB (X_80 22) := by rw [y22]; exact hva
          have hv2 : VB (X_80 2) := by rw [y2]; exact hv2
          have hrb : VB (X_80 13) := by rw [y13]; exact hrb
          have hnb : NB (X_80 6) gn_84 := by rw [y6, th]; exact hnb
          refine lv_goto (tgt := 128) hx hb dX11_read_110 (by decide) ?_
          refine lv_iload_n hx hb dX11_read_128 rfl (lv_at hl 0 rfl) ?_
          refine W.know (fun hsz htot => ?_)
          have hend := gEnd hgc hsz htot
          refine W.widen (k := cg gf gn) (n := sg gf gn) (Nat.le_trans (Nat.le_add_right _ _) hcs.1) (Nat.le_trans (Nat.le_add_right _ _) hcs.2) ?_
          have hpost : ((∃ D9 : Int → Nat, FI (X_80 1) D9 gf_83 (F_79 0).toInt (F_79 12).toInt) ∧ (gf_83 ≤ 67600) ∧ (gn_84 ≤ 63261) ∧ ((gf_83 = 10000 ∨ gf_83 = 67600) ∧ (gn_84 = 3760 ∨ gn_84 = 63261)) ∧ (0 ≤ (F_79 15).toInt ∧ (F_79 15).toInt ≤ 2560) ∧ (0 ≤ (F_79 23).toInt ∧ (F_79 23).toInt ≤ 606) ∧ (0 ≤ (F_79 19).toInt ∧ (F_79 19).toInt ≤ 3000 ∧ 0 ≤ (F_79 20).toInt ∧ (F_79 20).toInt ≤ 3000) ∧ (VB (X_80 12)) ∧ (VB (X_80 13)) ∧ (VB (X_80 22)) ∧ (NB (X_80 6) gn_84) ∧ (VB (X_80 2)) ∧ (0 ≤ (F_79 27).toInt ∧ (F_79 27).toInt ≤ 3000)) ∧ (F_79 27).toInt = 0 := ⟨⟨⟨D3, hf2⟩, by omega, by omega, by omega, by omega, by omega, by omega, hru, hrb, hva, hnb, hv2, by omega⟩, by omega⟩
          exact W.iret (v := (oI r_40.toInt)) hx hb hr (fun t ht hW => ⟨⟨(oI r_40.toInt), (F_79, X_80, J_81, R_82, gf_83, gn_84), rfl, hpost, ⟨by rw [ht]; exact hP, va_K.moved hW.alike hK, hD⟩, by rw [ht]; exact hend.1, by rw [ht]; exact hend.2.1, hend.2.2⟩, hS.F ht⟩) hS.2.2 dX11_read_129
        · refine lv_iconst (v := oI 1) hx hb dX11_read_102 (by decide) ?_
          refine lv_goto (tgt := 107) hx hb dX11_read_103 (by decide) ?_
          refine ccf_vV (As := [.int (oI 1)]) (rest := []) ⟨hx, hb, hml, hown, hts⟩ (c_takeText l dC dI cB cC cI cJ cZ a (va_up F_41 28 (oI ((-1)))) X_42 J_43 R_44 gf_45 gn_46 1  (by decide) (show 0 ≤ (F_41 15).toInt ∧ (F_41 15).toInt ≤ 2560 from by first | assumption | omega) (show 0 ≤ (F_41 16).toInt ∧ (F_41 16).toInt ≤ 2560 from by first | assumption | omega)  H.size) (cwV 1 hts kX11_read_X11_takeText_89 rfl rfl rfl (by decide +kernel) ⟨Nat.le_of_ble_eq_true rfl, Nat.le_of_ble_eq_true rfl⟩) (va_recv hK hP (ci := 11) (q0 := 11) rfl rfl) hK hNW hP hD hS hA rfl rfl hl.1 (lv_room (Nat.le_of_ble_eq_true rfl)) dX11_read_107 hcs (fun F_86 X_87 J_88 R_89 gf_90 gn_91 hw_92 H locs hP hD hS => ?_)
          replace hw_92 : (∀ k9, (k9 < 24 ∨ k9 = 25 ∨ k9 = 27) → k9 ≠ 15 → F_86 k9 = (va_up F_41 28 (oI ((-1)))) k9) ∧ (∀ k9, (k9 < 24 ∨ k9 = 26) → X_87 k9 = X_42 k9) ∧ J_88 = J_43 ∧ gf_90 = gf_45 ∧ gn_91 = gn_46 ∧ 0 ≤ (F_86 15).toInt ∧ (F_86 15).toInt ≤ 2560 := hw_92
          obtain ⟨tF, tX, tJ, tg, th, hsy⟩ := hw_92
          have m0 : (F_86 0).toInt = (F_41 0).toInt := congrArg Int32.toInt (tF 0 (by omega) (by omega))
          have m12 : (F_86 12).toInt = (F_41 12).toInt := congrArg Int32.toInt (tF 12 (by omega) (by omega))
          have m19 : (F_86 19).toInt = (F_41 19).toInt := congrArg Int32.toInt (tF 19 (by omega) (by omega))
          have m20 : (F_86 20).toInt = (F_41 20).toInt := congrArg Int32.toInt (tF 20 (by omega) (by omega))
          have m23 : (F_86 23).toInt = (F_41 23).toInt := congrArg Int32.toInt (tF 23 (by omega) (by omega))
          have m27 : (F_86 27).toInt = (F_41 27).toInt := congrArg Int32.toInt (tF 27 (by omega) (by omega))
          have y1 : X_87 1 = X_42 1 := tX 1 (by omega)
          have y2 : X_87 2 = X_42 2 := tX 2 (by omega)
          have y6 : X_87 6 = X_42 6 := tX 6 (by omega)
          have y12 : X_87 12 = X_42 12 := tX 12 (by omega)
          have y13 : X_87 13 = X_42 13 := tX 13 (by omega)
          have y22 : X_87 22 = X_42 22 := tX 22 (by omega)
          have hgc : gC gf_90 gn_91 gf gn cells slots := by rw [tg, th]; exact hgc
          have hf2 : FI (X_87 1) D3 gf_90 (F_86 0).toInt (F_86 12).toInt := by rw [y1, m0, m12, tg]; exact hf2
          have hru : VB (X_87 12) := by rw [y12]; exact hru
          have hva : VB (X_87 22) := by rw [y22]; exact hva
          have hv2 : VB (X_87 2) := by rw [y2]; exact hv2
          have hrb : VB (X_87 13) := by rw [y13]; exact hrb
          have hnb : NB (X_87 6) gn_91 := by rw [y6, th]; exact hnb
          refine lv_goto (tgt := 128) hx hb dX11_read_110 (by decide) ?_
          refine lv_iload_n hx hb dX11_read_128 rfl (lv_at hl 0 rfl) ?_
          refine W.know (fun hsz htot => ?_)
          have hend := gEnd hgc hsz htot
          refine W.widen (k := cg gf gn) (n := sg gf gn) (Nat.le_trans (Nat.le_add_right _ _) hcs.1) (Nat.le_trans (Nat.le_add_right _ _) hcs.2) ?_
          have hpost : ((∃ D9 : Int → Nat, FI (X_87 1) D9 gf_90 (F_86 0).toInt (F_86 12).toInt) ∧ (gf_90 ≤ 67600) ∧ (gn_91 ≤ 63261) ∧ ((gf_90 = 10000 ∨ gf_90 = 67600) ∧ (gn_91 = 3760 ∨ gn_91 = 63261)) ∧ (0 ≤ (F_86 15).toInt ∧ (F_86 15).toInt ≤ 2560) ∧ (0 ≤ (F_86 23).toInt ∧ (F_86 23).toInt ≤ 606) ∧ (0 ≤ (F_86 19).toInt ∧ (F_86 19).toInt ≤ 3000 ∧ 0 ≤ (F_86 20).toInt ∧ (F_86 20).toInt ≤ 3000) ∧ (VB (X_87 12)) ∧ (VB (X_87 13)) ∧ (VB (X_87 22)) ∧ (NB (X_87 6) gn_91) ∧ (VB (X_87 2)) ∧ (0 ≤ (F_86 27).toInt ∧ (F_86 27).toInt ≤ 3000)) ∧ (F_86 27).toInt = 0 := ⟨⟨⟨D3, hf2⟩, by omega, by omega, by omega, by omega, by omega, by omega, hru, hrb, hva, hnb, hv2, by omega⟩, by omega⟩
          exact W.iret (v := (oI r_40.toInt)) hx hb hr (fun t ht hW => ⟨⟨(oI r_40.toInt), (F_86, X_87, J_88, R_89, gf_90, gn_91), rfl, hpost, ⟨by rw [ht]; exact hP, va_K.moved hW.alike hK, hD⟩, by rw [ht]; exact hend.1, by rw [ht]; exact hend.2.1, hend.2.2⟩, hS.F ht⟩) hS.2.2 dX11_read_129
