def oX12_beginText : List Cond := [Cond.fieldLink RX12 402 "MacroScopesModel" "staying" "I", Cond.fieldLink RX12 196 "MacroScopesModel" "forms" "I", Cond.fieldLink RX12 405 "MacroScopesModel" "stayingParts" "I", Cond.fieldLink RX12 220 "MacroScopesModel" "partCount" "I", Cond.fieldLink RX12 374 "MacroScopesModel" "aliases" "I", Cond.fieldLink RX12 162 "MacroScopesModel" "environments" "I", Cond.fieldLink RX12 288 "MacroScopesModel" "bindings" "I", Cond.fieldLink RX12 54 "MacroScopesModel" "bindingFrom" "[I", Cond.fieldLink RX12 297 "MacroScopesModel" "variables" "I", Cond.fieldLink RX12 345 "MacroScopesModel" "uses" "I", Cond.fieldLink RX12 279 "MacroScopesModel" "binders" "I", Cond.fieldLink RX12 223 "MacroScopesModel" "toldSize" "I", Cond.fieldLink RX12 236 "MacroScopesModel" "fault" "I", Cond.fieldLink RX12 13 "MacroScopesModel" "place" "I"]
def vX12_beginText : List Cond := .code yX12_beginText cX12_beginText 1 none :: (oX12_beginText ++ (wsX120))
theorem lkX12_beginText_f402 : Cond.fieldLink RX12 402 "MacroScopesModel" "staying" "I" ∈ vX12_beginText := List.mem_cons_of_mem _ (List.mem_append_left _ (List.mem_of_getElem? (i := 0) rfl))
theorem lkX12_beginText_f196 : Cond.fieldLink RX12 196 "MacroScopesModel" "forms" "I" ∈ vX12_beginText := List.mem_cons_of_mem _ (List.mem_append_left _ (List.mem_of_getElem? (i := 1) rfl))
theorem lkX12_beginText_f405 : Cond.fieldLink RX12 405 "MacroScopesModel" "stayingParts" "I" ∈ vX12_beginText := List.mem_cons_of_mem _ (List.mem_append_left _ (List.mem_of_getElem? (i := 2) rfl))
theorem lkX12_beginText_f220 : Cond.fieldLink RX12 220 "MacroScopesModel" "partCount" "I" ∈ vX12_beginText := List.mem_cons_of_mem _ (List.mem_append_left _ (List.mem_of_getElem? (i := 3) rfl))
theorem lkX12_beginText_f374 : Cond.fieldLink RX12 374 "MacroScopesModel" "aliases" "I" ∈ vX12_beginText := List.mem_cons_of_mem _ (List.mem_append_left _ (List.mem_of_getElem? (i := 4) rfl))
theorem lkX12_beginText_f162 : Cond.fieldLink RX12 162 "MacroScopesModel" "environments" "I" ∈ vX12_beginText := List.mem_cons_of_mem _ (List.mem_append_left _ (List.mem_of_getElem? (i := 5) rfl))
theorem lkX12_beginText_f288 : Cond.fieldLink RX12 288 "MacroScopesModel" "bindings" "I" ∈ vX12_beginText := List.mem_cons_of_mem _ (List.mem_append_left _ (List.mem_of_getElem? (i := 6) rfl))
theorem lkX12_beginText_f54 : Cond.fieldLink RX12 54 "MacroScopesModel" "bindingFrom" "[I" ∈ vX12_beginText := List.mem_cons_of_mem _ (List.mem_append_left _ (List.mem_of_getElem? (i := 7) rfl))
theorem lkX12_beginText_f297 : Cond.fieldLink RX12 297 "MacroScopesModel" "variables" "I" ∈ vX12_beginText := List.mem_cons_of_mem _ (List.mem_append_left _ (List.mem_of_getElem? (i := 8) rfl))
theorem lkX12_beginText_f345 : Cond.fieldLink RX12 345 "MacroScopesModel" "uses" "I" ∈ vX12_beginText := List.mem_cons_of_mem _ (List.mem_append_left _ (List.mem_of_getElem? (i := 9) rfl))
theorem lkX12_beginText_f279 : Cond.fieldLink RX12 279 "MacroScopesModel" "binders" "I" ∈ vX12_beginText := List.mem_cons_of_mem _ (List.mem_append_left _ (List.mem_of_getElem? (i := 10) rfl))
theorem lkX12_beginText_f223 : Cond.fieldLink RX12 223 "MacroScopesModel" "toldSize" "I" ∈ vX12_beginText := List.mem_cons_of_mem _ (List.mem_append_left _ (List.mem_of_getElem? (i := 11) rfl))
theorem lkX12_beginText_f236 : Cond.fieldLink RX12 236 "MacroScopesModel" "fault" "I" ∈ vX12_beginText := List.mem_cons_of_mem _ (List.mem_append_left _ (List.mem_of_getElem? (i := 12) rfl))
theorem lkX12_beginText_f13 : Cond.fieldLink RX12 13 "MacroScopesModel" "place" "I" ∈ vX12_beginText := List.mem_cons_of_mem _ (List.mem_append_left _ (List.mem_of_getElem? (i := 13) rfl))
theorem inX12_beginText : ∀ w ∈ wsX120, w ∈ vX12_beginText := fun w h => List.mem_cons_of_mem _ (List.mem_append_right _ (h))
def oX12_read : List Cond := [Cond.fieldLink RX12 28 "MacroScopesModel" "definedBefore" "[I", Cond.fieldLink RX12 25 "MacroScopesModel" "defined" "[I", Cond.fieldLink RX12 236 "MacroScopesModel" "fault" "I", Cond.fieldLink RX12 85 "MacroScopesModel" "waiting" "[I", Cond.methodLink RX12 415 yX12_top, Cond.instanceMethod yX12_top, Cond.selects RX12 yX12_top yX12_top, Cond.initialized RX12, Cond.fieldLink RX12 13 "MacroScopesModel" "place" "I", Cond.fieldLink RX12 223 "MacroScopesModel" "toldSize" "I", Cond.fieldLink RX12 82 "MacroScopesModel" "kept" "[B", Cond.fieldLink RX12 79 "MacroScopesModel" "told" "[B", Cond.fieldLink RX12 390 "MacroScopesModel" "ruleSize" "I", Cond.fieldLink RX12 418 "MacroScopesModel" "keptSize" "I", Cond.fieldLink RX12 345 "MacroScopesModel" "uses" "I", Cond.fieldLink RX12 421 "MacroScopesModel" "keptUses" "I", Cond.fieldLink RX12 297 "MacroScopesModel" "variables" "I", Cond.fieldLink RX12 424 "MacroScopesModel" "keptVariables" "I", Cond.fieldLink RX12 427 "MacroScopesModel" "keptTops" "I", Cond.methodLink RX12 430 yX12_stay, Cond.instanceMethod yX12_stay, Cond.selects RX12 yX12_stay yX12_stay, Cond.fieldLink RX12 168 "MacroScopesModel" "thrown" "I", Cond.methodLink RX12 408 yX12_beginText, Cond.instanceMethod yX12_beginText, Cond.selects RX12 yX12_beginText yX12_beginText, Cond.methodLink RX12 411 yX12_parse, Cond.instanceMethod yX12_parse, Cond.selects RX12 yX12_parse yX12_parse, Cond.fieldLink RX12 171 "MacroScopesModel" "length" "I", Cond.fieldLink RX12 203 "MacroScopesModel" "waits" "I"]
def vX12_read : List Cond := .code yX12_read cX12_read 5 (some .int) :: (oX12_read ++ (vX12_top ++ (vX12_stay ++ (vX12_beginText ++ (vX12_parse ++ (wsX120))))))
theorem lkX12_read_f28 : Cond.fieldLink RX12 28 "MacroScopesModel" "definedBefore" "[I" ∈ vX12_read := List.mem_cons_of_mem _ (List.mem_append_left _ (List.mem_of_getElem? (i := 0) rfl))
theorem lkX12_read_f25 : Cond.fieldLink RX12 25 "MacroScopesModel" "defined" "[I" ∈ vX12_read := List.mem_cons_of_mem _ (List.mem_append_left _ (List.mem_of_getElem? (i := 1) rfl))
theorem lkX12_read_f236 : Cond.fieldLink RX12 236 "MacroScopesModel" "fault" "I" ∈ vX12_read := List.mem_cons_of_mem _ (List.mem_append_left _ (List.mem_of_getElem? (i := 2) rfl))
theorem lkX12_read_f85 : Cond.fieldLink RX12 85 "MacroScopesModel" "waiting" "[I" ∈ vX12_read := List.mem_cons_of_mem _ (List.mem_append_left _ (List.mem_of_getElem? (i := 3) rfl))
theorem lkX12_read_f13 : Cond.fieldLink RX12 13 "MacroScopesModel" "place" "I" ∈ vX12_read := List.mem_cons_of_mem _ (List.mem_append_left _ (List.mem_of_getElem? (i := 8) rfl))
theorem lkX12_read_f223 : Cond.fieldLink RX12 223 "MacroScopesModel" "toldSize" "I" ∈ vX12_read := List.mem_cons_of_mem _ (List.mem_append_left _ (List.mem_of_getElem? (i := 9) rfl))
theorem lkX12_read_f82 : Cond.fieldLink RX12 82 "MacroScopesModel" "kept" "[B" ∈ vX12_read := List.mem_cons_of_mem _ (List.mem_append_left _ (List.mem_of_getElem? (i := 10) rfl))
theorem lkX12_read_f79 : Cond.fieldLink RX12 79 "MacroScopesModel" "told" "[B" ∈ vX12_read := List.mem_cons_of_mem _ (List.mem_append_left _ (List.mem_of_getElem? (i := 11) rfl))
theorem lkX12_read_f390 : Cond.fieldLink RX12 390 "MacroScopesModel" "ruleSize" "I" ∈ vX12_read := List.mem_cons_of_mem _ (List.mem_append_left _ (List.mem_of_getElem? (i := 12) rfl))
theorem lkX12_read_f418 : Cond.fieldLink RX12 418 "MacroScopesModel" "keptSize" "I" ∈ vX12_read := List.mem_cons_of_mem _ (List.mem_append_left _ (List.mem_of_getElem? (i := 13) rfl))
theorem lkX12_read_f345 : Cond.fieldLink RX12 345 "MacroScopesModel" "uses" "I" ∈ vX12_read := List.mem_cons_of_mem _ (List.mem_append_left _ (List.mem_of_getElem? (i := 14) rfl))
theorem lkX12_read_f421 : Cond.fieldLink RX12 421 "MacroScopesModel" "keptUses" "I" ∈ vX12_read := List.mem_cons_of_mem _ (List.mem_append_left _ (List.mem_of_getElem? (i := 15) rfl))
theorem lkX12_read_f297 : Cond.fieldLink RX12 297 "MacroScopesModel" "variables" "I" ∈ vX12_read := List.mem_cons_of_mem _ (List.mem_append_left _ (List.mem_of_getElem? (i := 16) rfl))
theorem lkX12_read_f424 : Cond.fieldLink RX12 424 "MacroScopesModel" "keptVariables" "I" ∈ vX12_read := List.mem_cons_of_mem _ (List.mem_append_left _ (List.mem_of_getElem? (i := 17) rfl))
theorem lkX12_read_f427 : Cond.fieldLink RX12 427 "MacroScopesModel" "keptTops" "I" ∈ vX12_read := List.mem_cons_of_mem _ (List.mem_append_left _ (List.mem_of_getElem? (i := 18) rfl))
theorem lkX12_read_f168 : Cond.fieldLink RX12 168 "MacroScopesModel" "thrown" "I" ∈ vX12_read := List.mem_cons_of_mem _ (List.mem_append_left _ (List.mem_of_getElem? (i := 22) rfl))
theorem lkX12_read_f171 : Cond.fieldLink RX12 171 "MacroScopesModel" "length" "I" ∈ vX12_read := List.mem_cons_of_mem _ (List.mem_append_left _ (List.mem_of_getElem? (i := 29) rfl))
theorem lkX12_read_f203 : Cond.fieldLink RX12 203 "MacroScopesModel" "waits" "I" ∈ vX12_read := List.mem_cons_of_mem _ (List.mem_append_left _ (List.mem_of_getElem? (i := 30) rfl))
theorem inX12_read : ∀ w ∈ wsX120, w ∈ vX12_read := fun w h => List.mem_cons_of_mem _ (List.mem_append_right _ (List.mem_append_right _ (List.mem_append_right _ (List.mem_append_right _ (List.mem_append_right _ (h))))))
theorem kX12_read_X12_top_415 : GoodIn vX12_read (wsV RX12 415 RX12 yX12_top vX12_top) := goodIn_sub (fun w h => (List.mem_append.mp h).elim (fun h => List.mem_cons_of_mem _ (List.mem_append_left _ ((by decide +kernel : ∀ w ∈ ([.methodLink RX12 415 yX12_top, .instanceMethod yX12_top, .selects RX12 yX12_top yX12_top, .initialized RX12] : List Cond), w ∈ oX12_read) w h))) (fun h => List.mem_cons_of_mem _ (List.mem_append_right _ (List.mem_append_left _ (h))))) (by decide +kernel)
theorem kX12_read_X12_stay_430 : GoodIn vX12_read (wsV RX12 430 RX12 yX12_stay vX12_stay) := goodIn_sub (fun w h => (List.mem_append.mp h).elim (fun h => List.mem_cons_of_mem _ (List.mem_append_left _ ((by decide +kernel : ∀ w ∈ ([.methodLink RX12 430 yX12_stay, .instanceMethod yX12_stay, .selects RX12 yX12_stay yX12_stay, .initialized RX12] : List Cond), w ∈ oX12_read) w h))) (fun h => List.mem_cons_of_mem _ (List.mem_append_right _ (List.mem_append_right _ (List.mem_append_left _ (h)))))) (by decide +kernel)
theorem kX12_read_X12_beginText_408 : GoodIn vX12_read (wsV RX12 408 RX12 yX12_beginText vX12_beginText) := goodIn_sub (fun w h => (List.mem_append.mp h).elim (fun h => List.mem_cons_of_mem _ (List.mem_append_left _ ((by decide +kernel : ∀ w ∈ ([.methodLink RX12 408 yX12_beginText, .instanceMethod yX12_beginText, .selects RX12 yX12_beginText yX12_beginText, .initialized RX12] : List Cond), w ∈ oX12_read) w h))) (fun h => List.mem_cons_of_mem _ (List.mem_append_right _ (List.mem_append_right _ (List.mem_append_right _ (List.mem_append_left _ (h))))))) (by decide +kernel)
theorem kX12_read_X12_parse_411 : GoodIn vX12_read (wsV RX12 411 RX12 yX12_parse vX12_parse) := goodIn_sub (fun w h => (List.mem_append.mp h).elim (fun h => List.mem_cons_of_mem _ (List.mem_append_left _ ((by decide +kernel : ∀ w ∈ ([.methodLink RX12 411 yX12_parse, .instanceMethod yX12_parse, .selects RX12 yX12_parse yX12_parse, .initialized RX12] : List Cond), w ∈ oX12_read) w h))) (fun h => List.mem_cons_of_mem _ (List.mem_append_right _ (List.mem_append_right _ (List.mem_append_right _ (List.mem_append_right _ (List.mem_append_left _ (h)))))))) (by decide +kernel)
set_option maxHeartbeats 4000000 in
set_option maxRecDepth 100000 in
/-- beginText -/
theorem m_beginText (l : Launch) (dC : Nat → ClassId) (dI : Nat → Nat → Nat) (cB cC cI cJ cZ : ClassId) (z0 : Nat) (R : Nat → Nat) (pl : Int32) (N : Nat → Nat) (G : Nat → Nat → Nat) (B : Nat → Nat → Int32)   (s0 : Nat) : Met l yX12_beginText vX12_beginText { frames := 0, cells := 0, slots := 0, locals := 0 } (va_Pc [.ref z0] (mPre dC dI cB cC cI cJ cZ z0 R pl N G B s0)) (va_Qv (fun u : ((Nat → Nat) × (Nat → Nat → Nat) × (Nat → Nat → Int32) × Int32) => match u with | (N1, G1, B1, pl1) => (∀ k, k ≠ 14 → k ≠ 15 → k ≠ 20 → k ≠ 23 → k ≠ 27 → k ≠ 34 → k ≠ 35 → k ≠ 36 → k ≠ 38 → k ≠ 33 → N1 k = N k) ∧ N1 14 = N 16 ∧ N1 15 = N 17 ∧ N1 23 = 1 ∧ N1 20 = 0 ∧ N1 27 = 0 ∧ N1 34 = 0 ∧ N1 35 = 0 ∧ N1 36 = 0 ∧ N1 38 = 0 ∧ N1 33 = 0 ∧ G1 = va_up G 22 (va_up (G 22) 1 0) ∧ B1 = B) (mPost dC dI cB cC cI cJ cZ z0 R (va_A (MW cB cC cI cJ cZ z0 R pl N G B) s0)) (va_A (MW cB cC cI cJ cZ z0 R pl N G B) s0)) 0 0 (va_A (MW cB cC cI cJ cZ z0 R pl N G B) s0) := by
  refine Met.ofW (cc := cX12_beginText) (maxL := 1) (ret := none) (by decide) rfl ?_
  intro p e s m args below meth c s₁ B9 hml hv
  obtain ⟨rfl, hsz, hP, hK, hD0⟩ := hv
  have hx := B9.exec
  have hb := B9.bytes
  have hr := B9.returns
  have hts := atoms_spec (ws := vX12_beginText) B9.pre
  have hown : s.vm.findClass RX12 = some m.cls := findClass_of_methodNamed B9.named
  have hlocks := B9.notSynchronized
  subst hsz
  have hD := hD0.self (sz := s.heap.size)
  generalize hAe : va_A (MW cB cC cI cJ cZ z0 R pl N G B) s.heap.size = A at hD ⊢
  have hA : ∀ q : Nat, s.heap.size ≤ q → A q := fun q h => by rw [← hAe]; exact Or.inr h
  have hS : va_S A s.heap s.heap [] := va_S.rf
  have hcs : 0 + 0 ≤ (0 : Nat) ∧ 0 + 0 ≤ (0 : Nat) := ⟨Nat.le_refl 0, Nat.le_refl 0⟩
  have hl := lv_entry ([.ref z0]) (n := 1) (Nat.le_of_ble_eq_true rfl)
  rw [lg_entry_eq]
  generalize (lg_sl ([.ref z0]) ++ List.replicate (1 - (lg_sl ([.ref z0])).length) Slot.unset).toArray = ls at hl ⊢
  have hl : lv_has ls 1 [(0, .ref z0)] := hl
  refine lv_aload_n hx hb dX12_beginText_0 rfl (lv_at hl 0 rfl) ?_
  refine lv_aload_n hx hb dX12_beginText_1 rfl (lv_at hl 0 rfl) ?_
  refine mg_16 hx hb hts inX12_beginText hown hK hP (hts _ lkX12_beginText_f402) dX12_beginText_2 ?_
  refine mp_14 hx hb hts inX12_beginText hown hK hP hD hS (hts _ lkX12_beginText_f196) dX12_beginText_5 (fun H locs hP hD hS => ?_)
  refine lv_aload_n hx hb dX12_beginText_8 rfl (lv_at hl 0 rfl) ?_
  refine lv_aload_n hx hb dX12_beginText_9 rfl (lv_at hl 0 rfl) ?_
  refine mg_17 hx hb hts inX12_beginText hown hK hP (hts _ lkX12_beginText_f405) dX12_beginText_10 ?_
  refine tp_i (y := nI (N 17)) rfl ?_
  refine mp_15 hx hb hts inX12_beginText hown hK hP hD hS (hts _ lkX12_beginText_f220) dX12_beginText_13 (fun H locs hP hD hS => ?_)
  refine lv_aload_n hx hb dX12_beginText_16 rfl (lv_at hl 0 rfl) ?_
  refine lv_iconst (v := nI 0) hx hb dX12_beginText_17 (by decide) ?_
  refine mp_20 hx hb hts inX12_beginText hown hK hP hD hS (hts _ lkX12_beginText_f374) dX12_beginText_18 (fun H locs hP hD hS => ?_)
  refine lv_aload_n hx hb dX12_beginText_21 rfl (lv_at hl 0 rfl) ?_
  refine lv_iconst (v := nI 1) hx hb dX12_beginText_22 (by decide) ?_
  refine mp_23 hx hb hts inX12_beginText hown hK hP hD hS (hts _ lkX12_beginText_f162) dX12_beginText_23 (fun H locs hP hD hS => ?_)
  refine lv_aload_n hx hb dX12_beginText_26 rfl (lv_at hl 0 rfl) ?_
  refine lv_iconst (v := nI 0) hx hb dX12_beginText_27 (by decide) ?_
  refine mp_27 hx hb hts inX12_beginText hown hK hP hD hS (hts _ lkX12_beginText_f288) dX12_beginText_28 (fun H locs hP hD hS => ?_)
  refine lv_aload_n hx hb dX12_beginText_31 rfl (lv_at hl 0 rfl) ?_
  refine mg_22 hx hb hts inX12_beginText hown hK hP (hts _ lkX12_beginText_f54) dX12_beginText_32 ?_
  refine lv_iconst (v := nI 1) hx hb dX12_beginText_35 (by decide) ?_
  refine lv_iconst (v := nI 0) hx hb dX12_beginText_36 (by decide) ?_
  refine ms_22 hx hb hK hP hD hS (by omega) dX12_beginText_37 (fun H locs hP hD hS => ?_)
  refine lv_aload_n hx hb dX12_beginText_38 rfl (lv_at hl 0 rfl) ?_
  refine lv_iconst (v := nI 0) hx hb dX12_beginText_39 (by decide) ?_
  refine mp_34 hx hb hts inX12_beginText hown hK hP hD hS (hts _ lkX12_beginText_f297) dX12_beginText_40 (fun H locs hP hD hS => ?_)
  refine lv_aload_n hx hb dX12_beginText_43 rfl (lv_at hl 0 rfl) ?_
  refine lv_iconst (v := nI 0) hx hb dX12_beginText_44 (by decide) ?_
  refine mp_35 hx hb hts inX12_beginText hown hK hP hD hS (hts _ lkX12_beginText_f345) dX12_beginText_45 (fun H locs hP hD hS => ?_)
  refine lv_aload_n hx hb dX12_beginText_48 rfl (lv_at hl 0 rfl) ?_
  refine lv_iconst (v := nI 0) hx hb dX12_beginText_49 (by decide) ?_
  refine mp_36 hx hb hts inX12_beginText hown hK hP hD hS (hts _ lkX12_beginText_f279) dX12_beginText_50 (fun H locs hP hD hS => ?_)
  refine lv_aload_n hx hb dX12_beginText_53 rfl (lv_at hl 0 rfl) ?_
  refine lv_iconst (v := nI 0) hx hb dX12_beginText_54 (by decide) ?_
  refine mp_38 hx hb hts inX12_beginText hown hK hP hD hS (hts _ lkX12_beginText_f223) dX12_beginText_55 (fun H locs hP hD hS => ?_)
  refine lv_aload_n hx hb dX12_beginText_58 rfl (lv_at hl 0 rfl) ?_
  refine lv_iconst (v := nI 0) hx hb dX12_beginText_59 (by decide) ?_
  refine mp_33 hx hb hts inX12_beginText hown hK hP hD hS (hts _ lkX12_beginText_f236) dX12_beginText_60 (fun H locs hP hD hS => ?_)
  refine lv_aload_n hx hb dX12_beginText_63 rfl (lv_at hl 0 rfl) ?_
  refine lv_iconst (v := nI 0 - 1) hx hb dX12_beginText_64 (by decide) ?_
  refine mp_3 hx hb hts inX12_beginText hown hK hP hD hS (hts _ lkX12_beginText_f13) dX12_beginText_65 (fun H locs hP hD hS => ?_)
  exact W.vret hx hb hr (fun t ht hW => ⟨⟨(va_up (va_up (va_up (va_up (va_up (va_up (va_up (va_up (va_up (va_up N 14 (N 16)) 15 (N 17)) 20 0) 23 1) 27 0) 34 0) 35 0) 36 0) 38 0) 33 0, va_up G 22 (va_up (G 22) 1 0), B, (nI 0 - 1)), rfl, ⟨fun k a1 a2 a3 a4 a5 a6 a7 a8 a9 a10 => by rw [va_up_ne _ _ a10, va_up_ne _ _ a9, va_up_ne _ _ a8, va_up_ne _ _ a7, va_up_ne _ _ a6, va_up_ne _ _ a5, va_up_ne _ _ a4, va_up_ne _ _ a3, va_up_ne _ _ a2, va_up_ne _ _ a1], rfl, rfl, rfl, rfl, rfl, rfl, rfl, rfl, rfl, rfl, rfl, rfl⟩, by rw [ht]; exact hP, va_K.moved hW.alike hK, hD⟩, hS.F ht⟩) hS.2.2 dX12_beginText_68

set_option maxHeartbeats 4000000 in
set_option maxRecDepth 100000 in
theorem lp_rd1 {p : Program} {l : Launch} {e : Env} {s : State} {m : MethodId} {args : Array Value} {below : List Frame} {meth : Method} {c : Code} {Q : State → Prop} {A : Nat → Prop} {dC : Nat → ClassId} {dI : Nat → Nat → Nat} {cB cC cI cJ cZ : ClassId} {z0 : Nat} {R : Nat → Nat} (hx : p.tables.exec = Jvm.exec) (hb : c.code = cX12_read) (hml : c.maxLocals = 5) (hown : s.vm.findClass RX12 = some m.cls) (hts : ∀ w ∈ vX12_read, w.before args s = true) (hK : va_K (dC, dI) vwCl (TY cB cC cI cJ cZ) s) (hA : ∀ q : Nat, s.heap.size ≤ q → A q) {pl : Int32} {N : Nat → Nat} {G : Nat → Nat → Nat} {B : Nat → Nat → Int32} (hG : ∀ k i, G k i < 1048576) (rs : Nat) (ke : ∀ (X : Nat → Nat) (H : Heap) (locs : List Loc), (∀ i, X i < 1048576) → (∀ j, j < 5000 → X j = G 7 j) → va_P (dC, dI) vwCl (MW cB cC cI cJ cZ z0 R pl N (va_up G 8 X) B) H → va_D A (MW cB cC cI cJ cZ z0 R pl N (va_up G 8 X) B) → va_S A s.heap H locs → ∀ (ls : Array Slot), lv_has ls 5 [(0, .ref z0), (1, .int (nI rs))] → W p l e (headSpec vX12_read { frames := 11, cells := 0, slots := 0, locals := 269 }).room s m args below meth c H locs 0 0 Q (F0 m 41 ls [])) : ∀ (k : Nat) (i : Nat) (X : Nat → Nat), 5001 - i < k → i ≤ 5000 → (∀ i, X i < 1048576) → (∀ j, j < i → X j = G 7 j) → ∀ (H : Heap) (locs : List Loc), va_P (dC, dI) vwCl (MW cB cC cI cJ cZ z0 R pl N (va_up G 8 X) B) H → va_D A (MW cB cC cI cJ cZ z0 R pl N (va_up G 8 X) B) → va_S A s.heap H locs → ∀ (ls : Array Slot), lv_has ls 5 [(0, .ref z0), (1, .int (nI rs)), (2, .int (nI i))] → W p l e (headSpec vX12_read { frames := 11, cells := 0, slots := 0, locals := 269 }).room s m args below meth c H locs 0 0 Q (F0 m 16 ls []) := by
  have hcs : 0 + 0 ≤ (0 : Nat) ∧ 0 + 0 ≤ (0 : Nat) := ⟨Nat.le_refl 0, Nat.le_refl 0⟩
  intro k
  induction k with
  | zero =>
    intro i X hk hi bx px H locs hP hD hS ls hl
    exact absurd hk (Nat.not_lt_zero _)
  | succ k ih =>
    intro i X hk hi bx px H locs hP hD hS ls hl
    have g7 := hG 7 i
    refine lv_iload_n hx hb dX12_read_16 rfl (lv_at hl 2 rfl) ?_
    refine lv_sipush (v := nI 5000) hx hb dX12_read_17 (by decide) ?_
    refine bn_ge (tgt := 41) hx hb (by first | omega | exact Nat.lt_of_lt_of_le (hG _ _) (by decide)) (by first | omega | exact Nat.lt_of_lt_of_le (hG _ _) (by decide)) dX12_read_20 (by decide) (fun c1 => ?_) (fun c1 => ?_)
    · exact ke X H locs bx (fun j hj => px j (by omega)) hP hD hS ls (lv_sub hl [0, 1] rfl)
    · refine lv_aload_n hx hb dX12_read_23 rfl (lv_at hl 0 rfl) ?_
      refine mg_8 hx hb hts inX12_read hown hK hP (hts _ lkX12_read_f28) dX12_read_24 ?_
      refine lv_iload_n hx hb dX12_read_27 rfl (lv_at hl 2 rfl) ?_
      refine lv_aload_n hx hb dX12_read_28 rfl (lv_at hl 0 rfl) ?_
      refine mg_7 hx hb hts inX12_read hown hK hP (hts _ lkX12_read_f25) dX12_read_29 ?_
      refine lv_iload_n hx hb dX12_read_32 rfl (lv_at hl 2 rfl) ?_
      refine ml_7 hx hb hK hP (by omega) dX12_read_33 ?_
      refine tp_i (y := nI (G 7 i)) rfl ?_
      refine ms_8 hx hb hK hP hD hS (by omega) dX12_read_34 (fun H locs hP hD hS => ?_)
      rw [bx_uu] at hP hD
      refine lv_iinc (v := nI (i + 1)) (lv' := [(2, .int (nI (i + 1))), (0, .ref z0), (1, .int (nI rs))]) hx hb dX12_read_35 hl (k := 2) rfl (nI_add i 1) (by decide) rfl (fun ls hl => ?_)
      refine lv_goto (tgt := 16) hx hb dX12_read_38 (by decide) ?_
      refine ih (i + 1) (va_up X i (G 7 i)) (by omega) (by omega) (hIup bx g7) (fun j hj => ?_) _ _ hP hD hS ls (lv_sub hl [1, 2, 0] rfl)
      by_cases e : j = i
      · rw [e, va_up_self]
      · rw [va_up_ne _ _ e]; exact px j (by omega)

set_option maxHeartbeats 4000000 in
set_option maxRecDepth 100000 in
theorem lp_rd2 {p : Program} {l : Launch} {e : Env} {s : State} {m : MethodId} {args : Array Value} {below : List Frame} {meth : Method} {c : Code} {Q : State → Prop} {A : Nat → Prop} {dC : Nat → ClassId} {dI : Nat → Nat → Nat} {cB cC cI cJ cZ : ClassId} {z0 : Nat} {R : Nat → Nat} (hx : p.tables.exec = Jvm.exec) (hb : c.code = cX12_read) (hml : c.maxLocals = 5) (hown : s.vm.findClass RX12 = some m.cls) (hts : ∀ w ∈ vX12_read, w.before args s = true) (hK : va_K (dC, dI) vwCl (TY cB cC cI cJ cZ) s) (hA : ∀ q : Nat, s.heap.size ≤ q → A q) {pl : Int32} {N : Nat → Nat} {G : Nat → Nat → Nat} {B : Nat → Nat → Int32} {sz : Nat → Nat} (rs t : Nat) (h45 : N 45 ≤ 3000) (hw9 : ∀ i, i < N 45 → G 44 i < t) (ht14 : t ≤ N 14) (hsum : sumW (fun i => sz (G 44 i)) 0 (N 45) ≤ 3000) (ke : ∀ (p9 : Int32) (M : Nat → Nat) (K : Nat → Nat → Nat) (C : Nat → Nat → Int32) (sz1 az1 : Nat → Nat) (H : Heap) (locs : List Loc), XI M K sz1 az1 → RQ M K sz1 t → PLN M K t → XU N G B sz M K C sz1 → (M 33 = 0 → PHI M 0 ≤ 1940000000) → va_P (dC, dI) vwCl (MW cB cC cI cJ cZ z0 R p9 M K C) H → va_D A (MW cB cC cI cJ cZ z0 R p9 M K C) → va_S A s.heap H locs → ∀ (ls : Array Slot), lv_has ls 5 [(0, .ref z0), (1, .int (nI rs)), (3, .int (nI (N 45)))] → W p l e (headSpec vX12_read { frames := 11, cells := 0, slots := 0, locals := 269 }).room s m args below meth c H locs 0 0 Q (F0 m 112 ls [])) : ∀ (k : Nat) (j : Nat) (p9 : Int32) (M : Nat → Nat) (K : Nat → Nat → Nat) (C : Nat → Nat → Int32) (sz1 az1 : Nat → Nat), N 45 - j < k → j ≤ 3000 → XI M K sz1 az1 → RQ M K sz1 t → PLN M K t → XU N G B sz M K C sz1 → (M 33 = 0 → PHI M (3 * sumW (fun i => sz (G 44 i)) j (N 45 - j)) ≤ 1940000000) → ∀ (H : Heap) (locs : List Loc), va_P (dC, dI) vwCl (MW cB cC cI cJ cZ z0 R p9 M K C) H → va_D A (MW cB cC cI cJ cZ z0 R p9 M K C) → va_S A s.heap H locs → ∀ (ls : Array Slot), lv_has ls 5 [(0, .ref z0), (1, .int (nI rs)), (3, .int (nI (N 45))), (4, .int (nI j))] → W p l e (headSpec vX12_read { frames := 11, cells := 0, slots := 0, locals := 269 }).room s m args below meth c H locs 0 0 Q (F0 m 65 ls []) := by
  have hcs : 0 + 0 ≤ (0 : Nat) ∧ 0 + 0 ≤ (0 : Nat) := ⟨Nat.le_refl 0, Nat.le_refl 0⟩
  intro k
  induction k with
  | zero =>
    intro j p9 M K C sz1 az1 hk hjb hxi hrq hpl hxu hphi
    omega
  | succ k ih =>
    intro j p9 M K C sz1 az1 hk hjb hxi hrq hpl hxu hphi H locs hP hD hS ls hl
    have hnf := hxi.2.2.2.2.2.1
    refine lv_iload hx hb dX12_read_65 (lv_at hl 3 rfl) ?_
    refine lv_iload_n hx hb dX12_read_67 rfl (lv_at hl 2 rfl) ?_
    refine bn_ge (tgt := 112) hx hb (by first | omega | exact Nat.lt_of_lt_of_le (hG _ _) (by decide)) (by first | omega | exact Nat.lt_of_lt_of_le (hG _ _) (by decide)) dX12_read_68 (by decide) (fun c1 => ?_) (fun c1 => ?_)
    · exact ke p9 M K C sz1 az1 H locs hxi hrq hpl hxu (fun z => by have := hphi z; unfold PHI at this ⊢; omega) hP hD hS ls (lv_sub hl [0, 1, 2] rfl)
    · refine lv_aload_n hx hb dX12_read_71 rfl (lv_at hl 0 rfl) ?_
      refine mg_33 hx hb hts inX12_read hown hK hP (hts _ lkX12_read_f236) dX12_read_72 ?_
      refine bz_ne (tgt := 112) hx hb (by first | omega | exact Nat.lt_of_lt_of_le (hG _ _) (by decide)) dX12_read_75 (by decide) (fun c2 => ?_) (fun c2 => ?_)
      · exact ke p9 M K C sz1 az1 H locs hxi hrq hpl hxu (fun z => absurd z (by omega)) hP hD hS ls (lv_sub hl [0, 1, 2] rfl)
      · have h44 := hxu.2.1 44 (by omega)
        have hf := hw9 j c1
        have hs9 : sz1 (G 44 j) = sz (G 44 j) := hxu.2.2.2.2.1 _ (by omega)
        have hphi := hphi c2
        rw [sumW_step _ c1] at hphi
        have hsj := sumW_drop (fun i => sz (G 44 i)) j (N 45 - j)
        rw [show j + (N 45 - j) = N 45 by omega, sumW_step _ c1] at hsj
        have htl := hpl.1
        refine lv_aload_n hx hb dX12_read_78 rfl (lv_at hl 0 rfl) ?_
        refine lv_aload_n hx hb dX12_read_79 rfl (lv_at hl 0 rfl) ?_
        refine mg_44 hx hb hts inX12_read hown hK hP (hts _ lkX12_read_f85) dX12_read_80 ?_
        refine lv_iload hx hb dX12_read_83 (lv_at hl 3 rfl) ?_
        refine ml_44 hx hb hK hP (by omega) dX12_read_85 ?_
        refine tp_i (y := nI (G 44 j)) (by rw [h44]) ?_
        refine mcl_v (As := [.int (nI (G 44 j))]) (rest := []) ⟨hx, hb, hml, hown, hts⟩ (m_top l dC dI cB cC cI cJ cZ z0 R p9 M K C (G 44 j) t (3 * sumW (fun i => sz (G 44 i)) (j + 1) (N 45 - (j + 1))) 1940000000 sz1 az1 hxi c2 hrq hpl hf (by rw [hs9]; omega) (by rw [hs9]; unfold PHI at hphi ⊢; omega) (Nat.le_refl _) H.size) (cwV 1 hts kX12_read_X12_top_415 rfl rfl rfl (by decide +kernel) ⟨Nat.le_of_ble_eq_true rfl, Nat.le_of_ble_eq_true rfl⟩) hK hP hD hS hA rfl rfl hl.1 (lv_room (Nat.le_of_ble_eq_true rfl)) dX12_read_86 hcs (fun  N_1 G_2 B_3 pl_4 hw H locs hP hD hS => ?_)
        dsimp only at hw
        obtain ⟨e4, sz2, az2, y1, y2, y3, y4⟩ := hw
        rw [e4] at hP hD
        have hxu2 := hxu.trans y3
        have hpl2 := y3.pln hxi.1 hpl
        have hnf2 := y1.2.2.2.2.2.1
        refine lv_aload_n hx hb dX12_read_89 rfl (lv_at hl 0 rfl) ?_
        refine lv_aload_n hx hb dX12_read_90 rfl (lv_at hl 0 rfl) ?_
        refine mg_33 hx hb hts inX12_read hown hK hP (hts _ lkX12_read_f236) dX12_read_91 ?_
        refine bz_le (tgt := 102) hx hb (by first | omega | exact Nat.lt_of_lt_of_le (hG _ _) (by decide)) dX12_read_94 (by decide) (fun c3 => ?_) (fun c3 => ?_)
        · refine lv_iconst (v := nI 0 - 1) hx hb dX12_read_102 (by decide) ?_
          refine mp_3 hx hb hts inX12_read hown hK hP hD hS (hts _ lkX12_read_f13) dX12_read_103 (fun H locs hP hD hS => ?_)
          refine lv_iinc (v := nI (j + 1)) (lv' := [(4, .int (nI (j + 1))), (0, .ref z0), (1, .int (nI rs)), (3, .int (nI (N 45)))]) hx hb dX12_read_106 hl (k := 3) rfl (nI_add j 1) (by decide) rfl (fun ls hl => ?_)
          refine lv_goto (tgt := 65) hx hb dX12_read_109 (by decide) ?_
          exact ih (j + 1) ((nI 0 - 1)) N_1 G_2 B_3 sz2 az2 (by omega) (by omega) y1 y2 hpl2 hxu2 y4 _ _ hP hD hS ls (lv_sub hl [1, 2, 3, 0] rfl)
        · refine lv_iload hx hb dX12_read_97 (lv_at hl 3 rfl) ?_
          refine lv_goto (tgt := 103) hx hb dX12_read_99 (by decide) ?_
          refine mp_3 hx hb hts inX12_read hown hK hP hD hS (hts _ lkX12_read_f13) dX12_read_103 (fun H locs hP hD hS => ?_)
          refine lv_iinc (v := nI (j + 1)) (lv' := [(4, .int (nI (j + 1))), (0, .ref z0), (1, .int (nI rs)), (3, .int (nI (N 45)))]) hx hb dX12_read_106 hl (k := 3) rfl (nI_add j 1) (by decide) rfl (fun ls hl => ?_)
          refine lv_goto (tgt := 65) hx hb dX12_read_109 (by decide) ?_
          exact ih (j + 1) ((nI j)) N_1 G_2 B_3 sz2 az2 (by omega) (by omega) y1 y2 hpl2 hxu2 y4 _ _ hP hD hS ls (lv_sub hl [1, 2, 3, 0] rfl)

set_option maxHeartbeats 4000000 in
set_option maxRecDepth 100000 in
theorem lp_rd3 {p : Program} {l : Launch} {e : Env} {s : State} {m : MethodId} {args : Array Value} {below : List Frame} {meth : Method} {c : Code} {Q : State → Prop} {A : Nat → Prop} {dC : Nat → ClassId} {dI : Nat → Nat → Nat} {cB cC cI cJ cZ : ClassId} {z0 : Nat} {R : Nat → Nat} (hx : p.tables.exec = Jvm.exec) (hb : c.code = cX12_read) (hml : c.maxLocals = 5) (hown : s.vm.findClass RX12 = some m.cls) (hts : ∀ w ∈ vX12_read, w.before args s = true) (hK : va_K (dC, dI) vwCl (TY cB cC cI cJ cZ) s) (hA : ∀ q : Nat, s.heap.size ≤ q → A q) {pl : Int32} {N : Nat → Nat} {G : Nat → Nat → Nat} {B : Nat → Nat → Int32} {p9 : Int32} (hG : ∀ k i, G k i < 1048576) (ke : ∀ (X : Nat → Nat) (H : Heap) (locs : List Loc), (∀ i, X i < 1048576) → (∀ j, j < 5000 → X j = G 8 j) → va_P (dC, dI) vwCl (MW cB cC cI cJ cZ z0 R p9 N (va_up G 7 X) B) H → va_D A (MW cB cC cI cJ cZ z0 R p9 N (va_up G 7 X) B) → va_S A s.heap H locs → ∀ (ls : Array Slot), lv_has ls 5 [(0, .ref z0)] → W p l e (headSpec vX12_read { frames := 11, cells := 0, slots := 0, locals := 269 }).room s m args below meth c H locs 0 0 Q (F0 m 184 ls [])) : ∀ (k : Nat) (i : Nat) (X : Nat → Nat), 5001 - i < k → i ≤ 5000 → (∀ i, X i < 1048576) → (∀ j, j < i → X j = G 8 j) → ∀ (H : Heap) (locs : List Loc), va_P (dC, dI) vwCl (MW cB cC cI cJ cZ z0 R p9 N (va_up G 7 X) B) H → va_D A (MW cB cC cI cJ cZ z0 R p9 N (va_up G 7 X) B) → va_S A s.heap H locs → ∀ (ls : Array Slot), lv_has ls 5 [(0, .ref z0), (4, .int (nI i))] → W p l e (headSpec vX12_read { frames := 11, cells := 0, slots := 0, locals := 269 }).room s m args below meth c H locs 0 0 Q (F0 m 156 ls []) := by
  have hcs : 0 + 0 ≤ (0 : Nat) ∧ 0 + 0 ≤ (0 : Nat) := ⟨Nat.le_refl 0, Nat.le_refl 0⟩
  intro k
  induction k with
  | zero =>
    intro i X hk hi bx px H locs hP hD hS ls hl
    exact absurd hk (Nat.not_lt_zero _)
  | succ k ih =>
    intro i X hk hi bx px H locs hP hD hS ls hl
    have g8 := hG 8 i
    refine lv_iload hx hb dX12_read_156 (lv_at hl 1 rfl) ?_
    refine lv_sipush (v := nI 5000) hx hb dX12_read_158 (by decide) ?_
    refine bn_ge (tgt := 184) hx hb (by first | omega | exact Nat.lt_of_lt_of_le (hG _ _) (by decide)) (by first | omega | exact Nat.lt_of_lt_of_le (hG _ _) (by decide)) dX12_read_161 (by decide) (fun c1 => ?_) (fun c1 => ?_)
    · exact ke X H locs bx (fun j hj => px j (by omega)) hP hD hS ls (lv_sub hl [0] rfl)
    · refine lv_aload_n hx hb dX12_read_164 rfl (lv_at hl 0 rfl) ?_
      refine mg_7 hx hb hts inX12_read hown hK hP (hts _ lkX12_read_f25) dX12_read_165 ?_
      refine lv_iload hx hb dX12_read_168 (lv_at hl 1 rfl) ?_
      refine lv_aload_n hx hb dX12_read_170 rfl (lv_at hl 0 rfl) ?_
      refine mg_8 hx hb hts inX12_read hown hK hP (hts _ lkX12_read_f28) dX12_read_171 ?_
      refine lv_iload hx hb dX12_read_174 (lv_at hl 1 rfl) ?_
      refine ml_8 hx hb hK hP (by omega) dX12_read_176 ?_
      refine tp_i (y := nI (G 8 i)) rfl ?_
      refine ms_7 hx hb hK hP hD hS (by omega) dX12_read_177 (fun H locs hP hD hS => ?_)
      rw [bx_uu] at hP hD
      refine lv_iinc (v := nI (i + 1)) (lv' := [(4, .int (nI (i + 1))), (0, .ref z0)]) hx hb dX12_read_178 hl (k := 1) rfl (nI_add i 1) (by decide) rfl (fun ls hl => ?_)
      refine lv_goto (tgt := 156) hx hb dX12_read_181 (by decide) ?_
      refine ih (i + 1) (va_up X i (G 8 i)) (by omega) (by omega) (hIup bx g8) (fun j hj => ?_) _ _ hP hD hS ls (lv_sub hl [1, 0] rfl)
      by_cases e : j = i
      · rw [e, va_up_self]
      · rw [va_up_ne _ _ e]; exact px j (by omega)

set_option maxHeartbeats 4000000 in
set_option maxRecDepth 100000 in
theorem lp_rd4 {p : Program} {l : Launch} {e : Env} {s : State} {m : MethodId} {args : Array Value} {below : List Frame} {meth : Method} {c : Code} {Q : State → Prop} {A : Nat → Prop} {dC : Nat → ClassId} {dI : Nat → Nat → Nat} {cB cC cI cJ cZ : ClassId} {z0 : Nat} {R : Nat → Nat} (hx : p.tables.exec = Jvm.exec) (hb : c.code = cX12_read) (hml : c.maxLocals = 5) (hown : s.vm.findClass RX12 = some m.cls) (hts : ∀ w ∈ vX12_read, w.before args s = true) (hK : va_K (dC, dI) vwCl (TY cB cC cI cJ cZ) s) (hA : ∀ q : Nat, s.heap.size ≤ q → A q) {pl : Int32} {N : Nat → Nat} {G : Nat → Nat → Nat} {B : Nat → Nat → Int32} {p9 : Int32} (tp : Nat) (h38 : N 38 ≤ 4000) (ke : ∀ (X : Nat → Int32) (H : Heap) (locs : List Loc), va_P (dC, dI) vwCl (MW cB cC cI cJ cZ z0 R p9 N G (va_up B 39 X)) H → va_D A (MW cB cC cI cJ cZ z0 R p9 N G (va_up B 39 X)) → va_S A s.heap H locs → ∀ (ls : Array Slot), lv_has ls 5 [(0, .ref z0), (3, .int (nI tp))] → W p l e (headSpec vX12_read { frames := 11, cells := 0, slots := 0, locals := 269 }).room s m args below meth c H locs 0 0 Q (F0 m 221 ls [])) : ∀ (k : Nat) (i : Nat) (X : Nat → Int32), N 38 - i < k → i ≤ 4000 → ∀ (H : Heap) (locs : List Loc), va_P (dC, dI) vwCl (MW cB cC cI cJ cZ z0 R p9 N G (va_up B 39 X)) H → va_D A (MW cB cC cI cJ cZ z0 R p9 N G (va_up B 39 X)) → va_S A s.heap H locs → ∀ (ls : Array Slot), lv_has ls 5 [(0, .ref z0), (3, .int (nI tp)), (4, .int (nI i))] → W p l e (headSpec vX12_read { frames := 11, cells := 0, slots := 0, locals := 269 }).room s m args below meth c H locs 0 0 Q (F0 m 192 ls []) := by
  have hcs : 0 + 0 ≤ (0 : Nat) ∧ 0 + 0 ≤ (0 : Nat) := ⟨Nat.le_refl 0, Nat.le_refl 0⟩
  intro k
  induction k with
  | zero =>
    intro i X hk hi
    omega
  | succ k ih =>
    intro i X hk hi H locs hP hD hS ls hl
    refine lv_iload hx hb dX12_read_192 (lv_at hl 2 rfl) ?_
    refine lv_aload_n hx hb dX12_read_194 rfl (lv_at hl 0 rfl) ?_
    refine mg_38 hx hb hts inX12_read hown hK hP (hts _ lkX12_read_f223) dX12_read_195 ?_
    refine bn_ge (tgt := 221) hx hb (by first | omega | exact Nat.lt_of_lt_of_le (hG _ _) (by decide)) (by first | omega | exact Nat.lt_of_lt_of_le (hG _ _) (by decide)) dX12_read_198 (by decide) (fun c1 => ?_) (fun c1 => ?_)
    · exact ke X H locs hP hD hS ls (lv_sub hl [0, 1] rfl)
    · refine lv_aload_n hx hb dX12_read_201 rfl (lv_at hl 0 rfl) ?_
      refine mg_39 hx hb hts inX12_read hown hK hP (hts _ lkX12_read_f82) dX12_read_202 ?_
      refine lv_iload hx hb dX12_read_205 (lv_at hl 2 rfl) ?_
      refine lv_aload_n hx hb dX12_read_207 rfl (lv_at hl 0 rfl) ?_
      refine mg_37 hx hb hts inX12_read hown hK hP (hts _ lkX12_read_f79) dX12_read_208 ?_
      refine lv_iload hx hb dX12_read_211 (lv_at hl 2 rfl) ?_
      refine ml_37 hx hb hK hP (by omega) dX12_read_213 ?_
      refine ms_39 hx hb hK hP hD hS (by omega) dX12_read_214 (fun H locs hP hD hS => ?_)
      rw [bx_uu] at hP hD
      obtain ⟨X2, hX2⟩ : ∃ X2, X2 = upd (va_up B 39 X 39) i (vp_nar .byte (va_up B 39 X 37 i)) := ⟨_, rfl⟩
      rw [← hX2] at hP hD
      refine lv_iinc (v := nI (i + 1)) (lv' := [(4, .int (nI (i + 1))), (0, .ref z0), (3, .int (nI tp))]) hx hb dX12_read_215 hl (k := 2) rfl (nI_add i 1) (by decide) rfl (fun ls hl => ?_)
      refine lv_goto (tgt := 192) hx hb dX12_read_218 (by decide) ?_
      exact ih (i + 1) X2 (by omega) (by omega) _ _ hP hD hS ls (lv_sub hl [1, 2, 0] rfl)

set_option maxHeartbeats 4000000 in
set_option maxRecDepth 100000 in
theorem lp_rd5 {p : Program} {l : Launch} {e : Env} {s : State} {m : MethodId} {args : Array Value} {below : List Frame} {meth : Method} {c : Code} {Q : State → Prop} {A : Nat → Prop} {dC : Nat → ClassId} {dI : Nat → Nat → Nat} {cB cC cI cJ cZ : ClassId} {z0 : Nat} {R : Nat → Nat} (hx : p.tables.exec = Jvm.exec) (hb : c.code = cX12_read) (hml : c.maxLocals = 5) (hown : s.vm.findClass RX12 = some m.cls) (hts : ∀ w ∈ vX12_read, w.before args s = true) (hK : va_K (dC, dI) vwCl (TY cB cC cI cJ cZ) s) (hA : ∀ q : Nat, s.heap.size ≤ q → A q) {pl : Int32} {N : Nat → Nat} {G : Nat → Nat → Nat} {B : Nat → Nat → Int32} {sz az sz1 az1 : Nat → Nat} {c5 c6 t : Nat} (hpw : PW N G B sz az c5 c6) (rs tp : Nat) (p9 : Int32) (M : Nat → Nat) (K : Nat → Nat → Nat) (C : Nat → Nat → Int32)  (hxi : XI M K sz1 az1) (hrq : RQ M K sz1 t) (hpl : PLN M K t) (hlow : LOW N G K) (m2 : M 2 = 0) (m16 : M 16 = N 16) (m17 : M 17 = N 17) (hrs : rs = N 9) (m6 : N 6 ≤ M 6) (hk8 : ∀ s, s < 5000 → K 8 s = G 7 s) (hps : PS M K C 0 c5 c6) (m40 : M 40 ≤ 4000) (h38 : M 33 = 0 → M 38 ≤ 4000) (kr : ∀ (p9 : Int32) (N1 : Nat → Nat) (G1 : Nat → Nat → Nat) (B1 : Nat → Nat → Int32) (v : Int32) (H : Heap) (locs : List Loc), (N1 2 = 0 ∧ (∃ sz1 az1, PW N1 G1 B1 sz1 az1 c5 c6)) → va_P (dC, dI) vwCl (MW cB cC cI cJ cZ z0 R p9 N1 G1 B1) H → va_D A (MW cB cC cI cJ cZ z0 R p9 N1 G1 B1) → va_S A s.heap H locs → ∀ (ls : Array Slot), lv_has ls 5 [] → W p l e (headSpec vX12_read { frames := 11, cells := 0, slots := 0, locals := 269 }).room s m args below meth c H locs 0 0 Q (F0 m 188 ls [.int v])) (kt : ∀ (p9 : Int32) (N1 : Nat → Nat) (G1 : Nat → Nat → Nat) (B1 : Nat → Nat → Int32) (H : Heap) (locs : List Loc), (N1 2 = 0 ∧ (∃ sz1 az1, PW N1 G1 B1 sz1 az1 c5 c6)) → va_P (dC, dI) vwCl (MW cB cC cI cJ cZ z0 R p9 N1 G1 B1) H → va_D A (MW cB cC cI cJ cZ z0 R p9 N1 G1 B1) → va_S A s.heap H locs → ∀ (ls : Array Slot), lv_has ls 5 [] → W p l e (headSpec vX12_read { frames := 11, cells := 0, slots := 0, locals := 269 }).room s m args below meth c H locs 0 0 Q (F0 m 255 ls [.int (nI 0)])) : ∀ (H : Heap) (locs : List Loc), va_P (dC, dI) vwCl (MW cB cC cI cJ cZ z0 R p9 M K C) H → va_D A (MW cB cC cI cJ cZ z0 R p9 M K C) → va_S A s.heap H locs → ∀ (ls : Array Slot), lv_has ls 5 [(0, .ref z0), (1, .int (nI rs)), (3, .int (nI tp))] → W p l e (headSpec vX12_read { frames := 11, cells := 0, slots := 0, locals := 269 }).room s m args below meth c H locs 0 0 Q (F0 m 141 ls []) := by
  have hcs : 0 + 0 ≤ (0 : Nat) ∧ 0 + 0 ≤ (0 : Nat) := ⟨Nat.le_refl 0, Nat.le_refl 0⟩
  intro H locs hP hD hS ls hl
  have hnf := hxi.2.2.2.2.2.1
  have hGm := hxi.1.1
  refine lv_aload_n hx hb dX12_read_141 rfl (lv_at hl 0 rfl) ?_
  refine mg_33 hx hb hts inX12_read hown hK hP (hts _ lkX12_read_f236) dX12_read_142 ?_
  refine bz_le (tgt := 189) hx hb (by first | omega | exact Nat.lt_of_lt_of_le (hG _ _) (by decide)) dX12_read_145 (by decide) (fun c1 => ?_) (fun c1 => ?_)
  · refine lv_iconst (v := nI 0) hx hb dX12_read_189 (by decide) ?_
    refine lv_istore (lv' := [(4, .int (nI 0)), (0, .ref z0), (1, .int (nI rs)), (3, .int (nI tp))]) hx hb dX12_read_190 hl (by decide) rfl (fun ls hl => ?_)
    have hP : va_P (dC, dI) vwCl (MW cB cC cI cJ cZ z0 R p9 M K (va_up C 39 (C 39))) H := by rw [va_upid]; exact hP
    have hD : va_D A (MW cB cC cI cJ cZ z0 R p9 M K (va_up C 39 (C 39))) := by rw [va_upid]; exact hD
    refine lp_rd4 (pl := pl) hx hb hml hown hts hK hA tp (h38 c1) (fun X H locs hP hD hS ls hl => ?_) _ 0 (C 39) (Nat.lt_succ_self _) (by decide) _ _ hP hD hS ls (lv_sub hl [1, 3, 0] rfl)
    have h38 := h38 c1
    refine lv_aload_n hx hb dX12_read_221 rfl (lv_at hl 0 rfl) ?_
    refine lv_aload_n hx hb dX12_read_222 rfl (lv_at hl 0 rfl) ?_
    refine mg_38 hx hb hts inX12_read hown hK hP (hts _ lkX12_read_f223) dX12_read_223 ?_
    refine mp_40 hx hb hts inX12_read hown hK hP hD hS (hts _ lkX12_read_f418) dX12_read_226 (fun H locs hP hD hS => ?_)
    refine lv_aload_n hx hb dX12_read_229 rfl (lv_at hl 0 rfl) ?_
    refine lv_aload_n hx hb dX12_read_230 rfl (lv_at hl 0 rfl) ?_
    refine mg_35 hx hb hts inX12_read hown hK hP (hts _ lkX12_read_f345) dX12_read_231 ?_
    refine tp_i (y := nI (M 35)) rfl ?_
    refine mp_41 hx hb hts inX12_read hown hK hP hD hS (hts _ lkX12_read_f421) dX12_read_234 (fun H locs hP hD hS => ?_)
    refine lv_aload_n hx hb dX12_read_237 rfl (lv_at hl 0 rfl) ?_
    refine lv_aload_n hx hb dX12_read_238 rfl (lv_at hl 0 rfl) ?_
    refine mg_34 hx hb hts inX12_read hown hK hP (hts _ lkX12_read_f297) dX12_read_239 ?_
    refine tp_i (y := nI (M 34)) rfl ?_
    refine mp_42 hx hb hts inX12_read hown hK hP hD hS (hts _ lkX12_read_f424) dX12_read_242 (fun H locs hP hD hS => ?_)
    refine lv_aload_n hx hb dX12_read_245 rfl (lv_at hl 0 rfl) ?_
    refine lv_iload_n hx hb dX12_read_246 rfl (lv_at hl 1 rfl) ?_
    refine mp_43 hx hb hts inX12_read hown hK hP hD hS (hts _ lkX12_read_f427) dX12_read_247 (fun H locs hP hD hS => ?_)
    refine lv_aload_n hx hb dX12_read_250 rfl (lv_at hl 0 rfl) ?_
    obtain ⟨M2, hM2⟩ : ∃ M2, M2 = va_up (va_up (va_up (va_up M 40 (M 38)) 41 (M 35)) 42 (M 34)) 43 tp := ⟨_, rfl⟩
    rw [← hM2] at hP hD
    have hx2 : XI M2 K sz1 az1 := by rw [hM2]; exact hxi
    have hq2 : RQ M2 K sz1 t := by rw [hM2]; exact hrq
    have hp2 : PLN M2 K t := by rw [hM2]; exact hpl
    have n40 : M2 40 = M 38 := by rw [hM2]; rfl
    have n2 : M2 2 = M 2 := by rw [hM2]; rfl
    have n6 : M2 6 = M 6 := by rw [hM2]; rfl
    have n49 : M2 49 = M 49 := by rw [hM2]; rfl
    have n9 : M2 9 = M 9 := by rw [hM2]; rfl
    refine mcl_v (As := []) (rest := []) ⟨hx, hb, hml, hown, hts⟩ (m_stay l dC dI cB cC cI cJ cZ z0 R p9 M2 K (va_up C 39 X) t sz1 az1 hx2 hq2 hp2 H.size) (cwV 0 hts kX12_read_X12_stay_430 rfl rfl rfl (by decide +kernel) ⟨Nat.le_of_ble_eq_true rfl, Nat.le_of_ble_eq_true rfl⟩) hK hP hD hS hA rfl rfl hl.1 (lv_room (Nat.le_of_ble_eq_true rfl)) dX12_read_251 hcs (fun  N_1 G_2 B_3 pl_4 hw H locs hP hD hS => ?_)
    dsimp only at hw
    obtain ⟨e3, e4, sz2, az2, w1, w2, w3, w4, w5, w6, w7, w8, w9⟩ := hw
    rw [e3, e4] at hP hD
    have q2 : N_1 2 = M2 2 := w7 2 (by decide) (by decide) (by decide) (by decide) (by decide)
    have q6 : N_1 6 = M2 6 := w7 6 (by decide) (by decide) (by decide) (by decide) (by decide)
    have q49 : N_1 49 = M2 49 := w7 49 (by decide) (by decide) (by decide) (by decide) (by decide)
    have q40 : N_1 40 = M2 40 := w7 40 (by decide) (by decide) (by decide) (by decide) (by decide)
    have q9 : N_1 9 = M2 9 := w7 9 (by decide) (by decide) (by decide) (by decide) (by decide)
    have hrq3 := hrq.2.2.1
    have hfin : N_1 2 = 0 ∧ ∃ sz1 az1, PW N_1 G_2 (va_up C 39 X) sz1 az1 c5 c6 := by
      refine ⟨by rw [q2, n2]; exact m2, sz2, az2, w1, w2, w3, w4, ⟨by rw [q9]; exact w5.1, by rw [q9]; exact w5.2, by rw [q9, n9]; exact hrq3⟩, w6, ?_, by rw [q2, n2]; omega, by rw [q49, n49]; omega, w9, by rw [q40, n40]; exact h38⟩
      unfold PS at hps ⊢
      rw [q2, n2, m2, q6, n6, w8]
      exact hps
    refine lv_iconst (v := nI 0) hx hb dX12_read_254 (by decide) ?_
    exact kt p9 N_1 G_2 (va_up C 39 X) H locs hfin hP hD hS ls (lv_sub hl [] rfl)
  · refine lv_aload_n hx hb dX12_read_148 rfl (lv_at hl 0 rfl) ?_
    refine lv_iload_n hx hb dX12_read_149 rfl (lv_at hl 1 rfl) ?_
    refine mp_9 hx hb hts inX12_read hown hK hP hD hS (hts _ lkX12_read_f390) dX12_read_150 (fun H locs hP hD hS => ?_)
    refine lv_iconst (v := nI 0) hx hb dX12_read_153 (by decide) ?_
    refine lv_istore (lv' := [(4, .int (nI 0)), (0, .ref z0), (1, .int (nI rs)), (3, .int (nI tp))]) hx hb dX12_read_154 hl (by decide) rfl (fun ls hl => ?_)
    obtain ⟨M2, hM2⟩ : ∃ M2, M2 = va_up M 9 rs := ⟨_, rfl⟩
    rw [← hM2] at hP hD
    have hP : va_P (dC, dI) vwCl (MW cB cC cI cJ cZ z0 R p9 M2 (va_up K 7 (K 7)) C) H := by rw [va_upid]; exact hP
    have hD : va_D A (MW cB cC cI cJ cZ z0 R p9 M2 (va_up K 7 (K 7)) C) := by rw [va_upid]; exact hD
    refine lp_rd3 (pl := pl) hx hb hml hown hts hK hA hGm (fun X H locs bx px hP hD hS ls hl => ?_) _ 0 (K 7) (Nat.lt_succ_self _) (by decide) (hGm 7) (fun j hj => absurd hj (Nat.not_lt_zero j)) _ _ hP hD hS ls (lv_sub hl [1, 0] rfl)
    have hfin : M2 2 = 0 ∧ ∃ sz1 az1, PW M2 (va_up K 7 X) C sz1 az1 c5 c6 := by
      refine ⟨by rw [hM2]; exact m2, sz, az, hpw.same (G1 := va_up K 7 X) hlow (by rw [hM2]; exact m16) (by rw [hM2]; exact m17) (by rw [hM2]; exact hrs) (by rw [hM2]; exact m6) (fun s hs => by rw [← hk8 s hs]; exact px s hs) (hGup hGm bx) ?_ ?_⟩
      · rw [hM2]; show PS M K C (M 2) c5 c6; rw [m2]; exact hps
      · rw [hM2]; exact ⟨show M 2 ≤ 3000 by omega, show M 49 ≤ 1600 by omega, show M 53 ≤ 90000 by omega, m40⟩
    refine lv_aload_n hx hb dX12_read_184 rfl (lv_at hl 0 rfl) ?_
    refine mg_33 hx hb hts inX12_read hown hK hP (hts _ lkX12_read_f236) dX12_read_185 ?_
    exact kr p9 M2 (va_up K 7 X) C _ H locs hfin hP hD hS ls (lv_sub hl [] rfl)

set_option maxHeartbeats 4000000 in
set_option maxRecDepth 100000 in
/-- read -/
theorem m_read (l : Launch) (dC : Nat → ClassId) (dI : Nat → Nat → Nat) (cB cC cI cJ cZ : ClassId) (z0 : Nat) (R : Nat → Nat) (pl : Int32) (N : Nat → Nat) (G : Nat → Nat → Nat) (B : Nat → Nat → Int32) (c5 c6 : Nat) (sz az : Nat → Nat) (hpw : PW N G B sz az c5 c6) (s0 : Nat) : Met l yX12_read vX12_read { frames := 11, cells := 0, slots := 0, locals := 269 } (va_Pc [.ref z0] (mPre dC dI cB cC cI cJ cZ z0 R pl N G B s0)) (va_Qi (fun (r : Int32) (u : ((Nat → Nat) × (Nat → Nat → Nat) × (Nat → Nat → Int32) × Int32)) => match u with | (N1, G1, B1, pl1) => N1 2 = 0 ∧ ∃ sz1 az1, PW N1 G1 B1 sz1 az1 c5 c6) (mPost dC dI cB cC cI cJ cZ z0 R (va_A (MW cB cC cI cJ cZ z0 R pl N G B) s0)) (va_A (MW cB cC cI cJ cZ z0 R pl N G B) s0)) 0 0 (va_A (MW cB cC cI cJ cZ z0 R pl N G B) s0) := by
  refine Met.ofW (cc := cX12_read) (maxL := 5) (ret := (some .int)) (by decide) rfl ?_
  intro p e s m args below meth c s₁ B9 hml hv
  obtain ⟨rfl, hsz, hP, hK, hD0⟩ := hv
  have hx := B9.exec
  have hb := B9.bytes
  have hr := B9.returns
  have hts := atoms_spec (ws := vX12_read) B9.pre
  have hown : s.vm.findClass RX12 = some m.cls := findClass_of_methodNamed B9.named
  have hlocks := B9.notSynchronized
  subst hsz
  have hD := hD0.self (sz := s.heap.size)
  generalize hAe : va_A (MW cB cC cI cJ cZ z0 R pl N G B) s.heap.size = A at hD ⊢
  have hA : ∀ q : Nat, s.heap.size ≤ q → A q := fun q h => by rw [← hAe]; exact Or.inr h
  have hS : va_S A s.heap s.heap [] := va_S.rf
  have hcs : 0 + 0 ≤ (0 : Nat) ∧ 0 + 0 ≤ (0 : Nat) := ⟨Nat.le_refl 0, Nat.le_refl 0⟩
  have hl := lv_entry ([.ref z0]) (n := 5) (Nat.le_of_ble_eq_true rfl)
  rw [lg_entry_eq]
  generalize (lg_sl ([.ref z0]) ++ List.replicate (5 - (lg_sl ([.ref z0])).length) Slot.unset).toArray = ls at hl ⊢
  have hl : lv_has ls 5 [(0, .ref z0)] := hl
  have hG := hpw.1.1
  have p8 := hpw.2.2.2.2.2.2.2
  have hps := hpw.2.2.2.2.2.2.1
  refine lv_aload_n hx hb dX12_read_0 rfl (lv_at hl 0 rfl) ?_
  refine lv_iconst (v := nI 0) hx hb dX12_read_1 (by decide) ?_
  refine mp_0 hx hb hts inX12_read hown hK hP hD hS (hts _ lkX12_read_f168) dX12_read_2 (fun H locs hP hD hS => ?_)
  refine lv_aload_n hx hb dX12_read_5 rfl (lv_at hl 0 rfl) ?_
  refine mcl_v (As := []) (rest := []) ⟨hx, hb, hml, hown, hts⟩ (m_beginText l dC dI cB cC cI cJ cZ z0 R pl (va_up N 0 0) G B   H.size) (cwV 0 hts kX12_read_X12_beginText_408 rfl rfl rfl (by decide +kernel) ⟨Nat.le_of_ble_eq_true rfl, Nat.le_of_ble_eq_true rfl⟩) hK hP hD hS hA rfl rfl hl.1 (lv_room (Nat.le_of_ble_eq_true rfl)) dX12_read_6 hcs (fun  N_1 G_2 B_3 pl_4 hw H locs hP hD hS => ?_)
  dsimp only at hw
  obtain ⟨b0, b14, b15, b23, b20, b27, b34, b35, b36, b38, b33, e2, e3⟩ := hw
  rw [e2, e3] at hP hD
  have b14 : N_1 14 = N 16 := b14
  have b15 : N_1 15 = N 17 := b15
  have a2 : N_1 2 = N 2 := b0 2 (by decide) (by decide) (by decide) (by decide) (by decide) (by decide) (by decide) (by decide) (by decide) (by decide)
  have a6 : N_1 6 = N 6 := b0 6 (by decide) (by decide) (by decide) (by decide) (by decide) (by decide) (by decide) (by decide) (by decide) (by decide)
  have a9 : N_1 9 = N 9 := b0 9 (by decide) (by decide) (by decide) (by decide) (by decide) (by decide) (by decide) (by decide) (by decide) (by decide)
  have a16 : N_1 16 = N 16 := b0 16 (by decide) (by decide) (by decide) (by decide) (by decide) (by decide) (by decide) (by decide) (by decide) (by decide)
  have a17 : N_1 17 = N 17 := b0 17 (by decide) (by decide) (by decide) (by decide) (by decide) (by decide) (by decide) (by decide) (by decide) (by decide)
  have a40 : N_1 40 = N 40 := b0 40 (by decide) (by decide) (by decide) (by decide) (by decide) (by decide) (by decide) (by decide) (by decide) (by decide)
  have a49 : N_1 49 = N 49 := b0 49 (by decide) (by decide) (by decide) (by decide) (by decide) (by decide) (by decide) (by decide) (by decide) (by decide)
  have a53 : N_1 53 = N 53 := b0 53 (by decide) (by decide) (by decide) (by decide) (by decide) (by decide) (by decide) (by decide) (by decide) (by decide)
  obtain ⟨K, hKe⟩ : ∃ K, K = va_up G 22 (va_up (G 22) 1 0) := ⟨_, rfl⟩
  rw [← hKe] at hP hD
  have hGa : ∀ k i, K k i < 1048576 := by rw [hKe]; exact hGup hG (hIup (hG 22) (by decide))
  have ka : ∀ k, k ≠ 22 → K k = G k := fun k hk => by rw [hKe]; exact va_up_ne _ _ hk
  have k22 : K 22 1 = 0 := by rw [hKe]; show va_up (G 22) 1 0 1 = 0; exact va_up_self _ _ _
  refine lv_aload_n hx hb dX12_read_9 rfl (lv_at hl 0 rfl) ?_
  refine mg_9 hx hb hts inX12_read hown hK hP (hts _ lkX12_read_f390) dX12_read_10 ?_
  refine tp_i (y := nI (N 9)) (by rw [a9]) ?_
  have g9 := hpw.2.2.2.2.1
  refine lv_istore_n (lv' := [(1, .int (nI (N 9))), (0, .ref z0)]) hx hb dX12_read_13 rfl hl (by decide) rfl (fun ls hl => ?_)
  refine lv_iconst (v := nI 0) hx hb dX12_read_14 (by decide) ?_
  refine lv_istore_n (lv' := [(2, .int (nI 0)), (1, .int (nI (N 9))), (0, .ref z0)]) hx hb dX12_read_15 rfl hl (by decide) rfl (fun ls hl => ?_)
  have hP : va_P (dC, dI) vwCl (MW cB cC cI cJ cZ z0 R pl_4 N_1 (va_up K 8 (K 8)) B) H := by rw [va_upid]; exact hP
  have hD : va_D A (MW cB cC cI cJ cZ z0 R pl_4 N_1 (va_up K 8 (K 8)) B) := by rw [va_upid]; exact hD
  refine lp_rd1 hx hb hml hown hts hK hA hGa (N 9) (fun X H locs bx px hP hD hS ls hl => ?_) _ 0 (K 8) (Nat.lt_succ_self _) (by decide) (hGa 8) (fun j hj => absurd hj (Nat.not_lt_zero j)) _ _ hP hD hS ls (lv_sub hl [2, 1, 0] rfl)
  have hps1 : PS N_1 (va_up K 8 X) B (N_1 2) c5 c6 := by unfold PS at hps ⊢; rw [a6, a2, show (va_up K 8 X) 5 = G 5 from ka 5 (by decide)]; exact hps
  have hpf1 : PF (va_up N_1 45 0) (va_up K 8 X) sz az (N_1 14) (N_1 15) 0 := by rw [b14, b15]; exact PF.start hpw b14 b15 a6 rfl (hGup hGa bx) (ka 10 (by decide)) (ka 11 (by decide)) (ka 12 (by decide)) (ka 13 (by decide))
  refine lv_aload_n hx hb dX12_read_41 rfl (lv_at hl 0 rfl) ?_
  refine mcl_i (As := []) (rest := []) ⟨hx, hb, hml, hown, hts⟩ (m_parse l dC dI cB cC cI cJ cZ z0 R pl_4 N_1 (va_up K 8 X) B c5 c6 sz az hps1 hpf1 (by rw [a2]; exact p8.1) H.size) (cwV 0 hts kX12_read_X12_parse_411 rfl rfl rfl (by decide +kernel) ⟨Nat.le_of_ble_eq_true rfl, Nat.le_of_ble_eq_true rfl⟩) hK hP hD hS hA rfl rfl hl.1 (lv_room (Nat.le_of_ble_eq_true rfl)) dX12_read_42 hcs (fun r_10 N_6 G_7 B_8 pl_9 hw H locs hP hD hS => ?_)
  dsimp only at hw
  obtain ⟨e4, fi, sz3, az3, hw, hfi, y1, y2, y3, y4⟩ := hw
  rw [e4] at hP hD
  subst hw
  obtain ⟨t1, t2, t3, t4, t5, t6⟩ := y3
  rw [b14] at t4 y2
  rw [b15] at t5 y2
  refine lv_istore_n (lv' := [(2, .int (nI fi)), (0, .ref z0), (1, .int (nI (N 9)))]) hx hb dX12_read_45 rfl hl (by decide) rfl (fun ls hl => ?_)
  refine lv_aload_n hx hb dX12_read_46 rfl (lv_at hl 1 rfl) ?_
  refine lv_iconst (v := nI 0) hx hb dX12_read_47 (by decide) ?_
  refine mp_2 hx hb hts inX12_read hown hK hP hD hS (hts _ lkX12_read_f171) dX12_read_48 (fun H locs hP hD hS => ?_)
  obtain ⟨P, hPe⟩ : ∃ P, P = va_up N_6 2 0 := ⟨_, rfl⟩
  rw [← hPe] at hP hD
  have pk : ∀ k, k ≠ 2 → k ≠ 6 → k ≠ 14 → k ≠ 15 → k ≠ 45 → P k = N_1 k := fun k q1 q2 q3 q4 q5 => by rw [hPe, va_up_ne _ _ q1]; exact t1 k q2 q3 q4 q5
  have c9x := (pk 9 (by decide) (by decide) (by decide) (by decide) (by decide)).trans a9
  have c16x := (pk 16 (by decide) (by decide) (by decide) (by decide) (by decide)).trans a16
  have c17x := (pk 17 (by decide) (by decide) (by decide) (by decide) (by decide)).trans a17
  have c40x := (pk 40 (by decide) (by decide) (by decide) (by decide) (by decide)).trans a40
  have c49x := (pk 49 (by decide) (by decide) (by decide) (by decide) (by decide)).trans a49
  have c53x := (pk 53 (by decide) (by decide) (by decide) (by decide) (by decide)).trans a53
  have c20x := (pk 20 (by decide) (by decide) (by decide) (by decide) (by decide)).trans b20
  have c23x := (pk 23 (by decide) (by decide) (by decide) (by decide) (by decide)).trans b23
  have c27x := (pk 27 (by decide) (by decide) (by decide) (by decide) (by decide)).trans b27
  have c34x := (pk 34 (by decide) (by decide) (by decide) (by decide) (by decide)).trans b34
  have c35x := (pk 35 (by decide) (by decide) (by decide) (by decide) (by decide)).trans b35
  have c36x := (pk 36 (by decide) (by decide) (by decide) (by decide) (by decide)).trans b36
  have c38x := (pk 38 (by decide) (by decide) (by decide) (by decide) (by decide)).trans b38
  have c33x := (pk 33 (by decide) (by decide) (by decide) (by decide) (by decide)).trans b33
  have p2 : P 2 = 0 := by rw [hPe]; rfl
  have p6 : N 6 ≤ P 6 := by rw [hPe, ← a6]; exact t6
  have hps3 : PS P G_7 B_8 0 c5 c6 := by rw [hPe]; exact y1
  have hpf3 : PF P G_7 sz3 az3 (N 16) (N 17) 3000 := by rw [hPe]; exact y2
  have p45 : P 45 = N_6 45 := by rw [hPe]; rfl
  have hlow : LOW N G G_7 := ⟨fun f hf => ⟨by rw [(t4 f hf).1]; show K 10 f = _; rw [ka 10 (by decide)], by rw [(t4 f hf).2.1]; show K 11 f = _; rw [ka 11 (by decide)], by rw [(t4 f hf).2.2.1]; show K 12 f = _; rw [ka 12 (by decide)]⟩, fun j hj => by rw [t5 j hj]; show K 13 j = _; rw [ka 13 (by decide)]⟩
  have k7 : ∀ s, s < 5000 → G_7 7 s = G 7 s := fun s _ => by rw [t2 7 (by decide) (by decide) (by decide) (by decide) (by decide) (by decide) (by decide)]; show K 7 s = _; rw [ka 7 (by decide)]
  have k8 : ∀ s, s < 5000 → G_7 8 s = G 7 s := fun s hs => by rw [t2 8 (by decide) (by decide) (by decide) (by decide) (by decide) (by decide) (by decide)]; show X s = _; rw [px s hs, ka 7 (by decide)]
  have k22b : G_7 22 1 = 0 := by rw [t2 22 (by decide) (by decide) (by decide) (by decide) (by decide) (by decide) (by decide)]; exact k22
  rw [← p45] at y4
  rcases (show fi = 0 ∨ fi = 1 by omega) with hz | hz
  · subst hz
    refine lv_iload_n hx hb dX12_read_51 rfl (lv_at hl 0 rfl) ?_
    refine bz_ne (tgt := 57) hx hb (by first | omega | exact Nat.lt_of_lt_of_le (hG _ _) (by decide)) dX12_read_52 (by decide) (fun q9 => absurd q9 (by omega)) (fun c => ?_)
    refine lv_iconst (v := nI 1) hx hb dX12_read_55 (by decide) ?_
    exact W.iret (v := (nI 1)) hx hb hr (fun t ht hW => ⟨⟨(nI 1), (P, G_7, B_8, pl_4), rfl, ⟨p2, sz, az, hpw.same hlow c16x c17x c9x p6 k7 y2.1 (by rw [p2]; exact hps3) ⟨by omega, by omega, by omega, by omega⟩⟩, by rw [ht]; exact hP, va_K.moved hW.alike hK, hD⟩, hS.F ht⟩) hS.2.2 dX12_read_56
  · subst hz
    obtain ⟨hx4, hr4, hl4⟩ := XI.start hpw hpf3 hps3 hlow (fun f hf => (t4 f hf).2.2.2.1) c16x c17x p6 c9x k7 k8 c20x c23x c27x c34x c35x c36x c33x (by omega) (by omega) k22b
    have hs45 := sumC_len (sz := sz3) (c := G_7 44) (P 45) (fun i hi => hx4.1.2.2.1.one (hpf3.2.2.2.2.2.2.2.1 i hi))
    have hsw := sumW_sumC sz3 (G_7 44) (P 45)
    refine lv_iload_n hx hb dX12_read_51 rfl (lv_at hl 0 rfl) ?_
    refine bz_ne (tgt := 57) hx hb (by first | omega | exact Nat.lt_of_lt_of_le (hG _ _) (by decide)) dX12_read_52 (by decide) (fun c => ?_) (fun q9 => absurd q9 (by omega))
    refine lv_aload_n hx hb dX12_read_57 rfl (lv_at hl 1 rfl) ?_
    refine mg_45 hx hb hts inX12_read hown hK hP (hts _ lkX12_read_f203) dX12_read_58 ?_
    refine lv_istore_n (lv' := [(3, .int (nI (P 45))), (2, .int (nI 1)), (0, .ref z0), (1, .int (nI (N 9)))]) hx hb dX12_read_61 rfl hl (by decide) rfl (fun ls hl => ?_)
    refine lv_iconst (v := nI 0) hx hb dX12_read_62 (by decide) ?_
    refine lv_istore (lv' := [(4, .int (nI 0)), (3, .int (nI (P 45))), (2, .int (nI 1)), (0, .ref z0), (1, .int (nI (N 9)))]) hx hb dX12_read_63 hl (by decide) rfl (fun ls hl => ?_)
    refine lp_rd2 (pl := pl) hx hb hml hown hts hK hA (N 9) (P 14) (by omega) (fun i hi => hpf3.2.2.2.2.2.2.2.1 i hi) (Nat.le_refl _) (by omega) (fun p9 M K2 C sz1 az1 H locs hxi hrq hpl hxu hphi hP hD hS ls hl => ?_) _ 0 pl_4 P G_7 B_8 sz3 az3 (Nat.lt_succ_self _) (by decide) hx4 hr4 hl4 (XT.u XT.refl) (fun _ => by unfold PHI; rw [c38x, c35x, Nat.sub_zero]; omega) _ _ hP hD hS ls (lv_sub hl [3, 4, 1, 0] rfl)
    have hGm := hxi.1.1
    have hnf := hxi.2.2.2.2.2.1
    have m2 : M 2 = 0 := (hxu.1 2 (by omega)).trans p2
    have m16 : M 16 = N 16 := (hxu.1 16 (by omega)).trans c16x
    have m17 : M 17 = N 17 := (hxu.1 17 (by omega)).trans c17x
    have m6 : N 6 ≤ M 6 := by rw [hxu.1 6 (by omega)]; exact p6
    have m40 : M 40 ≤ 4000 := by rw [hxu.1 40 (by omega)]; omega
    have f14 := hpf3.2.2.2.2.2.2.2.2
    have hlow2 : LOW N G K2 := ⟨fun f hf => by have z := hxu.2.2.2.2.2.2.1 f (by omega); have y := hlow.1 f hf; exact ⟨z.1.trans y.1, z.2.1.trans y.2.1, z.2.2.trans y.2.2⟩, fun j hj => (hxu.2.2.2.2.2.2.2 j (by omega)).trans (hlow.2 j hj)⟩
    have hk8 : ∀ s, s < 5000 → K2 8 s = G 7 s := fun s hs => by rw [hxu.2.1 8 (by omega)]; exact k8 s hs
    have hpsm : PS M K2 C 0 c5 c6 := by unfold PS at hps3 ⊢; rw [hxu.1 6 (by omega), hxu.2.1 5 (by omega), hxu.2.2.1 4 (by decide)]; exact hps3
    refine lv_aload_n hx hb dX12_read_112 rfl (lv_at hl 0 rfl) ?_
    refine mg_33 hx hb hts inX12_read hown hK hP (hts _ lkX12_read_f236) dX12_read_113 ?_
    refine bz_ne (tgt := 141) hx hb (by first | omega | exact Nat.lt_of_lt_of_le (hG _ _) (by decide)) dX12_read_116 (by decide) (fun e1 => ?_) (fun e1 => ?_)
    · refine lp_rd5 (pl := pl) hx hb hml hown hts hK hA hpw (N 9) (P 45) (p9) M K2 C hxi hrq hpl hlow2 m2 m16 m17 rfl m6 hk8 hpsm m40 (fun z => absurd z (by omega)) (fun p9 N1 G1 B1 v H locs hfin hP hD hS ls hl => ?_) (fun p9 N1 G1 B1 H locs hfin hP hD hS ls hl => ?_) _ _ hP hD hS ls (lv_sub hl [0, 1, 2] rfl)
      · exact W.iret (v := v) hx hb hr (fun t ht hW => ⟨⟨v, (N1, G1, B1, p9), rfl, hfin, by rw [ht]; exact hP, va_K.moved hW.alike hK, hD⟩, hS.F ht⟩) hS.2.2 dX12_read_188
      · exact W.iret (v := (nI 0)) hx hb hr (fun t ht hW => ⟨⟨(nI 0), (N1, G1, B1, p9), rfl, hfin, by rw [ht]; exact hP, va_K.moved hW.alike hK, hD⟩, hS.F ht⟩) hS.2.2 dX12_read_255
    · have hphi := hphi e1
      have hb38 : M 38 ≤ 1940000000 := by unfold PHI at hphi; omega
      refine lv_aload_n hx hb dX12_read_119 rfl (lv_at hl 0 rfl) ?_
      refine mg_38 hx hb hts inX12_read hown hK hP (hts _ lkX12_read_f223) dX12_read_120 ?_
      refine lv_sipush (v := nI 4000) hx hb dX12_read_123 (by decide) ?_
      refine bn_le (tgt := 141) hx hb (by first | omega | exact Nat.lt_of_lt_of_le (hG _ _) (by decide)) (by first | omega | exact Nat.lt_of_lt_of_le (hG _ _) (by decide)) dX12_read_126 (by decide) (fun e2 => ?_) (fun e2 => ?_)
      · refine lp_rd5 (pl := pl) hx hb hml hown hts hK hA hpw (N 9) (P 45) (p9) M K2 C hxi hrq hpl hlow2 m2 m16 m17 rfl m6 hk8 hpsm m40 (fun _ => e2) (fun p9 N1 G1 B1 v H locs hfin hP hD hS ls hl => ?_) (fun p9 N1 G1 B1 H locs hfin hP hD hS ls hl => ?_) _ _ hP hD hS ls (lv_sub hl [0, 1, 2] rfl)
        · exact W.iret (v := v) hx hb hr (fun t ht hW => ⟨⟨v, (N1, G1, B1, p9), rfl, hfin, by rw [ht]; exact hP, va_K.moved hW.alike hK, hD⟩, hS.F ht⟩) hS.2.2 dX12_read_188
        · exact W.iret (v := (nI 0)) hx hb hr (fun t ht hW => ⟨⟨(nI 0), (N1, G1, B1, p9), rfl, hfin, by rw [ht]; exact hP, va_K.moved hW.alike hK, hD⟩, hS.F ht⟩) hS.2.2 dX12_read_255
      · refine lv_aload_n hx hb dX12_read_129 rfl (lv_at hl 0 rfl) ?_
        refine lv_iconst (v := nI 2) hx hb dX12_read_130 (by decide) ?_
        refine mp_33 hx hb hts inX12_read hown hK hP hD hS (hts _ lkX12_read_f236) dX12_read_131 (fun H locs hP hD hS => ?_)
        refine lv_aload_n hx hb dX12_read_134 rfl (lv_at hl 0 rfl) ?_
        refine lv_iload_n hx hb dX12_read_135 rfl (lv_at hl 2 rfl) ?_
        refine lv_iconst (v := nI 1) hx hb dX12_read_136 (by decide) ?_
        refine lv_isub hx hb dX12_read_137 ?_
        refine mp_3 hx hb hts inX12_read hown hK hP hD hS (hts _ lkX12_read_f13) dX12_read_138 (fun H locs hP hD hS => ?_)
        have hx5 : XI (va_up M 33 2) K2 sz1 az1 := hxi.fault (by decide) (by decide)
        have hr5 : RQ (va_up M 33 2) K2 sz1 (P 14) := hrq
        have hl5 : PLN (va_up M 33 2) K2 (P 14) := hpl
        refine lp_rd5 (pl := pl) hx hb hml hown hts hK hA hpw (N 9) (P 45) (nI (P 45) - 1) (va_up M 33 2) K2 C hx5 hr5 hl5 hlow2 m2 m16 m17 rfl m6 hk8 (show PS M K2 C 0 c5 c6 from hpsm) m40 (fun z => absurd (show (2 : Nat) = 0 from z) (by decide)) (fun p9 N1 G1 B1 v H locs hfin hP hD hS ls hl => ?_) (fun p9 N1 G1 B1 H locs hfin hP hD hS ls hl => ?_) _ _ hP hD hS ls (lv_sub hl [0, 1, 2] rfl)
        · exact W.iret (v := v) hx hb hr (fun t ht hW => ⟨⟨v, (N1, G1, B1, p9), rfl, hfin, by rw [ht]; exact hP, va_K.moved hW.alike hK, hD⟩, hS.F ht⟩) hS.2.2 dX12_read_188
        · exact W.iret (v := (nI 0)) hx hb hr (fun t ht hW => ⟨⟨(nI 0), (N1, G1, B1, p9), rfl, hfin, by rw [ht]; exact hP, va_K.moved hW.alike hK, hD⟩, hS.F ht⟩) hS.2.2 dX12_read_255
