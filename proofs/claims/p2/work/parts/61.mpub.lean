def oX12_means : List Cond := [Cond.fieldLink RX12 168 "MacroScopesModel" "thrown" "I", Cond.fieldLink RX12 402 "MacroScopesModel" "staying" "I", Cond.fieldLink RX12 196 "MacroScopesModel" "forms" "I", Cond.fieldLink RX12 405 "MacroScopesModel" "stayingParts" "I", Cond.fieldLink RX12 220 "MacroScopesModel" "partCount" "I", Cond.methodLink RX12 411 yX12_parse, Cond.instanceMethod yX12_parse, Cond.selects RX12 yX12_parse yX12_parse, Cond.initialized RX12, Cond.fieldLink RX12 171 "MacroScopesModel" "length" "I", Cond.fieldLink RX12 203 "MacroScopesModel" "waits" "I", Cond.fieldLink RX12 85 "MacroScopesModel" "waiting" "[I", Cond.methodLink RX12 180 yX12_isName, Cond.instanceMethod yX12_isName, Cond.selects RX12 yX12_isName yX12_isName, Cond.fieldLink RX12 35 "MacroScopesModel" "values" "[I", Cond.fieldLink RX12 25 "MacroScopesModel" "defined" "[I"]
def vX12_means : List Cond := .code yX12_means cX12_means 3 (some .int) :: (oX12_means ++ (vX12_parse ++ (vX12_isName ++ (wsX120))))
theorem lkX12_means_f168 : Cond.fieldLink RX12 168 "MacroScopesModel" "thrown" "I" ∈ vX12_means := List.mem_cons_of_mem _ (List.mem_append_left _ (List.mem_of_getElem? (i := 0) rfl))
theorem lkX12_means_f402 : Cond.fieldLink RX12 402 "MacroScopesModel" "staying" "I" ∈ vX12_means := List.mem_cons_of_mem _ (List.mem_append_left _ (List.mem_of_getElem? (i := 1) rfl))
theorem lkX12_means_f196 : Cond.fieldLink RX12 196 "MacroScopesModel" "forms" "I" ∈ vX12_means := List.mem_cons_of_mem _ (List.mem_append_left _ (List.mem_of_getElem? (i := 2) rfl))
theorem lkX12_means_f405 : Cond.fieldLink RX12 405 "MacroScopesModel" "stayingParts" "I" ∈ vX12_means := List.mem_cons_of_mem _ (List.mem_append_left _ (List.mem_of_getElem? (i := 3) rfl))
theorem lkX12_means_f220 : Cond.fieldLink RX12 220 "MacroScopesModel" "partCount" "I" ∈ vX12_means := List.mem_cons_of_mem _ (List.mem_append_left _ (List.mem_of_getElem? (i := 4) rfl))
theorem lkX12_means_f171 : Cond.fieldLink RX12 171 "MacroScopesModel" "length" "I" ∈ vX12_means := List.mem_cons_of_mem _ (List.mem_append_left _ (List.mem_of_getElem? (i := 9) rfl))
theorem lkX12_means_f203 : Cond.fieldLink RX12 203 "MacroScopesModel" "waits" "I" ∈ vX12_means := List.mem_cons_of_mem _ (List.mem_append_left _ (List.mem_of_getElem? (i := 10) rfl))
theorem lkX12_means_f85 : Cond.fieldLink RX12 85 "MacroScopesModel" "waiting" "[I" ∈ vX12_means := List.mem_cons_of_mem _ (List.mem_append_left _ (List.mem_of_getElem? (i := 11) rfl))
theorem lkX12_means_f35 : Cond.fieldLink RX12 35 "MacroScopesModel" "values" "[I" ∈ vX12_means := List.mem_cons_of_mem _ (List.mem_append_left _ (List.mem_of_getElem? (i := 15) rfl))
theorem lkX12_means_f25 : Cond.fieldLink RX12 25 "MacroScopesModel" "defined" "[I" ∈ vX12_means := List.mem_cons_of_mem _ (List.mem_append_left _ (List.mem_of_getElem? (i := 16) rfl))
theorem inX12_means : ∀ w ∈ wsX120, w ∈ vX12_means := fun w h => List.mem_cons_of_mem _ (List.mem_append_right _ (List.mem_append_right _ (List.mem_append_right _ (h))))
theorem kX12_means_X12_parse_411 : GoodIn vX12_means (wsV RX12 411 RX12 yX12_parse vX12_parse) := goodIn_sub (fun w h => (List.mem_append.mp h).elim (fun h => List.mem_cons_of_mem _ (List.mem_append_left _ ((by decide +kernel : ∀ w ∈ ([.methodLink RX12 411 yX12_parse, .instanceMethod yX12_parse, .selects RX12 yX12_parse yX12_parse, .initialized RX12] : List Cond), w ∈ oX12_means) w h))) (fun h => List.mem_cons_of_mem _ (List.mem_append_right _ (List.mem_append_left _ (h))))) (by decide +kernel)
theorem kX12_means_X12_isName_180 : GoodIn vX12_means (wsV RX12 180 RX12 yX12_isName vX12_isName) := goodIn_sub (fun w h => (List.mem_append.mp h).elim (fun h => List.mem_cons_of_mem _ (List.mem_append_left _ ((by decide +kernel : ∀ w ∈ ([.methodLink RX12 180 yX12_isName, .instanceMethod yX12_isName, .selects RX12 yX12_isName yX12_isName, .initialized RX12] : List Cond), w ∈ oX12_means) w h))) (fun h => List.mem_cons_of_mem _ (List.mem_append_right _ (List.mem_append_right _ (List.mem_append_left _ (h)))))) (by decide +kernel)
def oX12_count : List Cond := [Cond.fieldLink RX12 165 "MacroScopesModel" "symbols" "I", Cond.fieldLink RX12 25 "MacroScopesModel" "defined" "[I", Cond.fieldLink RX12 168 "MacroScopesModel" "thrown" "I", Cond.fieldLink RX12 390 "MacroScopesModel" "ruleSize" "I", Cond.fieldLink RX12 427 "MacroScopesModel" "keptTops" "I", Cond.fieldLink RX12 424 "MacroScopesModel" "keptVariables" "I", Cond.fieldLink RX12 421 "MacroScopesModel" "keptUses" "I", Cond.fieldLink RX12 418 "MacroScopesModel" "keptSize" "I"]
def vX12_count : List Cond := .code yX12_count cX12_count 4 (some .int) :: (oX12_count ++ (wsX120))
theorem lkX12_count_f165 : Cond.fieldLink RX12 165 "MacroScopesModel" "symbols" "I" ∈ vX12_count := List.mem_cons_of_mem _ (List.mem_append_left _ (List.mem_of_getElem? (i := 0) rfl))
theorem lkX12_count_f25 : Cond.fieldLink RX12 25 "MacroScopesModel" "defined" "[I" ∈ vX12_count := List.mem_cons_of_mem _ (List.mem_append_left _ (List.mem_of_getElem? (i := 1) rfl))
theorem lkX12_count_f168 : Cond.fieldLink RX12 168 "MacroScopesModel" "thrown" "I" ∈ vX12_count := List.mem_cons_of_mem _ (List.mem_append_left _ (List.mem_of_getElem? (i := 2) rfl))
theorem lkX12_count_f390 : Cond.fieldLink RX12 390 "MacroScopesModel" "ruleSize" "I" ∈ vX12_count := List.mem_cons_of_mem _ (List.mem_append_left _ (List.mem_of_getElem? (i := 3) rfl))
theorem lkX12_count_f427 : Cond.fieldLink RX12 427 "MacroScopesModel" "keptTops" "I" ∈ vX12_count := List.mem_cons_of_mem _ (List.mem_append_left _ (List.mem_of_getElem? (i := 4) rfl))
theorem lkX12_count_f424 : Cond.fieldLink RX12 424 "MacroScopesModel" "keptVariables" "I" ∈ vX12_count := List.mem_cons_of_mem _ (List.mem_append_left _ (List.mem_of_getElem? (i := 5) rfl))
theorem lkX12_count_f421 : Cond.fieldLink RX12 421 "MacroScopesModel" "keptUses" "I" ∈ vX12_count := List.mem_cons_of_mem _ (List.mem_append_left _ (List.mem_of_getElem? (i := 6) rfl))
theorem lkX12_count_f418 : Cond.fieldLink RX12 418 "MacroScopesModel" "keptSize" "I" ∈ vX12_count := List.mem_cons_of_mem _ (List.mem_append_left _ (List.mem_of_getElem? (i := 7) rfl))
theorem inX12_count : ∀ w ∈ wsX120, w ∈ vX12_count := fun w h => List.mem_cons_of_mem _ (List.mem_append_right _ (h))
def oX12_character : List Cond := [Cond.fieldLink RX12 168 "MacroScopesModel" "thrown" "I", Cond.fieldLink RX12 418 "MacroScopesModel" "keptSize" "I", Cond.fieldLink RX12 82 "MacroScopesModel" "kept" "[B"]
def vX12_character : List Cond := .code yX12_character cX12_character 2 (some .int) :: (oX12_character ++ (wsX120))
theorem lkX12_character_f168 : Cond.fieldLink RX12 168 "MacroScopesModel" "thrown" "I" ∈ vX12_character := List.mem_cons_of_mem _ (List.mem_append_left _ (List.mem_of_getElem? (i := 0) rfl))
theorem lkX12_character_f418 : Cond.fieldLink RX12 418 "MacroScopesModel" "keptSize" "I" ∈ vX12_character := List.mem_cons_of_mem _ (List.mem_append_left _ (List.mem_of_getElem? (i := 1) rfl))
theorem lkX12_character_f82 : Cond.fieldLink RX12 82 "MacroScopesModel" "kept" "[B" ∈ vX12_character := List.mem_cons_of_mem _ (List.mem_append_left _ (List.mem_of_getElem? (i := 2) rfl))
theorem inX12_character : ∀ w ∈ wsX120, w ∈ vX12_character := fun w h => List.mem_cons_of_mem _ (List.mem_append_right _ (h))
def oX12_place : List Cond := [Cond.fieldLink RX12 168 "MacroScopesModel" "thrown" "I", Cond.fieldLink RX12 13 "MacroScopesModel" "place" "I"]
def vX12_place : List Cond := .code yX12_place cX12_place 1 (some .int) :: (oX12_place ++ (wsX120))
theorem lkX12_place_f168 : Cond.fieldLink RX12 168 "MacroScopesModel" "thrown" "I" ∈ vX12_place := List.mem_cons_of_mem _ (List.mem_append_left _ (List.mem_of_getElem? (i := 0) rfl))
theorem lkX12_place_f13 : Cond.fieldLink RX12 13 "MacroScopesModel" "place" "I" ∈ vX12_place := List.mem_cons_of_mem _ (List.mem_append_left _ (List.mem_of_getElem? (i := 1) rfl))
theorem inX12_place : ∀ w ∈ wsX120, w ∈ vX12_place := fun w h => List.mem_cons_of_mem _ (List.mem_append_right _ (h))
def oX12_check : List Cond := [Cond.fieldLink RX12 168 "MacroScopesModel" "thrown" "I"]
def vX12_check : List Cond := .code yX12_check cX12_check 1 (some .int) :: (oX12_check ++ (wsX120))
theorem lkX12_check_f168 : Cond.fieldLink RX12 168 "MacroScopesModel" "thrown" "I" ∈ vX12_check := List.mem_cons_of_mem _ (List.mem_append_left _ (List.mem_of_getElem? (i := 0) rfl))
theorem inX12_check : ∀ w ∈ wsX120, w ∈ vX12_check := fun w h => List.mem_cons_of_mem _ (List.mem_append_right _ (h))
set_option maxHeartbeats 4000000 in
set_option maxRecDepth 100000 in
/-- means -/
theorem m_means (l : Launch) (dC : Nat → ClassId) (dI : Nat → Nat → Nat) (cB cC cI cJ cZ : ClassId) (z0 : Nat) (R : Nat → Nat) (pl : Int32) (N : Nat → Nat) (G : Nat → Nat → Nat) (B : Nat → Nat → Int32) (c5 c6 : Nat) (sz az : Nat → Nat) (hpw : PW N G B sz az c5 c6) (s0 : Nat) : Met l yX12_means vX12_means { frames := 4, cells := 0, slots := 0, locals := 98 } (va_Pc [.ref z0] (mPre dC dI cB cC cI cJ cZ z0 R pl N G B s0)) (va_Qi (fun (r : Int32) (u : ((Nat → Nat) × (Nat → Nat → Nat) × (Nat → Nat → Int32) × Int32)) => match u with | (N1, G1, B1, pl1) => N1 2 = 0 ∧ ∃ sz1 az1, PW N1 G1 B1 sz1 az1 c5 c6) (mPost dC dI cB cC cI cJ cZ z0 R (va_A (MW cB cC cI cJ cZ z0 R pl N G B) s0)) (va_A (MW cB cC cI cJ cZ z0 R pl N G B) s0)) 0 0 (va_A (MW cB cC cI cJ cZ z0 R pl N G B) s0) := by
  refine Met.ofW (cc := cX12_means) (maxL := 3) (ret := (some .int)) (by decide) rfl ?_
  intro p e s m args below meth c s₁ B9 hml hv
  obtain ⟨rfl, hsz, hP, hK, hD0⟩ := hv
  have hx := B9.exec
  have hb := B9.bytes
  have hr := B9.returns
  have hts := atoms_spec (ws := vX12_means) B9.pre
  have hown : s.vm.findClass RX12 = some m.cls := findClass_of_methodNamed B9.named
  have hlocks := B9.notSynchronized
  subst hsz
  have hD := hD0.self (sz := s.heap.size)
  generalize hAe : va_A (MW cB cC cI cJ cZ z0 R pl N G B) s.heap.size = A at hD ⊢
  have hA : ∀ q : Nat, s.heap.size ≤ q → A q := fun q h => by rw [← hAe]; exact Or.inr h
  have hS : va_S A s.heap s.heap [] := va_S.rf
  have hcs : 0 + 0 ≤ (0 : Nat) ∧ 0 + 0 ≤ (0 : Nat) := ⟨Nat.le_refl 0, Nat.le_refl 0⟩
  have hl := lv_entry ([.ref z0]) (n := 3) (Nat.le_of_ble_eq_true rfl)
  rw [lg_entry_eq]
  generalize (lg_sl ([.ref z0]) ++ List.replicate (3 - (lg_sl ([.ref z0])).length) Slot.unset).toArray = ls at hl ⊢
  have hl : lv_has ls 3 [(0, .ref z0)] := hl
  have hG := hpw.1.1
  have p8 := hpw.2.2.2.2.2.2.2
  have hps := hpw.2.2.2.2.2.2.1
  have p5 := hpw.2.2.2.2.1
  refine lv_aload_n hx hb dX12_means_0 rfl (lv_at hl 0 rfl) ?_
  refine lv_iconst (v := nI 0) hx hb dX12_means_1 (by decide) ?_
  refine mp_0 hx hb hts inX12_means hown hK hP hD hS (hts _ lkX12_means_f168) dX12_means_2 (fun H locs hP hD hS => ?_)
  refine lv_aload_n hx hb dX12_means_5 rfl (lv_at hl 0 rfl) ?_
  refine lv_aload_n hx hb dX12_means_6 rfl (lv_at hl 0 rfl) ?_
  refine mg_16 hx hb hts inX12_means hown hK hP (hts _ lkX12_means_f402) dX12_means_7 ?_
  refine tp_i (y := nI (N 16)) rfl ?_
  refine mp_14 hx hb hts inX12_means hown hK hP hD hS (hts _ lkX12_means_f196) dX12_means_10 (fun H locs hP hD hS => ?_)
  refine lv_aload_n hx hb dX12_means_13 rfl (lv_at hl 0 rfl) ?_
  refine lv_aload_n hx hb dX12_means_14 rfl (lv_at hl 0 rfl) ?_
  refine mg_17 hx hb hts inX12_means hown hK hP (hts _ lkX12_means_f405) dX12_means_15 ?_
  refine tp_i (y := nI (N 17)) rfl ?_
  refine mp_15 hx hb hts inX12_means hown hK hP hD hS (hts _ lkX12_means_f220) dX12_means_18 (fun H locs hP hD hS => ?_)
  refine lv_aload_n hx hb dX12_means_21 rfl (lv_at hl 0 rfl) ?_
  obtain ⟨Na, hNa⟩ : ∃ Na, Na = va_up (va_up (va_up N 0 0) 14 (N 16)) 15 (N 17) := ⟨_, rfl⟩
  rw [← hNa] at hP hD
  have a2 : Na 2 = N 2 := by rw [hNa]; rfl
  have a6 : Na 6 = N 6 := by rw [hNa]; rfl
  have a9 : Na 9 = N 9 := by rw [hNa]; rfl
  have a16 : Na 16 = N 16 := by rw [hNa]; rfl
  have a17 : Na 17 = N 17 := by rw [hNa]; rfl
  have a40 : Na 40 = N 40 := by rw [hNa]; rfl
  have a49 : Na 49 = N 49 := by rw [hNa]; rfl
  have a53 : Na 53 = N 53 := by rw [hNa]; rfl
  have b14 : Na 14 = N 16 := by rw [hNa]; rfl
  have b15 : Na 15 = N 17 := by rw [hNa]; rfl
  have hps1 : PS Na G B (Na 2) c5 c6 := by unfold PS at hps ⊢; rw [a6, a2]; exact hps
  have hpf1 : PF (va_up Na 45 0) G sz az (Na 14) (Na 15) 0 := by rw [b14, b15]; exact PF.start hpw b14 b15 a6 rfl hG rfl rfl rfl rfl
  refine mcl_i (As := []) (rest := []) ⟨hx, hb, hml, hown, hts⟩ (m_parse l dC dI cB cC cI cJ cZ z0 R pl Na G B c5 c6 sz az hps1 hpf1 (by rw [a2]; exact p8.1) H.size) (cwV 0 hts kX12_means_X12_parse_411 rfl rfl rfl (by decide +kernel) ⟨Nat.le_of_ble_eq_true rfl, Nat.le_of_ble_eq_true rfl⟩) hK hP hD hS hA rfl rfl hl.1 (lv_room (Nat.le_of_ble_eq_true rfl)) dX12_means_22 hcs (fun r_5 N_1 G_2 B_3 pl_4 hw H locs hP hD hS => ?_)
  dsimp only at hw
  obtain ⟨e4, fi, sz3, az3, hw, hfi, y1, y2, y3, y4⟩ := hw
  rw [e4] at hP hD
  subst hw
  obtain ⟨t1, t2, t3, t4, t5, t6⟩ := y3
  rw [b14] at t4 y2
  rw [b15] at t5 y2
  refine lv_istore_n (lv' := [(1, .int (nI fi)), (0, .ref z0)]) hx hb dX12_means_25 rfl hl (by decide) rfl (fun ls hl => ?_)
  refine lv_aload_n hx hb dX12_means_26 rfl (lv_at hl 1 rfl) ?_
  refine lv_iconst (v := nI 0) hx hb dX12_means_27 (by decide) ?_
  refine mp_2 hx hb hts inX12_means hown hK hP hD hS (hts _ lkX12_means_f171) dX12_means_28 (fun H locs hP hD hS => ?_)
  obtain ⟨P, hPe⟩ : ∃ P, P = va_up N_1 2 0 := ⟨_, rfl⟩
  rw [← hPe] at hP hD
  have pk : ∀ k, k ≠ 2 → k ≠ 6 → k ≠ 14 → k ≠ 15 → k ≠ 45 → P k = Na k := fun k q1 q2 q3 q4 q5 => by rw [hPe, va_up_ne _ _ q1]; exact t1 k q2 q3 q4 q5
  have c9x := (pk 9 (by decide) (by decide) (by decide) (by decide) (by decide)).trans a9
  have c16x := (pk 16 (by decide) (by decide) (by decide) (by decide) (by decide)).trans a16
  have c17x := (pk 17 (by decide) (by decide) (by decide) (by decide) (by decide)).trans a17
  have c40x := (pk 40 (by decide) (by decide) (by decide) (by decide) (by decide)).trans a40
  have c49x := (pk 49 (by decide) (by decide) (by decide) (by decide) (by decide)).trans a49
  have c53x := (pk 53 (by decide) (by decide) (by decide) (by decide) (by decide)).trans a53
  have p2 : P 2 = 0 := by rw [hPe]; rfl
  have p6 : N 6 ≤ P 6 := by rw [hPe, ← a6]; exact t6
  have hps3 : PS P G_2 B_3 0 c5 c6 := by rw [hPe]; exact y1
  have hpf3 : PF P G_2 sz3 az3 (N 16) (N 17) 3000 := by rw [hPe]; exact y2
  have hlow : LOW N G G_2 := ⟨fun f hf => ⟨(t4 f hf).1, (t4 f hf).2.1, (t4 f hf).2.2.1⟩, t5⟩
  have k7 : ∀ s, s < 5000 → G_2 7 s = G 7 s := fun s _ => by rw [t2 7 (by decide) (by decide) (by decide) (by decide) (by decide) (by decide) (by decide)]
  have hfin : P 2 = 0 ∧ ∃ sz1 az1, PW P G_2 B_3 sz1 az1 c5 c6 := ⟨p2, sz, az, hpw.same hlow c16x c17x c9x p6 k7 y2.1 (by rw [p2]; exact hps3) ⟨by omega, by omega, by omega, by omega⟩⟩
  have hG2 := hpf3.1
  have f8 := hpf3.2.2.2.2.2.2.2.1
  have f9 := hpf3.2.2.2.2.2.2.2.2
  have f6 := hpf3.2.2.2.2.2.1.2
  have u6 := hpf3.2.1.1
  have h6c : P 6 ≤ 4500 := by have := hps3.2.1; have := hps3.2.2.1; omega
  refine lv_iload_n hx hb dX12_means_31 rfl (lv_at hl 0 rfl) ?_
  refine bz_eq (tgt := 56) hx hb (by first | omega | exact Nat.lt_of_lt_of_le (hG _ _) (by decide)) dX12_means_32 (by decide) (fun c1 => ?_) (fun c1 => ?_)
  · refine lv_iconst (v := nI 0 - 1) hx hb dX12_means_56 (by decide) ?_
    exact W.iret (v := (nI 0 - 1)) hx hb hr (fun t ht hW => ⟨⟨(nI 0 - 1), (P, G_2, B_3, pl), rfl, hfin, by rw [ht]; exact hP, va_K.moved hW.alike hK, hD⟩, hS.F ht⟩) hS.2.2 dX12_means_57
  · have g45 : P 45 ≤ 90000 := by omega
    refine lv_aload_n hx hb dX12_means_35 rfl (lv_at hl 1 rfl) ?_
    refine mg_45 hx hb hts inX12_means hown hK hP (hts _ lkX12_means_f203) dX12_means_36 ?_
    refine lv_iconst (v := nI 1) hx hb dX12_means_39 (by decide) ?_
    refine bn_ne (tgt := 56) hx hb (by first | omega | exact Nat.lt_of_lt_of_le (hG _ _) (by decide)) (by first | omega | exact Nat.lt_of_lt_of_le (hG _ _) (by decide)) dX12_means_40 (by decide) (fun c2 => ?_) (fun c2 => ?_)
    · refine lv_iconst (v := nI 0 - 1) hx hb dX12_means_56 (by decide) ?_
      exact W.iret (v := (nI 0 - 1)) hx hb hr (fun t ht hW => ⟨⟨(nI 0 - 1), (P, G_2, B_3, pl), rfl, hfin, by rw [ht]; exact hP, va_K.moved hW.alike hK, hD⟩, hS.F ht⟩) hS.2.2 dX12_means_57
    · have hf := f8 0 (by omega)
      have g44 := hG2 44 0
      refine lv_aload_n hx hb dX12_means_43 rfl (lv_at hl 1 rfl) ?_
      refine lv_aload_n hx hb dX12_means_44 rfl (lv_at hl 1 rfl) ?_
      refine mg_44 hx hb hts inX12_means hown hK hP (hts _ lkX12_means_f85) dX12_means_45 ?_
      refine lv_iconst (v := nI 0) hx hb dX12_means_48 (by decide) ?_
      refine ml_44 hx hb hK hP (by omega) dX12_means_49 ?_
      refine mcl_i (As := [.int (nI (G_2 44 0))]) (rest := []) ⟨hx, hb, hml, hown, hts⟩ (m_isName l dC dI cB cC cI cJ cZ z0 R pl P G_2 B_3 (G_2 44 0) hG2 (by omega) H.size) (cwV 1 hts kX12_means_X12_isName_180 rfl rfl rfl (by decide +kernel) ⟨Nat.le_of_ble_eq_true rfl, Nat.le_of_ble_eq_true rfl⟩) hK hP hD hS hA rfl rfl hl.1 (lv_room (Nat.le_of_ble_eq_true rfl)) dX12_means_50 hcs (fun r_11 N_7 G_8 B_9 pl_10 hw H locs hP hD hS => ?_)
      dsimp only at hw
      obtain ⟨e1, e2, e3, e4, hw⟩ := hw
      rw [e1, e2, e3, e4] at hP hD
      have hw : r_11 = nI (if G_2 10 (G_2 44 0) = 1 then 1 else 0) := hw
      by_cases c_6 : G_2 10 (G_2 44 0) = 1
      · rw [if_pos c_6] at hw
        subst hw
        have hy := (f6 _ hf).2 c_6
        have g7 := hG2 7 (G_2 11 (G_2 44 0))
        refine bz_ne (tgt := 58) hx hb (by first | omega | exact Nat.lt_of_lt_of_le (hG _ _) (by decide)) dX12_means_53 (by decide) (fun c => ?_) (fun q9 => absurd q9 (by omega))
        refine lv_aload_n hx hb dX12_means_58 rfl (lv_at hl 1 rfl) ?_
        refine mg_11 hx hb hts inX12_means hown hK hP (hts _ lkX12_means_f35) dX12_means_59 ?_
        refine lv_aload_n hx hb dX12_means_62 rfl (lv_at hl 1 rfl) ?_
        refine mg_44 hx hb hts inX12_means hown hK hP (hts _ lkX12_means_f85) dX12_means_63 ?_
        refine lv_iconst (v := nI 0) hx hb dX12_means_66 (by decide) ?_
        refine ml_44 hx hb hK hP (by omega) dX12_means_67 ?_
        refine ml_11 hx hb hK hP (by omega) dX12_means_68 ?_
        refine lv_istore_n (lv' := [(2, .int (nI (G_2 11 (G_2 44 0)))), (1, .int (nI fi)), (0, .ref z0)]) hx hb dX12_means_69 rfl hl (by decide) rfl (fun ls hl => ?_)
        refine lv_iload_n hx hb dX12_means_70 rfl (lv_at hl 0 rfl) ?_
        refine lv_bipush (v := nI 6) hx hb dX12_means_71 (by decide) ?_
        refine bn_gt (tgt := 80) hx hb (by first | omega | exact Nat.lt_of_lt_of_le (hG _ _) (by decide)) (by first | omega | exact Nat.lt_of_lt_of_le (hG _ _) (by decide)) dX12_means_73 (by decide) (fun c_12 => ?_) (fun c_12 => ?_)
        · refine lv_aload_n hx hb dX12_means_80 rfl (lv_at hl 2 rfl) ?_
          refine mg_7 hx hb hts inX12_means hown hK hP (hts _ lkX12_means_f25) dX12_means_81 ?_
          refine lv_iload_n hx hb dX12_means_84 rfl (lv_at hl 0 rfl) ?_
          refine ml_7 hx hb hK hP (by omega) dX12_means_85 ?_
          refine bz_le (tgt := 93) hx hb (by first | omega | exact Nat.lt_of_lt_of_le (hG _ _) (by decide)) dX12_means_86 (by decide) (fun c_13 => ?_) (fun c_13 => ?_)
          · refine lv_iconst (v := nI 0) hx hb dX12_means_93 (by decide) ?_
            exact W.iret (v := (nI 0)) hx hb hr (fun t ht hW => ⟨⟨(nI 0), (P, G_2, B_3, pl), rfl, hfin, by rw [ht]; exact hP, va_K.moved hW.alike hK, hD⟩, hS.F ht⟩) hS.2.2 dX12_means_94
          · refine lv_iconst (v := nI 2) hx hb dX12_means_89 (by decide) ?_
            refine lv_goto (tgt := 94) hx hb dX12_means_90 (by decide) ?_
            exact W.iret (v := (nI 2)) hx hb hr (fun t ht hW => ⟨⟨(nI 2), (P, G_2, B_3, pl), rfl, hfin, by rw [ht]; exact hP, va_K.moved hW.alike hK, hD⟩, hS.F ht⟩) hS.2.2 dX12_means_94
        · refine lv_iconst (v := nI 1) hx hb dX12_means_76 (by decide) ?_
          refine lv_goto (tgt := 94) hx hb dX12_means_77 (by decide) ?_
          exact W.iret (v := (nI 1)) hx hb hr (fun t ht hW => ⟨⟨(nI 1), (P, G_2, B_3, pl), rfl, hfin, by rw [ht]; exact hP, va_K.moved hW.alike hK, hD⟩, hS.F ht⟩) hS.2.2 dX12_means_94
      · rw [if_neg c_6] at hw
        subst hw
        refine bz_ne (tgt := 58) hx hb (by first | omega | exact Nat.lt_of_lt_of_le (hG _ _) (by decide)) dX12_means_53 (by decide) (fun q9 => absurd q9 (by omega)) (fun c => ?_)
        refine lv_iconst (v := nI 0 - 1) hx hb dX12_means_56 (by decide) ?_
        exact W.iret (v := (nI 0 - 1)) hx hb hr (fun t ht hW => ⟨⟨(nI 0 - 1), (P, G_2, B_3, pl), rfl, hfin, by rw [ht]; exact hP, va_K.moved hW.alike hK, hD⟩, hS.F ht⟩) hS.2.2 dX12_means_57

set_option maxHeartbeats 4000000 in
set_option maxRecDepth 100000 in
theorem lp_count {p : Program} {l : Launch} {e : Env} {s : State} {m : MethodId} {args : Array Value} {below : List Frame} {meth : Method} {c : Code} {Q : State → Prop} {A : Nat → Prop} {dC : Nat → ClassId} {dI : Nat → Nat → Nat} {cB cC cI cJ cZ : ClassId} {z0 : Nat} {R : Nat → Nat} (hx : p.tables.exec = Jvm.exec) (hb : c.code = cX12_count) (hml : c.maxLocals = 4) (hown : s.vm.findClass RX12 = some m.cls) (hts : ∀ w ∈ vX12_count, w.before args s = true) (hK : va_K (dC, dI) vwCl (TY cB cC cI cJ cZ) s) (hA : ∀ q : Nat, s.heap.size ≤ q → A q) {pl : Int32} {N : Nat → Nat} {G : Nat → Nat → Nat} {B : Nat → Nat → Int32} (hG : ∀ k i, G k i < 1048576) (h6 : N 6 ≤ 4500) (x : Int32) (ke : ∀ (n : Nat) (H : Heap) (locs : List Loc), va_P (dC, dI) vwCl (MW cB cC cI cJ cZ z0 R pl (va_up N 0 0) G B) H → va_D A (MW cB cC cI cJ cZ z0 R pl (va_up N 0 0) G B) → va_S A s.heap H locs → ∀ (ls : Array Slot), lv_has ls 4 [(0, .ref z0), (1, .int x), (2, .int (nI n))] → W p l e (headSpec vX12_count { frames := 0, cells := 0, slots := 0, locals := 0 }).room s m args below meth c H locs 0 0 Q (F0 m 40 ls [])) : ∀ (k : Nat) (i n : Nat), N 6 - i < k → i ≤ 4500 → n ≤ i → ∀ (H : Heap) (locs : List Loc), va_P (dC, dI) vwCl (MW cB cC cI cJ cZ z0 R pl (va_up N 0 0) G B) H → va_D A (MW cB cC cI cJ cZ z0 R pl (va_up N 0 0) G B) → va_S A s.heap H locs → ∀ (ls : Array Slot), lv_has ls 4 [(0, .ref z0), (1, .int x), (2, .int (nI n)), (3, .int (nI i))] → W p l e (headSpec vX12_count { frames := 0, cells := 0, slots := 0, locals := 0 }).room s m args below meth c H locs 0 0 Q (F0 m 9 ls []) := by
  have hcs : 0 + 0 ≤ (0 : Nat) ∧ 0 + 0 ≤ (0 : Nat) := ⟨Nat.le_refl 0, Nat.le_refl 0⟩
  intro k
  induction k with
  | zero =>
    intro i n hk hi hn
    omega
  | succ k ih =>
    intro i n hk hi hn H locs hP hD hS ls hl
    have g7 := hG 7 i
    refine lv_iload_n hx hb dX12_count_9 rfl (lv_at hl 3 rfl) ?_
    refine lv_aload_n hx hb dX12_count_10 rfl (lv_at hl 0 rfl) ?_
    refine mg_6 hx hb hts inX12_count hown hK hP (hts _ lkX12_count_f165) dX12_count_11 ?_
    refine tp_i (y := nI (N 6)) rfl ?_
    refine bn_ge (tgt := 40) hx hb (by first | omega | exact Nat.lt_of_lt_of_le (hG _ _) (by decide)) (by first | omega | exact Nat.lt_of_lt_of_le (hG _ _) (by decide)) dX12_count_14 (by decide) (fun c1 => ?_) (fun c1 => ?_)
    · exact ke n H locs hP hD hS ls (lv_sub hl [0, 1, 2] rfl)
    · refine lv_aload_n hx hb dX12_count_17 rfl (lv_at hl 0 rfl) ?_
      refine mg_7 hx hb hts inX12_count hown hK hP (hts _ lkX12_count_f25) dX12_count_18 ?_
      refine lv_iload_n hx hb dX12_count_21 rfl (lv_at hl 3 rfl) ?_
      refine ml_7 hx hb hK hP (by omega) dX12_count_22 ?_
      refine bz_le (tgt := 32) hx hb (by first | omega | exact Nat.lt_of_lt_of_le (hG _ _) (by decide)) dX12_count_23 (by decide) (fun c2 => ?_) (fun c2 => ?_)
      · refine lv_iload_n hx hb dX12_count_32 rfl (lv_at hl 2 rfl) ?_
        refine lv_istore_n (lv' := [(2, .int (nI n)), (0, .ref z0), (1, .int x), (3, .int (nI i))]) hx hb dX12_count_33 rfl hl (by decide) rfl (fun ls hl => ?_)
        refine lv_iinc (v := nI (i + 1)) (lv' := [(3, .int (nI (i + 1))), (2, .int (nI n)), (0, .ref z0), (1, .int x)]) hx hb dX12_count_34 hl (k := 3) rfl (nI_add i 1) (by decide) rfl (fun ls hl => ?_)
        refine lv_goto (tgt := 9) hx hb dX12_count_37 (by decide) ?_
        exact ih (i + 1) (n) (by omega) (by omega) (by omega) _ _ hP hD hS ls (lv_sub hl [2, 3, 1, 0] rfl)
      · refine lv_iload_n hx hb dX12_count_26 rfl (lv_at hl 2 rfl) ?_
        refine lv_iconst (v := nI 1) hx hb dX12_count_27 (by decide) ?_
        refine lv_iadd hx hb dX12_count_28 ?_
        refine tp_i (nI_add n 1) ?_
        refine lv_goto (tgt := 33) hx hb dX12_count_29 (by decide) ?_
        refine lv_istore_n (lv' := [(2, .int (nI (n + 1))), (0, .ref z0), (1, .int x), (3, .int (nI i))]) hx hb dX12_count_33 rfl hl (by decide) rfl (fun ls hl => ?_)
        refine lv_iinc (v := nI (i + 1)) (lv' := [(3, .int (nI (i + 1))), (2, .int (nI (n + 1))), (0, .ref z0), (1, .int x)]) hx hb dX12_count_34 hl (k := 3) rfl (nI_add i 1) (by decide) rfl (fun ls hl => ?_)
        refine lv_goto (tgt := 9) hx hb dX12_count_37 (by decide) ?_
        exact ih (i + 1) (n + 1) (by omega) (by omega) (by omega) _ _ hP hD hS ls (lv_sub hl [2, 3, 1, 0] rfl)

set_option maxHeartbeats 4000000 in
set_option maxRecDepth 100000 in
/-- count -/
theorem m_count (l : Launch) (dC : Nat → ClassId) (dI : Nat → Nat → Nat) (cB cC cI cJ cZ : ClassId) (z0 : Nat) (R : Nat → Nat) (pl : Int32) (N : Nat → Nat) (G : Nat → Nat → Nat) (B : Nat → Nat → Int32) (x : Int32)  (hG : ∀ k i, G k i < 1048576) (h6 : N 6 ≤ 4500) (s0 : Nat) : Met l yX12_count vX12_count { frames := 0, cells := 0, slots := 0, locals := 0 } (va_Pc [.ref z0, .int x] (mPre dC dI cB cC cI cJ cZ z0 R pl N G B s0)) (va_Qi (fun (r : Int32) (u : ((Nat → Nat) × (Nat → Nat → Nat) × (Nat → Nat → Int32) × Int32)) => match u with | (N1, G1, B1, pl1) => N1 = va_up N 0 0 ∧ G1 = G ∧ B1 = B ∧ pl1 = pl) (mPost dC dI cB cC cI cJ cZ z0 R (va_A (MW cB cC cI cJ cZ z0 R pl N G B) s0)) (va_A (MW cB cC cI cJ cZ z0 R pl N G B) s0)) 0 0 (va_A (MW cB cC cI cJ cZ z0 R pl N G B) s0) := by
  refine Met.ofW (cc := cX12_count) (maxL := 4) (ret := (some .int)) (by decide) rfl ?_
  intro p e s m args below meth c s₁ B9 hml hv
  obtain ⟨rfl, hsz, hP, hK, hD0⟩ := hv
  have hx := B9.exec
  have hb := B9.bytes
  have hr := B9.returns
  have hts := atoms_spec (ws := vX12_count) B9.pre
  have hown : s.vm.findClass RX12 = some m.cls := findClass_of_methodNamed B9.named
  have hlocks := B9.notSynchronized
  subst hsz
  have hD := hD0.self (sz := s.heap.size)
  generalize hAe : va_A (MW cB cC cI cJ cZ z0 R pl N G B) s.heap.size = A at hD ⊢
  have hA : ∀ q : Nat, s.heap.size ≤ q → A q := fun q h => by rw [← hAe]; exact Or.inr h
  have hS : va_S A s.heap s.heap [] := va_S.rf
  have hcs : 0 + 0 ≤ (0 : Nat) ∧ 0 + 0 ≤ (0 : Nat) := ⟨Nat.le_refl 0, Nat.le_refl 0⟩
  have hl := lv_entry ([.ref z0, .int x]) (n := 4) (Nat.le_of_ble_eq_true rfl)
  rw [lg_entry_eq]
  generalize (lg_sl ([.ref z0, .int x]) ++ List.replicate (4 - (lg_sl ([.ref z0, .int x])).length) Slot.unset).toArray = ls at hl ⊢
  have hl : lv_has ls 4 [(0, .ref z0), (1, .int x)] := hl
  refine lv_aload_n hx hb dX12_count_0 rfl (lv_at hl 0 rfl) ?_
  refine lv_iconst (v := nI 0) hx hb dX12_count_1 (by decide) ?_
  refine mp_0 hx hb hts inX12_count hown hK hP hD hS (hts _ lkX12_count_f168) dX12_count_2 (fun H locs hP hD hS => ?_)
  refine lv_iconst (v := nI 0) hx hb dX12_count_5 (by decide) ?_
  refine lv_istore_n (lv' := [(2, .int (nI 0)), (0, .ref z0), (1, .int x)]) hx hb dX12_count_6 rfl hl (by decide) rfl (fun ls hl => ?_)
  refine lv_iconst (v := nI 0) hx hb dX12_count_7 (by decide) ?_
  refine lv_istore_n (lv' := [(3, .int (nI 0)), (2, .int (nI 0)), (0, .ref z0), (1, .int x)]) hx hb dX12_count_8 rfl hl (by decide) rfl (fun ls hl => ?_)
  refine lp_count hx hb hml hown hts hK hA hG h6 x (fun n H locs hP hD hS ls hl => ?_) _ 0 0 (Nat.lt_succ_self _) (by decide) (by decide) _ _ hP hD hS ls (lv_sub hl [2, 3, 1, 0] rfl)
  refine lv_iload_n hx hb dX12_count_40 rfl (lv_at hl 1 rfl) ?_
  refine lv_if_ne (tgt := 51) hx hb dX12_count_41 (by decide) (fun c_1 => ?_) (fun c_1 => ?_)
  · refine lv_iload_n hx hb dX12_count_51 rfl (lv_at hl 1 rfl) ?_
    refine lv_iconst (v := nI 1) hx hb dX12_count_52 (by decide) ?_
    refine lv_icmp_ne (tgt := 63) hx hb dX12_count_53 (by decide) (fun c_2 => ?_) (fun c_2 => ?_)
    · refine lv_iload_n hx hb dX12_count_63 rfl (lv_at hl 1 rfl) ?_
      refine lv_iconst (v := nI 2) hx hb dX12_count_64 (by decide) ?_
      refine lv_icmp_ne (tgt := 75) hx hb dX12_count_65 (by decide) (fun c_3 => ?_) (fun c_3 => ?_)
      · refine lv_iload_n hx hb dX12_count_75 rfl (lv_at hl 1 rfl) ?_
        refine lv_iconst (v := nI 3) hx hb dX12_count_76 (by decide) ?_
        refine lv_icmp_ne (tgt := 87) hx hb dX12_count_77 (by decide) (fun c_4 => ?_) (fun c_4 => ?_)
        · refine lv_iload_n hx hb dX12_count_87 rfl (lv_at hl 1 rfl) ?_
          refine lv_iconst (v := nI 4) hx hb dX12_count_88 (by decide) ?_
          refine lv_icmp_ne (tgt := 96) hx hb dX12_count_89 (by decide) (fun c_5 => ?_) (fun c_5 => ?_)
          · refine lv_iload_n hx hb dX12_count_96 rfl (lv_at hl 1 rfl) ?_
            refine lv_iconst (v := nI 5) hx hb dX12_count_97 (by decide) ?_
            refine lv_icmp_ne (tgt := 108) hx hb dX12_count_98 (by decide) (fun c_6 => ?_) (fun c_6 => ?_)
            · refine lv_iconst (v := nI 0 - 1) hx hb dX12_count_108 (by decide) ?_
              exact W.iret (v := (nI 0 - 1)) hx hb hr (fun t ht hW => ⟨⟨(nI 0 - 1), (va_up N 0 0, G, B, pl), rfl, ⟨rfl, rfl, rfl, rfl⟩, by rw [ht]; exact hP, va_K.moved hW.alike hK, hD⟩, hS.F ht⟩) hS.2.2 dX12_count_109
            · refine lv_aload_n hx hb dX12_count_101 rfl (lv_at hl 0 rfl) ?_
              refine mg_9 hx hb hts inX12_count hown hK hP (hts _ lkX12_count_f390) dX12_count_102 ?_
              refine tp_i (y := nI (N 9)) rfl ?_
              refine lv_goto (tgt := 109) hx hb dX12_count_105 (by decide) ?_
              exact W.iret (v := (nI (N 9))) hx hb hr (fun t ht hW => ⟨⟨(nI (N 9)), (va_up N 0 0, G, B, pl), rfl, ⟨rfl, rfl, rfl, rfl⟩, by rw [ht]; exact hP, va_K.moved hW.alike hK, hD⟩, hS.F ht⟩) hS.2.2 dX12_count_109
          · refine lv_iload_n hx hb dX12_count_92 rfl (lv_at hl 2 rfl) ?_
            refine lv_goto (tgt := 109) hx hb dX12_count_93 (by decide) ?_
            exact W.iret (v := (nI n)) hx hb hr (fun t ht hW => ⟨⟨(nI n), (va_up N 0 0, G, B, pl), rfl, ⟨rfl, rfl, rfl, rfl⟩, by rw [ht]; exact hP, va_K.moved hW.alike hK, hD⟩, hS.F ht⟩) hS.2.2 dX12_count_109
        · refine lv_aload_n hx hb dX12_count_80 rfl (lv_at hl 0 rfl) ?_
          refine mg_43 hx hb hts inX12_count hown hK hP (hts _ lkX12_count_f427) dX12_count_81 ?_
          refine tp_i (y := nI (N 43)) rfl ?_
          refine lv_goto (tgt := 109) hx hb dX12_count_84 (by decide) ?_
          exact W.iret (v := (nI (N 43))) hx hb hr (fun t ht hW => ⟨⟨(nI (N 43)), (va_up N 0 0, G, B, pl), rfl, ⟨rfl, rfl, rfl, rfl⟩, by rw [ht]; exact hP, va_K.moved hW.alike hK, hD⟩, hS.F ht⟩) hS.2.2 dX12_count_109
      · refine lv_aload_n hx hb dX12_count_68 rfl (lv_at hl 0 rfl) ?_
        refine mg_42 hx hb hts inX12_count hown hK hP (hts _ lkX12_count_f424) dX12_count_69 ?_
        refine tp_i (y := nI (N 42)) rfl ?_
        refine lv_goto (tgt := 109) hx hb dX12_count_72 (by decide) ?_
        exact W.iret (v := (nI (N 42))) hx hb hr (fun t ht hW => ⟨⟨(nI (N 42)), (va_up N 0 0, G, B, pl), rfl, ⟨rfl, rfl, rfl, rfl⟩, by rw [ht]; exact hP, va_K.moved hW.alike hK, hD⟩, hS.F ht⟩) hS.2.2 dX12_count_109
    · refine lv_aload_n hx hb dX12_count_56 rfl (lv_at hl 0 rfl) ?_
      refine mg_41 hx hb hts inX12_count hown hK hP (hts _ lkX12_count_f421) dX12_count_57 ?_
      refine tp_i (y := nI (N 41)) rfl ?_
      refine lv_goto (tgt := 109) hx hb dX12_count_60 (by decide) ?_
      exact W.iret (v := (nI (N 41))) hx hb hr (fun t ht hW => ⟨⟨(nI (N 41)), (va_up N 0 0, G, B, pl), rfl, ⟨rfl, rfl, rfl, rfl⟩, by rw [ht]; exact hP, va_K.moved hW.alike hK, hD⟩, hS.F ht⟩) hS.2.2 dX12_count_109
  · refine lv_aload_n hx hb dX12_count_44 rfl (lv_at hl 0 rfl) ?_
    refine mg_40 hx hb hts inX12_count hown hK hP (hts _ lkX12_count_f418) dX12_count_45 ?_
    refine tp_i (y := nI (N 40)) rfl ?_
    refine lv_goto (tgt := 109) hx hb dX12_count_48 (by decide) ?_
    exact W.iret (v := (nI (N 40))) hx hb hr (fun t ht hW => ⟨⟨(nI (N 40)), (va_up N 0 0, G, B, pl), rfl, ⟨rfl, rfl, rfl, rfl⟩, by rw [ht]; exact hP, va_K.moved hW.alike hK, hD⟩, hS.F ht⟩) hS.2.2 dX12_count_109

theorem inI {x : Int32} {n : Nat} (hn : n < 2 ^ 31) (h1 : ¬ x < 0) (h2 : ¬ nI n ≤ x) : ∃ j, x = nI j ∧ j < n := by
  rw [Int32.not_lt, Int32.le_iff_toInt_le] at h1
  rw [Int32.not_le, Int32.lt_iff_toInt_lt, nI_toInt hn] at h2
  have h1 : 0 ≤ x.toInt := h1
  refine ⟨x.toInt.toNat, ?_, by omega⟩
  apply Int32.toInt_inj.mp
  rw [nI_toInt (by omega)]
  omega
set_option maxHeartbeats 4000000 in
set_option maxRecDepth 100000 in
/-- character -/
theorem m_character (l : Launch) (dC : Nat → ClassId) (dI : Nat → Nat → Nat) (cB cC cI cJ cZ : ClassId) (z0 : Nat) (R : Nat → Nat) (pl : Int32) (N : Nat → Nat) (G : Nat → Nat → Nat) (B : Nat → Nat → Int32) (x : Int32) (h40 : N 40 ≤ 4000) (s0 : Nat) : Met l yX12_character vX12_character { frames := 0, cells := 0, slots := 0, locals := 0 } (va_Pc [.ref z0, .int x] (mPre dC dI cB cC cI cJ cZ z0 R pl N G B s0)) (va_Qi (fun (r : Int32) (u : ((Nat → Nat) × (Nat → Nat → Nat) × (Nat → Nat → Int32) × Int32)) => match u with | (N1, G1, B1, pl1) => N1 = va_up N 0 0 ∧ G1 = G ∧ B1 = B ∧ pl1 = pl) (mPost dC dI cB cC cI cJ cZ z0 R (va_A (MW cB cC cI cJ cZ z0 R pl N G B) s0)) (va_A (MW cB cC cI cJ cZ z0 R pl N G B) s0)) 0 0 (va_A (MW cB cC cI cJ cZ z0 R pl N G B) s0) := by
  refine Met.ofW (cc := cX12_character) (maxL := 2) (ret := (some .int)) (by decide) rfl ?_
  intro p e s m args below meth c s₁ B9 hml hv
  obtain ⟨rfl, hsz, hP, hK, hD0⟩ := hv
  have hx := B9.exec
  have hb := B9.bytes
  have hr := B9.returns
  have hts := atoms_spec (ws := vX12_character) B9.pre
  have hown : s.vm.findClass RX12 = some m.cls := findClass_of_methodNamed B9.named
  have hlocks := B9.notSynchronized
  subst hsz
  have hD := hD0.self (sz := s.heap.size)
  generalize hAe : va_A (MW cB cC cI cJ cZ z0 R pl N G B) s.heap.size = A at hD ⊢
  have hA : ∀ q : Nat, s.heap.size ≤ q → A q := fun q h => by rw [← hAe]; exact Or.inr h
  have hS : va_S A s.heap s.heap [] := va_S.rf
  have hcs : 0 + 0 ≤ (0 : Nat) ∧ 0 + 0 ≤ (0 : Nat) := ⟨Nat.le_refl 0, Nat.le_refl 0⟩
  have hl := lv_entry ([.ref z0, .int x]) (n := 2) (Nat.le_of_ble_eq_true rfl)
  rw [lg_entry_eq]
  generalize (lg_sl ([.ref z0, .int x]) ++ List.replicate (2 - (lg_sl ([.ref z0, .int x])).length) Slot.unset).toArray = ls at hl ⊢
  have hl : lv_has ls 2 [(0, .ref z0), (1, .int x)] := hl
  refine lv_aload_n hx hb dX12_character_0 rfl (lv_at hl 0 rfl) ?_
  refine lv_iconst (v := nI 0) hx hb dX12_character_1 (by decide) ?_
  refine mp_0 hx hb hts inX12_character hown hK hP hD hS (hts _ lkX12_character_f168) dX12_character_2 (fun H locs hP hD hS => ?_)
  refine lv_iload_n hx hb dX12_character_5 rfl (lv_at hl 1 rfl) ?_
  refine lv_if_lt (tgt := 26) hx hb dX12_character_6 (by decide) (fun c1 => ?_) (fun c1 => ?_)
  · refine lv_iconst (v := nI 0 - 1) hx hb dX12_character_26 (by decide) ?_
    exact W.iret (v := (nI 0 - 1)) hx hb hr (fun t ht hW => ⟨⟨(nI 0 - 1), (va_up N 0 0, G, B, pl), rfl, ⟨rfl, rfl, rfl, rfl⟩, by rw [ht]; exact hP, va_K.moved hW.alike hK, hD⟩, hS.F ht⟩) hS.2.2 dX12_character_27
  · refine lv_iload_n hx hb dX12_character_9 rfl (lv_at hl 1 rfl) ?_
    refine lv_aload_n hx hb dX12_character_10 rfl (lv_at hl 0 rfl) ?_
    refine mg_40 hx hb hts inX12_character hown hK hP (hts _ lkX12_character_f418) dX12_character_11 ?_
    refine tp_i (y := nI (N 40)) rfl ?_
    refine lv_icmp_ge (tgt := 26) hx hb dX12_character_14 (by decide) (fun c2 => ?_) (fun c2 => ?_)
    · refine lv_iconst (v := nI 0 - 1) hx hb dX12_character_26 (by decide) ?_
      exact W.iret (v := (nI 0 - 1)) hx hb hr (fun t ht hW => ⟨⟨(nI 0 - 1), (va_up N 0 0, G, B, pl), rfl, ⟨rfl, rfl, rfl, rfl⟩, by rw [ht]; exact hP, va_K.moved hW.alike hK, hD⟩, hS.F ht⟩) hS.2.2 dX12_character_27
    · obtain ⟨j, hj, hj2⟩ := inI (by omega) c1 c2
      subst hj
      have hl : lv_has ls 2 [(0, .ref z0), (1, .int (nI j))] := hl
      refine lv_aload_n hx hb dX12_character_17 rfl (lv_at hl 0 rfl) ?_
      refine mg_39 hx hb hts inX12_character hown hK hP (hts _ lkX12_character_f82) dX12_character_18 ?_
      refine lv_iload_n hx hb dX12_character_21 rfl (lv_at hl 1 rfl) ?_
      refine ml_39 hx hb hK hP (by omega) dX12_character_22 ?_
      refine lv_goto (tgt := 27) hx hb dX12_character_23 (by decide) ?_
      exact W.iret (v := (B 39 j)) hx hb hr (fun t ht hW => ⟨⟨(B 39 j), (va_up N 0 0, G, B, pl), rfl, ⟨rfl, rfl, rfl, rfl⟩, by rw [ht]; exact hP, va_K.moved hW.alike hK, hD⟩, hS.F ht⟩) hS.2.2 dX12_character_27

set_option maxHeartbeats 4000000 in
set_option maxRecDepth 100000 in
/-- place -/
theorem m_place (l : Launch) (dC : Nat → ClassId) (dI : Nat → Nat → Nat) (cB cC cI cJ cZ : ClassId) (z0 : Nat) (R : Nat → Nat) (pl : Int32) (N : Nat → Nat) (G : Nat → Nat → Nat) (B : Nat → Nat → Int32)   (s0 : Nat) : Met l yX12_place vX12_place { frames := 0, cells := 0, slots := 0, locals := 0 } (va_Pc [.ref z0] (mPre dC dI cB cC cI cJ cZ z0 R pl N G B s0)) (va_Qi (fun (r : Int32) (u : ((Nat → Nat) × (Nat → Nat → Nat) × (Nat → Nat → Int32) × Int32)) => match u with | (N1, G1, B1, pl1) => N1 = va_up N 0 0 ∧ G1 = G ∧ B1 = B ∧ pl1 = pl) (mPost dC dI cB cC cI cJ cZ z0 R (va_A (MW cB cC cI cJ cZ z0 R pl N G B) s0)) (va_A (MW cB cC cI cJ cZ z0 R pl N G B) s0)) 0 0 (va_A (MW cB cC cI cJ cZ z0 R pl N G B) s0) := by
  refine Met.ofW (cc := cX12_place) (maxL := 1) (ret := (some .int)) (by decide) rfl ?_
  intro p e s m args below meth c s₁ B9 hml hv
  obtain ⟨rfl, hsz, hP, hK, hD0⟩ := hv
  have hx := B9.exec
  have hb := B9.bytes
  have hr := B9.returns
  have hts := atoms_spec (ws := vX12_place) B9.pre
  have hown : s.vm.findClass RX12 = some m.cls := findClass_of_methodNamed B9.named
  have hlocks := B9.notSynchronized
  subst hsz
  have hD := hD0.self (sz := s.heap.size)
  generalize hAe : va_A (MW cB cC cI cJ cZ z0 R pl N G B) s.heap.size = A at hD ⊢
  have hA : ∀ q : Nat, s.heap.size ≤ q → A q := fun q h => by rw [← hAe]; exact Or.inr h
  have hS : va_S A s.heap s.heap [] := va_S.rf
  have hcs : 0 + 0 ≤ (0 : Nat) ∧ 0 + 0 ≤ (0 : Nat) := ⟨Nat.le_refl 0, Nat.le_refl 0⟩
  have hl := lv_entry ([.ref z0]) (n := 1) (Nat.le_of_ble_eq_true rfl)
  rw [lg_entry_eq]
  generalize (lg_sl ([.ref z0]) ++ List.replicate (1 - (lg_sl ([.ref z0])).length) Slot.unset).toArray = ls at hl ⊢
  have hl : lv_has ls 1 [(0, .ref z0)] := hl
  refine lv_aload_n hx hb dX12_place_0 rfl (lv_at hl 0 rfl) ?_
  refine lv_iconst (v := nI 0) hx hb dX12_place_1 (by decide) ?_
  refine mp_0 hx hb hts inX12_place hown hK hP hD hS (hts _ lkX12_place_f168) dX12_place_2 (fun H locs hP hD hS => ?_)
  refine lv_aload_n hx hb dX12_place_5 rfl (lv_at hl 0 rfl) ?_
  refine mg_3 hx hb hts inX12_place hown hK hP (hts _ lkX12_place_f13) dX12_place_6 ?_
  exact W.iret (v := pl) hx hb hr (fun t ht hW => ⟨⟨pl, (va_up N 0 0, G, B, pl), rfl, ⟨rfl, rfl, rfl, rfl⟩, by rw [ht]; exact hP, va_K.moved hW.alike hK, hD⟩, hS.F ht⟩) hS.2.2 dX12_place_9

set_option maxHeartbeats 4000000 in
set_option maxRecDepth 100000 in
/-- check -/
theorem m_check (l : Launch) (dC : Nat → ClassId) (dI : Nat → Nat → Nat) (cB cC cI cJ cZ : ClassId) (z0 : Nat) (R : Nat → Nat) (pl : Int32) (N : Nat → Nat) (G : Nat → Nat → Nat) (B : Nat → Nat → Int32)   (s0 : Nat) : Met l yX12_check vX12_check { frames := 0, cells := 0, slots := 0, locals := 0 } (va_Pc [.ref z0] (mPre dC dI cB cC cI cJ cZ z0 R pl N G B s0)) (va_Qi (fun (r : Int32) (u : ((Nat → Nat) × (Nat → Nat → Nat) × (Nat → Nat → Int32) × Int32)) => match u with | (N1, G1, B1, pl1) => N1 = va_up N 0 0 ∧ G1 = G ∧ B1 = B ∧ pl1 = pl) (mPost dC dI cB cC cI cJ cZ z0 R (va_A (MW cB cC cI cJ cZ z0 R pl N G B) s0)) (va_A (MW cB cC cI cJ cZ z0 R pl N G B) s0)) 0 0 (va_A (MW cB cC cI cJ cZ z0 R pl N G B) s0) := by
  refine Met.ofW (cc := cX12_check) (maxL := 1) (ret := (some .int)) (by decide) rfl ?_
  intro p e s m args below meth c s₁ B9 hml hv
  obtain ⟨rfl, hsz, hP, hK, hD0⟩ := hv
  have hx := B9.exec
  have hb := B9.bytes
  have hr := B9.returns
  have hts := atoms_spec (ws := vX12_check) B9.pre
  have hown : s.vm.findClass RX12 = some m.cls := findClass_of_methodNamed B9.named
  have hlocks := B9.notSynchronized
  subst hsz
  have hD := hD0.self (sz := s.heap.size)
  generalize hAe : va_A (MW cB cC cI cJ cZ z0 R pl N G B) s.heap.size = A at hD ⊢
  have hA : ∀ q : Nat, s.heap.size ≤ q → A q := fun q h => by rw [← hAe]; exact Or.inr h
  have hS : va_S A s.heap s.heap [] := va_S.rf
  have hcs : 0 + 0 ≤ (0 : Nat) ∧ 0 + 0 ≤ (0 : Nat) := ⟨Nat.le_refl 0, Nat.le_refl 0⟩
  have hl := lv_entry ([.ref z0]) (n := 1) (Nat.le_of_ble_eq_true rfl)
  rw [lg_entry_eq]
  generalize (lg_sl ([.ref z0]) ++ List.replicate (1 - (lg_sl ([.ref z0])).length) Slot.unset).toArray = ls at hl ⊢
  have hl : lv_has ls 1 [(0, .ref z0)] := hl
  refine lv_aload_n hx hb dX12_check_0 rfl (lv_at hl 0 rfl) ?_
  refine lv_iconst (v := nI 0) hx hb dX12_check_1 (by decide) ?_
  refine mp_0 hx hb hts inX12_check hown hK hP hD hS (hts _ lkX12_check_f168) dX12_check_2 (fun H locs hP hD hS => ?_)
  refine lv_iconst (v := nI 1) hx hb dX12_check_5 (by decide) ?_
  exact W.iret (v := (nI 1)) hx hb hr (fun t ht hW => ⟨⟨(nI 1), (va_up N 0 0, G, B, pl), rfl, ⟨rfl, rfl, rfl, rfl⟩, by rw [ht]; exact hP, va_K.moved hW.alike hK, hD⟩, hS.F ht⟩) hS.2.2 dX12_check_6
