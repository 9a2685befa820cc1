def oX12_isName : List Cond := [Cond.fieldLink RX12 32 "MacroScopesModel" "kinds" "[B"]
def vX12_isName : List Cond := .code yX12_isName cX12_isName 2 (some .boolean) :: (oX12_isName ++ (wsX120))
theorem lkX12_isName_f32 : Cond.fieldLink RX12 32 "MacroScopesModel" "kinds" "[B" ∈ vX12_isName := List.mem_cons_of_mem _ (List.mem_append_left _ (List.mem_of_getElem? (i := 0) rfl))
theorem inX12_isName : ∀ w ∈ wsX120, w ∈ vX12_isName := fun w h => List.mem_cons_of_mem _ (List.mem_append_right _ (h))
def oX12_isList : List Cond := [Cond.fieldLink RX12 32 "MacroScopesModel" "kinds" "[B", Cond.fieldLink RX12 38 "MacroScopesModel" "counts" "[I"]
def vX12_isList : List Cond := .code yX12_isList cX12_isList 3 (some .boolean) :: (oX12_isList ++ (wsX120))
theorem lkX12_isList_f32 : Cond.fieldLink RX12 32 "MacroScopesModel" "kinds" "[B" ∈ vX12_isList := List.mem_cons_of_mem _ (List.mem_append_left _ (List.mem_of_getElem? (i := 0) rfl))
theorem lkX12_isList_f38 : Cond.fieldLink RX12 38 "MacroScopesModel" "counts" "[I" ∈ vX12_isList := List.mem_cons_of_mem _ (List.mem_append_left _ (List.mem_of_getElem? (i := 1) rfl))
theorem inX12_isList : ∀ w ∈ wsX120, w ∈ vX12_isList := fun w h => List.mem_cons_of_mem _ (List.mem_append_right _ (h))
def oX12_part : List Cond := [Cond.fieldLink RX12 41 "MacroScopesModel" "parts" "[I", Cond.fieldLink RX12 35 "MacroScopesModel" "values" "[I"]
def vX12_part : List Cond := .code yX12_part cX12_part 3 (some .int) :: (oX12_part ++ (wsX120))
theorem lkX12_part_f41 : Cond.fieldLink RX12 41 "MacroScopesModel" "parts" "[I" ∈ vX12_part := List.mem_cons_of_mem _ (List.mem_append_left _ (List.mem_of_getElem? (i := 0) rfl))
theorem lkX12_part_f35 : Cond.fieldLink RX12 35 "MacroScopesModel" "values" "[I" ∈ vX12_part := List.mem_cons_of_mem _ (List.mem_append_left _ (List.mem_of_getElem? (i := 1) rfl))
theorem inX12_part : ∀ w ∈ wsX120, w ∈ vX12_part := fun w h => List.mem_cons_of_mem _ (List.mem_append_right _ (h))
def oX12_newForm : List Cond := [Cond.fieldLink RX12 32 "MacroScopesModel" "kinds" "[B", Cond.fieldLink RX12 196 "MacroScopesModel" "forms" "I", Cond.fieldLink RX12 35 "MacroScopesModel" "values" "[I", Cond.fieldLink RX12 38 "MacroScopesModel" "counts" "[I"]
def vX12_newForm : List Cond := .code yX12_newForm cX12_newForm 4 (some .int) :: (oX12_newForm ++ (wsX120))
theorem lkX12_newForm_f32 : Cond.fieldLink RX12 32 "MacroScopesModel" "kinds" "[B" ∈ vX12_newForm := List.mem_cons_of_mem _ (List.mem_append_left _ (List.mem_of_getElem? (i := 0) rfl))
theorem lkX12_newForm_f196 : Cond.fieldLink RX12 196 "MacroScopesModel" "forms" "I" ∈ vX12_newForm := List.mem_cons_of_mem _ (List.mem_append_left _ (List.mem_of_getElem? (i := 1) rfl))
theorem lkX12_newForm_f35 : Cond.fieldLink RX12 35 "MacroScopesModel" "values" "[I" ∈ vX12_newForm := List.mem_cons_of_mem _ (List.mem_append_left _ (List.mem_of_getElem? (i := 2) rfl))
theorem lkX12_newForm_f38 : Cond.fieldLink RX12 38 "MacroScopesModel" "counts" "[I" ∈ vX12_newForm := List.mem_cons_of_mem _ (List.mem_append_left _ (List.mem_of_getElem? (i := 3) rfl))
theorem inX12_newForm : ∀ w ∈ wsX120, w ∈ vX12_newForm := fun w h => List.mem_cons_of_mem _ (List.mem_append_right _ (h))
def oX12_lookAt : List Cond := [Cond.fieldLink RX12 98 "MacroScopesModel" "look" "[I", Cond.fieldLink RX12 306 "MacroScopesModel" "looks" "I", Cond.fieldLink RX12 101 "MacroScopesModel" "lookHow" "[I", Cond.fieldLink RX12 104 "MacroScopesModel" "lookOther" "[I"]
def vX12_lookAt : List Cond := .code yX12_lookAt cX12_lookAt 4 none :: (oX12_lookAt ++ (wsX120))
theorem lkX12_lookAt_f98 : Cond.fieldLink RX12 98 "MacroScopesModel" "look" "[I" ∈ vX12_lookAt := List.mem_cons_of_mem _ (List.mem_append_left _ (List.mem_of_getElem? (i := 0) rfl))
theorem lkX12_lookAt_f306 : Cond.fieldLink RX12 306 "MacroScopesModel" "looks" "I" ∈ vX12_lookAt := List.mem_cons_of_mem _ (List.mem_append_left _ (List.mem_of_getElem? (i := 1) rfl))
theorem lkX12_lookAt_f101 : Cond.fieldLink RX12 101 "MacroScopesModel" "lookHow" "[I" ∈ vX12_lookAt := List.mem_cons_of_mem _ (List.mem_append_left _ (List.mem_of_getElem? (i := 2) rfl))
theorem lkX12_lookAt_f104 : Cond.fieldLink RX12 104 "MacroScopesModel" "lookOther" "[I" ∈ vX12_lookAt := List.mem_cons_of_mem _ (List.mem_append_left _ (List.mem_of_getElem? (i := 3) rfl))
theorem inX12_lookAt : ∀ w ∈ wsX120, w ∈ vX12_lookAt := fun w h => List.mem_cons_of_mem _ (List.mem_append_right _ (h))
set_option maxHeartbeats 4000000 in
set_option maxRecDepth 100000 in
/-- isName -/
theorem m_isName (l : Launch) (dC : Nat → ClassId) (dI : Nat → Nat → Nat) (cB cC cI cJ cZ : ClassId) (z0 : Nat) (R : Nat → Nat) (pl : Int32) (N : Nat → Nat) (G : Nat → Nat → Nat) (B : Nat → Nat → Int32) (f : Nat) (hG : ∀ k i, G k i < 1048576) (hf : f < 90000) (s0 : Nat) : Met l yX12_isName vX12_isName { frames := 0, cells := 0, slots := 0, locals := 0 } (va_Pc [.ref z0, .int (nI f)] (mPre dC dI cB cC cI cJ cZ z0 R pl N G B s0)) (va_Qi (fun (r : Int32) (u : ((Nat → Nat) × (Nat → Nat → Nat) × (Nat → Nat → Int32) × Int32)) => match u with | (N1, G1, B1, pl1) => N1 = N ∧ G1 = G ∧ B1 = B ∧ pl1 = pl ∧ r = nI (if G 10 f = 1 then 1 else 0)) (mPost dC dI cB cC cI cJ cZ z0 R (va_A (MW cB cC cI cJ cZ z0 R pl N G B) s0)) (va_A (MW cB cC cI cJ cZ z0 R pl N G B) s0)) 0 0 (va_A (MW cB cC cI cJ cZ z0 R pl N G B) s0) := by
  refine Met.ofW (cc := cX12_isName) (maxL := 2) (ret := (some .boolean)) (by decide) rfl ?_
  intro p e s m args below meth c s₁ B9 hml hv
  obtain ⟨rfl, hsz, hP, hK, hD0⟩ := hv
  have hx := B9.exec
  have hb := B9.bytes
  have hr := B9.returns
  have hts := atoms_spec (ws := vX12_isName) B9.pre
  have hown : s.vm.findClass RX12 = some m.cls := findClass_of_methodNamed B9.named
  have hlocks := B9.notSynchronized
  subst hsz
  have hD := hD0.self (sz := s.heap.size)
  generalize hAe : va_A (MW cB cC cI cJ cZ z0 R pl N G B) s.heap.size = A at hD ⊢
  have hA : ∀ q : Nat, s.heap.size ≤ q → A q := fun q h => by rw [← hAe]; exact Or.inr h
  have hS : va_S A s.heap s.heap [] := va_S.rf
  have hcs : 0 + 0 ≤ (0 : Nat) ∧ 0 + 0 ≤ (0 : Nat) := ⟨Nat.le_refl 0, Nat.le_refl 0⟩
  have hl := lv_entry ([.ref z0, .int (nI f)]) (n := 2) (Nat.le_of_ble_eq_true rfl)
  rw [lg_entry_eq]
  generalize (lg_sl ([.ref z0, .int (nI f)]) ++ List.replicate (2 - (lg_sl ([.ref z0, .int (nI f)])).length) Slot.unset).toArray = ls at hl ⊢
  have hl : lv_has ls 2 [(0, .ref z0), (1, .int (nI f))] := hl
  refine lv_aload_n hx hb dX12_isName_0 rfl (lv_at hl 0 rfl) ?_
  refine mg_10 hx hb hts inX12_isName hown hK hP (hts _ lkX12_isName_f32) dX12_isName_1 ?_
  refine lv_iload_n hx hb dX12_isName_4 rfl (lv_at hl 1 rfl) ?_
  refine ml_10 hx hb hK hP (by omega) dX12_isName_5 ?_
  refine lv_iconst (v := nI 1) hx hb dX12_isName_6 (by decide) ?_
  have g1 := hG 10 f
  refine bn_ne (tgt := 14) hx hb (by omega) (by omega) dX12_isName_7 (by decide) (fun c1 => ?_) (fun c1 => ?_)
  · refine lv_iconst (v := nI 0) hx hb dX12_isName_14 (by decide) ?_
    exact W.zret (v := (nI 0)) hx hb hr (by first | rfl | decide) (fun t ht hW => ⟨⟨(nI 0), (N, G, B, pl), rfl, ⟨rfl, rfl, rfl, rfl, by rw [if_neg c1]⟩, by rw [ht]; exact hP, va_K.moved hW.alike hK, hD⟩, hS.F ht⟩) hS.2.2 dX12_isName_15
  · refine lv_iconst (v := nI 1) hx hb dX12_isName_10 (by decide) ?_
    refine lv_goto (tgt := 15) hx hb dX12_isName_11 (by decide) ?_
    exact W.zret (v := (nI 1)) hx hb hr (by first | rfl | decide) (fun t ht hW => ⟨⟨(nI 1), (N, G, B, pl), rfl, ⟨rfl, rfl, rfl, rfl, by rw [if_pos c1]⟩, by rw [ht]; exact hP, va_K.moved hW.alike hK, hD⟩, hS.F ht⟩) hS.2.2 dX12_isName_15

set_option maxHeartbeats 4000000 in
set_option maxRecDepth 100000 in
/-- isList -/
theorem m_isList (l : Launch) (dC : Nat → ClassId) (dI : Nat → Nat → Nat) (cB cC cI cJ cZ : ClassId) (z0 : Nat) (R : Nat → Nat) (pl : Int32) (N : Nat → Nat) (G : Nat → Nat → Nat) (B : Nat → Nat → Int32) (f q : Nat) (hG : ∀ k i, G k i < 1048576) (hf : f < 90000) (hq : q < 1048576) (s0 : Nat) : Met l yX12_isList vX12_isList { frames := 0, cells := 0, slots := 0, locals := 0 } (va_Pc [.ref z0, .int (nI f), .int (nI q)] (mPre dC dI cB cC cI cJ cZ z0 R pl N G B s0)) (va_Qi (fun (r : Int32) (u : ((Nat → Nat) × (Nat → Nat → Nat) × (Nat → Nat → Int32) × Int32)) => match u with | (N1, G1, B1, pl1) => N1 = N ∧ G1 = G ∧ B1 = B ∧ pl1 = pl ∧ r = nI (if G 10 f = 2 ∧ G 12 f = q then 1 else 0)) (mPost dC dI cB cC cI cJ cZ z0 R (va_A (MW cB cC cI cJ cZ z0 R pl N G B) s0)) (va_A (MW cB cC cI cJ cZ z0 R pl N G B) s0)) 0 0 (va_A (MW cB cC cI cJ cZ z0 R pl N G B) s0) := by
  refine Met.ofW (cc := cX12_isList) (maxL := 3) (ret := (some .boolean)) (by decide) rfl ?_
  intro p e s m args below meth c s₁ B9 hml hv
  obtain ⟨rfl, hsz, hP, hK, hD0⟩ := hv
  have hx := B9.exec
  have hb := B9.bytes
  have hr := B9.returns
  have hts := atoms_spec (ws := vX12_isList) B9.pre
  have hown : s.vm.findClass RX12 = some m.cls := findClass_of_methodNamed B9.named
  have hlocks := B9.notSynchronized
  subst hsz
  have hD := hD0.self (sz := s.heap.size)
  generalize hAe : va_A (MW cB cC cI cJ cZ z0 R pl N G B) s.heap.size = A at hD ⊢
  have hA : ∀ q : Nat, s.heap.size ≤ q → A q := fun q h => by rw [← hAe]; exact Or.inr h
  have hS : va_S A s.heap s.heap [] := va_S.rf
  have hcs : 0 + 0 ≤ (0 : Nat) ∧ 0 + 0 ≤ (0 : Nat) := ⟨Nat.le_refl 0, Nat.le_refl 0⟩
  have hl := lv_entry ([.ref z0, .int (nI f), .int (nI q)]) (n := 3) (Nat.le_of_ble_eq_true rfl)
  rw [lg_entry_eq]
  generalize (lg_sl ([.ref z0, .int (nI f), .int (nI q)]) ++ List.replicate (3 - (lg_sl ([.ref z0, .int (nI f), .int (nI q)])).length) Slot.unset).toArray = ls at hl ⊢
  have hl : lv_has ls 3 [(0, .ref z0), (1, .int (nI f)), (2, .int (nI q))] := hl
  refine lv_aload_n hx hb dX12_isList_0 rfl (lv_at hl 0 rfl) ?_
  refine mg_10 hx hb hts inX12_isList hown hK hP (hts _ lkX12_isList_f32) dX12_isList_1 ?_
  refine lv_iload_n hx hb dX12_isList_4 rfl (lv_at hl 1 rfl) ?_
  refine ml_10 hx hb hK hP (by omega) dX12_isList_5 ?_
  refine lv_iconst (v := nI 2) hx hb dX12_isList_6 (by decide) ?_
  have g1 := hG 10 f
  have g2 := hG 12 f
  refine bn_ne (tgt := 24) hx hb (by omega) (by omega) dX12_isList_7 (by decide) (fun c1 => ?_) (fun c1 => ?_)
  · refine lv_iconst (v := nI 0) hx hb dX12_isList_24 (by decide) ?_
    exact W.zret (v := (nI 0)) hx hb hr (by first | rfl | decide) (fun t ht hW => ⟨⟨(nI 0), (N, G, B, pl), rfl, ⟨rfl, rfl, rfl, rfl, by rw [if_neg (fun h => c1 h.1)]⟩, by rw [ht]; exact hP, va_K.moved hW.alike hK, hD⟩, hS.F ht⟩) hS.2.2 dX12_isList_25
  · refine lv_aload_n hx hb dX12_isList_10 rfl (lv_at hl 0 rfl) ?_
    refine mg_12 hx hb hts inX12_isList hown hK hP (hts _ lkX12_isList_f38) dX12_isList_11 ?_
    refine lv_iload_n hx hb dX12_isList_14 rfl (lv_at hl 1 rfl) ?_
    refine ml_12 hx hb hK hP (by omega) dX12_isList_15 ?_
    refine lv_iload_n hx hb dX12_isList_16 rfl (lv_at hl 2 rfl) ?_
    refine bn_ne (tgt := 24) hx hb (by omega) (by omega) dX12_isList_17 (by decide) (fun c2 => ?_) (fun c2 => ?_)
    · refine lv_iconst (v := nI 0) hx hb dX12_isList_24 (by decide) ?_
      exact W.zret (v := (nI 0)) hx hb hr (by first | rfl | decide) (fun t ht hW => ⟨⟨(nI 0), (N, G, B, pl), rfl, ⟨rfl, rfl, rfl, rfl, by rw [if_neg (fun h => c2 h.2)]⟩, by rw [ht]; exact hP, va_K.moved hW.alike hK, hD⟩, hS.F ht⟩) hS.2.2 dX12_isList_25
    · refine lv_iconst (v := nI 1) hx hb dX12_isList_20 (by decide) ?_
      refine lv_goto (tgt := 25) hx hb dX12_isList_21 (by decide) ?_
      exact W.zret (v := (nI 1)) hx hb hr (by first | rfl | decide) (fun t ht hW => ⟨⟨(nI 1), (N, G, B, pl), rfl, ⟨rfl, rfl, rfl, rfl, by rw [if_pos ⟨c1, c2⟩]⟩, by rw [ht]; exact hP, va_K.moved hW.alike hK, hD⟩, hS.F ht⟩) hS.2.2 dX12_isList_25

set_option maxHeartbeats 4000000 in
set_option maxRecDepth 100000 in
/-- part -/
theorem m_part (l : Launch) (dC : Nat → ClassId) (dI : Nat → Nat → Nat) (cB cC cI cJ cZ : ClassId) (z0 : Nat) (R : Nat → Nat) (pl : Int32) (N : Nat → Nat) (G : Nat → Nat → Nat) (B : Nat → Nat → Int32) (f q : Nat) (hG : ∀ k i, G k i < 1048576) (hf : f < 90000) (hq : G 11 f + q < 90000) (s0 : Nat) : Met l yX12_part vX12_part { frames := 0, cells := 0, slots := 0, locals := 0 } (va_Pc [.ref z0, .int (nI f), .int (nI q)] (mPre dC dI cB cC cI cJ cZ z0 R pl N G B s0)) (va_Qi (fun (r : Int32) (u : ((Nat → Nat) × (Nat → Nat → Nat) × (Nat → Nat → Int32) × Int32)) => match u with | (N1, G1, B1, pl1) => N1 = N ∧ G1 = G ∧ B1 = B ∧ pl1 = pl ∧ r = nI (CH G f q)) (mPost dC dI cB cC cI cJ cZ z0 R (va_A (MW cB cC cI cJ cZ z0 R pl N G B) s0)) (va_A (MW cB cC cI cJ cZ z0 R pl N G B) s0)) 0 0 (va_A (MW cB cC cI cJ cZ z0 R pl N G B) s0) := by
  refine Met.ofW (cc := cX12_part) (maxL := 3) (ret := (some .int)) (by decide) rfl ?_
  intro p e s m args below meth c s₁ B9 hml hv
  obtain ⟨rfl, hsz, hP, hK, hD0⟩ := hv
  have hx := B9.exec
  have hb := B9.bytes
  have hr := B9.returns
  have hts := atoms_spec (ws := vX12_part) B9.pre
  have hown : s.vm.findClass RX12 = some m.cls := findClass_of_methodNamed B9.named
  have hlocks := B9.notSynchronized
  subst hsz
  have hD := hD0.self (sz := s.heap.size)
  generalize hAe : va_A (MW cB cC cI cJ cZ z0 R pl N G B) s.heap.size = A at hD ⊢
  have hA : ∀ q : Nat, s.heap.size ≤ q → A q := fun q h => by rw [← hAe]; exact Or.inr h
  have hS : va_S A s.heap s.heap [] := va_S.rf
  have hcs : 0 + 0 ≤ (0 : Nat) ∧ 0 + 0 ≤ (0 : Nat) := ⟨Nat.le_refl 0, Nat.le_refl 0⟩
  have hl := lv_entry ([.ref z0, .int (nI f), .int (nI q)]) (n := 3) (Nat.le_of_ble_eq_true rfl)
  rw [lg_entry_eq]
  generalize (lg_sl ([.ref z0, .int (nI f), .int (nI q)]) ++ List.replicate (3 - (lg_sl ([.ref z0, .int (nI f), .int (nI q)])).length) Slot.unset).toArray = ls at hl ⊢
  have hl : lv_has ls 3 [(0, .ref z0), (1, .int (nI f)), (2, .int (nI q))] := hl
  refine lv_aload_n hx hb dX12_part_0 rfl (lv_at hl 0 rfl) ?_
  refine mg_13 hx hb hts inX12_part hown hK hP (hts _ lkX12_part_f41) dX12_part_1 ?_
  refine lv_aload_n hx hb dX12_part_4 rfl (lv_at hl 0 rfl) ?_
  refine mg_11 hx hb hts inX12_part hown hK hP (hts _ lkX12_part_f35) dX12_part_5 ?_
  refine lv_iload_n hx hb dX12_part_8 rfl (lv_at hl 1 rfl) ?_
  refine ml_11 hx hb hK hP (by omega) dX12_part_9 ?_
  refine lv_iload_n hx hb dX12_part_10 rfl (lv_at hl 2 rfl) ?_
  refine lv_iadd hx hb dX12_part_11 ?_
  refine tp_i (nI_add (G 11 f) q) ?_
  refine ml_13 hx hb hK hP (by omega) dX12_part_12 ?_
  exact W.iret (v := (nI (G 13 ((G 11 f) + q)))) hx hb hr (fun t ht hW => ⟨⟨(nI (G 13 ((G 11 f) + q))), (N, G, B, pl), rfl, ⟨rfl, rfl, rfl, rfl, rfl⟩, by rw [ht]; exact hP, va_K.moved hW.alike hK, hD⟩, hS.F ht⟩) hS.2.2 dX12_part_13

set_option maxHeartbeats 4000000 in
set_option maxRecDepth 100000 in
/-- newForm -/
theorem m_newForm (l : Launch) (dC : Nat → ClassId) (dI : Nat → Nat → Nat) (cB cC cI cJ cZ : ClassId) (z0 : Nat) (R : Nat → Nat) (pl : Int32) (N : Nat → Nat) (G : Nat → Nat → Nat) (B : Nat → Nat → Int32) (a b d : Nat) (ha : a < 128) (hN : N 14 < 90000) (s0 : Nat) : Met l yX12_newForm vX12_newForm { frames := 0, cells := 0, slots := 0, locals := 0 } (va_Pc [.ref z0, .int (nI a), .int (nI b), .int (nI d)] (mPre dC dI cB cC cI cJ cZ z0 R pl N G B s0)) (va_Qi (fun (r : Int32) (u : ((Nat → Nat) × (Nat → Nat → Nat) × (Nat → Nat → Int32) × Int32)) => match u with | (N1, G1, B1, pl1) => N1 = va_up N 14 (N 14 + 1) ∧ G1 = va_up (va_up (va_up G 10 (va_up (G 10) (N 14) a)) 11 (va_up (G 11) (N 14) b)) 12 (va_up (G 12) (N 14) d) ∧ B1 = B ∧ pl1 = pl ∧ r = nI (N 14)) (mPost dC dI cB cC cI cJ cZ z0 R (va_A (MW cB cC cI cJ cZ z0 R pl N G B) s0)) (va_A (MW cB cC cI cJ cZ z0 R pl N G B) s0)) 0 0 (va_A (MW cB cC cI cJ cZ z0 R pl N G B) s0) := by
  refine Met.ofW (cc := cX12_newForm) (maxL := 4) (ret := (some .int)) (by decide) rfl ?_
  intro p e s m args below meth c s₁ B9 hml hv
  obtain ⟨rfl, hsz, hP, hK, hD0⟩ := hv
  have hx := B9.exec
  have hb := B9.bytes
  have hr := B9.returns
  have hts := atoms_spec (ws := vX12_newForm) B9.pre
  have hown : s.vm.findClass RX12 = some m.cls := findClass_of_methodNamed B9.named
  have hlocks := B9.notSynchronized
  subst hsz
  have hD := hD0.self (sz := s.heap.size)
  generalize hAe : va_A (MW cB cC cI cJ cZ z0 R pl N G B) s.heap.size = A at hD ⊢
  have hA : ∀ q : Nat, s.heap.size ≤ q → A q := fun q h => by rw [← hAe]; exact Or.inr h
  have hS : va_S A s.heap s.heap [] := va_S.rf
  have hcs : 0 + 0 ≤ (0 : Nat) ∧ 0 + 0 ≤ (0 : Nat) := ⟨Nat.le_refl 0, Nat.le_refl 0⟩
  have hl := lv_entry ([.ref z0, .int (nI a), .int (nI b), .int (nI d)]) (n := 4) (Nat.le_of_ble_eq_true rfl)
  rw [lg_entry_eq]
  generalize (lg_sl ([.ref z0, .int (nI a), .int (nI b), .int (nI d)]) ++ List.replicate (4 - (lg_sl ([.ref z0, .int (nI a), .int (nI b), .int (nI d)])).length) Slot.unset).toArray = ls at hl ⊢
  have hl : lv_has ls 4 [(0, .ref z0), (1, .int (nI a)), (2, .int (nI b)), (3, .int (nI d))] := hl
  refine lv_aload_n hx hb dX12_newForm_0 rfl (lv_at hl 0 rfl) ?_
  refine mg_10 hx hb hts inX12_newForm hown hK hP (hts _ lkX12_newForm_f32) dX12_newForm_1 ?_
  refine lv_aload_n hx hb dX12_newForm_4 rfl (lv_at hl 0 rfl) ?_
  refine mg_14 hx hb hts inX12_newForm hown hK hP (hts _ lkX12_newForm_f196) dX12_newForm_5 ?_
  refine lv_iload_n hx hb dX12_newForm_8 rfl (lv_at hl 1 rfl) ?_
  refine lv_i2b (v := nI a) hx hb dX12_newForm_9 (narb _ (by omega)) ?_
  refine ms_10 hx hb hK hP hD hS (by omega) (by omega) dX12_newForm_10 (fun H locs hP hD hS => ?_)
  refine lv_aload_n hx hb dX12_newForm_11 rfl (lv_at hl 0 rfl) ?_
  refine mg_11 hx hb hts inX12_newForm hown hK hP (hts _ lkX12_newForm_f35) dX12_newForm_12 ?_
  refine lv_aload_n hx hb dX12_newForm_15 rfl (lv_at hl 0 rfl) ?_
  refine mg_14 hx hb hts inX12_newForm hown hK hP (hts _ lkX12_newForm_f196) dX12_newForm_16 ?_
  refine lv_iload_n hx hb dX12_newForm_19 rfl (lv_at hl 2 rfl) ?_
  refine ms_11 hx hb hK hP hD hS (by omega) dX12_newForm_20 (fun H locs hP hD hS => ?_)
  refine lv_aload_n hx hb dX12_newForm_21 rfl (lv_at hl 0 rfl) ?_
  refine mg_12 hx hb hts inX12_newForm hown hK hP (hts _ lkX12_newForm_f38) dX12_newForm_22 ?_
  refine lv_aload_n hx hb dX12_newForm_25 rfl (lv_at hl 0 rfl) ?_
  refine mg_14 hx hb hts inX12_newForm hown hK hP (hts _ lkX12_newForm_f196) dX12_newForm_26 ?_
  refine lv_iload_n hx hb dX12_newForm_29 rfl (lv_at hl 3 rfl) ?_
  refine ms_12 hx hb hK hP hD hS (by omega) dX12_newForm_30 (fun H locs hP hD hS => ?_)
  refine lv_aload_n hx hb dX12_newForm_31 rfl (lv_at hl 0 rfl) ?_
  refine lv_dup hx hb dX12_newForm_32 rfl ?_
  refine mg_14 hx hb hts inX12_newForm hown hK hP (hts _ lkX12_newForm_f196) dX12_newForm_33 ?_
  refine lv_iconst (v := nI 1) hx hb dX12_newForm_36 (by decide) ?_
  refine lv_iadd hx hb dX12_newForm_37 ?_
  refine tp_i (nI_add (N 14) 1) ?_
  refine mp_14 hx hb hts inX12_newForm hown hK hP hD hS (hts _ lkX12_newForm_f196) dX12_newForm_38 (fun H locs hP hD hS => ?_)
  refine lv_aload_n hx hb dX12_newForm_41 rfl (lv_at hl 0 rfl) ?_
  refine mg_14 hx hb hts inX12_newForm hown hK hP (hts _ lkX12_newForm_f196) dX12_newForm_42 ?_
  refine tp_i (y := nI ((N 14) + 1)) rfl ?_
  refine lv_iconst (v := nI 1) hx hb dX12_newForm_45 (by decide) ?_
  refine lv_isub hx hb dX12_newForm_46 ?_
  refine tp_i (pk_sub (a := (N 14) + 1) (b := 1) (by omega)) ?_
  exact W.iret (v := (nI (((N 14) + 1) - 1))) hx hb hr (fun t ht hW => ⟨⟨(nI (((N 14) + 1) - 1)), (va_up N 14 ((N 14) + 1), va_up (va_up (va_up G 10 (va_up (G 10) (N 14) a)) 11 (va_up (G 11) (N 14) b)) 12 (va_up (G 12) (N 14) d), B, pl), rfl, ⟨rfl, rfl, rfl, rfl, rfl⟩, by rw [ht]; exact hP, va_K.moved hW.alike hK, hD⟩, hS.F ht⟩) hS.2.2 dX12_newForm_47

set_option maxHeartbeats 4000000 in
set_option maxRecDepth 100000 in
/-- lookAt -/
theorem m_lookAt (l : Launch) (dC : Nat → ClassId) (dI : Nat → Nat → Nat) (cB cC cI cJ cZ : ClassId) (z0 : Nat) (R : Nat → Nat) (pl : Int32) (N : Nat → Nat) (G : Nat → Nat → Nat) (B : Nat → Nat → Int32) (a b d : Nat) (hN : N 53 < 90000) (s0 : Nat) : Met l yX12_lookAt vX12_lookAt { frames := 0, cells := 0, slots := 0, locals := 0 } (va_Pc [.ref z0, .int (nI a), .int (nI b), .int (nI d)] (mPre dC dI cB cC cI cJ cZ z0 R pl N G B s0)) (va_Qv (fun u : ((Nat → Nat) × (Nat → Nat → Nat) × (Nat → Nat → Int32) × Int32) => match u with | (N1, G1, B1, pl1) => N1 = va_up N 53 (N 53 + 1) ∧ G1 = va_up (va_up (va_up G 50 (va_up (G 50) (N 53) a)) 51 (va_up (G 51) (N 53) b)) 52 (va_up (G 52) (N 53) d) ∧ B1 = B ∧ pl1 = pl) (mPost dC dI cB cC cI cJ cZ z0 R (va_A (MW cB cC cI cJ cZ z0 R pl N G B) s0)) (va_A (MW cB cC cI cJ cZ z0 R pl N G B) s0)) 0 0 (va_A (MW cB cC cI cJ cZ z0 R pl N G B) s0) := by
  refine Met.ofW (cc := cX12_lookAt) (maxL := 4) (ret := none) (by decide) rfl ?_
  intro p e s m args below meth c s₁ B9 hml hv
  obtain ⟨rfl, hsz, hP, hK, hD0⟩ := hv
  have hx := B9.exec
  have hb := B9.bytes
  have hr := B9.returns
  have hts := atoms_spec (ws := vX12_lookAt) B9.pre
  have hown : s.vm.findClass RX12 = some m.cls := findClass_of_methodNamed B9.named
  have hlocks := B9.notSynchronized
  subst hsz
  have hD := hD0.self (sz := s.heap.size)
  generalize hAe : va_A (MW cB cC cI cJ cZ z0 R pl N G B) s.heap.size = A at hD ⊢
  have hA : ∀ q : Nat, s.heap.size ≤ q → A q := fun q h => by rw [← hAe]; exact Or.inr h
  have hS : va_S A s.heap s.heap [] := va_S.rf
  have hcs : 0 + 0 ≤ (0 : Nat) ∧ 0 + 0 ≤ (0 : Nat) := ⟨Nat.le_refl 0, Nat.le_refl 0⟩
  have hl := lv_entry ([.ref z0, .int (nI a), .int (nI b), .int (nI d)]) (n := 4) (Nat.le_of_ble_eq_true rfl)
  rw [lg_entry_eq]
  generalize (lg_sl ([.ref z0, .int (nI a), .int (nI b), .int (nI d)]) ++ List.replicate (4 - (lg_sl ([.ref z0, .int (nI a), .int (nI b), .int (nI d)])).length) Slot.unset).toArray = ls at hl ⊢
  have hl : lv_has ls 4 [(0, .ref z0), (1, .int (nI a)), (2, .int (nI b)), (3, .int (nI d))] := hl
  refine lv_aload_n hx hb dX12_lookAt_0 rfl (lv_at hl 0 rfl) ?_
  refine mg_50 hx hb hts inX12_lookAt hown hK hP (hts _ lkX12_lookAt_f98) dX12_lookAt_1 ?_
  refine lv_aload_n hx hb dX12_lookAt_4 rfl (lv_at hl 0 rfl) ?_
  refine mg_53 hx hb hts inX12_lookAt hown hK hP (hts _ lkX12_lookAt_f306) dX12_lookAt_5 ?_
  refine lv_iload_n hx hb dX12_lookAt_8 rfl (lv_at hl 1 rfl) ?_
  refine ms_50 hx hb hK hP hD hS (by omega) dX12_lookAt_9 (fun H locs hP hD hS => ?_)
  refine lv_aload_n hx hb dX12_lookAt_10 rfl (lv_at hl 0 rfl) ?_
  refine mg_51 hx hb hts inX12_lookAt hown hK hP (hts _ lkX12_lookAt_f101) dX12_lookAt_11 ?_
  refine lv_aload_n hx hb dX12_lookAt_14 rfl (lv_at hl 0 rfl) ?_
  refine mg_53 hx hb hts inX12_lookAt hown hK hP (hts _ lkX12_lookAt_f306) dX12_lookAt_15 ?_
  refine lv_iload_n hx hb dX12_lookAt_18 rfl (lv_at hl 2 rfl) ?_
  refine ms_51 hx hb hK hP hD hS (by omega) dX12_lookAt_19 (fun H locs hP hD hS => ?_)
  refine lv_aload_n hx hb dX12_lookAt_20 rfl (lv_at hl 0 rfl) ?_
  refine mg_52 hx hb hts inX12_lookAt hown hK hP (hts _ lkX12_lookAt_f104) dX12_lookAt_21 ?_
  refine lv_aload_n hx hb dX12_lookAt_24 rfl (lv_at hl 0 rfl) ?_
  refine mg_53 hx hb hts inX12_lookAt hown hK hP (hts _ lkX12_lookAt_f306) dX12_lookAt_25 ?_
  refine lv_iload_n hx hb dX12_lookAt_28 rfl (lv_at hl 3 rfl) ?_
  refine ms_52 hx hb hK hP hD hS (by omega) dX12_lookAt_29 (fun H locs hP hD hS => ?_)
  refine lv_aload_n hx hb dX12_lookAt_30 rfl (lv_at hl 0 rfl) ?_
  refine lv_dup hx hb dX12_lookAt_31 rfl ?_
  refine mg_53 hx hb hts inX12_lookAt hown hK hP (hts _ lkX12_lookAt_f306) dX12_lookAt_32 ?_
  refine lv_iconst (v := nI 1) hx hb dX12_lookAt_35 (by decide) ?_
  refine lv_iadd hx hb dX12_lookAt_36 ?_
  refine tp_i (nI_add (N 53) 1) ?_
  refine mp_53 hx hb hts inX12_lookAt hown hK hP hD hS (hts _ lkX12_lookAt_f306) dX12_lookAt_37 (fun H locs hP hD hS => ?_)
  exact W.vret hx hb hr (fun t ht hW => ⟨⟨(va_up N 53 ((N 53) + 1), va_up (va_up (va_up G 50 (va_up (G 50) (N 53) a)) 51 (va_up (G 51) (N 53) b)) 52 (va_up (G 52) (N 53) d), B, pl), rfl, ⟨rfl, rfl, rfl, rfl⟩, by rw [ht]; exact hP, va_K.moved hW.alike hK, hD⟩, hS.F ht⟩) hS.2.2 dX12_lookAt_40
