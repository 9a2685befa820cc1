def oX1_makeRoom : List Cond := [Cond.fieldLink RX1 18 "MacroScopes$Forms" "top" "I", Cond.fieldLink RX1 11 "MacroScopes$Forms" "what" "[I", Cond.constant RX1 25 (67600), Cond.methodLink RX1 26 yJ7_copyOf_59c91, Cond.static yJ7_copyOf_59c91, Cond.initialized RJ7, Cond.fieldLink RX1 15 "MacroScopes$Forms" "span" "[I"]
def vX1_makeRoom : List Cond := .code yX1_makeRoom cX1_makeRoom 1 none :: (oX1_makeRoom ++ (vJ7_copyOf_59c91 ++ (wsX10)))
theorem lkX1_makeRoom_f18 : Cond.fieldLink RX1 18 "MacroScopes$Forms" "top" "I" ∈ vX1_makeRoom := List.mem_cons_of_mem _ (List.mem_append_left _ (List.mem_of_getElem? (i := 0) rfl))
theorem lkX1_makeRoom_f11 : Cond.fieldLink RX1 11 "MacroScopes$Forms" "what" "[I" ∈ vX1_makeRoom := List.mem_cons_of_mem _ (List.mem_append_left _ (List.mem_of_getElem? (i := 1) rfl))
theorem lkX1_makeRoom_c25 : Cond.constant RX1 25 (67600) ∈ vX1_makeRoom := List.mem_cons_of_mem _ (List.mem_append_left _ (List.mem_of_getElem? (i := 2) rfl))
theorem lkX1_makeRoom_f15 : Cond.fieldLink RX1 15 "MacroScopes$Forms" "span" "[I" ∈ vX1_makeRoom := List.mem_cons_of_mem _ (List.mem_append_left _ (List.mem_of_getElem? (i := 6) rfl))
theorem inX1_makeRoom_X1 : ∀ w ∈ wsX10, w ∈ vX1_makeRoom := fun w h => List.mem_cons_of_mem _ (List.mem_append_right _ (List.mem_append_right _ (h)))
theorem kX1_makeRoom_J7_copyOf_59c91_26 : GoodIn vX1_makeRoom (va_wsS RX1 26 yJ7_copyOf_59c91 vJ7_copyOf_59c91) := goodIn_sub (fun w h => (List.mem_append.mp h).elim (fun h => List.mem_cons_of_mem _ (List.mem_append_left _ ((by decide +kernel : ∀ w ∈ ([.methodLink RX1 26 yJ7_copyOf_59c91, .static yJ7_copyOf_59c91, .initialized yJ7_copyOf_59c91.cls] : List Cond), w ∈ oX1_makeRoom) w h))) (fun h => List.mem_cons_of_mem _ (List.mem_append_right _ (List.mem_append_left _ (h))))) (by decide +kernel)
def oX6_makeRoom : List Cond := [Cond.fieldLink RX6 47 "MacroScopes$Names" "top" "I", Cond.fieldLink RX6 32 "MacroScopes$Names" "original" "[I", Cond.constant RX6 99 (63261), Cond.methodLink RX6 100 yJ7_copyOf_59c91, Cond.static yJ7_copyOf_59c91, Cond.initialized RJ7, Cond.fieldLink RX6 35 "MacroScopes$Names" "home" "[I", Cond.fieldLink RX6 38 "MacroScopes$Names" "binding" "[I", Cond.fieldLink RX6 41 "MacroScopes$Names" "mark" "[I", Cond.fieldLink RX6 44 "MacroScopes$Names" "note" "[I"]
def vX6_makeRoom : List Cond := .code yX6_makeRoom cX6_makeRoom 1 none :: (oX6_makeRoom ++ (vJ7_copyOf_59c91 ++ (wsX60)))
theorem lkX6_makeRoom_f47 : Cond.fieldLink RX6 47 "MacroScopes$Names" "top" "I" ∈ vX6_makeRoom := List.mem_cons_of_mem _ (List.mem_append_left _ (List.mem_of_getElem? (i := 0) rfl))
theorem lkX6_makeRoom_f32 : Cond.fieldLink RX6 32 "MacroScopes$Names" "original" "[I" ∈ vX6_makeRoom := List.mem_cons_of_mem _ (List.mem_append_left _ (List.mem_of_getElem? (i := 1) rfl))
theorem lkX6_makeRoom_c99 : Cond.constant RX6 99 (63261) ∈ vX6_makeRoom := List.mem_cons_of_mem _ (List.mem_append_left _ (List.mem_of_getElem? (i := 2) rfl))
theorem lkX6_makeRoom_f35 : Cond.fieldLink RX6 35 "MacroScopes$Names" "home" "[I" ∈ vX6_makeRoom := List.mem_cons_of_mem _ (List.mem_append_left _ (List.mem_of_getElem? (i := 6) rfl))
theorem lkX6_makeRoom_f38 : Cond.fieldLink RX6 38 "MacroScopes$Names" "binding" "[I" ∈ vX6_makeRoom := List.mem_cons_of_mem _ (List.mem_append_left _ (List.mem_of_getElem? (i := 7) rfl))
theorem lkX6_makeRoom_f41 : Cond.fieldLink RX6 41 "MacroScopes$Names" "mark" "[I" ∈ vX6_makeRoom := List.mem_cons_of_mem _ (List.mem_append_left _ (List.mem_of_getElem? (i := 8) rfl))
theorem lkX6_makeRoom_f44 : Cond.fieldLink RX6 44 "MacroScopes$Names" "note" "[I" ∈ vX6_makeRoom := List.mem_cons_of_mem _ (List.mem_append_left _ (List.mem_of_getElem? (i := 9) rfl))
theorem inX6_makeRoom_X6 : ∀ w ∈ wsX60, w ∈ vX6_makeRoom := fun w h => List.mem_cons_of_mem _ (List.mem_append_right _ (List.mem_append_right _ (h)))
theorem kX6_makeRoom_J7_copyOf_59c91_100 : GoodIn vX6_makeRoom (va_wsS RX6 100 yJ7_copyOf_59c91 vJ7_copyOf_59c91) := goodIn_sub (fun w h => (List.mem_append.mp h).elim (fun h => List.mem_cons_of_mem _ (List.mem_append_left _ ((by decide +kernel : ∀ w ∈ ([.methodLink RX6 100 yJ7_copyOf_59c91, .static yJ7_copyOf_59c91, .initialized yJ7_copyOf_59c91.cls] : List Cond), w ∈ oX6_makeRoom) w h))) (fun h => List.mem_cons_of_mem _ (List.mem_append_right _ (List.mem_append_left _ (h))))) (by decide +kernel)
theorem cg_f {gn : Nat} : gC 67600 gn 10000 gn 2 135200 := by unfold gC cg sg; simp only [if_pos, if_neg, show ¬ (10000 = 67600) by decide, if_false]; omega
theorem cg_n {gf : Nat} : gC gf 63261 gf 3760 5 316305 := by unfold gC cg sg; simp only [if_pos, if_neg, show ¬ (3760 = 63261) by decide, if_false]; omega
theorem FI_room {f : Nat → Int32} {D : Int → Nat} {gf : Nat} {k t : Int} (h : FI f D gf k t) (hg : gf ≤ 67600) : FI (va_cpy f (fun _ => 0) 0 0 gf) D 67600 k t := by
  obtain ⟨h1, h2, h3, h4, h5, h6⟩ := h
  have ein : ∀ p : Int, 0 ≤ p → p < (gf : Int) → va_cpy f (fun _ => 0) 0 0 gf p.toNat = f p.toNat := by
    intro p p0 p1
    unfold va_cpy
    rw [if_pos (by omega)]
    congr 1; omega
  refine ⟨?_, ⟨h2.1, ?_⟩, by omega, ?_, ?_, ?_⟩
  · intro i
    unfold va_cpy
    split
    · exact h1 _
    · show 0 ≤ (0 : Int32).toInt ∧ (0 : Int32).toInt ≤ 67600
      decide
  · intro p p0 p1
    by_cases hp : p < (gf : Int)
    · rw [ein p p0 hp]
      obtain ⟨g1, g2⟩ := h2.2 p p0 hp
      refine ⟨by omega, fun q q1 q2 => ?_⟩
      rw [ein q (by omega) (by omega)]
      exact g2 q q1 q2
    · have e0 : va_cpy f (fun _ => 0) 0 0 gf p.toNat = 0 := by
        unfold va_cpy
        rw [if_neg (by omega)]
      rw [e0]
      have : (0 : Int32).toInt = 0 := rfl
      exact ⟨by omega, fun q q1 q2 => by omega⟩
  · exact CUT_agree h4 (fun p a b => ein p (by omega) (by omega))
  · exact CUT_agree h5 (fun p a b => ein p (by omega) (by omega))
  · exact CUT_agree h6 (fun p a b => ein p (by omega) (by omega))
set_option maxHeartbeats 4000000 in
set_option maxRecDepth 100000 in
theorem c_makeRoomF (l : Launch) (dC : Nat → ClassId) (dI : Nat → Nat → Nat) (cB cC cI cJ cZ : ClassId) (a : Nat → Nat) (F : Nat → Int32) (X : Nat → Nat → Int32) (J : Nat → Nat → Int64) (R : Nat → Nat) (gf gn : Nat)  (hgf : gf ≤ 67600) (hg2 : (gf = 10000 ∨ gf = 67600) ∧ (gn = 3760 ∨ gn = 63261)) (htp : 0 ≤ (F 12).toInt ∧ (F 12).toInt ≤ (gf : Int)) (s0 n0 : Nat) : Met l yX1_makeRoom vX1_makeRoom { frames := 3, cells := cg gf gn, slots := sg gf gn, locals := 120 } (va_Pc [.ref (a 1)] (gPre dC dI cB cC cI cJ cZ a F X J R gf gn s0 n0)) (va_Qv (fun (u : (Nat → Int32) × (Nat → Nat → Int32) × (Nat → Nat → Int64) × (Nat → Nat) × Nat × Nat) => match u with | (F1, X1, J1, R1, gf1, gn1) => F1 = F ∧ J1 = J ∧ gn1 = gn ∧ (∀ k9, 2 ≤ k9 → X1 k9 = X k9) ∧ ((gf1 = gf ∧ X1 1 = (X 1)) ∨ (gf1 = 67600 ∧ gf = 10000 ∧ X1 1 = va_cpy (X 1) (fun _ => 0) 0 0 gf))) (fun u => gPost dC dI cB cC cI cJ cZ a u.1 u.2.1 u.2.2.1 u.2.2.2.1 u.2.2.2.2.1 u.2.2.2.2.2 (s0 + cg gf gn) (n0 + sg gf gn) (cg gf gn) (sg gf gn) (va_A (CW cB cC cI cJ cZ a F X J R gf gn) s0)) (va_A (CW cB cC cI cJ cZ a F X J R gf gn) s0)) (cg gf gn) (sg gf gn) (va_A (CW cB cC cI cJ cZ a F X J R gf gn) s0) := by
  refine Met.ofW (cc := cX1_makeRoom) (maxL := 1) (ret := none) (by decide) rfl ?_
  intro p e s m args below meth c s₁ B9 hml hv
  obtain ⟨rfl, ⟨hsz0, hP, hK, hD0, hNW⟩, htot0⟩ := hv
  have hx := B9.exec
  have hb := B9.bytes
  have hr := B9.returns
  have hts := atoms_spec (ws := vX1_makeRoom) B9.pre
  have hown : s.vm.findClass RX1 = some m.cls := findClass_of_methodNamed B9.named
  have hlocks := B9.notSynchronized
  clear B9
  subst hsz0
  subst htot0
  have hD := hD0.self (sz := s.heap.size)
  generalize hAe : va_A (CW cB cC cI cJ cZ a F X J R gf gn) s.heap.size = A at hD ⊢
  have hA : ∀ q : Nat, s.heap.size ≤ q → A q := fun q h => by rw [← hAe]; exact Or.inr h
  have hS : va_S A s.heap s.heap [] := va_S.rf
  have hcs : 0 + 0 ≤ cg gf gn ∧ 0 + 0 ≤ sg gf gn := ⟨Nat.zero_le _, Nat.zero_le _⟩
  have hl := lv_entry ([.ref (a 1)]) (n := 1) (Nat.le_of_ble_eq_true rfl)
  rw [lg_entry_eq]
  generalize (lg_sl ([.ref (a 1)]) ++ List.replicate (1 - (lg_sl ([.ref (a 1)])).length) Slot.unset).toArray = ls at hl ⊢
  have hl : lv_has ls 1 [(0, .ref (a 1))] := hl
  have hgc : gC gf gn gf gn 0 0 := gC.rf
  refine lv_aload_n hx hb dX1_makeRoom_0 rfl (lv_at hl 0 rfl) ?_
  refine cg_1_2 hx hb hts inX1_makeRoom_X1 hown hK hP (hts _ lkX1_makeRoom_f18) dX1_makeRoom_1 ?_
  have i_1 := i32r (F 12)
  refine lv_sipush (v := oI 600) hx hb dX1_makeRoom_4 (by decide) ?_
  refine lv_iadd hx hb dX1_makeRoom_7 ?_
  refine tp_i (oI_add ((F 12).toInt) 600) ?_
  refine lv_aload_n hx hb dX1_makeRoom_8 rfl (lv_at hl 0 rfl) ?_
  refine cg_1_0 hx hb hts inX1_makeRoom_X1 hown hK hP (hts _ lkX1_makeRoom_f11) dX1_makeRoom_9 ?_
  refine cn_0 hx hb hK hP dX1_makeRoom_12 ?_
  refine ci_le (tgt := 52) hx hb (by omega) (by omega) dX1_makeRoom_13 (by decide) (fun c_2 => ?_) (fun c_2 => ?_)
  · refine W.know (fun hsz htot => ?_)
    have hend := gEnd hgc hsz htot
    refine W.widen (k := cg gf gn) (n := sg gf gn) (Nat.le_trans (Nat.le_add_right _ _) hcs.1) (Nat.le_trans (Nat.le_add_right _ _) hcs.2) ?_
    have hpost : F = F ∧ J = J ∧ gn = gn ∧ (∀ k9, 2 ≤ k9 → X k9 = X k9) ∧ ((gf = gf ∧ X 1 = (X 1)) ∨ (gf = 67600 ∧ gf = 10000 ∧ X 1 = va_cpy (X 1) (fun _ => 0) 0 0 gf)) := ⟨rfl, rfl, rfl, fun _ _ => rfl, Or.inl ⟨rfl, rfl⟩⟩
    exact W.vret hx hb hr (fun t ht hW => ⟨⟨(F, X, J, R, gf, gn), rfl, hpost, ⟨by rw [ht]; exact hP, va_K.moved hW.alike hK, hD⟩, by rw [ht]; exact hend.1, by rw [ht]; exact hend.2.1, hend.2.2⟩, hS.F ht⟩) hS.2.2 dX1_makeRoom_52
  · refine lv_aload_n hx hb dX1_makeRoom_16 rfl (lv_at hl 0 rfl) ?_
    refine cg_1_0 hx hb hts inX1_makeRoom_X1 hown hK hP (hts _ lkX1_makeRoom_f11) dX1_makeRoom_17 ?_
    refine cn_0 hx hb hK hP dX1_makeRoom_20 ?_
    refine lv_ldc (v := 67600) hx hb hown (hts _ lkX1_makeRoom_c25) dX1_makeRoom_21 ?_
    refine tp_i (y := oI 67600) (by decide) ?_
    refine ci_ge (tgt := 52) hx hb (by omega) (by decide) dX1_makeRoom_23 (by decide) (fun c_3 => ?_) (fun c_3 => ?_)
    · refine W.know (fun hsz htot => ?_)
      have hend := gEnd hgc hsz htot
      refine W.widen (k := cg gf gn) (n := sg gf gn) (Nat.le_trans (Nat.le_add_right _ _) hcs.1) (Nat.le_trans (Nat.le_add_right _ _) hcs.2) ?_
      have hpost : F = F ∧ J = J ∧ gn = gn ∧ (∀ k9, 2 ≤ k9 → X k9 = X k9) ∧ ((gf = gf ∧ X 1 = (X 1)) ∨ (gf = 67600 ∧ gf = 10000 ∧ X 1 = va_cpy (X 1) (fun _ => 0) 0 0 gf)) := ⟨rfl, rfl, rfl, fun _ _ => rfl, Or.inl ⟨rfl, rfl⟩⟩
      exact W.vret hx hb hr (fun t ht hW => ⟨⟨(F, X, J, R, gf, gn), rfl, hpost, ⟨by rw [ht]; exact hP, va_K.moved hW.alike hK, hD⟩, by rw [ht]; exact hend.1, by rw [ht]; exact hend.2.1, hend.2.2⟩, hS.F ht⟩) hS.2.2 dX1_makeRoom_52
    · have eg : gf = 10000 := by omega
      subst eg
      have hPL : va_P (dC, dI) vwCl (CW0 cB cC cI cJ cZ a R F X J R 10000 gn ++ []) s.heap := by rw [List.append_nil]; exact hP
      have hDL : va_D A (CW0 cB cC cI cJ cZ a R F X J R 10000 gn ++ []) := by rw [List.append_nil]; exact hD
      have hP : va_P (dC, dI) vwCl (CW0 cB cC cI cJ cZ a R F X J R 10000 gn) s.heap := hPL.sub [0, 1, 2, 3, 4, 5, 6, 7, 8, 9, 10, 11, 12, 13, 14, 15, 16, 17, 18, 19, 20, 21, 22, 23, 24, 25, 26, 27, 28, 29, 30, 31, 32, 33, 34, 35, 36, 37, 38, 39, 40] rfl
      refine lv_aload_n hx hb dX1_makeRoom_26 rfl (lv_at hl 0 rfl) ?_
      refine lv_aload_n hx hb dX1_makeRoom_27 rfl (lv_at hl 0 rfl) ?_
      refine cg_1_0 hx hb hts inX1_makeRoom_X1 hown hK hP (hts _ lkX1_makeRoom_f11) dX1_makeRoom_28 ?_
      refine lv_ldc (v := 67600) hx hb hown (hts _ lkX1_makeRoom_c25) dX1_makeRoom_31 ?_
      refine tp_i (y := oI (67600 : Nat)) (by decide) ?_
      refine cc_copy (CW0 cB cC cI cJ cZ a R F X J R 10000 gn ++ []) 12 (R 0) 10000 67600 (X 0) rfl (by decide) (by decide) (rest := [.ref (a 1)]) ⟨hx, hb, hml, hown, hts⟩ (va_cwS 2 hts kX1_makeRoom_J7_copyOf_59c91_26 rfl rfl rfl (by decide +kernel) ⟨Nat.le_of_ble_eq_true rfl, Nat.le_of_ble_eq_true rfl⟩) hK hPL hDL hS hA rfl hl.1 (lv_room (Nat.le_of_ble_eq_true rfl)) dX1_makeRoom_33 ⟨Nat.le_trans (by decide : 0 + 1 ≤ 2) (Nat.le_trans (Nat.le_add_right _ _) (cg_f (gn := gn)).1), Nat.le_trans (by decide : 0 + 67600 ≤ 135200) (Nat.le_trans (Nat.le_add_right _ _) (cg_f (gn := gn)).2)⟩ (fun ra0 H locs hPL hDL hS => ?_)
      have hPL : va_P (dC, dI) vwCl (CW0 cB cC cI cJ cZ a R F X J R 10000 gn ++ [(ra0, .inl (cI, 67600, .inl (va_cpy (X 0) (fun _ => 0) 0 0 10000)))]) H := hPL
      have hDL : va_D A (CW0 cB cC cI cJ cZ a R F X J R 10000 gn ++ [(ra0, .inl (cI, 67600, .inl (va_cpy (X 0) (fun _ => 0) 0 0 10000)))]) := hDL
      refine cpE_1_0 hx hb hts inX1_makeRoom_X1 hown hK hPL hDL hS (hts _ lkX1_makeRoom_f11) dX1_makeRoom_36 (fun H locs hPL hDL hS => ?_)
      have hPL : va_P (dC, dI) vwCl (CW0 cB cC cI cJ cZ a (va_up R 0 ra0) F X J R 10000 gn ++ [(ra0, .inl (cI, 67600, .inl (va_cpy (X 0) (fun _ => 0) 0 0 10000)))]) H := hPL
      have hDL : va_D A (CW0 cB cC cI cJ cZ a (va_up R 0 ra0) F X J R 10000 gn ++ [(ra0, .inl (cI, 67600, .inl (va_cpy (X 0) (fun _ => 0) 0 0 10000)))]) := hDL
      have hP : va_P (dC, dI) vwCl (CW0 cB cC cI cJ cZ a (va_up R 0 ra0) F X J R 10000 gn) H := hPL.sub [0, 1, 2, 3, 4, 5, 6, 7, 8, 9, 10, 11, 12, 13, 14, 15, 16, 17, 18, 19, 20, 21, 22, 23, 24, 25, 26, 27, 28, 29, 30, 31, 32, 33, 34, 35, 36, 37, 38, 39, 40] rfl
      refine lv_aload_n hx hb dX1_makeRoom_39 rfl (lv_at hl 0 rfl) ?_
      refine lv_aload_n hx hb dX1_makeRoom_40 rfl (lv_at hl 0 rfl) ?_
      refine cg_1_1 hx hb hts inX1_makeRoom_X1 hown hK hP (hts _ lkX1_makeRoom_f15) dX1_makeRoom_41 ?_
      refine lv_ldc (v := 67600) hx hb hown (hts _ lkX1_makeRoom_c25) dX1_makeRoom_44 ?_
      refine tp_i (y := oI (67600 : Nat)) (by decide) ?_
      refine cc_copy (CW0 cB cC cI cJ cZ a (va_up R 0 ra0) F X J R 10000 gn ++ [(ra0, .inl (cI, 67600, .inl (va_cpy (X 0) (fun _ => 0) 0 0 10000)))]) 13 (R 1) 10000 67600 (X 1) rfl (by decide) (by decide) (rest := [.ref (a 1)]) ⟨hx, hb, hml, hown, hts⟩ (va_cwS 2 hts kX1_makeRoom_J7_copyOf_59c91_26 rfl rfl rfl (by decide +kernel) ⟨Nat.le_of_ble_eq_true rfl, Nat.le_of_ble_eq_true rfl⟩) hK hPL hDL hS hA rfl hl.1 (lv_room (Nat.le_of_ble_eq_true rfl)) dX1_makeRoom_46 ⟨Nat.le_trans (by decide : 0 + 1 + 1 ≤ 2) (Nat.le_trans (Nat.le_add_right _ _) (cg_f (gn := gn)).1), Nat.le_trans (by decide : 0 + 67600 + 67600 ≤ 135200) (Nat.le_trans (Nat.le_add_right _ _) (cg_f (gn := gn)).2)⟩ (fun ra1 H locs hPL hDL hS => ?_)
      have hPL : va_P (dC, dI) vwCl (CW0 cB cC cI cJ cZ a (va_up R 0 ra0) F X J R 10000 gn ++ [(ra0, .inl (cI, 67600, .inl (va_cpy (X 0) (fun _ => 0) 0 0 10000))), (ra1, .inl (cI, 67600, .inl (va_cpy (X 1) (fun _ => 0) 0 0 10000)))]) H := hPL
      have hDL : va_D A (CW0 cB cC cI cJ cZ a (va_up R 0 ra0) F X J R 10000 gn ++ [(ra0, .inl (cI, 67600, .inl (va_cpy (X 0) (fun _ => 0) 0 0 10000))), (ra1, .inl (cI, 67600, .inl (va_cpy (X 1) (fun _ => 0) 0 0 10000)))]) := hDL
      refine cpE_1_1 hx hb hts inX1_makeRoom_X1 hown hK hPL hDL hS (hts _ lkX1_makeRoom_f15) dX1_makeRoom_49 (fun H locs hPL hDL hS => ?_)
      have hPL : va_P (dC, dI) vwCl (CW0 cB cC cI cJ cZ a (va_up (va_up R 0 ra0) 1 ra1) F X J R 10000 gn ++ [(ra0, .inl (cI, 67600, .inl (va_cpy (X 0) (fun _ => 0) 0 0 10000))), (ra1, .inl (cI, 67600, .inl (va_cpy (X 1) (fun _ => 0) 0 0 10000)))]) H := hPL
      have hDL : va_D A (CW0 cB cC cI cJ cZ a (va_up (va_up R 0 ra0) 1 ra1) F X J R 10000 gn ++ [(ra0, .inl (cI, 67600, .inl (va_cpy (X 0) (fun _ => 0) 0 0 10000))), (ra1, .inl (cI, 67600, .inl (va_cpy (X 1) (fun _ => 0) 0 0 10000)))]) := hDL
      have hP : va_P (dC, dI) vwCl (CW cB cC cI cJ cZ a F (va_up (va_up X 0 (va_cpy (X 0) (fun _ => 0) 0 0 10000)) 1 (va_cpy (X 1) (fun _ => 0) 0 0 10000)) J (va_up (va_up R 0 ra0) 1 ra1) 67600 gn) H := hPL.sub [0, 1, 2, 3, 4, 5, 6, 7, 8, 9, 10, 11, 41, 42, 14, 15, 16, 17, 18, 19, 20, 21, 22, 23, 24, 25, 26, 27, 28, 29, 30, 31, 32, 33, 34, 35, 36, 37, 38, 39, 40] rfl
      have hD : va_D A (CW cB cC cI cJ cZ a F (va_up (va_up X 0 (va_cpy (X 0) (fun _ => 0) 0 0 10000)) 1 (va_cpy (X 1) (fun _ => 0) 0 0 10000)) J (va_up (va_up R 0 ra0) 1 ra1) 67600 gn) := hDL.sub [0, 1, 2, 3, 4, 5, 6, 7, 8, 9, 10, 11, 41, 42, 14, 15, 16, 17, 18, 19, 20, 21, 22, 23, 24, 25, 26, 27, 28, 29, 30, 31, 32, 33, 34, 35, 36, 37, 38, 39, 40] rfl rfl
      have hgc := cg_f (gn := gn)
      have hcs := hgc.cs
      refine W.know (fun hsz htot => ?_)
      have hend := gEnd hgc (H := H) (s := s) (cells := 2) (slots := 135200) hsz htot
      have hpost : F = F ∧ J = J ∧ gn = gn ∧ (∀ k9, 2 ≤ k9 → (va_up (va_up X 0 (va_cpy (X 0) (fun _ => 0) 0 0 10000)) 1 (va_cpy (X 1) (fun _ => 0) 0 0 10000)) k9 = X k9) ∧ ((67600 = 10000 ∧ va_up (va_up X 0 (va_cpy (X 0) (fun _ => 0) 0 0 10000)) 1 (va_cpy (X 1) (fun _ => 0) 0 0 10000) 1 = (X 1)) ∨ (67600 = 67600 ∧ 10000 = 10000 ∧ va_up (va_up X 0 (va_cpy (X 0) (fun _ => 0) 0 0 10000)) 1 (va_cpy (X 1) (fun _ => 0) 0 0 10000) 1 = va_cpy (X 1) (fun _ => 0) 0 0 10000)) := ⟨rfl, rfl, rfl, fun k9 h9 => by unfold va_up; rw [if_neg (by omega), if_neg (by omega)], Or.inr ⟨rfl, rfl, rfl⟩⟩
      refine W.widen (k := cg 10000 gn) (n := sg 10000 gn) (Nat.le_trans (Nat.le_add_right _ _) hcs.1) (Nat.le_trans (Nat.le_add_right _ _) hcs.2) ?_
      exact W.vret hx hb hr (fun t ht hW => ⟨⟨(F, va_up (va_up X 0 (va_cpy (X 0) (fun _ => 0) 0 0 10000)) 1 (va_cpy (X 1) (fun _ => 0) 0 0 10000), J, va_up (va_up R 0 ra0) 1 ra1, 67600, gn), rfl, hpost, ⟨by rw [ht]; exact hP, va_K.moved hW.alike hK, hD⟩, by rw [ht]; exact hend.1, by rw [ht]; exact hend.2.1, hend.2.2⟩, hS.F ht⟩) hS.2.2 dX1_makeRoom_52

set_option maxHeartbeats 4000000 in
set_option maxRecDepth 100000 in
theorem c_makeRoomN (l : Launch) (dC : Nat → ClassId) (dI : Nat → Nat → Nat) (cB cC cI cJ cZ : ClassId) (a : Nat → Nat) (F : Nat → Int32) (X : Nat → Nat → Int32) (J : Nat → Nat → Int64) (R : Nat → Nat) (gf gn : Nat)  (hgn : gn ≤ 63261) (hg2 : (gf = 10000 ∨ gf = 67600) ∧ (gn = 3760 ∨ gn = 63261)) (hnt : 0 ≤ (F 13).toInt ∧ (F 13).toInt ≤ (gn : Int)) (s0 n0 : Nat) : Met l yX6_makeRoom vX6_makeRoom { frames := 3, cells := cg gf gn, slots := sg gf gn, locals := 120 } (va_Pc [.ref (a 6)] (gPre dC dI cB cC cI cJ cZ a F X J R gf gn s0 n0)) (va_Qv (fun (u : (Nat → Int32) × (Nat → Nat → Int32) × (Nat → Nat → Int64) × (Nat → Nat) × Nat × Nat) => match u with | (F1, X1, J1, R1, gf1, gn1) => F1 = F ∧ J1 = J ∧ gf1 = gf ∧ (∀ k9, (k9 < 14 ∨ 18 < k9) → X1 k9 = X k9) ∧ (gn1 = gn ∨ (gn1 = 63261 ∧ gn = 3760))) (fun u => gPost dC dI cB cC cI cJ cZ a u.1 u.2.1 u.2.2.1 u.2.2.2.1 u.2.2.2.2.1 u.2.2.2.2.2 (s0 + cg gf gn) (n0 + sg gf gn) (cg gf gn) (sg gf gn) (va_A (CW cB cC cI cJ cZ a F X J R gf gn) s0)) (va_A (CW cB cC cI cJ cZ a F X J R gf gn) s0)) (cg gf gn) (sg gf gn) (va_A (CW cB cC cI cJ cZ a F X J R gf gn) s0) := by
  refine Met.ofW (cc := cX6_makeRoom) (maxL := 1) (ret := none) (by decide) rfl ?_
  intro p e s m args below meth c s₁ B9 hml hv
  obtain ⟨rfl, ⟨hsz0, hP, hK, hD0, hNW⟩, htot0⟩ := hv
  have hx := B9.exec
  have hb := B9.bytes
  have hr := B9.returns
  have hts := atoms_spec (ws := vX6_makeRoom) B9.pre
  have hown : s.vm.findClass RX6 = some m.cls := findClass_of_methodNamed B9.named
  have hlocks := B9.notSynchronized
  clear B9
  subst hsz0
  subst htot0
  have hD := hD0.self (sz := s.heap.size)
  generalize hAe : va_A (CW cB cC cI cJ cZ a F X J R gf gn) s.heap.size = A at hD ⊢
  have hA : ∀ q : Nat, s.heap.size ≤ q → A q := fun q h => by rw [← hAe]; exact Or.inr h
  have hS : va_S A s.heap s.heap [] := va_S.rf
  have hcs : 0 + 0 ≤ cg gf gn ∧ 0 + 0 ≤ sg gf gn := ⟨Nat.zero_le _, Nat.zero_le _⟩
  have hl := lv_entry ([.ref (a 6)]) (n := 1) (Nat.le_of_ble_eq_true rfl)
  rw [lg_entry_eq]
  generalize (lg_sl ([.ref (a 6)]) ++ List.replicate (1 - (lg_sl ([.ref (a 6)])).length) Slot.unset).toArray = ls at hl ⊢
  have hl : lv_has ls 1 [(0, .ref (a 6))] := hl
  have hgc : gC gf gn gf gn 0 0 := gC.rf
  refine lv_aload_n hx hb dX6_makeRoom_0 rfl (lv_at hl 0 rfl) ?_
  refine cg_6_11 hx hb hts inX6_makeRoom_X6 hown hK hP (hts _ lkX6_makeRoom_f47) dX6_makeRoom_1 ?_
  have i_1 := i32r (F 13)
  refine lv_sipush (v := oI 600) hx hb dX6_makeRoom_4 (by decide) ?_
  refine lv_iadd hx hb dX6_makeRoom_7 ?_
  refine tp_i (oI_add ((F 13).toInt) 600) ?_
  refine lv_iconst (v := oI 1) hx hb dX6_makeRoom_8 (by decide) ?_
  refine lv_iadd hx hb dX6_makeRoom_9 ?_
  refine tp_i (oI_add (((F 13).toInt) + 600) 1) ?_
  refine lv_aload_n hx hb dX6_makeRoom_10 rfl (lv_at hl 0 rfl) ?_
  refine cg_6_6 hx hb hts inX6_makeRoom_X6 hown hK hP (hts _ lkX6_makeRoom_f32) dX6_makeRoom_11 ?_
  refine cn_14 hx hb hK hP dX6_makeRoom_14 ?_
  refine ci_le (tgt := 93) hx hb (by omega) (by omega) dX6_makeRoom_15 (by decide) (fun c_2 => ?_) (fun c_2 => ?_)
  · refine W.know (fun hsz htot => ?_)
    have hend := gEnd hgc hsz htot
    refine W.widen (k := cg gf gn) (n := sg gf gn) (Nat.le_trans (Nat.le_add_right _ _) hcs.1) (Nat.le_trans (Nat.le_add_right _ _) hcs.2) ?_
    have hpost : F = F ∧ J = J ∧ gf = gf ∧ (∀ k9, (k9 < 14 ∨ 18 < k9) → X k9 = X k9) ∧ (gn = gn ∨ (gn = 63261 ∧ gn = 3760)) := ⟨rfl, rfl, rfl, fun _ _ => rfl, Or.inl rfl⟩
    exact W.vret hx hb hr (fun t ht hW => ⟨⟨(F, X, J, R, gf, gn), rfl, hpost, ⟨by rw [ht]; exact hP, va_K.moved hW.alike hK, hD⟩, by rw [ht]; exact hend.1, by rw [ht]; exact hend.2.1, hend.2.2⟩, hS.F ht⟩) hS.2.2 dX6_makeRoom_93
  · refine lv_aload_n hx hb dX6_makeRoom_18 rfl (lv_at hl 0 rfl) ?_
    refine cg_6_6 hx hb hts inX6_makeRoom_X6 hown hK hP (hts _ lkX6_makeRoom_f32) dX6_makeRoom_19 ?_
    refine cn_14 hx hb hK hP dX6_makeRoom_22 ?_
    refine lv_ldc (v := 63261) hx hb hown (hts _ lkX6_makeRoom_c99) dX6_makeRoom_23 ?_
    refine tp_i (y := oI 63261) (by decide) ?_
    refine ci_ge (tgt := 93) hx hb (by omega) (by decide) dX6_makeRoom_25 (by decide) (fun c_3 => ?_) (fun c_3 => ?_)
    · refine W.know (fun hsz htot => ?_)
      have hend := gEnd hgc hsz htot
      refine W.widen (k := cg gf gn) (n := sg gf gn) (Nat.le_trans (Nat.le_add_right _ _) hcs.1) (Nat.le_trans (Nat.le_add_right _ _) hcs.2) ?_
      have hpost : F = F ∧ J = J ∧ gf = gf ∧ (∀ k9, (k9 < 14 ∨ 18 < k9) → X k9 = X k9) ∧ (gn = gn ∨ (gn = 63261 ∧ gn = 3760)) := ⟨rfl, rfl, rfl, fun _ _ => rfl, Or.inl rfl⟩
      exact W.vret hx hb hr (fun t ht hW => ⟨⟨(F, X, J, R, gf, gn), rfl, hpost, ⟨by rw [ht]; exact hP, va_K.moved hW.alike hK, hD⟩, by rw [ht]; exact hend.1, by rw [ht]; exact hend.2.1, hend.2.2⟩, hS.F ht⟩) hS.2.2 dX6_makeRoom_93
    · have eg : gn = 3760 := by omega
      subst eg
      have hPL : va_P (dC, dI) vwCl (CW0 cB cC cI cJ cZ a R F X J R gf 3760 ++ []) s.heap := by rw [List.append_nil]; exact hP
      have hDL : va_D A (CW0 cB cC cI cJ cZ a R F X J R gf 3760 ++ []) := by rw [List.append_nil]; exact hD
      have hP : va_P (dC, dI) vwCl (CW0 cB cC cI cJ cZ a R F X J R gf 3760) s.heap := hPL.sub [0, 1, 2, 3, 4, 5, 6, 7, 8, 9, 10, 11, 12, 13, 14, 15, 16, 17, 18, 19, 20, 21, 22, 23, 24, 25, 26, 27, 28, 29, 30, 31, 32, 33, 34, 35, 36, 37, 38, 39, 40] rfl
      refine lv_aload_n hx hb dX6_makeRoom_28 rfl (lv_at hl 0 rfl) ?_
      refine lv_aload_n hx hb dX6_makeRoom_29 rfl (lv_at hl 0 rfl) ?_
      refine cg_6_6 hx hb hts inX6_makeRoom_X6 hown hK hP (hts _ lkX6_makeRoom_f32) dX6_makeRoom_30 ?_
      refine lv_ldc (v := 63261) hx hb hown (hts _ lkX6_makeRoom_c99) dX6_makeRoom_33 ?_
      refine tp_i (y := oI (63261 : Nat)) (by decide) ?_
      refine cc_copy (CW0 cB cC cI cJ cZ a R F X J R gf 3760 ++ []) 26 (R 14) 3760 63261 (X 14) rfl (by decide) (by decide) (rest := [.ref (a 6)]) ⟨hx, hb, hml, hown, hts⟩ (va_cwS 2 hts kX6_makeRoom_J7_copyOf_59c91_100 rfl rfl rfl (by decide +kernel) ⟨Nat.le_of_ble_eq_true rfl, Nat.le_of_ble_eq_true rfl⟩) hK hPL hDL hS hA rfl hl.1 (lv_room (Nat.le_of_ble_eq_true rfl)) dX6_makeRoom_35 ⟨Nat.le_trans (by decide : 0 + 1 ≤ 5) (Nat.le_trans (Nat.le_add_right _ _) (cg_n (gf := gf)).1), Nat.le_trans (by decide : 0 + 63261 ≤ 316305) (Nat.le_trans (Nat.le_add_right _ _) (cg_n (gf := gf)).2)⟩ (fun ra0 H locs hPL hDL hS => ?_)
      have hPL : va_P (dC, dI) vwCl (CW0 cB cC cI cJ cZ a R F X J R gf 3760 ++ [(ra0, .inl (cI, 63261, .inl (va_cpy (X 14) (fun _ => 0) 0 0 3760)))]) H := hPL
      have hDL : va_D A (CW0 cB cC cI cJ cZ a R F X J R gf 3760 ++ [(ra0, .inl (cI, 63261, .inl (va_cpy (X 14) (fun _ => 0) 0 0 3760)))]) := hDL
      refine cpE_6_6 hx hb hts inX6_makeRoom_X6 hown hK hPL hDL hS (hts _ lkX6_makeRoom_f32) dX6_makeRoom_38 (fun H locs hPL hDL hS => ?_)
      have hPL : va_P (dC, dI) vwCl (CW0 cB cC cI cJ cZ a (va_up R 14 ra0) F X J R gf 3760 ++ [(ra0, .inl (cI, 63261, .inl (va_cpy (X 14) (fun _ => 0) 0 0 3760)))]) H := hPL
      have hDL : va_D A (CW0 cB cC cI cJ cZ a (va_up R 14 ra0) F X J R gf 3760 ++ [(ra0, .inl (cI, 63261, .inl (va_cpy (X 14) (fun _ => 0) 0 0 3760)))]) := hDL
      have hP : va_P (dC, dI) vwCl (CW0 cB cC cI cJ cZ a (va_up R 14 ra0) F X J R gf 3760) H := hPL.sub [0, 1, 2, 3, 4, 5, 6, 7, 8, 9, 10, 11, 12, 13, 14, 15, 16, 17, 18, 19, 20, 21, 22, 23, 24, 25, 26, 27, 28, 29, 30, 31, 32, 33, 34, 35, 36, 37, 38, 39, 40] rfl
      refine lv_aload_n hx hb dX6_makeRoom_41 rfl (lv_at hl 0 rfl) ?_
      refine lv_aload_n hx hb dX6_makeRoom_42 rfl (lv_at hl 0 rfl) ?_
      refine cg_6_7 hx hb hts inX6_makeRoom_X6 hown hK hP (hts _ lkX6_makeRoom_f35) dX6_makeRoom_43 ?_
      refine lv_ldc (v := 63261) hx hb hown (hts _ lkX6_makeRoom_c99) dX6_makeRoom_46 ?_
      refine tp_i (y := oI (63261 : Nat)) (by decide) ?_
      refine cc_copy (CW0 cB cC cI cJ cZ a (va_up R 14 ra0) F X J R gf 3760 ++ [(ra0, .inl (cI, 63261, .inl (va_cpy (X 14) (fun _ => 0) 0 0 3760)))]) 27 (R 15) 3760 63261 (X 15) rfl (by decide) (by decide) (rest := [.ref (a 6)]) ⟨hx, hb, hml, hown, hts⟩ (va_cwS 2 hts kX6_makeRoom_J7_copyOf_59c91_100 rfl rfl rfl (by decide +kernel) ⟨Nat.le_of_ble_eq_true rfl, Nat.le_of_ble_eq_true rfl⟩) hK hPL hDL hS hA rfl hl.1 (lv_room (Nat.le_of_ble_eq_true rfl)) dX6_makeRoom_48 ⟨Nat.le_trans (by decide : 0 + 1 + 1 ≤ 5) (Nat.le_trans (Nat.le_add_right _ _) (cg_n (gf := gf)).1), Nat.le_trans (by decide : 0 + 63261 + 63261 ≤ 316305) (Nat.le_trans (Nat.le_add_right _ _) (cg_n (gf := gf)).2)⟩ (fun ra1 H locs hPL hDL hS => ?_)
      have hPL : va_P (dC, dI) vwCl (CW0 cB cC cI cJ cZ a (va_up R 14 ra0) F X J R gf 3760 ++ [(ra0, .inl (cI, 63261, .inl (va_cpy (X 14) (fun _ => 0) 0 0 3760))), (ra1, .inl (cI, 63261, .inl (va_cpy (X 15) (fun _ => 0) 0 0 3760)))]) H := hPL
      have hDL : va_D A (CW0 cB cC cI cJ cZ a (va_up R 14 ra0) F X J R gf 3760 ++ [(ra0, .inl (cI, 63261, .inl (va_cpy (X 14) (fun _ => 0) 0 0 3760))), (ra1, .inl (cI, 63261, .inl (va_cpy (X 15) (fun _ => 0) 0 0 3760)))]) := hDL
      refine cpE_6_7 hx hb hts inX6_makeRoom_X6 hown hK hPL hDL hS (hts _ lkX6_makeRoom_f35) dX6_makeRoom_51 (fun H locs hPL hDL hS => ?_)
      have hPL : va_P (dC, dI) vwCl (CW0 cB cC cI cJ cZ a (va_up (va_up R 14 ra0) 15 ra1) F X J R gf 3760 ++ [(ra0, .inl (cI, 63261, .inl (va_cpy (X 14) (fun _ => 0) 0 0 3760))), (ra1, .inl (cI, 63261, .inl (va_cpy (X 15) (fun _ => 0) 0 0 3760)))]) H := hPL
      have hDL : va_D A (CW0 cB cC cI cJ cZ a (va_up (va_up R 14 ra0) 15 ra1) F X J R gf 3760 ++ [(ra0, .inl (cI, 63261, .inl (va_cpy (X 14) (fun _ => 0) 0 0 3760))), (ra1, .inl (cI, 63261, .inl (va_cpy (X 15) (fun _ => 0) 0 0 3760)))]) := hDL
      have hP : va_P (dC, dI) vwCl (CW0 cB cC cI cJ cZ a (va_up (va_up R 14 ra0) 15 ra1) F X J R gf 3760) H := hPL.sub [0, 1, 2, 3, 4, 5, 6, 7, 8, 9, 10, 11, 12, 13, 14, 15, 16, 17, 18, 19, 20, 21, 22, 23, 24, 25, 26, 27, 28, 29, 30, 31, 32, 33, 34, 35, 36, 37, 38, 39, 40] rfl
      refine lv_aload_n hx hb dX6_makeRoom_54 rfl (lv_at hl 0 rfl) ?_
      refine lv_aload_n hx hb dX6_makeRoom_55 rfl (lv_at hl 0 rfl) ?_
      refine cg_6_8 hx hb hts inX6_makeRoom_X6 hown hK hP (hts _ lkX6_makeRoom_f38) dX6_makeRoom_56 ?_
      refine lv_ldc (v := 63261) hx hb hown (hts _ lkX6_makeRoom_c99) dX6_makeRoom_59 ?_
      refine tp_i (y := oI (63261 : Nat)) (by decide) ?_
      refine cc_copy (CW0 cB cC cI cJ cZ a (va_up (va_up R 14 ra0) 15 ra1) F X J R gf 3760 ++ [(ra0, .inl (cI, 63261, .inl (va_cpy (X 14) (fun _ => 0) 0 0 3760))), (ra1, .inl (cI, 63261, .inl (va_cpy (X 15) (fun _ => 0) 0 0 3760)))]) 28 (R 16) 3760 63261 (X 16) rfl (by decide) (by decide) (rest := [.ref (a 6)]) ⟨hx, hb, hml, hown, hts⟩ (va_cwS 2 hts kX6_makeRoom_J7_copyOf_59c91_100 rfl rfl rfl (by decide +kernel) ⟨Nat.le_of_ble_eq_true rfl, Nat.le_of_ble_eq_true rfl⟩) hK hPL hDL hS hA rfl hl.1 (lv_room (Nat.le_of_ble_eq_true rfl)) dX6_makeRoom_61 ⟨Nat.le_trans (by decide : 0 + 1 + 1 + 1 ≤ 5) (Nat.le_trans (Nat.le_add_right _ _) (cg_n (gf := gf)).1), Nat.le_trans (by decide : 0 + 63261 + 63261 + 63261 ≤ 316305) (Nat.le_trans (Nat.le_add_right _ _) (cg_n (gf := gf)).2)⟩ (fun ra2 H locs hPL hDL hS => ?_)
      have hPL : va_P (dC, dI) vwCl (CW0 cB cC cI cJ cZ a (va_up (va_up R 14 ra0) 15 ra1) F X J R gf 3760 ++ [(ra0, .inl (cI, 63261, .inl (va_cpy (X 14) (fun _ => 0) 0 0 3760))), (ra1, .inl (cI, 63261, .inl (va_cpy (X 15) (fun _ => 0) 0 0 3760))), (ra2, .inl (cI, 63261, .inl (va_cpy (X 16) (fun _ => 0) 0 0 3760)))]) H := hPL
      have hDL : va_D A (CW0 cB cC cI cJ cZ a (va_up (va_up R 14 ra0) 15 ra1) F X J R gf 3760 ++ [(ra0, .inl (cI, 63261, .inl (va_cpy (X 14) (fun _ => 0) 0 0 3760))), (ra1, .inl (cI, 63261, .inl (va_cpy (X 15) (fun _ => 0) 0 0 3760))), (ra2, .inl (cI, 63261, .inl (va_cpy (X 16) (fun _ => 0) 0 0 3760)))]) := hDL
      refine cpE_6_8 hx hb hts inX6_makeRoom_X6 hown hK hPL hDL hS (hts _ lkX6_makeRoom_f38) dX6_makeRoom_64 (fun H locs hPL hDL hS => ?_)
      have hPL : va_P (dC, dI) vwCl (CW0 cB cC cI cJ cZ a (va_up (va_up (va_up R 14 ra0) 15 ra1) 16 ra2) F X J R gf 3760 ++ [(ra0, .inl (cI, 63261, .inl (va_cpy (X 14) (fun _ => 0) 0 0 3760))), (ra1, .inl (cI, 63261, .inl (va_cpy (X 15) (fun _ => 0) 0 0 3760))), (ra2, .inl (cI, 63261, .inl (va_cpy (X 16) (fun _ => 0) 0 0 3760)))]) H := hPL
      have hDL : va_D A (CW0 cB cC cI cJ cZ a (va_up (va_up (va_up R 14 ra0) 15 ra1) 16 ra2) F X J R gf 3760 ++ [(ra0, .inl (cI, 63261, .inl (va_cpy (X 14) (fun _ => 0) 0 0 3760))), (ra1, .inl (cI, 63261, .inl (va_cpy (X 15) (fun _ => 0) 0 0 3760))), (ra2, .inl (cI, 63261, .inl (va_cpy (X 16) (fun _ => 0) 0 0 3760)))]) := hDL
      have hP : va_P (dC, dI) vwCl (CW0 cB cC cI cJ cZ a (va_up (va_up (va_up R 14 ra0) 15 ra1) 16 ra2) F X J R gf 3760) H := hPL.sub [0, 1, 2, 3, 4, 5, 6, 7, 8, 9, 10, 11, 12, 13, 14, 15, 16, 17, 18, 19, 20, 21, 22, 23, 24, 25, 26, 27, 28, 29, 30, 31, 32, 33, 34, 35, 36, 37, 38, 39, 40] rfl
      refine lv_aload_n hx hb dX6_makeRoom_67 rfl (lv_at hl 0 rfl) ?_
      refine lv_aload_n hx hb dX6_makeRoom_68 rfl (lv_at hl 0 rfl) ?_
      refine cg_6_9 hx hb hts inX6_makeRoom_X6 hown hK hP (hts _ lkX6_makeRoom_f41) dX6_makeRoom_69 ?_
      refine lv_ldc (v := 63261) hx hb hown (hts _ lkX6_makeRoom_c99) dX6_makeRoom_72 ?_
      refine tp_i (y := oI (63261 : Nat)) (by decide) ?_
      refine cc_copy (CW0 cB cC cI cJ cZ a (va_up (va_up (va_up R 14 ra0) 15 ra1) 16 ra2) F X J R gf 3760 ++ [(ra0, .inl (cI, 63261, .inl (va_cpy (X 14) (fun _ => 0) 0 0 3760))), (ra1, .inl (cI, 63261, .inl (va_cpy (X 15) (fun _ => 0) 0 0 3760))), (ra2, .inl (cI, 63261, .inl (va_cpy (X 16) (fun _ => 0) 0 0 3760)))]) 29 (R 17) 3760 63261 (X 17) rfl (by decide) (by decide) (rest := [.ref (a 6)]) ⟨hx, hb, hml, hown, hts⟩ (va_cwS 2 hts kX6_makeRoom_J7_copyOf_59c91_100 rfl rfl rfl (by decide +kernel) ⟨Nat.le_of_ble_eq_true rfl, Nat.le_of_ble_eq_true rfl⟩) hK hPL hDL hS hA rfl hl.1 (lv_room (Nat.le_of_ble_eq_true rfl)) dX6_makeRoom_74 ⟨Nat.le_trans (by decide : 0 + 1 + 1 + 1 + 1 ≤ 5) (Nat.le_trans (Nat.le_add_right _ _) (cg_n (gf := gf)).1), Nat.le_trans (by decide : 0 + 63261 + 63261 + 63261 + 63261 ≤ 316305) (Nat.le_trans (Nat.le_add_right _ _) (cg_n (gf := gf)).2)⟩ (fun ra3 H locs hPL hDL hS => ?_)
      have hPL : va_P (dC, dI) vwCl (CW0 cB cC cI cJ cZ a (va_up (va_up (va_up R 14 ra0) 15 ra1) 16 ra2) F X J R gf 3760 ++ [(ra0, .inl (cI, 63261, .inl (va_cpy (X 14) (fun _ => 0) 0 0 3760))), (ra1, .inl (cI, 63261, .inl (va_cpy (X 15) (fun _ => 0) 0 0 3760))), (ra2, .inl (cI, 63261, .inl (va_cpy (X 16) (fun _ => 0) 0 0 3760))), (ra3, .inl (cI, 63261, .inl (va_cpy (X 17) (fun _ => 0) 0 0 3760)))]) H := hPL
      have hDL : va_D A (CW0 cB cC cI cJ cZ a (va_up (va_up (va_up R 14 ra0) 15 ra1) 16 ra2) F X J R gf 3760 ++ [(ra0, .inl (cI, 63261, .inl (va_cpy (X 14) (fun _ => 0) 0 0 3760))), (ra1, .inl (cI, 63261, .inl (va_cpy (X 15) (fun _ => 0) 0 0 3760))), (ra2, .inl (cI, 63261, .inl (va_cpy (X 16) (fun _ => 0) 0 0 3760))), (ra3, .inl (cI, 63261, .inl (va_cpy (X 17) (fun _ => 0) 0 0 3760)))]) := hDL
      refine cpE_6_9 hx hb hts inX6_makeRoom_X6 hown hK hPL hDL hS (hts _ lkX6_makeRoom_f41) dX6_makeRoom_77 (fun H locs hPL hDL hS => ?_)
      have hPL : va_P (dC, dI) vwCl (CW0 cB cC cI cJ cZ a (va_up (va_up (va_up (va_up R 14 ra0) 15 ra1) 16 ra2) 17 ra3) F X J R gf 3760 ++ [(ra0, .inl (cI, 63261, .inl (va_cpy (X 14) (fun _ => 0) 0 0 3760))), (ra1, .inl (cI, 63261, .inl (va_cpy (X 15) (fun _ => 0) 0 0 3760))), (ra2, .inl (cI, 63261, .inl (va_cpy (X 16) (fun _ => 0) 0 0 3760))), (ra3, .inl (cI, 63261, .inl (va_cpy (X 17) (fun _ => 0) 0 0 3760)))]) H := hPL
      have hDL : va_D A (CW0 cB cC cI cJ cZ a (va_up (va_up (va_up (va_up R 14 ra0) 15 ra1) 16 ra2) 17 ra3) F X J R gf 3760 ++ [(ra0, .inl (cI, 63261, .inl (va_cpy (X 14) (fun _ => 0) 0 0 3760))), (ra1, .inl (cI, 63261, .inl (va_cpy (X 15) (fun _ => 0) 0 0 3760))), (ra2, .inl (cI, 63261, .inl (va_cpy (X 16) (fun _ => 0) 0 0 3760))), (ra3, .inl (cI, 63261, .inl (va_cpy (X 17) (fun _ => 0) 0 0 3760)))]) := hDL
      have hP : va_P (dC, dI) vwCl (CW0 cB cC cI cJ cZ a (va_up (va_up (va_up (va_up R 14 ra0) 15 ra1) 16 ra2) 17 ra3) F X J R gf 3760) H := hPL.sub [0, 1, 2, 3, 4, 5, 6, 7, 8, 9, 10, 11, 12, 13, 14, 15, 16, 17, 18, 19, 20, 21, 22, 23, 24, 25, 26, 27, 28, 29, 30, 31, 32, 33, 34, 35, 36, 37, 38, 39, 40] rfl
      refine lv_aload_n hx hb dX6_makeRoom_80 rfl (lv_at hl 0 rfl) ?_
      refine lv_aload_n hx hb dX6_makeRoom_81 rfl (lv_at hl 0 rfl) ?_
      refine cg_6_10 hx hb hts inX6_makeRoom_X6 hown hK hP (hts _ lkX6_makeRoom_f44) dX6_makeRoom_82 ?_
      refine lv_ldc (v := 63261) hx hb hown (hts _ lkX6_makeRoom_c99) dX6_makeRoom_85 ?_
      refine tp_i (y := oI (63261 : Nat)) (by decide) ?_
      refine cc_copy (CW0 cB cC cI cJ cZ a (va_up (va_up (va_up (va_up R 14 ra0) 15 ra1) 16 ra2) 17 ra3) F X J R gf 3760 ++ [(ra0, .inl (cI, 63261, .inl (va_cpy (X 14) (fun _ => 0) 0 0 3760))), (ra1, .inl (cI, 63261, .inl (va_cpy (X 15) (fun _ => 0) 0 0 3760))), (ra2, .inl (cI, 63261, .inl (va_cpy (X 16) (fun _ => 0) 0 0 3760))), (ra3, .inl (cI, 63261, .inl (va_cpy (X 17) (fun _ => 0) 0 0 3760)))]) 30 (R 18) 3760 63261 (X 18) rfl (by decide) (by decide) (rest := [.ref (a 6)]) ⟨hx, hb, hml, hown, hts⟩ (va_cwS 2 hts kX6_makeRoom_J7_copyOf_59c91_100 rfl rfl rfl (by decide +kernel) ⟨Nat.le_of_ble_eq_true rfl, Nat.le_of_ble_eq_true rfl⟩) hK hPL hDL hS hA rfl hl.1 (lv_room (Nat.le_of_ble_eq_true rfl)) dX6_makeRoom_87 ⟨Nat.le_trans (by decide : 0 + 1 + 1 + 1 + 1 + 1 ≤ 5) (Nat.le_trans (Nat.le_add_right _ _) (cg_n (gf := gf)).1), Nat.le_trans (by decide : 0 + 63261 + 63261 + 63261 + 63261 + 63261 ≤ 316305) (Nat.le_trans (Nat.le_add_right _ _) (cg_n (gf := gf)).2)⟩ (fun ra4 H locs hPL hDL hS => ?_)
      have hPL : va_P (dC, dI) vwCl (CW0 cB cC cI cJ cZ a (va_up (va_up (va_up (va_up R 14 ra0) 15 ra1) 16 ra2) 17 ra3) F X J R gf 3760 ++ [(ra0, .inl (cI, 63261, .inl (va_cpy (X 14) (fun _ => 0) 0 0 3760))), (ra1, .inl (cI, 63261, .inl (va_cpy (X 15) (fun _ => 0) 0 0 3760))), (ra2, .inl (cI, 63261, .inl (va_cpy (X 16) (fun _ => 0) 0 0 3760))), (ra3, .inl (cI, 63261, .inl (va_cpy (X 17) (fun _ => 0) 0 0 3760))), (ra4, .inl (cI, 63261, .inl (va_cpy (X 18) (fun _ => 0) 0 0 3760)))]) H := hPL
      have hDL : va_D A (CW0 cB cC cI cJ cZ a (va_up (va_up (va_up (va_up R 14 ra0) 15 ra1) 16 ra2) 17 ra3) F X J R gf 3760 ++ [(ra0, .inl (cI, 63261, .inl (va_cpy (X 14) (fun _ => 0) 0 0 3760))), (ra1, .inl (cI, 63261, .inl (va_cpy (X 15) (fun _ => 0) 0 0 3760))), (ra2, .inl (cI, 63261, .inl (va_cpy (X 16) (fun _ => 0) 0 0 3760))), (ra3, .inl (cI, 63261, .inl (va_cpy (X 17) (fun _ => 0) 0 0 3760))), (ra4, .inl (cI, 63261, .inl (va_cpy (X 18) (fun _ => 0) 0 0 3760)))]) := hDL
      refine cpE_6_10 hx hb hts inX6_makeRoom_X6 hown hK hPL hDL hS (hts _ lkX6_makeRoom_f44) dX6_makeRoom_90 (fun H locs hPL hDL hS => ?_)
      have hPL : va_P (dC, dI) vwCl (CW0 cB cC cI cJ cZ a (va_up (va_up (va_up (va_up (va_up R 14 ra0) 15 ra1) 16 ra2) 17 ra3) 18 ra4) F X J R gf 3760 ++ [(ra0, .inl (cI, 63261, .inl (va_cpy (X 14) (fun _ => 0) 0 0 3760))), (ra1, .inl (cI, 63261, .inl (va_cpy (X 15) (fun _ => 0) 0 0 3760))), (ra2, .inl (cI, 63261, .inl (va_cpy (X 16) (fun _ => 0) 0 0 3760))), (ra3, .inl (cI, 63261, .inl (va_cpy (X 17) (fun _ => 0) 0 0 3760))), (ra4, .inl (cI, 63261, .inl (va_cpy (X 18) (fun _ => 0) 0 0 3760)))]) H := hPL
      have hDL : va_D A (CW0 cB cC cI cJ cZ a (va_up (va_up (va_up (va_up (va_up R 14 ra0) 15 ra1) 16 ra2) 17 ra3) 18 ra4) F X J R gf 3760 ++ [(ra0, .inl (cI, 63261, .inl (va_cpy (X 14) (fun _ => 0) 0 0 3760))), (ra1, .inl (cI, 63261, .inl (va_cpy (X 15) (fun _ => 0) 0 0 3760))), (ra2, .inl (cI, 63261, .inl (va_cpy (X 16) (fun _ => 0) 0 0 3760))), (ra3, .inl (cI, 63261, .inl (va_cpy (X 17) (fun _ => 0) 0 0 3760))), (ra4, .inl (cI, 63261, .inl (va_cpy (X 18) (fun _ => 0) 0 0 3760)))]) := hDL
      have hP : va_P (dC, dI) vwCl (CW cB cC cI cJ cZ a F (va_up (va_up (va_up (va_up (va_up X 14 (va_cpy (X 14) (fun _ => 0) 0 0 3760)) 15 (va_cpy (X 15) (fun _ => 0) 0 0 3760)) 16 (va_cpy (X 16) (fun _ => 0) 0 0 3760)) 17 (va_cpy (X 17) (fun _ => 0) 0 0 3760)) 18 (va_cpy (X 18) (fun _ => 0) 0 0 3760)) J (va_up (va_up (va_up (va_up (va_up R 14 ra0) 15 ra1) 16 ra2) 17 ra3) 18 ra4) gf 63261) H := hPL.sub [0, 1, 2, 3, 4, 5, 6, 7, 8, 9, 10, 11, 12, 13, 14, 15, 16, 17, 18, 19, 20, 21, 22, 23, 24, 25, 41, 42, 43, 44, 45, 31, 32, 33, 34, 35, 36, 37, 38, 39, 40] rfl
      have hD : va_D A (CW cB cC cI cJ cZ a F (va_up (va_up (va_up (va_up (va_up X 14 (va_cpy (X 14) (fun _ => 0) 0 0 3760)) 15 (va_cpy (X 15) (fun _ => 0) 0 0 3760)) 16 (va_cpy (X 16) (fun _ => 0) 0 0 3760)) 17 (va_cpy (X 17) (fun _ => 0) 0 0 3760)) 18 (va_cpy (X 18) (fun _ => 0) 0 0 3760)) J (va_up (va_up (va_up (va_up (va_up R 14 ra0) 15 ra1) 16 ra2) 17 ra3) 18 ra4) gf 63261) := hDL.sub [0, 1, 2, 3, 4, 5, 6, 7, 8, 9, 10, 11, 12, 13, 14, 15, 16, 17, 18, 19, 20, 21, 22, 23, 24, 25, 41, 42, 43, 44, 45, 31, 32, 33, 34, 35, 36, 37, 38, 39, 40] rfl rfl
      have hgc := cg_n (gf := gf)
      have hcs := hgc.cs
      refine W.know (fun hsz htot => ?_)
      have hend := gEnd hgc (H := H) (s := s) (cells := 5) (slots := 316305) hsz htot
      have hpost : F = F ∧ J = J ∧ gf = gf ∧ (∀ k9, (k9 < 14 ∨ 18 < k9) → (va_up (va_up (va_up (va_up (va_up X 14 (va_cpy (X 14) (fun _ => 0) 0 0 3760)) 15 (va_cpy (X 15) (fun _ => 0) 0 0 3760)) 16 (va_cpy (X 16) (fun _ => 0) 0 0 3760)) 17 (va_cpy (X 17) (fun _ => 0) 0 0 3760)) 18 (va_cpy (X 18) (fun _ => 0) 0 0 3760)) k9 = X k9) ∧ (63261 = 3760 ∨ (63261 = 63261 ∧ 3760 = 3760)) := ⟨rfl, rfl, rfl, fun k9 h9 => by unfold va_up; rw [if_neg (by omega), if_neg (by omega), if_neg (by omega), if_neg (by omega), if_neg (by omega)], Or.inr ⟨rfl, rfl⟩⟩
      refine W.widen (k := cg gf 3760) (n := sg gf 3760) (Nat.le_trans (Nat.le_add_right _ _) hcs.1) (Nat.le_trans (Nat.le_add_right _ _) hcs.2) ?_
      exact W.vret hx hb hr (fun t ht hW => ⟨⟨(F, va_up (va_up (va_up (va_up (va_up X 14 (va_cpy (X 14) (fun _ => 0) 0 0 3760)) 15 (va_cpy (X 15) (fun _ => 0) 0 0 3760)) 16 (va_cpy (X 16) (fun _ => 0) 0 0 3760)) 17 (va_cpy (X 17) (fun _ => 0) 0 0 3760)) 18 (va_cpy (X 18) (fun _ => 0) 0 0 3760), J, va_up (va_up (va_up (va_up (va_up R 14 ra0) 15 ra1) 16 ra2) 17 ra3) 18 ra4, gf, 63261), rfl, hpost, ⟨by rw [ht]; exact hP, va_K.moved hW.alike hK, hD⟩, by rw [ht]; exact hend.1, by rw [ht]; exact hend.2.1, hend.2.2⟩, hS.F ht⟩) hS.2.2 dX6_makeRoom_93
