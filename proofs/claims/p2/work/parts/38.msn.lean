def oX12_sayPlain : List Cond := [Cond.fieldLink RX12 32 "MacroScopesModel" "kinds" "[B", Cond.fieldLink RX12 35 "MacroScopesModel" "values" "[I", Cond.methodLink RX12 242 yX12_sayNumber, Cond.instanceMethod yX12_sayNumber, Cond.selects RX12 yX12_sayNumber yX12_sayNumber, Cond.initialized RX12, Cond.methodLink RX12 180 yX12_isName, Cond.instanceMethod yX12_isName, Cond.selects RX12 yX12_isName yX12_isName, Cond.methodLink RX12 184 yX12_rootOf, Cond.instanceMethod yX12_rootOf, Cond.selects RX12 yX12_rootOf yX12_rootOf, Cond.methodLink RX12 245 yX12_saySymbol, Cond.instanceMethod yX12_saySymbol, Cond.selects RX12 yX12_saySymbol yX12_saySymbol, Cond.methodLink RX12 226 yX12_say, Cond.instanceMethod yX12_say, Cond.selects RX12 yX12_say yX12_say, Cond.methodLink RX12 232 yX12_task, Cond.instanceMethod yX12_task, Cond.selects RX12 yX12_task yX12_task, Cond.methodLink RX12 248 yX12_taskParts, Cond.instanceMethod yX12_taskParts, Cond.selects RX12 yX12_taskParts yX12_taskParts]
def vX12_sayPlain : List Cond := .code yX12_sayPlain cX12_sayPlain 2 none :: (oX12_sayPlain ++ (vX12_sayNumber ++ (vX12_isName ++ (vX12_rootOf ++ (vX12_saySymbol ++ (vX12_say ++ (vX12_task ++ (vX12_taskParts ++ (wsX120)))))))))
theorem lkX12_sayPlain_f32 : Cond.fieldLink RX12 32 "MacroScopesModel" "kinds" "[B" ∈ vX12_sayPlain := List.mem_cons_of_mem _ (List.mem_append_left _ (List.mem_of_getElem? (i := 0) rfl))
theorem lkX12_sayPlain_f35 : Cond.fieldLink RX12 35 "MacroScopesModel" "values" "[I" ∈ vX12_sayPlain := List.mem_cons_of_mem _ (List.mem_append_left _ (List.mem_of_getElem? (i := 1) rfl))
theorem inX12_sayPlain : ∀ w ∈ wsX120, w ∈ vX12_sayPlain := fun w h => List.mem_cons_of_mem _ (List.mem_append_right _ (List.mem_append_right _ (List.mem_append_right _ (List.mem_append_right _ (List.mem_append_right _ (List.mem_append_right _ (List.mem_append_right _ (List.mem_append_right _ (h)))))))))
theorem kX12_sayPlain_X12_sayNumber_242 : GoodIn vX12_sayPlain (wsV RX12 242 RX12 yX12_sayNumber vX12_sayNumber) := goodIn_sub (fun w h => (List.mem_append.mp h).elim (fun h => List.mem_cons_of_mem _ (List.mem_append_left _ ((by decide +kernel : ∀ w ∈ ([.methodLink RX12 242 yX12_sayNumber, .instanceMethod yX12_sayNumber, .selects RX12 yX12_sayNumber yX12_sayNumber, .initialized RX12] : List Cond), w ∈ oX12_sayPlain) w h))) (fun h => List.mem_cons_of_mem _ (List.mem_append_right _ (List.mem_append_left _ (h))))) (by decide +kernel)
theorem kX12_sayPlain_X12_isName_180 : GoodIn vX12_sayPlain (wsV RX12 180 RX12 yX12_isName vX12_isName) := goodIn_sub (fun w h => (List.mem_append.mp h).elim (fun h => List.mem_cons_of_mem _ (List.mem_append_left _ ((by decide +kernel : ∀ w ∈ ([.methodLink RX12 180 yX12_isName, .instanceMethod yX12_isName, .selects RX12 yX12_isName yX12_isName, .initialized RX12] : List Cond), w ∈ oX12_sayPlain) w h))) (fun h => List.mem_cons_of_mem _ (List.mem_append_right _ (List.mem_append_right _ (List.mem_append_left _ (h)))))) (by decide +kernel)
theorem kX12_sayPlain_X12_rootOf_184 : GoodIn vX12_sayPlain (wsV RX12 184 RX12 yX12_rootOf vX12_rootOf) := goodIn_sub (fun w h => (List.mem_append.mp h).elim (fun h => List.mem_cons_of_mem _ (List.mem_append_left _ ((by decide +kernel : ∀ w ∈ ([.methodLink RX12 184 yX12_rootOf, .instanceMethod yX12_rootOf, .selects RX12 yX12_rootOf yX12_rootOf, .initialized RX12] : List Cond), w ∈ oX12_sayPlain) w h))) (fun h => List.mem_cons_of_mem _ (List.mem_append_right _ (List.mem_append_right _ (List.mem_append_right _ (List.mem_append_left _ (h))))))) (by decide +kernel)
theorem kX12_sayPlain_X12_saySymbol_245 : GoodIn vX12_sayPlain (wsV RX12 245 RX12 yX12_saySymbol vX12_saySymbol) := goodIn_sub (fun w h => (List.mem_append.mp h).elim (fun h => List.mem_cons_of_mem _ (List.mem_append_left _ ((by decide +kernel : ∀ w ∈ ([.methodLink RX12 245 yX12_saySymbol, .instanceMethod yX12_saySymbol, .selects RX12 yX12_saySymbol yX12_saySymbol, .initialized RX12] : List Cond), w ∈ oX12_sayPlain) w h))) (fun h => List.mem_cons_of_mem _ (List.mem_append_right _ (List.mem_append_right _ (List.mem_append_right _ (List.mem_append_right _ (List.mem_append_left _ (h)))))))) (by decide +kernel)
theorem kX12_sayPlain_X12_say_226 : GoodIn vX12_sayPlain (wsV RX12 226 RX12 yX12_say vX12_say) := goodIn_sub (fun w h => (List.mem_append.mp h).elim (fun h => List.mem_cons_of_mem _ (List.mem_append_left _ ((by decide +kernel : ∀ w ∈ ([.methodLink RX12 226 yX12_say, .instanceMethod yX12_say, .selects RX12 yX12_say yX12_say, .initialized RX12] : List Cond), w ∈ oX12_sayPlain) w h))) (fun h => List.mem_cons_of_mem _ (List.mem_append_right _ (List.mem_append_right _ (List.mem_append_right _ (List.mem_append_right _ (List.mem_append_right _ (List.mem_append_left _ (h))))))))) (by decide +kernel)
theorem kX12_sayPlain_X12_task_232 : GoodIn vX12_sayPlain (wsV RX12 232 RX12 yX12_task vX12_task) := goodIn_sub (fun w h => (List.mem_append.mp h).elim (fun h => List.mem_cons_of_mem _ (List.mem_append_left _ ((by decide +kernel : ∀ w ∈ ([.methodLink RX12 232 yX12_task, .instanceMethod yX12_task, .selects RX12 yX12_task yX12_task, .initialized RX12] : List Cond), w ∈ oX12_sayPlain) w h))) (fun h => List.mem_cons_of_mem _ (List.mem_append_right _ (List.mem_append_right _ (List.mem_append_right _ (List.mem_append_right _ (List.mem_append_right _ (List.mem_append_right _ (List.mem_append_left _ (h)))))))))) (by decide +kernel)
theorem kX12_sayPlain_X12_taskParts_248 : GoodIn vX12_sayPlain (wsV RX12 248 RX12 yX12_taskParts vX12_taskParts) := goodIn_sub (fun w h => (List.mem_append.mp h).elim (fun h => List.mem_cons_of_mem _ (List.mem_append_left _ ((by decide +kernel : ∀ w ∈ ([.methodLink RX12 248 yX12_taskParts, .instanceMethod yX12_taskParts, .selects RX12 yX12_taskParts yX12_taskParts, .initialized RX12] : List Cond), w ∈ oX12_sayPlain) w h))) (fun h => List.mem_cons_of_mem _ (List.mem_append_right _ (List.mem_append_right _ (List.mem_append_right _ (List.mem_append_right _ (List.mem_append_right _ (List.mem_append_right _ (List.mem_append_right _ (List.mem_append_left _ (h))))))))))) (by decide +kernel)
def oX12_sayName : List Cond := [Cond.fieldLink RX12 35 "MacroScopesModel" "values" "[I", Cond.methodLink RX12 252 yX12_meaning, Cond.instanceMethod yX12_meaning, Cond.selects RX12 yX12_meaning yX12_meaning, Cond.initialized RX12, Cond.fieldLink RX12 60 "MacroScopesModel" "variableOf" "[I", Cond.methodLink RX12 255 yX12_need, Cond.instanceMethod yX12_need, Cond.selects RX12 yX12_need yX12_need, Cond.methodLink RX12 226 yX12_say, Cond.instanceMethod yX12_say, Cond.selects RX12 yX12_say yX12_say, Cond.methodLink RX12 242 yX12_sayNumber, Cond.instanceMethod yX12_sayNumber, Cond.selects RX12 yX12_sayNumber yX12_sayNumber, Cond.fieldLink RX12 25 "MacroScopesModel" "defined" "[I", Cond.methodLink RX12 245 yX12_saySymbol, Cond.instanceMethod yX12_saySymbol, Cond.selects RX12 yX12_saySymbol yX12_saySymbol]
def vX12_sayName : List Cond := .code yX12_sayName cX12_sayName 5 none :: (oX12_sayName ++ (vX12_meaning ++ (vX12_need ++ (vX12_say ++ (vX12_sayNumber ++ (vX12_saySymbol ++ (wsX120)))))))
theorem lkX12_sayName_f35 : Cond.fieldLink RX12 35 "MacroScopesModel" "values" "[I" ∈ vX12_sayName := List.mem_cons_of_mem _ (List.mem_append_left _ (List.mem_of_getElem? (i := 0) rfl))
theorem lkX12_sayName_f60 : Cond.fieldLink RX12 60 "MacroScopesModel" "variableOf" "[I" ∈ vX12_sayName := List.mem_cons_of_mem _ (List.mem_append_left _ (List.mem_of_getElem? (i := 5) rfl))
theorem lkX12_sayName_f25 : Cond.fieldLink RX12 25 "MacroScopesModel" "defined" "[I" ∈ vX12_sayName := List.mem_cons_of_mem _ (List.mem_append_left _ (List.mem_of_getElem? (i := 15) rfl))
theorem inX12_sayName : ∀ w ∈ wsX120, w ∈ vX12_sayName := fun w h => List.mem_cons_of_mem _ (List.mem_append_right _ (List.mem_append_right _ (List.mem_append_right _ (List.mem_append_right _ (List.mem_append_right _ (List.mem_append_right _ (h)))))))
theorem kX12_sayName_X12_meaning_252 : GoodIn vX12_sayName (wsV RX12 252 RX12 yX12_meaning vX12_meaning) := goodIn_sub (fun w h => (List.mem_append.mp h).elim (fun h => List.mem_cons_of_mem _ (List.mem_append_left _ ((by decide +kernel : ∀ w ∈ ([.methodLink RX12 252 yX12_meaning, .instanceMethod yX12_meaning, .selects RX12 yX12_meaning yX12_meaning, .initialized RX12] : List Cond), w ∈ oX12_sayName) w h))) (fun h => List.mem_cons_of_mem _ (List.mem_append_right _ (List.mem_append_left _ (h))))) (by decide +kernel)
theorem kX12_sayName_X12_need_255 : GoodIn vX12_sayName (wsV RX12 255 RX12 yX12_need vX12_need) := goodIn_sub (fun w h => (List.mem_append.mp h).elim (fun h => List.mem_cons_of_mem _ (List.mem_append_left _ ((by decide +kernel : ∀ w ∈ ([.methodLink RX12 255 yX12_need, .instanceMethod yX12_need, .selects RX12 yX12_need yX12_need, .initialized RX12] : List Cond), w ∈ oX12_sayName) w h))) (fun h => List.mem_cons_of_mem _ (List.mem_append_right _ (List.mem_append_right _ (List.mem_append_left _ (h)))))) (by decide +kernel)
theorem kX12_sayName_X12_say_226 : GoodIn vX12_sayName (wsV RX12 226 RX12 yX12_say vX12_say) := goodIn_sub (fun w h => (List.mem_append.mp h).elim (fun h => List.mem_cons_of_mem _ (List.mem_append_left _ ((by decide +kernel : ∀ w ∈ ([.methodLink RX12 226 yX12_say, .instanceMethod yX12_say, .selects RX12 yX12_say yX12_say, .initialized RX12] : List Cond), w ∈ oX12_sayName) w h))) (fun h => List.mem_cons_of_mem _ (List.mem_append_right _ (List.mem_append_right _ (List.mem_append_right _ (List.mem_append_left _ (h))))))) (by decide +kernel)
theorem kX12_sayName_X12_sayNumber_242 : GoodIn vX12_sayName (wsV RX12 242 RX12 yX12_sayNumber vX12_sayNumber) := goodIn_sub (fun w h => (List.mem_append.mp h).elim (fun h => List.mem_cons_of_mem _ (List.mem_append_left _ ((by decide +kernel : ∀ w ∈ ([.methodLink RX12 242 yX12_sayNumber, .instanceMethod yX12_sayNumber, .selects RX12 yX12_sayNumber yX12_sayNumber, .initialized RX12] : List Cond), w ∈ oX12_sayName) w h))) (fun h => List.mem_cons_of_mem _ (List.mem_append_right _ (List.mem_append_right _ (List.mem_append_right _ (List.mem_append_right _ (List.mem_append_left _ (h)))))))) (by decide +kernel)
theorem kX12_sayName_X12_saySymbol_245 : GoodIn vX12_sayName (wsV RX12 245 RX12 yX12_saySymbol vX12_saySymbol) := goodIn_sub (fun w h => (List.mem_append.mp h).elim (fun h => List.mem_cons_of_mem _ (List.mem_append_left _ ((by decide +kernel : ∀ w ∈ ([.methodLink RX12 245 yX12_saySymbol, .instanceMethod yX12_saySymbol, .selects RX12 yX12_saySymbol yX12_saySymbol, .initialized RX12] : List Cond), w ∈ oX12_sayName) w h))) (fun h => List.mem_cons_of_mem _ (List.mem_append_right _ (List.mem_append_right _ (List.mem_append_right _ (List.mem_append_right _ (List.mem_append_right _ (List.mem_append_left _ (h))))))))) (by decide +kernel)
set_option maxHeartbeats 4000000 in
set_option maxRecDepth 100000 in
/-- sayPlain -/
theorem m_sayPlain (l : Launch) (dC : Nat → ClassId) (dI : Nat → Nat → Nat) (cB cC cI cJ cZ : ClassId) (z0 : Nat) (R : Nat → Nat) (pl : Int32) (N : Nat → Nat) (G : Nat → Nat → Nat) (B : Nat → Nat → Int32) (f w x : Nat) (sz az : Nat → Nat) (hxi : XI N G sz az) (htk : TSK N G sz w) (hbu : BUD N (w + (3 * sz f - 1)) x) (h33 : N 33 = 0) (hf : f < N 14) (s0 : Nat) : Met l yX12_sayPlain vX12_sayPlain { frames := 2, cells := 0, slots := 0, locals := 50 } (va_Pc [.ref z0, .int (nI f)] (mPre dC dI cB cC cI cJ cZ z0 R pl N G B s0)) (va_Qv (fun u : ((Nat → Nat) × (Nat → Nat → Nat) × (Nat → Nat → Int32) × Int32) => match u with | (N1, G1, B1, pl1) => pl1 = pl ∧ XPOST N G B sz x N1 G1 B1) (mPost dC dI cB cC cI cJ cZ z0 R (va_A (MW cB cC cI cJ cZ z0 R pl N G B) s0)) (va_A (MW cB cC cI cJ cZ z0 R pl N G B) s0)) 0 0 (va_A (MW cB cC cI cJ cZ z0 R pl N G B) s0) := by
  refine Met.ofW (cc := cX12_sayPlain) (maxL := 2) (ret := none) (by decide) rfl ?_
  intro p e s m args below meth c s₁ B9 hml hv
  obtain ⟨rfl, hsz, hP, hK, hD0⟩ := hv
  have hx := B9.exec
  have hb := B9.bytes
  have hr := B9.returns
  have hts := atoms_spec (ws := vX12_sayPlain) B9.pre
  have hown : s.vm.findClass RX12 = some m.cls := findClass_of_methodNamed B9.named
  have hlocks := B9.notSynchronized
  subst hsz
  have hD := hD0.self (sz := s.heap.size)
  generalize hAe : va_A (MW cB cC cI cJ cZ z0 R pl N G B) s.heap.size = A at hD ⊢
  have hA : ∀ q : Nat, s.heap.size ≤ q → A q := fun q h => by rw [← hAe]; exact Or.inr h
  have hS : va_S A s.heap s.heap [] := va_S.rf
  have hcs : 0 + 0 ≤ (0 : Nat) ∧ 0 + 0 ≤ (0 : Nat) := ⟨Nat.le_refl 0, Nat.le_refl 0⟩
  have hl := lv_entry ([.ref z0, .int (nI f)]) (n := 2) (Nat.le_of_ble_eq_true rfl)
  rw [lg_entry_eq]
  generalize (lg_sl ([.ref z0, .int (nI f)]) ++ List.replicate (2 - (lg_sl ([.ref z0, .int (nI f)])).length) Slot.unset).toArray = ls at hl ⊢
  have hl : lv_has ls 2 [(0, .ref z0), (1, .int (nI f))] := hl
  have hrun : RUN N G B sz N G B az w 0 := RUN.start hxi htk h33
  have hnum := hrun.num hbu (by omega) (by omega)
  have hG2 := hrun.1.1.1
  have htr := hrun.1.1.2.2.1
  have hal2 := hrun.1.1.2.1
  have n14 := hrun.2.2.2.2.2.2.2.1
  have n23 := hrun.2.2.2.2.2.2.2.2
  have n33 := hrun.2.2.2.2.2.1
  have hb1 : w + (3 * sz f - 1) ≤ 190000 := by have := hbu.1; omega
  have ht9 := hxi.1.2.2.1
  have u6 := ht9.1
  have u1 := ht9.one hf
  have hG := hxi.1.1
  have g1 := hG 10 f
  have hlt := hxi.2.2.2.2.1
  have hf8 : f < 90000 := by omega
  refine lv_aload_n hx hb dX12_sayPlain_0 rfl (lv_at hl 0 rfl) ?_
  refine mg_10 hx hb hts inX12_sayPlain hown hK hP (hts _ lkX12_sayPlain_f32) dX12_sayPlain_1 ?_
  refine lv_iload_n hx hb dX12_sayPlain_4 rfl (lv_at hl 1 rfl) ?_
  refine ml_10 hx hb hK hP (by omega) dX12_sayPlain_5 ?_
  refine bz_ne (tgt := 22) hx hb (by first | omega | exact Nat.lt_of_lt_of_le (hG _ _) (by decide)) dX12_sayPlain_6 (by decide) (fun c1 => ?_) (fun c1 => ?_)
  · refine lv_aload_n hx hb dX12_sayPlain_22 rfl (lv_at hl 0 rfl) ?_
    refine lv_iload_n hx hb dX12_sayPlain_23 rfl (lv_at hl 1 rfl) ?_
    refine mcl_i (As := [.int (nI f)]) (rest := []) ⟨hx, hb, hml, hown, hts⟩ (m_isName l dC dI cB cC cI cJ cZ z0 R pl N G B f hG2 (by omega) s.heap.size) (cwV 1 hts kX12_sayPlain_X12_isName_180 rfl rfl rfl (by decide +kernel) ⟨Nat.le_of_ble_eq_true rfl, Nat.le_of_ble_eq_true rfl⟩) hK hP hD hS hA rfl rfl hl.1 (lv_room (Nat.le_of_ble_eq_true rfl)) dX12_sayPlain_24 hcs (fun r_11 N_7 G_8 B_9 pl_10 hw H locs hP hD hS => ?_)
    dsimp only at hw
    obtain ⟨e1, e2, e3, e4, hw⟩ := hw
    rw [e1, e2, e3, e4] at hP hD
    have hw : r_11 = nI (if G 10 f = 1 then 1 else 0) := hw
    by_cases c_6 : G 10 f = 1
    · rw [if_pos c_6] at hw
      subst hw
      have hnm := (ht9.2 f hf).2.2.2.1 c_6
      have hal := hxi.1.2.1
      have hro := ROOT_lt2 hal _ _ (Nat.lt_succ_self _) hnm
      have h6 := hal.1
      have hls := hlt.2.2.2 (ROOT G (G 11 f) + 1) (by omega)
      refine bz_eq (tgt := 47) hx hb (by first | omega | exact Nat.lt_of_lt_of_le (hG _ _) (by decide)) dX12_sayPlain_27 (by decide) (fun q9 => absurd q9 (by omega)) (fun c => ?_)
      refine lv_aload_n hx hb dX12_sayPlain_30 rfl (lv_at hl 0 rfl) ?_
      refine lv_aload_n hx hb dX12_sayPlain_31 rfl (lv_at hl 0 rfl) ?_
      refine lv_aload_n hx hb dX12_sayPlain_32 rfl (lv_at hl 0 rfl) ?_
      refine mg_11 hx hb hts inX12_sayPlain hown hK hP (hts _ lkX12_sayPlain_f35) dX12_sayPlain_33 ?_
      refine lv_iload_n hx hb dX12_sayPlain_36 rfl (lv_at hl 1 rfl) ?_
      refine ml_11 hx hb hK hP (by omega) dX12_sayPlain_37 ?_
      refine mcl_i (As := [.int (nI (G 11 f))]) (rest := [.ref z0]) ⟨hx, hb, hml, hown, hts⟩ (m_rootOf l dC dI cB cC cI cJ cZ z0 R pl N G B (G 11 f) hG2 hal hnm H.size) (cwV 1 hts kX12_sayPlain_X12_rootOf_184 rfl rfl rfl (by decide +kernel) ⟨Nat.le_of_ble_eq_true rfl, Nat.le_of_ble_eq_true rfl⟩) hK hP hD hS hA rfl rfl hl.1 (lv_room (Nat.le_of_ble_eq_true rfl)) dX12_sayPlain_38 hcs (fun r_16 N_12 G_13 B_14 pl_15 hw H locs hP hD hS => ?_)
      dsimp only at hw
      obtain ⟨e1, e2, e3, e4, hw⟩ := hw
      rw [e1, e2, e3, e4] at hP hD
      subst hw
      refine mcl_v (As := [.int (nI (ROOT G (G 11 f)))]) (rest := []) ⟨hx, hb, hml, hown, hts⟩ (m_saySymbol l dC dI cB cC cI cJ cZ z0 R pl N G B (ROOT G (G 11 f)) hG2 (by omega) (hls) (by omega) H.size) (cwV 1 hts kX12_sayPlain_X12_saySymbol_245 rfl rfl rfl (by decide +kernel) ⟨Nat.le_of_ble_eq_true rfl, Nat.le_of_ble_eq_true rfl⟩) hK hP hD hS hA rfl rfl hl.1 (lv_room (Nat.le_of_ble_eq_true rfl)) dX12_sayPlain_41 hcs (fun  N_17 G_18 B_19 pl_20 hw H locs hP hD hS => ?_)
      dsimp only at hw
      obtain ⟨e2, e4, n9, X, hn9, e1, e3⟩ := hw
      have hrun : RUN N G B sz N_17 G B_19 az w 4200 := by rw [e1, e3]; exact hrun.say n9 X (by omega)
      rw [e2, e4] at hP hD
      have hnum := hrun.num hbu (by omega) (by omega)
      have hG2 := hrun.1.1.1
      have htr := hrun.1.1.2.2.1
      have hal2 := hrun.1.1.2.1
      have n14 := hrun.2.2.2.2.2.2.2.1
      have n23 := hrun.2.2.2.2.2.2.2.2
      have n33 := hrun.2.2.2.2.2.1
      refine lv_goto (tgt := 71) hx hb dX12_sayPlain_44 (by decide) ?_
      exact W.vret hx hb hr (fun t ht hW => ⟨⟨(N_17, G, B_19, pl), rfl, ⟨rfl, hrun.post hbu (by omega) (by decide)⟩, by rw [ht]; exact hP, va_K.moved hW.alike hK, hD⟩, hS.F ht⟩) hS.2.2 dX12_sayPlain_71
    · rw [if_neg c_6] at hw
      subst hw
      refine bz_eq (tgt := 47) hx hb (by first | omega | exact Nat.lt_of_lt_of_le (hG _ _) (by decide)) dX12_sayPlain_27 (by decide) (fun c => ?_) (fun q9 => absurd q9 (by omega))
      refine lv_aload_n hx hb dX12_sayPlain_47 rfl (lv_at hl 0 rfl) ?_
      refine lv_bipush (v := nI 40) hx hb dX12_sayPlain_48 (by decide) ?_
      refine mcl_v (As := [.int (nI 40)]) (rest := []) ⟨hx, hb, hml, hown, hts⟩ (m_say l dC dI cB cC cI cJ cZ z0 R pl N G B ((nI 40)) (by omega) H.size) (cwV 1 hts kX12_sayPlain_X12_say_226 rfl rfl rfl (by decide +kernel) ⟨Nat.le_of_ble_eq_true rfl, Nat.le_of_ble_eq_true rfl⟩) hK hP hD hS hA rfl rfl hl.1 (lv_room (Nat.le_of_ble_eq_true rfl)) dX12_sayPlain_50 hcs (fun  N_22 G_23 B_24 pl_25 hw H locs hP hD hS => ?_)
      dsimp only at hw
      obtain ⟨e2, e4, e1, X, e3⟩ := hw
      have hrun : RUN N G B sz N_22 G B_24 az w 1 := by rw [e1, e3]; exact hrun.say 1 X (by omega)
      rw [e2, e4] at hP hD
      have hnum := hrun.num hbu (by omega) (by omega)
      have hG2 := hrun.1.1.1
      have htr := hrun.1.1.2.2.1
      have hal2 := hrun.1.1.2.1
      have n14 := hrun.2.2.2.2.2.2.2.1
      have n23 := hrun.2.2.2.2.2.2.2.2
      have n33 := hrun.2.2.2.2.2.1
      refine lv_aload_n hx hb dX12_sayPlain_53 rfl (lv_at hl 0 rfl) ?_
      refine lv_iconst (v := nI 2) hx hb dX12_sayPlain_54 (by decide) ?_
      refine lv_bipush (v := nI 41) hx hb dX12_sayPlain_55 (by decide) ?_
      refine lv_iconst (v := nI 0) hx hb dX12_sayPlain_57 (by decide) ?_
      refine lv_iconst (v := nI 0) hx hb dX12_sayPlain_58 (by decide) ?_
      refine mcl_v (As := [.int (nI 2), .int (nI 41), .int (nI 0), .int (nI 0)]) (rest := []) ⟨hx, hb, hml, hown, hts⟩ (m_task l dC dI cB cC cI cJ cZ z0 R pl N_22 G B_24 2 41 0 0 (by decide) (by omega) H.size) (cwV 4 hts kX12_sayPlain_X12_task_232 rfl rfl rfl (by decide +kernel) ⟨Nat.le_of_ble_eq_true rfl, Nat.le_of_ble_eq_true rfl⟩) hK hP hD hS hA rfl rfl hl.1 (lv_room (Nat.le_of_ble_eq_true rfl)) dX12_sayPlain_59 hcs (fun  N_27 G_28 B_29 pl_30 hw H locs hP hD hS => ?_)
      dsimp only at hw
      obtain ⟨e3, e4, e1, e2⟩ := hw
      have hrun : RUN N G B sz N_27 G_28 B_24 az (w + 1) 1 := by rw [e1, e2]; exact hrun.task (by decide) (fun z => absurd rfl z) (fun z => absurd z (by decide)) (by omega) (by omega) (by omega) (by rw [if_pos rfl]; omega)
      rw [e3, e4] at hP hD
      have hnum := hrun.num hbu (by omega) (by omega)
      have hG2 := hrun.1.1.1
      have htr := hrun.1.1.2.2.1
      have hal2 := hrun.1.1.2.1
      have n14 := hrun.2.2.2.2.2.2.2.1
      have n23 := hrun.2.2.2.2.2.2.2.2
      have n33 := hrun.2.2.2.2.2.1
      refine lv_aload_n hx hb dX12_sayPlain_62 rfl (lv_at hl 0 rfl) ?_
      refine lv_iconst (v := nI 1) hx hb dX12_sayPlain_63 (by decide) ?_
      refine lv_iload_n hx hb dX12_sayPlain_64 rfl (lv_at hl 1 rfl) ?_
      refine lv_iconst (v := nI 0) hx hb dX12_sayPlain_65 (by decide) ?_
      refine lv_iconst (v := nI 0) hx hb dX12_sayPlain_66 (by decide) ?_
      refine lv_iconst (v := nI 0) hx hb dX12_sayPlain_67 (by decide) ?_
      refine mcl_v (As := [.int (nI 1), .int (nI f), .int (nI 0), .int (nI 0), .int (nI 0)]) (rest := []) ⟨hx, hb, hml, hown, hts⟩ (m_taskParts l dC dI cB cC cI cJ cZ z0 R pl N_27 G_28 B_24 1 f 0 0 0 (w + 1) sz hG2 htr hrun.2.1 (by omega) (by omega) (by decide) (fun z => absurd z (by decide)) (by omega) (by omega) (by omega) H.size) (cwV 5 hts kX12_sayPlain_X12_taskParts_248 rfl rfl rfl (by decide +kernel) ⟨Nat.le_of_ble_eq_true rfl, Nat.le_of_ble_eq_true rfl⟩) hK hP hD hS hA rfl rfl hl.1 (lv_room (Nat.le_of_ble_eq_true rfl)) dX12_sayPlain_68 hcs (fun  N_32 G_33 B_34 pl_35 hw H locs hP hD hS => ?_)
      dsimp only at hw
      obtain ⟨e3, e4, q9, w_37, e1, hg9, hk9, ht9, hw9⟩ := hw
      have hrun : RUN N G B sz N_32 G_33 B_24 az w_37 1 := by rw [e1] at ht9 ⊢; exact hrun.parts hg9 hk9 ht9
      rw [e3, e4] at hP hD
      have hnum := hrun.num hbu (by omega) (by omega)
      have hG2 := hrun.1.1.1
      have htr := hrun.1.1.2.2.1
      have hal2 := hrun.1.1.2.1
      have n14 := hrun.2.2.2.2.2.2.2.1
      have n23 := hrun.2.2.2.2.2.2.2.2
      have n33 := hrun.2.2.2.2.2.1
      exact W.vret hx hb hr (fun t ht hW => ⟨⟨(N_32, G_33, B_24, pl), rfl, ⟨rfl, hrun.post hbu (by omega) (by decide)⟩, by rw [ht]; exact hP, va_K.moved hW.alike hK, hD⟩, hS.F ht⟩) hS.2.2 dX12_sayPlain_71
  · refine lv_aload_n hx hb dX12_sayPlain_9 rfl (lv_at hl 0 rfl) ?_
    refine lv_aload_n hx hb dX12_sayPlain_10 rfl (lv_at hl 0 rfl) ?_
    refine mg_11 hx hb hts inX12_sayPlain hown hK hP (hts _ lkX12_sayPlain_f35) dX12_sayPlain_11 ?_
    refine lv_iload_n hx hb dX12_sayPlain_14 rfl (lv_at hl 1 rfl) ?_
    refine ml_11 hx hb hK hP (by omega) dX12_sayPlain_15 ?_
    refine mcl_v (As := [.int (nI (G 11 f))]) (rest := []) ⟨hx, hb, hml, hown, hts⟩ (m_sayNumber l dC dI cB cC cI cJ cZ z0 R pl N G B (G 11 f) (hG 11 f) (by omega) s.heap.size) (cwV 1 hts kX12_sayPlain_X12_sayNumber_242 rfl rfl rfl (by decide +kernel) ⟨Nat.le_of_ble_eq_true rfl, Nat.le_of_ble_eq_true rfl⟩) hK hP hD hS hA rfl rfl hl.1 (lv_room (Nat.le_of_ble_eq_true rfl)) dX12_sayPlain_16 hcs (fun  N_1 G_2 B_3 pl_4 hw H locs hP hD hS => ?_)
    dsimp only at hw
    obtain ⟨e2, e4, n9, X, hn9, e1, e3⟩ := hw
    have hrun : RUN N G B sz N_1 G B_3 az w 8 := by rw [e1, e3]; exact hrun.say n9 X (by omega)
    rw [e2, e4] at hP hD
    have hnum := hrun.num hbu (by omega) (by omega)
    have hG2 := hrun.1.1.1
    have htr := hrun.1.1.2.2.1
    have hal2 := hrun.1.1.2.1
    have n14 := hrun.2.2.2.2.2.2.2.1
    have n23 := hrun.2.2.2.2.2.2.2.2
    have n33 := hrun.2.2.2.2.2.1
    refine lv_goto (tgt := 71) hx hb dX12_sayPlain_19 (by decide) ?_
    exact W.vret hx hb hr (fun t ht hW => ⟨⟨(N_1, G, B_3, pl), rfl, ⟨rfl, hrun.post hbu (by omega) (by decide)⟩, by rw [ht]; exact hP, va_K.moved hW.alike hK, hD⟩, hS.F ht⟩) hS.2.2 dX12_sayPlain_71

theorem mneg {n : Nat} (h : n < 2 ^ 30) : (nI 0 - 1) - nI n < 0 := by
  rw [Int32.lt_iff_toInt_lt, show (nI 0 - 1 : Int32) = -1 by decide, Int32.toInt_sub, nI_toInt (by omega), show (-1 : Int32).toInt = -1 by decide, Int.bmod_eq_of_le (by omega) (by omega)]
  show _ < (0 : Int)
  omega
theorem mback {n : Nat} : (nI 0 - 1) - ((nI 0 - 1) - nI n) = nI n := by
  rw [Int32.sub_eq_add_neg (nI 0 - 1), Int32.neg_sub, Int32.add_comm, Int32.sub_add_cancel]
set_option maxHeartbeats 4000000 in
set_option maxRecDepth 100000 in
/-- sayName -/
theorem m_sayName (l : Launch) (dC : Nat → ClassId) (dI : Nat → Nat → Nat) (cB cC cI cJ cZ : ClassId) (z0 : Nat) (R : Nat → Nat) (pl : Int32) (N : Nat → Nat) (G : Nat → Nat → Nat) (B : Nat → Nat → Int32) (f en w w0 x : Nat) (sz az : Nat → Nat) (hxi : XI N G sz az) (htk : TSK N G sz w) (hbu : BUD N w0 x) (hwW : w + 1 ≤ w0) (h33 : N 33 = 0) (hf : f < N 14) (h10 : G 10 f = 1) (hen : en < N 23) (s0 : Nat) : Met l yX12_sayName vX12_sayName { frames := 2, cells := 0, slots := 0, locals := 44 } (va_Pc [.ref z0, .int (nI f), .int (nI en)] (mPre dC dI cB cC cI cJ cZ z0 R pl N G B s0)) (va_Qv (fun u : ((Nat → Nat) × (Nat → Nat → Nat) × (Nat → Nat → Int32) × Int32) => match u with | (N1, G1, B1, pl1) => pl1 = pl ∧ XPOST N G B sz x N1 G1 B1) (mPost dC dI cB cC cI cJ cZ z0 R (va_A (MW cB cC cI cJ cZ z0 R pl N G B) s0)) (va_A (MW cB cC cI cJ cZ z0 R pl N G B) s0)) 0 0 (va_A (MW cB cC cI cJ cZ z0 R pl N G B) s0) := by
  refine Met.ofW (cc := cX12_sayName) (maxL := 5) (ret := none) (by decide) rfl ?_
  intro p e s m args below meth c s₁ B9 hml hv
  obtain ⟨rfl, hsz, hP, hK, hD0⟩ := hv
  have hx := B9.exec
  have hb := B9.bytes
  have hr := B9.returns
  have hts := atoms_spec (ws := vX12_sayName) B9.pre
  have hown : s.vm.findClass RX12 = some m.cls := findClass_of_methodNamed B9.named
  have hlocks := B9.notSynchronized
  subst hsz
  have hD := hD0.self (sz := s.heap.size)
  generalize hAe : va_A (MW cB cC cI cJ cZ z0 R pl N G B) s.heap.size = A at hD ⊢
  have hA : ∀ q : Nat, s.heap.size ≤ q → A q := fun q h => by rw [← hAe]; exact Or.inr h
  have hS : va_S A s.heap s.heap [] := va_S.rf
  have hcs : 0 + 0 ≤ (0 : Nat) ∧ 0 + 0 ≤ (0 : Nat) := ⟨Nat.le_refl 0, Nat.le_refl 0⟩
  have hl := lv_entry ([.ref z0, .int (nI f), .int (nI en)]) (n := 5) (Nat.le_of_ble_eq_true rfl)
  rw [lg_entry_eq]
  generalize (lg_sl ([.ref z0, .int (nI f), .int (nI en)]) ++ List.replicate (5 - (lg_sl ([.ref z0, .int (nI f), .int (nI en)])).length) Slot.unset).toArray = ls at hl ⊢
  have hl : lv_has ls 5 [(0, .ref z0), (1, .int (nI f)), (2, .int (nI en))] := hl
  have hrun : RUN N G B sz N G B az w 0 := RUN.start hxi htk h33
  have hnum := hrun.num hbu (by omega) (by omega)
  have hG2 := hrun.1.1.1
  have htr := hrun.1.1.2.2.1
  have hal2 := hrun.1.1.2.1
  have n14 := hrun.2.2.2.2.2.2.2.1
  have n23 := hrun.2.2.2.2.2.2.2.2
  have n33 := hrun.2.2.2.2.2.1
  have ht9 := hxi.1.2.2.1
  have u6 := ht9.1
  have hG := hxi.1.1
  have hlt := hxi.2.2.2.2.1
  have hev := hxi.2.2.2.1
  have h27 := hev.2.2.1
  have hnm := (ht9.2 f hf).2.2.2.1 h10
  have hal := hxi.1.2.1
  have h6 := hal.1
  refine lv_aload_n hx hb dX12_sayName_0 rfl (lv_at hl 0 rfl) ?_
  refine lv_aload_n hx hb dX12_sayName_1 rfl (lv_at hl 0 rfl) ?_
  refine mg_11 hx hb hts inX12_sayName hown hK hP (hts _ lkX12_sayName_f35) dX12_sayName_2 ?_
  refine lv_iload_n hx hb dX12_sayName_5 rfl (lv_at hl 1 rfl) ?_
  refine ml_11 hx hb hK hP (by omega) dX12_sayName_6 ?_
  refine lv_iload_n hx hb dX12_sayName_7 rfl (lv_at hl 2 rfl) ?_
  refine mcl_i (As := [.int (nI (G 11 f)), .int (nI en)]) (rest := []) ⟨hx, hb, hml, hown, hts⟩ (m_meaning l dC dI cB cC cI cJ cZ z0 R pl N G B (G 11 f) en hG2 hal hev hnm hen s.heap.size) (cwV 2 hts kX12_sayName_X12_meaning_252 rfl rfl rfl (by decide +kernel) ⟨Nat.le_of_ble_eq_true rfl, Nat.le_of_ble_eq_true rfl⟩) hK hP hD hS hA rfl rfl hl.1 (lv_room (Nat.le_of_ble_eq_true rfl)) dX12_sayName_8 hcs (fun r_5 N_1 G_2 B_3 pl_4 hw H locs hP hD hS => ?_)
  dsimp only at hw
  obtain ⟨e1, e2, e3, e4, hw⟩ := hw
  rw [e1, e2, e3, e4] at hP hD
  rcases hw with ⟨b9, hb9, hw⟩ | ⟨n8, hn8, hw⟩
  · subst hw
    have g25 := hG 25 b9
    refine lv_istore_n (lv' := [(3, .int (nI b9)), (0, .ref z0), (1, .int (nI f)), (2, .int (nI en))]) hx hb dX12_sayName_11 rfl hl (by decide) rfl (fun ls hl => ?_)
    refine lv_iload_n hx hb dX12_sayName_12 rfl (lv_at hl 0 rfl) ?_
    refine bz_lt (tgt := 55) hx hb (by omega) dX12_sayName_13 (by decide) (fun z => z.elim) (fun _ => ?_)
    refine lv_aload_n hx hb dX12_sayName_16 rfl (lv_at hl 1 rfl) ?_
    refine lv_aload_n hx hb dX12_sayName_17 rfl (lv_at hl 1 rfl) ?_
    refine mg_25 hx hb hts inX12_sayName hown hK hP (hts _ lkX12_sayName_f60) dX12_sayName_18 ?_
    refine lv_iload_n hx hb dX12_sayName_21 rfl (lv_at hl 0 rfl) ?_
    refine ml_25 hx hb hK hP (by omega) dX12_sayName_22 ?_
    refine bo_lt (tgt := 30) hx hb (by first | omega | exact Nat.lt_of_lt_of_le (hG _ _) (by decide)) dX12_sayName_23 (by decide) (fun c1 => ?_) (fun c1 => ?_)
    · refine lv_iconst (v := nI 0) hx hb dX12_sayName_30 (by decide) ?_
      refine lv_iconst (v := nI 4) hx hb dX12_sayName_31 (by decide) ?_
      refine mcl_i (As := [.int (nI 0), .int (nI 4)]) (rest := []) ⟨hx, hb, hml, hown, hts⟩ (m_need l dC dI cB cC cI cJ cZ z0 R pl N G B 0 4 (by decide) ⟨by decide, by decide⟩ n33 H.size) (cwV 2 hts kX12_sayName_X12_need_255 rfl rfl rfl (by decide +kernel) ⟨Nat.le_of_ble_eq_true rfl, Nat.le_of_ble_eq_true rfl⟩) hK hP hD hS hA rfl rfl hl.1 (lv_room (Nat.le_of_ble_eq_true rfl)) dX12_sayName_32 hcs (fun r_10 N_6 G_7 B_8 pl_9 hw H locs hP hD hS => ?_)
      dsimp only at hw
      obtain ⟨e3, e4, e2, hw, e5, e6⟩ := hw
      rw [e6 rfl, e2, e3, e4] at hP hD
      subst hw
      refine bz_eq (tgt := 54) hx hb (by first | omega | exact Nat.lt_of_lt_of_le (hG _ _) (by decide)) dX12_sayName_35 (by decide) (fun c => ?_) (fun q9 => absurd q9 (by omega))
      exact W.vret hx hb hr (fun t ht hW => ⟨⟨(va_up N 33 4, G, B, pl), rfl, ⟨rfl, hrun.fail hbu (by omega) (Or.inl rfl) (by decide) (by decide)⟩, by rw [ht]; exact hP, va_K.moved hW.alike hK, hD⟩, hS.F ht⟩) hS.2.2 dX12_sayName_54
    · refine lv_iconst (v := nI 1) hx hb dX12_sayName_26 (by decide) ?_
      refine lv_goto (tgt := 31) hx hb dX12_sayName_27 (by decide) ?_
      refine lv_iconst (v := nI 4) hx hb dX12_sayName_31 (by decide) ?_
      refine mcl_i (As := [.int (nI 1), .int (nI 4)]) (rest := []) ⟨hx, hb, hml, hown, hts⟩ (m_need l dC dI cB cC cI cJ cZ z0 R pl N G B 1 4 (by decide) ⟨by decide, by decide⟩ n33 H.size) (cwV 2 hts kX12_sayName_X12_need_255 rfl rfl rfl (by decide +kernel) ⟨Nat.le_of_ble_eq_true rfl, Nat.le_of_ble_eq_true rfl⟩) hK hP hD hS hA rfl rfl hl.1 (lv_room (Nat.le_of_ble_eq_true rfl)) dX12_sayName_32 hcs (fun r_15 N_11 G_12 B_13 pl_14 hw H locs hP hD hS => ?_)
      dsimp only at hw
      obtain ⟨e3, e4, e2, hw, e5, e6⟩ := hw
      rw [e5 rfl, e2, e3, e4] at hP hD
      subst hw
      refine bz_eq (tgt := 54) hx hb (by first | omega | exact Nat.lt_of_lt_of_le (hG _ _) (by decide)) dX12_sayName_35 (by decide) (fun q9 => absurd q9 (by omega)) (fun c => ?_)
      refine lv_aload_n hx hb dX12_sayName_38 rfl (lv_at hl 1 rfl) ?_
      refine lv_bipush (v := nI 37) hx hb dX12_sayName_39 (by decide) ?_
      refine mcl_v (As := [.int (nI 37)]) (rest := []) ⟨hx, hb, hml, hown, hts⟩ (m_say l dC dI cB cC cI cJ cZ z0 R pl N G B ((nI 37)) (by omega) H.size) (cwV 1 hts kX12_sayName_X12_say_226 rfl rfl rfl (by decide +kernel) ⟨Nat.le_of_ble_eq_true rfl, Nat.le_of_ble_eq_true rfl⟩) hK hP hD hS hA rfl rfl hl.1 (lv_room (Nat.le_of_ble_eq_true rfl)) dX12_sayName_41 hcs (fun  N_16 G_17 B_18 pl_19 hw H locs hP hD hS => ?_)
      dsimp only at hw
      obtain ⟨e2, e4, e1, X, e3⟩ := hw
      have hrun : RUN N G B sz N_16 G B_18 az w 1 := by rw [e1, e3]; exact hrun.say 1 X (by omega)
      rw [e2, e4] at hP hD
      have hnum := hrun.num hbu (by omega) (by omega)
      have hG2 := hrun.1.1.1
      have htr := hrun.1.1.2.2.1
      have hal2 := hrun.1.1.2.1
      have n14 := hrun.2.2.2.2.2.2.2.1
      have n23 := hrun.2.2.2.2.2.2.2.2
      have n33 := hrun.2.2.2.2.2.1
      refine lv_aload_n hx hb dX12_sayName_44 rfl (lv_at hl 1 rfl) ?_
      refine lv_aload_n hx hb dX12_sayName_45 rfl (lv_at hl 1 rfl) ?_
      refine mg_25 hx hb hts inX12_sayName hown hK hP (hts _ lkX12_sayName_f60) dX12_sayName_46 ?_
      refine lv_iload_n hx hb dX12_sayName_49 rfl (lv_at hl 0 rfl) ?_
      refine ml_25 hx hb hK hP (by omega) dX12_sayName_50 ?_
      refine tp_i (om1 (c1)) ?_
      refine mcl_v (As := [.int (nI ((G 25 b9) - 1))]) (rest := []) ⟨hx, hb, hml, hown, hts⟩ (m_sayNumber l dC dI cB cC cI cJ cZ z0 R pl N_16 G B_18 ((G 25 b9) - 1) (by omega) (by omega) H.size) (cwV 1 hts kX12_sayName_X12_sayNumber_242 rfl rfl rfl (by decide +kernel) ⟨Nat.le_of_ble_eq_true rfl, Nat.le_of_ble_eq_true rfl⟩) hK hP hD hS hA rfl rfl hl.1 (lv_room (Nat.le_of_ble_eq_true rfl)) dX12_sayName_51 hcs (fun  N_21 G_22 B_23 pl_24 hw H locs hP hD hS => ?_)
      dsimp only at hw
      obtain ⟨e2, e4, n9, X, hn9, e1, e3⟩ := hw
      have hrun : RUN N G B sz N_21 G B_23 az w 9 := by rw [e1, e3]; exact hrun.say n9 X (by omega)
      rw [e2, e4] at hP hD
      have hnum := hrun.num hbu (by omega) (by omega)
      have hG2 := hrun.1.1.1
      have htr := hrun.1.1.2.2.1
      have hal2 := hrun.1.1.2.1
      have n14 := hrun.2.2.2.2.2.2.2.1
      have n23 := hrun.2.2.2.2.2.2.2.2
      have n33 := hrun.2.2.2.2.2.1
      exact W.vret hx hb hr (fun t ht hW => ⟨⟨(N_21, G, B_23, pl), rfl, ⟨rfl, hrun.post hbu (by omega) (by decide)⟩, by rw [ht]; exact hP, va_K.moved hW.alike hK, hD⟩, hS.F ht⟩) hS.2.2 dX12_sayName_54
  · subst hw
    have hls := hlt.2.2.2 (n8 + 1) (by omega)
    have g7 := hG 7 n8
    refine lv_istore_n (lv' := [(3, .int ((nI 0 - 1) - nI n8)), (0, .ref z0), (1, .int (nI f)), (2, .int (nI en))]) hx hb dX12_sayName_11 rfl hl (by decide) rfl (fun ls hl => ?_)
    refine lv_iload_n hx hb dX12_sayName_12 rfl (lv_at hl 0 rfl) ?_
    refine lv_if_lt (tgt := 55) hx hb dX12_sayName_13 (by decide) (fun _ => ?_) (fun z => absurd (mneg (by omega)) z)
    refine lv_iconst (v := nI 0 - 1) hx hb dX12_sayName_55 (by decide) ?_
    refine lv_iload_n hx hb dX12_sayName_56 rfl (lv_at hl 0 rfl) ?_
    refine lv_isub hx hb dX12_sayName_57 ?_
    refine tp_i mback ?_
    refine lv_istore (lv' := [(4, .int (nI n8)), (3, .int ((nI 0 - 1) - nI n8)), (0, .ref z0), (1, .int (nI f)), (2, .int (nI en))]) hx hb dX12_sayName_58 hl (by decide) rfl (fun ls hl => ?_)
    refine lv_aload_n hx hb dX12_sayName_60 rfl (lv_at hl 2 rfl) ?_
    refine lv_iload hx hb dX12_sayName_61 (lv_at hl 0 rfl) ?_
    refine lv_iconst (v := nI 4) hx hb dX12_sayName_63 (by decide) ?_
    refine bn_le (tgt := 81) hx hb (by first | omega | exact Nat.lt_of_lt_of_le (hG _ _) (by decide)) (by first | omega | exact Nat.lt_of_lt_of_le (hG _ _) (by decide)) dX12_sayName_64 (by decide) (fun c1 => ?_) (fun c1 => ?_)
    · refine lv_iconst (v := nI 0) hx hb dX12_sayName_81 (by decide) ?_
      refine lv_iconst (v := nI 4) hx hb dX12_sayName_82 (by decide) ?_
      refine mcl_i (As := [.int (nI 0), .int (nI 4)]) (rest := []) ⟨hx, hb, hml, hown, hts⟩ (m_need l dC dI cB cC cI cJ cZ z0 R pl N G B 0 4 (by decide) ⟨by decide, by decide⟩ n33 H.size) (cwV 2 hts kX12_sayName_X12_need_255 rfl rfl rfl (by decide +kernel) ⟨Nat.le_of_ble_eq_true rfl, Nat.le_of_ble_eq_true rfl⟩) hK hP hD hS hA rfl rfl hl.1 (lv_room (Nat.le_of_ble_eq_true rfl)) dX12_sayName_83 hcs (fun r_30 N_26 G_27 B_28 pl_29 hw H locs hP hD hS => ?_)
      dsimp only at hw
      obtain ⟨e3, e4, e2, hw, e5, e6⟩ := hw
      rw [e6 rfl, e2, e3, e4] at hP hD
      subst hw
      refine bz_eq (tgt := 95) hx hb (by first | omega | exact Nat.lt_of_lt_of_le (hG _ _) (by decide)) dX12_sayName_86 (by decide) (fun c => ?_) (fun q9 => absurd q9 (by omega))
      exact W.vret hx hb hr (fun t ht hW => ⟨⟨(va_up N 33 4, G, B, pl), rfl, ⟨rfl, hrun.fail hbu (by omega) (Or.inl rfl) (by decide) (by decide)⟩, by rw [ht]; exact hP, va_K.moved hW.alike hK, hD⟩, hS.F ht⟩) hS.2.2 dX12_sayName_95
    · refine lv_aload_n hx hb dX12_sayName_67 rfl (lv_at hl 2 rfl) ?_
      refine mg_7 hx hb hts inX12_sayName hown hK hP (hts _ lkX12_sayName_f25) dX12_sayName_68 ?_
      refine lv_iload hx hb dX12_sayName_71 (lv_at hl 0 rfl) ?_
      refine ml_7 hx hb hK hP (by omega) dX12_sayName_73 ?_
      refine bz_ne (tgt := 81) hx hb (by first | omega | exact Nat.lt_of_lt_of_le (hG _ _) (by decide)) dX12_sayName_74 (by decide) (fun c2 => ?_) (fun c2 => ?_)
      · refine lv_iconst (v := nI 0) hx hb dX12_sayName_81 (by decide) ?_
        refine lv_iconst (v := nI 4) hx hb dX12_sayName_82 (by decide) ?_
        refine mcl_i (As := [.int (nI 0), .int (nI 4)]) (rest := []) ⟨hx, hb, hml, hown, hts⟩ (m_need l dC dI cB cC cI cJ cZ z0 R pl N G B 0 4 (by decide) ⟨by decide, by decide⟩ n33 H.size) (cwV 2 hts kX12_sayName_X12_need_255 rfl rfl rfl (by decide +kernel) ⟨Nat.le_of_ble_eq_true rfl, Nat.le_of_ble_eq_true rfl⟩) hK hP hD hS hA rfl rfl hl.1 (lv_room (Nat.le_of_ble_eq_true rfl)) dX12_sayName_83 hcs (fun r_35 N_31 G_32 B_33 pl_34 hw H locs hP hD hS => ?_)
        dsimp only at hw
        obtain ⟨e3, e4, e2, hw, e5, e6⟩ := hw
        rw [e6 rfl, e2, e3, e4] at hP hD
        subst hw
        refine bz_eq (tgt := 95) hx hb (by first | omega | exact Nat.lt_of_lt_of_le (hG _ _) (by decide)) dX12_sayName_86 (by decide) (fun c => ?_) (fun q9 => absurd q9 (by omega))
        exact W.vret hx hb hr (fun t ht hW => ⟨⟨(va_up N 33 4, G, B, pl), rfl, ⟨rfl, hrun.fail hbu (by omega) (Or.inl rfl) (by decide) (by decide)⟩, by rw [ht]; exact hP, va_K.moved hW.alike hK, hD⟩, hS.F ht⟩) hS.2.2 dX12_sayName_95
      · refine lv_iconst (v := nI 1) hx hb dX12_sayName_77 (by decide) ?_
        refine lv_goto (tgt := 82) hx hb dX12_sayName_78 (by decide) ?_
        refine lv_iconst (v := nI 4) hx hb dX12_sayName_82 (by decide) ?_
        refine mcl_i (As := [.int (nI 1), .int (nI 4)]) (rest := []) ⟨hx, hb, hml, hown, hts⟩ (m_need l dC dI cB cC cI cJ cZ z0 R pl N G B 1 4 (by decide) ⟨by decide, by decide⟩ n33 H.size) (cwV 2 hts kX12_sayName_X12_need_255 rfl rfl rfl (by decide +kernel) ⟨Nat.le_of_ble_eq_true rfl, Nat.le_of_ble_eq_true rfl⟩) hK hP hD hS hA rfl rfl hl.1 (lv_room (Nat.le_of_ble_eq_true rfl)) dX12_sayName_83 hcs (fun r_40 N_36 G_37 B_38 pl_39 hw H locs hP hD hS => ?_)
        dsimp only at hw
        obtain ⟨e3, e4, e2, hw, e5, e6⟩ := hw
        rw [e5 rfl, e2, e3, e4] at hP hD
        subst hw
        refine bz_eq (tgt := 95) hx hb (by first | omega | exact Nat.lt_of_lt_of_le (hG _ _) (by decide)) dX12_sayName_86 (by decide) (fun q9 => absurd q9 (by omega)) (fun c => ?_)
        refine lv_aload_n hx hb dX12_sayName_89 rfl (lv_at hl 2 rfl) ?_
        refine lv_iload hx hb dX12_sayName_90 (lv_at hl 0 rfl) ?_
        refine mcl_v (As := [.int (nI n8)]) (rest := []) ⟨hx, hb, hml, hown, hts⟩ (m_saySymbol l dC dI cB cC cI cJ cZ z0 R pl N G B n8 hG2 (by omega) (hls) (by omega) H.size) (cwV 1 hts kX12_sayName_X12_saySymbol_245 rfl rfl rfl (by decide +kernel) ⟨Nat.le_of_ble_eq_true rfl, Nat.le_of_ble_eq_true rfl⟩) hK hP hD hS hA rfl rfl hl.1 (lv_room (Nat.le_of_ble_eq_true rfl)) dX12_sayName_92 hcs (fun  N_41 G_42 B_43 pl_44 hw H locs hP hD hS => ?_)
        dsimp only at hw
        obtain ⟨e2, e4, n9, X, hn9, e1, e3⟩ := hw
        have hrun : RUN N G B sz N_41 G B_43 az w 4200 := by rw [e1, e3]; exact hrun.say n9 X (by omega)
        rw [e2, e4] at hP hD
        have hnum := hrun.num hbu (by omega) (by omega)
        have hG2 := hrun.1.1.1
        have htr := hrun.1.1.2.2.1
        have hal2 := hrun.1.1.2.1
        have n14 := hrun.2.2.2.2.2.2.2.1
        have n23 := hrun.2.2.2.2.2.2.2.2
        have n33 := hrun.2.2.2.2.2.1
        exact W.vret hx hb hr (fun t ht hW => ⟨⟨(N_41, G, B_43, pl), rfl, ⟨rfl, hrun.post hbu (by omega) (by decide)⟩, by rw [ht]; exact hP, va_K.moved hW.alike hK, hD⟩, hS.F ht⟩) hS.2.2 dX12_sayName_95
