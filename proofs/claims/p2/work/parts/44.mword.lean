def oX12_expandWord : List Cond := [Cond.methodLink RX12 276 yX12_isList, Cond.instanceMethod yX12_isList, Cond.selects RX12 yX12_isList yX12_isList, Cond.initialized RX12, Cond.methodLink RX12 255 yX12_need, Cond.instanceMethod yX12_need, Cond.selects RX12 yX12_need yX12_need, Cond.methodLink RX12 226 yX12_say, Cond.instanceMethod yX12_say, Cond.selects RX12 yX12_say yX12_say, Cond.methodLink RX12 245 yX12_saySymbol, Cond.instanceMethod yX12_saySymbol, Cond.selects RX12 yX12_saySymbol yX12_saySymbol, Cond.methodLink RX12 232 yX12_task, Cond.instanceMethod yX12_task, Cond.selects RX12 yX12_task yX12_task, Cond.methodLink RX12 192 yX12_part, Cond.instanceMethod yX12_part, Cond.selects RX12 yX12_part yX12_part, Cond.methodLink RX12 248 yX12_taskParts, Cond.instanceMethod yX12_taskParts, Cond.selects RX12 yX12_taskParts yX12_taskParts, Cond.fieldLink RX12 279 "MacroScopesModel" "binders" "I", Cond.methodLink RX12 282 yX12_lambda, Cond.instanceMethod yX12_lambda, Cond.selects RX12 yX12_lambda yX12_lambda, Cond.methodLink RX12 285 yX12_letSyntax, Cond.instanceMethod yX12_letSyntax, Cond.selects RX12 yX12_letSyntax yX12_letSyntax, Cond.methodLink RX12 239 yX12_fail, Cond.instanceMethod yX12_fail, Cond.selects RX12 yX12_fail yX12_fail]
def vX12_expandWord : List Cond := .code yX12_expandWord cX12_expandWord 5 none :: (oX12_expandWord ++ (vX12_isList ++ (vX12_need ++ (vX12_say ++ (vX12_saySymbol ++ (vX12_task ++ (vX12_part ++ (vX12_taskParts ++ (vX12_lambda ++ (vX12_letSyntax ++ (vX12_fail ++ (wsX120))))))))))))
theorem lkX12_expandWord_f279 : Cond.fieldLink RX12 279 "MacroScopesModel" "binders" "I" ∈ vX12_expandWord := List.mem_cons_of_mem _ (List.mem_append_left _ (List.mem_of_getElem? (i := 22) rfl))
theorem inX12_expandWord : ∀ w ∈ wsX120, w ∈ vX12_expandWord := fun w h => List.mem_cons_of_mem _ (List.mem_append_right _ (List.mem_append_right _ (List.mem_append_right _ (List.mem_append_right _ (List.mem_append_right _ (List.mem_append_right _ (List.mem_append_right _ (List.mem_append_right _ (List.mem_append_right _ (List.mem_append_right _ (List.mem_append_right _ (h))))))))))))
theorem kX12_expandWord_X12_isList_276 : GoodIn vX12_expandWord (wsV RX12 276 RX12 yX12_isList vX12_isList) := goodIn_sub (fun w h => (List.mem_append.mp h).elim (fun h => List.mem_cons_of_mem _ (List.mem_append_left _ ((by decide +kernel : ∀ w ∈ ([.methodLink RX12 276 yX12_isList, .instanceMethod yX12_isList, .selects RX12 yX12_isList yX12_isList, .initialized RX12] : List Cond), w ∈ oX12_expandWord) w h))) (fun h => List.mem_cons_of_mem _ (List.mem_append_right _ (List.mem_append_left _ (h))))) (by decide +kernel)
theorem kX12_expandWord_X12_need_255 : GoodIn vX12_expandWord (wsV RX12 255 RX12 yX12_need vX12_need) := goodIn_sub (fun w h => (List.mem_append.mp h).elim (fun h => List.mem_cons_of_mem _ (List.mem_append_left _ ((by decide +kernel : ∀ w ∈ ([.methodLink RX12 255 yX12_need, .instanceMethod yX12_need, .selects RX12 yX12_need yX12_need, .initialized RX12] : List Cond), w ∈ oX12_expandWord) w h))) (fun h => List.mem_cons_of_mem _ (List.mem_append_right _ (List.mem_append_right _ (List.mem_append_left _ (h)))))) (by decide +kernel)
theorem kX12_expandWord_X12_say_226 : GoodIn vX12_expandWord (wsV RX12 226 RX12 yX12_say vX12_say) := goodIn_sub (fun w h => (List.mem_append.mp h).elim (fun h => List.mem_cons_of_mem _ (List.mem_append_left _ ((by decide +kernel : ∀ w ∈ ([.methodLink RX12 226 yX12_say, .instanceMethod yX12_say, .selects RX12 yX12_say yX12_say, .initialized RX12] : List Cond), w ∈ oX12_expandWord) w h))) (fun h => List.mem_cons_of_mem _ (List.mem_append_right _ (List.mem_append_right _ (List.mem_append_right _ (List.mem_append_left _ (h))))))) (by decide +kernel)
theorem kX12_expandWord_X12_saySymbol_245 : GoodIn vX12_expandWord (wsV RX12 245 RX12 yX12_saySymbol vX12_saySymbol) := goodIn_sub (fun w h => (List.mem_append.mp h).elim (fun h => List.mem_cons_of_mem _ (List.mem_append_left _ ((by decide +kernel : ∀ w ∈ ([.methodLink RX12 245 yX12_saySymbol, .instanceMethod yX12_saySymbol, .selects RX12 yX12_saySymbol yX12_saySymbol, .initialized RX12] : List Cond), w ∈ oX12_expandWord) w h))) (fun h => List.mem_cons_of_mem _ (List.mem_append_right _ (List.mem_append_right _ (List.mem_append_right _ (List.mem_append_right _ (List.mem_append_left _ (h)))))))) (by decide +kernel)
theorem kX12_expandWord_X12_task_232 : GoodIn vX12_expandWord (wsV RX12 232 RX12 yX12_task vX12_task) := goodIn_sub (fun w h => (List.mem_append.mp h).elim (fun h => List.mem_cons_of_mem _ (List.mem_append_left _ ((by decide +kernel : ∀ w ∈ ([.methodLink RX12 232 yX12_task, .instanceMethod yX12_task, .selects RX12 yX12_task yX12_task, .initialized RX12] : List Cond), w ∈ oX12_expandWord) w h))) (fun h => List.mem_cons_of_mem _ (List.mem_append_right _ (List.mem_append_right _ (List.mem_append_right _ (List.mem_append_right _ (List.mem_append_right _ (List.mem_append_left _ (h))))))))) (by decide +kernel)
theorem kX12_expandWord_X12_part_192 : GoodIn vX12_expandWord (wsV RX12 192 RX12 yX12_part vX12_part) := goodIn_sub (fun w h => (List.mem_append.mp h).elim (fun h => List.mem_cons_of_mem _ (List.mem_append_left _ ((by decide +kernel : ∀ w ∈ ([.methodLink RX12 192 yX12_part, .instanceMethod yX12_part, .selects RX12 yX12_part yX12_part, .initialized RX12] : List Cond), w ∈ oX12_expandWord) w h))) (fun h => List.mem_cons_of_mem _ (List.mem_append_right _ (List.mem_append_right _ (List.mem_append_right _ (List.mem_append_right _ (List.mem_append_right _ (List.mem_append_right _ (List.mem_append_left _ (h)))))))))) (by decide +kernel)
theorem kX12_expandWord_X12_taskParts_248 : GoodIn vX12_expandWord (wsV RX12 248 RX12 yX12_taskParts vX12_taskParts) := goodIn_sub (fun w h => (List.mem_append.mp h).elim (fun h => List.mem_cons_of_mem _ (List.mem_append_left _ ((by decide +kernel : ∀ w ∈ ([.methodLink RX12 248 yX12_taskParts, .instanceMethod yX12_taskParts, .selects RX12 yX12_taskParts yX12_taskParts, .initialized RX12] : List Cond), w ∈ oX12_expandWord) w h))) (fun h => List.mem_cons_of_mem _ (List.mem_append_right _ (List.mem_append_right _ (List.mem_append_right _ (List.mem_append_right _ (List.mem_append_right _ (List.mem_append_right _ (List.mem_append_right _ (List.mem_append_left _ (h))))))))))) (by decide +kernel)
theorem kX12_expandWord_X12_lambda_282 : GoodIn vX12_expandWord (wsV RX12 282 RX12 yX12_lambda vX12_lambda) := goodIn_sub (fun w h => (List.mem_append.mp h).elim (fun h => List.mem_cons_of_mem _ (List.mem_append_left _ ((by decide +kernel : ∀ w ∈ ([.methodLink RX12 282 yX12_lambda, .instanceMethod yX12_lambda, .selects RX12 yX12_lambda yX12_lambda, .initialized RX12] : List Cond), w ∈ oX12_expandWord) w h))) (fun h => List.mem_cons_of_mem _ (List.mem_append_right _ (List.mem_append_right _ (List.mem_append_right _ (List.mem_append_right _ (List.mem_append_right _ (List.mem_append_right _ (List.mem_append_right _ (List.mem_append_right _ (List.mem_append_left _ (h)))))))))))) (by decide +kernel)
theorem kX12_expandWord_X12_letSyntax_285 : GoodIn vX12_expandWord (wsV RX12 285 RX12 yX12_letSyntax vX12_letSyntax) := goodIn_sub (fun w h => (List.mem_append.mp h).elim (fun h => List.mem_cons_of_mem _ (List.mem_append_left _ ((by decide +kernel : ∀ w ∈ ([.methodLink RX12 285 yX12_letSyntax, .instanceMethod yX12_letSyntax, .selects RX12 yX12_letSyntax yX12_letSyntax, .initialized RX12] : List Cond), w ∈ oX12_expandWord) w h))) (fun h => List.mem_cons_of_mem _ (List.mem_append_right _ (List.mem_append_right _ (List.mem_append_right _ (List.mem_append_right _ (List.mem_append_right _ (List.mem_append_right _ (List.mem_append_right _ (List.mem_append_right _ (List.mem_append_right _ (List.mem_append_left _ (h))))))))))))) (by decide +kernel)
theorem kX12_expandWord_X12_fail_239 : GoodIn vX12_expandWord (wsV RX12 239 RX12 yX12_fail vX12_fail) := goodIn_sub (fun w h => (List.mem_append.mp h).elim (fun h => List.mem_cons_of_mem _ (List.mem_append_left _ ((by decide +kernel : ∀ w ∈ ([.methodLink RX12 239 yX12_fail, .instanceMethod yX12_fail, .selects RX12 yX12_fail yX12_fail, .initialized RX12] : List Cond), w ∈ oX12_expandWord) w h))) (fun h => List.mem_cons_of_mem _ (List.mem_append_right _ (List.mem_append_right _ (List.mem_append_right _ (List.mem_append_right _ (List.mem_append_right _ (List.mem_append_right _ (List.mem_append_right _ (List.mem_append_right _ (List.mem_append_right _ (List.mem_append_right _ (List.mem_append_left _ (h)))))))))))))) (by decide +kernel)
set_option maxHeartbeats 4000000 in
set_option maxRecDepth 100000 in
/-- expandWord -/
theorem m_expandWord (l : Launch) (dC : Nat → ClassId) (dI : Nat → Nat → Nat) (cB cC cI cJ cZ : ClassId) (z0 : Nat) (R : Nat → Nat) (pl : Int32) (N : Nat → Nat) (G : Nat → Nat → Nat) (B : Nat → Nat → Int32) (y f en dp w x : Nat) (sz az : Nat → Nat) (hxi : XI N G sz az) (htk : TSK N G sz w) (h33 : N 33 = 0) (hf : f < N 14) (hen : en < N 23) (hdp : dp ≤ 100) (hbu : BUD N (w + (3 * sz f - 1)) x) (hy : y ≤ 4) (s0 : Nat) : Met l yX12_expandWord vX12_expandWord { frames := 6, cells := 0, slots := 0, locals := 149 } (va_Pc [.ref z0, .int (nI y), .int (nI f), .int (nI en), .int (nI dp)] (mPre dC dI cB cC cI cJ cZ z0 R pl N G B s0)) (va_Qv (fun u : ((Nat → Nat) × (Nat → Nat → Nat) × (Nat → Nat → Int32) × Int32) => match u with | (N1, G1, B1, pl1) => pl1 = pl ∧ XPOST N G B sz x N1 G1 B1) (mPost dC dI cB cC cI cJ cZ z0 R (va_A (MW cB cC cI cJ cZ z0 R pl N G B) s0)) (va_A (MW cB cC cI cJ cZ z0 R pl N G B) s0)) 0 0 (va_A (MW cB cC cI cJ cZ z0 R pl N G B) s0) := by
  refine Met.ofW (cc := cX12_expandWord) (maxL := 5) (ret := none) (by decide) rfl ?_
  intro p e s m args below meth c s₁ B9 hml hv
  obtain ⟨rfl, hsz, hP, hK, hD0⟩ := hv
  have hx := B9.exec
  have hb := B9.bytes
  have hr := B9.returns
  have hts := atoms_spec (ws := vX12_expandWord) B9.pre
  have hown : s.vm.findClass RX12 = some m.cls := findClass_of_methodNamed B9.named
  have hlocks := B9.notSynchronized
  subst hsz
  have hD := hD0.self (sz := s.heap.size)
  generalize hAe : va_A (MW cB cC cI cJ cZ z0 R pl N G B) s.heap.size = A at hD ⊢
  have hA : ∀ q : Nat, s.heap.size ≤ q → A q := fun q h => by rw [← hAe]; exact Or.inr h
  have hS : va_S A s.heap s.heap [] := va_S.rf
  have hcs : 0 + 0 ≤ (0 : Nat) ∧ 0 + 0 ≤ (0 : Nat) := ⟨Nat.le_refl 0, Nat.le_refl 0⟩
  have hl := lv_entry ([.ref z0, .int (nI y), .int (nI f), .int (nI en), .int (nI dp)]) (n := 5) (Nat.le_of_ble_eq_true rfl)
  rw [lg_entry_eq]
  generalize (lg_sl ([.ref z0, .int (nI y), .int (nI f), .int (nI en), .int (nI dp)]) ++ List.replicate (5 - (lg_sl ([.ref z0, .int (nI y), .int (nI f), .int (nI en), .int (nI dp)])).length) Slot.unset).toArray = ls at hl ⊢
  have hl : lv_has ls 5 [(0, .ref z0), (1, .int (nI y)), (2, .int (nI f)), (3, .int (nI en)), (4, .int (nI dp))] := hl
  have ht9 := hxi.1.2.2.1
  have hG := hxi.1.1
  have hG2 := hG
  have hal := hxi.1.2.1
  have u6 := ht9.1
  have u1 := ht9.one hf
  have hf8 : f < 90000 := by omega
  have hnf := hxi.2.2.2.2.2.1
  have hlt := hxi.2.2.2.2.1
  have hev := hxi.2.2.2.1
  have hbb : w + (3 * sz f - 1) ≤ 190000 := by have := hbu.1; omega
  refine lv_iload_n hx hb dX12_expandWord_0 rfl (lv_at hl 1 rfl) ?_
  refine lv_iconst (v := nI 2) hx hb dX12_expandWord_1 (by decide) ?_
  refine bn_ne (tgt := 61) hx hb (by first | omega | exact Nat.lt_of_lt_of_le (hG _ _) (by decide)) (by first | omega | exact Nat.lt_of_lt_of_le (hG _ _) (by decide)) dX12_expandWord_2 (by decide) (fun c1 => ?_) (fun c1 => ?_)
  · refine lv_iload_n hx hb dX12_expandWord_61 rfl (lv_at hl 1 rfl) ?_
    refine lv_iconst (v := nI 1) hx hb dX12_expandWord_62 (by decide) ?_
    refine bn_ne (tgt := 121) hx hb (by first | omega | exact Nat.lt_of_lt_of_le (hG _ _) (by decide)) (by first | omega | exact Nat.lt_of_lt_of_le (hG _ _) (by decide)) dX12_expandWord_63 (by decide) (fun c2 => ?_) (fun c2 => ?_)
    · refine lv_iload_n hx hb dX12_expandWord_121 rfl (lv_at hl 1 rfl) ?_
      refine bz_ne (tgt := 169) hx hb (by first | omega | exact Nat.lt_of_lt_of_le (hG _ _) (by decide)) dX12_expandWord_122 (by decide) (fun c3 => ?_) (fun c3 => ?_)
      · refine lv_iload_n hx hb dX12_expandWord_169 rfl (lv_at hl 1 rfl) ?_
        refine lv_iconst (v := nI 3) hx hb dX12_expandWord_170 (by decide) ?_
        refine bn_ne (tgt := 218) hx hb (by first | omega | exact Nat.lt_of_lt_of_le (hG _ _) (by decide)) (by first | omega | exact Nat.lt_of_lt_of_le (hG _ _) (by decide)) dX12_expandWord_171 (by decide) (fun c4 => ?_) (fun c4 => ?_)
        · have hrun : RUN N G B sz N G B az w 0 := RUN.start hxi htk h33
          have hnum := hrun.num hbu (by omega) (by omega)
          have hG2 := hrun.1.1.1
          have htr := hrun.1.1.2.2.1
          have hal2 := hrun.1.1.2.1
          have n14 := hrun.2.2.2.2.2.2.2.1
          have n23 := hrun.2.2.2.2.2.2.2.2
          have n33 := hrun.2.2.2.2.2.1
          refine lv_aload_n hx hb dX12_expandWord_218 rfl (lv_at hl 0 rfl) ?_
          refine lv_iconst (v := nI 3) hx hb dX12_expandWord_219 (by decide) ?_
          refine mcl_v (As := [.int (nI 3)]) (rest := []) ⟨hx, hb, hml, hown, hts⟩ (m_fail l dC dI cB cC cI cJ cZ z0 R pl N G B 3 (by omega) s.heap.size) (cwV 1 hts kX12_expandWord_X12_fail_239 rfl rfl rfl (by decide +kernel) ⟨Nat.le_of_ble_eq_true rfl, Nat.le_of_ble_eq_true rfl⟩) hK hP hD hS hA rfl rfl hl.1 (lv_room (Nat.le_of_ble_eq_true rfl)) dX12_expandWord_220 hcs (fun  N_120 G_121 B_122 pl_123 hw H locs hP hD hS => ?_)
          dsimp only at hw
          obtain ⟨e3, e4, e2, e1⟩ := hw
          rw [if_pos h33] at e1
          rw [e1, e2, e3, e4] at hP hD
          exact W.vret hx hb hr (fun t ht hW => ⟨⟨(va_up N 33 3, G, B, pl), rfl, ⟨rfl, hrun.fail hbu (by omega) (Or.inl rfl) (by decide) (by decide)⟩, by rw [ht]; exact hP, va_K.moved hW.alike hK, hD⟩, hS.F ht⟩) hS.2.2 dX12_expandWord_223
        · refine lv_aload_n hx hb dX12_expandWord_174 rfl (lv_at hl 0 rfl) ?_
          refine lv_aload_n hx hb dX12_expandWord_175 rfl (lv_at hl 0 rfl) ?_
          refine mg_36 hx hb hts inX12_expandWord hown hK hP (hts _ lkX12_expandWord_f279) dX12_expandWord_176 ?_
          refine lv_sipush (v := nI 250) hx hb dX12_expandWord_179 (by decide) ?_
          refine bn_ge (tgt := 189) hx hb (by first | omega | exact Nat.lt_of_lt_of_le (hG _ _) (by decide)) (by first | omega | exact Nat.lt_of_lt_of_le (hG _ _) (by decide)) dX12_expandWord_182 (by decide) (fun c6 => ?_) (fun c6 => ?_)
          · refine lv_iconst (v := nI 0) hx hb dX12_expandWord_189 (by decide) ?_
            refine lv_iconst (v := nI 2) hx hb dX12_expandWord_190 (by decide) ?_
            have hrun : RUN N G B sz N G B az w 0 := RUN.start hxi htk h33
            have hnum := hrun.num hbu (by omega) (by omega)
            have hG2 := hrun.1.1.1
            have htr := hrun.1.1.2.2.1
            have hal2 := hrun.1.1.2.1
            have n14 := hrun.2.2.2.2.2.2.2.1
            have n23 := hrun.2.2.2.2.2.2.2.2
            have n33 := hrun.2.2.2.2.2.1
            refine mcl_i (As := [.int (nI 0), .int (nI 2)]) (rest := []) ⟨hx, hb, hml, hown, hts⟩ (m_need l dC dI cB cC cI cJ cZ z0 R pl N G B 0 2 (by decide) ⟨by decide, by decide⟩ n33 s.heap.size) (cwV 2 hts kX12_expandWord_X12_need_255 rfl rfl rfl (by decide +kernel) ⟨Nat.le_of_ble_eq_true rfl, Nat.le_of_ble_eq_true rfl⟩) hK hP hD hS hA rfl rfl hl.1 (lv_room (Nat.le_of_ble_eq_true rfl)) dX12_expandWord_191 hcs (fun r_109 N_105 G_106 B_107 pl_108 hw H locs hP hD hS => ?_)
            dsimp only at hw
            obtain ⟨e3, e4, e2, hw, e5, e6⟩ := hw
            rw [e6 rfl, e2, e3, e4] at hP hD
            subst hw
            refine bz_eq (tgt := 223) hx hb (by first | omega | exact Nat.lt_of_lt_of_le (hG _ _) (by decide)) dX12_expandWord_194 (by decide) (fun c => ?_) (fun q9 => absurd q9 (by omega))
            exact W.vret hx hb hr (fun t ht hW => ⟨⟨(va_up N 33 2, G, B, pl), rfl, ⟨rfl, hrun.fail hbu (by omega) (Or.inl rfl) (by decide) (by decide)⟩, by rw [ht]; exact hP, va_K.moved hW.alike hK, hD⟩, hS.F ht⟩) hS.2.2 dX12_expandWord_223
          · refine lv_iconst (v := nI 1) hx hb dX12_expandWord_185 (by decide) ?_
            refine lv_goto (tgt := 190) hx hb dX12_expandWord_186 (by decide) ?_
            refine lv_iconst (v := nI 2) hx hb dX12_expandWord_190 (by decide) ?_
            have hrun : RUN N G B sz N G B az w 0 := RUN.start hxi htk h33
            have hnum := hrun.num hbu (by omega) (by omega)
            have hG2 := hrun.1.1.1
            have htr := hrun.1.1.2.2.1
            have hal2 := hrun.1.1.2.1
            have n14 := hrun.2.2.2.2.2.2.2.1
            have n23 := hrun.2.2.2.2.2.2.2.2
            have n33 := hrun.2.2.2.2.2.1
            refine mcl_i (As := [.int (nI 1), .int (nI 2)]) (rest := []) ⟨hx, hb, hml, hown, hts⟩ (m_need l dC dI cB cC cI cJ cZ z0 R pl N G B 1 2 (by decide) ⟨by decide, by decide⟩ n33 s.heap.size) (cwV 2 hts kX12_expandWord_X12_need_255 rfl rfl rfl (by decide +kernel) ⟨Nat.le_of_ble_eq_true rfl, Nat.le_of_ble_eq_true rfl⟩) hK hP hD hS hA rfl rfl hl.1 (lv_room (Nat.le_of_ble_eq_true rfl)) dX12_expandWord_191 hcs (fun r_114 N_110 G_111 B_112 pl_113 hw H locs hP hD hS => ?_)
            dsimp only at hw
            obtain ⟨e3, e4, e2, hw, e5, e6⟩ := hw
            rw [e5 rfl, e2, e3, e4] at hP hD
            subst hw
            refine bz_eq (tgt := 223) hx hb (by first | omega | exact Nat.lt_of_lt_of_le (hG _ _) (by decide)) dX12_expandWord_194 (by decide) (fun q9 => absurd q9 (by omega)) (fun c => ?_)
            refine lv_aload_n hx hb dX12_expandWord_197 rfl (lv_at hl 0 rfl) ?_
            refine lv_dup hx hb dX12_expandWord_198 rfl ?_
            refine mg_36 hx hb hts inX12_expandWord hown hK hP (hts _ lkX12_expandWord_f279) dX12_expandWord_199 ?_
            refine lv_iconst (v := nI 1) hx hb dX12_expandWord_202 (by decide) ?_
            refine lv_iadd hx hb dX12_expandWord_203 ?_
            refine tp_i (nI_add (N 36) 1) ?_
            refine mp_36 hx hb hts inX12_expandWord hown hK hP hD hS (hts _ lkX12_expandWord_f279) dX12_expandWord_204 (fun H locs hP hD hS => ?_)
            refine lv_aload_n hx hb dX12_expandWord_207 rfl (lv_at hl 0 rfl) ?_
            refine lv_iload_n hx hb dX12_expandWord_208 rfl (lv_at hl 2 rfl) ?_
            refine lv_iload_n hx hb dX12_expandWord_209 rfl (lv_at hl 3 rfl) ?_
            refine lv_iload hx hb dX12_expandWord_210 (lv_at hl 4 rfl) ?_
            obtain ⟨M, hM⟩ : ∃ M, M = va_up N 36 (N 36 + 1) := ⟨_, rfl⟩
            rw [← hM] at hP hD
            have hxm : XI M G sz az := by rw [hM]; exact hxi.binder c6
            have htm : TSK M G sz w := by rw [hM]; exact htk
            have m33 : M 33 = 0 := by rw [hM]; exact h33
            have m36 : M 36 = N 36 + 1 := by rw [hM]; rfl
            have m23 : M 23 = N 23 := by rw [hM]; rfl
            have m27 : M 27 = N 27 := by rw [hM]; rfl
            have m34 : M 34 = N 34 := by rw [hM]; rfl
            have m14 : M 14 = N 14 := by rw [hM]; rfl
            have hbm : BUD M (w + (3 * sz f - 1)) x := by rw [hM]; exact hbu
            have hxt : XT N G B sz M G B sz := XT.nums (fun k hk => by rw [hM]; exact va_up_ne _ _ (by omega))
            refine mcl_v (As := [.int (nI f), .int (nI en), .int (nI dp)]) (rest := []) ⟨hx, hb, hml, hown, hts⟩ (m_letSyntax l dC dI cB cC cI cJ cZ z0 R pl M G B f en dp w x sz az hxm htm m33 (by omega) (by omega) hdp hbm (by omega) (by omega) (by omega) H.size) (cwV 3 hts kX12_expandWord_X12_letSyntax_285 rfl rfl rfl (by decide +kernel) ⟨Nat.le_of_ble_eq_true rfl, Nat.le_of_ble_eq_true rfl⟩) hK hP hD hS hA rfl rfl hl.1 (lv_room (Nat.le_of_ble_eq_true rfl)) dX12_expandWord_212 hcs (fun  N_115 G_116 B_117 pl_118 hw H locs hP hD hS => ?_)
            dsimp only at hw
            obtain ⟨e4, hw⟩ := hw
            rw [e4] at hP hD
            refine lv_goto (tgt := 223) hx hb dX12_expandWord_215 (by decide) ?_
            exact W.vret hx hb hr (fun t ht hW => ⟨⟨(N_115, G_116, B_117, pl), rfl, ⟨rfl, XPOST.trans hxt hw⟩, by rw [ht]; exact hP, va_K.moved hW.alike hK, hD⟩, hS.F ht⟩) hS.2.2 dX12_expandWord_223
      · refine lv_aload_n hx hb dX12_expandWord_125 rfl (lv_at hl 0 rfl) ?_
        refine lv_aload_n hx hb dX12_expandWord_126 rfl (lv_at hl 0 rfl) ?_
        refine mg_36 hx hb hts inX12_expandWord hown hK hP (hts _ lkX12_expandWord_f279) dX12_expandWord_127 ?_
        refine lv_sipush (v := nI 250) hx hb dX12_expandWord_130 (by decide) ?_
        refine bn_ge (tgt := 140) hx hb (by first | omega | exact Nat.lt_of_lt_of_le (hG _ _) (by decide)) (by first | omega | exact Nat.lt_of_lt_of_le (hG _ _) (by decide)) dX12_expandWord_133 (by decide) (fun c6 => ?_) (fun c6 => ?_)
        · refine lv_iconst (v := nI 0) hx hb dX12_expandWord_140 (by decide) ?_
          refine lv_iconst (v := nI 2) hx hb dX12_expandWord_141 (by decide) ?_
          have hrun : RUN N G B sz N G B az w 0 := RUN.start hxi htk h33
          have hnum := hrun.num hbu (by omega) (by omega)
          have hG2 := hrun.1.1.1
          have htr := hrun.1.1.2.2.1
          have hal2 := hrun.1.1.2.1
          have n14 := hrun.2.2.2.2.2.2.2.1
          have n23 := hrun.2.2.2.2.2.2.2.2
          have n33 := hrun.2.2.2.2.2.1
          refine mcl_i (As := [.int (nI 0), .int (nI 2)]) (rest := []) ⟨hx, hb, hml, hown, hts⟩ (m_need l dC dI cB cC cI cJ cZ z0 R pl N G B 0 2 (by decide) ⟨by decide, by decide⟩ n33 s.heap.size) (cwV 2 hts kX12_expandWord_X12_need_255 rfl rfl rfl (by decide +kernel) ⟨Nat.le_of_ble_eq_true rfl, Nat.le_of_ble_eq_true rfl⟩) hK hP hD hS hA rfl rfl hl.1 (lv_room (Nat.le_of_ble_eq_true rfl)) dX12_expandWord_142 hcs (fun r_94 N_90 G_91 B_92 pl_93 hw H locs hP hD hS => ?_)
          dsimp only at hw
          obtain ⟨e3, e4, e2, hw, e5, e6⟩ := hw
          rw [e6 rfl, e2, e3, e4] at hP hD
          subst hw
          refine bz_eq (tgt := 223) hx hb (by first | omega | exact Nat.lt_of_lt_of_le (hG _ _) (by decide)) dX12_expandWord_145 (by decide) (fun c => ?_) (fun q9 => absurd q9 (by omega))
          exact W.vret hx hb hr (fun t ht hW => ⟨⟨(va_up N 33 2, G, B, pl), rfl, ⟨rfl, hrun.fail hbu (by omega) (Or.inl rfl) (by decide) (by decide)⟩, by rw [ht]; exact hP, va_K.moved hW.alike hK, hD⟩, hS.F ht⟩) hS.2.2 dX12_expandWord_223
        · refine lv_iconst (v := nI 1) hx hb dX12_expandWord_136 (by decide) ?_
          refine lv_goto (tgt := 141) hx hb dX12_expandWord_137 (by decide) ?_
          refine lv_iconst (v := nI 2) hx hb dX12_expandWord_141 (by decide) ?_
          have hrun : RUN N G B sz N G B az w 0 := RUN.start hxi htk h33
          have hnum := hrun.num hbu (by omega) (by omega)
          have hG2 := hrun.1.1.1
          have htr := hrun.1.1.2.2.1
          have hal2 := hrun.1.1.2.1
          have n14 := hrun.2.2.2.2.2.2.2.1
          have n23 := hrun.2.2.2.2.2.2.2.2
          have n33 := hrun.2.2.2.2.2.1
          refine mcl_i (As := [.int (nI 1), .int (nI 2)]) (rest := []) ⟨hx, hb, hml, hown, hts⟩ (m_need l dC dI cB cC cI cJ cZ z0 R pl N G B 1 2 (by decide) ⟨by decide, by decide⟩ n33 s.heap.size) (cwV 2 hts kX12_expandWord_X12_need_255 rfl rfl rfl (by decide +kernel) ⟨Nat.le_of_ble_eq_true rfl, Nat.le_of_ble_eq_true rfl⟩) hK hP hD hS hA rfl rfl hl.1 (lv_room (Nat.le_of_ble_eq_true rfl)) dX12_expandWord_142 hcs (fun r_99 N_95 G_96 B_97 pl_98 hw H locs hP hD hS => ?_)
          dsimp only at hw
          obtain ⟨e3, e4, e2, hw, e5, e6⟩ := hw
          rw [e5 rfl, e2, e3, e4] at hP hD
          subst hw
          refine bz_eq (tgt := 223) hx hb (by first | omega | exact Nat.lt_of_lt_of_le (hG _ _) (by decide)) dX12_expandWord_145 (by decide) (fun q9 => absurd q9 (by omega)) (fun c => ?_)
          refine lv_aload_n hx hb dX12_expandWord_148 rfl (lv_at hl 0 rfl) ?_
          refine lv_dup hx hb dX12_expandWord_149 rfl ?_
          refine mg_36 hx hb hts inX12_expandWord hown hK hP (hts _ lkX12_expandWord_f279) dX12_expandWord_150 ?_
          refine lv_iconst (v := nI 1) hx hb dX12_expandWord_153 (by decide) ?_
          refine lv_iadd hx hb dX12_expandWord_154 ?_
          refine tp_i (nI_add (N 36) 1) ?_
          refine mp_36 hx hb hts inX12_expandWord hown hK hP hD hS (hts _ lkX12_expandWord_f279) dX12_expandWord_155 (fun H locs hP hD hS => ?_)
          refine lv_aload_n hx hb dX12_expandWord_158 rfl (lv_at hl 0 rfl) ?_
          refine lv_iload_n hx hb dX12_expandWord_159 rfl (lv_at hl 2 rfl) ?_
          refine lv_iload_n hx hb dX12_expandWord_160 rfl (lv_at hl 3 rfl) ?_
          refine lv_iload hx hb dX12_expandWord_161 (lv_at hl 4 rfl) ?_
          obtain ⟨M, hM⟩ : ∃ M, M = va_up N 36 (N 36 + 1) := ⟨_, rfl⟩
          rw [← hM] at hP hD
          have hxm : XI M G sz az := by rw [hM]; exact hxi.binder c6
          have htm : TSK M G sz w := by rw [hM]; exact htk
          have m33 : M 33 = 0 := by rw [hM]; exact h33
          have m36 : M 36 = N 36 + 1 := by rw [hM]; rfl
          have m23 : M 23 = N 23 := by rw [hM]; rfl
          have m27 : M 27 = N 27 := by rw [hM]; rfl
          have m34 : M 34 = N 34 := by rw [hM]; rfl
          have m14 : M 14 = N 14 := by rw [hM]; rfl
          have hbm : BUD M (w + (3 * sz f - 1)) x := by rw [hM]; exact hbu
          have hxt : XT N G B sz M G B sz := XT.nums (fun k hk => by rw [hM]; exact va_up_ne _ _ (by omega))
          refine mcl_v (As := [.int (nI f), .int (nI en), .int (nI dp)]) (rest := []) ⟨hx, hb, hml, hown, hts⟩ (m_lambda l dC dI cB cC cI cJ cZ z0 R pl M G B f en dp w x sz az hxm htm m33 (by omega) (by omega) hdp hbm (by omega) (by omega) (by omega) H.size) (cwV 3 hts kX12_expandWord_X12_lambda_282 rfl rfl rfl (by decide +kernel) ⟨Nat.le_of_ble_eq_true rfl, Nat.le_of_ble_eq_true rfl⟩) hK hP hD hS hA rfl rfl hl.1 (lv_room (Nat.le_of_ble_eq_true rfl)) dX12_expandWord_163 hcs (fun  N_100 G_101 B_102 pl_103 hw H locs hP hD hS => ?_)
          dsimp only at hw
          obtain ⟨e4, hw⟩ := hw
          rw [e4] at hP hD
          refine lv_goto (tgt := 223) hx hb dX12_expandWord_166 (by decide) ?_
          exact W.vret hx hb hr (fun t ht hW => ⟨⟨(N_100, G_101, B_102, pl), rfl, ⟨rfl, XPOST.trans hxt hw⟩, by rw [ht]; exact hP, va_K.moved hW.alike hK, hD⟩, hS.F ht⟩) hS.2.2 dX12_expandWord_223
    · refine lv_aload_n hx hb dX12_expandWord_66 rfl (lv_at hl 0 rfl) ?_
      refine lv_aload_n hx hb dX12_expandWord_67 rfl (lv_at hl 0 rfl) ?_
      refine lv_iload_n hx hb dX12_expandWord_68 rfl (lv_at hl 2 rfl) ?_
      refine lv_iconst (v := nI 4) hx hb dX12_expandWord_69 (by decide) ?_
      refine mcl_i (As := [.int (nI f), .int (nI 4)]) (rest := [.ref z0]) ⟨hx, hb, hml, hown, hts⟩ (m_isList l dC dI cB cC cI cJ cZ z0 R pl N G B f 4 hG2 (by omega) (by omega) s.heap.size) (cwV 2 hts kX12_expandWord_X12_isList_276 rfl rfl rfl (by decide +kernel) ⟨Nat.le_of_ble_eq_true rfl, Nat.le_of_ble_eq_true rfl⟩) hK hP hD hS hA rfl rfl hl.1 (lv_room (Nat.le_of_ble_eq_true rfl)) dX12_expandWord_70 hcs (fun r_53 N_49 G_50 B_51 pl_52 hw H locs hP hD hS => ?_)
      dsimp only at hw
      obtain ⟨e1, e2, e3, e4, hw⟩ := hw
      rw [e1, e2, e3, e4] at hP hD
      have hw : r_53 = nI (if G 10 f = 2 ∧ G 12 f = 4 then 1 else 0) := hw
      by_cases c_48 : G 10 f = 2 ∧ G 12 f = 4
      · rw [if_pos c_48] at hw
        subst hw
        obtain ⟨q1, q2⟩ := c_48
        have hrun : RUN N G B sz N G B az w 0 := RUN.start hxi htk h33
        have hnum := hrun.num hbu (by omega) (by omega)
        have hG2 := hrun.1.1.1
        have htr := hrun.1.1.2.2.1
        have hal2 := hrun.1.1.2.1
        have n14 := hrun.2.2.2.2.2.2.2.1
        have n23 := hrun.2.2.2.2.2.2.2.2
        have n33 := hrun.2.2.2.2.2.1
        refine lv_iconst (v := nI 3) hx hb dX12_expandWord_73 (by decide) ?_
        refine mcl_i (As := [.int (nI 1), .int (nI 3)]) (rest := []) ⟨hx, hb, hml, hown, hts⟩ (m_need l dC dI cB cC cI cJ cZ z0 R pl N G B 1 3 (by decide) ⟨by decide, by decide⟩ n33 H.size) (cwV 2 hts kX12_expandWord_X12_need_255 rfl rfl rfl (by decide +kernel) ⟨Nat.le_of_ble_eq_true rfl, Nat.le_of_ble_eq_true rfl⟩) hK hP hD hS hA rfl rfl hl.1 (lv_room (Nat.le_of_ble_eq_true rfl)) dX12_expandWord_74 hcs (fun r_63 N_59 G_60 B_61 pl_62 hw H locs hP hD hS => ?_)
        dsimp only at hw
        obtain ⟨e3, e4, e2, hw, e5, e6⟩ := hw
        rw [e5 rfl, e2, e3, e4] at hP hD
        subst hw
        refine bz_eq (tgt := 223) hx hb (by first | omega | exact Nat.lt_of_lt_of_le (hG _ _) (by decide)) dX12_expandWord_77 (by decide) (fun q9 => absurd q9 (by omega)) (fun c => ?_)
        refine lv_aload_n hx hb dX12_expandWord_80 rfl (lv_at hl 0 rfl) ?_
        refine lv_bipush (v := nI 40) hx hb dX12_expandWord_81 (by decide) ?_
        refine mcl_v (As := [.int (nI 40)]) (rest := []) ⟨hx, hb, hml, hown, hts⟩ (m_say l dC dI cB cC cI cJ cZ z0 R pl N G B ((nI 40)) (by omega) H.size) (cwV 1 hts kX12_expandWord_X12_say_226 rfl rfl rfl (by decide +kernel) ⟨Nat.le_of_ble_eq_true rfl, Nat.le_of_ble_eq_true rfl⟩) hK hP hD hS hA rfl rfl hl.1 (lv_room (Nat.le_of_ble_eq_true rfl)) dX12_expandWord_83 hcs (fun  N_64 G_65 B_66 pl_67 hw H locs hP hD hS => ?_)
        dsimp only at hw
        obtain ⟨e2, e4, e1, X, e3⟩ := hw
        have hrun : RUN N G B sz N_64 G B_66 az w 1 := by rw [e1, e3]; exact hrun.say 1 X (by omega)
        rw [e2, e4] at hP hD
        have hnum := hrun.num hbu (by omega) (by omega)
        have hG2 := hrun.1.1.1
        have htr := hrun.1.1.2.2.1
        have hal2 := hrun.1.1.2.1
        have n14 := hrun.2.2.2.2.2.2.2.1
        have n23 := hrun.2.2.2.2.2.2.2.2
        have n33 := hrun.2.2.2.2.2.1
        refine lv_aload_n hx hb dX12_expandWord_86 rfl (lv_at hl 0 rfl) ?_
        refine lv_iconst (v := nI 1) hx hb dX12_expandWord_87 (by decide) ?_
        have e5 : G 5 2 ≤ 4200 := by rw [hrun.2.2.1.2.1 5 (by omega)]; exact hlt.2.2.2 2 (by omega)
        refine mcl_v (As := [.int (nI 1)]) (rest := []) ⟨hx, hb, hml, hown, hts⟩ (m_saySymbol l dC dI cB cC cI cJ cZ z0 R pl N_64 G B_66 1 hG2 (by decide) (e5) (by omega) H.size) (cwV 1 hts kX12_expandWord_X12_saySymbol_245 rfl rfl rfl (by decide +kernel) ⟨Nat.le_of_ble_eq_true rfl, Nat.le_of_ble_eq_true rfl⟩) hK hP hD hS hA rfl rfl hl.1 (lv_room (Nat.le_of_ble_eq_true rfl)) dX12_expandWord_88 hcs (fun  N_69 G_70 B_71 pl_72 hw H locs hP hD hS => ?_)
        dsimp only at hw
        obtain ⟨e2, e4, n9, X, hn9, e1, e3⟩ := hw
        have hrun : RUN N G B sz N_69 G B_71 az w 4201 := by rw [e1, e3]; exact hrun.say n9 X (by omega)
        rw [e2, e4] at hP hD
        have hnum := hrun.num hbu (by omega) (by omega)
        have hG2 := hrun.1.1.1
        have htr := hrun.1.1.2.2.1
        have hal2 := hrun.1.1.2.1
        have n14 := hrun.2.2.2.2.2.2.2.1
        have n23 := hrun.2.2.2.2.2.2.2.2
        have n33 := hrun.2.2.2.2.2.1
        refine lv_aload_n hx hb dX12_expandWord_91 rfl (lv_at hl 0 rfl) ?_
        refine lv_bipush (v := nI 32) hx hb dX12_expandWord_92 (by decide) ?_
        refine mcl_v (As := [.int (nI 32)]) (rest := []) ⟨hx, hb, hml, hown, hts⟩ (m_say l dC dI cB cC cI cJ cZ z0 R pl N_69 G B_71 ((nI 32)) (by omega) H.size) (cwV 1 hts kX12_expandWord_X12_say_226 rfl rfl rfl (by decide +kernel) ⟨Nat.le_of_ble_eq_true rfl, Nat.le_of_ble_eq_true rfl⟩) hK hP hD hS hA rfl rfl hl.1 (lv_room (Nat.le_of_ble_eq_true rfl)) dX12_expandWord_94 hcs (fun  N_74 G_75 B_76 pl_77 hw H locs hP hD hS => ?_)
        dsimp only at hw
        obtain ⟨e2, e4, e1, X, e3⟩ := hw
        have hrun : RUN N G B sz N_74 G B_76 az w 4202 := by rw [e1, e3]; exact hrun.say 1 X (by omega)
        rw [e2, e4] at hP hD
        have hnum := hrun.num hbu (by omega) (by omega)
        have hG2 := hrun.1.1.1
        have htr := hrun.1.1.2.2.1
        have hal2 := hrun.1.1.2.1
        have n14 := hrun.2.2.2.2.2.2.2.1
        have n23 := hrun.2.2.2.2.2.2.2.2
        have n33 := hrun.2.2.2.2.2.1
        refine lv_aload_n hx hb dX12_expandWord_97 rfl (lv_at hl 0 rfl) ?_
        refine lv_iconst (v := nI 2) hx hb dX12_expandWord_98 (by decide) ?_
        refine lv_bipush (v := nI 41) hx hb dX12_expandWord_99 (by decide) ?_
        refine lv_iconst (v := nI 0) hx hb dX12_expandWord_101 (by decide) ?_
        refine lv_iconst (v := nI 0) hx hb dX12_expandWord_102 (by decide) ?_
        refine mcl_v (As := [.int (nI 2), .int (nI 41), .int (nI 0), .int (nI 0)]) (rest := []) ⟨hx, hb, hml, hown, hts⟩ (m_task l dC dI cB cC cI cJ cZ z0 R pl N_74 G B_76 2 41 0 0 (by decide) (by omega) H.size) (cwV 4 hts kX12_expandWord_X12_task_232 rfl rfl rfl (by decide +kernel) ⟨Nat.le_of_ble_eq_true rfl, Nat.le_of_ble_eq_true rfl⟩) hK hP hD hS hA rfl rfl hl.1 (lv_room (Nat.le_of_ble_eq_true rfl)) dX12_expandWord_103 hcs (fun  N_79 G_80 B_81 pl_82 hw H locs hP hD hS => ?_)
        dsimp only at hw
        obtain ⟨e3, e4, e1, e2⟩ := hw
        have hrun : RUN N G B sz N_79 G_80 B_76 az (w + 1) 4202 := by rw [e1, e2]; exact hrun.task (by decide) (fun z => absurd rfl z) (fun z => absurd z (by decide)) (by omega) (by omega) (by omega) (by rw [if_pos rfl]; omega)
        rw [e3, e4] at hP hD
        have hnum := hrun.num hbu (by omega) (by omega)
        have hG2 := hrun.1.1.1
        have htr := hrun.1.1.2.2.1
        have hal2 := hrun.1.1.2.1
        have n14 := hrun.2.2.2.2.2.2.2.1
        have n23 := hrun.2.2.2.2.2.2.2.2
        have n33 := hrun.2.2.2.2.2.1
        refine lv_aload_n hx hb dX12_expandWord_106 rfl (lv_at hl 0 rfl) ?_
        refine lv_iconst (v := nI 0) hx hb dX12_expandWord_107 (by decide) ?_
        refine lv_iload_n hx hb dX12_expandWord_108 rfl (lv_at hl 2 rfl) ?_
        refine lv_iconst (v := nI 1) hx hb dX12_expandWord_109 (by decide) ?_
        refine lv_iload_n hx hb dX12_expandWord_110 rfl (lv_at hl 3 rfl) ?_
        refine lv_iload hx hb dX12_expandWord_111 (lv_at hl 4 rfl) ?_
        refine lv_iconst (v := nI 1) hx hb dX12_expandWord_113 (by decide) ?_
        refine lv_iadd hx hb dX12_expandWord_114 ?_
        refine tp_i (nI_add dp 1) ?_
        refine mcl_v (As := [.int (nI 0), .int (nI f), .int (nI 1), .int (nI en), .int (nI (dp + 1))]) (rest := []) ⟨hx, hb, hml, hown, hts⟩ (m_taskParts l dC dI cB cC cI cJ cZ z0 R pl N_79 G_80 B_76 0 f 1 en (dp + 1) (w + 1) sz hG2 htr hrun.2.1 (by omega) (by omega) (by decide) (fun _ => ⟨by omega, by omega⟩) (by omega) (by omega) (by omega) H.size) (cwV 5 hts kX12_expandWord_X12_taskParts_248 rfl rfl rfl (by decide +kernel) ⟨Nat.le_of_ble_eq_true rfl, Nat.le_of_ble_eq_true rfl⟩) hK hP hD hS hA rfl rfl hl.1 (lv_room (Nat.le_of_ble_eq_true rfl)) dX12_expandWord_115 hcs (fun  N_84 G_85 B_86 pl_87 hw H locs hP hD hS => ?_)
        dsimp only at hw
        obtain ⟨e3, e4, q9, w_89, e1, hg9, hk9, ht9, hw9⟩ := hw
        have hrun : RUN N G B sz N_84 G_85 B_76 az w_89 4202 := by rw [e1] at ht9 ⊢; exact hrun.parts hg9 hk9 ht9
        rw [e3, e4] at hP hD
        have hnum := hrun.num hbu (by omega) (by omega)
        have hG2 := hrun.1.1.1
        have htr := hrun.1.1.2.2.1
        have hal2 := hrun.1.1.2.1
        have n14 := hrun.2.2.2.2.2.2.2.1
        have n23 := hrun.2.2.2.2.2.2.2.2
        have n33 := hrun.2.2.2.2.2.1
        refine lv_goto (tgt := 223) hx hb dX12_expandWord_118 (by decide) ?_
        exact W.vret hx hb hr (fun t ht hW => ⟨⟨(N_84, G_85, B_76, pl), rfl, ⟨rfl, hrun.post hbu (by omega) (by decide)⟩, by rw [ht]; exact hP, va_K.moved hW.alike hK, hD⟩, hS.F ht⟩) hS.2.2 dX12_expandWord_223
      · rw [if_neg c_48] at hw
        subst hw
        have hrun : RUN N G B sz N G B az w 0 := RUN.start hxi htk h33
        have hnum := hrun.num hbu (by omega) (by omega)
        have hG2 := hrun.1.1.1
        have htr := hrun.1.1.2.2.1
        have hal2 := hrun.1.1.2.1
        have n14 := hrun.2.2.2.2.2.2.2.1
        have n23 := hrun.2.2.2.2.2.2.2.2
        have n33 := hrun.2.2.2.2.2.1
        refine lv_iconst (v := nI 3) hx hb dX12_expandWord_73 (by decide) ?_
        refine mcl_i (As := [.int (nI 0), .int (nI 3)]) (rest := []) ⟨hx, hb, hml, hown, hts⟩ (m_need l dC dI cB cC cI cJ cZ z0 R pl N G B 0 3 (by decide) ⟨by decide, by decide⟩ n33 H.size) (cwV 2 hts kX12_expandWord_X12_need_255 rfl rfl rfl (by decide +kernel) ⟨Nat.le_of_ble_eq_true rfl, Nat.le_of_ble_eq_true rfl⟩) hK hP hD hS hA rfl rfl hl.1 (lv_room (Nat.le_of_ble_eq_true rfl)) dX12_expandWord_74 hcs (fun r_58 N_54 G_55 B_56 pl_57 hw H locs hP hD hS => ?_)
        dsimp only at hw
        obtain ⟨e3, e4, e2, hw, e5, e6⟩ := hw
        rw [e6 rfl, e2, e3, e4] at hP hD
        subst hw
        refine bz_eq (tgt := 223) hx hb (by first | omega | exact Nat.lt_of_lt_of_le (hG _ _) (by decide)) dX12_expandWord_77 (by decide) (fun c => ?_) (fun q9 => absurd q9 (by omega))
        exact W.vret hx hb hr (fun t ht hW => ⟨⟨(va_up N 33 3, G, B, pl), rfl, ⟨rfl, hrun.fail hbu (by omega) (Or.inl rfl) (by decide) (by decide)⟩, by rw [ht]; exact hP, va_K.moved hW.alike hK, hD⟩, hS.F ht⟩) hS.2.2 dX12_expandWord_223
  · refine lv_aload_n hx hb dX12_expandWord_5 rfl (lv_at hl 0 rfl) ?_
    refine lv_aload_n hx hb dX12_expandWord_6 rfl (lv_at hl 0 rfl) ?_
    refine lv_iload_n hx hb dX12_expandWord_7 rfl (lv_at hl 2 rfl) ?_
    refine lv_iconst (v := nI 2) hx hb dX12_expandWord_8 (by decide) ?_
    refine mcl_i (As := [.int (nI f), .int (nI 2)]) (rest := [.ref z0]) ⟨hx, hb, hml, hown, hts⟩ (m_isList l dC dI cB cC cI cJ cZ z0 R pl N G B f 2 hG2 (by omega) (by omega) s.heap.size) (cwV 2 hts kX12_expandWord_X12_isList_276 rfl rfl rfl (by decide +kernel) ⟨Nat.le_of_ble_eq_true rfl, Nat.le_of_ble_eq_true rfl⟩) hK hP hD hS hA rfl rfl hl.1 (lv_room (Nat.le_of_ble_eq_true rfl)) dX12_expandWord_9 hcs (fun r_6 N_2 G_3 B_4 pl_5 hw H locs hP hD hS => ?_)
    dsimp only at hw
    obtain ⟨e1, e2, e3, e4, hw⟩ := hw
    rw [e1, e2, e3, e4] at hP hD
    have hw : r_6 = nI (if G 10 f = 2 ∧ G 12 f = 2 then 1 else 0) := hw
    by_cases c_1 : G 10 f = 2 ∧ G 12 f = 2
    · rw [if_pos c_1] at hw
      subst hw
      obtain ⟨q1, q2⟩ := c_1
      have hs2 := ht9.lt hf (show 1 < G 12 f by omega)
      have hp2 := (ht9.pt hf (show 1 < G 12 f by omega)).2.1
      have hrun : RUN N G B sz N G B az w 0 := RUN.start hxi htk h33
      have hnum := hrun.num hbu (by omega) (by omega)
      have hG2 := hrun.1.1.1
      have htr := hrun.1.1.2.2.1
      have hal2 := hrun.1.1.2.1
      have n14 := hrun.2.2.2.2.2.2.2.1
      have n23 := hrun.2.2.2.2.2.2.2.2
      have n33 := hrun.2.2.2.2.2.1
      refine lv_iconst (v := nI 3) hx hb dX12_expandWord_12 (by decide) ?_
      refine mcl_i (As := [.int (nI 1), .int (nI 3)]) (rest := []) ⟨hx, hb, hml, hown, hts⟩ (m_need l dC dI cB cC cI cJ cZ z0 R pl N G B 1 3 (by decide) ⟨by decide, by decide⟩ n33 H.size) (cwV 2 hts kX12_expandWord_X12_need_255 rfl rfl rfl (by decide +kernel) ⟨Nat.le_of_ble_eq_true rfl, Nat.le_of_ble_eq_true rfl⟩) hK hP hD hS hA rfl rfl hl.1 (lv_room (Nat.le_of_ble_eq_true rfl)) dX12_expandWord_13 hcs (fun r_16 N_12 G_13 B_14 pl_15 hw H locs hP hD hS => ?_)
      dsimp only at hw
      obtain ⟨e3, e4, e2, hw, e5, e6⟩ := hw
      rw [e5 rfl, e2, e3, e4] at hP hD
      subst hw
      refine bz_eq (tgt := 223) hx hb (by first | omega | exact Nat.lt_of_lt_of_le (hG _ _) (by decide)) dX12_expandWord_16 (by decide) (fun q9 => absurd q9 (by omega)) (fun c => ?_)
      refine lv_aload_n hx hb dX12_expandWord_19 rfl (lv_at hl 0 rfl) ?_
      refine lv_bipush (v := nI 40) hx hb dX12_expandWord_20 (by decide) ?_
      refine mcl_v (As := [.int (nI 40)]) (rest := []) ⟨hx, hb, hml, hown, hts⟩ (m_say l dC dI cB cC cI cJ cZ z0 R pl N G B ((nI 40)) (by omega) H.size) (cwV 1 hts kX12_expandWord_X12_say_226 rfl rfl rfl (by decide +kernel) ⟨Nat.le_of_ble_eq_true rfl, Nat.le_of_ble_eq_true rfl⟩) hK hP hD hS hA rfl rfl hl.1 (lv_room (Nat.le_of_ble_eq_true rfl)) dX12_expandWord_22 hcs (fun  N_17 G_18 B_19 pl_20 hw H locs hP hD hS => ?_)
      dsimp only at hw
      obtain ⟨e2, e4, e1, X, e3⟩ := hw
      have hrun : RUN N G B sz N_17 G B_19 az w 1 := by rw [e1, e3]; exact hrun.say 1 X (by omega)
      rw [e2, e4] at hP hD
      have hnum := hrun.num hbu (by omega) (by omega)
      have hG2 := hrun.1.1.1
      have htr := hrun.1.1.2.2.1
      have hal2 := hrun.1.1.2.1
      have n14 := hrun.2.2.2.2.2.2.2.1
      have n23 := hrun.2.2.2.2.2.2.2.2
      have n33 := hrun.2.2.2.2.2.1
      refine lv_aload_n hx hb dX12_expandWord_25 rfl (lv_at hl 0 rfl) ?_
      refine lv_iconst (v := nI 2) hx hb dX12_expandWord_26 (by decide) ?_
      have e5 : G 5 3 ≤ 4200 := by rw [hrun.2.2.1.2.1 5 (by omega)]; exact hlt.2.2.2 3 (by omega)
      refine mcl_v (As := [.int (nI 2)]) (rest := []) ⟨hx, hb, hml, hown, hts⟩ (m_saySymbol l dC dI cB cC cI cJ cZ z0 R pl N_17 G B_19 2 hG2 (by decide) (e5) (by omega) H.size) (cwV 1 hts kX12_expandWord_X12_saySymbol_245 rfl rfl rfl (by decide +kernel) ⟨Nat.le_of_ble_eq_true rfl, Nat.le_of_ble_eq_true rfl⟩) hK hP hD hS hA rfl rfl hl.1 (lv_room (Nat.le_of_ble_eq_true rfl)) dX12_expandWord_27 hcs (fun  N_22 G_23 B_24 pl_25 hw H locs hP hD hS => ?_)
      dsimp only at hw
      obtain ⟨e2, e4, n9, X, hn9, e1, e3⟩ := hw
      have hrun : RUN N G B sz N_22 G B_24 az w 4201 := by rw [e1, e3]; exact hrun.say n9 X (by omega)
      rw [e2, e4] at hP hD
      have hnum := hrun.num hbu (by omega) (by omega)
      have hG2 := hrun.1.1.1
      have htr := hrun.1.1.2.2.1
      have hal2 := hrun.1.1.2.1
      have n14 := hrun.2.2.2.2.2.2.2.1
      have n23 := hrun.2.2.2.2.2.2.2.2
      have n33 := hrun.2.2.2.2.2.1
      refine lv_aload_n hx hb dX12_expandWord_30 rfl (lv_at hl 0 rfl) ?_
      refine lv_bipush (v := nI 32) hx hb dX12_expandWord_31 (by decide) ?_
      refine mcl_v (As := [.int (nI 32)]) (rest := []) ⟨hx, hb, hml, hown, hts⟩ (m_say l dC dI cB cC cI cJ cZ z0 R pl N_22 G B_24 ((nI 32)) (by omega) H.size) (cwV 1 hts kX12_expandWord_X12_say_226 rfl rfl rfl (by decide +kernel) ⟨Nat.le_of_ble_eq_true rfl, Nat.le_of_ble_eq_true rfl⟩) hK hP hD hS hA rfl rfl hl.1 (lv_room (Nat.le_of_ble_eq_true rfl)) dX12_expandWord_33 hcs (fun  N_27 G_28 B_29 pl_30 hw H locs hP hD hS => ?_)
      dsimp only at hw
      obtain ⟨e2, e4, e1, X, e3⟩ := hw
      have hrun : RUN N G B sz N_27 G B_29 az w 4202 := by rw [e1, e3]; exact hrun.say 1 X (by omega)
      rw [e2, e4] at hP hD
      have hnum := hrun.num hbu (by omega) (by omega)
      have hG2 := hrun.1.1.1
      have htr := hrun.1.1.2.2.1
      have hal2 := hrun.1.1.2.1
      have n14 := hrun.2.2.2.2.2.2.2.1
      have n23 := hrun.2.2.2.2.2.2.2.2
      have n33 := hrun.2.2.2.2.2.1
      refine lv_aload_n hx hb dX12_expandWord_36 rfl (lv_at hl 0 rfl) ?_
      refine lv_iconst (v := nI 2) hx hb dX12_expandWord_37 (by decide) ?_
      refine lv_bipush (v := nI 41) hx hb dX12_expandWord_38 (by decide) ?_
      refine lv_iconst (v := nI 0) hx hb dX12_expandWord_40 (by decide) ?_
      refine lv_iconst (v := nI 0) hx hb dX12_expandWord_41 (by decide) ?_
      refine mcl_v (As := [.int (nI 2), .int (nI 41), .int (nI 0), .int (nI 0)]) (rest := []) ⟨hx, hb, hml, hown, hts⟩ (m_task l dC dI cB cC cI cJ cZ z0 R pl N_27 G B_29 2 41 0 0 (by decide) (by omega) H.size) (cwV 4 hts kX12_expandWord_X12_task_232 rfl rfl rfl (by decide +kernel) ⟨Nat.le_of_ble_eq_true rfl, Nat.le_of_ble_eq_true rfl⟩) hK hP hD hS hA rfl rfl hl.1 (lv_room (Nat.le_of_ble_eq_true rfl)) dX12_expandWord_42 hcs (fun  N_32 G_33 B_34 pl_35 hw H locs hP hD hS => ?_)
      dsimp only at hw
      obtain ⟨e3, e4, e1, e2⟩ := hw
      have hrun : RUN N G B sz N_32 G_33 B_29 az (w + 1) 4202 := by rw [e1, e2]; exact hrun.task (by decide) (fun z => absurd rfl z) (fun z => absurd z (by decide)) (by omega) (by omega) (by omega) (by rw [if_pos rfl]; omega)
      rw [e3, e4] at hP hD
      have hnum := hrun.num hbu (by omega) (by omega)
      have hG2 := hrun.1.1.1
      have htr := hrun.1.1.2.2.1
      have hal2 := hrun.1.1.2.1
      have n14 := hrun.2.2.2.2.2.2.2.1
      have n23 := hrun.2.2.2.2.2.2.2.2
      have n33 := hrun.2.2.2.2.2.1
      refine lv_aload_n hx hb dX12_expandWord_45 rfl (lv_at hl 0 rfl) ?_
      refine lv_iconst (v := nI 1) hx hb dX12_expandWord_46 (by decide) ?_
      refine lv_aload_n hx hb dX12_expandWord_47 rfl (lv_at hl 0 rfl) ?_
      refine lv_iload_n hx hb dX12_expandWord_48 rfl (lv_at hl 2 rfl) ?_
      refine lv_iconst (v := nI 1) hx hb dX12_expandWord_49 (by decide) ?_
      obtain ⟨t_37, t_37b, t_37c, t_37d⟩ := ht9.pt (f := f) (k := 1) (hf) (by omega)
      have hco := hrun.2.2.2.2.2.2.1
      refine mcl_i (As := [.int (nI f), .int (nI 1)]) (rest := [.int (nI 1), .ref z0]) ⟨hx, hb, hml, hown, hts⟩ (m_part l dC dI cB cC cI cJ cZ z0 R pl N_32 G_33 B_29 f 1 hG2 t_37d (by rw [hco.2.1]; exact t_37) H.size) (cwV 2 hts kX12_expandWord_X12_part_192 rfl rfl rfl (by decide +kernel) ⟨Nat.le_of_ble_eq_true rfl, Nat.le_of_ble_eq_true rfl⟩) hK hP hD hS hA rfl rfl hl.1 (lv_room (Nat.le_of_ble_eq_true rfl)) dX12_expandWord_50 hcs (fun r_42 N_38 G_39 B_40 pl_41 hw H locs hP hD hS => ?_)
      dsimp only at hw
      obtain ⟨e1, e2, e3, e4, hw⟩ := hw
      rw [e1, e2, e3, e4] at hP hD
      subst hw
      refine tp_i (y := nI (CH G f 1)) (by show nI (G_33 13 (G_33 11 f + 1)) = _; rw [hco.2.1, hco.2.2.2.1]) ?_
      refine lv_iconst (v := nI 0) hx hb dX12_expandWord_53 (by decide) ?_
      refine lv_iconst (v := nI 0) hx hb dX12_expandWord_54 (by decide) ?_
      refine mcl_v (As := [.int (nI 1), .int (nI (CH G f 1)), .int (nI 0), .int (nI 0)]) (rest := []) ⟨hx, hb, hml, hown, hts⟩ (m_task l dC dI cB cC cI cJ cZ z0 R pl N_32 G_33 B_29 1 (CH G f 1) 0 0 (by decide) (by omega) H.size) (cwV 4 hts kX12_expandWord_X12_task_232 rfl rfl rfl (by decide +kernel) ⟨Nat.le_of_ble_eq_true rfl, Nat.le_of_ble_eq_true rfl⟩) hK hP hD hS hA rfl rfl hl.1 (lv_room (Nat.le_of_ble_eq_true rfl)) dX12_expandWord_55 hcs (fun  N_43 G_44 B_45 pl_46 hw H locs hP hD hS => ?_)
      dsimp only at hw
      obtain ⟨e3, e4, e1, e2⟩ := hw
      have hrun : RUN N G B sz N_43 G_44 B_29 az (w + 1 + (3 * sz (CH G f 1) - 1)) 4202 := by rw [e1, e2]; exact hrun.task (by decide) (fun _ => by omega) (fun z => absurd z (by decide)) (by omega) (by omega) (by omega) (by rw [if_neg (by decide)]; omega)
      rw [e3, e4] at hP hD
      have hnum := hrun.num hbu (by omega) (by omega)
      have hG2 := hrun.1.1.1
      have htr := hrun.1.1.2.2.1
      have hal2 := hrun.1.1.2.1
      have n14 := hrun.2.2.2.2.2.2.2.1
      have n23 := hrun.2.2.2.2.2.2.2.2
      have n33 := hrun.2.2.2.2.2.1
      refine lv_goto (tgt := 223) hx hb dX12_expandWord_58 (by decide) ?_
      exact W.vret hx hb hr (fun t ht hW => ⟨⟨(N_43, G_44, B_29, pl), rfl, ⟨rfl, hrun.post hbu (by omega) (by decide)⟩, by rw [ht]; exact hP, va_K.moved hW.alike hK, hD⟩, hS.F ht⟩) hS.2.2 dX12_expandWord_223
    · rw [if_neg c_1] at hw
      subst hw
      have hrun : RUN N G B sz N G B az w 0 := RUN.start hxi htk h33
      have hnum := hrun.num hbu (by omega) (by omega)
      have hG2 := hrun.1.1.1
      have htr := hrun.1.1.2.2.1
      have hal2 := hrun.1.1.2.1
      have n14 := hrun.2.2.2.2.2.2.2.1
      have n23 := hrun.2.2.2.2.2.2.2.2
      have n33 := hrun.2.2.2.2.2.1
      refine lv_iconst (v := nI 3) hx hb dX12_expandWord_12 (by decide) ?_
      refine mcl_i (As := [.int (nI 0), .int (nI 3)]) (rest := []) ⟨hx, hb, hml, hown, hts⟩ (m_need l dC dI cB cC cI cJ cZ z0 R pl N G B 0 3 (by decide) ⟨by decide, by decide⟩ n33 H.size) (cwV 2 hts kX12_expandWord_X12_need_255 rfl rfl rfl (by decide +kernel) ⟨Nat.le_of_ble_eq_true rfl, Nat.le_of_ble_eq_true rfl⟩) hK hP hD hS hA rfl rfl hl.1 (lv_room (Nat.le_of_ble_eq_true rfl)) dX12_expandWord_13 hcs (fun r_11 N_7 G_8 B_9 pl_10 hw H locs hP hD hS => ?_)
      dsimp only at hw
      obtain ⟨e3, e4, e2, hw, e5, e6⟩ := hw
      rw [e6 rfl, e2, e3, e4] at hP hD
      subst hw
      refine bz_eq (tgt := 223) hx hb (by first | omega | exact Nat.lt_of_lt_of_le (hG _ _) (by decide)) dX12_expandWord_16 (by decide) (fun c => ?_) (fun q9 => absurd q9 (by omega))
      exact W.vret hx hb hr (fun t ht hW => ⟨⟨(va_up N 33 3, G, B, pl), rfl, ⟨rfl, hrun.fail hbu (by omega) (Or.inl rfl) (by decide) (by decide)⟩, by rw [ht]; exact hP, va_K.moved hW.alike hK, hD⟩, hS.F ht⟩) hS.2.2 dX12_expandWord_223
