def oX12_top : List Cond := [Cond.fieldLink RX12 229 "MacroScopesModel" "todo" "I", Cond.methodLink RX12 232 yX12_task, Cond.instanceMethod yX12_task, Cond.selects RX12 yX12_task yX12_task, Cond.initialized RX12, Cond.methodLink RX12 399 yX12_doAll, Cond.instanceMethod yX12_doAll, Cond.selects RX12 yX12_doAll yX12_doAll, Cond.methodLink RX12 226 yX12_say, Cond.instanceMethod yX12_say, Cond.selects RX12 yX12_say yX12_say, Cond.methodLink RX12 245 yX12_saySymbol, Cond.instanceMethod yX12_saySymbol, Cond.selects RX12 yX12_saySymbol yX12_saySymbol, Cond.methodLink RX12 192 yX12_part, Cond.instanceMethod yX12_part, Cond.selects RX12 yX12_part yX12_part, Cond.fieldLink RX12 236 "MacroScopesModel" "fault" "I", Cond.fieldLink RX12 25 "MacroScopesModel" "defined" "[I", Cond.methodLink RX12 276 yX12_isList, Cond.instanceMethod yX12_isList, Cond.selects RX12 yX12_isList yX12_isList, Cond.methodLink RX12 255 yX12_need, Cond.instanceMethod yX12_need, Cond.selects RX12 yX12_need yX12_need, Cond.methodLink RX12 180 yX12_isName, Cond.instanceMethod yX12_isName, Cond.selects RX12 yX12_isName yX12_isName, Cond.fieldLink RX12 35 "MacroScopesModel" "values" "[I", Cond.methodLink RX12 396 yX12_defineSyntax, Cond.instanceMethod yX12_defineSyntax, Cond.selects RX12 yX12_defineSyntax yX12_defineSyntax, Cond.methodLink RX12 393 yX12_isDefinition, Cond.instanceMethod yX12_isDefinition, Cond.selects RX12 yX12_isDefinition yX12_isDefinition, Cond.fieldLink RX12 223 "MacroScopesModel" "toldSize" "I"]
def vX12_top : List Cond := .code yX12_top cX12_top 6 none :: (oX12_top ++ (vX12_task ++ (vX12_doAll ++ (vX12_say ++ (vX12_saySymbol ++ (vX12_part ++ (vX12_isList ++ (vX12_need ++ (vX12_isName ++ (vX12_defineSyntax ++ (vX12_isDefinition ++ (wsX120))))))))))))
theorem lkX12_top_f229 : Cond.fieldLink RX12 229 "MacroScopesModel" "todo" "I" ∈ vX12_top := List.mem_cons_of_mem _ (List.mem_append_left _ (List.mem_of_getElem? (i := 0) rfl))
theorem lkX12_top_f236 : Cond.fieldLink RX12 236 "MacroScopesModel" "fault" "I" ∈ vX12_top := List.mem_cons_of_mem _ (List.mem_append_left _ (List.mem_of_getElem? (i := 17) rfl))
theorem lkX12_top_f25 : Cond.fieldLink RX12 25 "MacroScopesModel" "defined" "[I" ∈ vX12_top := List.mem_cons_of_mem _ (List.mem_append_left _ (List.mem_of_getElem? (i := 18) rfl))
theorem lkX12_top_f35 : Cond.fieldLink RX12 35 "MacroScopesModel" "values" "[I" ∈ vX12_top := List.mem_cons_of_mem _ (List.mem_append_left _ (List.mem_of_getElem? (i := 28) rfl))
theorem lkX12_top_f223 : Cond.fieldLink RX12 223 "MacroScopesModel" "toldSize" "I" ∈ vX12_top := List.mem_cons_of_mem _ (List.mem_append_left _ (List.mem_of_getElem? (i := 35) rfl))
theorem inX12_top : ∀ w ∈ wsX120, w ∈ vX12_top := fun w h => List.mem_cons_of_mem _ (List.mem_append_right _ (List.mem_append_right _ (List.mem_append_right _ (List.mem_append_right _ (List.mem_append_right _ (List.mem_append_right _ (List.mem_append_right _ (List.mem_append_right _ (List.mem_append_right _ (List.mem_append_right _ (List.mem_append_right _ (h))))))))))))
theorem kX12_top_X12_task_232 : GoodIn vX12_top (wsV RX12 232 RX12 yX12_task vX12_task) := goodIn_sub (fun w h => (List.mem_append.mp h).elim (fun h => List.mem_cons_of_mem _ (List.mem_append_left _ ((by decide +kernel : ∀ w ∈ ([.methodLink RX12 232 yX12_task, .instanceMethod yX12_task, .selects RX12 yX12_task yX12_task, .initialized RX12] : List Cond), w ∈ oX12_top) w h))) (fun h => List.mem_cons_of_mem _ (List.mem_append_right _ (List.mem_append_left _ (h))))) (by decide +kernel)
theorem kX12_top_X12_doAll_399 : GoodIn vX12_top (wsV RX12 399 RX12 yX12_doAll vX12_doAll) := goodIn_sub (fun w h => (List.mem_append.mp h).elim (fun h => List.mem_cons_of_mem _ (List.mem_append_left _ ((by decide +kernel : ∀ w ∈ ([.methodLink RX12 399 yX12_doAll, .instanceMethod yX12_doAll, .selects RX12 yX12_doAll yX12_doAll, .initialized RX12] : List Cond), w ∈ oX12_top) w h))) (fun h => List.mem_cons_of_mem _ (List.mem_append_right _ (List.mem_append_right _ (List.mem_append_left _ (h)))))) (by decide +kernel)
theorem kX12_top_X12_say_226 : GoodIn vX12_top (wsV RX12 226 RX12 yX12_say vX12_say) := goodIn_sub (fun w h => (List.mem_append.mp h).elim (fun h => List.mem_cons_of_mem _ (List.mem_append_left _ ((by decide +kernel : ∀ w ∈ ([.methodLink RX12 226 yX12_say, .instanceMethod yX12_say, .selects RX12 yX12_say yX12_say, .initialized RX12] : List Cond), w ∈ oX12_top) w h))) (fun h => List.mem_cons_of_mem _ (List.mem_append_right _ (List.mem_append_right _ (List.mem_append_right _ (List.mem_append_left _ (h))))))) (by decide +kernel)
theorem kX12_top_X12_saySymbol_245 : GoodIn vX12_top (wsV RX12 245 RX12 yX12_saySymbol vX12_saySymbol) := goodIn_sub (fun w h => (List.mem_append.mp h).elim (fun h => List.mem_cons_of_mem _ (List.mem_append_left _ ((by decide +kernel : ∀ w ∈ ([.methodLink RX12 245 yX12_saySymbol, .instanceMethod yX12_saySymbol, .selects RX12 yX12_saySymbol yX12_saySymbol, .initialized RX12] : List Cond), w ∈ oX12_top) w h))) (fun h => List.mem_cons_of_mem _ (List.mem_append_right _ (List.mem_append_right _ (List.mem_append_right _ (List.mem_append_right _ (List.mem_append_left _ (h)))))))) (by decide +kernel)
theorem kX12_top_X12_part_192 : GoodIn vX12_top (wsV RX12 192 RX12 yX12_part vX12_part) := goodIn_sub (fun w h => (List.mem_append.mp h).elim (fun h => List.mem_cons_of_mem _ (List.mem_append_left _ ((by decide +kernel : ∀ w ∈ ([.methodLink RX12 192 yX12_part, .instanceMethod yX12_part, .selects RX12 yX12_part yX12_part, .initialized RX12] : List Cond), w ∈ oX12_top) w h))) (fun h => List.mem_cons_of_mem _ (List.mem_append_right _ (List.mem_append_right _ (List.mem_append_right _ (List.mem_append_right _ (List.mem_append_right _ (List.mem_append_left _ (h))))))))) (by decide +kernel)
theorem kX12_top_X12_isList_276 : GoodIn vX12_top (wsV RX12 276 RX12 yX12_isList vX12_isList) := goodIn_sub (fun w h => (List.mem_append.mp h).elim (fun h => List.mem_cons_of_mem _ (List.mem_append_left _ ((by decide +kernel : ∀ w ∈ ([.methodLink RX12 276 yX12_isList, .instanceMethod yX12_isList, .selects RX12 yX12_isList yX12_isList, .initialized RX12] : List Cond), w ∈ oX12_top) w h))) (fun h => List.mem_cons_of_mem _ (List.mem_append_right _ (List.mem_append_right _ (List.mem_append_right _ (List.mem_append_right _ (List.mem_append_right _ (List.mem_append_right _ (List.mem_append_left _ (h)))))))))) (by decide +kernel)
theorem kX12_top_X12_need_255 : GoodIn vX12_top (wsV RX12 255 RX12 yX12_need vX12_need) := goodIn_sub (fun w h => (List.mem_append.mp h).elim (fun h => List.mem_cons_of_mem _ (List.mem_append_left _ ((by decide +kernel : ∀ w ∈ ([.methodLink RX12 255 yX12_need, .instanceMethod yX12_need, .selects RX12 yX12_need yX12_need, .initialized RX12] : List Cond), w ∈ oX12_top) w h))) (fun h => List.mem_cons_of_mem _ (List.mem_append_right _ (List.mem_append_right _ (List.mem_append_right _ (List.mem_append_right _ (List.mem_append_right _ (List.mem_append_right _ (List.mem_append_right _ (List.mem_append_left _ (h))))))))))) (by decide +kernel)
theorem kX12_top_X12_isName_180 : GoodIn vX12_top (wsV RX12 180 RX12 yX12_isName vX12_isName) := goodIn_sub (fun w h => (List.mem_append.mp h).elim (fun h => List.mem_cons_of_mem _ (List.mem_append_left _ ((by decide +kernel : ∀ w ∈ ([.methodLink RX12 180 yX12_isName, .instanceMethod yX12_isName, .selects RX12 yX12_isName yX12_isName, .initialized RX12] : List Cond), w ∈ oX12_top) w h))) (fun h => List.mem_cons_of_mem _ (List.mem_append_right _ (List.mem_append_right _ (List.mem_append_right _ (List.mem_append_right _ (List.mem_append_right _ (List.mem_append_right _ (List.mem_append_right _ (List.mem_append_right _ (List.mem_append_left _ (h)))))))))))) (by decide +kernel)
theorem kX12_top_X12_defineSyntax_396 : GoodIn vX12_top (wsV RX12 396 RX12 yX12_defineSyntax vX12_defineSyntax) := goodIn_sub (fun w h => (List.mem_append.mp h).elim (fun h => List.mem_cons_of_mem _ (List.mem_append_left _ ((by decide +kernel : ∀ w ∈ ([.methodLink RX12 396 yX12_defineSyntax, .instanceMethod yX12_defineSyntax, .selects RX12 yX12_defineSyntax yX12_defineSyntax, .initialized RX12] : List Cond), w ∈ oX12_top) w h))) (fun h => List.mem_cons_of_mem _ (List.mem_append_right _ (List.mem_append_right _ (List.mem_append_right _ (List.mem_append_right _ (List.mem_append_right _ (List.mem_append_right _ (List.mem_append_right _ (List.mem_append_right _ (List.mem_append_right _ (List.mem_append_left _ (h))))))))))))) (by decide +kernel)
theorem kX12_top_X12_isDefinition_393 : GoodIn vX12_top (wsV RX12 393 RX12 yX12_isDefinition vX12_isDefinition) := goodIn_sub (fun w h => (List.mem_append.mp h).elim (fun h => List.mem_cons_of_mem _ (List.mem_append_left _ ((by decide +kernel : ∀ w ∈ ([.methodLink RX12 393 yX12_isDefinition, .instanceMethod yX12_isDefinition, .selects RX12 yX12_isDefinition yX12_isDefinition, .initialized RX12] : List Cond), w ∈ oX12_top) w h))) (fun h => List.mem_cons_of_mem _ (List.mem_append_right _ (List.mem_append_right _ (List.mem_append_right _ (List.mem_append_right _ (List.mem_append_right _ (List.mem_append_right _ (List.mem_append_right _ (List.mem_append_right _ (List.mem_append_right _ (List.mem_append_right _ (List.mem_append_left _ (h)))))))))))))) (by decide +kernel)
set_option maxHeartbeats 4000000 in
set_option maxRecDepth 100000 in
theorem lp_top0 {p : Program} {l : Launch} {e : Env} {s : State} {m : MethodId} {args : Array Value} {below : List Frame} {meth : Method} {c : Code} {Q : State → Prop} {A : Nat → Prop} {dC : Nat → ClassId} {dI : Nat → Nat → Nat} {cB cC cI cJ cZ : ClassId} {z0 : Nat} {R : Nat → Nat} (hx : p.tables.exec = Jvm.exec) (hb : c.code = cX12_top) (hml : c.maxLocals = 6) (hown : s.vm.findClass RX12 = some m.cls) (hts : ∀ w ∈ vX12_top, w.before args s = true) (hK : va_K (dC, dI) vwCl (TY cB cC cI cJ cZ) s) (hA : ∀ q : Nat, s.heap.size ≤ q → A q) {pl : Int32} {N : Nat → Nat} {G : Nat → Nat → Nat} {B : Nat → Nat → Int32} {sz az : Nat → Nat} {f t R1 x : Nat} (hxi : XI N G sz az) (h33 : N 33 = 0) (hrq : RQ N G sz t) (hpl : PLN N G t) (hf : f < t) (hR : R1 + 3 * sz f ≤ 9100) (hph : PHI N (R1 + 3 * sz f) ≤ x + 1) (hx9 : x ≤ 1940000000) (kr : ∀ (N1 : Nat → Nat) (G1 : Nat → Nat → Nat) (B1 : Nat → Nat → Int32) (H : Heap) (locs : List Loc), (∃ sz1 az1, XI N1 G1 sz1 az1 ∧ RQ N1 G1 sz1 t ∧ XU N G B sz N1 G1 B1 sz1 ∧ (N1 33 = 0 → PHI N1 R1 ≤ x)) → va_P (dC, dI) vwCl (MW cB cC cI cJ cZ z0 R pl N1 G1 B1) H → va_D A (MW cB cC cI cJ cZ z0 R pl N1 G1 B1) → va_S A s.heap H locs → ∀ (ls : Array Slot), lv_has ls 6 [] → W p l e (headSpec vX12_top { frames := 10, cells := 0, slots := 0, locals := 244 }).room s m args below meth c H locs 0 0 Q (F0 m 215 ls [])) : ∀ (H : Heap) (locs : List Loc), va_P (dC, dI) vwCl (MW cB cC cI cJ cZ z0 R pl N G B) H → va_D A (MW cB cC cI cJ cZ z0 R pl N G B) → va_S A s.heap H locs → ∀ (ls : Array Slot), lv_has ls 6 [(0, .ref z0), (1, .int (nI f)), (3, .int (nI 0))] → W p l e (headSpec vX12_top { frames := 10, cells := 0, slots := 0, locals := 244 }).room s m args below meth c H locs 0 0 Q (F0 m 124 ls []) := by
  have hcs : 0 + 0 ≤ (0 : Nat) ∧ 0 + 0 ≤ (0 : Nat) := ⟨Nat.le_refl 0, Nat.le_refl 0⟩
  intro H locs hP hD hS ls hl
  have ht9 := hxi.1.2.2.1
  have hG := hxi.1.1
  have hG2 := hG
  have hal := hxi.1.2.1
  have u6 := ht9.1
  have hpl1 := hpl.1
  have hfN : f < N 14 := by omega
  have u1 := ht9.one hfN
  have hf8 : f < 90000 := by omega
  have hnf := hxi.2.2.2.2.2.1
  have hlt := hxi.2.2.2.2.1
  have hev := hxi.2.2.2.1
  have h9b := hrq.2.2.1
  have h1n := hev.1
  have h65 := hal.1
  have hs0 := (ht9.2 f hfN).2.1
  refine lv_aload_n hx hb dX12_top_124 rfl (lv_at hl 0 rfl) ?_
  refine lv_iconst (v := nI 0) hx hb dX12_top_125 (by decide) ?_
  refine mp_32 hx hb hts inX12_top hown hK hP hD hS (hts _ lkX12_top_f229) dX12_top_126 (fun H locs hP hD hS => ?_)
  have hxp : XI (va_up N 32 0) G sz az := hxi
  have htp : TSK (va_up N 32 0) G sz 0 := ⟨fun i hi => absurd hi (Nat.not_lt_zero i), Nat.le_refl _⟩
  have hxt0 : XT N G B sz (va_up N 32 0) G B sz := XT.nums (fun k hk => va_up_ne _ _ (by omega))
  have p33 : va_up N 32 0 33 = N 33 := rfl
  have p38 : va_up N 32 0 38 = N 38 := rfl
  have p35 : va_up N 32 0 35 = N 35 := rfl
  have p14 : va_up N 32 0 14 = N 14 := rfl
  have p23 : va_up N 32 0 23 = N 23 := rfl
  generalize va_up N 32 0 = P at hP hD hxp htp hxt0 p33 p38 p35 p14 p23
  rw [h33] at p33
  have hbu : BUD P (3 * sz f) (PHI P (3 * sz f)) := by unfold PHI at hph; unfold BUD PHI; rw [p38, p35]; exact ⟨by omega, Nat.le_refl _, by omega⟩
  have hxi0 := hxi
  have hxi := hxp
  have htk := htp
  have h33 := p33
  have hrun : RUN P G B sz P G B az 0 0 := RUN.start hxi htk h33
  have hnum := hrun.num hbu (by omega) (by omega)
  have hG2 := hrun.1.1.1
  have htr := hrun.1.1.2.2.1
  have hal2 := hrun.1.1.2.1
  have n14 := hrun.2.2.2.2.2.2.2.1
  have n23 := hrun.2.2.2.2.2.2.2.2
  have n33 := hrun.2.2.2.2.2.1
  refine lv_iload_n hx hb dX12_top_129 rfl (lv_at hl 2 rfl) ?_
  refine bz_eq (tgt := 171) hx hb (by first | omega | exact Nat.lt_of_lt_of_le (hG _ _) (by decide)) dX12_top_130 (by decide) (fun c => ?_) (fun q9 => absurd q9 (by omega))
  refine lv_aload_n hx hb dX12_top_171 rfl (lv_at hl 0 rfl) ?_
  refine lv_iconst (v := nI 0) hx hb dX12_top_172 (by decide) ?_
  refine lv_iload_n hx hb dX12_top_173 rfl (lv_at hl 2 rfl) ?_
  refine bz_eq (tgt := 186) hx hb (by first | omega | exact Nat.lt_of_lt_of_le (hG _ _) (by decide)) dX12_top_174 (by decide) (fun c => ?_) (fun q9 => absurd q9 (by omega))
  refine lv_iload_n hx hb dX12_top_186 rfl (lv_at hl 1 rfl) ?_
  refine lv_iconst (v := nI 0) hx hb dX12_top_187 (by decide) ?_
  refine lv_iconst (v := nI 0) hx hb dX12_top_188 (by decide) ?_
  refine mcl_v (As := [.int (nI 0), .int (nI f), .int (nI 0), .int (nI 0)]) (rest := []) ⟨hx, hb, hml, hown, hts⟩ (m_task l dC dI cB cC cI cJ cZ z0 R pl P G B 0 f 0 0 (by decide) (by omega) H.size) (cwV 4 hts kX12_top_X12_task_232 rfl rfl rfl (by decide +kernel) ⟨Nat.le_of_ble_eq_true rfl, Nat.le_of_ble_eq_true rfl⟩) hK hP hD hS hA rfl rfl hl.1 (lv_room (Nat.le_of_ble_eq_true rfl)) dX12_top_189 hcs (fun  N_1 G_2 B_3 pl_4 hw H locs hP hD hS => ?_)
  dsimp only at hw
  obtain ⟨e3, e4, e1, e2⟩ := hw
  have hrun : RUN P G B sz N_1 G_2 B az (3 * sz f - 1) 0 := by rw [e1, e2]; exact hrun.task (by decide) (fun _ => by omega) (fun _ => ⟨by omega, by decide⟩) (by omega) (by omega) (by omega) (by rw [if_neg (by decide)]; omega)
  rw [e3, e4] at hP hD
  have hnum := hrun.num hbu (by omega) (by omega)
  have hG2 := hrun.1.1.1
  have htr := hrun.1.1.2.2.1
  have hal2 := hrun.1.1.2.1
  have n14 := hrun.2.2.2.2.2.2.2.1
  have n23 := hrun.2.2.2.2.2.2.2.2
  have n33 := hrun.2.2.2.2.2.1
  refine lv_aload_n hx hb dX12_top_192 rfl (lv_at hl 0 rfl) ?_
  have hbd := hrun.bud hbu (by omega) (by decide)
  obtain ⟨x9, hx8⟩ : ∃ x9, PHI P (3 * sz f) = x9 + 1 := ⟨PHI P (3 * sz f) - 1, by unfold PHI; omega⟩
  rw [hx8] at hbd hbu
  have hbu2 : BUD N_1 (3 * sz f - 1) x9 := ⟨hbd.1, by omega, by have := hbu.2.2; omega⟩
  refine mcl_v (As := []) (rest := []) ⟨hx, hb, hml, hown, hts⟩ (m_doAll l dC dI cB cC cI cJ cZ z0 R pl N_1 G_2 B (3 * sz f - 1) x9 sz az hrun.1 hrun.2.1 hbu2 H.size) (cwV 0 hts kX12_top_X12_doAll_399 rfl rfl rfl (by decide +kernel) ⟨Nat.le_of_ble_eq_true rfl, Nat.le_of_ble_eq_true rfl⟩) hK hP hD hS hA rfl rfl hl.1 (lv_room (Nat.le_of_ble_eq_true rfl)) dX12_top_193 hcs (fun  N_6 G_7 B_8 pl_9 hw H locs hP hD hS => ?_)
  dsimp only at hw
  obtain ⟨e4, sz1, az1, w1, z1, z2, z3, z4, z5⟩ := hw
  rw [e4] at hP hD
  have hxt := hxt0.trans (hrun.2.2.1.trans z4)
  have hrq1 := hxt.rq hpl1 hrq
  have hph1 : PHI N_6 R1 ≤ x := by
    have q1 := z3.2.1
    unfold PHI at q1 hx8 hph ⊢
    rw [p38, p35] at hx8
    omega
  have n33 := z1.2.2.2.2.2.1
  refine lv_iload_n hx hb dX12_top_196 rfl (lv_at hl 2 rfl) ?_
  refine bz_eq (tgt := 215) hx hb (by first | omega | exact Nat.lt_of_lt_of_le (hG _ _) (by decide)) dX12_top_197 (by decide) (fun c => ?_) (fun q9 => absurd q9 (by omega))
  exact kr N_6 G_7 B_8 H locs ⟨sz1, az1, z1, hrq1, hxt.u, fun _ => hph1⟩ hP hD hS ls (lv_sub hl [] rfl)

set_option maxHeartbeats 4000000 in
set_option maxRecDepth 100000 in
theorem lp_top1 {p : Program} {l : Launch} {e : Env} {s : State} {m : MethodId} {args : Array Value} {below : List Frame} {meth : Method} {c : Code} {Q : State → Prop} {A : Nat → Prop} {dC : Nat → ClassId} {dI : Nat → Nat → Nat} {cB cC cI cJ cZ : ClassId} {z0 : Nat} {R : Nat → Nat} (hx : p.tables.exec = Jvm.exec) (hb : c.code = cX12_top) (hml : c.maxLocals = 6) (hown : s.vm.findClass RX12 = some m.cls) (hts : ∀ w ∈ vX12_top, w.before args s = true) (hK : va_K (dC, dI) vwCl (TY cB cC cI cJ cZ) s) (hA : ∀ q : Nat, s.heap.size ≤ q → A q) {pl : Int32} {N : Nat → Nat} {G : Nat → Nat → Nat} {B : Nat → Nat → Int32} {sz az : Nat → Nat} {f t R1 x : Nat} (hxi : XI N G sz az) (h33 : N 33 = 0) (hrq : RQ N G sz t) (hpl : PLN N G t) (hf : f < t) (hR : R1 + 3 * sz f ≤ 9100) (hph : PHI N (R1 + 3 * sz f) ≤ x + 1) (hx9 : x ≤ 1940000000) (y : Nat) (hy : y < N 6) (h12 : 2 < G 12 f) (kr : ∀ (N1 : Nat → Nat) (G1 : Nat → Nat → Nat) (B1 : Nat → Nat → Int32) (H : Heap) (locs : List Loc), (∃ sz1 az1, XI N1 G1 sz1 az1 ∧ RQ N1 G1 sz1 t ∧ XU N G B sz N1 G1 B1 sz1 ∧ (N1 33 = 0 → PHI N1 R1 ≤ x)) → va_P (dC, dI) vwCl (MW cB cC cI cJ cZ z0 R pl N1 G1 B1) H → va_D A (MW cB cC cI cJ cZ z0 R pl N1 G1 B1) → va_S A s.heap H locs → ∀ (ls : Array Slot), lv_has ls 6 [] → W p l e (headSpec vX12_top { frames := 10, cells := 0, slots := 0, locals := 244 }).room s m args below meth c H locs 0 0 Q (F0 m 215 ls [])) : ∀ (H : Heap) (locs : List Loc), va_P (dC, dI) vwCl (MW cB cC cI cJ cZ z0 R pl N G B) H → va_D A (MW cB cC cI cJ cZ z0 R pl N G B) → va_S A s.heap H locs → ∀ (ls : Array Slot), lv_has ls 6 [(0, .ref z0), (1, .int (nI f)), (3, .int (nI 1)), (4, .int (nI y))] → W p l e (headSpec vX12_top { frames := 10, cells := 0, slots := 0, locals := 244 }).room s m args below meth c H locs 0 0 Q (F0 m 124 ls []) := by
  have hcs : 0 + 0 ≤ (0 : Nat) ∧ 0 + 0 ≤ (0 : Nat) := ⟨Nat.le_refl 0, Nat.le_refl 0⟩
  intro H locs hP hD hS ls hl
  have ht9 := hxi.1.2.2.1
  have hG := hxi.1.1
  have hG2 := hG
  have hal := hxi.1.2.1
  have u6 := ht9.1
  have hpl1 := hpl.1
  have hfN : f < N 14 := by omega
  have u1 := ht9.one hfN
  have hf8 : f < 90000 := by omega
  have hnf := hxi.2.2.2.2.2.1
  have hlt := hxi.2.2.2.2.1
  have hev := hxi.2.2.2.1
  have h9b := hrq.2.2.1
  have h1n := hev.1
  have h65 := hal.1
  have hs0 := (ht9.2 f hfN).2.1
  refine lv_aload_n hx hb dX12_top_124 rfl (lv_at hl 0 rfl) ?_
  refine lv_iconst (v := nI 0) hx hb dX12_top_125 (by decide) ?_
  refine mp_32 hx hb hts inX12_top hown hK hP hD hS (hts _ lkX12_top_f229) dX12_top_126 (fun H locs hP hD hS => ?_)
  have hxp : XI (va_up N 32 0) G sz az := hxi
  have htp : TSK (va_up N 32 0) G sz 0 := ⟨fun i hi => absurd hi (Nat.not_lt_zero i), Nat.le_refl _⟩
  have hxt0 : XT N G B sz (va_up N 32 0) G B sz := XT.nums (fun k hk => va_up_ne _ _ (by omega))
  have p33 : va_up N 32 0 33 = N 33 := rfl
  have p38 : va_up N 32 0 38 = N 38 := rfl
  have p35 : va_up N 32 0 35 = N 35 := rfl
  have p14 : va_up N 32 0 14 = N 14 := rfl
  have p23 : va_up N 32 0 23 = N 23 := rfl
  generalize va_up N 32 0 = P at hP hD hxp htp hxt0 p33 p38 p35 p14 p23
  rw [h33] at p33
  have hbu : BUD P (3 * sz f) (PHI P (3 * sz f)) := by unfold PHI at hph; unfold BUD PHI; rw [p38, p35]; exact ⟨by omega, Nat.le_refl _, by omega⟩
  have hxi0 := hxi
  have hxi := hxp
  have htk := htp
  have h33 := p33
  have hrun : RUN P G B sz P G B az 0 0 := RUN.start hxi htk h33
  have hnum := hrun.num hbu (by omega) (by omega)
  have hG2 := hrun.1.1.1
  have htr := hrun.1.1.2.2.1
  have hal2 := hrun.1.1.2.1
  have n14 := hrun.2.2.2.2.2.2.2.1
  have n23 := hrun.2.2.2.2.2.2.2.2
  have n33 := hrun.2.2.2.2.2.1
  refine lv_iload_n hx hb dX12_top_129 rfl (lv_at hl 2 rfl) ?_
  refine bz_eq (tgt := 171) hx hb (by first | omega | exact Nat.lt_of_lt_of_le (hG _ _) (by decide)) dX12_top_130 (by decide) (fun q9 => absurd q9 (by omega)) (fun c => ?_)
  refine lv_aload_n hx hb dX12_top_133 rfl (lv_at hl 0 rfl) ?_
  refine lv_bipush (v := nI 40) hx hb dX12_top_134 (by decide) ?_
  refine mcl_v (As := [.int (nI 40)]) (rest := []) ⟨hx, hb, hml, hown, hts⟩ (m_say l dC dI cB cC cI cJ cZ z0 R pl P G B ((nI 40)) (by omega) H.size) (cwV 1 hts kX12_top_X12_say_226 rfl rfl rfl (by decide +kernel) ⟨Nat.le_of_ble_eq_true rfl, Nat.le_of_ble_eq_true rfl⟩) hK hP hD hS hA rfl rfl hl.1 (lv_room (Nat.le_of_ble_eq_true rfl)) dX12_top_136 hcs (fun  N_1 G_2 B_3 pl_4 hw H locs hP hD hS => ?_)
  dsimp only at hw
  obtain ⟨e2, e4, e1, X, e3⟩ := hw
  have hrun : RUN P G B sz N_1 G B_3 az 0 1 := by rw [e1, e3]; exact hrun.say 1 X (by omega)
  rw [e2, e4] at hP hD
  have hnum := hrun.num hbu (by omega) (by omega)
  have hG2 := hrun.1.1.1
  have htr := hrun.1.1.2.2.1
  have hal2 := hrun.1.1.2.1
  have n14 := hrun.2.2.2.2.2.2.2.1
  have n23 := hrun.2.2.2.2.2.2.2.2
  have n33 := hrun.2.2.2.2.2.1
  refine lv_aload_n hx hb dX12_top_139 rfl (lv_at hl 0 rfl) ?_
  refine lv_iconst (v := nI 5) hx hb dX12_top_140 (by decide) ?_
  have e5 : G 5 ((5 + 1)) ≤ 4200 := by rw [hrun.2.2.1.2.1 5 (by omega)]; exact hlt.2.2.2 _ (by omega)
  refine mcl_v (As := [.int (nI 5)]) (rest := []) ⟨hx, hb, hml, hown, hts⟩ (m_saySymbol l dC dI cB cC cI cJ cZ z0 R pl N_1 G B_3 5 hG2 (by decide) (e5) (by omega) H.size) (cwV 1 hts kX12_top_X12_saySymbol_245 rfl rfl rfl (by decide +kernel) ⟨Nat.le_of_ble_eq_true rfl, Nat.le_of_ble_eq_true rfl⟩) hK hP hD hS hA rfl rfl hl.1 (lv_room (Nat.le_of_ble_eq_true rfl)) dX12_top_141 hcs (fun  N_6 G_7 B_8 pl_9 hw H locs hP hD hS => ?_)
  dsimp only at hw
  obtain ⟨e2, e4, n9, X, hn9, e1, e3⟩ := hw
  have hrun : RUN P G B sz N_6 G B_8 az 0 4201 := by rw [e1, e3]; exact hrun.say n9 X (by omega)
  rw [e2, e4] at hP hD
  have hnum := hrun.num hbu (by omega) (by omega)
  have hG2 := hrun.1.1.1
  have htr := hrun.1.1.2.2.1
  have hal2 := hrun.1.1.2.1
  have n14 := hrun.2.2.2.2.2.2.2.1
  have n23 := hrun.2.2.2.2.2.2.2.2
  have n33 := hrun.2.2.2.2.2.1
  refine lv_aload_n hx hb dX12_top_144 rfl (lv_at hl 0 rfl) ?_
  refine lv_bipush (v := nI 32) hx hb dX12_top_145 (by decide) ?_
  refine mcl_v (As := [.int (nI 32)]) (rest := []) ⟨hx, hb, hml, hown, hts⟩ (m_say l dC dI cB cC cI cJ cZ z0 R pl N_6 G B_8 ((nI 32)) (by omega) H.size) (cwV 1 hts kX12_top_X12_say_226 rfl rfl rfl (by decide +kernel) ⟨Nat.le_of_ble_eq_true rfl, Nat.le_of_ble_eq_true rfl⟩) hK hP hD hS hA rfl rfl hl.1 (lv_room (Nat.le_of_ble_eq_true rfl)) dX12_top_147 hcs (fun  N_11 G_12 B_13 pl_14 hw H locs hP hD hS => ?_)
  dsimp only at hw
  obtain ⟨e2, e4, e1, X, e3⟩ := hw
  have hrun : RUN P G B sz N_11 G B_13 az 0 4202 := by rw [e1, e3]; exact hrun.say 1 X (by omega)
  rw [e2, e4] at hP hD
  have hnum := hrun.num hbu (by omega) (by omega)
  have hG2 := hrun.1.1.1
  have htr := hrun.1.1.2.2.1
  have hal2 := hrun.1.1.2.1
  have n14 := hrun.2.2.2.2.2.2.2.1
  have n23 := hrun.2.2.2.2.2.2.2.2
  have n33 := hrun.2.2.2.2.2.1
  refine lv_aload_n hx hb dX12_top_150 rfl (lv_at hl 0 rfl) ?_
  refine lv_iload hx hb dX12_top_151 (lv_at hl 3 rfl) ?_
  have e5 : G 5 (y + 1) ≤ 4200 := by rw [hrun.2.2.1.2.1 5 (by omega)]; exact hlt.2.2.2 _ (by omega)
  refine mcl_v (As := [.int (nI y)]) (rest := []) ⟨hx, hb, hml, hown, hts⟩ (m_saySymbol l dC dI cB cC cI cJ cZ z0 R pl N_11 G B_13 y hG2 (by omega) (e5) (by omega) H.size) (cwV 1 hts kX12_top_X12_saySymbol_245 rfl rfl rfl (by decide +kernel) ⟨Nat.le_of_ble_eq_true rfl, Nat.le_of_ble_eq_true rfl⟩) hK hP hD hS hA rfl rfl hl.1 (lv_room (Nat.le_of_ble_eq_true rfl)) dX12_top_153 hcs (fun  N_16 G_17 B_18 pl_19 hw H locs hP hD hS => ?_)
  dsimp only at hw
  obtain ⟨e2, e4, n9, X, hn9, e1, e3⟩ := hw
  have hrun : RUN P G B sz N_16 G B_18 az 0 8402 := by rw [e1, e3]; exact hrun.say n9 X (by omega)
  rw [e2, e4] at hP hD
  have hnum := hrun.num hbu (by omega) (by omega)
  have hG2 := hrun.1.1.1
  have htr := hrun.1.1.2.2.1
  have hal2 := hrun.1.1.2.1
  have n14 := hrun.2.2.2.2.2.2.2.1
  have n23 := hrun.2.2.2.2.2.2.2.2
  have n33 := hrun.2.2.2.2.2.1
  refine lv_aload_n hx hb dX12_top_156 rfl (lv_at hl 0 rfl) ?_
  refine lv_bipush (v := nI 32) hx hb dX12_top_157 (by decide) ?_
  refine mcl_v (As := [.int (nI 32)]) (rest := []) ⟨hx, hb, hml, hown, hts⟩ (m_say l dC dI cB cC cI cJ cZ z0 R pl N_16 G B_18 ((nI 32)) (by omega) H.size) (cwV 1 hts kX12_top_X12_say_226 rfl rfl rfl (by decide +kernel) ⟨Nat.le_of_ble_eq_true rfl, Nat.le_of_ble_eq_true rfl⟩) hK hP hD hS hA rfl rfl hl.1 (lv_room (Nat.le_of_ble_eq_true rfl)) dX12_top_159 hcs (fun  N_21 G_22 B_23 pl_24 hw H locs hP hD hS => ?_)
  dsimp only at hw
  obtain ⟨e2, e4, e1, X, e3⟩ := hw
  have hrun : RUN P G B sz N_21 G B_23 az 0 8403 := by rw [e1, e3]; exact hrun.say 1 X (by omega)
  rw [e2, e4] at hP hD
  have hnum := hrun.num hbu (by omega) (by omega)
  have hG2 := hrun.1.1.1
  have htr := hrun.1.1.2.2.1
  have hal2 := hrun.1.1.2.1
  have n14 := hrun.2.2.2.2.2.2.2.1
  have n23 := hrun.2.2.2.2.2.2.2.2
  have n33 := hrun.2.2.2.2.2.1
  refine lv_aload_n hx hb dX12_top_162 rfl (lv_at hl 0 rfl) ?_
  refine lv_iconst (v := nI 2) hx hb dX12_top_163 (by decide) ?_
  refine lv_bipush (v := nI 41) hx hb dX12_top_164 (by decide) ?_
  refine lv_iconst (v := nI 0) hx hb dX12_top_166 (by decide) ?_
  refine lv_iconst (v := nI 0) hx hb dX12_top_167 (by decide) ?_
  refine mcl_v (As := [.int (nI 2), .int (nI 41), .int (nI 0), .int (nI 0)]) (rest := []) ⟨hx, hb, hml, hown, hts⟩ (m_task l dC dI cB cC cI cJ cZ z0 R pl N_21 G B_23 2 41 0 0 (by decide) (by omega) H.size) (cwV 4 hts kX12_top_X12_task_232 rfl rfl rfl (by decide +kernel) ⟨Nat.le_of_ble_eq_true rfl, Nat.le_of_ble_eq_true rfl⟩) hK hP hD hS hA rfl rfl hl.1 (lv_room (Nat.le_of_ble_eq_true rfl)) dX12_top_168 hcs (fun  N_26 G_27 B_28 pl_29 hw H locs hP hD hS => ?_)
  dsimp only at hw
  obtain ⟨e3, e4, e1, e2⟩ := hw
  have hrun : RUN P G B sz N_26 G_27 B_23 az 1 8403 := by rw [e1, e2]; exact hrun.task (by decide) (fun z => absurd rfl z) (fun z => absurd z (by decide)) (by omega) (by omega) (by omega) (by rw [if_pos rfl]; omega)
  rw [e3, e4] at hP hD
  have hnum := hrun.num hbu (by omega) (by omega)
  have hG2 := hrun.1.1.1
  have htr := hrun.1.1.2.2.1
  have hal2 := hrun.1.1.2.1
  have n14 := hrun.2.2.2.2.2.2.2.1
  have n23 := hrun.2.2.2.2.2.2.2.2
  have n33 := hrun.2.2.2.2.2.1
  refine lv_aload_n hx hb dX12_top_171 rfl (lv_at hl 0 rfl) ?_
  refine lv_iconst (v := nI 0) hx hb dX12_top_172 (by decide) ?_
  refine lv_iload_n hx hb dX12_top_173 rfl (lv_at hl 2 rfl) ?_
  refine bz_eq (tgt := 186) hx hb (by first | omega | exact Nat.lt_of_lt_of_le (hG _ _) (by decide)) dX12_top_174 (by decide) (fun q9 => absurd q9 (by omega)) (fun c => ?_)
  refine lv_aload_n hx hb dX12_top_177 rfl (lv_at hl 0 rfl) ?_
  refine lv_iload_n hx hb dX12_top_178 rfl (lv_at hl 1 rfl) ?_
  refine lv_iconst (v := nI 2) hx hb dX12_top_179 (by decide) ?_
  have hs2 := ht9.lt hfN (show 2 < G 12 f by omega)
  have hp2 := (ht9.pt hfN (show 2 < G 12 f by omega)).2.1
  obtain ⟨t_31, t_31b, t_31c, t_31d⟩ := ht9.pt (f := f) (k := 2) (hfN) (by omega)
  have hco := hrun.2.2.2.2.2.2.1
  refine mcl_i (As := [.int (nI f), .int (nI 2)]) (rest := [.int (nI 0), .ref z0]) ⟨hx, hb, hml, hown, hts⟩ (m_part l dC dI cB cC cI cJ cZ z0 R pl N_26 G_27 B_23 f 2 hG2 t_31d (by rw [hco.2.1]; exact t_31) H.size) (cwV 2 hts kX12_top_X12_part_192 rfl rfl rfl (by decide +kernel) ⟨Nat.le_of_ble_eq_true rfl, Nat.le_of_ble_eq_true rfl⟩) hK hP hD hS hA rfl rfl hl.1 (lv_room (Nat.le_of_ble_eq_true rfl)) dX12_top_180 hcs (fun r_36 N_32 G_33 B_34 pl_35 hw H locs hP hD hS => ?_)
  dsimp only at hw
  obtain ⟨e1, e2, e3, e4, hw⟩ := hw
  rw [e1, e2, e3, e4] at hP hD
  subst hw
  refine tp_i (y := nI (CH G f 2)) (by show nI (G_27 13 (G_27 11 f + 2)) = _; rw [hco.2.1, hco.2.2.2.1]) ?_
  refine lv_goto (tgt := 187) hx hb dX12_top_183 (by decide) ?_
  refine lv_iconst (v := nI 0) hx hb dX12_top_187 (by decide) ?_
  refine lv_iconst (v := nI 0) hx hb dX12_top_188 (by decide) ?_
  refine mcl_v (As := [.int (nI 0), .int (nI (CH G f 2)), .int (nI 0), .int (nI 0)]) (rest := []) ⟨hx, hb, hml, hown, hts⟩ (m_task l dC dI cB cC cI cJ cZ z0 R pl N_26 G_27 B_23 0 (CH G f 2) 0 0 (by decide) (by omega) H.size) (cwV 4 hts kX12_top_X12_task_232 rfl rfl rfl (by decide +kernel) ⟨Nat.le_of_ble_eq_true rfl, Nat.le_of_ble_eq_true rfl⟩) hK hP hD hS hA rfl rfl hl.1 (lv_room (Nat.le_of_ble_eq_true rfl)) dX12_top_189 hcs (fun  N_37 G_38 B_39 pl_40 hw H locs hP hD hS => ?_)
  dsimp only at hw
  obtain ⟨e3, e4, e1, e2⟩ := hw
  have hrun : RUN P G B sz N_37 G_38 B_23 az (1 + (3 * sz (CH G f 2) - 1)) 8403 := by rw [e1, e2]; exact hrun.task (by decide) (fun _ => by omega) (fun _ => ⟨by omega, by decide⟩) (by omega) (by omega) (by omega) (by rw [if_neg (by decide)]; omega)
  rw [e3, e4] at hP hD
  have hnum := hrun.num hbu (by omega) (by omega)
  have hG2 := hrun.1.1.1
  have htr := hrun.1.1.2.2.1
  have hal2 := hrun.1.1.2.1
  have n14 := hrun.2.2.2.2.2.2.2.1
  have n23 := hrun.2.2.2.2.2.2.2.2
  have n33 := hrun.2.2.2.2.2.1
  refine lv_aload_n hx hb dX12_top_192 rfl (lv_at hl 0 rfl) ?_
  have hbd := hrun.bud hbu (by omega) (by decide)
  obtain ⟨x9, hx8⟩ : ∃ x9, PHI P (3 * sz f) = x9 + 1 := ⟨PHI P (3 * sz f) - 1, by unfold PHI; omega⟩
  rw [hx8] at hbd hbu
  have hbu2 : BUD N_37 (1 + (3 * sz (CH G f 2) - 1)) x9 := ⟨hbd.1, by omega, by have := hbu.2.2; omega⟩
  refine mcl_v (As := []) (rest := []) ⟨hx, hb, hml, hown, hts⟩ (m_doAll l dC dI cB cC cI cJ cZ z0 R pl N_37 G_38 B_23 (1 + (3 * sz (CH G f 2) - 1)) x9 sz az hrun.1 hrun.2.1 hbu2 H.size) (cwV 0 hts kX12_top_X12_doAll_399 rfl rfl rfl (by decide +kernel) ⟨Nat.le_of_ble_eq_true rfl, Nat.le_of_ble_eq_true rfl⟩) hK hP hD hS hA rfl rfl hl.1 (lv_room (Nat.le_of_ble_eq_true rfl)) dX12_top_193 hcs (fun  N_42 G_43 B_44 pl_45 hw H locs hP hD hS => ?_)
  dsimp only at hw
  obtain ⟨e4, sz1, az1, w1, z1, z2, z3, z4, z5⟩ := hw
  rw [e4] at hP hD
  have hxt := hxt0.trans (hrun.2.2.1.trans z4)
  have hrq1 := hxt.rq hpl1 hrq
  have hph1 : PHI N_42 R1 ≤ x := by
    have q1 := z3.2.1
    unfold PHI at q1 hx8 hph ⊢
    rw [p38, p35] at hx8
    omega
  have n33 := z1.2.2.2.2.2.1
  refine lv_iload_n hx hb dX12_top_196 rfl (lv_at hl 2 rfl) ?_
  refine bz_eq (tgt := 215) hx hb (by first | omega | exact Nat.lt_of_lt_of_le (hG _ _) (by decide)) dX12_top_197 (by decide) (fun q9 => absurd q9 (by omega)) (fun c => ?_)
  refine lv_aload_n hx hb dX12_top_200 rfl (lv_at hl 0 rfl) ?_
  refine mg_33 hx hb hts inX12_top hown hK hP (hts _ lkX12_top_f236) dX12_top_201 ?_
  refine bz_ne (tgt := 215) hx hb (by first | omega | exact Nat.lt_of_lt_of_le (hG _ _) (by decide)) dX12_top_204 (by decide) (fun c8 => ?_) (fun c8 => ?_)
  · exact kr N_42 G_43 B_44 H locs ⟨sz1, az1, z1, hrq1, hxt.u, fun _ => hph1⟩ hP hD hS ls (lv_sub hl [] rfl)
  · refine lv_aload_n hx hb dX12_top_207 rfl (lv_at hl 0 rfl) ?_
    refine mg_7 hx hb hts inX12_top hown hK hP (hts _ lkX12_top_f25) dX12_top_208 ?_
    refine lv_iload hx hb dX12_top_211 (lv_at hl 3 rfl) ?_
    refine lv_iconst (v := nI 0) hx hb dX12_top_213 (by decide) ?_
    refine ms_7 hx hb hK hP hD hS (by omega) dX12_top_214 (fun H locs hP hD hS => ?_)
    have hxd : XI N_42 (va_up G_43 7 (va_up (G_43 7) y 0)) sz1 az1 := XI.def z1 (Or.inl rfl) (by decide)
    have hrd : RQ N_42 (va_up G_43 7 (va_up (G_43 7) y 0)) sz1 t := by have q := RQ.set (y := y) hrq1 (show y < N_42 6 by rw [hxt.1 6 (by omega)]; exact hy) (Or.inl rfl) (v := 0) (n9 := N_42 9) (Nat.le_refl _) hrq1.2.2.1; rw [va_upid] at q; exact q
    have hxu : XU N G B sz N_42 (va_up G_43 7 (va_up (G_43 7) y 0)) B_44 sz1 := hxt.u.trans ⟨fun _ _ => rfl, fun k hk => va_up_ne _ _ (by omega), fun _ _ => rfl, Nat.le_refl _, fun _ _ => rfl, Nat.le_refl _, fun _ _ => ⟨rfl, rfl, rfl⟩, fun _ _ => rfl⟩
    exact kr N_42 (va_up G_43 7 (va_up (G_43 7) y 0)) B_44 H locs ⟨sz1, az1, hxd, hrd, hxu, fun _ => hph1⟩ hP hD hS ls (lv_sub hl [] rfl)

set_option maxHeartbeats 4000000 in
set_option maxRecDepth 100000 in
theorem lp_top_00 {p : Program} {l : Launch} {e : Env} {s : State} {m : MethodId} {args : Array Value} {below : List Frame} {meth : Method} {c : Code} {Q : State → Prop} {A : Nat → Prop} {dC : Nat → ClassId} {dI : Nat → Nat → Nat} {cB cC cI cJ cZ : ClassId} {z0 : Nat} {R : Nat → Nat} (hx : p.tables.exec = Jvm.exec) (hb : c.code = cX12_top) (hml : c.maxLocals = 6) (hown : s.vm.findClass RX12 = some m.cls) (hts : ∀ w ∈ vX12_top, w.before args s = true) (hK : va_K (dC, dI) vwCl (TY cB cC cI cJ cZ) s) (hA : ∀ q : Nat, s.heap.size ≤ q → A q) {pl : Int32} {N : Nat → Nat} {G : Nat → Nat → Nat} {B : Nat → Nat → Int32} {sz az : Nat → Nat} {f t R1 x : Nat} (hxi : XI N G sz az) (h33 : N 33 = 0) (hrq : RQ N G sz t) (hpl : PLN N G t) (hf : f < t) (hR : R1 + 3 * sz f ≤ 9100) (hph : PHI N (R1 + 3 * sz f) ≤ x + 1) (hx9 : x ≤ 1940000000) (kr : ∀ (N1 : Nat → Nat) (G1 : Nat → Nat → Nat) (B1 : Nat → Nat → Int32) (H : Heap) (locs : List Loc), (∃ sz1 az1, XI N1 G1 sz1 az1 ∧ RQ N1 G1 sz1 t ∧ XU N G B sz N1 G1 B1 sz1 ∧ (N1 33 = 0 → PHI N1 R1 ≤ x)) → va_P (dC, dI) vwCl (MW cB cC cI cJ cZ z0 R pl N1 G1 B1) H → va_D A (MW cB cC cI cJ cZ z0 R pl N1 G1 B1) → va_S A s.heap H locs → ∀ (ls : Array Slot), lv_has ls 6 [] → W p l e (headSpec vX12_top { frames := 10, cells := 0, slots := 0, locals := 244 }).room s m args below meth c H locs 0 0 Q (F0 m 215 ls [])) (ks : ∀ (N1 : Nat → Nat) (G1 : Nat → Nat → Nat) (B1 : Nat → Nat → Int32) (H : Heap) (locs : List Loc), (∃ sz1 az1, XI N1 G1 sz1 az1 ∧ RQ N1 G1 sz1 t ∧ XU N G B sz N1 G1 B1 sz1 ∧ (N1 33 = 0 → PHI N1 R1 ≤ x)) → va_P (dC, dI) vwCl (MW cB cC cI cJ cZ z0 R pl N1 G1 B1) H → va_D A (MW cB cC cI cJ cZ z0 R pl N1 G1 B1) → va_S A s.heap H locs → ∀ (ls : Array Slot), lv_has ls 6 [] → W p l e (headSpec vX12_top { frames := 10, cells := 0, slots := 0, locals := 244 }).room s m args below meth c H locs 0 0 Q (F0 m 98 ls [])) (kt : ∀ (N1 : Nat → Nat) (G1 : Nat → Nat → Nat) (B1 : Nat → Nat → Int32) (H : Heap) (locs : List Loc), (∃ sz1 az1, XI N1 G1 sz1 az1 ∧ RQ N1 G1 sz1 t ∧ XU N G B sz N1 G1 B1 sz1 ∧ (N1 33 = 0 → PHI N1 R1 ≤ x)) → va_P (dC, dI) vwCl (MW cB cC cI cJ cZ z0 R pl N1 G1 B1) H → va_D A (MW cB cC cI cJ cZ z0 R pl N1 G1 B1) → va_S A s.heap H locs → ∀ (ls : Array Slot), lv_has ls 6 [] → W p l e (headSpec vX12_top { frames := 10, cells := 0, slots := 0, locals := 244 }).room s m args below meth c H locs 0 0 Q (F0 m 123 ls [])) : ∀ (H : Heap) (locs : List Loc), va_P (dC, dI) vwCl (MW cB cC cI cJ cZ z0 R pl N G B) H → va_D A (MW cB cC cI cJ cZ z0 R pl N G B) → va_S A s.heap H locs → ∀ (ls : Array Slot), lv_has ls 6 [(0, .ref z0), (1, .int (nI f)), (2, .int (nI 0)), (3, .int (nI 0)), (4, .int (nI 0 - 1))] → W p l e (headSpec vX12_top { frames := 10, cells := 0, slots := 0, locals := 244 }).room s m args below meth c H locs 0 0 Q (F0 m 35 ls []) := by
  have hcs : 0 + 0 ≤ (0 : Nat) ∧ 0 + 0 ≤ (0 : Nat) := ⟨Nat.le_refl 0, Nat.le_refl 0⟩
  intro H locs hP hD hS ls hl
  have ht9 := hxi.1.2.2.1
  have hG := hxi.1.1
  have hG2 := hG
  have hal := hxi.1.2.1
  have u6 := ht9.1
  have hpl1 := hpl.1
  have hfN : f < N 14 := by omega
  have u1 := ht9.one hfN
  have hf8 : f < 90000 := by omega
  have hnf := hxi.2.2.2.2.2.1
  have hlt := hxi.2.2.2.2.1
  have hev := hxi.2.2.2.1
  have h9b := hrq.2.2.1
  have h1n := hev.1
  have h65 := hal.1
  have g11 := hG 11 (CH G f 1)
  refine lv_iload_n hx hb dX12_top_35 rfl (lv_at hl 2 rfl) ?_
  refine bz_ne (tgt := 43) hx hb (by first | omega | exact Nat.lt_of_lt_of_le (hG _ _) (by decide)) dX12_top_36 (by decide) (fun q9 => absurd q9 (by omega)) (fun c => ?_)
  refine lv_iload_n hx hb dX12_top_39 rfl (lv_at hl 3 rfl) ?_
  refine bz_eq (tgt := 112) hx hb (by first | omega | exact Nat.lt_of_lt_of_le (hG _ _) (by decide)) dX12_top_40 (by decide) (fun c => ?_) (fun q9 => absurd q9 (by omega))
  refine lv_iload_n hx hb dX12_top_112 rfl (lv_at hl 2 rfl) ?_
  refine bz_eq (tgt := 124) hx hb (by first | omega | exact Nat.lt_of_lt_of_le (hG _ _) (by decide)) dX12_top_113 (by decide) (fun c => ?_) (fun q9 => absurd q9 (by omega))
  exact lp_top0 hx hb hml hown hts hK hA hxi h33 hrq hpl hf hR hph hx9  kr _ _ hP hD hS ls (lv_sub hl [0, 1, 3] rfl)

set_option maxHeartbeats 4000000 in
set_option maxRecDepth 100000 in
theorem lp_top_01 {p : Program} {l : Launch} {e : Env} {s : State} {m : MethodId} {args : Array Value} {below : List Frame} {meth : Method} {c : Code} {Q : State → Prop} {A : Nat → Prop} {dC : Nat → ClassId} {dI : Nat → Nat → Nat} {cB cC cI cJ cZ : ClassId} {z0 : Nat} {R : Nat → Nat} (hx : p.tables.exec = Jvm.exec) (hb : c.code = cX12_top) (hml : c.maxLocals = 6) (hown : s.vm.findClass RX12 = some m.cls) (hts : ∀ w ∈ vX12_top, w.before args s = true) (hK : va_K (dC, dI) vwCl (TY cB cC cI cJ cZ) s) (hA : ∀ q : Nat, s.heap.size ≤ q → A q) {pl : Int32} {N : Nat → Nat} {G : Nat → Nat → Nat} {B : Nat → Nat → Int32} {sz az : Nat → Nat} {f t R1 x : Nat} (hxi : XI N G sz az) (h33 : N 33 = 0) (hrq : RQ N G sz t) (hpl : PLN N G t) (hf : f < t) (hR : R1 + 3 * sz f ≤ 9100) (hph : PHI N (R1 + 3 * sz f) ≤ x + 1) (hx9 : x ≤ 1940000000) (kr : ∀ (N1 : Nat → Nat) (G1 : Nat → Nat → Nat) (B1 : Nat → Nat → Int32) (H : Heap) (locs : List Loc), (∃ sz1 az1, XI N1 G1 sz1 az1 ∧ RQ N1 G1 sz1 t ∧ XU N G B sz N1 G1 B1 sz1 ∧ (N1 33 = 0 → PHI N1 R1 ≤ x)) → va_P (dC, dI) vwCl (MW cB cC cI cJ cZ z0 R pl N1 G1 B1) H → va_D A (MW cB cC cI cJ cZ z0 R pl N1 G1 B1) → va_S A s.heap H locs → ∀ (ls : Array Slot), lv_has ls 6 [] → W p l e (headSpec vX12_top { frames := 10, cells := 0, slots := 0, locals := 244 }).room s m args below meth c H locs 0 0 Q (F0 m 215 ls [])) (ks : ∀ (N1 : Nat → Nat) (G1 : Nat → Nat → Nat) (B1 : Nat → Nat → Int32) (H : Heap) (locs : List Loc), (∃ sz1 az1, XI N1 G1 sz1 az1 ∧ RQ N1 G1 sz1 t ∧ XU N G B sz N1 G1 B1 sz1 ∧ (N1 33 = 0 → PHI N1 R1 ≤ x)) → va_P (dC, dI) vwCl (MW cB cC cI cJ cZ z0 R pl N1 G1 B1) H → va_D A (MW cB cC cI cJ cZ z0 R pl N1 G1 B1) → va_S A s.heap H locs → ∀ (ls : Array Slot), lv_has ls 6 [] → W p l e (headSpec vX12_top { frames := 10, cells := 0, slots := 0, locals := 244 }).room s m args below meth c H locs 0 0 Q (F0 m 98 ls [])) (kt : ∀ (N1 : Nat → Nat) (G1 : Nat → Nat → Nat) (B1 : Nat → Nat → Int32) (H : Heap) (locs : List Loc), (∃ sz1 az1, XI N1 G1 sz1 az1 ∧ RQ N1 G1 sz1 t ∧ XU N G B sz N1 G1 B1 sz1 ∧ (N1 33 = 0 → PHI N1 R1 ≤ x)) → va_P (dC, dI) vwCl (MW cB cC cI cJ cZ z0 R pl N1 G1 B1) H → va_D A (MW cB cC cI cJ cZ z0 R pl N1 G1 B1) → va_S A s.heap H locs → ∀ (ls : Array Slot), lv_has ls 6 [] → W p l e (headSpec vX12_top { frames := 10, cells := 0, slots := 0, locals := 244 }).room s m args below meth c H locs 0 0 Q (F0 m 123 ls [])) : ∀ (H : Heap) (locs : List Loc), va_P (dC, dI) vwCl (MW cB cC cI cJ cZ z0 R pl N G B) H → va_D A (MW cB cC cI cJ cZ z0 R pl N G B) → va_S A s.heap H locs → ∀ (ls : Array Slot), lv_has ls 6 [(0, .ref z0), (1, .int (nI f)), (2, .int (nI 0)), (3, .int (nI 1)), (4, .int (nI 0 - 1))] → W p l e (headSpec vX12_top { frames := 10, cells := 0, slots := 0, locals := 244 }).room s m args below meth c H locs 0 0 Q (F0 m 35 ls []) := by
  have hcs : 0 + 0 ≤ (0 : Nat) ∧ 0 + 0 ≤ (0 : Nat) := ⟨Nat.le_refl 0, Nat.le_refl 0⟩
  intro H locs hP hD hS ls hl
  have ht9 := hxi.1.2.2.1
  have hG := hxi.1.1
  have hG2 := hG
  have hal := hxi.1.2.1
  have u6 := ht9.1
  have hpl1 := hpl.1
  have hfN : f < N 14 := by omega
  have u1 := ht9.one hfN
  have hf8 : f < 90000 := by omega
  have hnf := hxi.2.2.2.2.2.1
  have hlt := hxi.2.2.2.2.1
  have hev := hxi.2.2.2.1
  have h9b := hrq.2.2.1
  have h1n := hev.1
  have h65 := hal.1
  have g11 := hG 11 (CH G f 1)
  refine lv_iload_n hx hb dX12_top_35 rfl (lv_at hl 2 rfl) ?_
  refine bz_ne (tgt := 43) hx hb (by first | omega | exact Nat.lt_of_lt_of_le (hG _ _) (by decide)) dX12_top_36 (by decide) (fun q9 => absurd q9 (by omega)) (fun c => ?_)
  refine lv_iload_n hx hb dX12_top_39 rfl (lv_at hl 3 rfl) ?_
  refine bz_eq (tgt := 112) hx hb (by first | omega | exact Nat.lt_of_lt_of_le (hG _ _) (by decide)) dX12_top_40 (by decide) (fun q9 => absurd q9 (by omega)) (fun c => ?_)
  refine lv_aload_n hx hb dX12_top_43 rfl (lv_at hl 0 rfl) ?_
  refine lv_iload_n hx hb dX12_top_44 rfl (lv_at hl 1 rfl) ?_
  refine lv_iconst (v := nI 3) hx hb dX12_top_45 (by decide) ?_
  refine mcl_i (As := [.int (nI f), .int (nI 3)]) (rest := []) ⟨hx, hb, hml, hown, hts⟩ (m_isList l dC dI cB cC cI cJ cZ z0 R pl N G B f 3 hG2 (by omega) (by omega) H.size) (cwV 2 hts kX12_top_X12_isList_276 rfl rfl rfl (by decide +kernel) ⟨Nat.le_of_ble_eq_true rfl, Nat.le_of_ble_eq_true rfl⟩) hK hP hD hS hA rfl rfl hl.1 (lv_room (Nat.le_of_ble_eq_true rfl)) dX12_top_46 hcs (fun r_6 N_2 G_3 B_4 pl_5 hw H locs hP hD hS => ?_)
  dsimp only at hw
  obtain ⟨e1, e2, e3, e4, hw⟩ := hw
  rw [e1, e2, e3, e4] at hP hD
  have hw : r_6 = nI (if G 10 f = 2 ∧ G 12 f = 3 then 1 else 0) := hw
  by_cases c_1 : G 10 f = 2 ∧ G 12 f = 3
  · rw [if_pos c_1] at hw
    subst hw
    obtain ⟨q1, q2⟩ := c_1
    have hc1 := (ht9.pt hfN (show 1 < G 12 f by omega)).2.1
    have hct := (hpl.2 f hf).1 1 (by omega)
    refine bz_eq (tgt := 85) hx hb (by first | omega | exact Nat.lt_of_lt_of_le (hG _ _) (by decide)) dX12_top_49 (by decide) (fun q9 => absurd q9 (by omega)) (fun c => ?_)
    refine lv_aload_n hx hb dX12_top_52 rfl (lv_at hl 0 rfl) ?_
    refine lv_aload_n hx hb dX12_top_53 rfl (lv_at hl 0 rfl) ?_
    refine lv_iload_n hx hb dX12_top_54 rfl (lv_at hl 1 rfl) ?_
    refine lv_iconst (v := nI 1) hx hb dX12_top_55 (by decide) ?_
    obtain ⟨t_12, t_12b, t_12c, t_12d⟩ := ht9.pt (f := f) (k := 1) (hfN) (by omega)
    refine mcl_i (As := [.int (nI f), .int (nI 1)]) (rest := [.ref z0]) ⟨hx, hb, hml, hown, hts⟩ (m_part l dC dI cB cC cI cJ cZ z0 R pl N G B f 1 hG2 t_12d t_12 H.size) (cwV 2 hts kX12_top_X12_part_192 rfl rfl rfl (by decide +kernel) ⟨Nat.le_of_ble_eq_true rfl, Nat.le_of_ble_eq_true rfl⟩) hK hP hD hS hA rfl rfl hl.1 (lv_room (Nat.le_of_ble_eq_true rfl)) dX12_top_56 hcs (fun r_17 N_13 G_14 B_15 pl_16 hw H locs hP hD hS => ?_)
    dsimp only at hw
    obtain ⟨e1, e2, e3, e4, hw⟩ := hw
    rw [e1, e2, e3, e4] at hP hD
    have hw : r_17 = nI (CH G f 1) := hw
    subst hw
    refine mcl_i (As := [.int (nI (CH G f 1))]) (rest := []) ⟨hx, hb, hml, hown, hts⟩ (m_isName l dC dI cB cC cI cJ cZ z0 R pl N G B (CH G f 1) hG2 (by omega) H.size) (cwV 1 hts kX12_top_X12_isName_180 rfl rfl rfl (by decide +kernel) ⟨Nat.le_of_ble_eq_true rfl, Nat.le_of_ble_eq_true rfl⟩) hK hP hD hS hA rfl rfl hl.1 (lv_room (Nat.le_of_ble_eq_true rfl)) dX12_top_59 hcs (fun r_23 N_19 G_20 B_21 pl_22 hw H locs hP hD hS => ?_)
    dsimp only at hw
    obtain ⟨e1, e2, e3, e4, hw⟩ := hw
    rw [e1, e2, e3, e4] at hP hD
    have hw : r_23 = nI (if G 10 (CH G f 1) = 1 then 1 else 0) := hw
    by_cases c_18 : G 10 (CH G f 1) = 1
    · rw [if_pos c_18] at hw
      subst hw
      have hy6 := (hpl.2 _ hct).2 c_18
      have h65 := hal.1
      refine bz_eq (tgt := 85) hx hb (by first | omega | exact Nat.lt_of_lt_of_le (hG _ _) (by decide)) dX12_top_62 (by decide) (fun q9 => absurd q9 (by omega)) (fun c => ?_)
      refine lv_aload_n hx hb dX12_top_65 rfl (lv_at hl 0 rfl) ?_
      refine mg_11 hx hb hts inX12_top hown hK hP (hts _ lkX12_top_f35) dX12_top_66 ?_
      refine lv_aload_n hx hb dX12_top_69 rfl (lv_at hl 0 rfl) ?_
      refine lv_iload_n hx hb dX12_top_70 rfl (lv_at hl 1 rfl) ?_
      refine lv_iconst (v := nI 1) hx hb dX12_top_71 (by decide) ?_
      obtain ⟨t_29, t_29b, t_29c, t_29d⟩ := ht9.pt (f := f) (k := 1) (hfN) (by omega)
      refine mcl_i (As := [.int (nI f), .int (nI 1)]) (rest := [.ref (R 11)]) ⟨hx, hb, hml, hown, hts⟩ (m_part l dC dI cB cC cI cJ cZ z0 R pl N G B f 1 hG2 t_29d t_29 H.size) (cwV 2 hts kX12_top_X12_part_192 rfl rfl rfl (by decide +kernel) ⟨Nat.le_of_ble_eq_true rfl, Nat.le_of_ble_eq_true rfl⟩) hK hP hD hS hA rfl rfl hl.1 (lv_room (Nat.le_of_ble_eq_true rfl)) dX12_top_72 hcs (fun r_34 N_30 G_31 B_32 pl_33 hw H locs hP hD hS => ?_)
      dsimp only at hw
      obtain ⟨e1, e2, e3, e4, hw⟩ := hw
      rw [e1, e2, e3, e4] at hP hD
      have hw : r_34 = nI (CH G f 1) := hw
      subst hw
      refine ml_11 hx hb hK hP (by omega) dX12_top_75 ?_
      refine lv_bipush (v := nI 8) hx hb dX12_top_76 (by decide) ?_
      refine bn_le (tgt := 85) hx hb (by first | omega | exact Nat.lt_of_lt_of_le (hG _ _) (by decide)) (by first | omega | exact Nat.lt_of_lt_of_le (hG _ _) (by decide)) dX12_top_78 (by decide) (fun c4 => ?_) (fun c4 => ?_)
      · refine lv_iconst (v := nI 0) hx hb dX12_top_85 (by decide) ?_
        refine lv_istore (lv' := [(5, .int (nI 0)), (0, .ref z0), (1, .int (nI f)), (2, .int (nI 0)), (3, .int (nI 1)), (4, .int (nI 0 - 1))]) hx hb dX12_top_86 hl (by decide) rfl (fun ls hl => ?_)
        refine lv_aload_n hx hb dX12_top_88 rfl (lv_at hl 1 rfl) ?_
        refine lv_iload hx hb dX12_top_89 (lv_at hl 0 rfl) ?_
        refine lv_iconst (v := nI 3) hx hb dX12_top_91 (by decide) ?_
        refine mcl_i (As := [.int (nI 0), .int (nI 3)]) (rest := []) ⟨hx, hb, hml, hown, hts⟩ (m_need l dC dI cB cC cI cJ cZ z0 R pl N G B 0 3 (by decide) ⟨by decide, by decide⟩ h33 H.size) (cwV 2 hts kX12_top_X12_need_255 rfl rfl rfl (by decide +kernel) ⟨Nat.le_of_ble_eq_true rfl, Nat.le_of_ble_eq_true rfl⟩) hK hP hD hS hA rfl rfl hl.1 (lv_room (Nat.le_of_ble_eq_true rfl)) dX12_top_92 hcs (fun r_39 N_35 G_36 B_37 pl_38 hw H locs hP hD hS => ?_)
        dsimp only at hw
        obtain ⟨e3, e4, e2, hw, e5, e6⟩ := hw
        rw [e6 rfl, e2, e3, e4] at hP hD
        subst hw
        refine bz_ne (tgt := 99) hx hb (by first | omega | exact Nat.lt_of_lt_of_le (hG _ _) (by decide)) dX12_top_95 (by decide) (fun q9 => absurd q9 (by omega)) (fun c => ?_)
        exact ks (va_up N 33 3) G B H locs ⟨sz, az, hxi.fault (by decide) (by decide), XT.rq (B := B) (XT.nums (fun k hk => va_up_ne _ _ (by omega))) hpl1 hrq, XT.u (XT.nums (fun k hk => va_up_ne _ _ (by omega))), fun z => absurd (show (3 : Nat) = 0 from z) (by decide)⟩ hP hD hS ls (lv_sub hl [] rfl)
      · refine lv_iconst (v := nI 1) hx hb dX12_top_81 (by decide) ?_
        refine lv_goto (tgt := 86) hx hb dX12_top_82 (by decide) ?_
        refine lv_istore (lv' := [(5, .int (nI 1)), (0, .ref z0), (1, .int (nI f)), (2, .int (nI 0)), (3, .int (nI 1)), (4, .int (nI 0 - 1))]) hx hb dX12_top_86 hl (by decide) rfl (fun ls hl => ?_)
        refine lv_aload_n hx hb dX12_top_88 rfl (lv_at hl 1 rfl) ?_
        refine lv_iload hx hb dX12_top_89 (lv_at hl 0 rfl) ?_
        refine lv_iconst (v := nI 3) hx hb dX12_top_91 (by decide) ?_
        refine mcl_i (As := [.int (nI 1), .int (nI 3)]) (rest := []) ⟨hx, hb, hml, hown, hts⟩ (m_need l dC dI cB cC cI cJ cZ z0 R pl N G B 1 3 (by decide) ⟨by decide, by decide⟩ h33 H.size) (cwV 2 hts kX12_top_X12_need_255 rfl rfl rfl (by decide +kernel) ⟨Nat.le_of_ble_eq_true rfl, Nat.le_of_ble_eq_true rfl⟩) hK hP hD hS hA rfl rfl hl.1 (lv_room (Nat.le_of_ble_eq_true rfl)) dX12_top_92 hcs (fun r_44 N_40 G_41 B_42 pl_43 hw H locs hP hD hS => ?_)
        dsimp only at hw
        obtain ⟨e3, e4, e2, hw, e5, e6⟩ := hw
        rw [e5 rfl, e2, e3, e4] at hP hD
        subst hw
        refine bz_ne (tgt := 99) hx hb (by first | omega | exact Nat.lt_of_lt_of_le (hG _ _) (by decide)) dX12_top_95 (by decide) (fun c => ?_) (fun q9 => absurd q9 (by omega))
        refine lv_aload_n hx hb dX12_top_99 rfl (lv_at hl 1 rfl) ?_
        refine mg_11 hx hb hts inX12_top hown hK hP (hts _ lkX12_top_f35) dX12_top_100 ?_
        refine lv_aload_n hx hb dX12_top_103 rfl (lv_at hl 1 rfl) ?_
        refine lv_iload_n hx hb dX12_top_104 rfl (lv_at hl 2 rfl) ?_
        refine lv_iconst (v := nI 1) hx hb dX12_top_105 (by decide) ?_
        obtain ⟨t_45, t_45b, t_45c, t_45d⟩ := ht9.pt (f := f) (k := 1) (hfN) (by omega)
        refine mcl_i (As := [.int (nI f), .int (nI 1)]) (rest := [.ref (R 11)]) ⟨hx, hb, hml, hown, hts⟩ (m_part l dC dI cB cC cI cJ cZ z0 R pl N G B f 1 hG2 t_45d t_45 H.size) (cwV 2 hts kX12_top_X12_part_192 rfl rfl rfl (by decide +kernel) ⟨Nat.le_of_ble_eq_true rfl, Nat.le_of_ble_eq_true rfl⟩) hK hP hD hS hA rfl rfl hl.1 (lv_room (Nat.le_of_ble_eq_true rfl)) dX12_top_106 hcs (fun r_50 N_46 G_47 B_48 pl_49 hw H locs hP hD hS => ?_)
        dsimp only at hw
        obtain ⟨e1, e2, e3, e4, hw⟩ := hw
        rw [e1, e2, e3, e4] at hP hD
        have hw : r_50 = nI (CH G f 1) := hw
        subst hw
        refine ml_11 hx hb hK hP (by omega) dX12_top_109 ?_
        obtain ⟨y, hye⟩ : ∃ y, y = G 11 (CH G f 1) := ⟨_, rfl⟩
        rw [← hye] at hy6
        refine tp_i (y := nI y) (by rw [hye]) ?_
        refine lv_istore (lv' := [(4, .int (nI y)), (5, .int (nI 1)), (0, .ref z0), (1, .int (nI f)), (2, .int (nI 0)), (3, .int (nI 1))]) hx hb dX12_top_110 hl (by decide) rfl (fun ls hl => ?_)
        refine lv_iload_n hx hb dX12_top_112 rfl (lv_at hl 4 rfl) ?_
        refine bz_eq (tgt := 124) hx hb (by first | omega | exact Nat.lt_of_lt_of_le (hG _ _) (by decide)) dX12_top_113 (by decide) (fun c => ?_) (fun q9 => absurd q9 (by omega))
        exact lp_top1 hx hb hml hown hts hK hA hxi h33 hrq hpl hf hR hph hx9 y hy6 (by omega) kr _ _ hP hD hS ls (lv_sub hl [2, 3, 5, 0] rfl)
    · rw [if_neg c_18] at hw
      subst hw
      refine bz_eq (tgt := 85) hx hb (by first | omega | exact Nat.lt_of_lt_of_le (hG _ _) (by decide)) dX12_top_62 (by decide) (fun c => ?_) (fun q9 => absurd q9 (by omega))
      refine lv_iconst (v := nI 0) hx hb dX12_top_85 (by decide) ?_
      refine lv_istore (lv' := [(5, .int (nI 0)), (0, .ref z0), (1, .int (nI f)), (2, .int (nI 0)), (3, .int (nI 1)), (4, .int (nI 0 - 1))]) hx hb dX12_top_86 hl (by decide) rfl (fun ls hl => ?_)
      refine lv_aload_n hx hb dX12_top_88 rfl (lv_at hl 1 rfl) ?_
      refine lv_iload hx hb dX12_top_89 (lv_at hl 0 rfl) ?_
      refine lv_iconst (v := nI 3) hx hb dX12_top_91 (by decide) ?_
      refine mcl_i (As := [.int (nI 0), .int (nI 3)]) (rest := []) ⟨hx, hb, hml, hown, hts⟩ (m_need l dC dI cB cC cI cJ cZ z0 R pl N G B 0 3 (by decide) ⟨by decide, by decide⟩ h33 H.size) (cwV 2 hts kX12_top_X12_need_255 rfl rfl rfl (by decide +kernel) ⟨Nat.le_of_ble_eq_true rfl, Nat.le_of_ble_eq_true rfl⟩) hK hP hD hS hA rfl rfl hl.1 (lv_room (Nat.le_of_ble_eq_true rfl)) dX12_top_92 hcs (fun r_28 N_24 G_25 B_26 pl_27 hw H locs hP hD hS => ?_)
      dsimp only at hw
      obtain ⟨e3, e4, e2, hw, e5, e6⟩ := hw
      rw [e6 rfl, e2, e3, e4] at hP hD
      subst hw
      refine bz_ne (tgt := 99) hx hb (by first | omega | exact Nat.lt_of_lt_of_le (hG _ _) (by decide)) dX12_top_95 (by decide) (fun q9 => absurd q9 (by omega)) (fun c => ?_)
      exact ks (va_up N 33 3) G B H locs ⟨sz, az, hxi.fault (by decide) (by decide), XT.rq (B := B) (XT.nums (fun k hk => va_up_ne _ _ (by omega))) hpl1 hrq, XT.u (XT.nums (fun k hk => va_up_ne _ _ (by omega))), fun z => absurd (show (3 : Nat) = 0 from z) (by decide)⟩ hP hD hS ls (lv_sub hl [] rfl)
  · rw [if_neg c_1] at hw
    subst hw
    refine bz_eq (tgt := 85) hx hb (by first | omega | exact Nat.lt_of_lt_of_le (hG _ _) (by decide)) dX12_top_49 (by decide) (fun c => ?_) (fun q9 => absurd q9 (by omega))
    refine lv_iconst (v := nI 0) hx hb dX12_top_85 (by decide) ?_
    refine lv_istore (lv' := [(5, .int (nI 0)), (0, .ref z0), (1, .int (nI f)), (2, .int (nI 0)), (3, .int (nI 1)), (4, .int (nI 0 - 1))]) hx hb dX12_top_86 hl (by decide) rfl (fun ls hl => ?_)
    refine lv_aload_n hx hb dX12_top_88 rfl (lv_at hl 1 rfl) ?_
    refine lv_iload hx hb dX12_top_89 (lv_at hl 0 rfl) ?_
    refine lv_iconst (v := nI 3) hx hb dX12_top_91 (by decide) ?_
    refine mcl_i (As := [.int (nI 0), .int (nI 3)]) (rest := []) ⟨hx, hb, hml, hown, hts⟩ (m_need l dC dI cB cC cI cJ cZ z0 R pl N G B 0 3 (by decide) ⟨by decide, by decide⟩ h33 H.size) (cwV 2 hts kX12_top_X12_need_255 rfl rfl rfl (by decide +kernel) ⟨Nat.le_of_ble_eq_true rfl, Nat.le_of_ble_eq_true rfl⟩) hK hP hD hS hA rfl rfl hl.1 (lv_room (Nat.le_of_ble_eq_true rfl)) dX12_top_92 hcs (fun r_11 N_7 G_8 B_9 pl_10 hw H locs hP hD hS => ?_)
    dsimp only at hw
    obtain ⟨e3, e4, e2, hw, e5, e6⟩ := hw
    rw [e6 rfl, e2, e3, e4] at hP hD
    subst hw
    refine bz_ne (tgt := 99) hx hb (by first | omega | exact Nat.lt_of_lt_of_le (hG _ _) (by decide)) dX12_top_95 (by decide) (fun q9 => absurd q9 (by omega)) (fun c => ?_)
    exact ks (va_up N 33 3) G B H locs ⟨sz, az, hxi.fault (by decide) (by decide), XT.rq (B := B) (XT.nums (fun k hk => va_up_ne _ _ (by omega))) hpl1 hrq, XT.u (XT.nums (fun k hk => va_up_ne _ _ (by omega))), fun z => absurd (show (3 : Nat) = 0 from z) (by decide)⟩ hP hD hS ls (lv_sub hl [] rfl)

set_option maxHeartbeats 4000000 in
set_option maxRecDepth 100000 in
theorem lp_top_10 {p : Program} {l : Launch} {e : Env} {s : State} {m : MethodId} {args : Array Value} {below : List Frame} {meth : Method} {c : Code} {Q : State → Prop} {A : Nat → Prop} {dC : Nat → ClassId} {dI : Nat → Nat → Nat} {cB cC cI cJ cZ : ClassId} {z0 : Nat} {R : Nat → Nat} (hx : p.tables.exec = Jvm.exec) (hb : c.code = cX12_top) (hml : c.maxLocals = 6) (hown : s.vm.findClass RX12 = some m.cls) (hts : ∀ w ∈ vX12_top, w.before args s = true) (hK : va_K (dC, dI) vwCl (TY cB cC cI cJ cZ) s) (hA : ∀ q : Nat, s.heap.size ≤ q → A q) {pl : Int32} {N : Nat → Nat} {G : Nat → Nat → Nat} {B : Nat → Nat → Int32} {sz az : Nat → Nat} {f t R1 x : Nat} (hxi : XI N G sz az) (h33 : N 33 = 0) (hrq : RQ N G sz t) (hpl : PLN N G t) (hf : f < t) (hR : R1 + 3 * sz f ≤ 9100) (hph : PHI N (R1 + 3 * sz f) ≤ x + 1) (hx9 : x ≤ 1940000000) (kr : ∀ (N1 : Nat → Nat) (G1 : Nat → Nat → Nat) (B1 : Nat → Nat → Int32) (H : Heap) (locs : List Loc), (∃ sz1 az1, XI N1 G1 sz1 az1 ∧ RQ N1 G1 sz1 t ∧ XU N G B sz N1 G1 B1 sz1 ∧ (N1 33 = 0 → PHI N1 R1 ≤ x)) → va_P (dC, dI) vwCl (MW cB cC cI cJ cZ z0 R pl N1 G1 B1) H → va_D A (MW cB cC cI cJ cZ z0 R pl N1 G1 B1) → va_S A s.heap H locs → ∀ (ls : Array Slot), lv_has ls 6 [] → W p l e (headSpec vX12_top { frames := 10, cells := 0, slots := 0, locals := 244 }).room s m args below meth c H locs 0 0 Q (F0 m 215 ls [])) (ks : ∀ (N1 : Nat → Nat) (G1 : Nat → Nat → Nat) (B1 : Nat → Nat → Int32) (H : Heap) (locs : List Loc), (∃ sz1 az1, XI N1 G1 sz1 az1 ∧ RQ N1 G1 sz1 t ∧ XU N G B sz N1 G1 B1 sz1 ∧ (N1 33 = 0 → PHI N1 R1 ≤ x)) → va_P (dC, dI) vwCl (MW cB cC cI cJ cZ z0 R pl N1 G1 B1) H → va_D A (MW cB cC cI cJ cZ z0 R pl N1 G1 B1) → va_S A s.heap H locs → ∀ (ls : Array Slot), lv_has ls 6 [] → W p l e (headSpec vX12_top { frames := 10, cells := 0, slots := 0, locals := 244 }).room s m args below meth c H locs 0 0 Q (F0 m 98 ls [])) (kt : ∀ (N1 : Nat → Nat) (G1 : Nat → Nat → Nat) (B1 : Nat → Nat → Int32) (H : Heap) (locs : List Loc), (∃ sz1 az1, XI N1 G1 sz1 az1 ∧ RQ N1 G1 sz1 t ∧ XU N G B sz N1 G1 B1 sz1 ∧ (N1 33 = 0 → PHI N1 R1 ≤ x)) → va_P (dC, dI) vwCl (MW cB cC cI cJ cZ z0 R pl N1 G1 B1) H → va_D A (MW cB cC cI cJ cZ z0 R pl N1 G1 B1) → va_S A s.heap H locs → ∀ (ls : Array Slot), lv_has ls 6 [] → W p l e (headSpec vX12_top { frames := 10, cells := 0, slots := 0, locals := 244 }).room s m args below meth c H locs 0 0 Q (F0 m 123 ls [])) : ∀ (H : Heap) (locs : List Loc), va_P (dC, dI) vwCl (MW cB cC cI cJ cZ z0 R pl N G B) H → va_D A (MW cB cC cI cJ cZ z0 R pl N G B) → va_S A s.heap H locs → ∀ (ls : Array Slot), lv_has ls 6 [(0, .ref z0), (1, .int (nI f)), (2, .int (nI 1)), (3, .int (nI 0)), (4, .int (nI 0 - 1))] → W p l e (headSpec vX12_top { frames := 10, cells := 0, slots := 0, locals := 244 }).room s m args below meth c H locs 0 0 Q (F0 m 35 ls []) := by
  have hcs : 0 + 0 ≤ (0 : Nat) ∧ 0 + 0 ≤ (0 : Nat) := ⟨Nat.le_refl 0, Nat.le_refl 0⟩
  intro H locs hP hD hS ls hl
  have ht9 := hxi.1.2.2.1
  have hG := hxi.1.1
  have hG2 := hG
  have hal := hxi.1.2.1
  have u6 := ht9.1
  have hpl1 := hpl.1
  have hfN : f < N 14 := by omega
  have u1 := ht9.one hfN
  have hf8 : f < 90000 := by omega
  have hnf := hxi.2.2.2.2.2.1
  have hlt := hxi.2.2.2.2.1
  have hev := hxi.2.2.2.1
  have h9b := hrq.2.2.1
  have h1n := hev.1
  have h65 := hal.1
  have g11 := hG 11 (CH G f 1)
  refine lv_iload_n hx hb dX12_top_35 rfl (lv_at hl 2 rfl) ?_
  refine bz_ne (tgt := 43) hx hb (by first | omega | exact Nat.lt_of_lt_of_le (hG _ _) (by decide)) dX12_top_36 (by decide) (fun c => ?_) (fun q9 => absurd q9 (by omega))
  refine lv_aload_n hx hb dX12_top_43 rfl (lv_at hl 0 rfl) ?_
  refine lv_iload_n hx hb dX12_top_44 rfl (lv_at hl 1 rfl) ?_
  refine lv_iconst (v := nI 3) hx hb dX12_top_45 (by decide) ?_
  refine mcl_i (As := [.int (nI f), .int (nI 3)]) (rest := []) ⟨hx, hb, hml, hown, hts⟩ (m_isList l dC dI cB cC cI cJ cZ z0 R pl N G B f 3 hG2 (by omega) (by omega) H.size) (cwV 2 hts kX12_top_X12_isList_276 rfl rfl rfl (by decide +kernel) ⟨Nat.le_of_ble_eq_true rfl, Nat.le_of_ble_eq_true rfl⟩) hK hP hD hS hA rfl rfl hl.1 (lv_room (Nat.le_of_ble_eq_true rfl)) dX12_top_46 hcs (fun r_6 N_2 G_3 B_4 pl_5 hw H locs hP hD hS => ?_)
  dsimp only at hw
  obtain ⟨e1, e2, e3, e4, hw⟩ := hw
  rw [e1, e2, e3, e4] at hP hD
  have hw : r_6 = nI (if G 10 f = 2 ∧ G 12 f = 3 then 1 else 0) := hw
  by_cases c_1 : G 10 f = 2 ∧ G 12 f = 3
  · rw [if_pos c_1] at hw
    subst hw
    obtain ⟨q1, q2⟩ := c_1
    have hc1 := (ht9.pt hfN (show 1 < G 12 f by omega)).2.1
    have hct := (hpl.2 f hf).1 1 (by omega)
    refine bz_eq (tgt := 85) hx hb (by first | omega | exact Nat.lt_of_lt_of_le (hG _ _) (by decide)) dX12_top_49 (by decide) (fun q9 => absurd q9 (by omega)) (fun c => ?_)
    refine lv_aload_n hx hb dX12_top_52 rfl (lv_at hl 0 rfl) ?_
    refine lv_aload_n hx hb dX12_top_53 rfl (lv_at hl 0 rfl) ?_
    refine lv_iload_n hx hb dX12_top_54 rfl (lv_at hl 1 rfl) ?_
    refine lv_iconst (v := nI 1) hx hb dX12_top_55 (by decide) ?_
    obtain ⟨t_12, t_12b, t_12c, t_12d⟩ := ht9.pt (f := f) (k := 1) (hfN) (by omega)
    refine mcl_i (As := [.int (nI f), .int (nI 1)]) (rest := [.ref z0]) ⟨hx, hb, hml, hown, hts⟩ (m_part l dC dI cB cC cI cJ cZ z0 R pl N G B f 1 hG2 t_12d t_12 H.size) (cwV 2 hts kX12_top_X12_part_192 rfl rfl rfl (by decide +kernel) ⟨Nat.le_of_ble_eq_true rfl, Nat.le_of_ble_eq_true rfl⟩) hK hP hD hS hA rfl rfl hl.1 (lv_room (Nat.le_of_ble_eq_true rfl)) dX12_top_56 hcs (fun r_17 N_13 G_14 B_15 pl_16 hw H locs hP hD hS => ?_)
    dsimp only at hw
    obtain ⟨e1, e2, e3, e4, hw⟩ := hw
    rw [e1, e2, e3, e4] at hP hD
    have hw : r_17 = nI (CH G f 1) := hw
    subst hw
    refine mcl_i (As := [.int (nI (CH G f 1))]) (rest := []) ⟨hx, hb, hml, hown, hts⟩ (m_isName l dC dI cB cC cI cJ cZ z0 R pl N G B (CH G f 1) hG2 (by omega) H.size) (cwV 1 hts kX12_top_X12_isName_180 rfl rfl rfl (by decide +kernel) ⟨Nat.le_of_ble_eq_true rfl, Nat.le_of_ble_eq_true rfl⟩) hK hP hD hS hA rfl rfl hl.1 (lv_room (Nat.le_of_ble_eq_true rfl)) dX12_top_59 hcs (fun r_23 N_19 G_20 B_21 pl_22 hw H locs hP hD hS => ?_)
    dsimp only at hw
    obtain ⟨e1, e2, e3, e4, hw⟩ := hw
    rw [e1, e2, e3, e4] at hP hD
    have hw : r_23 = nI (if G 10 (CH G f 1) = 1 then 1 else 0) := hw
    by_cases c_18 : G 10 (CH G f 1) = 1
    · rw [if_pos c_18] at hw
      subst hw
      have hy6 := (hpl.2 _ hct).2 c_18
      have h65 := hal.1
      refine bz_eq (tgt := 85) hx hb (by first | omega | exact Nat.lt_of_lt_of_le (hG _ _) (by decide)) dX12_top_62 (by decide) (fun q9 => absurd q9 (by omega)) (fun c => ?_)
      refine lv_aload_n hx hb dX12_top_65 rfl (lv_at hl 0 rfl) ?_
      refine mg_11 hx hb hts inX12_top hown hK hP (hts _ lkX12_top_f35) dX12_top_66 ?_
      refine lv_aload_n hx hb dX12_top_69 rfl (lv_at hl 0 rfl) ?_
      refine lv_iload_n hx hb dX12_top_70 rfl (lv_at hl 1 rfl) ?_
      refine lv_iconst (v := nI 1) hx hb dX12_top_71 (by decide) ?_
      obtain ⟨t_29, t_29b, t_29c, t_29d⟩ := ht9.pt (f := f) (k := 1) (hfN) (by omega)
      refine mcl_i (As := [.int (nI f), .int (nI 1)]) (rest := [.ref (R 11)]) ⟨hx, hb, hml, hown, hts⟩ (m_part l dC dI cB cC cI cJ cZ z0 R pl N G B f 1 hG2 t_29d t_29 H.size) (cwV 2 hts kX12_top_X12_part_192 rfl rfl rfl (by decide +kernel) ⟨Nat.le_of_ble_eq_true rfl, Nat.le_of_ble_eq_true rfl⟩) hK hP hD hS hA rfl rfl hl.1 (lv_room (Nat.le_of_ble_eq_true rfl)) dX12_top_72 hcs (fun r_34 N_30 G_31 B_32 pl_33 hw H locs hP hD hS => ?_)
      dsimp only at hw
      obtain ⟨e1, e2, e3, e4, hw⟩ := hw
      rw [e1, e2, e3, e4] at hP hD
      have hw : r_34 = nI (CH G f 1) := hw
      subst hw
      refine ml_11 hx hb hK hP (by omega) dX12_top_75 ?_
      refine lv_bipush (v := nI 8) hx hb dX12_top_76 (by decide) ?_
      refine bn_le (tgt := 85) hx hb (by first | omega | exact Nat.lt_of_lt_of_le (hG _ _) (by decide)) (by first | omega | exact Nat.lt_of_lt_of_le (hG _ _) (by decide)) dX12_top_78 (by decide) (fun c4 => ?_) (fun c4 => ?_)
      · refine lv_iconst (v := nI 0) hx hb dX12_top_85 (by decide) ?_
        refine lv_istore (lv' := [(5, .int (nI 0)), (0, .ref z0), (1, .int (nI f)), (2, .int (nI 1)), (3, .int (nI 0)), (4, .int (nI 0 - 1))]) hx hb dX12_top_86 hl (by decide) rfl (fun ls hl => ?_)
        refine lv_aload_n hx hb dX12_top_88 rfl (lv_at hl 1 rfl) ?_
        refine lv_iload hx hb dX12_top_89 (lv_at hl 0 rfl) ?_
        refine lv_iconst (v := nI 3) hx hb dX12_top_91 (by decide) ?_
        refine mcl_i (As := [.int (nI 0), .int (nI 3)]) (rest := []) ⟨hx, hb, hml, hown, hts⟩ (m_need l dC dI cB cC cI cJ cZ z0 R pl N G B 0 3 (by decide) ⟨by decide, by decide⟩ h33 H.size) (cwV 2 hts kX12_top_X12_need_255 rfl rfl rfl (by decide +kernel) ⟨Nat.le_of_ble_eq_true rfl, Nat.le_of_ble_eq_true rfl⟩) hK hP hD hS hA rfl rfl hl.1 (lv_room (Nat.le_of_ble_eq_true rfl)) dX12_top_92 hcs (fun r_39 N_35 G_36 B_37 pl_38 hw H locs hP hD hS => ?_)
        dsimp only at hw
        obtain ⟨e3, e4, e2, hw, e5, e6⟩ := hw
        rw [e6 rfl, e2, e3, e4] at hP hD
        subst hw
        refine bz_ne (tgt := 99) hx hb (by first | omega | exact Nat.lt_of_lt_of_le (hG _ _) (by decide)) dX12_top_95 (by decide) (fun q9 => absurd q9 (by omega)) (fun c => ?_)
        exact ks (va_up N 33 3) G B H locs ⟨sz, az, hxi.fault (by decide) (by decide), XT.rq (B := B) (XT.nums (fun k hk => va_up_ne _ _ (by omega))) hpl1 hrq, XT.u (XT.nums (fun k hk => va_up_ne _ _ (by omega))), fun z => absurd (show (3 : Nat) = 0 from z) (by decide)⟩ hP hD hS ls (lv_sub hl [] rfl)
      · refine lv_iconst (v := nI 1) hx hb dX12_top_81 (by decide) ?_
        refine lv_goto (tgt := 86) hx hb dX12_top_82 (by decide) ?_
        refine lv_istore (lv' := [(5, .int (nI 1)), (0, .ref z0), (1, .int (nI f)), (2, .int (nI 1)), (3, .int (nI 0)), (4, .int (nI 0 - 1))]) hx hb dX12_top_86 hl (by decide) rfl (fun ls hl => ?_)
        refine lv_aload_n hx hb dX12_top_88 rfl (lv_at hl 1 rfl) ?_
        refine lv_iload hx hb dX12_top_89 (lv_at hl 0 rfl) ?_
        refine lv_iconst (v := nI 3) hx hb dX12_top_91 (by decide) ?_
        refine mcl_i (As := [.int (nI 1), .int (nI 3)]) (rest := []) ⟨hx, hb, hml, hown, hts⟩ (m_need l dC dI cB cC cI cJ cZ z0 R pl N G B 1 3 (by decide) ⟨by decide, by decide⟩ h33 H.size) (cwV 2 hts kX12_top_X12_need_255 rfl rfl rfl (by decide +kernel) ⟨Nat.le_of_ble_eq_true rfl, Nat.le_of_ble_eq_true rfl⟩) hK hP hD hS hA rfl rfl hl.1 (lv_room (Nat.le_of_ble_eq_true rfl)) dX12_top_92 hcs (fun r_44 N_40 G_41 B_42 pl_43 hw H locs hP hD hS => ?_)
        dsimp only at hw
        obtain ⟨e3, e4, e2, hw, e5, e6⟩ := hw
        rw [e5 rfl, e2, e3, e4] at hP hD
        subst hw
        refine bz_ne (tgt := 99) hx hb (by first | omega | exact Nat.lt_of_lt_of_le (hG _ _) (by decide)) dX12_top_95 (by decide) (fun c => ?_) (fun q9 => absurd q9 (by omega))
        refine lv_aload_n hx hb dX12_top_99 rfl (lv_at hl 1 rfl) ?_
        refine mg_11 hx hb hts inX12_top hown hK hP (hts _ lkX12_top_f35) dX12_top_100 ?_
        refine lv_aload_n hx hb dX12_top_103 rfl (lv_at hl 1 rfl) ?_
        refine lv_iload_n hx hb dX12_top_104 rfl (lv_at hl 2 rfl) ?_
        refine lv_iconst (v := nI 1) hx hb dX12_top_105 (by decide) ?_
        obtain ⟨t_45, t_45b, t_45c, t_45d⟩ := ht9.pt (f := f) (k := 1) (hfN) (by omega)
        refine mcl_i (As := [.int (nI f), .int (nI 1)]) (rest := [.ref (R 11)]) ⟨hx, hb, hml, hown, hts⟩ (m_part l dC dI cB cC cI cJ cZ z0 R pl N G B f 1 hG2 t_45d t_45 H.size) (cwV 2 hts kX12_top_X12_part_192 rfl rfl rfl (by decide +kernel) ⟨Nat.le_of_ble_eq_true rfl, Nat.le_of_ble_eq_true rfl⟩) hK hP hD hS hA rfl rfl hl.1 (lv_room (Nat.le_of_ble_eq_true rfl)) dX12_top_106 hcs (fun r_50 N_46 G_47 B_48 pl_49 hw H locs hP hD hS => ?_)
        dsimp only at hw
        obtain ⟨e1, e2, e3, e4, hw⟩ := hw
        rw [e1, e2, e3, e4] at hP hD
        have hw : r_50 = nI (CH G f 1) := hw
        subst hw
        refine ml_11 hx hb hK hP (by omega) dX12_top_109 ?_
        obtain ⟨y, hye⟩ : ∃ y, y = G 11 (CH G f 1) := ⟨_, rfl⟩
        rw [← hye] at hy6
        refine tp_i (y := nI y) (by rw [hye]) ?_
        refine lv_istore (lv' := [(4, .int (nI y)), (5, .int (nI 1)), (0, .ref z0), (1, .int (nI f)), (2, .int (nI 1)), (3, .int (nI 0))]) hx hb dX12_top_110 hl (by decide) rfl (fun ls hl => ?_)
        refine lv_iload_n hx hb dX12_top_112 rfl (lv_at hl 4 rfl) ?_
        refine bz_eq (tgt := 124) hx hb (by first | omega | exact Nat.lt_of_lt_of_le (hG _ _) (by decide)) dX12_top_113 (by decide) (fun q9 => absurd q9 (by omega)) (fun c => ?_)
        refine lv_aload_n hx hb dX12_top_116 rfl (lv_at hl 2 rfl) ?_
        refine lv_iload_n hx hb dX12_top_117 rfl (lv_at hl 3 rfl) ?_
        refine lv_iload hx hb dX12_top_118 (lv_at hl 0 rfl) ?_
        refine mcl_v (As := [.int (nI f), .int (nI y)]) (rest := []) ⟨hx, hb, hml, hown, hts⟩ (m_defineSyntax l dC dI cB cC cI cJ cZ z0 R pl N G B f y t R1 x sz az hxi h33 hrq hpl hf (by omega) hy6 (by unfold PHI at hph ⊢; omega) H.size) (cwV 2 hts kX12_top_X12_defineSyntax_396 rfl rfl rfl (by decide +kernel) ⟨Nat.le_of_ble_eq_true rfl, Nat.le_of_ble_eq_true rfl⟩) hK hP hD hS hA rfl rfl hl.1 (lv_room (Nat.le_of_ble_eq_true rfl)) dX12_top_120 hcs (fun  N_51 G_52 B_53 pl_54 hw H locs hP hD hS => ?_)
        dsimp only at hw
        obtain ⟨e4, hw⟩ := hw
        rw [e4] at hP hD
        exact kt N_51 G_52 B_53 H locs hw hP hD hS ls (lv_sub hl [] rfl)
    · rw [if_neg c_18] at hw
      subst hw
      refine bz_eq (tgt := 85) hx hb (by first | omega | exact Nat.lt_of_lt_of_le (hG _ _) (by decide)) dX12_top_62 (by decide) (fun c => ?_) (fun q9 => absurd q9 (by omega))
      refine lv_iconst (v := nI 0) hx hb dX12_top_85 (by decide) ?_
      refine lv_istore (lv' := [(5, .int (nI 0)), (0, .ref z0), (1, .int (nI f)), (2, .int (nI 1)), (3, .int (nI 0)), (4, .int (nI 0 - 1))]) hx hb dX12_top_86 hl (by decide) rfl (fun ls hl => ?_)
      refine lv_aload_n hx hb dX12_top_88 rfl (lv_at hl 1 rfl) ?_
      refine lv_iload hx hb dX12_top_89 (lv_at hl 0 rfl) ?_
      refine lv_iconst (v := nI 3) hx hb dX12_top_91 (by decide) ?_
      refine mcl_i (As := [.int (nI 0), .int (nI 3)]) (rest := []) ⟨hx, hb, hml, hown, hts⟩ (m_need l dC dI cB cC cI cJ cZ z0 R pl N G B 0 3 (by decide) ⟨by decide, by decide⟩ h33 H.size) (cwV 2 hts kX12_top_X12_need_255 rfl rfl rfl (by decide +kernel) ⟨Nat.le_of_ble_eq_true rfl, Nat.le_of_ble_eq_true rfl⟩) hK hP hD hS hA rfl rfl hl.1 (lv_room (Nat.le_of_ble_eq_true rfl)) dX12_top_92 hcs (fun r_28 N_24 G_25 B_26 pl_27 hw H locs hP hD hS => ?_)
      dsimp only at hw
      obtain ⟨e3, e4, e2, hw, e5, e6⟩ := hw
      rw [e6 rfl, e2, e3, e4] at hP hD
      subst hw
      refine bz_ne (tgt := 99) hx hb (by first | omega | exact Nat.lt_of_lt_of_le (hG _ _) (by decide)) dX12_top_95 (by decide) (fun q9 => absurd q9 (by omega)) (fun c => ?_)
      exact ks (va_up N 33 3) G B H locs ⟨sz, az, hxi.fault (by decide) (by decide), XT.rq (B := B) (XT.nums (fun k hk => va_up_ne _ _ (by omega))) hpl1 hrq, XT.u (XT.nums (fun k hk => va_up_ne _ _ (by omega))), fun z => absurd (show (3 : Nat) = 0 from z) (by decide)⟩ hP hD hS ls (lv_sub hl [] rfl)
  · rw [if_neg c_1] at hw
    subst hw
    refine bz_eq (tgt := 85) hx hb (by first | omega | exact Nat.lt_of_lt_of_le (hG _ _) (by decide)) dX12_top_49 (by decide) (fun c => ?_) (fun q9 => absurd q9 (by omega))
    refine lv_iconst (v := nI 0) hx hb dX12_top_85 (by decide) ?_
    refine lv_istore (lv' := [(5, .int (nI 0)), (0, .ref z0), (1, .int (nI f)), (2, .int (nI 1)), (3, .int (nI 0)), (4, .int (nI 0 - 1))]) hx hb dX12_top_86 hl (by decide) rfl (fun ls hl => ?_)
    refine lv_aload_n hx hb dX12_top_88 rfl (lv_at hl 1 rfl) ?_
    refine lv_iload hx hb dX12_top_89 (lv_at hl 0 rfl) ?_
    refine lv_iconst (v := nI 3) hx hb dX12_top_91 (by decide) ?_
    refine mcl_i (As := [.int (nI 0), .int (nI 3)]) (rest := []) ⟨hx, hb, hml, hown, hts⟩ (m_need l dC dI cB cC cI cJ cZ z0 R pl N G B 0 3 (by decide) ⟨by decide, by decide⟩ h33 H.size) (cwV 2 hts kX12_top_X12_need_255 rfl rfl rfl (by decide +kernel) ⟨Nat.le_of_ble_eq_true rfl, Nat.le_of_ble_eq_true rfl⟩) hK hP hD hS hA rfl rfl hl.1 (lv_room (Nat.le_of_ble_eq_true rfl)) dX12_top_92 hcs (fun r_11 N_7 G_8 B_9 pl_10 hw H locs hP hD hS => ?_)
    dsimp only at hw
    obtain ⟨e3, e4, e2, hw, e5, e6⟩ := hw
    rw [e6 rfl, e2, e3, e4] at hP hD
    subst hw
    refine bz_ne (tgt := 99) hx hb (by first | omega | exact Nat.lt_of_lt_of_le (hG _ _) (by decide)) dX12_top_95 (by decide) (fun q9 => absurd q9 (by omega)) (fun c => ?_)
    exact ks (va_up N 33 3) G B H locs ⟨sz, az, hxi.fault (by decide) (by decide), XT.rq (B := B) (XT.nums (fun k hk => va_up_ne _ _ (by omega))) hpl1 hrq, XT.u (XT.nums (fun k hk => va_up_ne _ _ (by omega))), fun z => absurd (show (3 : Nat) = 0 from z) (by decide)⟩ hP hD hS ls (lv_sub hl [] rfl)

set_option maxHeartbeats 4000000 in
set_option maxRecDepth 100000 in
theorem lp_top_11 {p : Program} {l : Launch} {e : Env} {s : State} {m : MethodId} {args : Array Value} {below : List Frame} {meth : Method} {c : Code} {Q : State → Prop} {A : Nat → Prop} {dC : Nat → ClassId} {dI : Nat → Nat → Nat} {cB cC cI cJ cZ : ClassId} {z0 : Nat} {R : Nat → Nat} (hx : p.tables.exec = Jvm.exec) (hb : c.code = cX12_top) (hml : c.maxLocals = 6) (hown : s.vm.findClass RX12 = some m.cls) (hts : ∀ w ∈ vX12_top, w.before args s = true) (hK : va_K (dC, dI) vwCl (TY cB cC cI cJ cZ) s) (hA : ∀ q : Nat, s.heap.size ≤ q → A q) {pl : Int32} {N : Nat → Nat} {G : Nat → Nat → Nat} {B : Nat → Nat → Int32} {sz az : Nat → Nat} {f t R1 x : Nat} (hxi : XI N G sz az) (h33 : N 33 = 0) (hrq : RQ N G sz t) (hpl : PLN N G t) (hf : f < t) (hR : R1 + 3 * sz f ≤ 9100) (hph : PHI N (R1 + 3 * sz f) ≤ x + 1) (hx9 : x ≤ 1940000000) (kr : ∀ (N1 : Nat → Nat) (G1 : Nat → Nat → Nat) (B1 : Nat → Nat → Int32) (H : Heap) (locs : List Loc), (∃ sz1 az1, XI N1 G1 sz1 az1 ∧ RQ N1 G1 sz1 t ∧ XU N G B sz N1 G1 B1 sz1 ∧ (N1 33 = 0 → PHI N1 R1 ≤ x)) → va_P (dC, dI) vwCl (MW cB cC cI cJ cZ z0 R pl N1 G1 B1) H → va_D A (MW cB cC cI cJ cZ z0 R pl N1 G1 B1) → va_S A s.heap H locs → ∀ (ls : Array Slot), lv_has ls 6 [] → W p l e (headSpec vX12_top { frames := 10, cells := 0, slots := 0, locals := 244 }).room s m args below meth c H locs 0 0 Q (F0 m 215 ls [])) (ks : ∀ (N1 : Nat → Nat) (G1 : Nat → Nat → Nat) (B1 : Nat → Nat → Int32) (H : Heap) (locs : List Loc), (∃ sz1 az1, XI N1 G1 sz1 az1 ∧ RQ N1 G1 sz1 t ∧ XU N G B sz N1 G1 B1 sz1 ∧ (N1 33 = 0 → PHI N1 R1 ≤ x)) → va_P (dC, dI) vwCl (MW cB cC cI cJ cZ z0 R pl N1 G1 B1) H → va_D A (MW cB cC cI cJ cZ z0 R pl N1 G1 B1) → va_S A s.heap H locs → ∀ (ls : Array Slot), lv_has ls 6 [] → W p l e (headSpec vX12_top { frames := 10, cells := 0, slots := 0, locals := 244 }).room s m args below meth c H locs 0 0 Q (F0 m 98 ls [])) (kt : ∀ (N1 : Nat → Nat) (G1 : Nat → Nat → Nat) (B1 : Nat → Nat → Int32) (H : Heap) (locs : List Loc), (∃ sz1 az1, XI N1 G1 sz1 az1 ∧ RQ N1 G1 sz1 t ∧ XU N G B sz N1 G1 B1 sz1 ∧ (N1 33 = 0 → PHI N1 R1 ≤ x)) → va_P (dC, dI) vwCl (MW cB cC cI cJ cZ z0 R pl N1 G1 B1) H → va_D A (MW cB cC cI cJ cZ z0 R pl N1 G1 B1) → va_S A s.heap H locs → ∀ (ls : Array Slot), lv_has ls 6 [] → W p l e (headSpec vX12_top { frames := 10, cells := 0, slots := 0, locals := 244 }).room s m args below meth c H locs 0 0 Q (F0 m 123 ls [])) : ∀ (H : Heap) (locs : List Loc), va_P (dC, dI) vwCl (MW cB cC cI cJ cZ z0 R pl N G B) H → va_D A (MW cB cC cI cJ cZ z0 R pl N G B) → va_S A s.heap H locs → ∀ (ls : Array Slot), lv_has ls 6 [(0, .ref z0), (1, .int (nI f)), (2, .int (nI 1)), (3, .int (nI 1)), (4, .int (nI 0 - 1))] → W p l e (headSpec vX12_top { frames := 10, cells := 0, slots := 0, locals := 244 }).room s m args below meth c H locs 0 0 Q (F0 m 35 ls []) := by
  have hcs : 0 + 0 ≤ (0 : Nat) ∧ 0 + 0 ≤ (0 : Nat) := ⟨Nat.le_refl 0, Nat.le_refl 0⟩
  intro H locs hP hD hS ls hl
  have ht9 := hxi.1.2.2.1
  have hG := hxi.1.1
  have hG2 := hG
  have hal := hxi.1.2.1
  have u6 := ht9.1
  have hpl1 := hpl.1
  have hfN : f < N 14 := by omega
  have u1 := ht9.one hfN
  have hf8 : f < 90000 := by omega
  have hnf := hxi.2.2.2.2.2.1
  have hlt := hxi.2.2.2.2.1
  have hev := hxi.2.2.2.1
  have h9b := hrq.2.2.1
  have h1n := hev.1
  have h65 := hal.1
  have g11 := hG 11 (CH G f 1)
  refine lv_iload_n hx hb dX12_top_35 rfl (lv_at hl 2 rfl) ?_
  refine bz_ne (tgt := 43) hx hb (by first | omega | exact Nat.lt_of_lt_of_le (hG _ _) (by decide)) dX12_top_36 (by decide) (fun c => ?_) (fun q9 => absurd q9 (by omega))
  refine lv_aload_n hx hb dX12_top_43 rfl (lv_at hl 0 rfl) ?_
  refine lv_iload_n hx hb dX12_top_44 rfl (lv_at hl 1 rfl) ?_
  refine lv_iconst (v := nI 3) hx hb dX12_top_45 (by decide) ?_
  refine mcl_i (As := [.int (nI f), .int (nI 3)]) (rest := []) ⟨hx, hb, hml, hown, hts⟩ (m_isList l dC dI cB cC cI cJ cZ z0 R pl N G B f 3 hG2 (by omega) (by omega) H.size) (cwV 2 hts kX12_top_X12_isList_276 rfl rfl rfl (by decide +kernel) ⟨Nat.le_of_ble_eq_true rfl, Nat.le_of_ble_eq_true rfl⟩) hK hP hD hS hA rfl rfl hl.1 (lv_room (Nat.le_of_ble_eq_true rfl)) dX12_top_46 hcs (fun r_6 N_2 G_3 B_4 pl_5 hw H locs hP hD hS => ?_)
  dsimp only at hw
  obtain ⟨e1, e2, e3, e4, hw⟩ := hw
  rw [e1, e2, e3, e4] at hP hD
  have hw : r_6 = nI (if G 10 f = 2 ∧ G 12 f = 3 then 1 else 0) := hw
  by_cases c_1 : G 10 f = 2 ∧ G 12 f = 3
  · rw [if_pos c_1] at hw
    subst hw
    obtain ⟨q1, q2⟩ := c_1
    have hc1 := (ht9.pt hfN (show 1 < G 12 f by omega)).2.1
    have hct := (hpl.2 f hf).1 1 (by omega)
    refine bz_eq (tgt := 85) hx hb (by first | omega | exact Nat.lt_of_lt_of_le (hG _ _) (by decide)) dX12_top_49 (by decide) (fun q9 => absurd q9 (by omega)) (fun c => ?_)
    refine lv_aload_n hx hb dX12_top_52 rfl (lv_at hl 0 rfl) ?_
    refine lv_aload_n hx hb dX12_top_53 rfl (lv_at hl 0 rfl) ?_
    refine lv_iload_n hx hb dX12_top_54 rfl (lv_at hl 1 rfl) ?_
    refine lv_iconst (v := nI 1) hx hb dX12_top_55 (by decide) ?_
    obtain ⟨t_12, t_12b, t_12c, t_12d⟩ := ht9.pt (f := f) (k := 1) (hfN) (by omega)
    refine mcl_i (As := [.int (nI f), .int (nI 1)]) (rest := [.ref z0]) ⟨hx, hb, hml, hown, hts⟩ (m_part l dC dI cB cC cI cJ cZ z0 R pl N G B f 1 hG2 t_12d t_12 H.size) (cwV 2 hts kX12_top_X12_part_192 rfl rfl rfl (by decide +kernel) ⟨Nat.le_of_ble_eq_true rfl, Nat.le_of_ble_eq_true rfl⟩) hK hP hD hS hA rfl rfl hl.1 (lv_room (Nat.le_of_ble_eq_true rfl)) dX12_top_56 hcs (fun r_17 N_13 G_14 B_15 pl_16 hw H locs hP hD hS => ?_)
    dsimp only at hw
    obtain ⟨e1, e2, e3, e4, hw⟩ := hw
    rw [e1, e2, e3, e4] at hP hD
    have hw : r_17 = nI (CH G f 1) := hw
    subst hw
    refine mcl_i (As := [.int (nI (CH G f 1))]) (rest := []) ⟨hx, hb, hml, hown, hts⟩ (m_isName l dC dI cB cC cI cJ cZ z0 R pl N G B (CH G f 1) hG2 (by omega) H.size) (cwV 1 hts kX12_top_X12_isName_180 rfl rfl rfl (by decide +kernel) ⟨Nat.le_of_ble_eq_true rfl, Nat.le_of_ble_eq_true rfl⟩) hK hP hD hS hA rfl rfl hl.1 (lv_room (Nat.le_of_ble_eq_true rfl)) dX12_top_59 hcs (fun r_23 N_19 G_20 B_21 pl_22 hw H locs hP hD hS => ?_)
    dsimp only at hw
    obtain ⟨e1, e2, e3, e4, hw⟩ := hw
    rw [e1, e2, e3, e4] at hP hD
    have hw : r_23 = nI (if G 10 (CH G f 1) = 1 then 1 else 0) := hw
    by_cases c_18 : G 10 (CH G f 1) = 1
    · rw [if_pos c_18] at hw
      subst hw
      have hy6 := (hpl.2 _ hct).2 c_18
      have h65 := hal.1
      refine bz_eq (tgt := 85) hx hb (by first | omega | exact Nat.lt_of_lt_of_le (hG _ _) (by decide)) dX12_top_62 (by decide) (fun q9 => absurd q9 (by omega)) (fun c => ?_)
      refine lv_aload_n hx hb dX12_top_65 rfl (lv_at hl 0 rfl) ?_
      refine mg_11 hx hb hts inX12_top hown hK hP (hts _ lkX12_top_f35) dX12_top_66 ?_
      refine lv_aload_n hx hb dX12_top_69 rfl (lv_at hl 0 rfl) ?_
      refine lv_iload_n hx hb dX12_top_70 rfl (lv_at hl 1 rfl) ?_
      refine lv_iconst (v := nI 1) hx hb dX12_top_71 (by decide) ?_
      obtain ⟨t_29, t_29b, t_29c, t_29d⟩ := ht9.pt (f := f) (k := 1) (hfN) (by omega)
      refine mcl_i (As := [.int (nI f), .int (nI 1)]) (rest := [.ref (R 11)]) ⟨hx, hb, hml, hown, hts⟩ (m_part l dC dI cB cC cI cJ cZ z0 R pl N G B f 1 hG2 t_29d t_29 H.size) (cwV 2 hts kX12_top_X12_part_192 rfl rfl rfl (by decide +kernel) ⟨Nat.le_of_ble_eq_true rfl, Nat.le_of_ble_eq_true rfl⟩) hK hP hD hS hA rfl rfl hl.1 (lv_room (Nat.le_of_ble_eq_true rfl)) dX12_top_72 hcs (fun r_34 N_30 G_31 B_32 pl_33 hw H locs hP hD hS => ?_)
      dsimp only at hw
      obtain ⟨e1, e2, e3, e4, hw⟩ := hw
      rw [e1, e2, e3, e4] at hP hD
      have hw : r_34 = nI (CH G f 1) := hw
      subst hw
      refine ml_11 hx hb hK hP (by omega) dX12_top_75 ?_
      refine lv_bipush (v := nI 8) hx hb dX12_top_76 (by decide) ?_
      refine bn_le (tgt := 85) hx hb (by first | omega | exact Nat.lt_of_lt_of_le (hG _ _) (by decide)) (by first | omega | exact Nat.lt_of_lt_of_le (hG _ _) (by decide)) dX12_top_78 (by decide) (fun c4 => ?_) (fun c4 => ?_)
      · refine lv_iconst (v := nI 0) hx hb dX12_top_85 (by decide) ?_
        refine lv_istore (lv' := [(5, .int (nI 0)), (0, .ref z0), (1, .int (nI f)), (2, .int (nI 1)), (3, .int (nI 1)), (4, .int (nI 0 - 1))]) hx hb dX12_top_86 hl (by decide) rfl (fun ls hl => ?_)
        refine lv_aload_n hx hb dX12_top_88 rfl (lv_at hl 1 rfl) ?_
        refine lv_iload hx hb dX12_top_89 (lv_at hl 0 rfl) ?_
        refine lv_iconst (v := nI 3) hx hb dX12_top_91 (by decide) ?_
        refine mcl_i (As := [.int (nI 0), .int (nI 3)]) (rest := []) ⟨hx, hb, hml, hown, hts⟩ (m_need l dC dI cB cC cI cJ cZ z0 R pl N G B 0 3 (by decide) ⟨by decide, by decide⟩ h33 H.size) (cwV 2 hts kX12_top_X12_need_255 rfl rfl rfl (by decide +kernel) ⟨Nat.le_of_ble_eq_true rfl, Nat.le_of_ble_eq_true rfl⟩) hK hP hD hS hA rfl rfl hl.1 (lv_room (Nat.le_of_ble_eq_true rfl)) dX12_top_92 hcs (fun r_39 N_35 G_36 B_37 pl_38 hw H locs hP hD hS => ?_)
        dsimp only at hw
        obtain ⟨e3, e4, e2, hw, e5, e6⟩ := hw
        rw [e6 rfl, e2, e3, e4] at hP hD
        subst hw
        refine bz_ne (tgt := 99) hx hb (by first | omega | exact Nat.lt_of_lt_of_le (hG _ _) (by decide)) dX12_top_95 (by decide) (fun q9 => absurd q9 (by omega)) (fun c => ?_)
        exact ks (va_up N 33 3) G B H locs ⟨sz, az, hxi.fault (by decide) (by decide), XT.rq (B := B) (XT.nums (fun k hk => va_up_ne _ _ (by omega))) hpl1 hrq, XT.u (XT.nums (fun k hk => va_up_ne _ _ (by omega))), fun z => absurd (show (3 : Nat) = 0 from z) (by decide)⟩ hP hD hS ls (lv_sub hl [] rfl)
      · refine lv_iconst (v := nI 1) hx hb dX12_top_81 (by decide) ?_
        refine lv_goto (tgt := 86) hx hb dX12_top_82 (by decide) ?_
        refine lv_istore (lv' := [(5, .int (nI 1)), (0, .ref z0), (1, .int (nI f)), (2, .int (nI 1)), (3, .int (nI 1)), (4, .int (nI 0 - 1))]) hx hb dX12_top_86 hl (by decide) rfl (fun ls hl => ?_)
        refine lv_aload_n hx hb dX12_top_88 rfl (lv_at hl 1 rfl) ?_
        refine lv_iload hx hb dX12_top_89 (lv_at hl 0 rfl) ?_
        refine lv_iconst (v := nI 3) hx hb dX12_top_91 (by decide) ?_
        refine mcl_i (As := [.int (nI 1), .int (nI 3)]) (rest := []) ⟨hx, hb, hml, hown, hts⟩ (m_need l dC dI cB cC cI cJ cZ z0 R pl N G B 1 3 (by decide) ⟨by decide, by decide⟩ h33 H.size) (cwV 2 hts kX12_top_X12_need_255 rfl rfl rfl (by decide +kernel) ⟨Nat.le_of_ble_eq_true rfl, Nat.le_of_ble_eq_true rfl⟩) hK hP hD hS hA rfl rfl hl.1 (lv_room (Nat.le_of_ble_eq_true rfl)) dX12_top_92 hcs (fun r_44 N_40 G_41 B_42 pl_43 hw H locs hP hD hS => ?_)
        dsimp only at hw
        obtain ⟨e3, e4, e2, hw, e5, e6⟩ := hw
        rw [e5 rfl, e2, e3, e4] at hP hD
        subst hw
        refine bz_ne (tgt := 99) hx hb (by first | omega | exact Nat.lt_of_lt_of_le (hG _ _) (by decide)) dX12_top_95 (by decide) (fun c => ?_) (fun q9 => absurd q9 (by omega))
        refine lv_aload_n hx hb dX12_top_99 rfl (lv_at hl 1 rfl) ?_
        refine mg_11 hx hb hts inX12_top hown hK hP (hts _ lkX12_top_f35) dX12_top_100 ?_
        refine lv_aload_n hx hb dX12_top_103 rfl (lv_at hl 1 rfl) ?_
        refine lv_iload_n hx hb dX12_top_104 rfl (lv_at hl 2 rfl) ?_
        refine lv_iconst (v := nI 1) hx hb dX12_top_105 (by decide) ?_
        obtain ⟨t_45, t_45b, t_45c, t_45d⟩ := ht9.pt (f := f) (k := 1) (hfN) (by omega)
        refine mcl_i (As := [.int (nI f), .int (nI 1)]) (rest := [.ref (R 11)]) ⟨hx, hb, hml, hown, hts⟩ (m_part l dC dI cB cC cI cJ cZ z0 R pl N G B f 1 hG2 t_45d t_45 H.size) (cwV 2 hts kX12_top_X12_part_192 rfl rfl rfl (by decide +kernel) ⟨Nat.le_of_ble_eq_true rfl, Nat.le_of_ble_eq_true rfl⟩) hK hP hD hS hA rfl rfl hl.1 (lv_room (Nat.le_of_ble_eq_true rfl)) dX12_top_106 hcs (fun r_50 N_46 G_47 B_48 pl_49 hw H locs hP hD hS => ?_)
        dsimp only at hw
        obtain ⟨e1, e2, e3, e4, hw⟩ := hw
        rw [e1, e2, e3, e4] at hP hD
        have hw : r_50 = nI (CH G f 1) := hw
        subst hw
        refine ml_11 hx hb hK hP (by omega) dX12_top_109 ?_
        obtain ⟨y, hye⟩ : ∃ y, y = G 11 (CH G f 1) := ⟨_, rfl⟩
        rw [← hye] at hy6
        refine tp_i (y := nI y) (by rw [hye]) ?_
        refine lv_istore (lv' := [(4, .int (nI y)), (5, .int (nI 1)), (0, .ref z0), (1, .int (nI f)), (2, .int (nI 1)), (3, .int (nI 1))]) hx hb dX12_top_110 hl (by decide) rfl (fun ls hl => ?_)
        refine lv_iload_n hx hb dX12_top_112 rfl (lv_at hl 4 rfl) ?_
        refine bz_eq (tgt := 124) hx hb (by first | omega | exact Nat.lt_of_lt_of_le (hG _ _) (by decide)) dX12_top_113 (by decide) (fun q9 => absurd q9 (by omega)) (fun c => ?_)
        refine lv_aload_n hx hb dX12_top_116 rfl (lv_at hl 2 rfl) ?_
        refine lv_iload_n hx hb dX12_top_117 rfl (lv_at hl 3 rfl) ?_
        refine lv_iload hx hb dX12_top_118 (lv_at hl 0 rfl) ?_
        refine mcl_v (As := [.int (nI f), .int (nI y)]) (rest := []) ⟨hx, hb, hml, hown, hts⟩ (m_defineSyntax l dC dI cB cC cI cJ cZ z0 R pl N G B f y t R1 x sz az hxi h33 hrq hpl hf (by omega) hy6 (by unfold PHI at hph ⊢; omega) H.size) (cwV 2 hts kX12_top_X12_defineSyntax_396 rfl rfl rfl (by decide +kernel) ⟨Nat.le_of_ble_eq_true rfl, Nat.le_of_ble_eq_true rfl⟩) hK hP hD hS hA rfl rfl hl.1 (lv_room (Nat.le_of_ble_eq_true rfl)) dX12_top_120 hcs (fun  N_51 G_52 B_53 pl_54 hw H locs hP hD hS => ?_)
        dsimp only at hw
        obtain ⟨e4, hw⟩ := hw
        rw [e4] at hP hD
        exact kt N_51 G_52 B_53 H locs hw hP hD hS ls (lv_sub hl [] rfl)
    · rw [if_neg c_18] at hw
      subst hw
      refine bz_eq (tgt := 85) hx hb (by first | omega | exact Nat.lt_of_lt_of_le (hG _ _) (by decide)) dX12_top_62 (by decide) (fun c => ?_) (fun q9 => absurd q9 (by omega))
      refine lv_iconst (v := nI 0) hx hb dX12_top_85 (by decide) ?_
      refine lv_istore (lv' := [(5, .int (nI 0)), (0, .ref z0), (1, .int (nI f)), (2, .int (nI 1)), (3, .int (nI 1)), (4, .int (nI 0 - 1))]) hx hb dX12_top_86 hl (by decide) rfl (fun ls hl => ?_)
      refine lv_aload_n hx hb dX12_top_88 rfl (lv_at hl 1 rfl) ?_
      refine lv_iload hx hb dX12_top_89 (lv_at hl 0 rfl) ?_
      refine lv_iconst (v := nI 3) hx hb dX12_top_91 (by decide) ?_
      refine mcl_i (As := [.int (nI 0), .int (nI 3)]) (rest := []) ⟨hx, hb, hml, hown, hts⟩ (m_need l dC dI cB cC cI cJ cZ z0 R pl N G B 0 3 (by decide) ⟨by decide, by decide⟩ h33 H.size) (cwV 2 hts kX12_top_X12_need_255 rfl rfl rfl (by decide +kernel) ⟨Nat.le_of_ble_eq_true rfl, Nat.le_of_ble_eq_true rfl⟩) hK hP hD hS hA rfl rfl hl.1 (lv_room (Nat.le_of_ble_eq_true rfl)) dX12_top_92 hcs (fun r_28 N_24 G_25 B_26 pl_27 hw H locs hP hD hS => ?_)
      dsimp only at hw
      obtain ⟨e3, e4, e2, hw, e5, e6⟩ := hw
      rw [e6 rfl, e2, e3, e4] at hP hD
      subst hw
      refine bz_ne (tgt := 99) hx hb (by first | omega | exact Nat.lt_of_lt_of_le (hG _ _) (by decide)) dX12_top_95 (by decide) (fun q9 => absurd q9 (by omega)) (fun c => ?_)
      exact ks (va_up N 33 3) G B H locs ⟨sz, az, hxi.fault (by decide) (by decide), XT.rq (B := B) (XT.nums (fun k hk => va_up_ne _ _ (by omega))) hpl1 hrq, XT.u (XT.nums (fun k hk => va_up_ne _ _ (by omega))), fun z => absurd (show (3 : Nat) = 0 from z) (by decide)⟩ hP hD hS ls (lv_sub hl [] rfl)
  · rw [if_neg c_1] at hw
    subst hw
    refine bz_eq (tgt := 85) hx hb (by first | omega | exact Nat.lt_of_lt_of_le (hG _ _) (by decide)) dX12_top_49 (by decide) (fun c => ?_) (fun q9 => absurd q9 (by omega))
    refine lv_iconst (v := nI 0) hx hb dX12_top_85 (by decide) ?_
    refine lv_istore (lv' := [(5, .int (nI 0)), (0, .ref z0), (1, .int (nI f)), (2, .int (nI 1)), (3, .int (nI 1)), (4, .int (nI 0 - 1))]) hx hb dX12_top_86 hl (by decide) rfl (fun ls hl => ?_)
    refine lv_aload_n hx hb dX12_top_88 rfl (lv_at hl 1 rfl) ?_
    refine lv_iload hx hb dX12_top_89 (lv_at hl 0 rfl) ?_
    refine lv_iconst (v := nI 3) hx hb dX12_top_91 (by decide) ?_
    refine mcl_i (As := [.int (nI 0), .int (nI 3)]) (rest := []) ⟨hx, hb, hml, hown, hts⟩ (m_need l dC dI cB cC cI cJ cZ z0 R pl N G B 0 3 (by decide) ⟨by decide, by decide⟩ h33 H.size) (cwV 2 hts kX12_top_X12_need_255 rfl rfl rfl (by decide +kernel) ⟨Nat.le_of_ble_eq_true rfl, Nat.le_of_ble_eq_true rfl⟩) hK hP hD hS hA rfl rfl hl.1 (lv_room (Nat.le_of_ble_eq_true rfl)) dX12_top_92 hcs (fun r_11 N_7 G_8 B_9 pl_10 hw H locs hP hD hS => ?_)
    dsimp only at hw
    obtain ⟨e3, e4, e2, hw, e5, e6⟩ := hw
    rw [e6 rfl, e2, e3, e4] at hP hD
    subst hw
    refine bz_ne (tgt := 99) hx hb (by first | omega | exact Nat.lt_of_lt_of_le (hG _ _) (by decide)) dX12_top_95 (by decide) (fun q9 => absurd q9 (by omega)) (fun c => ?_)
    exact ks (va_up N 33 3) G B H locs ⟨sz, az, hxi.fault (by decide) (by decide), XT.rq (B := B) (XT.nums (fun k hk => va_up_ne _ _ (by omega))) hpl1 hrq, XT.u (XT.nums (fun k hk => va_up_ne _ _ (by omega))), fun z => absurd (show (3 : Nat) = 0 from z) (by decide)⟩ hP hD hS ls (lv_sub hl [] rfl)

set_option maxHeartbeats 4000000 in
set_option maxRecDepth 100000 in
/-- top -/
theorem m_top (l : Launch) (dC : Nat → ClassId) (dI : Nat → Nat → Nat) (cB cC cI cJ cZ : ClassId) (z0 : Nat) (R : Nat → Nat) (pl : Int32) (N : Nat → Nat) (G : Nat → Nat → Nat) (B : Nat → Nat → Int32) (f t R1 x : Nat) (sz az : Nat → Nat) (hxi : XI N G sz az) (h33 : N 33 = 0) (hrq : RQ N G sz t) (hpl : PLN N G t) (hf : f < t) (hR : R1 + 3 * sz f ≤ 9100) (hph : PHI N (R1 + 3 * sz f) ≤ x) (hx9 : x ≤ 1940000000) (s0 : Nat) : Met l yX12_top vX12_top { frames := 10, cells := 0, slots := 0, locals := 244 } (va_Pc [.ref z0, .int (nI f)] (mPre dC dI cB cC cI cJ cZ z0 R pl N G B s0)) (va_Qv (fun u : ((Nat → Nat) × (Nat → Nat → Nat) × (Nat → Nat → Int32) × Int32) => match u with | (N1, G1, B1, pl1) => pl1 = pl ∧ ∃ sz1 az1, XI N1 G1 sz1 az1 ∧ RQ N1 G1 sz1 t ∧ XU N G B sz N1 G1 B1 sz1 ∧ (N1 33 = 0 → PHI N1 R1 ≤ x)) (mPost dC dI cB cC cI cJ cZ z0 R (va_A (MW cB cC cI cJ cZ z0 R pl N G B) s0)) (va_A (MW cB cC cI cJ cZ z0 R pl N G B) s0)) 0 0 (va_A (MW cB cC cI cJ cZ z0 R pl N G B) s0) := by
  refine Met.ofW (cc := cX12_top) (maxL := 6) (ret := none) (by decide) rfl ?_
  intro p e s m args below meth c s₁ B9 hml hv
  obtain ⟨rfl, hsz, hP, hK, hD0⟩ := hv
  have hx := B9.exec
  have hb := B9.bytes
  have hr := B9.returns
  have hts := atoms_spec (ws := vX12_top) B9.pre
  have hown : s.vm.findClass RX12 = some m.cls := findClass_of_methodNamed B9.named
  have hlocks := B9.notSynchronized
  subst hsz
  have hD := hD0.self (sz := s.heap.size)
  generalize hAe : va_A (MW cB cC cI cJ cZ z0 R pl N G B) s.heap.size = A at hD ⊢
  have hA : ∀ q : Nat, s.heap.size ≤ q → A q := fun q h => by rw [← hAe]; exact Or.inr h
  have hS : va_S A s.heap s.heap [] := va_S.rf
  have hcs : 0 + 0 ≤ (0 : Nat) ∧ 0 + 0 ≤ (0 : Nat) := ⟨Nat.le_refl 0, Nat.le_refl 0⟩
  have hl := lv_entry ([.ref z0, .int (nI f)]) (n := 6) (Nat.le_of_ble_eq_true rfl)
  rw [lg_entry_eq]
  generalize (lg_sl ([.ref z0, .int (nI f)]) ++ List.replicate (6 - (lg_sl ([.ref z0, .int (nI f)])).length) Slot.unset).toArray = ls at hl ⊢
  have hl : lv_has ls 6 [(0, .ref z0), (1, .int (nI f))] := hl
  have ht9 := hxi.1.2.2.1
  have hG := hxi.1.1
  have hG2 := hG
  have hal := hxi.1.2.1
  have u6 := ht9.1
  have hpl1 := hpl.1
  have hfN : f < N 14 := by omega
  have u1 := ht9.one hfN
  have hf8 : f < 90000 := by omega
  have hnf := hxi.2.2.2.2.2.1
  have hlt := hxi.2.2.2.2.1
  have hev := hxi.2.2.2.1
  have h9b := hrq.2.2.1
  have h1n := hev.1
  have h65 := hal.1
  have hb38 : N 38 + 100 ≤ 2000000000 := by unfold PHI at hph; omega
  refine lv_aload_n hx hb dX12_top_0 rfl (lv_at hl 0 rfl) ?_
  refine lv_iload_n hx hb dX12_top_1 rfl (lv_at hl 1 rfl) ?_
  refine lv_bipush (v := nI 6) hx hb dX12_top_2 (by decide) ?_
  refine mcl_i (As := [.int (nI f), .int (nI 6)]) (rest := []) ⟨hx, hb, hml, hown, hts⟩ (m_isDefinition l dC dI cB cC cI cJ cZ z0 R pl N G B f 6 sz hG2 ht9 hfN (by decide) s.heap.size) (cwV 2 hts kX12_top_X12_isDefinition_393 rfl rfl rfl (by decide +kernel) ⟨Nat.le_of_ble_eq_true rfl, Nat.le_of_ble_eq_true rfl⟩) hK hP hD hS hA rfl rfl hl.1 (lv_room (Nat.le_of_ble_eq_true rfl)) dX12_top_4 hcs (fun r_5 N_1 G_2 B_3 pl_4 hw H locs hP hD hS => ?_)
  dsimp only at hw
  obtain ⟨e1, e2, e3, e4, fa, hw, hfa⟩ := hw
  rw [e1, e2, e3, e4] at hP hD
  subst hw
  refine lv_istore_n (lv' := [(2, .int (nI fa)), (0, .ref z0), (1, .int (nI f))]) hx hb dX12_top_7 rfl hl (by decide) rfl (fun ls hl => ?_)
  refine lv_aload_n hx hb dX12_top_8 rfl (lv_at hl 1 rfl) ?_
  refine lv_iload_n hx hb dX12_top_9 rfl (lv_at hl 2 rfl) ?_
  refine lv_iconst (v := nI 5) hx hb dX12_top_10 (by decide) ?_
  refine mcl_i (As := [.int (nI f), .int (nI 5)]) (rest := []) ⟨hx, hb, hml, hown, hts⟩ (m_isDefinition l dC dI cB cC cI cJ cZ z0 R pl N G B f 5 sz hG2 ht9 hfN (by decide) H.size) (cwV 2 hts kX12_top_X12_isDefinition_393 rfl rfl rfl (by decide +kernel) ⟨Nat.le_of_ble_eq_true rfl, Nat.le_of_ble_eq_true rfl⟩) hK hP hD hS hA rfl rfl hl.1 (lv_room (Nat.le_of_ble_eq_true rfl)) dX12_top_11 hcs (fun r_10 N_6 G_7 B_8 pl_9 hw H locs hP hD hS => ?_)
  dsimp only at hw
  obtain ⟨e1, e2, e3, e4, fb, hw, hfb⟩ := hw
  rw [e1, e2, e3, e4] at hP hD
  subst hw
  rcases (show (fa = 0 ∧ fb = 0) ∨ (fa = 0 ∧ fb = 1) ∨ (fa = 1 ∧ fb = 0) ∨ (fa = 1 ∧ fb = 1) by omega) with ⟨ha, hb9⟩ | ⟨ha, hb9⟩ | ⟨ha, hb9⟩ | ⟨ha, hb9⟩
  · subst ha; subst hb9
    refine lv_istore_n (lv' := [(3, .int (nI 0)), (2, .int (nI 0)), (0, .ref z0), (1, .int (nI f))]) hx hb dX12_top_14 rfl hl (by decide) rfl (fun ls hl => ?_)
    refine lv_iconst (v := nI 0 - 1) hx hb dX12_top_15 (by decide) ?_
    refine lv_istore (lv' := [(4, .int (nI 0 - 1)), (3, .int (nI 0)), (2, .int (nI 0)), (0, .ref z0), (1, .int (nI f))]) hx hb dX12_top_16 hl (by decide) rfl (fun ls hl => ?_)
    refine lv_aload_n hx hb dX12_top_18 rfl (lv_at hl 3 rfl) ?_
    refine mg_38 hx hb hts inX12_top hown hK hP (hts _ lkX12_top_f223) dX12_top_19 ?_
    refine bz_le (tgt := 35) hx hb (by first | omega | exact Nat.lt_of_lt_of_le (hG _ _) (by decide)) dX12_top_22 (by decide) (fun c1 => ?_) (fun c1 => ?_)
    · refine lp_top_00 hx hb hml hown hts hK hA hxi h33 hrq hpl hf hR (by omega) hx9 (fun N1 G1 B1 H locs hpo hP hD hS ls hl => ?_) (fun N1 G1 B1 H locs hpo hP hD hS ls hl => ?_) (fun N1 G1 B1 H locs hpo hP hD hS ls hl => ?_) _ _ hP hD hS ls (lv_sub hl [3, 4, 2, 1, 0] rfl)
      · exact W.vret hx hb hr (fun t ht hW => ⟨⟨(N1, G1, B1, pl), rfl, ⟨rfl, hpo⟩, by rw [ht]; exact hP, va_K.moved hW.alike hK, hD⟩, hS.F ht⟩) hS.2.2 dX12_top_215
      · exact W.vret hx hb hr (fun t ht hW => ⟨⟨(N1, G1, B1, pl), rfl, ⟨rfl, hpo⟩, by rw [ht]; exact hP, va_K.moved hW.alike hK, hD⟩, hS.F ht⟩) hS.2.2 dX12_top_98
      · exact W.vret hx hb hr (fun t ht hW => ⟨⟨(N1, G1, B1, pl), rfl, ⟨rfl, hpo⟩, by rw [ht]; exact hP, va_K.moved hW.alike hK, hD⟩, hS.F ht⟩) hS.2.2 dX12_top_123
    · refine lv_iload_n hx hb dX12_top_25 rfl (lv_at hl 2 rfl) ?_
      refine bz_ne (tgt := 35) hx hb (by first | omega | exact Nat.lt_of_lt_of_le (hG _ _) (by decide)) dX12_top_26 (by decide) (fun q9 => absurd q9 (by omega)) (fun c => ?_)
      refine lv_aload_n hx hb dX12_top_29 rfl (lv_at hl 3 rfl) ?_
      refine lv_bipush (v := nI 32) hx hb dX12_top_30 (by decide) ?_
      refine mcl_v (As := [.int (nI 32)]) (rest := []) ⟨hx, hb, hml, hown, hts⟩ (m_say l dC dI cB cC cI cJ cZ z0 R pl N G B (nI 32) hb38 H.size) (cwV 1 hts kX12_top_X12_say_226 rfl rfl rfl (by decide +kernel) ⟨Nat.le_of_ble_eq_true rfl, Nat.le_of_ble_eq_true rfl⟩) hK hP hD hS hA rfl rfl hl.1 (lv_room (Nat.le_of_ble_eq_true rfl)) dX12_top_32 hcs (fun  N_11 G_12 B_13 pl_14 hw H locs hP hD hS => ?_)
      dsimp only at hw
      obtain ⟨e2, e4, e1, X, e3⟩ := hw
      have hxm : XI N_11 G sz az := by rw [e1]; exact hxi
      have hxm0 : XT N G B sz N_11 G B_13 sz := by rw [e1, e3]; exact ⟨fun k hk => va_up_ne _ _ (by omega), fun _ _ => rfl, fun k hk => va_up_ne _ _ hk, Nat.le_refl _, fun _ _ => rfl, Nat.le_refl _, fun _ _ => ⟨rfl, rfl, rfl⟩, fun _ _ => rfl⟩
      have m33 : N_11 33 = 0 := by rw [e1]; exact h33
      have hrm := hxm0.rq hpl1 hrq
      have hpm := hxm0.u.pln hxi.1 hpl
      have hphm : PHI N_11 (R1 + 3 * sz f) ≤ x + 1 := by rw [e1]; show N 38 + 1 + 10000 * (R1 + 3 * sz f + 1800 * (100 - N 35)) ≤ x + 1; unfold PHI at hph; omega
      rw [e2, e4] at hP hD
      refine lp_top_00 hx hb hml hown hts hK hA hxm m33 hrm hpm hf hR (hphm) hx9 (fun N1 G1 B1 H locs hpo hP hD hS ls hl => ?_) (fun N1 G1 B1 H locs hpo hP hD hS ls hl => ?_) (fun N1 G1 B1 H locs hpo hP hD hS ls hl => ?_) _ _ hP hD hS ls (lv_sub hl [3, 4, 2, 1, 0] rfl)
      · exact W.vret hx hb hr (fun t ht hW => ⟨⟨(N1, G1, B1, pl), rfl, ⟨rfl, by obtain ⟨sz1, az1, z1, z2, z3, z4⟩ := hpo; exact ⟨sz1, az1, z1, z2, hxm0.u.trans z3, z4⟩⟩, by rw [ht]; exact hP, va_K.moved hW.alike hK, hD⟩, hS.F ht⟩) hS.2.2 dX12_top_215
      · exact W.vret hx hb hr (fun t ht hW => ⟨⟨(N1, G1, B1, pl), rfl, ⟨rfl, by obtain ⟨sz1, az1, z1, z2, z3, z4⟩ := hpo; exact ⟨sz1, az1, z1, z2, hxm0.u.trans z3, z4⟩⟩, by rw [ht]; exact hP, va_K.moved hW.alike hK, hD⟩, hS.F ht⟩) hS.2.2 dX12_top_98
      · exact W.vret hx hb hr (fun t ht hW => ⟨⟨(N1, G1, B1, pl), rfl, ⟨rfl, by obtain ⟨sz1, az1, z1, z2, z3, z4⟩ := hpo; exact ⟨sz1, az1, z1, z2, hxm0.u.trans z3, z4⟩⟩, by rw [ht]; exact hP, va_K.moved hW.alike hK, hD⟩, hS.F ht⟩) hS.2.2 dX12_top_123
  · subst ha; subst hb9
    refine lv_istore_n (lv' := [(3, .int (nI 1)), (2, .int (nI 0)), (0, .ref z0), (1, .int (nI f))]) hx hb dX12_top_14 rfl hl (by decide) rfl (fun ls hl => ?_)
    refine lv_iconst (v := nI 0 - 1) hx hb dX12_top_15 (by decide) ?_
    refine lv_istore (lv' := [(4, .int (nI 0 - 1)), (3, .int (nI 1)), (2, .int (nI 0)), (0, .ref z0), (1, .int (nI f))]) hx hb dX12_top_16 hl (by decide) rfl (fun ls hl => ?_)
    refine lv_aload_n hx hb dX12_top_18 rfl (lv_at hl 3 rfl) ?_
    refine mg_38 hx hb hts inX12_top hown hK hP (hts _ lkX12_top_f223) dX12_top_19 ?_
    refine bz_le (tgt := 35) hx hb (by first | omega | exact Nat.lt_of_lt_of_le (hG _ _) (by decide)) dX12_top_22 (by decide) (fun c1 => ?_) (fun c1 => ?_)
    · refine lp_top_01 hx hb hml hown hts hK hA hxi h33 hrq hpl hf hR (by omega) hx9 (fun N1 G1 B1 H locs hpo hP hD hS ls hl => ?_) (fun N1 G1 B1 H locs hpo hP hD hS ls hl => ?_) (fun N1 G1 B1 H locs hpo hP hD hS ls hl => ?_) _ _ hP hD hS ls (lv_sub hl [3, 4, 2, 1, 0] rfl)
      · exact W.vret hx hb hr (fun t ht hW => ⟨⟨(N1, G1, B1, pl), rfl, ⟨rfl, hpo⟩, by rw [ht]; exact hP, va_K.moved hW.alike hK, hD⟩, hS.F ht⟩) hS.2.2 dX12_top_215
      · exact W.vret hx hb hr (fun t ht hW => ⟨⟨(N1, G1, B1, pl), rfl, ⟨rfl, hpo⟩, by rw [ht]; exact hP, va_K.moved hW.alike hK, hD⟩, hS.F ht⟩) hS.2.2 dX12_top_98
      · exact W.vret hx hb hr (fun t ht hW => ⟨⟨(N1, G1, B1, pl), rfl, ⟨rfl, hpo⟩, by rw [ht]; exact hP, va_K.moved hW.alike hK, hD⟩, hS.F ht⟩) hS.2.2 dX12_top_123
    · refine lv_iload_n hx hb dX12_top_25 rfl (lv_at hl 2 rfl) ?_
      refine bz_ne (tgt := 35) hx hb (by first | omega | exact Nat.lt_of_lt_of_le (hG _ _) (by decide)) dX12_top_26 (by decide) (fun q9 => absurd q9 (by omega)) (fun c => ?_)
      refine lv_aload_n hx hb dX12_top_29 rfl (lv_at hl 3 rfl) ?_
      refine lv_bipush (v := nI 32) hx hb dX12_top_30 (by decide) ?_
      refine mcl_v (As := [.int (nI 32)]) (rest := []) ⟨hx, hb, hml, hown, hts⟩ (m_say l dC dI cB cC cI cJ cZ z0 R pl N G B (nI 32) hb38 H.size) (cwV 1 hts kX12_top_X12_say_226 rfl rfl rfl (by decide +kernel) ⟨Nat.le_of_ble_eq_true rfl, Nat.le_of_ble_eq_true rfl⟩) hK hP hD hS hA rfl rfl hl.1 (lv_room (Nat.le_of_ble_eq_true rfl)) dX12_top_32 hcs (fun  N_16 G_17 B_18 pl_19 hw H locs hP hD hS => ?_)
      dsimp only at hw
      obtain ⟨e2, e4, e1, X, e3⟩ := hw
      have hxm : XI N_16 G sz az := by rw [e1]; exact hxi
      have hxm0 : XT N G B sz N_16 G B_18 sz := by rw [e1, e3]; exact ⟨fun k hk => va_up_ne _ _ (by omega), fun _ _ => rfl, fun k hk => va_up_ne _ _ hk, Nat.le_refl _, fun _ _ => rfl, Nat.le_refl _, fun _ _ => ⟨rfl, rfl, rfl⟩, fun _ _ => rfl⟩
      have m33 : N_16 33 = 0 := by rw [e1]; exact h33
      have hrm := hxm0.rq hpl1 hrq
      have hpm := hxm0.u.pln hxi.1 hpl
      have hphm : PHI N_16 (R1 + 3 * sz f) ≤ x + 1 := by rw [e1]; show N 38 + 1 + 10000 * (R1 + 3 * sz f + 1800 * (100 - N 35)) ≤ x + 1; unfold PHI at hph; omega
      rw [e2, e4] at hP hD
      refine lp_top_01 hx hb hml hown hts hK hA hxm m33 hrm hpm hf hR (hphm) hx9 (fun N1 G1 B1 H locs hpo hP hD hS ls hl => ?_) (fun N1 G1 B1 H locs hpo hP hD hS ls hl => ?_) (fun N1 G1 B1 H locs hpo hP hD hS ls hl => ?_) _ _ hP hD hS ls (lv_sub hl [3, 4, 2, 1, 0] rfl)
      · exact W.vret hx hb hr (fun t ht hW => ⟨⟨(N1, G1, B1, pl), rfl, ⟨rfl, by obtain ⟨sz1, az1, z1, z2, z3, z4⟩ := hpo; exact ⟨sz1, az1, z1, z2, hxm0.u.trans z3, z4⟩⟩, by rw [ht]; exact hP, va_K.moved hW.alike hK, hD⟩, hS.F ht⟩) hS.2.2 dX12_top_215
      · exact W.vret hx hb hr (fun t ht hW => ⟨⟨(N1, G1, B1, pl), rfl, ⟨rfl, by obtain ⟨sz1, az1, z1, z2, z3, z4⟩ := hpo; exact ⟨sz1, az1, z1, z2, hxm0.u.trans z3, z4⟩⟩, by rw [ht]; exact hP, va_K.moved hW.alike hK, hD⟩, hS.F ht⟩) hS.2.2 dX12_top_98
      · exact W.vret hx hb hr (fun t ht hW => ⟨⟨(N1, G1, B1, pl), rfl, ⟨rfl, by obtain ⟨sz1, az1, z1, z2, z3, z4⟩ := hpo; exact ⟨sz1, az1, z1, z2, hxm0.u.trans z3, z4⟩⟩, by rw [ht]; exact hP, va_K.moved hW.alike hK, hD⟩, hS.F ht⟩) hS.2.2 dX12_top_123
  · subst ha; subst hb9
    refine lv_istore_n (lv' := [(3, .int (nI 0)), (2, .int (nI 1)), (0, .ref z0), (1, .int (nI f))]) hx hb dX12_top_14 rfl hl (by decide) rfl (fun ls hl => ?_)
    refine lv_iconst (v := nI 0 - 1) hx hb dX12_top_15 (by decide) ?_
    refine lv_istore (lv' := [(4, .int (nI 0 - 1)), (3, .int (nI 0)), (2, .int (nI 1)), (0, .ref z0), (1, .int (nI f))]) hx hb dX12_top_16 hl (by decide) rfl (fun ls hl => ?_)
    refine lv_aload_n hx hb dX12_top_18 rfl (lv_at hl 3 rfl) ?_
    refine mg_38 hx hb hts inX12_top hown hK hP (hts _ lkX12_top_f223) dX12_top_19 ?_
    refine bz_le (tgt := 35) hx hb (by first | omega | exact Nat.lt_of_lt_of_le (hG _ _) (by decide)) dX12_top_22 (by decide) (fun c1 => ?_) (fun c1 => ?_)
    · refine lp_top_10 hx hb hml hown hts hK hA hxi h33 hrq hpl hf hR (by omega) hx9 (fun N1 G1 B1 H locs hpo hP hD hS ls hl => ?_) (fun N1 G1 B1 H locs hpo hP hD hS ls hl => ?_) (fun N1 G1 B1 H locs hpo hP hD hS ls hl => ?_) _ _ hP hD hS ls (lv_sub hl [3, 4, 2, 1, 0] rfl)
      · exact W.vret hx hb hr (fun t ht hW => ⟨⟨(N1, G1, B1, pl), rfl, ⟨rfl, hpo⟩, by rw [ht]; exact hP, va_K.moved hW.alike hK, hD⟩, hS.F ht⟩) hS.2.2 dX12_top_215
      · exact W.vret hx hb hr (fun t ht hW => ⟨⟨(N1, G1, B1, pl), rfl, ⟨rfl, hpo⟩, by rw [ht]; exact hP, va_K.moved hW.alike hK, hD⟩, hS.F ht⟩) hS.2.2 dX12_top_98
      · exact W.vret hx hb hr (fun t ht hW => ⟨⟨(N1, G1, B1, pl), rfl, ⟨rfl, hpo⟩, by rw [ht]; exact hP, va_K.moved hW.alike hK, hD⟩, hS.F ht⟩) hS.2.2 dX12_top_123
    · refine lv_iload_n hx hb dX12_top_25 rfl (lv_at hl 2 rfl) ?_
      refine bz_ne (tgt := 35) hx hb (by first | omega | exact Nat.lt_of_lt_of_le (hG _ _) (by decide)) dX12_top_26 (by decide) (fun c => ?_) (fun q9 => absurd q9 (by omega))
      refine lp_top_10 hx hb hml hown hts hK hA hxi h33 hrq hpl hf hR (by omega) hx9 (fun N1 G1 B1 H locs hpo hP hD hS ls hl => ?_) (fun N1 G1 B1 H locs hpo hP hD hS ls hl => ?_) (fun N1 G1 B1 H locs hpo hP hD hS ls hl => ?_) _ _ hP hD hS ls (lv_sub hl [3, 4, 2, 1, 0] rfl)
      · exact W.vret hx hb hr (fun t ht hW => ⟨⟨(N1, G1, B1, pl), rfl, ⟨rfl, hpo⟩, by rw [ht]; exact hP, va_K.moved hW.alike hK, hD⟩, hS.F ht⟩) hS.2.2 dX12_top_215
      · exact W.vret hx hb hr (fun t ht hW => ⟨⟨(N1, G1, B1, pl), rfl, ⟨rfl, hpo⟩, by rw [ht]; exact hP, va_K.moved hW.alike hK, hD⟩, hS.F ht⟩) hS.2.2 dX12_top_98
      · exact W.vret hx hb hr (fun t ht hW => ⟨⟨(N1, G1, B1, pl), rfl, ⟨rfl, hpo⟩, by rw [ht]; exact hP, va_K.moved hW.alike hK, hD⟩, hS.F ht⟩) hS.2.2 dX12_top_123
  · subst ha; subst hb9
    refine lv_istore_n (lv' := [(3, .int (nI 1)), (2, .int (nI 1)), (0, .ref z0), (1, .int (nI f))]) hx hb dX12_top_14 rfl hl (by decide) rfl (fun ls hl => ?_)
    refine lv_iconst (v := nI 0 - 1) hx hb dX12_top_15 (by decide) ?_
    refine lv_istore (lv' := [(4, .int (nI 0 - 1)), (3, .int (nI 1)), (2, .int (nI 1)), (0, .ref z0), (1, .int (nI f))]) hx hb dX12_top_16 hl (by decide) rfl (fun ls hl => ?_)
    refine lv_aload_n hx hb dX12_top_18 rfl (lv_at hl 3 rfl) ?_
    refine mg_38 hx hb hts inX12_top hown hK hP (hts _ lkX12_top_f223) dX12_top_19 ?_
    refine bz_le (tgt := 35) hx hb (by first | omega | exact Nat.lt_of_lt_of_le (hG _ _) (by decide)) dX12_top_22 (by decide) (fun c1 => ?_) (fun c1 => ?_)
    · refine lp_top_11 hx hb hml hown hts hK hA hxi h33 hrq hpl hf hR (by omega) hx9 (fun N1 G1 B1 H locs hpo hP hD hS ls hl => ?_) (fun N1 G1 B1 H locs hpo hP hD hS ls hl => ?_) (fun N1 G1 B1 H locs hpo hP hD hS ls hl => ?_) _ _ hP hD hS ls (lv_sub hl [3, 4, 2, 1, 0] rfl)
      · exact W.vret hx hb hr (fun t ht hW => ⟨⟨(N1, G1, B1, pl), rfl, ⟨rfl, hpo⟩, by rw [ht]; exact hP, va_K.moved hW.alike hK, hD⟩, hS.F ht⟩) hS.2.2 dX12_top_215
      · exact W.vret hx hb hr (fun t ht hW => ⟨⟨(N1, G1, B1, pl), rfl, ⟨rfl, hpo⟩, by rw [ht]; exact hP, va_K.moved hW.alike hK, hD⟩, hS.F ht⟩) hS.2.2 dX12_top_98
      · exact W.vret hx hb hr (fun t ht hW => ⟨⟨(N1, G1, B1, pl), rfl, ⟨rfl, hpo⟩, by rw [ht]; exact hP, va_K.moved hW.alike hK, hD⟩, hS.F ht⟩) hS.2.2 dX12_top_123
    · refine lv_iload_n hx hb dX12_top_25 rfl (lv_at hl 2 rfl) ?_
      refine bz_ne (tgt := 35) hx hb (by first | omega | exact Nat.lt_of_lt_of_le (hG _ _) (by decide)) dX12_top_26 (by decide) (fun c => ?_) (fun q9 => absurd q9 (by omega))
      refine lp_top_11 hx hb hml hown hts hK hA hxi h33 hrq hpl hf hR (by omega) hx9 (fun N1 G1 B1 H locs hpo hP hD hS ls hl => ?_) (fun N1 G1 B1 H locs hpo hP hD hS ls hl => ?_) (fun N1 G1 B1 H locs hpo hP hD hS ls hl => ?_) _ _ hP hD hS ls (lv_sub hl [3, 4, 2, 1, 0] rfl)
      · exact W.vret hx hb hr (fun t ht hW => ⟨⟨(N1, G1, B1, pl), rfl, ⟨rfl, hpo⟩, by rw [ht]; exact hP, va_K.moved hW.alike hK, hD⟩, hS.F ht⟩) hS.2.2 dX12_top_215
      · exact W.vret hx hb hr (fun t ht hW => ⟨⟨(N1, G1, B1, pl), rfl, ⟨rfl, hpo⟩, by rw [ht]; exact hP, va_K.moved hW.alike hK, hD⟩, hS.F ht⟩) hS.2.2 dX12_top_98
      · exact W.vret hx hb hr (fun t ht hW => ⟨⟨(N1, G1, B1, pl), rfl, ⟨rfl, hpo⟩, by rw [ht]; exact hP, va_K.moved hW.alike hK, hD⟩, hS.F ht⟩) hS.2.2 dX12_top_123
