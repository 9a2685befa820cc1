def oX12_lambda : List Cond := [Cond.fieldLink RX12 35 "MacroScopesModel" "values" "[I", Cond.methodLink RX12 192 yX12_part, Cond.instanceMethod yX12_part, Cond.selects RX12 yX12_part yX12_part, Cond.initialized RX12, Cond.fieldLink RX12 38 "MacroScopesModel" "counts" "[I", Cond.methodLink RX12 291 yX12_isBindable, Cond.instanceMethod yX12_isBindable, Cond.selects RX12 yX12_isBindable yX12_isBindable, Cond.methodLink RX12 226 yX12_say, Cond.instanceMethod yX12_say, Cond.selects RX12 yX12_say yX12_say, Cond.fieldLink RX12 297 "MacroScopesModel" "variables" "I", Cond.methodLink RX12 242 yX12_sayNumber, Cond.instanceMethod yX12_sayNumber, Cond.selects RX12 yX12_sayNumber yX12_sayNumber, Cond.methodLink RX12 300 yX12_bind, Cond.instanceMethod yX12_bind, Cond.selects RX12 yX12_bind yX12_bind, Cond.methodLink RX12 276 yX12_isList, Cond.instanceMethod yX12_isList, Cond.selects RX12 yX12_isList yX12_isList, Cond.methodLink RX12 255 yX12_need, Cond.instanceMethod yX12_need, Cond.selects RX12 yX12_need yX12_need, Cond.fieldLink RX12 32 "MacroScopesModel" "kinds" "[B", Cond.methodLink RX12 294 yX12_newEnvironment, Cond.instanceMethod yX12_newEnvironment, Cond.selects RX12 yX12_newEnvironment yX12_newEnvironment, Cond.methodLink RX12 245 yX12_saySymbol, Cond.instanceMethod yX12_saySymbol, Cond.selects RX12 yX12_saySymbol yX12_saySymbol, Cond.methodLink RX12 232 yX12_task, Cond.instanceMethod yX12_task, Cond.selects RX12 yX12_task yX12_task]
def vX12_lambda : List Cond := .code yX12_lambda cX12_lambda 8 none :: (oX12_lambda ++ (vX12_part ++ (vX12_isBindable ++ (vX12_say ++ (vX12_sayNumber ++ (vX12_bind ++ (vX12_isList ++ (vX12_need ++ (vX12_newEnvironment ++ (vX12_saySymbol ++ (vX12_task ++ (wsX120))))))))))))
theorem lkX12_lambda_f35 : Cond.fieldLink RX12 35 "MacroScopesModel" "values" "[I" ∈ vX12_lambda := List.mem_cons_of_mem _ (List.mem_append_left _ (List.mem_of_getElem? (i := 0) rfl))
theorem lkX12_lambda_f38 : Cond.fieldLink RX12 38 "MacroScopesModel" "counts" "[I" ∈ vX12_lambda := List.mem_cons_of_mem _ (List.mem_append_left _ (List.mem_of_getElem? (i := 5) rfl))
theorem lkX12_lambda_f297 : Cond.fieldLink RX12 297 "MacroScopesModel" "variables" "I" ∈ vX12_lambda := List.mem_cons_of_mem _ (List.mem_append_left _ (List.mem_of_getElem? (i := 12) rfl))
theorem lkX12_lambda_f32 : Cond.fieldLink RX12 32 "MacroScopesModel" "kinds" "[B" ∈ vX12_lambda := List.mem_cons_of_mem _ (List.mem_append_left _ (List.mem_of_getElem? (i := 25) rfl))
theorem inX12_lambda : ∀ w ∈ wsX120, w ∈ vX12_lambda := fun w h => List.mem_cons_of_mem _ (List.mem_append_right _ (List.mem_append_right _ (List.mem_append_right _ (List.mem_append_right _ (List.mem_append_right _ (List.mem_append_right _ (List.mem_append_right _ (List.mem_append_right _ (List.mem_append_right _ (List.mem_append_right _ (List.mem_append_right _ (h))))))))))))
theorem kX12_lambda_X12_part_192 : GoodIn vX12_lambda (wsV RX12 192 RX12 yX12_part vX12_part) := goodIn_sub (fun w h => (List.mem_append.mp h).elim (fun h => List.mem_cons_of_mem _ (List.mem_append_left _ ((by decide +kernel : ∀ w ∈ ([.methodLink RX12 192 yX12_part, .instanceMethod yX12_part, .selects RX12 yX12_part yX12_part, .initialized RX12] : List Cond), w ∈ oX12_lambda) w h))) (fun h => List.mem_cons_of_mem _ (List.mem_append_right _ (List.mem_append_left _ (h))))) (by decide +kernel)
theorem kX12_lambda_X12_isBindable_291 : GoodIn vX12_lambda (wsV RX12 291 RX12 yX12_isBindable vX12_isBindable) := goodIn_sub (fun w h => (List.mem_append.mp h).elim (fun h => List.mem_cons_of_mem _ (List.mem_append_left _ ((by decide +kernel : ∀ w ∈ ([.methodLink RX12 291 yX12_isBindable, .instanceMethod yX12_isBindable, .selects RX12 yX12_isBindable yX12_isBindable, .initialized RX12] : List Cond), w ∈ oX12_lambda) w h))) (fun h => List.mem_cons_of_mem _ (List.mem_append_right _ (List.mem_append_right _ (List.mem_append_left _ (h)))))) (by decide +kernel)
theorem kX12_lambda_X12_say_226 : GoodIn vX12_lambda (wsV RX12 226 RX12 yX12_say vX12_say) := goodIn_sub (fun w h => (List.mem_append.mp h).elim (fun h => List.mem_cons_of_mem _ (List.mem_append_left _ ((by decide +kernel : ∀ w ∈ ([.methodLink RX12 226 yX12_say, .instanceMethod yX12_say, .selects RX12 yX12_say yX12_say, .initialized RX12] : List Cond), w ∈ oX12_lambda) w h))) (fun h => List.mem_cons_of_mem _ (List.mem_append_right _ (List.mem_append_right _ (List.mem_append_right _ (List.mem_append_left _ (h))))))) (by decide +kernel)
theorem kX12_lambda_X12_sayNumber_242 : GoodIn vX12_lambda (wsV RX12 242 RX12 yX12_sayNumber vX12_sayNumber) := goodIn_sub (fun w h => (List.mem_append.mp h).elim (fun h => List.mem_cons_of_mem _ (List.mem_append_left _ ((by decide +kernel : ∀ w ∈ ([.methodLink RX12 242 yX12_sayNumber, .instanceMethod yX12_sayNumber, .selects RX12 yX12_sayNumber yX12_sayNumber, .initialized RX12] : List Cond), w ∈ oX12_lambda) w h))) (fun h => List.mem_cons_of_mem _ (List.mem_append_right _ (List.mem_append_right _ (List.mem_append_right _ (List.mem_append_right _ (List.mem_append_left _ (h)))))))) (by decide +kernel)
theorem kX12_lambda_X12_bind_300 : GoodIn vX12_lambda (wsV RX12 300 RX12 yX12_bind vX12_bind) := goodIn_sub (fun w h => (List.mem_append.mp h).elim (fun h => List.mem_cons_of_mem _ (List.mem_append_left _ ((by decide +kernel : ∀ w ∈ ([.methodLink RX12 300 yX12_bind, .instanceMethod yX12_bind, .selects RX12 yX12_bind yX12_bind, .initialized RX12] : List Cond), w ∈ oX12_lambda) w h))) (fun h => List.mem_cons_of_mem _ (List.mem_append_right _ (List.mem_append_right _ (List.mem_append_right _ (List.mem_append_right _ (List.mem_append_right _ (List.mem_append_left _ (h))))))))) (by decide +kernel)
theorem kX12_lambda_X12_isList_276 : GoodIn vX12_lambda (wsV RX12 276 RX12 yX12_isList vX12_isList) := goodIn_sub (fun w h => (List.mem_append.mp h).elim (fun h => List.mem_cons_of_mem _ (List.mem_append_left _ ((by decide +kernel : ∀ w ∈ ([.methodLink RX12 276 yX12_isList, .instanceMethod yX12_isList, .selects RX12 yX12_isList yX12_isList, .initialized RX12] : List Cond), w ∈ oX12_lambda) w h))) (fun h => List.mem_cons_of_mem _ (List.mem_append_right _ (List.mem_append_right _ (List.mem_append_right _ (List.mem_append_right _ (List.mem_append_right _ (List.mem_append_right _ (List.mem_append_left _ (h)))))))))) (by decide +kernel)
theorem kX12_lambda_X12_need_255 : GoodIn vX12_lambda (wsV RX12 255 RX12 yX12_need vX12_need) := goodIn_sub (fun w h => (List.mem_append.mp h).elim (fun h => List.mem_cons_of_mem _ (List.mem_append_left _ ((by decide +kernel : ∀ w ∈ ([.methodLink RX12 255 yX12_need, .instanceMethod yX12_need, .selects RX12 yX12_need yX12_need, .initialized RX12] : List Cond), w ∈ oX12_lambda) w h))) (fun h => List.mem_cons_of_mem _ (List.mem_append_right _ (List.mem_append_right _ (List.mem_append_right _ (List.mem_append_right _ (List.mem_append_right _ (List.mem_append_right _ (List.mem_append_right _ (List.mem_append_left _ (h))))))))))) (by decide +kernel)
theorem kX12_lambda_X12_newEnvironment_294 : GoodIn vX12_lambda (wsV RX12 294 RX12 yX12_newEnvironment vX12_newEnvironment) := goodIn_sub (fun w h => (List.mem_append.mp h).elim (fun h => List.mem_cons_of_mem _ (List.mem_append_left _ ((by decide +kernel : ∀ w ∈ ([.methodLink RX12 294 yX12_newEnvironment, .instanceMethod yX12_newEnvironment, .selects RX12 yX12_newEnvironment yX12_newEnvironment, .initialized RX12] : List Cond), w ∈ oX12_lambda) w h))) (fun h => List.mem_cons_of_mem _ (List.mem_append_right _ (List.mem_append_right _ (List.mem_append_right _ (List.mem_append_right _ (List.mem_append_right _ (List.mem_append_right _ (List.mem_append_right _ (List.mem_append_right _ (List.mem_append_left _ (h)))))))))))) (by decide +kernel)
theorem kX12_lambda_X12_saySymbol_245 : GoodIn vX12_lambda (wsV RX12 245 RX12 yX12_saySymbol vX12_saySymbol) := goodIn_sub (fun w h => (List.mem_append.mp h).elim (fun h => List.mem_cons_of_mem _ (List.mem_append_left _ ((by decide +kernel : ∀ w ∈ ([.methodLink RX12 245 yX12_saySymbol, .instanceMethod yX12_saySymbol, .selects RX12 yX12_saySymbol yX12_saySymbol, .initialized RX12] : List Cond), w ∈ oX12_lambda) w h))) (fun h => List.mem_cons_of_mem _ (List.mem_append_right _ (List.mem_append_right _ (List.mem_append_right _ (List.mem_append_right _ (List.mem_append_right _ (List.mem_append_right _ (List.mem_append_right _ (List.mem_append_right _ (List.mem_append_right _ (List.mem_append_left _ (h))))))))))))) (by decide +kernel)
theorem kX12_lambda_X12_task_232 : GoodIn vX12_lambda (wsV RX12 232 RX12 yX12_task vX12_task) := goodIn_sub (fun w h => (List.mem_append.mp h).elim (fun h => List.mem_cons_of_mem _ (List.mem_append_left _ ((by decide +kernel : ∀ w ∈ ([.methodLink RX12 232 yX12_task, .instanceMethod yX12_task, .selects RX12 yX12_task yX12_task, .initialized RX12] : List Cond), w ∈ oX12_lambda) w h))) (fun h => List.mem_cons_of_mem _ (List.mem_append_right _ (List.mem_append_right _ (List.mem_append_right _ (List.mem_append_right _ (List.mem_append_right _ (List.mem_append_right _ (List.mem_append_right _ (List.mem_append_right _ (List.mem_append_right _ (List.mem_append_right _ (List.mem_append_left _ (h)))))))))))))) (by decide +kernel)
set_option maxHeartbeats 4000000 in
set_option maxRecDepth 100000 in
theorem lp_lam1 {p : Program} {l : Launch} {e : Env} {s : State} {m : MethodId} {args : Array Value} {below : List Frame} {meth : Method} {c : Code} {Q : State → Prop} {A : Nat → Prop} {dC : Nat → ClassId} {dI : Nat → Nat → Nat} {cB cC cI cJ cZ : ClassId} {z0 : Nat} {R : Nat → Nat} (hx : p.tables.exec = Jvm.exec) (hb : c.code = cX12_lambda) (hml : c.maxLocals = 8) (hown : s.vm.findClass RX12 = some m.cls) (hts : ∀ w ∈ vX12_lambda, w.before args s = true) (hK : va_K (dC, dI) vwCl (TY cB cC cI cJ cZ) s) (hA : ∀ q : Nat, s.heap.size ≤ q → A q) {pl : Int32} {N : Nat → Nat} {G : Nat → Nat → Nat} {B : Nat → Nat → Int32} {sz : Nat → Nat} (hG : ∀ k i, G k i < 1048576) (ht9 : TREE N G sz) (hal : AL N G) (f en dp nm : Nat) (hnm : (nm < N 14 ∧ G 10 nm = 2 ∧ G 12 nm ≤ 6)) (kx : Nat) (hkx : kx < G 12 nm) (ke : ∀ (fi : Nat) (H : Heap) (locs : List Loc), fi ≤ 1 → va_P (dC, dI) vwCl (MW cB cC cI cJ cZ z0 R pl N G B) H → va_D A (MW cB cC cI cJ cZ z0 R pl N G B) → va_S A s.heap H locs → ∀ (ls : Array Slot), lv_has ls 8 [(0, .ref z0), (1, .int (nI f)), (2, .int (nI en)), (3, .int (nI dp)), (4, .int (nI fi)), (5, .int (nI nm)), (6, .int (nI kx))] → W p l e (headSpec vX12_lambda { frames := 3, cells := 0, slots := 0, locals := 65 }).room s m args below meth c H locs 0 0 Q (F0 m 155 ls [])) : ∀ (k : Nat) (ei fi : Nat), kx - ei < k → ei ≤ kx → fi ≤ 1 → ∀ (H : Heap) (locs : List Loc), va_P (dC, dI) vwCl (MW cB cC cI cJ cZ z0 R pl N G B) H → va_D A (MW cB cC cI cJ cZ z0 R pl N G B) → va_S A s.heap H locs → ∀ (ls : Array Slot), lv_has ls 8 [(0, .ref z0), (1, .int (nI f)), (2, .int (nI en)), (3, .int (nI dp)), (4, .int (nI fi)), (5, .int (nI nm)), (6, .int (nI kx)), (7, .int (nI ei))] → W p l e (headSpec vX12_lambda { frames := 3, cells := 0, slots := 0, locals := 65 }).room s m args below meth c H locs 0 0 Q (F0 m 101 ls []) := by
  have hcs : 0 + 0 ≤ (0 : Nat) ∧ 0 + 0 ≤ (0 : Nat) := ⟨Nat.le_refl 0, Nat.le_refl 0⟩
  intro k
  induction k with
  | zero =>
    intro ei fi hk he hfi
    omega
  | succ k ih =>
    intro ei fi hk he hfi H locs hP hD hS ls hl
    have u6 := ht9.1
    have hnm8 := hnm.1
    have hG2 := hG
    refine lv_iload hx hb dX12_lambda_101 (lv_at hl 7 rfl) ?_
    refine lv_iload hx hb dX12_lambda_103 (lv_at hl 6 rfl) ?_
    refine bn_ge (tgt := 155) hx hb (by first | omega | exact Nat.lt_of_lt_of_le (hG _ _) (by decide)) (by first | omega | exact Nat.lt_of_lt_of_le (hG _ _) (by decide)) dX12_lambda_105 (by decide) (fun c1 => ?_) (fun c1 => ?_)
    · exact ke fi H locs hfi hP hD hS ls (lv_sub hl [0, 1, 2, 3, 4, 5, 6] rfl)
    · refine lv_iload hx hb dX12_lambda_108 (lv_at hl 4 rfl) ?_
      refine bz_eq (tgt := 155) hx hb (by first | omega | exact Nat.lt_of_lt_of_le (hG _ _) (by decide)) dX12_lambda_110 (by decide) (fun c2 => ?_) (fun c2 => ?_)
      · exact ke fi H locs hfi hP hD hS ls (lv_sub hl [0, 1, 2, 3, 4, 5, 6] rfl)
      · refine lv_aload_n hx hb dX12_lambda_113 rfl (lv_at hl 0 rfl) ?_
        refine mg_11 hx hb hts inX12_lambda hown hK hP (hts _ lkX12_lambda_f35) dX12_lambda_114 ?_
        refine lv_aload_n hx hb dX12_lambda_117 rfl (lv_at hl 0 rfl) ?_
        refine lv_iload hx hb dX12_lambda_118 (lv_at hl 5 rfl) ?_
        refine lv_iload hx hb dX12_lambda_120 (lv_at hl 7 rfl) ?_
        obtain ⟨t_1, t_1b, t_1c, t_1d⟩ := ht9.pt (f := nm) (k := ei) (hnm8) (by omega)
        refine mcl_i (As := [.int (nI nm), .int (nI ei)]) (rest := [.ref (R 11)]) ⟨hx, hb, hml, hown, hts⟩ (m_part l dC dI cB cC cI cJ cZ z0 R pl N G B nm ei hG2 t_1d t_1 H.size) (cwV 2 hts kX12_lambda_X12_part_192 rfl rfl rfl (by decide +kernel) ⟨Nat.le_of_ble_eq_true rfl, Nat.le_of_ble_eq_true rfl⟩) hK hP hD hS hA rfl rfl hl.1 (lv_room (Nat.le_of_ble_eq_true rfl)) dX12_lambda_122 hcs (fun r_6 N_2 G_3 B_4 pl_5 hw H locs hP hD hS => ?_)
        dsimp only at hw
        obtain ⟨e1, e2, e3, e4, hw⟩ := hw
        rw [e1, e2, e3, e4] at hP hD
        have hw : r_6 = nI (CH G nm ei) := hw
        subst hw
        have g1 := hG 11 (CH G nm ei)
        have g2 := hG 11 (CH G nm kx)
        refine ml_11 hx hb hK hP (by omega) dX12_lambda_125 ?_
        refine lv_aload_n hx hb dX12_lambda_126 rfl (lv_at hl 0 rfl) ?_
        refine mg_11 hx hb hts inX12_lambda hown hK hP (hts _ lkX12_lambda_f35) dX12_lambda_127 ?_
        refine lv_aload_n hx hb dX12_lambda_130 rfl (lv_at hl 0 rfl) ?_
        refine lv_iload hx hb dX12_lambda_131 (lv_at hl 5 rfl) ?_
        refine lv_iload hx hb dX12_lambda_133 (lv_at hl 6 rfl) ?_
        obtain ⟨t_7, t_7b, t_7c, t_7d⟩ := ht9.pt (f := nm) (k := kx) (hnm8) (by omega)
        refine mcl_i (As := [.int (nI nm), .int (nI kx)]) (rest := [.ref (R 11), .int (nI (G 11 (CH G nm ei)))]) ⟨hx, hb, hml, hown, hts⟩ (m_part l dC dI cB cC cI cJ cZ z0 R pl N G B nm kx hG2 t_7d t_7 H.size) (cwV 2 hts kX12_lambda_X12_part_192 rfl rfl rfl (by decide +kernel) ⟨Nat.le_of_ble_eq_true rfl, Nat.le_of_ble_eq_true rfl⟩) hK hP hD hS hA rfl rfl hl.1 (lv_room (Nat.le_of_ble_eq_true rfl)) dX12_lambda_135 hcs (fun r_12 N_8 G_9 B_10 pl_11 hw H locs hP hD hS => ?_)
        dsimp only at hw
        obtain ⟨e1, e2, e3, e4, hw⟩ := hw
        rw [e1, e2, e3, e4] at hP hD
        have hw : r_12 = nI (CH G nm kx) := hw
        subst hw
        refine ml_11 hx hb hK hP (by omega) dX12_lambda_138 ?_
        refine bn_eq (tgt := 146) hx hb (by first | omega | exact Nat.lt_of_lt_of_le (hG _ _) (by decide)) (by first | omega | exact Nat.lt_of_lt_of_le (hG _ _) (by decide)) dX12_lambda_139 (by decide) (fun c3 => ?_) (fun c3 => ?_)
        · refine lv_iconst (v := nI 0) hx hb dX12_lambda_146 (by decide) ?_
          refine lv_istore (lv' := [(4, .int (nI 0)), (0, .ref z0), (1, .int (nI f)), (2, .int (nI en)), (3, .int (nI dp)), (5, .int (nI nm)), (6, .int (nI kx)), (7, .int (nI ei))]) hx hb dX12_lambda_147 hl (by decide) rfl (fun ls hl => ?_)
          refine lv_iinc (v := nI (ei + 1)) (lv' := [(7, .int (nI (ei + 1))), (4, .int (nI 0)), (0, .ref z0), (1, .int (nI f)), (2, .int (nI en)), (3, .int (nI dp)), (5, .int (nI nm)), (6, .int (nI kx))]) hx hb dX12_lambda_149 hl (k := 7) rfl (nI_add ei 1) (by decide) rfl (fun ls hl => ?_)
          refine lv_goto (tgt := 101) hx hb dX12_lambda_152 (by decide) ?_
          exact ih (ei + 1) 0 (by omega) (by omega) (by decide) _ _ hP hD hS ls (lv_sub hl [2, 3, 4, 5, 1, 6, 7, 0] rfl)
        · refine lv_iconst (v := nI 1) hx hb dX12_lambda_142 (by decide) ?_
          refine lv_goto (tgt := 147) hx hb dX12_lambda_143 (by decide) ?_
          refine lv_istore (lv' := [(4, .int (nI 1)), (0, .ref z0), (1, .int (nI f)), (2, .int (nI en)), (3, .int (nI dp)), (5, .int (nI nm)), (6, .int (nI kx)), (7, .int (nI ei))]) hx hb dX12_lambda_147 hl (by decide) rfl (fun ls hl => ?_)
          refine lv_iinc (v := nI (ei + 1)) (lv' := [(7, .int (nI (ei + 1))), (4, .int (nI 1)), (0, .ref z0), (1, .int (nI f)), (2, .int (nI en)), (3, .int (nI dp)), (5, .int (nI nm)), (6, .int (nI kx))]) hx hb dX12_lambda_149 hl (k := 7) rfl (nI_add ei 1) (by decide) rfl (fun ls hl => ?_)
          refine lv_goto (tgt := 101) hx hb dX12_lambda_152 (by decide) ?_
          exact ih (ei + 1) 1 (by omega) (by omega) (by decide) _ _ hP hD hS ls (lv_sub hl [2, 3, 4, 5, 1, 6, 7, 0] rfl)

set_option maxHeartbeats 4000000 in
set_option maxRecDepth 100000 in
theorem lp_lam2 {p : Program} {l : Launch} {e : Env} {s : State} {m : MethodId} {args : Array Value} {below : List Frame} {meth : Method} {c : Code} {Q : State → Prop} {A : Nat → Prop} {dC : Nat → ClassId} {dI : Nat → Nat → Nat} {cB cC cI cJ cZ : ClassId} {z0 : Nat} {R : Nat → Nat} (hx : p.tables.exec = Jvm.exec) (hb : c.code = cX12_lambda) (hml : c.maxLocals = 8) (hown : s.vm.findClass RX12 = some m.cls) (hts : ∀ w ∈ vX12_lambda, w.before args s = true) (hK : va_K (dC, dI) vwCl (TY cB cC cI cJ cZ) s) (hA : ∀ q : Nat, s.heap.size ≤ q → A q) {pl : Int32} {N : Nat → Nat} {G : Nat → Nat → Nat} {B : Nat → Nat → Int32} {sz : Nat → Nat} (hG : ∀ k i, G k i < 1048576) (ht9 : TREE N G sz) (hal : AL N G) (f en dp nm : Nat) (ke : ∀ (fi : Nat) (H : Heap) (locs : List Loc), fi ≤ 1 → (fi = 1 → (nm < N 14 ∧ G 10 nm = 2 ∧ G 12 nm ≤ 6)) → va_P (dC, dI) vwCl (MW cB cC cI cJ cZ z0 R pl N G B) H → va_D A (MW cB cC cI cJ cZ z0 R pl N G B) → va_S A s.heap H locs → ∀ (ls : Array Slot), lv_has ls 8 [(0, .ref z0), (1, .int (nI f)), (2, .int (nI en)), (3, .int (nI dp)), (4, .int (nI fi)), (5, .int (nI nm))] → W p l e (headSpec vX12_lambda { frames := 3, cells := 0, slots := 0, locals := 65 }).room s m args below meth c H locs 0 0 Q (F0 m 161 ls [])) : ∀ (k : Nat) (kx fi : Nat), 7 - kx < k → kx ≤ 6 → fi ≤ 1 → (fi = 1 → (nm < N 14 ∧ G 10 nm = 2 ∧ G 12 nm ≤ 6)) → ∀ (H : Heap) (locs : List Loc), va_P (dC, dI) vwCl (MW cB cC cI cJ cZ z0 R pl N G B) H → va_D A (MW cB cC cI cJ cZ z0 R pl N G B) → va_S A s.heap H locs → ∀ (ls : Array Slot), lv_has ls 8 [(0, .ref z0), (1, .int (nI f)), (2, .int (nI en)), (3, .int (nI dp)), (4, .int (nI fi)), (5, .int (nI nm)), (6, .int (nI kx))] → W p l e (headSpec vX12_lambda { frames := 3, cells := 0, slots := 0, locals := 65 }).room s m args below meth c H locs 0 0 Q (F0 m 67 ls []) := by
  have hcs : 0 + 0 ≤ (0 : Nat) ∧ 0 + 0 ≤ (0 : Nat) := ⟨Nat.le_refl 0, Nat.le_refl 0⟩
  intro k
  induction k with
  | zero =>
    intro kx fi hk hkb hfi hP0 H locs hP hD hS ls hl
    exact absurd hk (Nat.not_lt_zero _)
  | succ k ih =>
    intro kx fi hk hkb hfi hP0 H locs hP hD hS ls hl
    have u6 := ht9.1
    have hG2 := hG
    refine lv_iload hx hb dX12_lambda_67 (lv_at hl 4 rfl) ?_
    refine bz_eq (tgt := 161) hx hb (by first | omega | exact Nat.lt_of_lt_of_le (hG _ _) (by decide)) dX12_lambda_69 (by decide) (fun c1 => ?_) (fun c1 => ?_)
    · exact ke fi H locs hfi hP0 hP hD hS ls (lv_sub hl [0, 1, 2, 3, 4, 5] rfl)
    · have hnm := hP0 (by omega)
      have hnm8 := hnm.1
      refine lv_iload hx hb dX12_lambda_72 (lv_at hl 6 rfl) ?_
      refine lv_aload_n hx hb dX12_lambda_74 rfl (lv_at hl 0 rfl) ?_
      refine mg_12 hx hb hts inX12_lambda hown hK hP (hts _ lkX12_lambda_f38) dX12_lambda_75 ?_
      refine lv_iload hx hb dX12_lambda_78 (lv_at hl 5 rfl) ?_
      refine ml_12 hx hb hK hP (by omega) dX12_lambda_80 ?_
      refine bn_ge (tgt := 161) hx hb (by first | omega | exact Nat.lt_of_lt_of_le (hG _ _) (by decide)) (by first | omega | exact Nat.lt_of_lt_of_le (hG _ _) (by decide)) dX12_lambda_81 (by decide) (fun c2 => ?_) (fun c2 => ?_)
      · exact ke fi H locs hfi hP0 hP hD hS ls (lv_sub hl [0, 1, 2, 3, 4, 5] rfl)
      · have hnc := (ht9.pt hnm8 c2).2.1
        have hnn := (ht9.2 _ hnc).2.2.2.1
        refine lv_aload_n hx hb dX12_lambda_84 rfl (lv_at hl 0 rfl) ?_
        refine lv_aload_n hx hb dX12_lambda_85 rfl (lv_at hl 0 rfl) ?_
        refine lv_iload hx hb dX12_lambda_86 (lv_at hl 5 rfl) ?_
        refine lv_iload hx hb dX12_lambda_88 (lv_at hl 6 rfl) ?_
        obtain ⟨t_1, t_1b, t_1c, t_1d⟩ := ht9.pt (f := nm) (k := kx) (hnm8) (c2)
        refine mcl_i (As := [.int (nI nm), .int (nI kx)]) (rest := [.ref z0]) ⟨hx, hb, hml, hown, hts⟩ (m_part l dC dI cB cC cI cJ cZ z0 R pl N G B nm kx hG2 t_1d t_1 H.size) (cwV 2 hts kX12_lambda_X12_part_192 rfl rfl rfl (by decide +kernel) ⟨Nat.le_of_ble_eq_true rfl, Nat.le_of_ble_eq_true rfl⟩) hK hP hD hS hA rfl rfl hl.1 (lv_room (Nat.le_of_ble_eq_true rfl)) dX12_lambda_90 hcs (fun r_6 N_2 G_3 B_4 pl_5 hw H locs hP hD hS => ?_)
        dsimp only at hw
        obtain ⟨e1, e2, e3, e4, hw⟩ := hw
        rw [e1, e2, e3, e4] at hP hD
        have hw : r_6 = nI (CH G nm kx) := hw
        subst hw
        refine mcl_i (As := [.int (nI (CH G nm kx))]) (rest := []) ⟨hx, hb, hml, hown, hts⟩ (m_isBindable l dC dI cB cC cI cJ cZ z0 R pl N G B (CH G nm kx) hG2 hal (by omega) (hnn) H.size) (cwV 1 hts kX12_lambda_X12_isBindable_291 rfl rfl rfl (by decide +kernel) ⟨Nat.le_of_ble_eq_true rfl, Nat.le_of_ble_eq_true rfl⟩) hK hP hD hS hA rfl rfl hl.1 (lv_room (Nat.le_of_ble_eq_true rfl)) dX12_lambda_93 hcs (fun r_12 N_8 G_9 B_10 pl_11 hw H locs hP hD hS => ?_)
        dsimp only at hw
        obtain ⟨e1, e2, e3, e4, hw⟩ := hw
        rw [e1, e2, e3, e4] at hP hD
        have hw : r_12 = nI (if BND G (CH G nm kx) then 1 else 0) := hw
        by_cases c_7 : BND G (CH G nm kx)
        · rw [if_pos c_7] at hw
          subst hw
          refine lv_istore (lv' := [(4, .int (nI 1)), (0, .ref z0), (1, .int (nI f)), (2, .int (nI en)), (3, .int (nI dp)), (5, .int (nI nm)), (6, .int (nI kx))]) hx hb dX12_lambda_96 hl (by decide) rfl (fun ls hl => ?_)
          refine lv_iconst (v := nI 0) hx hb dX12_lambda_98 (by decide) ?_
          refine lv_istore (lv' := [(7, .int (nI 0)), (4, .int (nI 1)), (0, .ref z0), (1, .int (nI f)), (2, .int (nI en)), (3, .int (nI dp)), (5, .int (nI nm)), (6, .int (nI kx))]) hx hb dX12_lambda_99 hl (by decide) rfl (fun ls hl => ?_)
          refine lp_lam1 hx hb hml hown hts hK hA hG ht9 hal f en dp nm hnm kx c2 (fun fi H locs hfi hP hD hS ls hl => ?_) _ 0 1 (Nat.lt_succ_self _) (Nat.zero_le _) (by decide) _ _ hP hD hS ls (lv_sub hl [2, 3, 4, 5, 1, 6, 7, 0] rfl)
          refine lv_iinc (v := nI (kx + 1)) (lv' := [(6, .int (nI (kx + 1))), (0, .ref z0), (1, .int (nI f)), (2, .int (nI en)), (3, .int (nI dp)), (4, .int (nI fi)), (5, .int (nI nm))]) hx hb dX12_lambda_155 hl (k := 6) rfl (nI_add kx 1) (by decide) rfl (fun ls hl => ?_)
          refine lv_goto (tgt := 67) hx hb dX12_lambda_158 (by decide) ?_
          exact ih (kx + 1) fi (by omega) (by omega) hfi (fun _ => hnm) _ _ hP hD hS ls (lv_sub hl [1, 2, 3, 4, 5, 6, 0] rfl)
        · rw [if_neg c_7] at hw
          subst hw
          refine lv_istore (lv' := [(4, .int (nI 0)), (0, .ref z0), (1, .int (nI f)), (2, .int (nI en)), (3, .int (nI dp)), (5, .int (nI nm)), (6, .int (nI kx))]) hx hb dX12_lambda_96 hl (by decide) rfl (fun ls hl => ?_)
          refine lv_iconst (v := nI 0) hx hb dX12_lambda_98 (by decide) ?_
          refine lv_istore (lv' := [(7, .int (nI 0)), (4, .int (nI 0)), (0, .ref z0), (1, .int (nI f)), (2, .int (nI en)), (3, .int (nI dp)), (5, .int (nI nm)), (6, .int (nI kx))]) hx hb dX12_lambda_99 hl (by decide) rfl (fun ls hl => ?_)
          refine lp_lam1 hx hb hml hown hts hK hA hG ht9 hal f en dp nm hnm kx c2 (fun fi H locs hfi hP hD hS ls hl => ?_) _ 0 0 (Nat.lt_succ_self _) (Nat.zero_le _) (by decide) _ _ hP hD hS ls (lv_sub hl [2, 3, 4, 5, 1, 6, 7, 0] rfl)
          refine lv_iinc (v := nI (kx + 1)) (lv' := [(6, .int (nI (kx + 1))), (0, .ref z0), (1, .int (nI f)), (2, .int (nI en)), (3, .int (nI dp)), (4, .int (nI fi)), (5, .int (nI nm))]) hx hb dX12_lambda_155 hl (k := 6) rfl (nI_add kx 1) (by decide) rfl (fun ls hl => ?_)
          refine lv_goto (tgt := 67) hx hb dX12_lambda_158 (by decide) ?_
          exact ih (kx + 1) fi (by omega) (by omega) hfi (fun _ => hnm) _ _ hP hD hS ls (lv_sub hl [1, 2, 3, 4, 5, 6, 0] rfl)

theorem tp_2 {p : Program} {l : Launch} {e : Env} {RR : Room} {s : State} {m : MethodId} {args : Array Value} {below : List Frame} {meth : Method} {c : Code} {H : Heap} {locs : List Loc} {cells slots : Nat} {Q : State → Prop} {pc : Nat} {ls : Array Slot} {rest : List Value} {v : Value} {x y : Int32} (h : x = y) (k : W p l e RR s m args below meth c H locs cells slots Q (F0 m pc ls (v :: .int y :: rest))) : W p l e RR s m args below meth c H locs cells slots Q (F0 m pc ls (v :: .int x :: rest)) := by
  rw [h]; exact k
set_option maxHeartbeats 4000000 in
set_option maxRecDepth 100000 in
theorem lp_lam3 {p : Program} {l : Launch} {e : Env} {s : State} {m : MethodId} {args : Array Value} {below : List Frame} {meth : Method} {c : Code} {Q : State → Prop} {A : Nat → Prop} {dC : Nat → ClassId} {dI : Nat → Nat → Nat} {cB cC cI cJ cZ : ClassId} {z0 : Nat} {R : Nat → Nat} (hx : p.tables.exec = Jvm.exec) (hb : c.code = cX12_lambda) (hml : c.maxLocals = 8) (hown : s.vm.findClass RX12 = some m.cls) (hts : ∀ w ∈ vX12_lambda, w.before args s = true) (hK : va_K (dC, dI) vwCl (TY cB cC cI cJ cZ) s) (hA : ∀ q : Nat, s.heap.size ≤ q → A q) {pl : Int32} {N : Nat → Nat} {G : Nat → Nat → Nat} {B : Nat → Nat → Int32} {sz az : Nat → Nat} {f en dp w x : Nat} (hxi : XI N G sz az) (htk : TSK N G sz w) (h33 : N 33 = 0) (hf : f < N 14) (hen : en < N 23) (hdp : dp ≤ 100) (hbu : BUD N (w + (3 * sz f - 1)) x) (hb23 : N 23 ≤ N 36) (hb27 : N 27 + 6 ≤ 6 * N 36) (hb34 : N 34 + 6 ≤ 6 * N 36) (nm iv : Nat) (hnm : (nm < N 14 ∧ G 10 nm = 2 ∧ G 12 nm ≤ 6)) (ke : ∀ (t : Nat) (M : Nat → Nat) (K : Nat → Nat → Nat) (C : Nat → Nat → Int32) (H : Heap) (locs : List Loc), t ≤ 5000 → RUN N G B sz M K C az w t → iv < M 23 → va_P (dC, dI) vwCl (MW cB cC cI cJ cZ z0 R pl M K C) H → va_D A (MW cB cC cI cJ cZ z0 R pl M K C) → va_S A s.heap H locs → ∀ (ls : Array Slot), lv_has ls 8 [(0, .ref z0), (1, .int (nI f)), (3, .int (nI dp)), (5, .int (nI nm)), (6, .int (nI iv))] → W p l e (headSpec vX12_lambda { frames := 3, cells := 0, slots := 0, locals := 65 }).room s m args below meth c H locs 0 0 Q (F0 m 280 ls [])) : ∀ (k : Nat) (kx t : Nat) (M : Nat → Nat) (K : Nat → Nat → Nat) (C : Nat → Nat → Int32), 7 - kx < k → kx ≤ 6 → t + 20 * (6 - kx) ≤ 5000 → RUN N G B sz M K C az w t → 2 ≤ M 23 → iv < M 23 → M 27 + (G 12 nm - kx) ≤ 6 * M 36 → M 34 + (G 12 nm - kx) ≤ 6 * M 36 → ∀ (H : Heap) (locs : List Loc), va_P (dC, dI) vwCl (MW cB cC cI cJ cZ z0 R pl M K C) H → va_D A (MW cB cC cI cJ cZ z0 R pl M K C) → va_S A s.heap H locs → ∀ (ls : Array Slot), lv_has ls 8 [(0, .ref z0), (1, .int (nI f)), (3, .int (nI dp)), (5, .int (nI nm)), (6, .int (nI iv)), (7, .int (nI kx))] → W p l e (headSpec vX12_lambda { frames := 3, cells := 0, slots := 0, locals := 65 }).room s m args below meth c H locs 0 0 Q (F0 m 205 ls []) := by
  have hcs : 0 + 0 ≤ (0 : Nat) ∧ 0 + 0 ≤ (0 : Nat) := ⟨Nat.le_refl 0, Nat.le_refl 0⟩
  intro k
  induction k with
  | zero =>
    intro kx t M K C hk hkb ht hrun h23 hiv h27 h34 H locs hP hD hS ls hl
    exact absurd hk (Nat.not_lt_zero _)
  | succ k ih =>
    intro kx t M K C hk hkb ht hrun h23 hiv h27 h34 H locs hP hD hS ls hl
    have k23 : M 23 = M 23 := rfl
    have k27 : M 27 = M 27 := rfl
    have k34 : M 34 = M 34 := rfl
    have k36 : M 36 = M 36 := rfl
    have ht9 := hxi.1.2.2.1
    have hG := hxi.1.1
    have u6 := ht9.1
    have hnm8 := hnm.1
    have hco0 := hrun.2.2.2.2.2.2.1
    have e12 : K 12 nm = G 12 nm := by rw [hco0.2.2.1]
    have hfx := hrun.1.2.2.2.2.2.1
    have hbw : w ≤ 190000 := by have := hbu.1; omega
    have hnum := hrun.num hbu (by omega) (by omega)
    have hG2 := hrun.1.1.1
    have htr := hrun.1.1.2.2.1
    have hal2 := hrun.1.1.2.1
    have n14 := hrun.2.2.2.2.2.2.2.1
    have n23 := hrun.2.2.2.2.2.2.2.2
    have n33 := hrun.2.2.2.2.2.1
    refine lv_iload hx hb dX12_lambda_205 (lv_at hl 5 rfl) ?_
    refine lv_aload_n hx hb dX12_lambda_207 rfl (lv_at hl 0 rfl) ?_
    refine mg_12 hx hb hts inX12_lambda hown hK hP (hts _ lkX12_lambda_f38) dX12_lambda_208 ?_
    refine lv_iload hx hb dX12_lambda_211 (lv_at hl 3 rfl) ?_
    refine ml_12 hx hb hK hP (by omega) dX12_lambda_213 ?_
    refine bn_ge (tgt := 280) hx hb (by first | omega | exact Nat.lt_of_lt_of_le (hG _ _) (by decide)) (by first | omega | exact Nat.lt_of_lt_of_le (hG _ _) (by decide)) dX12_lambda_214 (by decide) (fun c1 => ?_) (fun c1 => ?_)
    · exact ke t M K C H locs (by omega) hrun hiv hP hD hS ls (lv_sub hl [0, 1, 2, 3, 4] rfl)
    · refine lv_iload hx hb dX12_lambda_217 (lv_at hl 5 rfl) ?_
      refine bz_le (tgt := 228) hx hb (by first | omega | exact Nat.lt_of_lt_of_le (hG _ _) (by decide)) dX12_lambda_219 (by decide) (fun c2 => ?_) (fun c2 => ?_)
      · refine lv_aload_n hx hb dX12_lambda_228 rfl (lv_at hl 0 rfl) ?_
        refine lv_bipush (v := nI 37) hx hb dX12_lambda_229 (by decide) ?_
        refine mcl_v (As := [.int (nI 37)]) (rest := []) ⟨hx, hb, hml, hown, hts⟩ (m_say l dC dI cB cC cI cJ cZ z0 R pl M K C ((nI 37)) (by omega) H.size) (cwV 1 hts kX12_lambda_X12_say_226 rfl rfl rfl (by decide +kernel) ⟨Nat.le_of_ble_eq_true rfl, Nat.le_of_ble_eq_true rfl⟩) hK hP hD hS hA rfl rfl hl.1 (lv_room (Nat.le_of_ble_eq_true rfl)) dX12_lambda_231 hcs (fun  N_1 G_2 B_3 pl_4 hw H locs hP hD hS => ?_)
        dsimp only at hw
        obtain ⟨e2, e4, e1, X, e3⟩ := hw
        have hrun : RUN N G B sz N_1 K B_3 az w (t + 1) := by rw [e1, e3]; exact hrun.say 1 X (by omega)
        have k23 : N_1 23 = M 23 := by rw [e1]; exact k23
        have k27 : N_1 27 = M 27 := by rw [e1]; exact k27
        have k34 : N_1 34 = M 34 := by rw [e1]; exact k34
        have k36 : N_1 36 = M 36 := by rw [e1]; exact k36
        rw [e2, e4] at hP hD
        have hnum := hrun.num hbu (by omega) (by omega)
        have hG2 := hrun.1.1.1
        have htr := hrun.1.1.2.2.1
        have hal2 := hrun.1.1.2.1
        have n14 := hrun.2.2.2.2.2.2.2.1
        have n23 := hrun.2.2.2.2.2.2.2.2
        have n33 := hrun.2.2.2.2.2.1
        refine lv_aload_n hx hb dX12_lambda_234 rfl (lv_at hl 0 rfl) ?_
        refine lv_aload_n hx hb dX12_lambda_235 rfl (lv_at hl 0 rfl) ?_
        refine mg_34 hx hb hts inX12_lambda hown hK hP (hts _ lkX12_lambda_f297) dX12_lambda_236 ?_
        have m34 : N_1 34 = M 34 := k34
        refine tp_i (y := nI (M 34)) (by rw [k34]) ?_
        refine mcl_v (As := [.int (nI (M 34))]) (rest := []) ⟨hx, hb, hml, hown, hts⟩ (m_sayNumber l dC dI cB cC cI cJ cZ z0 R pl N_1 K B_3 (M 34) (by omega) (by omega) H.size) (cwV 1 hts kX12_lambda_X12_sayNumber_242 rfl rfl rfl (by decide +kernel) ⟨Nat.le_of_ble_eq_true rfl, Nat.le_of_ble_eq_true rfl⟩) hK hP hD hS hA rfl rfl hl.1 (lv_room (Nat.le_of_ble_eq_true rfl)) dX12_lambda_239 hcs (fun  N_6 G_7 B_8 pl_9 hw H locs hP hD hS => ?_)
        dsimp only at hw
        obtain ⟨e2, e4, n9, X, hn9, e1, e3⟩ := hw
        have hrun : RUN N G B sz N_6 K B_8 az w (t + 9) := by rw [e1, e3]; exact hrun.say n9 X (by omega)
        have k23 : N_6 23 = M 23 := by rw [e1]; exact k23
        have k27 : N_6 27 = M 27 := by rw [e1]; exact k27
        have k34 : N_6 34 = M 34 := by rw [e1]; exact k34
        have k36 : N_6 36 = M 36 := by rw [e1]; exact k36
        rw [e2, e4] at hP hD
        have hnum := hrun.num hbu (by omega) (by omega)
        have hG2 := hrun.1.1.1
        have htr := hrun.1.1.2.2.1
        have hal2 := hrun.1.1.2.1
        have n14 := hrun.2.2.2.2.2.2.2.1
        have n23 := hrun.2.2.2.2.2.2.2.2
        have n33 := hrun.2.2.2.2.2.1
        refine lv_aload_n hx hb dX12_lambda_242 rfl (lv_at hl 0 rfl) ?_
        refine lv_aload_n hx hb dX12_lambda_243 rfl (lv_at hl 0 rfl) ?_
        refine mg_11 hx hb hts inX12_lambda hown hK hP (hts _ lkX12_lambda_f35) dX12_lambda_244 ?_
        refine lv_aload_n hx hb dX12_lambda_247 rfl (lv_at hl 0 rfl) ?_
        refine lv_iload hx hb dX12_lambda_248 (lv_at hl 3 rfl) ?_
        refine lv_iload hx hb dX12_lambda_250 (lv_at hl 5 rfl) ?_
        obtain ⟨t_11, t_11b, t_11c, t_11d⟩ := ht9.pt (f := nm) (k := kx) (hnm8) (by omega)
        have hco := hrun.2.2.2.2.2.2.1
        refine mcl_i (As := [.int (nI nm), .int (nI kx)]) (rest := [.ref (R 11), .ref z0]) ⟨hx, hb, hml, hown, hts⟩ (m_part l dC dI cB cC cI cJ cZ z0 R pl N_6 K B_8 nm kx hG2 t_11d (by rw [hco.2.1]; exact t_11) H.size) (cwV 2 hts kX12_lambda_X12_part_192 rfl rfl rfl (by decide +kernel) ⟨Nat.le_of_ble_eq_true rfl, Nat.le_of_ble_eq_true rfl⟩) hK hP hD hS hA rfl rfl hl.1 (lv_room (Nat.le_of_ble_eq_true rfl)) dX12_lambda_252 hcs (fun r_16 N_12 G_13 B_14 pl_15 hw H locs hP hD hS => ?_)
        dsimp only at hw
        obtain ⟨e1, e2, e3, e4, hw⟩ := hw
        rw [e1, e2, e3, e4] at hP hD
        subst hw
        refine tp_i (y := nI (CH G nm kx)) (by show nI (K 13 (K 11 nm + kx)) = _; rw [hco.2.1, hco.2.2.2.1]) ?_
        have hco := hrun.2.2.2.2.2.2.1
        have g11 := hG 11 (CH G nm kx)
        have g11b := hG2 11 (CH G nm kx)
        refine ml_11 hx hb hK hP (by omega) dX12_lambda_255 ?_
        refine lv_aload_n hx hb dX12_lambda_256 rfl (lv_at hl 0 rfl) ?_
        refine mg_34 hx hb hts inX12_lambda hown hK hP (hts _ lkX12_lambda_f297) dX12_lambda_257 ?_
        refine lv_iconst (v := nI 0 - 1) hx hb dX12_lambda_260 (by decide) ?_
        refine tp_2 (y := nI (M 34 + 1) - 1) (by rw [k34]; exact (om1 (Nat.succ_pos _)).symm) ?_
        refine mcl_v (As := [.int (nI (K 11 (CH G nm kx))), .int (nI ((M 34) + 1) - 1), .int (nI 0 - 1)]) (rest := []) ⟨hx, hb, hml, hown, hts⟩ (m_bind l dC dI cB cC cI cJ cZ z0 R pl N_6 K B_8 (K 11 (CH G nm kx)) ((M 34) + 1) 0 (by omega) (by omega) H.size) (cwV 3 hts kX12_lambda_X12_bind_300 rfl rfl rfl (by decide +kernel) ⟨Nat.le_of_ble_eq_true rfl, Nat.le_of_ble_eq_true rfl⟩) hK hP hD hS hA rfl rfl hl.1 (lv_room (Nat.le_of_ble_eq_true rfl)) dX12_lambda_261 hcs (fun  N_17 G_18 B_19 pl_20 hw H locs hP hD hS => ?_)
        dsimp only at hw
        obtain ⟨e3, e4, e1, e2⟩ := hw
        have hrun : RUN N G B sz N_17 G_18 B_8 az w (t + 9) := by rw [e1, e2]; exact hrun.bindv (by omega) (by omega) (by omega) (by omega) (by omega)
        have k27 : N_17 27 = M 27 + 1 := by rw [e1]; show N_6 27 + 1 = _; rw [k27]
        have k23 : N_17 23 = M 23 := by rw [e1]; exact k23
        have k34 : N_17 34 = M 34 := by rw [e1]; exact k34
        have k36 : N_17 36 = M 36 := by rw [e1]; exact k36
        rw [e3, e4] at hP hD
        have hnum := hrun.num hbu (by omega) (by omega)
        have hG2 := hrun.1.1.1
        have htr := hrun.1.1.2.2.1
        have hal2 := hrun.1.1.2.1
        have n14 := hrun.2.2.2.2.2.2.2.1
        have n23 := hrun.2.2.2.2.2.2.2.2
        have n33 := hrun.2.2.2.2.2.1
        refine lv_aload_n hx hb dX12_lambda_264 rfl (lv_at hl 0 rfl) ?_
        refine lv_dup hx hb dX12_lambda_265 rfl ?_
        refine mg_34 hx hb hts inX12_lambda hown hK hP (hts _ lkX12_lambda_f297) dX12_lambda_266 ?_
        refine lv_iconst (v := nI 1) hx hb dX12_lambda_269 (by decide) ?_
        refine lv_iadd hx hb dX12_lambda_270 ?_
        refine tp_i (nI_add (N_17 34) 1) ?_
        refine mp_34 hx hb hts inX12_lambda hown hK hP hD hS (hts _ lkX12_lambda_f297) dX12_lambda_271 (fun H locs hP hD hS => ?_)
        have hrun : RUN N G B sz (va_up N_17 34 (N_17 34 + 1)) G_18 B_8 az w (t + 9) := hrun.var (by omega)
        refine lv_iinc (v := nI (kx + 1)) (lv' := [(7, .int (nI (kx + 1))), (0, .ref z0), (1, .int (nI f)), (3, .int (nI dp)), (5, .int (nI nm)), (6, .int (nI iv))]) hx hb dX12_lambda_274 hl (k := 5) rfl (nI_add kx 1) (by decide) rfl (fun ls hl => ?_)
        refine lv_goto (tgt := 205) hx hb dX12_lambda_277 (by decide) ?_
        exact ih (kx + 1) (t + 9) (va_up N_17 34 (N_17 34 + 1)) G_18 B_8 (by omega) (by omega) (by omega) hrun (show 2 ≤ N_17 23 by omega) (show iv < N_17 23 by omega) (show N_17 27 + (G 12 nm - (kx + 1)) ≤ 6 * N_17 36 by omega) (show va_up N_17 34 (N_17 34 + 1) 34 + (G 12 nm - (kx + 1)) ≤ 6 * N_17 36 by rw [va_up_self]; omega) _ _ hP hD hS ls (lv_sub hl [1, 2, 3, 4, 5, 0] rfl)
      · refine lv_aload_n hx hb dX12_lambda_222 rfl (lv_at hl 0 rfl) ?_
        refine lv_bipush (v := nI 32) hx hb dX12_lambda_223 (by decide) ?_
        refine mcl_v (As := [.int (nI 32)]) (rest := []) ⟨hx, hb, hml, hown, hts⟩ (m_say l dC dI cB cC cI cJ cZ z0 R pl M K C ((nI 32)) (by omega) H.size) (cwV 1 hts kX12_lambda_X12_say_226 rfl rfl rfl (by decide +kernel) ⟨Nat.le_of_ble_eq_true rfl, Nat.le_of_ble_eq_true rfl⟩) hK hP hD hS hA rfl rfl hl.1 (lv_room (Nat.le_of_ble_eq_true rfl)) dX12_lambda_225 hcs (fun  N_22 G_23 B_24 pl_25 hw H locs hP hD hS => ?_)
        dsimp only at hw
        obtain ⟨e2, e4, e1, X, e3⟩ := hw
        have hrun : RUN N G B sz N_22 K B_24 az w (t + 1) := by rw [e1, e3]; exact hrun.say 1 X (by omega)
        have k23 : N_22 23 = M 23 := by rw [e1]; exact k23
        have k27 : N_22 27 = M 27 := by rw [e1]; exact k27
        have k34 : N_22 34 = M 34 := by rw [e1]; exact k34
        have k36 : N_22 36 = M 36 := by rw [e1]; exact k36
        rw [e2, e4] at hP hD
        have hnum := hrun.num hbu (by omega) (by omega)
        have hG2 := hrun.1.1.1
        have htr := hrun.1.1.2.2.1
        have hal2 := hrun.1.1.2.1
        have n14 := hrun.2.2.2.2.2.2.2.1
        have n23 := hrun.2.2.2.2.2.2.2.2
        have n33 := hrun.2.2.2.2.2.1
        refine lv_aload_n hx hb dX12_lambda_228 rfl (lv_at hl 0 rfl) ?_
        refine lv_bipush (v := nI 37) hx hb dX12_lambda_229 (by decide) ?_
        refine mcl_v (As := [.int (nI 37)]) (rest := []) ⟨hx, hb, hml, hown, hts⟩ (m_say l dC dI cB cC cI cJ cZ z0 R pl N_22 K B_24 ((nI 37)) (by omega) H.size) (cwV 1 hts kX12_lambda_X12_say_226 rfl rfl rfl (by decide +kernel) ⟨Nat.le_of_ble_eq_true rfl, Nat.le_of_ble_eq_true rfl⟩) hK hP hD hS hA rfl rfl hl.1 (lv_room (Nat.le_of_ble_eq_true rfl)) dX12_lambda_231 hcs (fun  N_27 G_28 B_29 pl_30 hw H locs hP hD hS => ?_)
        dsimp only at hw
        obtain ⟨e2, e4, e1, X, e3⟩ := hw
        have hrun : RUN N G B sz N_27 K B_29 az w (t + 2) := by rw [e1, e3]; exact hrun.say 1 X (by omega)
        have k23 : N_27 23 = M 23 := by rw [e1]; exact k23
        have k27 : N_27 27 = M 27 := by rw [e1]; exact k27
        have k34 : N_27 34 = M 34 := by rw [e1]; exact k34
        have k36 : N_27 36 = M 36 := by rw [e1]; exact k36
        rw [e2, e4] at hP hD
        have hnum := hrun.num hbu (by omega) (by omega)
        have hG2 := hrun.1.1.1
        have htr := hrun.1.1.2.2.1
        have hal2 := hrun.1.1.2.1
        have n14 := hrun.2.2.2.2.2.2.2.1
        have n23 := hrun.2.2.2.2.2.2.2.2
        have n33 := hrun.2.2.2.2.2.1
        refine lv_aload_n hx hb dX12_lambda_234 rfl (lv_at hl 0 rfl) ?_
        refine lv_aload_n hx hb dX12_lambda_235 rfl (lv_at hl 0 rfl) ?_
        refine mg_34 hx hb hts inX12_lambda hown hK hP (hts _ lkX12_lambda_f297) dX12_lambda_236 ?_
        have m34 : N_27 34 = M 34 := k34
        refine tp_i (y := nI (M 34)) (by rw [k34]) ?_
        refine mcl_v (As := [.int (nI (M 34))]) (rest := []) ⟨hx, hb, hml, hown, hts⟩ (m_sayNumber l dC dI cB cC cI cJ cZ z0 R pl N_27 K B_29 (M 34) (by omega) (by omega) H.size) (cwV 1 hts kX12_lambda_X12_sayNumber_242 rfl rfl rfl (by decide +kernel) ⟨Nat.le_of_ble_eq_true rfl, Nat.le_of_ble_eq_true rfl⟩) hK hP hD hS hA rfl rfl hl.1 (lv_room (Nat.le_of_ble_eq_true rfl)) dX12_lambda_239 hcs (fun  N_32 G_33 B_34 pl_35 hw H locs hP hD hS => ?_)
        dsimp only at hw
        obtain ⟨e2, e4, n9, X, hn9, e1, e3⟩ := hw
        have hrun : RUN N G B sz N_32 K B_34 az w (t + 10) := by rw [e1, e3]; exact hrun.say n9 X (by omega)
        have k23 : N_32 23 = M 23 := by rw [e1]; exact k23
        have k27 : N_32 27 = M 27 := by rw [e1]; exact k27
        have k34 : N_32 34 = M 34 := by rw [e1]; exact k34
        have k36 : N_32 36 = M 36 := by rw [e1]; exact k36
        rw [e2, e4] at hP hD
        have hnum := hrun.num hbu (by omega) (by omega)
        have hG2 := hrun.1.1.1
        have htr := hrun.1.1.2.2.1
        have hal2 := hrun.1.1.2.1
        have n14 := hrun.2.2.2.2.2.2.2.1
        have n23 := hrun.2.2.2.2.2.2.2.2
        have n33 := hrun.2.2.2.2.2.1
        refine lv_aload_n hx hb dX12_lambda_242 rfl (lv_at hl 0 rfl) ?_
        refine lv_aload_n hx hb dX12_lambda_243 rfl (lv_at hl 0 rfl) ?_
        refine mg_11 hx hb hts inX12_lambda hown hK hP (hts _ lkX12_lambda_f35) dX12_lambda_244 ?_
        refine lv_aload_n hx hb dX12_lambda_247 rfl (lv_at hl 0 rfl) ?_
        refine lv_iload hx hb dX12_lambda_248 (lv_at hl 3 rfl) ?_
        refine lv_iload hx hb dX12_lambda_250 (lv_at hl 5 rfl) ?_
        obtain ⟨t_37, t_37b, t_37c, t_37d⟩ := ht9.pt (f := nm) (k := kx) (hnm8) (by omega)
        have hco := hrun.2.2.2.2.2.2.1
        refine mcl_i (As := [.int (nI nm), .int (nI kx)]) (rest := [.ref (R 11), .ref z0]) ⟨hx, hb, hml, hown, hts⟩ (m_part l dC dI cB cC cI cJ cZ z0 R pl N_32 K B_34 nm kx hG2 t_37d (by rw [hco.2.1]; exact t_37) H.size) (cwV 2 hts kX12_lambda_X12_part_192 rfl rfl rfl (by decide +kernel) ⟨Nat.le_of_ble_eq_true rfl, Nat.le_of_ble_eq_true rfl⟩) hK hP hD hS hA rfl rfl hl.1 (lv_room (Nat.le_of_ble_eq_true rfl)) dX12_lambda_252 hcs (fun r_42 N_38 G_39 B_40 pl_41 hw H locs hP hD hS => ?_)
        dsimp only at hw
        obtain ⟨e1, e2, e3, e4, hw⟩ := hw
        rw [e1, e2, e3, e4] at hP hD
        subst hw
        refine tp_i (y := nI (CH G nm kx)) (by show nI (K 13 (K 11 nm + kx)) = _; rw [hco.2.1, hco.2.2.2.1]) ?_
        have hco := hrun.2.2.2.2.2.2.1
        have g11 := hG 11 (CH G nm kx)
        have g11b := hG2 11 (CH G nm kx)
        refine ml_11 hx hb hK hP (by omega) dX12_lambda_255 ?_
        refine lv_aload_n hx hb dX12_lambda_256 rfl (lv_at hl 0 rfl) ?_
        refine mg_34 hx hb hts inX12_lambda hown hK hP (hts _ lkX12_lambda_f297) dX12_lambda_257 ?_
        refine lv_iconst (v := nI 0 - 1) hx hb dX12_lambda_260 (by decide) ?_
        refine tp_2 (y := nI (M 34 + 1) - 1) (by rw [k34]; exact (om1 (Nat.succ_pos _)).symm) ?_
        refine mcl_v (As := [.int (nI (K 11 (CH G nm kx))), .int (nI ((M 34) + 1) - 1), .int (nI 0 - 1)]) (rest := []) ⟨hx, hb, hml, hown, hts⟩ (m_bind l dC dI cB cC cI cJ cZ z0 R pl N_32 K B_34 (K 11 (CH G nm kx)) ((M 34) + 1) 0 (by omega) (by omega) H.size) (cwV 3 hts kX12_lambda_X12_bind_300 rfl rfl rfl (by decide +kernel) ⟨Nat.le_of_ble_eq_true rfl, Nat.le_of_ble_eq_true rfl⟩) hK hP hD hS hA rfl rfl hl.1 (lv_room (Nat.le_of_ble_eq_true rfl)) dX12_lambda_261 hcs (fun  N_43 G_44 B_45 pl_46 hw H locs hP hD hS => ?_)
        dsimp only at hw
        obtain ⟨e3, e4, e1, e2⟩ := hw
        have hrun : RUN N G B sz N_43 G_44 B_34 az w (t + 10) := by rw [e1, e2]; exact hrun.bindv (by omega) (by omega) (by omega) (by omega) (by omega)
        have k27 : N_43 27 = M 27 + 1 := by rw [e1]; show N_32 27 + 1 = _; rw [k27]
        have k23 : N_43 23 = M 23 := by rw [e1]; exact k23
        have k34 : N_43 34 = M 34 := by rw [e1]; exact k34
        have k36 : N_43 36 = M 36 := by rw [e1]; exact k36
        rw [e3, e4] at hP hD
        have hnum := hrun.num hbu (by omega) (by omega)
        have hG2 := hrun.1.1.1
        have htr := hrun.1.1.2.2.1
        have hal2 := hrun.1.1.2.1
        have n14 := hrun.2.2.2.2.2.2.2.1
        have n23 := hrun.2.2.2.2.2.2.2.2
        have n33 := hrun.2.2.2.2.2.1
        refine lv_aload_n hx hb dX12_lambda_264 rfl (lv_at hl 0 rfl) ?_
        refine lv_dup hx hb dX12_lambda_265 rfl ?_
        refine mg_34 hx hb hts inX12_lambda hown hK hP (hts _ lkX12_lambda_f297) dX12_lambda_266 ?_
        refine lv_iconst (v := nI 1) hx hb dX12_lambda_269 (by decide) ?_
        refine lv_iadd hx hb dX12_lambda_270 ?_
        refine tp_i (nI_add (N_43 34) 1) ?_
        refine mp_34 hx hb hts inX12_lambda hown hK hP hD hS (hts _ lkX12_lambda_f297) dX12_lambda_271 (fun H locs hP hD hS => ?_)
        have hrun : RUN N G B sz (va_up N_43 34 (N_43 34 + 1)) G_44 B_34 az w (t + 10) := hrun.var (by omega)
        refine lv_iinc (v := nI (kx + 1)) (lv' := [(7, .int (nI (kx + 1))), (0, .ref z0), (1, .int (nI f)), (3, .int (nI dp)), (5, .int (nI nm)), (6, .int (nI iv))]) hx hb dX12_lambda_274 hl (k := 5) rfl (nI_add kx 1) (by decide) rfl (fun ls hl => ?_)
        refine lv_goto (tgt := 205) hx hb dX12_lambda_277 (by decide) ?_
        exact ih (kx + 1) (t + 10) (va_up N_43 34 (N_43 34 + 1)) G_44 B_34 (by omega) (by omega) (by omega) hrun (show 2 ≤ N_43 23 by omega) (show iv < N_43 23 by omega) (show N_43 27 + (G 12 nm - (kx + 1)) ≤ 6 * N_43 36 by omega) (show va_up N_43 34 (N_43 34 + 1) 34 + (G 12 nm - (kx + 1)) ≤ 6 * N_43 36 by rw [va_up_self]; omega) _ _ hP hD hS ls (lv_sub hl [1, 2, 3, 4, 5, 0] rfl)

set_option maxHeartbeats 4000000 in
set_option maxRecDepth 100000 in
/-- lambda -/
theorem m_lambda (l : Launch) (dC : Nat → ClassId) (dI : Nat → Nat → Nat) (cB cC cI cJ cZ : ClassId) (z0 : Nat) (R : Nat → Nat) (pl : Int32) (N : Nat → Nat) (G : Nat → Nat → Nat) (B : Nat → Nat → Int32) (f en dp w x : Nat) (sz az : Nat → Nat) (hxi : XI N G sz az) (htk : TSK N G sz w) (h33 : N 33 = 0) (hf : f < N 14) (hen : en < N 23) (hdp : dp ≤ 100) (hbu : BUD N (w + (3 * sz f - 1)) x) (hb23 : N 23 ≤ N 36) (hb27 : N 27 + 6 ≤ 6 * N 36) (hb34 : N 34 + 6 ≤ 6 * N 36) (s0 : Nat) : Met l yX12_lambda vX12_lambda { frames := 3, cells := 0, slots := 0, locals := 65 } (va_Pc [.ref z0, .int (nI f), .int (nI en), .int (nI dp)] (mPre dC dI cB cC cI cJ cZ z0 R pl N G B s0)) (va_Qv (fun u : ((Nat → Nat) × (Nat → Nat → Nat) × (Nat → Nat → Int32) × Int32) => match u with | (N1, G1, B1, pl1) => pl1 = pl ∧ XPOST N G B sz x N1 G1 B1) (mPost dC dI cB cC cI cJ cZ z0 R (va_A (MW cB cC cI cJ cZ z0 R pl N G B) s0)) (va_A (MW cB cC cI cJ cZ z0 R pl N G B) s0)) 0 0 (va_A (MW cB cC cI cJ cZ z0 R pl N G B) s0) := by
  refine Met.ofW (cc := cX12_lambda) (maxL := 8) (ret := none) (by decide) rfl ?_
  intro p e s m args below meth c s₁ B9 hml hv
  obtain ⟨rfl, hsz, hP, hK, hD0⟩ := hv
  have hx := B9.exec
  have hb := B9.bytes
  have hr := B9.returns
  have hts := atoms_spec (ws := vX12_lambda) B9.pre
  have hown : s.vm.findClass RX12 = some m.cls := findClass_of_methodNamed B9.named
  have hlocks := B9.notSynchronized
  subst hsz
  have hD := hD0.self (sz := s.heap.size)
  generalize hAe : va_A (MW cB cC cI cJ cZ z0 R pl N G B) s.heap.size = A at hD ⊢
  have hA : ∀ q : Nat, s.heap.size ≤ q → A q := fun q h => by rw [← hAe]; exact Or.inr h
  have hS : va_S A s.heap s.heap [] := va_S.rf
  have hcs : 0 + 0 ≤ (0 : Nat) ∧ 0 + 0 ≤ (0 : Nat) := ⟨Nat.le_refl 0, Nat.le_refl 0⟩
  have hl := lv_entry ([.ref z0, .int (nI f), .int (nI en), .int (nI dp)]) (n := 8) (Nat.le_of_ble_eq_true rfl)
  rw [lg_entry_eq]
  generalize (lg_sl ([.ref z0, .int (nI f), .int (nI en), .int (nI dp)]) ++ List.replicate (8 - (lg_sl ([.ref z0, .int (nI f), .int (nI en), .int (nI dp)])).length) Slot.unset).toArray = ls at hl ⊢
  have hl : lv_has ls 8 [(0, .ref z0), (1, .int (nI f)), (2, .int (nI en)), (3, .int (nI dp))] := hl
  have ht9 := hxi.1.2.2.1
  have hG := hxi.1.1
  have hG2 := hG
  have hal := hxi.1.2.1
  have u6 := ht9.1
  have u1 := ht9.one hf
  have hf8 : f < 90000 := by omega
  refine lv_aload_n hx hb dX12_lambda_0 rfl (lv_at hl 0 rfl) ?_
  refine lv_iload_n hx hb dX12_lambda_1 rfl (lv_at hl 1 rfl) ?_
  refine lv_iconst (v := nI 3) hx hb dX12_lambda_2 (by decide) ?_
  refine mcl_i (As := [.int (nI f), .int (nI 3)]) (rest := []) ⟨hx, hb, hml, hown, hts⟩ (m_isList l dC dI cB cC cI cJ cZ z0 R pl N G B f 3 hG2 (by omega) (by omega) s.heap.size) (cwV 2 hts kX12_lambda_X12_isList_276 rfl rfl rfl (by decide +kernel) ⟨Nat.le_of_ble_eq_true rfl, Nat.le_of_ble_eq_true rfl⟩) hK hP hD hS hA rfl rfl hl.1 (lv_room (Nat.le_of_ble_eq_true rfl)) dX12_lambda_3 hcs (fun r_6 N_2 G_3 B_4 pl_5 hw H locs hP hD hS => ?_)
  dsimp only at hw
  obtain ⟨e1, e2, e3, e4, hw⟩ := hw
  rw [e1, e2, e3, e4] at hP hD
  have hw : r_6 = nI (if G 10 f = 2 ∧ G 12 f = 3 then 1 else 0) := hw
  by_cases c_1 : G 10 f = 2 ∧ G 12 f = 3
  · rw [if_pos c_1] at hw
    subst hw
    obtain ⟨q1, q2⟩ := c_1
    have hc1 := (ht9.pt hf (show 1 < G 12 f by omega)).2.1
    have g10 := hG 10 (CH G f 1)
    have g12 := hG 12 (CH G f 1)
    refine bz_eq (tgt := 44) hx hb (by first | omega | exact Nat.lt_of_lt_of_le (hG _ _) (by decide)) dX12_lambda_6 (by decide) (fun q9 => absurd q9 (by omega)) (fun c => ?_)
    refine lv_aload_n hx hb dX12_lambda_9 rfl (lv_at hl 0 rfl) ?_
    refine mg_10 hx hb hts inX12_lambda hown hK hP (hts _ lkX12_lambda_f32) dX12_lambda_10 ?_
    refine lv_aload_n hx hb dX12_lambda_13 rfl (lv_at hl 0 rfl) ?_
    refine lv_iload_n hx hb dX12_lambda_14 rfl (lv_at hl 1 rfl) ?_
    refine lv_iconst (v := nI 1) hx hb dX12_lambda_15 (by decide) ?_
    obtain ⟨t_12, t_12b, t_12c, t_12d⟩ := ht9.pt (f := f) (k := 1) (hf) (by omega)
    refine mcl_i (As := [.int (nI f), .int (nI 1)]) (rest := [.ref (R 10)]) ⟨hx, hb, hml, hown, hts⟩ (m_part l dC dI cB cC cI cJ cZ z0 R pl N G B f 1 hG2 t_12d t_12 H.size) (cwV 2 hts kX12_lambda_X12_part_192 rfl rfl rfl (by decide +kernel) ⟨Nat.le_of_ble_eq_true rfl, Nat.le_of_ble_eq_true rfl⟩) hK hP hD hS hA rfl rfl hl.1 (lv_room (Nat.le_of_ble_eq_true rfl)) dX12_lambda_16 hcs (fun r_17 N_13 G_14 B_15 pl_16 hw H locs hP hD hS => ?_)
    dsimp only at hw
    obtain ⟨e1, e2, e3, e4, hw⟩ := hw
    rw [e1, e2, e3, e4] at hP hD
    have hw : r_17 = nI (CH G f 1) := hw
    subst hw
    refine ml_10 hx hb hK hP (by omega) dX12_lambda_19 ?_
    refine lv_iconst (v := nI 2) hx hb dX12_lambda_20 (by decide) ?_
    refine bn_ne (tgt := 44) hx hb (by first | omega | exact Nat.lt_of_lt_of_le (hG _ _) (by decide)) (by first | omega | exact Nat.lt_of_lt_of_le (hG _ _) (by decide)) dX12_lambda_21 (by decide) (fun c2 => ?_) (fun c2 => ?_)
    · refine lv_iconst (v := nI 0) hx hb dX12_lambda_44 (by decide) ?_
      refine lv_istore (lv' := [(4, .int (nI 0)), (0, .ref z0), (1, .int (nI f)), (2, .int (nI en)), (3, .int (nI dp))]) hx hb dX12_lambda_45 hl (by decide) rfl (fun ls hl => ?_)
      refine lv_iload hx hb dX12_lambda_47 (lv_at hl 0 rfl) ?_
      refine bz_eq (tgt := 61) hx hb (by first | omega | exact Nat.lt_of_lt_of_le (hG _ _) (by decide)) dX12_lambda_49 (by decide) (fun c => ?_) (fun q9 => absurd q9 (by omega))
      refine lv_iconst (v := nI 0) hx hb dX12_lambda_61 (by decide) ?_
      refine lv_istore (lv' := [(5, .int (nI 0)), (4, .int (nI 0)), (0, .ref z0), (1, .int (nI f)), (2, .int (nI en)), (3, .int (nI dp))]) hx hb dX12_lambda_62 hl (by decide) rfl (fun ls hl => ?_)
      refine lv_iconst (v := nI 0) hx hb dX12_lambda_64 (by decide) ?_
      refine lv_istore (lv' := [(6, .int (nI 0)), (5, .int (nI 0)), (4, .int (nI 0)), (0, .ref z0), (1, .int (nI f)), (2, .int (nI en)), (3, .int (nI dp))]) hx hb dX12_lambda_65 hl (by decide) rfl (fun ls hl => ?_)
      refine lv_iload hx hb dX12_lambda_67 (lv_at hl 2 rfl) ?_
      refine bz_eq (tgt := 161) hx hb (by first | omega | exact Nat.lt_of_lt_of_le (hG _ _) (by decide)) dX12_lambda_69 (by decide) (fun c => ?_) (fun q9 => absurd q9 (by omega))
      have hrun : RUN N G B sz N G B az w 0 := RUN.start hxi htk h33
      have hnum := hrun.num hbu (by omega) (by omega)
      have hG2 := hrun.1.1.1
      have htr := hrun.1.1.2.2.1
      have hal2 := hrun.1.1.2.1
      have n14 := hrun.2.2.2.2.2.2.2.1
      have n23 := hrun.2.2.2.2.2.2.2.2
      have n33 := hrun.2.2.2.2.2.1
      refine lv_aload_n hx hb dX12_lambda_161 rfl (lv_at hl 3 rfl) ?_
      refine lv_iload hx hb dX12_lambda_162 (lv_at hl 2 rfl) ?_
      refine lv_iconst (v := nI 3) hx hb dX12_lambda_164 (by decide) ?_
      refine mcl_i (As := [.int (nI 0), .int (nI 3)]) (rest := []) ⟨hx, hb, hml, hown, hts⟩ (m_need l dC dI cB cC cI cJ cZ z0 R pl N G B 0 3 (by decide) ⟨by decide, by decide⟩ n33 H.size) (cwV 2 hts kX12_lambda_X12_need_255 rfl rfl rfl (by decide +kernel) ⟨Nat.le_of_ble_eq_true rfl, Nat.le_of_ble_eq_true rfl⟩) hK hP hD hS hA rfl rfl hl.1 (lv_room (Nat.le_of_ble_eq_true rfl)) dX12_lambda_165 hcs (fun r_22 N_18 G_19 B_20 pl_21 hw H locs hP hD hS => ?_)
      dsimp only at hw
      obtain ⟨e3, e4, e2, hw, e5, e6⟩ := hw
      rw [e6 rfl, e2, e3, e4] at hP hD
      subst hw
      refine bz_ne (tgt := 172) hx hb (by first | omega | exact Nat.lt_of_lt_of_le (hG _ _) (by decide)) dX12_lambda_168 (by decide) (fun q9 => absurd q9 (by omega)) (fun c => ?_)
      exact W.vret hx hb hr (fun t ht hW => ⟨⟨(va_up N 33 3, G, B, pl), rfl, ⟨rfl, hrun.fail hbu (by omega) (Or.inl rfl) (by decide) (by decide)⟩, by rw [ht]; exact hP, va_K.moved hW.alike hK, hD⟩, hS.F ht⟩) hS.2.2 dX12_lambda_171
    · refine lv_aload_n hx hb dX12_lambda_24 rfl (lv_at hl 0 rfl) ?_
      refine mg_12 hx hb hts inX12_lambda hown hK hP (hts _ lkX12_lambda_f38) dX12_lambda_25 ?_
      refine lv_aload_n hx hb dX12_lambda_28 rfl (lv_at hl 0 rfl) ?_
      refine lv_iload_n hx hb dX12_lambda_29 rfl (lv_at hl 1 rfl) ?_
      refine lv_iconst (v := nI 1) hx hb dX12_lambda_30 (by decide) ?_
      obtain ⟨t_23, t_23b, t_23c, t_23d⟩ := ht9.pt (f := f) (k := 1) (hf) (by omega)
      refine mcl_i (As := [.int (nI f), .int (nI 1)]) (rest := [.ref (R 12)]) ⟨hx, hb, hml, hown, hts⟩ (m_part l dC dI cB cC cI cJ cZ z0 R pl N G B f 1 hG2 t_23d t_23 H.size) (cwV 2 hts kX12_lambda_X12_part_192 rfl rfl rfl (by decide +kernel) ⟨Nat.le_of_ble_eq_true rfl, Nat.le_of_ble_eq_true rfl⟩) hK hP hD hS hA rfl rfl hl.1 (lv_room (Nat.le_of_ble_eq_true rfl)) dX12_lambda_31 hcs (fun r_28 N_24 G_25 B_26 pl_27 hw H locs hP hD hS => ?_)
      dsimp only at hw
      obtain ⟨e1, e2, e3, e4, hw⟩ := hw
      rw [e1, e2, e3, e4] at hP hD
      have hw : r_28 = nI (CH G f 1) := hw
      subst hw
      refine ml_12 hx hb hK hP (by omega) dX12_lambda_34 ?_
      refine lv_bipush (v := nI 6) hx hb dX12_lambda_35 (by decide) ?_
      refine bn_gt (tgt := 44) hx hb (by first | omega | exact Nat.lt_of_lt_of_le (hG _ _) (by decide)) (by first | omega | exact Nat.lt_of_lt_of_le (hG _ _) (by decide)) dX12_lambda_37 (by decide) (fun c3 => ?_) (fun c3 => ?_)
      · refine lv_iconst (v := nI 0) hx hb dX12_lambda_44 (by decide) ?_
        refine lv_istore (lv' := [(4, .int (nI 0)), (0, .ref z0), (1, .int (nI f)), (2, .int (nI en)), (3, .int (nI dp))]) hx hb dX12_lambda_45 hl (by decide) rfl (fun ls hl => ?_)
        refine lv_iload hx hb dX12_lambda_47 (lv_at hl 0 rfl) ?_
        refine bz_eq (tgt := 61) hx hb (by first | omega | exact Nat.lt_of_lt_of_le (hG _ _) (by decide)) dX12_lambda_49 (by decide) (fun c => ?_) (fun q9 => absurd q9 (by omega))
        refine lv_iconst (v := nI 0) hx hb dX12_lambda_61 (by decide) ?_
        refine lv_istore (lv' := [(5, .int (nI 0)), (4, .int (nI 0)), (0, .ref z0), (1, .int (nI f)), (2, .int (nI en)), (3, .int (nI dp))]) hx hb dX12_lambda_62 hl (by decide) rfl (fun ls hl => ?_)
        refine lv_iconst (v := nI 0) hx hb dX12_lambda_64 (by decide) ?_
        refine lv_istore (lv' := [(6, .int (nI 0)), (5, .int (nI 0)), (4, .int (nI 0)), (0, .ref z0), (1, .int (nI f)), (2, .int (nI en)), (3, .int (nI dp))]) hx hb dX12_lambda_65 hl (by decide) rfl (fun ls hl => ?_)
        refine lv_iload hx hb dX12_lambda_67 (lv_at hl 2 rfl) ?_
        refine bz_eq (tgt := 161) hx hb (by first | omega | exact Nat.lt_of_lt_of_le (hG _ _) (by decide)) dX12_lambda_69 (by decide) (fun c => ?_) (fun q9 => absurd q9 (by omega))
        have hrun : RUN N G B sz N G B az w 0 := RUN.start hxi htk h33
        have hnum := hrun.num hbu (by omega) (by omega)
        have hG2 := hrun.1.1.1
        have htr := hrun.1.1.2.2.1
        have hal2 := hrun.1.1.2.1
        have n14 := hrun.2.2.2.2.2.2.2.1
        have n23 := hrun.2.2.2.2.2.2.2.2
        have n33 := hrun.2.2.2.2.2.1
        refine lv_aload_n hx hb dX12_lambda_161 rfl (lv_at hl 3 rfl) ?_
        refine lv_iload hx hb dX12_lambda_162 (lv_at hl 2 rfl) ?_
        refine lv_iconst (v := nI 3) hx hb dX12_lambda_164 (by decide) ?_
        refine mcl_i (As := [.int (nI 0), .int (nI 3)]) (rest := []) ⟨hx, hb, hml, hown, hts⟩ (m_need l dC dI cB cC cI cJ cZ z0 R pl N G B 0 3 (by decide) ⟨by decide, by decide⟩ n33 H.size) (cwV 2 hts kX12_lambda_X12_need_255 rfl rfl rfl (by decide +kernel) ⟨Nat.le_of_ble_eq_true rfl, Nat.le_of_ble_eq_true rfl⟩) hK hP hD hS hA rfl rfl hl.1 (lv_room (Nat.le_of_ble_eq_true rfl)) dX12_lambda_165 hcs (fun r_33 N_29 G_30 B_31 pl_32 hw H locs hP hD hS => ?_)
        dsimp only at hw
        obtain ⟨e3, e4, e2, hw, e5, e6⟩ := hw
        rw [e6 rfl, e2, e3, e4] at hP hD
        subst hw
        refine bz_ne (tgt := 172) hx hb (by first | omega | exact Nat.lt_of_lt_of_le (hG _ _) (by decide)) dX12_lambda_168 (by decide) (fun q9 => absurd q9 (by omega)) (fun c => ?_)
        exact W.vret hx hb hr (fun t ht hW => ⟨⟨(va_up N 33 3, G, B, pl), rfl, ⟨rfl, hrun.fail hbu (by omega) (Or.inl rfl) (by decide) (by decide)⟩, by rw [ht]; exact hP, va_K.moved hW.alike hK, hD⟩, hS.F ht⟩) hS.2.2 dX12_lambda_171
      · refine lv_iconst (v := nI 1) hx hb dX12_lambda_40 (by decide) ?_
        refine lv_goto (tgt := 45) hx hb dX12_lambda_41 (by decide) ?_
        refine lv_istore (lv' := [(4, .int (nI 1)), (0, .ref z0), (1, .int (nI f)), (2, .int (nI en)), (3, .int (nI dp))]) hx hb dX12_lambda_45 hl (by decide) rfl (fun ls hl => ?_)
        refine lv_iload hx hb dX12_lambda_47 (lv_at hl 0 rfl) ?_
        refine bz_eq (tgt := 61) hx hb (by first | omega | exact Nat.lt_of_lt_of_le (hG _ _) (by decide)) dX12_lambda_49 (by decide) (fun q9 => absurd q9 (by omega)) (fun c => ?_)
        refine lv_aload_n hx hb dX12_lambda_52 rfl (lv_at hl 1 rfl) ?_
        refine lv_iload_n hx hb dX12_lambda_53 rfl (lv_at hl 2 rfl) ?_
        refine lv_iconst (v := nI 1) hx hb dX12_lambda_54 (by decide) ?_
        obtain ⟨t_34, t_34b, t_34c, t_34d⟩ := ht9.pt (f := f) (k := 1) (hf) (by omega)
        refine mcl_i (As := [.int (nI f), .int (nI 1)]) (rest := []) ⟨hx, hb, hml, hown, hts⟩ (m_part l dC dI cB cC cI cJ cZ z0 R pl N G B f 1 hG2 t_34d t_34 H.size) (cwV 2 hts kX12_lambda_X12_part_192 rfl rfl rfl (by decide +kernel) ⟨Nat.le_of_ble_eq_true rfl, Nat.le_of_ble_eq_true rfl⟩) hK hP hD hS hA rfl rfl hl.1 (lv_room (Nat.le_of_ble_eq_true rfl)) dX12_lambda_55 hcs (fun r_39 N_35 G_36 B_37 pl_38 hw H locs hP hD hS => ?_)
        dsimp only at hw
        obtain ⟨e1, e2, e3, e4, hw⟩ := hw
        rw [e1, e2, e3, e4] at hP hD
        have hw : r_39 = nI (CH G f 1) := hw
        subst hw
        refine lv_goto (tgt := 62) hx hb dX12_lambda_58 (by decide) ?_
        refine lv_istore (lv' := [(5, .int (nI (CH G f 1))), (4, .int (nI 1)), (0, .ref z0), (1, .int (nI f)), (2, .int (nI en)), (3, .int (nI dp))]) hx hb dX12_lambda_62 hl (by decide) rfl (fun ls hl => ?_)
        refine lv_iconst (v := nI 0) hx hb dX12_lambda_64 (by decide) ?_
        refine lv_istore (lv' := [(6, .int (nI 0)), (5, .int (nI (CH G f 1))), (4, .int (nI 1)), (0, .ref z0), (1, .int (nI f)), (2, .int (nI en)), (3, .int (nI dp))]) hx hb dX12_lambda_65 hl (by decide) rfl (fun ls hl => ?_)
        refine lp_lam2 hx hb hml hown hts hK hA hG ht9 hal f en dp (CH G f 1) (fun fi H locs hfi hP0 hP hD hS ls hl => ?_) _ 0 1 (Nat.lt_succ_self _) (by decide) (by decide) (fun _ => ⟨hc1, by omega, by omega⟩) _ _ hP hD hS ls (lv_sub hl [3, 4, 5, 6, 2, 1, 0] rfl)
        rcases (show fi = 0 ∨ fi = 1 by omega) with hz | hz
        · subst hz
          have hrun : RUN N G B sz N G B az w 0 := RUN.start hxi htk h33
          have hnum := hrun.num hbu (by omega) (by omega)
          have hG2 := hrun.1.1.1
          have htr := hrun.1.1.2.2.1
          have hal2 := hrun.1.1.2.1
          have n14 := hrun.2.2.2.2.2.2.2.1
          have n23 := hrun.2.2.2.2.2.2.2.2
          have n33 := hrun.2.2.2.2.2.1
          refine lv_aload_n hx hb dX12_lambda_161 rfl (lv_at hl 0 rfl) ?_
          refine lv_iload hx hb dX12_lambda_162 (lv_at hl 4 rfl) ?_
          refine lv_iconst (v := nI 3) hx hb dX12_lambda_164 (by decide) ?_
          refine mcl_i (As := [.int (nI 0), .int (nI 3)]) (rest := []) ⟨hx, hb, hml, hown, hts⟩ (m_need l dC dI cB cC cI cJ cZ z0 R pl N G B 0 3 (by decide) ⟨by decide, by decide⟩ n33 H.size) (cwV 2 hts kX12_lambda_X12_need_255 rfl rfl rfl (by decide +kernel) ⟨Nat.le_of_ble_eq_true rfl, Nat.le_of_ble_eq_true rfl⟩) hK hP hD hS hA rfl rfl hl.1 (lv_room (Nat.le_of_ble_eq_true rfl)) dX12_lambda_165 hcs (fun r_44 N_40 G_41 B_42 pl_43 hw H locs hP hD hS => ?_)
          dsimp only at hw
          obtain ⟨e3, e4, e2, hw, e5, e6⟩ := hw
          rw [e6 rfl, e2, e3, e4] at hP hD
          subst hw
          refine bz_ne (tgt := 172) hx hb (by first | omega | exact Nat.lt_of_lt_of_le (hG _ _) (by decide)) dX12_lambda_168 (by decide) (fun q9 => absurd q9 (by omega)) (fun c => ?_)
          exact W.vret hx hb hr (fun t ht hW => ⟨⟨(va_up N 33 3, G, B, pl), rfl, ⟨rfl, hrun.fail hbu (by omega) (Or.inl rfl) (by decide) (by decide)⟩, by rw [ht]; exact hP, va_K.moved hW.alike hK, hD⟩, hS.F ht⟩) hS.2.2 dX12_lambda_171
        · subst hz
          have hrun : RUN N G B sz N G B az w 0 := RUN.start hxi htk h33
          have hnum := hrun.num hbu (by omega) (by omega)
          have hG2 := hrun.1.1.1
          have htr := hrun.1.1.2.2.1
          have hal2 := hrun.1.1.2.1
          have n14 := hrun.2.2.2.2.2.2.2.1
          have n23 := hrun.2.2.2.2.2.2.2.2
          have n33 := hrun.2.2.2.2.2.1
          refine lv_aload_n hx hb dX12_lambda_161 rfl (lv_at hl 0 rfl) ?_
          refine lv_iload hx hb dX12_lambda_162 (lv_at hl 4 rfl) ?_
          refine lv_iconst (v := nI 3) hx hb dX12_lambda_164 (by decide) ?_
          refine mcl_i (As := [.int (nI 1), .int (nI 3)]) (rest := []) ⟨hx, hb, hml, hown, hts⟩ (m_need l dC dI cB cC cI cJ cZ z0 R pl N G B 1 3 (by decide) ⟨by decide, by decide⟩ n33 H.size) (cwV 2 hts kX12_lambda_X12_need_255 rfl rfl rfl (by decide +kernel) ⟨Nat.le_of_ble_eq_true rfl, Nat.le_of_ble_eq_true rfl⟩) hK hP hD hS hA rfl rfl hl.1 (lv_room (Nat.le_of_ble_eq_true rfl)) dX12_lambda_165 hcs (fun r_49 N_45 G_46 B_47 pl_48 hw H locs hP hD hS => ?_)
          dsimp only at hw
          obtain ⟨e3, e4, e2, hw, e5, e6⟩ := hw
          rw [e5 rfl, e2, e3, e4] at hP hD
          subst hw
          have hnm := hP0 rfl
          have hlt := hxi.2.2.2.2.1
          have hls := hlt.2.2.2 1 (by omega)
          have hbb : w + (3 * sz f - 1) ≤ 190000 := by have := hbu.1; omega
          have hev := hxi.2.2.2.1
          have h1n := hev.1
          have k27 : N 27 = N 27 := rfl
          have k34 : N 34 = N 34 := rfl
          have k36 : N 36 = N 36 := rfl
          have hnf := hxi.2.2.2.2.2.1
          refine bz_ne (tgt := 172) hx hb (by first | omega | exact Nat.lt_of_lt_of_le (hG _ _) (by decide)) dX12_lambda_168 (by decide) (fun c => ?_) (fun q9 => absurd q9 (by omega))
          refine lv_aload_n hx hb dX12_lambda_172 rfl (lv_at hl 0 rfl) ?_
          refine lv_iload_n hx hb dX12_lambda_173 rfl (lv_at hl 2 rfl) ?_
          refine mcl_i (As := [.int (nI en)]) (rest := []) ⟨hx, hb, hml, hown, hts⟩ (m_newEnvironment l dC dI cB cC cI cJ cZ z0 R pl N G B en (by omega) H.size) (cwV 1 hts kX12_lambda_X12_newEnvironment_294 rfl rfl rfl (by decide +kernel) ⟨Nat.le_of_ble_eq_true rfl, Nat.le_of_ble_eq_true rfl⟩) hK hP hD hS hA rfl rfl hl.1 (lv_room (Nat.le_of_ble_eq_true rfl)) dX12_lambda_174 hcs (fun r_54 N_50 G_51 B_52 pl_53 hw H locs hP hD hS => ?_)
          dsimp only at hw
          obtain ⟨e3, e4, e1, e2, hw⟩ := hw
          have hrun : RUN N G B sz N_50 G_51 B az w 0 := by rw [e1, e2]; exact hrun.env (by omega) (by omega)
          have k23 : N_50 23 = N 23 + 1 := by rw [e1]; rfl
          have k27 : N_50 27 = N 27 := by rw [e1]; exact k27
          have k34 : N_50 34 = N 34 := by rw [e1]; exact k34
          have k36 : N_50 36 = N 36 := by rw [e1]; exact k36
          rw [e3, e4] at hP hD
          subst hw
          have hnum := hrun.num hbu (by omega) (by omega)
          have hG2 := hrun.1.1.1
          have htr := hrun.1.1.2.2.1
          have hal2 := hrun.1.1.2.1
          have n14 := hrun.2.2.2.2.2.2.2.1
          have n23 := hrun.2.2.2.2.2.2.2.2
          have n33 := hrun.2.2.2.2.2.1
          refine lv_istore (lv' := [(6, .int (nI (N 23))), (0, .ref z0), (1, .int (nI f)), (2, .int (nI en)), (3, .int (nI dp)), (4, .int (nI 1)), (5, .int (nI (CH G f 1)))]) hx hb dX12_lambda_177 hl (by decide) rfl (fun ls hl => ?_)
          refine lv_aload_n hx hb dX12_lambda_179 rfl (lv_at hl 1 rfl) ?_
          refine lv_bipush (v := nI 40) hx hb dX12_lambda_180 (by decide) ?_
          refine mcl_v (As := [.int (nI 40)]) (rest := []) ⟨hx, hb, hml, hown, hts⟩ (m_say l dC dI cB cC cI cJ cZ z0 R pl N_50 G_51 B ((nI 40)) (by omega) H.size) (cwV 1 hts kX12_lambda_X12_say_226 rfl rfl rfl (by decide +kernel) ⟨Nat.le_of_ble_eq_true rfl, Nat.le_of_ble_eq_true rfl⟩) hK hP hD hS hA rfl rfl hl.1 (lv_room (Nat.le_of_ble_eq_true rfl)) dX12_lambda_182 hcs (fun  N_55 G_56 B_57 pl_58 hw H locs hP hD hS => ?_)
          dsimp only at hw
          obtain ⟨e2, e4, e1, X, e3⟩ := hw
          have hrun : RUN N G B sz N_55 G_51 B_57 az w 1 := by rw [e1, e3]; exact hrun.say 1 X (by omega)
          have k27 : N_55 27 = N 27 := by rw [e1]; exact k27
          have k34 : N_55 34 = N 34 := by rw [e1]; exact k34
          have k36 : N_55 36 = N 36 := by rw [e1]; exact k36
          have k23 : N_55 23 = N 23 + 1 := by rw [e1]; exact k23
          rw [e2, e4] at hP hD
          have hnum := hrun.num hbu (by omega) (by omega)
          have hG2 := hrun.1.1.1
          have htr := hrun.1.1.2.2.1
          have hal2 := hrun.1.1.2.1
          have n14 := hrun.2.2.2.2.2.2.2.1
          have n23 := hrun.2.2.2.2.2.2.2.2
          have n33 := hrun.2.2.2.2.2.1
          refine lv_aload_n hx hb dX12_lambda_185 rfl (lv_at hl 1 rfl) ?_
          refine lv_iconst (v := nI 0) hx hb dX12_lambda_186 (by decide) ?_
          have e5 : G_51 5 1 ≤ 4200 := by rw [hrun.2.2.1.2.1 5 (by omega)]; exact hls
          refine mcl_v (As := [.int (nI 0)]) (rest := []) ⟨hx, hb, hml, hown, hts⟩ (m_saySymbol l dC dI cB cC cI cJ cZ z0 R pl N_55 G_51 B_57 0 hG2 (by decide) (e5) (by omega) H.size) (cwV 1 hts kX12_lambda_X12_saySymbol_245 rfl rfl rfl (by decide +kernel) ⟨Nat.le_of_ble_eq_true rfl, Nat.le_of_ble_eq_true rfl⟩) hK hP hD hS hA rfl rfl hl.1 (lv_room (Nat.le_of_ble_eq_true rfl)) dX12_lambda_187 hcs (fun  N_60 G_61 B_62 pl_63 hw H locs hP hD hS => ?_)
          dsimp only at hw
          obtain ⟨e2, e4, n9, X, hn9, e1, e3⟩ := hw
          have hrun : RUN N G B sz N_60 G_51 B_62 az w 4201 := by rw [e1, e3]; exact hrun.say n9 X (by omega)
          have k27 : N_60 27 = N 27 := by rw [e1]; exact k27
          have k34 : N_60 34 = N 34 := by rw [e1]; exact k34
          have k36 : N_60 36 = N 36 := by rw [e1]; exact k36
          have k23 : N_60 23 = N 23 + 1 := by rw [e1]; exact k23
          rw [e2, e4] at hP hD
          have hnum := hrun.num hbu (by omega) (by omega)
          have hG2 := hrun.1.1.1
          have htr := hrun.1.1.2.2.1
          have hal2 := hrun.1.1.2.1
          have n14 := hrun.2.2.2.2.2.2.2.1
          have n23 := hrun.2.2.2.2.2.2.2.2
          have n33 := hrun.2.2.2.2.2.1
          refine lv_aload_n hx hb dX12_lambda_190 rfl (lv_at hl 1 rfl) ?_
          refine lv_bipush (v := nI 32) hx hb dX12_lambda_191 (by decide) ?_
          refine mcl_v (As := [.int (nI 32)]) (rest := []) ⟨hx, hb, hml, hown, hts⟩ (m_say l dC dI cB cC cI cJ cZ z0 R pl N_60 G_51 B_62 ((nI 32)) (by omega) H.size) (cwV 1 hts kX12_lambda_X12_say_226 rfl rfl rfl (by decide +kernel) ⟨Nat.le_of_ble_eq_true rfl, Nat.le_of_ble_eq_true rfl⟩) hK hP hD hS hA rfl rfl hl.1 (lv_room (Nat.le_of_ble_eq_true rfl)) dX12_lambda_193 hcs (fun  N_65 G_66 B_67 pl_68 hw H locs hP hD hS => ?_)
          dsimp only at hw
          obtain ⟨e2, e4, e1, X, e3⟩ := hw
          have hrun : RUN N G B sz N_65 G_51 B_67 az w 4202 := by rw [e1, e3]; exact hrun.say 1 X (by omega)
          have k27 : N_65 27 = N 27 := by rw [e1]; exact k27
          have k34 : N_65 34 = N 34 := by rw [e1]; exact k34
          have k36 : N_65 36 = N 36 := by rw [e1]; exact k36
          have k23 : N_65 23 = N 23 + 1 := by rw [e1]; exact k23
          rw [e2, e4] at hP hD
          have hnum := hrun.num hbu (by omega) (by omega)
          have hG2 := hrun.1.1.1
          have htr := hrun.1.1.2.2.1
          have hal2 := hrun.1.1.2.1
          have n14 := hrun.2.2.2.2.2.2.2.1
          have n23 := hrun.2.2.2.2.2.2.2.2
          have n33 := hrun.2.2.2.2.2.1
          refine lv_aload_n hx hb dX12_lambda_196 rfl (lv_at hl 1 rfl) ?_
          refine lv_bipush (v := nI 40) hx hb dX12_lambda_197 (by decide) ?_
          refine mcl_v (As := [.int (nI 40)]) (rest := []) ⟨hx, hb, hml, hown, hts⟩ (m_say l dC dI cB cC cI cJ cZ z0 R pl N_65 G_51 B_67 ((nI 40)) (by omega) H.size) (cwV 1 hts kX12_lambda_X12_say_226 rfl rfl rfl (by decide +kernel) ⟨Nat.le_of_ble_eq_true rfl, Nat.le_of_ble_eq_true rfl⟩) hK hP hD hS hA rfl rfl hl.1 (lv_room (Nat.le_of_ble_eq_true rfl)) dX12_lambda_199 hcs (fun  N_70 G_71 B_72 pl_73 hw H locs hP hD hS => ?_)
          dsimp only at hw
          obtain ⟨e2, e4, e1, X, e3⟩ := hw
          have hrun : RUN N G B sz N_70 G_51 B_72 az w 4203 := by rw [e1, e3]; exact hrun.say 1 X (by omega)
          have k27 : N_70 27 = N 27 := by rw [e1]; exact k27
          have k34 : N_70 34 = N 34 := by rw [e1]; exact k34
          have k36 : N_70 36 = N 36 := by rw [e1]; exact k36
          have k23 : N_70 23 = N 23 + 1 := by rw [e1]; exact k23
          rw [e2, e4] at hP hD
          have hnum := hrun.num hbu (by omega) (by omega)
          have hG2 := hrun.1.1.1
          have htr := hrun.1.1.2.2.1
          have hal2 := hrun.1.1.2.1
          have n14 := hrun.2.2.2.2.2.2.2.1
          have n23 := hrun.2.2.2.2.2.2.2.2
          have n33 := hrun.2.2.2.2.2.1
          refine lv_iconst (v := nI 0) hx hb dX12_lambda_202 (by decide) ?_
          refine lv_istore (lv' := [(7, .int (nI 0)), (6, .int (nI (N 23))), (0, .ref z0), (1, .int (nI f)), (2, .int (nI en)), (3, .int (nI dp)), (4, .int (nI 1)), (5, .int (nI (CH G f 1)))]) hx hb dX12_lambda_203 hl (by decide) rfl (fun ls hl => ?_)
          refine lp_lam3 hx hb hml hown hts hK hA hxi htk h33 hf hen hdp hbu hb23 hb27 hb34 (CH G f 1) (N 23) hnm (fun t M K C H locs ht hrun hiv hP hD hS ls hl => ?_) _ 0 4203 N_70 G_51 B_72 (Nat.lt_succ_self _) (by decide) (by decide) hrun (by omega) (by omega) (by rw [k27, k36]; omega) (by rw [k34, k36]; omega) _ _ hP hD hS ls (lv_sub hl [2, 3, 5, 7, 1, 0] rfl)
          have k23 : M 23 = M 23 := rfl
          have hnum := hrun.num hbu (by omega) (by omega)
          have hG2 := hrun.1.1.1
          have htr := hrun.1.1.2.2.1
          have hal2 := hrun.1.1.2.1
          have n14 := hrun.2.2.2.2.2.2.2.1
          have n23 := hrun.2.2.2.2.2.2.2.2
          have n33 := hrun.2.2.2.2.2.1
          have hs2 := ht9.lt hf (show 2 < G 12 f by omega)
          have hp2 := (ht9.pt hf (show 2 < G 12 f by omega)).2.1
          refine lv_aload_n hx hb dX12_lambda_280 rfl (lv_at hl 0 rfl) ?_
          refine lv_bipush (v := nI 41) hx hb dX12_lambda_281 (by decide) ?_
          refine mcl_v (As := [.int (nI 41)]) (rest := []) ⟨hx, hb, hml, hown, hts⟩ (m_say l dC dI cB cC cI cJ cZ z0 R pl M K C ((nI 41)) (by omega) H.size) (cwV 1 hts kX12_lambda_X12_say_226 rfl rfl rfl (by decide +kernel) ⟨Nat.le_of_ble_eq_true rfl, Nat.le_of_ble_eq_true rfl⟩) hK hP hD hS hA rfl rfl hl.1 (lv_room (Nat.le_of_ble_eq_true rfl)) dX12_lambda_283 hcs (fun  N_75 G_76 B_77 pl_78 hw H locs hP hD hS => ?_)
          dsimp only at hw
          obtain ⟨e2, e4, e1, X, e3⟩ := hw
          have hrun : RUN N G B sz N_75 K B_77 az w (t + 1) := by rw [e1, e3]; exact hrun.say 1 X (by omega)
          have k23 : N_75 23 = M 23 := by rw [e1]; exact k23
          rw [e2, e4] at hP hD
          have hnum := hrun.num hbu (by omega) (by omega)
          have hG2 := hrun.1.1.1
          have htr := hrun.1.1.2.2.1
          have hal2 := hrun.1.1.2.1
          have n14 := hrun.2.2.2.2.2.2.2.1
          have n23 := hrun.2.2.2.2.2.2.2.2
          have n33 := hrun.2.2.2.2.2.1
          refine lv_aload_n hx hb dX12_lambda_286 rfl (lv_at hl 0 rfl) ?_
          refine lv_bipush (v := nI 32) hx hb dX12_lambda_287 (by decide) ?_
          refine mcl_v (As := [.int (nI 32)]) (rest := []) ⟨hx, hb, hml, hown, hts⟩ (m_say l dC dI cB cC cI cJ cZ z0 R pl N_75 K B_77 ((nI 32)) (by omega) H.size) (cwV 1 hts kX12_lambda_X12_say_226 rfl rfl rfl (by decide +kernel) ⟨Nat.le_of_ble_eq_true rfl, Nat.le_of_ble_eq_true rfl⟩) hK hP hD hS hA rfl rfl hl.1 (lv_room (Nat.le_of_ble_eq_true rfl)) dX12_lambda_289 hcs (fun  N_80 G_81 B_82 pl_83 hw H locs hP hD hS => ?_)
          dsimp only at hw
          obtain ⟨e2, e4, e1, X, e3⟩ := hw
          have hrun : RUN N G B sz N_80 K B_82 az w (t + 2) := by rw [e1, e3]; exact hrun.say 1 X (by omega)
          have k23 : N_80 23 = M 23 := by rw [e1]; exact k23
          rw [e2, e4] at hP hD
          have hnum := hrun.num hbu (by omega) (by omega)
          have hG2 := hrun.1.1.1
          have htr := hrun.1.1.2.2.1
          have hal2 := hrun.1.1.2.1
          have n14 := hrun.2.2.2.2.2.2.2.1
          have n23 := hrun.2.2.2.2.2.2.2.2
          have n33 := hrun.2.2.2.2.2.1
          refine lv_aload_n hx hb dX12_lambda_292 rfl (lv_at hl 0 rfl) ?_
          refine lv_iconst (v := nI 2) hx hb dX12_lambda_293 (by decide) ?_
          refine lv_bipush (v := nI 41) hx hb dX12_lambda_294 (by decide) ?_
          refine lv_iconst (v := nI 0) hx hb dX12_lambda_296 (by decide) ?_
          refine lv_iconst (v := nI 0) hx hb dX12_lambda_297 (by decide) ?_
          refine mcl_v (As := [.int (nI 2), .int (nI 41), .int (nI 0), .int (nI 0)]) (rest := []) ⟨hx, hb, hml, hown, hts⟩ (m_task l dC dI cB cC cI cJ cZ z0 R pl N_80 K B_82 2 41 0 0 (by decide) (by omega) H.size) (cwV 4 hts kX12_lambda_X12_task_232 rfl rfl rfl (by decide +kernel) ⟨Nat.le_of_ble_eq_true rfl, Nat.le_of_ble_eq_true rfl⟩) hK hP hD hS hA rfl rfl hl.1 (lv_room (Nat.le_of_ble_eq_true rfl)) dX12_lambda_298 hcs (fun  N_85 G_86 B_87 pl_88 hw H locs hP hD hS => ?_)
          dsimp only at hw
          obtain ⟨e3, e4, e1, e2⟩ := hw
          have hrun : RUN N G B sz N_85 G_86 B_82 az (w + 1) (t + 2) := by rw [e1, e2]; exact hrun.task (by decide) (fun z => absurd rfl z) (fun z => absurd z (by decide)) (by omega) (by omega) (by omega) (by rw [if_pos rfl]; omega)
          have k23 : N_85 23 = M 23 := by rw [e1]; exact k23
          rw [e3, e4] at hP hD
          have hnum := hrun.num hbu (by omega) (by omega)
          have hG2 := hrun.1.1.1
          have htr := hrun.1.1.2.2.1
          have hal2 := hrun.1.1.2.1
          have n14 := hrun.2.2.2.2.2.2.2.1
          have n23 := hrun.2.2.2.2.2.2.2.2
          have n33 := hrun.2.2.2.2.2.1
          refine lv_aload_n hx hb dX12_lambda_301 rfl (lv_at hl 0 rfl) ?_
          refine lv_iconst (v := nI 0) hx hb dX12_lambda_302 (by decide) ?_
          refine lv_aload_n hx hb dX12_lambda_303 rfl (lv_at hl 0 rfl) ?_
          refine lv_iload_n hx hb dX12_lambda_304 rfl (lv_at hl 1 rfl) ?_
          refine lv_iconst (v := nI 2) hx hb dX12_lambda_305 (by decide) ?_
          obtain ⟨t_90, t_90b, t_90c, t_90d⟩ := ht9.pt (f := f) (k := 2) (hf) (by omega)
          have hco := hrun.2.2.2.2.2.2.1
          refine mcl_i (As := [.int (nI f), .int (nI 2)]) (rest := [.int (nI 0), .ref z0]) ⟨hx, hb, hml, hown, hts⟩ (m_part l dC dI cB cC cI cJ cZ z0 R pl N_85 G_86 B_82 f 2 hG2 t_90d (by rw [hco.2.1]; exact t_90) H.size) (cwV 2 hts kX12_lambda_X12_part_192 rfl rfl rfl (by decide +kernel) ⟨Nat.le_of_ble_eq_true rfl, Nat.le_of_ble_eq_true rfl⟩) hK hP hD hS hA rfl rfl hl.1 (lv_room (Nat.le_of_ble_eq_true rfl)) dX12_lambda_306 hcs (fun r_95 N_91 G_92 B_93 pl_94 hw H locs hP hD hS => ?_)
          dsimp only at hw
          obtain ⟨e1, e2, e3, e4, hw⟩ := hw
          rw [e1, e2, e3, e4] at hP hD
          subst hw
          refine tp_i (y := nI (CH G f 2)) (by show nI (G_86 13 (G_86 11 f + 2)) = _; rw [hco.2.1, hco.2.2.2.1]) ?_
          refine lv_iload hx hb dX12_lambda_309 (lv_at hl 4 rfl) ?_
          refine lv_iload_n hx hb dX12_lambda_311 rfl (lv_at hl 2 rfl) ?_
          refine lv_iconst (v := nI 1) hx hb dX12_lambda_312 (by decide) ?_
          refine lv_iadd hx hb dX12_lambda_313 ?_
          refine tp_i (nI_add dp 1) ?_
          have hiv2 := hiv
          refine mcl_v (As := [.int (nI 0), .int (nI (CH G f 2)), .int (nI (N 23)), .int (nI (dp + 1))]) (rest := []) ⟨hx, hb, hml, hown, hts⟩ (m_task l dC dI cB cC cI cJ cZ z0 R pl N_85 G_86 B_82 0 (CH G f 2) (N 23) (dp + 1) (by decide) (by omega) H.size) (cwV 4 hts kX12_lambda_X12_task_232 rfl rfl rfl (by decide +kernel) ⟨Nat.le_of_ble_eq_true rfl, Nat.le_of_ble_eq_true rfl⟩) hK hP hD hS hA rfl rfl hl.1 (lv_room (Nat.le_of_ble_eq_true rfl)) dX12_lambda_314 hcs (fun  N_96 G_97 B_98 pl_99 hw H locs hP hD hS => ?_)
          dsimp only at hw
          obtain ⟨e3, e4, e1, e2⟩ := hw
          have hrun : RUN N G B sz N_96 G_97 B_82 az (w + 1 + (3 * sz (CH G f 2) - 1)) (t + 2) := by rw [e1, e2]; exact hrun.task (by decide) (fun _ => by omega) (fun _ => ⟨by omega, by omega⟩) (by omega) (by omega) (by omega) (by rw [if_neg (by decide)]; omega)
          have k23 : N_96 23 = M 23 := by rw [e1]; exact k23
          rw [e3, e4] at hP hD
          have hnum := hrun.num hbu (by omega) (by omega)
          have hG2 := hrun.1.1.1
          have htr := hrun.1.1.2.2.1
          have hal2 := hrun.1.1.2.1
          have n14 := hrun.2.2.2.2.2.2.2.1
          have n23 := hrun.2.2.2.2.2.2.2.2
          have n33 := hrun.2.2.2.2.2.1
          exact W.vret hx hb hr (fun t ht hW => ⟨⟨(N_96, G_97, B_82, pl), rfl, ⟨rfl, hrun.post hbu (by omega) (by omega)⟩, by rw [ht]; exact hP, va_K.moved hW.alike hK, hD⟩, hS.F ht⟩) hS.2.2 dX12_lambda_317
  · rw [if_neg c_1] at hw
    subst hw
    refine bz_eq (tgt := 44) hx hb (by first | omega | exact Nat.lt_of_lt_of_le (hG _ _) (by decide)) dX12_lambda_6 (by decide) (fun c => ?_) (fun q9 => absurd q9 (by omega))
    refine lv_iconst (v := nI 0) hx hb dX12_lambda_44 (by decide) ?_
    refine lv_istore (lv' := [(4, .int (nI 0)), (0, .ref z0), (1, .int (nI f)), (2, .int (nI en)), (3, .int (nI dp))]) hx hb dX12_lambda_45 hl (by decide) rfl (fun ls hl => ?_)
    refine lv_iload hx hb dX12_lambda_47 (lv_at hl 0 rfl) ?_
    refine bz_eq (tgt := 61) hx hb (by first | omega | exact Nat.lt_of_lt_of_le (hG _ _) (by decide)) dX12_lambda_49 (by decide) (fun c => ?_) (fun q9 => absurd q9 (by omega))
    refine lv_iconst (v := nI 0) hx hb dX12_lambda_61 (by decide) ?_
    refine lv_istore (lv' := [(5, .int (nI 0)), (4, .int (nI 0)), (0, .ref z0), (1, .int (nI f)), (2, .int (nI en)), (3, .int (nI dp))]) hx hb dX12_lambda_62 hl (by decide) rfl (fun ls hl => ?_)
    refine lv_iconst (v := nI 0) hx hb dX12_lambda_64 (by decide) ?_
    refine lv_istore (lv' := [(6, .int (nI 0)), (5, .int (nI 0)), (4, .int (nI 0)), (0, .ref z0), (1, .int (nI f)), (2, .int (nI en)), (3, .int (nI dp))]) hx hb dX12_lambda_65 hl (by decide) rfl (fun ls hl => ?_)
    refine lv_iload hx hb dX12_lambda_67 (lv_at hl 2 rfl) ?_
    refine bz_eq (tgt := 161) hx hb (by first | omega | exact Nat.lt_of_lt_of_le (hG _ _) (by decide)) dX12_lambda_69 (by decide) (fun c => ?_) (fun q9 => absurd q9 (by omega))
    have hrun : RUN N G B sz N G B az w 0 := RUN.start hxi htk h33
    have hnum := hrun.num hbu (by omega) (by omega)
    have hG2 := hrun.1.1.1
    have htr := hrun.1.1.2.2.1
    have hal2 := hrun.1.1.2.1
    have n14 := hrun.2.2.2.2.2.2.2.1
    have n23 := hrun.2.2.2.2.2.2.2.2
    have n33 := hrun.2.2.2.2.2.1
    refine lv_aload_n hx hb dX12_lambda_161 rfl (lv_at hl 3 rfl) ?_
    refine lv_iload hx hb dX12_lambda_162 (lv_at hl 2 rfl) ?_
    refine lv_iconst (v := nI 3) hx hb dX12_lambda_164 (by decide) ?_
    refine mcl_i (As := [.int (nI 0), .int (nI 3)]) (rest := []) ⟨hx, hb, hml, hown, hts⟩ (m_need l dC dI cB cC cI cJ cZ z0 R pl N G B 0 3 (by decide) ⟨by decide, by decide⟩ n33 H.size) (cwV 2 hts kX12_lambda_X12_need_255 rfl rfl rfl (by decide +kernel) ⟨Nat.le_of_ble_eq_true rfl, Nat.le_of_ble_eq_true rfl⟩) hK hP hD hS hA rfl rfl hl.1 (lv_room (Nat.le_of_ble_eq_true rfl)) dX12_lambda_165 hcs (fun r_11 N_7 G_8 B_9 pl_10 hw H locs hP hD hS => ?_)
    dsimp only at hw
    obtain ⟨e3, e4, e2, hw, e5, e6⟩ := hw
    rw [e6 rfl, e2, e3, e4] at hP hD
    subst hw
    refine bz_ne (tgt := 172) hx hb (by first | omega | exact Nat.lt_of_lt_of_le (hG _ _) (by decide)) dX12_lambda_168 (by decide) (fun q9 => absurd q9 (by omega)) (fun c => ?_)
    exact W.vret hx hb hr (fun t ht hW => ⟨⟨(va_up N 33 3, G, B, pl), rfl, ⟨rfl, hrun.fail hbu (by omega) (Or.inl rfl) (by decide) (by decide)⟩, by rw [ht]; exact hP, va_K.moved hW.alike hK, hD⟩, hS.F ht⟩) hS.2.2 dX12_lambda_171
