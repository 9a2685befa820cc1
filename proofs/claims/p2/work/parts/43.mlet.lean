def oX12_letSyntax : List Cond := [Cond.fieldLink RX12 35 "MacroScopesModel" "values" "[I", Cond.methodLink RX12 192 yX12_part, Cond.instanceMethod yX12_part, Cond.selects RX12 yX12_part yX12_part, Cond.initialized RX12, Cond.fieldLink RX12 38 "MacroScopesModel" "counts" "[I", Cond.methodLink RX12 276 yX12_isList, Cond.instanceMethod yX12_isList, Cond.selects RX12 yX12_isList yX12_isList, Cond.methodLink RX12 291 yX12_isBindable, Cond.instanceMethod yX12_isBindable, Cond.selects RX12 yX12_isBindable yX12_isBindable, Cond.methodLink RX12 300 yX12_bind, Cond.instanceMethod yX12_bind, Cond.selects RX12 yX12_bind yX12_bind, Cond.methodLink RX12 303 yX12_areRules, Cond.instanceMethod yX12_areRules, Cond.selects RX12 yX12_areRules yX12_areRules, Cond.methodLink RX12 255 yX12_need, Cond.instanceMethod yX12_need, Cond.selects RX12 yX12_need yX12_need, Cond.fieldLink RX12 32 "MacroScopesModel" "kinds" "[B", Cond.methodLink RX12 294 yX12_newEnvironment, Cond.instanceMethod yX12_newEnvironment, Cond.selects RX12 yX12_newEnvironment yX12_newEnvironment, Cond.methodLink RX12 232 yX12_task, Cond.instanceMethod yX12_task, Cond.selects RX12 yX12_task yX12_task]
def vX12_letSyntax : List Cond := .code yX12_letSyntax cX12_letSyntax 8 none :: (oX12_letSyntax ++ (vX12_part ++ (vX12_isList ++ (vX12_isBindable ++ (vX12_bind ++ (vX12_areRules ++ (vX12_need ++ (vX12_newEnvironment ++ (vX12_task ++ (wsX120))))))))))
theorem lkX12_letSyntax_f35 : Cond.fieldLink RX12 35 "MacroScopesModel" "values" "[I" ∈ vX12_letSyntax := List.mem_cons_of_mem _ (List.mem_append_left _ (List.mem_of_getElem? (i := 0) rfl))
theorem lkX12_letSyntax_f38 : Cond.fieldLink RX12 38 "MacroScopesModel" "counts" "[I" ∈ vX12_letSyntax := List.mem_cons_of_mem _ (List.mem_append_left _ (List.mem_of_getElem? (i := 5) rfl))
theorem lkX12_letSyntax_f32 : Cond.fieldLink RX12 32 "MacroScopesModel" "kinds" "[B" ∈ vX12_letSyntax := List.mem_cons_of_mem _ (List.mem_append_left _ (List.mem_of_getElem? (i := 21) rfl))
theorem inX12_letSyntax : ∀ w ∈ wsX120, w ∈ vX12_letSyntax := fun w h => List.mem_cons_of_mem _ (List.mem_append_right _ (List.mem_append_right _ (List.mem_append_right _ (List.mem_append_right _ (List.mem_append_right _ (List.mem_append_right _ (List.mem_append_right _ (List.mem_append_right _ (List.mem_append_right _ (h))))))))))
theorem kX12_letSyntax_X12_part_192 : GoodIn vX12_letSyntax (wsV RX12 192 RX12 yX12_part vX12_part) := goodIn_sub (fun w h => (List.mem_append.mp h).elim (fun h => List.mem_cons_of_mem _ (List.mem_append_left _ ((by decide +kernel : ∀ w ∈ ([.methodLink RX12 192 yX12_part, .instanceMethod yX12_part, .selects RX12 yX12_part yX12_part, .initialized RX12] : List Cond), w ∈ oX12_letSyntax) w h))) (fun h => List.mem_cons_of_mem _ (List.mem_append_right _ (List.mem_append_left _ (h))))) (by decide +kernel)
theorem kX12_letSyntax_X12_isList_276 : GoodIn vX12_letSyntax (wsV RX12 276 RX12 yX12_isList vX12_isList) := goodIn_sub (fun w h => (List.mem_append.mp h).elim (fun h => List.mem_cons_of_mem _ (List.mem_append_left _ ((by decide +kernel : ∀ w ∈ ([.methodLink RX12 276 yX12_isList, .instanceMethod yX12_isList, .selects RX12 yX12_isList yX12_isList, .initialized RX12] : List Cond), w ∈ oX12_letSyntax) w h))) (fun h => List.mem_cons_of_mem _ (List.mem_append_right _ (List.mem_append_right _ (List.mem_append_left _ (h)))))) (by decide +kernel)
theorem kX12_letSyntax_X12_isBindable_291 : GoodIn vX12_letSyntax (wsV RX12 291 RX12 yX12_isBindable vX12_isBindable) := goodIn_sub (fun w h => (List.mem_append.mp h).elim (fun h => List.mem_cons_of_mem _ (List.mem_append_left _ ((by decide +kernel : ∀ w ∈ ([.methodLink RX12 291 yX12_isBindable, .instanceMethod yX12_isBindable, .selects RX12 yX12_isBindable yX12_isBindable, .initialized RX12] : List Cond), w ∈ oX12_letSyntax) w h))) (fun h => List.mem_cons_of_mem _ (List.mem_append_right _ (List.mem_append_right _ (List.mem_append_right _ (List.mem_append_left _ (h))))))) (by decide +kernel)
theorem kX12_letSyntax_X12_bind_300 : GoodIn vX12_letSyntax (wsV RX12 300 RX12 yX12_bind vX12_bind) := goodIn_sub (fun w h => (List.mem_append.mp h).elim (fun h => List.mem_cons_of_mem _ (List.mem_append_left _ ((by decide +kernel : ∀ w ∈ ([.methodLink RX12 300 yX12_bind, .instanceMethod yX12_bind, .selects RX12 yX12_bind yX12_bind, .initialized RX12] : List Cond), w ∈ oX12_letSyntax) w h))) (fun h => List.mem_cons_of_mem _ (List.mem_append_right _ (List.mem_append_right _ (List.mem_append_right _ (List.mem_append_right _ (List.mem_append_left _ (h)))))))) (by decide +kernel)
theorem kX12_letSyntax_X12_areRules_303 : GoodIn vX12_letSyntax (wsV RX12 303 RX12 yX12_areRules vX12_areRules) := goodIn_sub (fun w h => (List.mem_append.mp h).elim (fun h => List.mem_cons_of_mem _ (List.mem_append_left _ ((by decide +kernel : ∀ w ∈ ([.methodLink RX12 303 yX12_areRules, .instanceMethod yX12_areRules, .selects RX12 yX12_areRules yX12_areRules, .initialized RX12] : List Cond), w ∈ oX12_letSyntax) w h))) (fun h => List.mem_cons_of_mem _ (List.mem_append_right _ (List.mem_append_right _ (List.mem_append_right _ (List.mem_append_right _ (List.mem_append_right _ (List.mem_append_left _ (h))))))))) (by decide +kernel)
theorem kX12_letSyntax_X12_need_255 : GoodIn vX12_letSyntax (wsV RX12 255 RX12 yX12_need vX12_need) := goodIn_sub (fun w h => (List.mem_append.mp h).elim (fun h => List.mem_cons_of_mem _ (List.mem_append_left _ ((by decide +kernel : ∀ w ∈ ([.methodLink RX12 255 yX12_need, .instanceMethod yX12_need, .selects RX12 yX12_need yX12_need, .initialized RX12] : List Cond), w ∈ oX12_letSyntax) w h))) (fun h => List.mem_cons_of_mem _ (List.mem_append_right _ (List.mem_append_right _ (List.mem_append_right _ (List.mem_append_right _ (List.mem_append_right _ (List.mem_append_right _ (List.mem_append_left _ (h)))))))))) (by decide +kernel)
theorem kX12_letSyntax_X12_newEnvironment_294 : GoodIn vX12_letSyntax (wsV RX12 294 RX12 yX12_newEnvironment vX12_newEnvironment) := goodIn_sub (fun w h => (List.mem_append.mp h).elim (fun h => List.mem_cons_of_mem _ (List.mem_append_left _ ((by decide +kernel : ∀ w ∈ ([.methodLink RX12 294 yX12_newEnvironment, .instanceMethod yX12_newEnvironment, .selects RX12 yX12_newEnvironment yX12_newEnvironment, .initialized RX12] : List Cond), w ∈ oX12_letSyntax) w h))) (fun h => List.mem_cons_of_mem _ (List.mem_append_right _ (List.mem_append_right _ (List.mem_append_right _ (List.mem_append_right _ (List.mem_append_right _ (List.mem_append_right _ (List.mem_append_right _ (List.mem_append_left _ (h))))))))))) (by decide +kernel)
theorem kX12_letSyntax_X12_task_232 : GoodIn vX12_letSyntax (wsV RX12 232 RX12 yX12_task vX12_task) := goodIn_sub (fun w h => (List.mem_append.mp h).elim (fun h => List.mem_cons_of_mem _ (List.mem_append_left _ ((by decide +kernel : ∀ w ∈ ([.methodLink RX12 232 yX12_task, .instanceMethod yX12_task, .selects RX12 yX12_task yX12_task, .initialized RX12] : List Cond), w ∈ oX12_letSyntax) w h))) (fun h => List.mem_cons_of_mem _ (List.mem_append_right _ (List.mem_append_right _ (List.mem_append_right _ (List.mem_append_right _ (List.mem_append_right _ (List.mem_append_right _ (List.mem_append_right _ (List.mem_append_right _ (List.mem_append_left _ (h)))))))))))) (by decide +kernel)
set_option maxHeartbeats 4000000 in
set_option maxRecDepth 100000 in
theorem lp_let1 {p : Program} {l : Launch} {e : Env} {s : State} {m : MethodId} {args : Array Value} {below : List Frame} {meth : Method} {c : Code} {Q : State → Prop} {A : Nat → Prop} {dC : Nat → ClassId} {dI : Nat → Nat → Nat} {cB cC cI cJ cZ : ClassId} {z0 : Nat} {R : Nat → Nat} (hx : p.tables.exec = Jvm.exec) (hb : c.code = cX12_letSyntax) (hml : c.maxLocals = 8) (hown : s.vm.findClass RX12 = some m.cls) (hts : ∀ w ∈ vX12_letSyntax, w.before args s = true) (hK : va_K (dC, dI) vwCl (TY cB cC cI cJ cZ) s) (hA : ∀ q : Nat, s.heap.size ≤ q → A q) {pl : Int32} {N : Nat → Nat} {G : Nat → Nat → Nat} {B : Nat → Nat → Int32} {sz : Nat → Nat} (hG : ∀ k i, G k i < 1048576) (ht9 : TREE N G sz) (hal : AL N G) (f en dp ps : Nat) (kx : Nat) (hps : (ps < N 14 ∧ G 10 ps = 2 ∧ G 12 ps ≤ 6 ∧ ∀ i, i < kx → G 12 (CH G ps i) = 2)) (hkx : kx < G 12 ps) (ke : ∀ (fi : Nat) (H : Heap) (locs : List Loc), fi ≤ 1 → (fi = 1 → G 12 (CH G ps kx) = 2) → va_P (dC, dI) vwCl (MW cB cC cI cJ cZ z0 R pl N G B) H → va_D A (MW cB cC cI cJ cZ z0 R pl N G B) → va_S A s.heap H locs → ∀ (ls : Array Slot), lv_has ls 8 [(0, .ref z0), (1, .int (nI f)), (2, .int (nI en)), (3, .int (nI dp)), (4, .int (nI fi)), (5, .int (nI ps)), (6, .int (nI kx))] → W p l e (headSpec vX12_letSyntax { frames := 5, cells := 0, slots := 0, locals := 122 }).room s m args below meth c H locs 0 0 Q (F0 m 209 ls [])) : ∀ (k : Nat) (ei fi : Nat), kx - ei < k → ei ≤ kx → fi ≤ 1 → (fi = 1 → G 12 (CH G ps kx) = 2) → ∀ (H : Heap) (locs : List Loc), va_P (dC, dI) vwCl (MW cB cC cI cJ cZ z0 R pl N G B) H → va_D A (MW cB cC cI cJ cZ z0 R pl N G B) → va_S A s.heap H locs → ∀ (ls : Array Slot), lv_has ls 8 [(0, .ref z0), (1, .int (nI f)), (2, .int (nI en)), (3, .int (nI dp)), (4, .int (nI fi)), (5, .int (nI ps)), (6, .int (nI kx)), (7, .int (nI ei))] → W p l e (headSpec vX12_letSyntax { frames := 5, cells := 0, slots := 0, locals := 122 }).room s m args below meth c H locs 0 0 Q (F0 m 145 ls []) := by
  have hcs : 0 + 0 ≤ (0 : Nat) ∧ 0 + 0 ≤ (0 : Nat) := ⟨Nat.le_refl 0, Nat.le_refl 0⟩
  intro k
  induction k with
  | zero =>
    intro ei fi hk he hfi hfk
    omega
  | succ k ih =>
    intro ei fi hk he hfi hfk H locs hP hD hS ls hl
    have u6 := ht9.1
    obtain ⟨hp1, hp2, hp3, hp4⟩ := hps
    have hG2 := hG
    refine lv_iload hx hb dX12_letSyntax_145 (lv_at hl 7 rfl) ?_
    refine lv_iload hx hb dX12_letSyntax_147 (lv_at hl 6 rfl) ?_
    refine bn_ge (tgt := 209) hx hb (by first | omega | exact Nat.lt_of_lt_of_le (hG _ _) (by decide)) (by first | omega | exact Nat.lt_of_lt_of_le (hG _ _) (by decide)) dX12_letSyntax_149 (by decide) (fun c1 => ?_) (fun c1 => ?_)
    · exact ke fi H locs hfi hfk hP hD hS ls (lv_sub hl [0, 1, 2, 3, 4, 5, 6] rfl)
    · refine lv_iload hx hb dX12_letSyntax_152 (lv_at hl 4 rfl) ?_
      refine bz_eq (tgt := 209) hx hb (by first | omega | exact Nat.lt_of_lt_of_le (hG _ _) (by decide)) dX12_letSyntax_154 (by decide) (fun c2 => ?_) (fun c2 => ?_)
      · exact ke fi H locs hfi hfk hP hD hS ls (lv_sub hl [0, 1, 2, 3, 4, 5, 6] rfl)
      · have hk2 := hfk (by omega)
        have hk3 := hp4 ei (by omega)
        have q1 := (ht9.pt hp1 (show ei < G 12 ps by omega)).2.1
        have q2 := (ht9.pt hp1 hkx).2.1
        have q3 := (ht9.pt q1 (show 0 < G 12 (CH G ps ei) by omega)).2.1
        have q4 := (ht9.pt q2 (show 0 < G 12 (CH G ps kx) by omega)).2.1
        have g1 := hG 11 (CH G (CH G ps ei) 0)
        have g2 := hG 11 (CH G (CH G ps kx) 0)
        refine lv_aload_n hx hb dX12_letSyntax_157 rfl (lv_at hl 0 rfl) ?_
        refine mg_11 hx hb hts inX12_letSyntax hown hK hP (hts _ lkX12_letSyntax_f35) dX12_letSyntax_158 ?_
        refine lv_aload_n hx hb dX12_letSyntax_161 rfl (lv_at hl 0 rfl) ?_
        refine lv_aload_n hx hb dX12_letSyntax_162 rfl (lv_at hl 0 rfl) ?_
        refine lv_iload hx hb dX12_letSyntax_163 (lv_at hl 5 rfl) ?_
        refine lv_iload hx hb dX12_letSyntax_165 (lv_at hl 7 rfl) ?_
        obtain ⟨t_1, t_1b, t_1c, t_1d⟩ := ht9.pt (f := ps) (k := ei) (hp1) (by omega)
        refine mcl_i (As := [.int (nI ps), .int (nI ei)]) (rest := [.ref z0, .ref (R 11)]) ⟨hx, hb, hml, hown, hts⟩ (m_part l dC dI cB cC cI cJ cZ z0 R pl N G B ps ei hG2 t_1d t_1 H.size) (cwV 2 hts kX12_letSyntax_X12_part_192 rfl rfl rfl (by decide +kernel) ⟨Nat.le_of_ble_eq_true rfl, Nat.le_of_ble_eq_true rfl⟩) hK hP hD hS hA rfl rfl hl.1 (lv_room (Nat.le_of_ble_eq_true rfl)) dX12_letSyntax_167 hcs (fun r_6 N_2 G_3 B_4 pl_5 hw H locs hP hD hS => ?_)
        dsimp only at hw
        obtain ⟨e1, e2, e3, e4, hw⟩ := hw
        rw [e1, e2, e3, e4] at hP hD
        have hw : r_6 = nI (CH G ps ei) := hw
        subst hw
        refine lv_iconst (v := nI 0) hx hb dX12_letSyntax_170 (by decide) ?_
        obtain ⟨t_7, t_7b, t_7c, t_7d⟩ := ht9.pt (f := CH G ps ei) (k := 0) (q1) (by omega)
        refine mcl_i (As := [.int (nI (CH G ps ei)), .int (nI 0)]) (rest := [.ref (R 11)]) ⟨hx, hb, hml, hown, hts⟩ (m_part l dC dI cB cC cI cJ cZ z0 R pl N G B (CH G ps ei) 0 hG2 t_7d t_7 H.size) (cwV 2 hts kX12_letSyntax_X12_part_192 rfl rfl rfl (by decide +kernel) ⟨Nat.le_of_ble_eq_true rfl, Nat.le_of_ble_eq_true rfl⟩) hK hP hD hS hA rfl rfl hl.1 (lv_room (Nat.le_of_ble_eq_true rfl)) dX12_letSyntax_171 hcs (fun r_12 N_8 G_9 B_10 pl_11 hw H locs hP hD hS => ?_)
        dsimp only at hw
        obtain ⟨e1, e2, e3, e4, hw⟩ := hw
        rw [e1, e2, e3, e4] at hP hD
        have hw : r_12 = nI (CH G (CH G ps ei) 0) := hw
        subst hw
        refine ml_11 hx hb hK hP (by omega) dX12_letSyntax_174 ?_
        refine lv_aload_n hx hb dX12_letSyntax_175 rfl (lv_at hl 0 rfl) ?_
        refine mg_11 hx hb hts inX12_letSyntax hown hK hP (hts _ lkX12_letSyntax_f35) dX12_letSyntax_176 ?_
        refine lv_aload_n hx hb dX12_letSyntax_179 rfl (lv_at hl 0 rfl) ?_
        refine lv_aload_n hx hb dX12_letSyntax_180 rfl (lv_at hl 0 rfl) ?_
        refine lv_iload hx hb dX12_letSyntax_181 (lv_at hl 5 rfl) ?_
        refine lv_iload hx hb dX12_letSyntax_183 (lv_at hl 6 rfl) ?_
        obtain ⟨t_13, t_13b, t_13c, t_13d⟩ := ht9.pt (f := ps) (k := kx) (hp1) (by omega)
        refine mcl_i (As := [.int (nI ps), .int (nI kx)]) (rest := [.ref z0, .ref (R 11), .int (nI (G 11 (CH G (CH G ps ei) 0)))]) ⟨hx, hb, hml, hown, hts⟩ (m_part l dC dI cB cC cI cJ cZ z0 R pl N G B ps kx hG2 t_13d t_13 H.size) (cwV 2 hts kX12_letSyntax_X12_part_192 rfl rfl rfl (by decide +kernel) ⟨Nat.le_of_ble_eq_true rfl, Nat.le_of_ble_eq_true rfl⟩) hK hP hD hS hA rfl rfl hl.1 (lv_room (Nat.le_of_ble_eq_true rfl)) dX12_letSyntax_185 hcs (fun r_18 N_14 G_15 B_16 pl_17 hw H locs hP hD hS => ?_)
        dsimp only at hw
        obtain ⟨e1, e2, e3, e4, hw⟩ := hw
        rw [e1, e2, e3, e4] at hP hD
        have hw : r_18 = nI (CH G ps kx) := hw
        subst hw
        refine lv_iconst (v := nI 0) hx hb dX12_letSyntax_188 (by decide) ?_
        obtain ⟨t_19, t_19b, t_19c, t_19d⟩ := ht9.pt (f := CH G ps kx) (k := 0) (q2) (by omega)
        refine mcl_i (As := [.int (nI (CH G ps kx)), .int (nI 0)]) (rest := [.ref (R 11), .int (nI (G 11 (CH G (CH G ps ei) 0)))]) ⟨hx, hb, hml, hown, hts⟩ (m_part l dC dI cB cC cI cJ cZ z0 R pl N G B (CH G ps kx) 0 hG2 t_19d t_19 H.size) (cwV 2 hts kX12_letSyntax_X12_part_192 rfl rfl rfl (by decide +kernel) ⟨Nat.le_of_ble_eq_true rfl, Nat.le_of_ble_eq_true rfl⟩) hK hP hD hS hA rfl rfl hl.1 (lv_room (Nat.le_of_ble_eq_true rfl)) dX12_letSyntax_189 hcs (fun r_24 N_20 G_21 B_22 pl_23 hw H locs hP hD hS => ?_)
        dsimp only at hw
        obtain ⟨e1, e2, e3, e4, hw⟩ := hw
        rw [e1, e2, e3, e4] at hP hD
        have hw : r_24 = nI (CH G (CH G ps kx) 0) := hw
        subst hw
        refine ml_11 hx hb hK hP (by omega) dX12_letSyntax_192 ?_
        refine bn_eq (tgt := 200) hx hb (by first | omega | exact Nat.lt_of_lt_of_le (hG _ _) (by decide)) (by first | omega | exact Nat.lt_of_lt_of_le (hG _ _) (by decide)) dX12_letSyntax_193 (by decide) (fun c3 => ?_) (fun c3 => ?_)
        · refine lv_iconst (v := nI 0) hx hb dX12_letSyntax_200 (by decide) ?_
          refine lv_istore (lv' := [(4, .int (nI 0)), (0, .ref z0), (1, .int (nI f)), (2, .int (nI en)), (3, .int (nI dp)), (5, .int (nI ps)), (6, .int (nI kx)), (7, .int (nI ei))]) hx hb dX12_letSyntax_201 hl (by decide) rfl (fun ls hl => ?_)
          refine lv_iinc (v := nI (ei + 1)) (lv' := [(7, .int (nI (ei + 1))), (4, .int (nI 0)), (0, .ref z0), (1, .int (nI f)), (2, .int (nI en)), (3, .int (nI dp)), (5, .int (nI ps)), (6, .int (nI kx))]) hx hb dX12_letSyntax_203 hl (k := 7) rfl (nI_add ei 1) (by decide) rfl (fun ls hl => ?_)
          refine lv_goto (tgt := 145) hx hb dX12_letSyntax_206 (by decide) ?_
          exact ih (ei + 1) 0 (by omega) (by omega) (by decide) (fun _ => hk2) _ _ hP hD hS ls (lv_sub hl [2, 3, 4, 5, 1, 6, 7, 0] rfl)
        · refine lv_iconst (v := nI 1) hx hb dX12_letSyntax_196 (by decide) ?_
          refine lv_goto (tgt := 201) hx hb dX12_letSyntax_197 (by decide) ?_
          refine lv_istore (lv' := [(4, .int (nI 1)), (0, .ref z0), (1, .int (nI f)), (2, .int (nI en)), (3, .int (nI dp)), (5, .int (nI ps)), (6, .int (nI kx)), (7, .int (nI ei))]) hx hb dX12_letSyntax_201 hl (by decide) rfl (fun ls hl => ?_)
          refine lv_iinc (v := nI (ei + 1)) (lv' := [(7, .int (nI (ei + 1))), (4, .int (nI 1)), (0, .ref z0), (1, .int (nI f)), (2, .int (nI en)), (3, .int (nI dp)), (5, .int (nI ps)), (6, .int (nI kx))]) hx hb dX12_letSyntax_203 hl (k := 7) rfl (nI_add ei 1) (by decide) rfl (fun ls hl => ?_)
          refine lv_goto (tgt := 145) hx hb dX12_letSyntax_206 (by decide) ?_
          exact ih (ei + 1) 1 (by omega) (by omega) (by decide) (fun _ => hk2) _ _ hP hD hS ls (lv_sub hl [2, 3, 4, 5, 1, 6, 7, 0] rfl)

set_option maxHeartbeats 4000000 in
set_option maxRecDepth 100000 in
theorem lp_let2 {p : Program} {l : Launch} {e : Env} {s : State} {m : MethodId} {args : Array Value} {below : List Frame} {meth : Method} {c : Code} {Q : State → Prop} {A : Nat → Prop} {dC : Nat → ClassId} {dI : Nat → Nat → Nat} {cB cC cI cJ cZ : ClassId} {z0 : Nat} {R : Nat → Nat} (hx : p.tables.exec = Jvm.exec) (hb : c.code = cX12_letSyntax) (hml : c.maxLocals = 8) (hown : s.vm.findClass RX12 = some m.cls) (hts : ∀ w ∈ vX12_letSyntax, w.before args s = true) (hK : va_K (dC, dI) vwCl (TY cB cC cI cJ cZ) s) (hA : ∀ q : Nat, s.heap.size ≤ q → A q) {pl : Int32} {N : Nat → Nat} {G : Nat → Nat → Nat} {B : Nat → Nat → Int32} {sz : Nat → Nat} (hG : ∀ k i, G k i < 1048576) (ht9 : TREE N G sz) (hal : AL N G) (f en dp ps : Nat) (ke : ∀ (fi : Nat) (H : Heap) (locs : List Loc), fi ≤ 1 → (fi = 1 → (ps < N 14 ∧ G 10 ps = 2 ∧ G 12 ps ≤ 6 ∧ ∀ i, i < G 12 ps → G 12 (CH G ps i) = 2)) → va_P (dC, dI) vwCl (MW cB cC cI cJ cZ z0 R pl N G B) H → va_D A (MW cB cC cI cJ cZ z0 R pl N G B) → va_S A s.heap H locs → ∀ (ls : Array Slot), lv_has ls 8 [(0, .ref z0), (1, .int (nI f)), (2, .int (nI en)), (3, .int (nI dp)), (4, .int (nI fi)), (5, .int (nI ps))] → W p l e (headSpec vX12_letSyntax { frames := 5, cells := 0, slots := 0, locals := 122 }).room s m args below meth c H locs 0 0 Q (F0 m 215 ls [])) : ∀ (k : Nat) (kx fi : Nat), 7 - kx < k → kx ≤ 6 → fi ≤ 1 → (fi = 1 → (ps < N 14 ∧ G 10 ps = 2 ∧ G 12 ps ≤ 6 ∧ ∀ i, i < kx → G 12 (CH G ps i) = 2)) → ∀ (H : Heap) (locs : List Loc), va_P (dC, dI) vwCl (MW cB cC cI cJ cZ z0 R pl N G B) H → va_D A (MW cB cC cI cJ cZ z0 R pl N G B) → va_S A s.heap H locs → ∀ (ls : Array Slot), lv_has ls 8 [(0, .ref z0), (1, .int (nI f)), (2, .int (nI en)), (3, .int (nI dp)), (4, .int (nI fi)), (5, .int (nI ps)), (6, .int (nI kx))] → W p l e (headSpec vX12_letSyntax { frames := 5, cells := 0, slots := 0, locals := 122 }).room s m args below meth c H locs 0 0 Q (F0 m 82 ls []) := by
  have hcs : 0 + 0 ≤ (0 : Nat) ∧ 0 + 0 ≤ (0 : Nat) := ⟨Nat.le_refl 0, Nat.le_refl 0⟩
  intro k
  induction k with
  | zero =>
    intro kx fi hk hkb hfi hP0 H locs hP hD hS ls hl
    exact absurd hk (Nat.not_lt_zero _)
  | succ k ih =>
    intro kx fi hk hkb hfi hP0 H locs hP hD hS ls hl
    have u6 := ht9.1
    have hG2 := hG
    refine lv_iload hx hb dX12_letSyntax_82 (lv_at hl 4 rfl) ?_
    refine bz_eq (tgt := 215) hx hb (by first | omega | exact Nat.lt_of_lt_of_le (hG _ _) (by decide)) dX12_letSyntax_84 (by decide) (fun c1 => ?_) (fun c1 => ?_)
    · exact ke fi H locs hfi (fun z => absurd z (by omega)) hP hD hS ls (lv_sub hl [0, 1, 2, 3, 4, 5] rfl)
    · have hps := hP0 (by omega)
      obtain ⟨hp1, hp2, hp3, hp4⟩ := id hps
      refine lv_iload hx hb dX12_letSyntax_87 (lv_at hl 6 rfl) ?_
      refine lv_aload_n hx hb dX12_letSyntax_89 rfl (lv_at hl 0 rfl) ?_
      refine mg_12 hx hb hts inX12_letSyntax hown hK hP (hts _ lkX12_letSyntax_f38) dX12_letSyntax_90 ?_
      refine lv_iload hx hb dX12_letSyntax_93 (lv_at hl 5 rfl) ?_
      refine ml_12 hx hb hK hP (by omega) dX12_letSyntax_95 ?_
      refine bn_ge (tgt := 215) hx hb (by first | omega | exact Nat.lt_of_lt_of_le (hG _ _) (by decide)) (by first | omega | exact Nat.lt_of_lt_of_le (hG _ _) (by decide)) dX12_letSyntax_96 (by decide) (fun c2 => ?_) (fun c2 => ?_)
      · exact ke fi H locs hfi (fun _ => ⟨hp1, hp2, hp3, fun i hi => hp4 i (by omega)⟩) hP hD hS ls (lv_sub hl [0, 1, 2, 3, 4, 5] rfl)
      · have q2 := (ht9.pt hp1 c2).2.1
        have g1 := hG 12 (CH G ps kx)
        refine lv_aload_n hx hb dX12_letSyntax_99 rfl (lv_at hl 0 rfl) ?_
        refine lv_aload_n hx hb dX12_letSyntax_100 rfl (lv_at hl 0 rfl) ?_
        refine lv_iload hx hb dX12_letSyntax_101 (lv_at hl 5 rfl) ?_
        refine lv_iload hx hb dX12_letSyntax_103 (lv_at hl 6 rfl) ?_
        obtain ⟨t_1, t_1b, t_1c, t_1d⟩ := ht9.pt (f := ps) (k := kx) (hp1) (c2)
        refine mcl_i (As := [.int (nI ps), .int (nI kx)]) (rest := [.ref z0]) ⟨hx, hb, hml, hown, hts⟩ (m_part l dC dI cB cC cI cJ cZ z0 R pl N G B ps kx hG2 t_1d t_1 H.size) (cwV 2 hts kX12_letSyntax_X12_part_192 rfl rfl rfl (by decide +kernel) ⟨Nat.le_of_ble_eq_true rfl, Nat.le_of_ble_eq_true rfl⟩) hK hP hD hS hA rfl rfl hl.1 (lv_room (Nat.le_of_ble_eq_true rfl)) dX12_letSyntax_105 hcs (fun r_6 N_2 G_3 B_4 pl_5 hw H locs hP hD hS => ?_)
        dsimp only at hw
        obtain ⟨e1, e2, e3, e4, hw⟩ := hw
        rw [e1, e2, e3, e4] at hP hD
        have hw : r_6 = nI (CH G ps kx) := hw
        subst hw
        refine lv_iconst (v := nI 2) hx hb dX12_letSyntax_108 (by decide) ?_
        refine mcl_i (As := [.int (nI (CH G ps kx)), .int (nI 2)]) (rest := []) ⟨hx, hb, hml, hown, hts⟩ (m_isList l dC dI cB cC cI cJ cZ z0 R pl N G B (CH G ps kx) 2 hG2 (by omega) (by omega) H.size) (cwV 2 hts kX12_letSyntax_X12_isList_276 rfl rfl rfl (by decide +kernel) ⟨Nat.le_of_ble_eq_true rfl, Nat.le_of_ble_eq_true rfl⟩) hK hP hD hS hA rfl rfl hl.1 (lv_room (Nat.le_of_ble_eq_true rfl)) dX12_letSyntax_109 hcs (fun r_12 N_8 G_9 B_10 pl_11 hw H locs hP hD hS => ?_)
        dsimp only at hw
        obtain ⟨e1, e2, e3, e4, hw⟩ := hw
        rw [e1, e2, e3, e4] at hP hD
        have hw : r_12 = nI (if G 10 (CH G ps kx) = 2 ∧ G 12 (CH G ps kx) = 2 then 1 else 0) := hw
        by_cases c_7 : G 10 (CH G ps kx) = 2 ∧ G 12 (CH G ps kx) = 2
        · rw [if_pos c_7] at hw
          subst hw
          have q5 := c_7.2
          have q4 := (ht9.pt q2 (show 0 < G 12 (CH G ps kx) by omega)).2.1
          have hnn := (ht9.2 _ q4).2.2.2.1
          refine bz_eq (tgt := 139) hx hb (by first | omega | exact Nat.lt_of_lt_of_le (hG _ _) (by decide)) dX12_letSyntax_112 (by decide) (fun q9 => absurd q9 (by omega)) (fun c => ?_)
          refine lv_aload_n hx hb dX12_letSyntax_115 rfl (lv_at hl 0 rfl) ?_
          refine lv_aload_n hx hb dX12_letSyntax_116 rfl (lv_at hl 0 rfl) ?_
          refine lv_aload_n hx hb dX12_letSyntax_117 rfl (lv_at hl 0 rfl) ?_
          refine lv_iload hx hb dX12_letSyntax_118 (lv_at hl 5 rfl) ?_
          refine lv_iload hx hb dX12_letSyntax_120 (lv_at hl 6 rfl) ?_
          obtain ⟨t_13, t_13b, t_13c, t_13d⟩ := ht9.pt (f := ps) (k := kx) (hp1) (c2)
          refine mcl_i (As := [.int (nI ps), .int (nI kx)]) (rest := [.ref z0, .ref z0]) ⟨hx, hb, hml, hown, hts⟩ (m_part l dC dI cB cC cI cJ cZ z0 R pl N G B ps kx hG2 t_13d t_13 H.size) (cwV 2 hts kX12_letSyntax_X12_part_192 rfl rfl rfl (by decide +kernel) ⟨Nat.le_of_ble_eq_true rfl, Nat.le_of_ble_eq_true rfl⟩) hK hP hD hS hA rfl rfl hl.1 (lv_room (Nat.le_of_ble_eq_true rfl)) dX12_letSyntax_122 hcs (fun r_18 N_14 G_15 B_16 pl_17 hw H locs hP hD hS => ?_)
          dsimp only at hw
          obtain ⟨e1, e2, e3, e4, hw⟩ := hw
          rw [e1, e2, e3, e4] at hP hD
          have hw : r_18 = nI (CH G ps kx) := hw
          subst hw
          refine lv_iconst (v := nI 0) hx hb dX12_letSyntax_125 (by decide) ?_
          obtain ⟨t_19, t_19b, t_19c, t_19d⟩ := ht9.pt (f := CH G ps kx) (k := 0) (q2) (by omega)
          refine mcl_i (As := [.int (nI (CH G ps kx)), .int (nI 0)]) (rest := [.ref z0]) ⟨hx, hb, hml, hown, hts⟩ (m_part l dC dI cB cC cI cJ cZ z0 R pl N G B (CH G ps kx) 0 hG2 t_19d t_19 H.size) (cwV 2 hts kX12_letSyntax_X12_part_192 rfl rfl rfl (by decide +kernel) ⟨Nat.le_of_ble_eq_true rfl, Nat.le_of_ble_eq_true rfl⟩) hK hP hD hS hA rfl rfl hl.1 (lv_room (Nat.le_of_ble_eq_true rfl)) dX12_letSyntax_126 hcs (fun r_24 N_20 G_21 B_22 pl_23 hw H locs hP hD hS => ?_)
          dsimp only at hw
          obtain ⟨e1, e2, e3, e4, hw⟩ := hw
          rw [e1, e2, e3, e4] at hP hD
          have hw : r_24 = nI (CH G (CH G ps kx) 0) := hw
          subst hw
          refine mcl_i (As := [.int (nI (CH G (CH G ps kx) 0))]) (rest := []) ⟨hx, hb, hml, hown, hts⟩ (m_isBindable l dC dI cB cC cI cJ cZ z0 R pl N G B (CH G (CH G ps kx) 0) hG2 hal (by omega) (hnn) H.size) (cwV 1 hts kX12_letSyntax_X12_isBindable_291 rfl rfl rfl (by decide +kernel) ⟨Nat.le_of_ble_eq_true rfl, Nat.le_of_ble_eq_true rfl⟩) hK hP hD hS hA rfl rfl hl.1 (lv_room (Nat.le_of_ble_eq_true rfl)) dX12_letSyntax_129 hcs (fun r_30 N_26 G_27 B_28 pl_29 hw H locs hP hD hS => ?_)
          dsimp only at hw
          obtain ⟨e1, e2, e3, e4, hw⟩ := hw
          rw [e1, e2, e3, e4] at hP hD
          have hw : r_30 = nI (if BND G (CH G (CH G ps kx) 0) then 1 else 0) := hw
          by_cases c_25 : BND G (CH G (CH G ps kx) 0)
          · rw [if_pos c_25] at hw
            subst hw
            refine bz_eq (tgt := 139) hx hb (by first | omega | exact Nat.lt_of_lt_of_le (hG _ _) (by decide)) dX12_letSyntax_132 (by decide) (fun q9 => absurd q9 (by omega)) (fun c => ?_)
            refine lv_iconst (v := nI 1) hx hb dX12_letSyntax_135 (by decide) ?_
            refine lv_goto (tgt := 140) hx hb dX12_letSyntax_136 (by decide) ?_
            refine lv_istore (lv' := [(4, .int (nI 1)), (0, .ref z0), (1, .int (nI f)), (2, .int (nI en)), (3, .int (nI dp)), (5, .int (nI ps)), (6, .int (nI kx))]) hx hb dX12_letSyntax_140 hl (by decide) rfl (fun ls hl => ?_)
            refine lv_iconst (v := nI 0) hx hb dX12_letSyntax_142 (by decide) ?_
            refine lv_istore (lv' := [(7, .int (nI 0)), (4, .int (nI 1)), (0, .ref z0), (1, .int (nI f)), (2, .int (nI en)), (3, .int (nI dp)), (5, .int (nI ps)), (6, .int (nI kx))]) hx hb dX12_letSyntax_143 hl (by decide) rfl (fun ls hl => ?_)
            refine lp_let1 hx hb hml hown hts hK hA hG ht9 hal f en dp ps kx hps c2 (fun fi H locs hfi hfk hP hD hS ls hl => ?_) _ 0 1 (Nat.lt_succ_self _) (Nat.zero_le _) (by decide) (fun _ => q5) _ _ hP hD hS ls (lv_sub hl [2, 3, 4, 5, 1, 6, 7, 0] rfl)
            refine lv_iinc (v := nI (kx + 1)) (lv' := [(6, .int (nI (kx + 1))), (0, .ref z0), (1, .int (nI f)), (2, .int (nI en)), (3, .int (nI dp)), (4, .int (nI fi)), (5, .int (nI ps))]) hx hb dX12_letSyntax_209 hl (k := 6) rfl (nI_add kx 1) (by decide) rfl (fun ls hl => ?_)
            refine lv_goto (tgt := 82) hx hb dX12_letSyntax_212 (by decide) ?_
            refine ih (kx + 1) fi (by omega) (by omega) hfi (fun z => ⟨hp1, hp2, hp3, fun i hi => ?_⟩) _ _ hP hD hS ls (lv_sub hl [1, 2, 3, 4, 5, 6, 0] rfl)
            by_cases e : i = kx
            · rw [e]; exact hfk z
            · exact hp4 i (by omega)
          · rw [if_neg c_25] at hw
            subst hw
            refine bz_eq (tgt := 139) hx hb (by first | omega | exact Nat.lt_of_lt_of_le (hG _ _) (by decide)) dX12_letSyntax_132 (by decide) (fun c => ?_) (fun q9 => absurd q9 (by omega))
            refine lv_iconst (v := nI 0) hx hb dX12_letSyntax_139 (by decide) ?_
            refine lv_istore (lv' := [(4, .int (nI 0)), (0, .ref z0), (1, .int (nI f)), (2, .int (nI en)), (3, .int (nI dp)), (5, .int (nI ps)), (6, .int (nI kx))]) hx hb dX12_letSyntax_140 hl (by decide) rfl (fun ls hl => ?_)
            refine lv_iconst (v := nI 0) hx hb dX12_letSyntax_142 (by decide) ?_
            refine lv_istore (lv' := [(7, .int (nI 0)), (4, .int (nI 0)), (0, .ref z0), (1, .int (nI f)), (2, .int (nI en)), (3, .int (nI dp)), (5, .int (nI ps)), (6, .int (nI kx))]) hx hb dX12_letSyntax_143 hl (by decide) rfl (fun ls hl => ?_)
            refine lp_let1 hx hb hml hown hts hK hA hG ht9 hal f en dp ps kx hps c2 (fun fi H locs hfi hfk hP hD hS ls hl => ?_) _ 0 0 (Nat.lt_succ_self _) (Nat.zero_le _) (by decide) (fun z => absurd z (by decide)) _ _ hP hD hS ls (lv_sub hl [2, 3, 4, 5, 1, 6, 7, 0] rfl)
            refine lv_iinc (v := nI (kx + 1)) (lv' := [(6, .int (nI (kx + 1))), (0, .ref z0), (1, .int (nI f)), (2, .int (nI en)), (3, .int (nI dp)), (4, .int (nI fi)), (5, .int (nI ps))]) hx hb dX12_letSyntax_209 hl (k := 6) rfl (nI_add kx 1) (by decide) rfl (fun ls hl => ?_)
            refine lv_goto (tgt := 82) hx hb dX12_letSyntax_212 (by decide) ?_
            refine ih (kx + 1) fi (by omega) (by omega) hfi (fun z => ⟨hp1, hp2, hp3, fun i hi => ?_⟩) _ _ hP hD hS ls (lv_sub hl [1, 2, 3, 4, 5, 6, 0] rfl)
            by_cases e : i = kx
            · rw [e]; exact hfk z
            · exact hp4 i (by omega)
        · rw [if_neg c_7] at hw
          subst hw
          refine bz_eq (tgt := 139) hx hb (by first | omega | exact Nat.lt_of_lt_of_le (hG _ _) (by decide)) dX12_letSyntax_112 (by decide) (fun c => ?_) (fun q9 => absurd q9 (by omega))
          refine lv_iconst (v := nI 0) hx hb dX12_letSyntax_139 (by decide) ?_
          refine lv_istore (lv' := [(4, .int (nI 0)), (0, .ref z0), (1, .int (nI f)), (2, .int (nI en)), (3, .int (nI dp)), (5, .int (nI ps)), (6, .int (nI kx))]) hx hb dX12_letSyntax_140 hl (by decide) rfl (fun ls hl => ?_)
          refine lv_iconst (v := nI 0) hx hb dX12_letSyntax_142 (by decide) ?_
          refine lv_istore (lv' := [(7, .int (nI 0)), (4, .int (nI 0)), (0, .ref z0), (1, .int (nI f)), (2, .int (nI en)), (3, .int (nI dp)), (5, .int (nI ps)), (6, .int (nI kx))]) hx hb dX12_letSyntax_143 hl (by decide) rfl (fun ls hl => ?_)
          refine lp_let1 hx hb hml hown hts hK hA hG ht9 hal f en dp ps kx hps c2 (fun fi H locs hfi hfk hP hD hS ls hl => ?_) _ 0 0 (Nat.lt_succ_self _) (Nat.zero_le _) (by decide) (fun z => absurd z (by decide)) _ _ hP hD hS ls (lv_sub hl [2, 3, 4, 5, 1, 6, 7, 0] rfl)
          refine lv_iinc (v := nI (kx + 1)) (lv' := [(6, .int (nI (kx + 1))), (0, .ref z0), (1, .int (nI f)), (2, .int (nI en)), (3, .int (nI dp)), (4, .int (nI fi)), (5, .int (nI ps))]) hx hb dX12_letSyntax_209 hl (k := 6) rfl (nI_add kx 1) (by decide) rfl (fun ls hl => ?_)
          refine lv_goto (tgt := 82) hx hb dX12_letSyntax_212 (by decide) ?_
          refine ih (kx + 1) fi (by omega) (by omega) hfi (fun z => ⟨hp1, hp2, hp3, fun i hi => ?_⟩) _ _ hP hD hS ls (lv_sub hl [1, 2, 3, 4, 5, 6, 0] rfl)
          by_cases e : i = kx
          · rw [e]; exact hfk z
          · exact hp4 i (by omega)

set_option maxHeartbeats 4000000 in
set_option maxRecDepth 100000 in
theorem lp_let3 {p : Program} {l : Launch} {e : Env} {s : State} {m : MethodId} {args : Array Value} {below : List Frame} {meth : Method} {c : Code} {Q : State → Prop} {A : Nat → Prop} {dC : Nat → ClassId} {dI : Nat → Nat → Nat} {cB cC cI cJ cZ : ClassId} {z0 : Nat} {R : Nat → Nat} (hx : p.tables.exec = Jvm.exec) (hb : c.code = cX12_letSyntax) (hml : c.maxLocals = 8) (hown : s.vm.findClass RX12 = some m.cls) (hts : ∀ w ∈ vX12_letSyntax, w.before args s = true) (hK : va_K (dC, dI) vwCl (TY cB cC cI cJ cZ) s) (hA : ∀ q : Nat, s.heap.size ≤ q → A q) {pl : Int32} {N : Nat → Nat} {G : Nat → Nat → Nat} {B : Nat → Nat → Int32} {sz az : Nat → Nat} {f en dp w x : Nat} (hxi : XI N G sz az) (htk : TSK N G sz w) (h33 : N 33 = 0) (hf : f < N 14) (hen : en < N 23) (hdp : dp ≤ 100) (hbu : BUD N (w + (3 * sz f - 1)) x) (hb23 : N 23 ≤ N 36) (hb27 : N 27 + 6 ≤ 6 * N 36) (hb34 : N 34 + 6 ≤ 6 * N 36) (ps iv : Nat) (hps : (ps < N 14 ∧ G 10 ps = 2 ∧ G 12 ps ≤ 6 ∧ ∀ i, i < G 12 ps → G 12 (CH G ps i) = 2)) (ke : ∀ (M : Nat → Nat) (K : Nat → Nat → Nat) (H : Heap) (locs : List Loc), LSI N G B sz az w ps (G 12 ps) M K → va_P (dC, dI) vwCl (MW cB cC cI cJ cZ z0 R pl M K B) H → va_D A (MW cB cC cI cJ cZ z0 R pl M K B) → va_S A s.heap H locs → ∀ (ls : Array Slot), lv_has ls 8 [(0, .ref z0), (1, .int (nI f)), (3, .int (nI dp)), (4, .int (nI 1)), (5, .int (nI ps)), (6, .int (nI iv))] → W p l e (headSpec vX12_letSyntax { frames := 5, cells := 0, slots := 0, locals := 122 }).room s m args below meth c H locs 0 0 Q (F0 m 290 ls [])) : ∀ (k : Nat) (kx : Nat) (M : Nat → Nat) (K : Nat → Nat → Nat), 7 - kx < k → kx ≤ G 12 ps → LSI N G B sz az w ps kx M K → ∀ (H : Heap) (locs : List Loc), va_P (dC, dI) vwCl (MW cB cC cI cJ cZ z0 R pl M K B) H → va_D A (MW cB cC cI cJ cZ z0 R pl M K B) → va_S A s.heap H locs → ∀ (ls : Array Slot), lv_has ls 8 [(0, .ref z0), (1, .int (nI f)), (3, .int (nI dp)), (4, .int (nI 1)), (5, .int (nI ps)), (6, .int (nI iv)), (7, .int (nI kx))] → W p l e (headSpec vX12_letSyntax { frames := 5, cells := 0, slots := 0, locals := 122 }).room s m args below meth c H locs 0 0 Q (F0 m 236 ls []) := by
  have hcs : 0 + 0 ≤ (0 : Nat) ∧ 0 + 0 ≤ (0 : Nat) := ⟨Nat.le_refl 0, Nat.le_refl 0⟩
  intro k
  induction k with
  | zero =>
    intro kx M K hk hkb hls H locs hP hD hS ls hl
    have z := hps.2.2.1
    exact absurd hk (by omega)
  | succ k ih =>
    intro kx M K hk hkb hls H locs hP hD hS ls hl
    have ht9 := hxi.1.2.2.1
    have hG := hxi.1.1
    have u6 := ht9.1
    obtain ⟨hp1, hp2, hp3, hp4⟩ := id hps
    have hxm := hls.1
    have hco := hls.2.2.2.2.1
    have e12 : K 12 ps = G 12 ps := by rw [hco.2.2.1]
    have hGm := hxm.1.1
    have m23 : M 23 = N 23 + 1 := hls.2.2.2.2.2.2.1
    have m36 : M 36 = N 36 := hls.2.2.2.2.2.2.2.2.1
    have hnf := hxi.2.2.2.2.2.1
    have hev := hxi.2.2.2.1
    have m27 : M 27 = N 27 + kx := hls.2.2.2.2.2.2.2.1
    refine lv_iload hx hb dX12_letSyntax_236 (lv_at hl 6 rfl) ?_
    refine lv_aload_n hx hb dX12_letSyntax_238 rfl (lv_at hl 0 rfl) ?_
    refine mg_12 hx hb hts inX12_letSyntax hown hK hP (hts _ lkX12_letSyntax_f38) dX12_letSyntax_239 ?_
    refine lv_iload hx hb dX12_letSyntax_242 (lv_at hl 4 rfl) ?_
    refine ml_12 hx hb hK hP (by omega) dX12_letSyntax_244 ?_
    refine bn_ge (tgt := 290) hx hb (by first | omega | exact Nat.lt_of_lt_of_le (hG _ _) (by decide)) (by first | omega | exact Nat.lt_of_lt_of_le (hG _ _) (by decide)) dX12_letSyntax_245 (by decide) (fun c1 => ?_) (fun c1 => ?_)
    · have e9 : kx = G 12 ps := by omega
      subst e9
      exact ke M K H locs hls hP hD hS ls (lv_sub hl [0, 1, 2, 3, 4, 5] rfl)
    · have q2 := (ht9.pt hp1 (show kx < G 12 ps by omega)).2.1
      have q5 := hp4 kx (by omega)
      have q6 := (ht9.pt q2 (show 0 < G 12 (CH G ps kx) by omega)).2.1
      have q7 := (ht9.pt q2 (show 1 < G 12 (CH G ps kx) by omega)).2.1
      have g11 := hGm 11 (CH G (CH G ps kx) 0)
      refine lv_aload_n hx hb dX12_letSyntax_248 rfl (lv_at hl 0 rfl) ?_
      refine lv_aload_n hx hb dX12_letSyntax_249 rfl (lv_at hl 0 rfl) ?_
      refine mg_11 hx hb hts inX12_letSyntax hown hK hP (hts _ lkX12_letSyntax_f35) dX12_letSyntax_250 ?_
      refine lv_aload_n hx hb dX12_letSyntax_253 rfl (lv_at hl 0 rfl) ?_
      refine lv_aload_n hx hb dX12_letSyntax_254 rfl (lv_at hl 0 rfl) ?_
      refine lv_iload hx hb dX12_letSyntax_255 (lv_at hl 4 rfl) ?_
      refine lv_iload hx hb dX12_letSyntax_257 (lv_at hl 6 rfl) ?_
      obtain ⟨t_1, t_1b, t_1c, t_1d⟩ := ht9.pt (f := ps) (k := kx) (hp1) (by omega)
      refine mcl_i (As := [.int (nI ps), .int (nI kx)]) (rest := [.ref z0, .ref (R 11), .ref z0]) ⟨hx, hb, hml, hown, hts⟩ (m_part l dC dI cB cC cI cJ cZ z0 R pl M K B ps kx hGm t_1d (show K 11 ps + kx < 90000 by rw [hco.2.1]; exact t_1) H.size) (cwV 2 hts kX12_letSyntax_X12_part_192 rfl rfl rfl (by decide +kernel) ⟨Nat.le_of_ble_eq_true rfl, Nat.le_of_ble_eq_true rfl⟩) hK hP hD hS hA rfl rfl hl.1 (lv_room (Nat.le_of_ble_eq_true rfl)) dX12_letSyntax_259 hcs (fun r_6 N_2 G_3 B_4 pl_5 hw H locs hP hD hS => ?_)
      dsimp only at hw
      obtain ⟨e1, e2, e3, e4, hw⟩ := hw
      rw [e1, e2, e3, e4] at hP hD
      subst hw
      refine tp_i (y := nI (CH G ps kx)) (by show nI (K 13 (K 11 ps + kx)) = _; rw [hco.2.1, hco.2.2.2.1]) ?_
      refine lv_iconst (v := nI 0) hx hb dX12_letSyntax_262 (by decide) ?_
      obtain ⟨t_7, t_7b, t_7c, t_7d⟩ := ht9.pt (f := CH G ps kx) (k := 0) (q2) (by omega)
      refine mcl_i (As := [.int (nI (CH G ps kx)), .int (nI 0)]) (rest := [.ref (R 11), .ref z0]) ⟨hx, hb, hml, hown, hts⟩ (m_part l dC dI cB cC cI cJ cZ z0 R pl M K B (CH G ps kx) 0 hGm t_7d (show K 11 (CH G ps kx) + 0 < 90000 by rw [hco.2.1]; exact t_7) H.size) (cwV 2 hts kX12_letSyntax_X12_part_192 rfl rfl rfl (by decide +kernel) ⟨Nat.le_of_ble_eq_true rfl, Nat.le_of_ble_eq_true rfl⟩) hK hP hD hS hA rfl rfl hl.1 (lv_room (Nat.le_of_ble_eq_true rfl)) dX12_letSyntax_263 hcs (fun r_12 N_8 G_9 B_10 pl_11 hw H locs hP hD hS => ?_)
      dsimp only at hw
      obtain ⟨e1, e2, e3, e4, hw⟩ := hw
      rw [e1, e2, e3, e4] at hP hD
      subst hw
      refine tp_i (y := nI (CH G (CH G ps kx) 0)) (by show nI (K 13 (K 11 (CH G ps kx) + 0)) = _; rw [hco.2.1, hco.2.2.2.1]) ?_
      refine ml_11 hx hb hK hP (by omega) dX12_letSyntax_266 ?_
      refine lv_iconst (v := nI 0 - 1) hx hb dX12_letSyntax_267 (by decide) ?_
      refine lv_aload_n hx hb dX12_letSyntax_268 rfl (lv_at hl 0 rfl) ?_
      refine lv_aload_n hx hb dX12_letSyntax_269 rfl (lv_at hl 0 rfl) ?_
      refine lv_iload hx hb dX12_letSyntax_270 (lv_at hl 4 rfl) ?_
      refine lv_iload hx hb dX12_letSyntax_272 (lv_at hl 6 rfl) ?_
      obtain ⟨t_13, t_13b, t_13c, t_13d⟩ := ht9.pt (f := ps) (k := kx) (hp1) (by omega)
      refine mcl_i (As := [.int (nI ps), .int (nI kx)]) (rest := [.ref z0, .int (nI 0 - 1), .int (nI (K 11 (CH G (CH G ps kx) 0))), .ref z0]) ⟨hx, hb, hml, hown, hts⟩ (m_part l dC dI cB cC cI cJ cZ z0 R pl M K B ps kx hGm t_13d (show K 11 ps + kx < 90000 by rw [hco.2.1]; exact t_13) H.size) (cwV 2 hts kX12_letSyntax_X12_part_192 rfl rfl rfl (by decide +kernel) ⟨Nat.le_of_ble_eq_true rfl, Nat.le_of_ble_eq_true rfl⟩) hK hP hD hS hA rfl rfl hl.1 (lv_room (Nat.le_of_ble_eq_true rfl)) dX12_letSyntax_274 hcs (fun r_18 N_14 G_15 B_16 pl_17 hw H locs hP hD hS => ?_)
      dsimp only at hw
      obtain ⟨e1, e2, e3, e4, hw⟩ := hw
      rw [e1, e2, e3, e4] at hP hD
      subst hw
      refine tp_i (y := nI (CH G ps kx)) (by show nI (K 13 (K 11 ps + kx)) = _; rw [hco.2.1, hco.2.2.2.1]) ?_
      refine lv_iconst (v := nI 1) hx hb dX12_letSyntax_277 (by decide) ?_
      obtain ⟨t_19, t_19b, t_19c, t_19d⟩ := ht9.pt (f := CH G ps kx) (k := 1) (q2) (by omega)
      refine mcl_i (As := [.int (nI (CH G ps kx)), .int (nI 1)]) (rest := [.int (nI 0 - 1), .int (nI (K 11 (CH G (CH G ps kx) 0))), .ref z0]) ⟨hx, hb, hml, hown, hts⟩ (m_part l dC dI cB cC cI cJ cZ z0 R pl M K B (CH G ps kx) 1 hGm t_19d (show K 11 (CH G ps kx) + 1 < 90000 by rw [hco.2.1]; exact t_19) H.size) (cwV 2 hts kX12_letSyntax_X12_part_192 rfl rfl rfl (by decide +kernel) ⟨Nat.le_of_ble_eq_true rfl, Nat.le_of_ble_eq_true rfl⟩) hK hP hD hS hA rfl rfl hl.1 (lv_room (Nat.le_of_ble_eq_true rfl)) dX12_letSyntax_278 hcs (fun r_24 N_20 G_21 B_22 pl_23 hw H locs hP hD hS => ?_)
      dsimp only at hw
      obtain ⟨e1, e2, e3, e4, hw⟩ := hw
      rw [e1, e2, e3, e4] at hP hD
      subst hw
      refine tp_i (y := nI (CH G (CH G ps kx) 1)) (by show nI (K 13 (K 11 (CH G ps kx) + 1)) = _; rw [hco.2.1, hco.2.2.2.1]) ?_
      refine tp_i (y := nI (CH G (CH G ps kx) 1 + 1) - 1) (om1 (Nat.succ_pos _)).symm ?_
      refine mcl_v (As := [.int (nI (K 11 (CH G (CH G ps kx) 0))), .int (nI 0 - 1), .int (nI (CH G (CH G ps kx) 1 + 1) - 1)]) (rest := []) ⟨hx, hb, hml, hown, hts⟩ (m_bind l dC dI cB cC cI cJ cZ z0 R pl M K B (K 11 (CH G (CH G ps kx) 0)) 0 (CH G (CH G ps kx) 1 + 1) (by omega) (by omega) H.size) (cwV 3 hts kX12_letSyntax_X12_bind_300 rfl rfl rfl (by decide +kernel) ⟨Nat.le_of_ble_eq_true rfl, Nat.le_of_ble_eq_true rfl⟩) hK hP hD hS hA rfl rfl hl.1 (lv_room (Nat.le_of_ble_eq_true rfl)) dX12_letSyntax_281 hcs (fun  N_25 G_26 B_27 pl_28 hw H locs hP hD hS => ?_)
      dsimp only at hw
      obtain ⟨e3, e4, e1, e2⟩ := hw
      have hls2 : LSI N G B sz az w ps (kx + 1) N_25 G_26 := by rw [e1, e2]; exact hls.bind (by omega) (hGm 11 _) rfl (by omega) hev.1
      rw [e3, e4] at hP hD
      refine lv_iinc (v := nI (kx + 1)) (lv' := [(7, .int (nI (kx + 1))), (0, .ref z0), (1, .int (nI f)), (3, .int (nI dp)), (4, .int (nI 1)), (5, .int (nI ps)), (6, .int (nI iv))]) hx hb dX12_letSyntax_284 hl (k := 6) rfl (nI_add kx 1) (by decide) rfl (fun ls hl => ?_)
      refine lv_goto (tgt := 236) hx hb dX12_letSyntax_287 (by decide) ?_
      exact ih (kx + 1) N_25 G_26 (by omega) (by omega) hls2 _ _ hP hD hS ls (lv_sub hl [1, 2, 3, 4, 5, 6, 0] rfl)

set_option maxHeartbeats 4000000 in
set_option maxRecDepth 100000 in
theorem lp_let4 {p : Program} {l : Launch} {e : Env} {s : State} {m : MethodId} {args : Array Value} {below : List Frame} {meth : Method} {c : Code} {Q : State → Prop} {A : Nat → Prop} {dC : Nat → ClassId} {dI : Nat → Nat → Nat} {cB cC cI cJ cZ : ClassId} {z0 : Nat} {R : Nat → Nat} (hx : p.tables.exec = Jvm.exec) (hb : c.code = cX12_letSyntax) (hml : c.maxLocals = 8) (hown : s.vm.findClass RX12 = some m.cls) (hts : ∀ w ∈ vX12_letSyntax, w.before args s = true) (hK : va_K (dC, dI) vwCl (TY cB cC cI cJ cZ) s) (hA : ∀ q : Nat, s.heap.size ≤ q → A q) {pl : Int32} {N : Nat → Nat} {G : Nat → Nat → Nat} {B : Nat → Nat → Int32} {sz az : Nat → Nat} {f en dp w x : Nat} (hxi : XI N G sz az) (htk : TSK N G sz w) (h33 : N 33 = 0) (hf : f < N 14) (hen : en < N 23) (hdp : dp ≤ 100) (hbu : BUD N (w + (3 * sz f - 1)) x) (hb23 : N 23 ≤ N 36) (hb27 : N 27 + 6 ≤ 6 * N 36) (hb34 : N 34 + 6 ≤ 6 * N 36) (ps iv : Nat) (hps : (ps < N 14 ∧ G 10 ps = 2 ∧ G 12 ps ≤ 6 ∧ ∀ i, i < G 12 ps → G 12 (CH G ps i) = 2)) (M : Nat → Nat) (K : Nat → Nat → Nat) (hls : LSI N G B sz az w ps (G 12 ps) M K) (hiv : iv = N 23) (ke : ∀ (fi vc q : Nat) (g : Nat → Nat → Nat) (H : Heap) (locs : List Loc), (∀ k i, g k i < 1048576) → vc ≤ 1600 → q ≤ 90000 → fi ≤ 1 → (fi = 1 → ∀ i, i < G 12 ps → RULESOK G sz (CH G (CH G ps i) 1)) → va_P (dC, dI) vwCl (MW cB cC cI cJ cZ z0 R pl (SCN M vc q) (SCG K g) B) H → va_D A (MW cB cC cI cJ cZ z0 R pl (SCN M vc q) (SCG K g) B) → va_S A s.heap H locs → ∀ (ls : Array Slot), lv_has ls 8 [(0, .ref z0), (1, .int (nI f)), (3, .int (nI dp)), (4, .int (nI fi)), (5, .int (nI ps)), (6, .int (nI iv))] → W p l e (headSpec vX12_letSyntax { frames := 5, cells := 0, slots := 0, locals := 122 }).room s m args below meth c H locs 0 0 Q (F0 m 345 ls [])) : ∀ (k : Nat) (kx fi vc q : Nat) (g : Nat → Nat → Nat), 7 - kx < k → kx ≤ 6 → (∀ k i, g k i < 1048576) → vc ≤ 1600 → q ≤ 90000 → fi ≤ 1 → (fi = 1 → ∀ i, i < kx → RULESOK G sz (CH G (CH G ps i) 1)) → ∀ (H : Heap) (locs : List Loc), va_P (dC, dI) vwCl (MW cB cC cI cJ cZ z0 R pl (SCN M vc q) (SCG K g) B) H → va_D A (MW cB cC cI cJ cZ z0 R pl (SCN M vc q) (SCG K g) B) → va_S A s.heap H locs → ∀ (ls : Array Slot), lv_has ls 8 [(0, .ref z0), (1, .int (nI f)), (3, .int (nI dp)), (4, .int (nI fi)), (5, .int (nI ps)), (6, .int (nI iv)), (7, .int (nI kx))] → W p l e (headSpec vX12_letSyntax { frames := 5, cells := 0, slots := 0, locals := 122 }).room s m args below meth c H locs 0 0 Q (F0 m 293 ls []) := by
  have hcs : 0 + 0 ≤ (0 : Nat) ∧ 0 + 0 ≤ (0 : Nat) := ⟨Nat.le_refl 0, Nat.le_refl 0⟩
  intro k
  induction k with
  | zero =>
    intro kx fi vc q g hk hkb hg hv1 hq1 hfi hro H locs hP hD hS ls hl
    exact absurd hk (Nat.not_lt_zero _)
  | succ k ih =>
    intro kx fi vc q g hk hkb hg hv1 hq1 hfi hro H locs hP hD hS ls hl
    have ht9 := hxi.1.2.2.1
    have hG := hxi.1.1
    have u6 := ht9.1
    obtain ⟨hp1, hp2, hp3, hp4⟩ := id hps
    have hxm := hls.1
    have hco := hls.2.2.2.2.1
    have e12 : K 12 ps = G 12 ps := by rw [hco.2.2.1]
    have hGm := hxm.1.1
    have m23 : M 23 = N 23 + 1 := hls.2.2.2.2.2.2.1
    have m36 : M 36 = N 36 := hls.2.2.2.2.2.2.2.2.1
    have hnf := hxi.2.2.2.2.2.1
    have hev := hxi.2.2.2.1
    have hG2 := SCG_bd hGm hg
    refine lv_iload hx hb dX12_letSyntax_293 (lv_at hl 6 rfl) ?_
    refine lv_aload_n hx hb dX12_letSyntax_295 rfl (lv_at hl 0 rfl) ?_
    refine mg_12 hx hb hts inX12_letSyntax hown hK hP (hts _ lkX12_letSyntax_f38) dX12_letSyntax_296 ?_
    refine lv_iload hx hb dX12_letSyntax_299 (lv_at hl 4 rfl) ?_
    refine ml_12 hx hb hK hP (by omega) dX12_letSyntax_301 ?_
    refine tp_i (y := nI (K 12 ps)) rfl ?_
    refine bn_ge (tgt := 345) hx hb (by first | omega | exact Nat.lt_of_lt_of_le (hG _ _) (by decide)) (by first | omega | exact Nat.lt_of_lt_of_le (hG _ _) (by decide)) dX12_letSyntax_302 (by decide) (fun c1 => ?_) (fun c1 => ?_)
    · have e9 : G 12 ps ≤ kx := by have z : K 12 ps ≤ kx := c1; omega
      exact ke fi vc q g H locs hg hv1 hq1 hfi (fun z i hi => hro z i (by omega)) hP hD hS ls (lv_sub hl [0, 1, 2, 3, 4, 5] rfl)
    · have c1 : kx < G 12 ps := by have z : kx < K 12 ps := c1; omega
      refine lv_iload hx hb dX12_letSyntax_305 (lv_at hl 3 rfl) ?_
      refine bz_eq (tgt := 336) hx hb (by first | omega | exact Nat.lt_of_lt_of_le (hG _ _) (by decide)) dX12_letSyntax_307 (by decide) (fun c2 => ?_) (fun c2 => ?_)
      · refine lv_iconst (v := nI 0) hx hb dX12_letSyntax_336 (by decide) ?_
        refine lv_istore (lv' := [(4, .int (nI 0)), (0, .ref z0), (1, .int (nI f)), (3, .int (nI dp)), (5, .int (nI ps)), (6, .int (nI iv)), (7, .int (nI kx))]) hx hb dX12_letSyntax_337 hl (by decide) rfl (fun ls hl => ?_)
        refine lv_iinc (v := nI (kx + 1)) (lv' := [(7, .int (nI (kx + 1))), (4, .int (nI 0)), (0, .ref z0), (1, .int (nI f)), (3, .int (nI dp)), (5, .int (nI ps)), (6, .int (nI iv))]) hx hb dX12_letSyntax_339 hl (k := 6) rfl (nI_add kx 1) (by decide) rfl (fun ls hl => ?_)
        refine lv_goto (tgt := 293) hx hb dX12_letSyntax_342 (by decide) ?_
        exact ih (kx + 1) 0 vc q g (by omega) (by omega) hg hv1 hq1 (by decide) (fun z => absurd z (by decide)) _ _ hP hD hS ls (lv_sub hl [2, 3, 4, 1, 5, 6, 0] rfl)
      · have q2 := (ht9.pt hp1 c1).2.1
        have q5 := hp4 kx c1
        have q7 := (ht9.pt q2 (show 1 < G 12 (CH G ps kx) by omega)).2.1
        have m14 : M 14 = N 14 := hls.2.2.2.2.2.1
        refine lv_aload_n hx hb dX12_letSyntax_310 rfl (lv_at hl 0 rfl) ?_
        refine lv_aload_n hx hb dX12_letSyntax_311 rfl (lv_at hl 0 rfl) ?_
        refine lv_aload_n hx hb dX12_letSyntax_312 rfl (lv_at hl 0 rfl) ?_
        refine lv_iload hx hb dX12_letSyntax_313 (lv_at hl 4 rfl) ?_
        refine lv_iload hx hb dX12_letSyntax_315 (lv_at hl 6 rfl) ?_
        obtain ⟨t_1, t_1b, t_1c, t_1d⟩ := ht9.pt (f := ps) (k := kx) (hp1) (c1)
        refine mcl_i (As := [.int (nI ps), .int (nI kx)]) (rest := [.ref z0, .ref z0]) ⟨hx, hb, hml, hown, hts⟩ (m_part l dC dI cB cC cI cJ cZ z0 R pl (SCN M vc q) (SCG K g) B ps kx hG2 t_1d (show K 11 ps + kx < 90000 by rw [hco.2.1]; exact t_1) H.size) (cwV 2 hts kX12_letSyntax_X12_part_192 rfl rfl rfl (by decide +kernel) ⟨Nat.le_of_ble_eq_true rfl, Nat.le_of_ble_eq_true rfl⟩) hK hP hD hS hA rfl rfl hl.1 (lv_room (Nat.le_of_ble_eq_true rfl)) dX12_letSyntax_317 hcs (fun r_6 N_2 G_3 B_4 pl_5 hw H locs hP hD hS => ?_)
        dsimp only at hw
        obtain ⟨e1, e2, e3, e4, hw⟩ := hw
        rw [e1, e2, e3, e4] at hP hD
        subst hw
        refine tp_i (y := nI (CH G ps kx)) (by show nI (K 13 (K 11 ps + kx)) = _; rw [hco.2.1, hco.2.2.2.1]) ?_
        refine lv_iconst (v := nI 1) hx hb dX12_letSyntax_320 (by decide) ?_
        obtain ⟨t_7, t_7b, t_7c, t_7d⟩ := ht9.pt (f := CH G ps kx) (k := 1) (q2) (by omega)
        refine mcl_i (As := [.int (nI (CH G ps kx)), .int (nI 1)]) (rest := [.ref z0]) ⟨hx, hb, hml, hown, hts⟩ (m_part l dC dI cB cC cI cJ cZ z0 R pl (SCN M vc q) (SCG K g) B (CH G ps kx) 1 hG2 t_7d (show K 11 (CH G ps kx) + 1 < 90000 by rw [hco.2.1]; exact t_7) H.size) (cwV 2 hts kX12_letSyntax_X12_part_192 rfl rfl rfl (by decide +kernel) ⟨Nat.le_of_ble_eq_true rfl, Nat.le_of_ble_eq_true rfl⟩) hK hP hD hS hA rfl rfl hl.1 (lv_room (Nat.le_of_ble_eq_true rfl)) dX12_letSyntax_321 hcs (fun r_12 N_8 G_9 B_10 pl_11 hw H locs hP hD hS => ?_)
        dsimp only at hw
        obtain ⟨e1, e2, e3, e4, hw⟩ := hw
        rw [e1, e2, e3, e4] at hP hD
        subst hw
        refine tp_i (y := nI (CH G (CH G ps kx) 1)) (by show nI (K 13 (K 11 (CH G ps kx) + 1)) = _; rw [hco.2.1, hco.2.2.2.1]) ?_
        refine lv_iload hx hb dX12_letSyntax_324 (lv_at hl 5 rfl) ?_
        refine mcl_i (As := [.int (nI (CH G (CH G ps kx) 1)), .int (nI iv)]) (rest := []) ⟨hx, hb, hml, hown, hts⟩ (m_areRules l dC dI cB cC cI cJ cZ z0 R pl (SCN M vc q) (SCG K g) B (CH G (CH G ps kx) 1) iv sz az hG2 hxm.1.2.2.1 hxm.2.2.1.1 hxm.1.2.1 hxm.2.2.2.1 hv1 hq1 (show _ < M 14 by rw [m14]; exact q7) (show iv < M 23 by omega) H.size) (cwV 2 hts kX12_letSyntax_X12_areRules_303 rfl rfl rfl (by decide +kernel) ⟨Nat.le_of_ble_eq_true rfl, Nat.le_of_ble_eq_true rfl⟩) hK hP hD hS hA rfl rfl hl.1 (lv_room (Nat.le_of_ble_eq_true rfl)) dX12_letSyntax_326 hcs (fun r_17 N_13 G_14 B_15 pl_16 hw H locs hP hD hS => ?_)
        dsimp only at hw
        obtain ⟨e3, e4, vc2, q9, fi2, g2, hg2, hvc2, hq9, e1, e2, hw, hfi2, hrl⟩ := hw
        rw [e1, e2, e3, e4, SCN_SCN, SCG_SCG] at hP hD
        have hrl : fi2 = 1 → RULESOK G sz (CH G (CH G ps kx) 1) := fun z => (RULESOK_core hco).mp ((RULESOK_core (SCG_core K g)).mp (hrl z))
        subst hw
        refine bz_eq (tgt := 336) hx hb (by first | omega | exact Nat.lt_of_lt_of_le (hG _ _) (by decide)) dX12_letSyntax_329 (by decide) (fun c3 => ?_) (fun c3 => ?_)
        · refine lv_iconst (v := nI 0) hx hb dX12_letSyntax_336 (by decide) ?_
          refine lv_istore (lv' := [(4, .int (nI 0)), (0, .ref z0), (1, .int (nI f)), (3, .int (nI dp)), (5, .int (nI ps)), (6, .int (nI iv)), (7, .int (nI kx))]) hx hb dX12_letSyntax_337 hl (by decide) rfl (fun ls hl => ?_)
          refine lv_iinc (v := nI (kx + 1)) (lv' := [(7, .int (nI (kx + 1))), (4, .int (nI 0)), (0, .ref z0), (1, .int (nI f)), (3, .int (nI dp)), (5, .int (nI ps)), (6, .int (nI iv))]) hx hb dX12_letSyntax_339 hl (k := 6) rfl (nI_add kx 1) (by decide) rfl (fun ls hl => ?_)
          refine lv_goto (tgt := 293) hx hb dX12_letSyntax_342 (by decide) ?_
          exact ih (kx + 1) 0 vc2 q9 g2 (by omega) (by omega) hg2 hvc2 hq9 (by decide) (fun z => absurd z (by decide)) _ _ hP hD hS ls (lv_sub hl [2, 3, 4, 1, 5, 6, 0] rfl)
        · have hro2 : ∀ i, i < kx + 1 → RULESOK G sz (CH G (CH G ps i) 1) := fun i hi => by
            by_cases ei : i = kx
            · rw [ei]; exact hrl (by omega)
            · exact hro (by omega) i (by omega)
          refine lv_iconst (v := nI 1) hx hb dX12_letSyntax_332 (by decide) ?_
          refine lv_goto (tgt := 337) hx hb dX12_letSyntax_333 (by decide) ?_
          refine lv_istore (lv' := [(4, .int (nI 1)), (0, .ref z0), (1, .int (nI f)), (3, .int (nI dp)), (5, .int (nI ps)), (6, .int (nI iv)), (7, .int (nI kx))]) hx hb dX12_letSyntax_337 hl (by decide) rfl (fun ls hl => ?_)
          refine lv_iinc (v := nI (kx + 1)) (lv' := [(7, .int (nI (kx + 1))), (4, .int (nI 1)), (0, .ref z0), (1, .int (nI f)), (3, .int (nI dp)), (5, .int (nI ps)), (6, .int (nI iv))]) hx hb dX12_letSyntax_339 hl (k := 6) rfl (nI_add kx 1) (by decide) rfl (fun ls hl => ?_)
          refine lv_goto (tgt := 293) hx hb dX12_letSyntax_342 (by decide) ?_
          exact ih (kx + 1) 1 vc2 q9 g2 (by omega) (by omega) hg2 hvc2 hq9 (by decide) (fun _ => hro2) _ _ hP hD hS ls (lv_sub hl [2, 3, 4, 1, 5, 6, 0] rfl)

set_option maxHeartbeats 4000000 in
set_option maxRecDepth 100000 in
/-- letSyntax -/
theorem m_letSyntax (l : Launch) (dC : Nat → ClassId) (dI : Nat → Nat → Nat) (cB cC cI cJ cZ : ClassId) (z0 : Nat) (R : Nat → Nat) (pl : Int32) (N : Nat → Nat) (G : Nat → Nat → Nat) (B : Nat → Nat → Int32) (f en dp w x : Nat) (sz az : Nat → Nat) (hxi : XI N G sz az) (htk : TSK N G sz w) (h33 : N 33 = 0) (hf : f < N 14) (hen : en < N 23) (hdp : dp ≤ 100) (hbu : BUD N (w + (3 * sz f - 1)) x) (hb23 : N 23 ≤ N 36) (hb27 : N 27 + 6 ≤ 6 * N 36) (hb34 : N 34 + 6 ≤ 6 * N 36) (s0 : Nat) : Met l yX12_letSyntax vX12_letSyntax { frames := 5, cells := 0, slots := 0, locals := 122 } (va_Pc [.ref z0, .int (nI f), .int (nI en), .int (nI dp)] (mPre dC dI cB cC cI cJ cZ z0 R pl N G B s0)) (va_Qv (fun u : ((Nat → Nat) × (Nat → Nat → Nat) × (Nat → Nat → Int32) × Int32) => match u with | (N1, G1, B1, pl1) => pl1 = pl ∧ XPOST N G B sz x N1 G1 B1) (mPost dC dI cB cC cI cJ cZ z0 R (va_A (MW cB cC cI cJ cZ z0 R pl N G B) s0)) (va_A (MW cB cC cI cJ cZ z0 R pl N G B) s0)) 0 0 (va_A (MW cB cC cI cJ cZ z0 R pl N G B) s0) := by
  refine Met.ofW (cc := cX12_letSyntax) (maxL := 8) (ret := none) (by decide) rfl ?_
  intro p e s m args below meth c s₁ B9 hml hv
  obtain ⟨rfl, hsz, hP, hK, hD0⟩ := hv
  have hx := B9.exec
  have hb := B9.bytes
  have hr := B9.returns
  have hts := atoms_spec (ws := vX12_letSyntax) B9.pre
  have hown : s.vm.findClass RX12 = some m.cls := findClass_of_methodNamed B9.named
  have hlocks := B9.notSynchronized
  subst hsz
  have hD := hD0.self (sz := s.heap.size)
  generalize hAe : va_A (MW cB cC cI cJ cZ z0 R pl N G B) s.heap.size = A at hD ⊢
  have hA : ∀ q : Nat, s.heap.size ≤ q → A q := fun q h => by rw [← hAe]; exact Or.inr h
  have hS : va_S A s.heap s.heap [] := va_S.rf
  have hcs : 0 + 0 ≤ (0 : Nat) ∧ 0 + 0 ≤ (0 : Nat) := ⟨Nat.le_refl 0, Nat.le_refl 0⟩
  have hl := lv_entry ([.ref z0, .int (nI f), .int (nI en), .int (nI dp)]) (n := 8) (Nat.le_of_ble_eq_true rfl)
  rw [lg_entry_eq]
  generalize (lg_sl ([.ref z0, .int (nI f), .int (nI en), .int (nI dp)]) ++ List.replicate (8 - (lg_sl ([.ref z0, .int (nI f), .int (nI en), .int (nI dp)])).length) Slot.unset).toArray = ls at hl ⊢
  have hl : lv_has ls 8 [(0, .ref z0), (1, .int (nI f)), (2, .int (nI en)), (3, .int (nI dp))] := hl
  have ht9 := hxi.1.2.2.1
  have hG := hxi.1.1
  have hG2 := hG
  have hal := hxi.1.2.1
  have u6 := ht9.1
  have u1 := ht9.one hf
  have hf8 : f < 90000 := by omega
  have hnf := hxi.2.2.2.2.2.1
  refine lv_aload_n hx hb dX12_letSyntax_0 rfl (lv_at hl 0 rfl) ?_
  refine lv_iload_n hx hb dX12_letSyntax_1 rfl (lv_at hl 1 rfl) ?_
  refine lv_iconst (v := nI 3) hx hb dX12_letSyntax_2 (by decide) ?_
  refine mcl_i (As := [.int (nI f), .int (nI 3)]) (rest := []) ⟨hx, hb, hml, hown, hts⟩ (m_isList l dC dI cB cC cI cJ cZ z0 R pl N G B f 3 hG2 (by omega) (by omega) s.heap.size) (cwV 2 hts kX12_letSyntax_X12_isList_276 rfl rfl rfl (by decide +kernel) ⟨Nat.le_of_ble_eq_true rfl, Nat.le_of_ble_eq_true rfl⟩) hK hP hD hS hA rfl rfl hl.1 (lv_room (Nat.le_of_ble_eq_true rfl)) dX12_letSyntax_3 hcs (fun r_6 N_2 G_3 B_4 pl_5 hw H locs hP hD hS => ?_)
  dsimp only at hw
  obtain ⟨e1, e2, e3, e4, hw⟩ := hw
  rw [e1, e2, e3, e4] at hP hD
  have hw : r_6 = nI (if G 10 f = 2 ∧ G 12 f = 3 then 1 else 0) := hw
  by_cases c_1 : G 10 f = 2 ∧ G 12 f = 3
  · rw [if_pos c_1] at hw
    subst hw
    obtain ⟨q1, q2⟩ := c_1
    have hc1 := (ht9.pt hf (show 1 < G 12 f by omega)).2.1
    have g10 := hG 10 (CH G f 1)
    have g12 := hG 12 (CH G f 1)
    refine bz_eq (tgt := 59) hx hb (by first | omega | exact Nat.lt_of_lt_of_le (hG _ _) (by decide)) dX12_letSyntax_6 (by decide) (fun q9 => absurd q9 (by omega)) (fun c => ?_)
    refine lv_aload_n hx hb dX12_letSyntax_9 rfl (lv_at hl 0 rfl) ?_
    refine mg_10 hx hb hts inX12_letSyntax hown hK hP (hts _ lkX12_letSyntax_f32) dX12_letSyntax_10 ?_
    refine lv_aload_n hx hb dX12_letSyntax_13 rfl (lv_at hl 0 rfl) ?_
    refine lv_iload_n hx hb dX12_letSyntax_14 rfl (lv_at hl 1 rfl) ?_
    refine lv_iconst (v := nI 1) hx hb dX12_letSyntax_15 (by decide) ?_
    obtain ⟨t_12, t_12b, t_12c, t_12d⟩ := ht9.pt (f := f) (k := 1) (hf) (by omega)
    refine mcl_i (As := [.int (nI f), .int (nI 1)]) (rest := [.ref (R 10)]) ⟨hx, hb, hml, hown, hts⟩ (m_part l dC dI cB cC cI cJ cZ z0 R pl N G B f 1 hG2 t_12d t_12 H.size) (cwV 2 hts kX12_letSyntax_X12_part_192 rfl rfl rfl (by decide +kernel) ⟨Nat.le_of_ble_eq_true rfl, Nat.le_of_ble_eq_true rfl⟩) hK hP hD hS hA rfl rfl hl.1 (lv_room (Nat.le_of_ble_eq_true rfl)) dX12_letSyntax_16 hcs (fun r_17 N_13 G_14 B_15 pl_16 hw H locs hP hD hS => ?_)
    dsimp only at hw
    obtain ⟨e1, e2, e3, e4, hw⟩ := hw
    rw [e1, e2, e3, e4] at hP hD
    have hw : r_17 = nI (CH G f 1) := hw
    subst hw
    refine ml_10 hx hb hK hP (by omega) dX12_letSyntax_19 ?_
    refine lv_iconst (v := nI 2) hx hb dX12_letSyntax_20 (by decide) ?_
    refine bn_ne (tgt := 59) hx hb (by first | omega | exact Nat.lt_of_lt_of_le (hG _ _) (by decide)) (by first | omega | exact Nat.lt_of_lt_of_le (hG _ _) (by decide)) dX12_letSyntax_21 (by decide) (fun c2 => ?_) (fun c2 => ?_)
    · refine lv_iconst (v := nI 0) hx hb dX12_letSyntax_59 (by decide) ?_
      refine lv_istore (lv' := [(4, .int (nI 0)), (0, .ref z0), (1, .int (nI f)), (2, .int (nI en)), (3, .int (nI dp))]) hx hb dX12_letSyntax_60 hl (by decide) rfl (fun ls hl => ?_)
      refine lv_iload hx hb dX12_letSyntax_62 (lv_at hl 0 rfl) ?_
      refine bz_eq (tgt := 76) hx hb (by first | omega | exact Nat.lt_of_lt_of_le (hG _ _) (by decide)) dX12_letSyntax_64 (by decide) (fun c => ?_) (fun q9 => absurd q9 (by omega))
      refine lv_iconst (v := nI 0) hx hb dX12_letSyntax_76 (by decide) ?_
      refine lv_istore (lv' := [(5, .int (nI 0)), (4, .int (nI 0)), (0, .ref z0), (1, .int (nI f)), (2, .int (nI en)), (3, .int (nI dp))]) hx hb dX12_letSyntax_77 hl (by decide) rfl (fun ls hl => ?_)
      refine lv_iconst (v := nI 0) hx hb dX12_letSyntax_79 (by decide) ?_
      refine lv_istore (lv' := [(6, .int (nI 0)), (5, .int (nI 0)), (4, .int (nI 0)), (0, .ref z0), (1, .int (nI f)), (2, .int (nI en)), (3, .int (nI dp))]) hx hb dX12_letSyntax_80 hl (by decide) rfl (fun ls hl => ?_)
      refine lv_iload hx hb dX12_letSyntax_82 (lv_at hl 2 rfl) ?_
      refine bz_eq (tgt := 215) hx hb (by first | omega | exact Nat.lt_of_lt_of_le (hG _ _) (by decide)) dX12_letSyntax_84 (by decide) (fun c => ?_) (fun q9 => absurd q9 (by omega))
      have hrun : RUN N G B sz N G B az w 0 := RUN.start hxi htk h33
      have hnum := hrun.num hbu (by omega) (by omega)
      have hG2 := hrun.1.1.1
      have htr := hrun.1.1.2.2.1
      have hal2 := hrun.1.1.2.1
      have n14 := hrun.2.2.2.2.2.2.2.1
      have n23 := hrun.2.2.2.2.2.2.2.2
      have n33 := hrun.2.2.2.2.2.1
      refine lv_aload_n hx hb dX12_letSyntax_215 rfl (lv_at hl 3 rfl) ?_
      refine lv_iload hx hb dX12_letSyntax_216 (lv_at hl 2 rfl) ?_
      refine lv_iconst (v := nI 3) hx hb dX12_letSyntax_218 (by decide) ?_
      refine mcl_i (As := [.int (nI 0), .int (nI 3)]) (rest := []) ⟨hx, hb, hml, hown, hts⟩ (m_need l dC dI cB cC cI cJ cZ z0 R pl N G B 0 3 (by decide) ⟨by decide, by decide⟩ n33 H.size) (cwV 2 hts kX12_letSyntax_X12_need_255 rfl rfl rfl (by decide +kernel) ⟨Nat.le_of_ble_eq_true rfl, Nat.le_of_ble_eq_true rfl⟩) hK hP hD hS hA rfl rfl hl.1 (lv_room (Nat.le_of_ble_eq_true rfl)) dX12_letSyntax_219 hcs (fun r_22 N_18 G_19 B_20 pl_21 hw H locs hP hD hS => ?_)
      dsimp only at hw
      obtain ⟨e3, e4, e2, hw, e5, e6⟩ := hw
      rw [e6 rfl, e2, e3, e4] at hP hD
      subst hw
      refine bz_ne (tgt := 226) hx hb (by first | omega | exact Nat.lt_of_lt_of_le (hG _ _) (by decide)) dX12_letSyntax_222 (by decide) (fun q9 => absurd q9 (by omega)) (fun c => ?_)
      exact W.vret hx hb hr (fun t ht hW => ⟨⟨(va_up N 33 3, G, B, pl), rfl, ⟨rfl, hrun.fail hbu (by omega) (Or.inl rfl) (by decide) (by decide)⟩, by rw [ht]; exact hP, va_K.moved hW.alike hK, hD⟩, hS.F ht⟩) hS.2.2 dX12_letSyntax_225
    · refine lv_aload_n hx hb dX12_letSyntax_24 rfl (lv_at hl 0 rfl) ?_
      refine mg_12 hx hb hts inX12_letSyntax hown hK hP (hts _ lkX12_letSyntax_f38) dX12_letSyntax_25 ?_
      refine lv_aload_n hx hb dX12_letSyntax_28 rfl (lv_at hl 0 rfl) ?_
      refine lv_iload_n hx hb dX12_letSyntax_29 rfl (lv_at hl 1 rfl) ?_
      refine lv_iconst (v := nI 1) hx hb dX12_letSyntax_30 (by decide) ?_
      obtain ⟨t_23, t_23b, t_23c, t_23d⟩ := ht9.pt (f := f) (k := 1) (hf) (by omega)
      refine mcl_i (As := [.int (nI f), .int (nI 1)]) (rest := [.ref (R 12)]) ⟨hx, hb, hml, hown, hts⟩ (m_part l dC dI cB cC cI cJ cZ z0 R pl N G B f 1 hG2 t_23d t_23 H.size) (cwV 2 hts kX12_letSyntax_X12_part_192 rfl rfl rfl (by decide +kernel) ⟨Nat.le_of_ble_eq_true rfl, Nat.le_of_ble_eq_true rfl⟩) hK hP hD hS hA rfl rfl hl.1 (lv_room (Nat.le_of_ble_eq_true rfl)) dX12_letSyntax_31 hcs (fun r_28 N_24 G_25 B_26 pl_27 hw H locs hP hD hS => ?_)
      dsimp only at hw
      obtain ⟨e1, e2, e3, e4, hw⟩ := hw
      rw [e1, e2, e3, e4] at hP hD
      have hw : r_28 = nI (CH G f 1) := hw
      subst hw
      refine ml_12 hx hb hK hP (by omega) dX12_letSyntax_34 ?_
      refine lv_iconst (v := nI 1) hx hb dX12_letSyntax_35 (by decide) ?_
      refine bn_lt (tgt := 59) hx hb (by first | omega | exact Nat.lt_of_lt_of_le (hG _ _) (by decide)) (by first | omega | exact Nat.lt_of_lt_of_le (hG _ _) (by decide)) dX12_letSyntax_36 (by decide) (fun c3 => ?_) (fun c3 => ?_)
      · refine lv_iconst (v := nI 0) hx hb dX12_letSyntax_59 (by decide) ?_
        refine lv_istore (lv' := [(4, .int (nI 0)), (0, .ref z0), (1, .int (nI f)), (2, .int (nI en)), (3, .int (nI dp))]) hx hb dX12_letSyntax_60 hl (by decide) rfl (fun ls hl => ?_)
        refine lv_iload hx hb dX12_letSyntax_62 (lv_at hl 0 rfl) ?_
        refine bz_eq (tgt := 76) hx hb (by first | omega | exact Nat.lt_of_lt_of_le (hG _ _) (by decide)) dX12_letSyntax_64 (by decide) (fun c => ?_) (fun q9 => absurd q9 (by omega))
        refine lv_iconst (v := nI 0) hx hb dX12_letSyntax_76 (by decide) ?_
        refine lv_istore (lv' := [(5, .int (nI 0)), (4, .int (nI 0)), (0, .ref z0), (1, .int (nI f)), (2, .int (nI en)), (3, .int (nI dp))]) hx hb dX12_letSyntax_77 hl (by decide) rfl (fun ls hl => ?_)
        refine lv_iconst (v := nI 0) hx hb dX12_letSyntax_79 (by decide) ?_
        refine lv_istore (lv' := [(6, .int (nI 0)), (5, .int (nI 0)), (4, .int (nI 0)), (0, .ref z0), (1, .int (nI f)), (2, .int (nI en)), (3, .int (nI dp))]) hx hb dX12_letSyntax_80 hl (by decide) rfl (fun ls hl => ?_)
        refine lv_iload hx hb dX12_letSyntax_82 (lv_at hl 2 rfl) ?_
        refine bz_eq (tgt := 215) hx hb (by first | omega | exact Nat.lt_of_lt_of_le (hG _ _) (by decide)) dX12_letSyntax_84 (by decide) (fun c => ?_) (fun q9 => absurd q9 (by omega))
        have hrun : RUN N G B sz N G B az w 0 := RUN.start hxi htk h33
        have hnum := hrun.num hbu (by omega) (by omega)
        have hG2 := hrun.1.1.1
        have htr := hrun.1.1.2.2.1
        have hal2 := hrun.1.1.2.1
        have n14 := hrun.2.2.2.2.2.2.2.1
        have n23 := hrun.2.2.2.2.2.2.2.2
        have n33 := hrun.2.2.2.2.2.1
        refine lv_aload_n hx hb dX12_letSyntax_215 rfl (lv_at hl 3 rfl) ?_
        refine lv_iload hx hb dX12_letSyntax_216 (lv_at hl 2 rfl) ?_
        refine lv_iconst (v := nI 3) hx hb dX12_letSyntax_218 (by decide) ?_
        refine mcl_i (As := [.int (nI 0), .int (nI 3)]) (rest := []) ⟨hx, hb, hml, hown, hts⟩ (m_need l dC dI cB cC cI cJ cZ z0 R pl N G B 0 3 (by decide) ⟨by decide, by decide⟩ n33 H.size) (cwV 2 hts kX12_letSyntax_X12_need_255 rfl rfl rfl (by decide +kernel) ⟨Nat.le_of_ble_eq_true rfl, Nat.le_of_ble_eq_true rfl⟩) hK hP hD hS hA rfl rfl hl.1 (lv_room (Nat.le_of_ble_eq_true rfl)) dX12_letSyntax_219 hcs (fun r_33 N_29 G_30 B_31 pl_32 hw H locs hP hD hS => ?_)
        dsimp only at hw
        obtain ⟨e3, e4, e2, hw, e5, e6⟩ := hw
        rw [e6 rfl, e2, e3, e4] at hP hD
        subst hw
        refine bz_ne (tgt := 226) hx hb (by first | omega | exact Nat.lt_of_lt_of_le (hG _ _) (by decide)) dX12_letSyntax_222 (by decide) (fun q9 => absurd q9 (by omega)) (fun c => ?_)
        exact W.vret hx hb hr (fun t ht hW => ⟨⟨(va_up N 33 3, G, B, pl), rfl, ⟨rfl, hrun.fail hbu (by omega) (Or.inl rfl) (by decide) (by decide)⟩, by rw [ht]; exact hP, va_K.moved hW.alike hK, hD⟩, hS.F ht⟩) hS.2.2 dX12_letSyntax_225
      · refine lv_aload_n hx hb dX12_letSyntax_39 rfl (lv_at hl 0 rfl) ?_
        refine mg_12 hx hb hts inX12_letSyntax hown hK hP (hts _ lkX12_letSyntax_f38) dX12_letSyntax_40 ?_
        refine lv_aload_n hx hb dX12_letSyntax_43 rfl (lv_at hl 0 rfl) ?_
        refine lv_iload_n hx hb dX12_letSyntax_44 rfl (lv_at hl 1 rfl) ?_
        refine lv_iconst (v := nI 1) hx hb dX12_letSyntax_45 (by decide) ?_
        obtain ⟨t_34, t_34b, t_34c, t_34d⟩ := ht9.pt (f := f) (k := 1) (hf) (by omega)
        refine mcl_i (As := [.int (nI f), .int (nI 1)]) (rest := [.ref (R 12)]) ⟨hx, hb, hml, hown, hts⟩ (m_part l dC dI cB cC cI cJ cZ z0 R pl N G B f 1 hG2 t_34d t_34 H.size) (cwV 2 hts kX12_letSyntax_X12_part_192 rfl rfl rfl (by decide +kernel) ⟨Nat.le_of_ble_eq_true rfl, Nat.le_of_ble_eq_true rfl⟩) hK hP hD hS hA rfl rfl hl.1 (lv_room (Nat.le_of_ble_eq_true rfl)) dX12_letSyntax_46 hcs (fun r_39 N_35 G_36 B_37 pl_38 hw H locs hP hD hS => ?_)
        dsimp only at hw
        obtain ⟨e1, e2, e3, e4, hw⟩ := hw
        rw [e1, e2, e3, e4] at hP hD
        have hw : r_39 = nI (CH G f 1) := hw
        subst hw
        refine ml_12 hx hb hK hP (by omega) dX12_letSyntax_49 ?_
        refine lv_bipush (v := nI 6) hx hb dX12_letSyntax_50 (by decide) ?_
        refine bn_gt (tgt := 59) hx hb (by first | omega | exact Nat.lt_of_lt_of_le (hG _ _) (by decide)) (by first | omega | exact Nat.lt_of_lt_of_le (hG _ _) (by decide)) dX12_letSyntax_52 (by decide) (fun c4 => ?_) (fun c4 => ?_)
        · refine lv_iconst (v := nI 0) hx hb dX12_letSyntax_59 (by decide) ?_
          refine lv_istore (lv' := [(4, .int (nI 0)), (0, .ref z0), (1, .int (nI f)), (2, .int (nI en)), (3, .int (nI dp))]) hx hb dX12_letSyntax_60 hl (by decide) rfl (fun ls hl => ?_)
          refine lv_iload hx hb dX12_letSyntax_62 (lv_at hl 0 rfl) ?_
          refine bz_eq (tgt := 76) hx hb (by first | omega | exact Nat.lt_of_lt_of_le (hG _ _) (by decide)) dX12_letSyntax_64 (by decide) (fun c => ?_) (fun q9 => absurd q9 (by omega))
          refine lv_iconst (v := nI 0) hx hb dX12_letSyntax_76 (by decide) ?_
          refine lv_istore (lv' := [(5, .int (nI 0)), (4, .int (nI 0)), (0, .ref z0), (1, .int (nI f)), (2, .int (nI en)), (3, .int (nI dp))]) hx hb dX12_letSyntax_77 hl (by decide) rfl (fun ls hl => ?_)
          refine lv_iconst (v := nI 0) hx hb dX12_letSyntax_79 (by decide) ?_
          refine lv_istore (lv' := [(6, .int (nI 0)), (5, .int (nI 0)), (4, .int (nI 0)), (0, .ref z0), (1, .int (nI f)), (2, .int (nI en)), (3, .int (nI dp))]) hx hb dX12_letSyntax_80 hl (by decide) rfl (fun ls hl => ?_)
          refine lv_iload hx hb dX12_letSyntax_82 (lv_at hl 2 rfl) ?_
          refine bz_eq (tgt := 215) hx hb (by first | omega | exact Nat.lt_of_lt_of_le (hG _ _) (by decide)) dX12_letSyntax_84 (by decide) (fun c => ?_) (fun q9 => absurd q9 (by omega))
          have hrun : RUN N G B sz N G B az w 0 := RUN.start hxi htk h33
          have hnum := hrun.num hbu (by omega) (by omega)
          have hG2 := hrun.1.1.1
          have htr := hrun.1.1.2.2.1
          have hal2 := hrun.1.1.2.1
          have n14 := hrun.2.2.2.2.2.2.2.1
          have n23 := hrun.2.2.2.2.2.2.2.2
          have n33 := hrun.2.2.2.2.2.1
          refine lv_aload_n hx hb dX12_letSyntax_215 rfl (lv_at hl 3 rfl) ?_
          refine lv_iload hx hb dX12_letSyntax_216 (lv_at hl 2 rfl) ?_
          refine lv_iconst (v := nI 3) hx hb dX12_letSyntax_218 (by decide) ?_
          refine mcl_i (As := [.int (nI 0), .int (nI 3)]) (rest := []) ⟨hx, hb, hml, hown, hts⟩ (m_need l dC dI cB cC cI cJ cZ z0 R pl N G B 0 3 (by decide) ⟨by decide, by decide⟩ n33 H.size) (cwV 2 hts kX12_letSyntax_X12_need_255 rfl rfl rfl (by decide +kernel) ⟨Nat.le_of_ble_eq_true rfl, Nat.le_of_ble_eq_true rfl⟩) hK hP hD hS hA rfl rfl hl.1 (lv_room (Nat.le_of_ble_eq_true rfl)) dX12_letSyntax_219 hcs (fun r_44 N_40 G_41 B_42 pl_43 hw H locs hP hD hS => ?_)
          dsimp only at hw
          obtain ⟨e3, e4, e2, hw, e5, e6⟩ := hw
          rw [e6 rfl, e2, e3, e4] at hP hD
          subst hw
          refine bz_ne (tgt := 226) hx hb (by first | omega | exact Nat.lt_of_lt_of_le (hG _ _) (by decide)) dX12_letSyntax_222 (by decide) (fun q9 => absurd q9 (by omega)) (fun c => ?_)
          exact W.vret hx hb hr (fun t ht hW => ⟨⟨(va_up N 33 3, G, B, pl), rfl, ⟨rfl, hrun.fail hbu (by omega) (Or.inl rfl) (by decide) (by decide)⟩, by rw [ht]; exact hP, va_K.moved hW.alike hK, hD⟩, hS.F ht⟩) hS.2.2 dX12_letSyntax_225
        · refine lv_iconst (v := nI 1) hx hb dX12_letSyntax_55 (by decide) ?_
          refine lv_goto (tgt := 60) hx hb dX12_letSyntax_56 (by decide) ?_
          refine lv_istore (lv' := [(4, .int (nI 1)), (0, .ref z0), (1, .int (nI f)), (2, .int (nI en)), (3, .int (nI dp))]) hx hb dX12_letSyntax_60 hl (by decide) rfl (fun ls hl => ?_)
          refine lv_iload hx hb dX12_letSyntax_62 (lv_at hl 0 rfl) ?_
          refine bz_eq (tgt := 76) hx hb (by first | omega | exact Nat.lt_of_lt_of_le (hG _ _) (by decide)) dX12_letSyntax_64 (by decide) (fun q9 => absurd q9 (by omega)) (fun c => ?_)
          refine lv_aload_n hx hb dX12_letSyntax_67 rfl (lv_at hl 1 rfl) ?_
          refine lv_iload_n hx hb dX12_letSyntax_68 rfl (lv_at hl 2 rfl) ?_
          refine lv_iconst (v := nI 1) hx hb dX12_letSyntax_69 (by decide) ?_
          obtain ⟨t_45, t_45b, t_45c, t_45d⟩ := ht9.pt (f := f) (k := 1) (hf) (by omega)
          refine mcl_i (As := [.int (nI f), .int (nI 1)]) (rest := []) ⟨hx, hb, hml, hown, hts⟩ (m_part l dC dI cB cC cI cJ cZ z0 R pl N G B f 1 hG2 t_45d t_45 H.size) (cwV 2 hts kX12_letSyntax_X12_part_192 rfl rfl rfl (by decide +kernel) ⟨Nat.le_of_ble_eq_true rfl, Nat.le_of_ble_eq_true rfl⟩) hK hP hD hS hA rfl rfl hl.1 (lv_room (Nat.le_of_ble_eq_true rfl)) dX12_letSyntax_70 hcs (fun r_50 N_46 G_47 B_48 pl_49 hw H locs hP hD hS => ?_)
          dsimp only at hw
          obtain ⟨e1, e2, e3, e4, hw⟩ := hw
          rw [e1, e2, e3, e4] at hP hD
          have hw : r_50 = nI (CH G f 1) := hw
          subst hw
          obtain ⟨ps, eps⟩ : ∃ ps, ps = CH G f 1 := ⟨_, rfl⟩
          rw [← eps] at hc1 g10 g12 c2 c3 c4
          refine lv_goto (tgt := 77) hx hb dX12_letSyntax_73 (by decide) ?_
          refine tp_i (y := nI ps) (by rw [eps]) ?_
          refine lv_istore (lv' := [(5, .int (nI ps)), (4, .int (nI 1)), (0, .ref z0), (1, .int (nI f)), (2, .int (nI en)), (3, .int (nI dp))]) hx hb dX12_letSyntax_77 hl (by decide) rfl (fun ls hl => ?_)
          refine lv_iconst (v := nI 0) hx hb dX12_letSyntax_79 (by decide) ?_
          refine lv_istore (lv' := [(6, .int (nI 0)), (5, .int (nI ps)), (4, .int (nI 1)), (0, .ref z0), (1, .int (nI f)), (2, .int (nI en)), (3, .int (nI dp))]) hx hb dX12_letSyntax_80 hl (by decide) rfl (fun ls hl => ?_)
          refine lp_let2 hx hb hml hown hts hK hA hG ht9 hal f en dp ps (fun fi H locs hfi hP0 hP hD hS ls hl => ?_) _ 0 1 (Nat.lt_succ_self _) (by decide) (by decide) (fun _ => ⟨hc1, by omega, by omega, fun i hi => absurd hi (Nat.not_lt_zero i)⟩) _ _ hP hD hS ls (lv_sub hl [3, 4, 5, 6, 2, 1, 0] rfl)
          rcases (show fi = 0 ∨ fi = 1 by omega) with hz | hz
          · subst hz
            have hrun : RUN N G B sz N G B az w 0 := RUN.start hxi htk h33
            have hnum := hrun.num hbu (by omega) (by omega)
            have hG2 := hrun.1.1.1
            have htr := hrun.1.1.2.2.1
            have hal2 := hrun.1.1.2.1
            have n14 := hrun.2.2.2.2.2.2.2.1
            have n23 := hrun.2.2.2.2.2.2.2.2
            have n33 := hrun.2.2.2.2.2.1
            refine lv_aload_n hx hb dX12_letSyntax_215 rfl (lv_at hl 0 rfl) ?_
            refine lv_iload hx hb dX12_letSyntax_216 (lv_at hl 4 rfl) ?_
            refine lv_iconst (v := nI 3) hx hb dX12_letSyntax_218 (by decide) ?_
            refine mcl_i (As := [.int (nI 0), .int (nI 3)]) (rest := []) ⟨hx, hb, hml, hown, hts⟩ (m_need l dC dI cB cC cI cJ cZ z0 R pl N G B 0 3 (by decide) ⟨by decide, by decide⟩ n33 H.size) (cwV 2 hts kX12_letSyntax_X12_need_255 rfl rfl rfl (by decide +kernel) ⟨Nat.le_of_ble_eq_true rfl, Nat.le_of_ble_eq_true rfl⟩) hK hP hD hS hA rfl rfl hl.1 (lv_room (Nat.le_of_ble_eq_true rfl)) dX12_letSyntax_219 hcs (fun r_55 N_51 G_52 B_53 pl_54 hw H locs hP hD hS => ?_)
            dsimp only at hw
            obtain ⟨e3, e4, e2, hw, e5, e6⟩ := hw
            rw [e6 rfl, e2, e3, e4] at hP hD
            subst hw
            refine bz_ne (tgt := 226) hx hb (by first | omega | exact Nat.lt_of_lt_of_le (hG _ _) (by decide)) dX12_letSyntax_222 (by decide) (fun q9 => absurd q9 (by omega)) (fun c => ?_)
            exact W.vret hx hb hr (fun t ht hW => ⟨⟨(va_up N 33 3, G, B, pl), rfl, ⟨rfl, hrun.fail hbu (by omega) (Or.inl rfl) (by decide) (by decide)⟩, by rw [ht]; exact hP, va_K.moved hW.alike hK, hD⟩, hS.F ht⟩) hS.2.2 dX12_letSyntax_225
          · subst hz
            have hrun : RUN N G B sz N G B az w 0 := RUN.start hxi htk h33
            have hnum := hrun.num hbu (by omega) (by omega)
            have hG2 := hrun.1.1.1
            have htr := hrun.1.1.2.2.1
            have hal2 := hrun.1.1.2.1
            have n14 := hrun.2.2.2.2.2.2.2.1
            have n23 := hrun.2.2.2.2.2.2.2.2
            have n33 := hrun.2.2.2.2.2.1
            refine lv_aload_n hx hb dX12_letSyntax_215 rfl (lv_at hl 0 rfl) ?_
            refine lv_iload hx hb dX12_letSyntax_216 (lv_at hl 4 rfl) ?_
            refine lv_iconst (v := nI 3) hx hb dX12_letSyntax_218 (by decide) ?_
            refine mcl_i (As := [.int (nI 1), .int (nI 3)]) (rest := []) ⟨hx, hb, hml, hown, hts⟩ (m_need l dC dI cB cC cI cJ cZ z0 R pl N G B 1 3 (by decide) ⟨by decide, by decide⟩ n33 H.size) (cwV 2 hts kX12_letSyntax_X12_need_255 rfl rfl rfl (by decide +kernel) ⟨Nat.le_of_ble_eq_true rfl, Nat.le_of_ble_eq_true rfl⟩) hK hP hD hS hA rfl rfl hl.1 (lv_room (Nat.le_of_ble_eq_true rfl)) dX12_letSyntax_219 hcs (fun r_60 N_56 G_57 B_58 pl_59 hw H locs hP hD hS => ?_)
            dsimp only at hw
            obtain ⟨e3, e4, e2, hw, e5, e6⟩ := hw
            rw [e5 rfl, e2, e3, e4] at hP hD
            subst hw
            have hps := hP0 rfl
            have hev := hxi.2.2.2.1
            refine bz_ne (tgt := 226) hx hb (by first | omega | exact Nat.lt_of_lt_of_le (hG _ _) (by decide)) dX12_letSyntax_222 (by decide) (fun c => ?_) (fun q9 => absurd q9 (by omega))
            refine lv_aload_n hx hb dX12_letSyntax_226 rfl (lv_at hl 0 rfl) ?_
            refine lv_iload_n hx hb dX12_letSyntax_227 rfl (lv_at hl 2 rfl) ?_
            refine mcl_i (As := [.int (nI en)]) (rest := []) ⟨hx, hb, hml, hown, hts⟩ (m_newEnvironment l dC dI cB cC cI cJ cZ z0 R pl N G B en (by omega) H.size) (cwV 1 hts kX12_letSyntax_X12_newEnvironment_294 rfl rfl rfl (by decide +kernel) ⟨Nat.le_of_ble_eq_true rfl, Nat.le_of_ble_eq_true rfl⟩) hK hP hD hS hA rfl rfl hl.1 (lv_room (Nat.le_of_ble_eq_true rfl)) dX12_letSyntax_228 hcs (fun r_65 N_61 G_62 B_63 pl_64 hw H locs hP hD hS => ?_)
            dsimp only at hw
            obtain ⟨e3, e4, e1, e2, hw⟩ := hw
            have hls : LSI N G B sz az w ps 0 N_61 G_62 := by rw [e1, e2]; exact LSI.start hxi htk h33 hen hb23
            rw [e3, e4] at hP hD
            subst hw
            refine lv_istore (lv' := [(6, .int (nI (N 23))), (0, .ref z0), (1, .int (nI f)), (2, .int (nI en)), (3, .int (nI dp)), (4, .int (nI 1)), (5, .int (nI ps))]) hx hb dX12_letSyntax_231 hl (by decide) rfl (fun ls hl => ?_)
            refine lv_iconst (v := nI 0) hx hb dX12_letSyntax_233 (by decide) ?_
            refine lv_istore (lv' := [(7, .int (nI 0)), (6, .int (nI (N 23))), (0, .ref z0), (1, .int (nI f)), (2, .int (nI en)), (3, .int (nI dp)), (4, .int (nI 1)), (5, .int (nI ps))]) hx hb dX12_letSyntax_234 hl (by decide) rfl (fun ls hl => ?_)
            refine lp_let3 hx hb hml hown hts hK hA hxi htk h33 hf hen hdp hbu hb23 hb27 hb34 ps (N 23) hps (fun M K H locs hls hP hD hS ls hl => ?_) _ 0 N_61 G_62 (Nat.lt_succ_self _) (Nat.zero_le _) hls _ _ hP hD hS ls (lv_sub hl [2, 3, 5, 6, 7, 1, 0] rfl)
            have hGm := hls.1.1.1
            have hmf := hls.1.2.2.2.2.2.1
            refine lv_iconst (v := nI 0) hx hb dX12_letSyntax_290 (by decide) ?_
            refine lv_istore (lv' := [(7, .int (nI 0)), (0, .ref z0), (1, .int (nI f)), (3, .int (nI dp)), (4, .int (nI 1)), (5, .int (nI ps)), (6, .int (nI (N 23)))]) hx hb dX12_letSyntax_291 hl (by decide) rfl (fun ls hl => ?_)
            have hP : va_P (dC, dI) vwCl (MW cB cC cI cJ cZ z0 R pl (SCN M (M 49) (M 53)) (SCG K K) B) H := by rw [SCN_self, SCG_self]; exact hP
            have hD : va_D A (MW cB cC cI cJ cZ z0 R pl (SCN M (M 49) (M 53)) (SCG K K) B) := by rw [SCN_self, SCG_self]; exact hD
            refine lp_let4 hx hb hml hown hts hK hA hxi htk h33 hf hen hdp hbu hb23 hb27 hb34 ps (N 23) hps M K hls rfl (fun fi vc q g H locs hg hv1 hq1 hfi hro hP hD hS ls hl => ?_) _ 0 1 (M 49) (M 53) K (Nat.lt_succ_self _) (by decide) hGm hmf.1 hmf.2.1 (by decide) (fun _ i hi => absurd hi (Nat.not_lt_zero i)) _ _ hP hD hS ls (lv_sub hl [1, 2, 3, 4, 5, 6, 0] rfl)
            have h33m : M 33 = 0 := hls.2.2.2.1.2.2
            have hco := hls.2.2.2.2.1
            have m23 : M 23 = N 23 + 1 := hls.2.2.2.2.2.2.1
            have m14 : M 14 = N 14 := hls.2.2.2.2.2.1
            rcases (show fi = 0 ∨ fi = 1 by omega) with hz | hz
            · subst hz
              refine lv_aload_n hx hb dX12_letSyntax_345 rfl (lv_at hl 0 rfl) ?_
              refine lv_iload hx hb dX12_letSyntax_346 (lv_at hl 3 rfl) ?_
              refine lv_iconst (v := nI 3) hx hb dX12_letSyntax_348 (by decide) ?_
              refine mcl_i (As := [.int (nI 0), .int (nI 3)]) (rest := []) ⟨hx, hb, hml, hown, hts⟩ (m_need l dC dI cB cC cI cJ cZ z0 R pl (SCN M vc q) (SCG K g) B 0 3 (by decide) ⟨by decide, by decide⟩ (show (SCN M vc q) 33 = 0 from h33m) H.size) (cwV 2 hts kX12_letSyntax_X12_need_255 rfl rfl rfl (by decide +kernel) ⟨Nat.le_of_ble_eq_true rfl, Nat.le_of_ble_eq_true rfl⟩) hK hP hD hS hA rfl rfl hl.1 (lv_room (Nat.le_of_ble_eq_true rfl)) dX12_letSyntax_349 hcs (fun r_70 N_66 G_67 B_68 pl_69 hw H locs hP hD hS => ?_)
              dsimp only at hw
              obtain ⟨e3, e4, e2, hw, e5, e6⟩ := hw
              rw [e6 rfl, e2, e3, e4] at hP hD
              subst hw
              refine bz_eq (tgt := 371) hx hb (by first | omega | exact Nat.lt_of_lt_of_le (hG _ _) (by decide)) dX12_letSyntax_352 (by decide) (fun c => ?_) (fun q9 => absurd q9 (by omega))
              exact W.vret hx hb hr (fun t ht hW => ⟨⟨(va_up (SCN M vc q) 33 3, SCG K g, B, pl), rfl, ⟨rfl, hls.fail hbu (by omega) hg hv1 hq1 (by decide) (by decide)⟩, by rw [ht]; exact hP, va_K.moved hW.alike hK, hD⟩, hS.F ht⟩) hS.2.2 dX12_letSyntax_371
            · subst hz
              refine lv_aload_n hx hb dX12_letSyntax_345 rfl (lv_at hl 0 rfl) ?_
              refine lv_iload hx hb dX12_letSyntax_346 (lv_at hl 3 rfl) ?_
              refine lv_iconst (v := nI 3) hx hb dX12_letSyntax_348 (by decide) ?_
              refine mcl_i (As := [.int (nI 1), .int (nI 3)]) (rest := []) ⟨hx, hb, hml, hown, hts⟩ (m_need l dC dI cB cC cI cJ cZ z0 R pl (SCN M vc q) (SCG K g) B 1 3 (by decide) ⟨by decide, by decide⟩ (show (SCN M vc q) 33 = 0 from h33m) H.size) (cwV 2 hts kX12_letSyntax_X12_need_255 rfl rfl rfl (by decide +kernel) ⟨Nat.le_of_ble_eq_true rfl, Nat.le_of_ble_eq_true rfl⟩) hK hP hD hS hA rfl rfl hl.1 (lv_room (Nat.le_of_ble_eq_true rfl)) dX12_letSyntax_349 hcs (fun r_75 N_71 G_72 B_73 pl_74 hw H locs hP hD hS => ?_)
              dsimp only at hw
              obtain ⟨e3, e4, e2, hw, e5, e6⟩ := hw
              rw [e5 rfl, e2, e3, e4] at hP hD
              subst hw
              obtain ⟨hp1, hp2, hp3, hp4⟩ := id hps
              have hr0 := hls.done hxi h33 (fun i hi => ⟨(ht9.pt (ht9.pt hp1 hi).2.1 (show 1 < G 12 (CH G ps i) by rw [hp4 i hi]; decide)).2.1, hro rfl i hi⟩)
              have hrun := hr0.scr hg hv1 hq1
              have hs2 := ht9.lt hf (show 2 < G 12 f by omega)
              have hp2 := (ht9.pt hf (show 2 < G 12 f by omega)).2.1
              have hnum := hrun.num hbu (by omega) (by omega)
              have hG2 := hrun.1.1.1
              have htr := hrun.1.1.2.2.1
              have hal2 := hrun.1.1.2.1
              have n14 := hrun.2.2.2.2.2.2.2.1
              have n23 := hrun.2.2.2.2.2.2.2.2
              have n33 := hrun.2.2.2.2.2.1
              have hG2 := SCG_bd hGm hg
              refine bz_eq (tgt := 371) hx hb (by first | omega | exact Nat.lt_of_lt_of_le (hG _ _) (by decide)) dX12_letSyntax_352 (by decide) (fun q9 => absurd q9 (by omega)) (fun c => ?_)
              refine lv_aload_n hx hb dX12_letSyntax_355 rfl (lv_at hl 0 rfl) ?_
              refine lv_iconst (v := nI 0) hx hb dX12_letSyntax_356 (by decide) ?_
              refine lv_aload_n hx hb dX12_letSyntax_357 rfl (lv_at hl 0 rfl) ?_
              refine lv_iload_n hx hb dX12_letSyntax_358 rfl (lv_at hl 1 rfl) ?_
              refine lv_iconst (v := nI 2) hx hb dX12_letSyntax_359 (by decide) ?_
              obtain ⟨t_76, t_76b, t_76c, t_76d⟩ := ht9.pt (f := f) (k := 2) (hf) (by omega)
              refine mcl_i (As := [.int (nI f), .int (nI 2)]) (rest := [.int (nI 0), .ref z0]) ⟨hx, hb, hml, hown, hts⟩ (m_part l dC dI cB cC cI cJ cZ z0 R pl (SCN M vc q) (SCG K g) B f 2 hG2 t_76d (show K 11 f + 2 < 90000 by rw [hco.2.1]; exact t_76) H.size) (cwV 2 hts kX12_letSyntax_X12_part_192 rfl rfl rfl (by decide +kernel) ⟨Nat.le_of_ble_eq_true rfl, Nat.le_of_ble_eq_true rfl⟩) hK hP hD hS hA rfl rfl hl.1 (lv_room (Nat.le_of_ble_eq_true rfl)) dX12_letSyntax_360 hcs (fun r_81 N_77 G_78 B_79 pl_80 hw H locs hP hD hS => ?_)
              dsimp only at hw
              obtain ⟨e1, e2, e3, e4, hw⟩ := hw
              rw [e1, e2, e3, e4] at hP hD
              subst hw
              refine tp_i (y := nI (CH G f 2)) (by show nI (K 13 (K 11 f + 2)) = _; rw [hco.2.1, hco.2.2.2.1]) ?_
              refine lv_iload hx hb dX12_letSyntax_363 (lv_at hl 5 rfl) ?_
              refine lv_iload_n hx hb dX12_letSyntax_365 rfl (lv_at hl 2 rfl) ?_
              refine lv_iconst (v := nI 1) hx hb dX12_letSyntax_366 (by decide) ?_
              refine lv_iadd hx hb dX12_letSyntax_367 ?_
              refine tp_i (nI_add dp 1) ?_
              refine mcl_v (As := [.int (nI 0), .int (nI (CH G f 2)), .int (nI (N 23)), .int (nI (dp + 1))]) (rest := []) ⟨hx, hb, hml, hown, hts⟩ (m_task l dC dI cB cC cI cJ cZ z0 R pl (SCN M vc q) (SCG K g) B 0 (CH G f 2) (N 23) (dp + 1) (by decide) (by omega) H.size) (cwV 4 hts kX12_letSyntax_X12_task_232 rfl rfl rfl (by decide +kernel) ⟨Nat.le_of_ble_eq_true rfl, Nat.le_of_ble_eq_true rfl⟩) hK hP hD hS hA rfl rfl hl.1 (lv_room (Nat.le_of_ble_eq_true rfl)) dX12_letSyntax_368 hcs (fun  N_82 G_83 B_84 pl_85 hw H locs hP hD hS => ?_)
              dsimp only at hw
              obtain ⟨e3, e4, e1, e2⟩ := hw
              have hrun : RUN N G B sz N_82 G_83 B az (w + (3 * sz (CH G f 2) - 1)) 0 := by rw [e1, e2]; exact hrun.task (by decide) (fun _ => show _ < M 14 by omega) (fun _ => ⟨show N 23 < M 23 by omega, by omega⟩) (by omega) (by omega) (by omega) (by rw [if_neg (by decide)]; omega)
              rw [e3, e4] at hP hD
              have hnum := hrun.num hbu (by omega) (by omega)
              have hG2 := hrun.1.1.1
              have htr := hrun.1.1.2.2.1
              have hal2 := hrun.1.1.2.1
              have n14 := hrun.2.2.2.2.2.2.2.1
              have n23 := hrun.2.2.2.2.2.2.2.2
              have n33 := hrun.2.2.2.2.2.1
              exact W.vret hx hb hr (fun t ht hW => ⟨⟨(N_82, G_83, B, pl), rfl, ⟨rfl, hrun.post hbu (by omega) (by omega)⟩, by rw [ht]; exact hP, va_K.moved hW.alike hK, hD⟩, hS.F ht⟩) hS.2.2 dX12_letSyntax_371
  · rw [if_neg c_1] at hw
    subst hw
    refine bz_eq (tgt := 59) hx hb (by first | omega | exact Nat.lt_of_lt_of_le (hG _ _) (by decide)) dX12_letSyntax_6 (by decide) (fun c => ?_) (fun q9 => absurd q9 (by omega))
    refine lv_iconst (v := nI 0) hx hb dX12_letSyntax_59 (by decide) ?_
    refine lv_istore (lv' := [(4, .int (nI 0)), (0, .ref z0), (1, .int (nI f)), (2, .int (nI en)), (3, .int (nI dp))]) hx hb dX12_letSyntax_60 hl (by decide) rfl (fun ls hl => ?_)
    refine lv_iload hx hb dX12_letSyntax_62 (lv_at hl 0 rfl) ?_
    refine bz_eq (tgt := 76) hx hb (by first | omega | exact Nat.lt_of_lt_of_le (hG _ _) (by decide)) dX12_letSyntax_64 (by decide) (fun c => ?_) (fun q9 => absurd q9 (by omega))
    refine lv_iconst (v := nI 0) hx hb dX12_letSyntax_76 (by decide) ?_
    refine lv_istore (lv' := [(5, .int (nI 0)), (4, .int (nI 0)), (0, .ref z0), (1, .int (nI f)), (2, .int (nI en)), (3, .int (nI dp))]) hx hb dX12_letSyntax_77 hl (by decide) rfl (fun ls hl => ?_)
    refine lv_iconst (v := nI 0) hx hb dX12_letSyntax_79 (by decide) ?_
    refine lv_istore (lv' := [(6, .int (nI 0)), (5, .int (nI 0)), (4, .int (nI 0)), (0, .ref z0), (1, .int (nI f)), (2, .int (nI en)), (3, .int (nI dp))]) hx hb dX12_letSyntax_80 hl (by decide) rfl (fun ls hl => ?_)
    refine lv_iload hx hb dX12_letSyntax_82 (lv_at hl 2 rfl) ?_
    refine bz_eq (tgt := 215) hx hb (by first | omega | exact Nat.lt_of_lt_of_le (hG _ _) (by decide)) dX12_letSyntax_84 (by decide) (fun c => ?_) (fun q9 => absurd q9 (by omega))
    have hrun : RUN N G B sz N G B az w 0 := RUN.start hxi htk h33
    have hnum := hrun.num hbu (by omega) (by omega)
    have hG2 := hrun.1.1.1
    have htr := hrun.1.1.2.2.1
    have hal2 := hrun.1.1.2.1
    have n14 := hrun.2.2.2.2.2.2.2.1
    have n23 := hrun.2.2.2.2.2.2.2.2
    have n33 := hrun.2.2.2.2.2.1
    refine lv_aload_n hx hb dX12_letSyntax_215 rfl (lv_at hl 3 rfl) ?_
    refine lv_iload hx hb dX12_letSyntax_216 (lv_at hl 2 rfl) ?_
    refine lv_iconst (v := nI 3) hx hb dX12_letSyntax_218 (by decide) ?_
    refine mcl_i (As := [.int (nI 0), .int (nI 3)]) (rest := []) ⟨hx, hb, hml, hown, hts⟩ (m_need l dC dI cB cC cI cJ cZ z0 R pl N G B 0 3 (by decide) ⟨by decide, by decide⟩ n33 H.size) (cwV 2 hts kX12_letSyntax_X12_need_255 rfl rfl rfl (by decide +kernel) ⟨Nat.le_of_ble_eq_true rfl, Nat.le_of_ble_eq_true rfl⟩) hK hP hD hS hA rfl rfl hl.1 (lv_room (Nat.le_of_ble_eq_true rfl)) dX12_letSyntax_219 hcs (fun r_11 N_7 G_8 B_9 pl_10 hw H locs hP hD hS => ?_)
    dsimp only at hw
    obtain ⟨e3, e4, e2, hw, e5, e6⟩ := hw
    rw [e6 rfl, e2, e3, e4] at hP hD
    subst hw
    refine bz_ne (tgt := 226) hx hb (by first | omega | exact Nat.lt_of_lt_of_le (hG _ _) (by decide)) dX12_letSyntax_222 (by decide) (fun q9 => absurd q9 (by omega)) (fun c => ?_)
    exact W.vret hx hb hr (fun t ht hW => ⟨⟨(va_up N 33 3, G, B, pl), rfl, ⟨rfl, hrun.fail hbu (by omega) (Or.inl rfl) (by decide) (by decide)⟩, by rw [ht]; exact hP, va_K.moved hW.alike hK, hD⟩, hS.F ht⟩) hS.2.2 dX12_letSyntax_225
