def oX12_areRules : List Cond := [Cond.fieldLink RX12 38 "MacroScopesModel" "counts" "[I", Cond.methodLink RX12 192 yX12_part, Cond.instanceMethod yX12_part, Cond.selects RX12 yX12_part yX12_part, Cond.initialized RX12, Cond.methodLink RX12 276 yX12_isList, Cond.instanceMethod yX12_isList, Cond.selects RX12 yX12_isList yX12_isList, Cond.fieldLink RX12 32 "MacroScopesModel" "kinds" "[B", Cond.methodLink RX12 312 yX12_isPattern, Cond.instanceMethod yX12_isPattern, Cond.selects RX12 yX12_isPattern yX12_isPattern, Cond.methodLink RX12 315 yX12_isTemplate, Cond.instanceMethod yX12_isTemplate, Cond.selects RX12 yX12_isTemplate yX12_isTemplate, Cond.methodLink RX12 291 yX12_isBindable, Cond.instanceMethod yX12_isBindable, Cond.selects RX12 yX12_isBindable yX12_isBindable, Cond.methodLink RX12 180 yX12_isName, Cond.instanceMethod yX12_isName, Cond.selects RX12 yX12_isName yX12_isName, Cond.fieldLink RX12 35 "MacroScopesModel" "values" "[I", Cond.methodLink RX12 252 yX12_meaning, Cond.instanceMethod yX12_meaning, Cond.selects RX12 yX12_meaning yX12_meaning]
def vX12_areRules : List Cond := .code yX12_areRules cX12_areRules 6 (some .boolean) :: (oX12_areRules ++ (vX12_part ++ (vX12_isList ++ (vX12_isPattern ++ (vX12_isTemplate ++ (vX12_isBindable ++ (vX12_isName ++ (vX12_meaning ++ (wsX120)))))))))
theorem lkX12_areRules_f38 : Cond.fieldLink RX12 38 "MacroScopesModel" "counts" "[I" ∈ vX12_areRules := List.mem_cons_of_mem _ (List.mem_append_left _ (List.mem_of_getElem? (i := 0) rfl))
theorem lkX12_areRules_f32 : Cond.fieldLink RX12 32 "MacroScopesModel" "kinds" "[B" ∈ vX12_areRules := List.mem_cons_of_mem _ (List.mem_append_left _ (List.mem_of_getElem? (i := 8) rfl))
theorem lkX12_areRules_f35 : Cond.fieldLink RX12 35 "MacroScopesModel" "values" "[I" ∈ vX12_areRules := List.mem_cons_of_mem _ (List.mem_append_left _ (List.mem_of_getElem? (i := 21) rfl))
theorem inX12_areRules : ∀ w ∈ wsX120, w ∈ vX12_areRules := fun w h => List.mem_cons_of_mem _ (List.mem_append_right _ (List.mem_append_right _ (List.mem_append_right _ (List.mem_append_right _ (List.mem_append_right _ (List.mem_append_right _ (List.mem_append_right _ (List.mem_append_right _ (h)))))))))
theorem kX12_areRules_X12_part_192 : GoodIn vX12_areRules (wsV RX12 192 RX12 yX12_part vX12_part) := goodIn_sub (fun w h => (List.mem_append.mp h).elim (fun h => List.mem_cons_of_mem _ (List.mem_append_left _ ((by decide +kernel : ∀ w ∈ ([.methodLink RX12 192 yX12_part, .instanceMethod yX12_part, .selects RX12 yX12_part yX12_part, .initialized RX12] : List Cond), w ∈ oX12_areRules) w h))) (fun h => List.mem_cons_of_mem _ (List.mem_append_right _ (List.mem_append_left _ (h))))) (by decide +kernel)
theorem kX12_areRules_X12_isList_276 : GoodIn vX12_areRules (wsV RX12 276 RX12 yX12_isList vX12_isList) := goodIn_sub (fun w h => (List.mem_append.mp h).elim (fun h => List.mem_cons_of_mem _ (List.mem_append_left _ ((by decide +kernel : ∀ w ∈ ([.methodLink RX12 276 yX12_isList, .instanceMethod yX12_isList, .selects RX12 yX12_isList yX12_isList, .initialized RX12] : List Cond), w ∈ oX12_areRules) w h))) (fun h => List.mem_cons_of_mem _ (List.mem_append_right _ (List.mem_append_right _ (List.mem_append_left _ (h)))))) (by decide +kernel)
theorem kX12_areRules_X12_isPattern_312 : GoodIn vX12_areRules (wsV RX12 312 RX12 yX12_isPattern vX12_isPattern) := goodIn_sub (fun w h => (List.mem_append.mp h).elim (fun h => List.mem_cons_of_mem _ (List.mem_append_left _ ((by decide +kernel : ∀ w ∈ ([.methodLink RX12 312 yX12_isPattern, .instanceMethod yX12_isPattern, .selects RX12 yX12_isPattern yX12_isPattern, .initialized RX12] : List Cond), w ∈ oX12_areRules) w h))) (fun h => List.mem_cons_of_mem _ (List.mem_append_right _ (List.mem_append_right _ (List.mem_append_right _ (List.mem_append_left _ (h))))))) (by decide +kernel)
theorem kX12_areRules_X12_isTemplate_315 : GoodIn vX12_areRules (wsV RX12 315 RX12 yX12_isTemplate vX12_isTemplate) := goodIn_sub (fun w h => (List.mem_append.mp h).elim (fun h => List.mem_cons_of_mem _ (List.mem_append_left _ ((by decide +kernel : ∀ w ∈ ([.methodLink RX12 315 yX12_isTemplate, .instanceMethod yX12_isTemplate, .selects RX12 yX12_isTemplate yX12_isTemplate, .initialized RX12] : List Cond), w ∈ oX12_areRules) w h))) (fun h => List.mem_cons_of_mem _ (List.mem_append_right _ (List.mem_append_right _ (List.mem_append_right _ (List.mem_append_right _ (List.mem_append_left _ (h)))))))) (by decide +kernel)
theorem kX12_areRules_X12_isBindable_291 : GoodIn vX12_areRules (wsV RX12 291 RX12 yX12_isBindable vX12_isBindable) := goodIn_sub (fun w h => (List.mem_append.mp h).elim (fun h => List.mem_cons_of_mem _ (List.mem_append_left _ ((by decide +kernel : ∀ w ∈ ([.methodLink RX12 291 yX12_isBindable, .instanceMethod yX12_isBindable, .selects RX12 yX12_isBindable yX12_isBindable, .initialized RX12] : List Cond), w ∈ oX12_areRules) w h))) (fun h => List.mem_cons_of_mem _ (List.mem_append_right _ (List.mem_append_right _ (List.mem_append_right _ (List.mem_append_right _ (List.mem_append_right _ (List.mem_append_left _ (h))))))))) (by decide +kernel)
theorem kX12_areRules_X12_isName_180 : GoodIn vX12_areRules (wsV RX12 180 RX12 yX12_isName vX12_isName) := goodIn_sub (fun w h => (List.mem_append.mp h).elim (fun h => List.mem_cons_of_mem _ (List.mem_append_left _ ((by decide +kernel : ∀ w ∈ ([.methodLink RX12 180 yX12_isName, .instanceMethod yX12_isName, .selects RX12 yX12_isName yX12_isName, .initialized RX12] : List Cond), w ∈ oX12_areRules) w h))) (fun h => List.mem_cons_of_mem _ (List.mem_append_right _ (List.mem_append_right _ (List.mem_append_right _ (List.mem_append_right _ (List.mem_append_right _ (List.mem_append_right _ (List.mem_append_left _ (h)))))))))) (by decide +kernel)
theorem kX12_areRules_X12_meaning_252 : GoodIn vX12_areRules (wsV RX12 252 RX12 yX12_meaning vX12_meaning) := goodIn_sub (fun w h => (List.mem_append.mp h).elim (fun h => List.mem_cons_of_mem _ (List.mem_append_left _ ((by decide +kernel : ∀ w ∈ ([.methodLink RX12 252 yX12_meaning, .instanceMethod yX12_meaning, .selects RX12 yX12_meaning yX12_meaning, .initialized RX12] : List Cond), w ∈ oX12_areRules) w h))) (fun h => List.mem_cons_of_mem _ (List.mem_append_right _ (List.mem_append_right _ (List.mem_append_right _ (List.mem_append_right _ (List.mem_append_right _ (List.mem_append_right _ (List.mem_append_right _ (List.mem_append_left _ (h))))))))))) (by decide +kernel)
set_option maxHeartbeats 4000000 in
set_option maxRecDepth 100000 in
theorem lp_rul2 {p : Program} {l : Launch} {e : Env} {s : State} {m : MethodId} {args : Array Value} {below : List Frame} {meth : Method} {c : Code} {Q : State → Prop} {A : Nat → Prop} {dC : Nat → ClassId} {dI : Nat → Nat → Nat} {cB cC cI cJ cZ : ClassId} {z0 : Nat} {R : Nat → Nat} (hx : p.tables.exec = Jvm.exec) (hb : c.code = cX12_areRules) (hml : c.maxLocals = 6) (hown : s.vm.findClass RX12 = some m.cls) (hts : ∀ w ∈ vX12_areRules, w.before args s = true) (hK : va_K (dC, dI) vwCl (TY cB cC cI cJ cZ) s) (hA : ∀ q : Nat, s.heap.size ≤ q → A q) {pl : Int32} {N : Nat → Nat} {G : Nat → Nat → Nat} {B : Nat → Nat → Int32} {sz az : Nat → Nat} (hG : ∀ k i, G k i < 1048576) (ht9 : TREE N G sz) (hat : ATOM N G az) (hal : AL N G) (hev : EV N G) (rules : Nat) (hrl : rules < N 14) (ke : ∀ (fi vc q : Nat) (g : Nat → Nat → Nat) (H : Heap) (locs : List Loc), (∀ k i, g k i < 1048576) → vc ≤ 1600 → q ≤ 90000 → fi ≤ 1 → (fi = 1 → RULESOK G sz rules) → va_P (dC, dI) vwCl (MW cB cC cI cJ cZ z0 R pl (SCN N vc q) (SCG G g) B) H → va_D A (MW cB cC cI cJ cZ z0 R pl (SCN N vc q) (SCG G g) B) → va_S A s.heap H locs → ∀ (ls : Array Slot), lv_has ls 6 [(3, .int (nI fi))] → W p l e (headSpec vX12_areRules { frames := 4, cells := 0, slots := 0, locals := 97 }).room s m args below meth c H locs 0 0 Q (F0 m 277 ls [])) : ∀ (k : Nat) (kx fi vc q : Nat) (g : Nat → Nat → Nat), 12 - kx < k → kx ≤ 10 → (∀ k i, g k i < 1048576) → vc ≤ 1600 → q ≤ 90000 → fi ≤ 1 → (fi = 1 → (G 10 rules = 2 ∧ 2 < G 12 rules ∧ G 12 rules ≤ 10) ∧ (∀ j, j < G 12 (CH G rules 1) → G 10 (CH G (CH G rules 1) j) = 1) ∧ ∀ j, 2 ≤ j → j < kx → PAIROK G sz rules (CH G rules j)) → ∀ (H : Heap) (locs : List Loc), va_P (dC, dI) vwCl (MW cB cC cI cJ cZ z0 R pl (SCN N vc q) (SCG G g) B) H → va_D A (MW cB cC cI cJ cZ z0 R pl (SCN N vc q) (SCG G g) B) → va_S A s.heap H locs → ∀ (ls : Array Slot), lv_has ls 6 [(0, .ref z0), (1, .int (nI rules)), (3, .int (nI fi)), (4, .int (nI kx))] → W p l e (headSpec vX12_areRules { frames := 4, cells := 0, slots := 0, locals := 97 }).room s m args below meth c H locs 0 0 Q (F0 m 161 ls []) := by
  have hcs : 0 + 0 ≤ (0 : Nat) ∧ 0 + 0 ≤ (0 : Nat) := ⟨Nat.le_refl 0, Nat.le_refl 0⟩
  intro k
  induction k with
  | zero =>
    intro kx fi vc q g hk hkb hg hv1 hq1 hfi1 hfi
    omega
  | succ k ih =>
    intro kx fi vc q g hk hkb hg hv1 hq1 hfi1 hfi H locs hP hD hS ls hl
    have u6 := ht9.1
    have hG2 := SCG_bd hG hg
    have g1 := hG 12 rules
    have hr9 : rules < 90000 := by omega
    refine lv_iload_n hx hb dX12_areRules_161 rfl (lv_at hl 2 rfl) ?_
    refine bz_eq (tgt := 277) hx hb (by first | omega | exact Nat.lt_of_lt_of_le (hG _ _) (by decide)) dX12_areRules_162 (by decide) (fun c1 => ?_) (fun c1 => ?_)
    · exact ke fi vc q g H locs hg hv1 hq1 hfi1 (fun z => absurd z (by omega)) hP hD hS ls (lv_sub hl [2] rfl)
    · obtain rfl : fi = 1 := by omega
      obtain ⟨⟨f1, f2, f3⟩, f4, f5⟩ := hfi rfl
      refine lv_iload hx hb dX12_areRules_165 (lv_at hl 3 rfl) ?_
      refine lv_aload_n hx hb dX12_areRules_167 rfl (lv_at hl 0 rfl) ?_
      refine mg_12 hx hb hts inX12_areRules hown hK hP (hts _ lkX12_areRules_f38) dX12_areRules_168 ?_
      refine lv_iload_n hx hb dX12_areRules_171 rfl (lv_at hl 1 rfl) ?_
      refine ml_12 hx hb hK hP (by omega) dX12_areRules_172 ?_
      refine tp_i (y := nI (G 12 rules)) rfl ?_
      refine bn_ge (tgt := 277) hx hb (by first | omega | exact Nat.lt_of_lt_of_le (hG _ _) (by decide)) (by first | omega | exact Nat.lt_of_lt_of_le (hG _ _) (by decide)) dX12_areRules_173 (by decide) (fun c2 => ?_) (fun c2 => ?_)
      · exact ke 1 vc q g H locs hg hv1 hq1 (by decide) (fun _ => ⟨f1, f2, f3, f4, fun j h1 h2 => f5 j h1 (by omega)⟩) hP hD hS ls (lv_sub hl [2] rfl)
      · have pr1 := (ht9.pt hrl c2).2.1
        have g2 := hG 12 (CH G rules kx)
        refine lv_aload_n hx hb dX12_areRules_176 rfl (lv_at hl 0 rfl) ?_
        refine lv_iload_n hx hb dX12_areRules_177 rfl (lv_at hl 1 rfl) ?_
        refine lv_iload hx hb dX12_areRules_178 (lv_at hl 3 rfl) ?_
        obtain ⟨t_1, t_1b, t_1c, t_1d⟩ := ht9.pt (f := rules) (k := kx) (by first | assumption | omega) (by first | assumption | omega)
        refine mcl_i (As := [.int (nI rules), .int (nI kx)]) (rest := []) ⟨hx, hb, hml, hown, hts⟩ (m_part l dC dI cB cC cI cJ cZ z0 R pl (SCN N vc q) (SCG G g) B rules kx hG2 t_1d t_1 H.size) (cwV 2 hts kX12_areRules_X12_part_192 rfl rfl rfl (by decide +kernel) ⟨Nat.le_of_ble_eq_true rfl, Nat.le_of_ble_eq_true rfl⟩) hK hP hD hS hA rfl rfl hl.1 (lv_room (Nat.le_of_ble_eq_true rfl)) dX12_areRules_180 hcs (fun r_6 N_2 G_3 B_4 pl_5 hw H locs hP hD hS => ?_)
        dsimp only at hw
        obtain ⟨e1, e2, e3, e4, hw⟩ := hw
        rw [e1, e2, e3, e4] at hP hD
        have hw : r_6 = nI (CH G rules kx) := hw
        subst hw
        refine lv_istore (lv' := [(5, .int (nI (CH G rules kx))), (0, .ref z0), (1, .int (nI rules)), (3, .int (nI 1)), (4, .int (nI kx))]) hx hb dX12_areRules_183 hl (by decide) rfl (fun ls hl => ?_)
        refine lv_aload_n hx hb dX12_areRules_185 rfl (lv_at hl 1 rfl) ?_
        refine lv_iload hx hb dX12_areRules_186 (lv_at hl 0 rfl) ?_
        refine lv_iconst (v := nI 2) hx hb dX12_areRules_188 (by decide) ?_
        refine mcl_i (As := [.int (nI (CH G rules kx)), .int (nI 2)]) (rest := []) ⟨hx, hb, hml, hown, hts⟩ (m_isList l dC dI cB cC cI cJ cZ z0 R pl (SCN N vc q) (SCG G g) B (CH G rules kx) 2 hG2 (by omega) (by omega) H.size) (cwV 2 hts kX12_areRules_X12_isList_276 rfl rfl rfl (by decide +kernel) ⟨Nat.le_of_ble_eq_true rfl, Nat.le_of_ble_eq_true rfl⟩) hK hP hD hS hA rfl rfl hl.1 (lv_room (Nat.le_of_ble_eq_true rfl)) dX12_areRules_189 hcs (fun r_12 N_8 G_9 B_10 pl_11 hw H locs hP hD hS => ?_)
        dsimp only at hw
        obtain ⟨e1, e2, e3, e4, hw⟩ := hw
        rw [e1, e2, e3, e4] at hP hD
        have hw : r_12 = nI (if G 10 (CH G rules kx) = 2 ∧ G 12 (CH G rules kx) = 2 then 1 else 0) := hw
        by_cases c_7 : G 10 (CH G rules kx) = 2 ∧ G 12 (CH G rules kx) = 2
        · rw [if_pos c_7] at hw
          subst hw
          obtain ⟨d1, d2⟩ := c_7
          have pr2 := (ht9.pt pr1 (show 0 < G 12 (CH G rules kx) by omega))
          have pr3 := (ht9.pt pr1 (show 1 < G 12 (CH G rules kx) by omega))
          have g3 := hG 12 (CH G (CH G rules kx) 0)
          have g4 := hG 10 (CH G (CH G rules kx) 0)
          refine bz_eq (tgt := 230) hx hb (by first | omega | exact Nat.lt_of_lt_of_le (hG _ _) (by decide)) dX12_areRules_192 (by decide) (fun q9 => absurd q9 (by omega)) (fun c => ?_)
          refine lv_aload_n hx hb dX12_areRules_195 rfl (lv_at hl 1 rfl) ?_
          refine mg_10 hx hb hts inX12_areRules hown hK hP (hts _ lkX12_areRules_f32) dX12_areRules_196 ?_
          refine lv_aload_n hx hb dX12_areRules_199 rfl (lv_at hl 1 rfl) ?_
          refine lv_iload hx hb dX12_areRules_200 (lv_at hl 0 rfl) ?_
          refine lv_iconst (v := nI 0) hx hb dX12_areRules_202 (by decide) ?_
          obtain ⟨t_13, t_13b, t_13c, t_13d⟩ := ht9.pt (f := CH G rules kx) (k := 0) (by first | assumption | omega) (by first | assumption | omega)
          refine mcl_i (As := [.int (nI (CH G rules kx)), .int (nI 0)]) (rest := [.ref (R 10)]) ⟨hx, hb, hml, hown, hts⟩ (m_part l dC dI cB cC cI cJ cZ z0 R pl (SCN N vc q) (SCG G g) B (CH G rules kx) 0 hG2 t_13d t_13 H.size) (cwV 2 hts kX12_areRules_X12_part_192 rfl rfl rfl (by decide +kernel) ⟨Nat.le_of_ble_eq_true rfl, Nat.le_of_ble_eq_true rfl⟩) hK hP hD hS hA rfl rfl hl.1 (lv_room (Nat.le_of_ble_eq_true rfl)) dX12_areRules_203 hcs (fun r_18 N_14 G_15 B_16 pl_17 hw H locs hP hD hS => ?_)
          dsimp only at hw
          obtain ⟨e1, e2, e3, e4, hw⟩ := hw
          rw [e1, e2, e3, e4] at hP hD
          have hw : r_18 = nI (CH G (CH G rules kx) 0) := hw
          subst hw
          refine ml_10 hx hb hK hP (by omega) dX12_areRules_206 ?_
          refine tp_i (y := nI (G 10 (CH G (CH G rules kx) 0))) rfl ?_
          refine lv_iconst (v := nI 2) hx hb dX12_areRules_207 (by decide) ?_
          refine bn_ne (tgt := 230) hx hb (by first | omega | exact Nat.lt_of_lt_of_le (hG _ _) (by decide)) (by first | omega | exact Nat.lt_of_lt_of_le (hG _ _) (by decide)) dX12_areRules_208 (by decide) (fun d3 => ?_) (fun d3 => ?_)
          · refine lv_iconst (v := nI 0) hx hb dX12_areRules_230 (by decide) ?_
            refine lv_istore_n (lv' := [(3, .int (nI 0)), (5, .int (nI (CH G rules kx))), (0, .ref z0), (1, .int (nI rules)), (4, .int (nI kx))]) hx hb dX12_areRules_231 rfl hl (by decide) rfl (fun ls hl => ?_)
            refine lv_iload_n hx hb dX12_areRules_232 rfl (lv_at hl 0 rfl) ?_
            refine bz_eq (tgt := 269) hx hb (by first | omega | exact Nat.lt_of_lt_of_le (hG _ _) (by decide)) dX12_areRules_233 (by decide) (fun c => ?_) (fun q9 => absurd q9 (by omega))
            refine lv_iconst (v := nI 0) hx hb dX12_areRules_269 (by decide) ?_
            refine lv_istore_n (lv' := [(3, .int (nI 0)), (5, .int (nI (CH G rules kx))), (0, .ref z0), (1, .int (nI rules)), (4, .int (nI kx))]) hx hb dX12_areRules_270 rfl hl (by decide) rfl (fun ls hl => ?_)
            refine lv_iinc (v := nI (kx + 1)) (lv' := [(4, .int (nI (kx + 1))), (3, .int (nI 0)), (5, .int (nI (CH G rules kx))), (0, .ref z0), (1, .int (nI rules))]) hx hb dX12_areRules_271 hl (k := 4) rfl (nI_add kx 1) (by decide) rfl (fun ls hl => ?_)
            refine lv_goto (tgt := 161) hx hb dX12_areRules_274 (by decide) ?_
            exact ih (kx + 1) 0 vc q g (by omega) (by omega) hg hv1 hq1 (by decide) (fun z => absurd z (by decide)) _ _ hP hD hS ls (lv_sub hl [3, 4, 1, 0] rfl)
          · refine lv_aload_n hx hb dX12_areRules_211 rfl (lv_at hl 1 rfl) ?_
            refine mg_12 hx hb hts inX12_areRules hown hK hP (hts _ lkX12_areRules_f38) dX12_areRules_212 ?_
            refine lv_aload_n hx hb dX12_areRules_215 rfl (lv_at hl 1 rfl) ?_
            refine lv_iload hx hb dX12_areRules_216 (lv_at hl 0 rfl) ?_
            refine lv_iconst (v := nI 0) hx hb dX12_areRules_218 (by decide) ?_
            obtain ⟨t_19, t_19b, t_19c, t_19d⟩ := ht9.pt (f := CH G rules kx) (k := 0) (by first | assumption | omega) (by first | assumption | omega)
            refine mcl_i (As := [.int (nI (CH G rules kx)), .int (nI 0)]) (rest := [.ref (R 12)]) ⟨hx, hb, hml, hown, hts⟩ (m_part l dC dI cB cC cI cJ cZ z0 R pl (SCN N vc q) (SCG G g) B (CH G rules kx) 0 hG2 t_19d t_19 H.size) (cwV 2 hts kX12_areRules_X12_part_192 rfl rfl rfl (by decide +kernel) ⟨Nat.le_of_ble_eq_true rfl, Nat.le_of_ble_eq_true rfl⟩) hK hP hD hS hA rfl rfl hl.1 (lv_room (Nat.le_of_ble_eq_true rfl)) dX12_areRules_219 hcs (fun r_24 N_20 G_21 B_22 pl_23 hw H locs hP hD hS => ?_)
            dsimp only at hw
            obtain ⟨e1, e2, e3, e4, hw⟩ := hw
            rw [e1, e2, e3, e4] at hP hD
            have hw : r_24 = nI (CH G (CH G rules kx) 0) := hw
            subst hw
            refine ml_12 hx hb hK hP (by omega) dX12_areRules_222 ?_
            refine tp_i (y := nI (G 12 (CH G (CH G rules kx) 0))) rfl ?_
            refine bz_le (tgt := 230) hx hb (by first | omega | exact Nat.lt_of_lt_of_le (hG _ _) (by decide)) dX12_areRules_223 (by decide) (fun d4 => ?_) (fun d4 => ?_)
            · refine lv_iconst (v := nI 0) hx hb dX12_areRules_230 (by decide) ?_
              refine lv_istore_n (lv' := [(3, .int (nI 0)), (5, .int (nI (CH G rules kx))), (0, .ref z0), (1, .int (nI rules)), (4, .int (nI kx))]) hx hb dX12_areRules_231 rfl hl (by decide) rfl (fun ls hl => ?_)
              refine lv_iload_n hx hb dX12_areRules_232 rfl (lv_at hl 0 rfl) ?_
              refine bz_eq (tgt := 269) hx hb (by first | omega | exact Nat.lt_of_lt_of_le (hG _ _) (by decide)) dX12_areRules_233 (by decide) (fun c => ?_) (fun q9 => absurd q9 (by omega))
              refine lv_iconst (v := nI 0) hx hb dX12_areRules_269 (by decide) ?_
              refine lv_istore_n (lv' := [(3, .int (nI 0)), (5, .int (nI (CH G rules kx))), (0, .ref z0), (1, .int (nI rules)), (4, .int (nI kx))]) hx hb dX12_areRules_270 rfl hl (by decide) rfl (fun ls hl => ?_)
              refine lv_iinc (v := nI (kx + 1)) (lv' := [(4, .int (nI (kx + 1))), (3, .int (nI 0)), (5, .int (nI (CH G rules kx))), (0, .ref z0), (1, .int (nI rules))]) hx hb dX12_areRules_271 hl (k := 4) rfl (nI_add kx 1) (by decide) rfl (fun ls hl => ?_)
              refine lv_goto (tgt := 161) hx hb dX12_areRules_274 (by decide) ?_
              exact ih (kx + 1) 0 vc q g (by omega) (by omega) hg hv1 hq1 (by decide) (fun z => absurd z (by decide)) _ _ hP hD hS ls (lv_sub hl [3, 4, 1, 0] rfl)
            · refine lv_iconst (v := nI 1) hx hb dX12_areRules_226 (by decide) ?_
              refine lv_goto (tgt := 231) hx hb dX12_areRules_227 (by decide) ?_
              refine lv_istore_n (lv' := [(3, .int (nI 1)), (5, .int (nI (CH G rules kx))), (0, .ref z0), (1, .int (nI rules)), (4, .int (nI kx))]) hx hb dX12_areRules_231 rfl hl (by decide) rfl (fun ls hl => ?_)
              refine lv_iload_n hx hb dX12_areRules_232 rfl (lv_at hl 0 rfl) ?_
              refine bz_eq (tgt := 269) hx hb (by first | omega | exact Nat.lt_of_lt_of_le (hG _ _) (by decide)) dX12_areRules_233 (by decide) (fun q9 => absurd q9 (by omega)) (fun c => ?_)
              refine lv_aload_n hx hb dX12_areRules_236 rfl (lv_at hl 2 rfl) ?_
              refine lv_iload_n hx hb dX12_areRules_237 rfl (lv_at hl 3 rfl) ?_
              refine lv_aload_n hx hb dX12_areRules_238 rfl (lv_at hl 2 rfl) ?_
              refine lv_iload hx hb dX12_areRules_239 (lv_at hl 1 rfl) ?_
              refine lv_iconst (v := nI 0) hx hb dX12_areRules_241 (by decide) ?_
              obtain ⟨t_25, t_25b, t_25c, t_25d⟩ := ht9.pt (f := CH G rules kx) (k := 0) (by first | assumption | omega) (by first | assumption | omega)
              refine mcl_i (As := [.int (nI (CH G rules kx)), .int (nI 0)]) (rest := [.int (nI rules), .ref z0]) ⟨hx, hb, hml, hown, hts⟩ (m_part l dC dI cB cC cI cJ cZ z0 R pl (SCN N vc q) (SCG G g) B (CH G rules kx) 0 hG2 t_25d t_25 H.size) (cwV 2 hts kX12_areRules_X12_part_192 rfl rfl rfl (by decide +kernel) ⟨Nat.le_of_ble_eq_true rfl, Nat.le_of_ble_eq_true rfl⟩) hK hP hD hS hA rfl rfl hl.1 (lv_room (Nat.le_of_ble_eq_true rfl)) dX12_areRules_242 hcs (fun r_30 N_26 G_27 B_28 pl_29 hw H locs hP hD hS => ?_)
              dsimp only at hw
              obtain ⟨e1, e2, e3, e4, hw⟩ := hw
              rw [e1, e2, e3, e4] at hP hD
              have hw : r_30 = nI (CH G (CH G rules kx) 0) := hw
              subst hw
              have hlit := (ht9.pt hrl (show 1 < G 12 rules by omega))
              refine mcl_i (As := [.int (nI rules), .int (nI (CH G (CH G rules kx) 0))]) (rest := []) ⟨hx, hb, hml, hown, hts⟩ (m_isPattern l dC dI cB cC cI cJ cZ z0 R pl (SCN N vc q) (SCG G g) B rules (CH G (CH G rules kx) 0) sz az hG2 ht9 hat hal hr9 hlit.1 hlit.2.2.1 (fun j hj => ⟨(ht9.pt hlit.2.1 hj).1, (ht9.pt hlit.2.1 hj).2.2.1⟩) pr2.2.1 H.size) (cwV 2 hts kX12_areRules_X12_isPattern_312 rfl rfl rfl (by decide +kernel) ⟨Nat.le_of_ble_eq_true rfl, Nat.le_of_ble_eq_true rfl⟩) hK hP hD hS hA rfl rfl hl.1 (lv_room (Nat.le_of_ble_eq_true rfl)) dX12_areRules_245 hcs (fun r_35 N_31 G_32 B_33 pl_34 hw H locs hP hD hS => ?_)
              dsimp only at hw
              obtain ⟨e3, e4, q2, vc2, fi2, L, Hw, O, VN, VR, b1, b2, b3, b4, b5, hq2, hvc2, e1, e2, hw, hfi2, hpat, htab⟩ := hw
              rw [e1, e2, e3, e4, SCN_pat, SCG_pat] at hP hD
              have hg2 : ∀ k i, LK (va_up (va_up (SCG G g) 47 VN) 48 VR) L Hw O k i < 1048576 := hGLK (hGup (q := 48) (hGup (q := 47) hG2 b4) b5) b1 b2 b3
              have hb9 := hpat; rw [PATOK_eq (SCG_core G g)] at hpat
              have htab : fi2 = 1 → (∀ x rp, LEF G sz rules x rp (CH G (CH G rules kx) 0) 1 0 = TC VN VR x rp vc2) ∧ ∀ v, v < vc2 → VR v ≤ 1 := fun z => ⟨fun x rp => by rw [← LEF_eq (SCG_core G g)]; exact (htab z).1 x rp, (htab z).2⟩
              have ev47 : (LK (va_up (va_up (SCG G g) 47 VN) 48 VR) L Hw O) 47 = VN := rfl
              have ev48 : (LK (va_up (va_up (SCG G g) 47 VN) 48 VR) L Hw O) 48 = VR := rfl
              generalize LK (va_up (va_up (SCG G g) 47 VN) 48 VR) L Hw O = g2 at hP hD hg2 ev47 ev48
              subst hw
              have hG2 := SCG_bd hG hg2
              refine bz_eq (tgt := 269) hx hb (by first | omega | exact Nat.lt_of_lt_of_le (hG _ _) (by decide)) dX12_areRules_248 (by decide) (fun d5 => ?_) (fun d5 => ?_)
              · refine lv_iconst (v := nI 0) hx hb dX12_areRules_269 (by decide) ?_
                refine lv_istore_n (lv' := [(3, .int (nI 0)), (5, .int (nI (CH G rules kx))), (0, .ref z0), (1, .int (nI rules)), (4, .int (nI kx))]) hx hb dX12_areRules_270 rfl hl (by decide) rfl (fun ls hl => ?_)
                refine lv_iinc (v := nI (kx + 1)) (lv' := [(4, .int (nI (kx + 1))), (3, .int (nI 0)), (5, .int (nI (CH G rules kx))), (0, .ref z0), (1, .int (nI rules))]) hx hb dX12_areRules_271 hl (k := 4) rfl (nI_add kx 1) (by decide) rfl (fun ls hl => ?_)
                refine lv_goto (tgt := 161) hx hb dX12_areRules_274 (by decide) ?_
                exact ih (kx + 1) 0 vc2 q2 g2 (by omega) (by omega) hg2 (by omega) (by omega) (by decide) (fun z => absurd z (by decide)) _ _ hP hD hS ls (lv_sub hl [3, 4, 1, 0] rfl)
              · have hpo := hpat.mp (by omega)
                obtain ⟨htb, hvr⟩ := htab (by omega)
                refine lv_aload_n hx hb dX12_areRules_251 rfl (lv_at hl 2 rfl) ?_
                refine lv_aload_n hx hb dX12_areRules_252 rfl (lv_at hl 2 rfl) ?_
                refine lv_iload hx hb dX12_areRules_253 (lv_at hl 1 rfl) ?_
                refine lv_iconst (v := nI 1) hx hb dX12_areRules_255 (by decide) ?_
                obtain ⟨t_36, t_36b, t_36c, t_36d⟩ := ht9.pt (f := CH G rules kx) (k := 1) (by first | assumption | omega) (by first | assumption | omega)
                refine mcl_i (As := [.int (nI (CH G rules kx)), .int (nI 1)]) (rest := [.ref z0]) ⟨hx, hb, hml, hown, hts⟩ (m_part l dC dI cB cC cI cJ cZ z0 R pl (SCN N vc2 q2) (SCG G g2) B (CH G rules kx) 1 hG2 t_36d t_36 H.size) (cwV 2 hts kX12_areRules_X12_part_192 rfl rfl rfl (by decide +kernel) ⟨Nat.le_of_ble_eq_true rfl, Nat.le_of_ble_eq_true rfl⟩) hK hP hD hS hA rfl rfl hl.1 (lv_room (Nat.le_of_ble_eq_true rfl)) dX12_areRules_256 hcs (fun r_41 N_37 G_38 B_39 pl_40 hw H locs hP hD hS => ?_)
                dsimp only at hw
                obtain ⟨e1, e2, e3, e4, hw⟩ := hw
                rw [e1, e2, e3, e4] at hP hD
                have hw : r_41 = nI (CH G (CH G rules kx) 1) := hw
                subst hw
                have hRE : ∀ x, (0 < VAR (SCN N vc2 q2) (SCG G g2) x ∧ 0 < SCG G g2 48 (VAR (SCN N vc2 q2) (SCG G g2) x - 1)) ↔ 0 < LEF G sz rules x 1 (CH G (CH G rules kx) 0) 1 0 := by
                  intro x
                  have hu := hpo.2 x
                  rw [htb, htb] at hu
                  rw [htb]
                  show (0 < varF (g2 47) x vc2 ∧ 0 < g2 48 (varF (g2 47) x vc2 - 1)) ↔ _
                  rw [ev47, ev48]
                  exact TC_rep vc2 hvr hu
                refine mcl_i (As := [.int (nI (CH G (CH G rules kx) 1))]) (rest := []) ⟨hx, hb, hml, hown, hts⟩ (m_isTemplate l dC dI cB cC cI cJ cZ z0 R pl (SCN N vc2 q2) (SCG G g2) B (CH G (CH G rules kx) 1) sz (fun x => LEF G sz rules x 1 (CH G (CH G rules kx) 0) 1 0) hG2 ht9 hal (show vc2 ≤ 1600 by omega) hRE pr3.2.1 H.size) (cwV 1 hts kX12_areRules_X12_isTemplate_315 rfl rfl rfl (by decide +kernel) ⟨Nat.le_of_ble_eq_true rfl, Nat.le_of_ble_eq_true rfl⟩) hK hP hD hS hA rfl rfl hl.1 (lv_room (Nat.le_of_ble_eq_true rfl)) dX12_areRules_259 hcs (fun r_46 N_42 G_43 B_44 pl_45 hw H locs hP hD hS => ?_)
                dsimp only at hw
                obtain ⟨e3, e4, q3, fi3, L3, Hw3, O3, I3, b1, b2, b3, b4, hq3, e1, e2, hw, hfi3, htem⟩ := hw
                rw [e1, e2, e3, e4, SCN_53, SCG_tem] at hP hD
                have hg3 : ∀ k i, LK (va_up (SCG G g2) 54 I3) L3 Hw3 O3 k i < 1048576 := hGLK (hGup (q := 54) hG2 b4) b1 b2 b3
                rw [TEM_eq (SCG_core G g2)] at htem
                generalize LK (va_up (SCG G g2) 54 I3) L3 Hw3 O3 = g3 at hP hD hg3
                subst hw
                refine bz_eq (tgt := 269) hx hb (by first | omega | exact Nat.lt_of_lt_of_le (hG _ _) (by decide)) dX12_areRules_262 (by decide) (fun d6 => ?_) (fun d6 => ?_)
                · refine lv_iconst (v := nI 0) hx hb dX12_areRules_269 (by decide) ?_
                  refine lv_istore_n (lv' := [(3, .int (nI 0)), (5, .int (nI (CH G rules kx))), (0, .ref z0), (1, .int (nI rules)), (4, .int (nI kx))]) hx hb dX12_areRules_270 rfl hl (by decide) rfl (fun ls hl => ?_)
                  refine lv_iinc (v := nI (kx + 1)) (lv' := [(4, .int (nI (kx + 1))), (3, .int (nI 0)), (5, .int (nI (CH G rules kx))), (0, .ref z0), (1, .int (nI rules))]) hx hb dX12_areRules_271 hl (k := 4) rfl (nI_add kx 1) (by decide) rfl (fun ls hl => ?_)
                  refine lv_goto (tgt := 161) hx hb dX12_areRules_274 (by decide) ?_
                  exact ih (kx + 1) 0 vc2 q3 g3 (by omega) (by omega) hg3 (by omega) (by omega) (by decide) (fun z => absurd z (by decide)) _ _ hP hD hS ls (lv_sub hl [3, 4, 1, 0] rfl)
                · refine lv_iconst (v := nI 1) hx hb dX12_areRules_265 (by decide) ?_
                  refine lv_goto (tgt := 270) hx hb dX12_areRules_266 (by decide) ?_
                  refine lv_istore_n (lv' := [(3, .int (nI 1)), (5, .int (nI (CH G rules kx))), (0, .ref z0), (1, .int (nI rules)), (4, .int (nI kx))]) hx hb dX12_areRules_270 rfl hl (by decide) rfl (fun ls hl => ?_)
                  refine lv_iinc (v := nI (kx + 1)) (lv' := [(4, .int (nI (kx + 1))), (3, .int (nI 1)), (5, .int (nI (CH G rules kx))), (0, .ref z0), (1, .int (nI rules))]) hx hb dX12_areRules_271 hl (k := 4) rfl (nI_add kx 1) (by decide) rfl (fun ls hl => ?_)
                  refine lv_goto (tgt := 161) hx hb dX12_areRules_274 (by decide) ?_
                  refine ih (kx + 1) 1 vc2 q3 g3 (by omega) (by omega) hg3 (by omega) (by omega) (by decide) (fun _ => ⟨⟨f1, f2, f3⟩, f4, fun j h1 h2 => ?_⟩) _ _ hP hD hS ls (lv_sub hl [3, 4, 1, 0] rfl)
                  by_cases ej : j = kx
                  · subst ej; exact ⟨d1, d2, d3, d4, hpo, htem (by omega)⟩
                  · exact f5 j h1 (by omega)
        · rw [if_neg c_7] at hw
          subst hw
          refine bz_eq (tgt := 230) hx hb (by first | omega | exact Nat.lt_of_lt_of_le (hG _ _) (by decide)) dX12_areRules_192 (by decide) (fun c => ?_) (fun q9 => absurd q9 (by omega))
          refine lv_iconst (v := nI 0) hx hb dX12_areRules_230 (by decide) ?_
          refine lv_istore_n (lv' := [(3, .int (nI 0)), (5, .int (nI (CH G rules kx))), (0, .ref z0), (1, .int (nI rules)), (4, .int (nI kx))]) hx hb dX12_areRules_231 rfl hl (by decide) rfl (fun ls hl => ?_)
          refine lv_iload_n hx hb dX12_areRules_232 rfl (lv_at hl 0 rfl) ?_
          refine bz_eq (tgt := 269) hx hb (by first | omega | exact Nat.lt_of_lt_of_le (hG _ _) (by decide)) dX12_areRules_233 (by decide) (fun c => ?_) (fun q9 => absurd q9 (by omega))
          refine lv_iconst (v := nI 0) hx hb dX12_areRules_269 (by decide) ?_
          refine lv_istore_n (lv' := [(3, .int (nI 0)), (5, .int (nI (CH G rules kx))), (0, .ref z0), (1, .int (nI rules)), (4, .int (nI kx))]) hx hb dX12_areRules_270 rfl hl (by decide) rfl (fun ls hl => ?_)
          refine lv_iinc (v := nI (kx + 1)) (lv' := [(4, .int (nI (kx + 1))), (3, .int (nI 0)), (5, .int (nI (CH G rules kx))), (0, .ref z0), (1, .int (nI rules))]) hx hb dX12_areRules_271 hl (k := 4) rfl (nI_add kx 1) (by decide) rfl (fun ls hl => ?_)
          refine lv_goto (tgt := 161) hx hb dX12_areRules_274 (by decide) ?_
          exact ih (kx + 1) 0 vc q g (by omega) (by omega) hg hv1 hq1 (by decide) (fun z => absurd z (by decide)) _ _ hP hD hS ls (lv_sub hl [3, 4, 1, 0] rfl)

set_option maxHeartbeats 4000000 in
set_option maxRecDepth 100000 in
theorem lp_rul1 {p : Program} {l : Launch} {e : Env} {s : State} {m : MethodId} {args : Array Value} {below : List Frame} {meth : Method} {c : Code} {Q : State → Prop} {A : Nat → Prop} {dC : Nat → ClassId} {dI : Nat → Nat → Nat} {cB cC cI cJ cZ : ClassId} {z0 : Nat} {R : Nat → Nat} (hx : p.tables.exec = Jvm.exec) (hb : c.code = cX12_areRules) (hml : c.maxLocals = 6) (hown : s.vm.findClass RX12 = some m.cls) (hts : ∀ w ∈ vX12_areRules, w.before args s = true) (hK : va_K (dC, dI) vwCl (TY cB cC cI cJ cZ) s) (hA : ∀ q : Nat, s.heap.size ≤ q → A q) {pl : Int32} {N : Nat → Nat} {G : Nat → Nat → Nat} {B : Nat → Nat → Int32} {sz az : Nat → Nat} (hG : ∀ k i, G k i < 1048576) (ht9 : TREE N G sz) (hat : ATOM N G az) (hal : AL N G) (hev : EV N G) (rules : Nat) (hrl : rules < N 14) (kl : ∀ (fi : Nat) (H : Heap) (locs : List Loc), fi ≤ 1 → (fi = 1 → (G 10 rules = 2 ∧ 2 < G 12 rules ∧ G 12 rules ≤ 10) ∧ ∀ j, j < G 12 (CH G rules 1) → G 10 (CH G (CH G rules 1) j) = 1) → va_P (dC, dI) vwCl (MW cB cC cI cJ cZ z0 R pl N G B) H → va_D A (MW cB cC cI cJ cZ z0 R pl N G B) → va_S A s.heap H locs → ∀ (ls : Array Slot), lv_has ls 6 [(0, .ref z0), (1, .int (nI rules)), (3, .int (nI fi))] → W p l e (headSpec vX12_areRules { frames := 4, cells := 0, slots := 0, locals := 97 }).room s m args below meth c H locs 0 0 Q (F0 m 158 ls [])) : ∀ (k : Nat) (kx fi : Nat), G 12 (CH G rules 1) - kx < k → kx ≤ 1048576 → fi ≤ 1 → (fi = 1 → (G 10 rules = 2 ∧ 2 < G 12 rules ∧ G 12 rules ≤ 10) ∧ ∀ j, j < kx → G 10 (CH G (CH G rules 1) j) = 1) → ∀ (H : Heap) (locs : List Loc), va_P (dC, dI) vwCl (MW cB cC cI cJ cZ z0 R pl N G B) H → va_D A (MW cB cC cI cJ cZ z0 R pl N G B) → va_S A s.heap H locs → ∀ (ls : Array Slot), lv_has ls 6 [(0, .ref z0), (1, .int (nI rules)), (3, .int (nI fi)), (4, .int (nI kx))] → W p l e (headSpec vX12_areRules { frames := 4, cells := 0, slots := 0, locals := 97 }).room s m args below meth c H locs 0 0 Q (F0 m 115 ls []) := by
  have hcs : 0 + 0 ≤ (0 : Nat) ∧ 0 + 0 ≤ (0 : Nat) := ⟨Nat.le_refl 0, Nat.le_refl 0⟩
  intro k
  induction k with
  | zero =>
    intro kx fi hk hkb hfi1 hfi
    omega
  | succ k ih =>
    intro kx fi hk hkb hfi1 hfi H locs hP hD hS ls hl
    have u6 := ht9.1
    have hG2 := hG
    have g1 := hG 12 (CH G rules 1)
    refine lv_iload_n hx hb dX12_areRules_115 rfl (lv_at hl 2 rfl) ?_
    refine bz_eq (tgt := 158) hx hb (by first | omega | exact Nat.lt_of_lt_of_le (hG _ _) (by decide)) dX12_areRules_116 (by decide) (fun c1 => ?_) (fun c1 => ?_)
    · exact kl fi H locs hfi1 (fun z => absurd z (by omega)) hP hD hS ls (lv_sub hl [0, 1, 2] rfl)
    · obtain rfl : fi = 1 := by omega
      obtain ⟨⟨f1, f2, f3⟩, f4⟩ := hfi rfl
      refine lv_iload hx hb dX12_areRules_119 (lv_at hl 3 rfl) ?_
      refine lv_aload_n hx hb dX12_areRules_121 rfl (lv_at hl 0 rfl) ?_
      refine mg_12 hx hb hts inX12_areRules hown hK hP (hts _ lkX12_areRules_f38) dX12_areRules_122 ?_
      refine lv_aload_n hx hb dX12_areRules_125 rfl (lv_at hl 0 rfl) ?_
      refine lv_iload_n hx hb dX12_areRules_126 rfl (lv_at hl 1 rfl) ?_
      refine lv_iconst (v := nI 1) hx hb dX12_areRules_127 (by decide) ?_
      obtain ⟨t_1, t_1b, t_1c, t_1d⟩ := ht9.pt (f := rules) (k := 1) (by first | assumption | omega) (by first | assumption | omega)
      refine mcl_i (As := [.int (nI rules), .int (nI 1)]) (rest := [.ref (R 12), .int (nI kx)]) ⟨hx, hb, hml, hown, hts⟩ (m_part l dC dI cB cC cI cJ cZ z0 R pl N G B rules 1 hG2 t_1d t_1 H.size) (cwV 2 hts kX12_areRules_X12_part_192 rfl rfl rfl (by decide +kernel) ⟨Nat.le_of_ble_eq_true rfl, Nat.le_of_ble_eq_true rfl⟩) hK hP hD hS hA rfl rfl hl.1 (lv_room (Nat.le_of_ble_eq_true rfl)) dX12_areRules_128 hcs (fun r_6 N_2 G_3 B_4 pl_5 hw H locs hP hD hS => ?_)
      dsimp only at hw
      obtain ⟨e1, e2, e3, e4, hw⟩ := hw
      rw [e1, e2, e3, e4] at hP hD
      have hw : r_6 = nI (CH G rules 1) := hw
      subst hw
      refine ml_12 hx hb hK hP (by omega) dX12_areRules_131 ?_
      refine bn_ge (tgt := 158) hx hb (by first | omega | exact Nat.lt_of_lt_of_le (hG _ _) (by decide)) (by first | omega | exact Nat.lt_of_lt_of_le (hG _ _) (by decide)) dX12_areRules_132 (by decide) (fun c2 => ?_) (fun c2 => ?_)
      · exact kl 1 H locs (by decide) (fun _ => ⟨⟨f1, f2, f3⟩, fun j hj => f4 j (by omega)⟩) hP hD hS ls (lv_sub hl [0, 1, 2] rfl)
      · have p1 := (ht9.pt hrl (show 1 < G 12 rules by omega)).2.1
        obtain ⟨p2, p3, p4, p5⟩ := ht9.pt p1 c2
        have p6 := (ht9.2 _ p3).2.2.2.1
        refine lv_aload_n hx hb dX12_areRules_135 rfl (lv_at hl 0 rfl) ?_
        refine lv_aload_n hx hb dX12_areRules_136 rfl (lv_at hl 0 rfl) ?_
        refine lv_aload_n hx hb dX12_areRules_137 rfl (lv_at hl 0 rfl) ?_
        refine lv_iload_n hx hb dX12_areRules_138 rfl (lv_at hl 1 rfl) ?_
        refine lv_iconst (v := nI 1) hx hb dX12_areRules_139 (by decide) ?_
        obtain ⟨t_7, t_7b, t_7c, t_7d⟩ := ht9.pt (f := rules) (k := 1) (by first | assumption | omega) (by first | assumption | omega)
        refine mcl_i (As := [.int (nI rules), .int (nI 1)]) (rest := [.ref z0, .ref z0]) ⟨hx, hb, hml, hown, hts⟩ (m_part l dC dI cB cC cI cJ cZ z0 R pl N G B rules 1 hG2 t_7d t_7 H.size) (cwV 2 hts kX12_areRules_X12_part_192 rfl rfl rfl (by decide +kernel) ⟨Nat.le_of_ble_eq_true rfl, Nat.le_of_ble_eq_true rfl⟩) hK hP hD hS hA rfl rfl hl.1 (lv_room (Nat.le_of_ble_eq_true rfl)) dX12_areRules_140 hcs (fun r_12 N_8 G_9 B_10 pl_11 hw H locs hP hD hS => ?_)
        dsimp only at hw
        obtain ⟨e1, e2, e3, e4, hw⟩ := hw
        rw [e1, e2, e3, e4] at hP hD
        have hw : r_12 = nI (CH G rules 1) := hw
        subst hw
        refine lv_iload hx hb dX12_areRules_143 (lv_at hl 3 rfl) ?_
        obtain ⟨t_13, t_13b, t_13c, t_13d⟩ := ht9.pt (f := CH G rules 1) (k := kx) (by first | assumption | omega) (by first | assumption | omega)
        refine mcl_i (As := [.int (nI (CH G rules 1)), .int (nI kx)]) (rest := [.ref z0]) ⟨hx, hb, hml, hown, hts⟩ (m_part l dC dI cB cC cI cJ cZ z0 R pl N G B (CH G rules 1) kx hG2 t_13d t_13 H.size) (cwV 2 hts kX12_areRules_X12_part_192 rfl rfl rfl (by decide +kernel) ⟨Nat.le_of_ble_eq_true rfl, Nat.le_of_ble_eq_true rfl⟩) hK hP hD hS hA rfl rfl hl.1 (lv_room (Nat.le_of_ble_eq_true rfl)) dX12_areRules_145 hcs (fun r_18 N_14 G_15 B_16 pl_17 hw H locs hP hD hS => ?_)
        dsimp only at hw
        obtain ⟨e1, e2, e3, e4, hw⟩ := hw
        rw [e1, e2, e3, e4] at hP hD
        have hw : r_18 = nI (CH G (CH G rules 1) kx) := hw
        subst hw
        refine mcl_i (As := [.int (nI (CH G (CH G rules 1) kx))]) (rest := []) ⟨hx, hb, hml, hown, hts⟩ (m_isBindable l dC dI cB cC cI cJ cZ z0 R pl N G B (CH G (CH G rules 1) kx) hG2 hal (by omega) (by assumption) H.size) (cwV 1 hts kX12_areRules_X12_isBindable_291 rfl rfl rfl (by decide +kernel) ⟨Nat.le_of_ble_eq_true rfl, Nat.le_of_ble_eq_true rfl⟩) hK hP hD hS hA rfl rfl hl.1 (lv_room (Nat.le_of_ble_eq_true rfl)) dX12_areRules_148 hcs (fun r_24 N_20 G_21 B_22 pl_23 hw H locs hP hD hS => ?_)
        dsimp only at hw
        obtain ⟨e1, e2, e3, e4, hw⟩ := hw
        rw [e1, e2, e3, e4] at hP hD
        have hw : r_24 = nI (if BND G (CH G (CH G rules 1) kx) then 1 else 0) := hw
        by_cases c_19 : BND G (CH G (CH G rules 1) kx)
        · rw [if_pos c_19] at hw
          subst hw
          refine lv_istore_n (lv' := [(3, .int (nI 1)), (0, .ref z0), (1, .int (nI rules)), (4, .int (nI kx))]) hx hb dX12_areRules_151 rfl hl (by decide) rfl (fun ls hl => ?_)
          refine lv_iinc (v := nI (kx + 1)) (lv' := [(4, .int (nI (kx + 1))), (3, .int (nI 1)), (0, .ref z0), (1, .int (nI rules))]) hx hb dX12_areRules_152 hl (k := 3) rfl (nI_add kx 1) (by decide) rfl (fun ls hl => ?_)
          refine lv_goto (tgt := 115) hx hb dX12_areRules_155 (by decide) ?_
          refine ih (kx + 1) 1 (by omega) (by omega) (by decide) (fun _ => ⟨⟨f1, f2, f3⟩, fun j hj => ?_⟩) _ _ hP hD hS ls (lv_sub hl [2, 3, 1, 0] rfl)
          by_cases ej : j = kx
          · subst ej; exact c_19.1
          · exact f4 j (by omega)
        · rw [if_neg c_19] at hw
          subst hw
          refine lv_istore_n (lv' := [(3, .int (nI 0)), (0, .ref z0), (1, .int (nI rules)), (4, .int (nI kx))]) hx hb dX12_areRules_151 rfl hl (by decide) rfl (fun ls hl => ?_)
          refine lv_iinc (v := nI (kx + 1)) (lv' := [(4, .int (nI (kx + 1))), (3, .int (nI 0)), (0, .ref z0), (1, .int (nI rules))]) hx hb dX12_areRules_152 hl (k := 3) rfl (nI_add kx 1) (by decide) rfl (fun ls hl => ?_)
          refine lv_goto (tgt := 115) hx hb dX12_areRules_155 (by decide) ?_
          exact ih (kx + 1) 0 (by omega) (by omega) (by decide) (fun z => absurd z (by decide)) _ _ hP hD hS ls (lv_sub hl [2, 3, 1, 0] rfl)

set_option maxHeartbeats 4000000 in
set_option maxRecDepth 100000 in
/-- areRules: where 1, the rules are as they should be -/
theorem m_areRules (l : Launch) (dC : Nat → ClassId) (dI : Nat → Nat → Nat) (cB cC cI cJ cZ : ClassId) (z0 : Nat) (R : Nat → Nat) (pl : Int32) (N : Nat → Nat) (G : Nat → Nat → Nat) (B : Nat → Nat → Int32) (rules en : Nat) (sz az : Nat → Nat) (hG : ∀ k i, G k i < 1048576) (ht9 : TREE N G sz) (hat : ATOM N G az) (hal : AL N G) (hev : EV N G) (hN49 : N 49 ≤ 1600) (hN53 : N 53 ≤ 90000) (hrl : rules < N 14) (hen : en < N 23) (s0 : Nat) : Met l yX12_areRules vX12_areRules { frames := 4, cells := 0, slots := 0, locals := 97 } (va_Pc [.ref z0, .int (nI rules), .int (nI en)] (mPre dC dI cB cC cI cJ cZ z0 R pl N G B s0)) (va_Qi (fun (r : Int32) (u : ((Nat → Nat) × (Nat → Nat → Nat) × (Nat → Nat → Int32) × Int32)) => match u with | (N1, G1, B1, pl1) => B1 = B ∧ pl1 = pl ∧ ∃ vc q fi g, (∀ k i, g k i < 1048576) ∧ vc ≤ 1600 ∧ q ≤ 90000 ∧ N1 = SCN N vc q ∧ G1 = SCG G g ∧ r = nI fi ∧ fi ≤ 1 ∧ (fi = 1 → RULESOK G sz rules)) (mPost dC dI cB cC cI cJ cZ z0 R (va_A (MW cB cC cI cJ cZ z0 R pl N G B) s0)) (va_A (MW cB cC cI cJ cZ z0 R pl N G B) s0)) 0 0 (va_A (MW cB cC cI cJ cZ z0 R pl N G B) s0) := by
  refine Met.ofW (cc := cX12_areRules) (maxL := 6) (ret := (some .boolean)) (by decide) rfl ?_
  intro p e s m args below meth c s₁ B9 hml hv
  obtain ⟨rfl, hsz, hP, hK, hD0⟩ := hv
  have hx := B9.exec
  have hb := B9.bytes
  have hr := B9.returns
  have hts := atoms_spec (ws := vX12_areRules) B9.pre
  have hown : s.vm.findClass RX12 = some m.cls := findClass_of_methodNamed B9.named
  have hlocks := B9.notSynchronized
  subst hsz
  have hD := hD0.self (sz := s.heap.size)
  generalize hAe : va_A (MW cB cC cI cJ cZ z0 R pl N G B) s.heap.size = A at hD ⊢
  have hA : ∀ q : Nat, s.heap.size ≤ q → A q := fun q h => by rw [← hAe]; exact Or.inr h
  have hS : va_S A s.heap s.heap [] := va_S.rf
  have hcs : 0 + 0 ≤ (0 : Nat) ∧ 0 + 0 ≤ (0 : Nat) := ⟨Nat.le_refl 0, Nat.le_refl 0⟩
  have hl := lv_entry ([.ref z0, .int (nI rules), .int (nI en)]) (n := 6) (Nat.le_of_ble_eq_true rfl)
  rw [lg_entry_eq]
  generalize (lg_sl ([.ref z0, .int (nI rules), .int (nI en)]) ++ List.replicate (6 - (lg_sl ([.ref z0, .int (nI rules), .int (nI en)])).length) Slot.unset).toArray = ls at hl ⊢
  have hl : lv_has ls 6 [(0, .ref z0), (1, .int (nI rules)), (2, .int (nI en))] := hl
  have u6 := ht9.1
  have hG2 := hG
  have hr9 : rules < 90000 := by omega
  have g1 := hG 12 rules
  have g2 := hG 10 rules
  have g3 : ∀ j, G 10 j < 1048576 := hG 10
  have g4 : ∀ j, G 12 j < 1048576 := hG 12
  refine lv_aload_n hx hb dX12_areRules_0 rfl (lv_at hl 0 rfl) ?_
  refine mg_10 hx hb hts inX12_areRules hown hK hP (hts _ lkX12_areRules_f32) dX12_areRules_1 ?_
  refine lv_iload_n hx hb dX12_areRules_4 rfl (lv_at hl 1 rfl) ?_
  refine ml_10 hx hb hK hP (by omega) dX12_areRules_5 ?_
  refine lv_iconst (v := nI 2) hx hb dX12_areRules_6 (by decide) ?_
  refine bn_ne (tgt := 35) hx hb (by first | omega | exact Nat.lt_of_lt_of_le (hG _ _) (by decide)) (by first | omega | exact Nat.lt_of_lt_of_le (hG _ _) (by decide)) dX12_areRules_7 (by decide) (fun c_1 => ?_) (fun c_1 => ?_)
  · refine lv_iconst (v := nI 0) hx hb dX12_areRules_35 (by decide) ?_
    refine lv_istore_n (lv' := [(3, .int (nI 0)), (0, .ref z0), (1, .int (nI rules)), (2, .int (nI en))]) hx hb dX12_areRules_36 rfl hl (by decide) rfl (fun ls hl => ?_)
    refine lv_iload_n hx hb dX12_areRules_37 rfl (lv_at hl 0 rfl) ?_
    refine bz_eq (tgt := 110) hx hb (by first | omega | exact Nat.lt_of_lt_of_le (hG _ _) (by decide)) dX12_areRules_38 (by decide) (fun c => ?_) (fun q9 => absurd q9 (by omega))
    refine lv_iconst (v := nI 0) hx hb dX12_areRules_110 (by decide) ?_
    refine lv_istore_n (lv' := [(3, .int (nI 0)), (0, .ref z0), (1, .int (nI rules)), (2, .int (nI en))]) hx hb dX12_areRules_111 rfl hl (by decide) rfl (fun ls hl => ?_)
    refine lv_iconst (v := nI 0) hx hb dX12_areRules_112 (by decide) ?_
    refine lv_istore (lv' := [(4, .int (nI 0)), (3, .int (nI 0)), (0, .ref z0), (1, .int (nI rules)), (2, .int (nI en))]) hx hb dX12_areRules_113 hl (by decide) rfl (fun ls hl => ?_)
    have hfi : 0 = 1 → (G 10 rules = 2 ∧ 2 < G 12 rules ∧ G 12 rules ≤ 10) ∧ ∀ j, j < 0 → G 10 (CH G (CH G rules 1) j) = 1 := fun z => absurd z (by decide)
    refine lp_rul1 hx hb hml hown hts hK hA hG ht9 hat hal hev rules hrl (fun fi H locs hfi1 hfi hP hD hS ls hl => ?_) _ 0 0 (Nat.lt_succ_self _) (by decide) (by decide) hfi _ _ hP hD hS ls (lv_sub hl [2, 3, 1, 0] rfl)
    refine lv_iconst (v := nI 2) hx hb dX12_areRules_158 (by decide) ?_
    refine lv_istore (lv' := [(4, .int (nI 2)), (0, .ref z0), (1, .int (nI rules)), (3, .int (nI fi))]) hx hb dX12_areRules_159 hl (by decide) rfl (fun ls hl => ?_)
    have hP : va_P (dC, dI) vwCl (MW cB cC cI cJ cZ z0 R pl (SCN N (N 49) (N 53)) (SCG G G) B) H := by rw [SCN_self, SCG_self]; exact hP
    have hD : va_D A (MW cB cC cI cJ cZ z0 R pl (SCN N (N 49) (N 53)) (SCG G G) B) := by rw [SCN_self, SCG_self]; exact hD
    refine lp_rul2 hx hb hml hown hts hK hA hG ht9 hat hal hev rules hrl (fun fi vc q g H locs hg hv1 hq1 hfi1 hfi hP hD hS ls hl => ?_) _ 2 fi (N 49) (N 53) G (Nat.lt_succ_self _) (by decide) hG hN49 hN53 hfi1 (fun z => ⟨(hfi z).1, (hfi z).2, fun j h1 h2 => absurd h2 (by omega)⟩) _ _ hP hD hS ls (lv_sub hl [1, 2, 3, 0] rfl)
    refine lv_iload_n hx hb dX12_areRules_277 rfl (lv_at hl 0 rfl) ?_
    have hz1 : narrow .boolean (.int (nI fi)) = .int (nI fi) := by rcases (show fi = 0 ∨ fi = 1 by omega) with h | h <;> rw [h] <;> rfl
    exact W.zret (v := (nI fi)) hx hb hr hz1 (fun t ht hW => ⟨⟨(nI fi), (SCN N vc q, SCG G g, B, pl), rfl, ⟨rfl, rfl, vc, q, fi, g, hg, hv1, hq1, rfl, rfl, rfl, hfi1, hfi⟩, by rw [ht]; exact hP, va_K.moved hW.alike hK, hD⟩, hS.F ht⟩) hS.2.2 dX12_areRules_278
  · refine lv_aload_n hx hb dX12_areRules_10 rfl (lv_at hl 0 rfl) ?_
    refine mg_12 hx hb hts inX12_areRules hown hK hP (hts _ lkX12_areRules_f38) dX12_areRules_11 ?_
    refine lv_iload_n hx hb dX12_areRules_14 rfl (lv_at hl 1 rfl) ?_
    refine ml_12 hx hb hK hP (by omega) dX12_areRules_15 ?_
    refine lv_iconst (v := nI 2) hx hb dX12_areRules_16 (by decide) ?_
    refine bn_le (tgt := 35) hx hb (by first | omega | exact Nat.lt_of_lt_of_le (hG _ _) (by decide)) (by first | omega | exact Nat.lt_of_lt_of_le (hG _ _) (by decide)) dX12_areRules_17 (by decide) (fun c_2 => ?_) (fun c_2 => ?_)
    · refine lv_iconst (v := nI 0) hx hb dX12_areRules_35 (by decide) ?_
      refine lv_istore_n (lv' := [(3, .int (nI 0)), (0, .ref z0), (1, .int (nI rules)), (2, .int (nI en))]) hx hb dX12_areRules_36 rfl hl (by decide) rfl (fun ls hl => ?_)
      refine lv_iload_n hx hb dX12_areRules_37 rfl (lv_at hl 0 rfl) ?_
      refine bz_eq (tgt := 110) hx hb (by first | omega | exact Nat.lt_of_lt_of_le (hG _ _) (by decide)) dX12_areRules_38 (by decide) (fun c => ?_) (fun q9 => absurd q9 (by omega))
      refine lv_iconst (v := nI 0) hx hb dX12_areRules_110 (by decide) ?_
      refine lv_istore_n (lv' := [(3, .int (nI 0)), (0, .ref z0), (1, .int (nI rules)), (2, .int (nI en))]) hx hb dX12_areRules_111 rfl hl (by decide) rfl (fun ls hl => ?_)
      refine lv_iconst (v := nI 0) hx hb dX12_areRules_112 (by decide) ?_
      refine lv_istore (lv' := [(4, .int (nI 0)), (3, .int (nI 0)), (0, .ref z0), (1, .int (nI rules)), (2, .int (nI en))]) hx hb dX12_areRules_113 hl (by decide) rfl (fun ls hl => ?_)
      have hfi : 0 = 1 → (G 10 rules = 2 ∧ 2 < G 12 rules ∧ G 12 rules ≤ 10) ∧ ∀ j, j < 0 → G 10 (CH G (CH G rules 1) j) = 1 := fun z => absurd z (by decide)
      refine lp_rul1 hx hb hml hown hts hK hA hG ht9 hat hal hev rules hrl (fun fi H locs hfi1 hfi hP hD hS ls hl => ?_) _ 0 0 (Nat.lt_succ_self _) (by decide) (by decide) hfi _ _ hP hD hS ls (lv_sub hl [2, 3, 1, 0] rfl)
      refine lv_iconst (v := nI 2) hx hb dX12_areRules_158 (by decide) ?_
      refine lv_istore (lv' := [(4, .int (nI 2)), (0, .ref z0), (1, .int (nI rules)), (3, .int (nI fi))]) hx hb dX12_areRules_159 hl (by decide) rfl (fun ls hl => ?_)
      have hP : va_P (dC, dI) vwCl (MW cB cC cI cJ cZ z0 R pl (SCN N (N 49) (N 53)) (SCG G G) B) H := by rw [SCN_self, SCG_self]; exact hP
      have hD : va_D A (MW cB cC cI cJ cZ z0 R pl (SCN N (N 49) (N 53)) (SCG G G) B) := by rw [SCN_self, SCG_self]; exact hD
      refine lp_rul2 hx hb hml hown hts hK hA hG ht9 hat hal hev rules hrl (fun fi vc q g H locs hg hv1 hq1 hfi1 hfi hP hD hS ls hl => ?_) _ 2 fi (N 49) (N 53) G (Nat.lt_succ_self _) (by decide) hG hN49 hN53 hfi1 (fun z => ⟨(hfi z).1, (hfi z).2, fun j h1 h2 => absurd h2 (by omega)⟩) _ _ hP hD hS ls (lv_sub hl [1, 2, 3, 0] rfl)
      refine lv_iload_n hx hb dX12_areRules_277 rfl (lv_at hl 0 rfl) ?_
      have hz1 : narrow .boolean (.int (nI fi)) = .int (nI fi) := by rcases (show fi = 0 ∨ fi = 1 by omega) with h | h <;> rw [h] <;> rfl
      exact W.zret (v := (nI fi)) hx hb hr hz1 (fun t ht hW => ⟨⟨(nI fi), (SCN N vc q, SCG G g, B, pl), rfl, ⟨rfl, rfl, vc, q, fi, g, hg, hv1, hq1, rfl, rfl, rfl, hfi1, hfi⟩, by rw [ht]; exact hP, va_K.moved hW.alike hK, hD⟩, hS.F ht⟩) hS.2.2 dX12_areRules_278
    · refine lv_aload_n hx hb dX12_areRules_20 rfl (lv_at hl 0 rfl) ?_
      refine mg_12 hx hb hts inX12_areRules hown hK hP (hts _ lkX12_areRules_f38) dX12_areRules_21 ?_
      refine lv_iload_n hx hb dX12_areRules_24 rfl (lv_at hl 1 rfl) ?_
      refine ml_12 hx hb hK hP (by omega) dX12_areRules_25 ?_
      refine lv_bipush (v := nI 10) hx hb dX12_areRules_26 (by decide) ?_
      refine bn_gt (tgt := 35) hx hb (by first | omega | exact Nat.lt_of_lt_of_le (hG _ _) (by decide)) (by first | omega | exact Nat.lt_of_lt_of_le (hG _ _) (by decide)) dX12_areRules_28 (by decide) (fun c_3 => ?_) (fun c_3 => ?_)
      · refine lv_iconst (v := nI 0) hx hb dX12_areRules_35 (by decide) ?_
        refine lv_istore_n (lv' := [(3, .int (nI 0)), (0, .ref z0), (1, .int (nI rules)), (2, .int (nI en))]) hx hb dX12_areRules_36 rfl hl (by decide) rfl (fun ls hl => ?_)
        refine lv_iload_n hx hb dX12_areRules_37 rfl (lv_at hl 0 rfl) ?_
        refine bz_eq (tgt := 110) hx hb (by first | omega | exact Nat.lt_of_lt_of_le (hG _ _) (by decide)) dX12_areRules_38 (by decide) (fun c => ?_) (fun q9 => absurd q9 (by omega))
        refine lv_iconst (v := nI 0) hx hb dX12_areRules_110 (by decide) ?_
        refine lv_istore_n (lv' := [(3, .int (nI 0)), (0, .ref z0), (1, .int (nI rules)), (2, .int (nI en))]) hx hb dX12_areRules_111 rfl hl (by decide) rfl (fun ls hl => ?_)
        refine lv_iconst (v := nI 0) hx hb dX12_areRules_112 (by decide) ?_
        refine lv_istore (lv' := [(4, .int (nI 0)), (3, .int (nI 0)), (0, .ref z0), (1, .int (nI rules)), (2, .int (nI en))]) hx hb dX12_areRules_113 hl (by decide) rfl (fun ls hl => ?_)
        have hfi : 0 = 1 → (G 10 rules = 2 ∧ 2 < G 12 rules ∧ G 12 rules ≤ 10) ∧ ∀ j, j < 0 → G 10 (CH G (CH G rules 1) j) = 1 := fun z => absurd z (by decide)
        refine lp_rul1 hx hb hml hown hts hK hA hG ht9 hat hal hev rules hrl (fun fi H locs hfi1 hfi hP hD hS ls hl => ?_) _ 0 0 (Nat.lt_succ_self _) (by decide) (by decide) hfi _ _ hP hD hS ls (lv_sub hl [2, 3, 1, 0] rfl)
        refine lv_iconst (v := nI 2) hx hb dX12_areRules_158 (by decide) ?_
        refine lv_istore (lv' := [(4, .int (nI 2)), (0, .ref z0), (1, .int (nI rules)), (3, .int (nI fi))]) hx hb dX12_areRules_159 hl (by decide) rfl (fun ls hl => ?_)
        have hP : va_P (dC, dI) vwCl (MW cB cC cI cJ cZ z0 R pl (SCN N (N 49) (N 53)) (SCG G G) B) H := by rw [SCN_self, SCG_self]; exact hP
        have hD : va_D A (MW cB cC cI cJ cZ z0 R pl (SCN N (N 49) (N 53)) (SCG G G) B) := by rw [SCN_self, SCG_self]; exact hD
        refine lp_rul2 hx hb hml hown hts hK hA hG ht9 hat hal hev rules hrl (fun fi vc q g H locs hg hv1 hq1 hfi1 hfi hP hD hS ls hl => ?_) _ 2 fi (N 49) (N 53) G (Nat.lt_succ_self _) (by decide) hG hN49 hN53 hfi1 (fun z => ⟨(hfi z).1, (hfi z).2, fun j h1 h2 => absurd h2 (by omega)⟩) _ _ hP hD hS ls (lv_sub hl [1, 2, 3, 0] rfl)
        refine lv_iload_n hx hb dX12_areRules_277 rfl (lv_at hl 0 rfl) ?_
        have hz1 : narrow .boolean (.int (nI fi)) = .int (nI fi) := by rcases (show fi = 0 ∨ fi = 1 by omega) with h | h <;> rw [h] <;> rfl
        exact W.zret (v := (nI fi)) hx hb hr hz1 (fun t ht hW => ⟨⟨(nI fi), (SCN N vc q, SCG G g, B, pl), rfl, ⟨rfl, rfl, vc, q, fi, g, hg, hv1, hq1, rfl, rfl, rfl, hfi1, hfi⟩, by rw [ht]; exact hP, va_K.moved hW.alike hK, hD⟩, hS.F ht⟩) hS.2.2 dX12_areRules_278
      · refine lv_iconst (v := nI 1) hx hb dX12_areRules_31 (by decide) ?_
        refine lv_goto (tgt := 36) hx hb dX12_areRules_32 (by decide) ?_
        refine lv_istore_n (lv' := [(3, .int (nI 1)), (0, .ref z0), (1, .int (nI rules)), (2, .int (nI en))]) hx hb dX12_areRules_36 rfl hl (by decide) rfl (fun ls hl => ?_)
        refine lv_iload_n hx hb dX12_areRules_37 rfl (lv_at hl 0 rfl) ?_
        refine bz_eq (tgt := 110) hx hb (by first | omega | exact Nat.lt_of_lt_of_le (hG _ _) (by decide)) dX12_areRules_38 (by decide) (fun q9 => absurd q9 (by omega)) (fun c => ?_)
        refine lv_aload_n hx hb dX12_areRules_41 rfl (lv_at hl 1 rfl) ?_
        refine lv_aload_n hx hb dX12_areRules_42 rfl (lv_at hl 1 rfl) ?_
        refine lv_iload_n hx hb dX12_areRules_43 rfl (lv_at hl 2 rfl) ?_
        refine lv_iconst (v := nI 0) hx hb dX12_areRules_44 (by decide) ?_
        obtain ⟨t_4, t_4b, t_4c, t_4d⟩ := ht9.pt (f := rules) (k := 0) (by first | assumption | omega) (by first | assumption | omega)
        refine mcl_i (As := [.int (nI rules), .int (nI 0)]) (rest := [.ref z0]) ⟨hx, hb, hml, hown, hts⟩ (m_part l dC dI cB cC cI cJ cZ z0 R pl N G B rules 0 hG2 t_4d t_4 s.heap.size) (cwV 2 hts kX12_areRules_X12_part_192 rfl rfl rfl (by decide +kernel) ⟨Nat.le_of_ble_eq_true rfl, Nat.le_of_ble_eq_true rfl⟩) hK hP hD hS hA rfl rfl hl.1 (lv_room (Nat.le_of_ble_eq_true rfl)) dX12_areRules_45 hcs (fun r_9 N_5 G_6 B_7 pl_8 hw H locs hP hD hS => ?_)
        dsimp only at hw
        obtain ⟨e1, e2, e3, e4, hw⟩ := hw
        rw [e1, e2, e3, e4] at hP hD
        have hw : r_9 = nI (CH G rules 0) := hw
        subst hw
        refine mcl_i (As := [.int (nI (CH G rules 0))]) (rest := []) ⟨hx, hb, hml, hown, hts⟩ (m_isName l dC dI cB cC cI cJ cZ z0 R pl N G B (CH G rules 0) hG2 (by omega) H.size) (cwV 1 hts kX12_areRules_X12_isName_180 rfl rfl rfl (by decide +kernel) ⟨Nat.le_of_ble_eq_true rfl, Nat.le_of_ble_eq_true rfl⟩) hK hP hD hS hA rfl rfl hl.1 (lv_room (Nat.le_of_ble_eq_true rfl)) dX12_areRules_48 hcs (fun r_15 N_11 G_12 B_13 pl_14 hw H locs hP hD hS => ?_)
        dsimp only at hw
        obtain ⟨e1, e2, e3, e4, hw⟩ := hw
        rw [e1, e2, e3, e4] at hP hD
        have hw : r_15 = nI (if G 10 (CH G rules 0) = 1 then 1 else 0) := hw
        by_cases c_10 : G 10 (CH G rules 0) = 1
        · rw [if_pos c_10] at hw
          subst hw
          have hnm := (ht9.2 (CH G rules 0) (by first | assumption | omega)).2.2.2.1 c_10
          refine bz_eq (tgt := 110) hx hb (by first | omega | exact Nat.lt_of_lt_of_le (hG _ _) (by decide)) dX12_areRules_51 (by decide) (fun q9 => absurd q9 (by omega)) (fun c => ?_)
          refine lv_aload_n hx hb dX12_areRules_54 rfl (lv_at hl 1 rfl) ?_
          refine lv_aload_n hx hb dX12_areRules_55 rfl (lv_at hl 1 rfl) ?_
          refine mg_11 hx hb hts inX12_areRules hown hK hP (hts _ lkX12_areRules_f35) dX12_areRules_56 ?_
          refine lv_aload_n hx hb dX12_areRules_59 rfl (lv_at hl 1 rfl) ?_
          refine lv_iload_n hx hb dX12_areRules_60 rfl (lv_at hl 2 rfl) ?_
          refine lv_iconst (v := nI 0) hx hb dX12_areRules_61 (by decide) ?_
          obtain ⟨t_16, t_16b, t_16c, t_16d⟩ := ht9.pt (f := rules) (k := 0) (by first | assumption | omega) (by first | assumption | omega)
          refine mcl_i (As := [.int (nI rules), .int (nI 0)]) (rest := [.ref (R 11), .ref z0]) ⟨hx, hb, hml, hown, hts⟩ (m_part l dC dI cB cC cI cJ cZ z0 R pl N G B rules 0 hG2 t_16d t_16 H.size) (cwV 2 hts kX12_areRules_X12_part_192 rfl rfl rfl (by decide +kernel) ⟨Nat.le_of_ble_eq_true rfl, Nat.le_of_ble_eq_true rfl⟩) hK hP hD hS hA rfl rfl hl.1 (lv_room (Nat.le_of_ble_eq_true rfl)) dX12_areRules_62 hcs (fun r_21 N_17 G_18 B_19 pl_20 hw H locs hP hD hS => ?_)
          dsimp only at hw
          obtain ⟨e1, e2, e3, e4, hw⟩ := hw
          rw [e1, e2, e3, e4] at hP hD
          have hw : r_21 = nI (CH G rules 0) := hw
          subst hw
          refine ml_11 hx hb hK hP (by omega) dX12_areRules_65 ?_
          refine lv_iload_n hx hb dX12_areRules_66 rfl (lv_at hl 3 rfl) ?_
          refine mcl_i (As := [.int (nI (G 11 (CH G rules 0))), .int (nI en)]) (rest := []) ⟨hx, hb, hml, hown, hts⟩ (m_meaning l dC dI cB cC cI cJ cZ z0 R pl N G B (G 11 (CH G rules 0)) en hG2 hal hev (by first | assumption | exact hnm) (by first | assumption | omega) H.size) (cwV 2 hts kX12_areRules_X12_meaning_252 rfl rfl rfl (by decide +kernel) ⟨Nat.le_of_ble_eq_true rfl, Nat.le_of_ble_eq_true rfl⟩) hK hP hD hS hA rfl rfl hl.1 (lv_room (Nat.le_of_ble_eq_true rfl)) dX12_areRules_67 hcs (fun r_26 N_22 G_23 B_24 pl_25 hw H locs hP hD hS => ?_)
          dsimp only at hw
          obtain ⟨e1, e2, e3, e4, hw⟩ := hw
          rw [e1, e2, e3, e4] at hP hD
          refine lv_bipush (v := nI 0 - 5) hx hb dX12_areRules_70 (by decide) ?_
          refine lv_icmp_ne (tgt := 110) hx hb dX12_areRules_72 (by decide) (fun c_27 => ?_) (fun c_27 => ?_)
          · refine lv_iconst (v := nI 0) hx hb dX12_areRules_110 (by decide) ?_
            refine lv_istore_n (lv' := [(3, .int (nI 0)), (0, .ref z0), (1, .int (nI rules)), (2, .int (nI en))]) hx hb dX12_areRules_111 rfl hl (by decide) rfl (fun ls hl => ?_)
            refine lv_iconst (v := nI 0) hx hb dX12_areRules_112 (by decide) ?_
            refine lv_istore (lv' := [(4, .int (nI 0)), (3, .int (nI 0)), (0, .ref z0), (1, .int (nI rules)), (2, .int (nI en))]) hx hb dX12_areRules_113 hl (by decide) rfl (fun ls hl => ?_)
            have hfi : 0 = 1 → (G 10 rules = 2 ∧ 2 < G 12 rules ∧ G 12 rules ≤ 10) ∧ ∀ j, j < 0 → G 10 (CH G (CH G rules 1) j) = 1 := fun z => absurd z (by decide)
            refine lp_rul1 hx hb hml hown hts hK hA hG ht9 hat hal hev rules hrl (fun fi H locs hfi1 hfi hP hD hS ls hl => ?_) _ 0 0 (Nat.lt_succ_self _) (by decide) (by decide) hfi _ _ hP hD hS ls (lv_sub hl [2, 3, 1, 0] rfl)
            refine lv_iconst (v := nI 2) hx hb dX12_areRules_158 (by decide) ?_
            refine lv_istore (lv' := [(4, .int (nI 2)), (0, .ref z0), (1, .int (nI rules)), (3, .int (nI fi))]) hx hb dX12_areRules_159 hl (by decide) rfl (fun ls hl => ?_)
            have hP : va_P (dC, dI) vwCl (MW cB cC cI cJ cZ z0 R pl (SCN N (N 49) (N 53)) (SCG G G) B) H := by rw [SCN_self, SCG_self]; exact hP
            have hD : va_D A (MW cB cC cI cJ cZ z0 R pl (SCN N (N 49) (N 53)) (SCG G G) B) := by rw [SCN_self, SCG_self]; exact hD
            refine lp_rul2 hx hb hml hown hts hK hA hG ht9 hat hal hev rules hrl (fun fi vc q g H locs hg hv1 hq1 hfi1 hfi hP hD hS ls hl => ?_) _ 2 fi (N 49) (N 53) G (Nat.lt_succ_self _) (by decide) hG hN49 hN53 hfi1 (fun z => ⟨(hfi z).1, (hfi z).2, fun j h1 h2 => absurd h2 (by omega)⟩) _ _ hP hD hS ls (lv_sub hl [1, 2, 3, 0] rfl)
            refine lv_iload_n hx hb dX12_areRules_277 rfl (lv_at hl 0 rfl) ?_
            have hz1 : narrow .boolean (.int (nI fi)) = .int (nI fi) := by rcases (show fi = 0 ∨ fi = 1 by omega) with h | h <;> rw [h] <;> rfl
            exact W.zret (v := (nI fi)) hx hb hr hz1 (fun t ht hW => ⟨⟨(nI fi), (SCN N vc q, SCG G g, B, pl), rfl, ⟨rfl, rfl, vc, q, fi, g, hg, hv1, hq1, rfl, rfl, rfl, hfi1, hfi⟩, by rw [ht]; exact hP, va_K.moved hW.alike hK, hD⟩, hS.F ht⟩) hS.2.2 dX12_areRules_278
          · refine lv_aload_n hx hb dX12_areRules_75 rfl (lv_at hl 1 rfl) ?_
            refine mg_10 hx hb hts inX12_areRules hown hK hP (hts _ lkX12_areRules_f32) dX12_areRules_76 ?_
            refine lv_aload_n hx hb dX12_areRules_79 rfl (lv_at hl 1 rfl) ?_
            refine lv_iload_n hx hb dX12_areRules_80 rfl (lv_at hl 2 rfl) ?_
            refine lv_iconst (v := nI 1) hx hb dX12_areRules_81 (by decide) ?_
            obtain ⟨t_28, t_28b, t_28c, t_28d⟩ := ht9.pt (f := rules) (k := 1) (by first | assumption | omega) (by first | assumption | omega)
            refine mcl_i (As := [.int (nI rules), .int (nI 1)]) (rest := [.ref (R 10)]) ⟨hx, hb, hml, hown, hts⟩ (m_part l dC dI cB cC cI cJ cZ z0 R pl N G B rules 1 hG2 t_28d t_28 H.size) (cwV 2 hts kX12_areRules_X12_part_192 rfl rfl rfl (by decide +kernel) ⟨Nat.le_of_ble_eq_true rfl, Nat.le_of_ble_eq_true rfl⟩) hK hP hD hS hA rfl rfl hl.1 (lv_room (Nat.le_of_ble_eq_true rfl)) dX12_areRules_82 hcs (fun r_33 N_29 G_30 B_31 pl_32 hw H locs hP hD hS => ?_)
            dsimp only at hw
            obtain ⟨e1, e2, e3, e4, hw⟩ := hw
            rw [e1, e2, e3, e4] at hP hD
            have hw : r_33 = nI (CH G rules 1) := hw
            subst hw
            refine ml_10 hx hb hK hP (by omega) dX12_areRules_85 ?_
            refine lv_iconst (v := nI 2) hx hb dX12_areRules_86 (by decide) ?_
            refine bn_ne (tgt := 110) hx hb (by first | omega | exact Nat.lt_of_lt_of_le (hG _ _) (by decide)) (by first | omega | exact Nat.lt_of_lt_of_le (hG _ _) (by decide)) dX12_areRules_87 (by decide) (fun c_34 => ?_) (fun c_34 => ?_)
            · refine lv_iconst (v := nI 0) hx hb dX12_areRules_110 (by decide) ?_
              refine lv_istore_n (lv' := [(3, .int (nI 0)), (0, .ref z0), (1, .int (nI rules)), (2, .int (nI en))]) hx hb dX12_areRules_111 rfl hl (by decide) rfl (fun ls hl => ?_)
              refine lv_iconst (v := nI 0) hx hb dX12_areRules_112 (by decide) ?_
              refine lv_istore (lv' := [(4, .int (nI 0)), (3, .int (nI 0)), (0, .ref z0), (1, .int (nI rules)), (2, .int (nI en))]) hx hb dX12_areRules_113 hl (by decide) rfl (fun ls hl => ?_)
              have hfi : 0 = 1 → (G 10 rules = 2 ∧ 2 < G 12 rules ∧ G 12 rules ≤ 10) ∧ ∀ j, j < 0 → G 10 (CH G (CH G rules 1) j) = 1 := fun z => absurd z (by decide)
              refine lp_rul1 hx hb hml hown hts hK hA hG ht9 hat hal hev rules hrl (fun fi H locs hfi1 hfi hP hD hS ls hl => ?_) _ 0 0 (Nat.lt_succ_self _) (by decide) (by decide) hfi _ _ hP hD hS ls (lv_sub hl [2, 3, 1, 0] rfl)
              refine lv_iconst (v := nI 2) hx hb dX12_areRules_158 (by decide) ?_
              refine lv_istore (lv' := [(4, .int (nI 2)), (0, .ref z0), (1, .int (nI rules)), (3, .int (nI fi))]) hx hb dX12_areRules_159 hl (by decide) rfl (fun ls hl => ?_)
              have hP : va_P (dC, dI) vwCl (MW cB cC cI cJ cZ z0 R pl (SCN N (N 49) (N 53)) (SCG G G) B) H := by rw [SCN_self, SCG_self]; exact hP
              have hD : va_D A (MW cB cC cI cJ cZ z0 R pl (SCN N (N 49) (N 53)) (SCG G G) B) := by rw [SCN_self, SCG_self]; exact hD
              refine lp_rul2 hx hb hml hown hts hK hA hG ht9 hat hal hev rules hrl (fun fi vc q g H locs hg hv1 hq1 hfi1 hfi hP hD hS ls hl => ?_) _ 2 fi (N 49) (N 53) G (Nat.lt_succ_self _) (by decide) hG hN49 hN53 hfi1 (fun z => ⟨(hfi z).1, (hfi z).2, fun j h1 h2 => absurd h2 (by omega)⟩) _ _ hP hD hS ls (lv_sub hl [1, 2, 3, 0] rfl)
              refine lv_iload_n hx hb dX12_areRules_277 rfl (lv_at hl 0 rfl) ?_
              have hz1 : narrow .boolean (.int (nI fi)) = .int (nI fi) := by rcases (show fi = 0 ∨ fi = 1 by omega) with h | h <;> rw [h] <;> rfl
              exact W.zret (v := (nI fi)) hx hb hr hz1 (fun t ht hW => ⟨⟨(nI fi), (SCN N vc q, SCG G g, B, pl), rfl, ⟨rfl, rfl, vc, q, fi, g, hg, hv1, hq1, rfl, rfl, rfl, hfi1, hfi⟩, by rw [ht]; exact hP, va_K.moved hW.alike hK, hD⟩, hS.F ht⟩) hS.2.2 dX12_areRules_278
            · refine lv_aload_n hx hb dX12_areRules_90 rfl (lv_at hl 1 rfl) ?_
              refine mg_12 hx hb hts inX12_areRules hown hK hP (hts _ lkX12_areRules_f38) dX12_areRules_91 ?_
              refine lv_aload_n hx hb dX12_areRules_94 rfl (lv_at hl 1 rfl) ?_
              refine lv_iload_n hx hb dX12_areRules_95 rfl (lv_at hl 2 rfl) ?_
              refine lv_iconst (v := nI 1) hx hb dX12_areRules_96 (by decide) ?_
              obtain ⟨t_35, t_35b, t_35c, t_35d⟩ := ht9.pt (f := rules) (k := 1) (by first | assumption | omega) (by first | assumption | omega)
              refine mcl_i (As := [.int (nI rules), .int (nI 1)]) (rest := [.ref (R 12)]) ⟨hx, hb, hml, hown, hts⟩ (m_part l dC dI cB cC cI cJ cZ z0 R pl N G B rules 1 hG2 t_35d t_35 H.size) (cwV 2 hts kX12_areRules_X12_part_192 rfl rfl rfl (by decide +kernel) ⟨Nat.le_of_ble_eq_true rfl, Nat.le_of_ble_eq_true rfl⟩) hK hP hD hS hA rfl rfl hl.1 (lv_room (Nat.le_of_ble_eq_true rfl)) dX12_areRules_97 hcs (fun r_40 N_36 G_37 B_38 pl_39 hw H locs hP hD hS => ?_)
              dsimp only at hw
              obtain ⟨e1, e2, e3, e4, hw⟩ := hw
              rw [e1, e2, e3, e4] at hP hD
              have hw : r_40 = nI (CH G rules 1) := hw
              subst hw
              refine ml_12 hx hb hK hP (by omega) dX12_areRules_100 ?_
              refine lv_bipush (v := nI 6) hx hb dX12_areRules_101 (by decide) ?_
              refine bn_gt (tgt := 110) hx hb (by first | omega | exact Nat.lt_of_lt_of_le (hG _ _) (by decide)) (by first | omega | exact Nat.lt_of_lt_of_le (hG _ _) (by decide)) dX12_areRules_103 (by decide) (fun c_41 => ?_) (fun c_41 => ?_)
              · refine lv_iconst (v := nI 0) hx hb dX12_areRules_110 (by decide) ?_
                refine lv_istore_n (lv' := [(3, .int (nI 0)), (0, .ref z0), (1, .int (nI rules)), (2, .int (nI en))]) hx hb dX12_areRules_111 rfl hl (by decide) rfl (fun ls hl => ?_)
                refine lv_iconst (v := nI 0) hx hb dX12_areRules_112 (by decide) ?_
                refine lv_istore (lv' := [(4, .int (nI 0)), (3, .int (nI 0)), (0, .ref z0), (1, .int (nI rules)), (2, .int (nI en))]) hx hb dX12_areRules_113 hl (by decide) rfl (fun ls hl => ?_)
                have hfi : 0 = 1 → (G 10 rules = 2 ∧ 2 < G 12 rules ∧ G 12 rules ≤ 10) ∧ ∀ j, j < 0 → G 10 (CH G (CH G rules 1) j) = 1 := fun z => absurd z (by decide)
                refine lp_rul1 hx hb hml hown hts hK hA hG ht9 hat hal hev rules hrl (fun fi H locs hfi1 hfi hP hD hS ls hl => ?_) _ 0 0 (Nat.lt_succ_self _) (by decide) (by decide) hfi _ _ hP hD hS ls (lv_sub hl [2, 3, 1, 0] rfl)
                refine lv_iconst (v := nI 2) hx hb dX12_areRules_158 (by decide) ?_
                refine lv_istore (lv' := [(4, .int (nI 2)), (0, .ref z0), (1, .int (nI rules)), (3, .int (nI fi))]) hx hb dX12_areRules_159 hl (by decide) rfl (fun ls hl => ?_)
                have hP : va_P (dC, dI) vwCl (MW cB cC cI cJ cZ z0 R pl (SCN N (N 49) (N 53)) (SCG G G) B) H := by rw [SCN_self, SCG_self]; exact hP
                have hD : va_D A (MW cB cC cI cJ cZ z0 R pl (SCN N (N 49) (N 53)) (SCG G G) B) := by rw [SCN_self, SCG_self]; exact hD
                refine lp_rul2 hx hb hml hown hts hK hA hG ht9 hat hal hev rules hrl (fun fi vc q g H locs hg hv1 hq1 hfi1 hfi hP hD hS ls hl => ?_) _ 2 fi (N 49) (N 53) G (Nat.lt_succ_self _) (by decide) hG hN49 hN53 hfi1 (fun z => ⟨(hfi z).1, (hfi z).2, fun j h1 h2 => absurd h2 (by omega)⟩) _ _ hP hD hS ls (lv_sub hl [1, 2, 3, 0] rfl)
                refine lv_iload_n hx hb dX12_areRules_277 rfl (lv_at hl 0 rfl) ?_
                have hz1 : narrow .boolean (.int (nI fi)) = .int (nI fi) := by rcases (show fi = 0 ∨ fi = 1 by omega) with h | h <;> rw [h] <;> rfl
                exact W.zret (v := (nI fi)) hx hb hr hz1 (fun t ht hW => ⟨⟨(nI fi), (SCN N vc q, SCG G g, B, pl), rfl, ⟨rfl, rfl, vc, q, fi, g, hg, hv1, hq1, rfl, rfl, rfl, hfi1, hfi⟩, by rw [ht]; exact hP, va_K.moved hW.alike hK, hD⟩, hS.F ht⟩) hS.2.2 dX12_areRules_278
              · refine lv_iconst (v := nI 1) hx hb dX12_areRules_106 (by decide) ?_
                refine lv_goto (tgt := 111) hx hb dX12_areRules_107 (by decide) ?_
                refine lv_istore_n (lv' := [(3, .int (nI 1)), (0, .ref z0), (1, .int (nI rules)), (2, .int (nI en))]) hx hb dX12_areRules_111 rfl hl (by decide) rfl (fun ls hl => ?_)
                refine lv_iconst (v := nI 0) hx hb dX12_areRules_112 (by decide) ?_
                refine lv_istore (lv' := [(4, .int (nI 0)), (3, .int (nI 1)), (0, .ref z0), (1, .int (nI rules)), (2, .int (nI en))]) hx hb dX12_areRules_113 hl (by decide) rfl (fun ls hl => ?_)
                have hfi : 1 = 1 → (G 10 rules = 2 ∧ 2 < G 12 rules ∧ G 12 rules ≤ 10) ∧ ∀ j, j < 0 → G 10 (CH G (CH G rules 1) j) = 1 := fun _ => ⟨by omega, fun j hj => absurd hj (Nat.not_lt_zero j)⟩
                refine lp_rul1 hx hb hml hown hts hK hA hG ht9 hat hal hev rules hrl (fun fi H locs hfi1 hfi hP hD hS ls hl => ?_) _ 0 1 (Nat.lt_succ_self _) (by decide) (by decide) hfi _ _ hP hD hS ls (lv_sub hl [2, 3, 1, 0] rfl)
                refine lv_iconst (v := nI 2) hx hb dX12_areRules_158 (by decide) ?_
                refine lv_istore (lv' := [(4, .int (nI 2)), (0, .ref z0), (1, .int (nI rules)), (3, .int (nI fi))]) hx hb dX12_areRules_159 hl (by decide) rfl (fun ls hl => ?_)
                have hP : va_P (dC, dI) vwCl (MW cB cC cI cJ cZ z0 R pl (SCN N (N 49) (N 53)) (SCG G G) B) H := by rw [SCN_self, SCG_self]; exact hP
                have hD : va_D A (MW cB cC cI cJ cZ z0 R pl (SCN N (N 49) (N 53)) (SCG G G) B) := by rw [SCN_self, SCG_self]; exact hD
                refine lp_rul2 hx hb hml hown hts hK hA hG ht9 hat hal hev rules hrl (fun fi vc q g H locs hg hv1 hq1 hfi1 hfi hP hD hS ls hl => ?_) _ 2 fi (N 49) (N 53) G (Nat.lt_succ_self _) (by decide) hG hN49 hN53 hfi1 (fun z => ⟨(hfi z).1, (hfi z).2, fun j h1 h2 => absurd h2 (by omega)⟩) _ _ hP hD hS ls (lv_sub hl [1, 2, 3, 0] rfl)
                refine lv_iload_n hx hb dX12_areRules_277 rfl (lv_at hl 0 rfl) ?_
                have hz1 : narrow .boolean (.int (nI fi)) = .int (nI fi) := by rcases (show fi = 0 ∨ fi = 1 by omega) with h | h <;> rw [h] <;> rfl
                exact W.zret (v := (nI fi)) hx hb hr hz1 (fun t ht hW => ⟨⟨(nI fi), (SCN N vc q, SCG G g, B, pl), rfl, ⟨rfl, rfl, vc, q, fi, g, hg, hv1, hq1, rfl, rfl, rfl, hfi1, hfi⟩, by rw [ht]; exact hP, va_K.moved hW.alike hK, hD⟩, hS.F ht⟩) hS.2.2 dX12_areRules_278
        · rw [if_neg c_10] at hw
          subst hw
          refine bz_eq (tgt := 110) hx hb (by first | omega | exact Nat.lt_of_lt_of_le (hG _ _) (by decide)) dX12_areRules_51 (by decide) (fun c => ?_) (fun q9 => absurd q9 (by omega))
          refine lv_iconst (v := nI 0) hx hb dX12_areRules_110 (by decide) ?_
          refine lv_istore_n (lv' := [(3, .int (nI 0)), (0, .ref z0), (1, .int (nI rules)), (2, .int (nI en))]) hx hb dX12_areRules_111 rfl hl (by decide) rfl (fun ls hl => ?_)
          refine lv_iconst (v := nI 0) hx hb dX12_areRules_112 (by decide) ?_
          refine lv_istore (lv' := [(4, .int (nI 0)), (3, .int (nI 0)), (0, .ref z0), (1, .int (nI rules)), (2, .int (nI en))]) hx hb dX12_areRules_113 hl (by decide) rfl (fun ls hl => ?_)
          have hfi : 0 = 1 → (G 10 rules = 2 ∧ 2 < G 12 rules ∧ G 12 rules ≤ 10) ∧ ∀ j, j < 0 → G 10 (CH G (CH G rules 1) j) = 1 := fun z => absurd z (by decide)
          refine lp_rul1 hx hb hml hown hts hK hA hG ht9 hat hal hev rules hrl (fun fi H locs hfi1 hfi hP hD hS ls hl => ?_) _ 0 0 (Nat.lt_succ_self _) (by decide) (by decide) hfi _ _ hP hD hS ls (lv_sub hl [2, 3, 1, 0] rfl)
          refine lv_iconst (v := nI 2) hx hb dX12_areRules_158 (by decide) ?_
          refine lv_istore (lv' := [(4, .int (nI 2)), (0, .ref z0), (1, .int (nI rules)), (3, .int (nI fi))]) hx hb dX12_areRules_159 hl (by decide) rfl (fun ls hl => ?_)
          have hP : va_P (dC, dI) vwCl (MW cB cC cI cJ cZ z0 R pl (SCN N (N 49) (N 53)) (SCG G G) B) H := by rw [SCN_self, SCG_self]; exact hP
          have hD : va_D A (MW cB cC cI cJ cZ z0 R pl (SCN N (N 49) (N 53)) (SCG G G) B) := by rw [SCN_self, SCG_self]; exact hD
          refine lp_rul2 hx hb hml hown hts hK hA hG ht9 hat hal hev rules hrl (fun fi vc q g H locs hg hv1 hq1 hfi1 hfi hP hD hS ls hl => ?_) _ 2 fi (N 49) (N 53) G (Nat.lt_succ_self _) (by decide) hG hN49 hN53 hfi1 (fun z => ⟨(hfi z).1, (hfi z).2, fun j h1 h2 => absurd h2 (by omega)⟩) _ _ hP hD hS ls (lv_sub hl [1, 2, 3, 0] rfl)
          refine lv_iload_n hx hb dX12_areRules_277 rfl (lv_at hl 0 rfl) ?_
          have hz1 : narrow .boolean (.int (nI fi)) = .int (nI fi) := by rcases (show fi = 0 ∨ fi = 1 by omega) with h | h <;> rw [h] <;> rfl
          exact W.zret (v := (nI fi)) hx hb hr hz1 (fun t ht hW => ⟨⟨(nI fi), (SCN N vc q, SCG G g, B, pl), rfl, ⟨rfl, rfl, vc, q, fi, g, hg, hv1, hq1, rfl, rfl, rfl, hfi1, hfi⟩, by rw [ht]; exact hP, va_K.moved hW.alike hK, hD⟩, hS.F ht⟩) hS.2.2 dX12_areRules_278
