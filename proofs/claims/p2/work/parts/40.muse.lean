def oX12_use : List Cond := [Cond.fieldLink RX12 38 "MacroScopesModel" "counts" "[I", Cond.methodLink RX12 192 yX12_part, Cond.instanceMethod yX12_part, Cond.selects RX12 yX12_part yX12_part, Cond.initialized RX12, Cond.methodLink RX12 348 yX12_matches, Cond.instanceMethod yX12_matches, Cond.selects RX12 yX12_matches yX12_matches, Cond.methodLink RX12 312 yX12_isPattern, Cond.instanceMethod yX12_isPattern, Cond.selects RX12 yX12_isPattern yX12_isPattern, Cond.methodLink RX12 352 yX12_keepMatches, Cond.instanceMethod yX12_keepMatches, Cond.selects RX12 yX12_keepMatches yX12_keepMatches, Cond.methodLink RX12 355 yX12_areCountsAlike, Cond.instanceMethod yX12_areCountsAlike, Cond.selects RX12 yX12_areCountsAlike yX12_areCountsAlike, Cond.methodLink RX12 255 yX12_need, Cond.instanceMethod yX12_need, Cond.selects RX12 yX12_need yX12_need, Cond.methodLink RX12 358 yX12_sizeMade, Cond.instanceMethod yX12_sizeMade, Cond.selects RX12 yX12_sizeMade yX12_sizeMade, Cond.methodLink RX12 361 yX12_make, Cond.instanceMethod yX12_make, Cond.selects RX12 yX12_make yX12_make, Cond.methodLink RX12 364 yX12_nested, Cond.instanceMethod yX12_nested, Cond.selects RX12 yX12_nested yX12_nested, Cond.methodLink RX12 232 yX12_task, Cond.instanceMethod yX12_task, Cond.selects RX12 yX12_task yX12_task, Cond.fieldLink RX12 345 "MacroScopesModel" "uses" "I"]
def vX12_use : List Cond := .code yX12_use cX12_use 10 none :: (oX12_use ++ (vX12_part ++ (vX12_matches ++ (vX12_isPattern ++ (vX12_keepMatches ++ (vX12_areCountsAlike ++ (vX12_need ++ (vX12_sizeMade ++ (vX12_make ++ (vX12_nested ++ (vX12_task ++ (wsX120))))))))))))
theorem lkX12_use_f38 : Cond.fieldLink RX12 38 "MacroScopesModel" "counts" "[I" ∈ vX12_use := List.mem_cons_of_mem _ (List.mem_append_left _ (List.mem_of_getElem? (i := 0) rfl))
theorem lkX12_use_f345 : Cond.fieldLink RX12 345 "MacroScopesModel" "uses" "I" ∈ vX12_use := List.mem_cons_of_mem _ (List.mem_append_left _ (List.mem_of_getElem? (i := 32) rfl))
theorem inX12_use : ∀ w ∈ wsX120, w ∈ vX12_use := fun w h => List.mem_cons_of_mem _ (List.mem_append_right _ (List.mem_append_right _ (List.mem_append_right _ (List.mem_append_right _ (List.mem_append_right _ (List.mem_append_right _ (List.mem_append_right _ (List.mem_append_right _ (List.mem_append_right _ (List.mem_append_right _ (List.mem_append_right _ (h))))))))))))
theorem kX12_use_X12_part_192 : GoodIn vX12_use (wsV RX12 192 RX12 yX12_part vX12_part) := goodIn_sub (fun w h => (List.mem_append.mp h).elim (fun h => List.mem_cons_of_mem _ (List.mem_append_left _ ((by decide +kernel : ∀ w ∈ ([.methodLink RX12 192 yX12_part, .instanceMethod yX12_part, .selects RX12 yX12_part yX12_part, .initialized RX12] : List Cond), w ∈ oX12_use) w h))) (fun h => List.mem_cons_of_mem _ (List.mem_append_right _ (List.mem_append_left _ (h))))) (by decide +kernel)
theorem kX12_use_X12_matches_348 : GoodIn vX12_use (wsV RX12 348 RX12 yX12_matches vX12_matches) := goodIn_sub (fun w h => (List.mem_append.mp h).elim (fun h => List.mem_cons_of_mem _ (List.mem_append_left _ ((by decide +kernel : ∀ w ∈ ([.methodLink RX12 348 yX12_matches, .instanceMethod yX12_matches, .selects RX12 yX12_matches yX12_matches, .initialized RX12] : List Cond), w ∈ oX12_use) w h))) (fun h => List.mem_cons_of_mem _ (List.mem_append_right _ (List.mem_append_right _ (List.mem_append_left _ (h)))))) (by decide +kernel)
theorem kX12_use_X12_isPattern_312 : GoodIn vX12_use (wsV RX12 312 RX12 yX12_isPattern vX12_isPattern) := goodIn_sub (fun w h => (List.mem_append.mp h).elim (fun h => List.mem_cons_of_mem _ (List.mem_append_left _ ((by decide +kernel : ∀ w ∈ ([.methodLink RX12 312 yX12_isPattern, .instanceMethod yX12_isPattern, .selects RX12 yX12_isPattern yX12_isPattern, .initialized RX12] : List Cond), w ∈ oX12_use) w h))) (fun h => List.mem_cons_of_mem _ (List.mem_append_right _ (List.mem_append_right _ (List.mem_append_right _ (List.mem_append_left _ (h))))))) (by decide +kernel)
theorem kX12_use_X12_keepMatches_352 : GoodIn vX12_use (wsV RX12 352 RX12 yX12_keepMatches vX12_keepMatches) := goodIn_sub (fun w h => (List.mem_append.mp h).elim (fun h => List.mem_cons_of_mem _ (List.mem_append_left _ ((by decide +kernel : ∀ w ∈ ([.methodLink RX12 352 yX12_keepMatches, .instanceMethod yX12_keepMatches, .selects RX12 yX12_keepMatches yX12_keepMatches, .initialized RX12] : List Cond), w ∈ oX12_use) w h))) (fun h => List.mem_cons_of_mem _ (List.mem_append_right _ (List.mem_append_right _ (List.mem_append_right _ (List.mem_append_right _ (List.mem_append_left _ (h)))))))) (by decide +kernel)
theorem kX12_use_X12_areCountsAlike_355 : GoodIn vX12_use (wsV RX12 355 RX12 yX12_areCountsAlike vX12_areCountsAlike) := goodIn_sub (fun w h => (List.mem_append.mp h).elim (fun h => List.mem_cons_of_mem _ (List.mem_append_left _ ((by decide +kernel : ∀ w ∈ ([.methodLink RX12 355 yX12_areCountsAlike, .instanceMethod yX12_areCountsAlike, .selects RX12 yX12_areCountsAlike yX12_areCountsAlike, .initialized RX12] : List Cond), w ∈ oX12_use) w h))) (fun h => List.mem_cons_of_mem _ (List.mem_append_right _ (List.mem_append_right _ (List.mem_append_right _ (List.mem_append_right _ (List.mem_append_right _ (List.mem_append_left _ (h))))))))) (by decide +kernel)
theorem kX12_use_X12_need_255 : GoodIn vX12_use (wsV RX12 255 RX12 yX12_need vX12_need) := goodIn_sub (fun w h => (List.mem_append.mp h).elim (fun h => List.mem_cons_of_mem _ (List.mem_append_left _ ((by decide +kernel : ∀ w ∈ ([.methodLink RX12 255 yX12_need, .instanceMethod yX12_need, .selects RX12 yX12_need yX12_need, .initialized RX12] : List Cond), w ∈ oX12_use) w h))) (fun h => List.mem_cons_of_mem _ (List.mem_append_right _ (List.mem_append_right _ (List.mem_append_right _ (List.mem_append_right _ (List.mem_append_right _ (List.mem_append_right _ (List.mem_append_left _ (h)))))))))) (by decide +kernel)
theorem kX12_use_X12_sizeMade_358 : GoodIn vX12_use (wsV RX12 358 RX12 yX12_sizeMade vX12_sizeMade) := goodIn_sub (fun w h => (List.mem_append.mp h).elim (fun h => List.mem_cons_of_mem _ (List.mem_append_left _ ((by decide +kernel : ∀ w ∈ ([.methodLink RX12 358 yX12_sizeMade, .instanceMethod yX12_sizeMade, .selects RX12 yX12_sizeMade yX12_sizeMade, .initialized RX12] : List Cond), w ∈ oX12_use) w h))) (fun h => List.mem_cons_of_mem _ (List.mem_append_right _ (List.mem_append_right _ (List.mem_append_right _ (List.mem_append_right _ (List.mem_append_right _ (List.mem_append_right _ (List.mem_append_right _ (List.mem_append_left _ (h))))))))))) (by decide +kernel)
theorem kX12_use_X12_make_361 : GoodIn vX12_use (wsV RX12 361 RX12 yX12_make vX12_make) := goodIn_sub (fun w h => (List.mem_append.mp h).elim (fun h => List.mem_cons_of_mem _ (List.mem_append_left _ ((by decide +kernel : ∀ w ∈ ([.methodLink RX12 361 yX12_make, .instanceMethod yX12_make, .selects RX12 yX12_make yX12_make, .initialized RX12] : List Cond), w ∈ oX12_use) w h))) (fun h => List.mem_cons_of_mem _ (List.mem_append_right _ (List.mem_append_right _ (List.mem_append_right _ (List.mem_append_right _ (List.mem_append_right _ (List.mem_append_right _ (List.mem_append_right _ (List.mem_append_right _ (List.mem_append_left _ (h)))))))))))) (by decide +kernel)
theorem kX12_use_X12_nested_364 : GoodIn vX12_use (wsV RX12 364 RX12 yX12_nested vX12_nested) := goodIn_sub (fun w h => (List.mem_append.mp h).elim (fun h => List.mem_cons_of_mem _ (List.mem_append_left _ ((by decide +kernel : ∀ w ∈ ([.methodLink RX12 364 yX12_nested, .instanceMethod yX12_nested, .selects RX12 yX12_nested yX12_nested, .initialized RX12] : List Cond), w ∈ oX12_use) w h))) (fun h => List.mem_cons_of_mem _ (List.mem_append_right _ (List.mem_append_right _ (List.mem_append_right _ (List.mem_append_right _ (List.mem_append_right _ (List.mem_append_right _ (List.mem_append_right _ (List.mem_append_right _ (List.mem_append_right _ (List.mem_append_left _ (h))))))))))))) (by decide +kernel)
theorem kX12_use_X12_task_232 : GoodIn vX12_use (wsV RX12 232 RX12 yX12_task vX12_task) := goodIn_sub (fun w h => (List.mem_append.mp h).elim (fun h => List.mem_cons_of_mem _ (List.mem_append_left _ ((by decide +kernel : ∀ w ∈ ([.methodLink RX12 232 yX12_task, .instanceMethod yX12_task, .selects RX12 yX12_task yX12_task, .initialized RX12] : List Cond), w ∈ oX12_use) w h))) (fun h => List.mem_cons_of_mem _ (List.mem_append_right _ (List.mem_append_right _ (List.mem_append_right _ (List.mem_append_right _ (List.mem_append_right _ (List.mem_append_right _ (List.mem_append_right _ (List.mem_append_right _ (List.mem_append_right _ (List.mem_append_right _ (List.mem_append_left _ (h)))))))))))))) (by decide +kernel)
set_option maxHeartbeats 4000000 in
set_option maxRecDepth 100000 in
theorem lp_use1 {p : Program} {l : Launch} {e : Env} {s : State} {m : MethodId} {args : Array Value} {below : List Frame} {meth : Method} {c : Code} {Q : State → Prop} {A : Nat → Prop} {dC : Nat → ClassId} {dI : Nat → Nat → Nat} {cB cC cI cJ cZ : ClassId} {z0 : Nat} {R : Nat → Nat} (hx : p.tables.exec = Jvm.exec) (hb : c.code = cX12_use) (hml : c.maxLocals = 10) (hown : s.vm.findClass RX12 = some m.cls) (hts : ∀ w ∈ vX12_use, w.before args s = true) (hK : va_K (dC, dI) vwCl (TY cB cC cI cJ cZ) s) (hA : ∀ q : Nat, s.heap.size ≤ q → A q) {pl : Int32} {N : Nat → Nat} {G : Nat → Nat → Nat} {B : Nat → Nat → Int32} {sz az : Nat → Nat} {rules rin f en dp : Nat} (hxi : XI N G sz az) (h33 : N 33 = 0) (hro : RULESOK G sz rules) (hru : rules < N 14) (hrin : rin < N 23) (hf : f < N 14) (hen : en < N 23) (hdp : dp ≤ 100) (ke : ∀ (fo vc q : Nat) (g : Nat → Nat → Nat) (H : Heap) (locs : List Loc), (∀ k i, g k i < 1048576) → vc ≤ 1600 → q ≤ 90000 → fo < 1048576 → (fo = 0 ∨ ∃ j, 2 ≤ j ∧ j < G 12 rules ∧ fo = CH G rules j + 1 ∧ MAT G sz (CH G (CH G rules j) 0) f 1) → va_P (dC, dI) vwCl (MW cB cC cI cJ cZ z0 R pl (SCN N vc q) (SCG G g) B) H → va_D A (MW cB cC cI cJ cZ z0 R pl (SCN N vc q) (SCG G g) B) → va_S A s.heap H locs → ∀ (ls : Array Slot), lv_has ls 10 [(0, .ref z0), (1, .int (nI rules)), (2, .int (nI rin)), (3, .int (nI f)), (4, .int (nI en)), (5, .int (nI dp)), (6, .int (nI fo - 1))] → W p l e (headSpec vX12_use { frames := 5, cells := 0, slots := 0, locals := 123 }).room s m args below meth c H locs 0 0 Q (F0 m 97 ls [])) : ∀ (k : Nat) (kx fo vc q : Nat) (g : Nat → Nat → Nat), 11 - kx < k → 2 ≤ kx → kx ≤ 10 → (∀ k i, g k i < 1048576) → vc ≤ 1600 → q ≤ 90000 → fo < 1048576 → (fo = 0 ∨ ∃ j, 2 ≤ j ∧ j < G 12 rules ∧ fo = CH G rules j + 1 ∧ MAT G sz (CH G (CH G rules j) 0) f 1) → ∀ (H : Heap) (locs : List Loc), va_P (dC, dI) vwCl (MW cB cC cI cJ cZ z0 R pl (SCN N vc q) (SCG G g) B) H → va_D A (MW cB cC cI cJ cZ z0 R pl (SCN N vc q) (SCG G g) B) → va_S A s.heap H locs → ∀ (ls : Array Slot), lv_has ls 10 [(0, .ref z0), (1, .int (nI rules)), (2, .int (nI rin)), (3, .int (nI f)), (4, .int (nI en)), (5, .int (nI dp)), (6, .int (nI fo - 1)), (7, .int (nI kx))] → W p l e (headSpec vX12_use { frames := 5, cells := 0, slots := 0, locals := 123 }).room s m args below meth c H locs 0 0 Q (F0 m 39 ls []) := by
  have hcs : 0 + 0 ≤ (0 : Nat) ∧ 0 + 0 ≤ (0 : Nat) := ⟨Nat.le_refl 0, Nat.le_refl 0⟩
  intro k
  induction k with
  | zero =>
    intro kx fo vc q g hk hkx2 hkb hg hv1 hq1 hfo1 hfo H locs hP hD hS ls hl
    exact absurd hk (Nat.not_lt_zero _)
  | succ k ih =>
    intro kx fo vc q g hk hkx2 hkb hg hv1 hq1 hfo1 hfo H locs hP hD hS ls hl
    obtain ⟨hG, hal, ht9, hkd, hpb⟩ := id hxi.1
    have hev := hxi.2.2.2.1
    have u6 := ht9.1
    have hru8 : rules < 90000 := by omega
    have g12 := hG 12 rules
    obtain ⟨o1, o2, o3, o4, o5⟩ := id hro
    have hlit := ht9.pt hru (show 1 < G 12 rules by omega)
    have hlc : ∀ j, j < G 12 (CH G rules 1) → G 11 (CH G rules 1) + j < 90000 ∧ CH G (CH G rules 1) j < 90000 := fun j hj => ⟨(ht9.pt hlit.2.1 hj).1, (ht9.pt hlit.2.1 hj).2.2.1⟩
    have e23 := hev.2.1
    have hG2 := SCG_bd hG hg
    refine lv_iload hx hb dX12_use_39 (lv_at hl 7 rfl) ?_
    refine lv_aload_n hx hb dX12_use_41 rfl (lv_at hl 0 rfl) ?_
    refine mg_12 hx hb hts inX12_use hown hK hP (hts _ lkX12_use_f38) dX12_use_42 ?_
    refine lv_iload_n hx hb dX12_use_45 rfl (lv_at hl 1 rfl) ?_
    refine ml_12 hx hb hK hP (by omega) dX12_use_46 ?_
    refine tp_i (y := nI (G 12 rules)) rfl ?_
    refine bn_ge (tgt := 97) hx hb (by first | omega | exact Nat.lt_of_lt_of_le (hG _ _) (by decide)) (by first | omega | exact Nat.lt_of_lt_of_le (hG _ _) (by decide)) dX12_use_47 (by decide) (fun c1 => ?_) (fun c1 => ?_)
    · exact ke fo vc q g H locs hg hv1 hq1 hfo1 hfo hP hD hS ls (lv_sub hl [0, 1, 2, 3, 4, 5, 6] rfl)
    · refine lv_iload hx hb dX12_use_50 (lv_at hl 6 rfl) ?_
      refine bo_ge (tgt := 97) hx hb (by first | omega | exact Nat.lt_of_lt_of_le (hG _ _) (by decide)) dX12_use_52 (by decide) (fun c2 => ?_) (fun c2 => ?_)
      · exact ke fo vc q g H locs hg hv1 hq1 hfo1 hfo hP hD hS ls (lv_sub hl [0, 1, 2, 3, 4, 5, 6] rfl)
      · clear hfo
        have hpr := ht9.pt hru (show kx < G 12 rules from c1)
        obtain ⟨r1, r2, r3, r4, r5, r6⟩ := o5 kx hkx2 c1
        have hpp := ht9.pt hpr.2.1 (show 0 < G 12 (CH G rules kx) by omega)
        refine lv_aload_n hx hb dX12_use_55 rfl (lv_at hl 0 rfl) ?_
        refine lv_iload_n hx hb dX12_use_56 rfl (lv_at hl 1 rfl) ?_
        refine lv_iload hx hb dX12_use_57 (lv_at hl 7 rfl) ?_
        obtain ⟨t_1, t_1b, t_1c, t_1d⟩ := ht9.pt (f := rules) (k := kx) (by first | assumption | omega) (by first | assumption | omega)
        refine mcl_i (As := [.int (nI rules), .int (nI kx)]) (rest := []) ⟨hx, hb, hml, hown, hts⟩ (m_part l dC dI cB cC cI cJ cZ z0 R pl (SCN N vc q) (SCG G g) B rules kx hG2 t_1d t_1 H.size) (cwV 2 hts kX12_use_X12_part_192 rfl rfl rfl (by decide +kernel) ⟨Nat.le_of_ble_eq_true rfl, Nat.le_of_ble_eq_true rfl⟩) hK hP hD hS hA rfl rfl hl.1 (lv_room (Nat.le_of_ble_eq_true rfl)) dX12_use_59 hcs (fun r_6 N_2 G_3 B_4 pl_5 hw H locs hP hD hS => ?_)
        dsimp only at hw
        obtain ⟨e1, e2, e3, e4, hw⟩ := hw
        rw [e1, e2, e3, e4] at hP hD
        have hw : r_6 = nI (CH G rules kx) := hw
        subst hw
        refine lv_istore (lv' := [(8, .int (nI (CH G rules kx))), (0, .ref z0), (1, .int (nI rules)), (2, .int (nI rin)), (3, .int (nI f)), (4, .int (nI en)), (5, .int (nI dp)), (6, .int (nI fo - 1)), (7, .int (nI kx))]) hx hb dX12_use_62 hl (by decide) rfl (fun ls hl => ?_)
        refine lv_aload_n hx hb dX12_use_64 rfl (lv_at hl 1 rfl) ?_
        refine lv_iload_n hx hb dX12_use_65 rfl (lv_at hl 2 rfl) ?_
        refine lv_iload_n hx hb dX12_use_66 rfl (lv_at hl 3 rfl) ?_
        refine lv_aload_n hx hb dX12_use_67 rfl (lv_at hl 1 rfl) ?_
        refine lv_iload hx hb dX12_use_68 (lv_at hl 0 rfl) ?_
        refine lv_iconst (v := nI 0) hx hb dX12_use_70 (by decide) ?_
        obtain ⟨t_7, t_7b, t_7c, t_7d⟩ := ht9.pt (f := CH G rules kx) (k := 0) (hpr.2.1) (by omega)
        refine mcl_i (As := [.int (nI (CH G rules kx)), .int (nI 0)]) (rest := [.int (nI rin), .int (nI rules), .ref z0]) ⟨hx, hb, hml, hown, hts⟩ (m_part l dC dI cB cC cI cJ cZ z0 R pl (SCN N vc q) (SCG G g) B (CH G rules kx) 0 hG2 t_7d t_7 H.size) (cwV 2 hts kX12_use_X12_part_192 rfl rfl rfl (by decide +kernel) ⟨Nat.le_of_ble_eq_true rfl, Nat.le_of_ble_eq_true rfl⟩) hK hP hD hS hA rfl rfl hl.1 (lv_room (Nat.le_of_ble_eq_true rfl)) dX12_use_71 hcs (fun r_12 N_8 G_9 B_10 pl_11 hw H locs hP hD hS => ?_)
        dsimp only at hw
        obtain ⟨e1, e2, e3, e4, hw⟩ := hw
        rw [e1, e2, e3, e4] at hP hD
        have hw : r_12 = nI (CH G (CH G rules kx) 0) := hw
        subst hw
        refine lv_iload_n hx hb dX12_use_74 rfl (lv_at hl 4 rfl) ?_
        refine lv_iload hx hb dX12_use_75 (lv_at hl 5 rfl) ?_
        refine mcl_i (As := [.int (nI rules), .int (nI rin), .int (nI (CH G (CH G rules kx) 0)), .int (nI f), .int (nI en)]) (rest := []) ⟨hx, hb, hml, hown, hts⟩ (m_matches l dC dI cB cC cI cJ cZ z0 R pl (SCN N vc q) (SCG G g) B rules rin (CH G (CH G rules kx) 0) f en sz hG2 ht9 hkd hal hev hru8 hlit.1 hlit.2.2.1 hlc hrin hen hpp.2.1 hf ((PATf_core (SCG_core G g) _ _ _ _).mpr r5.1) H.size) (cwV 5 hts kX12_use_X12_matches_348 rfl rfl rfl (by decide +kernel) ⟨Nat.le_of_ble_eq_true rfl, Nat.le_of_ble_eq_true rfl⟩) hK hP hD hS hA rfl rfl hl.1 (lv_room (Nat.le_of_ble_eq_true rfl)) dX12_use_77 hcs (fun r_17 N_13 G_14 B_15 pl_16 hw H locs hP hD hS => ?_)
        dsimp only at hw
        obtain ⟨e3, e4, q2, fi2, L, Hw, O, b1, b2, b3, hq2, e1, e2, hw, hfi2, hmat⟩ := hw
        rw [e1, e2, e3, e4, SCN_53, SCG_LK] at hP hD
        have hmat : fi2 = 1 → MAT G sz (CH G (CH G rules kx) 0) f 1 := fun z => (MATf_core (SCG_core G g) _ _ _ _).mp (hmat z)
        have hg2 : ∀ k i, (LK (SCG G g) L Hw O) k i < 1048576 := hGLK hG2 b1 b2 b3
        generalize LK (SCG G g) L Hw O = g2 at hP hD hg2
        have hG2 := SCG_bd hG hg2
        subst hw
        refine bz_eq (tgt := 88) hx hb (by first | omega | exact Nat.lt_of_lt_of_le (hG _ _) (by decide)) dX12_use_80 (by decide) (fun c3 => ?_) (fun c3 => ?_)
        · refine lv_iconst (v := nI 0 - 1) hx hb dX12_use_88 (by decide) ?_
          refine lv_istore (lv' := [(6, .int (nI 0 - 1)), (8, .int (nI (CH G rules kx))), (0, .ref z0), (1, .int (nI rules)), (2, .int (nI rin)), (3, .int (nI f)), (4, .int (nI en)), (5, .int (nI dp)), (7, .int (nI kx))]) hx hb dX12_use_89 hl (by decide) rfl (fun ls hl => ?_)
          refine lv_iinc (v := nI (kx + 1)) (lv' := [(7, .int (nI (kx + 1))), (6, .int (nI 0 - 1)), (8, .int (nI (CH G rules kx))), (0, .ref z0), (1, .int (nI rules)), (2, .int (nI rin)), (3, .int (nI f)), (4, .int (nI en)), (5, .int (nI dp))]) hx hb dX12_use_91 hl (k := 8) rfl (nI_add kx 1) (by decide) rfl (fun ls hl => ?_)
          refine lv_goto (tgt := 39) hx hb dX12_use_94 (by decide) ?_
          exact ih (kx + 1) 0 vc q2 g2 (by omega) (by omega) (by omega) hg2 hv1 (by omega) (by decide) (Or.inl rfl) _ _ hP hD hS ls (lv_sub hl [3, 4, 5, 6, 7, 8, 1, 0] rfl)
        · refine lv_iload hx hb dX12_use_83 (lv_at hl 0 rfl) ?_
          refine lv_goto (tgt := 89) hx hb dX12_use_85 (by decide) ?_
          refine tp_i (y := nI (CH G rules kx + 1) - 1) (om1 (Nat.succ_pos _)).symm ?_
          refine lv_istore (lv' := [(6, .int (nI (CH G rules kx + 1) - 1)), (8, .int (nI (CH G rules kx))), (0, .ref z0), (1, .int (nI rules)), (2, .int (nI rin)), (3, .int (nI f)), (4, .int (nI en)), (5, .int (nI dp)), (7, .int (nI kx))]) hx hb dX12_use_89 hl (by decide) rfl (fun ls hl => ?_)
          refine lv_iinc (v := nI (kx + 1)) (lv' := [(7, .int (nI (kx + 1))), (6, .int (nI (CH G rules kx + 1) - 1)), (8, .int (nI (CH G rules kx))), (0, .ref z0), (1, .int (nI rules)), (2, .int (nI rin)), (3, .int (nI f)), (4, .int (nI en)), (5, .int (nI dp))]) hx hb dX12_use_91 hl (k := 8) rfl (nI_add kx 1) (by decide) rfl (fun ls hl => ?_)
          refine lv_goto (tgt := 39) hx hb dX12_use_94 (by decide) ?_
          exact ih (kx + 1) (CH G rules kx + 1) vc q2 g2 (by omega) (by omega) (by omega) hg2 hv1 (by omega) (by omega) (Or.inr ⟨kx, hkx2, c1, rfl, hmat (by omega)⟩) _ _ hP hD hS ls (lv_sub hl [3, 4, 5, 6, 7, 8, 1, 0] rfl)

theorem KG_ne {G : Nat → Nat → Nat} {MF MT M I L Hw O : Nat → Nat} {g2 : Nat → Nat → Nat} {k : Nat} (c : ¬ (47 ≤ k ∧ k ≤ 57)) : KG (SCG G g2) MF MT M I L Hw O k = G k := by
  show va_up (va_up (va_up (va_up (va_up (va_up (va_up (SCG G g2) 55 MF) 57 MT) 56 M) 54 I) 50 L) 51 Hw) 52 O k = G k
  rw [va_up_ne _ _ (by omega), va_up_ne _ _ (by omega), va_up_ne _ _ (by omega), va_up_ne _ _ (by omega), va_up_ne _ _ (by omega), va_up_ne _ _ (by omega), va_up_ne _ _ (by omega)]
  exact if_neg c
set_option maxHeartbeats 4000000 in
set_option maxRecDepth 100000 in
theorem lp_use2 {p : Program} {l : Launch} {e : Env} {s : State} {m : MethodId} {args : Array Value} {below : List Frame} {meth : Method} {c : Code} {Q : State → Prop} {A : Nat → Prop} {dC : Nat → ClassId} {dI : Nat → Nat → Nat} {cB cC cI cJ cZ : ClassId} {z0 : Nat} {R : Nat → Nat} (hx : p.tables.exec = Jvm.exec) (hb : c.code = cX12_use) (hml : c.maxLocals = 10) (hown : s.vm.findClass RX12 = some m.cls) (hts : ∀ w ∈ vX12_use, w.before args s = true) (hK : va_K (dC, dI) vwCl (TY cB cC cI cJ cZ) s) (hA : ∀ q : Nat, s.heap.size ≤ q → A q) {pl : Int32} {N : Nat → Nat} {G : Nat → Nat → Nat} {B : Nat → Nat → Int32} {sz az : Nat → Nat} {rules rin f en dp : Nat} (hxi : XI N G sz az) (h33 : N 33 = 0) (hro : RULESOK G sz rules) (hru : rules < N 14) (hrin : rin < N 23) (hf : f < N 14) (hen : en < N 23) (hdp : dp ≤ 100) {w x w0 : Nat} (htk : TSK N G sz w) (hbu : BUD N w0 x) (hw0 : w + 1800 ≤ w0) (hr14 : N 14 + 600 ≤ 8000 + 600 * N 35 ∧ N 15 + 600 ≤ 8000 + 600 * N 35 ∧ N 20 + 600 ≤ 600 * N 35) (j9 : Nat) (hj1 : 2 ≤ j9) (hj2 : j9 < G 12 rules) (hmt : MAT G sz (CH G (CH G rules j9) 0) f 1) (vc q : Nat) (g : Nat → Nat → Nat) (hg : (∀ k i, g k i < 1048576)) (hv1 : vc ≤ 1600) (hq1 : q ≤ 90000) (kr237 : ∀ (N1 : Nat → Nat) (G1 : Nat → Nat → Nat) (H : Heap) (locs : List Loc), XPOST N G B sz x N1 G1 B → va_P (dC, dI) vwCl (MW cB cC cI cJ cZ z0 R pl N1 G1 B) H → va_D A (MW cB cC cI cJ cZ z0 R pl N1 G1 B) → va_S A s.heap H locs → ∀ (ls : Array Slot), lv_has ls 10 [] → W p l e (headSpec vX12_use { frames := 5, cells := 0, slots := 0, locals := 123 }).room s m args below meth c H locs 0 0 Q (F0 m 237 ls [])) : ∀ (H : Heap) (locs : List Loc), va_P (dC, dI) vwCl (MW cB cC cI cJ cZ z0 R pl (SCN N vc q) (SCG G g) B) H → va_D A (MW cB cC cI cJ cZ z0 R pl (SCN N vc q) (SCG G g) B) → va_S A s.heap H locs → ∀ (ls : Array Slot), lv_has ls 10 [(0, .ref z0), (1, .int (nI rules)), (2, .int (nI rin)), (3, .int (nI f)), (4, .int (nI en)), (5, .int (nI dp)), (6, .int (nI (CH G rules j9)))] → W p l e (headSpec vX12_use { frames := 5, cells := 0, slots := 0, locals := 123 }).room s m args below meth c H locs 0 0 Q (F0 m 116 ls []) := by
  have hcs : 0 + 0 ≤ (0 : Nat) ∧ 0 + 0 ≤ (0 : Nat) := ⟨Nat.le_refl 0, Nat.le_refl 0⟩
  intro H locs hP hD hS ls hl
  obtain ⟨hG, hal, ht9, hkd, hpb⟩ := id hxi.1
  have hev := hxi.2.2.2.1
  have u6 := ht9.1
  have hru8 : rules < 90000 := by omega
  have g12 := hG 12 rules
  obtain ⟨o1, o2, o3, o4, o5⟩ := id hro
  have hlit := ht9.pt hru (show 1 < G 12 rules by omega)
  have hlc : ∀ j, j < G 12 (CH G rules 1) → G 11 (CH G rules 1) + j < 90000 ∧ CH G (CH G rules 1) j < 90000 := fun j hj => ⟨(ht9.pt hlit.2.1 hj).1, (ht9.pt hlit.2.1 hj).2.2.1⟩
  have e23 := hev.2.1
  have hG2 := SCG_bd hG hg
  have hpr := ht9.pt hru (show j9 < G 12 rules from hj2)
  obtain ⟨r1, r2, r3, r4, r5, r6⟩ := o5 j9 hj1 hj2
  obtain ⟨pr, epr⟩ : ∃ pr, pr = CH G rules j9 := ⟨_, rfl⟩
  rw [← epr] at hpr r1 r2 r3 r4 r5 r6 hmt
  have hl : lv_has ls 10 [(0, .ref z0), (1, .int (nI rules)), (2, .int (nI rin)), (3, .int (nI f)), (4, .int (nI en)), (5, .int (nI dp)), (6, .int (nI pr))] := by rw [epr]; exact hl
  have hpp := ht9.pt hpr.2.1 (show 0 < G 12 pr by omega)
  have hpq := ht9.pt hpr.2.1 (show 1 < G 12 pr by omega)
  have hpr1 := hpr.2.1
  have hrun : RUN N G B sz N G B az w 0 := RUN.start hxi htk h33
  refine lv_aload_n hx hb dX12_use_116 rfl (lv_at hl 0 rfl) ?_
  refine lv_iload_n hx hb dX12_use_117 rfl (lv_at hl 1 rfl) ?_
  refine lv_aload_n hx hb dX12_use_118 rfl (lv_at hl 0 rfl) ?_
  refine lv_iload hx hb dX12_use_119 (lv_at hl 6 rfl) ?_
  refine lv_iconst (v := nI 0) hx hb dX12_use_121 (by decide) ?_
  obtain ⟨t_1, t_1b, t_1c, t_1d⟩ := ht9.pt (f := pr) (k := 0) (hpr1) (by omega)
  refine mcl_i (As := [.int (nI pr), .int (nI 0)]) (rest := [.int (nI rules), .ref z0]) ⟨hx, hb, hml, hown, hts⟩ (m_part l dC dI cB cC cI cJ cZ z0 R pl (SCN N vc q) (SCG G g) B pr 0 hG2 t_1d t_1 H.size) (cwV 2 hts kX12_use_X12_part_192 rfl rfl rfl (by decide +kernel) ⟨Nat.le_of_ble_eq_true rfl, Nat.le_of_ble_eq_true rfl⟩) hK hP hD hS hA rfl rfl hl.1 (lv_room (Nat.le_of_ble_eq_true rfl)) dX12_use_122 hcs (fun r_6 N_2 G_3 B_4 pl_5 hw H locs hP hD hS => ?_)
  dsimp only at hw
  obtain ⟨e1, e2, e3, e4, hw⟩ := hw
  rw [e1, e2, e3, e4] at hP hD
  have hw : r_6 = nI (CH G pr 0) := hw
  subst hw
  refine mcl_i (As := [.int (nI rules), .int (nI (CH G pr 0))]) (rest := []) ⟨hx, hb, hml, hown, hts⟩ (m_isPattern l dC dI cB cC cI cJ cZ z0 R pl (SCN N vc q) (SCG G g) B rules (CH G pr 0) sz az hG2 ht9 hxi.2.2.1.1 hal hru8 hlit.1 hlit.2.2.1 hlc hpp.2.1 H.size) (cwV 2 hts kX12_use_X12_isPattern_312 rfl rfl rfl (by decide +kernel) ⟨Nat.le_of_ble_eq_true rfl, Nat.le_of_ble_eq_true rfl⟩) hK hP hD hS hA rfl rfl hl.1 (lv_room (Nat.le_of_ble_eq_true rfl)) dX12_use_125 hcs (fun r_11 N_7 G_8 B_9 pl_10 hw H locs hP hD hS => ?_)
  dsimp only at hw
  obtain ⟨e3, e4, q2, vc2, fi2, L, Hw, O, VN, VR, b1, b2, b3, b4, b5, hq2, hvc2, e1, e2, hw, hfi2, hpat, htab⟩ := hw
  rw [e1, e2, e3, e4, SCN_pat, SCG_pat] at hP hD
  rw [PATOK_eq (SCG_core G g)] at hpat
  have hf1 := hpat.mpr r5
  obtain ⟨htb, hvr⟩ := htab hf1
  have htb : ∀ x rp, LEF G sz rules x rp (CH G pr 0) 1 0 = TC VN VR x rp vc2 := fun x rp => by rw [← LEF_eq (SCG_core G g)]; exact htb x rp
  have ev47 : (LK (va_up (va_up (SCG G g) 47 VN) 48 VR) L Hw O) 47 = VN := rfl
  have ev48 : (LK (va_up (va_up (SCG G g) 47 VN) 48 VR) L Hw O) 48 = VR := rfl
  have hg2 : ∀ k i, (LK (va_up (va_up (SCG G g) 47 VN) 48 VR) L Hw O) k i < 1048576 := hGLK (hGup (q := 48) (hGup (q := 47) hG2 b4) b5) b1 b2 b3
  generalize LK (va_up (va_up (SCG G g) 47 VN) 48 VR) L Hw O = g2 at hP hD hg2 ev47 ev48
  subst hw
  have hG2 := SCG_bd hG hg2
  refine lv_istore (lv' := [(7, .int (nI fi2)), (0, .ref z0), (1, .int (nI rules)), (2, .int (nI rin)), (3, .int (nI f)), (4, .int (nI en)), (5, .int (nI dp)), (6, .int (nI pr))]) hx hb dX12_use_128 hl (by decide) rfl (fun ls hl => ?_)
  refine lv_aload_n hx hb dX12_use_130 rfl (lv_at hl 1 rfl) ?_
  refine lv_aload_n hx hb dX12_use_131 rfl (lv_at hl 1 rfl) ?_
  refine lv_iload hx hb dX12_use_132 (lv_at hl 7 rfl) ?_
  refine lv_iconst (v := nI 0) hx hb dX12_use_134 (by decide) ?_
  obtain ⟨t_12, t_12b, t_12c, t_12d⟩ := ht9.pt (f := pr) (k := 0) (hpr1) (by omega)
  refine mcl_i (As := [.int (nI pr), .int (nI 0)]) (rest := [.ref z0]) ⟨hx, hb, hml, hown, hts⟩ (m_part l dC dI cB cC cI cJ cZ z0 R pl (SCN N vc2 q2) (SCG G g2) B pr 0 hG2 t_12d t_12 H.size) (cwV 2 hts kX12_use_X12_part_192 rfl rfl rfl (by decide +kernel) ⟨Nat.le_of_ble_eq_true rfl, Nat.le_of_ble_eq_true rfl⟩) hK hP hD hS hA rfl rfl hl.1 (lv_room (Nat.le_of_ble_eq_true rfl)) dX12_use_135 hcs (fun r_17 N_13 G_14 B_15 pl_16 hw H locs hP hD hS => ?_)
  dsimp only at hw
  obtain ⟨e1, e2, e3, e4, hw⟩ := hw
  rw [e1, e2, e3, e4] at hP hD
  have hw : r_17 = nI (CH G pr 0) := hw
  subst hw
  refine lv_iload_n hx hb dX12_use_138 rfl (lv_at hl 4 rfl) ?_
  have hta : TAB (SCN N vc2 q2) (SCG G g2) sz rules (CH G pr 0) := by
    refine ⟨fun x rp => ?_, fun v hv => ?_, fun x => ?_⟩
    · rw [LEF_eq (SCG_core G g2), htb]; show _ = TC (g2 47) (g2 48) x rp vc2; rw [ev47, ev48]
    · show g2 48 v ≤ 1; rw [ev48]; exact hvr v hv
    · rw [LEF_eq (SCG_core G g2), LEF_eq (SCG_core G g2)]; exact r5.2 x
  refine mcl_v (As := [.int (nI (CH G pr 0)), .int (nI f)]) (rest := []) ⟨hx, hb, hml, hown, hts⟩ (m_keepMatches l dC dI cB cC cI cJ cZ z0 R pl (SCN N vc2 q2) (SCG G g2) B (CH G pr 0) f rules sz hG2 ht9 hal (show vc2 ≤ 1600 by omega) hpp.2.1 hf ((PATf_core (SCG_core G g2) _ _ _ _).mpr r5.1) ((MATf_core (SCG_core G g2) _ _ _ _).mpr hmt) r3 hta H.size) (cwV 2 hts kX12_use_X12_keepMatches_352 rfl rfl rfl (by decide +kernel) ⟨Nat.le_of_ble_eq_true rfl, Nat.le_of_ble_eq_true rfl⟩) hK hP hD hS hA rfl rfl hl.1 (lv_room (Nat.le_of_ble_eq_true rfl)) dX12_use_139 hcs (fun  N_18 G_19 B_20 pl_21 hw H locs hP hD hS => ?_)
  dsimp only at hw
  obtain ⟨e3, e4, q3, MF, MT, M, I, L3, Hw3, O3, b1, b2, b3, b4, b5, b6, b7, hq3, e1, e2, hkp⟩ := hw
  have ek : KG (SCG G g2) MF MT M I L3 Hw3 O3 = SCG G (KG (SCG G g2) MF MT M I L3 Hw3 O3) := SCG_of (fun k c => KG_ne c)
  rw [e1, e2, e3, e4, SCN_53, ek] at hP hD
  have hkp : KEPT (SCN N vc2 q3) (SCG G (KG (SCG G g2) MF MT M I L3 Hw3 O3)) := ⟨show vc2 ≤ 1600 by omega, hkp⟩
  have ew47 : (KG (SCG G g2) MF MT M I L3 Hw3 O3) 47 = VN := ev47
  have ew48 : (KG (SCG G g2) MF MT M I L3 Hw3 O3) 48 = VR := ev48
  have hg3 : ∀ k i, (KG (SCG G g2) MF MT M I L3 Hw3 O3) k i < 1048576 := hGKG hG2 b1 b2 b3 b4 b5 b6 b7
  generalize KG (SCG G g2) MF MT M I L3 Hw3 O3 = g3 at hP hD hg3 hkp ew47 ew48
  have hG2 := SCG_bd hG hg3
  have hN49 : vc2 ≤ 1600 := by omega
  obtain ⟨E, hE⟩ : ∃ E : Nat → Nat, E = fun x => LEF G sz rules x 1 (CH G pr 0) 1 0 := ⟨_, rfl⟩
  rw [← hE] at r6
  have hre : ∀ x, (0 < varF VN x vc2 ∧ 0 < VR (varF VN x vc2 - 1)) ↔ 0 < E x := by
    intro x
    have hu := r5.2 x
    rw [htb, htb] at hu
    rw [hE]
    show _ ↔ 0 < LEF G sz rules x 1 (CH G pr 0) 1 0
    rw [htb]
    exact TC_rep vc2 hvr hu
  refine lv_aload_n hx hb dX12_use_142 rfl (lv_at hl 1 rfl) ?_
  refine lv_iload hx hb dX12_use_143 (lv_at hl 7 rfl) ?_
  refine lv_iconst (v := nI 1) hx hb dX12_use_145 (by decide) ?_
  obtain ⟨t_23, t_23b, t_23c, t_23d⟩ := ht9.pt (f := pr) (k := 1) (hpr1) (by omega)
  refine mcl_i (As := [.int (nI pr), .int (nI 1)]) (rest := []) ⟨hx, hb, hml, hown, hts⟩ (m_part l dC dI cB cC cI cJ cZ z0 R pl (SCN N vc2 q3) (SCG G g3) B pr 1 hG2 t_23d t_23 H.size) (cwV 2 hts kX12_use_X12_part_192 rfl rfl rfl (by decide +kernel) ⟨Nat.le_of_ble_eq_true rfl, Nat.le_of_ble_eq_true rfl⟩) hK hP hD hS hA rfl rfl hl.1 (lv_room (Nat.le_of_ble_eq_true rfl)) dX12_use_146 hcs (fun r_28 N_24 G_25 B_26 pl_27 hw H locs hP hD hS => ?_)
  dsimp only at hw
  obtain ⟨e1, e2, e3, e4, hw⟩ := hw
  rw [e1, e2, e3, e4] at hP hD
  have hw : r_28 = nI (CH G pr 1) := hw
  subst hw
  refine lv_istore (lv' := [(8, .int (nI (CH G pr 1))), (7, .int (nI fi2)), (0, .ref z0), (1, .int (nI rules)), (2, .int (nI rin)), (3, .int (nI f)), (4, .int (nI en)), (5, .int (nI dp)), (6, .int (nI pr))]) hx hb dX12_use_149 hl (by decide) rfl (fun ls hl => ?_)
  refine lv_aload_n hx hb dX12_use_151 rfl (lv_at hl 2 rfl) ?_
  refine lv_aload_n hx hb dX12_use_152 rfl (lv_at hl 2 rfl) ?_
  refine lv_iload hx hb dX12_use_153 (lv_at hl 0 rfl) ?_
  obtain ⟨tm, etm⟩ : ∃ tm, tm = CH G pr 1 := ⟨_, rfl⟩
  rw [← etm] at hpq r6
  have htm := hpq.2.1
  have hl : lv_has ls 10 [(8, .int (nI tm)), (7, .int (nI fi2)), (0, .ref z0), (1, .int (nI rules)), (2, .int (nI rin)), (3, .int (nI f)), (4, .int (nI en)), (5, .int (nI dp)), (6, .int (nI pr))] := by rw [etm]; exact hl
  rw [← etm]
  refine mcl_i (As := [.int (nI tm)]) (rest := [.ref z0]) ⟨hx, hb, hml, hown, hts⟩ (m_areCountsAlike l dC dI cB cC cI cJ cZ z0 R pl (SCN N vc2 q3) (SCG G g3) B tm sz hG2 ht9 hal hN49 htm H.size) (cwV 1 hts kX12_use_X12_areCountsAlike_355 rfl rfl rfl (by decide +kernel) ⟨Nat.le_of_ble_eq_true rfl, Nat.le_of_ble_eq_true rfl⟩) hK hP hD hS hA rfl rfl hl.1 (lv_room (Nat.le_of_ble_eq_true rfl)) dX12_use_155 hcs (fun r_33 N_29 G_30 B_31 pl_32 hw H locs hP hD hS => ?_)
  dsimp only at hw
  obtain ⟨e3, e4, q4, fi4, L, Hw, O, I4, b1, b2, b3, b4, hq4, e1, e2, hw, hfi4⟩ := hw
  rw [e1, e2, e3, e4, SCN_53, SCG_tem] at hP hD
  have hkp : KEPT (SCN N vc2 q4) (SCG G (LK (va_up (SCG G g3) 54 I4) L Hw O)) := hkp
  have ew47 : (LK (va_up (SCG G g3) 54 I4) L Hw O) 47 = VN := ew47
  have ew48 : (LK (va_up (SCG G g3) 54 I4) L Hw O) 48 = VR := ew48
  have hg4 : ∀ k i, (LK (va_up (SCG G g3) 54 I4) L Hw O) k i < 1048576 := hGLK (hGup (q := 54) hG2 b4) b1 b2 b3
  generalize LK (va_up (SCG G g3) 54 I4) L Hw O = g4 at hP hD hg4 hkp ew47 ew48
  have hG2 := SCG_bd hG hg4
  subst hw
  rcases (show fi4 = 0 ∨ fi4 = 1 by omega) with hz | hz
  · subst hz
    refine lv_bipush (v := nI 6) hx hb dX12_use_158 (by decide) ?_
    refine mcl_i (As := [.int (nI 0), .int (nI 6)]) (rest := []) ⟨hx, hb, hml, hown, hts⟩ (m_need l dC dI cB cC cI cJ cZ z0 R pl (SCN N vc2 q4) (SCG G g4) B 0 6 (by decide) ⟨by decide, by decide⟩ (show (SCN N vc2 q4) 33 = 0 from h33) H.size) (cwV 2 hts kX12_use_X12_need_255 rfl rfl rfl (by decide +kernel) ⟨Nat.le_of_ble_eq_true rfl, Nat.le_of_ble_eq_true rfl⟩) hK hP hD hS hA rfl rfl hl.1 (lv_room (Nat.le_of_ble_eq_true rfl)) dX12_use_160 hcs (fun r_38 N_34 G_35 B_36 pl_37 hw H locs hP hD hS => ?_)
    dsimp only at hw
    obtain ⟨e3, e4, e2, hw, e5, e6⟩ := hw
    rw [e6 rfl, e2, e3, e4] at hP hD
    subst hw
    have hbad : XPOST N G B sz x (va_up (SCN N vc2 q4) 33 6) (SCG G g4) B := RUN.fail (RUN.scr hrun hg4 hN49 (show q4 ≤ 90000 by omega)) hbu (show w ≤ _ by omega) (Or.inl rfl) (by decide) (by decide)
    refine bz_eq (tgt := 237) hx hb (by first | omega | exact Nat.lt_of_lt_of_le (hG _ _) (by decide)) dX12_use_163 (by decide) (fun c => ?_) (fun q9 => absurd q9 (by omega))
    exact kr237 (va_up (SCN N vc2 q4) 33 6) (SCG G g4) H locs hbad hP hD hS ls (lv_sub hl [] rfl)
  · subst hz
    refine lv_bipush (v := nI 6) hx hb dX12_use_158 (by decide) ?_
    refine mcl_i (As := [.int (nI 1), .int (nI 6)]) (rest := []) ⟨hx, hb, hml, hown, hts⟩ (m_need l dC dI cB cC cI cJ cZ z0 R pl (SCN N vc2 q4) (SCG G g4) B 1 6 (by decide) ⟨by decide, by decide⟩ (show (SCN N vc2 q4) 33 = 0 from h33) H.size) (cwV 2 hts kX12_use_X12_need_255 rfl rfl rfl (by decide +kernel) ⟨Nat.le_of_ble_eq_true rfl, Nat.le_of_ble_eq_true rfl⟩) hK hP hD hS hA rfl rfl hl.1 (lv_room (Nat.le_of_ble_eq_true rfl)) dX12_use_160 hcs (fun r_43 N_39 G_40 B_41 pl_42 hw H locs hP hD hS => ?_)
    dsimp only at hw
    obtain ⟨e3, e4, e2, hw, e5, e6⟩ := hw
    rw [e5 rfl, e2, e3, e4] at hP hD
    subst hw
    refine bz_eq (tgt := 237) hx hb (by first | omega | exact Nat.lt_of_lt_of_le (hG _ _) (by decide)) dX12_use_163 (by decide) (fun q9 => absurd q9 (by omega)) (fun c => ?_)
    refine lv_aload_n hx hb dX12_use_166 rfl (lv_at hl 2 rfl) ?_
    refine lv_aload_n hx hb dX12_use_167 rfl (lv_at hl 2 rfl) ?_
    refine lv_iload hx hb dX12_use_168 (lv_at hl 0 rfl) ?_
    have hgd : GOOD (SCN N vc2 q4) (SCG G g4) sz E tm 0 := ⟨by decide, Or.inl ((TEMf_core (SCG_core G g4) _ _).mpr r6)⟩
    refine mcl_i (As := [.int (nI tm)]) (rest := [.ref z0]) ⟨hx, hb, hml, hown, hts⟩ (m_sizeMade l dC dI cB cC cI cJ cZ z0 R pl (SCN N vc2 q4) (SCG G g4) B tm sz E hG2 ht9 hxi.2.1 hal hkp (fun x => by show (0 < varF (g4 47) x vc2 ∧ 0 < g4 48 (varF (g4 47) x vc2 - 1)) ↔ _; rw [ew47, ew48]; exact hre x) htm hgd H.size) (cwV 1 hts kX12_use_X12_sizeMade_358 rfl rfl rfl (by decide +kernel) ⟨Nat.le_of_ble_eq_true rfl, Nat.le_of_ble_eq_true rfl⟩) hK hP hD hS hA rfl rfl hl.1 (lv_room (Nat.le_of_ble_eq_true rfl)) dX12_use_170 hcs (fun r_48 N_44 G_45 B_46 pl_47 hw H locs hP hD hS => ?_)
    dsimp only at hw
    obtain ⟨e3, e4, q5, fi5, L, Hw, O, I5, b1, b2, b3, b4, hq5, e1, e2, hw, hfi5, hszm⟩ := hw
    rw [e1, e2, e3, e4, SCN_53, SCG_tem] at hP hD
    have hkp : KEPT (SCN N vc2 q5) (SCG G (LK (va_up (SCG G g4) 54 I5) L Hw O)) := hkp
    have ew47 : (LK (va_up (SCG G g4) 54 I5) L Hw O) 47 = VN := ew47
    have ew48 : (LK (va_up (SCG G g4) 54 I5) L Hw O) 48 = VR := ew48
    have hg5 : ∀ k i, (LK (va_up (SCG G g4) 54 I5) L Hw O) k i < 1048576 := hGLK (hGup (q := 54) hG2 b4) b1 b2 b3
    have hszm : fi5 ≤ 600 → SZM (SCN N vc2 q5) (SCG G (LK (va_up (SCG G g4) 54 I5) L Hw O)) sz tm 0 = fi5 := fun z => by rw [← hszm z]; exact SZMf_core (N := SCN N vc2 q4) (N1 := SCN N vc2 q5) (G := SCG G g4) (G1 := SCG G (LK (va_up (SCG G g4) 54 I5) L Hw O)) ⟨rfl, rfl, rfl, rfl, rfl⟩ rfl rfl rfl rfl rfl rfl _ _ _
    generalize LK (va_up (SCG G g4) 54 I5) L Hw O = g5 at hP hD hg5 hkp ew47 ew48 hszm
    have hG2 := SCG_bd hG hg5
    subst hw
    refine lv_sipush (v := nI 600) hx hb dX12_use_173 (by decide) ?_
    refine bn_gt (tgt := 183) hx hb (by first | omega | exact Nat.lt_of_lt_of_le (hG _ _) (by decide)) (by first | omega | exact Nat.lt_of_lt_of_le (hG _ _) (by decide)) dX12_use_176 (by decide) (fun c5 => ?_) (fun c5 => ?_)
    · refine lv_iconst (v := nI 0) hx hb dX12_use_183 (by decide) ?_
      refine lv_iconst (v := nI 2) hx hb dX12_use_184 (by decide) ?_
      refine mcl_i (As := [.int (nI 0), .int (nI 2)]) (rest := []) ⟨hx, hb, hml, hown, hts⟩ (m_need l dC dI cB cC cI cJ cZ z0 R pl (SCN N vc2 q5) (SCG G g5) B 0 2 (by decide) ⟨by decide, by decide⟩ (show (SCN N vc2 q5) 33 = 0 from h33) H.size) (cwV 2 hts kX12_use_X12_need_255 rfl rfl rfl (by decide +kernel) ⟨Nat.le_of_ble_eq_true rfl, Nat.le_of_ble_eq_true rfl⟩) hK hP hD hS hA rfl rfl hl.1 (lv_room (Nat.le_of_ble_eq_true rfl)) dX12_use_185 hcs (fun r_53 N_49 G_50 B_51 pl_52 hw H locs hP hD hS => ?_)
      dsimp only at hw
      obtain ⟨e3, e4, e2, hw, e5, e6⟩ := hw
      rw [e6 rfl, e2, e3, e4] at hP hD
      subst hw
      have hbad : XPOST N G B sz x (va_up (SCN N vc2 q5) 33 2) (SCG G g5) B := RUN.fail (RUN.scr hrun hg5 hN49 hq5) hbu (show w ≤ _ by omega) (Or.inl rfl) (by decide) (by decide)
      refine bz_eq (tgt := 237) hx hb (by first | omega | exact Nat.lt_of_lt_of_le (hG _ _) (by decide)) dX12_use_188 (by decide) (fun c => ?_) (fun q9 => absurd q9 (by omega))
      exact kr237 (va_up (SCN N vc2 q5) 33 2) (SCG G g5) H locs hbad hP hD hS ls (lv_sub hl [] rfl)
    · refine lv_iconst (v := nI 1) hx hb dX12_use_179 (by decide) ?_
      refine lv_goto (tgt := 184) hx hb dX12_use_180 (by decide) ?_
      refine lv_iconst (v := nI 2) hx hb dX12_use_184 (by decide) ?_
      refine mcl_i (As := [.int (nI 1), .int (nI 2)]) (rest := []) ⟨hx, hb, hml, hown, hts⟩ (m_need l dC dI cB cC cI cJ cZ z0 R pl (SCN N vc2 q5) (SCG G g5) B 1 2 (by decide) ⟨by decide, by decide⟩ (show (SCN N vc2 q5) 33 = 0 from h33) H.size) (cwV 2 hts kX12_use_X12_need_255 rfl rfl rfl (by decide +kernel) ⟨Nat.le_of_ble_eq_true rfl, Nat.le_of_ble_eq_true rfl⟩) hK hP hD hS hA rfl rfl hl.1 (lv_room (Nat.le_of_ble_eq_true rfl)) dX12_use_185 hcs (fun r_58 N_54 G_55 B_56 pl_57 hw H locs hP hD hS => ?_)
      dsimp only at hw
      obtain ⟨e3, e4, e2, hw, e5, e6⟩ := hw
      rw [e5 rfl, e2, e3, e4] at hP hD
      subst hw
      have hx5 := (RUN.scr hrun hg5 hN49 hq5).1
      have hn := hxi.2.2.2.2.2.1
      have hgd : GOOD (SCN N vc2 q5) (SCG G g5) sz E tm 0 := ⟨by decide, Or.inl ((TEMf_core (SCG_core G g5) _ _).mpr r6)⟩
      refine bz_eq (tgt := 237) hx hb (by first | omega | exact Nat.lt_of_lt_of_le (hG _ _) (by decide)) dX12_use_188 (by decide) (fun q9 => absurd q9 (by omega)) (fun c => ?_)
      refine lv_aload_n hx hb dX12_use_191 rfl (lv_at hl 2 rfl) ?_
      refine lv_iload hx hb dX12_use_192 (lv_at hl 0 rfl) ?_
      refine lv_iload_n hx hb dX12_use_194 rfl (lv_at hl 4 rfl) ?_
      refine mcl_i (As := [.int (nI tm), .int (nI rin)]) (rest := []) ⟨hx, hb, hml, hown, hts⟩ (m_make l dC dI cB cC cI cJ cZ z0 R pl (SCN N vc2 q5) (SCG G g5) B tm rin sz E hx5.1 hx5.2.1 hkp (fun x => by show (0 < varF (g5 47) x vc2 ∧ 0 < g5 48 (varF (g5 47) x vc2 - 1)) ↔ _; rw [ew47, ew48]; exact hre x) (show N 14 ≤ 80000 by omega) (show N 15 ≤ 80000 by omega) (show N 20 ≤ 64000 by omega) (by omega) htm hgd (by rw [hszm (by omega)]; omega) H.size) (cwV 2 hts kX12_use_X12_make_361 rfl rfl rfl (by decide +kernel) ⟨Nat.le_of_ble_eq_true rfl, Nat.le_of_ble_eq_true rfl⟩) hK hP hD hS hA rfl rfl hl.1 (lv_room (Nat.le_of_ble_eq_true rfl)) dX12_use_195 hcs (fun r_63 N_59 G_60 B_61 pl_62 hw H locs hP hD hS => ?_)
      dsimp only at hw
      obtain ⟨e3, e4, r9, sz2, hw, h9a, h9b, hgr, hfm, htq, h9c, h9d, h9e, h9f, h9g, h9h⟩ := hw
      rw [e3, e4] at hP hD
      subst hw
      have h9e : N_59 14 ≤ N 14 + 600 := h9e
      have h9f : N_59 15 ≤ N 15 + 600 := h9f
      have h9g : N_59 20 ≤ N 20 + 600 := h9g
      obtain ⟨az2, hx6⟩ := XI.grow hx5 hgr hfm htq (show rin < N 23 from hrin) h9c h9d (show N_59 14 ≤ 8000 + 600 * N 35 by omega) (show N_59 15 ≤ 8000 + 600 * N 35 by omega) (show N_59 20 ≤ 600 * N 35 by omega) (by omega)
      have ht6 := hgr.tsk (RUN.scr hrun hg5 hN49 hq5).2.1
      have hk6 : ∀ k, k ≠ 14 → k ≠ 15 → k ≠ 20 → k ≠ 53 → N_59 k = SCN N vc2 q5 k := hgr.1
      have h33b : N_59 33 = 0 := (hk6 33 (by decide) (by decide) (by decide) (by decide)).trans h33
      have h35b : N_59 35 = N 35 := hk6 35 (by decide) (by decide) (by decide) (by decide)
      have h38b : N_59 38 = N 38 := hk6 38 (by decide) (by decide) (by decide) (by decide)
      have h23b : N_59 23 = N 23 := hk6 23 (by decide) (by decide) (by decide) (by decide)
      have hxt6 := (RUN.scr hrun hg5 hN49 hq5).2.2.1.trans (GROW.xt (B := B) hgr)
      have hbu6 : BUD N_59 w0 x := by unfold BUD PHI at hbu ⊢; rw [h35b, h38b]; exact hbu
      have hrun6 : RUN N_59 G_60 B sz2 N_59 G_60 B az2 w 0 := RUN.start hx6 ht6 h33b
      have hG6 := hx6.1.1
      refine lv_istore (lv' := [(9, .int (nI r9)), (8, .int (nI tm)), (7, .int (nI fi2)), (0, .ref z0), (1, .int (nI rules)), (2, .int (nI rin)), (3, .int (nI f)), (4, .int (nI en)), (5, .int (nI dp)), (6, .int (nI pr))]) hx hb dX12_use_198 hl (by decide) rfl (fun ls hl => ?_)
      refine lv_aload_n hx hb dX12_use_200 rfl (lv_at hl 3 rfl) ?_
      refine lv_aload_n hx hb dX12_use_201 rfl (lv_at hl 3 rfl) ?_
      refine lv_iload hx hb dX12_use_202 (lv_at hl 0 rfl) ?_
      refine mcl_i (As := [.int (nI r9)]) (rest := [.ref z0]) ⟨hx, hb, hml, hown, hts⟩ (m_nested l dC dI cB cC cI cJ cZ z0 R pl N_59 G_60 B r9 sz2 hG6 hx6.1.2.2.1 hx6.2.1 h9a H.size) (cwV 1 hts kX12_use_X12_nested_364 rfl rfl rfl (by decide +kernel) ⟨Nat.le_of_ble_eq_true rfl, Nat.le_of_ble_eq_true rfl⟩) hK hP hD hS hA rfl rfl hl.1 (lv_room (Nat.le_of_ble_eq_true rfl)) dX12_use_204 hcs (fun r_68 N_64 G_65 B_66 pl_67 hw H locs hP hD hS => ?_)
      dsimp only at hw
      obtain ⟨⟨q7, L, Hw, O, b1, b2, b3, e1, e2, hq7⟩, e3, e4, mo, hmo, hw⟩ := hw
      rw [e1, e2, e3, e4] at hP hD
      subst hw
      have hscn : va_up N_59 53 q7 = SCN N_59 (N_59 49) q7 := by rw [SCN, va_upid]
      have hscg : LK G_60 L Hw O = SCG G_60 (LK G_60 L Hw O) := by rw [← SCG_self G_60]; exact SCG_LK.trans (by rw [SCG_self])
      rw [hscn, hscg] at hP hD
      have hg7 : ∀ k i, LK G_60 L Hw O k i < 1048576 := hGLK hG6 b1 b2 b3
      generalize LK G_60 L Hw O = g7 at hP hD hg7
      have hrun := RUN.scr hrun6 hg7 hx6.2.2.2.2.2.1.1 (show q7 ≤ 90000 by omega)
      refine lv_bipush (v := nI 61) hx hb dX12_use_207 (by decide) ?_
      refine bn_gt (tgt := 216) hx hb (by first | omega | exact Nat.lt_of_lt_of_le (hG _ _) (by decide)) (by first | omega | exact Nat.lt_of_lt_of_le (hG _ _) (by decide)) dX12_use_209 (by decide) (fun c6 => ?_) (fun c6 => ?_)
      · refine lv_iconst (v := nI 0) hx hb dX12_use_216 (by decide) ?_
        refine lv_iconst (v := nI 2) hx hb dX12_use_217 (by decide) ?_
        refine mcl_i (As := [.int (nI 0), .int (nI 2)]) (rest := []) ⟨hx, hb, hml, hown, hts⟩ (m_need l dC dI cB cC cI cJ cZ z0 R pl (SCN N_59 (N_59 49) q7) (SCG G_60 g7) B 0 2 (by decide) ⟨by decide, by decide⟩ (show (SCN N_59 (N_59 49) q7) 33 = 0 from h33b) H.size) (cwV 2 hts kX12_use_X12_need_255 rfl rfl rfl (by decide +kernel) ⟨Nat.le_of_ble_eq_true rfl, Nat.le_of_ble_eq_true rfl⟩) hK hP hD hS hA rfl rfl hl.1 (lv_room (Nat.le_of_ble_eq_true rfl)) dX12_use_218 hcs (fun r_73 N_69 G_70 B_71 pl_72 hw H locs hP hD hS => ?_)
        dsimp only at hw
        obtain ⟨e3, e4, e2, hw, e5, e6⟩ := hw
        rw [e6 rfl, e2, e3, e4] at hP hD
        subst hw
        have hbad : XPOST N G B sz x (va_up (SCN N_59 (N_59 49) q7) 33 2) (SCG G_60 g7) B := XPOST.trans hxt6 (RUN.fail hrun hbu6 (by omega) (Or.inl rfl) (by decide) (by decide))
        refine bz_eq (tgt := 237) hx hb (by first | omega | exact Nat.lt_of_lt_of_le (hG _ _) (by decide)) dX12_use_221 (by decide) (fun c => ?_) (fun q9 => absurd q9 (by omega))
        exact kr237 (va_up (SCN N_59 (N_59 49) q7) 33 2) (SCG G_60 g7) H locs hbad hP hD hS ls (lv_sub hl [] rfl)
      · refine lv_iconst (v := nI 1) hx hb dX12_use_212 (by decide) ?_
        refine lv_goto (tgt := 217) hx hb dX12_use_213 (by decide) ?_
        refine lv_iconst (v := nI 2) hx hb dX12_use_217 (by decide) ?_
        refine mcl_i (As := [.int (nI 1), .int (nI 2)]) (rest := []) ⟨hx, hb, hml, hown, hts⟩ (m_need l dC dI cB cC cI cJ cZ z0 R pl (SCN N_59 (N_59 49) q7) (SCG G_60 g7) B 1 2 (by decide) ⟨by decide, by decide⟩ (show (SCN N_59 (N_59 49) q7) 33 = 0 from h33b) H.size) (cwV 2 hts kX12_use_X12_need_255 rfl rfl rfl (by decide +kernel) ⟨Nat.le_of_ble_eq_true rfl, Nat.le_of_ble_eq_true rfl⟩) hK hP hD hS hA rfl rfl hl.1 (lv_room (Nat.le_of_ble_eq_true rfl)) dX12_use_218 hcs (fun r_78 N_74 G_75 B_76 pl_77 hw H locs hP hD hS => ?_)
        dsimp only at hw
        obtain ⟨e3, e4, e2, hw, e5, e6⟩ := hw
        rw [e5 rfl, e2, e3, e4] at hP hD
        subst hw
        refine bz_eq (tgt := 237) hx hb (by first | omega | exact Nat.lt_of_lt_of_le (hG _ _) (by decide)) dX12_use_221 (by decide) (fun q9 => absurd q9 (by omega)) (fun c => ?_)
        refine lv_aload_n hx hb dX12_use_224 rfl (lv_at hl 3 rfl) ?_
        refine lv_iconst (v := nI 0) hx hb dX12_use_225 (by decide) ?_
        refine lv_iload hx hb dX12_use_226 (lv_at hl 0 rfl) ?_
        refine lv_iload hx hb dX12_use_228 (lv_at hl 7 rfl) ?_
        refine lv_iload hx hb dX12_use_230 (lv_at hl 8 rfl) ?_
        refine lv_iconst (v := nI 1) hx hb dX12_use_232 (by decide) ?_
        refine lv_iadd hx hb dX12_use_233 ?_
        refine tp_i (nI_add dp 1) ?_
        have h6 := hx6.1.2.2.1.1
        have h32 := (hrun.num hbu6 (by omega) (by decide)).1
        refine mcl_v (As := [.int (nI 0), .int (nI r9), .int (nI en), .int (nI (dp + 1))]) (rest := []) ⟨hx, hb, hml, hown, hts⟩ (m_task l dC dI cB cC cI cJ cZ z0 R pl (SCN N_59 (N_59 49) q7) (SCG G_60 g7) B 0 r9 en (dp + 1) (by decide) (by omega) H.size) (cwV 4 hts kX12_use_X12_task_232 rfl rfl rfl (by decide +kernel) ⟨Nat.le_of_ble_eq_true rfl, Nat.le_of_ble_eq_true rfl⟩) hK hP hD hS hA rfl rfl hl.1 (lv_room (Nat.le_of_ble_eq_true rfl)) dX12_use_234 hcs (fun  N_79 G_80 B_81 pl_82 hw H locs hP hD hS => ?_)
        dsimp only at hw
        obtain ⟨e3, e4, e1, e2⟩ := hw
        have hrun := hrun.task (a := 0) (b := r9) (c := en) (d := dp + 1) (by decide) (fun _ => h9a) (fun _ => ⟨show en < N_59 23 by omega, by omega⟩) (by omega) (by omega) (by omega) (v := w + 1799) (by rw [if_neg (by decide)]; omega)
        rw [← e1, ← e2] at hrun
        rw [e3, e4] at hP hD
        exact kr237 N_79 G_80 H locs (XPOST.trans hxt6 (hrun.post hbu6 (by omega) (by decide))) hP hD hS ls (lv_sub hl [] rfl)

set_option maxHeartbeats 4000000 in
set_option maxRecDepth 100000 in
/-- use -/
theorem m_use (l : Launch) (dC : Nat → ClassId) (dI : Nat → Nat → Nat) (cB cC cI cJ cZ : ClassId) (z0 : Nat) (R : Nat → Nat) (pl : Int32) (N : Nat → Nat) (G : Nat → Nat → Nat) (B : Nat → Nat → Int32) (rules rin f en dp w x : Nat) (sz az : Nat → Nat) (hxi : XI N G sz az) (h33 : N 33 = 0) (hro : RULESOK G sz rules) (hru : rules < N 14) (hrin : rin < N 23) (hf : f < N 14) (hen : en < N 23) (hdp : dp ≤ 100) (htk : TSK N G sz w) (hbu : BUD N (w + (3 * sz f - 1)) x) (s0 : Nat) : Met l yX12_use vX12_use { frames := 5, cells := 0, slots := 0, locals := 123 } (va_Pc [.ref z0, .int (nI rules), .int (nI rin), .int (nI f), .int (nI en), .int (nI dp)] (mPre dC dI cB cC cI cJ cZ z0 R pl N G B s0)) (va_Qv (fun u : ((Nat → Nat) × (Nat → Nat → Nat) × (Nat → Nat → Int32) × Int32) => match u with | (N1, G1, B1, pl1) => pl1 = pl ∧ XPOST N G B sz x N1 G1 B1) (mPost dC dI cB cC cI cJ cZ z0 R (va_A (MW cB cC cI cJ cZ z0 R pl N G B) s0)) (va_A (MW cB cC cI cJ cZ z0 R pl N G B) s0)) 0 0 (va_A (MW cB cC cI cJ cZ z0 R pl N G B) s0) := by
  refine Met.ofW (cc := cX12_use) (maxL := 10) (ret := none) (by decide) rfl ?_
  intro p e s m args below meth c s₁ B9 hml hv
  obtain ⟨rfl, hsz, hP, hK, hD0⟩ := hv
  have hx := B9.exec
  have hb := B9.bytes
  have hr := B9.returns
  have hts := atoms_spec (ws := vX12_use) B9.pre
  have hown : s.vm.findClass RX12 = some m.cls := findClass_of_methodNamed B9.named
  have hlocks := B9.notSynchronized
  subst hsz
  have hD := hD0.self (sz := s.heap.size)
  generalize hAe : va_A (MW cB cC cI cJ cZ z0 R pl N G B) s.heap.size = A at hD ⊢
  have hA : ∀ q : Nat, s.heap.size ≤ q → A q := fun q h => by rw [← hAe]; exact Or.inr h
  have hS : va_S A s.heap s.heap [] := va_S.rf
  have hcs : 0 + 0 ≤ (0 : Nat) ∧ 0 + 0 ≤ (0 : Nat) := ⟨Nat.le_refl 0, Nat.le_refl 0⟩
  have hl := lv_entry ([.ref z0, .int (nI rules), .int (nI rin), .int (nI f), .int (nI en), .int (nI dp)]) (n := 10) (Nat.le_of_ble_eq_true rfl)
  rw [lg_entry_eq]
  generalize (lg_sl ([.ref z0, .int (nI rules), .int (nI rin), .int (nI f), .int (nI en), .int (nI dp)]) ++ List.replicate (10 - (lg_sl ([.ref z0, .int (nI rules), .int (nI rin), .int (nI f), .int (nI en), .int (nI dp)])).length) Slot.unset).toArray = ls at hl ⊢
  have hl : lv_has ls 10 [(0, .ref z0), (1, .int (nI rules)), (2, .int (nI rin)), (3, .int (nI f)), (4, .int (nI en)), (5, .int (nI dp))] := hl
  have hn := hxi.2.2.2.2.2.1
  have hrun : RUN N G B sz N G B az w 0 := RUN.start hxi htk h33
  have hu1 := hxi.1.2.2.1.one hf
  refine lv_aload_n hx hb dX12_use_0 rfl (lv_at hl 0 rfl) ?_
  refine lv_aload_n hx hb dX12_use_1 rfl (lv_at hl 0 rfl) ?_
  refine mg_35 hx hb hts inX12_use hown hK hP (hts _ lkX12_use_f345) dX12_use_2 ?_
  refine lv_bipush (v := nI 100) hx hb dX12_use_5 (by decide) ?_
  refine bn_ge (tgt := 14) hx hb (by first | omega | exact Nat.lt_of_lt_of_le (hG _ _) (by decide)) (by first | omega | exact Nat.lt_of_lt_of_le (hG _ _) (by decide)) dX12_use_7 (by decide) (fun c1 => ?_) (fun c1 => ?_)
  · refine lv_iconst (v := nI 0) hx hb dX12_use_14 (by decide) ?_
    refine lv_iconst (v := nI 2) hx hb dX12_use_15 (by decide) ?_
    refine mcl_i (As := [.int (nI 0), .int (nI 2)]) (rest := []) ⟨hx, hb, hml, hown, hts⟩ (m_need l dC dI cB cC cI cJ cZ z0 R pl N G B 0 2 (by decide) ⟨by decide, by decide⟩ (show N 33 = 0 from h33) s.heap.size) (cwV 2 hts kX12_use_X12_need_255 rfl rfl rfl (by decide +kernel) ⟨Nat.le_of_ble_eq_true rfl, Nat.le_of_ble_eq_true rfl⟩) hK hP hD hS hA rfl rfl hl.1 (lv_room (Nat.le_of_ble_eq_true rfl)) dX12_use_16 hcs (fun r_5 N_1 G_2 B_3 pl_4 hw H locs hP hD hS => ?_)
    dsimp only at hw
    obtain ⟨e3, e4, e2, hw, e5, e6⟩ := hw
    rw [e6 rfl, e2, e3, e4] at hP hD
    subst hw
    refine bz_ne (tgt := 23) hx hb (by first | omega | exact Nat.lt_of_lt_of_le (hG _ _) (by decide)) dX12_use_19 (by decide) (fun q9 => absurd q9 (by omega)) (fun c => ?_)
    exact W.vret hx hb hr (fun t ht hW => ⟨⟨(va_up N 33 2, G, B, pl), rfl, ⟨rfl, hrun.fail hbu (by omega) (Or.inl rfl) (by decide) (by decide)⟩, by rw [ht]; exact hP, va_K.moved hW.alike hK, hD⟩, hS.F ht⟩) hS.2.2 dX12_use_22
  · refine lv_iconst (v := nI 1) hx hb dX12_use_10 (by decide) ?_
    refine lv_goto (tgt := 15) hx hb dX12_use_11 (by decide) ?_
    refine lv_iconst (v := nI 2) hx hb dX12_use_15 (by decide) ?_
    refine mcl_i (As := [.int (nI 1), .int (nI 2)]) (rest := []) ⟨hx, hb, hml, hown, hts⟩ (m_need l dC dI cB cC cI cJ cZ z0 R pl N G B 1 2 (by decide) ⟨by decide, by decide⟩ (show N 33 = 0 from h33) s.heap.size) (cwV 2 hts kX12_use_X12_need_255 rfl rfl rfl (by decide +kernel) ⟨Nat.le_of_ble_eq_true rfl, Nat.le_of_ble_eq_true rfl⟩) hK hP hD hS hA rfl rfl hl.1 (lv_room (Nat.le_of_ble_eq_true rfl)) dX12_use_16 hcs (fun r_10 N_6 G_7 B_8 pl_9 hw H locs hP hD hS => ?_)
    dsimp only at hw
    obtain ⟨e3, e4, e2, hw, e5, e6⟩ := hw
    rw [e5 rfl, e2, e3, e4] at hP hD
    subst hw
    refine bz_ne (tgt := 23) hx hb (by first | omega | exact Nat.lt_of_lt_of_le (hG _ _) (by decide)) dX12_use_19 (by decide) (fun c => ?_) (fun q9 => absurd q9 (by omega))
    refine lv_aload_n hx hb dX12_use_23 rfl (lv_at hl 0 rfl) ?_
    refine lv_dup hx hb dX12_use_24 rfl ?_
    refine mg_35 hx hb hts inX12_use hown hK hP (hts _ lkX12_use_f345) dX12_use_25 ?_
    refine lv_iconst (v := nI 1) hx hb dX12_use_28 (by decide) ?_
    refine lv_iadd hx hb dX12_use_29 ?_
    refine tp_i (nI_add (N 35) 1) ?_
    refine mp_35 hx hb hts inX12_use hown hK hP hD hS (hts _ lkX12_use_f345) dX12_use_30 (fun H locs hP hD hS => ?_)
    obtain ⟨M, hM⟩ : ∃ M, M = va_up N 35 (N 35 + 1) := ⟨_, rfl⟩
    rw [← hM] at hP hD
    have hxm : XI M G sz az := by rw [hM]; exact hxi.uses (by omega)
    have htm : TSK M G sz w := by rw [hM]; exact htk
    have m33 : M 33 = 0 := by rw [hM]; exact h33
    have m35 : M 35 = N 35 + 1 := by rw [hM]; rfl
    have m38 : M 38 = N 38 := by rw [hM]; rfl
    have m14 : M 14 = N 14 := by rw [hM]; rfl
    have m23 : M 23 = N 23 := by rw [hM]; rfl
    have hxt : XT N G B sz M G B sz := XT.nums (fun k hk => by rw [hM]; exact va_up_ne _ _ (by omega))
    have hbm : BUD M (w + (3 * sz f - 1) + 1800) x := by unfold BUD PHI at hbu ⊢; rw [m35, m38]; omega
    have hrm14 : M 14 + 600 ≤ 8000 + 600 * M 35 ∧ M 15 + 600 ≤ 8000 + 600 * M 35 ∧ M 20 + 600 ≤ 600 * M 35 := by rw [m35, m14, show M 15 = N 15 by rw [hM]; rfl, show M 20 = N 20 by rw [hM]; rfl]; omega
    have hrm : RUN M G B sz M G B az w 0 := RUN.start hxm htm m33
    have hn9 := hxm.2.2.2.2.2.1
    have hG := hxm.1.1
    refine lv_iconst (v := nI 0 - 1) hx hb dX12_use_33 (by decide) ?_
    refine lv_istore (lv' := [(6, .int (nI 0 - 1)), (0, .ref z0), (1, .int (nI rules)), (2, .int (nI rin)), (3, .int (nI f)), (4, .int (nI en)), (5, .int (nI dp))]) hx hb dX12_use_34 hl (by decide) rfl (fun ls hl => ?_)
    refine lv_iconst (v := nI 2) hx hb dX12_use_36 (by decide) ?_
    refine lv_istore (lv' := [(7, .int (nI 2)), (6, .int (nI 0 - 1)), (0, .ref z0), (1, .int (nI rules)), (2, .int (nI rin)), (3, .int (nI f)), (4, .int (nI en)), (5, .int (nI dp))]) hx hb dX12_use_37 hl (by decide) rfl (fun ls hl => ?_)
    have hP : va_P (dC, dI) vwCl (MW cB cC cI cJ cZ z0 R pl (SCN M (M 49) (M 53)) (SCG G G) B) H := by rw [SCN_self, SCG_self]; exact hP
    have hD : va_D A (MW cB cC cI cJ cZ z0 R pl (SCN M (M 49) (M 53)) (SCG G G) B) := by rw [SCN_self, SCG_self]; exact hD
    refine lp_use1 hx hb hml hown hts hK hA hxm m33 hro (by omega) (by omega) (by omega) (by omega) hdp (fun fo vc q g H locs hg hv1 hq1 hfo1 hfo hP hD hS ls hl => ?_) _ 2 0 (M 49) (M 53) G (Nat.lt_succ_self _) (by decide) (by decide) hG hn9.1 hn9.2.1 (by decide) (Or.inl rfl) _ _ hP hD hS ls (lv_sub hl [2, 3, 4, 5, 6, 7, 1, 0] rfl)
    refine lv_aload_n hx hb dX12_use_97 rfl (lv_at hl 0 rfl) ?_
    refine lv_iload hx hb dX12_use_98 (lv_at hl 6 rfl) ?_
    refine bo_lt (tgt := 107) hx hb (by first | omega | exact Nat.lt_of_lt_of_le (hG _ _) (by decide)) dX12_use_100 (by decide) (fun c2 => ?_) (fun c2 => ?_)
    · refine lv_iconst (v := nI 0) hx hb dX12_use_107 (by decide) ?_
      refine lv_iconst (v := nI 5) hx hb dX12_use_108 (by decide) ?_
      have h33 := m33
      refine mcl_i (As := [.int (nI 0), .int (nI 5)]) (rest := []) ⟨hx, hb, hml, hown, hts⟩ (m_need l dC dI cB cC cI cJ cZ z0 R pl (SCN M vc q) (SCG G g) B 0 5 (by decide) ⟨by decide, by decide⟩ (show (SCN M vc q) 33 = 0 from h33) H.size) (cwV 2 hts kX12_use_X12_need_255 rfl rfl rfl (by decide +kernel) ⟨Nat.le_of_ble_eq_true rfl, Nat.le_of_ble_eq_true rfl⟩) hK hP hD hS hA rfl rfl hl.1 (lv_room (Nat.le_of_ble_eq_true rfl)) dX12_use_109 hcs (fun r_15 N_11 G_12 B_13 pl_14 hw H locs hP hD hS => ?_)
      dsimp only at hw
      obtain ⟨e3, e4, e2, hw, e5, e6⟩ := hw
      rw [e6 rfl, e2, e3, e4] at hP hD
      subst hw
      refine bz_ne (tgt := 116) hx hb (by first | omega | exact Nat.lt_of_lt_of_le (hG _ _) (by decide)) dX12_use_112 (by decide) (fun q9 => absurd q9 (by omega)) (fun c => ?_)
      exact W.vret hx hb hr (fun t ht hW => ⟨⟨(va_up (SCN M vc q) 33 5, SCG G g, B, pl), rfl, ⟨rfl, XPOST.trans hxt ((RUN.scr hrm hg hv1 hq1).fail hbm (by omega) (Or.inl rfl) (by decide) (by decide))⟩, by rw [ht]; exact hP, va_K.moved hW.alike hK, hD⟩, hS.F ht⟩) hS.2.2 dX12_use_115
    · rcases hfo with hz | ⟨j9, hj1, hj2, hz, hmt⟩
      · exact absurd hz (by omega)
      · have h33b := h33
        have h33 := m33
        refine lv_iconst (v := nI 1) hx hb dX12_use_103 (by decide) ?_
        refine lv_goto (tgt := 108) hx hb dX12_use_104 (by decide) ?_
        refine lv_iconst (v := nI 5) hx hb dX12_use_108 (by decide) ?_
        refine mcl_i (As := [.int (nI 1), .int (nI 5)]) (rest := []) ⟨hx, hb, hml, hown, hts⟩ (m_need l dC dI cB cC cI cJ cZ z0 R pl (SCN M vc q) (SCG G g) B 1 5 (by decide) ⟨by decide, by decide⟩ (show (SCN M vc q) 33 = 0 from h33) H.size) (cwV 2 hts kX12_use_X12_need_255 rfl rfl rfl (by decide +kernel) ⟨Nat.le_of_ble_eq_true rfl, Nat.le_of_ble_eq_true rfl⟩) hK hP hD hS hA rfl rfl hl.1 (lv_room (Nat.le_of_ble_eq_true rfl)) dX12_use_109 hcs (fun r_20 N_16 G_17 B_18 pl_19 hw H locs hP hD hS => ?_)
        dsimp only at hw
        obtain ⟨e3, e4, e2, hw, e5, e6⟩ := hw
        rw [e5 rfl, e2, e3, e4] at hP hD
        subst hw
        refine bz_ne (tgt := 116) hx hb (by first | omega | exact Nat.lt_of_lt_of_le (hG _ _) (by decide)) dX12_use_112 (by decide) (fun c => ?_) (fun q9 => absurd q9 (by omega))
        have hl : lv_has ls 10 [(0, .ref z0), (1, .int (nI rules)), (2, .int (nI rin)), (3, .int (nI f)), (4, .int (nI en)), (5, .int (nI dp)), (6, .int (nI (CH G rules j9)))] := by have z : nI fo - 1 = nI (CH G rules j9) := by { rw [hz]; exact om1 (Nat.succ_pos _) }; rw [← z]; exact hl
        refine lp_use2 hx hb hml hown hts hK hA hxm m33 hro (by omega) (by omega) (by omega) (by omega) hdp htm hbm (by omega) hrm14 j9 hj1 hj2 hmt vc q g hg hv1 hq1 (fun N1 G1 H locs hpo hP hD hS ls hl => ?_) _ _ hP hD hS ls (lv_sub hl [0, 1, 2, 3, 4, 5, 6] rfl)
        exact W.vret hx hb hr (fun t ht hW => ⟨⟨(N1, G1, B, pl), rfl, ⟨rfl, XPOST.trans hxt hpo⟩, by rw [ht]; exact hP, va_K.moved hW.alike hK, hD⟩, hS.F ht⟩) hS.2.2 dX12_use_237
