def oX12_doAll : List Cond := [Cond.fieldLink RX12 229 "MacroScopesModel" "todo" "I", Cond.fieldLink RX12 236 "MacroScopesModel" "fault" "I", Cond.fieldLink RX12 70 "MacroScopesModel" "taskForms" "[I", Cond.fieldLink RX12 67 "MacroScopesModel" "tasks" "[B", Cond.fieldLink RX12 73 "MacroScopesModel" "taskIn" "[I", Cond.fieldLink RX12 76 "MacroScopesModel" "taskDeep" "[I", Cond.methodLink RX12 384 yX12_expand, Cond.instanceMethod yX12_expand, Cond.selects RX12 yX12_expand yX12_expand, Cond.initialized RX12, Cond.methodLink RX12 387 yX12_sayPlain, Cond.instanceMethod yX12_sayPlain, Cond.selects RX12 yX12_sayPlain yX12_sayPlain, Cond.methodLink RX12 226 yX12_say, Cond.instanceMethod yX12_say, Cond.selects RX12 yX12_say yX12_say]
def vX12_doAll : List Cond := .code yX12_doAll cX12_doAll 2 none :: (oX12_doAll ++ (vX12_expand ++ (vX12_sayPlain ++ (vX12_say ++ (wsX120)))))
theorem lkX12_doAll_f229 : Cond.fieldLink RX12 229 "MacroScopesModel" "todo" "I" ∈ vX12_doAll := List.mem_cons_of_mem _ (List.mem_append_left _ (List.mem_of_getElem? (i := 0) rfl))
theorem lkX12_doAll_f236 : Cond.fieldLink RX12 236 "MacroScopesModel" "fault" "I" ∈ vX12_doAll := List.mem_cons_of_mem _ (List.mem_append_left _ (List.mem_of_getElem? (i := 1) rfl))
theorem lkX12_doAll_f70 : Cond.fieldLink RX12 70 "MacroScopesModel" "taskForms" "[I" ∈ vX12_doAll := List.mem_cons_of_mem _ (List.mem_append_left _ (List.mem_of_getElem? (i := 2) rfl))
theorem lkX12_doAll_f67 : Cond.fieldLink RX12 67 "MacroScopesModel" "tasks" "[B" ∈ vX12_doAll := List.mem_cons_of_mem _ (List.mem_append_left _ (List.mem_of_getElem? (i := 3) rfl))
theorem lkX12_doAll_f73 : Cond.fieldLink RX12 73 "MacroScopesModel" "taskIn" "[I" ∈ vX12_doAll := List.mem_cons_of_mem _ (List.mem_append_left _ (List.mem_of_getElem? (i := 4) rfl))
theorem lkX12_doAll_f76 : Cond.fieldLink RX12 76 "MacroScopesModel" "taskDeep" "[I" ∈ vX12_doAll := List.mem_cons_of_mem _ (List.mem_append_left _ (List.mem_of_getElem? (i := 5) rfl))
theorem inX12_doAll : ∀ w ∈ wsX120, w ∈ vX12_doAll := fun w h => List.mem_cons_of_mem _ (List.mem_append_right _ (List.mem_append_right _ (List.mem_append_right _ (List.mem_append_right _ (h)))))
theorem kX12_doAll_X12_expand_384 : GoodIn vX12_doAll (wsV RX12 384 RX12 yX12_expand vX12_expand) := goodIn_sub (fun w h => (List.mem_append.mp h).elim (fun h => List.mem_cons_of_mem _ (List.mem_append_left _ ((by decide +kernel : ∀ w ∈ ([.methodLink RX12 384 yX12_expand, .instanceMethod yX12_expand, .selects RX12 yX12_expand yX12_expand, .initialized RX12] : List Cond), w ∈ oX12_doAll) w h))) (fun h => List.mem_cons_of_mem _ (List.mem_append_right _ (List.mem_append_left _ (h))))) (by decide +kernel)
theorem kX12_doAll_X12_sayPlain_387 : GoodIn vX12_doAll (wsV RX12 387 RX12 yX12_sayPlain vX12_sayPlain) := goodIn_sub (fun w h => (List.mem_append.mp h).elim (fun h => List.mem_cons_of_mem _ (List.mem_append_left _ ((by decide +kernel : ∀ w ∈ ([.methodLink RX12 387 yX12_sayPlain, .instanceMethod yX12_sayPlain, .selects RX12 yX12_sayPlain yX12_sayPlain, .initialized RX12] : List Cond), w ∈ oX12_doAll) w h))) (fun h => List.mem_cons_of_mem _ (List.mem_append_right _ (List.mem_append_right _ (List.mem_append_left _ (h)))))) (by decide +kernel)
theorem kX12_doAll_X12_say_226 : GoodIn vX12_doAll (wsV RX12 226 RX12 yX12_say vX12_say) := goodIn_sub (fun w h => (List.mem_append.mp h).elim (fun h => List.mem_cons_of_mem _ (List.mem_append_left _ ((by decide +kernel : ∀ w ∈ ([.methodLink RX12 226 yX12_say, .instanceMethod yX12_say, .selects RX12 yX12_say yX12_say, .initialized RX12] : List Cond), w ∈ oX12_doAll) w h))) (fun h => List.mem_cons_of_mem _ (List.mem_append_right _ (List.mem_append_right _ (List.mem_append_right _ (List.mem_append_left _ (h))))))) (by decide +kernel)
def oX12_isDefinition : List Cond := [Cond.fieldLink RX12 32 "MacroScopesModel" "kinds" "[B", Cond.fieldLink RX12 38 "MacroScopesModel" "counts" "[I", Cond.methodLink RX12 192 yX12_part, Cond.instanceMethod yX12_part, Cond.selects RX12 yX12_part yX12_part, Cond.initialized RX12, Cond.methodLink RX12 180 yX12_isName, Cond.instanceMethod yX12_isName, Cond.selects RX12 yX12_isName yX12_isName, Cond.fieldLink RX12 35 "MacroScopesModel" "values" "[I"]
def vX12_isDefinition : List Cond := .code yX12_isDefinition cX12_isDefinition 3 (some .boolean) :: (oX12_isDefinition ++ (vX12_part ++ (vX12_isName ++ (wsX120))))
theorem lkX12_isDefinition_f32 : Cond.fieldLink RX12 32 "MacroScopesModel" "kinds" "[B" ∈ vX12_isDefinition := List.mem_cons_of_mem _ (List.mem_append_left _ (List.mem_of_getElem? (i := 0) rfl))
theorem lkX12_isDefinition_f38 : Cond.fieldLink RX12 38 "MacroScopesModel" "counts" "[I" ∈ vX12_isDefinition := List.mem_cons_of_mem _ (List.mem_append_left _ (List.mem_of_getElem? (i := 1) rfl))
theorem lkX12_isDefinition_f35 : Cond.fieldLink RX12 35 "MacroScopesModel" "values" "[I" ∈ vX12_isDefinition := List.mem_cons_of_mem _ (List.mem_append_left _ (List.mem_of_getElem? (i := 9) rfl))
theorem inX12_isDefinition : ∀ w ∈ wsX120, w ∈ vX12_isDefinition := fun w h => List.mem_cons_of_mem _ (List.mem_append_right _ (List.mem_append_right _ (List.mem_append_right _ (h))))
theorem kX12_isDefinition_X12_part_192 : GoodIn vX12_isDefinition (wsV RX12 192 RX12 yX12_part vX12_part) := goodIn_sub (fun w h => (List.mem_append.mp h).elim (fun h => List.mem_cons_of_mem _ (List.mem_append_left _ ((by decide +kernel : ∀ w ∈ ([.methodLink RX12 192 yX12_part, .instanceMethod yX12_part, .selects RX12 yX12_part yX12_part, .initialized RX12] : List Cond), w ∈ oX12_isDefinition) w h))) (fun h => List.mem_cons_of_mem _ (List.mem_append_right _ (List.mem_append_left _ (h))))) (by decide +kernel)
theorem kX12_isDefinition_X12_isName_180 : GoodIn vX12_isDefinition (wsV RX12 180 RX12 yX12_isName vX12_isName) := goodIn_sub (fun w h => (List.mem_append.mp h).elim (fun h => List.mem_cons_of_mem _ (List.mem_append_left _ ((by decide +kernel : ∀ w ∈ ([.methodLink RX12 180 yX12_isName, .instanceMethod yX12_isName, .selects RX12 yX12_isName yX12_isName, .initialized RX12] : List Cond), w ∈ oX12_isDefinition) w h))) (fun h => List.mem_cons_of_mem _ (List.mem_append_right _ (List.mem_append_right _ (List.mem_append_left _ (h)))))) (by decide +kernel)
set_option maxHeartbeats 4000000 in
set_option maxRecDepth 100000 in
theorem lp_doAll {p : Program} {l : Launch} {e : Env} {s : State} {m : MethodId} {args : Array Value} {below : List Frame} {meth : Method} {c : Code} {Q : State → Prop} {A : Nat → Prop} {dC : Nat → ClassId} {dI : Nat → Nat → Nat} {cB cC cI cJ cZ : ClassId} {z0 : Nat} {R : Nat → Nat} (hx : p.tables.exec = Jvm.exec) (hb : c.code = cX12_doAll) (hml : c.maxLocals = 2) (hown : s.vm.findClass RX12 = some m.cls) (hts : ∀ w ∈ vX12_doAll, w.before args s = true) (hK : va_K (dC, dI) vwCl (TY cB cC cI cJ cZ) s) (hA : ∀ q : Nat, s.heap.size ≤ q → A q) {pl : Int32} {N : Nat → Nat} {G : Nat → Nat → Nat} {B : Nat → Nat → Int32} {sz : Nat → Nat} {x : Nat} (ke : ∀ (w1 : Nat) (M : Nat → Nat) (K : Nat → Nat → Nat) (C : Nat → Nat → Int32) (sz1 az1 : Nat → Nat) (H : Heap) (locs : List Loc), XI M K sz1 az1 → TSK M K sz1 w1 → BUD M w1 x → XT N G B sz M K C sz1 → (M 33 = 0 → M 32 = 0) → va_P (dC, dI) vwCl (MW cB cC cI cJ cZ z0 R pl M K C) H → va_D A (MW cB cC cI cJ cZ z0 R pl M K C) → va_S A s.heap H locs → ∀ (ls : Array Slot), lv_has ls 2 [] → W p l e (headSpec vX12_doAll { frames := 9, cells := 0, slots := 0, locals := 223 }).room s m args below meth c H locs 0 0 Q (F0 m 101 ls [])) : ∀ (k : Nat) (w1 : Nat) (M : Nat → Nat) (K : Nat → Nat → Nat) (C : Nat → Nat → Int32) (sz1 az1 : Nat → Nat), PHI M w1 < k → XI M K sz1 az1 → TSK M K sz1 w1 → BUD M w1 x → XT N G B sz M K C sz1 → ∀ (H : Heap) (locs : List Loc), va_P (dC, dI) vwCl (MW cB cC cI cJ cZ z0 R pl M K C) H → va_D A (MW cB cC cI cJ cZ z0 R pl M K C) → va_S A s.heap H locs → ∀ (ls : Array Slot), lv_has ls 2 [(0, .ref z0)] → W p l e (headSpec vX12_doAll { frames := 9, cells := 0, slots := 0, locals := 223 }).room s m args below meth c H locs 0 0 Q (F0 m 0 ls []) := by
  have hcs : 0 + 0 ≤ (0 : Nat) ∧ 0 + 0 ≤ (0 : Nat) := ⟨Nat.le_refl 0, Nat.le_refl 0⟩
  intro k
  induction k with
  | zero =>
    intro w1 M K C sz1 az1 hk hxi htk hbu hxt H locs hP hD hS ls hl
    exact absurd hk (Nat.not_lt_zero _)
  | succ k ih =>
    intro w1 M K C sz1 az1 hk hxi htk hbu hxt H locs hP hD hS ls hl
    have h32 := TSK.le htk hxi.1.2.2.1
    have hb1 := hbu.1
    have hnf := hxi.2.2.2.2.2.1
    refine lv_aload_n hx hb dX12_doAll_0 rfl (lv_at hl 0 rfl) ?_
    refine mg_32 hx hb hts inX12_doAll hown hK hP (hts _ lkX12_doAll_f229) dX12_doAll_1 ?_
    refine bz_le (tgt := 101) hx hb (by first | omega | exact Nat.lt_of_lt_of_le (hG _ _) (by decide)) dX12_doAll_4 (by decide) (fun c1 => ?_) (fun c1 => ?_)
    · exact ke w1 M K C sz1 az1 H locs hxi htk hbu hxt (fun _ => c1) hP hD hS ls (lv_sub hl [] rfl)
    · refine lv_aload_n hx hb dX12_doAll_7 rfl (lv_at hl 0 rfl) ?_
      refine mg_33 hx hb hts inX12_doAll hown hK hP (hts _ lkX12_doAll_f236) dX12_doAll_8 ?_
      refine bz_ne (tgt := 101) hx hb (by first | omega | exact Nat.lt_of_lt_of_le (hG _ _) (by decide)) dX12_doAll_11 (by decide) (fun c2 => ?_) (fun c2 => ?_)
      · exact ke w1 M K C sz1 az1 H locs hxi htk hbu hxt (fun z => absurd z (by omega)) hP hD hS ls (lv_sub hl [] rfl)
      · obtain ⟨n, hn⟩ : ∃ n, M 32 = n + 1 := ⟨M 32 - 1, by omega⟩
        obtain ⟨y1, y2, y3, v, htv, hvw⟩ := htk.pop (N' := va_up M 32 n) hn (va_up_self _ _ _) rfl rfl
        refine lv_aload_n hx hb dX12_doAll_14 rfl (lv_at hl 0 rfl) ?_
        refine lv_dup hx hb dX12_doAll_15 rfl ?_
        refine mg_32 hx hb hts inX12_doAll hown hK hP (hts _ lkX12_doAll_f229) dX12_doAll_16 ?_
        refine lv_iconst (v := nI 1) hx hb dX12_doAll_19 (by decide) ?_
        refine lv_isub hx hb dX12_doAll_20 ?_
        refine tp_i (pk_sub (a := M 32) (b := 1) (by omega)) ?_
        refine tp_i (y := nI n) (by rw [hn]; rfl) ?_
        refine mp_32 hx hb hts inX12_doAll hown hK hP hD hS (hts _ lkX12_doAll_f229) dX12_doAll_21 (fun H locs hP hD hS => ?_)
        have hxp : XI (va_up M 32 n) K sz1 az1 := hxi
        have hxt2 : XT N G B sz (va_up M 32 n) K C sz1 := hxt.trans (XT.nums (fun k hk => va_up_ne _ _ (by omega)))
        have p33 : va_up M 32 n 33 = 0 := c2
        have p38 : va_up M 32 n 38 = M 38 := rfl
        have p35 : va_up M 32 n 35 = M 35 := rfl
        have p14 : va_up M 32 n 14 = M 14 := rfl
        have p23 : va_up M 32 n 23 = M 23 := rfl
        have p32 : va_up M 32 n 32 = n := va_up_self _ _ _
        have hph : PHI M w1 ≤ x := hbu.2.1
        have hx9 : x ≤ 1950000000 := hbu.2.2
        generalize va_up M 32 n = P at hP hD htv hxp hxt2 p33 p38 p35 p14 p23 p32
        refine lv_aload_n hx hb dX12_doAll_24 rfl (lv_at hl 0 rfl) ?_
        refine mg_29 hx hb hts inX12_doAll hown hK hP (hts _ lkX12_doAll_f70) dX12_doAll_25 ?_
        refine lv_aload_n hx hb dX12_doAll_28 rfl (lv_at hl 0 rfl) ?_
        refine mg_32 hx hb hts inX12_doAll hown hK hP (hts _ lkX12_doAll_f229) dX12_doAll_29 ?_
        refine tp_i (y := nI n) (by rw [p32]) ?_
        refine ml_29 hx hb hK hP (by omega) dX12_doAll_32 ?_
        refine lv_istore_n (lv' := [(1, .int (nI (K 29 n))), (0, .ref z0)]) hx hb dX12_doAll_33 rfl hl (by decide) rfl (fun ls hl => ?_)
        refine lv_aload_n hx hb dX12_doAll_34 rfl (lv_at hl 1 rfl) ?_
        refine mg_28 hx hb hts inX12_doAll hown hK hP (hts _ lkX12_doAll_f67) dX12_doAll_35 ?_
        refine lv_aload_n hx hb dX12_doAll_38 rfl (lv_at hl 1 rfl) ?_
        refine mg_32 hx hb hts inX12_doAll hown hK hP (hts _ lkX12_doAll_f229) dX12_doAll_39 ?_
        refine tp_i (y := nI n) (by rw [p32]) ?_
        refine ml_28 hx hb hK hP (by omega) dX12_doAll_42 ?_
        refine bz_ne (tgt := 72) hx hb (by first | omega | exact Nat.lt_of_lt_of_le (hG _ _) (by decide)) dX12_doAll_43 (by decide) (fun c3 => ?_) (fun c3 => ?_)
        · refine lv_aload_n hx hb dX12_doAll_72 rfl (lv_at hl 1 rfl) ?_
          refine mg_28 hx hb hts inX12_doAll hown hK hP (hts _ lkX12_doAll_f67) dX12_doAll_73 ?_
          refine lv_aload_n hx hb dX12_doAll_76 rfl (lv_at hl 1 rfl) ?_
          refine mg_32 hx hb hts inX12_doAll hown hK hP (hts _ lkX12_doAll_f229) dX12_doAll_77 ?_
          refine tp_i (y := nI n) (by rw [p32]) ?_
          have g28 := hxi.1.1 28 n
          refine ml_28 hx hb hK hP (by omega) dX12_doAll_80 ?_
          refine lv_iconst (v := nI 1) hx hb dX12_doAll_81 (by decide) ?_
          refine bn_ne (tgt := 93) hx hb (by first | omega | exact Nat.lt_of_lt_of_le (hG _ _) (by decide)) (by first | omega | exact Nat.lt_of_lt_of_le (hG _ _) (by decide)) dX12_doAll_82 (by decide) (fun c4 => ?_) (fun c4 => ?_)
          · have hwt : WT K sz1 n = 1 := if_pos (by omega)
            rw [hwt] at hvw
            refine lv_aload_n hx hb dX12_doAll_93 rfl (lv_at hl 1 rfl) ?_
            refine lv_iload_n hx hb dX12_doAll_94 rfl (lv_at hl 0 rfl) ?_
            have hr0 : RUN P K C sz1 P K C az1 v 0 := RUN.start hxp htv p33
            have hb38 : P 38 + 100 ≤ 2000000000 := by unfold PHI at hph; omega
            refine mcl_v (As := [.int (nI (K 29 n))]) (rest := []) ⟨hx, hb, hml, hown, hts⟩ (m_say l dC dI cB cC cI cJ cZ z0 R pl P K C (nI (K 29 n)) hb38 H.size) (cwV 1 hts kX12_doAll_X12_say_226 rfl rfl rfl (by decide +kernel) ⟨Nat.le_of_ble_eq_true rfl, Nat.le_of_ble_eq_true rfl⟩) hK hP hD hS hA rfl rfl hl.1 (lv_room (Nat.le_of_ble_eq_true rfl)) dX12_doAll_95 hcs (fun  N_11 G_12 B_13 pl_14 hw H locs hP hD hS => ?_)
            dsimp only at hw
            obtain ⟨e2, e4, e1, X, e3⟩ := hw
            have hr1 : RUN P K C sz1 N_11 K B_13 az1 v 1 := by rw [e1, e3]; exact hr0.say 1 X (by decide)
            rw [e2, e4] at hP hD
            have hbu2 : BUD P (v + 1) (PHI M w1) := by unfold BUD PHI; rw [p38, p35]; exact ⟨by omega, by omega, Nat.le_trans hph hx9⟩
            have hpo := hr1.post hbu2 (by omega) (by decide)
            obtain ⟨sz2, az2, w2, z1, z2, z3, z4, z5⟩ := hpo
            refine lv_goto (tgt := 0) hx hb dX12_doAll_98 (by decide) ?_
            have hxt3 := hxt2.trans z4
            have hbu3 : BUD N_11 w2 x := ⟨z3.1, Nat.le_trans z3.2.1 hph, hx9⟩
            by_cases hz : N_11 33 = 0
            · exact ih w2 N_11 K B_13 sz2 az2 (by have := z5 hz; omega) z1 z2 hbu3 hxt3 _ _ hP hD hS ls (lv_sub hl [1] rfl)
            · have h32 := TSK.le z2 z1.1.2.2.1
              have hb1 := hbu3.1
              have hnf := z1.2.2.2.2.2.1
              refine lv_aload_n hx hb dX12_doAll_0 rfl (lv_at hl 1 rfl) ?_
              refine mg_32 hx hb hts inX12_doAll hown hK hP (hts _ lkX12_doAll_f229) dX12_doAll_1 ?_
              refine bz_le (tgt := 101) hx hb (by first | omega | exact Nat.lt_of_lt_of_le (hG _ _) (by decide)) dX12_doAll_4 (by decide) (fun c7 => ?_) (fun c7 => ?_)
              · exact ke w2 N_11 K B_13 sz2 az2 H locs z1 z2 hbu3 hxt3 (fun _ => c7) hP hD hS ls (lv_sub hl [] rfl)
              · refine lv_aload_n hx hb dX12_doAll_7 rfl (lv_at hl 1 rfl) ?_
                refine mg_33 hx hb hts inX12_doAll hown hK hP (hts _ lkX12_doAll_f236) dX12_doAll_8 ?_
                refine bz_ne (tgt := 101) hx hb (by first | omega | exact Nat.lt_of_lt_of_le (hG _ _) (by decide)) dX12_doAll_11 (by decide) (fun c8 => ?_) (fun c8 => ?_)
                · exact ke w2 N_11 K B_13 sz2 az2 H locs z1 z2 hbu3 hxt3 (fun y => absurd y hz) hP hD hS ls (lv_sub hl [] rfl)
                · exact absurd c8 hz
          · have hwt : WT K sz1 n = 3 * sz1 (K 29 n) - 1 := if_neg (by omega)
            have hbu2 : BUD P (v + (3 * sz1 (K 29 n) - 1)) (PHI M w1) := by unfold BUD PHI; rw [p38, p35]; rw [hwt] at hvw; exact ⟨by omega, by omega, Nat.le_trans hph hx9⟩
            refine lv_aload_n hx hb dX12_doAll_85 rfl (lv_at hl 1 rfl) ?_
            refine lv_iload_n hx hb dX12_doAll_86 rfl (lv_at hl 0 rfl) ?_
            refine mcl_v (As := [.int (nI (K 29 n))]) (rest := []) ⟨hx, hb, hml, hown, hts⟩ (m_sayPlain l dC dI cB cC cI cJ cZ z0 R pl P K C (K 29 n) v (PHI M w1) sz1 az1 hxp htv hbu2 p33 (by rw [p14]; exact y2 (by omega)) H.size) (cwV 1 hts kX12_doAll_X12_sayPlain_387 rfl rfl rfl (by decide +kernel) ⟨Nat.le_of_ble_eq_true rfl, Nat.le_of_ble_eq_true rfl⟩) hK hP hD hS hA rfl rfl hl.1 (lv_room (Nat.le_of_ble_eq_true rfl)) dX12_doAll_87 hcs (fun  N_6 G_7 B_8 pl_9 hw H locs hP hD hS => ?_)
            dsimp only at hw
            obtain ⟨e4, sz2, az2, w2, z1, z2, z3, z4, z5⟩ := hw
            rw [e4] at hP hD
            refine lv_goto (tgt := 98) hx hb dX12_doAll_90 (by decide) ?_
            refine lv_goto (tgt := 0) hx hb dX12_doAll_98 (by decide) ?_
            have hxt3 := hxt2.trans z4
            have hbu3 : BUD N_6 w2 x := ⟨z3.1, Nat.le_trans z3.2.1 hph, hx9⟩
            by_cases hz : N_6 33 = 0
            · exact ih w2 N_6 G_7 B_8 sz2 az2 (by have := z5 hz; omega) z1 z2 hbu3 hxt3 _ _ hP hD hS ls (lv_sub hl [1] rfl)
            · have h32 := TSK.le z2 z1.1.2.2.1
              have hb1 := hbu3.1
              have hnf := z1.2.2.2.2.2.1
              refine lv_aload_n hx hb dX12_doAll_0 rfl (lv_at hl 1 rfl) ?_
              refine mg_32 hx hb hts inX12_doAll hown hK hP (hts _ lkX12_doAll_f229) dX12_doAll_1 ?_
              refine bz_le (tgt := 101) hx hb (by first | omega | exact Nat.lt_of_lt_of_le (hG _ _) (by decide)) dX12_doAll_4 (by decide) (fun c7 => ?_) (fun c7 => ?_)
              · exact ke w2 N_6 G_7 B_8 sz2 az2 H locs z1 z2 hbu3 hxt3 (fun _ => c7) hP hD hS ls (lv_sub hl [] rfl)
              · refine lv_aload_n hx hb dX12_doAll_7 rfl (lv_at hl 1 rfl) ?_
                refine mg_33 hx hb hts inX12_doAll hown hK hP (hts _ lkX12_doAll_f236) dX12_doAll_8 ?_
                refine bz_ne (tgt := 101) hx hb (by first | omega | exact Nat.lt_of_lt_of_le (hG _ _) (by decide)) dX12_doAll_11 (by decide) (fun c8 => ?_) (fun c8 => ?_)
                · exact ke w2 N_6 G_7 B_8 sz2 az2 H locs z1 z2 hbu3 hxt3 (fun y => absurd y hz) hP hD hS ls (lv_sub hl [] rfl)
                · exact absurd c8 hz
        · have hwt : WT K sz1 n = 3 * sz1 (K 29 n) - 1 := if_neg (by omega)
          have hbu2 : BUD P (v + (3 * sz1 (K 29 n) - 1)) (PHI M w1) := by unfold BUD PHI; rw [p38, p35]; rw [hwt] at hvw; exact ⟨by omega, by omega, Nat.le_trans hph hx9⟩
          refine lv_aload_n hx hb dX12_doAll_46 rfl (lv_at hl 1 rfl) ?_
          refine lv_iload_n hx hb dX12_doAll_47 rfl (lv_at hl 0 rfl) ?_
          refine lv_aload_n hx hb dX12_doAll_48 rfl (lv_at hl 1 rfl) ?_
          refine mg_30 hx hb hts inX12_doAll hown hK hP (hts _ lkX12_doAll_f73) dX12_doAll_49 ?_
          refine lv_aload_n hx hb dX12_doAll_52 rfl (lv_at hl 1 rfl) ?_
          refine mg_32 hx hb hts inX12_doAll hown hK hP (hts _ lkX12_doAll_f229) dX12_doAll_53 ?_
          refine tp_i (y := nI n) (by rw [p32]) ?_
          refine ml_30 hx hb hK hP (by omega) dX12_doAll_56 ?_
          refine lv_aload_n hx hb dX12_doAll_57 rfl (lv_at hl 1 rfl) ?_
          refine mg_31 hx hb hts inX12_doAll hown hK hP (hts _ lkX12_doAll_f76) dX12_doAll_58 ?_
          refine lv_aload_n hx hb dX12_doAll_61 rfl (lv_at hl 1 rfl) ?_
          refine mg_32 hx hb hts inX12_doAll hown hK hP (hts _ lkX12_doAll_f229) dX12_doAll_62 ?_
          refine tp_i (y := nI n) (by rw [p32]) ?_
          refine ml_31 hx hb hK hP (by omega) dX12_doAll_65 ?_
          refine mcl_v (As := [.int (nI (K 29 n)), .int (nI (K 30 n)), .int (nI (K 31 n))]) (rest := []) ⟨hx, hb, hml, hown, hts⟩ (m_expand l dC dI cB cC cI cJ cZ z0 R pl P K C (K 29 n) (K 30 n) (K 31 n) v (PHI M w1) sz1 az1 hxp htv p33 (by rw [p14]; exact y2 (by omega)) (by rw [p23]; exact (y3 c3).1) (y3 c3).2 hbu2 H.size) (cwV 3 hts kX12_doAll_X12_expand_384 rfl rfl rfl (by decide +kernel) ⟨Nat.le_of_ble_eq_true rfl, Nat.le_of_ble_eq_true rfl⟩) hK hP hD hS hA rfl rfl hl.1 (lv_room (Nat.le_of_ble_eq_true rfl)) dX12_doAll_66 hcs (fun  N_1 G_2 B_3 pl_4 hw H locs hP hD hS => ?_)
          dsimp only at hw
          obtain ⟨e4, sz2, az2, w2, z1, z2, z3, z4, z5⟩ := hw
          rw [e4] at hP hD
          refine lv_goto (tgt := 98) hx hb dX12_doAll_69 (by decide) ?_
          refine lv_goto (tgt := 0) hx hb dX12_doAll_98 (by decide) ?_
          have hxt3 := hxt2.trans z4
          have hbu3 : BUD N_1 w2 x := ⟨z3.1, Nat.le_trans z3.2.1 hph, hx9⟩
          by_cases hz : N_1 33 = 0
          · exact ih w2 N_1 G_2 B_3 sz2 az2 (by have := z5 hz; omega) z1 z2 hbu3 hxt3 _ _ hP hD hS ls (lv_sub hl [1] rfl)
          · have h32 := TSK.le z2 z1.1.2.2.1
            have hb1 := hbu3.1
            have hnf := z1.2.2.2.2.2.1
            refine lv_aload_n hx hb dX12_doAll_0 rfl (lv_at hl 1 rfl) ?_
            refine mg_32 hx hb hts inX12_doAll hown hK hP (hts _ lkX12_doAll_f229) dX12_doAll_1 ?_
            refine bz_le (tgt := 101) hx hb (by first | omega | exact Nat.lt_of_lt_of_le (hG _ _) (by decide)) dX12_doAll_4 (by decide) (fun c7 => ?_) (fun c7 => ?_)
            · exact ke w2 N_1 G_2 B_3 sz2 az2 H locs z1 z2 hbu3 hxt3 (fun _ => c7) hP hD hS ls (lv_sub hl [] rfl)
            · refine lv_aload_n hx hb dX12_doAll_7 rfl (lv_at hl 1 rfl) ?_
              refine mg_33 hx hb hts inX12_doAll hown hK hP (hts _ lkX12_doAll_f236) dX12_doAll_8 ?_
              refine bz_ne (tgt := 101) hx hb (by first | omega | exact Nat.lt_of_lt_of_le (hG _ _) (by decide)) dX12_doAll_11 (by decide) (fun c8 => ?_) (fun c8 => ?_)
              · exact ke w2 N_1 G_2 B_3 sz2 az2 H locs z1 z2 hbu3 hxt3 (fun y => absurd y hz) hP hD hS ls (lv_sub hl [] rfl)
              · exact absurd c8 hz

set_option maxHeartbeats 4000000 in
set_option maxRecDepth 100000 in
/-- doAll -/
theorem m_doAll (l : Launch) (dC : Nat → ClassId) (dI : Nat → Nat → Nat) (cB cC cI cJ cZ : ClassId) (z0 : Nat) (R : Nat → Nat) (pl : Int32) (N : Nat → Nat) (G : Nat → Nat → Nat) (B : Nat → Nat → Int32) (w x : Nat) (sz az : Nat → Nat) (hxi : XI N G sz az) (htk : TSK N G sz w) (hbu : BUD N w x) (s0 : Nat) : Met l yX12_doAll vX12_doAll { frames := 9, cells := 0, slots := 0, locals := 223 } (va_Pc [.ref z0] (mPre dC dI cB cC cI cJ cZ z0 R pl N G B s0)) (va_Qv (fun u : ((Nat → Nat) × (Nat → Nat → Nat) × (Nat → Nat → Int32) × Int32) => match u with | (N1, G1, B1, pl1) => pl1 = pl ∧ ∃ sz1 az1 w1, XI N1 G1 sz1 az1 ∧ TSK N1 G1 sz1 w1 ∧ BUD N1 w1 x ∧ XT N G B sz N1 G1 B1 sz1 ∧ (N1 33 = 0 → N1 32 = 0)) (mPost dC dI cB cC cI cJ cZ z0 R (va_A (MW cB cC cI cJ cZ z0 R pl N G B) s0)) (va_A (MW cB cC cI cJ cZ z0 R pl N G B) s0)) 0 0 (va_A (MW cB cC cI cJ cZ z0 R pl N G B) s0) := by
  refine Met.ofW (cc := cX12_doAll) (maxL := 2) (ret := none) (by decide) rfl ?_
  intro p e s m args below meth c s₁ B9 hml hv
  obtain ⟨rfl, hsz, hP, hK, hD0⟩ := hv
  have hx := B9.exec
  have hb := B9.bytes
  have hr := B9.returns
  have hts := atoms_spec (ws := vX12_doAll) B9.pre
  have hown : s.vm.findClass RX12 = some m.cls := findClass_of_methodNamed B9.named
  have hlocks := B9.notSynchronized
  subst hsz
  have hD := hD0.self (sz := s.heap.size)
  generalize hAe : va_A (MW cB cC cI cJ cZ z0 R pl N G B) s.heap.size = A at hD ⊢
  have hA : ∀ q : Nat, s.heap.size ≤ q → A q := fun q h => by rw [← hAe]; exact Or.inr h
  have hS : va_S A s.heap s.heap [] := va_S.rf
  have hcs : 0 + 0 ≤ (0 : Nat) ∧ 0 + 0 ≤ (0 : Nat) := ⟨Nat.le_refl 0, Nat.le_refl 0⟩
  have hl := lv_entry ([.ref z0]) (n := 2) (Nat.le_of_ble_eq_true rfl)
  rw [lg_entry_eq]
  generalize (lg_sl ([.ref z0]) ++ List.replicate (2 - (lg_sl ([.ref z0])).length) Slot.unset).toArray = ls at hl ⊢
  have hl : lv_has ls 2 [(0, .ref z0)] := hl
  refine lp_doAll hx hb hml hown hts hK hA (fun w1 M K C sz1 az1 H locs h1 h2 h3 h4 h5 hP hD hS ls hl => ?_) _ w N G B sz az (Nat.lt_succ_self _) hxi htk hbu XT.refl _ _ hP hD hS ls (lv_sub hl [0] rfl)
  exact W.vret hx hb hr (fun t ht hW => ⟨⟨(M, K, C, pl), rfl, ⟨rfl, sz1, az1, w1, h1, h2, h3, h4, h5⟩, by rw [ht]; exact hP, va_K.moved hW.alike hK, hD⟩, hS.F ht⟩) hS.2.2 dX12_doAll_101

set_option maxHeartbeats 4000000 in
set_option maxRecDepth 100000 in
/-- isDefinition -/
theorem m_isDefinition (l : Launch) (dC : Nat → ClassId) (dI : Nat → Nat → Nat) (cB cC cI cJ cZ : ClassId) (z0 : Nat) (R : Nat → Nat) (pl : Int32) (N : Nat → Nat) (G : Nat → Nat → Nat) (B : Nat → Nat → Int32) (f y : Nat) (sz : Nat → Nat) (hG : ∀ k i, G k i < 1048576) (ht9 : TREE N G sz) (hf : f < N 14) (hy : y < 1048576) (s0 : Nat) : Met l yX12_isDefinition vX12_isDefinition { frames := 1, cells := 0, slots := 0, locals := 22 } (va_Pc [.ref z0, .int (nI f), .int (nI y)] (mPre dC dI cB cC cI cJ cZ z0 R pl N G B s0)) (va_Qi (fun (r : Int32) (u : ((Nat → Nat) × (Nat → Nat → Nat) × (Nat → Nat → Int32) × Int32)) => match u with | (N1, G1, B1, pl1) => N1 = N ∧ G1 = G ∧ B1 = B ∧ pl1 = pl ∧ ∃ fi, r = nI fi ∧ fi ≤ 1) (mPost dC dI cB cC cI cJ cZ z0 R (va_A (MW cB cC cI cJ cZ z0 R pl N G B) s0)) (va_A (MW cB cC cI cJ cZ z0 R pl N G B) s0)) 0 0 (va_A (MW cB cC cI cJ cZ z0 R pl N G B) s0) := by
  refine Met.ofW (cc := cX12_isDefinition) (maxL := 3) (ret := (some .boolean)) (by decide) rfl ?_
  intro p e s m args below meth c s₁ B9 hml hv
  obtain ⟨rfl, hsz, hP, hK, hD0⟩ := hv
  have hx := B9.exec
  have hb := B9.bytes
  have hr := B9.returns
  have hts := atoms_spec (ws := vX12_isDefinition) B9.pre
  have hown : s.vm.findClass RX12 = some m.cls := findClass_of_methodNamed B9.named
  have hlocks := B9.notSynchronized
  subst hsz
  have hD := hD0.self (sz := s.heap.size)
  generalize hAe : va_A (MW cB cC cI cJ cZ z0 R pl N G B) s.heap.size = A at hD ⊢
  have hA : ∀ q : Nat, s.heap.size ≤ q → A q := fun q h => by rw [← hAe]; exact Or.inr h
  have hS : va_S A s.heap s.heap [] := va_S.rf
  have hcs : 0 + 0 ≤ (0 : Nat) ∧ 0 + 0 ≤ (0 : Nat) := ⟨Nat.le_refl 0, Nat.le_refl 0⟩
  have hl := lv_entry ([.ref z0, .int (nI f), .int (nI y)]) (n := 3) (Nat.le_of_ble_eq_true rfl)
  rw [lg_entry_eq]
  generalize (lg_sl ([.ref z0, .int (nI f), .int (nI y)]) ++ List.replicate (3 - (lg_sl ([.ref z0, .int (nI f), .int (nI y)])).length) Slot.unset).toArray = ls at hl ⊢
  have hl : lv_has ls 3 [(0, .ref z0), (1, .int (nI f)), (2, .int (nI y))] := hl
  have u6 := ht9.1
  have hG2 := hG
  have g10 := hG 10 f
  have g12 := hG 12 f
  have g11 := hG 11 (CH G f 0)
  have hf8 : f < 90000 := by omega
  refine lv_aload_n hx hb dX12_isDefinition_0 rfl (lv_at hl 0 rfl) ?_
  refine mg_10 hx hb hts inX12_isDefinition hown hK hP (hts _ lkX12_isDefinition_f32) dX12_isDefinition_1 ?_
  refine lv_iload_n hx hb dX12_isDefinition_4 rfl (lv_at hl 1 rfl) ?_
  refine ml_10 hx hb hK hP (by omega) dX12_isDefinition_5 ?_
  refine lv_iconst (v := nI 2) hx hb dX12_isDefinition_6 (by decide) ?_
  refine bn_ne (tgt := 51) hx hb (by first | omega | exact Nat.lt_of_lt_of_le (hG _ _) (by decide)) (by first | omega | exact Nat.lt_of_lt_of_le (hG _ _) (by decide)) dX12_isDefinition_7 (by decide) (fun c1 => ?_) (fun c1 => ?_)
  · refine lv_iconst (v := nI 0) hx hb dX12_isDefinition_51 (by decide) ?_
    exact W.zret (v := (nI 0)) hx hb hr (by first | rfl | decide) (fun t ht hW => ⟨⟨(nI 0), (N, G, B, pl), rfl, ⟨rfl, rfl, rfl, rfl, 0, rfl, by decide⟩, by rw [ht]; exact hP, va_K.moved hW.alike hK, hD⟩, hS.F ht⟩) hS.2.2 dX12_isDefinition_52
  · refine lv_aload_n hx hb dX12_isDefinition_10 rfl (lv_at hl 0 rfl) ?_
    refine mg_12 hx hb hts inX12_isDefinition hown hK hP (hts _ lkX12_isDefinition_f38) dX12_isDefinition_11 ?_
    refine lv_iload_n hx hb dX12_isDefinition_14 rfl (lv_at hl 1 rfl) ?_
    refine ml_12 hx hb hK hP (by omega) dX12_isDefinition_15 ?_
    refine bz_le (tgt := 51) hx hb (by first | omega | exact Nat.lt_of_lt_of_le (hG _ _) (by decide)) dX12_isDefinition_16 (by decide) (fun c2 => ?_) (fun c2 => ?_)
    · refine lv_iconst (v := nI 0) hx hb dX12_isDefinition_51 (by decide) ?_
      exact W.zret (v := (nI 0)) hx hb hr (by first | rfl | decide) (fun t ht hW => ⟨⟨(nI 0), (N, G, B, pl), rfl, ⟨rfl, rfl, rfl, rfl, 0, rfl, by decide⟩, by rw [ht]; exact hP, va_K.moved hW.alike hK, hD⟩, hS.F ht⟩) hS.2.2 dX12_isDefinition_52
    · refine lv_aload_n hx hb dX12_isDefinition_19 rfl (lv_at hl 0 rfl) ?_
      refine lv_aload_n hx hb dX12_isDefinition_20 rfl (lv_at hl 0 rfl) ?_
      refine lv_iload_n hx hb dX12_isDefinition_21 rfl (lv_at hl 1 rfl) ?_
      refine lv_iconst (v := nI 0) hx hb dX12_isDefinition_22 (by decide) ?_
      obtain ⟨t_1, t_1b, t_1c, t_1d⟩ := ht9.pt (f := f) (k := 0) (hf) (c2)
      refine mcl_i (As := [.int (nI f), .int (nI 0)]) (rest := [.ref z0]) ⟨hx, hb, hml, hown, hts⟩ (m_part l dC dI cB cC cI cJ cZ z0 R pl N G B f 0 hG2 t_1d t_1 s.heap.size) (cwV 2 hts kX12_isDefinition_X12_part_192 rfl rfl rfl (by decide +kernel) ⟨Nat.le_of_ble_eq_true rfl, Nat.le_of_ble_eq_true rfl⟩) hK hP hD hS hA rfl rfl hl.1 (lv_room (Nat.le_of_ble_eq_true rfl)) dX12_isDefinition_23 hcs (fun r_6 N_2 G_3 B_4 pl_5 hw H locs hP hD hS => ?_)
      dsimp only at hw
      obtain ⟨e1, e2, e3, e4, hw⟩ := hw
      rw [e1, e2, e3, e4] at hP hD
      have hw : r_6 = nI (CH G f 0) := hw
      subst hw
      refine mcl_i (As := [.int (nI (CH G f 0))]) (rest := []) ⟨hx, hb, hml, hown, hts⟩ (m_isName l dC dI cB cC cI cJ cZ z0 R pl N G B (CH G f 0) hG2 (by omega) H.size) (cwV 1 hts kX12_isDefinition_X12_isName_180 rfl rfl rfl (by decide +kernel) ⟨Nat.le_of_ble_eq_true rfl, Nat.le_of_ble_eq_true rfl⟩) hK hP hD hS hA rfl rfl hl.1 (lv_room (Nat.le_of_ble_eq_true rfl)) dX12_isDefinition_26 hcs (fun r_12 N_8 G_9 B_10 pl_11 hw H locs hP hD hS => ?_)
      dsimp only at hw
      obtain ⟨e1, e2, e3, e4, hw⟩ := hw
      rw [e1, e2, e3, e4] at hP hD
      have hw : r_12 = nI (if G 10 (CH G f 0) = 1 then 1 else 0) := hw
      by_cases c_7 : G 10 (CH G f 0) = 1
      · rw [if_pos c_7] at hw
        subst hw
        refine bz_eq (tgt := 51) hx hb (by first | omega | exact Nat.lt_of_lt_of_le (hG _ _) (by decide)) dX12_isDefinition_29 (by decide) (fun q9 => absurd q9 (by omega)) (fun c => ?_)
        refine lv_aload_n hx hb dX12_isDefinition_32 rfl (lv_at hl 0 rfl) ?_
        refine mg_11 hx hb hts inX12_isDefinition hown hK hP (hts _ lkX12_isDefinition_f35) dX12_isDefinition_33 ?_
        refine lv_aload_n hx hb dX12_isDefinition_36 rfl (lv_at hl 0 rfl) ?_
        refine lv_iload_n hx hb dX12_isDefinition_37 rfl (lv_at hl 1 rfl) ?_
        refine lv_iconst (v := nI 0) hx hb dX12_isDefinition_38 (by decide) ?_
        obtain ⟨t_13, t_13b, t_13c, t_13d⟩ := ht9.pt (f := f) (k := 0) (hf) (c2)
        refine mcl_i (As := [.int (nI f), .int (nI 0)]) (rest := [.ref (R 11)]) ⟨hx, hb, hml, hown, hts⟩ (m_part l dC dI cB cC cI cJ cZ z0 R pl N G B f 0 hG2 t_13d t_13 H.size) (cwV 2 hts kX12_isDefinition_X12_part_192 rfl rfl rfl (by decide +kernel) ⟨Nat.le_of_ble_eq_true rfl, Nat.le_of_ble_eq_true rfl⟩) hK hP hD hS hA rfl rfl hl.1 (lv_room (Nat.le_of_ble_eq_true rfl)) dX12_isDefinition_39 hcs (fun r_18 N_14 G_15 B_16 pl_17 hw H locs hP hD hS => ?_)
        dsimp only at hw
        obtain ⟨e1, e2, e3, e4, hw⟩ := hw
        rw [e1, e2, e3, e4] at hP hD
        have hw : r_18 = nI (CH G f 0) := hw
        subst hw
        refine ml_11 hx hb hK hP (by omega) dX12_isDefinition_42 ?_
        refine lv_iload_n hx hb dX12_isDefinition_43 rfl (lv_at hl 2 rfl) ?_
        refine bn_ne (tgt := 51) hx hb (by first | omega | exact Nat.lt_of_lt_of_le (hG _ _) (by decide)) (by first | omega | exact Nat.lt_of_lt_of_le (hG _ _) (by decide)) dX12_isDefinition_44 (by decide) (fun c4 => ?_) (fun c4 => ?_)
        · refine lv_iconst (v := nI 0) hx hb dX12_isDefinition_51 (by decide) ?_
          exact W.zret (v := (nI 0)) hx hb hr (by first | rfl | decide) (fun t ht hW => ⟨⟨(nI 0), (N, G, B, pl), rfl, ⟨rfl, rfl, rfl, rfl, 0, rfl, by decide⟩, by rw [ht]; exact hP, va_K.moved hW.alike hK, hD⟩, hS.F ht⟩) hS.2.2 dX12_isDefinition_52
        · refine lv_iconst (v := nI 1) hx hb dX12_isDefinition_47 (by decide) ?_
          refine lv_goto (tgt := 52) hx hb dX12_isDefinition_48 (by decide) ?_
          exact W.zret (v := (nI 1)) hx hb hr (by first | rfl | decide) (fun t ht hW => ⟨⟨(nI 1), (N, G, B, pl), rfl, ⟨rfl, rfl, rfl, rfl, 1, rfl, by decide⟩, by rw [ht]; exact hP, va_K.moved hW.alike hK, hD⟩, hS.F ht⟩) hS.2.2 dX12_isDefinition_52
      · rw [if_neg c_7] at hw
        subst hw
        refine bz_eq (tgt := 51) hx hb (by first | omega | exact Nat.lt_of_lt_of_le (hG _ _) (by decide)) dX12_isDefinition_29 (by decide) (fun c => ?_) (fun q9 => absurd q9 (by omega))
        refine lv_iconst (v := nI 0) hx hb dX12_isDefinition_51 (by decide) ?_
        exact W.zret (v := (nI 0)) hx hb hr (by first | rfl | decide) (fun t ht hW => ⟨⟨(nI 0), (N, G, B, pl), rfl, ⟨rfl, rfl, rfl, rfl, 0, rfl, by decide⟩, by rw [ht]; exact hP, va_K.moved hW.alike hK, hD⟩, hS.F ht⟩) hS.2.2 dX12_isDefinition_52
