def oX12_turnsOf : List Cond := [Cond.fieldLink RX12 38 "MacroScopesModel" "counts" "[I", Cond.fieldLink RX12 107 "MacroScopesModel" "inner" "[I", Cond.methodLink RX12 192 yX12_part, Cond.instanceMethod yX12_part, Cond.selects RX12 yX12_part yX12_part, Cond.initialized RX12, Cond.methodLink RX12 330 yX12_isRepeated, Cond.instanceMethod yX12_isRepeated, Cond.selects RX12 yX12_isRepeated yX12_isRepeated, Cond.fieldLink RX12 113 "MacroScopesModel" "matchCount" "[I", Cond.fieldLink RX12 35 "MacroScopesModel" "values" "[I", Cond.methodLink RX12 327 yX12_variable, Cond.instanceMethod yX12_variable, Cond.selects RX12 yX12_variable yX12_variable]
def vX12_turnsOf : List Cond := .code yX12_turnsOf cX12_turnsOf 6 (some .int) :: (oX12_turnsOf ++ (vX12_part ++ (vX12_isRepeated ++ (vX12_variable ++ (wsX120)))))
theorem lkX12_turnsOf_f38 : Cond.fieldLink RX12 38 "MacroScopesModel" "counts" "[I" ∈ vX12_turnsOf := List.mem_cons_of_mem _ (List.mem_append_left _ (List.mem_of_getElem? (i := 0) rfl))
theorem lkX12_turnsOf_f107 : Cond.fieldLink RX12 107 "MacroScopesModel" "inner" "[I" ∈ vX12_turnsOf := List.mem_cons_of_mem _ (List.mem_append_left _ (List.mem_of_getElem? (i := 1) rfl))
theorem lkX12_turnsOf_f113 : Cond.fieldLink RX12 113 "MacroScopesModel" "matchCount" "[I" ∈ vX12_turnsOf := List.mem_cons_of_mem _ (List.mem_append_left _ (List.mem_of_getElem? (i := 9) rfl))
theorem lkX12_turnsOf_f35 : Cond.fieldLink RX12 35 "MacroScopesModel" "values" "[I" ∈ vX12_turnsOf := List.mem_cons_of_mem _ (List.mem_append_left _ (List.mem_of_getElem? (i := 10) rfl))
theorem inX12_turnsOf : ∀ w ∈ wsX120, w ∈ vX12_turnsOf := fun w h => List.mem_cons_of_mem _ (List.mem_append_right _ (List.mem_append_right _ (List.mem_append_right _ (List.mem_append_right _ (h)))))
theorem kX12_turnsOf_X12_part_192 : GoodIn vX12_turnsOf (wsV RX12 192 RX12 yX12_part vX12_part) := goodIn_sub (fun w h => (List.mem_append.mp h).elim (fun h => List.mem_cons_of_mem _ (List.mem_append_left _ ((by decide +kernel : ∀ w ∈ ([.methodLink RX12 192 yX12_part, .instanceMethod yX12_part, .selects RX12 yX12_part yX12_part, .initialized RX12] : List Cond), w ∈ oX12_turnsOf) w h))) (fun h => List.mem_cons_of_mem _ (List.mem_append_right _ (List.mem_append_left _ (h))))) (by decide +kernel)
theorem kX12_turnsOf_X12_isRepeated_330 : GoodIn vX12_turnsOf (wsV RX12 330 RX12 yX12_isRepeated vX12_isRepeated) := goodIn_sub (fun w h => (List.mem_append.mp h).elim (fun h => List.mem_cons_of_mem _ (List.mem_append_left _ ((by decide +kernel : ∀ w ∈ ([.methodLink RX12 330 yX12_isRepeated, .instanceMethod yX12_isRepeated, .selects RX12 yX12_isRepeated yX12_isRepeated, .initialized RX12] : List Cond), w ∈ oX12_turnsOf) w h))) (fun h => List.mem_cons_of_mem _ (List.mem_append_right _ (List.mem_append_right _ (List.mem_append_left _ (h)))))) (by decide +kernel)
theorem kX12_turnsOf_X12_variable_327 : GoodIn vX12_turnsOf (wsV RX12 327 RX12 yX12_variable vX12_variable) := goodIn_sub (fun w h => (List.mem_append.mp h).elim (fun h => List.mem_cons_of_mem _ (List.mem_append_left _ ((by decide +kernel : ∀ w ∈ ([.methodLink RX12 327 yX12_variable, .instanceMethod yX12_variable, .selects RX12 yX12_variable yX12_variable, .initialized RX12] : List Cond), w ∈ oX12_turnsOf) w h))) (fun h => List.mem_cons_of_mem _ (List.mem_append_right _ (List.mem_append_right _ (List.mem_append_right _ (List.mem_append_left _ (h))))))) (by decide +kernel)
set_option maxHeartbeats 4000000 in
set_option maxRecDepth 100000 in
theorem lp_turns1 {p : Program} {l : Launch} {e : Env} {s : State} {m : MethodId} {args : Array Value} {below : List Frame} {meth : Method} {c : Code} {Q : State → Prop} {A : Nat → Prop} {dC : Nat → ClassId} {dI : Nat → Nat → Nat} {cB cC cI cJ cZ : ClassId} {z0 : Nat} {R : Nat → Nat} (hx : p.tables.exec = Jvm.exec) (hb : c.code = cX12_turnsOf) (hml : c.maxLocals = 6) (hown : s.vm.findClass RX12 = some m.cls) (hts : ∀ w ∈ vX12_turnsOf, w.before args s = true) (hK : va_K (dC, dI) vwCl (TY cB cC cI cJ cZ) s) (hA : ∀ q : Nat, s.heap.size ≤ q → A q) {pl : Int32} {N : Nat → Nat} {G : Nat → Nat → Nat} {B : Nat → Nat → Int32} {sz : Nat → Nat} (hG : ∀ k i, G k i < 1048576) (ht9 : TREE N G sz) (n0 a0 bs : Nat) (I0 : Nat → Nat) (ha0 : a0 < N 14) (hbs : bs + sz a0 ≤ 3001) (q : Nat) (kk : ∀ (I : Nat → Nat) (H : Heap) (locs : List Loc), (∀ i, I i < 1048576) → (∀ i, i < n0 + G 12 a0 → I i < N 14) → sumC sz I (n0 + G 12 a0) = bs + sumC sz (CH G a0) (G 12 a0) → PUSHED G n0 a0 (G 12 a0) I0 I → va_P (dC, dI) vwCl (MW cB cC cI cJ cZ z0 R pl N (va_up G 54 I) B) H → va_D A (MW cB cC cI cJ cZ z0 R pl N (va_up G 54 I) B) → va_S A s.heap H locs → ∀ (ls : Array Slot), lv_has ls 6 [(0, .ref z0), (2, .int (nI (n0 + G 12 a0))), (3, .int (nI q - 2))] → W p l e (headSpec vX12_turnsOf { frames := 2, cells := 0, slots := 0, locals := 45 }).room s m args below meth c H locs 0 0 Q (F0 m 110 ls [])) : ∀ (k : Nat) (j : Nat) (I : Nat → Nat), j ≤ G 12 a0 → G 12 a0 + 1 ≤ j + k → (∀ i, I i < 1048576) → (∀ i, i < n0 + j → I i < N 14) → sumC sz I (n0 + j) = bs + sumC sz (CH G a0) j → PUSHED G n0 a0 j I0 I → ∀ (H : Heap) (locs : List Loc), va_P (dC, dI) vwCl (MW cB cC cI cJ cZ z0 R pl N (va_up G 54 I) B) H → va_D A (MW cB cC cI cJ cZ z0 R pl N (va_up G 54 I) B) → va_S A s.heap H locs → ∀ (ls : Array Slot), lv_has ls 6 [(0, .ref z0), (2, .int (nI (n0 + j))), (4, .int (nI a0)), (5, .int (nI j)), (3, .int (nI q - 2))] → W p l e (headSpec vX12_turnsOf { frames := 2, cells := 0, slots := 0, locals := 45 }).room s m args below meth c H locs 0 0 Q (F0 m 75 ls []) := by
  have hcs : 0 + 0 ≤ (0 : Nat) ∧ 0 + 0 ≤ (0 : Nat) := ⟨Nat.le_refl 0, Nat.le_refl 0⟩
  intro k
  induction k with
  | zero =>
    intro j I hj hk hI hlow hsum hpu
    omega
  | succ k ih =>
    intro j I hj hk hI hlow hsum hpu H locs hP hD hS ls hl
    have g1 := hG 12 a0
    obtain ⟨u1, u2, u3, u4, u5⟩ := ht9.2 a0 ha0
    have u6 := ht9.1
    have u7 := sumC_len (sz := sz) (c := I) (n0 + j) (fun i hi => ht9.one (hlow i hi))
    refine lv_iload hx hb dX12_turnsOf_75 (lv_at hl 3 rfl) ?_
    refine lv_aload_n hx hb dX12_turnsOf_77 rfl (lv_at hl 0 rfl) ?_
    refine mg_12 hx hb hts inX12_turnsOf hown hK hP (hts _ lkX12_turnsOf_f38) dX12_turnsOf_78 ?_
    refine lv_iload hx hb dX12_turnsOf_81 (lv_at hl 2 rfl) ?_
    refine ml_12 hx hb hK hP (by omega) dX12_turnsOf_83 ?_
    refine tp_i (y := nI (G 12 a0)) rfl ?_
    refine bn_ge (tgt := 110) hx hb (by omega) (by omega) dX12_turnsOf_84 (by decide) (fun c1 => ?_) (fun c1 => ?_)
    · have e9 : j = G 12 a0 := by omega
      subst e9
      exact kk I H locs hI hlow hsum hpu hP hD hS ls (lv_sub hl [0, 1, 4] rfl)
    · obtain ⟨t1, t2⟩ := u3 j c1
      have t5 : sumC sz (CH G a0) j ≤ sumC sz (CH G a0) (G 12 a0) := sumC_mono _ _ _ _ (by omega)
      refine lv_aload_n hx hb dX12_turnsOf_87 rfl (lv_at hl 0 rfl) ?_
      refine mg_54 hx hb hts inX12_turnsOf hown hK hP (hts _ lkX12_turnsOf_f107) dX12_turnsOf_88 ?_
      refine lv_iload_n hx hb dX12_turnsOf_91 rfl (lv_at hl 1 rfl) ?_
      refine lv_aload_n hx hb dX12_turnsOf_92 rfl (lv_at hl 0 rfl) ?_
      refine lv_iload hx hb dX12_turnsOf_93 (lv_at hl 2 rfl) ?_
      refine lv_iload hx hb dX12_turnsOf_95 (lv_at hl 3 rfl) ?_
      refine mcl_i (As := [.int (nI a0), .int (nI j)]) (rest := [.int (nI (n0 + j)), .ref (R 54)]) ⟨hx, hb, hml, hown, hts⟩ (m_part l dC dI cB cC cI cJ cZ z0 R pl N (va_up G 54 I) B a0 j (hGup hG hI) (by omega) t1 H.size) (cwV 2 hts kX12_turnsOf_X12_part_192 rfl rfl rfl (by decide +kernel) ⟨Nat.le_of_ble_eq_true rfl, Nat.le_of_ble_eq_true rfl⟩) hK hP hD hS hA rfl rfl hl.1 (lv_room (Nat.le_of_ble_eq_true rfl)) dX12_turnsOf_97 hcs (fun r_5 N_1 G_2 B_3 pl_4 hw H locs hP hD hS => ?_)
      dsimp only at hw
      obtain ⟨e1, e2, e3, e4, hw⟩ := hw
      rw [e1, e2, e3, e4] at hP hD
      have hw : r_5 = nI (CH G a0 j) := hw
      subst hw
      refine ms_54 hx hb hK hP hD hS (by omega) dX12_turnsOf_100 (fun H locs hP hD hS => ?_)
      rw [bx_uu] at hP hD
      refine lv_iinc (v := nI ((n0 + j) + 1)) (lv' := [(2, .int (nI ((n0 + j) + 1))), (0, .ref z0), (4, .int (nI a0)), (5, .int (nI j)), (3, .int (nI q - 2))]) hx hb dX12_turnsOf_101 hl (k := 1) rfl (nI_add (n0 + j) 1) (by decide) rfl (fun ls hl => ?_)
      refine lv_iinc (v := nI (j + 1)) (lv' := [(5, .int (nI (j + 1))), (2, .int (nI ((n0 + j) + 1))), (0, .ref z0), (4, .int (nI a0)), (3, .int (nI q - 2))]) hx hb dX12_turnsOf_104 hl (k := 3) rfl (nI_add j 1) (by decide) rfl (fun ls hl => ?_)
      refine lv_goto (tgt := 75) hx hb dX12_turnsOf_107 (by decide) ?_
      exact ih (j + 1) (va_up I (n0 + j) (CH G a0 j)) (by omega) (by omega) (hIup hI (by omega)) (ltup (j := n0 + j) hlow t2) (by rw [show n0 + (j + 1) = n0 + j + 1 from rfl, sumC_push, hsum, sumC]; omega) (PUSHED.step hpu) _ _ hP hD hS ls (lv_sub hl [2, 1, 3, 0, 4] rfl)

set_option maxHeartbeats 4000000 in
set_option maxRecDepth 100000 in
theorem lp_turns2 {p : Program} {l : Launch} {e : Env} {s : State} {m : MethodId} {args : Array Value} {below : List Frame} {meth : Method} {c : Code} {Q : State → Prop} {A : Nat → Prop} {dC : Nat → ClassId} {dI : Nat → Nat → Nat} {cB cC cI cJ cZ : ClassId} {z0 : Nat} {R : Nat → Nat} (hx : p.tables.exec = Jvm.exec) (hb : c.code = cX12_turnsOf) (hml : c.maxLocals = 6) (hown : s.vm.findClass RX12 = some m.cls) (hts : ∀ w ∈ vX12_turnsOf, w.before args s = true) (hK : va_K (dC, dI) vwCl (TY cB cC cI cJ cZ) s) (hA : ∀ q : Nat, s.heap.size ≤ q → A q) {pl : Int32} {N : Nat → Nat} {G : Nat → Nat → Nat} {B : Nat → Nat → Int32} {sz : Nat → Nat} (hG : ∀ k i, G k i < 1048576) (ht9 : TREE N G sz) (hN : N 49 ≤ 1600) (f : Nat) (kk : ∀ (q : Nat) (I : Nat → Nat) (H : Heap) (locs : List Loc), (∀ i, I i < 1048576) → q < 1048580 → TOI N G sz f q 0 I → TOJ N G sz f q 0 I → va_P (dC, dI) vwCl (MW cB cC cI cJ cZ z0 R pl N (va_up G 54 I) B) H → va_D A (MW cB cC cI cJ cZ z0 R pl N (va_up G 54 I) B) → va_S A s.heap H locs → ∀ (ls : Array Slot), lv_has ls 6 [(3, .int (nI q - 2))] → W p l e (headSpec vX12_turnsOf { frames := 2, cells := 0, slots := 0, locals := 45 }).room s m args below meth c H locs 0 0 Q (F0 m 113 ls [])) : ∀ (k : Nat) (n q : Nat) (I : Nat → Nat), sumC sz I n < k → (∀ i, I i < 1048576) → (∀ i, i < n → I i < N 14) → sumC sz I n ≤ 3001 → q < 1048580 → TOI N G sz f q n I → TOJ N G sz f q n I → ∀ (H : Heap) (locs : List Loc), va_P (dC, dI) vwCl (MW cB cC cI cJ cZ z0 R pl N (va_up G 54 I) B) H → va_D A (MW cB cC cI cJ cZ z0 R pl N (va_up G 54 I) B) → va_S A s.heap H locs → ∀ (ls : Array Slot), lv_has ls 6 [(0, .ref z0), (2, .int (nI n)), (3, .int (nI q - 2))] → W p l e (headSpec vX12_turnsOf { frames := 2, cells := 0, slots := 0, locals := 45 }).room s m args below meth c H locs 0 0 Q (F0 m 11 ls []) := by
  have hcs : 0 + 0 ≤ (0 : Nat) ∧ 0 + 0 ≤ (0 : Nat) := ⟨Nat.le_refl 0, Nat.le_refl 0⟩
  intro k
  induction k with
  | zero =>
    intro n q I hk hI hlow hsum hq hto htj
    omega
  | succ k ih =>
    intro n q I hk hI hlow hsum hq hto htj H locs hP hD hS ls hl
    have u6 := ht9.1
    have u7 := sumC_len (sz := sz) (c := I) n (fun i hi => ht9.one (hlow i hi))
    have hG2 := hGup (q := 54) hG hI
    refine lv_iload_n hx hb dX12_turnsOf_11 rfl (lv_at hl 1 rfl) ?_
    refine bz_le (tgt := 113) hx hb (by omega) dX12_turnsOf_12 (by decide) (fun c1 => ?_) (fun c1 => ?_)
    · subst c1
      exact kk q I H locs hI hq hto htj hP hD hS ls (lv_sub hl [2] rfl)
    · obtain ⟨n1, rfl⟩ : ∃ n1, n = n1 + 1 := ⟨n - 1, by omega⟩
      have t1 := hlow n1 (by omega)
      obtain ⟨w1, w2, w3, w4, w5⟩ := ht9.2 (I n1) t1
      rw [sumC] at hsum hk u7
      refine lv_iinc (v := nI ((n1 + 1) - 1)) (lv' := [(2, .int (nI ((n1 + 1) - 1))), (0, .ref z0), (3, .int (nI q - 2))]) hx hb dX12_turnsOf_15 hl (k := 1) rfl (sb_m1 (by omega)) (by decide) rfl (fun ls hl => ?_)
      have hl : lv_has ls 6 [(2, .int (nI n1)), (0, .ref z0), (3, .int (nI q - 2))] := hl
      refine lv_aload_n hx hb dX12_turnsOf_18 rfl (lv_at hl 1 rfl) ?_
      refine mg_54 hx hb hts inX12_turnsOf hown hK hP (hts _ lkX12_turnsOf_f107) dX12_turnsOf_19 ?_
      refine lv_iload_n hx hb dX12_turnsOf_22 rfl (lv_at hl 0 rfl) ?_
      refine ml_54 hx hb hK hP (by omega) dX12_turnsOf_23 ?_
      refine tp_i (y := nI (I n1)) rfl ?_
      refine lv_istore (lv' := [(4, .int (nI (I n1))), (2, .int (nI n1)), (0, .ref z0), (3, .int (nI q - 2))]) hx hb dX12_turnsOf_24 hl (by decide) rfl (fun ls hl => ?_)
      refine lv_aload_n hx hb dX12_turnsOf_26 rfl (lv_at hl 2 rfl) ?_
      refine lv_iload hx hb dX12_turnsOf_27 (lv_at hl 0 rfl) ?_
      refine mcl_i (As := [.int (nI (I n1))]) (rest := []) ⟨hx, hb, hml, hown, hts⟩ (m_isRepeated l dC dI cB cC cI cJ cZ z0 R pl N (va_up G 54 I) B (I n1) hG2 hN (by omega) H.size) (cwV 1 hts kX12_turnsOf_X12_isRepeated_330 rfl rfl rfl (by decide +kernel) ⟨Nat.le_of_ble_eq_true rfl, Nat.le_of_ble_eq_true rfl⟩) hK hP hD hS hA rfl rfl hl.1 (lv_room (Nat.le_of_ble_eq_true rfl)) dX12_turnsOf_29 hcs (fun r_5 N_1 G_2 B_3 pl_4 hw H locs hP hD hS => ?_)
      dsimp only at hw
      obtain ⟨e1, e2, e3, e4, hw⟩ := hw
      rw [e1, e2, e3, e4] at hP hD
      have hw : r_5 = nI (if REP N G (I n1) then 1 else 0) := hw
      by_cases c2 : REP N G (I n1)
      · rw [if_pos c2] at hw
        subst hw
        refine bz_eq (tgt := 72) hx hb (by omega) dX12_turnsOf_32 (by decide) (fun q9 => absurd q9 (by omega)) (fun c => ?_)
        refine lv_aload_n hx hb dX12_turnsOf_35 rfl (lv_at hl 2 rfl) ?_
        refine mg_56 hx hb hts inX12_turnsOf hown hK hP (hts _ lkX12_turnsOf_f113) dX12_turnsOf_36 ?_
        refine lv_aload_n hx hb dX12_turnsOf_39 rfl (lv_at hl 2 rfl) ?_
        refine lv_aload_n hx hb dX12_turnsOf_40 rfl (lv_at hl 2 rfl) ?_
        refine mg_11 hx hb hts inX12_turnsOf hown hK hP (hts _ lkX12_turnsOf_f35) dX12_turnsOf_41 ?_
        refine lv_iload hx hb dX12_turnsOf_44 (lv_at hl 0 rfl) ?_
        refine ml_11 hx hb hK hP (by omega) dX12_turnsOf_46 ?_
        refine tp_i (y := nI (G 11 (I n1))) rfl ?_
        refine mcl_i (As := [.int (nI (G 11 (I n1)))]) (rest := [.ref (R 56)]) ⟨hx, hb, hml, hown, hts⟩ (m_variable l dC dI cB cC cI cJ cZ z0 R pl N (va_up G 54 I) B (G 11 (I n1)) hG2 hN (hG 11 (I n1)) H.size) (cwV 1 hts kX12_turnsOf_X12_variable_327 rfl rfl rfl (by decide +kernel) ⟨Nat.le_of_ble_eq_true rfl, Nat.le_of_ble_eq_true rfl⟩) hK hP hD hS hA rfl rfl hl.1 (lv_room (Nat.le_of_ble_eq_true rfl)) dX12_turnsOf_47 hcs (fun r_10 N_6 G_7 B_8 pl_9 hw H locs hP hD hS => ?_)
        dsimp only at hw
        obtain ⟨e1, e2, e3, e4, hw⟩ := hw
        rw [e1, e2, e3, e4] at hP hD
        have hw : r_10 = nI (VAR N G (G 11 (I n1))) - 1 := hw
        subst hw
        have v1 : VAR N G (G 11 (I n1)) ≤ N 49 := varF_le (G 47) (G 11 (I n1)) (N 49)
        refine tp_i (om1 (c2.2.1)) ?_
        have g5 := hG 56 (VAR N G (G 11 (I n1)) - 1)
        refine ml_56 hx hb hK hP (by omega) dX12_turnsOf_50 ?_
        refine tp_i (y := nI (G 56 ((VAR N G (G 11 (I n1))) - 1))) rfl ?_
        refine lv_istore (lv' := [(5, .int (nI (G 56 ((VAR N G (G 11 (I n1))) - 1)))), (4, .int (nI (I n1))), (2, .int (nI n1)), (0, .ref z0), (3, .int (nI q - 2))]) hx hb dX12_turnsOf_51 hl (by decide) rfl (fun ls hl => ?_)
        refine lv_iload_n hx hb dX12_turnsOf_53 rfl (lv_at hl 4 rfl) ?_
        refine lv_iconst (v := nI 0 - 1) hx hb dX12_turnsOf_54 (by decide) ?_
        refine lv_icmp_eq (tgt := 64) hx hb dX12_turnsOf_55 (by decide) (fun c3 => ?_) (fun c3 => ?_)
        · have c3 := (p1_eq (by omega)).mp c3
          refine lv_iload hx hb dX12_turnsOf_64 (lv_at hl 0 rfl) ?_
          refine tp_i (y := nI (G 56 (VAR N G (G 11 (I n1)) - 1) + 2) - 2) ((p2_eq (by omega) (by omega)).mpr rfl).symm ?_
          refine lv_goto (tgt := 71) hx hb dX12_turnsOf_66 (by decide) ?_
          refine lv_istore_n (lv' := [(3, .int (nI (G 56 (VAR N G (G 11 (I n1)) - 1) + 2) - 2)), (5, .int (nI (G 56 ((VAR N G (G 11 (I n1))) - 1)))), (4, .int (nI (I n1))), (2, .int (nI n1)), (0, .ref z0)]) hx hb dX12_turnsOf_71 rfl hl (by decide) rfl (fun ls hl => ?_)
          refine lv_iconst (v := nI 0) hx hb dX12_turnsOf_72 (by decide) ?_
          refine lv_istore (lv' := [(5, .int (nI 0)), (3, .int (nI (G 56 (VAR N G (G 11 (I n1)) - 1) + 2) - 2)), (4, .int (nI (I n1))), (2, .int (nI n1)), (0, .ref z0)]) hx hb dX12_turnsOf_73 hl (by decide) rfl (fun ls hl => ?_)
          refine lp_turns1 hx hb hml hown hts hK hA hG ht9 n1 (I n1) (sumC sz I n1) I t1 (by omega) (G 56 (VAR N G (G 11 (I n1)) - 1) + 2) (fun I2 H locs hI2 hlow2 hsum2 hpu2 hP hD hS ls hl => ?_) (G 12 (I n1) + 1) 0 I (by omega) (by omega) hI (fun i hi => hlow i (by omega)) rfl ⟨fun _ _ => rfl, fun k hk => absurd hk (Nat.not_lt_zero k)⟩ _ _ hP hD hS ls (lv_sub hl [4, 3, 2, 0, 1] rfl)
          refine lv_goto (tgt := 11) hx hb dX12_turnsOf_110 (by decide) ?_
          exact ih _ (G 56 (VAR N G (G 11 (I n1)) - 1) + 2) I2 (by omega) hI2 hlow2 (by omega) (by omega) (TOI.pop ht9 hto t1 hpu2 (fun h => absurd h (by omega)) (fun h => by omega) (fun _ => Or.inr rfl)) (TOJ.pop ht9 htj t1 hpu2 (Or.inr ⟨c2, Or.inl rfl⟩)) _ _ hP hD hS ls (lv_sub hl [0, 1, 2] rfl)
        · have c3 : q ≠ 1 := fun z => c3 ((p1_eq (by omega)).mpr z)
          refine lv_iload_n hx hb dX12_turnsOf_58 rfl (lv_at hl 4 rfl) ?_
          refine lv_iload hx hb dX12_turnsOf_59 (lv_at hl 0 rfl) ?_
          refine lv_icmp_ne (tgt := 69) hx hb dX12_turnsOf_61 (by decide) (fun c4 => ?_) (fun c4 => ?_)
          · have c4 : q ≠ G 56 (VAR N G (G 11 (I n1)) - 1) + 2 := fun z => c4 ((p2_eq (by omega) (by omega)).mpr z)
            refine lv_bipush (v := nI 0 - 2) hx hb dX12_turnsOf_69 (by decide) ?_
            refine lv_istore_n (lv' := [(3, .int (nI 0 - 2)), (5, .int (nI (G 56 ((VAR N G (G 11 (I n1))) - 1)))), (4, .int (nI (I n1))), (2, .int (nI n1)), (0, .ref z0)]) hx hb dX12_turnsOf_71 rfl hl (by decide) rfl (fun ls hl => ?_)
            refine lv_iconst (v := nI 0) hx hb dX12_turnsOf_72 (by decide) ?_
            refine lv_istore (lv' := [(5, .int (nI 0)), (3, .int (nI 0 - 2)), (4, .int (nI (I n1))), (2, .int (nI n1)), (0, .ref z0)]) hx hb dX12_turnsOf_73 hl (by decide) rfl (fun ls hl => ?_)
            refine lp_turns1 hx hb hml hown hts hK hA hG ht9 n1 (I n1) (sumC sz I n1) I t1 (by omega) 0 (fun I2 H locs hI2 hlow2 hsum2 hpu2 hP hD hS ls hl => ?_) (G 12 (I n1) + 1) 0 I (by omega) (by omega) hI (fun i hi => hlow i (by omega)) rfl ⟨fun _ _ => rfl, fun k hk => absurd hk (Nat.not_lt_zero k)⟩ _ _ hP hD hS ls (lv_sub hl [4, 3, 2, 0, 1] rfl)
            refine lv_goto (tgt := 11) hx hb dX12_turnsOf_110 (by decide) ?_
            exact ih _ (0) I2 (by omega) hI2 hlow2 (by omega) (by decide) (TOI.pop ht9 hto t1 hpu2 (fun _ => rfl) (fun _ => Or.inl rfl) (fun _ => Or.inl rfl)) (TOJ.pop ht9 htj t1 hpu2 (Or.inr ⟨c2, Or.inr ⟨rfl, c3, c4⟩⟩)) _ _ hP hD hS ls (lv_sub hl [0, 1, 2] rfl)
          · have c4 := (p2_eq (by omega) (by omega)).mp c4
            refine lv_iload hx hb dX12_turnsOf_64 (lv_at hl 0 rfl) ?_
            refine tp_i (y := nI (G 56 (VAR N G (G 11 (I n1)) - 1) + 2) - 2) ((p2_eq (by omega) (by omega)).mpr rfl).symm ?_
            refine lv_goto (tgt := 71) hx hb dX12_turnsOf_66 (by decide) ?_
            refine lv_istore_n (lv' := [(3, .int (nI (G 56 (VAR N G (G 11 (I n1)) - 1) + 2) - 2)), (5, .int (nI (G 56 ((VAR N G (G 11 (I n1))) - 1)))), (4, .int (nI (I n1))), (2, .int (nI n1)), (0, .ref z0)]) hx hb dX12_turnsOf_71 rfl hl (by decide) rfl (fun ls hl => ?_)
            refine lv_iconst (v := nI 0) hx hb dX12_turnsOf_72 (by decide) ?_
            refine lv_istore (lv' := [(5, .int (nI 0)), (3, .int (nI (G 56 (VAR N G (G 11 (I n1)) - 1) + 2) - 2)), (4, .int (nI (I n1))), (2, .int (nI n1)), (0, .ref z0)]) hx hb dX12_turnsOf_73 hl (by decide) rfl (fun ls hl => ?_)
            refine lp_turns1 hx hb hml hown hts hK hA hG ht9 n1 (I n1) (sumC sz I n1) I t1 (by omega) (G 56 (VAR N G (G 11 (I n1)) - 1) + 2) (fun I2 H locs hI2 hlow2 hsum2 hpu2 hP hD hS ls hl => ?_) (G 12 (I n1) + 1) 0 I (by omega) (by omega) hI (fun i hi => hlow i (by omega)) rfl ⟨fun _ _ => rfl, fun k hk => absurd hk (Nat.not_lt_zero k)⟩ _ _ hP hD hS ls (lv_sub hl [4, 3, 2, 0, 1] rfl)
            refine lv_goto (tgt := 11) hx hb dX12_turnsOf_110 (by decide) ?_
            exact ih _ (G 56 (VAR N G (G 11 (I n1)) - 1) + 2) I2 (by omega) hI2 hlow2 (by omega) (by omega) (TOI.pop ht9 hto t1 hpu2 (fun h => absurd h (by omega)) (fun h => by omega) (fun _ => Or.inr rfl)) (TOJ.pop ht9 htj t1 hpu2 (Or.inr ⟨c2, Or.inl rfl⟩)) _ _ hP hD hS ls (lv_sub hl [0, 1, 2] rfl)
      · rw [if_neg c2] at hw
        subst hw
        refine bz_eq (tgt := 72) hx hb (by omega) dX12_turnsOf_32 (by decide) (fun c => ?_) (fun q9 => absurd q9 (by omega))
        refine lv_iconst (v := nI 0) hx hb dX12_turnsOf_72 (by decide) ?_
        refine lv_istore (lv' := [(5, .int (nI 0)), (4, .int (nI (I n1))), (2, .int (nI n1)), (0, .ref z0), (3, .int (nI q - 2))]) hx hb dX12_turnsOf_73 hl (by decide) rfl (fun ls hl => ?_)
        refine lp_turns1 hx hb hml hown hts hK hA hG ht9 n1 (I n1) (sumC sz I n1) I t1 (by omega) q (fun I2 H locs hI2 hlow2 hsum2 hpu2 hP hD hS ls hl => ?_) (G 12 (I n1) + 1) 0 I (by omega) (by omega) hI (fun i hi => hlow i (by omega)) rfl ⟨fun _ _ => rfl, fun k hk => absurd hk (Nat.not_lt_zero k)⟩ _ _ hP hD hS ls (lv_sub hl [3, 2, 1, 0, 4] rfl)
        refine lv_goto (tgt := 11) hx hb dX12_turnsOf_110 (by decide) ?_
        exact ih _ (q) I2 (by omega) hI2 hlow2 (by omega) (hq) (TOI.pop ht9 hto t1 hpu2 (fun h => h) (fun _ => Or.inr rfl) (fun h => absurd h c2)) (TOJ.pop ht9 htj t1 hpu2 (Or.inl rfl)) _ _ hP hD hS ls (lv_sub hl [0, 1, 2] rfl)

set_option maxHeartbeats 4000000 in
set_option maxRecDepth 100000 in
/-- turnsOf -/
theorem m_turnsOf (l : Launch) (dC : Nat → ClassId) (dI : Nat → Nat → Nat) (cB cC cI cJ cZ : ClassId) (z0 : Nat) (R : Nat → Nat) (pl : Int32) (N : Nat → Nat) (G : Nat → Nat → Nat) (B : Nat → Nat → Int32) (f : Nat) (sz : Nat → Nat) (hG : ∀ k i, G k i < 1048576) (ht9 : TREE N G sz) (hN : N 49 ≤ 1600) (hf : f < N 14) (s0 : Nat) : Met l yX12_turnsOf vX12_turnsOf { frames := 2, cells := 0, slots := 0, locals := 45 } (va_Pc [.ref z0, .int (nI f)] (mPre dC dI cB cC cI cJ cZ z0 R pl N G B s0)) (va_Qi (fun (r : Int32) (u : ((Nat → Nat) × (Nat → Nat → Nat) × (Nat → Nat → Int32) × Int32)) => match u with | (N1, G1, B1, pl1) => N1 = N ∧ (∃ I, (∀ i, I i < 1048576) ∧ G1 = va_up G 54 I) ∧ B1 = B ∧ pl1 = pl ∧ ∃ q, q < 1048580 ∧ r = nI q - 2 ∧ q - 2 = TRN N G sz f) (mPost dC dI cB cC cI cJ cZ z0 R (va_A (MW cB cC cI cJ cZ z0 R pl N G B) s0)) (va_A (MW cB cC cI cJ cZ z0 R pl N G B) s0)) 0 0 (va_A (MW cB cC cI cJ cZ z0 R pl N G B) s0) := by
  refine Met.ofW (cc := cX12_turnsOf) (maxL := 6) (ret := (some .int)) (by decide) rfl ?_
  intro p e s m args below meth c s₁ B9 hml hv
  obtain ⟨rfl, hsz, hP, hK, hD0⟩ := hv
  have hx := B9.exec
  have hb := B9.bytes
  have hr := B9.returns
  have hts := atoms_spec (ws := vX12_turnsOf) B9.pre
  have hown : s.vm.findClass RX12 = some m.cls := findClass_of_methodNamed B9.named
  have hlocks := B9.notSynchronized
  subst hsz
  have hD := hD0.self (sz := s.heap.size)
  generalize hAe : va_A (MW cB cC cI cJ cZ z0 R pl N G B) s.heap.size = A at hD ⊢
  have hA : ∀ q : Nat, s.heap.size ≤ q → A q := fun q h => by rw [← hAe]; exact Or.inr h
  have hS : va_S A s.heap s.heap [] := va_S.rf
  have hcs : 0 + 0 ≤ (0 : Nat) ∧ 0 + 0 ≤ (0 : Nat) := ⟨Nat.le_refl 0, Nat.le_refl 0⟩
  have hl := lv_entry ([.ref z0, .int (nI f)]) (n := 6) (Nat.le_of_ble_eq_true rfl)
  rw [lg_entry_eq]
  generalize (lg_sl ([.ref z0, .int (nI f)]) ++ List.replicate (6 - (lg_sl ([.ref z0, .int (nI f)])).length) Slot.unset).toArray = ls at hl ⊢
  have hl : lv_has ls 6 [(0, .ref z0), (1, .int (nI f))] := hl
  obtain ⟨u1, u2, u3, u4, u5⟩ := ht9.2 f hf
  have u6 := ht9.1
  refine lv_iconst (v := nI 1) hx hb dX12_turnsOf_0 (by decide) ?_
  refine lv_istore_n (lv' := [(2, .int (nI 1)), (0, .ref z0), (1, .int (nI f))]) hx hb dX12_turnsOf_1 rfl hl (by decide) rfl (fun ls hl => ?_)
  refine lv_aload_n hx hb dX12_turnsOf_2 rfl (lv_at hl 1 rfl) ?_
  refine mg_54 hx hb hts inX12_turnsOf hown hK hP (hts _ lkX12_turnsOf_f107) dX12_turnsOf_3 ?_
  refine lv_iconst (v := nI 0) hx hb dX12_turnsOf_6 (by decide) ?_
  refine lv_iload_n hx hb dX12_turnsOf_7 rfl (lv_at hl 2 rfl) ?_
  refine ms_54 hx hb hK hP hD hS (by omega) dX12_turnsOf_8 (fun H locs hP hD hS => ?_)
  refine lv_iconst (v := nI 1 - 2) hx hb dX12_turnsOf_9 (by decide) ?_
  refine lv_istore_n (lv' := [(3, .int (nI 1 - 2)), (2, .int (nI 1)), (0, .ref z0), (1, .int (nI f))]) hx hb dX12_turnsOf_10 rfl hl (by decide) rfl (fun ls hl => ?_)
  have hto : TOI N G sz f 1 1 (va_up (G 54) 0 f) := fun x hx _ _ => Or.inr (Or.inr ⟨0, by decide, by rw [va_up_self]; exact hx⟩)
  have htj : TOJ N G sz f 1 1 (va_up (G 54) 0 f) := ⟨fun i hi x hx => by rw [show i = 0 by omega, va_up_self] at hx; exact hx, fun z => absurd z (by decide), fun z => absurd z (by decide)⟩
  refine lp_turns2 hx hb hml hown hts hK hA hG ht9 hN f (fun q I H locs hI hq hto htj hP hD hS ls hl => ?_) _ 1 1 (va_up (G 54) 0 f) (Nat.lt_succ_self _) (hIup (hG 54) (by omega)) (ltup (j := 0) (fun i hi => absurd hi (Nat.not_lt_zero i)) hf) (by rw [sumC_push, sumC]; omega) (by decide) hto htj _ _ hP hD hS ls (lv_sub hl [2, 1, 0] rfl)
  refine lv_iload_n hx hb dX12_turnsOf_113 rfl (lv_at hl 0 rfl) ?_
  exact W.iret (v := (nI q - 2)) hx hb hr (fun t ht hW => ⟨⟨(nI q - 2), (N, va_up G 54 I, B, pl), rfl, ⟨rfl, ⟨I, hI, rfl⟩, rfl, rfl, q, hq, rfl, TRN_of (fun x h1 h2 h3 => (hto x h1 h2 h3).imp id (fun z => z.elim id (fun y => absurd y.choose_spec.1 (Nat.not_lt_zero _)))) htj.2⟩, by rw [ht]; exact hP, va_K.moved hW.alike hK, hD⟩, hS.F ht⟩) hS.2.2 dX12_turnsOf_114
