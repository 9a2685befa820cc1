def oX12_nested : List Cond := [Cond.fieldLink RX12 38 "MacroScopesModel" "counts" "[I", Cond.methodLink RX12 192 yX12_part, Cond.instanceMethod yX12_part, Cond.selects RX12 yX12_part yX12_part, Cond.initialized RX12, Cond.fieldLink RX12 101 "MacroScopesModel" "lookHow" "[I", Cond.methodLink RX12 318 yX12_lookAt, Cond.instanceMethod yX12_lookAt, Cond.selects RX12 yX12_lookAt yX12_lookAt, Cond.fieldLink RX12 306 "MacroScopesModel" "looks" "I", Cond.fieldLink RX12 98 "MacroScopesModel" "look" "[I", Cond.fieldLink RX12 32 "MacroScopesModel" "kinds" "[B"]
def vX12_nested : List Cond := .code yX12_nested cX12_nested 6 (some .int) :: (oX12_nested ++ (vX12_part ++ (vX12_lookAt ++ (wsX120))))
theorem lkX12_nested_f38 : Cond.fieldLink RX12 38 "MacroScopesModel" "counts" "[I" ∈ vX12_nested := List.mem_cons_of_mem _ (List.mem_append_left _ (List.mem_of_getElem? (i := 0) rfl))
theorem lkX12_nested_f101 : Cond.fieldLink RX12 101 "MacroScopesModel" "lookHow" "[I" ∈ vX12_nested := List.mem_cons_of_mem _ (List.mem_append_left _ (List.mem_of_getElem? (i := 5) rfl))
theorem lkX12_nested_f306 : Cond.fieldLink RX12 306 "MacroScopesModel" "looks" "I" ∈ vX12_nested := List.mem_cons_of_mem _ (List.mem_append_left _ (List.mem_of_getElem? (i := 9) rfl))
theorem lkX12_nested_f98 : Cond.fieldLink RX12 98 "MacroScopesModel" "look" "[I" ∈ vX12_nested := List.mem_cons_of_mem _ (List.mem_append_left _ (List.mem_of_getElem? (i := 10) rfl))
theorem lkX12_nested_f32 : Cond.fieldLink RX12 32 "MacroScopesModel" "kinds" "[B" ∈ vX12_nested := List.mem_cons_of_mem _ (List.mem_append_left _ (List.mem_of_getElem? (i := 11) rfl))
theorem inX12_nested : ∀ w ∈ wsX120, w ∈ vX12_nested := fun w h => List.mem_cons_of_mem _ (List.mem_append_right _ (List.mem_append_right _ (List.mem_append_right _ (h))))
theorem kX12_nested_X12_part_192 : GoodIn vX12_nested (wsV RX12 192 RX12 yX12_part vX12_part) := goodIn_sub (fun w h => (List.mem_append.mp h).elim (fun h => List.mem_cons_of_mem _ (List.mem_append_left _ ((by decide +kernel : ∀ w ∈ ([.methodLink RX12 192 yX12_part, .instanceMethod yX12_part, .selects RX12 yX12_part yX12_part, .initialized RX12] : List Cond), w ∈ oX12_nested) w h))) (fun h => List.mem_cons_of_mem _ (List.mem_append_right _ (List.mem_append_left _ (h))))) (by decide +kernel)
theorem kX12_nested_X12_lookAt_318 : GoodIn vX12_nested (wsV RX12 318 RX12 yX12_lookAt vX12_lookAt) := goodIn_sub (fun w h => (List.mem_append.mp h).elim (fun h => List.mem_cons_of_mem _ (List.mem_append_left _ ((by decide +kernel : ∀ w ∈ ([.methodLink RX12 318 yX12_lookAt, .instanceMethod yX12_lookAt, .selects RX12 yX12_lookAt yX12_lookAt, .initialized RX12] : List Cond), w ∈ oX12_nested) w h))) (fun h => List.mem_cons_of_mem _ (List.mem_append_right _ (List.mem_append_right _ (List.mem_append_left _ (h)))))) (by decide +kernel)
abbrev LK (G : Nat → Nat → Nat) (L Hw O : Nat → Nat) : Nat → Nat → Nat := va_up (va_up (va_up G 50 L) 51 Hw) 52 O
theorem LK_look {G : Nat → Nat → Nat} {L Hw O X Y Z : Nat → Nat} : va_up (va_up (va_up (LK G L Hw O) 50 X) 51 Y) 52 Z = LK G X Y Z := by
  funext k
  by_cases h2 : k = 52
  · simp [LK, va_up, h2]
  · by_cases h1 : k = 51
    · simp [LK, va_up, h1]
    · by_cases h0 : k = 50
      · simp [LK, va_up, h0]
      · simp [LK, va_up, h0, h1, h2]
theorem LK_self (G : Nat → Nat → Nat) : LK G (G 50) (G 51) (G 52) = G := by
  funext k
  by_cases h2 : k = 52
  · subst h2; rfl
  · by_cases h1 : k = 51
    · subst h1; rfl
    · by_cases h0 : k = 50
      · subst h0; rfl
      · rw [LK, va_up_ne _ _ h2, va_up_ne _ _ h1, va_up_ne _ _ h0]
theorem hGLK {G : Nat → Nat → Nat} {L Hw O : Nat → Nat} (hG : ∀ k i, G k i < 1048576) (h1 : ∀ i, L i < 1048576) (h2 : ∀ i, Hw i < 1048576) (h3 : ∀ i, O i < 1048576) : ∀ k i, LK G L Hw O k i < 1048576 := hGup (hGup (hGup hG h1) h2) h3
theorem sumC_gap {sz c : Nat → Nat} {a : Nat} : ∀ n, (∀ i, a ≤ i → i < n → 1 ≤ sz (c i)) → a ≤ n → n + sumC sz c a ≤ a + sumC sz c n := by
  intro n
  induction n with
  | zero => intro _ h; rw [Nat.le_zero.mp h]; omega
  | succ n ih =>
    intro h hn
    by_cases e : a = n + 1
    · rw [e]; omega
    · have := ih (fun i h1 h2 => h i h1 (by omega)) (by omega)
      have := h n (by omega) (by omega)
      rw [sumC]; omega
theorem leup {Hw : Nat → Nat} {j v : Nat} (h : ∀ i, i < j → Hw i ≤ i + 1) (hv : v ≤ j + 1) : ∀ i, i < j + 1 → va_up Hw j v i ≤ i + 1 := by
  intro i hi
  by_cases e : i = j
  · subst e; rw [va_up_self]; exact hv
  · rw [va_up_ne _ _ e]; exact h i (by omega)

set_option maxHeartbeats 4000000 in
set_option maxRecDepth 100000 in
theorem lp_nested1 {p : Program} {l : Launch} {e : Env} {s : State} {m : MethodId} {args : Array Value} {below : List Frame} {meth : Method} {c : Code} {Q : State → Prop} {A : Nat → Prop} {dC : Nat → ClassId} {dI : Nat → Nat → Nat} {cB cC cI cJ cZ : ClassId} {z0 : Nat} {R : Nat → Nat} (hx : p.tables.exec = Jvm.exec) (hb : c.code = cX12_nested) (hml : c.maxLocals = 6) (hown : s.vm.findClass RX12 = some m.cls) (hts : ∀ w ∈ vX12_nested, w.before args s = true) (hK : va_K (dC, dI) vwCl (TY cB cC cI cJ cZ) s) (hA : ∀ q : Nat, s.heap.size ≤ q → A q) {pl : Int32} {N : Nat → Nat} {G : Nat → Nat → Nat} {B : Nat → Nat → Int32} {sz : Nat → Nat} (hG : ∀ k i, G k i < 1048576) (ht9 : TREE N G sz) (hq9 : TREQ N G sz) (q0 a0 a1 mo pa bs tot : Nat) (ha0 : a0 < N 14) (ha1 : a1 < q0) (htot : tot ≤ 3001) (heq : a1 + bs + sz a0 = tot + pa)  (kk : ∀ (L Hw O : Nat → Nat) (H : Heap) (locs : List Loc), (∀ i, L i < 1048576) → (∀ i, Hw i < 1048576) → (∀ i, O i < 1048576) → (∀ i, i < q0 + G 12 a0 → L i < N 14) → (∀ i, i < q0 + G 12 a0 → Hw i ≤ i + 1) → sumC sz L (a1 + 1) = pa → sumC sz L (q0 + G 12 a0) = bs + sumC sz (CH G a0) (G 12 a0) → va_P (dC, dI) vwCl (MW cB cC cI cJ cZ z0 R pl (va_up N 53 (q0 + G 12 a0)) (LK G L Hw O) B) H → va_D A (MW cB cC cI cJ cZ z0 R pl (va_up N 53 (q0 + G 12 a0)) (LK G L Hw O) B) → va_S A s.heap H locs → ∀ (ls : Array Slot), lv_has ls 6 [(0, .ref z0), (2, .int (nI mo)), (3, .int (nI a1))] → W p l e (headSpec vX12_nested { frames := 1, cells := 0, slots := 0, locals := 23 }).room s m args below meth c H locs 0 0 Q (F0 m 106 ls [])) : ∀ (k : Nat) (j : Nat) (L Hw O : Nat → Nat), j ≤ G 12 a0 → G 12 a0 + 1 ≤ j + k → (∀ i, L i < 1048576) → (∀ i, Hw i < 1048576) → (∀ i, O i < 1048576) → (∀ i, i < q0 + j → L i < N 14) → (∀ i, i < q0 + j → Hw i ≤ i + 1) → sumC sz L (a1 + 1) = pa → sumC sz L (q0 + j) = bs + sumC sz (CH G a0) j → ∀ (H : Heap) (locs : List Loc), va_P (dC, dI) vwCl (MW cB cC cI cJ cZ z0 R pl (va_up N 53 (q0 + j)) (LK G L Hw O) B) H → va_D A (MW cB cC cI cJ cZ z0 R pl (va_up N 53 (q0 + j)) (LK G L Hw O) B) → va_S A s.heap H locs → ∀ (ls : Array Slot), lv_has ls 6 [(0, .ref z0), (2, .int (nI mo)), (3, .int (nI a1)), (4, .int (nI a0)), (5, .int (nI j))] → W p l e (headSpec vX12_nested { frames := 1, cells := 0, slots := 0, locals := 23 }).room s m args below meth c H locs 0 0 Q (F0 m 67 ls []) := by
  have hcs : 0 + 0 ≤ (0 : Nat) ∧ 0 + 0 ≤ (0 : Nat) := ⟨Nat.le_refl 0, Nat.le_refl 0⟩
  intro k
  induction k with
  | zero =>
    intro j L Hw O hj hk hL hH hO hlow hhow hpre hsum
    omega
  | succ k ih =>
    intro j L Hw O hj hk hL hH hO hlow hhow hpre hsum H locs hP hD hS ls hl
    have g1 := hG 12 a0
    obtain ⟨u1, u2, u3, u4, u5⟩ := ht9.2 a0 ha0
    have u1 := hq9 a0 ha0
    have u6 := ht9.1
    have u7 := sumC_gap (sz := sz) (c := L) (a := a1 + 1) (q0 + j) (fun i h1 hi => ht9.one (hlow i hi)) (by omega)
    have u8 : sumC sz (CH G a0) j ≤ sumC sz (CH G a0) (G 12 a0) := sumC_mono _ _ _ _ hj
    refine lv_iload hx hb dX12_nested_67 (lv_at hl 4 rfl) ?_
    refine lv_aload_n hx hb dX12_nested_69 rfl (lv_at hl 0 rfl) ?_
    refine mg_12 hx hb hts inX12_nested hown hK hP (hts _ lkX12_nested_f38) dX12_nested_70 ?_
    refine lv_iload hx hb dX12_nested_73 (lv_at hl 3 rfl) ?_
    refine ml_12 hx hb hK hP (by omega) dX12_nested_75 ?_
    refine tp_i (y := nI (G 12 a0)) rfl ?_
    refine bn_ge (tgt := 106) hx hb (by omega) (by omega) dX12_nested_76 (by decide) (fun c1 => ?_) (fun c1 => ?_)
    · have e9 : j = G 12 a0 := by omega
      subst e9
      exact kk L Hw O H locs hL hH hO hlow hhow hpre hsum hP hD hS ls (lv_sub hl [0, 1, 2] rfl)
    · obtain ⟨t1, t2⟩ := u3 j c1
      have t3 := hhow a1 (by omega)
      refine lv_aload_n hx hb dX12_nested_79 rfl (lv_at hl 0 rfl) ?_
      refine lv_aload_n hx hb dX12_nested_80 rfl (lv_at hl 0 rfl) ?_
      refine lv_iload hx hb dX12_nested_81 (lv_at hl 3 rfl) ?_
      refine lv_iload hx hb dX12_nested_83 (lv_at hl 4 rfl) ?_
      refine mcl_i (As := [.int (nI a0), .int (nI j)]) (rest := [.ref z0]) ⟨hx, hb, hml, hown, hts⟩ (m_part l dC dI cB cC cI cJ cZ z0 R pl (va_up N 53 (q0 + j)) (LK G L Hw O) B a0 j (hGLK hG hL hH hO) (by omega) t1 H.size) (cwV 2 hts kX12_nested_X12_part_192 rfl rfl rfl (by decide +kernel) ⟨Nat.le_of_ble_eq_true rfl, Nat.le_of_ble_eq_true rfl⟩) hK hP hD hS hA rfl rfl hl.1 (lv_room (Nat.le_of_ble_eq_true rfl)) dX12_nested_85 hcs (fun r_5 N_1 G_2 B_3 pl_4 hw H locs hP hD hS => ?_)
      dsimp only at hw
      obtain ⟨e1, e2, e3, e4, hw⟩ := hw
      rw [e1, e2, e3, e4] at hP hD
      have hw : r_5 = nI (CH G a0 j) := hw
      subst hw
      refine lv_aload_n hx hb dX12_nested_88 rfl (lv_at hl 0 rfl) ?_
      refine mg_51 hx hb hts inX12_nested hown hK hP (hts _ lkX12_nested_f101) dX12_nested_89 ?_
      refine lv_iload_n hx hb dX12_nested_92 rfl (lv_at hl 2 rfl) ?_
      refine ml_51 hx hb hK hP (by omega) dX12_nested_93 ?_
      refine tp_i (y := nI (Hw a1)) rfl ?_
      refine lv_iconst (v := nI 1) hx hb dX12_nested_94 (by decide) ?_
      refine lv_iadd hx hb dX12_nested_95 ?_
      refine tp_i (nI_add (Hw a1) 1) ?_
      refine lv_iconst (v := nI 0) hx hb dX12_nested_96 (by decide) ?_
      refine mcl_v (As := [.int (nI (CH G a0 j)), .int (nI ((Hw a1) + 1)), .int (nI 0)]) (rest := []) ⟨hx, hb, hml, hown, hts⟩ (m_lookAt l dC dI cB cC cI cJ cZ z0 R pl (va_up N 53 (q0 + j)) (LK G L Hw O) B (CH G a0 j) ((Hw a1) + 1) 0 (show q0 + j < 90000 from (by omega)) H.size) (cwV 3 hts kX12_nested_X12_lookAt_318 rfl rfl rfl (by decide +kernel) ⟨Nat.le_of_ble_eq_true rfl, Nat.le_of_ble_eq_true rfl⟩) hK hP hD hS hA rfl rfl hl.1 (lv_room (Nat.le_of_ble_eq_true rfl)) dX12_nested_97 hcs (fun  N_6 G_7 B_8 pl_9 hw H locs hP hD hS => ?_)
      dsimp only at hw
      obtain ⟨e1, e2, e3, e4⟩ := hw
      rw [e1, e2, e3, e4, bx_uu, LK_look] at hP hD
      have hP : va_P (dC, dI) vwCl (MW cB cC cI cJ cZ z0 R pl (va_up N 53 ((q0 + j) + 1)) (LK G (va_up L (q0 + j) (CH G a0 j)) (va_up Hw (q0 + j) ((Hw a1) + 1)) (va_up O (q0 + j) 0)) B) H := hP
      have hD : va_D A (MW cB cC cI cJ cZ z0 R pl (va_up N 53 ((q0 + j) + 1)) (LK G (va_up L (q0 + j) (CH G a0 j)) (va_up Hw (q0 + j) ((Hw a1) + 1)) (va_up O (q0 + j) 0)) B) := hD
      refine lv_iinc (v := nI (j + 1)) (lv' := [(5, .int (nI (j + 1))), (0, .ref z0), (2, .int (nI mo)), (3, .int (nI a1)), (4, .int (nI a0))]) hx hb dX12_nested_100 hl (k := 4) rfl (nI_add j 1) (by decide) rfl (fun ls hl => ?_)
      refine lv_goto (tgt := 67) hx hb dX12_nested_103 (by decide) ?_
      exact ih (j + 1) _ _ _ (by omega) (by omega) (hIup hL (by omega)) (hIup hH (by omega)) (hIup hO (by omega)) (ltup (j := q0 + j) hlow t2) (leup (j := q0 + j) hhow (by omega)) (by rw [sumC_up (j := q0 + j) _ (by omega)]; exact hpre) (by rw [show q0 + (j + 1) = q0 + j + 1 from rfl, sumC_push, hsum, sumC]; omega) _ _ hP hD hS ls (lv_sub hl [1, 2, 3, 4, 0] rfl)

set_option maxHeartbeats 4000000 in
set_option maxRecDepth 100000 in
theorem lp_nested2 {p : Program} {l : Launch} {e : Env} {s : State} {m : MethodId} {args : Array Value} {below : List Frame} {meth : Method} {c : Code} {Q : State → Prop} {A : Nat → Prop} {dC : Nat → ClassId} {dI : Nat → Nat → Nat} {cB cC cI cJ cZ : ClassId} {z0 : Nat} {R : Nat → Nat} (hx : p.tables.exec = Jvm.exec) (hb : c.code = cX12_nested) (hml : c.maxLocals = 6) (hown : s.vm.findClass RX12 = some m.cls) (hts : ∀ w ∈ vX12_nested, w.before args s = true) (hK : va_K (dC, dI) vwCl (TY cB cC cI cJ cZ) s) (hA : ∀ q : Nat, s.heap.size ≤ q → A q) {pl : Int32} {N : Nat → Nat} {G : Nat → Nat → Nat} {B : Nat → Nat → Int32} {sz : Nat → Nat} (hG : ∀ k i, G k i < 1048576) (ht9 : TREE N G sz) (hq9 : TREQ N G sz) (tot : Nat) (htot : tot ≤ 3001) (kk : ∀ (q mo : Nat) (L Hw O : Nat → Nat) (H : Heap) (locs : List Loc), (∀ i, L i < 1048576) → (∀ i, Hw i < 1048576) → (∀ i, O i < 1048576) → q ≤ 90000 → mo < 1048576 → va_P (dC, dI) vwCl (MW cB cC cI cJ cZ z0 R pl (va_up N 53 q) (LK G L Hw O) B) H → va_D A (MW cB cC cI cJ cZ z0 R pl (va_up N 53 q) (LK G L Hw O) B) → va_S A s.heap H locs → ∀ (ls : Array Slot), lv_has ls 6 [(2, .int (nI mo))] → W p l e (headSpec vX12_nested { frames := 1, cells := 0, slots := 0, locals := 23 }).room s m args below meth c H locs 0 0 Q (F0 m 112 ls [])) : ∀ (k : Nat) (q a1 mo : Nat) (L Hw O : Nat → Nat), tot - a1 < k → (∀ i, L i < 1048576) → (∀ i, Hw i < 1048576) → (∀ i, O i < 1048576) → (∀ i, i < q → L i < N 14) → (∀ i, i < q → Hw i ≤ i + 1) → a1 ≤ q → a1 + sumC sz L q = tot + sumC sz L a1 → mo < 1048576 → ∀ (H : Heap) (locs : List Loc), va_P (dC, dI) vwCl (MW cB cC cI cJ cZ z0 R pl (va_up N 53 q) (LK G L Hw O) B) H → va_D A (MW cB cC cI cJ cZ z0 R pl (va_up N 53 q) (LK G L Hw O) B) → va_S A s.heap H locs → ∀ (ls : Array Slot), lv_has ls 6 [(0, .ref z0), (2, .int (nI mo)), (3, .int (nI a1))] → W p l e (headSpec vX12_nested { frames := 1, cells := 0, slots := 0, locals := 23 }).room s m args below meth c H locs 0 0 Q (F0 m 16 ls []) := by
  have hcs : 0 + 0 ≤ (0 : Nat) ∧ 0 + 0 ≤ (0 : Nat) := ⟨Nat.le_refl 0, Nat.le_refl 0⟩
  intro k
  induction k with
  | zero =>
    intro q a1 mo L Hw O hk hL hH hO hlow hhow haq hsum hmo
    omega
  | succ k ih =>
    intro q a1 mo L Hw O hk hL hH hO hlow hhow haq hsum hmo H locs hP hD hS ls hl
    have u6 := ht9.1
    have u7 := sumC_gap (sz := sz) (c := L) (a := a1) q (fun i h1 hi => ht9.one (hlow i hi)) haq
    refine lv_iload_n hx hb dX12_nested_16 rfl (lv_at hl 2 rfl) ?_
    refine lv_aload_n hx hb dX12_nested_17 rfl (lv_at hl 0 rfl) ?_
    refine mg_53 hx hb hts inX12_nested hown hK hP (hts _ lkX12_nested_f306) dX12_nested_18 ?_
    refine tp_i (y := nI q) rfl ?_
    refine bn_ge (tgt := 112) hx hb (by omega) (by omega) dX12_nested_21 (by decide) (fun c1 => ?_) (fun c1 => ?_)
    · exact kk q mo L Hw O H locs hL hH hO (by omega) hmo hP hD hS ls (lv_sub hl [1] rfl)
    · have t1 := hlow a1 c1
      obtain ⟨w1, w2, w3, w4, w5⟩ := ht9.2 (L a1) t1
      have w1 := hq9 (L a1) t1
      have t3 := hhow a1 c1
      have g3 := hG 10 (L a1)
      refine lv_aload_n hx hb dX12_nested_24 rfl (lv_at hl 0 rfl) ?_
      refine mg_50 hx hb hts inX12_nested hown hK hP (hts _ lkX12_nested_f98) dX12_nested_25 ?_
      refine lv_iload_n hx hb dX12_nested_28 rfl (lv_at hl 2 rfl) ?_
      refine ml_50 hx hb hK hP (by omega) dX12_nested_29 ?_
      refine tp_i (y := nI (L a1)) rfl ?_
      refine lv_istore (lv' := [(4, .int (nI (L a1))), (0, .ref z0), (2, .int (nI mo)), (3, .int (nI a1))]) hx hb dX12_nested_30 hl (by decide) rfl (fun ls hl => ?_)
      refine lv_aload_n hx hb dX12_nested_32 rfl (lv_at hl 1 rfl) ?_
      refine mg_10 hx hb hts inX12_nested hown hK hP (hts _ lkX12_nested_f32) dX12_nested_33 ?_
      refine lv_iload hx hb dX12_nested_36 (lv_at hl 0 rfl) ?_
      refine ml_10 hx hb hK hP (by omega) dX12_nested_38 ?_
      refine tp_i (y := nI (G 10 (L a1))) rfl ?_
      refine lv_iconst (v := nI 2) hx hb dX12_nested_39 (by decide) ?_
      refine bn_ne (tgt := 62) hx hb (by omega) (by omega) dX12_nested_40 (by decide) (fun c2 => ?_) (fun c2 => ?_)
      · refine lv_iload_n hx hb dX12_nested_62 rfl (lv_at hl 2 rfl) ?_
        refine lv_istore_n (lv' := [(2, .int (nI mo)), (4, .int (nI (L a1))), (0, .ref z0), (3, .int (nI a1))]) hx hb dX12_nested_63 rfl hl (by decide) rfl (fun ls hl => ?_)
        refine lv_iconst (v := nI 0) hx hb dX12_nested_64 (by decide) ?_
        refine lv_istore (lv' := [(5, .int (nI 0)), (2, .int (nI mo)), (4, .int (nI (L a1))), (0, .ref z0), (3, .int (nI a1))]) hx hb dX12_nested_65 hl (by decide) rfl (fun ls hl => ?_)
        refine lp_nested1 hx hb hml hown hts hK hA hG ht9 hq9 q (L a1) a1 mo (sumC sz L (a1 + 1)) (sumC sz L q) tot t1 c1 htot (by rw [sumC]; omega) (fun L2 H2 O2 H locs hL2 hH2 hO2 hlow2 hhow2 hpre2 hsum2 hP hD hS ls hl => ?_) (G 12 (L a1) + 1) 0 L Hw O (by omega) (by omega) hL hH hO hlow hhow rfl rfl _ _ hP hD hS ls (lv_sub hl [3, 1, 4, 2, 0] rfl)
        refine lv_iinc (v := nI (a1 + 1)) (lv' := [(3, .int (nI (a1 + 1))), (0, .ref z0), (2, .int (nI mo))]) hx hb dX12_nested_106 hl (k := 2) rfl (nI_add a1 1) (by decide) rfl (fun ls hl => ?_)
        refine lv_goto (tgt := 16) hx hb dX12_nested_109 (by decide) ?_
        exact ih _ (a1 + 1) _ L2 H2 O2 (by omega) hL2 hH2 hO2 hlow2 hhow2 (by omega) (by rw [hpre2, hsum2, sumC]; omega) (by omega) _ _ hP hD hS ls (lv_sub hl [1, 2, 0] rfl)
      · refine lv_aload_n hx hb dX12_nested_43 rfl (lv_at hl 1 rfl) ?_
        refine mg_51 hx hb hts inX12_nested hown hK hP (hts _ lkX12_nested_f101) dX12_nested_44 ?_
        refine lv_iload_n hx hb dX12_nested_47 rfl (lv_at hl 3 rfl) ?_
        refine ml_51 hx hb hK hP (by omega) dX12_nested_48 ?_
        refine tp_i (y := nI (Hw a1)) rfl ?_
        refine lv_iload_n hx hb dX12_nested_49 rfl (lv_at hl 2 rfl) ?_
        refine bn_le (tgt := 62) hx hb (by omega) (by omega) dX12_nested_50 (by decide) (fun c3 => ?_) (fun c3 => ?_)
        · refine lv_iload_n hx hb dX12_nested_62 rfl (lv_at hl 2 rfl) ?_
          refine lv_istore_n (lv' := [(2, .int (nI mo)), (4, .int (nI (L a1))), (0, .ref z0), (3, .int (nI a1))]) hx hb dX12_nested_63 rfl hl (by decide) rfl (fun ls hl => ?_)
          refine lv_iconst (v := nI 0) hx hb dX12_nested_64 (by decide) ?_
          refine lv_istore (lv' := [(5, .int (nI 0)), (2, .int (nI mo)), (4, .int (nI (L a1))), (0, .ref z0), (3, .int (nI a1))]) hx hb dX12_nested_65 hl (by decide) rfl (fun ls hl => ?_)
          refine lp_nested1 hx hb hml hown hts hK hA hG ht9 hq9 q (L a1) a1 mo (sumC sz L (a1 + 1)) (sumC sz L q) tot t1 c1 htot (by rw [sumC]; omega) (fun L2 H2 O2 H locs hL2 hH2 hO2 hlow2 hhow2 hpre2 hsum2 hP hD hS ls hl => ?_) (G 12 (L a1) + 1) 0 L Hw O (by omega) (by omega) hL hH hO hlow hhow rfl rfl _ _ hP hD hS ls (lv_sub hl [3, 1, 4, 2, 0] rfl)
          refine lv_iinc (v := nI (a1 + 1)) (lv' := [(3, .int (nI (a1 + 1))), (0, .ref z0), (2, .int (nI mo))]) hx hb dX12_nested_106 hl (k := 2) rfl (nI_add a1 1) (by decide) rfl (fun ls hl => ?_)
          refine lv_goto (tgt := 16) hx hb dX12_nested_109 (by decide) ?_
          exact ih _ (a1 + 1) _ L2 H2 O2 (by omega) hL2 hH2 hO2 hlow2 hhow2 (by omega) (by rw [hpre2, hsum2, sumC]; omega) (by omega) _ _ hP hD hS ls (lv_sub hl [1, 2, 0] rfl)
        · refine lv_aload_n hx hb dX12_nested_53 rfl (lv_at hl 1 rfl) ?_
          refine mg_51 hx hb hts inX12_nested hown hK hP (hts _ lkX12_nested_f101) dX12_nested_54 ?_
          refine lv_iload_n hx hb dX12_nested_57 rfl (lv_at hl 3 rfl) ?_
          refine ml_51 hx hb hK hP (by omega) dX12_nested_58 ?_
          refine tp_i (y := nI (Hw a1)) rfl ?_
          refine lv_goto (tgt := 63) hx hb dX12_nested_59 (by decide) ?_
          refine lv_istore_n (lv' := [(2, .int (nI (Hw a1))), (4, .int (nI (L a1))), (0, .ref z0), (3, .int (nI a1))]) hx hb dX12_nested_63 rfl hl (by decide) rfl (fun ls hl => ?_)
          refine lv_iconst (v := nI 0) hx hb dX12_nested_64 (by decide) ?_
          refine lv_istore (lv' := [(5, .int (nI 0)), (2, .int (nI (Hw a1))), (4, .int (nI (L a1))), (0, .ref z0), (3, .int (nI a1))]) hx hb dX12_nested_65 hl (by decide) rfl (fun ls hl => ?_)
          refine lp_nested1 hx hb hml hown hts hK hA hG ht9 hq9 q (L a1) a1 (Hw a1) (sumC sz L (a1 + 1)) (sumC sz L q) tot t1 c1 htot (by rw [sumC]; omega) (fun L2 H2 O2 H locs hL2 hH2 hO2 hlow2 hhow2 hpre2 hsum2 hP hD hS ls hl => ?_) (G 12 (L a1) + 1) 0 L Hw O (by omega) (by omega) hL hH hO hlow hhow rfl rfl _ _ hP hD hS ls (lv_sub hl [3, 1, 4, 2, 0] rfl)
          refine lv_iinc (v := nI (a1 + 1)) (lv' := [(3, .int (nI (a1 + 1))), (0, .ref z0), (2, .int (nI (Hw a1)))]) hx hb dX12_nested_106 hl (k := 2) rfl (nI_add a1 1) (by decide) rfl (fun ls hl => ?_)
          refine lv_goto (tgt := 16) hx hb dX12_nested_109 (by decide) ?_
          exact ih _ (a1 + 1) _ L2 H2 O2 (by omega) hL2 hH2 hO2 hlow2 hhow2 (by omega) (by rw [hpre2, hsum2, sumC]; omega) (by omega) _ _ hP hD hS ls (lv_sub hl [1, 2, 0] rfl)

set_option maxHeartbeats 4000000 in
set_option maxRecDepth 100000 in
/-- nested -/
theorem m_nested (l : Launch) (dC : Nat → ClassId) (dI : Nat → Nat → Nat) (cB cC cI cJ cZ : ClassId) (z0 : Nat) (R : Nat → Nat) (pl : Int32) (N : Nat → Nat) (G : Nat → Nat → Nat) (B : Nat → Nat → Int32) (f : Nat) (sz : Nat → Nat) (hG : ∀ k i, G k i < 1048576) (ht9 : TREE N G sz) (hq9 : TREQ N G sz) (hf : f < N 14) (s0 : Nat) : Met l yX12_nested vX12_nested { frames := 1, cells := 0, slots := 0, locals := 23 } (va_Pc [.ref z0, .int (nI f)] (mPre dC dI cB cC cI cJ cZ z0 R pl N G B s0)) (va_Qi (fun (r : Int32) (u : ((Nat → Nat) × (Nat → Nat → Nat) × (Nat → Nat → Int32) × Int32)) => match u with | (N1, G1, B1, pl1) => (∃ q9 L9 H9 O9, (∀ i, L9 i < 1048576) ∧ (∀ i, H9 i < 1048576) ∧ (∀ i, O9 i < 1048576) ∧ N1 = va_up N 53 q9 ∧ G1 = LK G L9 H9 O9 ∧ q9 ≤ 90000) ∧ B1 = B ∧ pl1 = pl ∧ ∃ v, v < 1048576 ∧ r = nI v) (mPost dC dI cB cC cI cJ cZ z0 R (va_A (MW cB cC cI cJ cZ z0 R pl N G B) s0)) (va_A (MW cB cC cI cJ cZ z0 R pl N G B) s0)) 0 0 (va_A (MW cB cC cI cJ cZ z0 R pl N G B) s0) := by
  refine Met.ofW (cc := cX12_nested) (maxL := 6) (ret := (some .int)) (by decide) rfl ?_
  intro p e s m args below meth c s₁ B9 hml hv
  obtain ⟨rfl, hsz, hP, hK, hD0⟩ := hv
  have hx := B9.exec
  have hb := B9.bytes
  have hr := B9.returns
  have hts := atoms_spec (ws := vX12_nested) B9.pre
  have hown : s.vm.findClass RX12 = some m.cls := findClass_of_methodNamed B9.named
  have hlocks := B9.notSynchronized
  subst hsz
  have hD := hD0.self (sz := s.heap.size)
  generalize hAe : va_A (MW cB cC cI cJ cZ z0 R pl N G B) s.heap.size = A at hD ⊢
  have hA : ∀ q : Nat, s.heap.size ≤ q → A q := fun q h => by rw [← hAe]; exact Or.inr h
  have hS : va_S A s.heap s.heap [] := va_S.rf
  have hcs : 0 + 0 ≤ (0 : Nat) ∧ 0 + 0 ≤ (0 : Nat) := ⟨Nat.le_refl 0, Nat.le_refl 0⟩
  have hl := lv_entry ([.ref z0, .int (nI f)]) (n := 6) (Nat.le_of_ble_eq_true rfl)
  rw [lg_entry_eq]
  generalize (lg_sl ([.ref z0, .int (nI f)]) ++ List.replicate (6 - (lg_sl ([.ref z0, .int (nI f)])).length) Slot.unset).toArray = ls at hl ⊢
  have hl : lv_has ls 6 [(0, .ref z0), (1, .int (nI f))] := hl
  obtain ⟨u1, u2, u3, u4, u5⟩ := ht9.2 f hf
  have u6 := ht9.1
  refine lv_aload_n hx hb dX12_nested_0 rfl (lv_at hl 0 rfl) ?_
  refine lv_iconst (v := nI 0) hx hb dX12_nested_1 (by decide) ?_
  refine mp_53 hx hb hts inX12_nested hown hK hP hD hS (hts _ lkX12_nested_f306) dX12_nested_2 (fun H locs hP hD hS => ?_)
  refine lv_aload_n hx hb dX12_nested_5 rfl (lv_at hl 0 rfl) ?_
  refine lv_iload_n hx hb dX12_nested_6 rfl (lv_at hl 1 rfl) ?_
  refine lv_iconst (v := nI 1) hx hb dX12_nested_7 (by decide) ?_
  refine lv_iconst (v := nI 0) hx hb dX12_nested_8 (by decide) ?_
  have hP : va_P (dC, dI) vwCl (MW cB cC cI cJ cZ z0 R pl (va_up N 53 0) (LK G (G 50) (G 51) (G 52)) B) H := by rw [LK_self]; exact hP
  have hD : va_D A (MW cB cC cI cJ cZ z0 R pl (va_up N 53 0) (LK G (G 50) (G 51) (G 52)) B) := by rw [LK_self]; exact hD
  refine mcl_v (As := [.int (nI f), .int (nI 1), .int (nI 0)]) (rest := []) ⟨hx, hb, hml, hown, hts⟩ (m_lookAt l dC dI cB cC cI cJ cZ z0 R pl (va_up N 53 0) (LK G (G 50) (G 51) (G 52)) B f 1 0 (show 0 < 90000 from (by decide)) H.size) (cwV 3 hts kX12_nested_X12_lookAt_318 rfl rfl rfl (by decide +kernel) ⟨Nat.le_of_ble_eq_true rfl, Nat.le_of_ble_eq_true rfl⟩) hK hP hD hS hA rfl rfl hl.1 (lv_room (Nat.le_of_ble_eq_true rfl)) dX12_nested_9 hcs (fun  N_1 G_2 B_3 pl_4 hw H locs hP hD hS => ?_)
  dsimp only at hw
  obtain ⟨e1, e2, e3, e4⟩ := hw
  rw [e1, e2, e3, e4, bx_uu, LK_look] at hP hD
  have hP : va_P (dC, dI) vwCl (MW cB cC cI cJ cZ z0 R pl (va_up N 53 (0 + 1)) (LK G (va_up (G 50) 0 f) (va_up (G 51) 0 1) (va_up (G 52) 0 0)) B) H := hP
  have hD : va_D A (MW cB cC cI cJ cZ z0 R pl (va_up N 53 (0 + 1)) (LK G (va_up (G 50) 0 f) (va_up (G 51) 0 1) (va_up (G 52) 0 0)) B) := hD
  refine lv_iconst (v := nI 0) hx hb dX12_nested_12 (by decide) ?_
  refine lv_istore_n (lv' := [(2, .int (nI 0)), (0, .ref z0), (1, .int (nI f))]) hx hb dX12_nested_13 rfl hl (by decide) rfl (fun ls hl => ?_)
  refine lv_iconst (v := nI 0) hx hb dX12_nested_14 (by decide) ?_
  refine lv_istore_n (lv' := [(3, .int (nI 0)), (2, .int (nI 0)), (0, .ref z0), (1, .int (nI f))]) hx hb dX12_nested_15 rfl hl (by decide) rfl (fun ls hl => ?_)
  refine lp_nested2 hx hb hml hown hts hK hA hG ht9 hq9 (sz f) u2 (fun q mo L Hw O H locs hL hH hO hq hmo hP hD hS ls hl => ?_) _ 1 0 0 _ _ _ (Nat.lt_succ_self _) (hIup (hG 50) (by omega)) (hIup (hG 51) (by decide)) (hIup (hG 52) (by decide)) (ltup (j := 0) (fun i hi => absurd hi (Nat.not_lt_zero i)) hf) (leup (j := 0) (fun i hi => absurd hi (Nat.not_lt_zero i)) (by decide)) (by decide) (by rw [sumC_push, sumC, sumC]; omega) (by decide) _ _ hP hD hS ls (lv_sub hl [2, 1, 0] rfl)
  refine lv_iload_n hx hb dX12_nested_112 rfl (lv_at hl 0 rfl) ?_
  exact W.iret (v := (nI mo)) hx hb hr (fun t ht hW => ⟨⟨(nI mo), (va_up N 53 q, LK G L Hw O, B, pl), rfl, ⟨⟨q, L, Hw, O, hL, hH, hO, rfl, rfl, hq⟩, rfl, rfl, mo, hmo, rfl⟩, by rw [ht]; exact hP, va_K.moved hW.alike hK, hD⟩, hS.F ht⟩) hS.2.2 dX12_nested_113
