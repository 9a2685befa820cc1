def oX12_sizeMade : List Cond := [Cond.methodLink RX12 321 yX12_isEllipsis, Cond.instanceMethod yX12_isEllipsis, Cond.selects RX12 yX12_isEllipsis yX12_isEllipsis, Cond.initialized RX12, Cond.methodLink RX12 192 yX12_part, Cond.instanceMethod yX12_part, Cond.selects RX12 yX12_part yX12_part, Cond.methodLink RX12 318 yX12_lookAt, Cond.instanceMethod yX12_lookAt, Cond.selects RX12 yX12_lookAt yX12_lookAt, Cond.fieldLink RX12 101 "MacroScopesModel" "lookHow" "[I", Cond.fieldLink RX12 38 "MacroScopesModel" "counts" "[I", Cond.fieldLink RX12 306 "MacroScopesModel" "looks" "I", Cond.constant RX12 373 (80000), Cond.methodLink RX12 367 yX12_turnsOf, Cond.instanceMethod yX12_turnsOf, Cond.selects RX12 yX12_turnsOf yX12_turnsOf, Cond.fieldLink RX12 98 "MacroScopesModel" "look" "[I", Cond.methodLink RX12 180 yX12_isName, Cond.instanceMethod yX12_isName, Cond.selects RX12 yX12_isName yX12_isName, Cond.fieldLink RX12 35 "MacroScopesModel" "values" "[I", Cond.methodLink RX12 327 yX12_variable, Cond.instanceMethod yX12_variable, Cond.selects RX12 yX12_variable yX12_variable, Cond.fieldLink RX12 116 "MacroScopesModel" "matched" "[I", Cond.fieldLink RX12 110 "MacroScopesModel" "matchFrom" "[I", Cond.fieldLink RX12 94 "MacroScopesModel" "repeated" "[Z", Cond.methodLink RX12 370 yX12_sizeOf, Cond.instanceMethod yX12_sizeOf, Cond.selects RX12 yX12_sizeOf yX12_sizeOf]
def vX12_sizeMade : List Cond := .code yX12_sizeMade cX12_sizeMade 9 (some .int) :: (oX12_sizeMade ++ (vX12_isEllipsis ++ (vX12_part ++ (vX12_lookAt ++ (vX12_turnsOf ++ (vX12_isName ++ (vX12_variable ++ (vX12_sizeOf ++ (wsX120)))))))))
theorem lkX12_sizeMade_f101 : Cond.fieldLink RX12 101 "MacroScopesModel" "lookHow" "[I" ∈ vX12_sizeMade := List.mem_cons_of_mem _ (List.mem_append_left _ (List.mem_of_getElem? (i := 10) rfl))
theorem lkX12_sizeMade_f38 : Cond.fieldLink RX12 38 "MacroScopesModel" "counts" "[I" ∈ vX12_sizeMade := List.mem_cons_of_mem _ (List.mem_append_left _ (List.mem_of_getElem? (i := 11) rfl))
theorem lkX12_sizeMade_f306 : Cond.fieldLink RX12 306 "MacroScopesModel" "looks" "I" ∈ vX12_sizeMade := List.mem_cons_of_mem _ (List.mem_append_left _ (List.mem_of_getElem? (i := 12) rfl))
theorem lkX12_sizeMade_c373 : Cond.constant RX12 373 (80000) ∈ vX12_sizeMade := List.mem_cons_of_mem _ (List.mem_append_left _ (List.mem_of_getElem? (i := 13) rfl))
theorem lkX12_sizeMade_f98 : Cond.fieldLink RX12 98 "MacroScopesModel" "look" "[I" ∈ vX12_sizeMade := List.mem_cons_of_mem _ (List.mem_append_left _ (List.mem_of_getElem? (i := 17) rfl))
theorem lkX12_sizeMade_f35 : Cond.fieldLink RX12 35 "MacroScopesModel" "values" "[I" ∈ vX12_sizeMade := List.mem_cons_of_mem _ (List.mem_append_left _ (List.mem_of_getElem? (i := 21) rfl))
theorem lkX12_sizeMade_f116 : Cond.fieldLink RX12 116 "MacroScopesModel" "matched" "[I" ∈ vX12_sizeMade := List.mem_cons_of_mem _ (List.mem_append_left _ (List.mem_of_getElem? (i := 25) rfl))
theorem lkX12_sizeMade_f110 : Cond.fieldLink RX12 110 "MacroScopesModel" "matchFrom" "[I" ∈ vX12_sizeMade := List.mem_cons_of_mem _ (List.mem_append_left _ (List.mem_of_getElem? (i := 26) rfl))
theorem lkX12_sizeMade_f94 : Cond.fieldLink RX12 94 "MacroScopesModel" "repeated" "[Z" ∈ vX12_sizeMade := List.mem_cons_of_mem _ (List.mem_append_left _ (List.mem_of_getElem? (i := 27) rfl))
theorem inX12_sizeMade : ∀ w ∈ wsX120, w ∈ vX12_sizeMade := fun w h => List.mem_cons_of_mem _ (List.mem_append_right _ (List.mem_append_right _ (List.mem_append_right _ (List.mem_append_right _ (List.mem_append_right _ (List.mem_append_right _ (List.mem_append_right _ (List.mem_append_right _ (h)))))))))
theorem kX12_sizeMade_X12_isEllipsis_321 : GoodIn vX12_sizeMade (wsV RX12 321 RX12 yX12_isEllipsis vX12_isEllipsis) := goodIn_sub (fun w h => (List.mem_append.mp h).elim (fun h => List.mem_cons_of_mem _ (List.mem_append_left _ ((by decide +kernel : ∀ w ∈ ([.methodLink RX12 321 yX12_isEllipsis, .instanceMethod yX12_isEllipsis, .selects RX12 yX12_isEllipsis yX12_isEllipsis, .initialized RX12] : List Cond), w ∈ oX12_sizeMade) w h))) (fun h => List.mem_cons_of_mem _ (List.mem_append_right _ (List.mem_append_left _ (h))))) (by decide +kernel)
theorem kX12_sizeMade_X12_part_192 : GoodIn vX12_sizeMade (wsV RX12 192 RX12 yX12_part vX12_part) := goodIn_sub (fun w h => (List.mem_append.mp h).elim (fun h => List.mem_cons_of_mem _ (List.mem_append_left _ ((by decide +kernel : ∀ w ∈ ([.methodLink RX12 192 yX12_part, .instanceMethod yX12_part, .selects RX12 yX12_part yX12_part, .initialized RX12] : List Cond), w ∈ oX12_sizeMade) w h))) (fun h => List.mem_cons_of_mem _ (List.mem_append_right _ (List.mem_append_right _ (List.mem_append_left _ (h)))))) (by decide +kernel)
theorem kX12_sizeMade_X12_lookAt_318 : GoodIn vX12_sizeMade (wsV RX12 318 RX12 yX12_lookAt vX12_lookAt) := goodIn_sub (fun w h => (List.mem_append.mp h).elim (fun h => List.mem_cons_of_mem _ (List.mem_append_left _ ((by decide +kernel : ∀ w ∈ ([.methodLink RX12 318 yX12_lookAt, .instanceMethod yX12_lookAt, .selects RX12 yX12_lookAt yX12_lookAt, .initialized RX12] : List Cond), w ∈ oX12_sizeMade) w h))) (fun h => List.mem_cons_of_mem _ (List.mem_append_right _ (List.mem_append_right _ (List.mem_append_right _ (List.mem_append_left _ (h))))))) (by decide +kernel)
theorem kX12_sizeMade_X12_turnsOf_367 : GoodIn vX12_sizeMade (wsV RX12 367 RX12 yX12_turnsOf vX12_turnsOf) := goodIn_sub (fun w h => (List.mem_append.mp h).elim (fun h => List.mem_cons_of_mem _ (List.mem_append_left _ ((by decide +kernel : ∀ w ∈ ([.methodLink RX12 367 yX12_turnsOf, .instanceMethod yX12_turnsOf, .selects RX12 yX12_turnsOf yX12_turnsOf, .initialized RX12] : List Cond), w ∈ oX12_sizeMade) w h))) (fun h => List.mem_cons_of_mem _ (List.mem_append_right _ (List.mem_append_right _ (List.mem_append_right _ (List.mem_append_right _ (List.mem_append_left _ (h)))))))) (by decide +kernel)
theorem kX12_sizeMade_X12_isName_180 : GoodIn vX12_sizeMade (wsV RX12 180 RX12 yX12_isName vX12_isName) := goodIn_sub (fun w h => (List.mem_append.mp h).elim (fun h => List.mem_cons_of_mem _ (List.mem_append_left _ ((by decide +kernel : ∀ w ∈ ([.methodLink RX12 180 yX12_isName, .instanceMethod yX12_isName, .selects RX12 yX12_isName yX12_isName, .initialized RX12] : List Cond), w ∈ oX12_sizeMade) w h))) (fun h => List.mem_cons_of_mem _ (List.mem_append_right _ (List.mem_append_right _ (List.mem_append_right _ (List.mem_append_right _ (List.mem_append_right _ (List.mem_append_left _ (h))))))))) (by decide +kernel)
theorem kX12_sizeMade_X12_variable_327 : GoodIn vX12_sizeMade (wsV RX12 327 RX12 yX12_variable vX12_variable) := goodIn_sub (fun w h => (List.mem_append.mp h).elim (fun h => List.mem_cons_of_mem _ (List.mem_append_left _ ((by decide +kernel : ∀ w ∈ ([.methodLink RX12 327 yX12_variable, .instanceMethod yX12_variable, .selects RX12 yX12_variable yX12_variable, .initialized RX12] : List Cond), w ∈ oX12_sizeMade) w h))) (fun h => List.mem_cons_of_mem _ (List.mem_append_right _ (List.mem_append_right _ (List.mem_append_right _ (List.mem_append_right _ (List.mem_append_right _ (List.mem_append_right _ (List.mem_append_left _ (h)))))))))) (by decide +kernel)
theorem kX12_sizeMade_X12_sizeOf_370 : GoodIn vX12_sizeMade (wsV RX12 370 RX12 yX12_sizeOf vX12_sizeOf) := goodIn_sub (fun w h => (List.mem_append.mp h).elim (fun h => List.mem_cons_of_mem _ (List.mem_append_left _ ((by decide +kernel : ∀ w ∈ ([.methodLink RX12 370 yX12_sizeOf, .instanceMethod yX12_sizeOf, .selects RX12 yX12_sizeOf yX12_sizeOf, .initialized RX12] : List Cond), w ∈ oX12_sizeMade) w h))) (fun h => List.mem_cons_of_mem _ (List.mem_append_right _ (List.mem_append_right _ (List.mem_append_right _ (List.mem_append_right _ (List.mem_append_right _ (List.mem_append_right _ (List.mem_append_right _ (List.mem_append_left _ (h))))))))))) (by decide +kernel)
theorem p2_ge {q i : Nat} (hq : q < 2 ^ 30) (hi : i < 2 ^ 30) : nI q - 2 ≤ nI i ↔ q ≤ i + 2 := by
  by_cases h : 2 ≤ q
  · rw [show nI q - 2 = nI (q - 2) from pk_sub (a := q) (b := 2) h, nI_leI (by omega) (by omega)]
    omega
  · constructor
    · intro _; omega
    · intro _
      rcases (show q = 0 ∨ q = 1 by omega) with e | e
      · subst e
        rw [Int32.le_iff_toInt_le, nI_toInt (by omega), show (nI 0 - 2 : Int32).toInt = -2 by decide]; omega
      · subst e
        rw [Int32.le_iff_toInt_le, nI_toInt (by omega), show (nI 1 - 2 : Int32).toInt = -1 by decide]; omega
theorem p2_13 : nI 1 = nI 3 - 2 := by decide
set_option maxHeartbeats 4000000 in
set_option maxRecDepth 100000 in
theorem lp_sm1 {p : Program} {l : Launch} {e : Env} {s : State} {m : MethodId} {args : Array Value} {below : List Frame} {meth : Method} {c : Code} {Q : State → Prop} {A : Nat → Prop} {dC : Nat → ClassId} {dI : Nat → Nat → Nat} {cB cC cI cJ cZ : ClassId} {z0 : Nat} {R : Nat → Nat} (hx : p.tables.exec = Jvm.exec) (hb : c.code = cX12_sizeMade) (hml : c.maxLocals = 9) (hown : s.vm.findClass RX12 = some m.cls) (hts : ∀ w ∈ vX12_sizeMade, w.before args s = true) (hK : va_K (dC, dI) vwCl (TY cB cC cI cJ cZ) s) (hA : ∀ q : Nat, s.heap.size ≤ q → A q) {pl : Int32} {N : Nat → Nat} {G : Nat → Nat → Nat} {B : Nat → Nat → Int32} {sz E : Nat → Nat} (hG : ∀ k i, G k i < 1048576) (ht9 : TREE N G sz) (hq9 : TREQ N G sz) (hal : AL N G) (hk9 : KEPT N G) (hRE : ∀ x, (0 < VAR N G x ∧ 0 < G 48 (VAR N G x - 1)) ↔ 0 < E x) (top a1 a0 h0 kx s9 : Nat) (tq : Nat) (htq1 : tq < 1048580) (htq : ¬ ELL G a0 kx → tq - 2 = TK N G sz a0 kx) (hkx : kx < G 12 a0) (ke : ∀ (q : Nat) (L Hw O I : Nat → Nat) (H : Heap) (locs : List Loc), (∀ i, L i < 1048576) → (∀ i, Hw i < 1048576) → (∀ i, O i < 1048576) → (∀ i, I i < 1048576) → q ≤ 83001 → Hw a1 = h0 → SMK N G sz E top a1 a0 h0 (kx + 1) q s9 L Hw → va_P (dC, dI) vwCl (MW cB cC cI cJ cZ z0 R pl (va_up N 53 q) (LK (va_up G 54 I) L Hw O) B) H → va_D A (MW cB cC cI cJ cZ z0 R pl (va_up N 53 q) (LK (va_up G 54 I) L Hw O) B) → va_S A s.heap H locs → ∀ (ls : Array Slot), lv_has ls 9 [(0, .ref z0), (2, .int (nI s9)), (3, .int (nI a1)), (4, .int (nI a0)), (6, .int (nI kx))] → W p l e (headSpec vX12_sizeMade { frames := 3, cells := 0, slots := 0, locals := 70 }).room s m args below meth c H locs 0 0 Q (F0 m 234 ls [])) : ∀ (k : Nat) (i q : Nat) (L Hw O I : Nat → Nat), TK N G sz a0 kx - i < k → (∀ i, L i < 1048576) → (∀ i, Hw i < 1048576) → (∀ i, O i < 1048576) → (∀ i, I i < 1048576) → i ≤ TK N G sz a0 kx → q ≤ 80000 + i → Hw a1 = h0 → SMI N G sz E top a1 a0 h0 kx i q s9 L Hw → ∀ (H : Heap) (locs : List Loc), va_P (dC, dI) vwCl (MW cB cC cI cJ cZ z0 R pl (va_up N 53 q) (LK (va_up G 54 I) L Hw O) B) H → va_D A (MW cB cC cI cJ cZ z0 R pl (va_up N 53 q) (LK (va_up G 54 I) L Hw O) B) → va_S A s.heap H locs → ∀ (ls : Array Slot), lv_has ls 9 [(0, .ref z0), (2, .int (nI s9)), (3, .int (nI a1)), (4, .int (nI a0)), (6, .int (nI kx)), (7, .int (nI tq - 2)), (8, .int (nI i))] → W p l e (headSpec vX12_sizeMade { frames := 3, cells := 0, slots := 0, locals := 70 }).room s m args below meth c H locs 0 0 Q (F0 m 173 ls []) := by
  have hcs : 0 + 0 ≤ (0 : Nat) ∧ 0 + 0 ≤ (0 : Nat) := ⟨Nat.le_refl 0, Nat.le_refl 0⟩
  intro k
  induction k with
  | zero =>
    intro i q L Hw O I hk hL hH hO hI hib hqb hh0 hp H locs hP hD hS ls hl
    exact absurd hk (Nat.not_lt_zero _)
  | succ k ih =>
    intro i q L Hw O I hk hL hH hO hI hib hqb hh0 hp H locs hP hD hS ls hl
    obtain ⟨⟨n1, n2, n3, n6, n7⟩, n4, n5⟩ := id hp
    obtain ⟨u1, u2, u3, u4, u5⟩ := ht9.2 a0 n6
    have u6 := ht9.1
    have g1 := hG 12 a0
    have hG2 := hGLK (hGup (q := 54) hG hI) hL hH hO
    have hp9 : a0 < N 14 := n6
    have hp8 : a0 < 90000 := by omega
    have t8 := cnt_le ht9 n6
    obtain ⟨t1, t2⟩ := u3 kx hkx
    have tkl := TK_le (sz := sz) hk9 a0 kx
    have g7 := n7.1
    refine lv_iload hx hb dX12_sizeMade_173 (lv_at hl 6 rfl) ?_
    refine lv_iload hx hb dX12_sizeMade_175 (lv_at hl 5 rfl) ?_
    refine lv_icmp_ge (tgt := 234) hx hb dX12_sizeMade_177 (by decide) (fun c1 => ?_) (fun c1 => ?_)
    · have c1 := (p2_ge (by omega) (by omega)).mp c1
      have hx9 : TK N G sz a0 kx ≤ i := by
        by_cases ce : ELL G a0 kx
        · rw [TK, if_pos ce]; exact Nat.zero_le _
        · rw [← htq ce]; omega
      exact ke q L Hw O I H locs hL hH hO hI (by omega) hh0 (hp.exit (hx9)) hP hD hS ls (lv_sub hl [0, 1, 2, 3, 4] rfl)
    · have c1 : i + 2 < tq := Nat.lt_of_not_le (fun y => c1 ((p2_ge (by omega) (by omega)).mpr y))
      refine lv_aload_n hx hb dX12_sizeMade_180 rfl (lv_at hl 0 rfl) ?_
      refine lv_iload hx hb dX12_sizeMade_181 (lv_at hl 3 rfl) ?_
      refine lv_iload hx hb dX12_sizeMade_183 (lv_at hl 4 rfl) ?_
      have hch : ∀ j, j < G 12 a0 → G 11 a0 + j < 90000 ∧ CH G a0 j < 90000 ∧ (G 10 (CH G a0 j) = 1 → nmOK N (G 11 (CH G a0 j))) := fun j y => ⟨(ht9.pt hp9 y).1, (ht9.pt hp9 y).2.2.1, (ht9.2 _ (ht9.pt hp9 y).2.1).2.2.2.1⟩
      refine mcl_i (As := [.int (nI a0), .int (nI kx)]) (rest := []) ⟨hx, hb, hml, hown, hts⟩ (m_isEllipsis l dC dI cB cC cI cJ cZ z0 R pl (va_up N 53 q) (LK (va_up G 54 I) L Hw O) B a0 kx hG2 hal (by omega) (by omega) (hch _) H.size) (cwV 2 hts kX12_sizeMade_X12_isEllipsis_321 rfl rfl rfl (by decide +kernel) ⟨Nat.le_of_ble_eq_true rfl, Nat.le_of_ble_eq_true rfl⟩) hK hP hD hS hA rfl rfl hl.1 (lv_room (Nat.le_of_ble_eq_true rfl)) dX12_sizeMade_185 hcs (fun r_5 N_1 G_2 B_3 pl_4 hw H locs hP hD hS => ?_)
      dsimp only at hw
      obtain ⟨e1, e2, e3, e4, hw⟩ := hw
      rw [e1, e2, e3, e4] at hP hD
      have hw : r_5 = nI (if ELL G a0 kx then 1 else 0) := hw
      by_cases c2 : ELL G a0 kx
      · rw [if_pos c2] at hw
        subst hw
        refine bz_ne (tgt := 234) hx hb (by first | omega | exact Nat.lt_of_lt_of_le (hG _ _) (by decide)) dX12_sizeMade_188 (by decide) (fun c => ?_) (fun q9 => absurd q9 (by omega))
        exact ke q L Hw O I H locs hL hH hO hI (by omega) hh0 (hp.exit (by rw [TK, if_pos c2]; exact Nat.zero_le _)) hP hD hS ls (lv_sub hl [0, 1, 2, 3, 4] rfl)
      · rw [if_neg c2] at hw
        subst hw
        have hi9 : i < TK N G sz a0 kx := by rw [← htq c2]; omega
        refine bz_ne (tgt := 234) hx hb (by first | omega | exact Nat.lt_of_lt_of_le (hG _ _) (by decide)) dX12_sizeMade_188 (by decide) (fun q9 => absurd q9 (by omega)) (fun c => ?_)
        refine lv_aload_n hx hb dX12_sizeMade_191 rfl (lv_at hl 0 rfl) ?_
        refine lv_aload_n hx hb dX12_sizeMade_192 rfl (lv_at hl 0 rfl) ?_
        refine lv_iload hx hb dX12_sizeMade_193 (lv_at hl 3 rfl) ?_
        refine lv_iload hx hb dX12_sizeMade_195 (lv_at hl 4 rfl) ?_
        refine mcl_i (As := [.int (nI a0), .int (nI kx)]) (rest := [.ref z0]) ⟨hx, hb, hml, hown, hts⟩ (m_part l dC dI cB cC cI cJ cZ z0 R pl (va_up N 53 q) (LK (va_up G 54 I) L Hw O) B a0 kx hG2 (by omega) t1 H.size) (cwV 2 hts kX12_sizeMade_X12_part_192 rfl rfl rfl (by decide +kernel) ⟨Nat.le_of_ble_eq_true rfl, Nat.le_of_ble_eq_true rfl⟩) hK hP hD hS hA rfl rfl hl.1 (lv_room (Nat.le_of_ble_eq_true rfl)) dX12_sizeMade_197 hcs (fun r_10 N_6 G_7 B_8 pl_9 hw H locs hP hD hS => ?_)
        dsimp only at hw
        obtain ⟨e1, e2, e3, e4, hw⟩ := hw
        rw [e1, e2, e3, e4] at hP hD
        have hw : r_10 = nI (CH G a0 kx) := hw
        subst hw
        refine lv_aload_n hx hb dX12_sizeMade_200 rfl (lv_at hl 0 rfl) ?_
        refine lv_iload hx hb dX12_sizeMade_201 (lv_at hl 3 rfl) ?_
        refine lv_iload hx hb dX12_sizeMade_203 (lv_at hl 4 rfl) ?_
        refine lv_iconst (v := nI 1) hx hb dX12_sizeMade_205 (by decide) ?_
        refine lv_iadd hx hb dX12_sizeMade_206 ?_
        refine tp_i (nI_add kx 1) ?_
        have hch : ∀ j, j < G 12 a0 → G 11 a0 + j < 90000 ∧ CH G a0 j < 90000 ∧ (G 10 (CH G a0 j) = 1 → nmOK N (G 11 (CH G a0 j))) := fun j y => ⟨(ht9.pt hp9 y).1, (ht9.pt hp9 y).2.2.1, (ht9.2 _ (ht9.pt hp9 y).2.1).2.2.2.1⟩
        refine mcl_i (As := [.int (nI a0), .int (nI (kx + 1))]) (rest := [.int (nI (CH G a0 kx)), .ref z0]) ⟨hx, hb, hml, hown, hts⟩ (m_isEllipsis l dC dI cB cC cI cJ cZ z0 R pl (va_up N 53 q) (LK (va_up G 54 I) L Hw O) B a0 (kx + 1) hG2 hal (by omega) (by omega) (hch _) H.size) (cwV 2 hts kX12_sizeMade_X12_isEllipsis_321 rfl rfl rfl (by decide +kernel) ⟨Nat.le_of_ble_eq_true rfl, Nat.le_of_ble_eq_true rfl⟩) hK hP hD hS hA rfl rfl hl.1 (lv_room (Nat.le_of_ble_eq_true rfl)) dX12_sizeMade_207 hcs (fun r_15 N_11 G_12 B_13 pl_14 hw H locs hP hD hS => ?_)
        dsimp only at hw
        obtain ⟨e1, e2, e3, e4, hw⟩ := hw
        rw [e1, e2, e3, e4] at hP hD
        have hw : r_15 = nI (if ELL G a0 (kx + 1) then 1 else 0) := hw
        by_cases c3 : ELL G a0 (kx + 1)
        · rw [if_pos c3] at hw
          subst hw
          have g5 := hH a1
          refine bz_eq (tgt := 218) hx hb (by first | omega | exact Nat.lt_of_lt_of_le (hG _ _) (by decide)) dX12_sizeMade_210 (by decide) (fun q9 => absurd q9 (by omega)) (fun c => ?_)
          refine lv_iload hx hb dX12_sizeMade_213 (lv_at hl 6 rfl) ?_
          refine lv_goto (tgt := 224) hx hb dX12_sizeMade_215 (by decide) ?_
          refine lv_iconst (v := nI 0) hx hb dX12_sizeMade_224 (by decide) ?_
          refine mcl_v (As := [.int (nI (CH G a0 kx)), .int (nI i), .int (nI 0)]) (rest := []) ⟨hx, hb, hml, hown, hts⟩ (m_lookAt l dC dI cB cC cI cJ cZ z0 R pl (va_up N 53 q) (LK (va_up G 54 I) L Hw O) B (CH G a0 kx) i 0 (show q < 90000 from (by omega)) H.size) (cwV 3 hts kX12_sizeMade_X12_lookAt_318 rfl rfl rfl (by decide +kernel) ⟨Nat.le_of_ble_eq_true rfl, Nat.le_of_ble_eq_true rfl⟩) hK hP hD hS hA rfl rfl hl.1 (lv_room (Nat.le_of_ble_eq_true rfl)) dX12_sizeMade_225 hcs (fun  N_16 G_17 B_18 pl_19 hw H locs hP hD hS => ?_)
          dsimp only at hw
          obtain ⟨e1, e2, e3, e4⟩ := hw
          rw [e1, e2, e3, e4, bx_uu, LK_look] at hP hD
          have hP : va_P (dC, dI) vwCl (MW cB cC cI cJ cZ z0 R pl (va_up N 53 (q + 1)) (LK (va_up G 54 I) (va_up L q (CH G a0 kx)) (va_up Hw q i) (va_up O q 0)) B) H := hP
          have hD : va_D A (MW cB cC cI cJ cZ z0 R pl (va_up N 53 (q + 1)) (LK (va_up G 54 I) (va_up L q (CH G a0 kx)) (va_up Hw q i) (va_up O q 0)) B) := hD
          refine lv_iinc (v := nI (i + 1)) (lv' := [(8, .int (nI (i + 1))), (0, .ref z0), (2, .int (nI s9)), (3, .int (nI a1)), (4, .int (nI a0)), (6, .int (nI kx)), (7, .int (nI tq - 2))]) hx hb dX12_sizeMade_228 hl (k := 6) rfl (nI_add i 1) (by decide) rfl (fun ls hl => ?_)
          refine lv_goto (tgt := 173) hx hb dX12_sizeMade_231 (by decide) ?_
          exact ih (i + 1) (q + 1) _ _ _ I (by omega) (hIup hL (by omega)) (hIup hH (by omega)) (hIup hO (by decide)) hI (by omega) (by omega) ((va_up_ne _ _ (by omega)).trans hh0) (hp.push ht9 hk9 hkx hi9 ((if_pos c3).symm)) _ _ hP hD hS ls (lv_sub hl [1, 2, 3, 4, 5, 6, 0] rfl)
        · rw [if_neg c3] at hw
          subst hw
          have g5 := hH a1
          refine bz_eq (tgt := 218) hx hb (by first | omega | exact Nat.lt_of_lt_of_le (hG _ _) (by decide)) dX12_sizeMade_210 (by decide) (fun c => ?_) (fun q9 => absurd q9 (by omega))
          refine lv_aload_n hx hb dX12_sizeMade_218 rfl (lv_at hl 0 rfl) ?_
          refine mg_51 hx hb hts inX12_sizeMade hown hK hP (hts _ lkX12_sizeMade_f101) dX12_sizeMade_219 ?_
          refine lv_iload_n hx hb dX12_sizeMade_222 rfl (lv_at hl 2 rfl) ?_
          refine ml_51 hx hb hK hP (by omega) dX12_sizeMade_223 ?_
          refine tp_i (y := nI (Hw a1)) rfl ?_
          refine lv_iconst (v := nI 0) hx hb dX12_sizeMade_224 (by decide) ?_
          refine mcl_v (As := [.int (nI (CH G a0 kx)), .int (nI (Hw a1)), .int (nI 0)]) (rest := []) ⟨hx, hb, hml, hown, hts⟩ (m_lookAt l dC dI cB cC cI cJ cZ z0 R pl (va_up N 53 q) (LK (va_up G 54 I) L Hw O) B (CH G a0 kx) (Hw a1) 0 (show q < 90000 from (by omega)) H.size) (cwV 3 hts kX12_sizeMade_X12_lookAt_318 rfl rfl rfl (by decide +kernel) ⟨Nat.le_of_ble_eq_true rfl, Nat.le_of_ble_eq_true rfl⟩) hK hP hD hS hA rfl rfl hl.1 (lv_room (Nat.le_of_ble_eq_true rfl)) dX12_sizeMade_225 hcs (fun  N_21 G_22 B_23 pl_24 hw H locs hP hD hS => ?_)
          dsimp only at hw
          obtain ⟨e1, e2, e3, e4⟩ := hw
          rw [e1, e2, e3, e4, bx_uu, LK_look] at hP hD
          have hP : va_P (dC, dI) vwCl (MW cB cC cI cJ cZ z0 R pl (va_up N 53 (q + 1)) (LK (va_up G 54 I) (va_up L q (CH G a0 kx)) (va_up Hw q (Hw a1)) (va_up O q 0)) B) H := hP
          have hD : va_D A (MW cB cC cI cJ cZ z0 R pl (va_up N 53 (q + 1)) (LK (va_up G 54 I) (va_up L q (CH G a0 kx)) (va_up Hw q (Hw a1)) (va_up O q 0)) B) := hD
          refine lv_iinc (v := nI (i + 1)) (lv' := [(8, .int (nI (i + 1))), (0, .ref z0), (2, .int (nI s9)), (3, .int (nI a1)), (4, .int (nI a0)), (6, .int (nI kx)), (7, .int (nI tq - 2))]) hx hb dX12_sizeMade_228 hl (k := 6) rfl (nI_add i 1) (by decide) rfl (fun ls hl => ?_)
          refine lv_goto (tgt := 173) hx hb dX12_sizeMade_231 (by decide) ?_
          exact ih (i + 1) (q + 1) _ _ _ I (by omega) (hIup hL (by omega)) (hIup hH (by omega)) (hIup hO (by decide)) hI (by omega) (by omega) ((va_up_ne _ _ (by omega)).trans hh0) (hp.push ht9 hk9 hkx hi9 (by rw [hh0]; exact (if_neg c3).symm)) _ _ hP hD hS ls (lv_sub hl [1, 2, 3, 4, 5, 6, 0] rfl)

set_option maxHeartbeats 4000000 in
set_option maxRecDepth 100000 in
theorem lp_sm2 {p : Program} {l : Launch} {e : Env} {s : State} {m : MethodId} {args : Array Value} {below : List Frame} {meth : Method} {c : Code} {Q : State → Prop} {A : Nat → Prop} {dC : Nat → ClassId} {dI : Nat → Nat → Nat} {cB cC cI cJ cZ : ClassId} {z0 : Nat} {R : Nat → Nat} (hx : p.tables.exec = Jvm.exec) (hb : c.code = cX12_sizeMade) (hml : c.maxLocals = 9) (hown : s.vm.findClass RX12 = some m.cls) (hts : ∀ w ∈ vX12_sizeMade, w.before args s = true) (hK : va_K (dC, dI) vwCl (TY cB cC cI cJ cZ) s) (hA : ∀ q : Nat, s.heap.size ≤ q → A q) {pl : Int32} {N : Nat → Nat} {G : Nat → Nat → Nat} {B : Nat → Nat → Int32} {sz E : Nat → Nat} (hG : ∀ k i, G k i < 1048576) (ht9 : TREE N G sz) (hq9 : TREQ N G sz) (hal : AL N G) (hk9 : KEPT N G) (hRE : ∀ x, (0 < VAR N G x ∧ 0 < G 48 (VAR N G x - 1)) ↔ 0 < E x) (top a1 a0 h0 s9 : Nat) (ke : ∀ (q : Nat) (L Hw O I : Nat → Nat) (H : Heap) (locs : List Loc), (∀ i, L i < 1048576) → (∀ i, Hw i < 1048576) → (∀ i, O i < 1048576) → (∀ i, I i < 1048576) → q ≤ 83001 → SMO N G sz E top (a1 + 1) q s9 L Hw → va_P (dC, dI) vwCl (MW cB cC cI cJ cZ z0 R pl (va_up N 53 q) (LK (va_up G 54 I) L Hw O) B) H → va_D A (MW cB cC cI cJ cZ z0 R pl (va_up N 53 q) (LK (va_up G 54 I) L Hw O) B) → va_S A s.heap H locs → ∀ (ls : Array Slot), lv_has ls 9 [(0, .ref z0), (2, .int (nI s9)), (3, .int (nI a1))] → W p l e (headSpec vX12_sizeMade { frames := 3, cells := 0, slots := 0, locals := 70 }).room s m args below meth c H locs 0 0 Q (F0 m 240 ls [])) : ∀ (k : Nat) (kx q : Nat) (L Hw O I : Nat → Nat), G 12 a0 - kx < k → kx ≤ 1048576 → (∀ i, L i < 1048576) → (∀ i, Hw i < 1048576) → (∀ i, O i < 1048576) → (∀ i, I i < 1048576) → q ≤ 83001 → Hw a1 = h0 → SMK N G sz E top a1 a0 h0 kx q s9 L Hw → ∀ (H : Heap) (locs : List Loc), va_P (dC, dI) vwCl (MW cB cC cI cJ cZ z0 R pl (va_up N 53 q) (LK (va_up G 54 I) L Hw O) B) H → va_D A (MW cB cC cI cJ cZ z0 R pl (va_up N 53 q) (LK (va_up G 54 I) L Hw O) B) → va_S A s.heap H locs → ∀ (ls : Array Slot), lv_has ls 9 [(0, .ref z0), (2, .int (nI s9)), (3, .int (nI a1)), (4, .int (nI a0)), (6, .int (nI kx))] → W p l e (headSpec vX12_sizeMade { frames := 3, cells := 0, slots := 0, locals := 70 }).room s m args below meth c H locs 0 0 Q (F0 m 117 ls []) := by
  have hcs : 0 + 0 ≤ (0 : Nat) ∧ 0 + 0 ≤ (0 : Nat) := ⟨Nat.le_refl 0, Nat.le_refl 0⟩
  intro k
  induction k with
  | zero =>
    intro kx q L Hw O I hk hkb hL hH hO hI hqb hh0 hp
    omega
  | succ k ih =>
    intro kx q L Hw O I hk hkb hL hH hO hI hqb hh0 hp H locs hP hD hS ls hl
    obtain ⟨⟨n1, n2, n3, n6, n7⟩, n4, n5⟩ := id hp
    obtain ⟨u1, u2, u3, u4, u5⟩ := ht9.2 a0 n6
    have u6 := ht9.1
    have g1 := hG 12 a0
    have hG2 := hGLK (hGup (q := 54) hG hI) hL hH hO
    have hp9 : a0 < N 14 := n6
    have hp8 : a0 < 90000 := by omega
    have t8 := cnt_le ht9 n6
    refine lv_iload hx hb dX12_sizeMade_117 (lv_at hl 4 rfl) ?_
    refine lv_aload_n hx hb dX12_sizeMade_119 rfl (lv_at hl 0 rfl) ?_
    refine mg_12 hx hb hts inX12_sizeMade hown hK hP (hts _ lkX12_sizeMade_f38) dX12_sizeMade_120 ?_
    refine lv_iload hx hb dX12_sizeMade_123 (lv_at hl 3 rfl) ?_
    refine ml_12 hx hb hK hP (by omega) dX12_sizeMade_125 ?_
    refine tp_i (y := nI (G 12 a0)) rfl ?_
    refine bn_ge (tgt := 240) hx hb (by first | omega | exact Nat.lt_of_lt_of_le (hG _ _) (by decide)) (by first | omega | exact Nat.lt_of_lt_of_le (hG _ _) (by decide)) dX12_sizeMade_126 (by decide) (fun c1 => ?_) (fun c1 => ?_)
    · exact ke q L Hw O I H locs hL hH hO hI hqb (hp.exit (Or.inl c1)) hP hD hS ls (lv_sub hl [0, 1, 2] rfl)
    · obtain ⟨t1, t2⟩ := u3 kx c1
      refine lv_aload_n hx hb dX12_sizeMade_129 rfl (lv_at hl 0 rfl) ?_
      refine mg_53 hx hb hts inX12_sizeMade hown hK hP (hts _ lkX12_sizeMade_f306) dX12_sizeMade_130 ?_
      refine tp_i (y := nI q) rfl ?_
      refine lv_ldcw (v := nI 80000) hx hb hown (hts _ lkX12_sizeMade_c373) dX12_sizeMade_133 ?_
      refine bn_ge (tgt := 240) hx hb (by first | omega | exact Nat.lt_of_lt_of_le (hG _ _) (by decide)) (by first | omega | exact Nat.lt_of_lt_of_le (hG _ _) (by decide)) dX12_sizeMade_136 (by decide) (fun c2 => ?_) (fun c2 => ?_)
      · exact ke q L Hw O I H locs hL hH hO hI hqb (hp.exit (Or.inr c2)) hP hD hS ls (lv_sub hl [0, 1, 2] rfl)
      · refine lv_aload_n hx hb dX12_sizeMade_139 rfl (lv_at hl 0 rfl) ?_
        refine lv_iload hx hb dX12_sizeMade_140 (lv_at hl 3 rfl) ?_
        refine lv_iload hx hb dX12_sizeMade_142 (lv_at hl 4 rfl) ?_
        refine lv_iconst (v := nI 1) hx hb dX12_sizeMade_144 (by decide) ?_
        refine lv_iadd hx hb dX12_sizeMade_145 ?_
        refine tp_i (nI_add kx 1) ?_
        have hch : ∀ j, j < G 12 a0 → G 11 a0 + j < 90000 ∧ CH G a0 j < 90000 ∧ (G 10 (CH G a0 j) = 1 → nmOK N (G 11 (CH G a0 j))) := fun j y => ⟨(ht9.pt hp9 y).1, (ht9.pt hp9 y).2.2.1, (ht9.2 _ (ht9.pt hp9 y).2.1).2.2.2.1⟩
        refine mcl_i (As := [.int (nI a0), .int (nI (kx + 1))]) (rest := []) ⟨hx, hb, hml, hown, hts⟩ (m_isEllipsis l dC dI cB cC cI cJ cZ z0 R pl (va_up N 53 q) (LK (va_up G 54 I) L Hw O) B a0 (kx + 1) hG2 hal (by omega) (by omega) (hch _) H.size) (cwV 2 hts kX12_sizeMade_X12_isEllipsis_321 rfl rfl rfl (by decide +kernel) ⟨Nat.le_of_ble_eq_true rfl, Nat.le_of_ble_eq_true rfl⟩) hK hP hD hS hA rfl rfl hl.1 (lv_room (Nat.le_of_ble_eq_true rfl)) dX12_sizeMade_146 hcs (fun r_5 N_1 G_2 B_3 pl_4 hw H locs hP hD hS => ?_)
        dsimp only at hw
        obtain ⟨e1, e2, e3, e4, hw⟩ := hw
        rw [e1, e2, e3, e4] at hP hD
        have hw : r_5 = nI (if ELL G a0 (kx + 1) then 1 else 0) := hw
        by_cases c3 : ELL G a0 (kx + 1)
        · rw [if_pos c3] at hw
          subst hw
          refine bz_eq (tgt := 167) hx hb (by first | omega | exact Nat.lt_of_lt_of_le (hG _ _) (by decide)) dX12_sizeMade_149 (by decide) (fun q9 => absurd q9 (by omega)) (fun c => ?_)
          refine lv_aload_n hx hb dX12_sizeMade_152 rfl (lv_at hl 0 rfl) ?_
          refine lv_aload_n hx hb dX12_sizeMade_153 rfl (lv_at hl 0 rfl) ?_
          refine lv_iload hx hb dX12_sizeMade_154 (lv_at hl 3 rfl) ?_
          refine lv_iload hx hb dX12_sizeMade_156 (lv_at hl 4 rfl) ?_
          refine mcl_i (As := [.int (nI a0), .int (nI kx)]) (rest := [.ref z0]) ⟨hx, hb, hml, hown, hts⟩ (m_part l dC dI cB cC cI cJ cZ z0 R pl (va_up N 53 q) (LK (va_up G 54 I) L Hw O) B a0 kx hG2 (by omega) t1 H.size) (cwV 2 hts kX12_sizeMade_X12_part_192 rfl rfl rfl (by decide +kernel) ⟨Nat.le_of_ble_eq_true rfl, Nat.le_of_ble_eq_true rfl⟩) hK hP hD hS hA rfl rfl hl.1 (lv_room (Nat.le_of_ble_eq_true rfl)) dX12_sizeMade_158 hcs (fun r_10 N_6 G_7 B_8 pl_9 hw H locs hP hD hS => ?_)
          dsimp only at hw
          obtain ⟨e1, e2, e3, e4, hw⟩ := hw
          rw [e1, e2, e3, e4] at hP hD
          have hw : r_10 = nI (CH G a0 kx) := hw
          subst hw
          refine mcl_i (As := [.int (nI (CH G a0 kx))]) (rest := []) ⟨hx, hb, hml, hown, hts⟩ (m_turnsOf l dC dI cB cC cI cJ cZ z0 R pl (va_up N 53 q) (LK (va_up G 54 I) L Hw O) B (CH G a0 kx) sz hG2 ht9 hk9.1 t2 H.size) (cwV 1 hts kX12_sizeMade_X12_turnsOf_367 rfl rfl rfl (by decide +kernel) ⟨Nat.le_of_ble_eq_true rfl, Nat.le_of_ble_eq_true rfl⟩) hK hP hD hS hA rfl rfl hl.1 (lv_room (Nat.le_of_ble_eq_true rfl)) dX12_sizeMade_161 hcs (fun r_15 N_11 G_12 B_13 pl_14 hw H locs hP hD hS => ?_)
          dsimp only at hw
          obtain ⟨e1, ⟨I2, hI2, e2⟩, e3, e4, q9, hq8, hw, hq7⟩ := hw
          rw [e1, e2, e3, e4, LK54, bx_uu] at hP hD
          subst hw
          have hq7 : q9 - 2 = TRN N G sz (CH G a0 kx) := hq7
          refine lv_goto (tgt := 168) hx hb dX12_sizeMade_164 (by decide) ?_
          refine lv_istore (lv' := [(7, .int (nI q9 - 2)), (0, .ref z0), (2, .int (nI s9)), (3, .int (nI a1)), (4, .int (nI a0)), (6, .int (nI kx))]) hx hb dX12_sizeMade_168 hl (by decide) rfl (fun ls hl => ?_)
          refine lv_iconst (v := nI 0) hx hb dX12_sizeMade_170 (by decide) ?_
          refine lv_istore (lv' := [(8, .int (nI 0)), (7, .int (nI q9 - 2)), (0, .ref z0), (2, .int (nI s9)), (3, .int (nI a1)), (4, .int (nI a0)), (6, .int (nI kx))]) hx hb dX12_sizeMade_171 hl (by decide) rfl (fun ls hl => ?_)
          refine lp_sm1 hx hb hml hown hts hK hA hG ht9 hq9 hal hk9 hRE top a1 a0 h0 kx s9 q9 (hq8) (fun ce => by rw [hq7, TK, if_neg ce, if_pos c3]) c1 (fun q L Hw O I H locs hL hH hO hI hqb hh0 hp hP hD hS ls hl => ?_) _ 0 q L Hw O I2 (Nat.lt_succ_self _) hL hH hO hI2 (Nat.zero_le _) (by omega) hh0 (hp.enter c1) _ _ hP hD hS ls (lv_sub hl [2, 3, 4, 5, 6, 1, 0] rfl)
          refine lv_iinc (v := nI (kx + 1)) (lv' := [(6, .int (nI (kx + 1))), (0, .ref z0), (2, .int (nI s9)), (3, .int (nI a1)), (4, .int (nI a0))]) hx hb dX12_sizeMade_234 hl (k := 4) rfl (nI_add kx 1) (by decide) rfl (fun ls hl => ?_)
          refine lv_goto (tgt := 117) hx hb dX12_sizeMade_237 (by decide) ?_
          exact ih (kx + 1) q L Hw O I (by omega) (by omega) hL hH hO hI hqb hh0 hp _ _ hP hD hS ls (lv_sub hl [1, 2, 3, 4, 0] rfl)
        · rw [if_neg c3] at hw
          subst hw
          refine bz_eq (tgt := 167) hx hb (by first | omega | exact Nat.lt_of_lt_of_le (hG _ _) (by decide)) dX12_sizeMade_149 (by decide) (fun c => ?_) (fun q9 => absurd q9 (by omega))
          refine lv_iconst (v := nI 1) hx hb dX12_sizeMade_167 (by decide) ?_
          refine tp_i p2_13 ?_
          refine lv_istore (lv' := [(7, .int (nI 3 - 2)), (0, .ref z0), (2, .int (nI s9)), (3, .int (nI a1)), (4, .int (nI a0)), (6, .int (nI kx))]) hx hb dX12_sizeMade_168 hl (by decide) rfl (fun ls hl => ?_)
          refine lv_iconst (v := nI 0) hx hb dX12_sizeMade_170 (by decide) ?_
          refine lv_istore (lv' := [(8, .int (nI 0)), (7, .int (nI 3 - 2)), (0, .ref z0), (2, .int (nI s9)), (3, .int (nI a1)), (4, .int (nI a0)), (6, .int (nI kx))]) hx hb dX12_sizeMade_171 hl (by decide) rfl (fun ls hl => ?_)
          refine lp_sm1 hx hb hml hown hts hK hA hG ht9 hq9 hal hk9 hRE top a1 a0 h0 kx s9 3 (by decide) (fun ce => by rw [TK, if_neg ce, if_neg c3]) c1 (fun q L Hw O I H locs hL hH hO hI hqb hh0 hp hP hD hS ls hl => ?_) _ 0 q L Hw O I (Nat.lt_succ_self _) hL hH hO hI (Nat.zero_le _) (by omega) hh0 (hp.enter c1) _ _ hP hD hS ls (lv_sub hl [2, 3, 4, 5, 6, 1, 0] rfl)
          refine lv_iinc (v := nI (kx + 1)) (lv' := [(6, .int (nI (kx + 1))), (0, .ref z0), (2, .int (nI s9)), (3, .int (nI a1)), (4, .int (nI a0))]) hx hb dX12_sizeMade_234 hl (k := 4) rfl (nI_add kx 1) (by decide) rfl (fun ls hl => ?_)
          refine lv_goto (tgt := 117) hx hb dX12_sizeMade_237 (by decide) ?_
          exact ih (kx + 1) q L Hw O I (by omega) (by omega) hL hH hO hI hqb hh0 hp _ _ hP hD hS ls (lv_sub hl [1, 2, 3, 4, 0] rfl)

set_option maxHeartbeats 4000000 in
set_option maxRecDepth 100000 in
theorem lp_sm3 {p : Program} {l : Launch} {e : Env} {s : State} {m : MethodId} {args : Array Value} {below : List Frame} {meth : Method} {c : Code} {Q : State → Prop} {A : Nat → Prop} {dC : Nat → ClassId} {dI : Nat → Nat → Nat} {cB cC cI cJ cZ : ClassId} {z0 : Nat} {R : Nat → Nat} (hx : p.tables.exec = Jvm.exec) (hb : c.code = cX12_sizeMade) (hml : c.maxLocals = 9) (hown : s.vm.findClass RX12 = some m.cls) (hts : ∀ w ∈ vX12_sizeMade, w.before args s = true) (hK : va_K (dC, dI) vwCl (TY cB cC cI cJ cZ) s) (hA : ∀ q : Nat, s.heap.size ≤ q → A q) {pl : Int32} {N : Nat → Nat} {G : Nat → Nat → Nat} {B : Nat → Nat → Int32} {sz E : Nat → Nat} (hG : ∀ k i, G k i < 1048576) (ht9 : TREE N G sz) (hq9 : TREQ N G sz) (hal : AL N G) (hk9 : KEPT N G) (hRE : ∀ x, (0 < VAR N G x ∧ 0 < G 48 (VAR N G x - 1)) ↔ 0 < E x) (top : Nat) (ke : ∀ (q s9 : Nat) (L Hw O I : Nat → Nat) (H : Heap) (locs : List Loc), (∀ i, L i < 1048576) → (∀ i, Hw i < 1048576) → (∀ i, O i < 1048576) → (∀ i, I i < 1048576) → q ≤ 83001 → (s9 ≤ 3601 ∧ (s9 ≤ 600 → SZM N G sz top 0 = s9)) → va_P (dC, dI) vwCl (MW cB cC cI cJ cZ z0 R pl (va_up N 53 q) (LK (va_up G 54 I) L Hw O) B) H → va_D A (MW cB cC cI cJ cZ z0 R pl (va_up N 53 q) (LK (va_up G 54 I) L Hw O) B) → va_S A s.heap H locs → ∀ (ls : Array Slot), lv_has ls 9 [(2, .int (nI s9))] → W p l e (headSpec vX12_sizeMade { frames := 3, cells := 0, slots := 0, locals := 70 }).room s m args below meth c H locs 0 0 Q (F0 m 246 ls [])) : ∀ (k : Nat) (a1 q s9 : Nat) (L Hw O I : Nat → Nat), 83002 - a1 < k → (∀ i, L i < 1048576) → (∀ i, Hw i < 1048576) → (∀ i, O i < 1048576) → (∀ i, I i < 1048576) → q ≤ 83001 → SMO N G sz E top a1 q s9 L Hw → ∀ (H : Heap) (locs : List Loc), va_P (dC, dI) vwCl (MW cB cC cI cJ cZ z0 R pl (va_up N 53 q) (LK (va_up G 54 I) L Hw O) B) H → va_D A (MW cB cC cI cJ cZ z0 R pl (va_up N 53 q) (LK (va_up G 54 I) L Hw O) B) → va_S A s.heap H locs → ∀ (ls : Array Slot), lv_has ls 9 [(0, .ref z0), (2, .int (nI s9)), (3, .int (nI a1))] → W p l e (headSpec vX12_sizeMade { frames := 3, cells := 0, slots := 0, locals := 70 }).room s m args below meth c H locs 0 0 Q (F0 m 16 ls []) := by
  have hcs : 0 + 0 ≤ (0 : Nat) ∧ 0 + 0 ≤ (0 : Nat) := ⟨Nat.le_refl 0, Nat.le_refl 0⟩
  intro k
  induction k with
  | zero =>
    intro a1 q s9 L Hw O I hk hL hH hO hI hqb hp H locs hP hD hS ls hl
    exact absurd hk (Nat.not_lt_zero _)
  | succ k ih =>
    intro a1 q s9 L Hw O I hk hL hH hO hI hqb hp H locs hP hD hS ls hl
    obtain ⟨⟨n1, n2, n3⟩, n4, n5⟩ := id hp
    have u6 := ht9.1
    have hG2 := hGLK (hGup (q := 54) hG hI) hL hH hO
    refine lv_iload_n hx hb dX12_sizeMade_16 rfl (lv_at hl 2 rfl) ?_
    refine lv_aload_n hx hb dX12_sizeMade_17 rfl (lv_at hl 0 rfl) ?_
    refine mg_53 hx hb hts inX12_sizeMade hown hK hP (hts _ lkX12_sizeMade_f306) dX12_sizeMade_18 ?_
    refine tp_i (y := nI q) rfl ?_
    refine bn_ge (tgt := 246) hx hb (by first | omega | exact Nat.lt_of_lt_of_le (hG _ _) (by decide)) (by first | omega | exact Nat.lt_of_lt_of_le (hG _ _) (by decide)) dX12_sizeMade_21 (by decide) (fun c1 => ?_) (fun c1 => ?_)
    · exact ke q s9 L Hw O I H locs hL hH hO hI hqb (hp.fin (Or.inl c1)) hP hD hS ls (lv_sub hl [1] rfl)
    · refine lv_iload_n hx hb dX12_sizeMade_24 rfl (lv_at hl 1 rfl) ?_
      refine lv_sipush (v := nI 600) hx hb dX12_sizeMade_25 (by decide) ?_
      refine bn_gt (tgt := 246) hx hb (by first | omega | exact Nat.lt_of_lt_of_le (hG _ _) (by decide)) (by first | omega | exact Nat.lt_of_lt_of_le (hG _ _) (by decide)) dX12_sizeMade_28 (by decide) (fun c2 => ?_) (fun c2 => ?_)
      · exact ke q s9 L Hw O I H locs hL hH hO hI hqb (hp.fin (Or.inr c2)) hP hD hS ls (lv_sub hl [1] rfl)
      · obtain ⟨p1, p2⟩ := n4 a1 c1
        have hl8 : L a1 < 90000 := by omega
        refine lv_aload_n hx hb dX12_sizeMade_31 rfl (lv_at hl 0 rfl) ?_
        refine mg_50 hx hb hts inX12_sizeMade hown hK hP (hts _ lkX12_sizeMade_f98) dX12_sizeMade_32 ?_
        refine lv_iload_n hx hb dX12_sizeMade_35 rfl (lv_at hl 2 rfl) ?_
        refine ml_50 hx hb hK hP (by omega) dX12_sizeMade_36 ?_
        refine tp_i (y := nI (L a1)) rfl ?_
        refine lv_istore (lv' := [(4, .int (nI (L a1))), (0, .ref z0), (2, .int (nI s9)), (3, .int (nI a1))]) hx hb dX12_sizeMade_37 hl (by decide) rfl (fun ls hl => ?_)
        refine lv_aload_n hx hb dX12_sizeMade_39 rfl (lv_at hl 1 rfl) ?_
        refine lv_iload hx hb dX12_sizeMade_40 (lv_at hl 0 rfl) ?_
        refine mcl_i (As := [.int (nI (L a1))]) (rest := []) ⟨hx, hb, hml, hown, hts⟩ (m_isName l dC dI cB cC cI cJ cZ z0 R pl (va_up N 53 q) (LK (va_up G 54 I) L Hw O) B (L a1) hG2 (by omega) H.size) (cwV 1 hts kX12_sizeMade_X12_isName_180 rfl rfl rfl (by decide +kernel) ⟨Nat.le_of_ble_eq_true rfl, Nat.le_of_ble_eq_true rfl⟩) hK hP hD hS hA rfl rfl hl.1 (lv_room (Nat.le_of_ble_eq_true rfl)) dX12_sizeMade_42 hcs (fun r_6 N_2 G_3 B_4 pl_5 hw H locs hP hD hS => ?_)
        dsimp only at hw
        obtain ⟨e1, e2, e3, e4, hw⟩ := hw
        rw [e1, e2, e3, e4] at hP hD
        have hw : r_6 = nI (if G 10 (L a1) = 1 then 1 else 0) := hw
        by_cases c_1 : G 10 (L a1) = 1
        · rw [if_pos c_1] at hw
          subst hw
          refine bz_eq (tgt := 62) hx hb (by first | omega | exact Nat.lt_of_lt_of_le (hG _ _) (by decide)) dX12_sizeMade_45 (by decide) (fun q9 => absurd q9 (by omega)) (fun c => ?_)
          refine lv_aload_n hx hb dX12_sizeMade_48 rfl (lv_at hl 1 rfl) ?_
          refine lv_aload_n hx hb dX12_sizeMade_49 rfl (lv_at hl 1 rfl) ?_
          refine mg_11 hx hb hts inX12_sizeMade hown hK hP (hts _ lkX12_sizeMade_f35) dX12_sizeMade_50 ?_
          refine lv_iload hx hb dX12_sizeMade_53 (lv_at hl 0 rfl) ?_
          refine ml_11 hx hb hK hP (by omega) dX12_sizeMade_55 ?_
          refine tp_i (y := nI (G 11 (L a1))) rfl ?_
          refine mcl_i (As := [.int (nI (G 11 (L a1)))]) (rest := []) ⟨hx, hb, hml, hown, hts⟩ (m_variable l dC dI cB cC cI cJ cZ z0 R pl (va_up N 53 q) (LK (va_up G 54 I) L Hw O) B (G 11 (L a1)) hG2 hk9.1 (hG 11 (L a1)) H.size) (cwV 1 hts kX12_sizeMade_X12_variable_327 rfl rfl rfl (by decide +kernel) ⟨Nat.le_of_ble_eq_true rfl, Nat.le_of_ble_eq_true rfl⟩) hK hP hD hS hA rfl rfl hl.1 (lv_room (Nat.le_of_ble_eq_true rfl)) dX12_sizeMade_56 hcs (fun r_11 N_7 G_8 B_9 pl_10 hw H locs hP hD hS => ?_)
          dsimp only at hw
          obtain ⟨e1, e2, e3, e4, hw⟩ := hw
          rw [e1, e2, e3, e4] at hP hD
          have hw : r_11 = nI (VAR N G (G 11 (L a1))) - 1 := hw
          subst hw
          have v1 : VAR N G (G 11 (L a1)) ≤ N 49 := varF_le (G 47) (G 11 (L a1)) (N 49)
          have v2 := hk9.1
          refine lv_goto (tgt := 63) hx hb dX12_sizeMade_59 (by decide) ?_
          refine lv_istore (lv' := [(5, .int (nI (VAR N G (G 11 (L a1))) - 1)), (4, .int (nI (L a1))), (0, .ref z0), (2, .int (nI s9)), (3, .int (nI a1))]) hx hb dX12_sizeMade_63 hl (by decide) rfl (fun ls hl => ?_)
          refine lv_iload_n hx hb dX12_sizeMade_65 rfl (lv_at hl 3 rfl) ?_
          refine lv_iload hx hb dX12_sizeMade_66 (lv_at hl 0 rfl) ?_
          refine bo_lt (tgt := 111) hx hb (by first | omega | exact Nat.lt_of_lt_of_le (hG _ _) (by decide)) dX12_sizeMade_68 (by decide) (fun c3 => ?_) (fun c3 => ?_)
          · refine lv_iconst (v := nI 1) hx hb dX12_sizeMade_111 (by decide) ?_
            refine lv_iadd hx hb dX12_sizeMade_112 ?_
            refine tp_i (nI_add s9 1) ?_
            obtain ⟨s2, hs2⟩ : ∃ s2, s2 = s9 + 1 := ⟨_, rfl⟩
            refine tp_i (y := nI s2) (by rw [hs2]) ?_
            refine lv_istore_n (lv' := [(2, .int (nI s2)), (5, .int (nI (VAR N G (G 11 (L a1))) - 1)), (4, .int (nI (L a1))), (0, .ref z0), (3, .int (nI a1))]) hx hb dX12_sizeMade_113 rfl hl (by decide) rfl (fun ls hl => ?_)
            refine lv_iconst (v := nI 0) hx hb dX12_sizeMade_114 (by decide) ?_
            refine lv_istore (lv' := [(6, .int (nI 0)), (2, .int (nI s2)), (5, .int (nI (VAR N G (G 11 (L a1))) - 1)), (4, .int (nI (L a1))), (0, .ref z0), (3, .int (nI a1))]) hx hb dX12_sizeMade_115 hl (by decide) rfl (fun ls hl => ?_)
            have hent := hp.enter ht9 c1 (by omega) (s2 := s2) (by rw [hs2]; rw [if_neg (fun y => by omega)]) (by omega) (by omega)
            refine lp_sm2 hx hb hml hown hts hK hA hG ht9 hq9 hal hk9 hRE top a1 (L a1) (Hw a1) (s2) (fun q L Hw O I H locs hL hH hO hI hqb hp hP hD hS ls hl => ?_) _ 0 q L Hw O I (Nat.lt_succ_self _) (by decide) hL hH hO hI hqb rfl hent _ _ hP hD hS ls (lv_sub hl [4, 1, 5, 3, 0] rfl)
            refine lv_iinc (v := nI (a1 + 1)) (lv' := [(3, .int (nI (a1 + 1))), (0, .ref z0), (2, .int (nI s2))]) hx hb dX12_sizeMade_240 hl (k := 2) rfl (nI_add a1 1) (by decide) rfl (fun ls hl => ?_)
            refine lv_goto (tgt := 16) hx hb dX12_sizeMade_243 (by decide) ?_
            have m9 := hp.1
            exact ih (a1 + 1) q (s2) L Hw O I (by omega) hL hH hO hI hqb hp _ _ hP hD hS ls (lv_sub hl [1, 2, 0] rfl)
          · obtain ⟨m1, m2, m3⟩ := GOOD.var ht9 hk9 hRE p2 p1 c_1 c3
            have m4 := ht9.one m3
            have m5 := (ht9.2 _ m3).2.1
            have g48 := hG 48 (VAR N G (G 11 (L a1)) - 1)
            refine lv_aload_n hx hb dX12_sizeMade_71 rfl (lv_at hl 2 rfl) ?_
            refine lv_aload_n hx hb dX12_sizeMade_72 rfl (lv_at hl 2 rfl) ?_
            refine mg_57 hx hb hts inX12_sizeMade hown hK hP (hts _ lkX12_sizeMade_f116) dX12_sizeMade_73 ?_
            refine lv_aload_n hx hb dX12_sizeMade_76 rfl (lv_at hl 2 rfl) ?_
            refine mg_55 hx hb hts inX12_sizeMade hown hK hP (hts _ lkX12_sizeMade_f110) dX12_sizeMade_77 ?_
            refine lv_iload hx hb dX12_sizeMade_80 (lv_at hl 0 rfl) ?_
            refine tp_i (om1 (c3)) ?_
            refine ml_55 hx hb hK hP (by omega) dX12_sizeMade_82 ?_
            refine tp_i (y := nI (G 55 ((VAR N G (G 11 (L a1))) - 1))) rfl ?_
            refine lv_aload_n hx hb dX12_sizeMade_83 rfl (lv_at hl 2 rfl) ?_
            refine mg_48 hx hb hts inX12_sizeMade hown hK hP (hts _ lkX12_sizeMade_f94) dX12_sizeMade_84 ?_
            refine lv_iload hx hb dX12_sizeMade_87 (lv_at hl 0 rfl) ?_
            refine tp_i (om1 (c3)) ?_
            refine ml_48 hx hb hK hP (by omega) dX12_sizeMade_89 ?_
            refine tp_i (y := nI (G 48 ((VAR N G (G 11 (L a1))) - 1))) rfl ?_
            refine bz_eq (tgt := 102) hx hb (by first | omega | exact Nat.lt_of_lt_of_le (hG _ _) (by decide)) dX12_sizeMade_90 (by decide) (fun c4 => ?_) (fun c4 => ?_)
            · have em : MTX G (VAR N G (G 11 (L a1)) - 1) (Hw a1) = G 55 (VAR N G (G 11 (L a1)) - 1) + 0 := congrArg _ (if_neg (by omega))
              rw [em] at m2 m3 m4 m5
              refine lv_iconst (v := nI 0) hx hb dX12_sizeMade_102 (by decide) ?_
              refine lv_iadd hx hb dX12_sizeMade_103 ?_
              refine tp_i (nI_add (G 55 ((VAR N G (G 11 (L a1))) - 1)) 0) ?_
              refine ml_57 hx hb hK hP (by omega) dX12_sizeMade_104 ?_
              refine tp_i (y := nI (G 57 ((G 55 ((VAR N G (G 11 (L a1))) - 1)) + 0))) rfl ?_
              refine mcl_i (As := [.int (nI (G 57 ((G 55 ((VAR N G (G 11 (L a1))) - 1)) + 0)))]) (rest := [.int (nI s9)]) ⟨hx, hb, hml, hown, hts⟩ (m_sizeOf l dC dI cB cC cI cJ cZ z0 R pl (va_up N 53 q) (LK (va_up G 54 I) L Hw O) B (G 57 (G 55 (VAR N G (G 11 (L a1)) - 1) + 0)) sz hG2 ht9 hq9 m3 H.size) (cwV 1 hts kX12_sizeMade_X12_sizeOf_370 rfl rfl rfl (by decide +kernel) ⟨Nat.le_of_ble_eq_true rfl, Nat.le_of_ble_eq_true rfl⟩) hK hP hD hS hA rfl rfl hl.1 (lv_room (Nat.le_of_ble_eq_true rfl)) dX12_sizeMade_105 hcs (fun r_16 N_12 G_13 B_14 pl_15 hw H locs hP hD hS => ?_)
              dsimp only at hw
              obtain ⟨e1, ⟨I2, hI2, e2⟩, e3, e4, hw⟩ := hw
              rw [e1, e2, e3, e4, LK54, bx_uu] at hP hD
              subst hw
              refine lv_goto (tgt := 112) hx hb dX12_sizeMade_108 (by decide) ?_
              refine lv_iadd hx hb dX12_sizeMade_112 ?_
              refine tp_i (nI_add s9 (sz (G 57 (G 55 (VAR N G (G 11 (L a1)) - 1) + 0)))) ?_
              obtain ⟨s2, hs2⟩ : ∃ s2, s2 = s9 + sz (G 57 (G 55 (VAR N G (G 11 (L a1)) - 1) + 0)) := ⟨_, rfl⟩
              refine tp_i (y := nI s2) (by rw [hs2]) ?_
              refine lv_istore_n (lv' := [(2, .int (nI s2)), (5, .int (nI (VAR N G (G 11 (L a1))) - 1)), (4, .int (nI (L a1))), (0, .ref z0), (3, .int (nI a1))]) hx hb dX12_sizeMade_113 rfl hl (by decide) rfl (fun ls hl => ?_)
              refine lv_iconst (v := nI 0) hx hb dX12_sizeMade_114 (by decide) ?_
              refine lv_istore (lv' := [(6, .int (nI 0)), (2, .int (nI s2)), (5, .int (nI (VAR N G (G 11 (L a1))) - 1)), (4, .int (nI (L a1))), (0, .ref z0), (3, .int (nI a1))]) hx hb dX12_sizeMade_115 hl (by decide) rfl (fun ls hl => ?_)
              have hent := hp.enter ht9 c1 (by omega) (s2 := s2) (by rw [hs2]; rw [if_pos ⟨c_1, c3⟩, em]) (by omega) (by omega)
              refine lp_sm2 hx hb hml hown hts hK hA hG ht9 hq9 hal hk9 hRE top a1 (L a1) (Hw a1) (s2) (fun q L Hw O I H locs hL hH hO hI hqb hp hP hD hS ls hl => ?_) _ 0 q L Hw O I2 (Nat.lt_succ_self _) (by decide) hL hH hO hI2 hqb rfl hent _ _ hP hD hS ls (lv_sub hl [4, 1, 5, 3, 0] rfl)
              refine lv_iinc (v := nI (a1 + 1)) (lv' := [(3, .int (nI (a1 + 1))), (0, .ref z0), (2, .int (nI s2))]) hx hb dX12_sizeMade_240 hl (k := 2) rfl (nI_add a1 1) (by decide) rfl (fun ls hl => ?_)
              refine lv_goto (tgt := 16) hx hb dX12_sizeMade_243 (by decide) ?_
              have m9 := hp.1
              exact ih (a1 + 1) q (s2) L Hw O I (by omega) hL hH hO hI hqb hp _ _ hP hD hS ls (lv_sub hl [1, 2, 0] rfl)
            · have em : MTX G (VAR N G (G 11 (L a1)) - 1) (Hw a1) = G 55 (VAR N G (G 11 (L a1)) - 1) + Hw a1 := congrArg _ (if_pos c4)
              rw [em] at m2 m3 m4 m5
              refine lv_aload_n hx hb dX12_sizeMade_93 rfl (lv_at hl 2 rfl) ?_
              refine mg_51 hx hb hts inX12_sizeMade hown hK hP (hts _ lkX12_sizeMade_f101) dX12_sizeMade_94 ?_
              refine lv_iload_n hx hb dX12_sizeMade_97 rfl (lv_at hl 4 rfl) ?_
              refine ml_51 hx hb hK hP (by omega) dX12_sizeMade_98 ?_
              refine tp_i (y := nI (Hw a1)) rfl ?_
              refine lv_goto (tgt := 103) hx hb dX12_sizeMade_99 (by decide) ?_
              refine lv_iadd hx hb dX12_sizeMade_103 ?_
              refine tp_i (nI_add (G 55 ((VAR N G (G 11 (L a1))) - 1)) (Hw a1)) ?_
              refine ml_57 hx hb hK hP (by omega) dX12_sizeMade_104 ?_
              refine tp_i (y := nI (G 57 ((G 55 ((VAR N G (G 11 (L a1))) - 1)) + (Hw a1)))) rfl ?_
              refine mcl_i (As := [.int (nI (G 57 ((G 55 ((VAR N G (G 11 (L a1))) - 1)) + (Hw a1))))]) (rest := [.int (nI s9)]) ⟨hx, hb, hml, hown, hts⟩ (m_sizeOf l dC dI cB cC cI cJ cZ z0 R pl (va_up N 53 q) (LK (va_up G 54 I) L Hw O) B (G 57 (G 55 (VAR N G (G 11 (L a1)) - 1) + Hw a1)) sz hG2 ht9 hq9 m3 H.size) (cwV 1 hts kX12_sizeMade_X12_sizeOf_370 rfl rfl rfl (by decide +kernel) ⟨Nat.le_of_ble_eq_true rfl, Nat.le_of_ble_eq_true rfl⟩) hK hP hD hS hA rfl rfl hl.1 (lv_room (Nat.le_of_ble_eq_true rfl)) dX12_sizeMade_105 hcs (fun r_21 N_17 G_18 B_19 pl_20 hw H locs hP hD hS => ?_)
              dsimp only at hw
              obtain ⟨e1, ⟨I2, hI2, e2⟩, e3, e4, hw⟩ := hw
              rw [e1, e2, e3, e4, LK54, bx_uu] at hP hD
              subst hw
              refine lv_goto (tgt := 112) hx hb dX12_sizeMade_108 (by decide) ?_
              refine lv_iadd hx hb dX12_sizeMade_112 ?_
              refine tp_i (nI_add s9 (sz (G 57 (G 55 (VAR N G (G 11 (L a1)) - 1) + Hw a1)))) ?_
              obtain ⟨s2, hs2⟩ : ∃ s2, s2 = s9 + sz (G 57 (G 55 (VAR N G (G 11 (L a1)) - 1) + Hw a1)) := ⟨_, rfl⟩
              refine tp_i (y := nI s2) (by rw [hs2]) ?_
              refine lv_istore_n (lv' := [(2, .int (nI s2)), (5, .int (nI (VAR N G (G 11 (L a1))) - 1)), (4, .int (nI (L a1))), (0, .ref z0), (3, .int (nI a1))]) hx hb dX12_sizeMade_113 rfl hl (by decide) rfl (fun ls hl => ?_)
              refine lv_iconst (v := nI 0) hx hb dX12_sizeMade_114 (by decide) ?_
              refine lv_istore (lv' := [(6, .int (nI 0)), (2, .int (nI s2)), (5, .int (nI (VAR N G (G 11 (L a1))) - 1)), (4, .int (nI (L a1))), (0, .ref z0), (3, .int (nI a1))]) hx hb dX12_sizeMade_115 hl (by decide) rfl (fun ls hl => ?_)
              have hent := hp.enter ht9 c1 (by omega) (s2 := s2) (by rw [hs2]; rw [if_pos ⟨c_1, c3⟩, em]) (by omega) (by omega)
              refine lp_sm2 hx hb hml hown hts hK hA hG ht9 hq9 hal hk9 hRE top a1 (L a1) (Hw a1) (s2) (fun q L Hw O I H locs hL hH hO hI hqb hp hP hD hS ls hl => ?_) _ 0 q L Hw O I2 (Nat.lt_succ_self _) (by decide) hL hH hO hI2 hqb rfl hent _ _ hP hD hS ls (lv_sub hl [4, 1, 5, 3, 0] rfl)
              refine lv_iinc (v := nI (a1 + 1)) (lv' := [(3, .int (nI (a1 + 1))), (0, .ref z0), (2, .int (nI s2))]) hx hb dX12_sizeMade_240 hl (k := 2) rfl (nI_add a1 1) (by decide) rfl (fun ls hl => ?_)
              refine lv_goto (tgt := 16) hx hb dX12_sizeMade_243 (by decide) ?_
              have m9 := hp.1
              exact ih (a1 + 1) q (s2) L Hw O I (by omega) hL hH hO hI hqb hp _ _ hP hD hS ls (lv_sub hl [1, 2, 0] rfl)
        · rw [if_neg c_1] at hw
          subst hw
          refine bz_eq (tgt := 62) hx hb (by first | omega | exact Nat.lt_of_lt_of_le (hG _ _) (by decide)) dX12_sizeMade_45 (by decide) (fun c => ?_) (fun q9 => absurd q9 (by omega))
          refine lv_iconst (v := nI 0 - 1) hx hb dX12_sizeMade_62 (by decide) ?_
          refine lv_istore (lv' := [(5, .int (nI 0 - 1)), (4, .int (nI (L a1))), (0, .ref z0), (2, .int (nI s9)), (3, .int (nI a1))]) hx hb dX12_sizeMade_63 hl (by decide) rfl (fun ls hl => ?_)
          refine lv_iload_n hx hb dX12_sizeMade_65 rfl (lv_at hl 3 rfl) ?_
          refine lv_iload hx hb dX12_sizeMade_66 (lv_at hl 0 rfl) ?_
          refine bo_lt (tgt := 111) hx hb (by first | omega | exact Nat.lt_of_lt_of_le (hG _ _) (by decide)) dX12_sizeMade_68 (by decide) (fun c3 => ?_) (fun c3 => ?_)
          · refine lv_iconst (v := nI 1) hx hb dX12_sizeMade_111 (by decide) ?_
            refine lv_iadd hx hb dX12_sizeMade_112 ?_
            refine tp_i (nI_add s9 1) ?_
            obtain ⟨s2, hs2⟩ : ∃ s2, s2 = s9 + 1 := ⟨_, rfl⟩
            refine tp_i (y := nI s2) (by rw [hs2]) ?_
            refine lv_istore_n (lv' := [(2, .int (nI s2)), (5, .int (nI 0 - 1)), (4, .int (nI (L a1))), (0, .ref z0), (3, .int (nI a1))]) hx hb dX12_sizeMade_113 rfl hl (by decide) rfl (fun ls hl => ?_)
            refine lv_iconst (v := nI 0) hx hb dX12_sizeMade_114 (by decide) ?_
            refine lv_istore (lv' := [(6, .int (nI 0)), (2, .int (nI s2)), (5, .int (nI 0 - 1)), (4, .int (nI (L a1))), (0, .ref z0), (3, .int (nI a1))]) hx hb dX12_sizeMade_115 hl (by decide) rfl (fun ls hl => ?_)
            have hent := hp.enter ht9 c1 (by omega) (s2 := s2) (by rw [hs2]; rw [if_neg (fun y => c_1 y.1)]) (by omega) (by omega)
            refine lp_sm2 hx hb hml hown hts hK hA hG ht9 hq9 hal hk9 hRE top a1 (L a1) (Hw a1) (s2) (fun q L Hw O I H locs hL hH hO hI hqb hp hP hD hS ls hl => ?_) _ 0 q L Hw O I (Nat.lt_succ_self _) (by decide) hL hH hO hI hqb rfl hent _ _ hP hD hS ls (lv_sub hl [4, 1, 5, 3, 0] rfl)
            refine lv_iinc (v := nI (a1 + 1)) (lv' := [(3, .int (nI (a1 + 1))), (0, .ref z0), (2, .int (nI s2))]) hx hb dX12_sizeMade_240 hl (k := 2) rfl (nI_add a1 1) (by decide) rfl (fun ls hl => ?_)
            refine lv_goto (tgt := 16) hx hb dX12_sizeMade_243 (by decide) ?_
            have m9 := hp.1
            exact ih (a1 + 1) q (s2) L Hw O I (by omega) hL hH hO hI hqb hp _ _ hP hD hS ls (lv_sub hl [1, 2, 0] rfl)
          · exact absurd c3 (by decide)

set_option maxHeartbeats 4000000 in
set_option maxRecDepth 100000 in
/-- sizeMade: at most 600 just where what is made is -/
theorem m_sizeMade (l : Launch) (dC : Nat → ClassId) (dI : Nat → Nat → Nat) (cB cC cI cJ cZ : ClassId) (z0 : Nat) (R : Nat → Nat) (pl : Int32) (N : Nat → Nat) (G : Nat → Nat → Nat) (B : Nat → Nat → Int32) (top : Nat) (sz E : Nat → Nat) (hG : ∀ k i, G k i < 1048576) (ht9 : TREE N G sz) (hq9 : TREQ N G sz) (hal : AL N G) (hk9 : KEPT N G) (hRE : ∀ x, (0 < VAR N G x ∧ 0 < G 48 (VAR N G x - 1)) ↔ 0 < E x) (htop : top < N 14) (hgd : GOOD N G sz E top 0) (s0 : Nat) : Met l yX12_sizeMade vX12_sizeMade { frames := 3, cells := 0, slots := 0, locals := 70 } (va_Pc [.ref z0, .int (nI top)] (mPre dC dI cB cC cI cJ cZ z0 R pl N G B s0)) (va_Qi (fun (r : Int32) (u : ((Nat → Nat) × (Nat → Nat → Nat) × (Nat → Nat → Int32) × Int32)) => match u with | (N1, G1, B1, pl1) => B1 = B ∧ pl1 = pl ∧ ∃ q fi L Hw O I, (∀ i, L i < 1048576) ∧ (∀ i, Hw i < 1048576) ∧ (∀ i, O i < 1048576) ∧ (∀ i, I i < 1048576) ∧ q ≤ 90000 ∧ N1 = va_up N 53 q ∧ G1 = LK (va_up G 54 I) L Hw O ∧ r = nI fi ∧ fi ≤ 3601 ∧ (fi ≤ 600 → SZM N G sz top 0 = fi)) (mPost dC dI cB cC cI cJ cZ z0 R (va_A (MW cB cC cI cJ cZ z0 R pl N G B) s0)) (va_A (MW cB cC cI cJ cZ z0 R pl N G B) s0)) 0 0 (va_A (MW cB cC cI cJ cZ z0 R pl N G B) s0) := by
  refine Met.ofW (cc := cX12_sizeMade) (maxL := 9) (ret := (some .int)) (by decide) rfl ?_
  intro p e s m args below meth c s₁ B9 hml hv
  obtain ⟨rfl, hsz, hP, hK, hD0⟩ := hv
  have hx := B9.exec
  have hb := B9.bytes
  have hr := B9.returns
  have hts := atoms_spec (ws := vX12_sizeMade) B9.pre
  have hown : s.vm.findClass RX12 = some m.cls := findClass_of_methodNamed B9.named
  have hlocks := B9.notSynchronized
  subst hsz
  have hD := hD0.self (sz := s.heap.size)
  generalize hAe : va_A (MW cB cC cI cJ cZ z0 R pl N G B) s.heap.size = A at hD ⊢
  have hA : ∀ q : Nat, s.heap.size ≤ q → A q := fun q h => by rw [← hAe]; exact Or.inr h
  have hS : va_S A s.heap s.heap [] := va_S.rf
  have hcs : 0 + 0 ≤ (0 : Nat) ∧ 0 + 0 ≤ (0 : Nat) := ⟨Nat.le_refl 0, Nat.le_refl 0⟩
  have hl := lv_entry ([.ref z0, .int (nI top)]) (n := 9) (Nat.le_of_ble_eq_true rfl)
  rw [lg_entry_eq]
  generalize (lg_sl ([.ref z0, .int (nI top)]) ++ List.replicate (9 - (lg_sl ([.ref z0, .int (nI top)])).length) Slot.unset).toArray = ls at hl ⊢
  have hl : lv_has ls 9 [(0, .ref z0), (1, .int (nI top))] := hl
  have u6 := ht9.1
  refine lv_aload_n hx hb dX12_sizeMade_0 rfl (lv_at hl 0 rfl) ?_
  refine lv_iconst (v := nI 0) hx hb dX12_sizeMade_1 (by decide) ?_
  refine mp_53 hx hb hts inX12_sizeMade hown hK hP hD hS (hts _ lkX12_sizeMade_f306) dX12_sizeMade_2 (fun H locs hP hD hS => ?_)
  refine lv_aload_n hx hb dX12_sizeMade_5 rfl (lv_at hl 0 rfl) ?_
  refine lv_iload_n hx hb dX12_sizeMade_6 rfl (lv_at hl 1 rfl) ?_
  refine lv_iconst (v := nI 0) hx hb dX12_sizeMade_7 (by decide) ?_
  refine lv_iconst (v := nI 0) hx hb dX12_sizeMade_8 (by decide) ?_
  have hP : va_P (dC, dI) vwCl (MW cB cC cI cJ cZ z0 R pl (va_up N 53 0) (LK (va_up G 54 (G 54)) (G 50) (G 51) (G 52)) B) H := by rw [va_upid, LK_self]; exact hP
  have hD : va_D A (MW cB cC cI cJ cZ z0 R pl (va_up N 53 0) (LK (va_up G 54 (G 54)) (G 50) (G 51) (G 52)) B) := by rw [va_upid, LK_self]; exact hD
  refine mcl_v (As := [.int (nI top), .int (nI 0), .int (nI 0)]) (rest := []) ⟨hx, hb, hml, hown, hts⟩ (m_lookAt l dC dI cB cC cI cJ cZ z0 R pl (va_up N 53 0) (LK (va_up G 54 (G 54)) (G 50) (G 51) (G 52)) B top 0 0 (show 0 < 90000 from (by decide)) H.size) (cwV 3 hts kX12_sizeMade_X12_lookAt_318 rfl rfl rfl (by decide +kernel) ⟨Nat.le_of_ble_eq_true rfl, Nat.le_of_ble_eq_true rfl⟩) hK hP hD hS hA rfl rfl hl.1 (lv_room (Nat.le_of_ble_eq_true rfl)) dX12_sizeMade_9 hcs (fun  N_1 G_2 B_3 pl_4 hw H locs hP hD hS => ?_)
  dsimp only at hw
  obtain ⟨e1, e2, e3, e4⟩ := hw
  rw [e1, e2, e3, e4, bx_uu, LK_look] at hP hD
  have hP : va_P (dC, dI) vwCl (MW cB cC cI cJ cZ z0 R pl (va_up N 53 (0 + 1)) (LK (va_up G 54 (G 54)) (va_up (G 50) 0 top) (va_up (G 51) 0 0) (va_up (G 52) 0 0)) B) H := hP
  have hD : va_D A (MW cB cC cI cJ cZ z0 R pl (va_up N 53 (0 + 1)) (LK (va_up G 54 (G 54)) (va_up (G 50) 0 top) (va_up (G 51) 0 0) (va_up (G 52) 0 0)) B) := hD
  refine lv_iconst (v := nI 0) hx hb dX12_sizeMade_12 (by decide) ?_
  refine lv_istore_n (lv' := [(2, .int (nI 0)), (0, .ref z0), (1, .int (nI top))]) hx hb dX12_sizeMade_13 rfl hl (by decide) rfl (fun ls hl => ?_)
  refine lv_iconst (v := nI 0) hx hb dX12_sizeMade_14 (by decide) ?_
  refine lv_istore_n (lv' := [(3, .int (nI 0)), (2, .int (nI 0)), (0, .ref z0), (1, .int (nI top))]) hx hb dX12_sizeMade_15 rfl hl (by decide) rfl (fun ls hl => ?_)
  refine lp_sm3 hx hb hml hown hts hK hA hG ht9 hq9 hal hk9 hRE top (fun q s9 L Hw O I H locs hL hH hO hI hqb hfin hP hD hS ls hl => ?_) _ 0 1 0 _ _ _ (G 54) (Nat.lt_succ_self _) (hIup (hG 50) (by omega)) (hIup (hG 51) (by decide)) (hIup (hG 52) (by decide)) (hG 54) (by decide) (SMO.start hgd htop) _ _ hP hD hS ls (lv_sub hl [2, 1, 0] rfl)
  refine lv_iload_n hx hb dX12_sizeMade_246 rfl (lv_at hl 0 rfl) ?_
  exact W.iret (v := (nI s9)) hx hb hr (fun t ht hW => ⟨⟨(nI s9), (va_up N 53 q, LK (va_up G 54 I) L Hw O, B, pl), rfl, ⟨rfl, rfl, q, s9, L, Hw, O, I, hL, hH, hO, hI, by omega, rfl, rfl, rfl, hfin.1, hfin.2⟩, by rw [ht]; exact hP, va_K.moved hW.alike hK, hD⟩, hS.F ht⟩) hS.2.2 dX12_sizeMade_247
