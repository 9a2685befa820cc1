def oX12_isPattern : List Cond := [Cond.methodLink RX12 321 yX12_isEllipsis, Cond.instanceMethod yX12_isEllipsis, Cond.selects RX12 yX12_isEllipsis yX12_isEllipsis, Cond.initialized RX12, Cond.fieldLink RX12 38 "MacroScopesModel" "counts" "[I", Cond.fieldLink RX12 32 "MacroScopesModel" "kinds" "[B", Cond.methodLink RX12 318 yX12_lookAt, Cond.instanceMethod yX12_lookAt, Cond.selects RX12 yX12_lookAt yX12_lookAt, Cond.methodLink RX12 291 yX12_isBindable, Cond.instanceMethod yX12_isBindable, Cond.selects RX12 yX12_isBindable yX12_isBindable, Cond.fieldLink RX12 35 "MacroScopesModel" "values" "[I", Cond.methodLink RX12 324 yX12_isLiteral, Cond.instanceMethod yX12_isLiteral, Cond.selects RX12 yX12_isLiteral yX12_isLiteral, Cond.methodLink RX12 327 yX12_variable, Cond.instanceMethod yX12_variable, Cond.selects RX12 yX12_variable yX12_variable, Cond.fieldLink RX12 91 "MacroScopesModel" "variableNames" "[I", Cond.fieldLink RX12 309 "MacroScopesModel" "variableCount" "I", Cond.fieldLink RX12 94 "MacroScopesModel" "repeated" "[Z", Cond.methodLink RX12 192 yX12_part, Cond.instanceMethod yX12_part, Cond.selects RX12 yX12_part yX12_part, Cond.fieldLink RX12 306 "MacroScopesModel" "looks" "I", Cond.fieldLink RX12 98 "MacroScopesModel" "look" "[I", Cond.fieldLink RX12 104 "MacroScopesModel" "lookOther" "[I", Cond.fieldLink RX12 101 "MacroScopesModel" "lookHow" "[I"]
def vX12_isPattern : List Cond := .code yX12_isPattern cX12_isPattern 11 (some .boolean) :: (oX12_isPattern ++ (vX12_isEllipsis ++ (vX12_lookAt ++ (vX12_isBindable ++ (vX12_isLiteral ++ (vX12_variable ++ (vX12_part ++ (wsX120))))))))
theorem lkX12_isPattern_f38 : Cond.fieldLink RX12 38 "MacroScopesModel" "counts" "[I" ∈ vX12_isPattern := List.mem_cons_of_mem _ (List.mem_append_left _ (List.mem_of_getElem? (i := 4) rfl))
theorem lkX12_isPattern_f32 : Cond.fieldLink RX12 32 "MacroScopesModel" "kinds" "[B" ∈ vX12_isPattern := List.mem_cons_of_mem _ (List.mem_append_left _ (List.mem_of_getElem? (i := 5) rfl))
theorem lkX12_isPattern_f35 : Cond.fieldLink RX12 35 "MacroScopesModel" "values" "[I" ∈ vX12_isPattern := List.mem_cons_of_mem _ (List.mem_append_left _ (List.mem_of_getElem? (i := 12) rfl))
theorem lkX12_isPattern_f91 : Cond.fieldLink RX12 91 "MacroScopesModel" "variableNames" "[I" ∈ vX12_isPattern := List.mem_cons_of_mem _ (List.mem_append_left _ (List.mem_of_getElem? (i := 19) rfl))
theorem lkX12_isPattern_f309 : Cond.fieldLink RX12 309 "MacroScopesModel" "variableCount" "I" ∈ vX12_isPattern := List.mem_cons_of_mem _ (List.mem_append_left _ (List.mem_of_getElem? (i := 20) rfl))
theorem lkX12_isPattern_f94 : Cond.fieldLink RX12 94 "MacroScopesModel" "repeated" "[Z" ∈ vX12_isPattern := List.mem_cons_of_mem _ (List.mem_append_left _ (List.mem_of_getElem? (i := 21) rfl))
theorem lkX12_isPattern_f306 : Cond.fieldLink RX12 306 "MacroScopesModel" "looks" "I" ∈ vX12_isPattern := List.mem_cons_of_mem _ (List.mem_append_left _ (List.mem_of_getElem? (i := 25) rfl))
theorem lkX12_isPattern_f98 : Cond.fieldLink RX12 98 "MacroScopesModel" "look" "[I" ∈ vX12_isPattern := List.mem_cons_of_mem _ (List.mem_append_left _ (List.mem_of_getElem? (i := 26) rfl))
theorem lkX12_isPattern_f104 : Cond.fieldLink RX12 104 "MacroScopesModel" "lookOther" "[I" ∈ vX12_isPattern := List.mem_cons_of_mem _ (List.mem_append_left _ (List.mem_of_getElem? (i := 27) rfl))
theorem lkX12_isPattern_f101 : Cond.fieldLink RX12 101 "MacroScopesModel" "lookHow" "[I" ∈ vX12_isPattern := List.mem_cons_of_mem _ (List.mem_append_left _ (List.mem_of_getElem? (i := 28) rfl))
theorem inX12_isPattern : ∀ w ∈ wsX120, w ∈ vX12_isPattern := fun w h => List.mem_cons_of_mem _ (List.mem_append_right _ (List.mem_append_right _ (List.mem_append_right _ (List.mem_append_right _ (List.mem_append_right _ (List.mem_append_right _ (List.mem_append_right _ (h))))))))
theorem kX12_isPattern_X12_isEllipsis_321 : GoodIn vX12_isPattern (wsV RX12 321 RX12 yX12_isEllipsis vX12_isEllipsis) := goodIn_sub (fun w h => (List.mem_append.mp h).elim (fun h => List.mem_cons_of_mem _ (List.mem_append_left _ ((by decide +kernel : ∀ w ∈ ([.methodLink RX12 321 yX12_isEllipsis, .instanceMethod yX12_isEllipsis, .selects RX12 yX12_isEllipsis yX12_isEllipsis, .initialized RX12] : List Cond), w ∈ oX12_isPattern) w h))) (fun h => List.mem_cons_of_mem _ (List.mem_append_right _ (List.mem_append_left _ (h))))) (by decide +kernel)
theorem kX12_isPattern_X12_lookAt_318 : GoodIn vX12_isPattern (wsV RX12 318 RX12 yX12_lookAt vX12_lookAt) := goodIn_sub (fun w h => (List.mem_append.mp h).elim (fun h => List.mem_cons_of_mem _ (List.mem_append_left _ ((by decide +kernel : ∀ w ∈ ([.methodLink RX12 318 yX12_lookAt, .instanceMethod yX12_lookAt, .selects RX12 yX12_lookAt yX12_lookAt, .initialized RX12] : List Cond), w ∈ oX12_isPattern) w h))) (fun h => List.mem_cons_of_mem _ (List.mem_append_right _ (List.mem_append_right _ (List.mem_append_left _ (h)))))) (by decide +kernel)
theorem kX12_isPattern_X12_isBindable_291 : GoodIn vX12_isPattern (wsV RX12 291 RX12 yX12_isBindable vX12_isBindable) := goodIn_sub (fun w h => (List.mem_append.mp h).elim (fun h => List.mem_cons_of_mem _ (List.mem_append_left _ ((by decide +kernel : ∀ w ∈ ([.methodLink RX12 291 yX12_isBindable, .instanceMethod yX12_isBindable, .selects RX12 yX12_isBindable yX12_isBindable, .initialized RX12] : List Cond), w ∈ oX12_isPattern) w h))) (fun h => List.mem_cons_of_mem _ (List.mem_append_right _ (List.mem_append_right _ (List.mem_append_right _ (List.mem_append_left _ (h))))))) (by decide +kernel)
theorem kX12_isPattern_X12_isLiteral_324 : GoodIn vX12_isPattern (wsV RX12 324 RX12 yX12_isLiteral vX12_isLiteral) := goodIn_sub (fun w h => (List.mem_append.mp h).elim (fun h => List.mem_cons_of_mem _ (List.mem_append_left _ ((by decide +kernel : ∀ w ∈ ([.methodLink RX12 324 yX12_isLiteral, .instanceMethod yX12_isLiteral, .selects RX12 yX12_isLiteral yX12_isLiteral, .initialized RX12] : List Cond), w ∈ oX12_isPattern) w h))) (fun h => List.mem_cons_of_mem _ (List.mem_append_right _ (List.mem_append_right _ (List.mem_append_right _ (List.mem_append_right _ (List.mem_append_left _ (h)))))))) (by decide +kernel)
theorem kX12_isPattern_X12_variable_327 : GoodIn vX12_isPattern (wsV RX12 327 RX12 yX12_variable vX12_variable) := goodIn_sub (fun w h => (List.mem_append.mp h).elim (fun h => List.mem_cons_of_mem _ (List.mem_append_left _ ((by decide +kernel : ∀ w ∈ ([.methodLink RX12 327 yX12_variable, .instanceMethod yX12_variable, .selects RX12 yX12_variable yX12_variable, .initialized RX12] : List Cond), w ∈ oX12_isPattern) w h))) (fun h => List.mem_cons_of_mem _ (List.mem_append_right _ (List.mem_append_right _ (List.mem_append_right _ (List.mem_append_right _ (List.mem_append_right _ (List.mem_append_left _ (h))))))))) (by decide +kernel)
theorem kX12_isPattern_X12_part_192 : GoodIn vX12_isPattern (wsV RX12 192 RX12 yX12_part vX12_part) := goodIn_sub (fun w h => (List.mem_append.mp h).elim (fun h => List.mem_cons_of_mem _ (List.mem_append_left _ ((by decide +kernel : ∀ w ∈ ([.methodLink RX12 192 yX12_part, .instanceMethod yX12_part, .selects RX12 yX12_part yX12_part, .initialized RX12] : List Cond), w ∈ oX12_isPattern) w h))) (fun h => List.mem_cons_of_mem _ (List.mem_append_right _ (List.mem_append_right _ (List.mem_append_right _ (List.mem_append_right _ (List.mem_append_right _ (List.mem_append_right _ (List.mem_append_left _ (h)))))))))) (by decide +kernel)
set_option maxHeartbeats 4000000 in
set_option maxRecDepth 100000 in
theorem lp_patR {p : Program} {l : Launch} {e : Env} {s : State} {m : MethodId} {args : Array Value} {below : List Frame} {meth : Method} {c : Code} {Q : State → Prop} {A : Nat → Prop} {dC : Nat → ClassId} {dI : Nat → Nat → Nat} {cB cC cI cJ cZ : ClassId} {z0 : Nat} {R : Nat → Nat} (hx : p.tables.exec = Jvm.exec) (hb : c.code = cX12_isPattern) (hml : c.maxLocals = 11) (hown : s.vm.findClass RX12 = some m.cls) (hts : ∀ w ∈ vX12_isPattern, w.before args s = true) (hK : va_K (dC, dI) vwCl (TY cB cC cI cJ cZ) s) (hA : ∀ q : Nat, s.heap.size ≤ q → A q) {pl : Int32} {N : Nat → Nat} {G : Nat → Nat → Nat} {B : Nat → Nat → Int32} {sz az : Nat → Nat} {rules : Nat} (hG : ∀ k i, G k i < 1048576) (ht9 : TREE N G sz) (hat : ATOM N G az) (hal : AL N G) (hru : rules < 90000) (hr1 : G 11 rules + 1 < 90000) (hl1 : CH G rules 1 < 90000) (hlc : ∀ j, j < G 12 (CH G rules 1) → G 11 (CH G rules 1) + j < 90000 ∧ CH G (CH G rules 1) j < 90000) (top a1 a0 f0 w0 : Nat) (kx q vc mo : Nat) (L Hw O VN VR : Nat → Nat) (hL : (∀ i, L i < 1048576)) (hH : (∀ i, Hw i < 1048576)) (hO : (∀ i, O i < 1048576)) (hVN : (∀ i, VN i < 1048576)) (hVR : (∀ i, VR i < 1048576)) (hkx : kx < G 12 a0) (hmo : MORE G a0 w0 kx = mo) (hp : PINV N G sz az rules top a1 a0 f0 w0 kx q vc 1 L Hw O VN VR) (kn : ∀ (q vc fi : Nat) (L Hw O VN VR : Nat → Nat) (H : Heap) (locs : List Loc), (∀ i, L i < 1048576) → (∀ i, Hw i < 1048576) → (∀ i, O i < 1048576) → (∀ i, VN i < 1048576) → (∀ i, VR i < 1048576) → PINV N G sz az rules top a1 a0 f0 w0 (kx + 1) q vc fi L Hw O VN VR → va_P (dC, dI) vwCl (MW cB cC cI cJ cZ z0 R pl (va_up (va_up N 49 vc) 53 q) (LK (va_up (va_up G 47 VN) 48 VR) L Hw O) B) H → va_D A (MW cB cC cI cJ cZ z0 R pl (va_up (va_up N 49 vc) 53 q) (LK (va_up (va_up G 47 VN) 48 VR) L Hw O) B) → va_S A s.heap H locs → ∀ (ls : Array Slot), lv_has ls 11 [(0, .ref z0), (1, .int (nI rules)), (3, .int (nI fi)), (4, .int (nI a1)), (5, .int (nI a0)), (6, .int (nI f0)), (7, .int (nI w0)), (8, .int (nI kx))] → W p l e (headSpec vX12_isPattern { frames := 3, cells := 0, slots := 0, locals := 66 }).room s m args below meth c H locs 0 0 Q (F0 m 284 ls [])) : ∀ (H : Heap) (locs : List Loc), va_P (dC, dI) vwCl (MW cB cC cI cJ cZ z0 R pl (va_up (va_up N 49 vc) 53 q) (LK (va_up (va_up G 47 VN) 48 VR) L Hw O) B) H → va_D A (MW cB cC cI cJ cZ z0 R pl (va_up (va_up N 49 vc) 53 q) (LK (va_up (va_up G 47 VN) 48 VR) L Hw O) B) → va_S A s.heap H locs → ∀ (ls : Array Slot), lv_has ls 11 [(0, .ref z0), (1, .int (nI rules)), (3, .int (nI 1)), (4, .int (nI a1)), (5, .int (nI a0)), (6, .int (nI f0)), (7, .int (nI w0)), (8, .int (nI kx)), (9, .int (nI (CH G a0 kx))), (10, .int (nI mo))] → W p l e (headSpec vX12_isPattern { frames := 3, cells := 0, slots := 0, locals := 66 }).room s m args below meth c H locs 0 0 Q (F0 m 126 ls []) := by
  have hcs : 0 + 0 ≤ (0 : Nat) ∧ 0 + 0 ≤ (0 : Nat) := ⟨Nat.le_refl 0, Nat.le_refl 0⟩
  intro H locs hP hD hS ls hl
  obtain ⟨n1, n2, n3, n4, n5, n6, n7⟩ := hp.num ht9
  obtain ⟨u1, u2, u3, u4, u5⟩ := ht9.2 a0 n6
  have u6 := ht9.1
  obtain ⟨t1, t2⟩ := u3 kx hkx
  have g1 := hG 12 a0
  have hG2 := hGLK (hGup (q := 48) (hGup (q := 47) hG hVN) hVR) hL hH hO
  have hc4 := (ht9.2 _ t2).2.2.2.1
  have hmo1 : mo ≤ 1 := by rw [← hmo]; unfold MORE; split <;> omega
  refine lv_aload_n hx hb dX12_isPattern_126 rfl (lv_at hl 0 rfl) ?_
  refine lv_iload hx hb dX12_isPattern_127 (lv_at hl 4 rfl) ?_
  refine lv_iload hx hb dX12_isPattern_129 (lv_at hl 7 rfl) ?_
  refine mcl_i (As := [.int (nI a0), .int (nI kx)]) (rest := []) ⟨hx, hb, hml, hown, hts⟩ (m_isEllipsis l dC dI cB cC cI cJ cZ z0 R pl (va_up (va_up N 49 vc) 53 q) (LK (va_up (va_up G 47 VN) 48 VR) L Hw O) B a0 kx hG2 hal (by omega) (by omega) (fun _ => ⟨t1, Nat.lt_of_lt_of_le t2 u6, hc4⟩) H.size) (cwV 2 hts kX12_isPattern_X12_isEllipsis_321 rfl rfl rfl (by decide +kernel) ⟨Nat.le_of_ble_eq_true rfl, Nat.le_of_ble_eq_true rfl⟩) hK hP hD hS hA rfl rfl hl.1 (lv_room (Nat.le_of_ble_eq_true rfl)) dX12_isPattern_131 hcs (fun r_5 N_1 G_2 B_3 pl_4 hw H locs hP hD hS => ?_)
  dsimp only at hw
  obtain ⟨e1, e2, e3, e4, hw⟩ := hw
  rw [e1, e2, e3, e4] at hP hD
  have hw : r_5 = nI (if ELL G a0 kx then 1 else 0) := hw
  by_cases c1 : ELL G a0 kx
  · rw [if_pos c1] at hw
    subst hw
    refine bz_eq (tgt := 172) hx hb (by omega) dX12_isPattern_134 (by decide) (fun q9 => absurd q9 (by omega)) (fun c => ?_)
    refine lv_iload hx hb dX12_isPattern_137 (lv_at hl 7 rfl) ?_
    refine lv_aload_n hx hb dX12_isPattern_139 rfl (lv_at hl 0 rfl) ?_
    refine mg_12 hx hb hts inX12_isPattern hown hK hP (hts _ lkX12_isPattern_f38) dX12_isPattern_140 ?_
    refine lv_iload hx hb dX12_isPattern_143 (lv_at hl 4 rfl) ?_
    refine ml_12 hx hb hK hP (by omega) dX12_isPattern_145 ?_
    refine tp_i (y := nI (G 12 a0)) rfl ?_
    refine lv_iconst (v := nI 1) hx hb dX12_isPattern_146 (by decide) ?_
    refine lv_isub hx hb dX12_isPattern_147 ?_
    refine tp_i (pk_sub (a := G 12 a0) (b := 1) (by omega)) ?_
    refine bn_ne (tgt := 167) hx hb (by omega) (by omega) dX12_isPattern_148 (by decide) (fun c2 => ?_) (fun c2 => ?_)
    · refine lv_iconst (v := nI 0) hx hb dX12_isPattern_167 (by decide) ?_
      refine lv_istore_n (lv' := [(3, .int (nI 0)), (0, .ref z0), (1, .int (nI rules)), (4, .int (nI a1)), (5, .int (nI a0)), (6, .int (nI f0)), (7, .int (nI w0)), (8, .int (nI kx)), (9, .int (nI (CH G a0 kx))), (10, .int (nI mo))]) hx hb dX12_isPattern_168 rfl hl (by decide) rfl (fun ls hl => ?_)
      refine lv_goto (tgt := 284) hx hb dX12_isPattern_169 (by decide) ?_
      exact kn q vc 0 L Hw O VN VR H locs hL hH hO hVN hVR (hp.bad hkx (fun y => absurd (y.1 c1) (fun z => by omega))) hP hD hS ls (lv_sub hl [1, 2, 0, 3, 4, 5, 6, 7] rfl)
    · refine lv_iload hx hb dX12_isPattern_151 (lv_at hl 7 rfl) ?_
      refine lv_iload hx hb dX12_isPattern_153 (lv_at hl 5 rfl) ?_
      refine bn_le (tgt := 167) hx hb (by omega) (by omega) dX12_isPattern_155 (by decide) (fun c3 => ?_) (fun c3 => ?_)
      · refine lv_iconst (v := nI 0) hx hb dX12_isPattern_167 (by decide) ?_
        refine lv_istore_n (lv' := [(3, .int (nI 0)), (0, .ref z0), (1, .int (nI rules)), (4, .int (nI a1)), (5, .int (nI a0)), (6, .int (nI f0)), (7, .int (nI w0)), (8, .int (nI kx)), (9, .int (nI (CH G a0 kx))), (10, .int (nI mo))]) hx hb dX12_isPattern_168 rfl hl (by decide) rfl (fun ls hl => ?_)
        refine lv_goto (tgt := 284) hx hb dX12_isPattern_169 (by decide) ?_
        exact kn q vc 0 L Hw O VN VR H locs hL hH hO hVN hVR (hp.bad hkx (fun y => absurd (y.1 c1) (fun z => by omega))) hP hD hS ls (lv_sub hl [1, 2, 0, 3, 4, 5, 6, 7] rfl)
      · refine lv_iload hx hb dX12_isPattern_158 (lv_at hl 6 rfl) ?_
        refine bz_ne (tgt := 167) hx hb (by omega) dX12_isPattern_160 (by decide) (fun c4 => ?_) (fun c4 => ?_)
        · refine lv_iconst (v := nI 0) hx hb dX12_isPattern_167 (by decide) ?_
          refine lv_istore_n (lv' := [(3, .int (nI 0)), (0, .ref z0), (1, .int (nI rules)), (4, .int (nI a1)), (5, .int (nI a0)), (6, .int (nI f0)), (7, .int (nI w0)), (8, .int (nI kx)), (9, .int (nI (CH G a0 kx))), (10, .int (nI mo))]) hx hb dX12_isPattern_168 rfl hl (by decide) rfl (fun ls hl => ?_)
          refine lv_goto (tgt := 284) hx hb dX12_isPattern_169 (by decide) ?_
          exact kn q vc 0 L Hw O VN VR H locs hL hH hO hVN hVR (hp.bad hkx (fun y => absurd (y.1 c1) (fun z => by omega))) hP hD hS ls (lv_sub hl [1, 2, 0, 3, 4, 5, 6, 7] rfl)
        · refine lv_iconst (v := nI 1) hx hb dX12_isPattern_163 (by decide) ?_
          refine lv_goto (tgt := 168) hx hb dX12_isPattern_164 (by decide) ?_
          refine lv_istore_n (lv' := [(3, .int (nI 1)), (0, .ref z0), (1, .int (nI rules)), (4, .int (nI a1)), (5, .int (nI a0)), (6, .int (nI f0)), (7, .int (nI w0)), (8, .int (nI kx)), (9, .int (nI (CH G a0 kx))), (10, .int (nI mo))]) hx hb dX12_isPattern_168 rfl hl (by decide) rfl (fun ls hl => ?_)
          refine lv_goto (tgt := 284) hx hb dX12_isPattern_169 (by decide) ?_
          exact kn q vc 1 L Hw O VN VR H locs hL hH hO hVN hVR (hp.skip hkx (fun x rp => if_pos c1) ⟨fun _ => ⟨by omega, by omega, by omega⟩, fun y => absurd c1 y⟩) hP hD hS ls (lv_sub hl [1, 2, 0, 3, 4, 5, 6, 7] rfl)
  · rw [if_neg c1] at hw
    subst hw
    have g2 := hG 10 (CH G a0 kx)
    refine bz_eq (tgt := 172) hx hb (by omega) dX12_isPattern_134 (by decide) (fun c => ?_) (fun q9 => absurd q9 (by omega))
    refine lv_aload_n hx hb dX12_isPattern_172 rfl (lv_at hl 0 rfl) ?_
    refine mg_10 hx hb hts inX12_isPattern hown hK hP (hts _ lkX12_isPattern_f32) dX12_isPattern_173 ?_
    refine lv_iload hx hb dX12_isPattern_176 (lv_at hl 8 rfl) ?_
    refine ml_10 hx hb hK hP (by omega) dX12_isPattern_178 ?_
    refine tp_i (y := nI (G 10 (CH G a0 kx))) rfl ?_
    refine lv_iconst (v := nI 2) hx hb dX12_isPattern_179 (by decide) ?_
    refine bn_ne (tgt := 203) hx hb (by omega) (by omega) dX12_isPattern_180 (by decide) (fun c2 => ?_) (fun c2 => ?_)
    · refine lv_aload_n hx hb dX12_isPattern_203 rfl (lv_at hl 0 rfl) ?_
      refine lv_iload hx hb dX12_isPattern_204 (lv_at hl 8 rfl) ?_
      refine mcl_i (As := [.int (nI (CH G a0 kx))]) (rest := []) ⟨hx, hb, hml, hown, hts⟩ (m_isBindable l dC dI cB cC cI cJ cZ z0 R pl (va_up (va_up N 49 vc) 53 q) (LK (va_up (va_up G 47 VN) 48 VR) L Hw O) B (CH G a0 kx) hG2 hal (by omega) hc4 H.size) (cwV 1 hts kX12_isPattern_X12_isBindable_291 rfl rfl rfl (by decide +kernel) ⟨Nat.le_of_ble_eq_true rfl, Nat.le_of_ble_eq_true rfl⟩) hK hP hD hS hA rfl rfl hl.1 (lv_room (Nat.le_of_ble_eq_true rfl)) dX12_isPattern_206 hcs (fun r_20 N_16 G_17 B_18 pl_19 hw H locs hP hD hS => ?_)
      dsimp only at hw
      obtain ⟨e1, e2, e3, e4, hw⟩ := hw
      rw [e1, e2, e3, e4] at hP hD
      have hw : r_20 = nI (if BND G (CH G a0 kx) then 1 else 0) := hw
      by_cases c3 : BND G (CH G a0 kx)
      · rw [if_pos c3] at hw
        subst hw
        refine bz_eq (tgt := 284) hx hb (by omega) dX12_isPattern_209 (by decide) (fun q9 => absurd q9 (by omega)) (fun c => ?_)
        refine lv_aload_n hx hb dX12_isPattern_212 rfl (lv_at hl 0 rfl) ?_
        refine lv_iload_n hx hb dX12_isPattern_213 rfl (lv_at hl 1 rfl) ?_
        refine lv_aload_n hx hb dX12_isPattern_214 rfl (lv_at hl 0 rfl) ?_
        refine mg_11 hx hb hts inX12_isPattern hown hK hP (hts _ lkX12_isPattern_f35) dX12_isPattern_215 ?_
        refine lv_iload hx hb dX12_isPattern_218 (lv_at hl 8 rfl) ?_
        refine ml_11 hx hb hK hP (by omega) dX12_isPattern_220 ?_
        refine tp_i (y := nI (G 11 (CH G a0 kx))) rfl ?_
        refine mcl_i (As := [.int (nI rules), .int (nI (G 11 (CH G a0 kx)))]) (rest := []) ⟨hx, hb, hml, hown, hts⟩ (m_isLiteral l dC dI cB cC cI cJ cZ z0 R pl (va_up (va_up N 49 vc) 53 q) (LK (va_up (va_up G 47 VN) 48 VR) L Hw O) B rules (G 11 (CH G a0 kx)) hG2 (hG 11 _) hru hr1 hl1 hlc H.size) (cwV 2 hts kX12_isPattern_X12_isLiteral_324 rfl rfl rfl (by decide +kernel) ⟨Nat.le_of_ble_eq_true rfl, Nat.le_of_ble_eq_true rfl⟩) hK hP hD hS hA rfl rfl hl.1 (lv_room (Nat.le_of_ble_eq_true rfl)) dX12_isPattern_221 hcs (fun r_25 N_21 G_22 B_23 pl_24 hw H locs hP hD hS => ?_)
        dsimp only at hw
        obtain ⟨e1, e2, e3, e4, hw⟩ := hw
        rw [e1, e2, e3, e4] at hP hD
        have hw : r_25 = nI (LIT G rules (G 11 (CH G a0 kx))) := hw
        subst hw
        have l1 : LIT G rules (G 11 (CH G a0 kx)) ≤ 1 := litF_le _ _ _ _
        refine bz_ne (tgt := 284) hx hb (by omega) dX12_isPattern_224 (by decide) (fun c4 => ?_) (fun c4 => ?_)
        · exact kn q vc 1 L Hw O VN VR H locs hL hH hO hVN hVR (hp.skip hkx (fun x rp => by unfold LEFk; rw [if_neg c1, if_neg c2, if_neg (fun y => absurd y.1.2 (by omega))]) ⟨fun y => absurd y c1, fun _ y => absurd y c2⟩) hP hD hS ls (lv_sub hl [0, 1, 2, 3, 4, 5, 6, 7] rfl)
        · refine lv_aload_n hx hb dX12_isPattern_227 rfl (lv_at hl 0 rfl) ?_
          refine lv_aload_n hx hb dX12_isPattern_228 rfl (lv_at hl 0 rfl) ?_
          refine mg_11 hx hb hts inX12_isPattern hown hK hP (hts _ lkX12_isPattern_f35) dX12_isPattern_229 ?_
          refine lv_iload hx hb dX12_isPattern_232 (lv_at hl 8 rfl) ?_
          refine ml_11 hx hb hK hP (by omega) dX12_isPattern_234 ?_
          refine tp_i (y := nI (G 11 (CH G a0 kx))) rfl ?_
          refine mcl_i (As := [.int (nI (G 11 (CH G a0 kx)))]) (rest := []) ⟨hx, hb, hml, hown, hts⟩ (m_variable l dC dI cB cC cI cJ cZ z0 R pl (va_up (va_up N 49 vc) 53 q) (LK (va_up (va_up G 47 VN) 48 VR) L Hw O) B (G 11 (CH G a0 kx)) hG2 (show vc ≤ 1600 by omega) (hG 11 _) H.size) (cwV 1 hts kX12_isPattern_X12_variable_327 rfl rfl rfl (by decide +kernel) ⟨Nat.le_of_ble_eq_true rfl, Nat.le_of_ble_eq_true rfl⟩) hK hP hD hS hA rfl rfl hl.1 (lv_room (Nat.le_of_ble_eq_true rfl)) dX12_isPattern_235 hcs (fun r_30 N_26 G_27 B_28 pl_29 hw H locs hP hD hS => ?_)
          dsimp only at hw
          obtain ⟨e1, e2, e3, e4, hw⟩ := hw
          rw [e1, e2, e3, e4] at hP hD
          have hw : r_30 = nI (varF VN (G 11 (CH G a0 kx)) vc) - 1 := hw
          subst hw
          have v1 := varF_le VN (G 11 (CH G a0 kx)) vc
          refine bo_ge (tgt := 245) hx hb (by omega) dX12_isPattern_238 (by decide) (fun c5 => ?_) (fun c5 => ?_)
          · refine lv_iconst (v := nI 0) hx hb dX12_isPattern_245 (by decide) ?_
            refine lv_istore_n (lv' := [(3, .int (nI 0)), (0, .ref z0), (1, .int (nI rules)), (4, .int (nI a1)), (5, .int (nI a0)), (6, .int (nI f0)), (7, .int (nI w0)), (8, .int (nI kx)), (9, .int (nI (CH G a0 kx))), (10, .int (nI mo))]) hx hb dX12_isPattern_246 rfl hl (by decide) rfl (fun ls hl => ?_)
            refine lv_aload_n hx hb dX12_isPattern_247 rfl (lv_at hl 1 rfl) ?_
            refine mg_47 hx hb hts inX12_isPattern hown hK hP (hts _ lkX12_isPattern_f91) dX12_isPattern_248 ?_
            refine lv_aload_n hx hb dX12_isPattern_251 rfl (lv_at hl 1 rfl) ?_
            refine mg_49 hx hb hts inX12_isPattern hown hK hP (hts _ lkX12_isPattern_f309) dX12_isPattern_252 ?_
            refine tp_i (y := nI vc) rfl ?_
            refine lv_aload_n hx hb dX12_isPattern_255 rfl (lv_at hl 1 rfl) ?_
            refine mg_11 hx hb hts inX12_isPattern hown hK hP (hts _ lkX12_isPattern_f35) dX12_isPattern_256 ?_
            refine lv_iload hx hb dX12_isPattern_259 (lv_at hl 8 rfl) ?_
            refine ml_11 hx hb hK hP (by omega) dX12_isPattern_261 ?_
            refine tp_i (y := nI (G 11 (CH G a0 kx))) rfl ?_
            refine ms_47 hx hb hK hP hD hS (by omega) dX12_isPattern_262 (fun H locs hP hD hS => ?_)
            rw [PK47] at hP hD
            have hP : va_P (dC, dI) vwCl (MW cB cC cI cJ cZ z0 R pl (va_up (va_up N 49 vc) 53 q) (LK (va_up (va_up G 47 (va_up VN vc (G 11 (CH G a0 kx)))) 48 VR) L Hw O) B) H := hP
            have hD : va_D A (MW cB cC cI cJ cZ z0 R pl (va_up (va_up N 49 vc) 53 q) (LK (va_up (va_up G 47 (va_up VN vc (G 11 (CH G a0 kx)))) 48 VR) L Hw O) B) := hD
            refine lv_aload_n hx hb dX12_isPattern_263 rfl (lv_at hl 1 rfl) ?_
            refine mg_48 hx hb hts inX12_isPattern hown hK hP (hts _ lkX12_isPattern_f94) dX12_isPattern_264 ?_
            refine lv_aload_n hx hb dX12_isPattern_267 rfl (lv_at hl 1 rfl) ?_
            refine mg_49 hx hb hts inX12_isPattern hown hK hP (hts _ lkX12_isPattern_f309) dX12_isPattern_268 ?_
            refine tp_i (y := nI vc) rfl ?_
            refine lv_iload hx hb dX12_isPattern_271 (lv_at hl 9 rfl) ?_
            refine ms_48 hx hb hK hP hD hS (by omega) (by omega) dX12_isPattern_273 (fun H locs hP hD hS => ?_)
            rw [PK48] at hP hD
            have hP : va_P (dC, dI) vwCl (MW cB cC cI cJ cZ z0 R pl (va_up (va_up N 49 vc) 53 q) (LK (va_up (va_up G 47 (va_up VN vc (G 11 (CH G a0 kx)))) 48 (va_up VR vc mo)) L Hw O) B) H := hP
            have hD : va_D A (MW cB cC cI cJ cZ z0 R pl (va_up (va_up N 49 vc) 53 q) (LK (va_up (va_up G 47 (va_up VN vc (G 11 (CH G a0 kx)))) 48 (va_up VR vc mo)) L Hw O) B) := hD
            refine lv_aload_n hx hb dX12_isPattern_274 rfl (lv_at hl 1 rfl) ?_
            refine lv_dup hx hb dX12_isPattern_275 rfl ?_
            refine mg_49 hx hb hts inX12_isPattern hown hK hP (hts _ lkX12_isPattern_f309) dX12_isPattern_276 ?_
            refine tp_i (y := nI vc) rfl ?_
            refine lv_iconst (v := nI 1) hx hb dX12_isPattern_279 (by decide) ?_
            refine lv_iadd hx hb dX12_isPattern_280 ?_
            refine tp_i (nI_add vc 1) ?_
            refine mp_49 hx hb hts inX12_isPattern hown hK hP hD hS (hts _ lkX12_isPattern_f309) dX12_isPattern_281 (fun H locs hP hD hS => ?_)
            rw [PN49] at hP hD
            have hP : va_P (dC, dI) vwCl (MW cB cC cI cJ cZ z0 R pl (va_up (va_up N 49 (vc + 1)) 53 q) (LK (va_up (va_up G 47 (va_up VN vc (G 11 (CH G a0 kx)))) 48 (va_up VR vc mo)) L Hw O) B) H := hP
            have hD : va_D A (MW cB cC cI cJ cZ z0 R pl (va_up (va_up N 49 (vc + 1)) 53 q) (LK (va_up (va_up G 47 (va_up VN vc (G 11 (CH G a0 kx)))) 48 (va_up VR vc mo)) L Hw O) B) := hD
            have hp2 := hp.leaf hat hkx t2 c1 c2 ⟨c3, c4⟩ 0 (if_neg (by omega)).symm
            rw [hmo] at hp2
            exact kn q (vc + 1) 0 L Hw O (va_up VN vc (G 11 (CH G a0 kx))) (va_up VR vc mo) H locs hL hH hO (hIup hVN (hG 11 _)) (hIup hVR (by omega)) (hp2) hP hD hS ls (lv_sub hl [1, 2, 0, 3, 4, 5, 6, 7] rfl)
          · refine lv_iconst (v := nI 1) hx hb dX12_isPattern_241 (by decide) ?_
            refine lv_goto (tgt := 246) hx hb dX12_isPattern_242 (by decide) ?_
            refine lv_istore_n (lv' := [(3, .int (nI 1)), (0, .ref z0), (1, .int (nI rules)), (4, .int (nI a1)), (5, .int (nI a0)), (6, .int (nI f0)), (7, .int (nI w0)), (8, .int (nI kx)), (9, .int (nI (CH G a0 kx))), (10, .int (nI mo))]) hx hb dX12_isPattern_246 rfl hl (by decide) rfl (fun ls hl => ?_)
            refine lv_aload_n hx hb dX12_isPattern_247 rfl (lv_at hl 1 rfl) ?_
            refine mg_47 hx hb hts inX12_isPattern hown hK hP (hts _ lkX12_isPattern_f91) dX12_isPattern_248 ?_
            refine lv_aload_n hx hb dX12_isPattern_251 rfl (lv_at hl 1 rfl) ?_
            refine mg_49 hx hb hts inX12_isPattern hown hK hP (hts _ lkX12_isPattern_f309) dX12_isPattern_252 ?_
            refine tp_i (y := nI vc) rfl ?_
            refine lv_aload_n hx hb dX12_isPattern_255 rfl (lv_at hl 1 rfl) ?_
            refine mg_11 hx hb hts inX12_isPattern hown hK hP (hts _ lkX12_isPattern_f35) dX12_isPattern_256 ?_
            refine lv_iload hx hb dX12_isPattern_259 (lv_at hl 8 rfl) ?_
            refine ml_11 hx hb hK hP (by omega) dX12_isPattern_261 ?_
            refine tp_i (y := nI (G 11 (CH G a0 kx))) rfl ?_
            refine ms_47 hx hb hK hP hD hS (by omega) dX12_isPattern_262 (fun H locs hP hD hS => ?_)
            rw [PK47] at hP hD
            have hP : va_P (dC, dI) vwCl (MW cB cC cI cJ cZ z0 R pl (va_up (va_up N 49 vc) 53 q) (LK (va_up (va_up G 47 (va_up VN vc (G 11 (CH G a0 kx)))) 48 VR) L Hw O) B) H := hP
            have hD : va_D A (MW cB cC cI cJ cZ z0 R pl (va_up (va_up N 49 vc) 53 q) (LK (va_up (va_up G 47 (va_up VN vc (G 11 (CH G a0 kx)))) 48 VR) L Hw O) B) := hD
            refine lv_aload_n hx hb dX12_isPattern_263 rfl (lv_at hl 1 rfl) ?_
            refine mg_48 hx hb hts inX12_isPattern hown hK hP (hts _ lkX12_isPattern_f94) dX12_isPattern_264 ?_
            refine lv_aload_n hx hb dX12_isPattern_267 rfl (lv_at hl 1 rfl) ?_
            refine mg_49 hx hb hts inX12_isPattern hown hK hP (hts _ lkX12_isPattern_f309) dX12_isPattern_268 ?_
            refine tp_i (y := nI vc) rfl ?_
            refine lv_iload hx hb dX12_isPattern_271 (lv_at hl 9 rfl) ?_
            refine ms_48 hx hb hK hP hD hS (by omega) (by omega) dX12_isPattern_273 (fun H locs hP hD hS => ?_)
            rw [PK48] at hP hD
            have hP : va_P (dC, dI) vwCl (MW cB cC cI cJ cZ z0 R pl (va_up (va_up N 49 vc) 53 q) (LK (va_up (va_up G 47 (va_up VN vc (G 11 (CH G a0 kx)))) 48 (va_up VR vc mo)) L Hw O) B) H := hP
            have hD : va_D A (MW cB cC cI cJ cZ z0 R pl (va_up (va_up N 49 vc) 53 q) (LK (va_up (va_up G 47 (va_up VN vc (G 11 (CH G a0 kx)))) 48 (va_up VR vc mo)) L Hw O) B) := hD
            refine lv_aload_n hx hb dX12_isPattern_274 rfl (lv_at hl 1 rfl) ?_
            refine lv_dup hx hb dX12_isPattern_275 rfl ?_
            refine mg_49 hx hb hts inX12_isPattern hown hK hP (hts _ lkX12_isPattern_f309) dX12_isPattern_276 ?_
            refine tp_i (y := nI vc) rfl ?_
            refine lv_iconst (v := nI 1) hx hb dX12_isPattern_279 (by decide) ?_
            refine lv_iadd hx hb dX12_isPattern_280 ?_
            refine tp_i (nI_add vc 1) ?_
            refine mp_49 hx hb hts inX12_isPattern hown hK hP hD hS (hts _ lkX12_isPattern_f309) dX12_isPattern_281 (fun H locs hP hD hS => ?_)
            rw [PN49] at hP hD
            have hP : va_P (dC, dI) vwCl (MW cB cC cI cJ cZ z0 R pl (va_up (va_up N 49 (vc + 1)) 53 q) (LK (va_up (va_up G 47 (va_up VN vc (G 11 (CH G a0 kx)))) 48 (va_up VR vc mo)) L Hw O) B) H := hP
            have hD : va_D A (MW cB cC cI cJ cZ z0 R pl (va_up (va_up N 49 (vc + 1)) 53 q) (LK (va_up (va_up G 47 (va_up VN vc (G 11 (CH G a0 kx)))) 48 (va_up VR vc mo)) L Hw O) B) := hD
            have hp2 := hp.leaf hat hkx t2 c1 c2 ⟨c3, c4⟩ 1 (if_pos c5).symm
            rw [hmo] at hp2
            exact kn q (vc + 1) 1 L Hw O (va_up VN vc (G 11 (CH G a0 kx))) (va_up VR vc mo) H locs hL hH hO (hIup hVN (hG 11 _)) (hIup hVR (by omega)) (hp2) hP hD hS ls (lv_sub hl [1, 2, 0, 3, 4, 5, 6, 7] rfl)
      · rw [if_neg c3] at hw
        subst hw
        refine bz_eq (tgt := 284) hx hb (by omega) dX12_isPattern_209 (by decide) (fun c => ?_) (fun q9 => absurd q9 (by omega))
        exact kn q vc 1 L Hw O VN VR H locs hL hH hO hVN hVR (hp.skip hkx (fun x rp => by unfold LEFk; rw [if_neg c1, if_neg c2, if_neg (fun y => c3 y.1.1)]) ⟨fun y => absurd y c1, fun _ y => absurd y c2⟩) hP hD hS ls (lv_sub hl [0, 1, 2, 3, 4, 5, 6, 7] rfl)
    · refine lv_aload_n hx hb dX12_isPattern_183 rfl (lv_at hl 0 rfl) ?_
      refine lv_iload hx hb dX12_isPattern_184 (lv_at hl 8 rfl) ?_
      refine lv_iload hx hb dX12_isPattern_186 (lv_at hl 9 rfl) ?_
      refine bz_eq (tgt := 195) hx hb (by omega) dX12_isPattern_188 (by decide) (fun c3 => ?_) (fun c3 => ?_)
      · refine lv_iconst (v := nI 0) hx hb dX12_isPattern_195 (by decide) ?_
        refine lv_iconst (v := nI 0) hx hb dX12_isPattern_196 (by decide) ?_
        refine mcl_v (As := [.int (nI (CH G a0 kx)), .int (nI 0), .int (nI 0)]) (rest := []) ⟨hx, hb, hml, hown, hts⟩ (m_lookAt l dC dI cB cC cI cJ cZ z0 R pl (va_up (va_up N 49 vc) 53 q) (LK (va_up (va_up G 47 VN) 48 VR) L Hw O) B (CH G a0 kx) 0 0 (show q < 90000 from (by omega)) H.size) (cwV 3 hts kX12_isPattern_X12_lookAt_318 rfl rfl rfl (by decide +kernel) ⟨Nat.le_of_ble_eq_true rfl, Nat.le_of_ble_eq_true rfl⟩) hK hP hD hS hA rfl rfl hl.1 (lv_room (Nat.le_of_ble_eq_true rfl)) dX12_isPattern_197 hcs (fun  N_6 G_7 B_8 pl_9 hw H locs hP hD hS => ?_)
        dsimp only at hw
        obtain ⟨e1, e2, e3, e4⟩ := hw
        rw [e1, e2, e3, e4, bx_uu, LK_look] at hP hD
        have hP : va_P (dC, dI) vwCl (MW cB cC cI cJ cZ z0 R pl (va_up (va_up N 49 vc) 53 (q + 1)) (LK (va_up (va_up G 47 VN) 48 VR) (va_up L q (CH G a0 kx)) (va_up Hw q 0) (va_up O q 0)) B) H := hP
        have hD : va_D A (MW cB cC cI cJ cZ z0 R pl (va_up (va_up N 49 vc) 53 (q + 1)) (LK (va_up (va_up G 47 VN) 48 VR) (va_up L q (CH G a0 kx)) (va_up Hw q 0) (va_up O q 0)) B) := hD
        refine lv_goto (tgt := 284) hx hb dX12_isPattern_200 (by decide) ?_
        have hmo2 : MORE G a0 w0 kx = 0 := by rw [hmo]; omega
        have hp2 := hp.list hkx t2 c1 c2
        rw [hmo2] at hp2
        exact kn (q + 1) vc 1 (va_up L q (CH G a0 kx)) (va_up Hw q 0) (va_up O q 0) VN VR H locs (hIup hL (by omega)) (hIup hH (by decide)) (hIup hO (by decide)) hVN hVR (hp2) hP hD hS ls (lv_sub hl [0, 1, 2, 3, 4, 5, 6, 7] rfl)
      · refine lv_iconst (v := nI 1) hx hb dX12_isPattern_191 (by decide) ?_
        refine lv_goto (tgt := 196) hx hb dX12_isPattern_192 (by decide) ?_
        refine lv_iconst (v := nI 0) hx hb dX12_isPattern_196 (by decide) ?_
        refine mcl_v (As := [.int (nI (CH G a0 kx)), .int (nI 1), .int (nI 0)]) (rest := []) ⟨hx, hb, hml, hown, hts⟩ (m_lookAt l dC dI cB cC cI cJ cZ z0 R pl (va_up (va_up N 49 vc) 53 q) (LK (va_up (va_up G 47 VN) 48 VR) L Hw O) B (CH G a0 kx) 1 0 (show q < 90000 from (by omega)) H.size) (cwV 3 hts kX12_isPattern_X12_lookAt_318 rfl rfl rfl (by decide +kernel) ⟨Nat.le_of_ble_eq_true rfl, Nat.le_of_ble_eq_true rfl⟩) hK hP hD hS hA rfl rfl hl.1 (lv_room (Nat.le_of_ble_eq_true rfl)) dX12_isPattern_197 hcs (fun  N_11 G_12 B_13 pl_14 hw H locs hP hD hS => ?_)
        dsimp only at hw
        obtain ⟨e1, e2, e3, e4⟩ := hw
        rw [e1, e2, e3, e4, bx_uu, LK_look] at hP hD
        have hP : va_P (dC, dI) vwCl (MW cB cC cI cJ cZ z0 R pl (va_up (va_up N 49 vc) 53 (q + 1)) (LK (va_up (va_up G 47 VN) 48 VR) (va_up L q (CH G a0 kx)) (va_up Hw q 1) (va_up O q 0)) B) H := hP
        have hD : va_D A (MW cB cC cI cJ cZ z0 R pl (va_up (va_up N 49 vc) 53 (q + 1)) (LK (va_up (va_up G 47 VN) 48 VR) (va_up L q (CH G a0 kx)) (va_up Hw q 1) (va_up O q 0)) B) := hD
        refine lv_goto (tgt := 284) hx hb dX12_isPattern_200 (by decide) ?_
        have hmo2 : MORE G a0 w0 kx = 1 := by rw [hmo]; omega
        have hp2 := hp.list hkx t2 c1 c2
        rw [hmo2] at hp2
        exact kn (q + 1) vc 1 (va_up L q (CH G a0 kx)) (va_up Hw q 1) (va_up O q 0) VN VR H locs (hIup hL (by omega)) (hIup hH (by decide)) (hIup hO (by decide)) hVN hVR (hp2) hP hD hS ls (lv_sub hl [0, 1, 2, 3, 4, 5, 6, 7] rfl)

set_option maxHeartbeats 4000000 in
set_option maxRecDepth 100000 in
theorem lp_pat1 {p : Program} {l : Launch} {e : Env} {s : State} {m : MethodId} {args : Array Value} {below : List Frame} {meth : Method} {c : Code} {Q : State → Prop} {A : Nat → Prop} {dC : Nat → ClassId} {dI : Nat → Nat → Nat} {cB cC cI cJ cZ : ClassId} {z0 : Nat} {R : Nat → Nat} (hx : p.tables.exec = Jvm.exec) (hb : c.code = cX12_isPattern) (hml : c.maxLocals = 11) (hown : s.vm.findClass RX12 = some m.cls) (hts : ∀ w ∈ vX12_isPattern, w.before args s = true) (hK : va_K (dC, dI) vwCl (TY cB cC cI cJ cZ) s) (hA : ∀ q : Nat, s.heap.size ≤ q → A q) {pl : Int32} {N : Nat → Nat} {G : Nat → Nat → Nat} {B : Nat → Nat → Int32} {sz az : Nat → Nat} {rules : Nat} (hG : ∀ k i, G k i < 1048576) (ht9 : TREE N G sz) (hat : ATOM N G az) (hal : AL N G) (hru : rules < 90000) (hr1 : G 11 rules + 1 < 90000) (hl1 : CH G rules 1 < 90000) (hlc : ∀ j, j < G 12 (CH G rules 1) → G 11 (CH G rules 1) + j < 90000 ∧ CH G (CH G rules 1) j < 90000) (top a1 a0 f0 w0 : Nat) (ko : ∀ (q vc fi : Nat) (L Hw O VN VR : Nat → Nat) (H : Heap) (locs : List Loc), (∀ i, L i < 1048576) → (∀ i, Hw i < 1048576) → (∀ i, O i < 1048576) → (∀ i, VN i < 1048576) → (∀ i, VR i < 1048576) → POUT N G sz az rules top (a1 + 1) q vc fi L Hw O VN VR → va_P (dC, dI) vwCl (MW cB cC cI cJ cZ z0 R pl (va_up (va_up N 49 vc) 53 q) (LK (va_up (va_up G 47 VN) 48 VR) L Hw O) B) H → va_D A (MW cB cC cI cJ cZ z0 R pl (va_up (va_up N 49 vc) 53 q) (LK (va_up (va_up G 47 VN) 48 VR) L Hw O) B) → va_S A s.heap H locs → ∀ (ls : Array Slot), lv_has ls 11 [(0, .ref z0), (1, .int (nI rules)), (3, .int (nI fi)), (4, .int (nI a1))] → W p l e (headSpec vX12_isPattern { frames := 3, cells := 0, slots := 0, locals := 66 }).room s m args below meth c H locs 0 0 Q (F0 m 290 ls [])) : ∀ (k : Nat) (kx q vc fi : Nat) (L Hw O VN VR : Nat → Nat), G 12 a0 - kx < k → kx ≤ 1048576 → (∀ i, L i < 1048576) → (∀ i, Hw i < 1048576) → (∀ i, O i < 1048576) → (∀ i, VN i < 1048576) → (∀ i, VR i < 1048576) → PINV N G sz az rules top a1 a0 f0 w0 kx q vc fi L Hw O VN VR → ∀ (H : Heap) (locs : List Loc), va_P (dC, dI) vwCl (MW cB cC cI cJ cZ z0 R pl (va_up (va_up N 49 vc) 53 q) (LK (va_up (va_up G 47 VN) 48 VR) L Hw O) B) H → va_D A (MW cB cC cI cJ cZ z0 R pl (va_up (va_up N 49 vc) 53 q) (LK (va_up (va_up G 47 VN) 48 VR) L Hw O) B) → va_S A s.heap H locs → ∀ (ls : Array Slot), lv_has ls 11 [(0, .ref z0), (1, .int (nI rules)), (3, .int (nI fi)), (4, .int (nI a1)), (5, .int (nI a0)), (6, .int (nI f0)), (7, .int (nI w0)), (8, .int (nI kx))] → W p l e (headSpec vX12_isPattern { frames := 3, cells := 0, slots := 0, locals := 66 }).room s m args below meth c H locs 0 0 Q (F0 m 75 ls []) := by
  have hcs : 0 + 0 ≤ (0 : Nat) ∧ 0 + 0 ≤ (0 : Nat) := ⟨Nat.le_refl 0, Nat.le_refl 0⟩
  intro k
  induction k with
  | zero =>
    intro kx q vc fi L Hw O VN VR hk hkb hL hH hO hVN hVR hp
    omega
  | succ k ih =>
    intro kx q vc fi L Hw O VN VR hk hkb hL hH hO hVN hVR hp H locs hP hD hS ls hl
    obtain ⟨n1, n2, n3, n4, n5, n6, n7⟩ := hp.num ht9
    obtain ⟨u1, u2, u3, u4, u5⟩ := ht9.2 a0 n6
    have u6 := ht9.1
    have g1 := hG 12 a0
    have hG2 := hGLK (hGup (q := 48) (hGup (q := 47) hG hVN) hVR) hL hH hO
    refine lv_iload hx hb dX12_isPattern_75 (lv_at hl 7 rfl) ?_
    refine lv_aload_n hx hb dX12_isPattern_77 rfl (lv_at hl 0 rfl) ?_
    refine mg_12 hx hb hts inX12_isPattern hown hK hP (hts _ lkX12_isPattern_f38) dX12_isPattern_78 ?_
    refine lv_iload hx hb dX12_isPattern_81 (lv_at hl 4 rfl) ?_
    refine ml_12 hx hb hK hP (by omega) dX12_isPattern_83 ?_
    refine tp_i (y := nI (G 12 a0)) rfl ?_
    refine bn_ge (tgt := 290) hx hb (by omega) (by omega) dX12_isPattern_84 (by decide) (fun c1 => ?_) (fun c1 => ?_)
    · exact ko q vc fi L Hw O VN VR H locs hL hH hO hVN hVR (hp.exit (Or.inl c1)) hP hD hS ls (lv_sub hl [0, 1, 2, 3] rfl)
    · refine lv_iload_n hx hb dX12_isPattern_87 rfl (lv_at hl 2 rfl) ?_
      refine bz_eq (tgt := 290) hx hb (by omega) dX12_isPattern_88 (by decide) (fun c2 => ?_) (fun c2 => ?_)
      · exact ko q vc fi L Hw O VN VR H locs hL hH hO hVN hVR (hp.exit (Or.inr c2)) hP hD hS ls (lv_sub hl [0, 1, 2, 3] rfl)
      · obtain rfl : fi = 1 := by omega
        obtain ⟨t1, t2⟩ := u3 kx c1
        refine lv_aload_n hx hb dX12_isPattern_91 rfl (lv_at hl 0 rfl) ?_
        refine lv_iload hx hb dX12_isPattern_92 (lv_at hl 4 rfl) ?_
        refine lv_iload hx hb dX12_isPattern_94 (lv_at hl 7 rfl) ?_
        refine mcl_i (As := [.int (nI a0), .int (nI kx)]) (rest := []) ⟨hx, hb, hml, hown, hts⟩ (m_part l dC dI cB cC cI cJ cZ z0 R pl (va_up (va_up N 49 vc) 53 q) (LK (va_up (va_up G 47 VN) 48 VR) L Hw O) B a0 kx hG2 (by omega) t1 H.size) (cwV 2 hts kX12_isPattern_X12_part_192 rfl rfl rfl (by decide +kernel) ⟨Nat.le_of_ble_eq_true rfl, Nat.le_of_ble_eq_true rfl⟩) hK hP hD hS hA rfl rfl hl.1 (lv_room (Nat.le_of_ble_eq_true rfl)) dX12_isPattern_96 hcs (fun r_5 N_1 G_2 B_3 pl_4 hw H locs hP hD hS => ?_)
        dsimp only at hw
        obtain ⟨e1, e2, e3, e4, hw⟩ := hw
        rw [e1, e2, e3, e4] at hP hD
        have hw : r_5 = nI (CH G a0 kx) := hw
        subst hw
        refine lv_istore (lv' := [(9, .int (nI (CH G a0 kx))), (0, .ref z0), (1, .int (nI rules)), (3, .int (nI 1)), (4, .int (nI a1)), (5, .int (nI a0)), (6, .int (nI f0)), (7, .int (nI w0)), (8, .int (nI kx))]) hx hb dX12_isPattern_99 hl (by decide) rfl (fun ls hl => ?_)
        refine lv_iload hx hb dX12_isPattern_101 (lv_at hl 7 rfl) ?_
        refine bz_ne (tgt := 119) hx hb (by omega) dX12_isPattern_103 (by decide) (fun c3 => ?_) (fun c3 => ?_)
        · refine lv_iconst (v := nI 1) hx hb dX12_isPattern_119 (by decide) ?_
          refine lv_goto (tgt := 124) hx hb dX12_isPattern_120 (by decide) ?_
          refine lv_istore (lv' := [(10, .int (nI 1)), (9, .int (nI (CH G a0 kx))), (0, .ref z0), (1, .int (nI rules)), (3, .int (nI 1)), (4, .int (nI a1)), (5, .int (nI a0)), (6, .int (nI f0)), (7, .int (nI w0)), (8, .int (nI kx))]) hx hb dX12_isPattern_124 hl (by decide) rfl (fun ls hl => ?_)
          refine lp_patR hx hb hml hown hts hK hA hG ht9 hat hal hru hr1 hl1 hlc top a1 a0 f0 w0 kx q vc 1 L Hw O VN VR hL hH hO hVN hVR c1 (if_pos (Or.inl (by omega))) hp (fun q vc fi L Hw O VN VR H locs hL hH hO hVN hVR hp hP hD hS ls hl => ?_) _ _ hP hD hS ls (lv_sub hl [2, 3, 4, 5, 6, 7, 8, 9, 1, 0] rfl)
          refine lv_iinc (v := nI (kx + 1)) (lv' := [(8, .int (nI (kx + 1))), (0, .ref z0), (1, .int (nI rules)), (3, .int (nI fi)), (4, .int (nI a1)), (5, .int (nI a0)), (6, .int (nI f0)), (7, .int (nI w0))]) hx hb dX12_isPattern_284 hl (k := 7) rfl (nI_add kx 1) (by decide) rfl (fun ls hl => ?_)
          refine lv_goto (tgt := 75) hx hb dX12_isPattern_287 (by decide) ?_
          exact ih (kx + 1) q vc fi L Hw O VN VR (by omega) (by omega) hL hH hO hVN hVR hp _ _ hP hD hS ls (lv_sub hl [1, 2, 3, 4, 5, 6, 7, 0] rfl)
        · refine lv_aload_n hx hb dX12_isPattern_106 rfl (lv_at hl 1 rfl) ?_
          refine lv_iload hx hb dX12_isPattern_107 (lv_at hl 5 rfl) ?_
          refine lv_iload hx hb dX12_isPattern_109 (lv_at hl 8 rfl) ?_
          refine lv_iconst (v := nI 1) hx hb dX12_isPattern_111 (by decide) ?_
          refine lv_iadd hx hb dX12_isPattern_112 ?_
          refine tp_i (nI_add kx 1) ?_
          refine mcl_i (As := [.int (nI a0), .int (nI (kx + 1))]) (rest := []) ⟨hx, hb, hml, hown, hts⟩ (m_isEllipsis l dC dI cB cC cI cJ cZ z0 R pl (va_up (va_up N 49 vc) 53 q) (LK (va_up (va_up G 47 VN) 48 VR) L Hw O) B a0 (kx + 1) hG2 hal (by omega) (by omega) (fun y => ⟨(u3 _ y).1, Nat.lt_of_lt_of_le (u3 _ y).2 u6, (ht9.2 _ (u3 _ y).2).2.2.2.1⟩) H.size) (cwV 2 hts kX12_isPattern_X12_isEllipsis_321 rfl rfl rfl (by decide +kernel) ⟨Nat.le_of_ble_eq_true rfl, Nat.le_of_ble_eq_true rfl⟩) hK hP hD hS hA rfl rfl hl.1 (lv_room (Nat.le_of_ble_eq_true rfl)) dX12_isPattern_113 hcs (fun r_10 N_6 G_7 B_8 pl_9 hw H locs hP hD hS => ?_)
          dsimp only at hw
          obtain ⟨e1, e2, e3, e4, hw⟩ := hw
          rw [e1, e2, e3, e4] at hP hD
          have hw : r_10 = nI (if ELL G a0 (kx + 1) then 1 else 0) := hw
          by_cases c4 : ELL G a0 (kx + 1)
          · rw [if_pos c4] at hw
            subst hw
            refine bz_eq (tgt := 123) hx hb (by omega) dX12_isPattern_116 (by decide) (fun q9 => absurd q9 (by omega)) (fun c => ?_)
            refine lv_iconst (v := nI 1) hx hb dX12_isPattern_119 (by decide) ?_
            refine lv_goto (tgt := 124) hx hb dX12_isPattern_120 (by decide) ?_
            refine lv_istore (lv' := [(10, .int (nI 1)), (9, .int (nI (CH G a0 kx))), (0, .ref z0), (1, .int (nI rules)), (3, .int (nI 1)), (4, .int (nI a1)), (5, .int (nI a0)), (6, .int (nI f0)), (7, .int (nI w0)), (8, .int (nI kx))]) hx hb dX12_isPattern_124 hl (by decide) rfl (fun ls hl => ?_)
            refine lp_patR hx hb hml hown hts hK hA hG ht9 hat hal hru hr1 hl1 hlc top a1 a0 f0 w0 kx q vc 1 L Hw O VN VR hL hH hO hVN hVR c1 (if_pos (Or.inr c4)) hp (fun q vc fi L Hw O VN VR H locs hL hH hO hVN hVR hp hP hD hS ls hl => ?_) _ _ hP hD hS ls (lv_sub hl [2, 3, 4, 5, 6, 7, 8, 9, 1, 0] rfl)
            refine lv_iinc (v := nI (kx + 1)) (lv' := [(8, .int (nI (kx + 1))), (0, .ref z0), (1, .int (nI rules)), (3, .int (nI fi)), (4, .int (nI a1)), (5, .int (nI a0)), (6, .int (nI f0)), (7, .int (nI w0))]) hx hb dX12_isPattern_284 hl (k := 7) rfl (nI_add kx 1) (by decide) rfl (fun ls hl => ?_)
            refine lv_goto (tgt := 75) hx hb dX12_isPattern_287 (by decide) ?_
            exact ih (kx + 1) q vc fi L Hw O VN VR (by omega) (by omega) hL hH hO hVN hVR hp _ _ hP hD hS ls (lv_sub hl [1, 2, 3, 4, 5, 6, 7, 0] rfl)
          · rw [if_neg c4] at hw
            subst hw
            refine bz_eq (tgt := 123) hx hb (by omega) dX12_isPattern_116 (by decide) (fun c => ?_) (fun q9 => absurd q9 (by omega))
            refine lv_iconst (v := nI 0) hx hb dX12_isPattern_123 (by decide) ?_
            refine lv_istore (lv' := [(10, .int (nI 0)), (9, .int (nI (CH G a0 kx))), (0, .ref z0), (1, .int (nI rules)), (3, .int (nI 1)), (4, .int (nI a1)), (5, .int (nI a0)), (6, .int (nI f0)), (7, .int (nI w0)), (8, .int (nI kx))]) hx hb dX12_isPattern_124 hl (by decide) rfl (fun ls hl => ?_)
            refine lp_patR hx hb hml hown hts hK hA hG ht9 hat hal hru hr1 hl1 hlc top a1 a0 f0 w0 kx q vc 0 L Hw O VN VR hL hH hO hVN hVR c1 (if_neg (fun y => y.elim (fun z => by omega) c4)) hp (fun q vc fi L Hw O VN VR H locs hL hH hO hVN hVR hp hP hD hS ls hl => ?_) _ _ hP hD hS ls (lv_sub hl [2, 3, 4, 5, 6, 7, 8, 9, 1, 0] rfl)
            refine lv_iinc (v := nI (kx + 1)) (lv' := [(8, .int (nI (kx + 1))), (0, .ref z0), (1, .int (nI rules)), (3, .int (nI fi)), (4, .int (nI a1)), (5, .int (nI a0)), (6, .int (nI f0)), (7, .int (nI w0))]) hx hb dX12_isPattern_284 hl (k := 7) rfl (nI_add kx 1) (by decide) rfl (fun ls hl => ?_)
            refine lv_goto (tgt := 75) hx hb dX12_isPattern_287 (by decide) ?_
            exact ih (kx + 1) q vc fi L Hw O VN VR (by omega) (by omega) hL hH hO hVN hVR hp _ _ hP hD hS ls (lv_sub hl [1, 2, 3, 4, 5, 6, 7, 0] rfl)

set_option maxHeartbeats 4000000 in
set_option maxRecDepth 100000 in
theorem lp_pat2 {p : Program} {l : Launch} {e : Env} {s : State} {m : MethodId} {args : Array Value} {below : List Frame} {meth : Method} {c : Code} {Q : State → Prop} {A : Nat → Prop} {dC : Nat → ClassId} {dI : Nat → Nat → Nat} {cB cC cI cJ cZ : ClassId} {z0 : Nat} {R : Nat → Nat} (hx : p.tables.exec = Jvm.exec) (hb : c.code = cX12_isPattern) (hml : c.maxLocals = 11) (hown : s.vm.findClass RX12 = some m.cls) (hts : ∀ w ∈ vX12_isPattern, w.before args s = true) (hK : va_K (dC, dI) vwCl (TY cB cC cI cJ cZ) s) (hA : ∀ q : Nat, s.heap.size ≤ q → A q) {pl : Int32} {N : Nat → Nat} {G : Nat → Nat → Nat} {B : Nat → Nat → Int32} {sz az : Nat → Nat} {rules : Nat} (hG : ∀ k i, G k i < 1048576) (ht9 : TREE N G sz) (hat : ATOM N G az) (hal : AL N G) (hru : rules < 90000) (hr1 : G 11 rules + 1 < 90000) (hl1 : CH G rules 1 < 90000) (hlc : ∀ j, j < G 12 (CH G rules 1) → G 11 (CH G rules 1) + j < 90000 ∧ CH G (CH G rules 1) j < 90000) (top : Nat) (kf : ∀ (q vc fi : Nat) (L Hw O VN VR : Nat → Nat) (H : Heap) (locs : List Loc), (∀ i, L i < 1048576) → (∀ i, Hw i < 1048576) → (∀ i, O i < 1048576) → (∀ i, VN i < 1048576) → (∀ i, VR i < 1048576) → q ≤ 3001 → vc ≤ 1501 → (fi ≤ 1 ∧ (fi = 1 ↔ PATOK G sz rules top) ∧ (fi = 1 → (∀ x rp, LEF G sz rules x rp top 1 0 = TC VN VR x rp vc) ∧ ∀ v, v < vc → VR v ≤ 1)) → va_P (dC, dI) vwCl (MW cB cC cI cJ cZ z0 R pl (va_up (va_up N 49 vc) 53 q) (LK (va_up (va_up G 47 VN) 48 VR) L Hw O) B) H → va_D A (MW cB cC cI cJ cZ z0 R pl (va_up (va_up N 49 vc) 53 q) (LK (va_up (va_up G 47 VN) 48 VR) L Hw O) B) → va_S A s.heap H locs → ∀ (ls : Array Slot), lv_has ls 11 [(3, .int (nI fi))] → W p l e (headSpec vX12_isPattern { frames := 3, cells := 0, slots := 0, locals := 66 }).room s m args below meth c H locs 0 0 Q (F0 m 296 ls [])) : ∀ (k : Nat) (a1 q vc fi : Nat) (L Hw O VN VR : Nat → Nat), 3002 - a1 < k → (∀ i, L i < 1048576) → (∀ i, Hw i < 1048576) → (∀ i, O i < 1048576) → (∀ i, VN i < 1048576) → (∀ i, VR i < 1048576) → POUT N G sz az rules top a1 q vc fi L Hw O VN VR → ∀ (H : Heap) (locs : List Loc), va_P (dC, dI) vwCl (MW cB cC cI cJ cZ z0 R pl (va_up (va_up N 49 vc) 53 q) (LK (va_up (va_up G 47 VN) 48 VR) L Hw O) B) H → va_D A (MW cB cC cI cJ cZ z0 R pl (va_up (va_up N 49 vc) 53 q) (LK (va_up (va_up G 47 VN) 48 VR) L Hw O) B) → va_S A s.heap H locs → ∀ (ls : Array Slot), lv_has ls 11 [(0, .ref z0), (1, .int (nI rules)), (3, .int (nI fi)), (4, .int (nI a1))] → W p l e (headSpec vX12_isPattern { frames := 3, cells := 0, slots := 0, locals := 66 }).room s m args below meth c H locs 0 0 Q (F0 m 22 ls []) := by
  have hcs : 0 + 0 ≤ (0 : Nat) ∧ 0 + 0 ≤ (0 : Nat) := ⟨Nat.le_refl 0, Nat.le_refl 0⟩
  intro k
  induction k with
  | zero =>
    intro a1 q vc fi L Hw O VN VR hk hL hH hO hVN hVR hp
    omega
  | succ k ih =>
    intro a1 q vc fi L Hw O VN VR hk hL hH hO hVN hVR hp H locs hP hD hS ls hl
    obtain ⟨n1, n2, n3, n4⟩ := hp.num ht9
    refine lv_iload hx hb dX12_isPattern_22 (lv_at hl 3 rfl) ?_
    refine lv_aload_n hx hb dX12_isPattern_24 rfl (lv_at hl 0 rfl) ?_
    refine mg_53 hx hb hts inX12_isPattern hown hK hP (hts _ lkX12_isPattern_f306) dX12_isPattern_25 ?_
    refine tp_i (y := nI q) rfl ?_
    refine bn_ge (tgt := 296) hx hb (by omega) (by omega) dX12_isPattern_28 (by decide) (fun c1 => ?_) (fun c1 => ?_)
    · exact kf q vc fi L Hw O VN VR H locs hL hH hO hVN hVR n1 n2 (hp.fin (Or.inl c1)) hP hD hS ls (lv_sub hl [2] rfl)
    · refine lv_iload_n hx hb dX12_isPattern_31 rfl (lv_at hl 2 rfl) ?_
      refine bz_eq (tgt := 296) hx hb (by omega) dX12_isPattern_32 (by decide) (fun c2 => ?_) (fun c2 => ?_)
      · exact kf q vc fi L Hw O VN VR H locs hL hH hO hVN hVR n1 n2 (hp.fin (Or.inr c2)) hP hD hS ls (lv_sub hl [2] rfl)
      · obtain rfl : fi = 1 := by omega
        have hp1 := hp.enter ht9 hat c1
        obtain ⟨j0, j1, -⟩ := hp
        obtain ⟨p1, p2, p3⟩ := j1 a1 c1
        have g3 := hH a1
        have g4 := hO a1
        refine lv_aload_n hx hb dX12_isPattern_35 rfl (lv_at hl 0 rfl) ?_
        refine mg_50 hx hb hts inX12_isPattern hown hK hP (hts _ lkX12_isPattern_f98) dX12_isPattern_36 ?_
        refine lv_iload hx hb dX12_isPattern_39 (lv_at hl 3 rfl) ?_
        refine ml_50 hx hb hK hP (by omega) dX12_isPattern_41 ?_
        refine tp_i (y := nI (L a1)) rfl ?_
        refine lv_istore (lv' := [(5, .int (nI (L a1))), (0, .ref z0), (1, .int (nI rules)), (3, .int (nI 1)), (4, .int (nI a1))]) hx hb dX12_isPattern_42 hl (by decide) rfl (fun ls hl => ?_)
        refine lv_aload_n hx hb dX12_isPattern_44 rfl (lv_at hl 1 rfl) ?_
        refine mg_52 hx hb hts inX12_isPattern hown hK hP (hts _ lkX12_isPattern_f104) dX12_isPattern_45 ?_
        refine lv_iload hx hb dX12_isPattern_48 (lv_at hl 4 rfl) ?_
        refine ml_52 hx hb hK hP (by omega) dX12_isPattern_50 ?_
        refine tp_i (y := nI (O a1)) rfl ?_
        refine lv_istore (lv' := [(6, .int (nI (O a1))), (5, .int (nI (L a1))), (0, .ref z0), (1, .int (nI rules)), (3, .int (nI 1)), (4, .int (nI a1))]) hx hb dX12_isPattern_51 hl (by decide) rfl (fun ls hl => ?_)
        refine lv_aload_n hx hb dX12_isPattern_53 rfl (lv_at hl 2 rfl) ?_
        refine mg_51 hx hb hts inX12_isPattern hown hK hP (hts _ lkX12_isPattern_f101) dX12_isPattern_54 ?_
        refine lv_iload hx hb dX12_isPattern_57 (lv_at hl 5 rfl) ?_
        refine ml_51 hx hb hK hP (by omega) dX12_isPattern_59 ?_
        refine tp_i (y := nI (Hw a1)) rfl ?_
        refine lv_iconst (v := nI 1) hx hb dX12_isPattern_60 (by decide) ?_
        refine bn_ne (tgt := 68) hx hb (by omega) (by omega) dX12_isPattern_61 (by decide) (fun c3 => ?_) (fun c3 => ?_)
        · have e7 : Hw a1 = 0 := by omega
          refine lv_iconst (v := nI 0) hx hb dX12_isPattern_68 (by decide) ?_
          refine lv_istore (lv' := [(7, .int (nI 0)), (6, .int (nI (O a1))), (5, .int (nI (L a1))), (0, .ref z0), (1, .int (nI rules)), (3, .int (nI 1)), (4, .int (nI a1))]) hx hb dX12_isPattern_69 hl (by decide) rfl (fun ls hl => ?_)
          refine lv_iload hx hb dX12_isPattern_71 (lv_at hl 1 rfl) ?_
          refine lv_istore (lv' := [(8, .int (nI (O a1))), (7, .int (nI 0)), (6, .int (nI (O a1))), (5, .int (nI (L a1))), (0, .ref z0), (1, .int (nI rules)), (3, .int (nI 1)), (4, .int (nI a1))]) hx hb dX12_isPattern_73 hl (by decide) rfl (fun ls hl => ?_)
          rw [e7] at hp1
          refine lp_pat1 hx hb hml hown hts hK hA hG ht9 hat hal hru hr1 hl1 hlc top a1 (L a1) (O a1) 0 (fun q vc fi L Hw O VN VR H locs hL hH hO hVN hVR hp hP hD hS ls hl => ?_) _ (O a1) q vc 1 L Hw O VN VR (Nat.lt_succ_self _) (by omega) hL hH hO hVN hVR hp1 _ _ hP hD hS ls (lv_sub hl [4, 5, 6, 7, 3, 2, 1, 0] rfl)
          refine lv_iinc (v := nI (a1 + 1)) (lv' := [(4, .int (nI (a1 + 1))), (0, .ref z0), (1, .int (nI rules)), (3, .int (nI fi))]) hx hb dX12_isPattern_290 hl (k := 3) rfl (nI_add a1 1) (by decide) rfl (fun ls hl => ?_)
          refine lv_goto (tgt := 22) hx hb dX12_isPattern_293 (by decide) ?_
          obtain ⟨m1, m2, m3, m4⟩ := hp.num ht9
          exact ih (a1 + 1) q vc fi L Hw O VN VR (by omega) hL hH hO hVN hVR hp _ _ hP hD hS ls (lv_sub hl [1, 2, 3, 0] rfl)
        · have e7 : Hw a1 = 1 := by omega
          refine lv_iconst (v := nI 1) hx hb dX12_isPattern_64 (by decide) ?_
          refine lv_goto (tgt := 69) hx hb dX12_isPattern_65 (by decide) ?_
          refine lv_istore (lv' := [(7, .int (nI 1)), (6, .int (nI (O a1))), (5, .int (nI (L a1))), (0, .ref z0), (1, .int (nI rules)), (3, .int (nI 1)), (4, .int (nI a1))]) hx hb dX12_isPattern_69 hl (by decide) rfl (fun ls hl => ?_)
          refine lv_iload hx hb dX12_isPattern_71 (lv_at hl 1 rfl) ?_
          refine lv_istore (lv' := [(8, .int (nI (O a1))), (7, .int (nI 1)), (6, .int (nI (O a1))), (5, .int (nI (L a1))), (0, .ref z0), (1, .int (nI rules)), (3, .int (nI 1)), (4, .int (nI a1))]) hx hb dX12_isPattern_73 hl (by decide) rfl (fun ls hl => ?_)
          rw [e7] at hp1
          refine lp_pat1 hx hb hml hown hts hK hA hG ht9 hat hal hru hr1 hl1 hlc top a1 (L a1) (O a1) 1 (fun q vc fi L Hw O VN VR H locs hL hH hO hVN hVR hp hP hD hS ls hl => ?_) _ (O a1) q vc 1 L Hw O VN VR (Nat.lt_succ_self _) (by omega) hL hH hO hVN hVR hp1 _ _ hP hD hS ls (lv_sub hl [4, 5, 6, 7, 3, 2, 1, 0] rfl)
          refine lv_iinc (v := nI (a1 + 1)) (lv' := [(4, .int (nI (a1 + 1))), (0, .ref z0), (1, .int (nI rules)), (3, .int (nI fi))]) hx hb dX12_isPattern_290 hl (k := 3) rfl (nI_add a1 1) (by decide) rfl (fun ls hl => ?_)
          refine lv_goto (tgt := 22) hx hb dX12_isPattern_293 (by decide) ?_
          obtain ⟨m1, m2, m3, m4⟩ := hp.num ht9
          exact ih (a1 + 1) q vc fi L Hw O VN VR (by omega) hL hH hO hVN hVR hp _ _ hP hD hS ls (lv_sub hl [1, 2, 3, 0] rfl)

set_option maxHeartbeats 4000000 in
set_option maxRecDepth 100000 in
/-- isPattern: 1 just where the pattern is as rules want it; then the row of variables tells its variables -/
theorem m_isPattern (l : Launch) (dC : Nat → ClassId) (dI : Nat → Nat → Nat) (cB cC cI cJ cZ : ClassId) (z0 : Nat) (R : Nat → Nat) (pl : Int32) (N : Nat → Nat) (G : Nat → Nat → Nat) (B : Nat → Nat → Int32) (rules top : Nat) (sz az : Nat → Nat) (hG : ∀ k i, G k i < 1048576) (ht9 : TREE N G sz) (hat : ATOM N G az) (hal : AL N G) (hru : rules < 90000) (hr1 : G 11 rules + 1 < 90000) (hl1 : CH G rules 1 < 90000) (hlc : ∀ j, j < G 12 (CH G rules 1) → G 11 (CH G rules 1) + j < 90000 ∧ CH G (CH G rules 1) j < 90000) (htop : top < N 14) (s0 : Nat) : Met l yX12_isPattern vX12_isPattern { frames := 3, cells := 0, slots := 0, locals := 66 } (va_Pc [.ref z0, .int (nI rules), .int (nI top)] (mPre dC dI cB cC cI cJ cZ z0 R pl N G B s0)) (va_Qi (fun (r : Int32) (u : ((Nat → Nat) × (Nat → Nat → Nat) × (Nat → Nat → Int32) × Int32)) => match u with | (N1, G1, B1, pl1) => B1 = B ∧ pl1 = pl ∧ ∃ q vc fi L Hw O VN VR, (∀ i, L i < 1048576) ∧ (∀ i, Hw i < 1048576) ∧ (∀ i, O i < 1048576) ∧ (∀ i, VN i < 1048576) ∧ (∀ i, VR i < 1048576) ∧ q ≤ 3001 ∧ vc ≤ 1501 ∧ N1 = va_up (va_up N 49 vc) 53 q ∧ G1 = LK (va_up (va_up G 47 VN) 48 VR) L Hw O ∧ r = nI fi ∧ fi ≤ 1 ∧ (fi = 1 ↔ PATOK G sz rules top) ∧ (fi = 1 → (∀ x rp, LEF G sz rules x rp top 1 0 = TC VN VR x rp vc) ∧ ∀ v, v < vc → VR v ≤ 1)) (mPost dC dI cB cC cI cJ cZ z0 R (va_A (MW cB cC cI cJ cZ z0 R pl N G B) s0)) (va_A (MW cB cC cI cJ cZ z0 R pl N G B) s0)) 0 0 (va_A (MW cB cC cI cJ cZ z0 R pl N G B) s0) := by
  refine Met.ofW (cc := cX12_isPattern) (maxL := 11) (ret := (some .boolean)) (by decide) rfl ?_
  intro p e s m args below meth c s₁ B9 hml hv
  obtain ⟨rfl, hsz, hP, hK, hD0⟩ := hv
  have hx := B9.exec
  have hb := B9.bytes
  have hr := B9.returns
  have hts := atoms_spec (ws := vX12_isPattern) B9.pre
  have hown : s.vm.findClass RX12 = some m.cls := findClass_of_methodNamed B9.named
  have hlocks := B9.notSynchronized
  subst hsz
  have hD := hD0.self (sz := s.heap.size)
  generalize hAe : va_A (MW cB cC cI cJ cZ z0 R pl N G B) s.heap.size = A at hD ⊢
  have hA : ∀ q : Nat, s.heap.size ≤ q → A q := fun q h => by rw [← hAe]; exact Or.inr h
  have hS : va_S A s.heap s.heap [] := va_S.rf
  have hcs : 0 + 0 ≤ (0 : Nat) ∧ 0 + 0 ≤ (0 : Nat) := ⟨Nat.le_refl 0, Nat.le_refl 0⟩
  have hl := lv_entry ([.ref z0, .int (nI rules), .int (nI top)]) (n := 11) (Nat.le_of_ble_eq_true rfl)
  rw [lg_entry_eq]
  generalize (lg_sl ([.ref z0, .int (nI rules), .int (nI top)]) ++ List.replicate (11 - (lg_sl ([.ref z0, .int (nI rules), .int (nI top)])).length) Slot.unset).toArray = ls at hl ⊢
  have hl : lv_has ls 11 [(0, .ref z0), (1, .int (nI rules)), (2, .int (nI top))] := hl
  have u6 := ht9.1
  refine lv_aload_n hx hb dX12_isPattern_0 rfl (lv_at hl 0 rfl) ?_
  refine lv_iconst (v := nI 0) hx hb dX12_isPattern_1 (by decide) ?_
  refine mp_49 hx hb hts inX12_isPattern hown hK hP hD hS (hts _ lkX12_isPattern_f309) dX12_isPattern_2 (fun H locs hP hD hS => ?_)
  refine lv_aload_n hx hb dX12_isPattern_5 rfl (lv_at hl 0 rfl) ?_
  refine lv_iconst (v := nI 0) hx hb dX12_isPattern_6 (by decide) ?_
  refine mp_53 hx hb hts inX12_isPattern hown hK hP hD hS (hts _ lkX12_isPattern_f306) dX12_isPattern_7 (fun H locs hP hD hS => ?_)
  refine lv_aload_n hx hb dX12_isPattern_10 rfl (lv_at hl 0 rfl) ?_
  refine lv_iload_n hx hb dX12_isPattern_11 rfl (lv_at hl 2 rfl) ?_
  refine lv_iconst (v := nI 0) hx hb dX12_isPattern_12 (by decide) ?_
  refine lv_iconst (v := nI 1) hx hb dX12_isPattern_13 (by decide) ?_
  have e47 : va_up (va_up G 47 (G 47)) 48 (G 48) = G := by rw [va_upid]; exact va_upid G 48
  have hP : va_P (dC, dI) vwCl (MW cB cC cI cJ cZ z0 R pl (va_up (va_up N 49 0) 53 0) (LK (va_up (va_up G 47 (G 47)) 48 (G 48)) (G 50) (G 51) (G 52)) B) H := by rw [e47, LK_self]; exact hP
  have hD : va_D A (MW cB cC cI cJ cZ z0 R pl (va_up (va_up N 49 0) 53 0) (LK (va_up (va_up G 47 (G 47)) 48 (G 48)) (G 50) (G 51) (G 52)) B) := by rw [e47, LK_self]; exact hD
  refine mcl_v (As := [.int (nI top), .int (nI 0), .int (nI 1)]) (rest := []) ⟨hx, hb, hml, hown, hts⟩ (m_lookAt l dC dI cB cC cI cJ cZ z0 R pl (va_up (va_up N 49 0) 53 0) (LK (va_up (va_up G 47 (G 47)) 48 (G 48)) (G 50) (G 51) (G 52)) B top 0 1 (show 0 < 90000 from (by decide)) H.size) (cwV 3 hts kX12_isPattern_X12_lookAt_318 rfl rfl rfl (by decide +kernel) ⟨Nat.le_of_ble_eq_true rfl, Nat.le_of_ble_eq_true rfl⟩) hK hP hD hS hA rfl rfl hl.1 (lv_room (Nat.le_of_ble_eq_true rfl)) dX12_isPattern_14 hcs (fun  N_1 G_2 B_3 pl_4 hw H locs hP hD hS => ?_)
  dsimp only at hw
  obtain ⟨e1, e2, e3, e4⟩ := hw
  rw [e1, e2, e3, e4, bx_uu, LK_look] at hP hD
  have hP : va_P (dC, dI) vwCl (MW cB cC cI cJ cZ z0 R pl (va_up (va_up N 49 0) 53 (0 + 1)) (LK (va_up (va_up G 47 (G 47)) 48 (G 48)) (va_up (G 50) 0 top) (va_up (G 51) 0 0) (va_up (G 52) 0 1)) B) H := hP
  have hD : va_D A (MW cB cC cI cJ cZ z0 R pl (va_up (va_up N 49 0) 53 (0 + 1)) (LK (va_up (va_up G 47 (G 47)) 48 (G 48)) (va_up (G 50) 0 top) (va_up (G 51) 0 0) (va_up (G 52) 0 1)) B) := hD
  refine lv_iconst (v := nI 1) hx hb dX12_isPattern_17 (by decide) ?_
  refine lv_istore_n (lv' := [(3, .int (nI 1)), (0, .ref z0), (1, .int (nI rules)), (2, .int (nI top))]) hx hb dX12_isPattern_18 rfl hl (by decide) rfl (fun ls hl => ?_)
  refine lv_iconst (v := nI 0) hx hb dX12_isPattern_19 (by decide) ?_
  refine lv_istore (lv' := [(4, .int (nI 0)), (3, .int (nI 1)), (0, .ref z0), (1, .int (nI rules)), (2, .int (nI top))]) hx hb dX12_isPattern_20 hl (by decide) rfl (fun ls hl => ?_)
  refine lp_pat2 hx hb hml hown hts hK hA hG ht9 hat hal hru hr1 hl1 hlc top (fun q vc fi L Hw O VN VR H locs hL hH hO hVN hVR hq hvc hfin hP hD hS ls hl => ?_) _ 0 1 0 1 _ _ _ (G 47) (G 48) (Nat.lt_succ_self _) (hIup (hG 50) (by omega)) (hIup (hG 51) (by decide)) (hIup (hG 52) (by decide)) (hG 47) (hG 48) (POUT.start ht9 hat htop) _ _ hP hD hS ls (lv_sub hl [2, 3, 1, 0] rfl)
  refine lv_iload_n hx hb dX12_isPattern_296 rfl (lv_at hl 0 rfl) ?_
  have hz1 : narrow .boolean (.int (nI fi)) = .int (nI fi) := by rcases (show fi = 0 ∨ fi = 1 by omega) with h | h <;> rw [h] <;> rfl
  exact W.zret (v := (nI fi)) hx hb hr hz1 (fun t ht hW => ⟨⟨(nI fi), (va_up (va_up N 49 vc) 53 q, LK (va_up (va_up G 47 VN) 48 VR) L Hw O, B, pl), rfl, ⟨rfl, rfl, q, vc, fi, L, Hw, O, VN, VR, hL, hH, hO, hVN, hVR, hq, hvc, rfl, rfl, rfl, hfin.1, hfin.2.1, hfin.2.2⟩, by rw [ht]; exact hP, va_K.moved hW.alike hK, hD⟩, hS.F ht⟩) hS.2.2 dX12_isPattern_297
