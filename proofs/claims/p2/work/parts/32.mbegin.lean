def oX12_alias : List Cond := [Cond.fieldLink RX12 374 "MacroScopesModel" "aliases" "I", Cond.fieldLink RX12 45 "MacroScopesModel" "aliasFor" "[I", Cond.fieldLink RX12 48 "MacroScopesModel" "aliasIn" "[I"]
def vX12_alias : List Cond := .code yX12_alias cX12_alias 5 (some .int) :: (oX12_alias ++ (wsX120))
theorem lkX12_alias_f374 : Cond.fieldLink RX12 374 "MacroScopesModel" "aliases" "I" ∈ vX12_alias := List.mem_cons_of_mem _ (List.mem_append_left _ (List.mem_of_getElem? (i := 0) rfl))
theorem lkX12_alias_f45 : Cond.fieldLink RX12 45 "MacroScopesModel" "aliasFor" "[I" ∈ vX12_alias := List.mem_cons_of_mem _ (List.mem_append_left _ (List.mem_of_getElem? (i := 1) rfl))
theorem lkX12_alias_f48 : Cond.fieldLink RX12 48 "MacroScopesModel" "aliasIn" "[I" ∈ vX12_alias := List.mem_cons_of_mem _ (List.mem_append_left _ (List.mem_of_getElem? (i := 2) rfl))
theorem inX12_alias : ∀ w ∈ wsX120, w ∈ vX12_alias := fun w h => List.mem_cons_of_mem _ (List.mem_append_right _ (h))
def oX12_begin : List Cond := [Cond.fieldLink RX12 32 "MacroScopesModel" "kinds" "[B", Cond.methodLink RX12 206 yX12_newForm, Cond.instanceMethod yX12_newForm, Cond.selects RX12 yX12_newForm yX12_newForm, Cond.initialized RX12, Cond.methodLink RX12 318 yX12_lookAt, Cond.instanceMethod yX12_lookAt, Cond.selects RX12 yX12_lookAt yX12_lookAt, Cond.fieldLink RX12 35 "MacroScopesModel" "values" "[I", Cond.methodLink RX12 327 yX12_variable, Cond.instanceMethod yX12_variable, Cond.selects RX12 yX12_variable yX12_variable, Cond.fieldLink RX12 116 "MacroScopesModel" "matched" "[I", Cond.fieldLink RX12 110 "MacroScopesModel" "matchFrom" "[I", Cond.fieldLink RX12 94 "MacroScopesModel" "repeated" "[Z", Cond.methodLink RX12 377 yX12_alias, Cond.instanceMethod yX12_alias, Cond.selects RX12 yX12_alias yX12_alias]
def vX12_begin : List Cond := .code yX12_begin cX12_begin 6 (some .int) :: (oX12_begin ++ (vX12_newForm ++ (vX12_lookAt ++ (vX12_variable ++ (vX12_alias ++ (wsX120))))))
theorem lkX12_begin_f32 : Cond.fieldLink RX12 32 "MacroScopesModel" "kinds" "[B" ∈ vX12_begin := List.mem_cons_of_mem _ (List.mem_append_left _ (List.mem_of_getElem? (i := 0) rfl))
theorem lkX12_begin_f35 : Cond.fieldLink RX12 35 "MacroScopesModel" "values" "[I" ∈ vX12_begin := List.mem_cons_of_mem _ (List.mem_append_left _ (List.mem_of_getElem? (i := 8) rfl))
theorem lkX12_begin_f116 : Cond.fieldLink RX12 116 "MacroScopesModel" "matched" "[I" ∈ vX12_begin := List.mem_cons_of_mem _ (List.mem_append_left _ (List.mem_of_getElem? (i := 12) rfl))
theorem lkX12_begin_f110 : Cond.fieldLink RX12 110 "MacroScopesModel" "matchFrom" "[I" ∈ vX12_begin := List.mem_cons_of_mem _ (List.mem_append_left _ (List.mem_of_getElem? (i := 13) rfl))
theorem lkX12_begin_f94 : Cond.fieldLink RX12 94 "MacroScopesModel" "repeated" "[Z" ∈ vX12_begin := List.mem_cons_of_mem _ (List.mem_append_left _ (List.mem_of_getElem? (i := 14) rfl))
theorem inX12_begin : ∀ w ∈ wsX120, w ∈ vX12_begin := fun w h => List.mem_cons_of_mem _ (List.mem_append_right _ (List.mem_append_right _ (List.mem_append_right _ (List.mem_append_right _ (List.mem_append_right _ (h))))))
theorem kX12_begin_X12_newForm_206 : GoodIn vX12_begin (wsV RX12 206 RX12 yX12_newForm vX12_newForm) := goodIn_sub (fun w h => (List.mem_append.mp h).elim (fun h => List.mem_cons_of_mem _ (List.mem_append_left _ ((by decide +kernel : ∀ w ∈ ([.methodLink RX12 206 yX12_newForm, .instanceMethod yX12_newForm, .selects RX12 yX12_newForm yX12_newForm, .initialized RX12] : List Cond), w ∈ oX12_begin) w h))) (fun h => List.mem_cons_of_mem _ (List.mem_append_right _ (List.mem_append_left _ (h))))) (by decide +kernel)
theorem kX12_begin_X12_lookAt_318 : GoodIn vX12_begin (wsV RX12 318 RX12 yX12_lookAt vX12_lookAt) := goodIn_sub (fun w h => (List.mem_append.mp h).elim (fun h => List.mem_cons_of_mem _ (List.mem_append_left _ ((by decide +kernel : ∀ w ∈ ([.methodLink RX12 318 yX12_lookAt, .instanceMethod yX12_lookAt, .selects RX12 yX12_lookAt yX12_lookAt, .initialized RX12] : List Cond), w ∈ oX12_begin) w h))) (fun h => List.mem_cons_of_mem _ (List.mem_append_right _ (List.mem_append_right _ (List.mem_append_left _ (h)))))) (by decide +kernel)
theorem kX12_begin_X12_variable_327 : GoodIn vX12_begin (wsV RX12 327 RX12 yX12_variable vX12_variable) := goodIn_sub (fun w h => (List.mem_append.mp h).elim (fun h => List.mem_cons_of_mem _ (List.mem_append_left _ ((by decide +kernel : ∀ w ∈ ([.methodLink RX12 327 yX12_variable, .instanceMethod yX12_variable, .selects RX12 yX12_variable yX12_variable, .initialized RX12] : List Cond), w ∈ oX12_begin) w h))) (fun h => List.mem_cons_of_mem _ (List.mem_append_right _ (List.mem_append_right _ (List.mem_append_right _ (List.mem_append_left _ (h))))))) (by decide +kernel)
theorem kX12_begin_X12_alias_377 : GoodIn vX12_begin (wsV RX12 377 RX12 yX12_alias vX12_alias) := goodIn_sub (fun w h => (List.mem_append.mp h).elim (fun h => List.mem_cons_of_mem _ (List.mem_append_left _ ((by decide +kernel : ∀ w ∈ ([.methodLink RX12 377 yX12_alias, .instanceMethod yX12_alias, .selects RX12 yX12_alias yX12_alias, .initialized RX12] : List Cond), w ∈ oX12_begin) w h))) (fun h => List.mem_cons_of_mem _ (List.mem_append_right _ (List.mem_append_right _ (List.mem_append_right _ (List.mem_append_right _ (List.mem_append_left _ (h)))))))) (by decide +kernel)
set_option maxHeartbeats 4000000 in
set_option maxRecDepth 100000 in
theorem lp_alias {p : Program} {l : Launch} {e : Env} {s : State} {m : MethodId} {args : Array Value} {below : List Frame} {meth : Method} {c : Code} {Q : State → Prop} {A : Nat → Prop} {dC : Nat → ClassId} {dI : Nat → Nat → Nat} {cB cC cI cJ cZ : ClassId} {z0 : Nat} {R : Nat → Nat} (hx : p.tables.exec = Jvm.exec) (hb : c.code = cX12_alias) (hml : c.maxLocals = 5) (hown : s.vm.findClass RX12 = some m.cls) (hts : ∀ w ∈ vX12_alias, w.before args s = true) (hK : va_K (dC, dI) vwCl (TY cB cC cI cJ cZ) s) (hA : ∀ q : Nat, s.heap.size ≤ q → A q) {pl : Int32} {N : Nat → Nat} {G : Nat → Nat → Nat} {B : Nat → Nat → Int32} (hG : ∀ k i, G k i < 1048576) (x rin : Nat) (hx9 : x < 1048576) (hn9 : N 20 < 65000) (ke : ∀  (H : Heap) (locs : List Loc), va_P (dC, dI) vwCl (MW cB cC cI cJ cZ z0 R pl N G B) H → va_D A (MW cB cC cI cJ cZ z0 R pl N G B) → va_S A s.heap H locs → ∀ (ls : Array Slot), lv_has ls 5 [(0, .ref z0), (1, .int (nI x)), (3, .int (nI rin))] → W p l e (headSpec vX12_alias { frames := 0, cells := 0, slots := 0, locals := 0 }).room s m args below meth c H locs 0 0 Q (F0 m 36 ls [])) (kf : ∀ (j : Nat) (H : Heap) (locs : List Loc), j < N 20 → va_P (dC, dI) vwCl (MW cB cC cI cJ cZ z0 R pl N G B) H → va_D A (MW cB cC cI cJ cZ z0 R pl N G B) → va_S A s.heap H locs → ∀ (ls : Array Slot), lv_has ls 5 [(4, .int (nI j))] → W p l e (headSpec vX12_alias { frames := 0, cells := 0, slots := 0, locals := 0 }).room s m args below meth c H locs 0 0 Q (F0 m 23 ls [])) : ∀ (k : Nat) (j : Nat), N 20 - j < k → j ≤ 65000 → ∀ (H : Heap) (locs : List Loc), va_P (dC, dI) vwCl (MW cB cC cI cJ cZ z0 R pl N G B) H → va_D A (MW cB cC cI cJ cZ z0 R pl N G B) → va_S A s.heap H locs → ∀ (ls : Array Slot), lv_has ls 5 [(0, .ref z0), (1, .int (nI x)), (3, .int (nI rin)), (4, .int (nI j))] → W p l e (headSpec vX12_alias { frames := 0, cells := 0, slots := 0, locals := 0 }).room s m args below meth c H locs 0 0 Q (F0 m 3 ls []) := by
  have hcs : 0 + 0 ≤ (0 : Nat) ∧ 0 + 0 ≤ (0 : Nat) := ⟨Nat.le_refl 0, Nat.le_refl 0⟩
  intro k
  induction k with
  | zero =>
    intro j hk hj
    omega
  | succ k ih =>
    intro j hk hj H locs hP hD hS ls hl
    refine lv_iload hx hb dX12_alias_3 (lv_at hl 3 rfl) ?_
    refine lv_aload_n hx hb dX12_alias_5 rfl (lv_at hl 0 rfl) ?_
    refine mg_20 hx hb hts inX12_alias hown hK hP (hts _ lkX12_alias_f374) dX12_alias_6 ?_
    refine bn_ge (tgt := 36) hx hb (by first | omega | exact Nat.lt_of_lt_of_le (hG _ _) (by decide)) (by first | omega | exact Nat.lt_of_lt_of_le (hG _ _) (by decide)) dX12_alias_9 (by decide) (fun c1 => ?_) (fun c1 => ?_)
    · exact ke H locs hP hD hS ls (lv_sub hl [0, 1, 2] rfl)
    · have g1 := hG 18 j
      refine lv_aload_n hx hb dX12_alias_12 rfl (lv_at hl 0 rfl) ?_
      refine mg_18 hx hb hts inX12_alias hown hK hP (hts _ lkX12_alias_f45) dX12_alias_13 ?_
      refine lv_iload hx hb dX12_alias_16 (lv_at hl 3 rfl) ?_
      refine ml_18 hx hb hK hP (by omega) dX12_alias_18 ?_
      refine lv_iload_n hx hb dX12_alias_19 rfl (lv_at hl 1 rfl) ?_
      refine bn_ne (tgt := 30) hx hb (by first | omega | exact Nat.lt_of_lt_of_le (hG _ _) (by decide)) (by first | omega | exact Nat.lt_of_lt_of_le (hG _ _) (by decide)) dX12_alias_20 (by decide) (fun c2 => ?_) (fun c2 => ?_)
      · refine lv_iinc (v := nI (j + 1)) (lv' := [(4, .int (nI (j + 1))), (0, .ref z0), (1, .int (nI x)), (3, .int (nI rin))]) hx hb dX12_alias_30 hl (k := 3) rfl (nI_add j 1) (by decide) rfl (fun ls hl => ?_)
        refine lv_goto (tgt := 3) hx hb dX12_alias_33 (by decide) ?_
        exact ih (j + 1) (by omega) (by omega) _ _ hP hD hS ls (lv_sub hl [1, 2, 3, 0] rfl)
      · exact kf j H locs c1 hP hD hS ls (lv_sub hl [3] rfl)

set_option maxHeartbeats 4000000 in
set_option maxRecDepth 100000 in
/-- another name for a name -/
theorem m_alias (l : Launch) (dC : Nat → ClassId) (dI : Nat → Nat → Nat) (cB cC cI cJ cZ : ClassId) (z0 : Nat) (R : Nat → Nat) (pl : Int32) (N : Nat → Nat) (G : Nat → Nat → Nat) (B : Nat → Nat → Int32) (x fa rin : Nat) (hG : ∀ k i, G k i < 1048576) (hx9 : x < 1048576) (hr9 : rin < 1048576) (hn9 : N 20 < 65000) (hf9 : fa ≤ 65000) (s0 : Nat) : Met l yX12_alias vX12_alias { frames := 0, cells := 0, slots := 0, locals := 0 } (va_Pc [.ref z0, .int (nI x), .int (nI fa), .int (nI rin)] (mPre dC dI cB cC cI cJ cZ z0 R pl N G B s0)) (va_Qi (fun (r : Int32) (u : ((Nat → Nat) × (Nat → Nat → Nat) × (Nat → Nat → Int32) × Int32)) => match u with | (N1, G1, B1, pl1) => B1 = B ∧ pl1 = pl ∧ ∃ a n2 AF AI, r = nI (5000 + a) ∧ N1 = va_up N 20 n2 ∧ G1 = va_up (va_up G 18 AF) 19 AI ∧ (n2 = N 20 ∨ n2 = N 20 + 1) ∧ a < n2 ∧ (∀ j, j < N 20 → AF j = G 18 j ∧ AI j = G 19 j) ∧ (∀ j, N 20 ≤ j → j < n2 → AF j = x ∧ AI j = rin) ∧ (∀ i, AF i < 1048576) ∧ (∀ i, AI i < 1048576)) (mPost dC dI cB cC cI cJ cZ z0 R (va_A (MW cB cC cI cJ cZ z0 R pl N G B) s0)) (va_A (MW cB cC cI cJ cZ z0 R pl N G B) s0)) 0 0 (va_A (MW cB cC cI cJ cZ z0 R pl N G B) s0) := by
  refine Met.ofW (cc := cX12_alias) (maxL := 5) (ret := (some .int)) (by decide) rfl ?_
  intro p e s m args below meth c s₁ B9 hml hv
  obtain ⟨rfl, hsz, hP, hK, hD0⟩ := hv
  have hx := B9.exec
  have hb := B9.bytes
  have hr := B9.returns
  have hts := atoms_spec (ws := vX12_alias) B9.pre
  have hown : s.vm.findClass RX12 = some m.cls := findClass_of_methodNamed B9.named
  have hlocks := B9.notSynchronized
  subst hsz
  have hD := hD0.self (sz := s.heap.size)
  generalize hAe : va_A (MW cB cC cI cJ cZ z0 R pl N G B) s.heap.size = A at hD ⊢
  have hA : ∀ q : Nat, s.heap.size ≤ q → A q := fun q h => by rw [← hAe]; exact Or.inr h
  have hS : va_S A s.heap s.heap [] := va_S.rf
  have hcs : 0 + 0 ≤ (0 : Nat) ∧ 0 + 0 ≤ (0 : Nat) := ⟨Nat.le_refl 0, Nat.le_refl 0⟩
  have hl := lv_entry ([.ref z0, .int (nI x), .int (nI fa), .int (nI rin)]) (n := 5) (Nat.le_of_ble_eq_true rfl)
  rw [lg_entry_eq]
  generalize (lg_sl ([.ref z0, .int (nI x), .int (nI fa), .int (nI rin)]) ++ List.replicate (5 - (lg_sl ([.ref z0, .int (nI x), .int (nI fa), .int (nI rin)])).length) Slot.unset).toArray = ls at hl ⊢
  have hl : lv_has ls 5 [(0, .ref z0), (1, .int (nI x)), (2, .int (nI fa)), (3, .int (nI rin))] := hl
  refine lv_iload_n hx hb dX12_alias_0 rfl (lv_at hl 2 rfl) ?_
  refine lv_istore (lv' := [(4, .int (nI fa)), (0, .ref z0), (1, .int (nI x)), (2, .int (nI fa)), (3, .int (nI rin))]) hx hb dX12_alias_1 hl (by decide) rfl (fun ls hl => ?_)
  refine lp_alias hx hb hml hown hts hK hA hG x rin hx9 hn9 (fun H locs hP hD hS ls hl => ?_) (fun j H locs hj9 hP hD hS ls hl => ?_) _ fa (Nat.lt_succ_self _) hf9 _ _ hP hD hS ls (lv_sub hl [1, 2, 4, 0] rfl)
  · refine lv_aload_n hx hb dX12_alias_36 rfl (lv_at hl 0 rfl) ?_
    refine mg_18 hx hb hts inX12_alias hown hK hP (hts _ lkX12_alias_f45) dX12_alias_37 ?_
    refine lv_aload_n hx hb dX12_alias_40 rfl (lv_at hl 0 rfl) ?_
    refine mg_20 hx hb hts inX12_alias hown hK hP (hts _ lkX12_alias_f374) dX12_alias_41 ?_
    refine lv_iload_n hx hb dX12_alias_44 rfl (lv_at hl 1 rfl) ?_
    refine ms_18 hx hb hK hP hD hS (by omega) dX12_alias_45 (fun H locs hP hD hS => ?_)
    refine lv_aload_n hx hb dX12_alias_46 rfl (lv_at hl 0 rfl) ?_
    refine mg_19 hx hb hts inX12_alias hown hK hP (hts _ lkX12_alias_f48) dX12_alias_47 ?_
    refine lv_aload_n hx hb dX12_alias_50 rfl (lv_at hl 0 rfl) ?_
    refine mg_20 hx hb hts inX12_alias hown hK hP (hts _ lkX12_alias_f374) dX12_alias_51 ?_
    refine lv_iload_n hx hb dX12_alias_54 rfl (lv_at hl 2 rfl) ?_
    refine ms_19 hx hb hK hP hD hS (by omega) dX12_alias_55 (fun H locs hP hD hS => ?_)
    refine lv_aload_n hx hb dX12_alias_56 rfl (lv_at hl 0 rfl) ?_
    refine lv_dup hx hb dX12_alias_57 rfl ?_
    refine mg_20 hx hb hts inX12_alias hown hK hP (hts _ lkX12_alias_f374) dX12_alias_58 ?_
    refine lv_iconst (v := nI 1) hx hb dX12_alias_61 (by decide) ?_
    refine lv_iadd hx hb dX12_alias_62 ?_
    refine tp_i (nI_add (N 20) 1) ?_
    refine mp_20 hx hb hts inX12_alias hown hK hP hD hS (hts _ lkX12_alias_f374) dX12_alias_63 (fun H locs hP hD hS => ?_)
    refine lv_sipush (v := nI 5000) hx hb dX12_alias_66 (by decide) ?_
    refine lv_aload_n hx hb dX12_alias_69 rfl (lv_at hl 0 rfl) ?_
    refine mg_20 hx hb hts inX12_alias hown hK hP (hts _ lkX12_alias_f374) dX12_alias_70 ?_
    refine tp_i (y := nI ((N 20) + 1)) rfl ?_
    refine lv_iadd hx hb dX12_alias_73 ?_
    refine tp_i (nI_add 5000 ((N 20) + 1)) ?_
    refine lv_iconst (v := nI 1) hx hb dX12_alias_74 (by decide) ?_
    refine lv_isub hx hb dX12_alias_75 ?_
    refine tp_i (pk_sub (a := 5000 + ((N 20) + 1)) (b := 1) (by omega)) ?_
    exact W.iret (v := (nI ((5000 + ((N 20) + 1)) - 1))) hx hb hr (fun t ht hW => ⟨⟨(nI ((5000 + ((N 20) + 1)) - 1)), (va_up N 20 ((N 20) + 1), va_up (va_up G 18 (va_up (G 18) (N 20) x)) 19 (va_up (G 19) (N 20) rin), B, pl), rfl, ⟨rfl, rfl, N 20, N 20 + 1, va_up (G 18) (N 20) x, va_up (G 19) (N 20) rin, by congr 1, rfl, rfl, Or.inr rfl, Nat.lt_succ_self _, fun j hj => ⟨va_up_ne _ _ (by omega), va_up_ne _ _ (by omega)⟩, fun j h1 h2 => by rw [show j = N 20 by omega, va_up_self, va_up_self]; exact ⟨rfl, rfl⟩, hIup (hG 18) hx9, hIup (hG 19) hr9⟩, by rw [ht]; exact hP, va_K.moved hW.alike hK, hD⟩, hS.F ht⟩) hS.2.2 dX12_alias_76
  · refine lv_sipush (v := nI 5000) hx hb dX12_alias_23 (by decide) ?_
    refine lv_iload hx hb dX12_alias_26 (lv_at hl 0 rfl) ?_
    refine lv_iadd hx hb dX12_alias_28 ?_
    refine tp_i (nI_add 5000 j) ?_
    exact W.iret (v := (nI (5000 + j))) hx hb hr (fun t ht hW => ⟨⟨(nI (5000 + j)), (N, G, B, pl), rfl, ⟨rfl, rfl, j, N 20, G 18, G 19, rfl, (va_upid _ _).symm, by rw [va_upid, va_upid], Or.inl rfl, hj9, fun j hj => ⟨rfl, rfl⟩, fun j h1 h2 => absurd h2 (by omega), hG 18, hG 19⟩, by rw [ht]; exact hP, va_K.moved hW.alike hK, hD⟩, hS.F ht⟩) hS.2.2 dX12_alias_29

section BG
variable {N : Nat → Nat} {G : Nat → Nat → Nat} {c h rin : Nat}
theorem BGX.old (hG : ∀ k i, G k i < 1048576) {r : Nat} (hr : (G 10 c = 0 ∧ r = c) ∨ (G 10 c = 1 ∧ 0 < VAR N G (G 11 c) ∧ r = G 57 (MTX G (VAR N G (G 11 c) - 1) h))) : BGX N G c h rin N G r :=
  ⟨fun _ _ _ _ => rfl, fun _ _ => rfl, hG, fun _ _ => ⟨rfl, rfl, rfl⟩, fun _ _ => ⟨rfl, rfl⟩, fun _ _ => ⟨rfl, rfl, rfl⟩, Or.inl ⟨rfl, rfl, rfl, hr⟩⟩
abbrev NF (G : Nat → Nat → Nat) (f a b d : Nat) : Nat → Nat → Nat := va_up (va_up (va_up G 10 (va_up (G 10) f a)) 11 (va_up (G 11) f b)) 12 (va_up (G 12) f d)
theorem NF_bd (hG : ∀ k i, G k i < 1048576) {f a b d : Nat} (ha : a < 1048576) (hb : b < 1048576) (hd : d < 1048576) : ∀ k i, NF G f a b d k i < 1048576 := hGup (hGup (hGup hG (hIup (hG 10) ha)) (hIup (hG 11) hb)) (hIup (hG 12) hd)
theorem BGX.lst (hG : ∀ k i, G k i < 1048576) (hc : G 10 c = 2) (hc9 : c < 1048576) (hh : h < 1048576) (hn : N 14 < 1048576) : BGX N G c h rin (va_up (va_up N 14 (N 14 + 1)) 53 (N 53 + 1)) (LK (NF G (N 14) 2 0 0) (va_up (G 50) (N 53) c) (va_up (G 51) (N 53) h) (va_up (G 52) (N 53) (N 14))) (N 14) := by
  refine ⟨fun k h1 h2 h3 => by rw [va_up_ne _ _ h3, va_up_ne _ _ h1], fun k hk => ?_, hGLK (NF_bd hG (by decide) (by decide) (by decide)) (hIup (hG 50) hc9) (hIup (hG 51) hh) (hIup (hG 52) hn), fun f hf => ?_, fun _ _ => ⟨rfl, rfl⟩, fun i hi => ?_, Or.inr (Or.inl ⟨hc, rfl, rfl, rfl, rfl, va_up_self _ _ _, va_up_self _ _ _, va_up_self _ _ _, va_up_self _ _ _, va_up_self _ _ _, va_up_self _ _ _⟩)⟩
  · show va_up (va_up (va_up (va_up (va_up (va_up G 10 _) 11 _) 12 _) 50 _) 51 _) 52 _ k = G k
    rw [va_up_ne _ _ (by omega), va_up_ne _ _ (by omega), va_up_ne _ _ (by omega), va_up_ne _ _ (by omega), va_up_ne _ _ (by omega), va_up_ne _ _ (by omega)]
  · exact ⟨va_up_ne _ _ (by omega), va_up_ne _ _ (by omega), va_up_ne _ _ (by omega)⟩
  · exact ⟨va_up_ne _ _ (by omega), va_up_ne _ _ (by omega), va_up_ne _ _ (by omega)⟩
theorem BGX.nam (hG : ∀ k i, G k i < 1048576) (hc : G 10 c = 1) (hv : VAR N G (G 11 c) = 0) {a n2 : Nat} {AF AI : Nat → Nat} (h2 : n2 = N 20 ∨ n2 = N 20 + 1) (ha : a < n2) (hk : ∀ j, j < N 20 → AF j = G 18 j ∧ AI j = G 19 j) (hn : ∀ j, N 20 ≤ j → j < n2 → AF j = G 11 c ∧ AI j = rin)
    (hAF : ∀ i, AF i < 1048576) (hAI : ∀ i, AI i < 1048576) (ha9 : 5000 + a < 1048576) : BGX N G c h rin (va_up (va_up N 20 n2) 14 (N 14 + 1)) (NF (va_up (va_up G 18 AF) 19 AI) (N 14) 1 (5000 + a) 0) (N 14) := by
  refine ⟨fun k h1 h2 h3 => by rw [va_up_ne _ _ h1, va_up_ne _ _ h2], fun k hk => ?_, NF_bd (hGup (hGup hG hAF) hAI) (by decide) ha9 (by decide), fun f hf => ?_, hk, fun i hi => ⟨rfl, rfl, rfl⟩, Or.inr (Or.inr ⟨hc, hv, rfl, rfl, rfl, h2, va_up_self _ _ _, va_up_self _ _ _, ?_, ?_, hn⟩)⟩
  · show va_up (va_up (va_up (va_up (va_up G 18 _) 19 _) 10 _) 11 _) 12 _ k = G k
    rw [va_up_ne _ _ (by omega), va_up_ne _ _ (by omega), va_up_ne _ _ (by omega), va_up_ne _ _ (by omega), va_up_ne _ _ (by omega)]
  · exact ⟨va_up_ne _ _ (by omega), va_up_ne _ _ (by omega), va_up_ne _ _ (by omega)⟩
  · show 5000 ≤ va_up (G 11) (N 14) (5000 + a) (N 14)
    rw [va_up_self]; omega
  · show va_up (G 11) (N 14) (5000 + a) (N 14) < 5000 + n2
    rw [va_up_self]; omega
end BG
set_option maxHeartbeats 4000000 in
set_option maxRecDepth 100000 in
/-- begin -/
theorem m_begin (l : Launch) (dC : Nat → ClassId) (dI : Nat → Nat → Nat) (cB cC cI cJ cZ : ClassId) (z0 : Nat) (R : Nat → Nat) (pl : Int32) (N : Nat → Nat) (G : Nat → Nat → Nat) (B : Nat → Nat → Int32) (tc h fa rin : Nat) (hG : ∀ k i, G k i < 1048576) (hc : tc < 90000) (hkd : G 10 tc ≤ 2) (hh9 : h ≤ 3001) (hr9 : rin < 1048576) (hN : N 49 ≤ 1600) (hn14 : N 14 < 90000) (hn20 : N 20 < 65000) (hn53 : N 53 < 90000) (hfa : fa ≤ 65000) (hv9 : G 10 tc = 1 → 0 < VAR N G (G 11 tc) → VAR N G (G 11 tc) - 1 < 1600 ∧ MTX G (VAR N G (G 11 tc) - 1) h < 90000) (s0 : Nat) : Met l yX12_begin vX12_begin { frames := 1, cells := 0, slots := 0, locals := 24 } (va_Pc [.ref z0, .int (nI tc), .int (nI h), .int (nI fa), .int (nI rin)] (mPre dC dI cB cC cI cJ cZ z0 R pl N G B s0)) (va_Qi (fun (r : Int32) (u : ((Nat → Nat) × (Nat → Nat → Nat) × (Nat → Nat → Int32) × Int32)) => match u with | (N1, G1, B1, pl1) => B1 = B ∧ pl1 = pl ∧ ∃ r1, r = nI r1 ∧ BGX N G tc h rin N1 G1 r1) (mPost dC dI cB cC cI cJ cZ z0 R (va_A (MW cB cC cI cJ cZ z0 R pl N G B) s0)) (va_A (MW cB cC cI cJ cZ z0 R pl N G B) s0)) 0 0 (va_A (MW cB cC cI cJ cZ z0 R pl N G B) s0) := by
  refine Met.ofW (cc := cX12_begin) (maxL := 6) (ret := (some .int)) (by decide) rfl ?_
  intro p e s m args below meth c s₁ B9 hml hv
  obtain ⟨rfl, hsz, hP, hK, hD0⟩ := hv
  have hx := B9.exec
  have hb := B9.bytes
  have hr := B9.returns
  have hts := atoms_spec (ws := vX12_begin) B9.pre
  have hown : s.vm.findClass RX12 = some m.cls := findClass_of_methodNamed B9.named
  have hlocks := B9.notSynchronized
  subst hsz
  have hD := hD0.self (sz := s.heap.size)
  generalize hAe : va_A (MW cB cC cI cJ cZ z0 R pl N G B) s.heap.size = A at hD ⊢
  have hA : ∀ q : Nat, s.heap.size ≤ q → A q := fun q h => by rw [← hAe]; exact Or.inr h
  have hS : va_S A s.heap s.heap [] := va_S.rf
  have hcs : 0 + 0 ≤ (0 : Nat) ∧ 0 + 0 ≤ (0 : Nat) := ⟨Nat.le_refl 0, Nat.le_refl 0⟩
  have hl := lv_entry ([.ref z0, .int (nI tc), .int (nI h), .int (nI fa), .int (nI rin)]) (n := 6) (Nat.le_of_ble_eq_true rfl)
  rw [lg_entry_eq]
  generalize (lg_sl ([.ref z0, .int (nI tc), .int (nI h), .int (nI fa), .int (nI rin)]) ++ List.replicate (6 - (lg_sl ([.ref z0, .int (nI tc), .int (nI h), .int (nI fa), .int (nI rin)])).length) Slot.unset).toArray = ls at hl ⊢
  have hl : lv_has ls 6 [(0, .ref z0), (1, .int (nI tc)), (2, .int (nI h)), (3, .int (nI fa)), (4, .int (nI rin))] := hl
  refine lv_aload_n hx hb dX12_begin_0 rfl (lv_at hl 0 rfl) ?_
  refine mg_10 hx hb hts inX12_begin hown hK hP (hts _ lkX12_begin_f32) dX12_begin_1 ?_
  refine lv_iload_n hx hb dX12_begin_4 rfl (lv_at hl 1 rfl) ?_
  refine ml_10 hx hb hK hP (by omega) dX12_begin_5 ?_
  refine bz_ne (tgt := 11) hx hb (by first | omega | exact Nat.lt_of_lt_of_le (hG _ _) (by decide)) dX12_begin_6 (by decide) (fun c1 => ?_) (fun c1 => ?_)
  · refine lv_aload_n hx hb dX12_begin_11 rfl (lv_at hl 0 rfl) ?_
    refine mg_10 hx hb hts inX12_begin hown hK hP (hts _ lkX12_begin_f32) dX12_begin_12 ?_
    refine lv_iload_n hx hb dX12_begin_15 rfl (lv_at hl 1 rfl) ?_
    refine ml_10 hx hb hK hP (by omega) dX12_begin_16 ?_
    refine lv_iconst (v := nI 2) hx hb dX12_begin_17 (by decide) ?_
    refine bn_ne (tgt := 41) hx hb (by first | omega | exact Nat.lt_of_lt_of_le (hG _ _) (by decide)) (by first | omega | exact Nat.lt_of_lt_of_le (hG _ _) (by decide)) dX12_begin_18 (by decide) (fun c2 => ?_) (fun c2 => ?_)
    · have k1 : G 10 tc = 1 := by omega
      have v1 : VAR N G (G 11 tc) ≤ N 49 := varF_le (G 47) (G 11 tc) (N 49)
      refine lv_aload_n hx hb dX12_begin_41 rfl (lv_at hl 0 rfl) ?_
      refine lv_aload_n hx hb dX12_begin_42 rfl (lv_at hl 0 rfl) ?_
      refine mg_11 hx hb hts inX12_begin hown hK hP (hts _ lkX12_begin_f35) dX12_begin_43 ?_
      refine lv_iload_n hx hb dX12_begin_46 rfl (lv_at hl 1 rfl) ?_
      refine ml_11 hx hb hK hP (by omega) dX12_begin_47 ?_
      refine mcl_i (As := [.int (nI (G 11 tc))]) (rest := []) ⟨hx, hb, hml, hown, hts⟩ (m_variable l dC dI cB cC cI cJ cZ z0 R pl N G B (G 11 tc) hG hN (hG 11 tc) s.heap.size) (cwV 1 hts kX12_begin_X12_variable_327 rfl rfl rfl (by decide +kernel) ⟨Nat.le_of_ble_eq_true rfl, Nat.le_of_ble_eq_true rfl⟩) hK hP hD hS hA rfl rfl hl.1 (lv_room (Nat.le_of_ble_eq_true rfl)) dX12_begin_48 hcs (fun r_15 N_11 G_12 B_13 pl_14 hw H locs hP hD hS => ?_)
      dsimp only at hw
      obtain ⟨e1, e2, e3, e4, hw⟩ := hw
      rw [e1, e2, e3, e4] at hP hD
      have hw : r_15 = nI (VAR N G (G 11 tc)) - 1 := hw
      subst hw
      refine lv_istore (lv' := [(5, .int (nI (VAR N G (G 11 tc)) - 1)), (0, .ref z0), (1, .int (nI tc)), (2, .int (nI h)), (3, .int (nI fa)), (4, .int (nI rin))]) hx hb dX12_begin_51 hl (by decide) rfl (fun ls hl => ?_)
      refine lv_iload hx hb dX12_begin_53 (lv_at hl 0 rfl) ?_
      refine bo_lt (tgt := 87) hx hb (by first | omega | exact Nat.lt_of_lt_of_le (hG _ _) (by decide)) dX12_begin_55 (by decide) (fun c3 => ?_) (fun c3 => ?_)
      · have g11 := hG 11 tc
        refine lv_aload_n hx hb dX12_begin_87 rfl (lv_at hl 1 rfl) ?_
        refine lv_iconst (v := nI 1) hx hb dX12_begin_88 (by decide) ?_
        refine lv_aload_n hx hb dX12_begin_89 rfl (lv_at hl 1 rfl) ?_
        refine lv_aload_n hx hb dX12_begin_90 rfl (lv_at hl 1 rfl) ?_
        refine mg_11 hx hb hts inX12_begin hown hK hP (hts _ lkX12_begin_f35) dX12_begin_91 ?_
        refine lv_iload_n hx hb dX12_begin_94 rfl (lv_at hl 2 rfl) ?_
        refine ml_11 hx hb hK hP (by omega) dX12_begin_95 ?_
        refine lv_iload_n hx hb dX12_begin_96 rfl (lv_at hl 4 rfl) ?_
        refine lv_iload hx hb dX12_begin_97 (lv_at hl 5 rfl) ?_
        refine mcl_i (As := [.int (nI (G 11 tc)), .int (nI fa), .int (nI rin)]) (rest := [.int (nI 1), .ref z0]) ⟨hx, hb, hml, hown, hts⟩ (m_alias l dC dI cB cC cI cJ cZ z0 R pl N G B (G 11 tc) fa rin hG (hG 11 tc) hr9 hn20 hfa H.size) (cwV 3 hts kX12_begin_X12_alias_377 rfl rfl rfl (by decide +kernel) ⟨Nat.le_of_ble_eq_true rfl, Nat.le_of_ble_eq_true rfl⟩) hK hP hD hS hA rfl rfl hl.1 (lv_room (Nat.le_of_ble_eq_true rfl)) dX12_begin_99 hcs (fun r_20 N_16 G_17 B_18 pl_19 hw H locs hP hD hS => ?_)
        dsimp only at hw
        obtain ⟨e3, e4, a, n2, AF, AI, hw, e1, e2, q1, q2, q3, q4, q5, q6⟩ := hw
        rw [e1, e2, e3, e4] at hP hD
        subst hw
        refine lv_iconst (v := nI 0) hx hb dX12_begin_102 (by decide) ?_
        refine mcl_i (As := [.int (nI 1), .int (nI (5000 + a)), .int (nI 0)]) (rest := []) ⟨hx, hb, hml, hown, hts⟩ (m_newForm l dC dI cB cC cI cJ cZ z0 R pl (va_up N 20 n2) (va_up (va_up G 18 AF) 19 AI) B 1 (5000 + a) 0 (by decide) hn14 H.size) (cwV 3 hts kX12_begin_X12_newForm_206 rfl rfl rfl (by decide +kernel) ⟨Nat.le_of_ble_eq_true rfl, Nat.le_of_ble_eq_true rfl⟩) hK hP hD hS hA rfl rfl hl.1 (lv_room (Nat.le_of_ble_eq_true rfl)) dX12_begin_103 hcs (fun r_25 N_21 G_22 B_23 pl_24 hw H locs hP hD hS => ?_)
        dsimp only at hw
        obtain ⟨e1, e2, e3, e4, hw⟩ := hw
        rw [e1, e2, e3, e4] at hP hD
        have hw : r_25 = nI (N 14) := hw
        subst hw
        have hP : va_P (dC, dI) vwCl (MW cB cC cI cJ cZ z0 R pl (va_up (va_up N 20 n2) 14 (N 14 + 1)) (NF (va_up (va_up G 18 AF) 19 AI) (N 14) 1 (5000 + a) 0) B) H := hP
        have hD : va_D A (MW cB cC cI cJ cZ z0 R pl (va_up (va_up N 20 n2) 14 (N 14 + 1)) (NF (va_up (va_up G 18 AF) 19 AI) (N 14) 1 (5000 + a) 0) B) := hD
        exact W.iret (v := (nI (N 14))) hx hb hr (fun t ht hW => ⟨⟨(nI (N 14)), (va_up (va_up N 20 n2) 14 (N 14 + 1), NF (va_up (va_up G 18 AF) 19 AI) (N 14) 1 (5000 + a) 0, B, pl), rfl, ⟨rfl, rfl, N 14, rfl, BGX.nam hG k1 c3 q1 q2 q3 q4 q5 q6 (by omega)⟩, by rw [ht]; exact hP, va_K.moved hW.alike hK, hD⟩, hS.F ht⟩) hS.2.2 dX12_begin_106
      · obtain ⟨m1, m2⟩ := hv9 k1 c3
        have g48 := hG 48 (VAR N G (G 11 tc) - 1)
        refine lv_aload_n hx hb dX12_begin_58 rfl (lv_at hl 1 rfl) ?_
        refine mg_57 hx hb hts inX12_begin hown hK hP (hts _ lkX12_begin_f116) dX12_begin_59 ?_
        refine lv_aload_n hx hb dX12_begin_62 rfl (lv_at hl 1 rfl) ?_
        refine mg_55 hx hb hts inX12_begin hown hK hP (hts _ lkX12_begin_f110) dX12_begin_63 ?_
        refine lv_iload hx hb dX12_begin_66 (lv_at hl 0 rfl) ?_
        refine tp_i (om1 (c3)) ?_
        refine ml_55 hx hb hK hP (by omega) dX12_begin_68 ?_
        refine lv_aload_n hx hb dX12_begin_69 rfl (lv_at hl 1 rfl) ?_
        refine mg_48 hx hb hts inX12_begin hown hK hP (hts _ lkX12_begin_f94) dX12_begin_70 ?_
        refine lv_iload hx hb dX12_begin_73 (lv_at hl 0 rfl) ?_
        refine tp_i (om1 (c3)) ?_
        refine ml_48 hx hb hK hP (by omega) dX12_begin_75 ?_
        refine bz_eq (tgt := 83) hx hb (by first | omega | exact Nat.lt_of_lt_of_le (hG _ _) (by decide)) dX12_begin_76 (by decide) (fun c4 => ?_) (fun c4 => ?_)
        · have em : MTX G (VAR N G (G 11 tc) - 1) h = G 55 (VAR N G (G 11 tc) - 1) + 0 := congrArg _ (if_neg (by omega))
          rw [em] at m2
          refine lv_iconst (v := nI 0) hx hb dX12_begin_83 (by decide) ?_
          refine lv_iadd hx hb dX12_begin_84 ?_
          refine tp_i (nI_add (G 55 ((VAR N G (G 11 tc)) - 1)) 0) ?_
          refine ml_57 hx hb hK hP (by omega) dX12_begin_85 ?_
          exact W.iret (v := (nI (G 57 ((G 55 ((VAR N G (G 11 tc)) - 1)) + 0)))) hx hb hr (fun t ht hW => ⟨⟨(nI (G 57 ((G 55 ((VAR N G (G 11 tc)) - 1)) + 0))), (N, G, B, pl), rfl, ⟨rfl, rfl, _, rfl, BGX.old hG (Or.inr ⟨k1, c3, by rw [em]⟩)⟩, by rw [ht]; exact hP, va_K.moved hW.alike hK, hD⟩, hS.F ht⟩) hS.2.2 dX12_begin_86
        · have em : MTX G (VAR N G (G 11 tc) - 1) h = G 55 (VAR N G (G 11 tc) - 1) + h := congrArg _ (if_pos c4)
          rw [em] at m2
          refine lv_iload_n hx hb dX12_begin_79 rfl (lv_at hl 3 rfl) ?_
          refine lv_goto (tgt := 84) hx hb dX12_begin_80 (by decide) ?_
          refine lv_iadd hx hb dX12_begin_84 ?_
          refine tp_i (nI_add (G 55 ((VAR N G (G 11 tc)) - 1)) h) ?_
          refine ml_57 hx hb hK hP (by omega) dX12_begin_85 ?_
          exact W.iret (v := (nI (G 57 ((G 55 ((VAR N G (G 11 tc)) - 1)) + h)))) hx hb hr (fun t ht hW => ⟨⟨(nI (G 57 ((G 55 ((VAR N G (G 11 tc)) - 1)) + h))), (N, G, B, pl), rfl, ⟨rfl, rfl, _, rfl, BGX.old hG (Or.inr ⟨k1, c3, by rw [em]⟩)⟩, by rw [ht]; exact hP, va_K.moved hW.alike hK, hD⟩, hS.F ht⟩) hS.2.2 dX12_begin_86
    · refine lv_aload_n hx hb dX12_begin_21 rfl (lv_at hl 0 rfl) ?_
      refine lv_iconst (v := nI 2) hx hb dX12_begin_22 (by decide) ?_
      refine lv_iconst (v := nI 0) hx hb dX12_begin_23 (by decide) ?_
      refine lv_iconst (v := nI 0) hx hb dX12_begin_24 (by decide) ?_
      refine mcl_i (As := [.int (nI 2), .int (nI 0), .int (nI 0)]) (rest := []) ⟨hx, hb, hml, hown, hts⟩ (m_newForm l dC dI cB cC cI cJ cZ z0 R pl N G B 2 0 0 (by decide) hn14 s.heap.size) (cwV 3 hts kX12_begin_X12_newForm_206 rfl rfl rfl (by decide +kernel) ⟨Nat.le_of_ble_eq_true rfl, Nat.le_of_ble_eq_true rfl⟩) hK hP hD hS hA rfl rfl hl.1 (lv_room (Nat.le_of_ble_eq_true rfl)) dX12_begin_25 hcs (fun r_5 N_1 G_2 B_3 pl_4 hw H locs hP hD hS => ?_)
      dsimp only at hw
      obtain ⟨e1, e2, e3, e4, hw⟩ := hw
      rw [e1, e2, e3, e4] at hP hD
      subst hw
      refine lv_istore (lv' := [(5, .int (nI (N 14))), (0, .ref z0), (1, .int (nI tc)), (2, .int (nI h)), (3, .int (nI fa)), (4, .int (nI rin))]) hx hb dX12_begin_28 hl (by decide) rfl (fun ls hl => ?_)
      refine lv_aload_n hx hb dX12_begin_30 rfl (lv_at hl 1 rfl) ?_
      refine lv_iload_n hx hb dX12_begin_31 rfl (lv_at hl 2 rfl) ?_
      refine lv_iload_n hx hb dX12_begin_32 rfl (lv_at hl 3 rfl) ?_
      refine lv_iload hx hb dX12_begin_33 (lv_at hl 0 rfl) ?_
      refine mcl_v (As := [.int (nI tc), .int (nI h), .int (nI (N 14))]) (rest := []) ⟨hx, hb, hml, hown, hts⟩ (m_lookAt l dC dI cB cC cI cJ cZ z0 R pl (va_up N 14 (N 14 + 1)) (NF G (N 14) 2 0 0) B tc h (N 14) hn53 H.size) (cwV 3 hts kX12_begin_X12_lookAt_318 rfl rfl rfl (by decide +kernel) ⟨Nat.le_of_ble_eq_true rfl, Nat.le_of_ble_eq_true rfl⟩) hK hP hD hS hA rfl rfl hl.1 (lv_room (Nat.le_of_ble_eq_true rfl)) dX12_begin_35 hcs (fun  N_6 G_7 B_8 pl_9 hw H locs hP hD hS => ?_)
      dsimp only at hw
      obtain ⟨e1, e2, e3, e4⟩ := hw
      rw [e1, e2, e3, e4] at hP hD
      have hP : va_P (dC, dI) vwCl (MW cB cC cI cJ cZ z0 R pl (va_up (va_up N 14 (N 14 + 1)) 53 (N 53 + 1)) (LK (NF G (N 14) 2 0 0) (va_up (G 50) (N 53) tc) (va_up (G 51) (N 53) h) (va_up (G 52) (N 53) (N 14))) B) H := hP
      have hD : va_D A (MW cB cC cI cJ cZ z0 R pl (va_up (va_up N 14 (N 14 + 1)) 53 (N 53 + 1)) (LK (NF G (N 14) 2 0 0) (va_up (G 50) (N 53) tc) (va_up (G 51) (N 53) h) (va_up (G 52) (N 53) (N 14))) B) := hD
      refine lv_iload hx hb dX12_begin_38 (lv_at hl 0 rfl) ?_
      exact W.iret (v := (nI (N 14))) hx hb hr (fun t ht hW => ⟨⟨(nI (N 14)), (va_up (va_up N 14 (N 14 + 1)) 53 (N 53 + 1), LK (NF G (N 14) 2 0 0) (va_up (G 50) (N 53) tc) (va_up (G 51) (N 53) h) (va_up (G 52) (N 53) (N 14)), B, pl), rfl, ⟨rfl, rfl, N 14, rfl, BGX.lst hG c2 (by omega) (by omega) (by omega)⟩, by rw [ht]; exact hP, va_K.moved hW.alike hK, hD⟩, hS.F ht⟩) hS.2.2 dX12_begin_40
  · refine lv_iload_n hx hb dX12_begin_9 rfl (lv_at hl 1 rfl) ?_
    exact W.iret (v := (nI tc)) hx hb hr (fun t ht hW => ⟨⟨(nI tc), (N, G, B, pl), rfl, ⟨rfl, rfl, tc, rfl, BGX.old hG (Or.inl ⟨c1, rfl⟩)⟩, by rw [ht]; exact hP, va_K.moved hW.alike hK, hD⟩, hS.F ht⟩) hS.2.2 dX12_begin_10
