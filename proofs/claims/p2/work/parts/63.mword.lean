def oX12_more : List Cond := [Cond.fieldLink RX12 18 "MacroScopesModel" "letters" "[B", Cond.fieldLink RX12 21 "MacroScopesModel" "letterFrom" "[I", Cond.fieldLink RX12 165 "MacroScopesModel" "symbols" "I"]
def vX12_more : List Cond := .code yX12_more cX12_more 5 none :: (oX12_more ++ (wsX120))
theorem lkX12_more_f18 : Cond.fieldLink RX12 18 "MacroScopesModel" "letters" "[B" ∈ vX12_more := List.mem_cons_of_mem _ (List.mem_append_left _ (List.mem_of_getElem? (i := 0) rfl))
theorem lkX12_more_f21 : Cond.fieldLink RX12 21 "MacroScopesModel" "letterFrom" "[I" ∈ vX12_more := List.mem_cons_of_mem _ (List.mem_append_left _ (List.mem_of_getElem? (i := 1) rfl))
theorem lkX12_more_f165 : Cond.fieldLink RX12 165 "MacroScopesModel" "symbols" "I" ∈ vX12_more := List.mem_cons_of_mem _ (List.mem_append_left _ (List.mem_of_getElem? (i := 2) rfl))
theorem inX12_more : ∀ w ∈ wsX120, w ∈ vX12_more := fun w h => List.mem_cons_of_mem _ (List.mem_append_right _ (h))
def oX12_word : List Cond := [Cond.fieldLink RX12 21 "MacroScopesModel" "letterFrom" "[I", Cond.fieldLink RX12 165 "MacroScopesModel" "symbols" "I", Cond.methodLink RX12 145 yX12_more, Cond.instanceMethod yX12_more, Cond.selects RX12 yX12_more yX12_more, Cond.initialized RX12]
def vX12_word : List Cond := .code yX12_word cX12_word 4 none :: (oX12_word ++ (vX12_more ++ (wsX120)))
theorem lkX12_word_f21 : Cond.fieldLink RX12 21 "MacroScopesModel" "letterFrom" "[I" ∈ vX12_word := List.mem_cons_of_mem _ (List.mem_append_left _ (List.mem_of_getElem? (i := 0) rfl))
theorem lkX12_word_f165 : Cond.fieldLink RX12 165 "MacroScopesModel" "symbols" "I" ∈ vX12_word := List.mem_cons_of_mem _ (List.mem_append_left _ (List.mem_of_getElem? (i := 1) rfl))
theorem inX12_word : ∀ w ∈ wsX120, w ∈ vX12_word := fun w h => List.mem_cons_of_mem _ (List.mem_append_right _ (List.mem_append_right _ (h)))
theorem kX12_word_X12_more_145 : GoodIn vX12_word (wsV RX12 145 RX12 yX12_more vX12_more) := goodIn_sub (fun w h => (List.mem_append.mp h).elim (fun h => List.mem_cons_of_mem _ (List.mem_append_left _ ((by decide +kernel : ∀ w ∈ ([.methodLink RX12 145 yX12_more, .instanceMethod yX12_more, .selects RX12 yX12_more yX12_more, .initialized RX12] : List Cond), w ∈ oX12_word) w h))) (fun h => List.mem_cons_of_mem _ (List.mem_append_right _ (List.mem_append_left _ (h))))) (by decide +kernel)
/-- the first of nn letters of a number -/
def FC (x : Int64) (nn : Nat) : Int32 := vp_nar .byte (x >>> ((nI 8 * (nI nn - 1)).toInt64 &&& 63)).toInt32.toInt8.toInt32
set_option maxHeartbeats 4000000 in
set_option maxRecDepth 100000 in
theorem lp_more {p : Program} {l : Launch} {e : Env} {s : State} {m : MethodId} {args : Array Value} {below : List Frame} {meth : Method} {c : Code} {Q : State → Prop} {A : Nat → Prop} {dC : Nat → ClassId} {dI : Nat → Nat → Nat} {cB cC cI cJ cZ : ClassId} {z0 : Nat} {R : Nat → Nat} (hx : p.tables.exec = Jvm.exec) (hb : c.code = cX12_more) (hml : c.maxLocals = 5) (hown : s.vm.findClass RX12 = some m.cls) (hts : ∀ w ∈ vX12_more, w.before args s = true) (hK : va_K (dC, dI) vwCl (TY cB cC cI cJ cZ) s) (hA : ∀ q : Nat, s.heap.size ≤ q → A q) {pl : Int32} {N : Nat → Nat} {G : Nat → Nat → Nat} {B : Nat → Nat → Int32} (x : Int64) (nn : Nat) (h6 : N 6 ≤ 5000) (hc : G 5 (N 6) + nn ≤ 1000) (ke : ∀ (X : Nat → Int32) (H : Heap) (locs : List Loc), ((∀ i, i < G 5 (N 6) → X i = B 4 i) ∧ (0 < nn → X (G 5 (N 6)) = FC x nn)) → va_P (dC, dI) vwCl (MW cB cC cI cJ cZ z0 R pl N (va_up G 5 (va_up (G 5) (N 6) (G 5 (N 6) + (nn - 0)))) (va_up B 4 X)) H → va_D A (MW cB cC cI cJ cZ z0 R pl N (va_up G 5 (va_up (G 5) (N 6) (G 5 (N 6) + (nn - 0)))) (va_up B 4 X)) → va_S A s.heap H locs → ∀ (ls : Array Slot), lv_has ls 5 [] → W p l e (headSpec vX12_more { frames := 0, cells := 0, slots := 0, locals := 0 }).room s m args below meth c H locs 0 0 Q (F0 m 52 ls [])) : ∀ (k : Nat) (j : Nat) (X : Nat → Int32), j < k → j ≤ nn → ((∀ i, i < G 5 (N 6) → X i = B 4 i) ∧ (j < nn → X (G 5 (N 6)) = FC x nn)) → ∀ (H : Heap) (locs : List Loc), va_P (dC, dI) vwCl (MW cB cC cI cJ cZ z0 R pl N (va_up G 5 (va_up (G 5) (N 6) (G 5 (N 6) + (nn - j)))) (va_up B 4 X)) H → va_D A (MW cB cC cI cJ cZ z0 R pl N (va_up G 5 (va_up (G 5) (N 6) (G 5 (N 6) + (nn - j)))) (va_up B 4 X)) → va_S A s.heap H locs → ∀ (ls : Array Slot), lv_has ls 5 [(0, .ref z0), (1, .long x), (4, .int (nI j - 1))] → W p l e (headSpec vX12_more { frames := 0, cells := 0, slots := 0, locals := 0 }).room s m args below meth c H locs 0 0 Q (F0 m 5 ls []) := by
  have hcs : 0 + 0 ≤ (0 : Nat) ∧ 0 + 0 ≤ (0 : Nat) := ⟨Nat.le_refl 0, Nat.le_refl 0⟩
  intro k
  induction k with
  | zero =>
    intro j X hk hj hX H locs hP hD hS ls hl
    exact absurd hk (Nat.not_lt_zero _)
  | succ k ih =>
    intro j X hk hj hX H locs hP hD hS ls hl
    refine lv_iload hx hb dX12_more_5 (lv_at hl 2 rfl) ?_
    refine bo_lt (tgt := 52) hx hb (by first | omega | exact Nat.lt_of_lt_of_le (hG _ _) (by decide)) dX12_more_7 (by decide) (fun c1 => ?_) (fun c1 => ?_)
    · subst c1
      exact ke X H locs hX hP hD hS ls (lv_sub hl [] rfl)
    · obtain ⟨j, rfl⟩ : ∃ i, j = i + 1 := ⟨j - 1, by omega⟩
      refine lv_aload_n hx hb dX12_more_10 rfl (lv_at hl 0 rfl) ?_
      refine mg_4 hx hb hts inX12_more hown hK hP (hts _ lkX12_more_f18) dX12_more_11 ?_
      refine lv_aload_n hx hb dX12_more_14 rfl (lv_at hl 0 rfl) ?_
      refine mg_5 hx hb hts inX12_more hown hK hP (hts _ lkX12_more_f21) dX12_more_15 ?_
      refine lv_aload_n hx hb dX12_more_18 rfl (lv_at hl 0 rfl) ?_
      refine mg_6 hx hb hts inX12_more hown hK hP (hts _ lkX12_more_f165) dX12_more_19 ?_
      refine ml_5 hx hb hK hP (by omega) dX12_more_22 ?_
      refine tp_i (y := nI ((va_up (G 5) (N 6) (G 5 (N 6) + (nn - (j + 1)))) (N 6))) rfl ?_
      refine tp_i (y := nI (G 5 (N 6) + (nn - (j + 1)))) (by rw [va_up_self]) ?_
      refine lv_lload_n hx hb dX12_more_23 rfl (lv_at hl 1 rfl) ?_
      refine lv_bipush (v := nI 8) hx hb dX12_more_24 (by decide) ?_
      refine lv_iload hx hb dX12_more_26 (lv_at hl 2 rfl) ?_
      refine lv_imul hx hb dX12_more_28 ?_
      refine lv_lshr hx hb dX12_more_29 rfl ?_
      refine lv_l2i hx hb dX12_more_30 rfl ?_
      refine lv_i2b (v := ((x >>> (((nI 8 * (nI (j + 1) - 1))).toInt64 &&& 63)).toInt32).toInt8.toInt32) hx hb dX12_more_31 rfl ?_
      refine ms_4 hx hb hK hP hD hS (by omega) dX12_more_32 (fun H locs hP hD hS => ?_)
      rw [bx_uu] at hP hD
      obtain ⟨X2, hX2⟩ : ∃ X2, X2 = upd (va_up B 4 X 4) (G 5 (N 6) + (nn - (j + 1))) (vp_nar .byte (((x >>> (((nI 8 * (nI (j + 1) - 1))).toInt64 &&& 63)).toInt32).toInt8.toInt32)) := ⟨_, rfl⟩
      rw [← hX2] at hP hD
      have hX3 : (∀ i, i < G 5 (N 6) → X2 i = B 4 i) ∧ (j < nn → X2 (G 5 (N 6)) = FC x nn) := by
        refine ⟨fun i hi => by rw [hX2, pk_un (by omega)]; exact hX.1 i hi, fun _ => ?_⟩
        by_cases e : j + 1 = nn
        · rw [hX2, show G 5 (N 6) + (nn - (j + 1)) = G 5 (N 6) by omega, pk_us, e]; rfl
        · rw [hX2, pk_un (by omega)]; exact hX.2 (by omega)
      refine lv_aload_n hx hb dX12_more_33 rfl (lv_at hl 0 rfl) ?_
      refine mg_5 hx hb hts inX12_more hown hK hP (hts _ lkX12_more_f21) dX12_more_34 ?_
      refine lv_aload_n hx hb dX12_more_37 rfl (lv_at hl 0 rfl) ?_
      refine mg_6 hx hb hts inX12_more hown hK hP (hts _ lkX12_more_f165) dX12_more_38 ?_
      refine lv_dup2_11 hx hb dX12_more_41 rfl rfl ?_
      refine ml_5 hx hb hK hP (by omega) dX12_more_42 ?_
      refine tp_i (y := nI ((va_up (G 5) (N 6) (G 5 (N 6) + (nn - (j + 1)))) (N 6))) rfl ?_
      refine tp_i (y := nI (G 5 (N 6) + (nn - (j + 1)))) (by rw [va_up_self]) ?_
      refine lv_iconst (v := nI 1) hx hb dX12_more_43 (by decide) ?_
      refine lv_iadd hx hb dX12_more_44 ?_
      refine tp_i (nI_add (G 5 (N 6) + (nn - (j + 1))) 1) ?_
      refine ms_5 hx hb hK hP hD hS (by omega) dX12_more_45 (fun H locs hP hD hS => ?_)
      rw [bx_uu] at hP hD
      rw [va_up_self, bx_uu] at hP hD
      have ej : (G 5 (N 6) + (nn - (j + 1))) + 1 = G 5 (N 6) + (nn - j) := by omega
      rw [ej] at hP hD
      have hP : va_P (dC, dI) vwCl (MW cB cC cI cJ cZ z0 R pl N (va_up G 5 (va_up (G 5) (N 6) (G 5 (N 6) + (nn - j)))) (va_up B 4 X2)) H := hP
      have hD : va_D A (MW cB cC cI cJ cZ z0 R pl N (va_up G 5 (va_up (G 5) (N 6) (G 5 (N 6) + (nn - j)))) (va_up B 4 X2)) := hD
      refine lv_iinc (v := nI j - 1) (lv' := [(4, .int (nI j - 1)), (0, .ref z0), (1, .long x)]) hx hb dX12_more_46 hl (k := 2) rfl (om1m (show 0 < j + 1 by omega)) (by decide) rfl (fun ls hl => ?_)
      refine lv_goto (tgt := 5) hx hb dX12_more_49 (by decide) ?_
      exact ih j X2 (by omega) (by omega) hX3 _ _ hP hD hS ls (lv_sub hl [1, 2, 0] rfl)

set_option maxHeartbeats 4000000 in
set_option maxRecDepth 100000 in
/-- more -/
theorem m_more (l : Launch) (dC : Nat → ClassId) (dI : Nat → Nat → Nat) (cB cC cI cJ cZ : ClassId) (z0 : Nat) (R : Nat → Nat) (pl : Int32) (N : Nat → Nat) (G : Nat → Nat → Nat) (B : Nat → Nat → Int32) (x : Int64) (nn : Nat) (h6 : N 6 ≤ 5000) (hc : G 5 (N 6) + nn ≤ 1000) (s0 : Nat) : Met l yX12_more vX12_more { frames := 0, cells := 0, slots := 0, locals := 0 } (va_Pc [.ref z0, .long x, .int (nI nn)] (mPre dC dI cB cC cI cJ cZ z0 R pl N G B s0)) (va_Qv (fun u : ((Nat → Nat) × (Nat → Nat → Nat) × (Nat → Nat → Int32) × Int32) => match u with | (N1, G1, B1, pl1) => pl1 = pl ∧ N1 = N ∧ ∃ X, G1 = va_up G 5 (va_up (G 5) (N 6) (G 5 (N 6) + nn)) ∧ B1 = va_up B 4 X ∧ (∀ i, i < G 5 (N 6) → X i = B 4 i) ∧ (0 < nn → X (G 5 (N 6)) = FC x nn)) (mPost dC dI cB cC cI cJ cZ z0 R (va_A (MW cB cC cI cJ cZ z0 R pl N G B) s0)) (va_A (MW cB cC cI cJ cZ z0 R pl N G B) s0)) 0 0 (va_A (MW cB cC cI cJ cZ z0 R pl N G B) s0) := by
  refine Met.ofW (cc := cX12_more) (maxL := 5) (ret := none) (by decide) rfl ?_
  intro p e s m args below meth c s₁ B9 hml hv
  obtain ⟨rfl, hsz, hP, hK, hD0⟩ := hv
  have hx := B9.exec
  have hb := B9.bytes
  have hr := B9.returns
  have hts := atoms_spec (ws := vX12_more) B9.pre
  have hown : s.vm.findClass RX12 = some m.cls := findClass_of_methodNamed B9.named
  have hlocks := B9.notSynchronized
  subst hsz
  have hD := hD0.self (sz := s.heap.size)
  generalize hAe : va_A (MW cB cC cI cJ cZ z0 R pl N G B) s.heap.size = A at hD ⊢
  have hA : ∀ q : Nat, s.heap.size ≤ q → A q := fun q h => by rw [← hAe]; exact Or.inr h
  have hS : va_S A s.heap s.heap [] := va_S.rf
  have hcs : 0 + 0 ≤ (0 : Nat) ∧ 0 + 0 ≤ (0 : Nat) := ⟨Nat.le_refl 0, Nat.le_refl 0⟩
  have hl := lv_entry ([.ref z0, .long x, .int (nI nn)]) (n := 5) (Nat.le_of_ble_eq_true rfl)
  rw [lg_entry_eq]
  generalize (lg_sl ([.ref z0, .long x, .int (nI nn)]) ++ List.replicate (5 - (lg_sl ([.ref z0, .long x, .int (nI nn)])).length) Slot.unset).toArray = ls at hl ⊢
  have hl : lv_has ls 5 [(0, .ref z0), (1, .long x), (3, .int (nI nn))] := hl
  refine lv_iload_n hx hb dX12_more_0 rfl (lv_at hl 2 rfl) ?_
  refine lv_iconst (v := nI 1) hx hb dX12_more_1 (by decide) ?_
  refine lv_isub hx hb dX12_more_2 ?_
  refine lv_istore (lv' := [(4, .int (nI nn - 1)), (0, .ref z0), (1, .long x), (3, .int (nI nn))]) hx hb dX12_more_3 hl (by decide) rfl (fun ls hl => ?_)
  have e0 : G 5 (N 6) + (nn - nn) = G 5 (N 6) := by omega
  have e5 : va_up (G 5) (N 6) (G 5 (N 6)) = G 5 := va_upid _ _
  have hP : va_P (dC, dI) vwCl (MW cB cC cI cJ cZ z0 R pl N (va_up G 5 (va_up (G 5) (N 6) (G 5 (N 6) + (nn - nn)))) (va_up B 4 (B 4))) s.heap := by rw [e0, e5, va_upid, va_upid]; exact hP
  have hD : va_D A (MW cB cC cI cJ cZ z0 R pl N (va_up G 5 (va_up (G 5) (N 6) (G 5 (N 6) + (nn - nn)))) (va_up B 4 (B 4))) := by rw [e0, e5, va_upid, va_upid]; exact hD
  refine lp_more hx hb hml hown hts hK hA x nn h6 hc (fun X H locs hX hP hD hS ls hl => ?_) _ nn (B 4) (Nat.lt_succ_self _) (Nat.le_refl _) ⟨fun _ _ => rfl, fun z => absurd z (Nat.lt_irrefl _)⟩ _ _ hP hD hS ls (lv_sub hl [1, 2, 0] rfl)
  exact W.vret hx hb hr (fun t ht hW => ⟨⟨(N, va_up G 5 (va_up (G 5) (N 6) (G 5 (N 6) + (nn - 0))), va_up B 4 X, pl), rfl, ⟨rfl, rfl, X, by rw [Nat.sub_zero], rfl, hX⟩, by rw [ht]; exact hP, va_K.moved hW.alike hK, hD⟩, hS.F ht⟩) hS.2.2 dX12_more_52

set_option maxHeartbeats 4000000 in
set_option maxRecDepth 100000 in
/-- word -/
theorem m_word (l : Launch) (dC : Nat → ClassId) (dI : Nat → Nat → Nat) (cB cC cI cJ cZ : ClassId) (z0 : Nat) (R : Nat → Nat) (pl : Int32) (N : Nat → Nat) (G : Nat → Nat → Nat) (B : Nat → Nat → Int32) (x : Int64) (nn : Nat) (h6 : N 6 < 5000) (hc : G 5 (N 6) + nn ≤ 1000) (s0 : Nat) : Met l yX12_word vX12_word { frames := 1, cells := 0, slots := 0, locals := 24 } (va_Pc [.ref z0, .long x, .int (nI nn)] (mPre dC dI cB cC cI cJ cZ z0 R pl N G B s0)) (va_Qv (fun u : ((Nat → Nat) × (Nat → Nat → Nat) × (Nat → Nat → Int32) × Int32) => match u with | (N1, G1, B1, pl1) => pl1 = pl ∧ N1 = va_up N 6 (N 6 + 1) ∧ ∃ X, G1 = va_up G 5 (va_up (G 5) (N 6 + 1) (G 5 (N 6) + nn)) ∧ B1 = va_up B 4 X ∧ (∀ i, i < G 5 (N 6) → X i = B 4 i) ∧ (0 < nn → X (G 5 (N 6)) = FC x nn)) (mPost dC dI cB cC cI cJ cZ z0 R (va_A (MW cB cC cI cJ cZ z0 R pl N G B) s0)) (va_A (MW cB cC cI cJ cZ z0 R pl N G B) s0)) 0 0 (va_A (MW cB cC cI cJ cZ z0 R pl N G B) s0) := by
  refine Met.ofW (cc := cX12_word) (maxL := 4) (ret := none) (by decide) rfl ?_
  intro p e s m args below meth c s₁ B9 hml hv
  obtain ⟨rfl, hsz, hP, hK, hD0⟩ := hv
  have hx := B9.exec
  have hb := B9.bytes
  have hr := B9.returns
  have hts := atoms_spec (ws := vX12_word) B9.pre
  have hown : s.vm.findClass RX12 = some m.cls := findClass_of_methodNamed B9.named
  have hlocks := B9.notSynchronized
  subst hsz
  have hD := hD0.self (sz := s.heap.size)
  generalize hAe : va_A (MW cB cC cI cJ cZ z0 R pl N G B) s.heap.size = A at hD ⊢
  have hA : ∀ q : Nat, s.heap.size ≤ q → A q := fun q h => by rw [← hAe]; exact Or.inr h
  have hS : va_S A s.heap s.heap [] := va_S.rf
  have hcs : 0 + 0 ≤ (0 : Nat) ∧ 0 + 0 ≤ (0 : Nat) := ⟨Nat.le_refl 0, Nat.le_refl 0⟩
  have hl := lv_entry ([.ref z0, .long x, .int (nI nn)]) (n := 4) (Nat.le_of_ble_eq_true rfl)
  rw [lg_entry_eq]
  generalize (lg_sl ([.ref z0, .long x, .int (nI nn)]) ++ List.replicate (4 - (lg_sl ([.ref z0, .long x, .int (nI nn)])).length) Slot.unset).toArray = ls at hl ⊢
  have hl : lv_has ls 4 [(0, .ref z0), (1, .long x), (3, .int (nI nn))] := hl
  refine lv_aload_n hx hb dX12_word_0 rfl (lv_at hl 0 rfl) ?_
  refine mg_5 hx hb hts inX12_word hown hK hP (hts _ lkX12_word_f21) dX12_word_1 ?_
  refine lv_aload_n hx hb dX12_word_4 rfl (lv_at hl 0 rfl) ?_
  refine mg_6 hx hb hts inX12_word hown hK hP (hts _ lkX12_word_f165) dX12_word_5 ?_
  refine lv_iconst (v := nI 1) hx hb dX12_word_8 (by decide) ?_
  refine lv_iadd hx hb dX12_word_9 ?_
  refine tp_i (nI_add (N 6) 1) ?_
  refine lv_aload_n hx hb dX12_word_10 rfl (lv_at hl 0 rfl) ?_
  refine mg_5 hx hb hts inX12_word hown hK hP (hts _ lkX12_word_f21) dX12_word_11 ?_
  refine lv_aload_n hx hb dX12_word_14 rfl (lv_at hl 0 rfl) ?_
  refine mg_6 hx hb hts inX12_word hown hK hP (hts _ lkX12_word_f165) dX12_word_15 ?_
  refine ml_5 hx hb hK hP (by omega) dX12_word_18 ?_
  refine ms_5 hx hb hK hP hD hS (by omega) dX12_word_19 (fun H locs hP hD hS => ?_)
  refine lv_aload_n hx hb dX12_word_20 rfl (lv_at hl 0 rfl) ?_
  refine lv_dup hx hb dX12_word_21 rfl ?_
  refine mg_6 hx hb hts inX12_word hown hK hP (hts _ lkX12_word_f165) dX12_word_22 ?_
  refine lv_iconst (v := nI 1) hx hb dX12_word_25 (by decide) ?_
  refine lv_iadd hx hb dX12_word_26 ?_
  refine tp_i (nI_add (N 6) 1) ?_
  refine mp_6 hx hb hts inX12_word hown hK hP hD hS (hts _ lkX12_word_f165) dX12_word_27 (fun H locs hP hD hS => ?_)
  refine lv_aload_n hx hb dX12_word_30 rfl (lv_at hl 0 rfl) ?_
  refine lv_lload_n hx hb dX12_word_31 rfl (lv_at hl 1 rfl) ?_
  refine lv_iload_n hx hb dX12_word_32 rfl (lv_at hl 2 rfl) ?_
  have hP : va_P (dC, dI) vwCl (MW cB cC cI cJ cZ z0 R pl (va_up N 6 (N 6 + 1)) (va_up G 5 (va_up (G 5) (N 6 + 1) (G 5 (N 6)))) B) H := hP
  have hD : va_D A (MW cB cC cI cJ cZ z0 R pl (va_up N 6 (N 6 + 1)) (va_up G 5 (va_up (G 5) (N 6 + 1) (G 5 (N 6)))) B) := hD
  have e1 : (va_up G 5 (va_up (G 5) (N 6 + 1) (G 5 (N 6)))) 5 ((va_up N 6 (N 6 + 1)) 6) = G 5 (N 6) := va_up_self _ _ _
  refine mcl_v (As := [.long x, .int (nI nn)]) (rest := []) ⟨hx, hb, hml, hown, hts⟩ (m_more l dC dI cB cC cI cJ cZ z0 R pl (va_up N 6 (N 6 + 1)) (va_up G 5 (va_up (G 5) (N 6 + 1) (G 5 (N 6)))) B x nn (show N 6 + 1 ≤ 5000 by omega) (by rw [e1]; exact hc) H.size) (cwV 2 hts kX12_word_X12_more_145 rfl rfl rfl (by decide +kernel) ⟨Nat.le_of_ble_eq_true rfl, Nat.le_of_ble_eq_true rfl⟩) hK hP hD hS hA rfl rfl hl.1 (lv_room (Nat.le_of_ble_eq_true rfl)) dX12_word_33 hcs (fun  N_1 G_2 B_3 pl_4 hw H locs hP hD hS => ?_)
  dsimp only at hw
  obtain ⟨e4, e0, X, e2, e3, hX⟩ := hw
  rw [e1] at e2 hX
  rw [e0, e2, e3, e4] at hP hD
  rw [bx_uu, show (va_up G 5 (va_up (G 5) (N 6 + 1) (G 5 (N 6)))) 5 = va_up (G 5) (N 6 + 1) (G 5 (N 6)) from rfl, show (va_up N 6 (N 6 + 1)) 6 = N 6 + 1 from rfl, bx_uu] at hP hD
  exact W.vret hx hb hr (fun t ht hW => ⟨⟨(va_up N 6 (N 6 + 1), va_up G 5 (va_up (G 5) (N 6 + 1) (G 5 (N 6) + nn)), va_up B 4 X, pl), rfl, ⟨rfl, rfl, X, rfl, rfl, hX⟩, by rw [ht]; exact hP, va_K.moved hW.alike hK, hD⟩, hS.F ht⟩) hS.2.2 dX12_word_36
