def oX12_token : List Cond := [Cond.fieldLink RX12 7 "MacroScopesModel" "text" "[B", Cond.fieldLink RX12 85 "MacroScopesModel" "waiting" "[I", Cond.fieldLink RX12 203 "MacroScopesModel" "waits" "I", Cond.methodLink RX12 210 yX12_symbolAt, Cond.instanceMethod yX12_symbolAt, Cond.selects RX12 yX12_symbolAt yX12_symbolAt, Cond.initialized RX12, Cond.methodLink RX12 206 yX12_newForm, Cond.instanceMethod yX12_newForm, Cond.selects RX12 yX12_newForm yX12_newForm, Cond.methodLink RX12 199 yX12_isSymbol, Cond.instanceMethod yX12_isSymbol, Cond.selects RX12 yX12_isSymbol yX12_isSymbol]
def vX12_token : List Cond := .code yX12_token cX12_token 6 (some .boolean) :: (oX12_token ++ (vX12_symbolAt ++ (vX12_newForm ++ (vX12_isSymbol ++ (wsX120)))))
theorem lkX12_token_f7 : Cond.fieldLink RX12 7 "MacroScopesModel" "text" "[B" ∈ vX12_token := List.mem_cons_of_mem _ (List.mem_append_left _ (List.mem_of_getElem? (i := 0) rfl))
theorem lkX12_token_f85 : Cond.fieldLink RX12 85 "MacroScopesModel" "waiting" "[I" ∈ vX12_token := List.mem_cons_of_mem _ (List.mem_append_left _ (List.mem_of_getElem? (i := 1) rfl))
theorem lkX12_token_f203 : Cond.fieldLink RX12 203 "MacroScopesModel" "waits" "I" ∈ vX12_token := List.mem_cons_of_mem _ (List.mem_append_left _ (List.mem_of_getElem? (i := 2) rfl))
theorem inX12_token : ∀ w ∈ wsX120, w ∈ vX12_token := fun w h => List.mem_cons_of_mem _ (List.mem_append_right _ (List.mem_append_right _ (List.mem_append_right _ (List.mem_append_right _ (h)))))
theorem kX12_token_X12_symbolAt_210 : GoodIn vX12_token (wsV RX12 210 RX12 yX12_symbolAt vX12_symbolAt) := goodIn_sub (fun w h => (List.mem_append.mp h).elim (fun h => List.mem_cons_of_mem _ (List.mem_append_left _ ((by decide +kernel : ∀ w ∈ ([.methodLink RX12 210 yX12_symbolAt, .instanceMethod yX12_symbolAt, .selects RX12 yX12_symbolAt yX12_symbolAt, .initialized RX12] : List Cond), w ∈ oX12_token) w h))) (fun h => List.mem_cons_of_mem _ (List.mem_append_right _ (List.mem_append_left _ (h))))) (by decide +kernel)
theorem kX12_token_X12_newForm_206 : GoodIn vX12_token (wsV RX12 206 RX12 yX12_newForm vX12_newForm) := goodIn_sub (fun w h => (List.mem_append.mp h).elim (fun h => List.mem_cons_of_mem _ (List.mem_append_left _ ((by decide +kernel : ∀ w ∈ ([.methodLink RX12 206 yX12_newForm, .instanceMethod yX12_newForm, .selects RX12 yX12_newForm yX12_newForm, .initialized RX12] : List Cond), w ∈ oX12_token) w h))) (fun h => List.mem_cons_of_mem _ (List.mem_append_right _ (List.mem_append_right _ (List.mem_append_left _ (h)))))) (by decide +kernel)
theorem kX12_token_X12_isSymbol_199 : GoodIn vX12_token (wsV RX12 199 RX12 yX12_isSymbol vX12_isSymbol) := goodIn_sub (fun w h => (List.mem_append.mp h).elim (fun h => List.mem_cons_of_mem _ (List.mem_append_left _ ((by decide +kernel : ∀ w ∈ ([.methodLink RX12 199 yX12_isSymbol, .instanceMethod yX12_isSymbol, .selects RX12 yX12_isSymbol yX12_isSymbol, .initialized RX12] : List Cond), w ∈ oX12_token) w h))) (fun h => List.mem_cons_of_mem _ (List.mem_append_right _ (List.mem_append_right _ (List.mem_append_right _ (List.mem_append_left _ (h))))))) (by decide +kernel)
theorem dig {x : Int32} (h1 : nI 48 ≤ x) (h2 : x ≤ nI 57) : ∃ d, x = nI d ∧ 48 ≤ d ∧ d ≤ 57 := by
  rw [Int32.le_iff_toInt_le, nI_toInt (by decide)] at h1 h2
  refine ⟨x.toInt.toNat, ?_, by omega, by omega⟩
  apply Int32.toInt_inj.mp
  rw [nI_toInt (by omega)]
  omega
theorem dig100 : ¬ nI 100 ≤ nI 57 := by decide
set_option maxHeartbeats 4000000 in
set_option maxRecDepth 100000 in
theorem lp_tok1 {p : Program} {l : Launch} {e : Env} {s : State} {m : MethodId} {args : Array Value} {below : List Frame} {meth : Method} {c : Code} {Q : State → Prop} {A : Nat → Prop} {dC : Nat → ClassId} {dI : Nat → Nat → Nat} {cB cC cI cJ cZ : ClassId} {z0 : Nat} {R : Nat → Nat} (hx : p.tables.exec = Jvm.exec) (hb : c.code = cX12_token) (hml : c.maxLocals = 6) (hown : s.vm.findClass RX12 = some m.cls) (hts : ∀ w ∈ vX12_token, w.before args s = true) (hK : va_K (dC, dI) vwCl (TY cB cC cI cJ cZ) s) (hA : ∀ q : Nat, s.heap.size ≤ q → A q) {pl : Int32} {N : Nat → Nat} {G : Nat → Nat → Nat} {B : Nat → Nat → Int32} {fr to u c5 c6 : Nat} (hG : ∀ k i, G k i < 1048576) (hps : PS N G B u c5 c6) (hft : fr < to) (hto : to ≤ 3000) (hu : to - fr ≤ u) (h14 : N 14 < 90000) (h45 : N 45 < 3001) (ke : ∀ (fi : Nat) (H : Heap) (locs : List Loc), fi ≤ 1 → (fi = 1 → ∀ i, fr ≤ i → i < to → nI 48 ≤ B 1 i ∧ B 1 i ≤ nI 57) → va_P (dC, dI) vwCl (MW cB cC cI cJ cZ z0 R pl N G B) H → va_D A (MW cB cC cI cJ cZ z0 R pl N G B) → va_S A s.heap H locs → ∀ (ls : Array Slot), lv_has ls 6 [(0, .ref z0), (1, .int (nI fr)), (2, .int (nI to)), (3, .int (nI fi)), (4, .int (nI 0))] → W p l e (headSpec vX12_token { frames := 2, cells := 0, slots := 0, locals := 48 }).room s m args below meth c H locs 0 0 Q (F0 m 54 ls [])) : ∀ (k : Nat) (j fi : Nat), to - j < k → j ≤ to → fr ≤ j → fi ≤ 1 → (fi = 1 → ∀ i, fr ≤ i → i < j → nI 48 ≤ B 1 i ∧ B 1 i ≤ nI 57) → ∀ (H : Heap) (locs : List Loc), va_P (dC, dI) vwCl (MW cB cC cI cJ cZ z0 R pl N G B) H → va_D A (MW cB cC cI cJ cZ z0 R pl N G B) → va_S A s.heap H locs → ∀ (ls : Array Slot), lv_has ls 6 [(0, .ref z0), (1, .int (nI fr)), (2, .int (nI to)), (3, .int (nI fi)), (4, .int (nI 0)), (5, .int (nI j))] → W p l e (headSpec vX12_token { frames := 2, cells := 0, slots := 0, locals := 48 }).room s m args below meth c H locs 0 0 Q (F0 m 8 ls []) := by
  have hcs : 0 + 0 ≤ (0 : Nat) ∧ 0 + 0 ≤ (0 : Nat) := ⟨Nat.le_refl 0, Nat.le_refl 0⟩
  intro k
  induction k with
  | zero =>
    intro j fi hk hj hj2 hfi hdg
    omega
  | succ k ih =>
    intro j fi hk hj hj2 hfi hdg H locs hP hD hS ls hl
    refine lv_iload hx hb dX12_token_8 (lv_at hl 5 rfl) ?_
    refine lv_iload_n hx hb dX12_token_10 rfl (lv_at hl 2 rfl) ?_
    refine bn_ge (tgt := 54) hx hb (by first | omega | exact Nat.lt_of_lt_of_le (hG _ _) (by decide)) (by first | omega | exact Nat.lt_of_lt_of_le (hG _ _) (by decide)) dX12_token_11 (by decide) (fun c1 => ?_) (fun c1 => ?_)
    · have ej : j = to := by omega
      subst ej
      exact ke fi H locs hfi hdg hP hD hS ls (lv_sub hl [0, 1, 2, 3, 4] rfl)
    · refine lv_iload_n hx hb dX12_token_14 rfl (lv_at hl 3 rfl) ?_
      refine bz_eq (tgt := 46) hx hb (by first | omega | exact Nat.lt_of_lt_of_le (hG _ _) (by decide)) dX12_token_15 (by decide) (fun c2 => ?_) (fun c2 => ?_)
      · refine lv_iconst (v := nI 0) hx hb dX12_token_46 (by decide) ?_
        refine lv_istore_n (lv' := [(3, .int (nI 0)), (0, .ref z0), (1, .int (nI fr)), (2, .int (nI to)), (4, .int (nI 0)), (5, .int (nI j))]) hx hb dX12_token_47 rfl hl (by decide) rfl (fun ls hl => ?_)
        refine lv_iinc (v := nI (j + 1)) (lv' := [(5, .int (nI (j + 1))), (3, .int (nI 0)), (0, .ref z0), (1, .int (nI fr)), (2, .int (nI to)), (4, .int (nI 0))]) hx hb dX12_token_48 hl (k := 5) rfl (nI_add j 1) (by decide) rfl (fun ls hl => ?_)
        refine lv_goto (tgt := 8) hx hb dX12_token_51 (by decide) ?_
        exact ih (j + 1) 0 (by omega) (by omega) (by omega) (by decide) (fun z => absurd z (by decide)) _ _ hP hD hS ls (lv_sub hl [2, 3, 4, 1, 5, 0] rfl)
      · refine lv_aload_n hx hb dX12_token_18 rfl (lv_at hl 0 rfl) ?_
        refine mg_1 hx hb hts inX12_token hown hK hP (hts _ lkX12_token_f7) dX12_token_19 ?_
        refine lv_iload hx hb dX12_token_22 (lv_at hl 5 rfl) ?_
        refine ml_1 hx hb hK hP (by omega) dX12_token_24 ?_
        refine lv_bipush (v := nI 48) hx hb dX12_token_25 (by decide) ?_
        refine lv_icmp_lt (tgt := 46) hx hb dX12_token_27 (by decide) (fun c3 => ?_) (fun c3 => ?_)
        · refine lv_iconst (v := nI 0) hx hb dX12_token_46 (by decide) ?_
          refine lv_istore_n (lv' := [(3, .int (nI 0)), (0, .ref z0), (1, .int (nI fr)), (2, .int (nI to)), (4, .int (nI 0)), (5, .int (nI j))]) hx hb dX12_token_47 rfl hl (by decide) rfl (fun ls hl => ?_)
          refine lv_iinc (v := nI (j + 1)) (lv' := [(5, .int (nI (j + 1))), (3, .int (nI 0)), (0, .ref z0), (1, .int (nI fr)), (2, .int (nI to)), (4, .int (nI 0))]) hx hb dX12_token_48 hl (k := 5) rfl (nI_add j 1) (by decide) rfl (fun ls hl => ?_)
          refine lv_goto (tgt := 8) hx hb dX12_token_51 (by decide) ?_
          exact ih (j + 1) 0 (by omega) (by omega) (by omega) (by decide) (fun z => absurd z (by decide)) _ _ hP hD hS ls (lv_sub hl [2, 3, 4, 1, 5, 0] rfl)
        · refine lv_aload_n hx hb dX12_token_30 rfl (lv_at hl 0 rfl) ?_
          refine mg_1 hx hb hts inX12_token hown hK hP (hts _ lkX12_token_f7) dX12_token_31 ?_
          refine lv_iload hx hb dX12_token_34 (lv_at hl 5 rfl) ?_
          refine ml_1 hx hb hK hP (by omega) dX12_token_36 ?_
          refine lv_bipush (v := nI 57) hx hb dX12_token_37 (by decide) ?_
          refine lv_icmp_gt (tgt := 46) hx hb dX12_token_39 (by decide) (fun c4 => ?_) (fun c4 => ?_)
          · refine lv_iconst (v := nI 0) hx hb dX12_token_46 (by decide) ?_
            refine lv_istore_n (lv' := [(3, .int (nI 0)), (0, .ref z0), (1, .int (nI fr)), (2, .int (nI to)), (4, .int (nI 0)), (5, .int (nI j))]) hx hb dX12_token_47 rfl hl (by decide) rfl (fun ls hl => ?_)
            refine lv_iinc (v := nI (j + 1)) (lv' := [(5, .int (nI (j + 1))), (3, .int (nI 0)), (0, .ref z0), (1, .int (nI fr)), (2, .int (nI to)), (4, .int (nI 0))]) hx hb dX12_token_48 hl (k := 5) rfl (nI_add j 1) (by decide) rfl (fun ls hl => ?_)
            refine lv_goto (tgt := 8) hx hb dX12_token_51 (by decide) ?_
            exact ih (j + 1) 0 (by omega) (by omega) (by omega) (by decide) (fun z => absurd z (by decide)) _ _ hP hD hS ls (lv_sub hl [2, 3, 4, 1, 5, 0] rfl)
          · have hd2 : ∀ i, fr ≤ i → i < j + 1 → nI 48 ≤ B 1 i ∧ B 1 i ≤ nI 57 := fun i hi1 hi2 => by
              by_cases z : i = j
              · rw [z]; exact ⟨Int32.not_lt.mp c3, Int32.not_lt.mp c4⟩
              · exact hdg (by omega) i hi1 (by omega)
            refine lv_iconst (v := nI 1) hx hb dX12_token_42 (by decide) ?_
            refine lv_goto (tgt := 47) hx hb dX12_token_43 (by decide) ?_
            refine lv_istore_n (lv' := [(3, .int (nI 1)), (0, .ref z0), (1, .int (nI fr)), (2, .int (nI to)), (4, .int (nI 0)), (5, .int (nI j))]) hx hb dX12_token_47 rfl hl (by decide) rfl (fun ls hl => ?_)
            refine lv_iinc (v := nI (j + 1)) (lv' := [(5, .int (nI (j + 1))), (3, .int (nI 1)), (0, .ref z0), (1, .int (nI fr)), (2, .int (nI to)), (4, .int (nI 0))]) hx hb dX12_token_48 hl (k := 5) rfl (nI_add j 1) (by decide) rfl (fun ls hl => ?_)
            refine lv_goto (tgt := 8) hx hb dX12_token_51 (by decide) ?_
            exact ih (j + 1) 1 (by omega) (by omega) (by omega) (by decide) (fun _ => hd2) _ _ hP hD hS ls (lv_sub hl [2, 3, 4, 1, 5, 0] rfl)

set_option maxHeartbeats 4000000 in
set_option maxRecDepth 100000 in
theorem lp_tok2 {p : Program} {l : Launch} {e : Env} {s : State} {m : MethodId} {args : Array Value} {below : List Frame} {meth : Method} {c : Code} {Q : State → Prop} {A : Nat → Prop} {dC : Nat → ClassId} {dI : Nat → Nat → Nat} {cB cC cI cJ cZ : ClassId} {z0 : Nat} {R : Nat → Nat} (hx : p.tables.exec = Jvm.exec) (hb : c.code = cX12_token) (hml : c.maxLocals = 6) (hown : s.vm.findClass RX12 = some m.cls) (hts : ∀ w ∈ vX12_token, w.before args s = true) (hK : va_K (dC, dI) vwCl (TY cB cC cI cJ cZ) s) (hA : ∀ q : Nat, s.heap.size ≤ q → A q) {pl : Int32} {N : Nat → Nat} {G : Nat → Nat → Nat} {B : Nat → Nat → Int32} {fr to u c5 c6 : Nat} (hG : ∀ k i, G k i < 1048576) (hps : PS N G B u c5 c6) (hft : fr < to) (hto : to ≤ 3000) (hu : to - fr ≤ u) (h14 : N 14 < 90000) (h45 : N 45 < 3001) (h6 : to - fr ≤ 6) (hdg : ∀ i, fr ≤ i → i < to → nI 48 ≤ B 1 i ∧ B 1 i ≤ nI 57) (ke : ∀ (v : Nat) (H : Heap) (locs : List Loc), v < 1048576 → va_P (dC, dI) vwCl (MW cB cC cI cJ cZ z0 R pl N G B) H → va_D A (MW cB cC cI cJ cZ z0 R pl N G B) → va_S A s.heap H locs → ∀ (ls : Array Slot), lv_has ls 6 [(0, .ref z0), (1, .int (nI fr)), (2, .int (nI to)), (3, .int (nI 1)), (4, .int (nI v))] → W p l e (headSpec vX12_token { frames := 2, cells := 0, slots := 0, locals := 48 }).room s m args below meth c H locs 0 0 Q (F0 m 121 ls [])) : ∀ (k : Nat) (j v : Nat), to - j < k → j ≤ to → fr ≤ j → v < 10 ^ (j - fr) → ∀ (H : Heap) (locs : List Loc), va_P (dC, dI) vwCl (MW cB cC cI cJ cZ z0 R pl N G B) H → va_D A (MW cB cC cI cJ cZ z0 R pl N G B) → va_S A s.heap H locs → ∀ (ls : Array Slot), lv_has ls 6 [(0, .ref z0), (1, .int (nI fr)), (2, .int (nI to)), (3, .int (nI 1)), (4, .int (nI v)), (5, .int (nI j))] → W p l e (headSpec vX12_token { frames := 2, cells := 0, slots := 0, locals := 48 }).room s m args below meth c H locs 0 0 Q (F0 m 87 ls []) := by
  have hcs : 0 + 0 ≤ (0 : Nat) ∧ 0 + 0 ≤ (0 : Nat) := ⟨Nat.le_refl 0, Nat.le_refl 0⟩
  intro k
  induction k with
  | zero =>
    intro j v hk hj hj2 hv
    omega
  | succ k ih =>
    intro j v hk hj hj2 hv H locs hP hD hS ls hl
    have p1 : 10 ^ (j - fr) ≤ 10 ^ 6 := Nat.pow_le_pow_right (by decide) (by omega)
    refine lv_iload hx hb dX12_token_87 (lv_at hl 5 rfl) ?_
    refine lv_iload_n hx hb dX12_token_89 rfl (lv_at hl 2 rfl) ?_
    refine bn_ge (tgt := 121) hx hb (by first | omega | exact Nat.lt_of_lt_of_le (hG _ _) (by decide)) (by first | omega | exact Nat.lt_of_lt_of_le (hG _ _) (by decide)) dX12_token_90 (by decide) (fun c1 => ?_) (fun c1 => ?_)
    · have ej : j = to := by omega
      subst ej
      exact ke v H locs (by omega) hP hD hS ls (lv_sub hl [0, 1, 2, 3, 4] rfl)
    · have hd0 := hdg j hj2 c1
      obtain ⟨d, hd, hd1, hd2⟩ := dig hd0.1 hd0.2
      refine lv_iload_n hx hb dX12_token_93 rfl (lv_at hl 3 rfl) ?_
      refine bz_eq (tgt := 121) hx hb (by first | omega | exact Nat.lt_of_lt_of_le (hG _ _) (by decide)) dX12_token_94 (by decide) (fun q9 => absurd q9 (by omega)) (fun c => ?_)
      refine lv_bipush (v := nI 10) hx hb dX12_token_97 (by decide) ?_
      refine lv_iload hx hb dX12_token_99 (lv_at hl 4 rfl) ?_
      refine lv_imul hx hb dX12_token_101 ?_
      refine tp_i (pk_mul 10 v) ?_
      refine lv_aload_n hx hb dX12_token_102 rfl (lv_at hl 0 rfl) ?_
      refine mg_1 hx hb hts inX12_token hown hK hP (hts _ lkX12_token_f7) dX12_token_103 ?_
      refine lv_iload hx hb dX12_token_106 (lv_at hl 5 rfl) ?_
      refine ml_1 hx hb hK hP (by omega) dX12_token_108 ?_
      refine tp_i hd ?_
      refine lv_iadd hx hb dX12_token_109 ?_
      refine tp_i (nI_add (10 * v) d) ?_
      refine lv_bipush (v := nI 48) hx hb dX12_token_110 (by decide) ?_
      refine lv_isub hx hb dX12_token_112 ?_
      refine tp_i (pk_sub (a := (10 * v) + d) (b := 48) (by omega)) ?_
      refine lv_istore (lv' := [(4, .int (nI (((10 * v) + d) - 48))), (0, .ref z0), (1, .int (nI fr)), (2, .int (nI to)), (3, .int (nI 1)), (5, .int (nI j))]) hx hb dX12_token_113 hl (by decide) rfl (fun ls hl => ?_)
      refine lv_iinc (v := nI (j + 1)) (lv' := [(5, .int (nI (j + 1))), (4, .int (nI (((10 * v) + d) - 48))), (0, .ref z0), (1, .int (nI fr)), (2, .int (nI to)), (3, .int (nI 1))]) hx hb dX12_token_115 hl (k := 5) rfl (nI_add j 1) (by decide) rfl (fun ls hl => ?_)
      refine lv_goto (tgt := 87) hx hb dX12_token_118 (by decide) ?_
      have p2 : 10 ^ (j + 1 - fr) = 10 ^ (j - fr) * 10 := by rw [show j + 1 - fr = (j - fr) + 1 by omega, Nat.pow_succ]
      exact ih (j + 1) (10 * v + d - 48) (by omega) (by omega) (by omega) (by omega) _ _ hP hD hS ls (lv_sub hl [2, 3, 4, 5, 1, 0] rfl)

set_option maxHeartbeats 4000000 in
set_option maxRecDepth 100000 in
/-- token -/
theorem m_token (l : Launch) (dC : Nat → ClassId) (dI : Nat → Nat → Nat) (cB cC cI cJ cZ : ClassId) (z0 : Nat) (R : Nat → Nat) (pl : Int32) (N : Nat → Nat) (G : Nat → Nat → Nat) (B : Nat → Nat → Int32) (fr to u c5 c6 : Nat) (hG : ∀ k i, G k i < 1048576) (hps : PS N G B u c5 c6) (hft : fr < to) (hto : to ≤ 3000) (hu : to - fr ≤ u) (h14 : N 14 < 90000) (h45 : N 45 < 3001) (s0 : Nat) : Met l yX12_token vX12_token { frames := 2, cells := 0, slots := 0, locals := 48 } (va_Pc [.ref z0, .int (nI fr), .int (nI to)] (mPre dC dI cB cC cI cJ cZ z0 R pl N G B s0)) (va_Qi (fun (r : Int32) (u : ((Nat → Nat) × (Nat → Nat → Nat) × (Nat → Nat → Int32) × Int32)) => match u with | (N1, G1, B1, pl1) => pl1 = pl ∧ ∃ fi, r = nI fi ∧ fi ≤ 1 ∧ (fi = 0 → N1 = N ∧ G1 = G ∧ B1 = B) ∧ (fi = 1 → ∃ n6 L5 X4 kd v, N1 = va_up (va_up (va_up N 6 n6) 14 (N 14 + 1)) 45 (N 45 + 1) ∧ G1 = va_up (NF (va_up G 5 L5) (N 14) kd v 0) 44 (va_up (G 44) (N 45) (N 14)) ∧ B1 = va_up B 4 X4 ∧ kd ≤ 1 ∧ v < 1048576 ∧ (kd = 1 → v < n6) ∧ SYA N G B (to - fr) n6 L5 X4)) (mPost dC dI cB cC cI cJ cZ z0 R (va_A (MW cB cC cI cJ cZ z0 R pl N G B) s0)) (va_A (MW cB cC cI cJ cZ z0 R pl N G B) s0)) 0 0 (va_A (MW cB cC cI cJ cZ z0 R pl N G B) s0) := by
  refine Met.ofW (cc := cX12_token) (maxL := 6) (ret := (some .boolean)) (by decide) rfl ?_
  intro p e s m args below meth c s₁ B9 hml hv
  obtain ⟨rfl, hsz, hP, hK, hD0⟩ := hv
  have hx := B9.exec
  have hb := B9.bytes
  have hr := B9.returns
  have hts := atoms_spec (ws := vX12_token) B9.pre
  have hown : s.vm.findClass RX12 = some m.cls := findClass_of_methodNamed B9.named
  have hlocks := B9.notSynchronized
  subst hsz
  have hD := hD0.self (sz := s.heap.size)
  generalize hAe : va_A (MW cB cC cI cJ cZ z0 R pl N G B) s.heap.size = A at hD ⊢
  have hA : ∀ q : Nat, s.heap.size ≤ q → A q := fun q h => by rw [← hAe]; exact Or.inr h
  have hS : va_S A s.heap s.heap [] := va_S.rf
  have hcs : 0 + 0 ≤ (0 : Nat) ∧ 0 + 0 ≤ (0 : Nat) := ⟨Nat.le_refl 0, Nat.le_refl 0⟩
  have hl := lv_entry ([.ref z0, .int (nI fr), .int (nI to)]) (n := 6) (Nat.le_of_ble_eq_true rfl)
  rw [lg_entry_eq]
  generalize (lg_sl ([.ref z0, .int (nI fr), .int (nI to)]) ++ List.replicate (6 - (lg_sl ([.ref z0, .int (nI fr), .int (nI to)])).length) Slot.unset).toArray = ls at hl ⊢
  have hl : lv_has ls 6 [(0, .ref z0), (1, .int (nI fr)), (2, .int (nI to))] := hl
  obtain ⟨h1, h2, h3, h4, h5, h6, h7, h8⟩ := id hps
  have hm := hps.mono 7 (by omega)
  refine lv_iconst (v := nI 1) hx hb dX12_token_0 (by decide) ?_
  refine lv_istore_n (lv' := [(3, .int (nI 1)), (0, .ref z0), (1, .int (nI fr)), (2, .int (nI to))]) hx hb dX12_token_1 rfl hl (by decide) rfl (fun ls hl => ?_)
  refine lv_iconst (v := nI 0) hx hb dX12_token_2 (by decide) ?_
  refine lv_istore (lv' := [(4, .int (nI 0)), (3, .int (nI 1)), (0, .ref z0), (1, .int (nI fr)), (2, .int (nI to))]) hx hb dX12_token_3 hl (by decide) rfl (fun ls hl => ?_)
  refine lv_iload_n hx hb dX12_token_5 rfl (lv_at hl 3 rfl) ?_
  refine lv_istore (lv' := [(5, .int (nI fr)), (4, .int (nI 0)), (3, .int (nI 1)), (0, .ref z0), (1, .int (nI fr)), (2, .int (nI to))]) hx hb dX12_token_6 hl (by decide) rfl (fun ls hl => ?_)
  refine lp_tok1 hx hb hml hown hts hK hA hG hps hft hto hu h14 h45 (fun fi H locs hfi hdg hP hD hS ls hl => ?_) _ fr 1 (Nat.lt_succ_self _) (by omega) (Nat.le_refl _) (by decide) (fun _ i hi1 hi2 => absurd hi2 (by omega)) _ _ hP hD hS ls (lv_sub hl [3, 4, 5, 2, 1, 0] rfl)
  rcases (show fi = 0 ∨ fi = 1 by omega) with hz | hz
  · subst hz
    refine lv_iload_n hx hb dX12_token_54 rfl (lv_at hl 2 rfl) ?_
    refine lv_iload_n hx hb dX12_token_55 rfl (lv_at hl 1 rfl) ?_
    refine lv_isub hx hb dX12_token_56 ?_
    refine tp_i (pk_sub (a := to) (b := fr) (by omega)) ?_
    refine lv_iload_n hx hb dX12_token_57 rfl (lv_at hl 3 rfl) ?_
    refine bz_eq (tgt := 66) hx hb (by first | omega | exact Nat.lt_of_lt_of_le (hG _ _) (by decide)) dX12_token_58 (by decide) (fun c => ?_) (fun q9 => absurd q9 (by omega))
    refine lv_bipush (v := nI 12) hx hb dX12_token_66 (by decide) ?_
    refine bn_le (tgt := 84) hx hb (by first | omega | exact Nat.lt_of_lt_of_le (hG _ _) (by decide)) (by first | omega | exact Nat.lt_of_lt_of_le (hG _ _) (by decide)) dX12_token_68 (by decide) (fun c4 => ?_) (fun c4 => ?_)
    · refine lv_iload_n hx hb dX12_token_84 rfl (lv_at hl 1 rfl) ?_
      refine lv_istore (lv' := [(5, .int (nI fr)), (0, .ref z0), (1, .int (nI fr)), (2, .int (nI to)), (3, .int (nI 0)), (4, .int (nI 0))]) hx hb dX12_token_85 hl (by decide) rfl (fun ls hl => ?_)
      refine lv_iload hx hb dX12_token_87 (lv_at hl 0 rfl) ?_
      refine lv_iload_n hx hb dX12_token_89 rfl (lv_at hl 3 rfl) ?_
      refine bn_ge (tgt := 121) hx hb (by first | omega | exact Nat.lt_of_lt_of_le (hG _ _) (by decide)) (by first | omega | exact Nat.lt_of_lt_of_le (hG _ _) (by decide)) dX12_token_90 (by decide) (fun q9 => absurd q9 (by omega)) (fun c7 => ?_)
      refine lv_iload_n hx hb dX12_token_93 rfl (lv_at hl 4 rfl) ?_
      refine bz_eq (tgt := 121) hx hb (by first | omega | exact Nat.lt_of_lt_of_le (hG _ _) (by decide)) dX12_token_94 (by decide) (fun c => ?_) (fun q9 => absurd q9 (by omega))
      refine lv_aload_n hx hb dX12_token_121 rfl (lv_at hl 1 rfl) ?_
      refine mg_44 hx hb hts inX12_token hown hK hP (hts _ lkX12_token_f85) dX12_token_122 ?_
      refine lv_aload_n hx hb dX12_token_125 rfl (lv_at hl 1 rfl) ?_
      refine mg_45 hx hb hts inX12_token hown hK hP (hts _ lkX12_token_f203) dX12_token_126 ?_
      refine lv_iload_n hx hb dX12_token_129 rfl (lv_at hl 4 rfl) ?_
      refine bz_eq (tgt := 144) hx hb (by first | omega | exact Nat.lt_of_lt_of_le (hG _ _) (by decide)) dX12_token_130 (by decide) (fun c => ?_) (fun q9 => absurd q9 (by omega))
      refine lv_aload_n hx hb dX12_token_144 rfl (lv_at hl 1 rfl) ?_
      refine lv_iconst (v := nI 1) hx hb dX12_token_145 (by decide) ?_
      refine lv_aload_n hx hb dX12_token_146 rfl (lv_at hl 1 rfl) ?_
      refine lv_iload_n hx hb dX12_token_147 rfl (lv_at hl 2 rfl) ?_
      refine lv_iload_n hx hb dX12_token_148 rfl (lv_at hl 3 rfl) ?_
      refine mcl_i (As := [.int (nI fr), .int (nI to)]) (rest := [.int (nI 1), .ref z0, .int (nI (N 45)), .ref (R 44)]) ⟨hx, hb, hml, hown, hts⟩ (m_symbolAt l dC dI cB cC cI cJ cZ z0 R pl N G B fr to u c5 c6 hG hps hft hto hu H.size) (cwV 2 hts kX12_token_X12_symbolAt_210 rfl rfl rfl (by decide +kernel) ⟨Nat.le_of_ble_eq_true rfl, Nat.le_of_ble_eq_true rfl⟩) hK hP hD hS hA rfl rfl hl.1 (lv_room (Nat.le_of_ble_eq_true rfl)) dX12_token_149 hcs (fun r_5 N_1 G_2 B_3 pl_4 hw H locs hP hD hS => ?_)
      dsimp only at hw
      obtain ⟨e4, y, n6, L5, X4, hw, hyn, e1, e2, e3, hsya⟩ := hw
      rw [e1, e2, e3, e4] at hP hD
      subst hw
      refine lv_iconst (v := nI 0) hx hb dX12_token_152 (by decide) ?_
      refine mcl_i (As := [.int (nI 1), .int (nI y), .int (nI 0)]) (rest := [.int (nI (N 45)), .ref (R 44)]) ⟨hx, hb, hml, hown, hts⟩ (m_newForm l dC dI cB cC cI cJ cZ z0 R pl (va_up N 6 n6) (va_up G 5 L5) (va_up B 4 X4) 1 y 0 (by decide) h14 H.size) (cwV 3 hts kX12_token_X12_newForm_206 rfl rfl rfl (by decide +kernel) ⟨Nat.le_of_ble_eq_true rfl, Nat.le_of_ble_eq_true rfl⟩) hK hP hD hS hA rfl rfl hl.1 (lv_room (Nat.le_of_ble_eq_true rfl)) dX12_token_153 hcs (fun r_10 N_6 G_7 B_8 pl_9 hw H locs hP hD hS => ?_)
      dsimp only at hw
      obtain ⟨e1, e2, e3, e4, hw⟩ := hw
      rw [e1, e2, e3, e4] at hP hD
      have hw : r_10 = nI (N 14) := hw
      subst hw
      have hP : va_P (dC, dI) vwCl (MW cB cC cI cJ cZ z0 R pl (va_up (va_up N 6 n6) 14 (N 14 + 1)) (NF (va_up G 5 L5) (N 14) 1 y 0) (va_up B 4 X4)) H := hP
      have hD : va_D A (MW cB cC cI cJ cZ z0 R pl (va_up (va_up N 6 n6) 14 (N 14 + 1)) (NF (va_up G 5 L5) (N 14) 1 y 0) (va_up B 4 X4)) := hD
      refine ms_44 hx hb hK hP hD hS (by omega) dX12_token_156 (fun H locs hP hD hS => ?_)
      refine lv_aload_n hx hb dX12_token_157 rfl (lv_at hl 1 rfl) ?_
      refine lv_dup hx hb dX12_token_158 rfl ?_
      refine mg_45 hx hb hts inX12_token hown hK hP (hts _ lkX12_token_f203) dX12_token_159 ?_
      refine tp_i (y := nI (N 45)) rfl ?_
      refine lv_iconst (v := nI 1) hx hb dX12_token_162 (by decide) ?_
      refine lv_iadd hx hb dX12_token_163 ?_
      refine tp_i (nI_add (N 45) 1) ?_
      refine mp_45 hx hb hts inX12_token hown hK hP hD hS (hts _ lkX12_token_f203) dX12_token_164 (fun H locs hP hD hS => ?_)
      refine lv_iconst (v := nI 1) hx hb dX12_token_167 (by decide) ?_
      have hP : va_P (dC, dI) vwCl (MW cB cC cI cJ cZ z0 R pl (va_up (va_up (va_up N 6 n6) 14 (N 14 + 1)) 45 (N 45 + 1)) (va_up (NF (va_up G 5 L5) (N 14) 1 y 0) 44 (va_up (G 44) (N 45) (N 14))) (va_up B 4 X4)) H := hP
      have hD : va_D A (MW cB cC cI cJ cZ z0 R pl (va_up (va_up (va_up N 6 n6) 14 (N 14 + 1)) 45 (N 45 + 1)) (va_up (NF (va_up G 5 L5) (N 14) 1 y 0) 44 (va_up (G 44) (N 45) (N 14))) (va_up B 4 X4)) := hD
      exact W.zret (v := (nI 1)) hx hb hr (by first | rfl | decide) (fun t ht hW => ⟨⟨(nI 1), (va_up (va_up (va_up N 6 n6) 14 (N 14 + 1)) 45 (N 45 + 1), va_up (NF (va_up G 5 L5) (N 14) 1 y 0) 44 (va_up (G 44) (N 45) (N 14)), va_up B 4 X4, pl), rfl, ⟨rfl, 1, rfl, by decide, fun z => absurd z (by decide), fun _ => ⟨n6, L5, X4, 1, y, rfl, rfl, rfl, by decide, by have := hsya.1; omega, fun _ => hyn, hsya⟩⟩, by rw [ht]; exact hP, va_K.moved hW.alike hK, hD⟩, hS.F ht⟩) hS.2.2 dX12_token_168
    · refine lv_aload_n hx hb dX12_token_71 rfl (lv_at hl 0 rfl) ?_
      refine lv_bipush (v := nI 6) hx hb dX12_token_72 (by decide) ?_
      refine lv_iload_n hx hb dX12_token_74 rfl (lv_at hl 1 rfl) ?_
      refine lv_iload_n hx hb dX12_token_75 rfl (lv_at hl 2 rfl) ?_
      refine mcl_i (As := [.int (nI 6), .int (nI fr), .int (nI to)]) (rest := []) ⟨hx, hb, hml, hown, hts⟩ (m_isSymbol l dC dI cB cC cI cJ cZ z0 R pl N G B 6 fr to hG (by decide) (Nat.le_of_lt h7) (show G 5 7 ≤ 40000 by omega) (by omega) hto H.size) (cwV 3 hts kX12_token_X12_isSymbol_199 rfl rfl rfl (by decide +kernel) ⟨Nat.le_of_ble_eq_true rfl, Nat.le_of_ble_eq_true rfl⟩) hK hP hD hS hA rfl rfl hl.1 (lv_room (Nat.le_of_ble_eq_true rfl)) dX12_token_76 hcs (fun r_15 N_11 G_12 B_13 pl_14 hw H locs hP hD hS => ?_)
      dsimp only at hw
      obtain ⟨e1, e2, e3, e4, f2, hw, hf2, hsy⟩ := hw
      rw [e1, e2, e3, e4] at hP hD
      subst hw
      refine bz_ne (tgt := 84) hx hb (by first | omega | exact Nat.lt_of_lt_of_le (hG _ _) (by decide)) dX12_token_79 (by decide) (fun cs => ?_) (fun cs => ?_)
      · refine lv_iload_n hx hb dX12_token_84 rfl (lv_at hl 1 rfl) ?_
        refine lv_istore (lv' := [(5, .int (nI fr)), (0, .ref z0), (1, .int (nI fr)), (2, .int (nI to)), (3, .int (nI 0)), (4, .int (nI 0))]) hx hb dX12_token_85 hl (by decide) rfl (fun ls hl => ?_)
        refine lv_iload hx hb dX12_token_87 (lv_at hl 0 rfl) ?_
        refine lv_iload_n hx hb dX12_token_89 rfl (lv_at hl 3 rfl) ?_
        refine bn_ge (tgt := 121) hx hb (by first | omega | exact Nat.lt_of_lt_of_le (hG _ _) (by decide)) (by first | omega | exact Nat.lt_of_lt_of_le (hG _ _) (by decide)) dX12_token_90 (by decide) (fun q9 => absurd q9 (by omega)) (fun c7 => ?_)
        refine lv_iload_n hx hb dX12_token_93 rfl (lv_at hl 4 rfl) ?_
        refine bz_eq (tgt := 121) hx hb (by first | omega | exact Nat.lt_of_lt_of_le (hG _ _) (by decide)) dX12_token_94 (by decide) (fun c => ?_) (fun q9 => absurd q9 (by omega))
        refine lv_aload_n hx hb dX12_token_121 rfl (lv_at hl 1 rfl) ?_
        refine mg_44 hx hb hts inX12_token hown hK hP (hts _ lkX12_token_f85) dX12_token_122 ?_
        refine lv_aload_n hx hb dX12_token_125 rfl (lv_at hl 1 rfl) ?_
        refine mg_45 hx hb hts inX12_token hown hK hP (hts _ lkX12_token_f203) dX12_token_126 ?_
        refine lv_iload_n hx hb dX12_token_129 rfl (lv_at hl 4 rfl) ?_
        refine bz_eq (tgt := 144) hx hb (by first | omega | exact Nat.lt_of_lt_of_le (hG _ _) (by decide)) dX12_token_130 (by decide) (fun c => ?_) (fun q9 => absurd q9 (by omega))
        refine lv_aload_n hx hb dX12_token_144 rfl (lv_at hl 1 rfl) ?_
        refine lv_iconst (v := nI 1) hx hb dX12_token_145 (by decide) ?_
        refine lv_aload_n hx hb dX12_token_146 rfl (lv_at hl 1 rfl) ?_
        refine lv_iload_n hx hb dX12_token_147 rfl (lv_at hl 2 rfl) ?_
        refine lv_iload_n hx hb dX12_token_148 rfl (lv_at hl 3 rfl) ?_
        refine mcl_i (As := [.int (nI fr), .int (nI to)]) (rest := [.int (nI 1), .ref z0, .int (nI (N 45)), .ref (R 44)]) ⟨hx, hb, hml, hown, hts⟩ (m_symbolAt l dC dI cB cC cI cJ cZ z0 R pl N G B fr to u c5 c6 hG hps hft hto hu H.size) (cwV 2 hts kX12_token_X12_symbolAt_210 rfl rfl rfl (by decide +kernel) ⟨Nat.le_of_ble_eq_true rfl, Nat.le_of_ble_eq_true rfl⟩) hK hP hD hS hA rfl rfl hl.1 (lv_room (Nat.le_of_ble_eq_true rfl)) dX12_token_149 hcs (fun r_20 N_16 G_17 B_18 pl_19 hw H locs hP hD hS => ?_)
        dsimp only at hw
        obtain ⟨e4, y, n6, L5, X4, hw, hyn, e1, e2, e3, hsya⟩ := hw
        rw [e1, e2, e3, e4] at hP hD
        subst hw
        refine lv_iconst (v := nI 0) hx hb dX12_token_152 (by decide) ?_
        refine mcl_i (As := [.int (nI 1), .int (nI y), .int (nI 0)]) (rest := [.int (nI (N 45)), .ref (R 44)]) ⟨hx, hb, hml, hown, hts⟩ (m_newForm l dC dI cB cC cI cJ cZ z0 R pl (va_up N 6 n6) (va_up G 5 L5) (va_up B 4 X4) 1 y 0 (by decide) h14 H.size) (cwV 3 hts kX12_token_X12_newForm_206 rfl rfl rfl (by decide +kernel) ⟨Nat.le_of_ble_eq_true rfl, Nat.le_of_ble_eq_true rfl⟩) hK hP hD hS hA rfl rfl hl.1 (lv_room (Nat.le_of_ble_eq_true rfl)) dX12_token_153 hcs (fun r_25 N_21 G_22 B_23 pl_24 hw H locs hP hD hS => ?_)
        dsimp only at hw
        obtain ⟨e1, e2, e3, e4, hw⟩ := hw
        rw [e1, e2, e3, e4] at hP hD
        have hw : r_25 = nI (N 14) := hw
        subst hw
        have hP : va_P (dC, dI) vwCl (MW cB cC cI cJ cZ z0 R pl (va_up (va_up N 6 n6) 14 (N 14 + 1)) (NF (va_up G 5 L5) (N 14) 1 y 0) (va_up B 4 X4)) H := hP
        have hD : va_D A (MW cB cC cI cJ cZ z0 R pl (va_up (va_up N 6 n6) 14 (N 14 + 1)) (NF (va_up G 5 L5) (N 14) 1 y 0) (va_up B 4 X4)) := hD
        refine ms_44 hx hb hK hP hD hS (by omega) dX12_token_156 (fun H locs hP hD hS => ?_)
        refine lv_aload_n hx hb dX12_token_157 rfl (lv_at hl 1 rfl) ?_
        refine lv_dup hx hb dX12_token_158 rfl ?_
        refine mg_45 hx hb hts inX12_token hown hK hP (hts _ lkX12_token_f203) dX12_token_159 ?_
        refine tp_i (y := nI (N 45)) rfl ?_
        refine lv_iconst (v := nI 1) hx hb dX12_token_162 (by decide) ?_
        refine lv_iadd hx hb dX12_token_163 ?_
        refine tp_i (nI_add (N 45) 1) ?_
        refine mp_45 hx hb hts inX12_token hown hK hP hD hS (hts _ lkX12_token_f203) dX12_token_164 (fun H locs hP hD hS => ?_)
        refine lv_iconst (v := nI 1) hx hb dX12_token_167 (by decide) ?_
        have hP : va_P (dC, dI) vwCl (MW cB cC cI cJ cZ z0 R pl (va_up (va_up (va_up N 6 n6) 14 (N 14 + 1)) 45 (N 45 + 1)) (va_up (NF (va_up G 5 L5) (N 14) 1 y 0) 44 (va_up (G 44) (N 45) (N 14))) (va_up B 4 X4)) H := hP
        have hD : va_D A (MW cB cC cI cJ cZ z0 R pl (va_up (va_up (va_up N 6 n6) 14 (N 14 + 1)) 45 (N 45 + 1)) (va_up (NF (va_up G 5 L5) (N 14) 1 y 0) 44 (va_up (G 44) (N 45) (N 14))) (va_up B 4 X4)) := hD
        exact W.zret (v := (nI 1)) hx hb hr (by first | rfl | decide) (fun t ht hW => ⟨⟨(nI 1), (va_up (va_up (va_up N 6 n6) 14 (N 14 + 1)) 45 (N 45 + 1), va_up (NF (va_up G 5 L5) (N 14) 1 y 0) 44 (va_up (G 44) (N 45) (N 14)), va_up B 4 X4, pl), rfl, ⟨rfl, 1, rfl, by decide, fun z => absurd z (by decide), fun _ => ⟨n6, L5, X4, 1, y, rfl, rfl, rfl, by decide, by have := hsya.1; omega, fun _ => hyn, hsya⟩⟩, by rw [ht]; exact hP, va_K.moved hW.alike hK, hD⟩, hS.F ht⟩) hS.2.2 dX12_token_168
      · refine lv_iconst (v := nI 0) hx hb dX12_token_82 (by decide) ?_
        exact W.zret (v := (nI 0)) hx hb hr (by first | rfl | decide) (fun t ht hW => ⟨⟨(nI 0), (N, G, B, pl), rfl, ⟨rfl, 0, rfl, by decide, fun _ => ⟨rfl, rfl, rfl⟩, fun z => absurd z (by decide)⟩, by rw [ht]; exact hP, va_K.moved hW.alike hK, hD⟩, hS.F ht⟩) hS.2.2 dX12_token_83
  · subst hz
    have hdg := hdg rfl
    refine lv_iload_n hx hb dX12_token_54 rfl (lv_at hl 2 rfl) ?_
    refine lv_iload_n hx hb dX12_token_55 rfl (lv_at hl 1 rfl) ?_
    refine lv_isub hx hb dX12_token_56 ?_
    refine tp_i (pk_sub (a := to) (b := fr) (by omega)) ?_
    refine lv_iload_n hx hb dX12_token_57 rfl (lv_at hl 3 rfl) ?_
    refine bz_eq (tgt := 66) hx hb (by first | omega | exact Nat.lt_of_lt_of_le (hG _ _) (by decide)) dX12_token_58 (by decide) (fun q9 => absurd q9 (by omega)) (fun c => ?_)
    refine lv_bipush (v := nI 6) hx hb dX12_token_61 (by decide) ?_
    refine lv_goto (tgt := 68) hx hb dX12_token_63 (by decide) ?_
    refine bn_le (tgt := 84) hx hb (by first | omega | exact Nat.lt_of_lt_of_le (hG _ _) (by decide)) (by first | omega | exact Nat.lt_of_lt_of_le (hG _ _) (by decide)) dX12_token_68 (by decide) (fun c4 => ?_) (fun c4 => ?_)
    · refine lv_iload_n hx hb dX12_token_84 rfl (lv_at hl 1 rfl) ?_
      refine lv_istore (lv' := [(5, .int (nI fr)), (0, .ref z0), (1, .int (nI fr)), (2, .int (nI to)), (3, .int (nI 1)), (4, .int (nI 0))]) hx hb dX12_token_85 hl (by decide) rfl (fun ls hl => ?_)
      refine lp_tok2 hx hb hml hown hts hK hA hG hps hft hto hu h14 h45 c4 hdg (fun v H locs hv hP hD hS ls hl => ?_) _ fr 0 (Nat.lt_succ_self _) (by omega) (Nat.le_refl _) (Nat.pow_pos (by decide)) _ _ hP hD hS ls (lv_sub hl [1, 2, 3, 4, 5, 0] rfl)
      refine lv_aload_n hx hb dX12_token_121 rfl (lv_at hl 0 rfl) ?_
      refine mg_44 hx hb hts inX12_token hown hK hP (hts _ lkX12_token_f85) dX12_token_122 ?_
      refine lv_aload_n hx hb dX12_token_125 rfl (lv_at hl 0 rfl) ?_
      refine mg_45 hx hb hts inX12_token hown hK hP (hts _ lkX12_token_f203) dX12_token_126 ?_
      refine lv_iload_n hx hb dX12_token_129 rfl (lv_at hl 3 rfl) ?_
      refine bz_eq (tgt := 144) hx hb (by first | omega | exact Nat.lt_of_lt_of_le (hG _ _) (by decide)) dX12_token_130 (by decide) (fun q9 => absurd q9 (by omega)) (fun c => ?_)
      refine lv_aload_n hx hb dX12_token_133 rfl (lv_at hl 0 rfl) ?_
      refine lv_iconst (v := nI 0) hx hb dX12_token_134 (by decide) ?_
      refine lv_iload hx hb dX12_token_135 (lv_at hl 4 rfl) ?_
      refine lv_iconst (v := nI 0) hx hb dX12_token_137 (by decide) ?_
      have en : va_up N 6 (N 6) = N := va_upid N 6
      have eg : va_up G 5 (G 5) = G := va_upid G 5
      have eb : va_up B 4 (B 4) = B := va_upid B 4
      have hP : va_P (dC, dI) vwCl (MW cB cC cI cJ cZ z0 R pl (va_up N 6 (N 6)) (va_up G 5 (G 5)) (va_up B 4 (B 4))) H := by rw [en, eg, eb]; exact hP
      have hD : va_D A (MW cB cC cI cJ cZ z0 R pl (va_up N 6 (N 6)) (va_up G 5 (G 5)) (va_up B 4 (B 4))) := by rw [en, eg, eb]; exact hD
      refine mcl_i (As := [.int (nI 0), .int (nI v), .int (nI 0)]) (rest := [.int (nI (N 45)), .ref (R 44)]) ⟨hx, hb, hml, hown, hts⟩ (m_newForm l dC dI cB cC cI cJ cZ z0 R pl (va_up N 6 (N 6)) (va_up G 5 (G 5)) (va_up B 4 (B 4)) 0 v 0 (by decide) h14 H.size) (cwV 3 hts kX12_token_X12_newForm_206 rfl rfl rfl (by decide +kernel) ⟨Nat.le_of_ble_eq_true rfl, Nat.le_of_ble_eq_true rfl⟩) hK hP hD hS hA rfl rfl hl.1 (lv_room (Nat.le_of_ble_eq_true rfl)) dX12_token_138 hcs (fun r_30 N_26 G_27 B_28 pl_29 hw H locs hP hD hS => ?_)
      dsimp only at hw
      obtain ⟨e1, e2, e3, e4, hw⟩ := hw
      rw [e1, e2, e3, e4] at hP hD
      have hw : r_30 = nI (N 14) := hw
      subst hw
      have hP : va_P (dC, dI) vwCl (MW cB cC cI cJ cZ z0 R pl (va_up (va_up N 6 (N 6)) 14 (N 14 + 1)) (NF (va_up G 5 (G 5)) (N 14) 0 v 0) (va_up B 4 (B 4))) H := hP
      have hD : va_D A (MW cB cC cI cJ cZ z0 R pl (va_up (va_up N 6 (N 6)) 14 (N 14 + 1)) (NF (va_up G 5 (G 5)) (N 14) 0 v 0) (va_up B 4 (B 4))) := hD
      refine lv_goto (tgt := 156) hx hb dX12_token_141 (by decide) ?_
      refine ms_44 hx hb hK hP hD hS (by omega) dX12_token_156 (fun H locs hP hD hS => ?_)
      refine lv_aload_n hx hb dX12_token_157 rfl (lv_at hl 0 rfl) ?_
      refine lv_dup hx hb dX12_token_158 rfl ?_
      refine mg_45 hx hb hts inX12_token hown hK hP (hts _ lkX12_token_f203) dX12_token_159 ?_
      refine tp_i (y := nI (N 45)) rfl ?_
      refine lv_iconst (v := nI 1) hx hb dX12_token_162 (by decide) ?_
      refine lv_iadd hx hb dX12_token_163 ?_
      refine tp_i (nI_add (N 45) 1) ?_
      refine mp_45 hx hb hts inX12_token hown hK hP hD hS (hts _ lkX12_token_f203) dX12_token_164 (fun H locs hP hD hS => ?_)
      refine lv_iconst (v := nI 1) hx hb dX12_token_167 (by decide) ?_
      have hP : va_P (dC, dI) vwCl (MW cB cC cI cJ cZ z0 R pl (va_up (va_up (va_up N 6 (N 6)) 14 (N 14 + 1)) 45 (N 45 + 1)) (va_up (NF (va_up G 5 (G 5)) (N 14) 0 v 0) 44 (va_up (G 44) (N 45) (N 14))) (va_up B 4 (B 4))) H := hP
      have hD : va_D A (MW cB cC cI cJ cZ z0 R pl (va_up (va_up (va_up N 6 (N 6)) 14 (N 14 + 1)) 45 (N 45 + 1)) (va_up (NF (va_up G 5 (G 5)) (N 14) 0 v 0) 44 (va_up (G 44) (N 45) (N 14))) (va_up B 4 (B 4))) := hD
      exact W.zret (v := (nI 1)) hx hb hr (by first | rfl | decide) (fun t ht hW => ⟨⟨(nI 1), (va_up (va_up (va_up N 6 (N 6)) 14 (N 14 + 1)) 45 (N 45 + 1), va_up (NF (va_up G 5 (G 5)) (N 14) 0 v 0) 44 (va_up (G 44) (N 45) (N 14)), va_up B 4 (B 4), pl), rfl, ⟨rfl, 1, rfl, by decide, fun z => absurd z (by decide), fun _ => ⟨N 6, G 5, B 4, 0, v, rfl, rfl, rfl, by decide, hv, fun z => absurd z (by decide), Or.inl rfl, hG 5, fun _ _ => rfl, fun z => absurd z (by omega), fun _ _ => rfl⟩⟩, by rw [ht]; exact hP, va_K.moved hW.alike hK, hD⟩, hS.F ht⟩) hS.2.2 dX12_token_168
    · refine lv_aload_n hx hb dX12_token_71 rfl (lv_at hl 0 rfl) ?_
      refine lv_bipush (v := nI 6) hx hb dX12_token_72 (by decide) ?_
      refine lv_iload_n hx hb dX12_token_74 rfl (lv_at hl 1 rfl) ?_
      refine lv_iload_n hx hb dX12_token_75 rfl (lv_at hl 2 rfl) ?_
      refine mcl_i (As := [.int (nI 6), .int (nI fr), .int (nI to)]) (rest := []) ⟨hx, hb, hml, hown, hts⟩ (m_isSymbol l dC dI cB cC cI cJ cZ z0 R pl N G B 6 fr to hG (by decide) (Nat.le_of_lt h7) (show G 5 7 ≤ 40000 by omega) (by omega) hto H.size) (cwV 3 hts kX12_token_X12_isSymbol_199 rfl rfl rfl (by decide +kernel) ⟨Nat.le_of_ble_eq_true rfl, Nat.le_of_ble_eq_true rfl⟩) hK hP hD hS hA rfl rfl hl.1 (lv_room (Nat.le_of_ble_eq_true rfl)) dX12_token_76 hcs (fun r_35 N_31 G_32 B_33 pl_34 hw H locs hP hD hS => ?_)
      dsimp only at hw
      obtain ⟨e1, e2, e3, e4, f2, hw, hf2, hsy⟩ := hw
      rw [e1, e2, e3, e4] at hP hD
      subst hw
      refine bz_ne (tgt := 84) hx hb (by first | omega | exact Nat.lt_of_lt_of_le (hG _ _) (by decide)) dX12_token_79 (by decide) (fun cs => ?_) (fun cs => ?_)
      · have z1 := (hsy (by omega)).2 hft
        rw [h8] at z1
        have z2 := (hdg fr (Nat.le_refl _) hft).2
        rw [← z1] at z2
        exact absurd z2 dig100
      · refine lv_iconst (v := nI 0) hx hb dX12_token_82 (by decide) ?_
        exact W.zret (v := (nI 0)) hx hb hr (by first | rfl | decide) (fun t ht hW => ⟨⟨(nI 0), (N, G, B, pl), rfl, ⟨rfl, 0, rfl, by decide, fun _ => ⟨rfl, rfl, rfl⟩, fun z => absurd z (by decide)⟩, by rw [ht]; exact hP, va_K.moved hW.alike hK, hD⟩, hS.F ht⟩) hS.2.2 dX12_token_83
