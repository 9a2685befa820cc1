def oX12_isSymbol : List Cond := [Cond.fieldLink RX12 18 "MacroScopesModel" "letters" "[B", Cond.fieldLink RX12 21 "MacroScopesModel" "letterFrom" "[I", Cond.fieldLink RX12 7 "MacroScopesModel" "text" "[B"]
def vX12_isSymbol : List Cond := .code yX12_isSymbol cX12_isSymbol 6 (some .boolean) :: (oX12_isSymbol ++ (wsX120))
theorem lkX12_isSymbol_f18 : Cond.fieldLink RX12 18 "MacroScopesModel" "letters" "[B" ∈ vX12_isSymbol := List.mem_cons_of_mem _ (List.mem_append_left _ (List.mem_of_getElem? (i := 0) rfl))
theorem lkX12_isSymbol_f21 : Cond.fieldLink RX12 21 "MacroScopesModel" "letterFrom" "[I" ∈ vX12_isSymbol := List.mem_cons_of_mem _ (List.mem_append_left _ (List.mem_of_getElem? (i := 1) rfl))
theorem lkX12_isSymbol_f7 : Cond.fieldLink RX12 7 "MacroScopesModel" "text" "[B" ∈ vX12_isSymbol := List.mem_cons_of_mem _ (List.mem_append_left _ (List.mem_of_getElem? (i := 2) rfl))
theorem inX12_isSymbol : ∀ w ∈ wsX120, w ∈ vX12_isSymbol := fun w h => List.mem_cons_of_mem _ (List.mem_append_right _ (h))
def oX12_symbolAt : List Cond := [Cond.fieldLink RX12 165 "MacroScopesModel" "symbols" "I", Cond.methodLink RX12 199 yX12_isSymbol, Cond.instanceMethod yX12_isSymbol, Cond.selects RX12 yX12_isSymbol yX12_isSymbol, Cond.initialized RX12, Cond.fieldLink RX12 18 "MacroScopesModel" "letters" "[B", Cond.fieldLink RX12 21 "MacroScopesModel" "letterFrom" "[I", Cond.fieldLink RX12 7 "MacroScopesModel" "text" "[B"]
def vX12_symbolAt : List Cond := .code yX12_symbolAt cX12_symbolAt 4 (some .int) :: (oX12_symbolAt ++ (vX12_isSymbol ++ (wsX120)))
theorem lkX12_symbolAt_f165 : Cond.fieldLink RX12 165 "MacroScopesModel" "symbols" "I" ∈ vX12_symbolAt := List.mem_cons_of_mem _ (List.mem_append_left _ (List.mem_of_getElem? (i := 0) rfl))
theorem lkX12_symbolAt_f18 : Cond.fieldLink RX12 18 "MacroScopesModel" "letters" "[B" ∈ vX12_symbolAt := List.mem_cons_of_mem _ (List.mem_append_left _ (List.mem_of_getElem? (i := 5) rfl))
theorem lkX12_symbolAt_f21 : Cond.fieldLink RX12 21 "MacroScopesModel" "letterFrom" "[I" ∈ vX12_symbolAt := List.mem_cons_of_mem _ (List.mem_append_left _ (List.mem_of_getElem? (i := 6) rfl))
theorem lkX12_symbolAt_f7 : Cond.fieldLink RX12 7 "MacroScopesModel" "text" "[B" ∈ vX12_symbolAt := List.mem_cons_of_mem _ (List.mem_append_left _ (List.mem_of_getElem? (i := 7) rfl))
theorem inX12_symbolAt : ∀ w ∈ wsX120, w ∈ vX12_symbolAt := fun w h => List.mem_cons_of_mem _ (List.mem_append_right _ (List.mem_append_right _ (h)))
theorem kX12_symbolAt_X12_isSymbol_199 : GoodIn vX12_symbolAt (wsV RX12 199 RX12 yX12_isSymbol vX12_isSymbol) := goodIn_sub (fun w h => (List.mem_append.mp h).elim (fun h => List.mem_cons_of_mem _ (List.mem_append_left _ ((by decide +kernel : ∀ w ∈ ([.methodLink RX12 199 yX12_isSymbol, .instanceMethod yX12_isSymbol, .selects RX12 yX12_isSymbol yX12_isSymbol, .initialized RX12] : List Cond), w ∈ oX12_symbolAt) w h))) (fun h => List.mem_cons_of_mem _ (List.mem_append_right _ (List.mem_append_left _ (h))))) (by decide +kernel)
def oX12_endList : List Cond := [Cond.fieldLink RX12 203 "MacroScopesModel" "waits" "I", Cond.fieldLink RX12 41 "MacroScopesModel" "parts" "[I", Cond.fieldLink RX12 220 "MacroScopesModel" "partCount" "I", Cond.fieldLink RX12 85 "MacroScopesModel" "waiting" "[I", Cond.methodLink RX12 206 yX12_newForm, Cond.instanceMethod yX12_newForm, Cond.selects RX12 yX12_newForm yX12_newForm, Cond.initialized RX12]
def vX12_endList : List Cond := .code yX12_endList cX12_endList 4 none :: (oX12_endList ++ (vX12_newForm ++ (wsX120)))
theorem lkX12_endList_f203 : Cond.fieldLink RX12 203 "MacroScopesModel" "waits" "I" ∈ vX12_endList := List.mem_cons_of_mem _ (List.mem_append_left _ (List.mem_of_getElem? (i := 0) rfl))
theorem lkX12_endList_f41 : Cond.fieldLink RX12 41 "MacroScopesModel" "parts" "[I" ∈ vX12_endList := List.mem_cons_of_mem _ (List.mem_append_left _ (List.mem_of_getElem? (i := 1) rfl))
theorem lkX12_endList_f220 : Cond.fieldLink RX12 220 "MacroScopesModel" "partCount" "I" ∈ vX12_endList := List.mem_cons_of_mem _ (List.mem_append_left _ (List.mem_of_getElem? (i := 2) rfl))
theorem lkX12_endList_f85 : Cond.fieldLink RX12 85 "MacroScopesModel" "waiting" "[I" ∈ vX12_endList := List.mem_cons_of_mem _ (List.mem_append_left _ (List.mem_of_getElem? (i := 3) rfl))
theorem inX12_endList : ∀ w ∈ wsX120, w ∈ vX12_endList := fun w h => List.mem_cons_of_mem _ (List.mem_append_right _ (List.mem_append_right _ (h)))
theorem kX12_endList_X12_newForm_206 : GoodIn vX12_endList (wsV RX12 206 RX12 yX12_newForm vX12_newForm) := goodIn_sub (fun w h => (List.mem_append.mp h).elim (fun h => List.mem_cons_of_mem _ (List.mem_append_left _ ((by decide +kernel : ∀ w ∈ ([.methodLink RX12 206 yX12_newForm, .instanceMethod yX12_newForm, .selects RX12 yX12_newForm yX12_newForm, .initialized RX12] : List Cond), w ∈ oX12_endList) w h))) (fun h => List.mem_cons_of_mem _ (List.mem_append_right _ (List.mem_append_left _ (h))))) (by decide +kernel)
set_option maxHeartbeats 4000000 in
set_option maxRecDepth 100000 in
theorem lp_isSym {p : Program} {l : Launch} {e : Env} {s : State} {m : MethodId} {args : Array Value} {below : List Frame} {meth : Method} {c : Code} {Q : State → Prop} {A : Nat → Prop} {dC : Nat → ClassId} {dI : Nat → Nat → Nat} {cB cC cI cJ cZ : ClassId} {z0 : Nat} {R : Nat → Nat} (hx : p.tables.exec = Jvm.exec) (hb : c.code = cX12_isSymbol) (hml : c.maxLocals = 6) (hown : s.vm.findClass RX12 = some m.cls) (hts : ∀ w ∈ vX12_isSymbol, w.before args s = true) (hK : va_K (dC, dI) vwCl (TY cB cC cI cJ cZ) s) (hA : ∀ q : Nat, s.heap.size ≤ q → A q) {pl : Int32} {N : Nat → Nat} {G : Nat → Nat → Nat} {B : Nat → Nat → Int32} {y fr to : Nat} (hG : ∀ k i, G k i < 1048576) (hy : y < 5000) (hy1 : G 5 y ≤ G 5 (y + 1)) (hy2 : G 5 (y + 1) ≤ 40000) (hft : fr ≤ to) (hto : to ≤ 3000) (ke : ∀ (fi : Nat) (H : Heap) (locs : List Loc), fi ≤ 1 → (fi = 1 → G 5 (y + 1) - G 5 y = to - fr ∧ (fr < to → B 4 (G 5 y) = B 1 fr)) → va_P (dC, dI) vwCl (MW cB cC cI cJ cZ z0 R pl N G B) H → va_D A (MW cB cC cI cJ cZ z0 R pl N G B) → va_S A s.heap H locs → ∀ (ls : Array Slot), lv_has ls 6 [(4, .int (nI fi))] → W p l e (headSpec vX12_isSymbol { frames := 0, cells := 0, slots := 0, locals := 0 }).room s m args below meth c H locs 0 0 Q (F0 m 83 ls [])) : ∀ (k : Nat) (j fi : Nat), to - fr - j < k → j ≤ to - fr → fi ≤ 1 → (fi = 1 → G 5 (y + 1) - G 5 y = to - fr ∧ (0 < j → B 4 (G 5 y) = B 1 fr)) → ∀ (H : Heap) (locs : List Loc), va_P (dC, dI) vwCl (MW cB cC cI cJ cZ z0 R pl N G B) H → va_D A (MW cB cC cI cJ cZ z0 R pl N G B) → va_S A s.heap H locs → ∀ (ls : Array Slot), lv_has ls 6 [(0, .ref z0), (1, .int (nI y)), (2, .int (nI fr)), (3, .int (nI to)), (4, .int (nI fi)), (5, .int (nI j))] → W p l e (headSpec vX12_isSymbol { frames := 0, cells := 0, slots := 0, locals := 0 }).room s m args below meth c H locs 0 0 Q (F0 m 31 ls []) := by
  have hcs : 0 + 0 ≤ (0 : Nat) ∧ 0 + 0 ≤ (0 : Nat) := ⟨Nat.le_refl 0, Nat.le_refl 0⟩
  intro k
  induction k with
  | zero =>
    intro j fi hk hj hfi hiv
    omega
  | succ k ih =>
    intro j fi hk hj hfi hiv H locs hP hD hS ls hl
    refine lv_iload hx hb dX12_isSymbol_31 (lv_at hl 5 rfl) ?_
    refine lv_iload_n hx hb dX12_isSymbol_33 rfl (lv_at hl 3 rfl) ?_
    refine lv_iload_n hx hb dX12_isSymbol_34 rfl (lv_at hl 2 rfl) ?_
    refine lv_isub hx hb dX12_isSymbol_35 ?_
    refine tp_i (pk_sub (a := to) (b := fr) (by omega)) ?_
    refine bn_ge (tgt := 83) hx hb (by first | omega | exact Nat.lt_of_lt_of_le (hG _ _) (by decide)) (by first | omega | exact Nat.lt_of_lt_of_le (hG _ _) (by decide)) dX12_isSymbol_36 (by decide) (fun c1 => ?_) (fun c1 => ?_)
    · exact ke fi H locs hfi (fun z => ⟨(hiv z).1, fun y9 => (hiv z).2 (by omega)⟩) hP hD hS ls (lv_sub hl [4] rfl)
    · refine lv_iload hx hb dX12_isSymbol_39 (lv_at hl 4 rfl) ?_
      refine bz_eq (tgt := 83) hx hb (by first | omega | exact Nat.lt_of_lt_of_le (hG _ _) (by decide)) dX12_isSymbol_41 (by decide) (fun c2 => ?_) (fun c2 => ?_)
      · exact ke fi H locs hfi (fun z => absurd z (by omega)) hP hD hS ls (lv_sub hl [4] rfl)
      · have hv := hiv (by omega)
        have hv1 := hv.1
        refine lv_aload_n hx hb dX12_isSymbol_44 rfl (lv_at hl 0 rfl) ?_
        refine mg_4 hx hb hts inX12_isSymbol hown hK hP (hts _ lkX12_isSymbol_f18) dX12_isSymbol_45 ?_
        refine lv_aload_n hx hb dX12_isSymbol_48 rfl (lv_at hl 0 rfl) ?_
        refine mg_5 hx hb hts inX12_isSymbol hown hK hP (hts _ lkX12_isSymbol_f21) dX12_isSymbol_49 ?_
        refine lv_iload_n hx hb dX12_isSymbol_52 rfl (lv_at hl 1 rfl) ?_
        refine ml_5 hx hb hK hP (by omega) dX12_isSymbol_53 ?_
        refine lv_iload hx hb dX12_isSymbol_54 (lv_at hl 5 rfl) ?_
        refine lv_iadd hx hb dX12_isSymbol_56 ?_
        refine tp_i (nI_add (G 5 y) j) ?_
        refine ml_4 hx hb hK hP (by omega) dX12_isSymbol_57 ?_
        refine lv_aload_n hx hb dX12_isSymbol_58 rfl (lv_at hl 0 rfl) ?_
        refine mg_1 hx hb hts inX12_isSymbol hown hK hP (hts _ lkX12_isSymbol_f7) dX12_isSymbol_59 ?_
        refine lv_iload_n hx hb dX12_isSymbol_62 rfl (lv_at hl 2 rfl) ?_
        refine lv_iload hx hb dX12_isSymbol_63 (lv_at hl 5 rfl) ?_
        refine lv_iadd hx hb dX12_isSymbol_65 ?_
        refine tp_i (nI_add fr j) ?_
        refine ml_1 hx hb hK hP (by omega) dX12_isSymbol_66 ?_
        refine lv_icmp_ne (tgt := 74) hx hb dX12_isSymbol_67 (by decide) (fun c3 => ?_) (fun c3 => ?_)
        · refine lv_iconst (v := nI 0) hx hb dX12_isSymbol_74 (by decide) ?_
          refine lv_istore (lv' := [(4, .int (nI 0)), (0, .ref z0), (1, .int (nI y)), (2, .int (nI fr)), (3, .int (nI to)), (5, .int (nI j))]) hx hb dX12_isSymbol_75 hl (by decide) rfl (fun ls hl => ?_)
          refine lv_iinc (v := nI (j + 1)) (lv' := [(5, .int (nI (j + 1))), (4, .int (nI 0)), (0, .ref z0), (1, .int (nI y)), (2, .int (nI fr)), (3, .int (nI to))]) hx hb dX12_isSymbol_77 hl (k := 5) rfl (nI_add j 1) (by decide) rfl (fun ls hl => ?_)
          refine lv_goto (tgt := 31) hx hb dX12_isSymbol_80 (by decide) ?_
          exact ih (j + 1) 0 (by omega) (by omega) (by decide) (fun z => absurd z (by decide)) _ _ hP hD hS ls (lv_sub hl [2, 3, 4, 5, 1, 0] rfl)
        · refine lv_iconst (v := nI 1) hx hb dX12_isSymbol_70 (by decide) ?_
          refine lv_goto (tgt := 75) hx hb dX12_isSymbol_71 (by decide) ?_
          refine lv_istore (lv' := [(4, .int (nI 1)), (0, .ref z0), (1, .int (nI y)), (2, .int (nI fr)), (3, .int (nI to)), (5, .int (nI j))]) hx hb dX12_isSymbol_75 hl (by decide) rfl (fun ls hl => ?_)
          refine lv_iinc (v := nI (j + 1)) (lv' := [(5, .int (nI (j + 1))), (4, .int (nI 1)), (0, .ref z0), (1, .int (nI y)), (2, .int (nI fr)), (3, .int (nI to))]) hx hb dX12_isSymbol_77 hl (k := 5) rfl (nI_add j 1) (by decide) rfl (fun ls hl => ?_)
          refine lv_goto (tgt := 31) hx hb dX12_isSymbol_80 (by decide) ?_
          refine ih (j + 1) 1 (by omega) (by omega) (by decide) (fun _ => ⟨hv1, fun _ => ?_⟩) _ _ hP hD hS ls (lv_sub hl [2, 3, 4, 5, 1, 0] rfl)
          by_cases z : 0 < j
          · exact hv.2 z
          · have z0 : j = 0 := by omega
            subst z0; exact c3

set_option maxHeartbeats 4000000 in
set_option maxRecDepth 100000 in
/-- isSymbol -/
theorem m_isSymbol (l : Launch) (dC : Nat → ClassId) (dI : Nat → Nat → Nat) (cB cC cI cJ cZ : ClassId) (z0 : Nat) (R : Nat → Nat) (pl : Int32) (N : Nat → Nat) (G : Nat → Nat → Nat) (B : Nat → Nat → Int32) (y fr to : Nat) (hG : ∀ k i, G k i < 1048576) (hy : y < 5000) (hy1 : G 5 y ≤ G 5 (y + 1)) (hy2 : G 5 (y + 1) ≤ 40000) (hft : fr ≤ to) (hto : to ≤ 3000) (s0 : Nat) : Met l yX12_isSymbol vX12_isSymbol { frames := 0, cells := 0, slots := 0, locals := 0 } (va_Pc [.ref z0, .int (nI y), .int (nI fr), .int (nI to)] (mPre dC dI cB cC cI cJ cZ z0 R pl N G B s0)) (va_Qi (fun (r : Int32) (u : ((Nat → Nat) × (Nat → Nat → Nat) × (Nat → Nat → Int32) × Int32)) => match u with | (N1, G1, B1, pl1) => N1 = N ∧ G1 = G ∧ B1 = B ∧ pl1 = pl ∧ ∃ fi, r = nI fi ∧ fi ≤ 1 ∧ (fi = 1 → G 5 (y + 1) - G 5 y = to - fr ∧ (fr < to → B 4 (G 5 y) = B 1 fr))) (mPost dC dI cB cC cI cJ cZ z0 R (va_A (MW cB cC cI cJ cZ z0 R pl N G B) s0)) (va_A (MW cB cC cI cJ cZ z0 R pl N G B) s0)) 0 0 (va_A (MW cB cC cI cJ cZ z0 R pl N G B) s0) := by
  refine Met.ofW (cc := cX12_isSymbol) (maxL := 6) (ret := (some .boolean)) (by decide) rfl ?_
  intro p e s m args below meth c s₁ B9 hml hv
  obtain ⟨rfl, hsz, hP, hK, hD0⟩ := hv
  have hx := B9.exec
  have hb := B9.bytes
  have hr := B9.returns
  have hts := atoms_spec (ws := vX12_isSymbol) B9.pre
  have hown : s.vm.findClass RX12 = some m.cls := findClass_of_methodNamed B9.named
  have hlocks := B9.notSynchronized
  subst hsz
  have hD := hD0.self (sz := s.heap.size)
  generalize hAe : va_A (MW cB cC cI cJ cZ z0 R pl N G B) s.heap.size = A at hD ⊢
  have hA : ∀ q : Nat, s.heap.size ≤ q → A q := fun q h => by rw [← hAe]; exact Or.inr h
  have hS : va_S A s.heap s.heap [] := va_S.rf
  have hcs : 0 + 0 ≤ (0 : Nat) ∧ 0 + 0 ≤ (0 : Nat) := ⟨Nat.le_refl 0, Nat.le_refl 0⟩
  have hl := lv_entry ([.ref z0, .int (nI y), .int (nI fr), .int (nI to)]) (n := 6) (Nat.le_of_ble_eq_true rfl)
  rw [lg_entry_eq]
  generalize (lg_sl ([.ref z0, .int (nI y), .int (nI fr), .int (nI to)]) ++ List.replicate (6 - (lg_sl ([.ref z0, .int (nI y), .int (nI fr), .int (nI to)])).length) Slot.unset).toArray = ls at hl ⊢
  have hl : lv_has ls 6 [(0, .ref z0), (1, .int (nI y)), (2, .int (nI fr)), (3, .int (nI to))] := hl
  have g1 := hG 5 y
  have g2 := hG 5 (y + 1)
  refine lv_aload_n hx hb dX12_isSymbol_0 rfl (lv_at hl 0 rfl) ?_
  refine mg_5 hx hb hts inX12_isSymbol hown hK hP (hts _ lkX12_isSymbol_f21) dX12_isSymbol_1 ?_
  refine lv_iload_n hx hb dX12_isSymbol_4 rfl (lv_at hl 1 rfl) ?_
  refine lv_iconst (v := nI 1) hx hb dX12_isSymbol_5 (by decide) ?_
  refine lv_iadd hx hb dX12_isSymbol_6 ?_
  refine tp_i (nI_add y 1) ?_
  refine ml_5 hx hb hK hP (by omega) dX12_isSymbol_7 ?_
  refine lv_aload_n hx hb dX12_isSymbol_8 rfl (lv_at hl 0 rfl) ?_
  refine mg_5 hx hb hts inX12_isSymbol hown hK hP (hts _ lkX12_isSymbol_f21) dX12_isSymbol_9 ?_
  refine lv_iload_n hx hb dX12_isSymbol_12 rfl (lv_at hl 1 rfl) ?_
  refine ml_5 hx hb hK hP (by omega) dX12_isSymbol_13 ?_
  refine lv_isub hx hb dX12_isSymbol_14 ?_
  refine tp_i (pk_sub (a := G 5 (y + 1)) (b := G 5 y) (by omega)) ?_
  refine lv_iload_n hx hb dX12_isSymbol_15 rfl (lv_at hl 3 rfl) ?_
  refine lv_iload_n hx hb dX12_isSymbol_16 rfl (lv_at hl 2 rfl) ?_
  refine lv_isub hx hb dX12_isSymbol_17 ?_
  refine tp_i (pk_sub (a := to) (b := fr) (by omega)) ?_
  refine bn_ne (tgt := 25) hx hb (by first | omega | exact Nat.lt_of_lt_of_le (hG _ _) (by decide)) (by first | omega | exact Nat.lt_of_lt_of_le (hG _ _) (by decide)) dX12_isSymbol_18 (by decide) (fun c1 => ?_) (fun c1 => ?_)
  · refine lv_iconst (v := nI 0) hx hb dX12_isSymbol_25 (by decide) ?_
    refine lv_istore (lv' := [(4, .int (nI 0)), (0, .ref z0), (1, .int (nI y)), (2, .int (nI fr)), (3, .int (nI to))]) hx hb dX12_isSymbol_26 hl (by decide) rfl (fun ls hl => ?_)
    refine lv_iconst (v := nI 0) hx hb dX12_isSymbol_28 (by decide) ?_
    refine lv_istore (lv' := [(5, .int (nI 0)), (4, .int (nI 0)), (0, .ref z0), (1, .int (nI y)), (2, .int (nI fr)), (3, .int (nI to))]) hx hb dX12_isSymbol_29 hl (by decide) rfl (fun ls hl => ?_)
    refine lp_isSym hx hb hml hown hts hK hA hG hy hy1 hy2 hft hto (fun fi H locs hfi hiv hP hD hS ls hl => ?_) _ 0 0 (Nat.lt_succ_self _) (Nat.zero_le _) (by decide) (fun z => absurd z (by decide)) _ _ hP hD hS ls (lv_sub hl [2, 3, 4, 5, 1, 0] rfl)
    refine lv_iload hx hb dX12_isSymbol_83 (lv_at hl 0 rfl) ?_
    have hz1 : narrow .boolean (.int (nI fi)) = .int (nI fi) := by rcases (show fi = 0 ∨ fi = 1 by omega) with h | h <;> rw [h] <;> rfl
    exact W.zret (v := (nI fi)) hx hb hr hz1 (fun t ht hW => ⟨⟨(nI fi), (N, G, B, pl), rfl, ⟨rfl, rfl, rfl, rfl, ⟨fi, rfl, hfi, hiv⟩⟩, by rw [ht]; exact hP, va_K.moved hW.alike hK, hD⟩, hS.F ht⟩) hS.2.2 dX12_isSymbol_85
  · refine lv_iconst (v := nI 1) hx hb dX12_isSymbol_21 (by decide) ?_
    refine lv_goto (tgt := 26) hx hb dX12_isSymbol_22 (by decide) ?_
    refine lv_istore (lv' := [(4, .int (nI 1)), (0, .ref z0), (1, .int (nI y)), (2, .int (nI fr)), (3, .int (nI to))]) hx hb dX12_isSymbol_26 hl (by decide) rfl (fun ls hl => ?_)
    refine lv_iconst (v := nI 0) hx hb dX12_isSymbol_28 (by decide) ?_
    refine lv_istore (lv' := [(5, .int (nI 0)), (4, .int (nI 1)), (0, .ref z0), (1, .int (nI y)), (2, .int (nI fr)), (3, .int (nI to))]) hx hb dX12_isSymbol_29 hl (by decide) rfl (fun ls hl => ?_)
    refine lp_isSym hx hb hml hown hts hK hA hG hy hy1 hy2 hft hto (fun fi H locs hfi hiv hP hD hS ls hl => ?_) _ 0 1 (Nat.lt_succ_self _) (Nat.zero_le _) (by decide) (fun _ => ⟨c1, fun z => absurd z (by decide)⟩) _ _ hP hD hS ls (lv_sub hl [2, 3, 4, 5, 1, 0] rfl)
    refine lv_iload hx hb dX12_isSymbol_83 (lv_at hl 0 rfl) ?_
    have hz1 : narrow .boolean (.int (nI fi)) = .int (nI fi) := by rcases (show fi = 0 ∨ fi = 1 by omega) with h | h <;> rw [h] <;> rfl
    exact W.zret (v := (nI fi)) hx hb hr hz1 (fun t ht hW => ⟨⟨(nI fi), (N, G, B, pl), rfl, ⟨rfl, rfl, rfl, rfl, ⟨fi, rfl, hfi, hiv⟩⟩, by rw [ht]; exact hP, va_K.moved hW.alike hK, hD⟩, hS.F ht⟩) hS.2.2 dX12_isSymbol_85

set_option maxHeartbeats 4000000 in
set_option maxRecDepth 100000 in
theorem lp_symA {p : Program} {l : Launch} {e : Env} {s : State} {m : MethodId} {args : Array Value} {below : List Frame} {meth : Method} {c : Code} {Q : State → Prop} {A : Nat → Prop} {dC : Nat → ClassId} {dI : Nat → Nat → Nat} {cB cC cI cJ cZ : ClassId} {z0 : Nat} {R : Nat → Nat} (hx : p.tables.exec = Jvm.exec) (hb : c.code = cX12_symbolAt) (hml : c.maxLocals = 4) (hown : s.vm.findClass RX12 = some m.cls) (hts : ∀ w ∈ vX12_symbolAt, w.before args s = true) (hK : va_K (dC, dI) vwCl (TY cB cC cI cJ cZ) s) (hA : ∀ q : Nat, s.heap.size ≤ q → A q) {pl : Int32} {N : Nat → Nat} {G : Nat → Nat → Nat} {B : Nat → Nat → Int32} {fr to u c5 c6 : Nat} (hG : ∀ k i, G k i < 1048576) (hps : PS N G B u c5 c6) (hft : fr < to) (hto : to ≤ 3000) (hu : to - fr ≤ u) (ke : ∀  (H : Heap) (locs : List Loc), va_P (dC, dI) vwCl (MW cB cC cI cJ cZ z0 R pl N G B) H → va_D A (MW cB cC cI cJ cZ z0 R pl N G B) → va_S A s.heap H locs → ∀ (ls : Array Slot), lv_has ls 4 [(0, .ref z0), (1, .int (nI fr)), (2, .int (nI to))] → W p l e (headSpec vX12_symbolAt { frames := 1, cells := 0, slots := 0, locals := 25 }).room s m args below meth c H locs 0 0 Q (F0 m 28 ls [])) (kf : ∀ (s9 : Nat) (H : Heap) (locs : List Loc), s9 < N 6 → va_P (dC, dI) vwCl (MW cB cC cI cJ cZ z0 R pl N G B) H → va_D A (MW cB cC cI cJ cZ z0 R pl N G B) → va_S A s.heap H locs → ∀ (ls : Array Slot), lv_has ls 4 [(3, .int (nI s9))] → W p l e (headSpec vX12_symbolAt { frames := 1, cells := 0, slots := 0, locals := 25 }).room s m args below meth c H locs 0 0 Q (F0 m 20 ls [])) : ∀ (k : Nat) (s9 : Nat), N 6 - s9 < k → s9 ≤ 5000 → ∀ (H : Heap) (locs : List Loc), va_P (dC, dI) vwCl (MW cB cC cI cJ cZ z0 R pl N G B) H → va_D A (MW cB cC cI cJ cZ z0 R pl N G B) → va_S A s.heap H locs → ∀ (ls : Array Slot), lv_has ls 4 [(0, .ref z0), (1, .int (nI fr)), (2, .int (nI to)), (3, .int (nI s9))] → W p l e (headSpec vX12_symbolAt { frames := 1, cells := 0, slots := 0, locals := 25 }).room s m args below meth c H locs 0 0 Q (F0 m 2 ls []) := by
  have hcs : 0 + 0 ≤ (0 : Nat) ∧ 0 + 0 ≤ (0 : Nat) := ⟨Nat.le_refl 0, Nat.le_refl 0⟩
  intro k
  induction k with
  | zero =>
    intro s9 hk hs
    omega
  | succ k ih =>
    intro s9 hk hs H locs hP hD hS ls hl
    obtain ⟨h1, h2, h3, h4, h5, h6, h7, h8⟩ := id hps
    have hm := hps.mono
    refine lv_iload_n hx hb dX12_symbolAt_2 rfl (lv_at hl 3 rfl) ?_
    refine lv_aload_n hx hb dX12_symbolAt_3 rfl (lv_at hl 0 rfl) ?_
    refine mg_6 hx hb hts inX12_symbolAt hown hK hP (hts _ lkX12_symbolAt_f165) dX12_symbolAt_4 ?_
    refine bn_ge (tgt := 28) hx hb (by first | omega | exact Nat.lt_of_lt_of_le (hG _ _) (by decide)) (by first | omega | exact Nat.lt_of_lt_of_le (hG _ _) (by decide)) dX12_symbolAt_7 (by decide) (fun c1 => ?_) (fun c1 => ?_)
    · exact ke H locs hP hD hS ls (lv_sub hl [0, 1, 2] rfl)
    · have hm1 := hm (s9 + 1) (by omega)
      refine lv_aload_n hx hb dX12_symbolAt_10 rfl (lv_at hl 0 rfl) ?_
      refine lv_iload_n hx hb dX12_symbolAt_11 rfl (lv_at hl 3 rfl) ?_
      refine lv_iload_n hx hb dX12_symbolAt_12 rfl (lv_at hl 1 rfl) ?_
      refine lv_iload_n hx hb dX12_symbolAt_13 rfl (lv_at hl 2 rfl) ?_
      refine mcl_i (As := [.int (nI s9), .int (nI fr), .int (nI to)]) (rest := []) ⟨hx, hb, hml, hown, hts⟩ (m_isSymbol l dC dI cB cC cI cJ cZ z0 R pl N G B s9 fr to hG (by omega) (h6 s9 c1) (by omega) (by omega) hto H.size) (cwV 3 hts kX12_symbolAt_X12_isSymbol_199 rfl rfl rfl (by decide +kernel) ⟨Nat.le_of_ble_eq_true rfl, Nat.le_of_ble_eq_true rfl⟩) hK hP hD hS hA rfl rfl hl.1 (lv_room (Nat.le_of_ble_eq_true rfl)) dX12_symbolAt_14 hcs (fun r_5 N_1 G_2 B_3 pl_4 hw H locs hP hD hS => ?_)
      dsimp only at hw
      obtain ⟨e1, e2, e3, e4, fi, hw, hfi, -⟩ := hw
      rw [e1, e2, e3, e4] at hP hD
      subst hw
      refine bz_eq (tgt := 22) hx hb (by first | omega | exact Nat.lt_of_lt_of_le (hG _ _) (by decide)) dX12_symbolAt_17 (by decide) (fun c2 => ?_) (fun c2 => ?_)
      · refine lv_iinc (v := nI (s9 + 1)) (lv' := [(3, .int (nI (s9 + 1))), (0, .ref z0), (1, .int (nI fr)), (2, .int (nI to))]) hx hb dX12_symbolAt_22 hl (k := 3) rfl (nI_add s9 1) (by decide) rfl (fun ls hl => ?_)
        refine lv_goto (tgt := 2) hx hb dX12_symbolAt_25 (by decide) ?_
        exact ih (s9 + 1) (by omega) (by omega) _ _ hP hD hS ls (lv_sub hl [1, 2, 3, 0] rfl)
      · exact kf s9 H locs c1 hP hD hS ls (lv_sub hl [3] rfl)

set_option maxHeartbeats 4000000 in
set_option maxRecDepth 100000 in
theorem lp_symB {p : Program} {l : Launch} {e : Env} {s : State} {m : MethodId} {args : Array Value} {below : List Frame} {meth : Method} {c : Code} {Q : State → Prop} {A : Nat → Prop} {dC : Nat → ClassId} {dI : Nat → Nat → Nat} {cB cC cI cJ cZ : ClassId} {z0 : Nat} {R : Nat → Nat} (hx : p.tables.exec = Jvm.exec) (hb : c.code = cX12_symbolAt) (hml : c.maxLocals = 4) (hown : s.vm.findClass RX12 = some m.cls) (hts : ∀ w ∈ vX12_symbolAt, w.before args s = true) (hK : va_K (dC, dI) vwCl (TY cB cC cI cJ cZ) s) (hA : ∀ q : Nat, s.heap.size ≤ q → A q) {pl : Int32} {N : Nat → Nat} {G : Nat → Nat → Nat} {B : Nat → Nat → Int32} {fr to u c5 c6 : Nat} (hG : ∀ k i, G k i < 1048576) (hps : PS N G B u c5 c6) (hft : fr < to) (hto : to ≤ 3000) (hu : to - fr ≤ u) (ke : ∀ (X : Nat → Int32) (H : Heap) (locs : List Loc), (∀ i, i < G 5 (N 6) → X i = B 4 i) → va_P (dC, dI) vwCl (MW cB cC cI cJ cZ z0 R pl (va_up N 6 (N 6 + 1)) (va_up G 5 (va_up (G 5) (N 6 + 1) (G 5 (N 6) + (to - fr)))) (va_up B 4 X)) H → va_D A (MW cB cC cI cJ cZ z0 R pl (va_up N 6 (N 6 + 1)) (va_up G 5 (va_up (G 5) (N 6 + 1) (G 5 (N 6) + (to - fr)))) (va_up B 4 X)) → va_S A s.heap H locs → ∀ (ls : Array Slot), lv_has ls 4 [(0, .ref z0)] → W p l e (headSpec vX12_symbolAt { frames := 1, cells := 0, slots := 0, locals := 25 }).room s m args below meth c H locs 0 0 Q (F0 m 104 ls [])) : ∀ (k : Nat) (j : Nat) (X : Nat → Int32), to - j < k → j ≤ to → fr ≤ j → (∀ i, i < G 5 (N 6) → X i = B 4 i) → ∀ (H : Heap) (locs : List Loc), va_P (dC, dI) vwCl (MW cB cC cI cJ cZ z0 R pl (va_up N 6 (N 6 + 1)) (va_up G 5 (va_up (G 5) (N 6 + 1) (G 5 (N 6) + (j - fr)))) (va_up B 4 X)) H → va_D A (MW cB cC cI cJ cZ z0 R pl (va_up N 6 (N 6 + 1)) (va_up G 5 (va_up (G 5) (N 6 + 1) (G 5 (N 6) + (j - fr)))) (va_up B 4 X)) → va_S A s.heap H locs → ∀ (ls : Array Slot), lv_has ls 4 [(0, .ref z0), (1, .int (nI fr)), (2, .int (nI to)), (3, .int (nI j))] → W p l e (headSpec vX12_symbolAt { frames := 1, cells := 0, slots := 0, locals := 25 }).room s m args below meth c H locs 0 0 Q (F0 m 60 ls []) := by
  have hcs : 0 + 0 ≤ (0 : Nat) ∧ 0 + 0 ≤ (0 : Nat) := ⟨Nat.le_refl 0, Nat.le_refl 0⟩
  intro k
  induction k with
  | zero =>
    intro j X hk hj hj2 hX
    omega
  | succ k ih =>
    intro j X hk hj hj2 hX H locs hP hD hS ls hl
    obtain ⟨h1, h2, h3, h4, h5, h6, h7, h8⟩ := id hps
    refine lv_iload_n hx hb dX12_symbolAt_60 rfl (lv_at hl 3 rfl) ?_
    refine lv_iload_n hx hb dX12_symbolAt_61 rfl (lv_at hl 2 rfl) ?_
    refine bn_ge (tgt := 104) hx hb (by first | omega | exact Nat.lt_of_lt_of_le (hG _ _) (by decide)) (by first | omega | exact Nat.lt_of_lt_of_le (hG _ _) (by decide)) dX12_symbolAt_62 (by decide) (fun c1 => ?_) (fun c1 => ?_)
    · have ej : j = to := by omega
      subst ej
      exact ke X H locs hX hP hD hS ls (lv_sub hl [0] rfl)
    · refine lv_aload_n hx hb dX12_symbolAt_65 rfl (lv_at hl 0 rfl) ?_
      refine mg_4 hx hb hts inX12_symbolAt hown hK hP (hts _ lkX12_symbolAt_f18) dX12_symbolAt_66 ?_
      refine lv_aload_n hx hb dX12_symbolAt_69 rfl (lv_at hl 0 rfl) ?_
      refine mg_5 hx hb hts inX12_symbolAt hown hK hP (hts _ lkX12_symbolAt_f21) dX12_symbolAt_70 ?_
      refine lv_aload_n hx hb dX12_symbolAt_73 rfl (lv_at hl 0 rfl) ?_
      refine mg_6 hx hb hts inX12_symbolAt hown hK hP (hts _ lkX12_symbolAt_f165) dX12_symbolAt_74 ?_
      refine tp_i (y := nI (N 6 + 1)) rfl ?_
      refine ml_5 hx hb hK hP (by omega) dX12_symbolAt_77 ?_
      refine tp_i (y := nI ((va_up (G 5) (N 6 + 1) (G 5 (N 6) + (j - fr))) (N 6 + 1))) rfl ?_
      refine tp_i (y := nI (G 5 (N 6) + (j - fr))) (by rw [va_up_self]) ?_
      refine lv_aload_n hx hb dX12_symbolAt_78 rfl (lv_at hl 0 rfl) ?_
      refine mg_1 hx hb hts inX12_symbolAt hown hK hP (hts _ lkX12_symbolAt_f7) dX12_symbolAt_79 ?_
      refine lv_iload_n hx hb dX12_symbolAt_82 rfl (lv_at hl 3 rfl) ?_
      refine ml_1 hx hb hK hP (by omega) dX12_symbolAt_83 ?_
      refine ms_4 hx hb hK hP hD hS (by omega) dX12_symbolAt_84 (fun H locs hP hD hS => ?_)
      rw [bx_uu] at hP hD
      obtain ⟨X2, hX2⟩ : ∃ X2, X2 = upd (va_up B 4 X 4) (G 5 (N 6) + (j - fr)) (vp_nar .byte (va_up B 4 X 1 j)) := ⟨_, rfl⟩
      rw [← hX2] at hP hD
      have hX3 : ∀ i, i < G 5 (N 6) → X2 i = B 4 i := fun i hi => by rw [hX2, pk_un (by omega)]; exact hX i hi
      refine lv_aload_n hx hb dX12_symbolAt_85 rfl (lv_at hl 0 rfl) ?_
      refine mg_5 hx hb hts inX12_symbolAt hown hK hP (hts _ lkX12_symbolAt_f21) dX12_symbolAt_86 ?_
      refine lv_aload_n hx hb dX12_symbolAt_89 rfl (lv_at hl 0 rfl) ?_
      refine mg_6 hx hb hts inX12_symbolAt hown hK hP (hts _ lkX12_symbolAt_f165) dX12_symbolAt_90 ?_
      refine tp_i (y := nI (N 6 + 1)) rfl ?_
      refine lv_dup2_11 hx hb dX12_symbolAt_93 rfl rfl ?_
      refine ml_5 hx hb hK hP (by omega) dX12_symbolAt_94 ?_
      refine tp_i (y := nI ((va_up (G 5) (N 6 + 1) (G 5 (N 6) + (j - fr))) (N 6 + 1))) rfl ?_
      refine tp_i (y := nI (G 5 (N 6) + (j - fr))) (by rw [va_up_self]) ?_
      refine lv_iconst (v := nI 1) hx hb dX12_symbolAt_95 (by decide) ?_
      refine lv_iadd hx hb dX12_symbolAt_96 ?_
      refine tp_i (nI_add (G 5 (N 6) + (j - fr)) 1) ?_
      refine ms_5 hx hb hK hP hD hS (by omega) dX12_symbolAt_97 (fun H locs hP hD hS => ?_)
      rw [bx_uu] at hP hD
      rw [va_up_self, bx_uu] at hP hD
      have ej : (G 5 (N 6) + (j - fr)) + 1 = G 5 (N 6) + (j + 1 - fr) := by omega
      rw [ej] at hP hD
      have hP : va_P (dC, dI) vwCl (MW cB cC cI cJ cZ z0 R pl (va_up N 6 (N 6 + 1)) (va_up G 5 (va_up (G 5) (N 6 + 1) (G 5 (N 6) + (j + 1 - fr)))) (va_up B 4 X2)) H := hP
      have hD : va_D A (MW cB cC cI cJ cZ z0 R pl (va_up N 6 (N 6 + 1)) (va_up G 5 (va_up (G 5) (N 6 + 1) (G 5 (N 6) + (j + 1 - fr)))) (va_up B 4 X2)) := hD
      refine lv_iinc (v := nI (j + 1)) (lv' := [(3, .int (nI (j + 1))), (0, .ref z0), (1, .int (nI fr)), (2, .int (nI to))]) hx hb dX12_symbolAt_98 hl (k := 3) rfl (nI_add j 1) (by decide) rfl (fun ls hl => ?_)
      refine lv_goto (tgt := 60) hx hb dX12_symbolAt_101 (by decide) ?_
      exact ih (j + 1) X2 (by omega) (by omega) (by omega) hX3 _ _ hP hD hS ls (lv_sub hl [1, 2, 3, 0] rfl)

set_option maxHeartbeats 4000000 in
set_option maxRecDepth 100000 in
/-- symbolAt -/
theorem m_symbolAt (l : Launch) (dC : Nat → ClassId) (dI : Nat → Nat → Nat) (cB cC cI cJ cZ : ClassId) (z0 : Nat) (R : Nat → Nat) (pl : Int32) (N : Nat → Nat) (G : Nat → Nat → Nat) (B : Nat → Nat → Int32) (fr to u c5 c6 : Nat) (hG : ∀ k i, G k i < 1048576) (hps : PS N G B u c5 c6) (hft : fr < to) (hto : to ≤ 3000) (hu : to - fr ≤ u) (s0 : Nat) : Met l yX12_symbolAt vX12_symbolAt { frames := 1, cells := 0, slots := 0, locals := 25 } (va_Pc [.ref z0, .int (nI fr), .int (nI to)] (mPre dC dI cB cC cI cJ cZ z0 R pl N G B s0)) (va_Qi (fun (r : Int32) (u : ((Nat → Nat) × (Nat → Nat → Nat) × (Nat → Nat → Int32) × Int32)) => match u with | (N1, G1, B1, pl1) => pl1 = pl ∧ ∃ y n6 L5 X4, r = nI y ∧ y < n6 ∧ N1 = va_up N 6 n6 ∧ G1 = va_up G 5 L5 ∧ B1 = va_up B 4 X4 ∧ SYA N G B (to - fr) n6 L5 X4) (mPost dC dI cB cC cI cJ cZ z0 R (va_A (MW cB cC cI cJ cZ z0 R pl N G B) s0)) (va_A (MW cB cC cI cJ cZ z0 R pl N G B) s0)) 0 0 (va_A (MW cB cC cI cJ cZ z0 R pl N G B) s0) := by
  refine Met.ofW (cc := cX12_symbolAt) (maxL := 4) (ret := (some .int)) (by decide) rfl ?_
  intro p e s m args below meth c s₁ B9 hml hv
  obtain ⟨rfl, hsz, hP, hK, hD0⟩ := hv
  have hx := B9.exec
  have hb := B9.bytes
  have hr := B9.returns
  have hts := atoms_spec (ws := vX12_symbolAt) B9.pre
  have hown : s.vm.findClass RX12 = some m.cls := findClass_of_methodNamed B9.named
  have hlocks := B9.notSynchronized
  subst hsz
  have hD := hD0.self (sz := s.heap.size)
  generalize hAe : va_A (MW cB cC cI cJ cZ z0 R pl N G B) s.heap.size = A at hD ⊢
  have hA : ∀ q : Nat, s.heap.size ≤ q → A q := fun q h => by rw [← hAe]; exact Or.inr h
  have hS : va_S A s.heap s.heap [] := va_S.rf
  have hcs : 0 + 0 ≤ (0 : Nat) ∧ 0 + 0 ≤ (0 : Nat) := ⟨Nat.le_refl 0, Nat.le_refl 0⟩
  have hl := lv_entry ([.ref z0, .int (nI fr), .int (nI to)]) (n := 4) (Nat.le_of_ble_eq_true rfl)
  rw [lg_entry_eq]
  generalize (lg_sl ([.ref z0, .int (nI fr), .int (nI to)]) ++ List.replicate (4 - (lg_sl ([.ref z0, .int (nI fr), .int (nI to)])).length) Slot.unset).toArray = ls at hl ⊢
  have hl : lv_has ls 4 [(0, .ref z0), (1, .int (nI fr)), (2, .int (nI to))] := hl
  obtain ⟨h1, h2, h3, h4, h5, h6, h7, h8⟩ := id hps
  refine lv_iconst (v := nI 0) hx hb dX12_symbolAt_0 (by decide) ?_
  refine lv_istore_n (lv' := [(3, .int (nI 0)), (0, .ref z0), (1, .int (nI fr)), (2, .int (nI to))]) hx hb dX12_symbolAt_1 rfl hl (by decide) rfl (fun ls hl => ?_)
  refine lp_symA hx hb hml hown hts hK hA hG hps hft hto hu (fun H locs hP hD hS ls hl => ?_) (fun s9 H locs hs9 hP hD hS ls hl => ?_) _ 0 (Nat.lt_succ_self _) (by decide) _ _ hP hD hS ls (lv_sub hl [1, 2, 3, 0] rfl)
  · refine lv_aload_n hx hb dX12_symbolAt_28 rfl (lv_at hl 0 rfl) ?_
    refine mg_5 hx hb hts inX12_symbolAt hown hK hP (hts _ lkX12_symbolAt_f21) dX12_symbolAt_29 ?_
    refine lv_aload_n hx hb dX12_symbolAt_32 rfl (lv_at hl 0 rfl) ?_
    refine mg_6 hx hb hts inX12_symbolAt hown hK hP (hts _ lkX12_symbolAt_f165) dX12_symbolAt_33 ?_
    refine lv_iconst (v := nI 1) hx hb dX12_symbolAt_36 (by decide) ?_
    refine lv_iadd hx hb dX12_symbolAt_37 ?_
    refine tp_i (nI_add (N 6) 1) ?_
    refine lv_aload_n hx hb dX12_symbolAt_38 rfl (lv_at hl 0 rfl) ?_
    refine mg_5 hx hb hts inX12_symbolAt hown hK hP (hts _ lkX12_symbolAt_f21) dX12_symbolAt_39 ?_
    refine lv_aload_n hx hb dX12_symbolAt_42 rfl (lv_at hl 0 rfl) ?_
    refine mg_6 hx hb hts inX12_symbolAt hown hK hP (hts _ lkX12_symbolAt_f165) dX12_symbolAt_43 ?_
    refine ml_5 hx hb hK hP (by omega) dX12_symbolAt_46 ?_
    refine ms_5 hx hb hK hP hD hS (by omega) dX12_symbolAt_47 (fun H locs hP hD hS => ?_)
    refine lv_aload_n hx hb dX12_symbolAt_48 rfl (lv_at hl 0 rfl) ?_
    refine lv_dup hx hb dX12_symbolAt_49 rfl ?_
    refine mg_6 hx hb hts inX12_symbolAt hown hK hP (hts _ lkX12_symbolAt_f165) dX12_symbolAt_50 ?_
    refine lv_iconst (v := nI 1) hx hb dX12_symbolAt_53 (by decide) ?_
    refine lv_iadd hx hb dX12_symbolAt_54 ?_
    refine tp_i (nI_add (N 6) 1) ?_
    refine mp_6 hx hb hts inX12_symbolAt hown hK hP hD hS (hts _ lkX12_symbolAt_f165) dX12_symbolAt_55 (fun H locs hP hD hS => ?_)
    refine lv_iload_n hx hb dX12_symbolAt_58 rfl (lv_at hl 1 rfl) ?_
    refine lv_istore_n (lv' := [(3, .int (nI fr)), (0, .ref z0), (1, .int (nI fr)), (2, .int (nI to))]) hx hb dX12_symbolAt_59 rfl hl (by decide) rfl (fun ls hl => ?_)
    have e0 : G 5 (N 6) = G 5 (N 6) + (fr - fr) := by omega
    have hP : va_P (dC, dI) vwCl (MW cB cC cI cJ cZ z0 R pl (va_up N 6 (N 6 + 1)) (va_up G 5 (va_up (G 5) (N 6 + 1) (G 5 (N 6) + (fr - fr)))) (va_up B 4 (B 4))) H := by rw [va_upid, ← e0]; exact hP
    have hD : va_D A (MW cB cC cI cJ cZ z0 R pl (va_up N 6 (N 6 + 1)) (va_up G 5 (va_up (G 5) (N 6 + 1) (G 5 (N 6) + (fr - fr)))) (va_up B 4 (B 4))) := by rw [va_upid, ← e0]; exact hD
    refine lp_symB hx hb hml hown hts hK hA hG hps hft hto hu (fun X H locs hX hP hD hS ls hl => ?_) _ fr (B 4) (Nat.lt_succ_self _) (by omega) (Nat.le_refl _) (fun _ _ => rfl) _ _ hP hD hS ls (lv_sub hl [1, 2, 3, 0] rfl)
    refine lv_aload_n hx hb dX12_symbolAt_104 rfl (lv_at hl 0 rfl) ?_
    refine mg_6 hx hb hts inX12_symbolAt hown hK hP (hts _ lkX12_symbolAt_f165) dX12_symbolAt_105 ?_
    refine tp_i (y := nI (N 6 + 1)) rfl ?_
    refine lv_iconst (v := nI 1) hx hb dX12_symbolAt_108 (by decide) ?_
    refine lv_isub hx hb dX12_symbolAt_109 ?_
    refine tp_i (pk_sub (a := N 6 + 1) (b := 1) (by omega)) ?_
    exact W.iret (v := (nI ((N 6 + 1) - 1))) hx hb hr (fun t ht hW => ⟨⟨(nI ((N 6 + 1) - 1)), (va_up N 6 (N 6 + 1), va_up G 5 (va_up (G 5) (N 6 + 1) (G 5 (N 6) + (to - fr))), va_up B 4 X, pl), rfl, ⟨rfl, N 6, N 6 + 1, va_up (G 5) (N 6 + 1) (G 5 (N 6) + (to - fr)), X, by congr 1, Nat.lt_succ_self _, rfl, rfl, rfl, Or.inr rfl, hIup (hG 5) (by omega), fun s hs => va_up_ne _ _ (by omega), fun _ => va_up_self _ _ _, hX⟩, by rw [ht]; exact hP, va_K.moved hW.alike hK, hD⟩, hS.F ht⟩) hS.2.2 dX12_symbolAt_110
  · refine lv_iload_n hx hb dX12_symbolAt_20 rfl (lv_at hl 0 rfl) ?_
    exact W.iret (v := (nI s9)) hx hb hr (fun t ht hW => ⟨⟨(nI s9), (N, G, B, pl), rfl, ⟨rfl, s9, N 6, G 5, B 4, rfl, hs9, (va_upid _ _).symm, (va_upid _ _).symm, (va_upid _ _).symm, Or.inl rfl, hG 5, fun _ _ => rfl, fun z => absurd z (by omega), fun _ _ => rfl⟩, by rw [ht]; exact hP, va_K.moved hW.alike hK, hD⟩, hS.F ht⟩) hS.2.2 dX12_symbolAt_21

set_option maxHeartbeats 4000000 in
set_option maxRecDepth 100000 in
theorem lp_endL {p : Program} {l : Launch} {e : Env} {s : State} {m : MethodId} {args : Array Value} {below : List Frame} {meth : Method} {c : Code} {Q : State → Prop} {A : Nat → Prop} {dC : Nat → ClassId} {dI : Nat → Nat → Nat} {cB cC cI cJ cZ : ClassId} {z0 : Nat} {R : Nat → Nat} (hx : p.tables.exec = Jvm.exec) (hb : c.code = cX12_endList) (hml : c.maxLocals = 4) (hown : s.vm.findClass RX12 = some m.cls) (hts : ∀ w ∈ vX12_endList, w.before args s = true) (hK : va_K (dC, dI) vwCl (TY cB cC cI cJ cZ) s) (hA : ∀ q : Nat, s.heap.size ≤ q → A q) {pl : Int32} {N : Nat → Nat} {G : Nat → Nat → Nat} {B : Nat → Nat → Int32} {fr : Nat} (hG : ∀ k i, G k i < 1048576) (hfr : fr ≤ N 45) (h45 : N 45 ≤ 3000) (h14 : N 14 < 90000) (h15 : N 15 + N 45 < 90000) (ke : ∀ (P13 : Nat → Nat) (H : Heap) (locs : List Loc), (∀ i, P13 i < 1048576) → (∀ j, j < N 15 → P13 j = G 13 j) → (∀ j, j < N 45 - fr → P13 (N 15 + j) = G 44 (fr + j)) → va_P (dC, dI) vwCl (MW cB cC cI cJ cZ z0 R pl (va_up (va_up N 14 (N 14 + 1)) 15 (N 15 + (N 45 - fr))) (va_up (NF G (N 14) 2 (N 15) (N 45 - fr)) 13 P13) B) H → va_D A (MW cB cC cI cJ cZ z0 R pl (va_up (va_up N 14 (N 14 + 1)) 15 (N 15 + (N 45 - fr))) (va_up (NF G (N 14) 2 (N 15) (N 45 - fr)) 13 P13) B) → va_S A s.heap H locs → ∀ (ls : Array Slot), lv_has ls 4 [(0, .ref z0), (1, .int (nI fr)), (2, .int (nI (N 14)))] → W p l e (headSpec vX12_endList { frames := 1, cells := 0, slots := 0, locals := 23 }).room s m args below meth c H locs 0 0 Q (F0 m 57 ls [])) : ∀ (k : Nat) (i : Nat) (P13 : Nat → Nat), N 45 - fr - i < k → i ≤ N 45 - fr → (∀ i, P13 i < 1048576) → (∀ j, j < N 15 → P13 j = G 13 j) → (∀ j, j < i → P13 (N 15 + j) = G 44 (fr + j)) → ∀ (H : Heap) (locs : List Loc), va_P (dC, dI) vwCl (MW cB cC cI cJ cZ z0 R pl (va_up (va_up N 14 (N 14 + 1)) 15 (N 15 + i)) (va_up (NF G (N 14) 2 (N 15) (N 45 - fr)) 13 P13) B) H → va_D A (MW cB cC cI cJ cZ z0 R pl (va_up (va_up N 14 (N 14 + 1)) 15 (N 15 + i)) (va_up (NF G (N 14) 2 (N 15) (N 45 - fr)) 13 P13) B) → va_S A s.heap H locs → ∀ (ls : Array Slot), lv_has ls 4 [(0, .ref z0), (1, .int (nI fr)), (2, .int (nI (N 14))), (3, .int (nI (fr + i)))] → W p l e (headSpec vX12_endList { frames := 1, cells := 0, slots := 0, locals := 23 }).room s m args below meth c H locs 0 0 Q (F0 m 18 ls []) := by
  have hcs : 0 + 0 ≤ (0 : Nat) ∧ 0 + 0 ≤ (0 : Nat) := ⟨Nat.le_refl 0, Nat.le_refl 0⟩
  intro k
  induction k with
  | zero =>
    intro i P13 hk hi hp h1 h2
    omega
  | succ k ih =>
    intro i P13 hk hi hp h1 h2 H locs hP hD hS ls hl
    refine lv_iload_n hx hb dX12_endList_18 rfl (lv_at hl 3 rfl) ?_
    refine lv_aload_n hx hb dX12_endList_19 rfl (lv_at hl 0 rfl) ?_
    refine mg_45 hx hb hts inX12_endList hown hK hP (hts _ lkX12_endList_f203) dX12_endList_20 ?_
    refine tp_i (y := nI (N 45)) rfl ?_
    refine bn_ge (tgt := 57) hx hb (by first | omega | exact Nat.lt_of_lt_of_le (hG _ _) (by decide)) (by first | omega | exact Nat.lt_of_lt_of_le (hG _ _) (by decide)) dX12_endList_23 (by decide) (fun c1 => ?_) (fun c1 => ?_)
    · have e9 : i = N 45 - fr := by omega
      subst e9
      exact ke P13 H locs hp h1 h2 hP hD hS ls (lv_sub hl [0, 1, 2] rfl)
    · have g44 := hG 44 (fr + i)
      refine lv_aload_n hx hb dX12_endList_26 rfl (lv_at hl 0 rfl) ?_
      refine mg_13 hx hb hts inX12_endList hown hK hP (hts _ lkX12_endList_f41) dX12_endList_27 ?_
      refine lv_aload_n hx hb dX12_endList_30 rfl (lv_at hl 0 rfl) ?_
      refine mg_15 hx hb hts inX12_endList hown hK hP (hts _ lkX12_endList_f220) dX12_endList_31 ?_
      refine tp_i (y := nI (N 15 + i)) rfl ?_
      refine lv_aload_n hx hb dX12_endList_34 rfl (lv_at hl 0 rfl) ?_
      refine mg_44 hx hb hts inX12_endList hown hK hP (hts _ lkX12_endList_f85) dX12_endList_35 ?_
      refine lv_iload_n hx hb dX12_endList_38 rfl (lv_at hl 3 rfl) ?_
      refine ml_44 hx hb hK hP (by omega) dX12_endList_39 ?_
      refine tp_i (y := nI (G 44 (fr + i))) rfl ?_
      refine ms_13 hx hb hK hP hD hS (by omega) dX12_endList_40 (fun H locs hP hD hS => ?_)
      rw [bx_uu] at hP hD
      refine lv_aload_n hx hb dX12_endList_41 rfl (lv_at hl 0 rfl) ?_
      refine lv_dup hx hb dX12_endList_42 rfl ?_
      refine mg_15 hx hb hts inX12_endList hown hK hP (hts _ lkX12_endList_f220) dX12_endList_43 ?_
      refine tp_i (y := nI (N 15 + i)) rfl ?_
      refine lv_iconst (v := nI 1) hx hb dX12_endList_46 (by decide) ?_
      refine lv_iadd hx hb dX12_endList_47 ?_
      refine tp_i (nI_add (N 15 + i) 1) ?_
      refine mp_15 hx hb hts inX12_endList hown hK hP hD hS (hts _ lkX12_endList_f220) dX12_endList_48 (fun H locs hP hD hS => ?_)
      refine lv_iinc (v := nI ((fr + i) + 1)) (lv' := [(3, .int (nI ((fr + i) + 1))), (0, .ref z0), (1, .int (nI fr)), (2, .int (nI (N 14)))]) hx hb dX12_endList_51 hl (k := 3) rfl (nI_add (fr + i) 1) (by decide) rfl (fun ls hl => ?_)
      refine lv_goto (tgt := 18) hx hb dX12_endList_54 (by decide) ?_
      rw [bx_uu] at hP hD
      refine ih (i + 1) (va_up P13 (N 15 + i) (G 44 (fr + i))) (by omega) (by omega) (hIup hp (by omega)) (fun j hj => ?_) (fun j hj => ?_) _ _ hP hD hS ls (lv_sub hl [1, 2, 3, 0] rfl)
      · rw [va_up_ne _ _ (by omega)]; exact h1 j hj
      · by_cases e : j = i
        · rw [e, va_up_self]
        · rw [va_up_ne _ _ (by omega)]; exact h2 j (by omega)

set_option maxHeartbeats 4000000 in
set_option maxRecDepth 100000 in
/-- endList -/
theorem m_endList (l : Launch) (dC : Nat → ClassId) (dI : Nat → Nat → Nat) (cB cC cI cJ cZ : ClassId) (z0 : Nat) (R : Nat → Nat) (pl : Int32) (N : Nat → Nat) (G : Nat → Nat → Nat) (B : Nat → Nat → Int32) (fr : Nat) (hG : ∀ k i, G k i < 1048576) (hfr : fr ≤ N 45) (h45 : N 45 ≤ 3000) (h14 : N 14 < 90000) (h15 : N 15 + N 45 < 90000) (s0 : Nat) : Met l yX12_endList vX12_endList { frames := 1, cells := 0, slots := 0, locals := 23 } (va_Pc [.ref z0, .int (nI fr)] (mPre dC dI cB cC cI cJ cZ z0 R pl N G B s0)) (va_Qv (fun u : ((Nat → Nat) × (Nat → Nat → Nat) × (Nat → Nat → Int32) × Int32) => match u with | (N1, G1, B1, pl1) => B1 = B ∧ pl1 = pl ∧ ∃ P13, (∀ i, P13 i < 1048576) ∧ (∀ j, j < N 15 → P13 j = G 13 j) ∧ (∀ i, i < N 45 - fr → P13 (N 15 + i) = G 44 (fr + i)) ∧ N1 = va_up (va_up (va_up N 14 (N 14 + 1)) 15 (N 15 + (N 45 - fr))) 45 (fr + 1) ∧ G1 = va_up (va_up (NF G (N 14) 2 (N 15) (N 45 - fr)) 13 P13) 44 (va_up (G 44) fr (N 14))) (mPost dC dI cB cC cI cJ cZ z0 R (va_A (MW cB cC cI cJ cZ z0 R pl N G B) s0)) (va_A (MW cB cC cI cJ cZ z0 R pl N G B) s0)) 0 0 (va_A (MW cB cC cI cJ cZ z0 R pl N G B) s0) := by
  refine Met.ofW (cc := cX12_endList) (maxL := 4) (ret := none) (by decide) rfl ?_
  intro p e s m args below meth c s₁ B9 hml hv
  obtain ⟨rfl, hsz, hP, hK, hD0⟩ := hv
  have hx := B9.exec
  have hb := B9.bytes
  have hr := B9.returns
  have hts := atoms_spec (ws := vX12_endList) B9.pre
  have hown : s.vm.findClass RX12 = some m.cls := findClass_of_methodNamed B9.named
  have hlocks := B9.notSynchronized
  subst hsz
  have hD := hD0.self (sz := s.heap.size)
  generalize hAe : va_A (MW cB cC cI cJ cZ z0 R pl N G B) s.heap.size = A at hD ⊢
  have hA : ∀ q : Nat, s.heap.size ≤ q → A q := fun q h => by rw [← hAe]; exact Or.inr h
  have hS : va_S A s.heap s.heap [] := va_S.rf
  have hcs : 0 + 0 ≤ (0 : Nat) ∧ 0 + 0 ≤ (0 : Nat) := ⟨Nat.le_refl 0, Nat.le_refl 0⟩
  have hl := lv_entry ([.ref z0, .int (nI fr)]) (n := 4) (Nat.le_of_ble_eq_true rfl)
  rw [lg_entry_eq]
  generalize (lg_sl ([.ref z0, .int (nI fr)]) ++ List.replicate (4 - (lg_sl ([.ref z0, .int (nI fr)])).length) Slot.unset).toArray = ls at hl ⊢
  have hl : lv_has ls 4 [(0, .ref z0), (1, .int (nI fr))] := hl
  refine lv_aload_n hx hb dX12_endList_0 rfl (lv_at hl 0 rfl) ?_
  refine lv_iconst (v := nI 2) hx hb dX12_endList_1 (by decide) ?_
  refine lv_aload_n hx hb dX12_endList_2 rfl (lv_at hl 0 rfl) ?_
  refine mg_15 hx hb hts inX12_endList hown hK hP (hts _ lkX12_endList_f220) dX12_endList_3 ?_
  refine lv_aload_n hx hb dX12_endList_6 rfl (lv_at hl 0 rfl) ?_
  refine mg_45 hx hb hts inX12_endList hown hK hP (hts _ lkX12_endList_f203) dX12_endList_7 ?_
  refine lv_iload_n hx hb dX12_endList_10 rfl (lv_at hl 1 rfl) ?_
  refine lv_isub hx hb dX12_endList_11 ?_
  refine tp_i (pk_sub (a := N 45) (b := fr) (by omega)) ?_
  refine mcl_i (As := [.int (nI 2), .int (nI (N 15)), .int (nI ((N 45) - fr))]) (rest := []) ⟨hx, hb, hml, hown, hts⟩ (m_newForm l dC dI cB cC cI cJ cZ z0 R pl N G B 2 (N 15) (N 45 - fr) (by decide) h14 s.heap.size) (cwV 3 hts kX12_endList_X12_newForm_206 rfl rfl rfl (by decide +kernel) ⟨Nat.le_of_ble_eq_true rfl, Nat.le_of_ble_eq_true rfl⟩) hK hP hD hS hA rfl rfl hl.1 (lv_room (Nat.le_of_ble_eq_true rfl)) dX12_endList_12 hcs (fun r_5 N_1 G_2 B_3 pl_4 hw H locs hP hD hS => ?_)
  dsimp only at hw
  obtain ⟨e1, e2, e3, e4, hw⟩ := hw
  rw [e1, e2, e3, e4] at hP hD
  subst hw
  refine lv_istore_n (lv' := [(2, .int (nI (N 14))), (0, .ref z0), (1, .int (nI fr))]) hx hb dX12_endList_15 rfl hl (by decide) rfl (fun ls hl => ?_)
  refine lv_iload_n hx hb dX12_endList_16 rfl (lv_at hl 2 rfl) ?_
  refine lv_istore_n (lv' := [(3, .int (nI fr)), (2, .int (nI (N 14))), (0, .ref z0), (1, .int (nI fr))]) hx hb dX12_endList_17 rfl hl (by decide) rfl (fun ls hl => ?_)
  have en : va_up (va_up N 14 (N 14 + 1)) 15 (N 15 + 0) = va_up N 14 (N 14 + 1) := va_upid (va_up N 14 (N 14 + 1)) 15
  have eg : va_up (NF G (N 14) 2 (N 15) (N 45 - fr)) 13 (G 13) = NF G (N 14) 2 (N 15) (N 45 - fr) := va_upid (NF G (N 14) 2 (N 15) (N 45 - fr)) 13
  have hP : va_P (dC, dI) vwCl (MW cB cC cI cJ cZ z0 R pl (va_up (va_up N 14 (N 14 + 1)) 15 (N 15 + 0)) (va_up (NF G (N 14) 2 (N 15) (N 45 - fr)) 13 (G 13)) B) H := by rw [en, eg]; exact hP
  have hD : va_D A (MW cB cC cI cJ cZ z0 R pl (va_up (va_up N 14 (N 14 + 1)) 15 (N 15 + 0)) (va_up (NF G (N 14) 2 (N 15) (N 45 - fr)) 13 (G 13)) B) := by rw [en, eg]; exact hD
  have hl : lv_has ls 4 [(3, .int (nI (fr + 0))), (2, .int (nI (N 14))), (0, .ref z0), (1, .int (nI fr))] := hl
  refine lp_endL hx hb hml hown hts hK hA hG hfr h45 h14 h15 (fun P13 H locs hp h1 h2 hP hD hS ls hl => ?_) _ 0 (G 13) (Nat.lt_succ_self _) (Nat.zero_le _) (hG 13) (fun _ _ => rfl) (fun j hj => absurd hj (Nat.not_lt_zero j)) _ _ hP hD hS ls (lv_sub hl [2, 3, 1, 0] rfl)
  refine lv_aload_n hx hb dX12_endList_57 rfl (lv_at hl 0 rfl) ?_
  refine lv_iload_n hx hb dX12_endList_58 rfl (lv_at hl 1 rfl) ?_
  refine mp_45 hx hb hts inX12_endList hown hK hP hD hS (hts _ lkX12_endList_f203) dX12_endList_59 (fun H locs hP hD hS => ?_)
  refine lv_aload_n hx hb dX12_endList_62 rfl (lv_at hl 0 rfl) ?_
  refine mg_44 hx hb hts inX12_endList hown hK hP (hts _ lkX12_endList_f85) dX12_endList_63 ?_
  refine lv_aload_n hx hb dX12_endList_66 rfl (lv_at hl 0 rfl) ?_
  refine mg_45 hx hb hts inX12_endList hown hK hP (hts _ lkX12_endList_f203) dX12_endList_67 ?_
  refine tp_i (y := nI fr) rfl ?_
  refine lv_iload_n hx hb dX12_endList_70 rfl (lv_at hl 2 rfl) ?_
  refine ms_44 hx hb hK hP hD hS (by omega) dX12_endList_71 (fun H locs hP hD hS => ?_)
  refine lv_aload_n hx hb dX12_endList_72 rfl (lv_at hl 0 rfl) ?_
  refine lv_dup hx hb dX12_endList_73 rfl ?_
  refine mg_45 hx hb hts inX12_endList hown hK hP (hts _ lkX12_endList_f203) dX12_endList_74 ?_
  refine tp_i (y := nI fr) rfl ?_
  refine lv_iconst (v := nI 1) hx hb dX12_endList_77 (by decide) ?_
  refine lv_iadd hx hb dX12_endList_78 ?_
  refine tp_i (nI_add fr 1) ?_
  refine mp_45 hx hb hts inX12_endList hown hK hP hD hS (hts _ lkX12_endList_f203) dX12_endList_79 (fun H locs hP hD hS => ?_)
  rw [bx_uu] at hP hD
  have hP : va_P (dC, dI) vwCl (MW cB cC cI cJ cZ z0 R pl (va_up (va_up (va_up N 14 (N 14 + 1)) 15 (N 15 + (N 45 - fr))) 45 (fr + 1)) (va_up (va_up (NF G (N 14) 2 (N 15) (N 45 - fr)) 13 P13) 44 (va_up (G 44) fr (N 14))) B) H := hP
  have hD : va_D A (MW cB cC cI cJ cZ z0 R pl (va_up (va_up (va_up N 14 (N 14 + 1)) 15 (N 15 + (N 45 - fr))) 45 (fr + 1)) (va_up (va_up (NF G (N 14) 2 (N 15) (N 45 - fr)) 13 P13) 44 (va_up (G 44) fr (N 14))) B) := hD
  exact W.vret hx hb hr (fun t ht hW => ⟨⟨(va_up (va_up (va_up N 14 (N 14 + 1)) 15 (N 15 + (N 45 - fr))) 45 (fr + 1), va_up (va_up (NF G (N 14) 2 (N 15) (N 45 - fr)) 13 P13) 44 (va_up (G 44) fr (N 14)), B, pl), rfl, ⟨rfl, rfl, P13, hp, h1, h2, rfl, rfl⟩, by rw [ht]; exact hP, va_K.moved hW.alike hK, hD⟩, hS.F ht⟩) hS.2.2 dX12_endList_82
