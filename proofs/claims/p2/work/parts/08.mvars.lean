def oX12_variable : List Cond := [Cond.fieldLink RX12 309 "MacroScopesModel" "variableCount" "I", Cond.fieldLink RX12 91 "MacroScopesModel" "variableNames" "[I"]
def vX12_variable : List Cond := .code yX12_variable cX12_variable 4 (some .int) :: (oX12_variable ++ (wsX120))
theorem lkX12_variable_f309 : Cond.fieldLink RX12 309 "MacroScopesModel" "variableCount" "I" ∈ vX12_variable := List.mem_cons_of_mem _ (List.mem_append_left _ (List.mem_of_getElem? (i := 0) rfl))
theorem lkX12_variable_f91 : Cond.fieldLink RX12 91 "MacroScopesModel" "variableNames" "[I" ∈ vX12_variable := List.mem_cons_of_mem _ (List.mem_append_left _ (List.mem_of_getElem? (i := 1) rfl))
theorem inX12_variable : ∀ w ∈ wsX120, w ∈ vX12_variable := fun w h => List.mem_cons_of_mem _ (List.mem_append_right _ (h))
def oX12_isLiteral : List Cond := [Cond.fieldLink RX12 38 "MacroScopesModel" "counts" "[I", Cond.fieldLink RX12 35 "MacroScopesModel" "values" "[I", Cond.methodLink RX12 192 yX12_part, Cond.instanceMethod yX12_part, Cond.selects RX12 yX12_part yX12_part, Cond.initialized RX12]
def vX12_isLiteral : List Cond := .code yX12_isLiteral cX12_isLiteral 6 (some .boolean) :: (oX12_isLiteral ++ (vX12_part ++ (wsX120)))
theorem lkX12_isLiteral_f38 : Cond.fieldLink RX12 38 "MacroScopesModel" "counts" "[I" ∈ vX12_isLiteral := List.mem_cons_of_mem _ (List.mem_append_left _ (List.mem_of_getElem? (i := 0) rfl))
theorem lkX12_isLiteral_f35 : Cond.fieldLink RX12 35 "MacroScopesModel" "values" "[I" ∈ vX12_isLiteral := List.mem_cons_of_mem _ (List.mem_append_left _ (List.mem_of_getElem? (i := 1) rfl))
theorem inX12_isLiteral : ∀ w ∈ wsX120, w ∈ vX12_isLiteral := fun w h => List.mem_cons_of_mem _ (List.mem_append_right _ (List.mem_append_right _ (h)))
theorem kX12_isLiteral_X12_part_192 : GoodIn vX12_isLiteral (wsV RX12 192 RX12 yX12_part vX12_part) := goodIn_sub (fun w h => (List.mem_append.mp h).elim (fun h => List.mem_cons_of_mem _ (List.mem_append_left _ ((by decide +kernel : ∀ w ∈ ([.methodLink RX12 192 yX12_part, .instanceMethod yX12_part, .selects RX12 yX12_part yX12_part, .initialized RX12] : List Cond), w ∈ oX12_isLiteral) w h))) (fun h => List.mem_cons_of_mem _ (List.mem_append_right _ (List.mem_append_left _ (h))))) (by decide +kernel)
/-- the place, from 1, of the last of n names that is x; 0: none -/
def varF (g : Nat → Nat) (x : Nat) : Nat → Nat
  | 0 => 0
  | n + 1 => if g n = x then n + 1 else varF g x n
abbrev VAR (N : Nat → Nat) (G : Nat → Nat → Nat) (x : Nat) : Nat := varF (G 47) x (N 49)
theorem varF_le (g : Nat → Nat) (x : Nat) : ∀ n, varF g x n ≤ n := by
  intro n
  induction n with
  | zero => exact Nat.le_refl 0
  | succ n ih =>
    unfold varF
    by_cases h : g n = x
    · rw [if_pos h]; exact Nat.le_refl _
    · rw [if_neg h]; omega
theorem varF_hit (g : Nat → Nat) (x : Nat) : ∀ n, 0 < varF g x n → g (varF g x n - 1) = x := by
  intro n
  induction n with
  | zero => intro h; exact absurd h (Nat.lt_irrefl 0)
  | succ n ih =>
    unfold varF
    by_cases h : g n = x
    · rw [if_pos h]; intro _; exact h
    · rw [if_neg h]; exact ih
/-- 1: one of n parts of the list l is the name x -/
def litF (vl c : Nat → Nat) (x : Nat) : Nat → Nat
  | 0 => 0
  | n + 1 => if vl (c n) = x then 1 else litF vl c x n
theorem litF_le (vl c : Nat → Nat) (x : Nat) : ∀ n, litF vl c x n ≤ 1 := by
  intro n
  induction n with
  | zero => exact Nat.zero_le 1
  | succ n ih =>
    unfold litF
    by_cases h : vl (c n) = x
    · rw [if_pos h]; exact Nat.le_refl 1
    · rw [if_neg h]; exact ih
theorem litF_up {vl c : Nat → Nat} {x i : Nat} (h : 0 < litF vl c x i) : litF vl c x (i + 1) = 1 := by
  have g := litF_le vl c x i
  rw [litF]
  by_cases q : vl (c i) = x
  · rw [if_pos q]
  · rw [if_neg q]; omega
abbrev LIT (G : Nat → Nat → Nat) (rules x : Nat) : Nat := litF (G 11) (CH G (CH G rules 1)) x (G 12 (CH G rules 1))
/-- environments and what they bind -/
def EV (N : Nat → Nat) (G : Nat → Nat → Nat) : Prop := 1 ≤ N 23 ∧ N 23 ≤ 255 ∧ N 27 ≤ 1600 ∧ (∀ e, 0 < e → e < N 23 → G 21 e < e) ∧ (∀ e, 0 < e → e ≤ N 23 → G 22 e ≤ N 27) ∧ ∀ a, a < N 20 → G 19 a < N 23
def MEAN (N : Nat → Nat) (r : Int32) : Prop := (∃ b, b < N 27 ∧ r = nI b) ∨ ∃ n, n < N 6 ∧ r = (nI 0 - 1) - nI n
set_option maxHeartbeats 4000000 in
set_option maxRecDepth 100000 in
theorem lp_variable {p : Program} {l : Launch} {e : Env} {s : State} {m : MethodId} {args : Array Value} {below : List Frame} {meth : Method} {c : Code} {Q : State → Prop} {A : Nat → Prop} {dC : Nat → ClassId} {dI : Nat → Nat → Nat} {cB cC cI cJ cZ : ClassId} {z0 : Nat} {R : Nat → Nat} (hx : p.tables.exec = Jvm.exec) (hb : c.code = cX12_variable) (hml : c.maxLocals = 4) (hown : s.vm.findClass RX12 = some m.cls) (hts : ∀ w ∈ vX12_variable, w.before args s = true) (hK : va_K (dC, dI) vwCl (TY cB cC cI cJ cZ) s) (hA : ∀ q : Nat, s.heap.size ≤ q → A q) {pl : Int32} {N : Nat → Nat} {G : Nat → Nat → Nat} {B : Nat → Nat → Int32} (hG : ∀ k i, G k i < 1048576) (hN : N 49 ≤ 1600) (x : Nat) (hx2 : x < 1048576) (kk : ∀  (H : Heap) (locs : List Loc), va_P (dC, dI) vwCl (MW cB cC cI cJ cZ z0 R pl N G B) H → va_D A (MW cB cC cI cJ cZ z0 R pl N G B) → va_S A s.heap H locs → ∀ (ls : Array Slot), lv_has ls 4 [(2, .int (nI (varF (G 47) x (N 49)) - 1))] → W p l e (headSpec vX12_variable { frames := 0, cells := 0, slots := 0, locals := 0 }).room s m args below meth c H locs 0 0 Q (F0 m 34 ls [])) : ∀ (k : Nat) (i : Nat), i ≤ N 49 → N 49 + 1 ≤ i + k → ∀ (H : Heap) (locs : List Loc), va_P (dC, dI) vwCl (MW cB cC cI cJ cZ z0 R pl N G B) H → va_D A (MW cB cC cI cJ cZ z0 R pl N G B) → va_S A s.heap H locs → ∀ (ls : Array Slot), lv_has ls 4 [(0, .ref z0), (1, .int (nI x)), (2, .int (nI (varF (G 47) x i) - 1)), (3, .int (nI i))] → W p l e (headSpec vX12_variable { frames := 0, cells := 0, slots := 0, locals := 0 }).room s m args below meth c H locs 0 0 Q (F0 m 4 ls []) := by
  have hcs : 0 + 0 ≤ (0 : Nat) ∧ 0 + 0 ≤ (0 : Nat) := ⟨Nat.le_refl 0, Nat.le_refl 0⟩
  intro k
  induction k with
  | zero =>
    intro i hi hk
    omega
  | succ k ih =>
    intro i hi hk H locs hP hD hS ls hl
    refine lv_iload_n hx hb dX12_variable_4 rfl (lv_at hl 3 rfl) ?_
    refine lv_aload_n hx hb dX12_variable_5 rfl (lv_at hl 0 rfl) ?_
    refine mg_49 hx hb hts inX12_variable hown hK hP (hts _ lkX12_variable_f309) dX12_variable_6 ?_
    refine bn_ge (tgt := 34) hx hb (by omega) (by omega) dX12_variable_9 (by decide) (fun c1 => ?_) (fun c1 => ?_)
    · have e9 : i = N 49 := by omega
      subst e9
      exact kk H locs hP hD hS ls (lv_sub hl [2] rfl)
    · have g1 := hG 47 i
      refine lv_aload_n hx hb dX12_variable_12 rfl (lv_at hl 0 rfl) ?_
      refine mg_47 hx hb hts inX12_variable hown hK hP (hts _ lkX12_variable_f91) dX12_variable_13 ?_
      refine lv_iload_n hx hb dX12_variable_16 rfl (lv_at hl 3 rfl) ?_
      refine ml_47 hx hb hK hP (by omega) dX12_variable_17 ?_
      refine lv_iload_n hx hb dX12_variable_18 rfl (lv_at hl 1 rfl) ?_
      refine bn_ne (tgt := 26) hx hb (by omega) (by omega) dX12_variable_19 (by decide) (fun c2 => ?_) (fun c2 => ?_)
      · refine lv_iload_n hx hb dX12_variable_26 rfl (lv_at hl 2 rfl) ?_
        refine lv_istore_n (lv' := [(2, .int (nI (varF (G 47) x i) - 1)), (0, .ref z0), (1, .int (nI x)), (3, .int (nI i))]) hx hb dX12_variable_27 rfl hl (by decide) rfl (fun ls hl => ?_)
        refine lv_iinc (v := nI (i + 1)) (lv' := [(3, .int (nI (i + 1))), (2, .int (nI (varF (G 47) x i) - 1)), (0, .ref z0), (1, .int (nI x))]) hx hb dX12_variable_28 hl (k := 3) rfl (nI_add i 1) (by decide) rfl (fun ls hl => ?_)
        refine lv_goto (tgt := 4) hx hb dX12_variable_31 (by decide) ?_
        have e8 : varF (G 47) x (i + 1) = varF (G 47) x i := if_neg c2
        refine ih (i + 1) (by omega) (by omega) _ _ hP hD hS ls ?_
        rw [e8]
        exact (lv_sub hl [2, 3, 1, 0] rfl)
      · refine lv_iload_n hx hb dX12_variable_22 rfl (lv_at hl 3 rfl) ?_
        refine tp_i (y := nI (i + 1) - 1) (nI_pred i).symm ?_
        refine lv_goto (tgt := 27) hx hb dX12_variable_23 (by decide) ?_
        refine lv_istore_n (lv' := [(2, .int (nI (i + 1) - 1)), (0, .ref z0), (1, .int (nI x)), (3, .int (nI i))]) hx hb dX12_variable_27 rfl hl (by decide) rfl (fun ls hl => ?_)
        refine lv_iinc (v := nI (i + 1)) (lv' := [(3, .int (nI (i + 1))), (2, .int (nI (i + 1) - 1)), (0, .ref z0), (1, .int (nI x))]) hx hb dX12_variable_28 hl (k := 3) rfl (nI_add i 1) (by decide) rfl (fun ls hl => ?_)
        refine lv_goto (tgt := 4) hx hb dX12_variable_31 (by decide) ?_
        have e8 : varF (G 47) x (i + 1) = i + 1 := if_pos c2
        refine ih (i + 1) (by omega) (by omega) _ _ hP hD hS ls ?_
        rw [e8]
        exact (lv_sub hl [2, 3, 1, 0] rfl)

set_option maxHeartbeats 4000000 in
set_option maxRecDepth 100000 in
/-- variable -/
theorem m_variable (l : Launch) (dC : Nat → ClassId) (dI : Nat → Nat → Nat) (cB cC cI cJ cZ : ClassId) (z0 : Nat) (R : Nat → Nat) (pl : Int32) (N : Nat → Nat) (G : Nat → Nat → Nat) (B : Nat → Nat → Int32) (x : Nat) (hG : ∀ k i, G k i < 1048576) (hN : N 49 ≤ 1600) (hx2 : x < 1048576) (s0 : Nat) : Met l yX12_variable vX12_variable { frames := 0, cells := 0, slots := 0, locals := 0 } (va_Pc [.ref z0, .int (nI x)] (mPre dC dI cB cC cI cJ cZ z0 R pl N G B s0)) (va_Qi (fun (r : Int32) (u : ((Nat → Nat) × (Nat → Nat → Nat) × (Nat → Nat → Int32) × Int32)) => match u with | (N1, G1, B1, pl1) => N1 = N ∧ G1 = G ∧ B1 = B ∧ pl1 = pl ∧ r = nI (VAR N G x) - 1) (mPost dC dI cB cC cI cJ cZ z0 R (va_A (MW cB cC cI cJ cZ z0 R pl N G B) s0)) (va_A (MW cB cC cI cJ cZ z0 R pl N G B) s0)) 0 0 (va_A (MW cB cC cI cJ cZ z0 R pl N G B) s0) := by
  refine Met.ofW (cc := cX12_variable) (maxL := 4) (ret := (some .int)) (by decide) rfl ?_
  intro p e s m args below meth c s₁ B9 hml hv
  obtain ⟨rfl, hsz, hP, hK, hD0⟩ := hv
  have hx := B9.exec
  have hb := B9.bytes
  have hr := B9.returns
  have hts := atoms_spec (ws := vX12_variable) B9.pre
  have hown : s.vm.findClass RX12 = some m.cls := findClass_of_methodNamed B9.named
  have hlocks := B9.notSynchronized
  subst hsz
  have hD := hD0.self (sz := s.heap.size)
  generalize hAe : va_A (MW cB cC cI cJ cZ z0 R pl N G B) s.heap.size = A at hD ⊢
  have hA : ∀ q : Nat, s.heap.size ≤ q → A q := fun q h => by rw [← hAe]; exact Or.inr h
  have hS : va_S A s.heap s.heap [] := va_S.rf
  have hcs : 0 + 0 ≤ (0 : Nat) ∧ 0 + 0 ≤ (0 : Nat) := ⟨Nat.le_refl 0, Nat.le_refl 0⟩
  have hl := lv_entry ([.ref z0, .int (nI x)]) (n := 4) (Nat.le_of_ble_eq_true rfl)
  rw [lg_entry_eq]
  generalize (lg_sl ([.ref z0, .int (nI x)]) ++ List.replicate (4 - (lg_sl ([.ref z0, .int (nI x)])).length) Slot.unset).toArray = ls at hl ⊢
  have hl : lv_has ls 4 [(0, .ref z0), (1, .int (nI x))] := hl
  refine lv_iconst (v := nI 0 - 1) hx hb dX12_variable_0 (by decide) ?_
  refine lv_istore_n (lv' := [(2, .int (nI 0 - 1)), (0, .ref z0), (1, .int (nI x))]) hx hb dX12_variable_1 rfl hl (by decide) rfl (fun ls hl => ?_)
  refine lv_iconst (v := nI 0) hx hb dX12_variable_2 (by decide) ?_
  refine lv_istore_n (lv' := [(3, .int (nI 0)), (2, .int (nI 0 - 1)), (0, .ref z0), (1, .int (nI x))]) hx hb dX12_variable_3 rfl hl (by decide) rfl (fun ls hl => ?_)
  refine lp_variable hx hb hml hown hts hK hA hG hN x hx2 (fun H locs hP hD hS ls hl => ?_) (N 49 + 1) 0 (by omega) (by omega) _ _ hP hD hS ls (lv_sub hl [2, 3, 1, 0] rfl)
  refine lv_iload_n hx hb dX12_variable_34 rfl (lv_at hl 0 rfl) ?_
  exact W.iret (v := (nI (varF (G 47) x (N 49)) - 1)) hx hb hr (fun t ht hW => ⟨⟨(nI (varF (G 47) x (N 49)) - 1), (N, G, B, pl), rfl, ⟨rfl, rfl, rfl, rfl, rfl⟩, by rw [ht]; exact hP, va_K.moved hW.alike hK, hD⟩, hS.F ht⟩) hS.2.2 dX12_variable_35

set_option maxHeartbeats 4000000 in
set_option maxRecDepth 100000 in
theorem lp_isLiteral {p : Program} {l : Launch} {e : Env} {s : State} {m : MethodId} {args : Array Value} {below : List Frame} {meth : Method} {c : Code} {Q : State → Prop} {A : Nat → Prop} {dC : Nat → ClassId} {dI : Nat → Nat → Nat} {cB cC cI cJ cZ : ClassId} {z0 : Nat} {R : Nat → Nat} (hx : p.tables.exec = Jvm.exec) (hb : c.code = cX12_isLiteral) (hml : c.maxLocals = 6) (hown : s.vm.findClass RX12 = some m.cls) (hts : ∀ w ∈ vX12_isLiteral, w.before args s = true) (hK : va_K (dC, dI) vwCl (TY cB cC cI cJ cZ) s) (hA : ∀ q : Nat, s.heap.size ≤ q → A q) {pl : Int32} {N : Nat → Nat} {G : Nat → Nat → Nat} {B : Nat → Nat → Int32} (hG : ∀ k i, G k i < 1048576) (li x : Nat) (hx2 : x < 1048576) (hli : li < 90000) (hlc : ∀ j, j < G 12 li → G 11 li + j < 90000 ∧ CH G li j < 90000) (kk : ∀  (H : Heap) (locs : List Loc), va_P (dC, dI) vwCl (MW cB cC cI cJ cZ z0 R pl N G B) H → va_D A (MW cB cC cI cJ cZ z0 R pl N G B) → va_S A s.heap H locs → ∀ (ls : Array Slot), lv_has ls 6 [(4, .int (nI (litF (G 11) (CH G li) x (G 12 li))))] → W p l e (headSpec vX12_isLiteral { frames := 1, cells := 0, slots := 0, locals := 22 }).room s m args below meth c H locs 0 0 Q (F0 m 58 ls [])) : ∀ (k : Nat) (i : Nat), i ≤ G 12 li → G 12 li + 1 ≤ i + k → ∀ (H : Heap) (locs : List Loc), va_P (dC, dI) vwCl (MW cB cC cI cJ cZ z0 R pl N G B) H → va_D A (MW cB cC cI cJ cZ z0 R pl N G B) → va_S A s.heap H locs → ∀ (ls : Array Slot), lv_has ls 6 [(0, .ref z0), (2, .int (nI x)), (3, .int (nI li)), (4, .int (nI (litF (G 11) (CH G li) x i))), (5, .int (nI i))] → W p l e (headSpec vX12_isLiteral { frames := 1, cells := 0, slots := 0, locals := 22 }).room s m args below meth c H locs 0 0 Q (F0 m 13 ls []) := by
  have hcs : 0 + 0 ≤ (0 : Nat) ∧ 0 + 0 ≤ (0 : Nat) := ⟨Nat.le_refl 0, Nat.le_refl 0⟩
  intro k
  induction k with
  | zero =>
    intro i hi hk
    omega
  | succ k ih =>
    intro i hi hk H locs hP hD hS ls hl
    have g1 := hG 12 li
    have g2 := litF_le (G 11) (CH G li) x i
    refine lv_iload hx hb dX12_isLiteral_13 (lv_at hl 4 rfl) ?_
    refine lv_aload_n hx hb dX12_isLiteral_15 rfl (lv_at hl 0 rfl) ?_
    refine mg_12 hx hb hts inX12_isLiteral hown hK hP (hts _ lkX12_isLiteral_f38) dX12_isLiteral_16 ?_
    refine lv_iload_n hx hb dX12_isLiteral_19 rfl (lv_at hl 2 rfl) ?_
    refine ml_12 hx hb hK hP (by omega) dX12_isLiteral_20 ?_
    refine bn_ge (tgt := 58) hx hb (by omega) (by omega) dX12_isLiteral_21 (by decide) (fun c1 => ?_) (fun c1 => ?_)
    · have e9 : i = G 12 li := by omega
      subst e9
      exact kk H locs hP hD hS ls (lv_sub hl [3] rfl)
    · obtain ⟨t1, t2⟩ := hlc i c1
      have g3 := hG 11 (CH G li i)
      refine lv_iload hx hb dX12_isLiteral_24 (lv_at hl 3 rfl) ?_
      refine bz_ne (tgt := 45) hx hb (by omega) dX12_isLiteral_26 (by decide) (fun c2 => ?_) (fun c2 => ?_)
      · refine lv_iconst (v := nI 1) hx hb dX12_isLiteral_45 (by decide) ?_
        refine lv_goto (tgt := 50) hx hb dX12_isLiteral_46 (by decide) ?_
        refine lv_istore (lv' := [(4, .int (nI 1)), (0, .ref z0), (2, .int (nI x)), (3, .int (nI li)), (5, .int (nI i))]) hx hb dX12_isLiteral_50 hl (by decide) rfl (fun ls hl => ?_)
        refine lv_iinc (v := nI (i + 1)) (lv' := [(5, .int (nI (i + 1))), (4, .int (nI 1)), (0, .ref z0), (2, .int (nI x)), (3, .int (nI li))]) hx hb dX12_isLiteral_52 hl (k := 4) rfl (nI_add i 1) (by decide) rfl (fun ls hl => ?_)
        refine lv_goto (tgt := 13) hx hb dX12_isLiteral_55 (by decide) ?_
        have e8 : litF (G 11) (CH G li) x (i + 1) = 1 := litF_up c2
        refine ih (i + 1) (by omega) (by omega) _ _ hP hD hS ls ?_
        rw [e8]
        exact (lv_sub hl [2, 3, 4, 1, 0] rfl)
      · refine lv_aload_n hx hb dX12_isLiteral_29 rfl (lv_at hl 0 rfl) ?_
        refine mg_11 hx hb hts inX12_isLiteral hown hK hP (hts _ lkX12_isLiteral_f35) dX12_isLiteral_30 ?_
        refine lv_aload_n hx hb dX12_isLiteral_33 rfl (lv_at hl 0 rfl) ?_
        refine lv_iload_n hx hb dX12_isLiteral_34 rfl (lv_at hl 2 rfl) ?_
        refine lv_iload hx hb dX12_isLiteral_35 (lv_at hl 4 rfl) ?_
        refine mcl_i (As := [.int (nI li), .int (nI i)]) (rest := [.ref (R 11)]) ⟨hx, hb, hml, hown, hts⟩ (m_part l dC dI cB cC cI cJ cZ z0 R pl N G B li i hG hli t1 H.size) (cwV 2 hts kX12_isLiteral_X12_part_192 rfl rfl rfl (by decide +kernel) ⟨Nat.le_of_ble_eq_true rfl, Nat.le_of_ble_eq_true rfl⟩) hK hP hD hS hA rfl rfl hl.1 (lv_room (Nat.le_of_ble_eq_true rfl)) dX12_isLiteral_37 hcs (fun r_5 N_1 G_2 B_3 pl_4 hw H locs hP hD hS => ?_)
        dsimp only at hw
        obtain ⟨e1, e2, e3, e4, hw⟩ := hw
        rw [e1, e2, e3, e4] at hP hD
        subst hw
        refine ml_11 hx hb hK hP (by omega) dX12_isLiteral_40 ?_
        refine lv_iload_n hx hb dX12_isLiteral_41 rfl (lv_at hl 1 rfl) ?_
        refine bn_ne (tgt := 49) hx hb (by omega) (by omega) dX12_isLiteral_42 (by decide) (fun c3 => ?_) (fun c3 => ?_)
        · refine lv_iconst (v := nI 0) hx hb dX12_isLiteral_49 (by decide) ?_
          refine lv_istore (lv' := [(4, .int (nI 0)), (0, .ref z0), (2, .int (nI x)), (3, .int (nI li)), (5, .int (nI i))]) hx hb dX12_isLiteral_50 hl (by decide) rfl (fun ls hl => ?_)
          refine lv_iinc (v := nI (i + 1)) (lv' := [(5, .int (nI (i + 1))), (4, .int (nI 0)), (0, .ref z0), (2, .int (nI x)), (3, .int (nI li))]) hx hb dX12_isLiteral_52 hl (k := 4) rfl (nI_add i 1) (by decide) rfl (fun ls hl => ?_)
          refine lv_goto (tgt := 13) hx hb dX12_isLiteral_55 (by decide) ?_
          have e8 : litF (G 11) (CH G li) x (i + 1) = 0 := (if_neg c3).trans c2
          refine ih (i + 1) (by omega) (by omega) _ _ hP hD hS ls ?_
          rw [e8]
          exact (lv_sub hl [2, 3, 4, 1, 0] rfl)
        · refine lv_iconst (v := nI 1) hx hb dX12_isLiteral_45 (by decide) ?_
          refine lv_goto (tgt := 50) hx hb dX12_isLiteral_46 (by decide) ?_
          refine lv_istore (lv' := [(4, .int (nI 1)), (0, .ref z0), (2, .int (nI x)), (3, .int (nI li)), (5, .int (nI i))]) hx hb dX12_isLiteral_50 hl (by decide) rfl (fun ls hl => ?_)
          refine lv_iinc (v := nI (i + 1)) (lv' := [(5, .int (nI (i + 1))), (4, .int (nI 1)), (0, .ref z0), (2, .int (nI x)), (3, .int (nI li))]) hx hb dX12_isLiteral_52 hl (k := 4) rfl (nI_add i 1) (by decide) rfl (fun ls hl => ?_)
          refine lv_goto (tgt := 13) hx hb dX12_isLiteral_55 (by decide) ?_
          have e8 : litF (G 11) (CH G li) x (i + 1) = 1 := if_pos c3
          refine ih (i + 1) (by omega) (by omega) _ _ hP hD hS ls ?_
          rw [e8]
          exact (lv_sub hl [2, 3, 4, 1, 0] rfl)

set_option maxHeartbeats 4000000 in
set_option maxRecDepth 100000 in
/-- isLiteral -/
theorem m_isLiteral (l : Launch) (dC : Nat → ClassId) (dI : Nat → Nat → Nat) (cB cC cI cJ cZ : ClassId) (z0 : Nat) (R : Nat → Nat) (pl : Int32) (N : Nat → Nat) (G : Nat → Nat → Nat) (B : Nat → Nat → Int32) (rules x : Nat) (hG : ∀ k i, G k i < 1048576) (hx2 : x < 1048576) (hru : rules < 90000) (hr1 : G 11 rules + 1 < 90000) (hl1 : CH G rules 1 < 90000) (hlc : ∀ j, j < G 12 (CH G rules 1) → G 11 (CH G rules 1) + j < 90000 ∧ CH G (CH G rules 1) j < 90000) (s0 : Nat) : Met l yX12_isLiteral vX12_isLiteral { frames := 1, cells := 0, slots := 0, locals := 22 } (va_Pc [.ref z0, .int (nI rules), .int (nI x)] (mPre dC dI cB cC cI cJ cZ z0 R pl N G B s0)) (va_Qi (fun (r : Int32) (u : ((Nat → Nat) × (Nat → Nat → Nat) × (Nat → Nat → Int32) × Int32)) => match u with | (N1, G1, B1, pl1) => N1 = N ∧ G1 = G ∧ B1 = B ∧ pl1 = pl ∧ r = nI (LIT G rules x)) (mPost dC dI cB cC cI cJ cZ z0 R (va_A (MW cB cC cI cJ cZ z0 R pl N G B) s0)) (va_A (MW cB cC cI cJ cZ z0 R pl N G B) s0)) 0 0 (va_A (MW cB cC cI cJ cZ z0 R pl N G B) s0) := by
  refine Met.ofW (cc := cX12_isLiteral) (maxL := 6) (ret := (some .boolean)) (by decide) rfl ?_
  intro p e s m args below meth c s₁ B9 hml hv
  obtain ⟨rfl, hsz, hP, hK, hD0⟩ := hv
  have hx := B9.exec
  have hb := B9.bytes
  have hr := B9.returns
  have hts := atoms_spec (ws := vX12_isLiteral) B9.pre
  have hown : s.vm.findClass RX12 = some m.cls := findClass_of_methodNamed B9.named
  have hlocks := B9.notSynchronized
  subst hsz
  have hD := hD0.self (sz := s.heap.size)
  generalize hAe : va_A (MW cB cC cI cJ cZ z0 R pl N G B) s.heap.size = A at hD ⊢
  have hA : ∀ q : Nat, s.heap.size ≤ q → A q := fun q h => by rw [← hAe]; exact Or.inr h
  have hS : va_S A s.heap s.heap [] := va_S.rf
  have hcs : 0 + 0 ≤ (0 : Nat) ∧ 0 + 0 ≤ (0 : Nat) := ⟨Nat.le_refl 0, Nat.le_refl 0⟩
  have hl := lv_entry ([.ref z0, .int (nI rules), .int (nI x)]) (n := 6) (Nat.le_of_ble_eq_true rfl)
  rw [lg_entry_eq]
  generalize (lg_sl ([.ref z0, .int (nI rules), .int (nI x)]) ++ List.replicate (6 - (lg_sl ([.ref z0, .int (nI rules), .int (nI x)])).length) Slot.unset).toArray = ls at hl ⊢
  have hl : lv_has ls 6 [(0, .ref z0), (1, .int (nI rules)), (2, .int (nI x))] := hl
  refine lv_aload_n hx hb dX12_isLiteral_0 rfl (lv_at hl 0 rfl) ?_
  refine lv_iload_n hx hb dX12_isLiteral_1 rfl (lv_at hl 1 rfl) ?_
  refine lv_iconst (v := nI 1) hx hb dX12_isLiteral_2 (by decide) ?_
  refine mcl_i (As := [.int (nI rules), .int (nI 1)]) (rest := []) ⟨hx, hb, hml, hown, hts⟩ (m_part l dC dI cB cC cI cJ cZ z0 R pl N G B rules 1 hG hru hr1 s.heap.size) (cwV 2 hts kX12_isLiteral_X12_part_192 rfl rfl rfl (by decide +kernel) ⟨Nat.le_of_ble_eq_true rfl, Nat.le_of_ble_eq_true rfl⟩) hK hP hD hS hA rfl rfl hl.1 (lv_room (Nat.le_of_ble_eq_true rfl)) dX12_isLiteral_3 hcs (fun r_5 N_1 G_2 B_3 pl_4 hw H locs hP hD hS => ?_)
  dsimp only at hw
  obtain ⟨e1, e2, e3, e4, hw⟩ := hw
  rw [e1, e2, e3, e4] at hP hD
  subst hw
  refine lv_istore_n (lv' := [(3, .int (nI (CH G rules 1))), (0, .ref z0), (1, .int (nI rules)), (2, .int (nI x))]) hx hb dX12_isLiteral_6 rfl hl (by decide) rfl (fun ls hl => ?_)
  refine lv_iconst (v := nI 0) hx hb dX12_isLiteral_7 (by decide) ?_
  refine lv_istore (lv' := [(4, .int (nI 0)), (3, .int (nI (CH G rules 1))), (0, .ref z0), (1, .int (nI rules)), (2, .int (nI x))]) hx hb dX12_isLiteral_8 hl (by decide) rfl (fun ls hl => ?_)
  refine lv_iconst (v := nI 0) hx hb dX12_isLiteral_10 (by decide) ?_
  refine lv_istore (lv' := [(5, .int (nI 0)), (4, .int (nI 0)), (3, .int (nI (CH G rules 1))), (0, .ref z0), (1, .int (nI rules)), (2, .int (nI x))]) hx hb dX12_isLiteral_11 hl (by decide) rfl (fun ls hl => ?_)
  refine lp_isLiteral hx hb hml hown hts hK hA hG (CH G rules 1) x hx2 hl1 hlc (fun H locs hP hD hS ls hl => ?_) (G 12 (CH G rules 1) + 1) 0 (by omega) (by omega) _ _ hP hD hS ls (lv_sub hl [3, 5, 2, 1, 0] rfl)
  refine lv_iload hx hb dX12_isLiteral_58 (lv_at hl 0 rfl) ?_
  have hz1 : narrow .boolean (.int (nI (LIT G rules x))) = .int (nI (LIT G rules x)) := by
    have g9 := litF_le (G 11) (CH G (CH G rules 1)) x (G 12 (CH G rules 1))
    rcases (show LIT G rules x = 0 ∨ LIT G rules x = 1 by show litF _ _ _ _ = 0 ∨ litF _ _ _ _ = 1; omega) with h | h <;> rw [h] <;> rfl
  exact W.zret (v := (nI (LIT G rules x))) hx hb hr hz1 (fun t ht hW => ⟨⟨(nI (LIT G rules x)), (N, G, B, pl), rfl, ⟨rfl, rfl, rfl, rfl, rfl⟩, by rw [ht]; exact hP, va_K.moved hW.alike hK, hD⟩, hS.F ht⟩) hS.2.2 dX12_isLiteral_60
