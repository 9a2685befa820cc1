def oX12_rootOf : List Cond := [Cond.fieldLink RX12 45 "MacroScopesModel" "aliasFor" "[I"]
def vX12_rootOf : List Cond := .code yX12_rootOf cX12_rootOf 3 (some .int) :: (oX12_rootOf ++ (wsX120))
theorem lkX12_rootOf_f45 : Cond.fieldLink RX12 45 "MacroScopesModel" "aliasFor" "[I" ∈ vX12_rootOf := List.mem_cons_of_mem _ (List.mem_append_left _ (List.mem_of_getElem? (i := 0) rfl))
theorem inX12_rootOf : ∀ w ∈ wsX120, w ∈ vX12_rootOf := fun w h => List.mem_cons_of_mem _ (List.mem_append_right _ (h))
def oX12_isFrom : List Cond := [Cond.methodLink RX12 180 yX12_isName, Cond.instanceMethod yX12_isName, Cond.selects RX12 yX12_isName yX12_isName, Cond.initialized RX12, Cond.fieldLink RX12 35 "MacroScopesModel" "values" "[I", Cond.methodLink RX12 184 yX12_rootOf, Cond.instanceMethod yX12_rootOf, Cond.selects RX12 yX12_rootOf yX12_rootOf]
def vX12_isFrom : List Cond := .code yX12_isFrom cX12_isFrom 3 (some .boolean) :: (oX12_isFrom ++ (vX12_isName ++ (vX12_rootOf ++ (wsX120))))
theorem lkX12_isFrom_f35 : Cond.fieldLink RX12 35 "MacroScopesModel" "values" "[I" ∈ vX12_isFrom := List.mem_cons_of_mem _ (List.mem_append_left _ (List.mem_of_getElem? (i := 4) rfl))
theorem inX12_isFrom : ∀ w ∈ wsX120, w ∈ vX12_isFrom := fun w h => List.mem_cons_of_mem _ (List.mem_append_right _ (List.mem_append_right _ (List.mem_append_right _ (h))))
theorem kX12_isFrom_X12_isName_180 : GoodIn vX12_isFrom (wsV RX12 180 RX12 yX12_isName vX12_isName) := goodIn_sub (fun w h => (List.mem_append.mp h).elim (fun h => List.mem_cons_of_mem _ (List.mem_append_left _ ((by decide +kernel : ∀ w ∈ ([.methodLink RX12 180 yX12_isName, .instanceMethod yX12_isName, .selects RX12 yX12_isName yX12_isName, .initialized RX12] : List Cond), w ∈ oX12_isFrom) w h))) (fun h => List.mem_cons_of_mem _ (List.mem_append_right _ (List.mem_append_left _ (h))))) (by decide +kernel)
theorem kX12_isFrom_X12_rootOf_184 : GoodIn vX12_isFrom (wsV RX12 184 RX12 yX12_rootOf vX12_rootOf) := goodIn_sub (fun w h => (List.mem_append.mp h).elim (fun h => List.mem_cons_of_mem _ (List.mem_append_left _ ((by decide +kernel : ∀ w ∈ ([.methodLink RX12 184 yX12_rootOf, .instanceMethod yX12_rootOf, .selects RX12 yX12_rootOf yX12_rootOf, .initialized RX12] : List Cond), w ∈ oX12_isFrom) w h))) (fun h => List.mem_cons_of_mem _ (List.mem_append_right _ (List.mem_append_right _ (List.mem_append_left _ (h)))))) (by decide +kernel)
def oX12_isBindable : List Cond := [Cond.methodLink RX12 180 yX12_isName, Cond.instanceMethod yX12_isName, Cond.selects RX12 yX12_isName yX12_isName, Cond.initialized RX12, Cond.methodLink RX12 188 yX12_isFrom, Cond.instanceMethod yX12_isFrom, Cond.selects RX12 yX12_isFrom yX12_isFrom]
def vX12_isBindable : List Cond := .code yX12_isBindable cX12_isBindable 2 (some .boolean) :: (oX12_isBindable ++ (vX12_isName ++ (vX12_isFrom ++ (wsX120))))
theorem inX12_isBindable : ∀ w ∈ wsX120, w ∈ vX12_isBindable := fun w h => List.mem_cons_of_mem _ (List.mem_append_right _ (List.mem_append_right _ (List.mem_append_right _ (h))))
theorem kX12_isBindable_X12_isName_180 : GoodIn vX12_isBindable (wsV RX12 180 RX12 yX12_isName vX12_isName) := goodIn_sub (fun w h => (List.mem_append.mp h).elim (fun h => List.mem_cons_of_mem _ (List.mem_append_left _ ((by decide +kernel : ∀ w ∈ ([.methodLink RX12 180 yX12_isName, .instanceMethod yX12_isName, .selects RX12 yX12_isName yX12_isName, .initialized RX12] : List Cond), w ∈ oX12_isBindable) w h))) (fun h => List.mem_cons_of_mem _ (List.mem_append_right _ (List.mem_append_left _ (h))))) (by decide +kernel)
theorem kX12_isBindable_X12_isFrom_188 : GoodIn vX12_isBindable (wsV RX12 188 RX12 yX12_isFrom vX12_isFrom) := goodIn_sub (fun w h => (List.mem_append.mp h).elim (fun h => List.mem_cons_of_mem _ (List.mem_append_left _ ((by decide +kernel : ∀ w ∈ ([.methodLink RX12 188 yX12_isFrom, .instanceMethod yX12_isFrom, .selects RX12 yX12_isFrom yX12_isFrom, .initialized RX12] : List Cond), w ∈ oX12_isBindable) w h))) (fun h => List.mem_cons_of_mem _ (List.mem_append_right _ (List.mem_append_right _ (List.mem_append_left _ (h)))))) (by decide +kernel)
def oX12_isEllipsis : List Cond := [Cond.fieldLink RX12 38 "MacroScopesModel" "counts" "[I", Cond.methodLink RX12 192 yX12_part, Cond.instanceMethod yX12_part, Cond.selects RX12 yX12_part yX12_part, Cond.initialized RX12, Cond.methodLink RX12 188 yX12_isFrom, Cond.instanceMethod yX12_isFrom, Cond.selects RX12 yX12_isFrom yX12_isFrom]
def vX12_isEllipsis : List Cond := .code yX12_isEllipsis cX12_isEllipsis 3 (some .boolean) :: (oX12_isEllipsis ++ (vX12_part ++ (vX12_isFrom ++ (wsX120))))
theorem lkX12_isEllipsis_f38 : Cond.fieldLink RX12 38 "MacroScopesModel" "counts" "[I" ∈ vX12_isEllipsis := List.mem_cons_of_mem _ (List.mem_append_left _ (List.mem_of_getElem? (i := 0) rfl))
theorem inX12_isEllipsis : ∀ w ∈ wsX120, w ∈ vX12_isEllipsis := fun w h => List.mem_cons_of_mem _ (List.mem_append_right _ (List.mem_append_right _ (List.mem_append_right _ (h))))
theorem kX12_isEllipsis_X12_part_192 : GoodIn vX12_isEllipsis (wsV RX12 192 RX12 yX12_part vX12_part) := goodIn_sub (fun w h => (List.mem_append.mp h).elim (fun h => List.mem_cons_of_mem _ (List.mem_append_left _ ((by decide +kernel : ∀ w ∈ ([.methodLink RX12 192 yX12_part, .instanceMethod yX12_part, .selects RX12 yX12_part yX12_part, .initialized RX12] : List Cond), w ∈ oX12_isEllipsis) w h))) (fun h => List.mem_cons_of_mem _ (List.mem_append_right _ (List.mem_append_left _ (h))))) (by decide +kernel)
theorem kX12_isEllipsis_X12_isFrom_188 : GoodIn vX12_isEllipsis (wsV RX12 188 RX12 yX12_isFrom vX12_isFrom) := goodIn_sub (fun w h => (List.mem_append.mp h).elim (fun h => List.mem_cons_of_mem _ (List.mem_append_left _ ((by decide +kernel : ∀ w ∈ ([.methodLink RX12 188 yX12_isFrom, .instanceMethod yX12_isFrom, .selects RX12 yX12_isFrom yX12_isFrom, .initialized RX12] : List Cond), w ∈ oX12_isEllipsis) w h))) (fun h => List.mem_cons_of_mem _ (List.mem_append_right _ (List.mem_append_right _ (List.mem_append_left _ (h)))))) (by decide +kernel)
/-- the name at the end of the chain of aliases -/
def rootF (af : Nat → Nat) : Nat → Nat → Nat
  | 0, x => x
  | n + 1, x => if x < 5000 then x else rootF af n (af (x - 5000))
def ROOT (G : Nat → Nat → Nat) (x : Nat) : Nat := rootF (G 18) (x + 1) x
/-- names: symbols and aliases; an alias stands for an older name -/
def AL (N : Nat → Nat) (G : Nat → Nat → Nat) : Prop := N 6 ≤ 5000 ∧ N 20 ≤ 65000 ∧ ∀ a, a < N 20 → (G 18 a < N 6 ∨ (5000 ≤ G 18 a ∧ G 18 a < 5000 + a))
def nmOK (N : Nat → Nat) (x : Nat) : Prop := x < N 6 ∨ (5000 ≤ x ∧ x < 5000 + N 20)
theorem rootF_eq {N : Nat → Nat} {G : Nat → Nat → Nat} (h : AL N G) : ∀ (n x : Nat), x < n → nmOK N x → ∀ m, x < m → rootF (G 18) n x = rootF (G 18) m x := by
  intro n
  induction n with
  | zero => intro x hx; exact absurd hx (Nat.not_lt_zero x)
  | succ n ih =>
    intro x hx hok m hm
    cases m with
    | zero => exact absurd hm (Nat.not_lt_zero x)
    | succ m =>
      unfold rootF
      by_cases h5 : x < 5000
      · rw [if_pos h5, if_pos h5]
      · rw [if_neg h5, if_neg h5]
        obtain ⟨h6, h20, ha⟩ := h
        have hx' : 5000 ≤ x ∧ x < 5000 + N 20 := by
          rcases hok with q | q
          · omega
          · exact q
        have q := ha (x - 5000) (by omega)
        refine ih _ ?_ ?_ _ ?_
        · rcases q with q | q <;> omega
        · rcases q with q | q
          · exact Or.inl q
          · exact Or.inr (by omega)
        · rcases q with q | q <;> omega
theorem ROOT_lt {G : Nat → Nat → Nat} {x : Nat} (h : x < 5000) : ROOT G x = x := by
  unfold ROOT rootF
  rw [if_pos h]
theorem ROOT_step {N : Nat → Nat} {G : Nat → Nat → Nat} (h : AL N G) {x : Nat} (h5 : 5000 ≤ x) (hok : nmOK N x) : nmOK N (G 18 (x - 5000)) ∧ G 18 (x - 5000) < x ∧ ROOT G (G 18 (x - 5000)) = ROOT G x := by
  have h' := h
  obtain ⟨h6, h20, ha⟩ := h
  have hx' : 5000 ≤ x ∧ x < 5000 + N 20 := by
    rcases hok with q | q
    · omega
    · exact q
  have q := ha (x - 5000) (by omega)
  have hlt : G 18 (x - 5000) < x := by rcases q with q | q <;> omega
  have hok2 : nmOK N (G 18 (x - 5000)) := by
    rcases q with q | q
    · exact Or.inl q
    · exact Or.inr (by omega)
  refine ⟨hok2, hlt, ?_⟩
  have e : ROOT G x = rootF (G 18) x (G 18 (x - 5000)) := by
    unfold ROOT
    rw [rootF, if_neg (by omega)]
  rw [e]
  exact rootF_eq h' _ _ (Nat.lt_succ_self _) hok2 _ hlt
abbrev FROM (G : Nat → Nat → Nat) (f q : Nat) : Prop := G 10 f = 1 ∧ ROOT G (G 11 f) = q
abbrev BND (G : Nat → Nat → Nat) (f : Nat) : Prop := G 10 f = 1 ∧ ROOT G (G 11 f) ≠ 7 ∧ ROOT G (G 11 f) ≠ 8
abbrev ELL (G : Nat → Nat → Nat) (f k : Nat) : Prop := k < G 12 f ∧ FROM G (CH G f k) 7
theorem ROOT_lt2 {N : Nat → Nat} {G : Nat → Nat → Nat} (h : AL N G) : ∀ (n x : Nat), x < n → nmOK N x → ROOT G x < N 6 := by
  intro n
  induction n with
  | zero => intro x hx; exact absurd hx (Nat.not_lt_zero x)
  | succ n ih =>
    intro x hx hok
    by_cases h5 : x < 5000
    · rw [ROOT_lt h5]
      rcases hok with q | q
      · exact q
      · omega
    · obtain ⟨a, b, e⟩ := ROOT_step h (by omega) hok
      rw [← e]
      exact ih _ (by omega) a

set_option maxHeartbeats 4000000 in
set_option maxRecDepth 100000 in
theorem lp_rootOf {p : Program} {l : Launch} {e : Env} {s : State} {m : MethodId} {args : Array Value} {below : List Frame} {meth : Method} {c : Code} {Q : State → Prop} {A : Nat → Prop} {dC : Nat → ClassId} {dI : Nat → Nat → Nat} {cB cC cI cJ cZ : ClassId} {z0 : Nat} {R : Nat → Nat} (hx : p.tables.exec = Jvm.exec) (hb : c.code = cX12_rootOf) (hml : c.maxLocals = 3) (hown : s.vm.findClass RX12 = some m.cls) (hts : ∀ w ∈ vX12_rootOf, w.before args s = true) (hK : va_K (dC, dI) vwCl (TY cB cC cI cJ cZ) s) (hA : ∀ q : Nat, s.heap.size ≤ q → A q) {pl : Int32} {N : Nat → Nat} {G : Nat → Nat → Nat} {B : Nat → Nat → Int32} (hal : AL N G) (x : Nat) (kk : ∀ (y : Nat) (H : Heap) (locs : List Loc), y < 5000 → nmOK N y → ROOT G y = ROOT G x → va_P (dC, dI) vwCl (MW cB cC cI cJ cZ z0 R pl N G B) H → va_D A (MW cB cC cI cJ cZ z0 R pl N G B) → va_S A s.heap H locs → ∀ (ls : Array Slot), lv_has ls 3 [(0, .ref z0), (2, .int (nI y))] → W p l e (headSpec vX12_rootOf { frames := 0, cells := 0, slots := 0, locals := 0 }).room s m args below meth c H locs 0 0 Q (F0 m 23 ls [])) : ∀ (k : Nat) (y : Nat), y < k → nmOK N y → ROOT G y = ROOT G x → ∀ (H : Heap) (locs : List Loc), va_P (dC, dI) vwCl (MW cB cC cI cJ cZ z0 R pl N G B) H → va_D A (MW cB cC cI cJ cZ z0 R pl N G B) → va_S A s.heap H locs → ∀ (ls : Array Slot), lv_has ls 3 [(0, .ref z0), (2, .int (nI y))] → W p l e (headSpec vX12_rootOf { frames := 0, cells := 0, slots := 0, locals := 0 }).room s m args below meth c H locs 0 0 Q (F0 m 2 ls []) := by
  have hcs : 0 + 0 ≤ (0 : Nat) ∧ 0 + 0 ≤ (0 : Nat) := ⟨Nat.le_refl 0, Nat.le_refl 0⟩
  intro k
  induction k with
  | zero =>
    intro y hyk hyo hyr
    exact absurd hyk (Nat.not_lt_zero y)
  | succ k ih =>
    intro y hyk hyo hyr H locs hP hD hS ls hl
    have hy2 : y < 70000 := by
      obtain ⟨q1, q2, q3⟩ := hal
      rcases hyo with q | q <;> omega
    refine lv_iload_n hx hb dX12_rootOf_2 rfl (lv_at hl 1 rfl) ?_
    refine lv_sipush (v := nI 5000) hx hb dX12_rootOf_3 (by decide) ?_
    refine bn_lt (tgt := 23) hx hb (by omega) (by omega) dX12_rootOf_6 (by decide) (fun c1 => ?_) (fun c1 => ?_)
    · exact kk y H locs c1 hyo hyr hP hD hS ls (lv_sub hl [0, 1] rfl)
    · obtain ⟨t1, t2, t3⟩ := ROOT_step hal c1 hyo
      have t4 : y - 5000 < 65000 := by omega
      refine lv_aload_n hx hb dX12_rootOf_9 rfl (lv_at hl 0 rfl) ?_
      refine mg_18 hx hb hts inX12_rootOf hown hK hP (hts _ lkX12_rootOf_f45) dX12_rootOf_10 ?_
      refine lv_iload_n hx hb dX12_rootOf_13 rfl (lv_at hl 1 rfl) ?_
      refine lv_sipush (v := nI 5000) hx hb dX12_rootOf_14 (by decide) ?_
      refine lv_isub hx hb dX12_rootOf_17 ?_
      refine tp_i (pk_sub (a := y) (b := 5000) (by omega)) ?_
      refine ml_18 hx hb hK hP (by omega) dX12_rootOf_18 ?_
      refine lv_istore_n (lv' := [(2, .int (nI (G 18 (y - 5000)))), (0, .ref z0)]) hx hb dX12_rootOf_19 rfl hl (by decide) rfl (fun ls hl => ?_)
      refine lv_goto (tgt := 2) hx hb dX12_rootOf_20 (by decide) ?_
      exact ih _ (by omega) t1 (t3.trans hyr) _ _ hP hD hS ls (lv_sub hl [1, 0] rfl)

set_option maxHeartbeats 4000000 in
set_option maxRecDepth 100000 in
/-- rootOf -/
theorem m_rootOf (l : Launch) (dC : Nat → ClassId) (dI : Nat → Nat → Nat) (cB cC cI cJ cZ : ClassId) (z0 : Nat) (R : Nat → Nat) (pl : Int32) (N : Nat → Nat) (G : Nat → Nat → Nat) (B : Nat → Nat → Int32) (x : Nat) (hG : ∀ k i, G k i < 1048576) (hal : AL N G) (hxo : nmOK N x) (s0 : Nat) : Met l yX12_rootOf vX12_rootOf { frames := 0, cells := 0, slots := 0, locals := 0 } (va_Pc [.ref z0, .int (nI x)] (mPre dC dI cB cC cI cJ cZ z0 R pl N G B s0)) (va_Qi (fun (r : Int32) (u : ((Nat → Nat) × (Nat → Nat → Nat) × (Nat → Nat → Int32) × Int32)) => match u with | (N1, G1, B1, pl1) => N1 = N ∧ G1 = G ∧ B1 = B ∧ pl1 = pl ∧ r = nI (ROOT G x)) (mPost dC dI cB cC cI cJ cZ z0 R (va_A (MW cB cC cI cJ cZ z0 R pl N G B) s0)) (va_A (MW cB cC cI cJ cZ z0 R pl N G B) s0)) 0 0 (va_A (MW cB cC cI cJ cZ z0 R pl N G B) s0) := by
  refine Met.ofW (cc := cX12_rootOf) (maxL := 3) (ret := (some .int)) (by decide) rfl ?_
  intro p e s m args below meth c s₁ B9 hml hv
  obtain ⟨rfl, hsz, hP, hK, hD0⟩ := hv
  have hx := B9.exec
  have hb := B9.bytes
  have hr := B9.returns
  have hts := atoms_spec (ws := vX12_rootOf) B9.pre
  have hown : s.vm.findClass RX12 = some m.cls := findClass_of_methodNamed B9.named
  have hlocks := B9.notSynchronized
  subst hsz
  have hD := hD0.self (sz := s.heap.size)
  generalize hAe : va_A (MW cB cC cI cJ cZ z0 R pl N G B) s.heap.size = A at hD ⊢
  have hA : ∀ q : Nat, s.heap.size ≤ q → A q := fun q h => by rw [← hAe]; exact Or.inr h
  have hS : va_S A s.heap s.heap [] := va_S.rf
  have hcs : 0 + 0 ≤ (0 : Nat) ∧ 0 + 0 ≤ (0 : Nat) := ⟨Nat.le_refl 0, Nat.le_refl 0⟩
  have hl := lv_entry ([.ref z0, .int (nI x)]) (n := 3) (Nat.le_of_ble_eq_true rfl)
  rw [lg_entry_eq]
  generalize (lg_sl ([.ref z0, .int (nI x)]) ++ List.replicate (3 - (lg_sl ([.ref z0, .int (nI x)])).length) Slot.unset).toArray = ls at hl ⊢
  have hl : lv_has ls 3 [(0, .ref z0), (1, .int (nI x))] := hl
  refine lv_iload_n hx hb dX12_rootOf_0 rfl (lv_at hl 1 rfl) ?_
  refine lv_istore_n (lv' := [(2, .int (nI x)), (0, .ref z0), (1, .int (nI x))]) hx hb dX12_rootOf_1 rfl hl (by decide) rfl (fun ls hl => ?_)
  refine lp_rootOf hx hb hml hown hts hK hA hal x (fun y H locs h5 hyo hyr hP hD hS ls hl => ?_) (x + 1) x (Nat.lt_succ_self x) hxo rfl _ _ hP hD hS ls (lv_sub hl [1, 0] rfl)
  refine lv_iload_n hx hb dX12_rootOf_23 rfl (lv_at hl 1 rfl) ?_
  exact W.iret (v := (nI y)) hx hb hr (fun t ht hW => ⟨⟨(nI y), (N, G, B, pl), rfl, ⟨rfl, rfl, rfl, rfl, by rw [← hyr, ROOT_lt h5]⟩, by rw [ht]; exact hP, va_K.moved hW.alike hK, hD⟩, hS.F ht⟩) hS.2.2 dX12_rootOf_24

set_option maxHeartbeats 4000000 in
set_option maxRecDepth 100000 in
/-- isFrom -/
theorem m_isFrom (l : Launch) (dC : Nat → ClassId) (dI : Nat → Nat → Nat) (cB cC cI cJ cZ : ClassId) (z0 : Nat) (R : Nat → Nat) (pl : Int32) (N : Nat → Nat) (G : Nat → Nat → Nat) (B : Nat → Nat → Int32) (f q : Nat) (hG : ∀ k i, G k i < 1048576) (hal : AL N G) (hf : f < 90000) (hfn : G 10 f = 1 → nmOK N (G 11 f)) (hq : q < 5000) (s0 : Nat) : Met l yX12_isFrom vX12_isFrom { frames := 1, cells := 0, slots := 0, locals := 22 } (va_Pc [.ref z0, .int (nI f), .int (nI q)] (mPre dC dI cB cC cI cJ cZ z0 R pl N G B s0)) (va_Qi (fun (r : Int32) (u : ((Nat → Nat) × (Nat → Nat → Nat) × (Nat → Nat → Int32) × Int32)) => match u with | (N1, G1, B1, pl1) => N1 = N ∧ G1 = G ∧ B1 = B ∧ pl1 = pl ∧ r = nI (if FROM G f q then 1 else 0)) (mPost dC dI cB cC cI cJ cZ z0 R (va_A (MW cB cC cI cJ cZ z0 R pl N G B) s0)) (va_A (MW cB cC cI cJ cZ z0 R pl N G B) s0)) 0 0 (va_A (MW cB cC cI cJ cZ z0 R pl N G B) s0) := by
  refine Met.ofW (cc := cX12_isFrom) (maxL := 3) (ret := (some .boolean)) (by decide) rfl ?_
  intro p e s m args below meth c s₁ B9 hml hv
  obtain ⟨rfl, hsz, hP, hK, hD0⟩ := hv
  have hx := B9.exec
  have hb := B9.bytes
  have hr := B9.returns
  have hts := atoms_spec (ws := vX12_isFrom) B9.pre
  have hown : s.vm.findClass RX12 = some m.cls := findClass_of_methodNamed B9.named
  have hlocks := B9.notSynchronized
  subst hsz
  have hD := hD0.self (sz := s.heap.size)
  generalize hAe : va_A (MW cB cC cI cJ cZ z0 R pl N G B) s.heap.size = A at hD ⊢
  have hA : ∀ q : Nat, s.heap.size ≤ q → A q := fun q h => by rw [← hAe]; exact Or.inr h
  have hS : va_S A s.heap s.heap [] := va_S.rf
  have hcs : 0 + 0 ≤ (0 : Nat) ∧ 0 + 0 ≤ (0 : Nat) := ⟨Nat.le_refl 0, Nat.le_refl 0⟩
  have hl := lv_entry ([.ref z0, .int (nI f), .int (nI q)]) (n := 3) (Nat.le_of_ble_eq_true rfl)
  rw [lg_entry_eq]
  generalize (lg_sl ([.ref z0, .int (nI f), .int (nI q)]) ++ List.replicate (3 - (lg_sl ([.ref z0, .int (nI f), .int (nI q)])).length) Slot.unset).toArray = ls at hl ⊢
  have hl : lv_has ls 3 [(0, .ref z0), (1, .int (nI f)), (2, .int (nI q))] := hl
  refine lv_aload_n hx hb dX12_isFrom_0 rfl (lv_at hl 0 rfl) ?_
  refine lv_iload_n hx hb dX12_isFrom_1 rfl (lv_at hl 1 rfl) ?_
  refine mcl_i (As := [.int (nI f)]) (rest := []) ⟨hx, hb, hml, hown, hts⟩ (m_isName l dC dI cB cC cI cJ cZ z0 R pl N G B f hG hf s.heap.size) (cwV 1 hts kX12_isFrom_X12_isName_180 rfl rfl rfl (by decide +kernel) ⟨Nat.le_of_ble_eq_true rfl, Nat.le_of_ble_eq_true rfl⟩) hK hP hD hS hA rfl rfl hl.1 (lv_room (Nat.le_of_ble_eq_true rfl)) dX12_isFrom_2 hcs (fun r_5 N_1 G_2 B_3 pl_4 hw H locs hP hD hS => ?_)
  dsimp only at hw
  obtain ⟨e1, e2, e3, e4, hw⟩ := hw
  rw [e1, e2, e3, e4] at hP hD
  by_cases c1 : G 10 f = 1
  · rw [if_pos c1] at hw
    subst hw
    refine bz_eq (tgt := 26) hx hb (by omega) dX12_isFrom_5 (by decide) (fun q9 => absurd q9 (by omega)) (fun c => ?_)
    refine lv_aload_n hx hb dX12_isFrom_8 rfl (lv_at hl 0 rfl) ?_
    refine lv_aload_n hx hb dX12_isFrom_9 rfl (lv_at hl 0 rfl) ?_
    refine mg_11 hx hb hts inX12_isFrom hown hK hP (hts _ lkX12_isFrom_f35) dX12_isFrom_10 ?_
    refine lv_iload_n hx hb dX12_isFrom_13 rfl (lv_at hl 1 rfl) ?_
    refine ml_11 hx hb hK hP (by omega) dX12_isFrom_14 ?_
    refine mcl_i (As := [.int (nI (G 11 f))]) (rest := []) ⟨hx, hb, hml, hown, hts⟩ (m_rootOf l dC dI cB cC cI cJ cZ z0 R pl N G B (G 11 f) hG hal (hfn c1) H.size) (cwV 1 hts kX12_isFrom_X12_rootOf_184 rfl rfl rfl (by decide +kernel) ⟨Nat.le_of_ble_eq_true rfl, Nat.le_of_ble_eq_true rfl⟩) hK hP hD hS hA rfl rfl hl.1 (lv_room (Nat.le_of_ble_eq_true rfl)) dX12_isFrom_15 hcs (fun r_10 N_6 G_7 B_8 pl_9 hw H locs hP hD hS => ?_)
    dsimp only at hw
    obtain ⟨e1, e2, e3, e4, hw⟩ := hw
    rw [e1, e2, e3, e4] at hP hD
    subst hw
    have t1 := ROOT_lt2 hal _ _ (Nat.lt_succ_self _) (hfn c1)
    have t2 := hal.1
    refine lv_iload_n hx hb dX12_isFrom_18 rfl (lv_at hl 2 rfl) ?_
    refine bn_ne (tgt := 26) hx hb (by omega) (by omega) dX12_isFrom_19 (by decide) (fun c2 => ?_) (fun c2 => ?_)
    · refine lv_iconst (v := nI 0) hx hb dX12_isFrom_26 (by decide) ?_
      exact W.zret (v := (nI 0)) hx hb hr (by first | rfl | decide) (fun t ht hW => ⟨⟨(nI 0), (N, G, B, pl), rfl, ⟨rfl, rfl, rfl, rfl, by rw [if_neg (fun h => c2 h.2)]⟩, by rw [ht]; exact hP, va_K.moved hW.alike hK, hD⟩, hS.F ht⟩) hS.2.2 dX12_isFrom_27
    · refine lv_iconst (v := nI 1) hx hb dX12_isFrom_22 (by decide) ?_
      refine lv_goto (tgt := 27) hx hb dX12_isFrom_23 (by decide) ?_
      exact W.zret (v := (nI 1)) hx hb hr (by first | rfl | decide) (fun t ht hW => ⟨⟨(nI 1), (N, G, B, pl), rfl, ⟨rfl, rfl, rfl, rfl, by rw [if_pos ⟨c1, c2⟩]⟩, by rw [ht]; exact hP, va_K.moved hW.alike hK, hD⟩, hS.F ht⟩) hS.2.2 dX12_isFrom_27
  · rw [if_neg c1] at hw
    subst hw
    refine bz_eq (tgt := 26) hx hb (by omega) dX12_isFrom_5 (by decide) (fun c => ?_) (fun q9 => absurd q9 (by omega))
    refine lv_iconst (v := nI 0) hx hb dX12_isFrom_26 (by decide) ?_
    exact W.zret (v := (nI 0)) hx hb hr (by first | rfl | decide) (fun t ht hW => ⟨⟨(nI 0), (N, G, B, pl), rfl, ⟨rfl, rfl, rfl, rfl, by rw [if_neg (fun h => c1 h.1)]⟩, by rw [ht]; exact hP, va_K.moved hW.alike hK, hD⟩, hS.F ht⟩) hS.2.2 dX12_isFrom_27

set_option maxHeartbeats 4000000 in
set_option maxRecDepth 100000 in
/-- isBindable -/
theorem m_isBindable (l : Launch) (dC : Nat → ClassId) (dI : Nat → Nat → Nat) (cB cC cI cJ cZ : ClassId) (z0 : Nat) (R : Nat → Nat) (pl : Int32) (N : Nat → Nat) (G : Nat → Nat → Nat) (B : Nat → Nat → Int32) (f : Nat) (hG : ∀ k i, G k i < 1048576) (hal : AL N G) (hf : f < 90000) (hfn : G 10 f = 1 → nmOK N (G 11 f)) (s0 : Nat) : Met l yX12_isBindable vX12_isBindable { frames := 2, cells := 0, slots := 0, locals := 44 } (va_Pc [.ref z0, .int (nI f)] (mPre dC dI cB cC cI cJ cZ z0 R pl N G B s0)) (va_Qi (fun (r : Int32) (u : ((Nat → Nat) × (Nat → Nat → Nat) × (Nat → Nat → Int32) × Int32)) => match u with | (N1, G1, B1, pl1) => N1 = N ∧ G1 = G ∧ B1 = B ∧ pl1 = pl ∧ r = nI (if BND G f then 1 else 0)) (mPost dC dI cB cC cI cJ cZ z0 R (va_A (MW cB cC cI cJ cZ z0 R pl N G B) s0)) (va_A (MW cB cC cI cJ cZ z0 R pl N G B) s0)) 0 0 (va_A (MW cB cC cI cJ cZ z0 R pl N G B) s0) := by
  refine Met.ofW (cc := cX12_isBindable) (maxL := 2) (ret := (some .boolean)) (by decide) rfl ?_
  intro p e s m args below meth c s₁ B9 hml hv
  obtain ⟨rfl, hsz, hP, hK, hD0⟩ := hv
  have hx := B9.exec
  have hb := B9.bytes
  have hr := B9.returns
  have hts := atoms_spec (ws := vX12_isBindable) B9.pre
  have hown : s.vm.findClass RX12 = some m.cls := findClass_of_methodNamed B9.named
  have hlocks := B9.notSynchronized
  subst hsz
  have hD := hD0.self (sz := s.heap.size)
  generalize hAe : va_A (MW cB cC cI cJ cZ z0 R pl N G B) s.heap.size = A at hD ⊢
  have hA : ∀ q : Nat, s.heap.size ≤ q → A q := fun q h => by rw [← hAe]; exact Or.inr h
  have hS : va_S A s.heap s.heap [] := va_S.rf
  have hcs : 0 + 0 ≤ (0 : Nat) ∧ 0 + 0 ≤ (0 : Nat) := ⟨Nat.le_refl 0, Nat.le_refl 0⟩
  have hl := lv_entry ([.ref z0, .int (nI f)]) (n := 2) (Nat.le_of_ble_eq_true rfl)
  rw [lg_entry_eq]
  generalize (lg_sl ([.ref z0, .int (nI f)]) ++ List.replicate (2 - (lg_sl ([.ref z0, .int (nI f)])).length) Slot.unset).toArray = ls at hl ⊢
  have hl : lv_has ls 2 [(0, .ref z0), (1, .int (nI f))] := hl
  refine lv_aload_n hx hb dX12_isBindable_0 rfl (lv_at hl 0 rfl) ?_
  refine lv_iload_n hx hb dX12_isBindable_1 rfl (lv_at hl 1 rfl) ?_
  refine mcl_i (As := [.int (nI f)]) (rest := []) ⟨hx, hb, hml, hown, hts⟩ (m_isName l dC dI cB cC cI cJ cZ z0 R pl N G B f hG hf s.heap.size) (cwV 1 hts kX12_isBindable_X12_isName_180 rfl rfl rfl (by decide +kernel) ⟨Nat.le_of_ble_eq_true rfl, Nat.le_of_ble_eq_true rfl⟩) hK hP hD hS hA rfl rfl hl.1 (lv_room (Nat.le_of_ble_eq_true rfl)) dX12_isBindable_2 hcs (fun r_5 N_1 G_2 B_3 pl_4 hw H locs hP hD hS => ?_)
  dsimp only at hw
  obtain ⟨e1, e2, e3, e4, hw⟩ := hw
  rw [e1, e2, e3, e4] at hP hD
  by_cases c1 : G 10 f = 1
  · rw [if_pos c1] at hw
    subst hw
    refine bz_eq (tgt := 32) hx hb (by omega) dX12_isBindable_5 (by decide) (fun q9 => absurd q9 (by omega)) (fun c => ?_)
    refine lv_aload_n hx hb dX12_isBindable_8 rfl (lv_at hl 0 rfl) ?_
    refine lv_iload_n hx hb dX12_isBindable_9 rfl (lv_at hl 1 rfl) ?_
    refine lv_bipush (v := nI 7) hx hb dX12_isBindable_10 (by decide) ?_
    refine mcl_i (As := [.int (nI f), .int (nI 7)]) (rest := []) ⟨hx, hb, hml, hown, hts⟩ (m_isFrom l dC dI cB cC cI cJ cZ z0 R pl N G B f 7 hG hal hf hfn (by decide) H.size) (cwV 2 hts kX12_isBindable_X12_isFrom_188 rfl rfl rfl (by decide +kernel) ⟨Nat.le_of_ble_eq_true rfl, Nat.le_of_ble_eq_true rfl⟩) hK hP hD hS hA rfl rfl hl.1 (lv_room (Nat.le_of_ble_eq_true rfl)) dX12_isBindable_12 hcs (fun r_10 N_6 G_7 B_8 pl_9 hw H locs hP hD hS => ?_)
    dsimp only at hw
    obtain ⟨e1, e2, e3, e4, hw⟩ := hw
    rw [e1, e2, e3, e4] at hP hD
    by_cases c2 : FROM G f 7
    · rw [if_pos c2] at hw
      subst hw
      refine bz_ne (tgt := 32) hx hb (by omega) dX12_isBindable_15 (by decide) (fun c => ?_) (fun q9 => absurd q9 (by omega))
      refine lv_iconst (v := nI 0) hx hb dX12_isBindable_32 (by decide) ?_
      exact W.zret (v := (nI 0)) hx hb hr (by first | rfl | decide) (fun t ht hW => ⟨⟨(nI 0), (N, G, B, pl), rfl, ⟨rfl, rfl, rfl, rfl, by rw [if_neg (fun h => h.2.1 c2.2)]⟩, by rw [ht]; exact hP, va_K.moved hW.alike hK, hD⟩, hS.F ht⟩) hS.2.2 dX12_isBindable_33
    · rw [if_neg c2] at hw
      subst hw
      refine bz_ne (tgt := 32) hx hb (by omega) dX12_isBindable_15 (by decide) (fun q9 => absurd q9 (by omega)) (fun c => ?_)
      refine lv_aload_n hx hb dX12_isBindable_18 rfl (lv_at hl 0 rfl) ?_
      refine lv_iload_n hx hb dX12_isBindable_19 rfl (lv_at hl 1 rfl) ?_
      refine lv_bipush (v := nI 8) hx hb dX12_isBindable_20 (by decide) ?_
      refine mcl_i (As := [.int (nI f), .int (nI 8)]) (rest := []) ⟨hx, hb, hml, hown, hts⟩ (m_isFrom l dC dI cB cC cI cJ cZ z0 R pl N G B f 8 hG hal hf hfn (by decide) H.size) (cwV 2 hts kX12_isBindable_X12_isFrom_188 rfl rfl rfl (by decide +kernel) ⟨Nat.le_of_ble_eq_true rfl, Nat.le_of_ble_eq_true rfl⟩) hK hP hD hS hA rfl rfl hl.1 (lv_room (Nat.le_of_ble_eq_true rfl)) dX12_isBindable_22 hcs (fun r_15 N_11 G_12 B_13 pl_14 hw H locs hP hD hS => ?_)
      dsimp only at hw
      obtain ⟨e1, e2, e3, e4, hw⟩ := hw
      rw [e1, e2, e3, e4] at hP hD
      by_cases c3 : FROM G f 8
      · rw [if_pos c3] at hw
        subst hw
        refine bz_ne (tgt := 32) hx hb (by omega) dX12_isBindable_25 (by decide) (fun c => ?_) (fun q9 => absurd q9 (by omega))
        refine lv_iconst (v := nI 0) hx hb dX12_isBindable_32 (by decide) ?_
        exact W.zret (v := (nI 0)) hx hb hr (by first | rfl | decide) (fun t ht hW => ⟨⟨(nI 0), (N, G, B, pl), rfl, ⟨rfl, rfl, rfl, rfl, by rw [if_neg (fun h => h.2.2 c3.2)]⟩, by rw [ht]; exact hP, va_K.moved hW.alike hK, hD⟩, hS.F ht⟩) hS.2.2 dX12_isBindable_33
      · rw [if_neg c3] at hw
        subst hw
        refine bz_ne (tgt := 32) hx hb (by omega) dX12_isBindable_25 (by decide) (fun q9 => absurd q9 (by omega)) (fun c => ?_)
        refine lv_iconst (v := nI 1) hx hb dX12_isBindable_28 (by decide) ?_
        refine lv_goto (tgt := 33) hx hb dX12_isBindable_29 (by decide) ?_
        exact W.zret (v := (nI 1)) hx hb hr (by first | rfl | decide) (fun t ht hW => ⟨⟨(nI 1), (N, G, B, pl), rfl, ⟨rfl, rfl, rfl, rfl, by rw [if_pos ⟨c1, fun h => c2 ⟨c1, h⟩, fun h => c3 ⟨c1, h⟩⟩]⟩, by rw [ht]; exact hP, va_K.moved hW.alike hK, hD⟩, hS.F ht⟩) hS.2.2 dX12_isBindable_33
  · rw [if_neg c1] at hw
    subst hw
    refine bz_eq (tgt := 32) hx hb (by omega) dX12_isBindable_5 (by decide) (fun c => ?_) (fun q9 => absurd q9 (by omega))
    refine lv_iconst (v := nI 0) hx hb dX12_isBindable_32 (by decide) ?_
    exact W.zret (v := (nI 0)) hx hb hr (by first | rfl | decide) (fun t ht hW => ⟨⟨(nI 0), (N, G, B, pl), rfl, ⟨rfl, rfl, rfl, rfl, by rw [if_neg (fun h => c1 h.1)]⟩, by rw [ht]; exact hP, va_K.moved hW.alike hK, hD⟩, hS.F ht⟩) hS.2.2 dX12_isBindable_33

set_option maxHeartbeats 4000000 in
set_option maxRecDepth 100000 in
/-- isEllipsis -/
theorem m_isEllipsis (l : Launch) (dC : Nat → ClassId) (dI : Nat → Nat → Nat) (cB cC cI cJ cZ : ClassId) (z0 : Nat) (R : Nat → Nat) (pl : Int32) (N : Nat → Nat) (G : Nat → Nat → Nat) (B : Nat → Nat → Int32) (f q : Nat) (hG : ∀ k i, G k i < 1048576) (hal : AL N G) (hf : f < 90000) (hq : q < 1048576) (hch : q < G 12 f → G 11 f + q < 90000 ∧ CH G f q < 90000 ∧ (G 10 (CH G f q) = 1 → nmOK N (G 11 (CH G f q)))) (s0 : Nat) : Met l yX12_isEllipsis vX12_isEllipsis { frames := 2, cells := 0, slots := 0, locals := 44 } (va_Pc [.ref z0, .int (nI f), .int (nI q)] (mPre dC dI cB cC cI cJ cZ z0 R pl N G B s0)) (va_Qi (fun (r : Int32) (u : ((Nat → Nat) × (Nat → Nat → Nat) × (Nat → Nat → Int32) × Int32)) => match u with | (N1, G1, B1, pl1) => N1 = N ∧ G1 = G ∧ B1 = B ∧ pl1 = pl ∧ r = nI (if ELL G f q then 1 else 0)) (mPost dC dI cB cC cI cJ cZ z0 R (va_A (MW cB cC cI cJ cZ z0 R pl N G B) s0)) (va_A (MW cB cC cI cJ cZ z0 R pl N G B) s0)) 0 0 (va_A (MW cB cC cI cJ cZ z0 R pl N G B) s0) := by
  refine Met.ofW (cc := cX12_isEllipsis) (maxL := 3) (ret := (some .boolean)) (by decide) rfl ?_
  intro p e s m args below meth c s₁ B9 hml hv
  obtain ⟨rfl, hsz, hP, hK, hD0⟩ := hv
  have hx := B9.exec
  have hb := B9.bytes
  have hr := B9.returns
  have hts := atoms_spec (ws := vX12_isEllipsis) B9.pre
  have hown : s.vm.findClass RX12 = some m.cls := findClass_of_methodNamed B9.named
  have hlocks := B9.notSynchronized
  subst hsz
  have hD := hD0.self (sz := s.heap.size)
  generalize hAe : va_A (MW cB cC cI cJ cZ z0 R pl N G B) s.heap.size = A at hD ⊢
  have hA : ∀ q : Nat, s.heap.size ≤ q → A q := fun q h => by rw [← hAe]; exact Or.inr h
  have hS : va_S A s.heap s.heap [] := va_S.rf
  have hcs : 0 + 0 ≤ (0 : Nat) ∧ 0 + 0 ≤ (0 : Nat) := ⟨Nat.le_refl 0, Nat.le_refl 0⟩
  have hl := lv_entry ([.ref z0, .int (nI f), .int (nI q)]) (n := 3) (Nat.le_of_ble_eq_true rfl)
  rw [lg_entry_eq]
  generalize (lg_sl ([.ref z0, .int (nI f), .int (nI q)]) ++ List.replicate (3 - (lg_sl ([.ref z0, .int (nI f), .int (nI q)])).length) Slot.unset).toArray = ls at hl ⊢
  have hl : lv_has ls 3 [(0, .ref z0), (1, .int (nI f)), (2, .int (nI q))] := hl
  have g1 := hG 12 f
  refine lv_iload_n hx hb dX12_isEllipsis_0 rfl (lv_at hl 2 rfl) ?_
  refine lv_aload_n hx hb dX12_isEllipsis_1 rfl (lv_at hl 0 rfl) ?_
  refine mg_12 hx hb hts inX12_isEllipsis hown hK hP (hts _ lkX12_isEllipsis_f38) dX12_isEllipsis_2 ?_
  refine lv_iload_n hx hb dX12_isEllipsis_5 rfl (lv_at hl 1 rfl) ?_
  refine ml_12 hx hb hK hP (by omega) dX12_isEllipsis_6 ?_
  refine bn_ge (tgt := 29) hx hb (by omega) (by omega) dX12_isEllipsis_7 (by decide) (fun c1 => ?_) (fun c1 => ?_)
  · refine lv_iconst (v := nI 0) hx hb dX12_isEllipsis_29 (by decide) ?_
    exact W.zret (v := (nI 0)) hx hb hr (by first | rfl | decide) (fun t ht hW => ⟨⟨(nI 0), (N, G, B, pl), rfl, ⟨rfl, rfl, rfl, rfl, by rw [if_neg (fun h => absurd h.1 (by omega))]⟩, by rw [ht]; exact hP, va_K.moved hW.alike hK, hD⟩, hS.F ht⟩) hS.2.2 dX12_isEllipsis_30
  · obtain ⟨t1, t2, t3⟩ := hch c1
    refine lv_aload_n hx hb dX12_isEllipsis_10 rfl (lv_at hl 0 rfl) ?_
    refine lv_aload_n hx hb dX12_isEllipsis_11 rfl (lv_at hl 0 rfl) ?_
    refine lv_iload_n hx hb dX12_isEllipsis_12 rfl (lv_at hl 1 rfl) ?_
    refine lv_iload_n hx hb dX12_isEllipsis_13 rfl (lv_at hl 2 rfl) ?_
    refine mcl_i (As := [.int (nI f), .int (nI q)]) (rest := [.ref z0]) ⟨hx, hb, hml, hown, hts⟩ (m_part l dC dI cB cC cI cJ cZ z0 R pl N G B f q hG hf t1 s.heap.size) (cwV 2 hts kX12_isEllipsis_X12_part_192 rfl rfl rfl (by decide +kernel) ⟨Nat.le_of_ble_eq_true rfl, Nat.le_of_ble_eq_true rfl⟩) hK hP hD hS hA rfl rfl hl.1 (lv_room (Nat.le_of_ble_eq_true rfl)) dX12_isEllipsis_14 hcs (fun r_5 N_1 G_2 B_3 pl_4 hw H locs hP hD hS => ?_)
    dsimp only at hw
    obtain ⟨e1, e2, e3, e4, hw⟩ := hw
    rw [e1, e2, e3, e4] at hP hD
    subst hw
    refine lv_bipush (v := nI 7) hx hb dX12_isEllipsis_17 (by decide) ?_
    refine mcl_i (As := [.int (nI (CH G f q)), .int (nI 7)]) (rest := []) ⟨hx, hb, hml, hown, hts⟩ (m_isFrom l dC dI cB cC cI cJ cZ z0 R pl N G B (CH G f q) 7 hG hal t2 t3 (by decide) H.size) (cwV 2 hts kX12_isEllipsis_X12_isFrom_188 rfl rfl rfl (by decide +kernel) ⟨Nat.le_of_ble_eq_true rfl, Nat.le_of_ble_eq_true rfl⟩) hK hP hD hS hA rfl rfl hl.1 (lv_room (Nat.le_of_ble_eq_true rfl)) dX12_isEllipsis_19 hcs (fun r_10 N_6 G_7 B_8 pl_9 hw H locs hP hD hS => ?_)
    dsimp only at hw
    obtain ⟨e1, e2, e3, e4, hw⟩ := hw
    rw [e1, e2, e3, e4] at hP hD
    by_cases c2 : FROM G (CH G f q) 7
    · rw [if_pos c2] at hw
      subst hw
      refine bz_eq (tgt := 29) hx hb (by omega) dX12_isEllipsis_22 (by decide) (fun q9 => absurd q9 (by omega)) (fun c => ?_)
      refine lv_iconst (v := nI 1) hx hb dX12_isEllipsis_25 (by decide) ?_
      refine lv_goto (tgt := 30) hx hb dX12_isEllipsis_26 (by decide) ?_
      exact W.zret (v := (nI 1)) hx hb hr (by first | rfl | decide) (fun t ht hW => ⟨⟨(nI 1), (N, G, B, pl), rfl, ⟨rfl, rfl, rfl, rfl, by rw [if_pos ⟨c1, c2⟩]⟩, by rw [ht]; exact hP, va_K.moved hW.alike hK, hD⟩, hS.F ht⟩) hS.2.2 dX12_isEllipsis_30
    · rw [if_neg c2] at hw
      subst hw
      refine bz_eq (tgt := 29) hx hb (by omega) dX12_isEllipsis_22 (by decide) (fun c => ?_) (fun q9 => absurd q9 (by omega))
      refine lv_iconst (v := nI 0) hx hb dX12_isEllipsis_29 (by decide) ?_
      exact W.zret (v := (nI 0)) hx hb hr (by first | rfl | decide) (fun t ht hW => ⟨⟨(nI 0), (N, G, B, pl), rfl, ⟨rfl, rfl, rfl, rfl, by rw [if_neg (fun h => c2 h.2)]⟩, by rw [ht]; exact hP, va_K.moved hW.alike hK, hD⟩, hS.F ht⟩) hS.2.2 dX12_isEllipsis_30
