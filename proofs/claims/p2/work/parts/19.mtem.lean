def oX12_isTemplate : List Cond := [Cond.methodLink RX12 192 yX12_part, Cond.instanceMethod yX12_part, Cond.selects RX12 yX12_part yX12_part, Cond.initialized RX12, Cond.methodLink RX12 318 yX12_lookAt, Cond.instanceMethod yX12_lookAt, Cond.selects RX12 yX12_lookAt yX12_lookAt, Cond.methodLink RX12 321 yX12_isEllipsis, Cond.instanceMethod yX12_isEllipsis, Cond.selects RX12 yX12_isEllipsis yX12_isEllipsis, Cond.methodLink RX12 333 yX12_hasRepeated, Cond.instanceMethod yX12_hasRepeated, Cond.selects RX12 yX12_hasRepeated yX12_hasRepeated, Cond.fieldLink RX12 38 "MacroScopesModel" "counts" "[I", Cond.fieldLink RX12 306 "MacroScopesModel" "looks" "I", Cond.fieldLink RX12 98 "MacroScopesModel" "look" "[I", Cond.fieldLink RX12 101 "MacroScopesModel" "lookHow" "[I", Cond.methodLink RX12 330 yX12_isRepeated, Cond.instanceMethod yX12_isRepeated, Cond.selects RX12 yX12_isRepeated yX12_isRepeated, Cond.methodLink RX12 188 yX12_isFrom, Cond.instanceMethod yX12_isFrom, Cond.selects RX12 yX12_isFrom yX12_isFrom]
def vX12_isTemplate : List Cond := .code yX12_isTemplate cX12_isTemplate 8 (some .boolean) :: (oX12_isTemplate ++ (vX12_part ++ (vX12_lookAt ++ (vX12_isEllipsis ++ (vX12_hasRepeated ++ (vX12_isRepeated ++ (vX12_isFrom ++ (wsX120))))))))
theorem lkX12_isTemplate_f38 : Cond.fieldLink RX12 38 "MacroScopesModel" "counts" "[I" ∈ vX12_isTemplate := List.mem_cons_of_mem _ (List.mem_append_left _ (List.mem_of_getElem? (i := 13) rfl))
theorem lkX12_isTemplate_f306 : Cond.fieldLink RX12 306 "MacroScopesModel" "looks" "I" ∈ vX12_isTemplate := List.mem_cons_of_mem _ (List.mem_append_left _ (List.mem_of_getElem? (i := 14) rfl))
theorem lkX12_isTemplate_f98 : Cond.fieldLink RX12 98 "MacroScopesModel" "look" "[I" ∈ vX12_isTemplate := List.mem_cons_of_mem _ (List.mem_append_left _ (List.mem_of_getElem? (i := 15) rfl))
theorem lkX12_isTemplate_f101 : Cond.fieldLink RX12 101 "MacroScopesModel" "lookHow" "[I" ∈ vX12_isTemplate := List.mem_cons_of_mem _ (List.mem_append_left _ (List.mem_of_getElem? (i := 16) rfl))
theorem inX12_isTemplate : ∀ w ∈ wsX120, w ∈ vX12_isTemplate := fun w h => List.mem_cons_of_mem _ (List.mem_append_right _ (List.mem_append_right _ (List.mem_append_right _ (List.mem_append_right _ (List.mem_append_right _ (List.mem_append_right _ (List.mem_append_right _ (h))))))))
theorem kX12_isTemplate_X12_part_192 : GoodIn vX12_isTemplate (wsV RX12 192 RX12 yX12_part vX12_part) := goodIn_sub (fun w h => (List.mem_append.mp h).elim (fun h => List.mem_cons_of_mem _ (List.mem_append_left _ ((by decide +kernel : ∀ w ∈ ([.methodLink RX12 192 yX12_part, .instanceMethod yX12_part, .selects RX12 yX12_part yX12_part, .initialized RX12] : List Cond), w ∈ oX12_isTemplate) w h))) (fun h => List.mem_cons_of_mem _ (List.mem_append_right _ (List.mem_append_left _ (h))))) (by decide +kernel)
theorem kX12_isTemplate_X12_lookAt_318 : GoodIn vX12_isTemplate (wsV RX12 318 RX12 yX12_lookAt vX12_lookAt) := goodIn_sub (fun w h => (List.mem_append.mp h).elim (fun h => List.mem_cons_of_mem _ (List.mem_append_left _ ((by decide +kernel : ∀ w ∈ ([.methodLink RX12 318 yX12_lookAt, .instanceMethod yX12_lookAt, .selects RX12 yX12_lookAt yX12_lookAt, .initialized RX12] : List Cond), w ∈ oX12_isTemplate) w h))) (fun h => List.mem_cons_of_mem _ (List.mem_append_right _ (List.mem_append_right _ (List.mem_append_left _ (h)))))) (by decide +kernel)
theorem kX12_isTemplate_X12_isEllipsis_321 : GoodIn vX12_isTemplate (wsV RX12 321 RX12 yX12_isEllipsis vX12_isEllipsis) := goodIn_sub (fun w h => (List.mem_append.mp h).elim (fun h => List.mem_cons_of_mem _ (List.mem_append_left _ ((by decide +kernel : ∀ w ∈ ([.methodLink RX12 321 yX12_isEllipsis, .instanceMethod yX12_isEllipsis, .selects RX12 yX12_isEllipsis yX12_isEllipsis, .initialized RX12] : List Cond), w ∈ oX12_isTemplate) w h))) (fun h => List.mem_cons_of_mem _ (List.mem_append_right _ (List.mem_append_right _ (List.mem_append_right _ (List.mem_append_left _ (h))))))) (by decide +kernel)
theorem kX12_isTemplate_X12_hasRepeated_333 : GoodIn vX12_isTemplate (wsV RX12 333 RX12 yX12_hasRepeated vX12_hasRepeated) := goodIn_sub (fun w h => (List.mem_append.mp h).elim (fun h => List.mem_cons_of_mem _ (List.mem_append_left _ ((by decide +kernel : ∀ w ∈ ([.methodLink RX12 333 yX12_hasRepeated, .instanceMethod yX12_hasRepeated, .selects RX12 yX12_hasRepeated yX12_hasRepeated, .initialized RX12] : List Cond), w ∈ oX12_isTemplate) w h))) (fun h => List.mem_cons_of_mem _ (List.mem_append_right _ (List.mem_append_right _ (List.mem_append_right _ (List.mem_append_right _ (List.mem_append_left _ (h)))))))) (by decide +kernel)
theorem kX12_isTemplate_X12_isRepeated_330 : GoodIn vX12_isTemplate (wsV RX12 330 RX12 yX12_isRepeated vX12_isRepeated) := goodIn_sub (fun w h => (List.mem_append.mp h).elim (fun h => List.mem_cons_of_mem _ (List.mem_append_left _ ((by decide +kernel : ∀ w ∈ ([.methodLink RX12 330 yX12_isRepeated, .instanceMethod yX12_isRepeated, .selects RX12 yX12_isRepeated yX12_isRepeated, .initialized RX12] : List Cond), w ∈ oX12_isTemplate) w h))) (fun h => List.mem_cons_of_mem _ (List.mem_append_right _ (List.mem_append_right _ (List.mem_append_right _ (List.mem_append_right _ (List.mem_append_right _ (List.mem_append_left _ (h))))))))) (by decide +kernel)
theorem kX12_isTemplate_X12_isFrom_188 : GoodIn vX12_isTemplate (wsV RX12 188 RX12 yX12_isFrom vX12_isFrom) := goodIn_sub (fun w h => (List.mem_append.mp h).elim (fun h => List.mem_cons_of_mem _ (List.mem_append_left _ ((by decide +kernel : ∀ w ∈ ([.methodLink RX12 188 yX12_isFrom, .instanceMethod yX12_isFrom, .selects RX12 yX12_isFrom yX12_isFrom, .initialized RX12] : List Cond), w ∈ oX12_isTemplate) w h))) (fun h => List.mem_cons_of_mem _ (List.mem_append_right _ (List.mem_append_right _ (List.mem_append_right _ (List.mem_append_right _ (List.mem_append_right _ (List.mem_append_right _ (List.mem_append_left _ (h)))))))))) (by decide +kernel)
theorem LK54 {G : Nat → Nat → Nat} {L Hw O I : Nat → Nat} : va_up (LK G L Hw O) 54 I = LK (va_up G 54 I) L Hw O := by
  funext k
  by_cases h1 : k = 54
  · simp [LK, va_up, h1]
  · by_cases h3 : k = 50 <;> by_cases h4 : k = 51 <;> by_cases h5 : k = 52 <;> simp [LK, va_up, h1, h3, h4, h5]
/-- no repeated variable (E tells which names are) outside of what ... stands behind -/
def TEMf (G : Nat → Nat → Nat) (E : Nat → Nat) : Nat → Nat → Prop
  | 0, _ => True
  | d + 1, f => ¬ (G 10 f = 1 ∧ 0 < E (G 11 f)) ∧ ∀ k, k < G 12 f → ¬ ELL G f k → ¬ ELL G f (k + 1) → TEMf G E d (CH G f k)
theorem TEMf_eq {N : Nat → Nat} {G : Nat → Nat → Nat} {sz E : Nat → Nat} (h : TREE N G sz) : ∀ (d f e : Nat), f < N 14 → sz f ≤ d → sz f ≤ e → (TEMf G E d f ↔ TEMf G E e f) := by
  intro d
  induction d with
  | zero => intro f e hf hd; exact absurd (h.one hf) (by omega)
  | succ d ih =>
    intro f e hf hd he
    cases e with
    | zero => exact absurd (h.one hf) (by omega)
    | succ e =>
      unfold TEMf
      constructor
      · rintro ⟨a, b⟩
        exact ⟨a, fun k hk x y => (ih _ e ((h.2 f hf).2.2.1 k hk).2 (by have := h.lt hf hk; omega) (by have := h.lt hf hk; omega)).mp (b k hk x y)⟩
      · rintro ⟨a, b⟩
        exact ⟨a, fun k hk x y => (ih _ e ((h.2 f hf).2.2.1 k hk).2 (by have := h.lt hf hk; omega) (by have := h.lt hf hk; omega)).mpr (b k hk x y)⟩
abbrev TEM (G : Nat → Nat → Nat) (sz E : Nat → Nat) (f : Nat) : Prop := TEMf G E (sz f) f
abbrev TEMk (G : Nat → Nat → Nat) (sz E : Nat → Nat) (f k : Nat) : Prop := ¬ ELL G f k → ¬ ELL G f (k + 1) → TEM G sz E (CH G f k)
theorem TEM_un {N : Nat → Nat} {G : Nat → Nat → Nat} {sz E : Nat → Nat} (h : TREE N G sz) {f : Nat} (hf : f < N 14) : TEM G sz E f ↔ ¬ (G 10 f = 1 ∧ 0 < E (G 11 f)) ∧ ∀ k, k < G 12 f → TEMk G sz E f k := by
  have h1 := h.one hf
  obtain ⟨d, hd⟩ : ∃ d, sz f = d + 1 := ⟨sz f - 1, by omega⟩
  unfold TEM
  rw [hd, TEMf]
  constructor
  · rintro ⟨a, b⟩
    exact ⟨a, fun k hk x y => (TEMf_eq h d _ _ ((h.2 f hf).2.2.1 k hk).2 (by have := h.lt hf hk; omega) (Nat.le_refl _)).mp (b k hk x y)⟩
  · rintro ⟨a, b⟩
    exact ⟨a, fun k hk x y => (TEMf_eq h d _ _ ((h.2 f hf).2.2.1 k hk).2 (by have := h.lt hf hk; omega) (Nat.le_refl _)).mpr (b k hk x y)⟩
/-- what holds while the parts of the list p of a template are looked at, from k on -/
def TINV (N : Nat → Nat) (G : Nat → Nat → Nat) (sz E : Nat → Nat) (top a1 p w k q fi : Nat) (L Hw O : Nat → Nat) : Prop :=
  (a1 < q ∧ fi ≤ 1 ∧ p < N 14 ∧ w ≤ 1) ∧ (∀ i, i < q → L i < N 14 ∧ Hw i ≤ 1) ∧ (a1 + 1 + EW (fun p _ _ => sz p) L O Hw (a1 + 1) (q - (a1 + 1)) + sumW (fun k => sz (CH G p k)) k (G 12 p - k) ≤ 3001) ∧
  (fi = 1 → (w = 0 → ∀ j, k ≤ j → j < G 12 p → TEMk G sz E p j) → (∀ i, a1 < i → i < q → Hw i = 0 → TEM G sz E (L i)) → TEM G sz E top)
def TOUT (N : Nat → Nat) (G : Nat → Nat → Nat) (sz E : Nat → Nat) (top a1 q fi : Nat) (L Hw O : Nat → Nat) : Prop :=
  (a1 ≤ q ∧ fi ≤ 1) ∧ (∀ i, i < q → L i < N 14 ∧ Hw i ≤ 1) ∧ (a1 + EW (fun p _ _ => sz p) L O Hw a1 (q - a1) ≤ 3001) ∧
  (fi = 1 → (∀ i, a1 ≤ i → i < q → Hw i = 0 → TEM G sz E (L i)) → TEM G sz E top)
section TI
variable {N : Nat → Nat} {G : Nat → Nat → Nat} {sz E : Nat → Nat} {top a1 p w k q fi : Nat} {L Hw O : Nat → Nat}
theorem TOUT.enter (h : TOUT N G sz E top a1 q 1 L Hw O) (ht : TREE N G sz) (hq : a1 < q) (fi : Nat) (hf : fi ≤ 1) (hr : fi = 1 → Hw a1 = 0 → ¬ (G 10 (L a1) = 1 ∧ 0 < E (G 11 (L a1)))) : TINV N G sz E top a1 (L a1) (Hw a1) 0 q fi L Hw O := by
  obtain ⟨⟨a, b⟩, j1, j2, j3⟩ := h
  obtain ⟨p1, p2⟩ := j1 a1 hq
  have e1 : EW (fun p _ _ => sz p) L O Hw a1 (q - a1) = sz (L a1) + EW (fun p _ _ => sz p) L O Hw (a1 + 1) (q - (a1 + 1)) := EW_head hq
  have s1 := (ht.2 _ p1).1
  have r1 := rest_le sz (CH G (L a1)) 0 (G 12 (L a1))
  refine ⟨⟨hq, hf, p1, p2⟩, j1, by omega, fun z h1 h2 => j3 rfl (fun i hi1 hi2 hi3 => ?_)⟩
  by_cases e : i = a1
  · subst e; exact (TEM_un ht p1).mpr ⟨hr z hi3, fun k hk => h1 hi3 k (Nat.zero_le k) hk⟩
  · exact h2 i (by omega) hi2 hi3
theorem TINV.skip (h : TINV N G sz E top a1 p w k q 1 L Hw O) (hk : k < G 12 p) (hp : TEMk G sz E p k) (fi : Nat) (hf : fi ≤ 1) : TINV N G sz E top a1 p w (k + 1) q fi L Hw O := by
  obtain ⟨⟨a, b, c, d⟩, j1, j2, j3⟩ := h
  rw [sumW_step _ hk] at j2
  refine ⟨⟨a, hf, c, d⟩, j1, by omega, fun z h1 h2 => j3 rfl (fun y j hj1 hj2 => ?_) h2⟩
  by_cases e : j = k
  · subst e; exact hp
  · exact h1 y j (by omega) hj2
theorem TINV.push (h : TINV N G sz E top a1 p w k q 1 L Hw O) (hk : k < G 12 p) (hc : CH G p k < N 14) (fi mo : Nat) (hf : fi ≤ 1) (hm : mo ≤ 1) (hmo : mo = 0 ↔ w = 0 ∧ ¬ ELL G p (k + 1)) : TINV N G sz E top a1 p w (k + 1) (q + 1) fi (va_up L q (CH G p k)) (va_up Hw q mo) (va_up O q 0) := by
  obtain ⟨⟨a, b, c, d⟩, j1, j2, j3⟩ := h
  rw [sumW_step _ hk] at j2
  have eq : q + 1 - (a1 + 1) = (q - (a1 + 1)) + 1 := by omega
  refine ⟨⟨by omega, hf, c, d⟩, fun i hi => ?_, ?_, fun z h1 h2 => j3 rfl (fun y j hj1 hj2 => ?_) (fun i hi1 hi2 hi3 => ?_)⟩
  · by_cases ei : i = q
    · subst ei; rw [va_up_self, va_up_self]; exact ⟨hc, hm⟩
    · rw [va_up_ne _ _ ei, va_up_ne _ _ ei]; exact j1 i (by omega)
  · rw [eq, EW_push (by omega)]; omega
  · by_cases e : j = k
    · subst e
      intro y1 y2
      have := h2 q (by omega) (by omega)
      rw [va_up_self, va_up_self] at this
      exact this (hmo.mpr ⟨y, y2⟩)
    · exact h1 y j (by omega) hj2
  · have := h2 i hi1 (by omega)
    rw [va_up_ne _ _ (show i ≠ q by omega), va_up_ne _ _ (show i ≠ q by omega)] at this
    exact this hi3
theorem TINV.exit (h : TINV N G sz E top a1 p w k q fi L Hw O) (hx : G 12 p ≤ k ∨ fi = 0) : TOUT N G sz E top (a1 + 1) q fi L Hw O := by
  obtain ⟨⟨a, b, c, d⟩, j1, j2, j3⟩ := h
  refine ⟨⟨a, b⟩, j1, by omega, fun z h1 => j3 z (fun y j hj1 hj2 => absurd hj2 ?_) (fun i h2 h3 h4 => h1 i h2 h3 h4)⟩
  rcases hx with y | y <;> omega
theorem TINV.num (h : TINV N G sz E top a1 p w k q fi L Hw O) (ht : TREE N G sz) : q ≤ 3001 ∧ a1 < q ∧ fi ≤ 1 ∧ p < N 14 ∧ w ≤ 1 := by
  obtain ⟨⟨a, b, c, d⟩, j1, j2, -⟩ := h
  have := EW_len (sz := sz) (L := L) (O := O) (Hw := Hw) (a := a1 + 1) (q - (a1 + 1)) (fun i h1 h2 => ht.one (j1 i (by omega)).1)
  exact ⟨by omega, a, b, c, d⟩
theorem TOUT.num (h : TOUT N G sz E top a1 q fi L Hw O) (ht : TREE N G sz) : q ≤ 3001 ∧ a1 ≤ q ∧ fi ≤ 1 := by
  obtain ⟨⟨a, b⟩, j1, j2, -⟩ := h
  have := EW_len (sz := sz) (L := L) (O := O) (Hw := Hw) (a := a1) (q - a1) (fun i h1 h2 => ht.one (j1 i (by omega)).1)
  exact ⟨by omega, a, b⟩
theorem TOUT.start (ht : TREE N G sz) (htop : top < N 14) (hf : fi ≤ 1) : TOUT N G sz E top 0 1 fi (va_up L 0 top) (va_up Hw 0 0) (va_up O 0 0) := by
  have s1 := (ht.2 _ htop).2.1
  refine ⟨⟨by decide, hf⟩, fun i hi => ?_, ?_, fun _ y => ?_⟩
  · rw [show i = 0 by omega, va_up_self, va_up_self]; exact ⟨htop, by decide⟩
  · show 0 + (sumW _ 0 0 + _) ≤ 3001
    simp only [Nat.zero_add, va_up_self, sumW]; omega
  · have := y 0 (Nat.le_refl 0) (by decide)
    rw [va_up_self, va_up_self] at this
    exact this rfl
theorem TOUT.fin (h : TOUT N G sz E top a1 q fi L Hw O) (hx : q ≤ a1 ∨ fi = 0) : fi ≤ 1 ∧ (fi = 1 → TEM G sz E top) := by
  obtain ⟨⟨a, b⟩, j1, j2, j3⟩ := h
  refine ⟨b, fun z => j3 z (fun i h1 h2 => absurd h2 ?_)⟩
  rcases hx with y | y <;> omega
end TI

set_option maxHeartbeats 4000000 in
set_option maxRecDepth 100000 in
theorem lp_temP {p : Program} {l : Launch} {e : Env} {s : State} {m : MethodId} {args : Array Value} {below : List Frame} {meth : Method} {c : Code} {Q : State → Prop} {A : Nat → Prop} {dC : Nat → ClassId} {dI : Nat → Nat → Nat} {cB cC cI cJ cZ : ClassId} {z0 : Nat} {R : Nat → Nat} (hx : p.tables.exec = Jvm.exec) (hb : c.code = cX12_isTemplate) (hml : c.maxLocals = 8) (hown : s.vm.findClass RX12 = some m.cls) (hts : ∀ w ∈ vX12_isTemplate, w.before args s = true) (hK : va_K (dC, dI) vwCl (TY cB cC cI cJ cZ) s) (hA : ∀ q : Nat, s.heap.size ≤ q → A q) {pl : Int32} {N : Nat → Nat} {G : Nat → Nat → Nat} {B : Nat → Nat → Int32} {sz E : Nat → Nat} (hG : ∀ k i, G k i < 1048576) (ht9 : TREE N G sz) (hal : AL N G) (hN : N 49 ≤ 1600) (hRE : ∀ x, (0 < VAR N G x ∧ 0 < G 48 (VAR N G x - 1)) ↔ 0 < E x) (top a1 a0 w0 : Nat) (kx q fi mo : Nat) (L Hw O I : Nat → Nat) (hL : (∀ i, L i < 1048576)) (hH : (∀ i, Hw i < 1048576)) (hO : (∀ i, O i < 1048576)) (hI : (∀ i, I i < 1048576)) (hkx : kx < G 12 a0) (hfi : fi ≤ 1) (hmo1 : mo ≤ 1) (hmo : mo = 0 ↔ ¬ ELL G a0 (kx + 1)) (hp : TINV N G sz E top a1 a0 w0 kx q 1 L Hw O) (kn : ∀ (q fi : Nat) (L Hw O I : Nat → Nat) (H : Heap) (locs : List Loc), (∀ i, L i < 1048576) → (∀ i, Hw i < 1048576) → (∀ i, O i < 1048576) → (∀ i, I i < 1048576) → TINV N G sz E top a1 a0 w0 (kx + 1) q fi L Hw O → va_P (dC, dI) vwCl (MW cB cC cI cJ cZ z0 R pl (va_up N 53 q) (LK (va_up G 54 I) L Hw O) B) H → va_D A (MW cB cC cI cJ cZ z0 R pl (va_up N 53 q) (LK (va_up G 54 I) L Hw O) B) → va_S A s.heap H locs → ∀ (ls : Array Slot), lv_has ls 8 [(0, .ref z0), (2, .int (nI fi)), (3, .int (nI a1)), (4, .int (nI a0)), (5, .int (nI w0)), (6, .int (nI kx))] → W p l e (headSpec vX12_isTemplate { frames := 3, cells := 0, slots := 0, locals := 70 }).room s m args below meth c H locs 0 0 Q (F0 m 215 ls [])) : ∀ (H : Heap) (locs : List Loc), va_P (dC, dI) vwCl (MW cB cC cI cJ cZ z0 R pl (va_up N 53 q) (LK (va_up G 54 I) L Hw O) B) H → va_D A (MW cB cC cI cJ cZ z0 R pl (va_up N 53 q) (LK (va_up G 54 I) L Hw O) B) → va_S A s.heap H locs → ∀ (ls : Array Slot), lv_has ls 8 [(0, .ref z0), (2, .int (nI fi)), (3, .int (nI a1)), (4, .int (nI a0)), (5, .int (nI w0)), (6, .int (nI kx)), (7, .int (nI mo))] → W p l e (headSpec vX12_isTemplate { frames := 3, cells := 0, slots := 0, locals := 70 }).room s m args below meth c H locs 0 0 Q (F0 m 187 ls []) := by
  have hcs : 0 + 0 ≤ (0 : Nat) ∧ 0 + 0 ≤ (0 : Nat) := ⟨Nat.le_refl 0, Nat.le_refl 0⟩
  intro H locs hP hD hS ls hl
  obtain ⟨n1, n3, n4, n6, n7⟩ := hp.num ht9
  obtain ⟨u1, u2, u3, u4, u5⟩ := ht9.2 a0 n6
  have u6 := ht9.1
  have g1 := hG 12 a0
  have hG2 := hGLK (hGup (q := 54) hG hI) hL hH hO
  have hch : ∀ j, j < G 12 a0 → G 11 a0 + j < 90000 ∧ CH G a0 j < 90000 ∧ (G 10 (CH G a0 j) = 1 → nmOK N (G 11 (CH G a0 j))) := fun j y => ⟨(u3 _ y).1, Nat.lt_of_lt_of_le (u3 _ y).2 u6, (ht9.2 _ (u3 _ y).2).2.2.2.1⟩
  obtain ⟨t1, t2⟩ := u3 kx hkx
  refine lv_aload_n hx hb dX12_isTemplate_187 rfl (lv_at hl 0 rfl) ?_
  refine lv_aload_n hx hb dX12_isTemplate_188 rfl (lv_at hl 0 rfl) ?_
  refine lv_iload hx hb dX12_isTemplate_189 (lv_at hl 3 rfl) ?_
  refine lv_iload hx hb dX12_isTemplate_191 (lv_at hl 5 rfl) ?_
  refine mcl_i (As := [.int (nI a0), .int (nI kx)]) (rest := [.ref z0]) ⟨hx, hb, hml, hown, hts⟩ (m_part l dC dI cB cC cI cJ cZ z0 R pl (va_up N 53 q) (LK (va_up G 54 I) L Hw O) B a0 kx hG2 (by omega) t1 H.size) (cwV 2 hts kX12_isTemplate_X12_part_192 rfl rfl rfl (by decide +kernel) ⟨Nat.le_of_ble_eq_true rfl, Nat.le_of_ble_eq_true rfl⟩) hK hP hD hS hA rfl rfl hl.1 (lv_room (Nat.le_of_ble_eq_true rfl)) dX12_isTemplate_193 hcs (fun r_5 N_1 G_2 B_3 pl_4 hw H locs hP hD hS => ?_)
  dsimp only at hw
  obtain ⟨e1, e2, e3, e4, hw⟩ := hw
  rw [e1, e2, e3, e4] at hP hD
  have hw : r_5 = nI (CH G a0 kx) := hw
  subst hw
  refine lv_iload hx hb dX12_isTemplate_196 (lv_at hl 4 rfl) ?_
  refine bz_ne (tgt := 206) hx hb (by omega) dX12_isTemplate_198 (by decide) (fun c1 => ?_) (fun c1 => ?_)
  · refine lv_iconst (v := nI 1) hx hb dX12_isTemplate_206 (by decide) ?_
    refine lv_goto (tgt := 211) hx hb dX12_isTemplate_207 (by decide) ?_
    refine lv_iconst (v := nI 0) hx hb dX12_isTemplate_211 (by decide) ?_
    refine mcl_v (As := [.int (nI (CH G a0 kx)), .int (nI 1), .int (nI 0)]) (rest := []) ⟨hx, hb, hml, hown, hts⟩ (m_lookAt l dC dI cB cC cI cJ cZ z0 R pl (va_up N 53 q) (LK (va_up G 54 I) L Hw O) B (CH G a0 kx) 1 0 (show q < 90000 from (by omega)) H.size) (cwV 3 hts kX12_isTemplate_X12_lookAt_318 rfl rfl rfl (by decide +kernel) ⟨Nat.le_of_ble_eq_true rfl, Nat.le_of_ble_eq_true rfl⟩) hK hP hD hS hA rfl rfl hl.1 (lv_room (Nat.le_of_ble_eq_true rfl)) dX12_isTemplate_212 hcs (fun  N_6 G_7 B_8 pl_9 hw H locs hP hD hS => ?_)
    dsimp only at hw
    obtain ⟨e1, e2, e3, e4⟩ := hw
    rw [e1, e2, e3, e4, bx_uu, LK_look] at hP hD
    have hP : va_P (dC, dI) vwCl (MW cB cC cI cJ cZ z0 R pl (va_up N 53 (q + 1)) (LK (va_up G 54 I) (va_up L q (CH G a0 kx)) (va_up Hw q 1) (va_up O q 0)) B) H := hP
    have hD : va_D A (MW cB cC cI cJ cZ z0 R pl (va_up N 53 (q + 1)) (LK (va_up G 54 I) (va_up L q (CH G a0 kx)) (va_up Hw q 1) (va_up O q 0)) B) := hD
    exact kn (q + 1) fi (va_up L q (CH G a0 kx)) (va_up Hw q 1) (va_up O q 0) I H locs (hIup hL (by omega)) (hIup hH (by decide)) (hIup hO (by decide)) hI (hp.push hkx t2 fi 1 hfi (by decide) (⟨fun y => absurd y (by decide), fun y => by omega⟩)) hP hD hS ls (lv_sub hl [0, 1, 2, 3, 4, 5] rfl)
  · refine lv_iload hx hb dX12_isTemplate_201 (lv_at hl 6 rfl) ?_
    refine bz_eq (tgt := 210) hx hb (by omega) dX12_isTemplate_203 (by decide) (fun c2 => ?_) (fun c2 => ?_)
    · refine lv_iconst (v := nI 0) hx hb dX12_isTemplate_210 (by decide) ?_
      refine lv_iconst (v := nI 0) hx hb dX12_isTemplate_211 (by decide) ?_
      refine mcl_v (As := [.int (nI (CH G a0 kx)), .int (nI 0), .int (nI 0)]) (rest := []) ⟨hx, hb, hml, hown, hts⟩ (m_lookAt l dC dI cB cC cI cJ cZ z0 R pl (va_up N 53 q) (LK (va_up G 54 I) L Hw O) B (CH G a0 kx) 0 0 (show q < 90000 from (by omega)) H.size) (cwV 3 hts kX12_isTemplate_X12_lookAt_318 rfl rfl rfl (by decide +kernel) ⟨Nat.le_of_ble_eq_true rfl, Nat.le_of_ble_eq_true rfl⟩) hK hP hD hS hA rfl rfl hl.1 (lv_room (Nat.le_of_ble_eq_true rfl)) dX12_isTemplate_212 hcs (fun  N_11 G_12 B_13 pl_14 hw H locs hP hD hS => ?_)
      dsimp only at hw
      obtain ⟨e1, e2, e3, e4⟩ := hw
      rw [e1, e2, e3, e4, bx_uu, LK_look] at hP hD
      have hP : va_P (dC, dI) vwCl (MW cB cC cI cJ cZ z0 R pl (va_up N 53 (q + 1)) (LK (va_up G 54 I) (va_up L q (CH G a0 kx)) (va_up Hw q 0) (va_up O q 0)) B) H := hP
      have hD : va_D A (MW cB cC cI cJ cZ z0 R pl (va_up N 53 (q + 1)) (LK (va_up G 54 I) (va_up L q (CH G a0 kx)) (va_up Hw q 0) (va_up O q 0)) B) := hD
      exact kn (q + 1) fi (va_up L q (CH G a0 kx)) (va_up Hw q 0) (va_up O q 0) I H locs (hIup hL (by omega)) (hIup hH (by decide)) (hIup hO (by decide)) hI (hp.push hkx t2 fi 0 hfi (by decide) (⟨fun _ => ⟨c1, hmo.mp c2⟩, fun _ => rfl⟩)) hP hD hS ls (lv_sub hl [0, 1, 2, 3, 4, 5] rfl)
    · refine lv_iconst (v := nI 1) hx hb dX12_isTemplate_206 (by decide) ?_
      refine lv_goto (tgt := 211) hx hb dX12_isTemplate_207 (by decide) ?_
      refine lv_iconst (v := nI 0) hx hb dX12_isTemplate_211 (by decide) ?_
      refine mcl_v (As := [.int (nI (CH G a0 kx)), .int (nI 1), .int (nI 0)]) (rest := []) ⟨hx, hb, hml, hown, hts⟩ (m_lookAt l dC dI cB cC cI cJ cZ z0 R pl (va_up N 53 q) (LK (va_up G 54 I) L Hw O) B (CH G a0 kx) 1 0 (show q < 90000 from (by omega)) H.size) (cwV 3 hts kX12_isTemplate_X12_lookAt_318 rfl rfl rfl (by decide +kernel) ⟨Nat.le_of_ble_eq_true rfl, Nat.le_of_ble_eq_true rfl⟩) hK hP hD hS hA rfl rfl hl.1 (lv_room (Nat.le_of_ble_eq_true rfl)) dX12_isTemplate_212 hcs (fun  N_16 G_17 B_18 pl_19 hw H locs hP hD hS => ?_)
      dsimp only at hw
      obtain ⟨e1, e2, e3, e4⟩ := hw
      rw [e1, e2, e3, e4, bx_uu, LK_look] at hP hD
      have hP : va_P (dC, dI) vwCl (MW cB cC cI cJ cZ z0 R pl (va_up N 53 (q + 1)) (LK (va_up G 54 I) (va_up L q (CH G a0 kx)) (va_up Hw q 1) (va_up O q 0)) B) H := hP
      have hD : va_D A (MW cB cC cI cJ cZ z0 R pl (va_up N 53 (q + 1)) (LK (va_up G 54 I) (va_up L q (CH G a0 kx)) (va_up Hw q 1) (va_up O q 0)) B) := hD
      exact kn (q + 1) fi (va_up L q (CH G a0 kx)) (va_up Hw q 1) (va_up O q 0) I H locs (hIup hL (by omega)) (hIup hH (by decide)) (hIup hO (by decide)) hI (hp.push hkx t2 fi 1 hfi (by decide) (⟨fun y => absurd y (by decide), fun y => absurd (hmo.mpr y.2) (by omega)⟩)) hP hD hS ls (lv_sub hl [0, 1, 2, 3, 4, 5] rfl)

set_option maxHeartbeats 4000000 in
set_option maxRecDepth 100000 in
theorem lp_temR {p : Program} {l : Launch} {e : Env} {s : State} {m : MethodId} {args : Array Value} {below : List Frame} {meth : Method} {c : Code} {Q : State → Prop} {A : Nat → Prop} {dC : Nat → ClassId} {dI : Nat → Nat → Nat} {cB cC cI cJ cZ : ClassId} {z0 : Nat} {R : Nat → Nat} (hx : p.tables.exec = Jvm.exec) (hb : c.code = cX12_isTemplate) (hml : c.maxLocals = 8) (hown : s.vm.findClass RX12 = some m.cls) (hts : ∀ w ∈ vX12_isTemplate, w.before args s = true) (hK : va_K (dC, dI) vwCl (TY cB cC cI cJ cZ) s) (hA : ∀ q : Nat, s.heap.size ≤ q → A q) {pl : Int32} {N : Nat → Nat} {G : Nat → Nat → Nat} {B : Nat → Nat → Int32} {sz E : Nat → Nat} (hG : ∀ k i, G k i < 1048576) (ht9 : TREE N G sz) (hal : AL N G) (hN : N 49 ≤ 1600) (hRE : ∀ x, (0 < VAR N G x ∧ 0 < G 48 (VAR N G x - 1)) ↔ 0 < E x) (top a1 a0 w0 : Nat) (kx q mo : Nat) (L Hw O I : Nat → Nat) (hL : (∀ i, L i < 1048576)) (hH : (∀ i, Hw i < 1048576)) (hO : (∀ i, O i < 1048576)) (hI : (∀ i, I i < 1048576)) (hkx : kx < G 12 a0) (hmo1 : mo ≤ 1) (hmo : mo = 0 ↔ ¬ ELL G a0 (kx + 1)) (hp : TINV N G sz E top a1 a0 w0 kx q 1 L Hw O) (kn : ∀ (q fi : Nat) (L Hw O I : Nat → Nat) (H : Heap) (locs : List Loc), (∀ i, L i < 1048576) → (∀ i, Hw i < 1048576) → (∀ i, O i < 1048576) → (∀ i, I i < 1048576) → TINV N G sz E top a1 a0 w0 (kx + 1) q fi L Hw O → va_P (dC, dI) vwCl (MW cB cC cI cJ cZ z0 R pl (va_up N 53 q) (LK (va_up G 54 I) L Hw O) B) H → va_D A (MW cB cC cI cJ cZ z0 R pl (va_up N 53 q) (LK (va_up G 54 I) L Hw O) B) → va_S A s.heap H locs → ∀ (ls : Array Slot), lv_has ls 8 [(0, .ref z0), (2, .int (nI fi)), (3, .int (nI a1)), (4, .int (nI a0)), (5, .int (nI w0)), (6, .int (nI kx))] → W p l e (headSpec vX12_isTemplate { frames := 3, cells := 0, slots := 0, locals := 70 }).room s m args below meth c H locs 0 0 Q (F0 m 215 ls [])) : ∀ (H : Heap) (locs : List Loc), va_P (dC, dI) vwCl (MW cB cC cI cJ cZ z0 R pl (va_up N 53 q) (LK (va_up G 54 I) L Hw O) B) H → va_D A (MW cB cC cI cJ cZ z0 R pl (va_up N 53 q) (LK (va_up G 54 I) L Hw O) B) → va_S A s.heap H locs → ∀ (ls : Array Slot), lv_has ls 8 [(0, .ref z0), (2, .int (nI 1)), (3, .int (nI a1)), (4, .int (nI a0)), (5, .int (nI w0)), (6, .int (nI kx)), (7, .int (nI mo))] → W p l e (headSpec vX12_isTemplate { frames := 3, cells := 0, slots := 0, locals := 70 }).room s m args below meth c H locs 0 0 Q (F0 m 118 ls []) := by
  have hcs : 0 + 0 ≤ (0 : Nat) ∧ 0 + 0 ≤ (0 : Nat) := ⟨Nat.le_refl 0, Nat.le_refl 0⟩
  intro H locs hP hD hS ls hl
  obtain ⟨n1, n3, n4, n6, n7⟩ := hp.num ht9
  obtain ⟨u1, u2, u3, u4, u5⟩ := ht9.2 a0 n6
  have u6 := ht9.1
  have g1 := hG 12 a0
  have hG2 := hGLK (hGup (q := 54) hG hI) hL hH hO
  have hch : ∀ j, j < G 12 a0 → G 11 a0 + j < 90000 ∧ CH G a0 j < 90000 ∧ (G 10 (CH G a0 j) = 1 → nmOK N (G 11 (CH G a0 j))) := fun j y => ⟨(u3 _ y).1, Nat.lt_of_lt_of_le (u3 _ y).2 u6, (ht9.2 _ (u3 _ y).2).2.2.2.1⟩
  obtain ⟨t1, t2⟩ := u3 kx hkx
  refine lv_aload_n hx hb dX12_isTemplate_118 rfl (lv_at hl 0 rfl) ?_
  refine lv_iload hx hb dX12_isTemplate_119 (lv_at hl 3 rfl) ?_
  refine lv_iload hx hb dX12_isTemplate_121 (lv_at hl 5 rfl) ?_
  refine mcl_i (As := [.int (nI a0), .int (nI kx)]) (rest := []) ⟨hx, hb, hml, hown, hts⟩ (m_isEllipsis l dC dI cB cC cI cJ cZ z0 R pl (va_up N 53 q) (LK (va_up G 54 I) L Hw O) B a0 kx hG2 hal (by omega) (by omega) (hch _) H.size) (cwV 2 hts kX12_isTemplate_X12_isEllipsis_321 rfl rfl rfl (by decide +kernel) ⟨Nat.le_of_ble_eq_true rfl, Nat.le_of_ble_eq_true rfl⟩) hK hP hD hS hA rfl rfl hl.1 (lv_room (Nat.le_of_ble_eq_true rfl)) dX12_isTemplate_123 hcs (fun r_5 N_1 G_2 B_3 pl_4 hw H locs hP hD hS => ?_)
  dsimp only at hw
  obtain ⟨e1, e2, e3, e4, hw⟩ := hw
  rw [e1, e2, e3, e4] at hP hD
  have hw : r_5 = nI (if ELL G a0 kx then 1 else 0) := hw
  by_cases c1 : ELL G a0 kx
  · rw [if_pos c1] at hw
    subst hw
    refine bz_eq (tgt := 161) hx hb (by omega) dX12_isTemplate_126 (by decide) (fun q9 => absurd q9 (by omega)) (fun c => ?_)
    refine lv_iload hx hb dX12_isTemplate_129 (lv_at hl 5 rfl) ?_
    refine bz_le (tgt := 156) hx hb (by omega) dX12_isTemplate_131 (by decide) (fun c2 => ?_) (fun c2 => ?_)
    · refine lv_iconst (v := nI 0) hx hb dX12_isTemplate_156 (by decide) ?_
      refine lv_istore_n (lv' := [(2, .int (nI 0)), (0, .ref z0), (3, .int (nI a1)), (4, .int (nI a0)), (5, .int (nI w0)), (6, .int (nI kx)), (7, .int (nI mo))]) hx hb dX12_isTemplate_157 rfl hl (by decide) rfl (fun ls hl => ?_)
      refine lv_goto (tgt := 215) hx hb dX12_isTemplate_158 (by decide) ?_
      exact kn q 0 L Hw O I H locs hL hH hO hI (hp.skip hkx (fun y => absurd c1 y) 0 (by decide)) hP hD hS ls (lv_sub hl [1, 0, 2, 3, 4, 5] rfl)
    · refine lv_iload hx hb dX12_isTemplate_134 (lv_at hl 4 rfl) ?_
      refine bz_ne (tgt := 156) hx hb (by omega) dX12_isTemplate_136 (by decide) (fun c3 => ?_) (fun c3 => ?_)
      · refine lv_iconst (v := nI 0) hx hb dX12_isTemplate_156 (by decide) ?_
        refine lv_istore_n (lv' := [(2, .int (nI 0)), (0, .ref z0), (3, .int (nI a1)), (4, .int (nI a0)), (5, .int (nI w0)), (6, .int (nI kx)), (7, .int (nI mo))]) hx hb dX12_isTemplate_157 rfl hl (by decide) rfl (fun ls hl => ?_)
        refine lv_goto (tgt := 215) hx hb dX12_isTemplate_158 (by decide) ?_
        exact kn q 0 L Hw O I H locs hL hH hO hI (hp.skip hkx (fun y => absurd c1 y) 0 (by decide)) hP hD hS ls (lv_sub hl [1, 0, 2, 3, 4, 5] rfl)
      · refine lv_aload_n hx hb dX12_isTemplate_139 rfl (lv_at hl 0 rfl) ?_
        refine lv_iload hx hb dX12_isTemplate_140 (lv_at hl 3 rfl) ?_
        refine lv_iload hx hb dX12_isTemplate_142 (lv_at hl 5 rfl) ?_
        refine lv_iconst (v := nI 1) hx hb dX12_isTemplate_144 (by decide) ?_
        refine lv_isub hx hb dX12_isTemplate_145 ?_
        refine tp_i (pk_sub (a := kx) (b := 1) (by omega)) ?_
        refine mcl_i (As := [.int (nI a0), .int (nI (kx - 1))]) (rest := []) ⟨hx, hb, hml, hown, hts⟩ (m_isEllipsis l dC dI cB cC cI cJ cZ z0 R pl (va_up N 53 q) (LK (va_up G 54 I) L Hw O) B a0 (kx - 1) hG2 hal (by omega) (by omega) (hch _) H.size) (cwV 2 hts kX12_isTemplate_X12_isEllipsis_321 rfl rfl rfl (by decide +kernel) ⟨Nat.le_of_ble_eq_true rfl, Nat.le_of_ble_eq_true rfl⟩) hK hP hD hS hA rfl rfl hl.1 (lv_room (Nat.le_of_ble_eq_true rfl)) dX12_isTemplate_146 hcs (fun r_10 N_6 G_7 B_8 pl_9 hw H locs hP hD hS => ?_)
        dsimp only at hw
        obtain ⟨e1, e2, e3, e4, hw⟩ := hw
        rw [e1, e2, e3, e4] at hP hD
        have hw : r_10 = nI (if ELL G a0 (kx - 1) then 1 else 0) := hw
        by_cases c4 : ELL G a0 (kx - 1)
        · rw [if_pos c4] at hw
          subst hw
          refine bz_ne (tgt := 156) hx hb (by omega) dX12_isTemplate_149 (by decide) (fun c => ?_) (fun q9 => absurd q9 (by omega))
          refine lv_iconst (v := nI 0) hx hb dX12_isTemplate_156 (by decide) ?_
          refine lv_istore_n (lv' := [(2, .int (nI 0)), (0, .ref z0), (3, .int (nI a1)), (4, .int (nI a0)), (5, .int (nI w0)), (6, .int (nI kx)), (7, .int (nI mo))]) hx hb dX12_isTemplate_157 rfl hl (by decide) rfl (fun ls hl => ?_)
          refine lv_goto (tgt := 215) hx hb dX12_isTemplate_158 (by decide) ?_
          exact kn q 0 L Hw O I H locs hL hH hO hI (hp.skip hkx (fun y => absurd c1 y) 0 (by decide)) hP hD hS ls (lv_sub hl [1, 0, 2, 3, 4, 5] rfl)
        · rw [if_neg c4] at hw
          subst hw
          refine bz_ne (tgt := 156) hx hb (by omega) dX12_isTemplate_149 (by decide) (fun q9 => absurd q9 (by omega)) (fun c => ?_)
          refine lv_iconst (v := nI 1) hx hb dX12_isTemplate_152 (by decide) ?_
          refine lv_goto (tgt := 157) hx hb dX12_isTemplate_153 (by decide) ?_
          refine lv_istore_n (lv' := [(2, .int (nI 1)), (0, .ref z0), (3, .int (nI a1)), (4, .int (nI a0)), (5, .int (nI w0)), (6, .int (nI kx)), (7, .int (nI mo))]) hx hb dX12_isTemplate_157 rfl hl (by decide) rfl (fun ls hl => ?_)
          refine lv_goto (tgt := 215) hx hb dX12_isTemplate_158 (by decide) ?_
          exact kn q 1 L Hw O I H locs hL hH hO hI (hp.skip hkx (fun y => absurd c1 y) 1 (by decide)) hP hD hS ls (lv_sub hl [1, 0, 2, 3, 4, 5] rfl)
  · rw [if_neg c1] at hw
    subst hw
    refine bz_eq (tgt := 161) hx hb (by omega) dX12_isTemplate_126 (by decide) (fun c => ?_) (fun q9 => absurd q9 (by omega))
    refine lv_iload hx hb dX12_isTemplate_161 (lv_at hl 6 rfl) ?_
    refine bz_eq (tgt := 181) hx hb (by omega) dX12_isTemplate_163 (by decide) (fun c2 => ?_) (fun c2 => ?_)
    · refine lv_iconst (v := nI 1) hx hb dX12_isTemplate_181 (by decide) ?_
      refine lv_goto (tgt := 186) hx hb dX12_isTemplate_182 (by decide) ?_
      refine lv_istore_n (lv' := [(2, .int (nI 1)), (0, .ref z0), (3, .int (nI a1)), (4, .int (nI a0)), (5, .int (nI w0)), (6, .int (nI kx)), (7, .int (nI mo))]) hx hb dX12_isTemplate_186 rfl hl (by decide) rfl (fun ls hl => ?_)
      exact lp_temP hx hb hml hown hts hK hA hG ht9 hal hN hRE top a1 a0 w0 kx q 1 mo L Hw O I hL hH hO hI hkx (by decide) hmo1 hmo hp kn _ _ hP hD hS ls (lv_sub hl [1, 0, 2, 3, 4, 5, 6] rfl)
    · refine lv_aload_n hx hb dX12_isTemplate_166 rfl (lv_at hl 0 rfl) ?_
      refine lv_aload_n hx hb dX12_isTemplate_167 rfl (lv_at hl 0 rfl) ?_
      refine lv_iload hx hb dX12_isTemplate_168 (lv_at hl 3 rfl) ?_
      refine lv_iload hx hb dX12_isTemplate_170 (lv_at hl 5 rfl) ?_
      refine mcl_i (As := [.int (nI a0), .int (nI kx)]) (rest := [.ref z0]) ⟨hx, hb, hml, hown, hts⟩ (m_part l dC dI cB cC cI cJ cZ z0 R pl (va_up N 53 q) (LK (va_up G 54 I) L Hw O) B a0 kx hG2 (by omega) t1 H.size) (cwV 2 hts kX12_isTemplate_X12_part_192 rfl rfl rfl (by decide +kernel) ⟨Nat.le_of_ble_eq_true rfl, Nat.le_of_ble_eq_true rfl⟩) hK hP hD hS hA rfl rfl hl.1 (lv_room (Nat.le_of_ble_eq_true rfl)) dX12_isTemplate_172 hcs (fun r_15 N_11 G_12 B_13 pl_14 hw H locs hP hD hS => ?_)
      dsimp only at hw
      obtain ⟨e1, e2, e3, e4, hw⟩ := hw
      rw [e1, e2, e3, e4] at hP hD
      have hw : r_15 = nI (CH G a0 kx) := hw
      subst hw
      refine mcl_i (As := [.int (nI (CH G a0 kx))]) (rest := []) ⟨hx, hb, hml, hown, hts⟩ (m_hasRepeated l dC dI cB cC cI cJ cZ z0 R pl (va_up N 53 q) (LK (va_up G 54 I) L Hw O) B (CH G a0 kx) sz hG2 ht9 hN t2 H.size) (cwV 1 hts kX12_isTemplate_X12_hasRepeated_333 rfl rfl rfl (by decide +kernel) ⟨Nat.le_of_ble_eq_true rfl, Nat.le_of_ble_eq_true rfl⟩) hK hP hD hS hA rfl rfl hl.1 (lv_room (Nat.le_of_ble_eq_true rfl)) dX12_isTemplate_175 hcs (fun r_20 N_16 G_17 B_18 pl_19 hw H locs hP hD hS => ?_)
      dsimp only at hw
      obtain ⟨e1, ⟨I2, hI2, e2⟩, e3, e4, v, hv, hw⟩ := hw
      rw [e1, e2, e3, e4, LK54, bx_uu] at hP hD
      subst hw
      have hG2 := hGLK (hGup (q := 54) hG hI2) hL hH hO
      refine bz_eq (tgt := 185) hx hb (by omega) dX12_isTemplate_178 (by decide) (fun c3 => ?_) (fun c3 => ?_)
      · refine lv_iconst (v := nI 0) hx hb dX12_isTemplate_185 (by decide) ?_
        refine lv_istore_n (lv' := [(2, .int (nI 0)), (0, .ref z0), (3, .int (nI a1)), (4, .int (nI a0)), (5, .int (nI w0)), (6, .int (nI kx)), (7, .int (nI mo))]) hx hb dX12_isTemplate_186 rfl hl (by decide) rfl (fun ls hl => ?_)
        exact lp_temP hx hb hml hown hts hK hA hG ht9 hal hN hRE top a1 a0 w0 kx q 0 mo L Hw O I2 hL hH hO hI2 hkx (by decide) hmo1 hmo hp kn _ _ hP hD hS ls (lv_sub hl [1, 0, 2, 3, 4, 5, 6] rfl)
      · refine lv_iconst (v := nI 1) hx hb dX12_isTemplate_181 (by decide) ?_
        refine lv_goto (tgt := 186) hx hb dX12_isTemplate_182 (by decide) ?_
        refine lv_istore_n (lv' := [(2, .int (nI 1)), (0, .ref z0), (3, .int (nI a1)), (4, .int (nI a0)), (5, .int (nI w0)), (6, .int (nI kx)), (7, .int (nI mo))]) hx hb dX12_isTemplate_186 rfl hl (by decide) rfl (fun ls hl => ?_)
        exact lp_temP hx hb hml hown hts hK hA hG ht9 hal hN hRE top a1 a0 w0 kx q 1 mo L Hw O I2 hL hH hO hI2 hkx (by decide) hmo1 hmo hp kn _ _ hP hD hS ls (lv_sub hl [1, 0, 2, 3, 4, 5, 6] rfl)

set_option maxHeartbeats 4000000 in
set_option maxRecDepth 100000 in
theorem lp_tem1 {p : Program} {l : Launch} {e : Env} {s : State} {m : MethodId} {args : Array Value} {below : List Frame} {meth : Method} {c : Code} {Q : State → Prop} {A : Nat → Prop} {dC : Nat → ClassId} {dI : Nat → Nat → Nat} {cB cC cI cJ cZ : ClassId} {z0 : Nat} {R : Nat → Nat} (hx : p.tables.exec = Jvm.exec) (hb : c.code = cX12_isTemplate) (hml : c.maxLocals = 8) (hown : s.vm.findClass RX12 = some m.cls) (hts : ∀ w ∈ vX12_isTemplate, w.before args s = true) (hK : va_K (dC, dI) vwCl (TY cB cC cI cJ cZ) s) (hA : ∀ q : Nat, s.heap.size ≤ q → A q) {pl : Int32} {N : Nat → Nat} {G : Nat → Nat → Nat} {B : Nat → Nat → Int32} {sz E : Nat → Nat} (hG : ∀ k i, G k i < 1048576) (ht9 : TREE N G sz) (hal : AL N G) (hN : N 49 ≤ 1600) (hRE : ∀ x, (0 < VAR N G x ∧ 0 < G 48 (VAR N G x - 1)) ↔ 0 < E x) (top a1 a0 w0 : Nat) (ko : ∀ (q fi : Nat) (L Hw O I : Nat → Nat) (H : Heap) (locs : List Loc), (∀ i, L i < 1048576) → (∀ i, Hw i < 1048576) → (∀ i, O i < 1048576) → (∀ i, I i < 1048576) → TOUT N G sz E top (a1 + 1) q fi L Hw O → va_P (dC, dI) vwCl (MW cB cC cI cJ cZ z0 R pl (va_up N 53 q) (LK (va_up G 54 I) L Hw O) B) H → va_D A (MW cB cC cI cJ cZ z0 R pl (va_up N 53 q) (LK (va_up G 54 I) L Hw O) B) → va_S A s.heap H locs → ∀ (ls : Array Slot), lv_has ls 8 [(0, .ref z0), (2, .int (nI fi)), (3, .int (nI a1))] → W p l e (headSpec vX12_isTemplate { frames := 3, cells := 0, slots := 0, locals := 70 }).room s m args below meth c H locs 0 0 Q (F0 m 221 ls [])) : ∀ (k : Nat) (kx q fi : Nat) (L Hw O I : Nat → Nat), G 12 a0 - kx < k → kx ≤ 1048576 → (∀ i, L i < 1048576) → (∀ i, Hw i < 1048576) → (∀ i, O i < 1048576) → (∀ i, I i < 1048576) → TINV N G sz E top a1 a0 w0 kx q fi L Hw O → ∀ (H : Heap) (locs : List Loc), va_P (dC, dI) vwCl (MW cB cC cI cJ cZ z0 R pl (va_up N 53 q) (LK (va_up G 54 I) L Hw O) B) H → va_D A (MW cB cC cI cJ cZ z0 R pl (va_up N 53 q) (LK (va_up G 54 I) L Hw O) B) → va_S A s.heap H locs → ∀ (ls : Array Slot), lv_has ls 8 [(0, .ref z0), (2, .int (nI fi)), (3, .int (nI a1)), (4, .int (nI a0)), (5, .int (nI w0)), (6, .int (nI kx))] → W p l e (headSpec vX12_isTemplate { frames := 3, cells := 0, slots := 0, locals := 70 }).room s m args below meth c H locs 0 0 Q (F0 m 90 ls []) := by
  have hcs : 0 + 0 ≤ (0 : Nat) ∧ 0 + 0 ≤ (0 : Nat) := ⟨Nat.le_refl 0, Nat.le_refl 0⟩
  intro k
  induction k with
  | zero =>
    intro kx q fi L Hw O I hk hkb hL hH hO hI hp
    omega
  | succ k ih =>
    intro kx q fi L Hw O I hk hkb hL hH hO hI hp H locs hP hD hS ls hl
    obtain ⟨n1, n3, n4, n6, n7⟩ := hp.num ht9
    obtain ⟨u1, u2, u3, u4, u5⟩ := ht9.2 a0 n6
    have u6 := ht9.1
    have g1 := hG 12 a0
    have hG2 := hGLK (hGup (q := 54) hG hI) hL hH hO
    have hch : ∀ j, j < G 12 a0 → G 11 a0 + j < 90000 ∧ CH G a0 j < 90000 ∧ (G 10 (CH G a0 j) = 1 → nmOK N (G 11 (CH G a0 j))) := fun j y => ⟨(u3 _ y).1, Nat.lt_of_lt_of_le (u3 _ y).2 u6, (ht9.2 _ (u3 _ y).2).2.2.2.1⟩
    refine lv_iload hx hb dX12_isTemplate_90 (lv_at hl 5 rfl) ?_
    refine lv_aload_n hx hb dX12_isTemplate_92 rfl (lv_at hl 0 rfl) ?_
    refine mg_12 hx hb hts inX12_isTemplate hown hK hP (hts _ lkX12_isTemplate_f38) dX12_isTemplate_93 ?_
    refine lv_iload hx hb dX12_isTemplate_96 (lv_at hl 3 rfl) ?_
    refine ml_12 hx hb hK hP (by omega) dX12_isTemplate_98 ?_
    refine tp_i (y := nI (G 12 a0)) rfl ?_
    refine bn_ge (tgt := 221) hx hb (by omega) (by omega) dX12_isTemplate_99 (by decide) (fun c1 => ?_) (fun c1 => ?_)
    · exact ko q fi L Hw O I H locs hL hH hO hI (hp.exit (Or.inl c1)) hP hD hS ls (lv_sub hl [0, 1, 2] rfl)
    · refine lv_iload_n hx hb dX12_isTemplate_102 rfl (lv_at hl 1 rfl) ?_
      refine bz_eq (tgt := 221) hx hb (by omega) dX12_isTemplate_103 (by decide) (fun c2 => ?_) (fun c2 => ?_)
      · exact ko q fi L Hw O I H locs hL hH hO hI (hp.exit (Or.inr c2)) hP hD hS ls (lv_sub hl [0, 1, 2] rfl)
      · obtain rfl : fi = 1 := by omega
        refine lv_aload_n hx hb dX12_isTemplate_106 rfl (lv_at hl 0 rfl) ?_
        refine lv_iload hx hb dX12_isTemplate_107 (lv_at hl 3 rfl) ?_
        refine lv_iload hx hb dX12_isTemplate_109 (lv_at hl 5 rfl) ?_
        refine lv_iconst (v := nI 1) hx hb dX12_isTemplate_111 (by decide) ?_
        refine lv_iadd hx hb dX12_isTemplate_112 ?_
        refine tp_i (nI_add kx 1) ?_
        refine mcl_i (As := [.int (nI a0), .int (nI (kx + 1))]) (rest := []) ⟨hx, hb, hml, hown, hts⟩ (m_isEllipsis l dC dI cB cC cI cJ cZ z0 R pl (va_up N 53 q) (LK (va_up G 54 I) L Hw O) B a0 (kx + 1) hG2 hal (by omega) (by omega) (hch _) H.size) (cwV 2 hts kX12_isTemplate_X12_isEllipsis_321 rfl rfl rfl (by decide +kernel) ⟨Nat.le_of_ble_eq_true rfl, Nat.le_of_ble_eq_true rfl⟩) hK hP hD hS hA rfl rfl hl.1 (lv_room (Nat.le_of_ble_eq_true rfl)) dX12_isTemplate_113 hcs (fun r_5 N_1 G_2 B_3 pl_4 hw H locs hP hD hS => ?_)
        dsimp only at hw
        obtain ⟨e1, e2, e3, e4, hw⟩ := hw
        rw [e1, e2, e3, e4] at hP hD
        have hw : r_5 = nI (if ELL G a0 (kx + 1) then 1 else 0) := hw
        by_cases c3 : ELL G a0 (kx + 1)
        · rw [if_pos c3] at hw
          subst hw
          refine lv_istore (lv' := [(7, .int (nI 1)), (0, .ref z0), (2, .int (nI 1)), (3, .int (nI a1)), (4, .int (nI a0)), (5, .int (nI w0)), (6, .int (nI kx))]) hx hb dX12_isTemplate_116 hl (by decide) rfl (fun ls hl => ?_)
          refine lp_temR hx hb hml hown hts hK hA hG ht9 hal hN hRE top a1 a0 w0 kx q 1 L Hw O I hL hH hO hI c1 (by decide) (⟨fun y => absurd y (by decide), fun y => absurd c3 y⟩) hp (fun q fi L Hw O I H locs hL hH hO hI hp hP hD hS ls hl => ?_) _ _ hP hD hS ls (lv_sub hl [1, 2, 3, 4, 5, 6, 0] rfl)
          refine lv_iinc (v := nI (kx + 1)) (lv' := [(6, .int (nI (kx + 1))), (0, .ref z0), (2, .int (nI fi)), (3, .int (nI a1)), (4, .int (nI a0)), (5, .int (nI w0))]) hx hb dX12_isTemplate_215 hl (k := 5) rfl (nI_add kx 1) (by decide) rfl (fun ls hl => ?_)
          refine lv_goto (tgt := 90) hx hb dX12_isTemplate_218 (by decide) ?_
          exact ih (kx + 1) q fi L Hw O I (by omega) (by omega) hL hH hO hI hp _ _ hP hD hS ls (lv_sub hl [1, 2, 3, 4, 5, 0] rfl)
        · rw [if_neg c3] at hw
          subst hw
          refine lv_istore (lv' := [(7, .int (nI 0)), (0, .ref z0), (2, .int (nI 1)), (3, .int (nI a1)), (4, .int (nI a0)), (5, .int (nI w0)), (6, .int (nI kx))]) hx hb dX12_isTemplate_116 hl (by decide) rfl (fun ls hl => ?_)
          refine lp_temR hx hb hml hown hts hK hA hG ht9 hal hN hRE top a1 a0 w0 kx q 0 L Hw O I hL hH hO hI c1 (by decide) (⟨fun _ => c3, fun _ => rfl⟩) hp (fun q fi L Hw O I H locs hL hH hO hI hp hP hD hS ls hl => ?_) _ _ hP hD hS ls (lv_sub hl [1, 2, 3, 4, 5, 6, 0] rfl)
          refine lv_iinc (v := nI (kx + 1)) (lv' := [(6, .int (nI (kx + 1))), (0, .ref z0), (2, .int (nI fi)), (3, .int (nI a1)), (4, .int (nI a0)), (5, .int (nI w0))]) hx hb dX12_isTemplate_215 hl (k := 5) rfl (nI_add kx 1) (by decide) rfl (fun ls hl => ?_)
          refine lv_goto (tgt := 90) hx hb dX12_isTemplate_218 (by decide) ?_
          exact ih (kx + 1) q fi L Hw O I (by omega) (by omega) hL hH hO hI hp _ _ hP hD hS ls (lv_sub hl [1, 2, 3, 4, 5, 0] rfl)

set_option maxHeartbeats 4000000 in
set_option maxRecDepth 100000 in
theorem lp_tem2 {p : Program} {l : Launch} {e : Env} {s : State} {m : MethodId} {args : Array Value} {below : List Frame} {meth : Method} {c : Code} {Q : State → Prop} {A : Nat → Prop} {dC : Nat → ClassId} {dI : Nat → Nat → Nat} {cB cC cI cJ cZ : ClassId} {z0 : Nat} {R : Nat → Nat} (hx : p.tables.exec = Jvm.exec) (hb : c.code = cX12_isTemplate) (hml : c.maxLocals = 8) (hown : s.vm.findClass RX12 = some m.cls) (hts : ∀ w ∈ vX12_isTemplate, w.before args s = true) (hK : va_K (dC, dI) vwCl (TY cB cC cI cJ cZ) s) (hA : ∀ q : Nat, s.heap.size ≤ q → A q) {pl : Int32} {N : Nat → Nat} {G : Nat → Nat → Nat} {B : Nat → Nat → Int32} {sz E : Nat → Nat} (hG : ∀ k i, G k i < 1048576) (ht9 : TREE N G sz) (hal : AL N G) (hN : N 49 ≤ 1600) (hRE : ∀ x, (0 < VAR N G x ∧ 0 < G 48 (VAR N G x - 1)) ↔ 0 < E x) (top : Nat) (kf : ∀ (q fi : Nat) (L Hw O I : Nat → Nat) (H : Heap) (locs : List Loc), (∀ i, L i < 1048576) → (∀ i, Hw i < 1048576) → (∀ i, O i < 1048576) → (∀ i, I i < 1048576) → q ≤ 3001 → (fi ≤ 1 ∧ (fi = 1 → TEM G sz E top)) → va_P (dC, dI) vwCl (MW cB cC cI cJ cZ z0 R pl (va_up N 53 q) (LK (va_up G 54 I) L Hw O) B) H → va_D A (MW cB cC cI cJ cZ z0 R pl (va_up N 53 q) (LK (va_up G 54 I) L Hw O) B) → va_S A s.heap H locs → ∀ (ls : Array Slot), lv_has ls 8 [(2, .int (nI fi))] → W p l e (headSpec vX12_isTemplate { frames := 3, cells := 0, slots := 0, locals := 70 }).room s m args below meth c H locs 0 0 Q (F0 m 227 ls [])) : ∀ (k : Nat) (a1 q fi : Nat) (L Hw O I : Nat → Nat), 3002 - a1 < k → (∀ i, L i < 1048576) → (∀ i, Hw i < 1048576) → (∀ i, O i < 1048576) → (∀ i, I i < 1048576) → TOUT N G sz E top a1 q fi L Hw O → ∀ (H : Heap) (locs : List Loc), va_P (dC, dI) vwCl (MW cB cC cI cJ cZ z0 R pl (va_up N 53 q) (LK (va_up G 54 I) L Hw O) B) H → va_D A (MW cB cC cI cJ cZ z0 R pl (va_up N 53 q) (LK (va_up G 54 I) L Hw O) B) → va_S A s.heap H locs → ∀ (ls : Array Slot), lv_has ls 8 [(0, .ref z0), (2, .int (nI fi)), (3, .int (nI a1))] → W p l e (headSpec vX12_isTemplate { frames := 3, cells := 0, slots := 0, locals := 70 }).room s m args below meth c H locs 0 0 Q (F0 m 30 ls []) := by
  have hcs : 0 + 0 ≤ (0 : Nat) ∧ 0 + 0 ≤ (0 : Nat) := ⟨Nat.le_refl 0, Nat.le_refl 0⟩
  intro k
  induction k with
  | zero =>
    intro a1 q fi L Hw O I hk hL hH hO hI hp
    omega
  | succ k ih =>
    intro a1 q fi L Hw O I hk hL hH hO hI hp H locs hP hD hS ls hl
    obtain ⟨n1, n3, n4⟩ := hp.num ht9
    have u6 := ht9.1
    have hG2 := hGLK (hGup (q := 54) hG hI) hL hH hO
    refine lv_iload_n hx hb dX12_isTemplate_30 rfl (lv_at hl 2 rfl) ?_
    refine lv_aload_n hx hb dX12_isTemplate_31 rfl (lv_at hl 0 rfl) ?_
    refine mg_53 hx hb hts inX12_isTemplate hown hK hP (hts _ lkX12_isTemplate_f306) dX12_isTemplate_32 ?_
    refine tp_i (y := nI q) rfl ?_
    refine bn_ge (tgt := 227) hx hb (by omega) (by omega) dX12_isTemplate_35 (by decide) (fun c1 => ?_) (fun c1 => ?_)
    · exact kf q fi L Hw O I H locs hL hH hO hI n1 (hp.fin (Or.inl c1)) hP hD hS ls (lv_sub hl [1] rfl)
    · refine lv_iload_n hx hb dX12_isTemplate_38 rfl (lv_at hl 1 rfl) ?_
      refine bz_eq (tgt := 227) hx hb (by omega) dX12_isTemplate_39 (by decide) (fun c2 => ?_) (fun c2 => ?_)
      · exact kf q fi L Hw O I H locs hL hH hO hI n1 (hp.fin (Or.inr c2)) hP hD hS ls (lv_sub hl [1] rfl)
      · obtain rfl : fi = 1 := by omega
        obtain ⟨p1, p2⟩ := hp.2.1 a1 c1
        have g3 := hH a1
        refine lv_aload_n hx hb dX12_isTemplate_42 rfl (lv_at hl 0 rfl) ?_
        refine mg_50 hx hb hts inX12_isTemplate hown hK hP (hts _ lkX12_isTemplate_f98) dX12_isTemplate_43 ?_
        refine lv_iload_n hx hb dX12_isTemplate_46 rfl (lv_at hl 2 rfl) ?_
        refine ml_50 hx hb hK hP (by omega) dX12_isTemplate_47 ?_
        refine tp_i (y := nI (L a1)) rfl ?_
        refine lv_istore (lv' := [(4, .int (nI (L a1))), (0, .ref z0), (2, .int (nI 1)), (3, .int (nI a1))]) hx hb dX12_isTemplate_48 hl (by decide) rfl (fun ls hl => ?_)
        refine lv_aload_n hx hb dX12_isTemplate_50 rfl (lv_at hl 1 rfl) ?_
        refine mg_51 hx hb hts inX12_isTemplate hown hK hP (hts _ lkX12_isTemplate_f101) dX12_isTemplate_51 ?_
        refine lv_iload_n hx hb dX12_isTemplate_54 rfl (lv_at hl 3 rfl) ?_
        refine ml_51 hx hb hK hP (by omega) dX12_isTemplate_55 ?_
        refine tp_i (y := nI (Hw a1)) rfl ?_
        refine lv_iconst (v := nI 1) hx hb dX12_isTemplate_56 (by decide) ?_
        refine bn_ne (tgt := 64) hx hb (by omega) (by omega) dX12_isTemplate_57 (by decide) (fun c3 => ?_) (fun c3 => ?_)
        · have e7 : Hw a1 = 0 := by omega
          refine lv_iconst (v := nI 0) hx hb dX12_isTemplate_64 (by decide) ?_
          refine lv_istore (lv' := [(5, .int (nI 0)), (4, .int (nI (L a1))), (0, .ref z0), (2, .int (nI 1)), (3, .int (nI a1))]) hx hb dX12_isTemplate_65 hl (by decide) rfl (fun ls hl => ?_)
          refine lv_iload hx hb dX12_isTemplate_67 (lv_at hl 0 rfl) ?_
          refine bz_ne (tgt := 81) hx hb (by omega) dX12_isTemplate_69 (by decide) (fun q9 => absurd q9 (by omega)) (fun c => ?_)
          refine lv_aload_n hx hb dX12_isTemplate_72 rfl (lv_at hl 2 rfl) ?_
          refine lv_iload hx hb dX12_isTemplate_73 (lv_at hl 1 rfl) ?_
          refine mcl_i (As := [.int (nI (L a1))]) (rest := []) ⟨hx, hb, hml, hown, hts⟩ (m_isRepeated l dC dI cB cC cI cJ cZ z0 R pl (va_up N 53 q) (LK (va_up G 54 I) L Hw O) B (L a1) hG2 hN (by omega) H.size) (cwV 1 hts kX12_isTemplate_X12_isRepeated_330 rfl rfl rfl (by decide +kernel) ⟨Nat.le_of_ble_eq_true rfl, Nat.le_of_ble_eq_true rfl⟩) hK hP hD hS hA rfl rfl hl.1 (lv_room (Nat.le_of_ble_eq_true rfl)) dX12_isTemplate_75 hcs (fun r_5 N_1 G_2 B_3 pl_4 hw H locs hP hD hS => ?_)
          dsimp only at hw
          obtain ⟨e1, e2, e3, e4, hw⟩ := hw
          rw [e1, e2, e3, e4] at hP hD
          have hw : r_5 = nI (if REP N G (L a1) then 1 else 0) := hw
          by_cases c4 : REP N G (L a1)
          · rw [if_pos c4] at hw
            subst hw
            refine bz_ne (tgt := 85) hx hb (by omega) dX12_isTemplate_78 (by decide) (fun c => ?_) (fun q9 => absurd q9 (by omega))
            refine lv_iconst (v := nI 0) hx hb dX12_isTemplate_85 (by decide) ?_
            refine lv_istore_n (lv' := [(2, .int (nI 0)), (5, .int (nI 0)), (4, .int (nI (L a1))), (0, .ref z0), (3, .int (nI a1))]) hx hb dX12_isTemplate_86 rfl hl (by decide) rfl (fun ls hl => ?_)
            refine lv_iconst (v := nI 0) hx hb dX12_isTemplate_87 (by decide) ?_
            refine lv_istore (lv' := [(6, .int (nI 0)), (2, .int (nI 0)), (5, .int (nI 0)), (4, .int (nI (L a1))), (0, .ref z0), (3, .int (nI a1))]) hx hb dX12_isTemplate_88 hl (by decide) rfl (fun ls hl => ?_)
            have hp1 := hp.enter ht9 c1 0 (by decide) (fun y => absurd y (by decide))
            rw [e7] at hp1
            refine lp_tem1 hx hb hml hown hts hK hA hG ht9 hal hN hRE top a1 (L a1) 0 (fun q fi L Hw O I H locs hL hH hO hI hp hP hD hS ls hl => ?_) _ 0 q 0 L Hw O I (Nat.lt_succ_self _) (by decide) hL hH hO hI hp1 _ _ hP hD hS ls (lv_sub hl [4, 1, 5, 3, 2, 0] rfl)
            refine lv_iinc (v := nI (a1 + 1)) (lv' := [(3, .int (nI (a1 + 1))), (0, .ref z0), (2, .int (nI fi))]) hx hb dX12_isTemplate_221 hl (k := 2) rfl (nI_add a1 1) (by decide) rfl (fun ls hl => ?_)
            refine lv_goto (tgt := 30) hx hb dX12_isTemplate_224 (by decide) ?_
            obtain ⟨m1, m3, m4⟩ := hp.num ht9
            exact ih (a1 + 1) q fi L Hw O I (by omega) hL hH hO hI hp _ _ hP hD hS ls (lv_sub hl [1, 2, 0] rfl)
          · rw [if_neg c4] at hw
            subst hw
            refine bz_ne (tgt := 85) hx hb (by omega) dX12_isTemplate_78 (by decide) (fun q9 => absurd q9 (by omega)) (fun c => ?_)
            refine lv_iconst (v := nI 1) hx hb dX12_isTemplate_81 (by decide) ?_
            refine lv_goto (tgt := 86) hx hb dX12_isTemplate_82 (by decide) ?_
            refine lv_istore_n (lv' := [(2, .int (nI 1)), (5, .int (nI 0)), (4, .int (nI (L a1))), (0, .ref z0), (3, .int (nI a1))]) hx hb dX12_isTemplate_86 rfl hl (by decide) rfl (fun ls hl => ?_)
            refine lv_iconst (v := nI 0) hx hb dX12_isTemplate_87 (by decide) ?_
            refine lv_istore (lv' := [(6, .int (nI 0)), (2, .int (nI 1)), (5, .int (nI 0)), (4, .int (nI (L a1))), (0, .ref z0), (3, .int (nI a1))]) hx hb dX12_isTemplate_88 hl (by decide) rfl (fun ls hl => ?_)
            have hp1 := hp.enter ht9 c1 1 (by decide) (fun _ _ y => c4 ⟨y.1, (hRE _).mpr y.2⟩)
            rw [e7] at hp1
            refine lp_tem1 hx hb hml hown hts hK hA hG ht9 hal hN hRE top a1 (L a1) 0 (fun q fi L Hw O I H locs hL hH hO hI hp hP hD hS ls hl => ?_) _ 0 q 1 L Hw O I (Nat.lt_succ_self _) (by decide) hL hH hO hI hp1 _ _ hP hD hS ls (lv_sub hl [4, 1, 5, 3, 2, 0] rfl)
            refine lv_iinc (v := nI (a1 + 1)) (lv' := [(3, .int (nI (a1 + 1))), (0, .ref z0), (2, .int (nI fi))]) hx hb dX12_isTemplate_221 hl (k := 2) rfl (nI_add a1 1) (by decide) rfl (fun ls hl => ?_)
            refine lv_goto (tgt := 30) hx hb dX12_isTemplate_224 (by decide) ?_
            obtain ⟨m1, m3, m4⟩ := hp.num ht9
            exact ih (a1 + 1) q fi L Hw O I (by omega) hL hH hO hI hp _ _ hP hD hS ls (lv_sub hl [1, 2, 0] rfl)
        · have e7 : Hw a1 = 1 := by omega
          refine lv_iconst (v := nI 1) hx hb dX12_isTemplate_60 (by decide) ?_
          refine lv_goto (tgt := 65) hx hb dX12_isTemplate_61 (by decide) ?_
          refine lv_istore (lv' := [(5, .int (nI 1)), (4, .int (nI (L a1))), (0, .ref z0), (2, .int (nI 1)), (3, .int (nI a1))]) hx hb dX12_isTemplate_65 hl (by decide) rfl (fun ls hl => ?_)
          refine lv_iload hx hb dX12_isTemplate_67 (lv_at hl 0 rfl) ?_
          refine bz_ne (tgt := 81) hx hb (by omega) dX12_isTemplate_69 (by decide) (fun c => ?_) (fun q9 => absurd q9 (by omega))
          refine lv_iconst (v := nI 1) hx hb dX12_isTemplate_81 (by decide) ?_
          refine lv_goto (tgt := 86) hx hb dX12_isTemplate_82 (by decide) ?_
          refine lv_istore_n (lv' := [(2, .int (nI 1)), (5, .int (nI 1)), (4, .int (nI (L a1))), (0, .ref z0), (3, .int (nI a1))]) hx hb dX12_isTemplate_86 rfl hl (by decide) rfl (fun ls hl => ?_)
          refine lv_iconst (v := nI 0) hx hb dX12_isTemplate_87 (by decide) ?_
          refine lv_istore (lv' := [(6, .int (nI 0)), (2, .int (nI 1)), (5, .int (nI 1)), (4, .int (nI (L a1))), (0, .ref z0), (3, .int (nI a1))]) hx hb dX12_isTemplate_88 hl (by decide) rfl (fun ls hl => ?_)
          have hp1 := hp.enter ht9 c1 1 (by decide) (fun _ y => by omega)
          rw [e7] at hp1
          refine lp_tem1 hx hb hml hown hts hK hA hG ht9 hal hN hRE top a1 (L a1) 1 (fun q fi L Hw O I H locs hL hH hO hI hp hP hD hS ls hl => ?_) _ 0 q 1 L Hw O I (Nat.lt_succ_self _) (by decide) hL hH hO hI hp1 _ _ hP hD hS ls (lv_sub hl [4, 1, 5, 3, 2, 0] rfl)
          refine lv_iinc (v := nI (a1 + 1)) (lv' := [(3, .int (nI (a1 + 1))), (0, .ref z0), (2, .int (nI fi))]) hx hb dX12_isTemplate_221 hl (k := 2) rfl (nI_add a1 1) (by decide) rfl (fun ls hl => ?_)
          refine lv_goto (tgt := 30) hx hb dX12_isTemplate_224 (by decide) ?_
          obtain ⟨m1, m3, m4⟩ := hp.num ht9
          exact ih (a1 + 1) q fi L Hw O I (by omega) hL hH hO hI hp _ _ hP hD hS ls (lv_sub hl [1, 2, 0] rfl)

set_option maxHeartbeats 4000000 in
set_option maxRecDepth 100000 in
/-- isTemplate: where 1, no repeated variable stands outside of what ... stands behind -/
theorem m_isTemplate (l : Launch) (dC : Nat → ClassId) (dI : Nat → Nat → Nat) (cB cC cI cJ cZ : ClassId) (z0 : Nat) (R : Nat → Nat) (pl : Int32) (N : Nat → Nat) (G : Nat → Nat → Nat) (B : Nat → Nat → Int32) (top : Nat) (sz E : Nat → Nat) (hG : ∀ k i, G k i < 1048576) (ht9 : TREE N G sz) (hal : AL N G) (hN : N 49 ≤ 1600) (hRE : ∀ x, (0 < VAR N G x ∧ 0 < G 48 (VAR N G x - 1)) ↔ 0 < E x) (htop : top < N 14) (s0 : Nat) : Met l yX12_isTemplate vX12_isTemplate { frames := 3, cells := 0, slots := 0, locals := 70 } (va_Pc [.ref z0, .int (nI top)] (mPre dC dI cB cC cI cJ cZ z0 R pl N G B s0)) (va_Qi (fun (r : Int32) (u : ((Nat → Nat) × (Nat → Nat → Nat) × (Nat → Nat → Int32) × Int32)) => match u with | (N1, G1, B1, pl1) => B1 = B ∧ pl1 = pl ∧ ∃ q fi L Hw O I, (∀ i, L i < 1048576) ∧ (∀ i, Hw i < 1048576) ∧ (∀ i, O i < 1048576) ∧ (∀ i, I i < 1048576) ∧ q ≤ 3001 ∧ N1 = va_up N 53 q ∧ G1 = LK (va_up G 54 I) L Hw O ∧ r = nI fi ∧ fi ≤ 1 ∧ (fi = 1 → TEM G sz E top)) (mPost dC dI cB cC cI cJ cZ z0 R (va_A (MW cB cC cI cJ cZ z0 R pl N G B) s0)) (va_A (MW cB cC cI cJ cZ z0 R pl N G B) s0)) 0 0 (va_A (MW cB cC cI cJ cZ z0 R pl N G B) s0) := by
  refine Met.ofW (cc := cX12_isTemplate) (maxL := 8) (ret := (some .boolean)) (by decide) rfl ?_
  intro p e s m args below meth c s₁ B9 hml hv
  obtain ⟨rfl, hsz, hP, hK, hD0⟩ := hv
  have hx := B9.exec
  have hb := B9.bytes
  have hr := B9.returns
  have hts := atoms_spec (ws := vX12_isTemplate) B9.pre
  have hown : s.vm.findClass RX12 = some m.cls := findClass_of_methodNamed B9.named
  have hlocks := B9.notSynchronized
  subst hsz
  have hD := hD0.self (sz := s.heap.size)
  generalize hAe : va_A (MW cB cC cI cJ cZ z0 R pl N G B) s.heap.size = A at hD ⊢
  have hA : ∀ q : Nat, s.heap.size ≤ q → A q := fun q h => by rw [← hAe]; exact Or.inr h
  have hS : va_S A s.heap s.heap [] := va_S.rf
  have hcs : 0 + 0 ≤ (0 : Nat) ∧ 0 + 0 ≤ (0 : Nat) := ⟨Nat.le_refl 0, Nat.le_refl 0⟩
  have hl := lv_entry ([.ref z0, .int (nI top)]) (n := 8) (Nat.le_of_ble_eq_true rfl)
  rw [lg_entry_eq]
  generalize (lg_sl ([.ref z0, .int (nI top)]) ++ List.replicate (8 - (lg_sl ([.ref z0, .int (nI top)])).length) Slot.unset).toArray = ls at hl ⊢
  have hl : lv_has ls 8 [(0, .ref z0), (1, .int (nI top))] := hl
  have u6 := ht9.1
  obtain ⟨u1, u2, u3, u4, u5⟩ := ht9.2 top htop
  refine lv_aload_n hx hb dX12_isTemplate_0 rfl (lv_at hl 0 rfl) ?_
  refine lv_iconst (v := nI 0) hx hb dX12_isTemplate_1 (by decide) ?_
  refine mp_53 hx hb hts inX12_isTemplate hown hK hP hD hS (hts _ lkX12_isTemplate_f306) dX12_isTemplate_2 (fun H locs hP hD hS => ?_)
  refine lv_aload_n hx hb dX12_isTemplate_5 rfl (lv_at hl 0 rfl) ?_
  refine lv_iload_n hx hb dX12_isTemplate_6 rfl (lv_at hl 1 rfl) ?_
  refine lv_iconst (v := nI 0) hx hb dX12_isTemplate_7 (by decide) ?_
  refine lv_iconst (v := nI 0) hx hb dX12_isTemplate_8 (by decide) ?_
  have hP : va_P (dC, dI) vwCl (MW cB cC cI cJ cZ z0 R pl (va_up N 53 0) (LK (va_up G 54 (G 54)) (G 50) (G 51) (G 52)) B) H := by rw [va_upid, LK_self]; exact hP
  have hD : va_D A (MW cB cC cI cJ cZ z0 R pl (va_up N 53 0) (LK (va_up G 54 (G 54)) (G 50) (G 51) (G 52)) B) := by rw [va_upid, LK_self]; exact hD
  refine mcl_v (As := [.int (nI top), .int (nI 0), .int (nI 0)]) (rest := []) ⟨hx, hb, hml, hown, hts⟩ (m_lookAt l dC dI cB cC cI cJ cZ z0 R pl (va_up N 53 0) (LK (va_up G 54 (G 54)) (G 50) (G 51) (G 52)) B top 0 0 (show 0 < 90000 from (by decide)) H.size) (cwV 3 hts kX12_isTemplate_X12_lookAt_318 rfl rfl rfl (by decide +kernel) ⟨Nat.le_of_ble_eq_true rfl, Nat.le_of_ble_eq_true rfl⟩) hK hP hD hS hA rfl rfl hl.1 (lv_room (Nat.le_of_ble_eq_true rfl)) dX12_isTemplate_9 hcs (fun  N_1 G_2 B_3 pl_4 hw H locs hP hD hS => ?_)
  dsimp only at hw
  obtain ⟨e1, e2, e3, e4⟩ := hw
  rw [e1, e2, e3, e4, bx_uu, LK_look] at hP hD
  have hP : va_P (dC, dI) vwCl (MW cB cC cI cJ cZ z0 R pl (va_up N 53 (0 + 1)) (LK (va_up G 54 (G 54)) (va_up (G 50) 0 top) (va_up (G 51) 0 0) (va_up (G 52) 0 0)) B) H := hP
  have hD : va_D A (MW cB cC cI cJ cZ z0 R pl (va_up N 53 (0 + 1)) (LK (va_up G 54 (G 54)) (va_up (G 50) 0 top) (va_up (G 51) 0 0) (va_up (G 52) 0 0)) B) := hD
  have hL0 := hIup (j := 0) (v := top) (hG 50) (by omega)
  have hH0 := hIup (j := 0) (v := 0) (hG 51) (by decide)
  have hO0 := hIup (j := 0) (v := 0) (hG 52) (by decide)
  have hG2 := hGLK (hGup (q := 54) hG (hG 54)) hL0 hH0 hO0
  refine lv_aload_n hx hb dX12_isTemplate_12 rfl (lv_at hl 0 rfl) ?_
  refine lv_iload_n hx hb dX12_isTemplate_13 rfl (lv_at hl 1 rfl) ?_
  refine lv_bipush (v := nI 7) hx hb dX12_isTemplate_14 (by decide) ?_
  refine mcl_i (As := [.int (nI top), .int (nI 7)]) (rest := []) ⟨hx, hb, hml, hown, hts⟩ (m_isFrom l dC dI cB cC cI cJ cZ z0 R pl (va_up N 53 (0 + 1)) (LK (va_up G 54 (G 54)) (va_up (G 50) 0 top) (va_up (G 51) 0 0) (va_up (G 52) 0 0)) B top 7 hG2 hal (by omega) u4 (by decide) H.size) (cwV 2 hts kX12_isTemplate_X12_isFrom_188 rfl rfl rfl (by decide +kernel) ⟨Nat.le_of_ble_eq_true rfl, Nat.le_of_ble_eq_true rfl⟩) hK hP hD hS hA rfl rfl hl.1 (lv_room (Nat.le_of_ble_eq_true rfl)) dX12_isTemplate_16 hcs (fun r_10 N_6 G_7 B_8 pl_9 hw H locs hP hD hS => ?_)
  dsimp only at hw
  obtain ⟨e1, e2, e3, e4, hw⟩ := hw
  rw [e1, e2, e3, e4] at hP hD
  have hw : r_10 = nI (if FROM G top 7 then 1 else 0) := hw
  by_cases c1 : FROM G top 7
  · rw [if_pos c1] at hw
    subst hw
    refine bz_ne (tgt := 26) hx hb (by omega) dX12_isTemplate_19 (by decide) (fun c => ?_) (fun q9 => absurd q9 (by omega))
    refine lv_iconst (v := nI 0) hx hb dX12_isTemplate_26 (by decide) ?_
    refine lv_istore_n (lv' := [(2, .int (nI 0)), (0, .ref z0), (1, .int (nI top))]) hx hb dX12_isTemplate_27 rfl hl (by decide) rfl (fun ls hl => ?_)
    refine lv_iconst (v := nI 0) hx hb dX12_isTemplate_28 (by decide) ?_
    refine lv_istore_n (lv' := [(3, .int (nI 0)), (2, .int (nI 0)), (0, .ref z0), (1, .int (nI top))]) hx hb dX12_isTemplate_29 rfl hl (by decide) rfl (fun ls hl => ?_)
    refine lp_tem2 hx hb hml hown hts hK hA hG ht9 hal hN hRE top (fun q fi L Hw O I H locs hL hH hO hI hq hfin hP hD hS ls hl => ?_) _ 0 1 0 _ _ _ (G 54) (Nat.lt_succ_self _) hL0 hH0 hO0 (hG 54) (TOUT.start ht9 htop (by decide)) _ _ hP hD hS ls (lv_sub hl [2, 1, 0] rfl)
    refine lv_iload_n hx hb dX12_isTemplate_227 rfl (lv_at hl 0 rfl) ?_
    have hz1 : narrow .boolean (.int (nI fi)) = .int (nI fi) := by rcases (show fi = 0 ∨ fi = 1 by omega) with h | h <;> rw [h] <;> rfl
    exact W.zret (v := (nI fi)) hx hb hr hz1 (fun t ht hW => ⟨⟨(nI fi), (va_up N 53 q, LK (va_up G 54 I) L Hw O, B, pl), rfl, ⟨rfl, rfl, q, fi, L, Hw, O, I, hL, hH, hO, hI, hq, rfl, rfl, rfl, hfin.1, hfin.2⟩, by rw [ht]; exact hP, va_K.moved hW.alike hK, hD⟩, hS.F ht⟩) hS.2.2 dX12_isTemplate_228
  · rw [if_neg c1] at hw
    subst hw
    refine bz_ne (tgt := 26) hx hb (by omega) dX12_isTemplate_19 (by decide) (fun q9 => absurd q9 (by omega)) (fun c => ?_)
    refine lv_iconst (v := nI 1) hx hb dX12_isTemplate_22 (by decide) ?_
    refine lv_goto (tgt := 27) hx hb dX12_isTemplate_23 (by decide) ?_
    refine lv_istore_n (lv' := [(2, .int (nI 1)), (0, .ref z0), (1, .int (nI top))]) hx hb dX12_isTemplate_27 rfl hl (by decide) rfl (fun ls hl => ?_)
    refine lv_iconst (v := nI 0) hx hb dX12_isTemplate_28 (by decide) ?_
    refine lv_istore_n (lv' := [(3, .int (nI 0)), (2, .int (nI 1)), (0, .ref z0), (1, .int (nI top))]) hx hb dX12_isTemplate_29 rfl hl (by decide) rfl (fun ls hl => ?_)
    refine lp_tem2 hx hb hml hown hts hK hA hG ht9 hal hN hRE top (fun q fi L Hw O I H locs hL hH hO hI hq hfin hP hD hS ls hl => ?_) _ 0 1 1 _ _ _ (G 54) (Nat.lt_succ_self _) hL0 hH0 hO0 (hG 54) (TOUT.start ht9 htop (by decide)) _ _ hP hD hS ls (lv_sub hl [2, 1, 0] rfl)
    refine lv_iload_n hx hb dX12_isTemplate_227 rfl (lv_at hl 0 rfl) ?_
    have hz1 : narrow .boolean (.int (nI fi)) = .int (nI fi) := by rcases (show fi = 0 ∨ fi = 1 by omega) with h | h <;> rw [h] <;> rfl
    exact W.zret (v := (nI fi)) hx hb hr hz1 (fun t ht hW => ⟨⟨(nI fi), (va_up N 53 q, LK (va_up G 54 I) L Hw O, B, pl), rfl, ⟨rfl, rfl, q, fi, L, Hw, O, I, hL, hH, hO, hI, hq, rfl, rfl, rfl, hfin.1, hfin.2⟩, by rw [ht]; exact hP, va_K.moved hW.alike hK, hD⟩, hS.F ht⟩) hS.2.2 dX12_isTemplate_228
