def oX12_areCountsAlike : List Cond := [Cond.fieldLink RX12 38 "MacroScopesModel" "counts" "[I", Cond.methodLink RX12 321 yX12_isEllipsis, Cond.instanceMethod yX12_isEllipsis, Cond.selects RX12 yX12_isEllipsis yX12_isEllipsis, Cond.initialized RX12, Cond.methodLink RX12 192 yX12_part, Cond.instanceMethod yX12_part, Cond.selects RX12 yX12_part yX12_part, Cond.methodLink RX12 367 yX12_turnsOf, Cond.instanceMethod yX12_turnsOf, Cond.selects RX12 yX12_turnsOf yX12_turnsOf, Cond.methodLink RX12 318 yX12_lookAt, Cond.instanceMethod yX12_lookAt, Cond.selects RX12 yX12_lookAt yX12_lookAt, Cond.fieldLink RX12 306 "MacroScopesModel" "looks" "I", Cond.fieldLink RX12 98 "MacroScopesModel" "look" "[I"]
def vX12_areCountsAlike : List Cond := .code yX12_areCountsAlike cX12_areCountsAlike 6 (some .boolean) :: (oX12_areCountsAlike ++ (vX12_isEllipsis ++ (vX12_part ++ (vX12_turnsOf ++ (vX12_lookAt ++ (wsX120))))))
theorem lkX12_areCountsAlike_f38 : Cond.fieldLink RX12 38 "MacroScopesModel" "counts" "[I" ∈ vX12_areCountsAlike := List.mem_cons_of_mem _ (List.mem_append_left _ (List.mem_of_getElem? (i := 0) rfl))
theorem lkX12_areCountsAlike_f306 : Cond.fieldLink RX12 306 "MacroScopesModel" "looks" "I" ∈ vX12_areCountsAlike := List.mem_cons_of_mem _ (List.mem_append_left _ (List.mem_of_getElem? (i := 14) rfl))
theorem lkX12_areCountsAlike_f98 : Cond.fieldLink RX12 98 "MacroScopesModel" "look" "[I" ∈ vX12_areCountsAlike := List.mem_cons_of_mem _ (List.mem_append_left _ (List.mem_of_getElem? (i := 15) rfl))
theorem inX12_areCountsAlike : ∀ w ∈ wsX120, w ∈ vX12_areCountsAlike := fun w h => List.mem_cons_of_mem _ (List.mem_append_right _ (List.mem_append_right _ (List.mem_append_right _ (List.mem_append_right _ (List.mem_append_right _ (h))))))
theorem kX12_areCountsAlike_X12_isEllipsis_321 : GoodIn vX12_areCountsAlike (wsV RX12 321 RX12 yX12_isEllipsis vX12_isEllipsis) := goodIn_sub (fun w h => (List.mem_append.mp h).elim (fun h => List.mem_cons_of_mem _ (List.mem_append_left _ ((by decide +kernel : ∀ w ∈ ([.methodLink RX12 321 yX12_isEllipsis, .instanceMethod yX12_isEllipsis, .selects RX12 yX12_isEllipsis yX12_isEllipsis, .initialized RX12] : List Cond), w ∈ oX12_areCountsAlike) w h))) (fun h => List.mem_cons_of_mem _ (List.mem_append_right _ (List.mem_append_left _ (h))))) (by decide +kernel)
theorem kX12_areCountsAlike_X12_part_192 : GoodIn vX12_areCountsAlike (wsV RX12 192 RX12 yX12_part vX12_part) := goodIn_sub (fun w h => (List.mem_append.mp h).elim (fun h => List.mem_cons_of_mem _ (List.mem_append_left _ ((by decide +kernel : ∀ w ∈ ([.methodLink RX12 192 yX12_part, .instanceMethod yX12_part, .selects RX12 yX12_part yX12_part, .initialized RX12] : List Cond), w ∈ oX12_areCountsAlike) w h))) (fun h => List.mem_cons_of_mem _ (List.mem_append_right _ (List.mem_append_right _ (List.mem_append_left _ (h)))))) (by decide +kernel)
theorem kX12_areCountsAlike_X12_turnsOf_367 : GoodIn vX12_areCountsAlike (wsV RX12 367 RX12 yX12_turnsOf vX12_turnsOf) := goodIn_sub (fun w h => (List.mem_append.mp h).elim (fun h => List.mem_cons_of_mem _ (List.mem_append_left _ ((by decide +kernel : ∀ w ∈ ([.methodLink RX12 367 yX12_turnsOf, .instanceMethod yX12_turnsOf, .selects RX12 yX12_turnsOf yX12_turnsOf, .initialized RX12] : List Cond), w ∈ oX12_areCountsAlike) w h))) (fun h => List.mem_cons_of_mem _ (List.mem_append_right _ (List.mem_append_right _ (List.mem_append_right _ (List.mem_append_left _ (h))))))) (by decide +kernel)
theorem kX12_areCountsAlike_X12_lookAt_318 : GoodIn vX12_areCountsAlike (wsV RX12 318 RX12 yX12_lookAt vX12_lookAt) := goodIn_sub (fun w h => (List.mem_append.mp h).elim (fun h => List.mem_cons_of_mem _ (List.mem_append_left _ ((by decide +kernel : ∀ w ∈ ([.methodLink RX12 318 yX12_lookAt, .instanceMethod yX12_lookAt, .selects RX12 yX12_lookAt yX12_lookAt, .initialized RX12] : List Cond), w ∈ oX12_areCountsAlike) w h))) (fun h => List.mem_cons_of_mem _ (List.mem_append_right _ (List.mem_append_right _ (List.mem_append_right _ (List.mem_append_right _ (List.mem_append_left _ (h)))))))) (by decide +kernel)
/-- what holds while the parts of the list p are looked at, from k on, each part once -/
def CINV (N : Nat → Nat) (G : Nat → Nat → Nat) (sz : Nat → Nat) (a1 p k q : Nat) (L : Nat → Nat) : Prop :=
  (a1 < q ∧ p < N 14) ∧ (∀ i, i < q → L i < N 14) ∧ a1 + 1 + EW (fun p _ _ => sz p) L L L (a1 + 1) (q - (a1 + 1)) + sumW (fun k => sz (CH G p k)) k (G 12 p - k) ≤ 3001
def COUT (N : Nat → Nat) (sz : Nat → Nat) (a1 q : Nat) (L : Nat → Nat) : Prop :=
  a1 ≤ q ∧ (∀ i, i < q → L i < N 14) ∧ a1 + EW (fun p _ _ => sz p) L L L a1 (q - a1) ≤ 3001
section CI
variable {N : Nat → Nat} {G : Nat → Nat → Nat} {sz : Nat → Nat} {a1 p k q : Nat} {L : Nat → Nat}
theorem COUT.enter (h : COUT N sz a1 q L) (ht : TREE N G sz) (hq : a1 < q) : CINV N G sz a1 (L a1) 0 q L := by
  obtain ⟨a, j1, j2⟩ := h
  have p1 := j1 a1 hq
  have e1 : EW (fun p _ _ => sz p) L L L a1 (q - a1) = sz (L a1) + EW (fun p _ _ => sz p) L L L (a1 + 1) (q - (a1 + 1)) := EW_head hq
  have s1 := (ht.2 _ p1).1
  have r1 := rest_le sz (CH G (L a1)) 0 (G 12 (L a1))
  exact ⟨⟨hq, p1⟩, j1, by omega⟩
theorem CINV.skip (h : CINV N G sz a1 p k q L) (hk : k < G 12 p) : CINV N G sz a1 p (k + 1) q L := by
  obtain ⟨a, j1, j2⟩ := h
  rw [sumW_step _ hk] at j2
  exact ⟨a, j1, by omega⟩
theorem CINV.push (h : CINV N G sz a1 p k q L) (hk : k < G 12 p) (hc : CH G p k < N 14) : CINV N G sz a1 p (k + 1) (q + 1) (va_up L q (CH G p k)) := by
  obtain ⟨⟨a, b⟩, j1, j2⟩ := h
  rw [sumW_step _ hk] at j2
  have eq : q + 1 - (a1 + 1) = (q - (a1 + 1)) + 1 := by omega
  refine ⟨⟨by omega, b⟩, ltup j1 hc, ?_⟩
  rw [eq, EW_push (by omega)]; omega
theorem CINV.exit (h : CINV N G sz a1 p k q L) : COUT N sz (a1 + 1) q L := by
  obtain ⟨⟨a, b⟩, j1, j2⟩ := h
  exact ⟨a, j1, by omega⟩
theorem CINV.num (h : CINV N G sz a1 p k q L) (ht : TREE N G sz) : q ≤ 3001 ∧ a1 < q ∧ p < N 14 := by
  obtain ⟨⟨a, b⟩, j1, j2⟩ := h
  have := EW_len (sz := sz) (L := L) (O := L) (Hw := L) (a := a1 + 1) (q - (a1 + 1)) (fun i h1 h2 => ht.one (j1 i (by omega)))
  exact ⟨by omega, a, b⟩
theorem COUT.num (h : COUT N sz a1 q L) (ht : TREE N G sz) : q ≤ 3001 ∧ a1 ≤ q := by
  obtain ⟨a, j1, j2⟩ := h
  have := EW_len (sz := sz) (L := L) (O := L) (Hw := L) (a := a1) (q - a1) (fun i h1 h2 => ht.one (j1 i (by omega)))
  exact ⟨by omega, a⟩
theorem COUT.start {top : Nat} (ht : TREE N G sz) (htop : top < N 14) : COUT N sz 0 1 (va_up L 0 top) := by
  have s1 := (ht.2 _ htop).2.1
  refine ⟨by decide, fun i hi => ?_, ?_⟩
  · rw [show i = 0 by omega, va_up_self]; exact htop
  · show 0 + (sumW _ 0 0 + _) ≤ 3001
    simp only [Nat.zero_add, va_up_self, sumW]; omega
end CI
/-- what keepMatches leaves: every turn of every variable is a form -/
def KEPT (N : Nat → Nat) (G : Nat → Nat → Nat) : Prop := N 49 ≤ 1600 ∧ ∀ v, v < N 49 → G 56 v ≤ 3001 ∧ G 55 v ≤ 3001 ∧ (∀ t, t < G 56 v → G 57 (G 55 v + t) < N 14) ∧ (G 48 v = 0 → G 57 (G 55 v) < N 14)
/-- a part of a template with its turn: a repeated variable within has that turn -/
def GOOD (N : Nat → Nat) (G : Nat → Nat → Nat) (sz E : Nat → Nat) (f h : Nat) : Prop := h ≤ 3001 ∧ (TEM G sz E f ∨ ∀ x, OC G sz f x → RPX N G x → h < G 56 (VAR N G x - 1))
/-- where the form of a variable's turn is kept -/
abbrev MTX (G : Nat → Nat → Nat) (v h : Nat) : Nat := G 55 v + if 0 < G 48 v then h else 0
/-- how often a part is put -/
noncomputable abbrev TK (N : Nat → Nat) (G : Nat → Nat → Nat) (sz : Nat → Nat) (f k : Nat) : Nat := if ELL G f k then 0 else if ELL G f (k + 1) then TRN N G sz (CH G f k) else 1
/-- with which turn -/
abbrev HK (G : Nat → Nat → Nat) (f h k i : Nat) : Nat := if ELL G f (k + 1) then i else h
/-- the size of what a template's part makes -/
noncomputable def SZMf (N : Nat → Nat) (G : Nat → Nat → Nat) (sz : Nat → Nat) : Nat → Nat → Nat → Nat
  | 0, _, _ => 0
  | d + 1, f, h => (if G 10 f = 1 ∧ 0 < VAR N G (G 11 f) then sz (G 57 (MTX G (VAR N G (G 11 f) - 1) h)) else 1) + sumW (fun k => sumW (fun i => SZMf N G sz d (CH G f k) (HK G f h k i)) 0 (TK N G sz f k)) 0 (G 12 f)
noncomputable abbrev SZM (N : Nat → Nat) (G : Nat → Nat → Nat) (sz : Nat → Nat) (f h : Nat) : Nat := SZMf N G sz (sz f) f h
/-- what the k-th part of f makes -/
noncomputable abbrev SZK (N : Nat → Nat) (G : Nat → Nat → Nat) (sz : Nat → Nat) (f h k : Nat) : Nat := sumW (fun i => SZM N G sz (CH G f k) (HK G f h k i)) 0 (TK N G sz f k)
section SZ
variable {N : Nat → Nat} {G : Nat → Nat → Nat} {sz E : Nat → Nat}
theorem SZMf_eq (ht : TREE N G sz) : ∀ (d f h e : Nat), f < N 14 → sz f ≤ d → sz f ≤ e → SZMf N G sz d f h = SZMf N G sz e f h := by
  intro d
  induction d with
  | zero => intro f h e hf hd; exact absurd (ht.one hf) (by omega)
  | succ d ih =>
    intro f h e hf hd he
    cases e with
    | zero => exact absurd (ht.one hf) (by omega)
    | succ e =>
      unfold SZMf
      congr 1
      refine sumW_congr _ (fun k _ hk => sumW_congr _ (fun i _ _ => ih _ _ _ ?_ ?_ ?_))
      · exact ((ht.2 f hf).2.2.1 k (by omega)).2
      · have := ht.lt hf (show k < G 12 f by omega); omega
      · have := ht.lt hf (show k < G 12 f by omega); omega
theorem SZM_un (ht : TREE N G sz) {f h : Nat} (hf : f < N 14) : SZM N G sz f h = (if G 10 f = 1 ∧ 0 < VAR N G (G 11 f) then sz (G 57 (MTX G (VAR N G (G 11 f) - 1) h)) else 1) + sumW (SZK N G sz f h) 0 (G 12 f) := by
  have h1 := ht.one hf
  obtain ⟨d, hd⟩ : ∃ d, sz f = d + 1 := ⟨sz f - 1, by omega⟩
  unfold SZM
  rw [hd, SZMf]
  congr 1
  refine sumW_congr _ (fun k _ hk => sumW_congr _ (fun i _ _ => SZMf_eq ht _ _ _ _ ?_ ?_ (Nat.le_refl _)))
  · exact ((ht.2 f hf).2.2.1 k (by omega)).2
  · have := ht.lt hf (show k < G 12 f by omega); omega
theorem TRN_ex {f : Nat} (h : 0 < TRN N G sz f) : ∃ x, OC G sz f x ∧ RPX N G x ∧ G 56 (VAR N G x - 1) = TRN N G sz f := by
  have key := TRN_in h
  unfold TRN at h
  by_cases c : ∃ n, 0 < n ∧ (∃ x, OC G sz f x ∧ RPX N G x) ∧ ∀ x, OC G sz f x → RPX N G x → G 56 (VAR N G x - 1) = n
  · obtain ⟨x, a, b⟩ := c.choose_spec.2.1
    exact ⟨x, a, b, key x a b⟩
  · rw [dif_neg c] at h; exact absurd h (Nat.lt_irrefl 0)
theorem TRN_le (hk : KEPT N G) (f : Nat) : TRN N G sz f ≤ 3001 := by
  by_cases h : 0 < TRN N G sz f
  · obtain ⟨x, a, b, e⟩ := TRN_ex h
    have := varF_le (G 47) x (N 49)
    have := (hk.2 (VAR N G x - 1) (by have := b.1; unfold VAR at this ⊢; omega)).1
    omega
  · omega
theorem TK_le (hk : KEPT N G) (f k : Nat) : TK N G sz f k ≤ 3001 := by
  unfold TK
  by_cases h1 : ELL G f k
  · rw [if_pos h1]; omega
  · rw [if_neg h1]
    by_cases h2 : ELL G f (k + 1)
    · rw [if_pos h2]; exact TRN_le hk _
    · rw [if_neg h2]; omega
theorem GOOD.part (ht : TREE N G sz) (hk9 : KEPT N G) {f h k i : Nat} (hg : GOOD N G sz E f h) (hf : f < N 14) (hk : k < G 12 f) (hi : i < TK N G sz f k) : GOOD N G sz E (CH G f k) (HK G f h k i) := by
  unfold TK at hi
  by_cases h1 : ELL G f k
  · rw [if_pos h1] at hi; exact absurd hi (Nat.not_lt_zero i)
  · rw [if_neg h1] at hi
    unfold HK
    by_cases h2 : ELL G f (k + 1)
    · rw [if_pos h2] at hi ⊢
      have := TRN_le (sz := sz) hk9 (CH G f k)
      refine ⟨by omega, Or.inr (fun x a b => ?_)⟩
      rw [TRN_in (by omega) x a b]; exact hi
    · rw [if_neg h2]
      refine ⟨hg.1, hg.2.imp (fun z => ((TEM_un ht hf).mp z).2 k hk h1 h2) (fun z x a b => z x ((OC_iff ht hf).mpr (Or.inr ⟨k, hk, a⟩)) b)⟩
theorem GOOD.var (ht : TREE N G sz) (hk9 : KEPT N G) (hRE : ∀ x, (0 < VAR N G x ∧ 0 < G 48 (VAR N G x - 1)) ↔ 0 < E x) {f h : Nat} (hg : GOOD N G sz E f h) (hf : f < N 14) (h1 : G 10 f = 1) (hv : 0 < VAR N G (G 11 f)) :
    VAR N G (G 11 f) - 1 < 1600 ∧ MTX G (VAR N G (G 11 f) - 1) h < 90000 ∧ G 57 (MTX G (VAR N G (G 11 f) - 1) h) < N 14 := by
  have v1 : VAR N G (G 11 f) ≤ N 49 := varF_le (G 47) (G 11 f) (N 49)
  obtain ⟨k1, k2, k3, k4⟩ := hk9.2 (VAR N G (G 11 f) - 1) (by omega)
  have k0 := hk9.1
  have h9 := hg.1
  unfold MTX
  by_cases r : 0 < G 48 (VAR N G (G 11 f) - 1)
  · rw [if_pos r]
    refine ⟨by omega, by omega, k3 h ?_⟩
    rcases hg.2 with z | z
    · exact absurd ⟨h1, (hRE _).mp ⟨hv, r⟩⟩ ((TEM_un ht hf).mp z).1
    · exact z _ ((OC_iff ht hf).mpr (Or.inl ⟨h1, rfl⟩)) ⟨hv, r⟩
  · rw [if_neg r]
    exact ⟨by omega, by omega, by rw [Nat.add_zero]; exact k4 (by omega)⟩
/-- what a part itself counts -/
theorem SZM_pos (ht : TREE N G sz) (hk9 : KEPT N G) (hRE : ∀ x, (0 < VAR N G x ∧ 0 < G 48 (VAR N G x - 1)) ↔ 0 < E x) {f h : Nat} (hg : GOOD N G sz E f h) (hf : f < N 14) : 1 ≤ SZM N G sz f h := by
  rw [SZM_un ht hf]
  by_cases c : G 10 f = 1 ∧ 0 < VAR N G (G 11 f)
  · rw [if_pos c]
    have := ht.one (GOOD.var ht hk9 hRE hg hf c.1 c.2).2.2
    omega
  · rw [if_neg c]; omega
theorem sumW_ge {g : Nat → Nat} {a : Nat} : ∀ n, (∀ i, a ≤ i → i < a + n → 1 ≤ g i) → n ≤ sumW g a n := by
  intro n
  induction n with
  | zero => intro _; exact Nat.zero_le _
  | succ n ih =>
    intro h
    rw [sumW]
    have := ih (fun i h1 h2 => h i h1 (by omega))
    have := h (a + n) (by omega) (by omega)
    omega
end SZ
/-- sizeMade, at the i-th putting of the k-th part of p: s counted, q looked at -/
def SMI (N : Nat → Nat) (G : Nat → Nat → Nat) (sz E : Nat → Nat) (top a1 p h k i q s : Nat) (L Hw : Nat → Nat) : Prop :=
  (a1 < q ∧ a1 < s ∧ s ≤ 3601 ∧ p < N 14 ∧ GOOD N G sz E p h) ∧ (∀ j, j < q → L j < N 14 ∧ GOOD N G sz E (L j) (Hw j)) ∧
  (q < 80000 → s + sumW (fun j => SZM N G sz (L j) (Hw j)) (a1 + 1) (q - (a1 + 1)) + sumW (fun j => SZM N G sz (CH G p k) (HK G p h k j)) i (TK N G sz p k - i) + sumW (SZK N G sz p h) (k + 1) (G 12 p - (k + 1)) = SZM N G sz top 0)
/-- before the k-th part -/
def SMK (N : Nat → Nat) (G : Nat → Nat → Nat) (sz E : Nat → Nat) (top a1 p h k q s : Nat) (L Hw : Nat → Nat) : Prop :=
  (a1 < q ∧ a1 < s ∧ s ≤ 3601 ∧ p < N 14 ∧ GOOD N G sz E p h) ∧ (∀ j, j < q → L j < N 14 ∧ GOOD N G sz E (L j) (Hw j)) ∧
  (q < 80000 → s + sumW (fun j => SZM N G sz (L j) (Hw j)) (a1 + 1) (q - (a1 + 1)) + sumW (SZK N G sz p h) k (G 12 p - k) = SZM N G sz top 0)
/-- before the entry a1 -/
def SMO (N : Nat → Nat) (G : Nat → Nat → Nat) (sz E : Nat → Nat) (top a1 q s : Nat) (L Hw : Nat → Nat) : Prop :=
  (a1 ≤ q ∧ a1 ≤ s ∧ s ≤ 3601) ∧ (∀ j, j < q → L j < N 14 ∧ GOOD N G sz E (L j) (Hw j)) ∧
  (q < 80000 → s + sumW (fun j => SZM N G sz (L j) (Hw j)) a1 (q - a1) = SZM N G sz top 0)
section SM
variable {N : Nat → Nat} {G : Nat → Nat → Nat} {sz E : Nat → Nat} {top a1 p h k i q s : Nat} {L Hw : Nat → Nat}
theorem SMO.start (hg : GOOD N G sz E top 0) (htop : top < N 14) : SMO N G sz E top 0 1 0 (va_up L 0 top) (va_up Hw 0 0) := by
  refine ⟨⟨by decide, by decide, by decide⟩, fun j hj => ?_, fun _ => ?_⟩
  · rw [show j = 0 by omega, va_up_self, va_up_self]; exact ⟨htop, hg⟩
  · show 0 + (sumW _ 0 0 + _) = _
    simp only [Nat.zero_add, va_up_self, sumW]
theorem SMO.enter (ho : SMO N G sz E top a1 q s L Hw) (ht : TREE N G sz) (hq : a1 < q) (hs : s ≤ 600) {s2 : Nat} (h2 : s2 = s + if G 10 (L a1) = 1 ∧ 0 < VAR N G (G 11 (L a1)) then sz (G 57 (MTX G (VAR N G (G 11 (L a1)) - 1) (Hw a1))) else 1) (h3 : s < s2) (h4 : s2 ≤ s + 3001) :
    SMK N G sz E top a1 (L a1) (Hw a1) 0 q s2 L Hw := by
  obtain ⟨⟨a, b, c⟩, d, e⟩ := ho
  obtain ⟨d1, d2⟩ := d a1 hq
  refine ⟨⟨hq, by omega, by omega, d1, d2⟩, d, fun z => ?_⟩
  have e1 := e z
  rw [sumW_step _ hq] at e1
  have e2 := SZM_un ht (f := L a1) (h := Hw a1) d1
  rw [Nat.sub_zero]
  omega
theorem SMK.enter (ho : SMK N G sz E top a1 p h k q s L Hw) (hk : k < G 12 p) : SMI N G sz E top a1 p h k 0 q s L Hw := by
  obtain ⟨a, d, e⟩ := ho
  refine ⟨a, d, fun z => ?_⟩
  have e1 := e z
  rw [sumW_step _ hk] at e1
  rw [Nat.sub_zero]
  have : SZK N G sz p h k = sumW (fun j => SZM N G sz (CH G p k) (HK G p h k j)) 0 (TK N G sz p k) := rfl
  omega
theorem SMI.push (ht : TREE N G sz) (hk9 : KEPT N G) (ho : SMI N G sz E top a1 p h k i q s L Hw) (hk : k < G 12 p) (hi : i < TK N G sz p k) {h2 : Nat} (e2 : h2 = HK G p h k i) : SMI N G sz E top a1 p h k (i + 1) (q + 1) s (va_up L q (CH G p k)) (va_up Hw q h2) := by
  subst e2
  obtain ⟨⟨a, b, c, d1, d2⟩, d, e⟩ := ho
  have c1 := ((ht.2 p d1).2.2.1 k hk).2
  refine ⟨⟨by omega, b, c, d1, d2⟩, fun j hj => ?_, fun z => ?_⟩
  · by_cases ej : j = q
    · subst ej; rw [va_up_self, va_up_self]; exact ⟨c1, d2.part ht hk9 d1 hk hi⟩
    · rw [va_up_ne _ _ ej, va_up_ne _ _ ej]; exact d j (by omega)
  · have e1 := e (by omega)
    rw [sumW_step _ hi] at e1
    have e3 : sumW (fun j => SZM N G sz (va_up L q (CH G p k) j) (va_up Hw q (HK G p h k i) j)) (a1 + 1) (q + 1 - (a1 + 1)) = sumW (fun j => SZM N G sz (L j) (Hw j)) (a1 + 1) (q - (a1 + 1)) + SZM N G sz (CH G p k) (HK G p h k i) := by
      rw [show q + 1 - (a1 + 1) = (q - (a1 + 1)) + 1 by omega, sumW]
      congr 1
      · refine sumW_congr _ (fun j _ hj => ?_)
        rw [va_up_ne _ _ (by omega), va_up_ne _ _ (by omega)]
      · rw [show a1 + 1 + (q - (a1 + 1)) = q by omega, va_up_self, va_up_self]
    omega
theorem SMI.exit (ho : SMI N G sz E top a1 p h k i q s L Hw) (hi : TK N G sz p k ≤ i) : SMK N G sz E top a1 p h (k + 1) q s L Hw := by
  obtain ⟨a, d, e⟩ := ho
  refine ⟨a, d, fun z => ?_⟩
  have e1 := e z
  rw [Nat.sub_eq_zero_of_le hi, sumW] at e1
  omega
theorem SMK.exit (ho : SMK N G sz E top a1 p h k q s L Hw) (hk : G 12 p ≤ k ∨ 80000 ≤ q) : SMO N G sz E top (a1 + 1) q s L Hw := by
  obtain ⟨⟨a, b, c, d1, d2⟩, d, e⟩ := ho
  refine ⟨⟨a, b, c⟩, d, fun z => ?_⟩
  have e1 := e z
  rcases hk with y | y
  · rw [Nat.sub_eq_zero_of_le y, sumW] at e1
    omega
  · omega
theorem SMO.fin (ho : SMO N G sz E top a1 q s L Hw) (hx : q ≤ a1 ∨ 600 < s) : s ≤ 3601 ∧ (s ≤ 600 → SZM N G sz top 0 = s) := by
  obtain ⟨⟨a, b, c⟩, d, e⟩ := ho
  refine ⟨c, fun z => ?_⟩
  have e1 := e (by omega)
  rw [show q - a1 = 0 by omega, sumW] at e1
  omega
end SM

set_option maxHeartbeats 4000000 in
set_option maxRecDepth 100000 in
theorem lp_aca1 {p : Program} {l : Launch} {e : Env} {s : State} {m : MethodId} {args : Array Value} {below : List Frame} {meth : Method} {c : Code} {Q : State → Prop} {A : Nat → Prop} {dC : Nat → ClassId} {dI : Nat → Nat → Nat} {cB cC cI cJ cZ : ClassId} {z0 : Nat} {R : Nat → Nat} (hx : p.tables.exec = Jvm.exec) (hb : c.code = cX12_areCountsAlike) (hml : c.maxLocals = 6) (hown : s.vm.findClass RX12 = some m.cls) (hts : ∀ w ∈ vX12_areCountsAlike, w.before args s = true) (hK : va_K (dC, dI) vwCl (TY cB cC cI cJ cZ) s) (hA : ∀ q : Nat, s.heap.size ≤ q → A q) {pl : Int32} {N : Nat → Nat} {G : Nat → Nat → Nat} {B : Nat → Nat → Int32} {sz : Nat → Nat} (hG : ∀ k i, G k i < 1048576) (ht9 : TREE N G sz) (hal : AL N G) (hN : N 49 ≤ 1600) (a1 a0 : Nat) (ke : ∀ (q fi : Nat) (L Hw O I : Nat → Nat) (H : Heap) (locs : List Loc), (∀ i, L i < 1048576) → (∀ i, Hw i < 1048576) → (∀ i, O i < 1048576) → (∀ i, I i < 1048576) → fi ≤ 1 → COUT N sz (a1 + 1) q L → va_P (dC, dI) vwCl (MW cB cC cI cJ cZ z0 R pl (va_up N 53 q) (LK (va_up G 54 I) L Hw O) B) H → va_D A (MW cB cC cI cJ cZ z0 R pl (va_up N 53 q) (LK (va_up G 54 I) L Hw O) B) → va_S A s.heap H locs → ∀ (ls : Array Slot), lv_has ls 6 [(0, .ref z0), (2, .int (nI fi)), (3, .int (nI a1))] → W p l e (headSpec vX12_areCountsAlike { frames := 3, cells := 0, slots := 0, locals := 70 }).room s m args below meth c H locs 0 0 Q (F0 m 112 ls [])) : ∀ (k : Nat) (kx q fi : Nat) (L Hw O I : Nat → Nat), G 12 a0 - kx < k → kx ≤ 1048576 → (∀ i, L i < 1048576) → (∀ i, Hw i < 1048576) → (∀ i, O i < 1048576) → (∀ i, I i < 1048576) → fi ≤ 1 → CINV N G sz a1 a0 kx q L → ∀ (H : Heap) (locs : List Loc), va_P (dC, dI) vwCl (MW cB cC cI cJ cZ z0 R pl (va_up N 53 q) (LK (va_up G 54 I) L Hw O) B) H → va_D A (MW cB cC cI cJ cZ z0 R pl (va_up N 53 q) (LK (va_up G 54 I) L Hw O) B) → va_S A s.heap H locs → ∀ (ls : Array Slot), lv_has ls 6 [(0, .ref z0), (2, .int (nI fi)), (3, .int (nI a1)), (4, .int (nI a0)), (5, .int (nI kx))] → W p l e (headSpec vX12_areCountsAlike { frames := 3, cells := 0, slots := 0, locals := 70 }).room s m args below meth c H locs 0 0 Q (F0 m 39 ls []) := by
  have hcs : 0 + 0 ≤ (0 : Nat) ∧ 0 + 0 ≤ (0 : Nat) := ⟨Nat.le_refl 0, Nat.le_refl 0⟩
  intro k
  induction k with
  | zero =>
    intro kx q fi L Hw O I hk hkb hL hH hO hI hfi hp
    omega
  | succ k ih =>
    intro kx q fi L Hw O I hk hkb hL hH hO hI hfi hp H locs hP hD hS ls hl
    obtain ⟨n1, n3, n6⟩ := hp.num ht9
    obtain ⟨u1, u2, u3, u4, u5⟩ := ht9.2 a0 n6
    have u6 := ht9.1
    have g1 := hG 12 a0
    have hG2 := hGLK (hGup (q := 54) hG hI) hL hH hO
    have hp9 : a0 < N 14 := n6
    have hp8 : a0 < 90000 := by omega
    refine lv_iload hx hb dX12_areCountsAlike_39 (lv_at hl 4 rfl) ?_
    refine lv_aload_n hx hb dX12_areCountsAlike_41 rfl (lv_at hl 0 rfl) ?_
    refine mg_12 hx hb hts inX12_areCountsAlike hown hK hP (hts _ lkX12_areCountsAlike_f38) dX12_areCountsAlike_42 ?_
    refine lv_iload hx hb dX12_areCountsAlike_45 (lv_at hl 3 rfl) ?_
    refine ml_12 hx hb hK hP (by omega) dX12_areCountsAlike_47 ?_
    refine tp_i (y := nI (G 12 a0)) rfl ?_
    refine bn_ge (tgt := 112) hx hb (by first | omega | exact Nat.lt_of_lt_of_le (hG _ _) (by decide)) (by first | omega | exact Nat.lt_of_lt_of_le (hG _ _) (by decide)) dX12_areCountsAlike_48 (by decide) (fun c1 => ?_) (fun c1 => ?_)
    · exact ke q fi L Hw O I H locs hL hH hO hI hfi hp.exit hP hD hS ls (lv_sub hl [0, 1, 2] rfl)
    · obtain ⟨t1, t2⟩ := u3 kx c1
      have t3 := cnt_le ht9 n6
      refine lv_iload_n hx hb dX12_areCountsAlike_51 rfl (lv_at hl 1 rfl) ?_
      refine bz_eq (tgt := 112) hx hb (by first | omega | exact Nat.lt_of_lt_of_le (hG _ _) (by decide)) dX12_areCountsAlike_52 (by decide) (fun c2 => ?_) (fun c2 => ?_)
      · exact ke q fi L Hw O I H locs hL hH hO hI hfi hp.exit hP hD hS ls (lv_sub hl [0, 1, 2] rfl)
      · refine lv_aload_n hx hb dX12_areCountsAlike_55 rfl (lv_at hl 0 rfl) ?_
        refine lv_iload hx hb dX12_areCountsAlike_56 (lv_at hl 3 rfl) ?_
        refine lv_iload hx hb dX12_areCountsAlike_58 (lv_at hl 4 rfl) ?_
        refine lv_iconst (v := nI 1) hx hb dX12_areCountsAlike_60 (by decide) ?_
        refine lv_iadd hx hb dX12_areCountsAlike_61 ?_
        refine tp_i (nI_add kx 1) ?_
        have hch : ∀ j, j < G 12 a0 → G 11 a0 + j < 90000 ∧ CH G a0 j < 90000 ∧ (G 10 (CH G a0 j) = 1 → nmOK N (G 11 (CH G a0 j))) := fun j y => ⟨(ht9.pt hp9 y).1, (ht9.pt hp9 y).2.2.1, (ht9.2 _ (ht9.pt hp9 y).2.1).2.2.2.1⟩
        refine mcl_i (As := [.int (nI a0), .int (nI (kx + 1))]) (rest := []) ⟨hx, hb, hml, hown, hts⟩ (m_isEllipsis l dC dI cB cC cI cJ cZ z0 R pl (va_up N 53 q) (LK (va_up G 54 I) L Hw O) B a0 (kx + 1) hG2 hal (by omega) (by omega) (hch _) H.size) (cwV 2 hts kX12_areCountsAlike_X12_isEllipsis_321 rfl rfl rfl (by decide +kernel) ⟨Nat.le_of_ble_eq_true rfl, Nat.le_of_ble_eq_true rfl⟩) hK hP hD hS hA rfl rfl hl.1 (lv_room (Nat.le_of_ble_eq_true rfl)) dX12_areCountsAlike_62 hcs (fun r_5 N_1 G_2 B_3 pl_4 hw H locs hP hD hS => ?_)
        dsimp only at hw
        obtain ⟨e1, e2, e3, e4, hw⟩ := hw
        rw [e1, e2, e3, e4] at hP hD
        have hw : r_5 = nI (if ELL G a0 (kx + 1) then 1 else 0) := hw
        by_cases c3 : ELL G a0 (kx + 1)
        · rw [if_pos c3] at hw
          subst hw
          refine bz_eq (tgt := 92) hx hb (by first | omega | exact Nat.lt_of_lt_of_le (hG _ _) (by decide)) dX12_areCountsAlike_65 (by decide) (fun q9 => absurd q9 (by omega)) (fun c => ?_)
          refine lv_aload_n hx hb dX12_areCountsAlike_68 rfl (lv_at hl 0 rfl) ?_
          refine lv_aload_n hx hb dX12_areCountsAlike_69 rfl (lv_at hl 0 rfl) ?_
          refine lv_iload hx hb dX12_areCountsAlike_70 (lv_at hl 3 rfl) ?_
          refine lv_iload hx hb dX12_areCountsAlike_72 (lv_at hl 4 rfl) ?_
          refine mcl_i (As := [.int (nI a0), .int (nI kx)]) (rest := [.ref z0]) ⟨hx, hb, hml, hown, hts⟩ (m_part l dC dI cB cC cI cJ cZ z0 R pl (va_up N 53 q) (LK (va_up G 54 I) L Hw O) B a0 kx hG2 (by omega) t1 H.size) (cwV 2 hts kX12_areCountsAlike_X12_part_192 rfl rfl rfl (by decide +kernel) ⟨Nat.le_of_ble_eq_true rfl, Nat.le_of_ble_eq_true rfl⟩) hK hP hD hS hA rfl rfl hl.1 (lv_room (Nat.le_of_ble_eq_true rfl)) dX12_areCountsAlike_74 hcs (fun r_10 N_6 G_7 B_8 pl_9 hw H locs hP hD hS => ?_)
          dsimp only at hw
          obtain ⟨e1, e2, e3, e4, hw⟩ := hw
          rw [e1, e2, e3, e4] at hP hD
          have hw : r_10 = nI (CH G a0 kx) := hw
          subst hw
          refine mcl_i (As := [.int (nI (CH G a0 kx))]) (rest := []) ⟨hx, hb, hml, hown, hts⟩ (m_turnsOf l dC dI cB cC cI cJ cZ z0 R pl (va_up N 53 q) (LK (va_up G 54 I) L Hw O) B (CH G a0 kx) sz hG2 ht9 hN t2 H.size) (cwV 1 hts kX12_areCountsAlike_X12_turnsOf_367 rfl rfl rfl (by decide +kernel) ⟨Nat.le_of_ble_eq_true rfl, Nat.le_of_ble_eq_true rfl⟩) hK hP hD hS hA rfl rfl hl.1 (lv_room (Nat.le_of_ble_eq_true rfl)) dX12_areCountsAlike_77 hcs (fun r_15 N_11 G_12 B_13 pl_14 hw H locs hP hD hS => ?_)
          dsimp only at hw
          obtain ⟨e1, ⟨I2, hI2, e2⟩, e3, e4, q9, hq9, hw, -⟩ := hw
          rw [e1, e2, e3, e4, LK54, bx_uu] at hP hD
          subst hw
          refine lv_if_lt (tgt := 87) hx hb dX12_areCountsAlike_80 (by decide) (fun c4 => ?_) (fun c4 => ?_)
          · refine lv_iconst (v := nI 0) hx hb dX12_areCountsAlike_87 (by decide) ?_
            refine lv_istore_n (lv' := [(2, .int (nI 0)), (0, .ref z0), (3, .int (nI a1)), (4, .int (nI a0)), (5, .int (nI kx))]) hx hb dX12_areCountsAlike_88 rfl hl (by decide) rfl (fun ls hl => ?_)
            refine lv_goto (tgt := 106) hx hb dX12_areCountsAlike_89 (by decide) ?_
            refine lv_iinc (v := nI (kx + 1)) (lv' := [(5, .int (nI (kx + 1))), (2, .int (nI 0)), (0, .ref z0), (3, .int (nI a1)), (4, .int (nI a0))]) hx hb dX12_areCountsAlike_106 hl (k := 4) rfl (nI_add kx 1) (by decide) rfl (fun ls hl => ?_)
            refine lv_goto (tgt := 39) hx hb dX12_areCountsAlike_109 (by decide) ?_
            exact ih (kx + 1) q 0 L Hw O I2 (by omega) (by omega) hL hH hO hI2 (by decide) (hp.skip c1) _ _ hP hD hS ls (lv_sub hl [2, 1, 3, 4, 0] rfl)
          · refine lv_iconst (v := nI 1) hx hb dX12_areCountsAlike_83 (by decide) ?_
            refine lv_goto (tgt := 88) hx hb dX12_areCountsAlike_84 (by decide) ?_
            refine lv_istore_n (lv' := [(2, .int (nI 1)), (0, .ref z0), (3, .int (nI a1)), (4, .int (nI a0)), (5, .int (nI kx))]) hx hb dX12_areCountsAlike_88 rfl hl (by decide) rfl (fun ls hl => ?_)
            refine lv_goto (tgt := 106) hx hb dX12_areCountsAlike_89 (by decide) ?_
            refine lv_iinc (v := nI (kx + 1)) (lv' := [(5, .int (nI (kx + 1))), (2, .int (nI 1)), (0, .ref z0), (3, .int (nI a1)), (4, .int (nI a0))]) hx hb dX12_areCountsAlike_106 hl (k := 4) rfl (nI_add kx 1) (by decide) rfl (fun ls hl => ?_)
            refine lv_goto (tgt := 39) hx hb dX12_areCountsAlike_109 (by decide) ?_
            exact ih (kx + 1) q 1 L Hw O I2 (by omega) (by omega) hL hH hO hI2 (by decide) (hp.skip c1) _ _ hP hD hS ls (lv_sub hl [2, 1, 3, 4, 0] rfl)
        · rw [if_neg c3] at hw
          subst hw
          refine bz_eq (tgt := 92) hx hb (by first | omega | exact Nat.lt_of_lt_of_le (hG _ _) (by decide)) dX12_areCountsAlike_65 (by decide) (fun c => ?_) (fun q9 => absurd q9 (by omega))
          refine lv_aload_n hx hb dX12_areCountsAlike_92 rfl (lv_at hl 0 rfl) ?_
          refine lv_aload_n hx hb dX12_areCountsAlike_93 rfl (lv_at hl 0 rfl) ?_
          refine lv_iload hx hb dX12_areCountsAlike_94 (lv_at hl 3 rfl) ?_
          refine lv_iload hx hb dX12_areCountsAlike_96 (lv_at hl 4 rfl) ?_
          refine mcl_i (As := [.int (nI a0), .int (nI kx)]) (rest := [.ref z0]) ⟨hx, hb, hml, hown, hts⟩ (m_part l dC dI cB cC cI cJ cZ z0 R pl (va_up N 53 q) (LK (va_up G 54 I) L Hw O) B a0 kx hG2 (by omega) t1 H.size) (cwV 2 hts kX12_areCountsAlike_X12_part_192 rfl rfl rfl (by decide +kernel) ⟨Nat.le_of_ble_eq_true rfl, Nat.le_of_ble_eq_true rfl⟩) hK hP hD hS hA rfl rfl hl.1 (lv_room (Nat.le_of_ble_eq_true rfl)) dX12_areCountsAlike_98 hcs (fun r_20 N_16 G_17 B_18 pl_19 hw H locs hP hD hS => ?_)
          dsimp only at hw
          obtain ⟨e1, e2, e3, e4, hw⟩ := hw
          rw [e1, e2, e3, e4] at hP hD
          have hw : r_20 = nI (CH G a0 kx) := hw
          subst hw
          refine lv_iconst (v := nI 0) hx hb dX12_areCountsAlike_101 (by decide) ?_
          refine lv_iconst (v := nI 0) hx hb dX12_areCountsAlike_102 (by decide) ?_
          refine mcl_v (As := [.int (nI (CH G a0 kx)), .int (nI 0), .int (nI 0)]) (rest := []) ⟨hx, hb, hml, hown, hts⟩ (m_lookAt l dC dI cB cC cI cJ cZ z0 R pl (va_up N 53 q) (LK (va_up G 54 I) L Hw O) B (CH G a0 kx) 0 0 (show q < 90000 from (by omega)) H.size) (cwV 3 hts kX12_areCountsAlike_X12_lookAt_318 rfl rfl rfl (by decide +kernel) ⟨Nat.le_of_ble_eq_true rfl, Nat.le_of_ble_eq_true rfl⟩) hK hP hD hS hA rfl rfl hl.1 (lv_room (Nat.le_of_ble_eq_true rfl)) dX12_areCountsAlike_103 hcs (fun  N_21 G_22 B_23 pl_24 hw H locs hP hD hS => ?_)
          dsimp only at hw
          obtain ⟨e1, e2, e3, e4⟩ := hw
          rw [e1, e2, e3, e4, bx_uu, LK_look] at hP hD
          have hP : va_P (dC, dI) vwCl (MW cB cC cI cJ cZ z0 R pl (va_up N 53 (q + 1)) (LK (va_up G 54 I) (va_up L q (CH G a0 kx)) (va_up Hw q 0) (va_up O q 0)) B) H := hP
          have hD : va_D A (MW cB cC cI cJ cZ z0 R pl (va_up N 53 (q + 1)) (LK (va_up G 54 I) (va_up L q (CH G a0 kx)) (va_up Hw q 0) (va_up O q 0)) B) := hD
          refine lv_iinc (v := nI (kx + 1)) (lv' := [(5, .int (nI (kx + 1))), (0, .ref z0), (2, .int (nI fi)), (3, .int (nI a1)), (4, .int (nI a0))]) hx hb dX12_areCountsAlike_106 hl (k := 4) rfl (nI_add kx 1) (by decide) rfl (fun ls hl => ?_)
          refine lv_goto (tgt := 39) hx hb dX12_areCountsAlike_109 (by decide) ?_
          exact ih (kx + 1) (q + 1) fi _ _ _ I (by omega) (by omega) (hIup hL (by omega)) (hIup hH (by decide)) (hIup hO (by decide)) hI hfi (hp.push c1 t2) _ _ hP hD hS ls (lv_sub hl [1, 2, 3, 4, 0] rfl)

set_option maxHeartbeats 4000000 in
set_option maxRecDepth 100000 in
theorem lp_aca2 {p : Program} {l : Launch} {e : Env} {s : State} {m : MethodId} {args : Array Value} {below : List Frame} {meth : Method} {c : Code} {Q : State → Prop} {A : Nat → Prop} {dC : Nat → ClassId} {dI : Nat → Nat → Nat} {cB cC cI cJ cZ : ClassId} {z0 : Nat} {R : Nat → Nat} (hx : p.tables.exec = Jvm.exec) (hb : c.code = cX12_areCountsAlike) (hml : c.maxLocals = 6) (hown : s.vm.findClass RX12 = some m.cls) (hts : ∀ w ∈ vX12_areCountsAlike, w.before args s = true) (hK : va_K (dC, dI) vwCl (TY cB cC cI cJ cZ) s) (hA : ∀ q : Nat, s.heap.size ≤ q → A q) {pl : Int32} {N : Nat → Nat} {G : Nat → Nat → Nat} {B : Nat → Nat → Int32} {sz : Nat → Nat} (hG : ∀ k i, G k i < 1048576) (ht9 : TREE N G sz) (hal : AL N G) (hN : N 49 ≤ 1600) (ke : ∀ (q fi : Nat) (L Hw O I : Nat → Nat) (H : Heap) (locs : List Loc), (∀ i, L i < 1048576) → (∀ i, Hw i < 1048576) → (∀ i, O i < 1048576) → (∀ i, I i < 1048576) → fi ≤ 1 → q ≤ 3001 → va_P (dC, dI) vwCl (MW cB cC cI cJ cZ z0 R pl (va_up N 53 q) (LK (va_up G 54 I) L Hw O) B) H → va_D A (MW cB cC cI cJ cZ z0 R pl (va_up N 53 q) (LK (va_up G 54 I) L Hw O) B) → va_S A s.heap H locs → ∀ (ls : Array Slot), lv_has ls 6 [(2, .int (nI fi))] → W p l e (headSpec vX12_areCountsAlike { frames := 3, cells := 0, slots := 0, locals := 70 }).room s m args below meth c H locs 0 0 Q (F0 m 118 ls [])) : ∀ (k : Nat) (a1 q fi : Nat) (L Hw O I : Nat → Nat), 3002 - a1 < k → (∀ i, L i < 1048576) → (∀ i, Hw i < 1048576) → (∀ i, O i < 1048576) → (∀ i, I i < 1048576) → fi ≤ 1 → COUT N sz a1 q L → ∀ (H : Heap) (locs : List Loc), va_P (dC, dI) vwCl (MW cB cC cI cJ cZ z0 R pl (va_up N 53 q) (LK (va_up G 54 I) L Hw O) B) H → va_D A (MW cB cC cI cJ cZ z0 R pl (va_up N 53 q) (LK (va_up G 54 I) L Hw O) B) → va_S A s.heap H locs → ∀ (ls : Array Slot), lv_has ls 6 [(0, .ref z0), (2, .int (nI fi)), (3, .int (nI a1))] → W p l e (headSpec vX12_areCountsAlike { frames := 3, cells := 0, slots := 0, locals := 70 }).room s m args below meth c H locs 0 0 Q (F0 m 16 ls []) := by
  have hcs : 0 + 0 ≤ (0 : Nat) ∧ 0 + 0 ≤ (0 : Nat) := ⟨Nat.le_refl 0, Nat.le_refl 0⟩
  intro k
  induction k with
  | zero =>
    intro a1 q fi L Hw O I hk hL hH hO hI hfi hp H locs hP hD hS ls hl
    exact absurd hk (by omega)
  | succ k ih =>
    intro a1 q fi L Hw O I hk hL hH hO hI hfi hp H locs hP hD hS ls hl
    obtain ⟨n1, n3⟩ := hp.num ht9
    have u6 := ht9.1
    refine lv_iload_n hx hb dX12_areCountsAlike_16 rfl (lv_at hl 2 rfl) ?_
    refine lv_aload_n hx hb dX12_areCountsAlike_17 rfl (lv_at hl 0 rfl) ?_
    refine mg_53 hx hb hts inX12_areCountsAlike hown hK hP (hts _ lkX12_areCountsAlike_f306) dX12_areCountsAlike_18 ?_
    refine tp_i (y := nI q) rfl ?_
    refine bn_ge (tgt := 118) hx hb (by first | omega | exact Nat.lt_of_lt_of_le (hG _ _) (by decide)) (by first | omega | exact Nat.lt_of_lt_of_le (hG _ _) (by decide)) dX12_areCountsAlike_21 (by decide) (fun c1 => ?_) (fun c1 => ?_)
    · exact ke q fi L Hw O I H locs hL hH hO hI hfi n1 hP hD hS ls (lv_sub hl [1] rfl)
    · refine lv_iload_n hx hb dX12_areCountsAlike_24 rfl (lv_at hl 1 rfl) ?_
      refine bz_eq (tgt := 118) hx hb (by first | omega | exact Nat.lt_of_lt_of_le (hG _ _) (by decide)) dX12_areCountsAlike_25 (by decide) (fun c2 => ?_) (fun c2 => ?_)
      · exact ke q fi L Hw O I H locs hL hH hO hI hfi n1 hP hD hS ls (lv_sub hl [1] rfl)
      · refine lv_aload_n hx hb dX12_areCountsAlike_28 rfl (lv_at hl 0 rfl) ?_
        refine mg_50 hx hb hts inX12_areCountsAlike hown hK hP (hts _ lkX12_areCountsAlike_f98) dX12_areCountsAlike_29 ?_
        refine lv_iload_n hx hb dX12_areCountsAlike_32 rfl (lv_at hl 2 rfl) ?_
        refine ml_50 hx hb hK hP (by omega) dX12_areCountsAlike_33 ?_
        refine tp_i (y := nI (L a1)) rfl ?_
        refine lv_istore (lv' := [(4, .int (nI (L a1))), (0, .ref z0), (2, .int (nI fi)), (3, .int (nI a1))]) hx hb dX12_areCountsAlike_34 hl (by decide) rfl (fun ls hl => ?_)
        refine lv_iconst (v := nI 0) hx hb dX12_areCountsAlike_36 (by decide) ?_
        refine lv_istore (lv' := [(5, .int (nI 0)), (4, .int (nI (L a1))), (0, .ref z0), (2, .int (nI fi)), (3, .int (nI a1))]) hx hb dX12_areCountsAlike_37 hl (by decide) rfl (fun ls hl => ?_)
        refine lp_aca1 hx hb hml hown hts hK hA hG ht9 hal hN a1 (L a1) (fun q fi L Hw O I H locs hL hH hO hI hfi hp hP hD hS ls hl => ?_) _ 0 q fi L Hw O I (Nat.lt_succ_self _) (by decide) hL hH hO hI hfi (hp.enter ht9 c1) _ _ hP hD hS ls (lv_sub hl [2, 3, 4, 1, 0] rfl)
        have n9 := hp.num ht9
        refine lv_iinc (v := nI (a1 + 1)) (lv' := [(3, .int (nI (a1 + 1))), (0, .ref z0), (2, .int (nI fi))]) hx hb dX12_areCountsAlike_112 hl (k := 2) rfl (nI_add a1 1) (by decide) rfl (fun ls hl => ?_)
        refine lv_goto (tgt := 16) hx hb dX12_areCountsAlike_115 (by decide) ?_
        exact ih (a1 + 1) q fi L Hw O I (by omega) hL hH hO hI hfi hp _ _ hP hD hS ls (lv_sub hl [1, 2, 0] rfl)

set_option maxHeartbeats 4000000 in
set_option maxRecDepth 100000 in
/-- areCountsAlike -/
theorem m_areCountsAlike (l : Launch) (dC : Nat → ClassId) (dI : Nat → Nat → Nat) (cB cC cI cJ cZ : ClassId) (z0 : Nat) (R : Nat → Nat) (pl : Int32) (N : Nat → Nat) (G : Nat → Nat → Nat) (B : Nat → Nat → Int32) (top : Nat) (sz : Nat → Nat) (hG : ∀ k i, G k i < 1048576) (ht9 : TREE N G sz) (hal : AL N G) (hN : N 49 ≤ 1600) (htop : top < N 14) (s0 : Nat) : Met l yX12_areCountsAlike vX12_areCountsAlike { frames := 3, cells := 0, slots := 0, locals := 70 } (va_Pc [.ref z0, .int (nI top)] (mPre dC dI cB cC cI cJ cZ z0 R pl N G B s0)) (va_Qi (fun (r : Int32) (u : ((Nat → Nat) × (Nat → Nat → Nat) × (Nat → Nat → Int32) × Int32)) => match u with | (N1, G1, B1, pl1) => B1 = B ∧ pl1 = pl ∧ ∃ q fi L Hw O I, (∀ i, L i < 1048576) ∧ (∀ i, Hw i < 1048576) ∧ (∀ i, O i < 1048576) ∧ (∀ i, I i < 1048576) ∧ q ≤ 3001 ∧ N1 = va_up N 53 q ∧ G1 = LK (va_up G 54 I) L Hw O ∧ r = nI fi ∧ fi ≤ 1) (mPost dC dI cB cC cI cJ cZ z0 R (va_A (MW cB cC cI cJ cZ z0 R pl N G B) s0)) (va_A (MW cB cC cI cJ cZ z0 R pl N G B) s0)) 0 0 (va_A (MW cB cC cI cJ cZ z0 R pl N G B) s0) := by
  refine Met.ofW (cc := cX12_areCountsAlike) (maxL := 6) (ret := (some .boolean)) (by decide) rfl ?_
  intro p e s m args below meth c s₁ B9 hml hv
  obtain ⟨rfl, hsz, hP, hK, hD0⟩ := hv
  have hx := B9.exec
  have hb := B9.bytes
  have hr := B9.returns
  have hts := atoms_spec (ws := vX12_areCountsAlike) B9.pre
  have hown : s.vm.findClass RX12 = some m.cls := findClass_of_methodNamed B9.named
  have hlocks := B9.notSynchronized
  subst hsz
  have hD := hD0.self (sz := s.heap.size)
  generalize hAe : va_A (MW cB cC cI cJ cZ z0 R pl N G B) s.heap.size = A at hD ⊢
  have hA : ∀ q : Nat, s.heap.size ≤ q → A q := fun q h => by rw [← hAe]; exact Or.inr h
  have hS : va_S A s.heap s.heap [] := va_S.rf
  have hcs : 0 + 0 ≤ (0 : Nat) ∧ 0 + 0 ≤ (0 : Nat) := ⟨Nat.le_refl 0, Nat.le_refl 0⟩
  have hl := lv_entry ([.ref z0, .int (nI top)]) (n := 6) (Nat.le_of_ble_eq_true rfl)
  rw [lg_entry_eq]
  generalize (lg_sl ([.ref z0, .int (nI top)]) ++ List.replicate (6 - (lg_sl ([.ref z0, .int (nI top)])).length) Slot.unset).toArray = ls at hl ⊢
  have hl : lv_has ls 6 [(0, .ref z0), (1, .int (nI top))] := hl
  have u6 := ht9.1
  refine lv_aload_n hx hb dX12_areCountsAlike_0 rfl (lv_at hl 0 rfl) ?_
  refine lv_iconst (v := nI 0) hx hb dX12_areCountsAlike_1 (by decide) ?_
  refine mp_53 hx hb hts inX12_areCountsAlike hown hK hP hD hS (hts _ lkX12_areCountsAlike_f306) dX12_areCountsAlike_2 (fun H locs hP hD hS => ?_)
  refine lv_aload_n hx hb dX12_areCountsAlike_5 rfl (lv_at hl 0 rfl) ?_
  refine lv_iload_n hx hb dX12_areCountsAlike_6 rfl (lv_at hl 1 rfl) ?_
  refine lv_iconst (v := nI 0) hx hb dX12_areCountsAlike_7 (by decide) ?_
  refine lv_iconst (v := nI 0) hx hb dX12_areCountsAlike_8 (by decide) ?_
  have hP : va_P (dC, dI) vwCl (MW cB cC cI cJ cZ z0 R pl (va_up N 53 0) (LK (va_up G 54 (G 54)) (G 50) (G 51) (G 52)) B) H := by rw [va_upid, LK_self]; exact hP
  have hD : va_D A (MW cB cC cI cJ cZ z0 R pl (va_up N 53 0) (LK (va_up G 54 (G 54)) (G 50) (G 51) (G 52)) B) := by rw [va_upid, LK_self]; exact hD
  refine mcl_v (As := [.int (nI top), .int (nI 0), .int (nI 0)]) (rest := []) ⟨hx, hb, hml, hown, hts⟩ (m_lookAt l dC dI cB cC cI cJ cZ z0 R pl (va_up N 53 0) (LK (va_up G 54 (G 54)) (G 50) (G 51) (G 52)) B top 0 0 (show 0 < 90000 from (by decide)) H.size) (cwV 3 hts kX12_areCountsAlike_X12_lookAt_318 rfl rfl rfl (by decide +kernel) ⟨Nat.le_of_ble_eq_true rfl, Nat.le_of_ble_eq_true rfl⟩) hK hP hD hS hA rfl rfl hl.1 (lv_room (Nat.le_of_ble_eq_true rfl)) dX12_areCountsAlike_9 hcs (fun  N_1 G_2 B_3 pl_4 hw H locs hP hD hS => ?_)
  dsimp only at hw
  obtain ⟨e1, e2, e3, e4⟩ := hw
  rw [e1, e2, e3, e4, bx_uu, LK_look] at hP hD
  have hP : va_P (dC, dI) vwCl (MW cB cC cI cJ cZ z0 R pl (va_up N 53 (0 + 1)) (LK (va_up G 54 (G 54)) (va_up (G 50) 0 top) (va_up (G 51) 0 0) (va_up (G 52) 0 0)) B) H := hP
  have hD : va_D A (MW cB cC cI cJ cZ z0 R pl (va_up N 53 (0 + 1)) (LK (va_up G 54 (G 54)) (va_up (G 50) 0 top) (va_up (G 51) 0 0) (va_up (G 52) 0 0)) B) := hD
  refine lv_iconst (v := nI 1) hx hb dX12_areCountsAlike_12 (by decide) ?_
  refine lv_istore_n (lv' := [(2, .int (nI 1)), (0, .ref z0), (1, .int (nI top))]) hx hb dX12_areCountsAlike_13 rfl hl (by decide) rfl (fun ls hl => ?_)
  refine lv_iconst (v := nI 0) hx hb dX12_areCountsAlike_14 (by decide) ?_
  refine lv_istore_n (lv' := [(3, .int (nI 0)), (2, .int (nI 1)), (0, .ref z0), (1, .int (nI top))]) hx hb dX12_areCountsAlike_15 rfl hl (by decide) rfl (fun ls hl => ?_)
  refine lp_aca2 hx hb hml hown hts hK hA hG ht9 hal hN (fun q fi L Hw O I H locs hL hH hO hI hfi hq hP hD hS ls hl => ?_) _ 0 1 1 _ _ _ (G 54) (Nat.lt_succ_self _) (hIup (hG 50) (by omega)) (hIup (hG 51) (by decide)) (hIup (hG 52) (by decide)) (hG 54) (by decide) (COUT.start ht9 htop) _ _ hP hD hS ls (lv_sub hl [2, 1, 0] rfl)
  refine lv_iload_n hx hb dX12_areCountsAlike_118 rfl (lv_at hl 0 rfl) ?_
  have hz1 : narrow .boolean (.int (nI fi)) = .int (nI fi) := by rcases (show fi = 0 ∨ fi = 1 by omega) with h | h <;> rw [h] <;> rfl
  exact W.zret (v := (nI fi)) hx hb hr hz1 (fun t ht hW => ⟨⟨(nI fi), (va_up N 53 q, LK (va_up G 54 I) L Hw O, B, pl), rfl, ⟨rfl, rfl, q, fi, L, Hw, O, I, hL, hH, hO, hI, hq, rfl, rfl, rfl, hfi⟩, by rw [ht]; exact hP, va_K.moved hW.alike hK, hD⟩, hS.F ht⟩) hS.2.2 dX12_areCountsAlike_119
