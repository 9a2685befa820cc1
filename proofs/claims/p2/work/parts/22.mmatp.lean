
def KD (N : Nat → Nat) (G : Nat → Nat → Nat) : Prop := ∀ f, f < N 14 → G 10 f ≤ 2
/-- a list of a pattern that ends in ..., from fr on -/
abbrev OPN (G : Nat → Nat → Nat) (p fr : Nat) : Prop := fr < G 12 p ∧ ELL G p (G 12 p - 1)
/-- how many of its parts stand for one part each -/
def FX (G : Nat → Nat → Nat) (p fr : Nat) : Nat := if OPN G p fr then G 12 p - 2 else G 12 p
def CIX (fx k : Nat) : Nat := if k < fx then k else fx
theorem CIX_bd {fx k fr : Nat} (h : fr ≤ k) (h2 : fr ≤ fx) : CIX fx k ≤ fx ∧ fr ≤ CIX fx k := by
  unfold CIX
  by_cases c : k < fx
  · rw [if_pos c]; omega
  · rw [if_neg c]; omega
/-- the counts fit -/
abbrev FIT (G : Nat → Nat → Nat) (p f fr : Nat) : Prop := (OPN G p fr → FX G p fr ≤ G 12 f) ∧ (¬ OPN G p fr → G 12 f = G 12 p)
/-- what a queue holds behind the putting of cnt entries -/
def QAPP (q0 cnt : Nat) (L0 H0 O0 L Hw O cf hf ff : Nat → Nat) : Prop := (∀ i, i < q0 → L i = L0 i ∧ Hw i = H0 i ∧ O i = O0 i) ∧ ∀ j, j < cnt → L (q0 + j) = cf j ∧ Hw (q0 + j) = hf j ∧ O (q0 + j) = ff j
theorem QAPP.step {q0 j : Nat} {L0 H0 O0 L Hw O cf hf ff : Nat → Nat} (h : QAPP q0 j L0 H0 O0 L Hw O cf hf ff) {a b d : Nat} (ha : a = cf j) (hb : b = hf j) (hd : d = ff j) : QAPP q0 (j + 1) L0 H0 O0 (va_up L (q0 + j) a) (va_up Hw (q0 + j) b) (va_up O (q0 + j) d) cf hf ff := by
  subst ha hb hd
  refine ⟨fun i hi => ?_, fun k hk => ?_⟩
  · rw [va_up_ne _ _ (by omega), va_up_ne _ _ (by omega), va_up_ne _ _ (by omega)]; exact h.1 i hi
  · by_cases e : k = j
    · subst e; rw [va_up_self, va_up_self, va_up_self]; exact ⟨rfl, rfl, rfl⟩
    · rw [va_up_ne _ _ (by omega), va_up_ne _ _ (by omega), va_up_ne _ _ (by omega)]; exact h.2 k (by omega)
theorem QAPP.zero {q0 : Nat} {L0 H0 O0 cf hf ff : Nat → Nat} : QAPP q0 0 L0 H0 O0 L0 H0 O0 cf hf ff := ⟨fun _ _ => ⟨rfl, rfl, rfl⟩, fun _ h => absurd h (Nat.not_lt_zero _)⟩
section MA
variable {N : Nat → Nat} {G : Nat → Nat → Nat} {sz : Nat → Nat}
/-- a list of a pattern, where its parts stand, and that none of those that are looked at is a ... -/
theorem PAT.parts (ht : TREE N G sz) {p fr w : Nat} (hp : p < N 14) (h : PAT G sz p fr w) : (OPN G p fr → fr ≤ FX G p fr ∧ FX G p fr + 2 = G 12 p) ∧ (∀ k, fr ≤ k → k < FX G p fr ∨ OPN G p fr → CIX (FX G p fr) k < G 12 p ∧ fr ≤ CIX (FX G p fr) k ∧ ¬ ELL G p (CIX (FX G p fr) k) ∧ (G 10 (CH G p (CIX (FX G p fr) k)) = 2 → PAT G sz (CH G p (CIX (FX G p fr) k)) 0 (MORE G p w (CIX (FX G p fr) k)))) := by
  rw [PAT_un ht hp] at h
  have ho : OPN G p fr → fr ≤ FX G p fr ∧ FX G p fr + 2 = G 12 p := by
    intro o
    have e : FX G p fr = G 12 p - 2 := if_pos o
    have := ((h (G 12 p - 1) (by omega) (by omega)).1 o.2)
    omega
  refine ⟨ho, fun k hk hx => ?_⟩
  have key : ∀ j, fr ≤ j → j < G 12 p → (OPN G p fr → j + 1 < G 12 p) → j < G 12 p ∧ fr ≤ j ∧ ¬ ELL G p j ∧ (G 10 (CH G p j) = 2 → PAT G sz (CH G p j) 0 (MORE G p w j)) := by
    intro j h1 h2 h3
    obtain ⟨a, b⟩ := h j h1 h2
    have ne : ¬ ELL G p j := by
      intro z
      obtain ⟨z1, z2, z3⟩ := a z
      have : OPN G p fr := ⟨by omega, by rw [show G 12 p - 1 = j by omega]; exact z⟩
      have := h3 this
      omega
    exact ⟨h2, h1, ne, fun z => b ne z⟩
  by_cases o : OPN G p fr
  · obtain ⟨o1, o2⟩ := ho o
    have hc : CIX (FX G p fr) k ≤ FX G p fr ∧ fr ≤ CIX (FX G p fr) k := CIX_bd hk o1
    exact key _ hc.2 (by omega) (fun _ => by omega)
  · have e : FX G p fr = G 12 p := if_neg o
    have hk2 : k < FX G p fr := hx.elim id (fun z => absurd z o)
    have hc : CIX (FX G p fr) k = k := if_pos hk2
    rw [hc]
    exact key k hk (by omega) (fun z => absurd z o)
/-- a form is as a pattern wants it: the counts of its lists -/
def MATf (G : Nat → Nat → Nat) : Nat → Nat → Nat → Nat → Prop
  | 0, _, _, _ => True
  | d + 1, p, f, fr => G 10 p = 2 → G 10 f = 2 ∧ FIT G p f fr ∧ ∀ k, fr ≤ k → k < G 12 f → MATf G d (CH G p (CIX (FX G p fr) k)) (CH G f k) 0
abbrev MAT (G : Nat → Nat → Nat) (sz : Nat → Nat) (p f fr : Nat) : Prop := MATf G (sz f) p f fr
theorem MATf_eq (h : TREE N G sz) : ∀ (d p f fr e : Nat), f < N 14 → sz f ≤ d → sz f ≤ e → (MATf G d p f fr → MATf G e p f fr) := by
  intro d
  induction d with
  | zero => intro p f fr e hp hd; exact absurd (h.one hp) (by omega)
  | succ d ih =>
    intro p f fr e hp hd he q
    cases e with
    | zero => exact absurd (h.one hp) (by omega)
    | succ e =>
      intro h2
      obtain ⟨a, b, c⟩ := q h2
      exact ⟨a, b, fun k h3 h4 => ih _ _ _ e (h.pt hp h4).2.1 (by have := h.lt hp h4; omega) (by have := h.lt hp h4; omega) (c k h3 h4)⟩
theorem MAT_un (h : TREE N G sz) {p f fr : Nat} (hf : f < N 14) : MAT G sz p f fr ↔ (G 10 p = 2 → G 10 f = 2 ∧ FIT G p f fr ∧ ∀ k, fr ≤ k → k < G 12 f → MAT G sz (CH G p (CIX (FX G p fr) k)) (CH G f k) 0) := by
  have h1 := h.one hf
  obtain ⟨d, hd⟩ : ∃ d, sz f = d + 1 := ⟨sz f - 1, by omega⟩
  unfold MAT
  rw [hd]
  constructor
  · intro q h2
    obtain ⟨a, b, c⟩ := q h2
    exact ⟨a, b, fun k h3 h4 => MATf_eq h _ _ _ _ _ (h.pt hf h4).2.1 (by have := h.lt hf h4; omega) (Nat.le_refl _) (c k h3 h4)⟩
  · intro q h2
    obtain ⟨a, b, c⟩ := q h2
    exact ⟨a, b, fun k h3 h4 => MATf_eq h _ _ _ _ _ (h.pt hf h4).2.1 (Nat.le_refl _) (by have := h.lt hf h4; omega) (c k h3 h4)⟩
/-- what holds while a form is held against a pattern -/
def MOUT (N : Nat → Nat) (G : Nat → Nat → Nat) (sz : Nat → Nat) (top lst a1 q fi : Nat) (L Hw O : Nat → Nat) : Prop :=
  (a1 ≤ q ∧ fi ≤ 1) ∧ (∀ i, i < q → L i < N 14 ∧ O i < N 14 ∧ Hw i ≤ 1 ∧ (G 10 (L i) = 2 → ∃ w, PAT G sz (L i) (Hw i) w)) ∧ (a1 + EW (fun f _ _ => sz f) O L Hw a1 (q - a1) ≤ 3001) ∧
  (fi = 1 → (∀ i, a1 ≤ i → i < q → MAT G sz (L i) (O i) (Hw i)) → MAT G sz top lst 1)
theorem MOUT.num {top lst a1 q fi : Nat} {L Hw O : Nat → Nat} (h : MOUT N G sz top lst a1 q fi L Hw O) (ht : TREE N G sz) : q ≤ 3001 ∧ a1 ≤ q ∧ fi ≤ 1 := by
  obtain ⟨⟨a, b⟩, j1, j2, -⟩ := h
  have := EW_len (sz := sz) (L := O) (O := L) (Hw := Hw) (a := a1) (q - a1) (fun i h1 h2 => ht.one (j1 i (by omega)).2.1)
  exact ⟨by omega, a, b⟩
theorem MOUT.start {top lst : Nat} {L Hw O : Nat → Nat} (ht : TREE N G sz) (htop : top < N 14) (hl : lst < N 14) (hp : PAT G sz top 1 0) : MOUT N G sz top lst 0 1 1 (va_up L 0 top) (va_up Hw 0 1) (va_up O 0 lst) := by
  have s1 := (ht.2 _ hl).2.1
  refine ⟨⟨by decide, by decide⟩, fun i hi => ?_, ?_, fun _ y => ?_⟩
  · rw [show i = 0 by omega, va_up_self, va_up_self, va_up_self]; exact ⟨htop, hl, by decide, fun _ => ⟨0, hp⟩⟩
  · show 0 + (sumW _ 0 0 + _) ≤ 3001
    simp only [Nat.zero_add, va_up_self, sumW]; omega
  · have := y 0 (Nat.le_refl 0) (by decide)
    rw [va_up_self, va_up_self, va_up_self] at this
    exact this
/-- an entry that is no list: nothing more of it is wanted -/
theorem MOUT.skip {top lst a1 q fi : Nat} {L Hw O : Nat → Nat} (h : MOUT N G sz top lst a1 q 1 L Hw O) (ht : TREE N G sz) (hq : a1 < q) (hf : fi ≤ 1) (hm : fi = 1 → G 10 (L a1) ≠ 2) : MOUT N G sz top lst (a1 + 1) q fi L Hw O := by
  obtain ⟨⟨a, b⟩, j1, j2, j3⟩ := h
  have e1 : EW (fun f _ _ => sz f) O L Hw a1 (q - a1) = sz (O a1) + EW (fun f _ _ => sz f) O L Hw (a1 + 1) (q - (a1 + 1)) := EW_head hq
  have o1 := ht.one (j1 a1 hq).2.1
  refine ⟨⟨hq, hf⟩, j1, by omega, fun z y => j3 rfl (fun i h1 h2 => ?_)⟩
  by_cases e : i = a1
  · subst e
    exact (MAT_un ht (j1 i hq).2.1).mpr (fun t => absurd t (hm z))
  · exact y i (by omega) h2
theorem EW_app {F : Nat → Nat → Nat → Nat} {L O Hw L' O' Hw' : Nat → Nat} {a n : Nat} : ∀ c, (∀ i, i < a + n → L' i = L i ∧ Hw' i = Hw i ∧ O' i = O i) → EW F L' O' Hw' a (n + c) = EW F L O Hw a n + sumW (fun j => F (L' (a + n + j)) (O' (a + n + j)) (Hw' (a + n + j))) 0 c := by
  intro c h
  induction c with
  | zero =>
    show sumW _ a n = sumW _ a n + 0
    rw [Nat.add_zero]
    refine sumW_congr n (fun i h1 h2 => ?_)
    obtain ⟨x, y, z⟩ := h i h2
    simp only [x, y, z]
  | succ c ih =>
    have e1 : EW F L' O' Hw' a (n + (c + 1)) = EW F L' O' Hw' a (n + c) + F (L' (a + (n + c))) (O' (a + (n + c))) (Hw' (a + (n + c))) := rfl
    rw [e1, ih, sumW, Nat.zero_add, ← Nat.add_assoc a n c, Nat.add_assoc]
theorem sum_parts (ht : TREE N G sz) {f : Nat} (hf : f < N 14) (fr : Nat) : sumW (fun j => sz (CH G f (fr + j))) 0 (G 12 f - fr) + 1 ≤ sz f := by
  have h1 := (ht.2 f hf).1
  have e : ∀ n, sumW (fun j => sz (CH G f (fr + j))) 0 n = sumW (fun k => sz (CH G f k)) fr n := by
    intro n
    induction n with
    | zero => rfl
    | succ n ih => rw [sumW, sumW, ih, Nat.zero_add]
  rw [e]
  by_cases c : fr ≤ G 12 f
  · have h2 := sumW_drop (fun k => sz (CH G f k)) fr (G 12 f - fr)
    rw [sumW_sumC, show fr + (G 12 f - fr) = G 12 f by omega] at h2
    omega
  · rw [show G 12 f - fr = 0 by omega]
    show 0 + 1 ≤ _
    omega
/-- a list: its parts come behind the others -/
theorem MOUT.list {top lst a1 q : Nat} {L Hw O L' Hw' O' : Nat → Nat} (h : MOUT N G sz top lst a1 q 1 L Hw O) (ht : TREE N G sz) (hq : a1 < q) (hp2 : G 10 (L a1) = 2) (hf2 : G 10 (O a1) = 2) (hfit : FIT G (L a1) (O a1) (Hw a1))
    (ha : QAPP q (G 12 (O a1) - Hw a1) L Hw O L' Hw' O' (fun j => CH G (L a1) (CIX (FX G (L a1) (Hw a1)) (Hw a1 + j))) (fun _ => 0) (fun j => CH G (O a1) (Hw a1 + j))) : MOUT N G sz top lst (a1 + 1) (q + (G 12 (O a1) - Hw a1)) 1 L' Hw' O' := by
  obtain ⟨⟨a, b⟩, j1, j2, j3⟩ := h
  obtain ⟨p1, p2, p3, p4⟩ := j1 a1 hq
  obtain ⟨w, hw⟩ := p4 hp2
  obtain ⟨r1, r2⟩ := PAT.parts ht p1 hw
  have e1 : EW (fun f _ _ => sz f) O L Hw a1 (q - a1) = sz (O a1) + EW (fun f _ _ => sz f) O L Hw (a1 + 1) (q - (a1 + 1)) := EW_head hq
  have hin : ∀ k, k < G 12 (O a1) → k < FX G (L a1) (Hw a1) ∨ OPN G (L a1) (Hw a1) := by
    intro k hk
    by_cases o : OPN G (L a1) (Hw a1)
    · exact Or.inr o
    · have e : FX G (L a1) (Hw a1) = G 12 (L a1) := if_neg o
      exact Or.inl (by rw [e, ← hfit.2 o]; exact hk)
  refine ⟨⟨by omega, by decide⟩, fun i hi => ?_, ?_, fun _ y => j3 rfl (fun i h1 h2 => ?_)⟩
  · by_cases e : i < q
    · obtain ⟨x, y, z⟩ := ha.1 i e
      rw [x, y, z]; exact j1 i e
    · obtain ⟨j, rfl⟩ : ∃ j, i = q + j := ⟨i - q, by omega⟩
      obtain ⟨x, y, z⟩ := ha.2 j (by omega)
      rw [x, y, z]
      obtain ⟨s1, s2, s3, s4⟩ := r2 (Hw a1 + j) (by omega) (hin _ (by omega))
      exact ⟨(ht.pt p1 s1).2.1, (ht.pt p2 (by omega)).2.1, Nat.zero_le 1, fun t => ⟨_, s4 t⟩⟩
  · have e2 : q + (G 12 (O a1) - Hw a1) - (a1 + 1) = (q - (a1 + 1)) + (G 12 (O a1) - Hw a1) := by omega
    rw [e2, EW_app (F := fun f _ _ => sz f) (L := O) (O := L) (Hw := Hw) (G 12 (O a1) - Hw a1) (fun i hi => by obtain ⟨x, y, z⟩ := ha.1 i (by omega); exact ⟨z, y, x⟩)]
    have e3 : sumW (fun j => sz (O' (a1 + 1 + (q - (a1 + 1)) + j))) 0 (G 12 (O a1) - Hw a1) = sumW (fun j => sz (CH G (O a1) (Hw a1 + j))) 0 (G 12 (O a1) - Hw a1) := by
      refine sumW_congr _ (fun j h1 h2 => ?_)
      rw [show a1 + 1 + (q - (a1 + 1)) = q by omega, (ha.2 j (by omega)).2.2]
    have e4 := sum_parts ht p2 (Hw a1)
    omega
  · by_cases e : i = a1
    · subst e
      refine (MAT_un ht p2).mpr (fun _ => ⟨hf2, hfit, fun k h3 h4 => ?_⟩)
      have z := y (q + (k - Hw i)) (by omega) (by omega)
      obtain ⟨x1, x2, x3⟩ := ha.2 (k - Hw i) (by omega)
      rw [x1, x2, x3] at z
      dsimp only at z
      rw [show Hw i + (k - Hw i) = k by omega] at z
      exact z
    · have z := y i (by omega) (by omega)
      obtain ⟨x1, x2, x3⟩ := ha.1 i h2
      rw [x1, x2, x3] at z
      exact z
theorem MOUT.fin {top lst a1 q fi : Nat} {L Hw O : Nat → Nat} (h : MOUT N G sz top lst a1 q fi L Hw O) (hx : q ≤ a1 ∨ fi = 0) : fi ≤ 1 ∧ (fi = 1 → MAT G sz top lst 1) := by
  obtain ⟨⟨a, b⟩, j1, j2, j3⟩ := h
  refine ⟨b, fun z => j3 z (fun i h1 h2 => absurd h2 ?_)⟩
  rcases hx with y | y <;> omega
end MA
