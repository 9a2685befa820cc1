
theorem PK47 {G : Nat → Nat → Nat} {VN VR L Hw O X : Nat → Nat} : va_up (LK (va_up (va_up G 47 VN) 48 VR) L Hw O) 47 X = LK (va_up (va_up G 47 X) 48 VR) L Hw O := by
  funext k
  by_cases h1 : k = 47
  · simp [LK, va_up, h1]
  · by_cases h2 : k = 48 <;> by_cases h3 : k = 50 <;> by_cases h4 : k = 51 <;> by_cases h5 : k = 52 <;> simp [LK, va_up, h1, h2, h3, h4, h5]
theorem PK48 {G : Nat → Nat → Nat} {VN VR L Hw O X : Nat → Nat} : va_up (LK (va_up (va_up G 47 VN) 48 VR) L Hw O) 48 X = LK (va_up (va_up G 47 VN) 48 X) L Hw O := by
  funext k
  by_cases h1 : k = 48
  · simp [LK, va_up, h1]
  · by_cases h2 : k = 47 <;> by_cases h3 : k = 50 <;> by_cases h4 : k = 51 <;> by_cases h5 : k = 52 <;> simp [LK, va_up, h1, h2, h3, h4, h5]
theorem PN49 {N : Nat → Nat} {a q b : Nat} : va_up (va_up (va_up N 49 a) 53 q) 49 b = va_up (va_up N 49 b) 53 q := by
  funext k
  by_cases h1 : k = 49
  · simp [va_up, h1]
  · by_cases h2 : k = 53 <;> simp [va_up, h1, h2]
theorem EW_head {F : Nat → Nat → Nat → Nat} {L O Hw : Nat → Nat} {a q : Nat} (h : a < q) : EW F L O Hw a (q - a) = F (L a) (O a) (Hw a) + EW F L O Hw (a + 1) (q - (a + 1)) := sumW_step _ h
theorem EW_len {sz L O Hw : Nat → Nat} {a : Nat} : ∀ n, (∀ i, a ≤ i → i < a + n → 1 ≤ sz (L i)) → n ≤ EW (fun p _ _ => sz p) L O Hw a n := by
  intro n
  induction n with
  | zero => intro _; exact Nat.zero_le _
  | succ n ih =>
    intro h
    have h1 := ih (fun i h1 h2 => h i h1 (by omega))
    have h2 := h (a + n) (by omega) (by omega)
    have h3 : EW (fun p _ _ => sz p) L O Hw a (n + 1) = EW (fun p _ _ => sz p) L O Hw a n + sz (L (a + n)) := rfl
    omega
theorem rest_le (sz c : Nat → Nat) (fr n : Nat) : sumW (fun k => sz (c k)) fr (n - fr) ≤ sumC sz c n := by
  by_cases h : fr ≤ n
  · have := sumW_drop (fun k => sz (c k)) fr (n - fr)
    rw [show fr + (n - fr) = n by omega, sumW_sumC] at this
    exact this
  · rw [show n - fr = 0 by omega]; exact Nat.zero_le _
def POUT (N : Nat → Nat) (G : Nat → Nat → Nat) (sz az : Nat → Nat) (rules top a1 q vc fi : Nat) (L Hw O VN VR : Nat → Nat) : Prop :=
  (a1 ≤ q ∧ fi ≤ 1) ∧ (∀ i, i < q → L i < N 14 ∧ Hw i ≤ 1 ∧ O i ≤ 1) ∧ (a1 + EW (fun p _ _ => sz p) L O Hw a1 (q - a1) ≤ 3001) ∧ (vc + EW (fun p _ _ => az p) L O Hw a1 (q - a1) ≤ 1501) ∧
  (fi = 1 → ∀ x rp, LEF G sz rules x rp top 1 0 = TC VN VR x rp vc + EW (LEF G sz rules x rp) L O Hw a1 (q - a1)) ∧
  (fi = 1 → (PAT G sz top 1 0 ↔ ∀ i, a1 ≤ i → i < q → PAT G sz (L i) (O i) (Hw i))) ∧
  (fi = 1 → ∀ x, TC VN VR x 0 vc + TC VN VR x 1 vc ≤ 1) ∧ (fi = 0 → ¬ PAT G sz top 1 0 ∨ ∃ x, 2 ≤ LEF G sz rules x 0 top 1 0 + LEF G sz rules x 1 top 1 0) ∧ ∀ v, v < vc → VR v ≤ 1
/-- a pattern is as rules want it -/
def PATOK (G : Nat → Nat → Nat) (sz : Nat → Nat) (rules top : Nat) : Prop := PAT G sz top 1 0 ∧ ∀ x, LEF G sz rules x 0 top 1 0 + LEF G sz rules x 1 top 1 0 ≤ 1
section PO
variable {N : Nat → Nat} {G : Nat → Nat → Nat} {sz az : Nat → Nat} {rules top a1 p fr w k q vc fi : Nat} {L Hw O VN VR : Nat → Nat}
theorem POUT.enter (h : POUT N G sz az rules top a1 q vc 1 L Hw O VN VR) (ht : TREE N G sz) (hat : ATOM N G az) (hq : a1 < q) : PINV N G sz az rules top a1 (L a1) (O a1) (Hw a1) (O a1) q vc 1 L Hw O VN VR := by
  obtain ⟨⟨a, b⟩, j1, j2, j3, j4, j5, j6, j7, j8⟩ := h
  obtain ⟨p1, p2, p3⟩ := j1 a1 hq
  have e1 : EW (fun p _ _ => sz p) L O Hw a1 (q - a1) = sz (L a1) + EW (fun p _ _ => sz p) L O Hw (a1 + 1) (q - (a1 + 1)) := EW_head hq
  have e2 : EW (fun p _ _ => az p) L O Hw a1 (q - a1) = az (L a1) + EW (fun p _ _ => az p) L O Hw (a1 + 1) (q - (a1 + 1)) := EW_head hq
  have s1 := (ht.2 _ p1).1
  have s2 := (hat _ p1).1
  have r1 := rest_le sz (CH G (L a1)) (O a1) (G 12 (L a1))
  have r2 := rest_le az (CH G (L a1)) (O a1) (G 12 (L a1))
  refine ⟨⟨hq, b, Nat.le_refl _, p1, p2⟩, j1, by omega, by omega, fun z x rp => ?_, fun z => ?_, j6, j7, j8⟩
  · have := j4 z x rp
    rw [EW_head hq, LEF_un ht p1] at this
    omega
  · rw [j5 z, ← PAT_un ht p1]
    constructor
    · intro y; exact ⟨y a1 (Nat.le_refl _) hq, fun i h1 h2 => y i (by omega) h2⟩
    · intro y i h1 h2
      by_cases e : i = a1
      · subst e; exact y.1
      · exact y.2 i (by omega) h2
theorem PINV.exit (h : PINV N G sz az rules top a1 p fr w k q vc fi L Hw O VN VR) (hx : G 12 p ≤ k ∨ fi = 0) : POUT N G sz az rules top (a1 + 1) q vc fi L Hw O VN VR := by
  obtain ⟨⟨a, b, c, d, e⟩, j1, j2, j3, j4, j5, j6, j7, j8⟩ := h
  refine ⟨⟨a, b⟩, j1, by omega, by omega, fun z x rp => ?_, fun z => ?_, j6, j7, j8⟩
  · have hk : G 12 p ≤ k := hx.elim id (fun y => by omega)
    have := j4 z x rp
    rw [show G 12 p - k = 0 by omega] at this
    rw [this]; rfl
  · have hk : G 12 p ≤ k := hx.elim id (fun y => by omega)
    rw [j5 z]
    exact ⟨fun y i h1 h2 => y.2 i h1 h2, fun y => ⟨fun j h1 h2 => absurd h2 (by omega), fun i h1 h2 => y i h1 h2⟩⟩
theorem PINV.num (h : PINV N G sz az rules top a1 p fr w k q vc fi L Hw O VN VR) (ht : TREE N G sz) : q ≤ 3001 ∧ vc ≤ 1501 ∧ a1 < q ∧ fi ≤ 1 ∧ fr ≤ k ∧ p < N 14 ∧ w ≤ 1 := by
  obtain ⟨⟨a, b, c, d, e⟩, j1, j2, j3, -⟩ := h
  have := EW_len (sz := sz) (L := L) (O := O) (Hw := Hw) (a := a1 + 1) (q - (a1 + 1)) (fun i h1 h2 => ht.one (j1 i (by omega)).1)
  exact ⟨by omega, by omega, a, b, c, d, e⟩
theorem POUT.num (h : POUT N G sz az rules top a1 q vc fi L Hw O VN VR) (ht : TREE N G sz) : q ≤ 3001 ∧ vc ≤ 1501 ∧ a1 ≤ q ∧ fi ≤ 1 := by
  obtain ⟨⟨a, b⟩, j1, j2, j3, -⟩ := h
  have := EW_len (sz := sz) (L := L) (O := O) (Hw := Hw) (a := a1) (q - a1) (fun i h1 h2 => ht.one (j1 i (by omega)).1)
  exact ⟨by omega, by omega, a, b⟩
theorem POUT.start (ht : TREE N G sz) (hat : ATOM N G az) (htop : top < N 14) : POUT N G sz az rules top 0 1 0 1 (va_up L 0 top) (va_up Hw 0 0) (va_up O 0 1) VN VR := by
  have s1 := (ht.2 _ htop).2.1
  have s2 := (hat _ htop).2
  refine ⟨⟨by decide, by decide⟩, fun i hi => ?_, ?_, ?_, fun _ x rp => ?_, fun _ => ?_, fun _ x => Nat.zero_le 1, fun z => absurd z (by decide), fun v hv => absurd hv (Nat.not_lt_zero v)⟩
  · rw [show i = 0 by omega, va_up_self, va_up_self, va_up_self]; exact ⟨htop, by decide, by decide⟩
  · show 0 + (sumW _ 0 0 + _) ≤ 3001
    simp only [Nat.zero_add, va_up_self, sumW]; omega
  · show 0 + (sumW _ 0 0 + _) ≤ 1501
    simp only [Nat.zero_add, va_up_self, sumW]; omega
  · show _ = 0 + (sumW _ 0 0 + _)
    simp only [Nat.zero_add, va_up_self, sumW]
  · constructor
    · intro y i h1 h2
      rw [show i = 0 by omega, va_up_self, va_up_self, va_up_self]; exact y
    · intro y
      have := y 0 (Nat.le_refl 0) (by decide)
      rw [va_up_self, va_up_self, va_up_self] at this
      exact this
theorem POUT.fin (h : POUT N G sz az rules top a1 q vc fi L Hw O VN VR) (hx : q ≤ a1 ∨ fi = 0) : fi ≤ 1 ∧ (fi = 1 ↔ PATOK G sz rules top) ∧ (fi = 1 → (∀ x rp, LEF G sz rules x rp top 1 0 = TC VN VR x rp vc) ∧ ∀ v, v < vc → VR v ≤ 1) := by
  obtain ⟨⟨a, b⟩, j1, j2, j3, j4, j5, j6, j7, j8⟩ := h
  have key : fi = 1 → ∀ x rp, LEF G sz rules x rp top 1 0 = TC VN VR x rp vc := by
    intro z x rp
    have hk : q ≤ a1 := hx.elim id (fun y => by omega)
    have := j4 z x rp
    rw [show q - a1 = 0 by omega] at this
    rw [this]; rfl
  refine ⟨b, ⟨fun z => ⟨?_, fun x => ?_⟩, fun z => ?_⟩, fun z => ⟨key z, j8⟩⟩
  · have hk : q ≤ a1 := hx.elim id (fun y => by omega)
    exact (j5 z).mpr (fun i h1 h2 => absurd h2 (by omega))
  · rw [key z, key z]; exact j6 z x
  · by_cases e : fi = 1
    · exact e
    · rcases j7 (by omega) with y | ⟨x, y⟩
      · exact absurd z.1 y
      · exact absurd (z.2 x) (by omega)
end PO
