
/-- names and their letters; u letters may yet come -/
def PS (N : Nat → Nat) (G : Nat → Nat → Nat) (B : Nat → Nat → Int32) (u c5 c6 : Nat) : Prop :=
  9 ≤ N 6 ∧ N 6 + u ≤ c6 ∧ c6 ≤ 4500 ∧ c5 ≤ 4200 ∧ G 5 (N 6) + u ≤ c5 ∧ (∀ s, s < N 6 → G 5 s ≤ G 5 (s + 1)) ∧ G 5 6 < G 5 7 ∧ B 4 (G 5 6) = nI 100
/-- forms that hold symbols alone, and those that wait -/
def PF (N : Nat → Nat) (G : Nat → Nat → Nat) (sz az : Nat → Nat) (b14 b15 ct : Nat) : Prop :=
  (∀ k i, G k i < 1048576) ∧ TREE N G sz ∧ TREQ N G sz ∧ KD N G ∧ PB N G ∧ PLN N G (N 14) ∧ (ATOM N G az ∧ ∀ f, f < N 14 → az f ≤ sz f) ∧
  (∀ i, i < N 45 → G 44 i < N 14) ∧ (b14 ≤ N 14 ∧ N 14 ≤ b14 + ct ∧ b15 ≤ N 15 ∧ N 15 + N 45 + b14 ≤ b15 + N 14 ∧ b14 ≤ 4000 ∧ b15 ≤ 4000 ∧ ct ≤ 3000)
/-- what reading leaves alone -/
def PK (N : Nat → Nat) (G : Nat → Nat → Nat) (B : Nat → Nat → Int32) (sz az : Nat → Nat) (b14 b15 : Nat) (N1 : Nat → Nat) (G1 : Nat → Nat → Nat) (B1 : Nat → Nat → Int32) (sz1 az1 : Nat → Nat) : Prop :=
  (∀ k, k ≠ 6 → k ≠ 14 → k ≠ 15 → k ≠ 45 → N1 k = N k) ∧ (∀ k, k ≠ 5 → k ≠ 10 → k ≠ 11 → k ≠ 12 → k ≠ 13 → k ≠ 44 → k ≠ 46 → G1 k = G k) ∧ (∀ k, k ≠ 4 → B1 k = B k) ∧
  (∀ f, f < b14 → G1 10 f = G 10 f ∧ G1 11 f = G 11 f ∧ G1 12 f = G 12 f ∧ sz1 f = sz f ∧ az1 f = az f) ∧ (∀ j, j < b15 → G1 13 j = G 13 j) ∧ N 6 ≤ N1 6
theorem sumC_up2 {sz c : Nat → Nat} {j v : Nat} (n : Nat) (h : ∀ i, i < n → c i ≠ j) : sumC (va_up sz j v) c n = sumC sz c n := by
  induction n with
  | zero => rfl
  | succ n ih => rw [sumC, sumC, ih (fun i hi => h i (by omega)), va_up_ne _ _ (h n (by omega))]
section PR
variable {N N1 : Nat → Nat} {G G1 : Nat → Nat → Nat} {B B1 : Nat → Nat → Int32} {sz az : Nat → Nat} {b14 b15 ct : Nat}
/-- a new form: a number or a symbol -/
theorem PF.tok (h : PF N G sz az b14 b15 ct) {n6 kd v : Nat} {L5 : Nat → Nat} (h6 : N 6 ≤ n6) (h69 : n6 ≤ 5000) (hk : kd ≤ 1) (hv : v < 1048576) (hkv : kd = 1 → v < n6) (hL : ∀ i, L5 i < 1048576) (hc : N 14 + 1 ≤ b14 + ct) :
    PF (va_up (va_up (va_up N 6 n6) 14 (N 14 + 1)) 45 (N 45 + 1)) (va_up (NF (va_up G 5 L5) (N 14) kd v 0) 44 (va_up (G 44) (N 45) (N 14))) (va_up sz (N 14) 1) (va_up az (N 14) 1) b14 b15 ct := by
  obtain ⟨f1, f2, f3, f4, f5, f6, f7, f8, f9⟩ := h
  generalize hN1 : va_up (va_up (va_up N 6 n6) 14 (N 14 + 1)) 45 (N 45 + 1) = N1
  generalize hG1 : va_up (NF (va_up G 5 L5) (N 14) kd v 0) 44 (va_up (G 44) (N 45) (N 14)) = G1
  have n14 : N1 14 = N 14 + 1 := by rw [← hN1]; rfl
  have n15 : N1 15 = N 15 := by rw [← hN1]; rfl
  have n6e : N1 6 = n6 := by rw [← hN1]; rfl
  have n20 : N1 20 = N 20 := by rw [← hN1]; rfl
  have n45 : N1 45 = N 45 + 1 := by rw [← hN1]; exact va_up_self _ _ _
  have k10 : G1 10 = va_up (G 10) (N 14) kd := by rw [← hG1]; rfl
  have k11 : G1 11 = va_up (G 11) (N 14) v := by rw [← hG1]; rfl
  have k12 : G1 12 = va_up (G 12) (N 14) 0 := by rw [← hG1]; rfl
  have k13 : G1 13 = G 13 := by rw [← hG1]; rfl
  have k44 : G1 44 = va_up (G 44) (N 45) (N 14) := by rw [← hG1]; rfl
  have hb14 := f2.1
  have hn : ∀ f, f < N 14 → G1 10 f = G 10 f ∧ G1 11 f = G 11 f ∧ G1 12 f = G 12 f ∧ ∀ k, CH G1 f k = CH G f k := fun f hf => by
    refine ⟨by rw [k10, va_up_ne _ _ (by omega)], by rw [k11, va_up_ne _ _ (by omega)], by rw [k12, va_up_ne _ _ (by omega)], fun k => ?_⟩
    show G1 13 (G1 11 f + k) = _
    rw [k13, k11, va_up_ne _ _ (by omega)]
  have hs : ∀ (s : Nat → Nat) f, f < N 14 → va_up s (N 14) 1 f = s f := fun s f hf => va_up_ne _ _ (by omega)
  have hsum : ∀ (s : Nat → Nat) f, f < N 14 → sumC (va_up s (N 14) 1) (CH G1 f) (G 12 f) = sumC s (CH G f) (G 12 f) := fun s f hf => sumC_congr _ (fun k hk => by
    rw [(hn f hf).2.2.2 k]; exact hs s _ (f2.pt hf hk).2.1)
  refine ⟨?_, ⟨by omega, fun f hf => ?_⟩, fun f hf => ?_, fun f hf => ?_, ⟨by rw [n15]; exact f5.1, fun f hf h2 => ?_⟩, ⟨Nat.le_refl _, fun f hf => ?_⟩, ⟨fun f hf => ?_, fun f hf => ?_⟩, fun i hi => ?_, ?_⟩
  · rw [← hG1]; exact hGup (NF_bd (hGup f1 hL) (by omega) hv (by decide)) (hIup (f1 44) (by omega))
  · rw [n14] at hf
    by_cases e : f = N 14
    · subst e
      rw [k10, k11, k12, va_up_self, va_up_self, va_up_self, va_up_self]
      exact ⟨by rw [sumC]; omega, by omega, fun k hk => absurd hk (Nat.not_lt_zero k), fun z => Or.inl (by rw [n6e]; exact hkv z), fun _ => rfl⟩
    · have hf' : f < N 14 := by omega
      obtain ⟨y1, y2, y3, y4, y5⟩ := f2.2 f hf'
      obtain ⟨z1, z2, z3, z4⟩ := hn f hf'
      rw [z1, z2, z3, hsum sz f hf', hs sz f hf']
      refine ⟨y1, y2, fun k hk => ⟨(y3 k hk).1, by rw [z4, n14]; have := (y3 k hk).2; omega⟩, fun z => ?_, y5⟩
      have := (f6.2 f hf').2 z
      exact Or.inl (by omega)
  · rw [n14] at hf
    by_cases e : f = N 14
    · subst e
      rw [k12, va_up_self, va_up_self]; rfl
    · have hf' : f < N 14 := by omega
      rw [(hn f hf').2.2.1, hsum sz f hf', hs sz f hf']; exact f3 f hf'
  · rw [n14] at hf
    by_cases e : f = N 14
    · subst e; rw [k10, va_up_self]; omega
    · rw [(hn f (by omega)).1]; exact f4 f (by omega)
  · rw [n14] at hf
    by_cases e : f = N 14
    · subst e; rw [k10, va_up_self] at h2; omega
    · obtain ⟨z1, z2, z3, z4⟩ := hn f (by omega)
      rw [z2, z3, n15]; rw [z1] at h2; exact f5.2 f (by omega) h2
  · rw [n14] at hf
    by_cases e : f = N 14
    · subst e
      rw [k10, k11, k12, va_up_self, va_up_self, va_up_self]
      exact ⟨fun k hk => absurd hk (Nat.not_lt_zero k), fun z => by rw [n6e]; exact hkv z⟩
    · obtain ⟨z1, z2, z3, z4⟩ := hn f (by omega)
      obtain ⟨y1, y2⟩ := f6.2 f (by omega)
      rw [z1, z2, z3, n6e]
      exact ⟨fun k hk => by rw [z4, n14]; have := y1 k hk; omega, fun z => by have := y2 z; omega⟩
  · rw [n14] at hf
    by_cases e : f = N 14
    · subst e
      rw [k10, k12, va_up_self, va_up_self, va_up_self]
      refine ⟨?_, by omega⟩
      rw [if_neg (by omega), sumC]; omega
    · have hf' : f < N 14 := by omega
      obtain ⟨z1, z2, z3, z4⟩ := hn f hf'
      rw [z1, z3, hsum az f hf', hs az f hf']; exact f7.1 f hf'
  · rw [n14] at hf
    by_cases e : f = N 14
    · subst e; rw [va_up_self, va_up_self]; exact Nat.le_refl _
    · rw [hs az f (by omega), hs sz f (by omega)]; exact f7.2 f (by omega)
  · rw [n45] at hi
    rw [k44, n14]
    by_cases e : i = N 45
    · rw [e, va_up_self]; omega
    · rw [va_up_ne _ _ e]; have := f8 i (by omega); omega
  · rw [n14, n15, n45]; omega
/-- the forms that wait from fr on become a list -/
theorem PF.lst (h : PF N G sz az b14 b15 ct) {fr : Nat} (hfr : fr ≤ N 45) (hc : N 14 + 1 ≤ b14 + ct) {P13 : Nat → Nat} (hP : ∀ i, P13 i < 1048576) (hP1 : ∀ j, j < N 15 → P13 j = G 13 j) (hP2 : ∀ i, i < N 45 - fr → P13 (N 15 + i) = G 44 (fr + i))
    {s a : Nat} (hs9 : s = 1 + sumC sz (fun i => G 44 (fr + i)) (N 45 - fr)) (hs : s ≤ 3001) (ha9 : a = sumC az (fun i => G 44 (fr + i)) (N 45 - fr)) (ha : a ≤ 1501) :
    PF (va_up (va_up (va_up N 14 (N 14 + 1)) 15 (N 15 + (N 45 - fr))) 45 (fr + 1)) (va_up (va_up (NF G (N 14) 2 (N 15) (N 45 - fr)) 13 P13) 44 (va_up (G 44) fr (N 14))) (va_up sz (N 14) s) (va_up az (N 14) a) b14 b15 ct := by
  obtain ⟨f1, f2, f3, f4, f5, f6, f7, f8, f9⟩ := h
  generalize hN1 : va_up (va_up (va_up N 14 (N 14 + 1)) 15 (N 15 + (N 45 - fr))) 45 (fr + 1) = N1
  generalize hG1 : va_up (va_up (NF G (N 14) 2 (N 15) (N 45 - fr)) 13 P13) 44 (va_up (G 44) fr (N 14)) = G1
  have n14 : N1 14 = N 14 + 1 := by rw [← hN1]; rfl
  have n15 : N1 15 = N 15 + (N 45 - fr) := by rw [← hN1]; rfl
  have n6e : N1 6 = N 6 := by rw [← hN1]; rfl
  have n20 : N1 20 = N 20 := by rw [← hN1]; rfl
  have n45 : N1 45 = fr + 1 := by rw [← hN1]; exact va_up_self _ _ _
  have k10 : G1 10 = va_up (G 10) (N 14) 2 := by rw [← hG1]; rfl
  have k11 : G1 11 = va_up (G 11) (N 14) (N 15) := by rw [← hG1]; rfl
  have k12 : G1 12 = va_up (G 12) (N 14) (N 45 - fr) := by rw [← hG1]; rfl
  have k13 : G1 13 = P13 := by rw [← hG1]; rfl
  have k44 : G1 44 = va_up (G 44) fr (N 14) := by rw [← hG1]; rfl
  have hb14 := f2.1
  have hn : ∀ f, f < N 14 → G1 10 f = G 10 f ∧ G1 11 f = G 11 f ∧ G1 12 f = G 12 f ∧ ∀ k, k < G 12 f → CH G1 f k = CH G f k := fun f hf => by
    refine ⟨by rw [k10, va_up_ne _ _ (by omega)], by rw [k11, va_up_ne _ _ (by omega)], by rw [k12, va_up_ne _ _ (by omega)], fun k hk => ?_⟩
    have e2 := f2.two hf hk
    have e3 := f5.2 f hf e2
    show G1 13 (G1 11 f + k) = _
    rw [k13, k11, va_up_ne _ _ (by omega), hP1 _ (by omega)]
  have hnew : ∀ k, k < N 45 - fr → CH G1 (N 14) k = G 44 (fr + k) := fun k hk => by
    show G1 13 (G1 11 (N 14) + k) = _
    rw [k13, k11, va_up_self, hP2 k hk]
  have hsf : ∀ (t : Nat → Nat) (v : Nat) f, f < N 14 → va_up t (N 14) v f = t f := fun t v f hf => va_up_ne _ _ (by omega)
  have hsum : ∀ (t : Nat → Nat) (v : Nat) f, f < N 14 → sumC (va_up t (N 14) v) (CH G1 f) (G 12 f) = sumC t (CH G f) (G 12 f) := fun t v f hf => sumC_congr _ (fun k hk => by
    rw [(hn f hf).2.2.2 k hk]; exact hsf t v _ (f2.pt hf hk).2.1)
  have hsn : ∀ (t : Nat → Nat) (v : Nat), sumC (va_up t (N 14) v) (CH G1 (N 14)) (N 45 - fr) = sumC t (fun i => G 44 (fr + i)) (N 45 - fr) := fun t v => sumC_congr _ (fun k hk => by
    rw [hnew k hk]; exact hsf t v _ (f8 _ (by omega)))
  refine ⟨?_, ⟨by omega, fun f hf => ?_⟩, fun f hf => ?_, fun f hf => ?_, ⟨by omega, fun f hf h2 => ?_⟩, ⟨Nat.le_refl _, fun f hf => ?_⟩, ⟨fun f hf => ?_, fun f hf => ?_⟩, fun i hi => ?_, ?_⟩
  · rw [← hG1]; exact hGup (hGup (NF_bd f1 (by decide) (by omega) (by omega)) hP) (hIup (f1 44) (by omega))
  · rw [n14] at hf
    by_cases e : f = N 14
    · subst e
      rw [k10, k11, k12, va_up_self, va_up_self, va_up_self, va_up_self, hsn]
      exact ⟨by omega, hs, fun k hk => ⟨by omega, by rw [hnew k hk, n14]; have := f8 (fr + k) (by omega); omega⟩, fun z => absurd z (by decide), fun z => absurd rfl z⟩
    · have hf' : f < N 14 := by omega
      obtain ⟨y1, y2, y3, y4, y5⟩ := f2.2 f hf'
      obtain ⟨z1, z2, z3, z4⟩ := hn f hf'
      rw [z1, z2, z3, hsum sz s f hf', hsf sz s f hf']
      refine ⟨y1, y2, fun k hk => ⟨(y3 k hk).1, by rw [z4 k hk, n14]; have := (y3 k hk).2; omega⟩, fun z => ?_, y5⟩
      have := (f6.2 f hf').2 z
      exact Or.inl (by omega)
  · rw [n14] at hf
    by_cases e : f = N 14
    · subst e
      rw [k12, va_up_self, va_up_self, hsn]; exact hs9
    · have hf' : f < N 14 := by omega
      rw [(hn f hf').2.2.1, hsum sz s f hf', hsf sz s f hf']; exact f3 f hf'
  · rw [n14] at hf
    by_cases e : f = N 14
    · subst e; rw [k10, va_up_self]; decide
    · rw [(hn f (by omega)).1]; exact f4 f (by omega)
  · rw [n14] at hf
    by_cases e : f = N 14
    · subst e; rw [k11, k12, va_up_self, va_up_self, n15]; exact Nat.le_refl _
    · obtain ⟨z1, z2, z3, z4⟩ := hn f (by omega)
      rw [z2, z3, n15]; rw [z1] at h2; have := f5.2 f (by omega) h2; omega
  · rw [n14] at hf
    by_cases e : f = N 14
    · subst e
      rw [k10, k12, va_up_self, va_up_self]
      exact ⟨fun k hk => by rw [hnew k hk, n14]; have := f8 (fr + k) (by omega); omega, fun z => absurd z (by decide)⟩
    · obtain ⟨z1, z2, z3, z4⟩ := hn f (by omega)
      obtain ⟨y1, y2⟩ := f6.2 f (by omega)
      rw [z1, z2, z3, n6e]
      exact ⟨fun k hk => by rw [z4 k hk, n14]; have := y1 k hk; omega, y2⟩
  · rw [n14] at hf
    by_cases e : f = N 14
    · subst e
      rw [k10, k12, va_up_self, va_up_self, va_up_self, hsn]
      refine ⟨?_, ha⟩
      rw [if_pos rfl]; omega
    · have hf' : f < N 14 := by omega
      obtain ⟨z1, z2, z3, z4⟩ := hn f hf'
      rw [z1, z3, hsum az a f hf', hsf az a f hf']; exact f7.1 f hf'
  · rw [n14] at hf
    by_cases e : f = N 14
    · subst e
      rw [va_up_self, va_up_self, hs9, ha9]
      have key : ∀ n, n ≤ N 45 - fr → sumC az (fun i => G 44 (fr + i)) n ≤ sumC sz (fun i => G 44 (fr + i)) n := by
        intro n
        induction n with
        | zero => intro _; exact Nat.le_refl _
        | succ n ih =>
          intro hn9
          rw [sumC, sumC]
          have := ih (by omega)
          have := f7.2 (G 44 (fr + n)) (f8 _ (by omega))
          omega
      have := key _ (Nat.le_refl _)
      omega
    · rw [hsf az a f (by omega), hsf sz s f (by omega)]; exact f7.2 f (by omega)
  · rw [n45] at hi
    rw [k44, n14]
    by_cases e : i = fr
    · rw [e, va_up_self]; omega
    · rw [va_up_ne _ _ e]; have := f8 i (by omega); omega
  · rw [n14, n15, n45]; omega
end PR
/-- what symbolAt does -/
def SYA (N : Nat → Nat) (G : Nat → Nat → Nat) (B : Nat → Nat → Int32) (len n6 : Nat) (L5 : Nat → Nat) (X4 : Nat → Int32) : Prop :=
  (n6 = N 6 ∨ n6 = N 6 + 1) ∧ (∀ i, L5 i < 1048576) ∧ (∀ s, s ≤ N 6 → L5 s = G 5 s) ∧ (n6 = N 6 + 1 → L5 (N 6 + 1) = G 5 (N 6) + len) ∧ ∀ j, j < G 5 (N 6) → X4 j = B 4 j
section PSs
variable {N N1 : Nat → Nat} {G G1 : Nat → Nat → Nat} {B B1 : Nat → Nat → Int32} {u c5 c6 : Nat}
theorem PS.mono (h : PS N G B u c5 c6) : ∀ s, s ≤ N 6 → G 5 s ≤ G 5 (N 6) := by
  obtain ⟨h1, h2, h3, h4, h5, h6, h7, h8⟩ := h
  have key : ∀ d s, s + d = N 6 → G 5 s ≤ G 5 (N 6) := by
    intro d
    induction d with
    | zero => intro s hs; rw [← hs]; exact Nat.le_refl _
    | succ d ih =>
      intro s hs
      have := h6 s (by omega)
      have := ih (s + 1) (by omega)
      omega
  exact fun s hs => key (N 6 - s) s (by omega)
theorem PS.sym (h : PS N G B u c5 c6) {len n6 : Nat} {L5 : Nat → Nat} {X4 : Nat → Int32} (hy : SYA N G B len n6 L5 X4) (hl : 1 ≤ len) (hu : len ≤ u) (n6e : N1 6 = n6) (k5 : G1 5 = L5) (x4 : B1 4 = X4) {u1 : Nat} (hu1 : u1 + len ≤ u) : PS N1 G1 B1 u1 c5 c6 := by
  have hm := h.mono
  obtain ⟨h1, h2, h3, h4, h5, h6, h7, h8⟩ := h
  obtain ⟨y1, y2, y3, y4, y5⟩ := hy
  have m7 := hm 7 (by omega)
  unfold PS
  rw [n6e, k5, x4]
  have e5 : L5 n6 + u1 ≤ c5 := by
    rcases y1 with e | e
    · rw [e, y3 _ (Nat.le_refl _)]; omega
    · rw [e, y4 e]; omega
  refine ⟨by omega, by omega, h3, h4, e5, fun s hs => ?_, by rw [y3 6 (by omega), y3 7 (by omega)]; exact h7, by rw [y3 6 (by omega), y5 _ (by omega)]; exact h8⟩
  by_cases c : s < N 6
  · rw [y3 s (by omega), y3 (s + 1) (by omega)]; exact h6 s c
  · have e : s = N 6 := by omega
    have e2 : n6 = N 6 + 1 := by omega
    rw [e, y3 _ (Nat.le_refl _), y4 e2]; omega
theorem PS.less (h : PS N G B u c5 c6) {u1 : Nat} (hu : u1 ≤ u) : PS N G B u1 c5 c6 := by
  obtain ⟨h1, h2, h3, h4, h5, h6⟩ := h
  exact ⟨h1, by omega, h3, h4, by omega, h6⟩
end PSs
