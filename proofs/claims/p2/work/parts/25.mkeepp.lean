
/-- the pairs of pattern and form that are come to, with their turn, n steps from the top -/
def RCHn (G : Nat → Nat → Nat) (top lst : Nat) : Nat → Nat → Nat → Nat → Nat → Prop
  | 0, p, f, t, fr => p = top ∧ f = lst ∧ t = 0 ∧ fr = 1
  | n + 1, p, f, t, fr => fr = 0 ∧ ∃ p0 f0 t0 fr0 k, RCHn G top lst n p0 f0 t0 fr0 ∧ G 10 p0 = 2 ∧ fr0 ≤ k ∧ k < G 12 f0 ∧ p = CH G p0 (CIX (FX G p0 fr0) k) ∧ f = CH G f0 k ∧ t = (if k < FX G p0 fr0 then t0 else k - FX G p0 fr0)
def RCH (G : Nat → Nat → Nat) (top lst p f t fr : Nat) : Prop := ∃ n, RCHn G top lst n p f t fr
section RC
variable {N : Nat → Nat} {G : Nat → Nat → Nat} {sz : Nat → Nat} {top lst : Nat}
theorem RCH.step {p f t fr k : Nat} (h : RCH G top lst p f t fr) (h2 : G 10 p = 2) (hk : fr ≤ k) (hk2 : k < G 12 f) : RCH G top lst (CH G p (CIX (FX G p fr) k)) (CH G f k) (if k < FX G p fr then t else k - FX G p fr) 0 := by
  obtain ⟨n, h⟩ := h
  exact ⟨n + 1, rfl, p, f, t, fr, k, h, h2, hk, hk2, rfl, rfl, rfl⟩
theorem RCH.low {p f t fr k : Nat} (h : RCH G top lst p f t fr) (h2 : G 10 p = 2) (hk : fr ≤ k) (hk2 : k < G 12 f) (hk3 : k < FX G p fr) : RCH G top lst (CH G p k) (CH G f k) t 0 := by
  have := h.step h2 hk hk2
  rw [if_pos hk3, show CIX (FX G p fr) k = k from if_pos hk3] at this
  exact this
theorem RCH.high {p f t fr k : Nat} (h : RCH G top lst p f t fr) (h2 : G 10 p = 2) (hk : fr ≤ FX G p fr + k) (hk2 : FX G p fr + k < G 12 f) : RCH G top lst (CH G p (FX G p fr)) (CH G f (FX G p fr + k)) k 0 := by
  have := h.step h2 hk hk2
  rw [if_neg (by omega), show CIX (FX G p fr) (FX G p fr + k) = FX G p fr from if_neg (by omega), show FX G p fr + k - FX G p fr = k by omega] at this
  exact this
/-- what is known of a pair that is come to -/
abbrev ROK (N : Nat → Nat) (G : Nat → Nat → Nat) (sz : Nat → Nat) (p f t fr : Nat) : Prop := p < N 14 ∧ f < N 14 ∧ fr ≤ 1 ∧ t ≤ 3001 ∧ (G 10 p = 2 → ∃ w, PAT G sz p fr w) ∧ MAT G sz p f fr
theorem cnt_le (ht : TREE N G sz) {f : Nat} (hf : f < N 14) : G 12 f < sz f := by
  have s8 := sumC_len (sz := sz) (c := CH G f) (G 12 f) (fun i hi => ht.one (ht.pt hf hi).2.1)
  have s7 := (ht.2 _ hf).1
  omega
theorem fit_in {p f fr k : Nat} (hfit : FIT G p f fr) (hk : k < G 12 f) : k < FX G p fr ∨ OPN G p fr := by
  by_cases o : OPN G p fr
  · exact Or.inr o
  · have e : FX G p fr = G 12 p := if_neg o
    exact Or.inl (by rw [e, ← hfit.2 o]; exact hk)
theorem RCH.ok (ht : TREE N G sz) (htop : top < N 14) (hl : lst < N 14) (hp : PAT G sz top 1 0) (hm : MAT G sz top lst 1) {p f t fr : Nat} (h : RCH G top lst p f t fr) : ROK N G sz p f t fr := by
  obtain ⟨n, h⟩ := h
  induction n generalizing p f t fr with
  | zero =>
    obtain ⟨rfl, rfl, rfl, rfl⟩ := h
    exact ⟨htop, hl, by decide, by omega, fun _ => ⟨0, hp⟩, hm⟩
  | succ n ih =>
    obtain ⟨rfl, p0, f0, t0, fr0, k, h0, h2, hk, hk2, rfl, rfl, rfl⟩ := h
    obtain ⟨a, b, c, d, e, m⟩ := ih h0
    obtain ⟨w, hw⟩ := e h2
    obtain ⟨m1, m2, m3⟩ := (MAT_un ht b).mp m h2
    obtain ⟨r1, r2⟩ := PAT.parts ht a hw
    obtain ⟨s1, s2, s3, s4⟩ := r2 k hk (fit_in m2 hk2)
    have := cnt_le ht b
    have := (ht.2 f0 b).2.1
    exact ⟨(ht.pt a s1).2.1, (ht.pt b hk2).2.1, by decide, by split <;> omega, fun z => ⟨_, s4 z⟩, m3 k hk hk2⟩
/-- no list within what stands before a ... has one -/
theorem PAT.flat {p fr : Nat} (ht : TREE N G sz) (hp : p < N 14) (h : PAT G sz p fr 1) : ¬ OPN G p fr := by
  rintro ⟨a, b⟩
  have := (((PAT_un ht hp).mp h) (G 12 p - 1) (by omega) (by omega)).1 b
  omega
/-- a name within what stands before a ...: each turn comes to it -/
theorem RCH.down (ht : TREE N G sz) (htop : top < N 14) (hl : lst < N 14) (hp : PAT G sz top 1 0) (hm : MAT G sz top lst 1) {x : Nat} : ∀ (n p f t : Nat), sz p ≤ n → (G 10 p = 2 → PAT G sz p 0 1) → RCH G top lst p f t 0 → OC G sz p x → ∃ p' f', RCH G top lst p' f' t 0 ∧ G 10 p' = 1 ∧ G 11 p' = x := by
  intro n
  induction n with
  | zero =>
    intro p f t hs _ h _
    exact absurd (ht.one (h.ok ht htop hl hp hm).1) (by omega)
  | succ n ih =>
    intro p f t hs hpat h ho
    obtain ⟨a, b, -, -, e, m⟩ := h.ok ht htop hl hp hm
    rcases (OC_iff ht a).mp ho with ⟨o1, o2⟩ | ⟨k, hk, o⟩
    · exact ⟨p, f, h, o1, o2⟩
    · have h2 : G 10 p = 2 := Classical.byContradiction (fun z => by have := (ht.2 p a).2.2.2.2 z; omega)
      obtain ⟨m1, m2, m3⟩ := (MAT_un ht b).mp m h2
      have no := PAT.flat ht a (hpat h2)
      have ef : FX G p 0 = G 12 p := if_neg no
      have hk2 : k < G 12 f := by rw [m2.2 no]; exact hk
      have hr := h.low h2 (Nat.zero_le k) hk2 (by rw [ef]; exact hk)
      obtain ⟨r1, r2⟩ := PAT.parts ht a (hpat h2)
      obtain ⟨s1, s2, s3, s4⟩ := r2 k (Nat.zero_le k) (Or.inl (by rw [ef]; exact hk))
      have ec : CIX (FX G p 0) k = k := if_pos (by rw [ef]; exact hk)
      rw [ec] at s4
      have em : MORE G p 1 k = 1 := if_pos (Or.inl rfl)
      rw [em] at s4
      have := ht.lt a hk
      exact ih _ _ _ (by omega) s4 hr o
theorem sumW_pos {g : Nat → Nat} {a : Nat} : ∀ n, 0 < sumW g a n → ∃ k, a ≤ k ∧ k < a + n ∧ 0 < g k := by
  intro n
  induction n with
  | zero => intro h; exact absurd h (Nat.lt_irrefl 0)
  | succ n ih =>
    intro h
    rw [sumW] at h
    by_cases c : 0 < g (a + n)
    · exact ⟨a + n, by omega, by omega, c⟩
    · obtain ⟨k, h1, h2, h3⟩ := ih (by omega)
      exact ⟨k, h1, by omega, h3⟩
/-- a part of a list that gives a name -/
theorem LEF_part (ht : TREE N G sz) {rules x rp p fr w : Nat} (hp : p < N 14) (h : 0 < LEF G sz rules x rp p fr w) : ∃ k, fr ≤ k ∧ k < G 12 p ∧ ¬ ELL G p k ∧ ((G 10 (CH G p k) = 2 ∧ 0 < LEF G sz rules x rp (CH G p k) 0 (MORE G p w k)) ∨ (G 10 (CH G p k) = 1 ∧ G 11 (CH G p k) = x ∧ MORE G p w k = rp)) := by
  rw [LEF_un ht hp] at h
  obtain ⟨k, h1, h2, h3⟩ := sumW_pos _ h
  refine ⟨k, h1, by omega, ?_⟩
  unfold LEFk at h3
  by_cases c1 : ELL G p k
  · rw [if_pos c1] at h3; exact absurd h3 (Nat.lt_irrefl 0)
  · rw [if_neg c1] at h3
    refine ⟨c1, ?_⟩
    by_cases c2 : G 10 (CH G p k) = 2
    · rw [if_pos c2] at h3; exact Or.inl ⟨c2, h3⟩
    · rw [if_neg c2] at h3
      by_cases c3 : PV G rules (CH G p k) ∧ G 11 (CH G p k) = x ∧ MORE G p w k = rp
      · exact Or.inr ⟨c3.1.1.1, c3.2⟩
      · rw [if_neg c3] at h3; exact absurd h3 (Nat.lt_irrefl 0)
theorem LEF_OC (ht : TREE N G sz) {rules x rp : Nat} : ∀ (n p fr w : Nat), sz p ≤ n → p < N 14 → 0 < LEF G sz rules x rp p fr w → OC G sz p x := by
  intro n
  induction n with
  | zero => intro p fr w hs hp; exact absurd (ht.one hp) (by omega)
  | succ n ih =>
    intro p fr w hs hp h
    obtain ⟨k, h1, h2, h3, h4⟩ := LEF_part ht hp h
    have hc := (ht.pt hp h2).2.1
    have := ht.lt hp h2
    refine (OC_iff ht hp).mpr (Or.inr ⟨k, h2, ?_⟩)
    rcases h4 with ⟨q1, q2⟩ | ⟨q1, q2, q3⟩
    · exact ih _ _ _ (by omega) hc q2
    · exact (OC_iff ht hc).mpr (Or.inl ⟨q1, q2⟩)
/-- within what stands before a ..., all is repeated -/
theorem LEF_rp (ht : TREE N G sz) {rules x rp : Nat} : ∀ (n p fr : Nat), sz p ≤ n → p < N 14 → 0 < LEF G sz rules x rp p fr 1 → rp = 1 := by
  intro n
  induction n with
  | zero => intro p fr hs hp; exact absurd (ht.one hp) (by omega)
  | succ n ih =>
    intro p fr hs hp h
    obtain ⟨k, h1, h2, h3, h4⟩ := LEF_part ht hp h
    have em : MORE G p 1 k = 1 := if_pos (Or.inl rfl)
    rw [em] at h4
    have := ht.lt hp h2
    rcases h4 with ⟨q1, q2⟩ | ⟨q1, q2, q3⟩
    · exact ih _ _ (by omega) (ht.pt hp h2).2.1 q2
    · exact q3.symm
/-- a name of the pattern is come to, at the turn of the list that it stands in; or it stands before a ... -/
theorem RCH.leaf (ht : TREE N G sz) (htop : top < N 14) (hl : lst < N 14) (hp : PAT G sz top 1 0) (hm : MAT G sz top lst 1) {rules x rp : Nat} : ∀ (n p f t fr w : Nat), sz p ≤ n → G 10 p = 2 → PAT G sz p fr w → RCH G top lst p f t fr → 0 < LEF G sz rules x rp p fr w →
    (∃ p' f', RCH G top lst p' f' t 0 ∧ G 10 p' = 1 ∧ G 11 p' = x) ∨ (rp = 1 ∧ ∃ p' f' t' fr', RCH G top lst p' f' t' fr' ∧ G 10 p' = 2 ∧ OPN G p' fr' ∧ OC G sz (CH G p' (FX G p' fr')) x) := by
  intro n
  induction n with
  | zero =>
    intro p f t fr w hs _ _ h _
    exact absurd (ht.one (h.ok ht htop hl hp hm).1) (by omega)
  | succ n ih =>
    intro p f t fr w hs h2 hpat h hlef
    obtain ⟨a, b, -, -, -, m⟩ := h.ok ht htop hl hp hm
    obtain ⟨m1, m2, m3⟩ := (MAT_un ht b).mp m h2
    obtain ⟨r1, r2⟩ := PAT.parts ht a hpat
    obtain ⟨k, h1, hk, hne, h4⟩ := LEF_part ht a hlef
    have hc := (ht.pt a hk).2.1
    have hlt := ht.lt a hk
    by_cases hlow : k < FX G p fr
    · have hk2 : k < G 12 f := by
        by_cases o : OPN G p fr
        · have := m2.1 o; omega
        · rw [m2.2 o]; exact hk
      have hr := h.low h2 h1 hk2 hlow
      rcases h4 with ⟨q1, q2⟩ | ⟨q1, q2, q3⟩
      · obtain ⟨s1, s2, s3, s4⟩ := r2 k h1 (Or.inl hlow)
        have ec : CIX (FX G p fr) k = k := if_pos hlow
        rw [ec] at s4
        exact ih _ _ _ _ _ (by omega) q1 (s4 q1) hr q2
      · exact Or.inl ⟨_, _, hr, q1, q2⟩
    · have o : OPN G p fr := Classical.byContradiction (fun z => hlow (by rw [show FX G p fr = G 12 p from if_neg z]; exact hk))
      have e := r1 o
      have ek : k = FX G p fr := by
        have : k ≠ G 12 p - 1 := fun z => hne (by rw [z]; exact o.2)
        omega
      have em : MORE G p w k = 1 := if_pos (Or.inr (by rw [show k + 1 = G 12 p - 1 by omega]; exact o.2))
      rw [em] at h4
      refine Or.inr ⟨?_, p, f, t, fr, h, h2, o, ?_⟩
      · rcases h4 with ⟨q1, q2⟩ | ⟨q1, q2, q3⟩
        · exact LEF_rp ht _ _ _ (Nat.le_refl _) hc q2
        · exact q3.symm
      · rw [← ek]
        rcases h4 with ⟨q1, q2⟩ | ⟨q1, q2, q3⟩
        · exact LEF_OC ht _ _ _ _ (Nat.le_refl _) hc q2
        · exact (OC_iff ht hc).mpr (Or.inl ⟨q1, q2⟩)
end RC
/-- a variable whose count a list that ends in ... sets -/
def SETR (N : Nat → Nat) (G : Nat → Nat → Nat) (sz : Nat → Nat) (top lst v : Nat) : Prop := ∃ p f t fr x, RCH G top lst p f t fr ∧ G 10 p = 2 ∧ OPN G p fr ∧ OC G sz (CH G p (FX G p fr)) x ∧ VAR N G x = v + 1
abbrev FRI (i : Nat) : Nat := if i = 0 then 1 else 0
/-- what holds while the parts of a form are kept -/
def KI (N : Nat → Nat) (G : Nat → Nat → Nat) (sz : Nat → Nat) (top lst a1 q : Nat) (L Hw O M M0 : Nat → Nat) : Prop :=
  (a1 ≤ q ∧ 0 < q ∧ L 0 = top ∧ O 0 = lst ∧ Hw 0 = 0) ∧ (∀ i, i < q → RCH G top lst (L i) (O i) (Hw i) (FRI i)) ∧ (a1 + EW (fun f _ _ => sz f) O L Hw a1 (q - a1) ≤ 3001) ∧
  (∀ i, i < a1 → G 10 (L i) = 2 → ∀ k, FRI i ≤ k → k < G 12 (O i) → ∃ j, 0 < j ∧ j < q ∧ L j = CH G (L i) (CIX (FX G (L i) (FRI i)) k) ∧ O j = CH G (O i) k ∧ Hw j = if k < FX G (L i) (FRI i) then Hw i else k - FX G (L i) (FRI i)) ∧
  (∀ v, (∃ i, i < a1 ∧ G 10 (L i) = 2 ∧ OPN G (L i) (FRI i) ∧ M v = G 12 (O i) - FX G (L i) (FRI i) ∧ ∃ x, OC G sz (CH G (L i) (FX G (L i) (FRI i))) x ∧ VAR N G x = v + 1) ∨ (M v = M0 v ∧ ∀ i, i < a1 → G 10 (L i) = 2 → OPN G (L i) (FRI i) → ∀ x, OC G sz (CH G (L i) (FX G (L i) (FRI i))) x → VAR N G x ≠ v + 1))
section KS
variable {N : Nat → Nat} {G : Nat → Nat → Nat} {sz : Nat → Nat} {top lst a1 q : Nat} {L Hw O M M0 : Nat → Nat}
theorem KI.num (h : KI N G sz top lst a1 q L Hw O M M0) (ht : TREE N G sz) (htop : top < N 14) (hl : lst < N 14) (hp : PAT G sz top 1 0) (hm : MAT G sz top lst 1) : q ≤ 3001 ∧ a1 ≤ q ∧ 0 < q := by
  obtain ⟨⟨a, b, -⟩, j1, j2, -⟩ := h
  have := EW_len (sz := sz) (L := O) (O := L) (Hw := Hw) (a := a1) (q - a1) (fun i h1 h2 => ht.one ((j1 i (by omega)).ok ht htop hl hp hm).2.1)
  exact ⟨by omega, a, b⟩
theorem KI.start (ht : TREE N G sz) (hl : lst < N 14) : KI N G sz top lst 0 1 (va_up L 0 top) (va_up Hw 0 0) (va_up O 0 lst) M M := by
  have s1 := (ht.2 _ hl).2.1
  refine ⟨⟨by decide, by decide, va_up_self _ _ _, va_up_self _ _ _, va_up_self _ _ _⟩, fun i hi => ?_, ?_, fun i hi => absurd hi (Nat.not_lt_zero i), fun v => Or.inr ⟨rfl, fun i hi => absurd hi (Nat.not_lt_zero i)⟩⟩
  · rw [show i = 0 by omega, va_up_self, va_up_self, va_up_self]; exact ⟨0, rfl, rfl, rfl, rfl⟩
  · show 0 + (sumW _ 0 0 + _) ≤ 3001
    simp only [Nat.zero_add, va_up_self, sumW]; omega
/-- an entry that is no list -/
theorem KI.skip (h : KI N G sz top lst a1 q L Hw O M M0) (ht : TREE N G sz) (htop : top < N 14) (hl : lst < N 14) (hp : PAT G sz top 1 0) (hm : MAT G sz top lst 1) (hq : a1 < q) (hn : G 10 (L a1) ≠ 2) : KI N G sz top lst (a1 + 1) q L Hw O M M0 := by
  obtain ⟨⟨a, b, c⟩, j1, j2, j3, j4⟩ := h
  have e1 : EW (fun f _ _ => sz f) O L Hw a1 (q - a1) = sz (O a1) + EW (fun f _ _ => sz f) O L Hw (a1 + 1) (q - (a1 + 1)) := EW_head hq
  have o1 := ht.one ((j1 a1 hq).ok ht htop hl hp hm).2.1
  refine ⟨⟨hq, b, c⟩, j1, by omega, fun i hi h2 => ?_, fun v => ?_⟩
  · by_cases e : i = a1
    · subst e; exact absurd h2 hn
    · exact j3 i (by omega) h2
  · rcases j4 v with ⟨i, hi, z⟩ | ⟨z1, z2⟩
    · exact Or.inl ⟨i, by omega, z⟩
    · refine Or.inr ⟨z1, fun i hi h2 => ?_⟩
      by_cases e : i = a1
      · subst e; exact absurd h2 hn
      · exact z2 i (by omega) h2
/-- a list: its parts come behind the others; a list that ends in ... sets counts -/
theorem KI.list {L' Hw' O' M' : Nat → Nat} (h : KI N G sz top lst a1 q L Hw O M M0) (ht : TREE N G sz) (htop : top < N 14) (hl : lst < N 14) (hp : PAT G sz top 1 0) (hm : MAT G sz top lst 1) (hq : a1 < q) (h2 : G 10 (L a1) = 2)
    (ha : QAPP q (G 12 (O a1) - FRI a1) L Hw O L' Hw' O' (fun j => CH G (L a1) (CIX (FX G (L a1) (FRI a1)) (FRI a1 + j))) (fun j => if FRI a1 + j < FX G (L a1) (FRI a1) then Hw a1 else FRI a1 + j - FX G (L a1) (FRI a1)) (fun j => CH G (O a1) (FRI a1 + j)))
    (hM0 : ¬ OPN G (L a1) (FRI a1) → M' = M) (hM1 : OPN G (L a1) (FRI a1) → (∀ x v, OC G sz (CH G (L a1) (FX G (L a1) (FRI a1))) x → VAR N G x = v + 1 → M' v = G 12 (O a1) - FX G (L a1) (FRI a1)) ∧ ∀ v, M' v = M v ∨ (M' v = G 12 (O a1) - FX G (L a1) (FRI a1) ∧ ∃ x, OC G sz (CH G (L a1) (FX G (L a1) (FRI a1))) x ∧ VAR N G x = v + 1)) :
    KI N G sz top lst (a1 + 1) (q + (G 12 (O a1) - FRI a1)) L' Hw' O' M' M0 := by
  obtain ⟨⟨a, b, c1, c2, c3⟩, j1, j2, j3, j4⟩ := h
  obtain ⟨p1, p2, p3, p4, p5, p6⟩ := (j1 a1 hq).ok ht htop hl hp hm
  have e1 : EW (fun f _ _ => sz f) O L Hw a1 (q - a1) = sz (O a1) + EW (fun f _ _ => sz f) O L Hw (a1 + 1) (q - (a1 + 1)) := EW_head hq
  have old : ∀ i, i < q → L' i = L i ∧ Hw' i = Hw i ∧ O' i = O i := ha.1
  refine ⟨⟨by omega, by omega, by rw [(old 0 b).1]; exact c1, by rw [(old 0 b).2.2]; exact c2, by rw [(old 0 b).2.1]; exact c3⟩, fun i hi => ?_, ?_, fun i hi i2 k hk1 hk2 => ?_, fun v => ?_⟩
  · by_cases e : i < q
    · obtain ⟨x, y, z⟩ := old i e
      rw [x, y, z]; exact j1 i e
    · obtain ⟨j, rfl⟩ : ∃ j, i = q + j := ⟨i - q, by omega⟩
      obtain ⟨x, y, z⟩ := ha.2 j (by omega)
      rw [x, y, z, show FRI (q + j) = 0 from if_neg (by omega)]
      exact (j1 a1 hq).step h2 (by omega) (by omega)
  · have e2 : q + (G 12 (O a1) - FRI a1) - (a1 + 1) = (q - (a1 + 1)) + (G 12 (O a1) - FRI a1) := by omega
    rw [e2, EW_app (F := fun f _ _ => sz f) (L := O) (O := L) (Hw := Hw) (G 12 (O a1) - FRI a1) (fun i hi => by obtain ⟨x, y, z⟩ := old i (by omega); exact ⟨z, y, x⟩)]
    have e3 : sumW (fun j => sz (O' (a1 + 1 + (q - (a1 + 1)) + j))) 0 (G 12 (O a1) - FRI a1) = sumW (fun j => sz (CH G (O a1) (FRI a1 + j))) 0 (G 12 (O a1) - FRI a1) := by
      refine sumW_congr _ (fun j h1 h2 => ?_)
      rw [show a1 + 1 + (q - (a1 + 1)) = q by omega, (ha.2 j (by omega)).2.2]
    have e4 := sum_parts ht p2 (FRI a1)
    omega
  · have hiq : i < q := by omega
    obtain ⟨x, y, z⟩ := old i hiq
    rw [x] at i2
    rw [z] at hk2
    rw [x, y, z]
    by_cases e : i = a1
    · subst e
      obtain ⟨x1, x2, x3⟩ := ha.2 (k - FRI i) (by omega)
      have ek : FRI i + (k - FRI i) = k := by omega
      dsimp only at x1 x2 x3
      rw [ek] at x1 x2 x3
      exact ⟨q + (k - FRI i), by omega, by omega, x1, x3, x2⟩
    · obtain ⟨j, g1, g2, g3, g4, g5⟩ := j3 i (by omega) i2 k hk1 hk2
      obtain ⟨x', y', z'⟩ := old j g2
      exact ⟨j, g1, by omega, by rw [x']; exact g3, by rw [z']; exact g4, by rw [y']; exact g5⟩
  · have keep : ∀ i, i < a1 → L' i = L i ∧ Hw' i = Hw i ∧ O' i = O i := fun i hi => old i (by omega)
    have hold : ∀ i, i < a1 + 1 → L' i = L i ∧ Hw' i = Hw i ∧ O' i = O i := fun i hi => old i (by omega)
    have carry : M' v = M v → (OPN G (L a1) (FRI a1) → ∀ x, OC G sz (CH G (L a1) (FX G (L a1) (FRI a1))) x → VAR N G x ≠ v + 1) → ((∃ i, i < a1 + 1 ∧ G 10 (L' i) = 2 ∧ OPN G (L' i) (FRI i) ∧ M' v = G 12 (O' i) - FX G (L' i) (FRI i) ∧ ∃ x, OC G sz (CH G (L' i) (FX G (L' i) (FRI i))) x ∧ VAR N G x = v + 1) ∨ (M' v = M0 v ∧ ∀ i, i < a1 + 1 → G 10 (L' i) = 2 → OPN G (L' i) (FRI i) → ∀ x, OC G sz (CH G (L' i) (FX G (L' i) (FRI i))) x → VAR N G x ≠ v + 1)) := by
      intro em hno
      rcases j4 v with ⟨i, hi, z⟩ | ⟨z1, z2⟩
      · refine Or.inl ⟨i, by omega, ?_⟩
        obtain ⟨x, y, z'⟩ := keep i hi
        rw [x, z', em]; exact z
      · refine Or.inr ⟨by rw [em]; exact z1, fun i hi i2 => ?_⟩
        obtain ⟨x, y, z'⟩ := hold i hi
        rw [x] at i2 ⊢
        by_cases e : i = a1
        · subst e; exact hno
        · exact z2 i (by omega) i2
    by_cases o : OPN G (L a1) (FRI a1)
    · obtain ⟨g1, g2⟩ := hM1 o
      by_cases hx : ∃ x, OC G sz (CH G (L a1) (FX G (L a1) (FRI a1))) x ∧ VAR N G x = v + 1
      · obtain ⟨x, hx1, hx2⟩ := hx
        refine Or.inl ⟨a1, by omega, ?_⟩
        obtain ⟨y1, y2, y3⟩ := old a1 hq
        rw [y1, y3]
        exact ⟨h2, o, g1 x v hx1 hx2, x, hx1, hx2⟩
      · refine carry ?_ (fun _ x z1 z2 => hx ⟨x, z1, z2⟩)
        rcases g2 v with z | ⟨-, z⟩
        · exact z
        · exact absurd z hx
    · exact carry (by rw [hM0 o]) (fun z => absurd z o)
theorem KI.list2 {fr : Nat} {L' Hw' O' M' : Nat → Nat} (h : KI N G sz top lst a1 q L Hw O M M0) (ht : TREE N G sz) (htop : top < N 14) (hl : lst < N 14) (hp : PAT G sz top 1 0) (hm : MAT G sz top lst 1) (hq : a1 < q) (h2 : G 10 (L a1) = 2) (efr : FRI a1 = fr)
    (ha : QAPP q (G 12 (O a1) - fr) L Hw O L' Hw' O' (fun j => CH G (L a1) (CIX (FX G (L a1) (fr)) (fr + j))) (fun j => if fr + j < FX G (L a1) (fr) then Hw a1 else fr + j - FX G (L a1) (fr)) (fun j => CH G (O a1) (fr + j)))
    (hM0 : ¬ OPN G (L a1) (fr) → M' = M) (hM1 : OPN G (L a1) (fr) → (∀ x v, OC G sz (CH G (L a1) (FX G (L a1) (fr))) x → VAR N G x = v + 1 → M' v = G 12 (O a1) - FX G (L a1) (fr)) ∧ ∀ v, M' v = M v ∨ (M' v = G 12 (O a1) - FX G (L a1) (fr) ∧ ∃ x, OC G sz (CH G (L a1) (FX G (L a1) (fr))) x ∧ VAR N G x = v + 1)) :
    KI N G sz top lst (a1 + 1) (q + (G 12 (O a1) - fr)) L' Hw' O' M' M0 := by
  subst efr
  exact KI.list h ht htop hl hp hm hq h2 ha hM0 hM1
/-- at the end, all that is come to stands in the queue -/
theorem KI.all (h : KI N G sz top lst a1 q L Hw O M M0) (he : q ≤ a1) {p f t fr : Nat} (hr : RCH G top lst p f t fr) : ∃ i, i < q ∧ L i = p ∧ O i = f ∧ Hw i = t ∧ FRI i = fr := by
  obtain ⟨⟨a, b, c1, c2, c3⟩, j1, j2, j3, j4⟩ := h
  obtain ⟨n, hr⟩ := hr
  induction n generalizing p f t fr with
  | zero =>
    obtain ⟨rfl, rfl, rfl, rfl⟩ := hr
    exact ⟨0, b, c1, c2, c3, rfl⟩
  | succ n ih =>
    obtain ⟨rfl, p0, f0, t0, fr0, k, h0, h2, hk, hk2, rfl, rfl, rfl⟩ := hr
    obtain ⟨i, hi, rfl, rfl, rfl, rfl⟩ := ih h0
    obtain ⟨j, g1, g2, g3, g4, g5⟩ := j3 i (by omega) h2 k hk hk2
    exact ⟨j, g2, g3, g4, g5, if_neg (by omega)⟩
/-- a variable of the table, and that it is the only one of its name -/
theorem VAR_tab {VN VR : Nat → Nat} {x : Nat} : ∀ n, (∀ v, v < n → VR v ≤ 1) → TC VN VR x 0 n + TC VN VR x 1 n ≤ 1 → ∀ v, v < n → VN v = x → varF VN x n = v + 1 ∧ 0 < TC VN VR x (VR v) n := by
  intro n
  induction n with
  | zero => intro _ _ v hv; exact absurd hv (Nat.not_lt_zero v)
  | succ n ih =>
    intro hr h v hv e
    rw [TC, TC] at h
    rw [TC, varF]
    by_cases ev : v = n
    · subst ev
      rw [if_pos e, if_pos ⟨e, rfl⟩]
      exact ⟨rfl, by omega⟩
    · by_cases en : VN n = x
      · exfalso
        have := hr n (by omega)
        have h1 : 1 ≤ TC VN VR x 0 n + TC VN VR x 1 n := by
          have := TC_pos (VN := VN) (VR := VR) (x := x) n (fun v hv => hr v (by omega)) (by
            have : ∀ m, v < m → 0 < varF VN x m := by
              intro m
              induction m with
              | zero => intro z; exact absurd z (Nat.not_lt_zero v)
              | succ m ihm =>
                intro z
                rw [varF]
                by_cases c : VN m = x
                · rw [if_pos c]; omega
                · rw [if_neg c]
                  have : v ≠ m := fun y => c (y ▸ e)
                  exact ihm (by omega)
            exact this n (by omega))
          exact this
        rcases (show VR n = 0 ∨ VR n = 1 by omega) with z | z
        · rw [if_pos ⟨en, z⟩] at h; omega
        · rw [if_pos (c := VN n = x ∧ VR n = 1) ⟨en, z⟩] at h; omega
      · rw [if_neg en, if_neg (fun t => en t.1)]
        rw [if_neg (fun t => en t.1), if_neg (fun t => en t.1)] at h
        obtain ⟨a, b⟩ := ih (fun v hv => hr v (by omega)) h v (by omega) e
        exact ⟨a, by omega⟩
/-- the table of variables tells the pattern's -/
abbrev TAB (N : Nat → Nat) (G : Nat → Nat → Nat) (sz : Nat → Nat) (rules top : Nat) : Prop := (∀ x rp, LEF G sz rules x rp top 1 0 = TC (G 47) (G 48) x rp (N 49)) ∧ (∀ v, v < N 49 → G 48 v ≤ 1) ∧ ∀ x, LEF G sz rules x 0 top 1 0 + LEF G sz rules x 1 top 1 0 ≤ 1
/-- at the end: each variable's count, each of its turns in the queue -/
theorem KI.fin {rules : Nat} (h : KI N G sz top lst a1 q L Hw O M M0) (ht : TREE N G sz) (htop : top < N 14) (hl : lst < N 14) (hp : PAT G sz top 1 0) (hm : MAT G sz top lst 1) (h2 : G 10 top = 2) (he : q ≤ a1) (hM0 : ∀ v, v < N 49 → M0 v = 1 ∨ SETR N G sz top lst v) (htab : TAB N G sz rules top) {v : Nat} (hv : v < N 49) :
    M v ≤ 3001 ∧ (M v = 1 ∨ SETR N G sz top lst v) ∧ (∀ t, t < M v → ∃ i, i < q ∧ G 10 (L i) = 1 ∧ VAR N G (G 11 (L i)) = v + 1 ∧ Hw i = t) ∧ (G 48 v = 0 → ∃ i, i < q ∧ G 10 (L i) = 1 ∧ VAR N G (G 11 (L i)) = v + 1 ∧ Hw i = 0) := by
  have h' := h
  obtain ⟨⟨a, b, c1, c2, c3⟩, j1, j2, j3, j4⟩ := h
  have hu := htab.2.2 (G 47 v)
  rw [htab.1, htab.1] at hu
  obtain ⟨hvar, hpos⟩ := VAR_tab (VN := G 47) (VR := G 48) (x := G 47 v) (N 49) htab.2.1 hu v hv rfl
  rw [← htab.1] at hpos
  have hleaf := RCH.leaf ht htop hl hp hm _ top lst 0 1 0 (Nat.le_refl _) h2 hp ⟨0, rfl, rfl, rfl, rfl⟩ hpos
  have tq : ∀ t, (∃ p' f', RCH G top lst p' f' t 0 ∧ G 10 p' = 1 ∧ VAR N G (G 11 p') = v + 1) → ∃ i, i < q ∧ G 10 (L i) = 1 ∧ VAR N G (G 11 (L i)) = v + 1 ∧ Hw i = t := by
    rintro t ⟨p', f', r1, r2, r3⟩
    obtain ⟨i, hi, rfl, rfl, rfl, -⟩ := h'.all he r1
    exact ⟨i, hi, r2, r3, rfl⟩
  have t0 : ∀ t, (∃ p' f', RCH G top lst p' f' t 0 ∧ G 10 p' = 1 ∧ G 11 p' = G 47 v) → ∃ i, i < q ∧ G 10 (L i) = 1 ∧ VAR N G (G 11 (L i)) = v + 1 ∧ Hw i = t := by
    rintro t ⟨p', f', r1, r2, r3⟩
    exact tq t ⟨p', f', r1, r2, by rw [r3]; exact hvar⟩
  refine ⟨?_, ?_, ?_, ?_⟩
  · rcases j4 v with ⟨i, hi, z1, z2, z3, z4⟩ | ⟨z1, z2⟩
    · obtain ⟨p1, p2, -⟩ := (j1 i (by omega)).ok ht htop hl hp hm
      have := cnt_le ht p2
      have := (ht.2 _ p2).2.1
      omega
    · rcases hM0 v hv with z | ⟨p', f', t', fr', x, r1, r2, r3, r4, r5⟩
      · omega
      · obtain ⟨i, hi, rfl, rfl, rfl, rfl⟩ := h'.all he r1
        exact absurd r5 (z2 i (by omega) r2 r3 x r4)
  · rcases j4 v with ⟨i, hi, z1, z2, z3, x, z4, z5⟩ | ⟨z1, z2⟩
    · exact Or.inr ⟨_, _, _, _, x, j1 i (by omega), z1, z2, z4, z5⟩
    · rw [z1]; exact hM0 v hv
  · intro t hts
    rcases j4 v with ⟨i, hi, z1, z2, z3, x, z4, z5⟩ | ⟨z1, z2⟩
    · have hr := j1 i (by omega)
      obtain ⟨p1, p2, p3, p4, p5, p6⟩ := hr.ok ht htop hl hp hm
      obtain ⟨w, hw⟩ := p5 z1
      obtain ⟨r1, r2⟩ := PAT.parts ht p1 hw
      have ro := r1 z2
      obtain ⟨m1, m2, m3⟩ := (MAT_un ht p2).mp p6 z1
      have hr2 := hr.high (k := t) z1 (by omega) (by omega)
      obtain ⟨s1, s2, s3, s4⟩ := r2 (FX G (L i) (FRI i)) ro.1 (Or.inr z2)
      have ec : CIX (FX G (L i) (FRI i)) (FX G (L i) (FRI i)) = FX G (L i) (FRI i) := if_neg (Nat.lt_irrefl _)
      have em : MORE G (L i) w (FX G (L i) (FRI i)) = 1 := if_pos (Or.inr (by rw [show FX G (L i) (FRI i) + 1 = G 12 (L i) - 1 by omega]; exact z2.2))
      rw [ec, em] at s4
      obtain ⟨p', f', q1, q2, q3⟩ := RCH.down ht htop hl hp hm _ _ _ _ (Nat.le_refl _) s4 hr2 z4
      exact tq t ⟨p', f', q1, q2, by rw [q3]; exact z5⟩
    · have no : ¬ SETR N G sz top lst v := by
        rintro ⟨p', f', t', fr', x, r1, r2, r3, r4, r5⟩
        obtain ⟨i, hi, rfl, rfl, rfl, rfl⟩ := h'.all he r1
        exact absurd r5 (z2 i (by omega) r2 r3 x r4)
      have m1 : M0 v = 1 := (hM0 v hv).elim id (fun z => absurd z no)
      rcases hleaf with z | ⟨-, p', f', t', fr', r1, r2, r3, r4⟩
      · rw [show t = 0 by omega]; exact t0 0 z
      · exact absurd ⟨p', f', t', fr', _, r1, r2, r3, r4, hvar⟩ no
  · intro hz
    rw [hz] at hleaf
    rcases hleaf with z | ⟨z, -⟩
    · exact t0 0 z
    · exact absurd z (by decide)
end KS
/-- how many of n places have what P tells -/
def cntP (P : Nat → Bool) : Nat → Nat
  | 0 => 0
  | n + 1 => cntP P n + if P n then 1 else 0
/-- turns that are all found among q entries: no more than those entries -/
theorem pigeon (P : Nat → Bool) (Hw : Nat → Nat) : ∀ (q : Nat) (T : Nat → Bool) (m : Nat), (∀ t, t < m → T t = true → ∃ i, i < q ∧ P i = true ∧ Hw i = t) → cntP T m ≤ cntP P q := by
  have cnt0 : ∀ (T : Nat → Bool) m, (∀ t, t < m → T t = false) → cntP T m = 0 := by
    intro T m
    induction m with
    | zero => intro _; rfl
    | succ m ih => intro h; rw [cntP, ih (fun t ht => h t (by omega)), h m (by omega)]; rfl
  have cnt1 : ∀ (T : Nat → Bool) (z m : Nat), cntP T m ≤ cntP (fun t => T t && !(t == z)) m + 1 := by
    intro T z m
    have aux : ∀ m, m ≤ z → cntP T m = cntP (fun t => T t && !(t == z)) m := by
      intro m
      induction m with
      | zero => intro _; rfl
      | succ m ih =>
        intro h
        rw [cntP, cntP, ih (by omega)]
        have : (m == z) = false := by simp; omega
        simp [this]
    induction m with
    | zero => exact Nat.zero_le _
    | succ m ih =>
      rw [cntP, cntP]
      by_cases e : m = z
      · rw [aux m (by omega)]
        have : (if T m = true then 1 else 0) ≤ 1 := by split <;> omega
        omega
      · have : (m == z) = false := by simp [e]
        simp only [this, Bool.not_false, Bool.and_true]
        omega
  intro q
  induction q with
  | zero =>
    intro T m h
    rw [cnt0 T m (fun t ht => by
      cases e : T t with
      | false => rfl
      | true => obtain ⟨i, hi, -⟩ := h t ht e; exact absurd hi (Nat.not_lt_zero i))]
    exact Nat.zero_le _
  | succ q ih =>
    intro T m h
    rw [cntP]
    by_cases hp : P q = true
    · rw [if_pos hp]
      have h1 := cnt1 T (Hw q) m
      have h2 := ih (fun t => T t && !(t == Hw q)) m (fun t ht hT => by
        simp only [Bool.and_eq_true, Bool.not_eq_true', beq_eq_false_iff_ne] at hT
        obtain ⟨i, hi, h3, h4⟩ := h t ht hT.1
        by_cases e : i = q
        · subst e; exact absurd h4.symm hT.2
        · exact ⟨i, by omega, h3, h4⟩)
      omega
    · rw [if_neg hp, Nat.add_zero]
      refine ih T m (fun t ht hT => ?_)
      obtain ⟨i, hi, h3, h4⟩ := h t ht hT
      by_cases e : i = q
      · subst e; exact absurd h3 hp
      · exact ⟨i, by omega, h3, h4⟩
theorem cntP_true : ∀ m, cntP (fun _ => true) m = m := by
  intro m
  induction m with
  | zero => rfl
  | succ m ih => rw [cntP, ih]; rfl
/-- the counts of all variables, each turn of each an entry: no more than the entries -/
theorem counts_le (q : Nat) (V Hw : Nat → Nat) : ∀ (n : Nat) (M : Nat → Nat), (∀ v, v < n → ∀ t, t < M v → ∃ i, i < q ∧ V i = v + 1 ∧ Hw i = t) → sumW M 0 n ≤ cntP (fun i => decide (0 < V i ∧ V i ≤ n)) q := by
  have split : ∀ (n q : Nat), cntP (fun i => decide (0 < V i ∧ V i ≤ n + 1)) q = cntP (fun i => decide (0 < V i ∧ V i ≤ n)) q + cntP (fun i => decide (V i = n + 1)) q := by
    intro n q
    induction q with
    | zero => rfl
    | succ q ih =>
      rw [cntP, cntP, cntP, ih]
      simp only [decide_eq_true_eq]
      by_cases e : V q = n + 1
      · rw [if_pos (show 0 < V q ∧ V q ≤ n + 1 by omega), if_neg (show ¬ (0 < V q ∧ V q ≤ n) by omega), if_pos e]; omega
      · by_cases e2 : 0 < V q ∧ V q ≤ n
        · rw [if_pos (show 0 < V q ∧ V q ≤ n + 1 by omega), if_pos e2, if_neg e]; omega
        · rw [if_neg (show ¬ (0 < V q ∧ V q ≤ n + 1) by omega), if_neg e2, if_neg e]; omega
  intro n
  induction n with
  | zero => intro M _; exact Nat.zero_le _
  | succ n ih =>
    intro M h
    rw [sumW, split, Nat.zero_add]
    have h1 := ih M (fun v hv => h v (by omega))
    have h2 := pigeon (fun i => decide (V i = n + 1)) Hw q (fun _ => true) (M n) (fun t ht _ => by
      obtain ⟨i, hi, e1, e2⟩ := h n (by omega) t ht
      exact ⟨i, hi, by simp [e1], e2⟩)
    rw [cntP_true] at h2
    omega
theorem cntP_le (P : Nat → Bool) : ∀ q, cntP P q ≤ q := by
  intro q
  induction q with
  | zero => exact Nat.le_refl 0
  | succ q ih =>
    rw [cntP]
    have : (if P q = true then 1 else 0) ≤ 1 := by split <;> omega
    omega
