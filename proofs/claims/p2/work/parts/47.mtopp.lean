
/-- as XT, but macros may be defined -/
def XU (N : Nat → Nat) (G : Nat → Nat → Nat) (B : Nat → Nat → Int32) (sz : Nat → Nat) (N1 : Nat → Nat) (G1 : Nat → Nat → Nat) (B1 : Nat → Nat → Int32) (sz1 : Nat → Nat) : Prop :=
  (∀ k, ((k < 14 ∧ k ≠ 9) ∨ (15 < k ∧ k < 20) ∨ (38 < k ∧ k ≠ 49 ∧ k ≠ 53)) → N1 k = N k) ∧ (∀ k, ((k < 10 ∧ k ≠ 7) ∨ (13 < k ∧ k < 18) ∨ (31 < k ∧ k < 47) ∨ 57 < k) → G1 k = G k) ∧ (∀ k, k ≠ 37 → B1 k = B k) ∧ N 14 ≤ N1 14 ∧ (∀ f, f < N 14 → sz1 f = sz f) ∧ FK N G N1 G1
/-- forms below t hold symbols and forms below t alone -/
def PLN (N : Nat → Nat) (G : Nat → Nat → Nat) (t : Nat) : Prop := t ≤ N 14 ∧ ∀ f, f < t → (∀ k, k < G 12 f → CH G f k < t) ∧ (G 10 f = 1 → G 11 f < N 6)
/-- the sizes of the macros that a text has defined -/
abbrev DSZ (N : Nat → Nat) (G : Nat → Nat → Nat) (sz : Nat → Nat) : Nat := sumW (fun s => if N 16 < G 7 s then sz (G 7 s - 1) else 0) 0 5000
def RQ (N : Nat → Nat) (G : Nat → Nat → Nat) (sz : Nat → Nat) (t : Nat) : Prop :=
  DSZ N G sz + N 16 ≤ N 9 ∧ DSZ N G sz + N 17 ≤ N 9 ∧ N 9 ≤ 4000 ∧ (∀ s, s < 5000 → 0 < G 7 s → G 7 s - 1 < t) ∧ ∀ s, N 6 ≤ s → s < 5000 → G 7 s ≤ N 16
section TP
variable {N N1 N2 : Nat → Nat} {G G1 G2 : Nat → Nat → Nat} {B B1 B2 : Nat → Nat → Int32} {sz az sz1 sz2 : Nat → Nat} {t w s x : Nat}
theorem XT.u (h : XT N G B sz N1 G1 B1 sz1) : XU N G B sz N1 G1 B1 sz1 := ⟨fun k hk => h.1 k (by omega), fun k hk => h.2.1 k (by omega), h.2.2⟩
theorem XU.trans (h : XU N G B sz N1 G1 B1 sz1) (h' : XU N1 G1 B1 sz1 N2 G2 B2 sz2) : XU N G B sz N2 G2 B2 sz2 := by
  obtain ⟨a1, a2, a3, a4, a5, a6, a7, a8⟩ := h
  obtain ⟨b1, b2, b3, b4, b5, b6, b7, b8⟩ := h'
  refine ⟨fun k hk => (b1 k hk).trans (a1 k hk), fun k hk => (b2 k hk).trans (a2 k hk), fun k hk => (b3 k hk).trans (a3 k hk), Nat.le_trans a4 b4, fun f hf => (b5 f (Nat.lt_of_lt_of_le hf a4)).trans (a5 f hf), Nat.le_trans a6 b6, fun f hf => ?_, fun j hj => (b8 j (Nat.lt_of_lt_of_le hj a6)).trans (a8 j hj)⟩
  obtain ⟨x1, x2, x3⟩ := a7 f hf
  obtain ⟨y1, y2, y3⟩ := b7 f (Nat.lt_of_lt_of_le hf a4)
  exact ⟨y1.trans x1, y2.trans x2, y3.trans x3⟩
theorem XU.pln (h : XU N G B sz N1 G1 B1 sz1) (h0 : FMS N G sz) (hp : PLN N G t) : PLN N1 G1 t := by
  obtain ⟨a1, a2, a3, a4, a5, a6, a7, a8⟩ := h
  obtain ⟨p1, p2⟩ := hp
  refine ⟨by omega, fun f hf => ?_⟩
  obtain ⟨x1, x2, x3⟩ := a7 f (by omega)
  obtain ⟨q1, q2⟩ := p2 f hf
  rw [x1, x2, x3, a1 6 (by omega)]
  refine ⟨fun k hk => ?_, q2⟩
  have e2 := h0.2.2.1.two (show f < N 14 by omega) hk
  have e3 := h0.2.2.2.2.2 f (by omega) e2
  show G1 13 (G1 11 f + k) < t
  rw [x2, a8 _ (by omega)]
  exact q1 k hk
theorem XT.rq (h : XT N G B sz N1 G1 B1 sz1) (ht : t ≤ N 14) (hq : RQ N G sz t) : RQ N1 G1 sz1 t := by
  obtain ⟨q1, q2, q3, q4, q5⟩ := hq
  have n6 := h.1 6 (by omega)
  have n16 := h.1 16 (by omega)
  have n17 := h.1 17 (by omega)
  have n9 := h.1 9 (by omega)
  have k7 := h.2.1 7 (by omega)
  have hs := h.2.2.2.2.1
  have e : DSZ N1 G1 sz1 = DSZ N G sz := sumW_congr _ (fun s _ hs9 => by
    show (if N1 16 < G1 7 s then sz1 (G1 7 s - 1) else 0) = _
    rw [n16, k7]
    by_cases c : N 16 < G 7 s
    · rw [if_pos c, if_pos c]; exact hs _ (by have := q4 s (by omega) (by omega); omega)
    · rw [if_neg c, if_neg c])
  unfold RQ
  rw [e, n16, n17, n9, k7, n6]
  exact ⟨q1, q2, q3, q4, q5⟩
theorem sumW_set {g : Nat → Nat} {f : Nat → Nat} {y v : Nat} : ∀ n, sumW (fun s => g (va_up f y v s)) 0 n ≤ sumW (fun s => g (f s)) 0 n + g v := by
  intro n
  have key : sumW (fun s => g (va_up f y v s)) 0 n = sumW (fun s => g (f s)) 0 n ∨ (y < n ∧ sumW (fun s => g (va_up f y v s)) 0 n + g (f y) = sumW (fun s => g (f s)) 0 n + g v) := by
    induction n with
    | zero => exact Or.inl rfl
    | succ n ih =>
      rw [sumW, sumW, Nat.zero_add]
      by_cases e : n = y
      · subst e
        rw [va_up_self]
        rcases ih with z | z
        · exact Or.inr ⟨by omega, by omega⟩
        · omega
      · rw [va_up_ne _ _ e]
        rcases ih with z | z
        · exact Or.inl (by omega)
        · exact Or.inr ⟨by omega, by omega⟩
  rcases key with z | z <;> omega
theorem RQ.set (h : RQ N G sz t) {y v n9 : Nat} (hy6 : y < N 6) (hv : v = 0 ∨ v - 1 < t) (h9 : N 9 + (if 0 < v then sz (v - 1) else 0) ≤ n9) (h4 : n9 ≤ 4000) : RQ (va_up N 9 n9) (va_up G 7 (va_up (G 7) y v)) sz t := by
  obtain ⟨q1, q2, q3, q4, q5⟩ := h
  have e : DSZ (va_up N 9 n9) (va_up G 7 (va_up (G 7) y v)) sz ≤ DSZ N G sz + (if 0 < v then sz (v - 1) else 0) := by
    have z := sumW_set (g := fun a => if N 16 < a then sz (a - 1) else 0) (f := G 7) (y := y) (v := v) 5000
    have z2 : (if N 16 < v then sz (v - 1) else 0) ≤ (if 0 < v then sz (v - 1) else 0) := by
      by_cases c : N 16 < v
      · rw [if_pos c, if_pos (by omega)]; exact Nat.le_refl _
      · rw [if_neg c]; exact Nat.zero_le _
    exact Nat.le_trans z (Nat.add_le_add_left z2 _)
  have n9e : va_up N 9 n9 9 = n9 := va_up_self _ _ _
  refine ⟨?_, ?_, ?_, fun s hs hz => ?_, fun s h6 hs => ?_⟩
  · rw [n9e]; show _ + N 16 ≤ n9; omega
  · rw [n9e]; show _ + N 17 ≤ n9; omega
  · rw [n9e]; exact h4
  · have k7 : va_up G 7 (va_up (G 7) y v) 7 = va_up (G 7) y v := rfl
    rw [k7] at hz ⊢
    by_cases c : s = y
    · rw [c, va_up_self] at hz ⊢; omega
    · rw [va_up_ne _ _ c] at hz ⊢; exact q4 s hs hz
  · have h6 : N 6 ≤ s := h6
    show va_up (G 7) y v s ≤ N 16
    rw [va_up_ne _ _ (by omega)]; exact q5 s h6 hs
theorem XI.def (h : XI N G sz az) {y v : Nat} (hv : v = 0 ∨ (v - 1 < N 14 ∧ RULESOK G sz (v - 1))) (hv9 : v < 1048576) : XI N (va_up G 7 (va_up (G 7) y v)) sz az := by
  obtain ⟨⟨a1, a2, a3, a4, a5⟩, b, c, d, e, f, g1, g2, g3⟩ := h
  obtain ⟨q1, q2, q3, q4, q5, q6⟩ := g3
  have hc : CORE (va_up G 7 (va_up (G 7) y v)) G := ⟨rfl, rfl, rfl, rfl, rfl⟩
  have k7 : va_up G 7 (va_up (G 7) y v) 7 = va_up (G 7) y v := rfl
  refine ⟨⟨hGup a1 (hIup (a1 7) hv9), a2, a3, a4, a5⟩, b, c, d, e, f, fun z b hb y => ⟨(g1 z b hb y).1, (g1 z b hb y).2.1, (RULESOK_core hc).mpr (g1 z b hb y).2.2⟩, fun s hs z => ?_, q1, q2, q3, q4, q5, fun s hs y => ⟨(q6 s hs y).1, (RULESOK_core hc).mpr (q6 s hs y).2⟩⟩
  rw [k7] at z ⊢
  rw [RULESOK_core hc]
  by_cases e9 : s = y
  · rw [e9, va_up_self] at z ⊢
    rcases hv with z9 | z9
    · omega
    · exact z9
  · rw [va_up_ne _ _ e9] at z ⊢; exact g2 s hs z
theorem RUN.bud {N0 : Nat → Nat} {G0 : Nat → Nat → Nat} {B0 : Nat → Nat → Int32} (h : RUN N0 G0 B0 sz N G B az w s) {W : Nat} (hb : BUD N0 W x) (hw : w + 1 ≤ W) (hs : s < 10000) : w + 1800 * (100 - N 35) ≤ 190000 ∧ PHI N w + 1 ≤ x := by
  obtain ⟨h1, h2, h3, h4, h5, h6⟩ := h
  unfold BUD PHI at hb
  unfold PHI
  rw [h5]
  omega
end TP
