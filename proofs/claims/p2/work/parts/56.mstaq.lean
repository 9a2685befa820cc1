
/-- one more form is to be copied -/
abbrev CY (K : Nat → Nat → Nat) (n q f : Nat) : Nat → Nat → Nat := LK (va_up (va_up (va_up K 58 (va_up (K 58) n (K 10 f))) 59 (va_up (K 59) n (K 11 f))) 60 (va_up (K 60) n (K 12 f))) (va_up (K 50) q f) (va_up (K 51) q n) (va_up (K 52) q 0)
/-- the copying: q forms, the first a of them with their parts, which lie below cp -/
def STI (N : Nat → Nat) (G : Nat → Nat → Nat) (t q cp m a : Nat) (M : Nat → Nat) (K : Nat → Nat → Nat) : Prop :=
  (∀ k, k ≠ 53 → k ≠ 62 → k ≠ 63 → M k = N k) ∧ (∀ k, k ≠ 7 → ¬ (50 ≤ k ∧ k ≤ 52) → ¬ (58 ≤ k ∧ k ≤ 61) → K k = G k) ∧ (∀ k i, K k i < 1048576) ∧ (M 53 = q ∧ M 62 = q ∧ M 63 = m) ∧
  (∀ i, i < q → K 50 i < t ∧ K 51 i = i ∧ K 58 i = G 10 (K 50 i) ∧ K 60 i = G 12 (K 50 i) ∧ (G 10 (K 50 i) ≠ 2 → K 59 i = G 11 (K 50 i))) ∧
  ∀ i, i < a → i < q ∧ (G 10 (K 50 i) = 2 → ∃ fi, K 59 i = N 17 + fi ∧ fi + G 12 (K 50 i) ≤ cp ∧ ∀ k, k < G 12 (K 50 i) → ∃ j, j < q ∧ K 61 (fi + k) = N 16 + j ∧ K 50 j = CH G (K 50 i) k)
/-- the macros of the text: where their rules have gone -/
def D7I (N : Nat → Nat) (G : Nat → Nat → Nat) (s0 q : Nat) (K : Nat → Nat → Nat) : Prop :=
  ∀ s, s < 5000 → (s < s0 → (K 7 s = G 7 s ∧ G 7 s ≤ N 16) ∨ (N 16 < G 7 s ∧ ∃ i, i < q ∧ K 7 s = N 16 + i + 1 ∧ K 50 i = G 7 s - 1)) ∧ (s0 ≤ s → K 7 s = G 7 s)
section SI9
variable {N M : Nat → Nat} {G K : Nat → Nat → Nat} {t q cp m a s0 : Nat}
theorem STI.copy (h : STI N G t q cp m a M K) {c : Nat} (hc : c < t) (hc9 : c < 90000) (hq : q < 90000) : STI N G t (q + 1) cp m a (va_up (va_up M 53 (q + 1)) 62 (q + 1)) (CY K q q c) := by
  obtain ⟨h1, h2, h3, h4, h5, h6⟩ := h
  have k10 := h2 10 (by decide) (by omega) (by omega)
  have k11 := h2 11 (by decide) (by omega) (by omega)
  have k12 := h2 12 (by decide) (by omega) (by omega)
  have e50 : CY K q q c 50 = va_up (K 50) q c := rfl
  have e51 : CY K q q c 51 = va_up (K 51) q q := rfl
  have e58 : CY K q q c 58 = va_up (K 58) q (K 10 c) := rfl
  have e59 : CY K q q c 59 = va_up (K 59) q (K 11 c) := rfl
  have e60 : CY K q q c 60 = va_up (K 60) q (K 12 c) := rfl
  have e61 : CY K q q c 61 = K 61 := rfl
  refine ⟨fun k a1 a2 a3 => by rw [va_up_ne _ _ a2, va_up_ne _ _ a1]; exact h1 k a1 a2 a3, fun k a1 a2 a3 => ?_, hGLK (hGup (hGup (hGup h3 (hIup (h3 58) (h3 10 c))) (hIup (h3 59) (h3 11 c))) (hIup (h3 60) (h3 12 c))) (hIup (h3 50) (by omega)) (hIup (h3 51) (by omega)) (hIup (h3 52) (by decide)), ⟨rfl, va_up_self _ _ _, h4.2.2⟩, fun i hi => ?_, fun i hi => ?_⟩
  · show va_up (va_up (va_up (va_up (va_up (va_up K 58 _) 59 _) 60 _) 50 _) 51 _) 52 _ k = G k
    rw [va_up_ne _ _ (by omega), va_up_ne _ _ (by omega), va_up_ne _ _ (by omega), va_up_ne _ _ (by omega), va_up_ne _ _ (by omega), va_up_ne _ _ (by omega)]
    exact h2 k a1 a2 a3
  · rw [e50, e51, e58, e59, e60]
    by_cases e : i = q
    · rw [e, va_up_self, va_up_self, va_up_self, va_up_self, va_up_self, k10, k11, k12]; exact ⟨hc, rfl, rfl, rfl, fun _ => rfl⟩
    · rw [va_up_ne _ _ e, va_up_ne _ _ e, va_up_ne _ _ e, va_up_ne _ _ e, va_up_ne _ _ e]; exact h5 i (by omega)
  · obtain ⟨b1, b2⟩ := h6 i hi
    rw [e50, e59, e61, va_up_ne _ _ (show i ≠ q by omega), va_up_ne _ _ (show i ≠ q by omega)]
    refine ⟨by omega, fun z => ?_⟩
    obtain ⟨fi, c1, c2, c3⟩ := b2 z
    refine ⟨fi, c1, c2, fun k hk => ?_⟩
    obtain ⟨j, d1, d2, d3⟩ := c3 k hk
    exact ⟨j, by omega, d2, by rw [va_up_ne _ _ (by omega)]; exact d3⟩
theorem STI.def7 (h : STI N G t q cp m a M K) {X : Nat → Nat} (hX : ∀ i, X i < 1048576) : STI N G t q cp m a M (va_up K 7 X) := by
  obtain ⟨h1, h2, h3, h4, h5, h6⟩ := h
  exact ⟨h1, fun k a1 a2 a3 => (va_up_ne _ _ a1).trans (h2 k a1 a2 a3), hGup h3 hX, h4, h5, h6⟩
theorem STI.part (h : STI N G t q cp m a M K) {j v : Nat} (hj : cp ≤ j) (hv : v < 1048576) : STI N G t q cp m a M (va_up K 61 (va_up (K 61) j v)) := by
  obtain ⟨h1, h2, h3, h4, h5, h6⟩ := h
  refine ⟨h1, fun k a1 a2 a3 => (va_up_ne _ _ (by omega)).trans (h2 k a1 a2 a3), hGup h3 (hIup (h3 61) hv), h4, h5, fun i hi => ?_⟩
  obtain ⟨b1, b2⟩ := h6 i hi
  refine ⟨b1, fun z => ?_⟩
  obtain ⟨fi, c1, c2, c3⟩ := b2 z
  refine ⟨fi, c1, c2, fun k hk => ?_⟩
  obtain ⟨j9, d1, d2, d3⟩ := c3 k hk
  have hk9 : k < G 12 (K 50 i) := hk
  refine ⟨j9, d1, ?_, d3⟩
  show va_up (K 61) j v (fi + k) = _
  rw [va_up_ne _ _ (by omega)]; exact d2
theorem STI.m63 (h : STI N G t q cp m a M K) (m2 : Nat) : STI N G t q cp m2 a (va_up M 63 m2) K := by
  obtain ⟨h1, h2, h3, h4, h5, h6⟩ := h
  exact ⟨fun k a1 a2 a3 => (va_up_ne _ _ a3).trans (h1 k a1 a2 a3), h2, h3, ⟨h4.1, h4.2.1, va_up_self _ _ _⟩, h5, h6⟩
theorem STI.skip (h : STI N G t q cp m a M K) (ha : a < q) (hn : G 10 (K 50 a) ≠ 2) : STI N G t q cp m (a + 1) M K := by
  obtain ⟨h1, h2, h3, h4, h5, h6⟩ := h
  refine ⟨h1, h2, h3, h4, h5, fun i hi => ?_⟩
  by_cases e : i = a
  · rw [e]; exact ⟨ha, fun z => absurd z hn⟩
  · exact h6 i (by omega)
theorem STI.list (h : STI N G t q cp m a M K) (ha : a < q) (h2 : G 10 (K 50 a) = 2) (hp : ∀ k, k < G 12 (K 50 a) → ∃ j, j < q ∧ K 61 (cp + k) = N 16 + j ∧ K 50 j = CH G (K 50 a) k) (hb : N 17 + cp < 1048576) :
    STI N G t q (cp + G 12 (K 50 a)) m (a + 1) M (va_up K 59 (va_up (K 59) a (N 17 + cp))) := by
  obtain ⟨h1, h2', h3, h4, h5, h6⟩ := h
  have e59 : va_up K 59 (va_up (K 59) a (N 17 + cp)) 59 = va_up (K 59) a (N 17 + cp) := rfl
  refine ⟨h1, fun k a1 a2 a3 => (va_up_ne _ _ (by omega)).trans (h2' k a1 a2 a3), hGup h3 (hIup (h3 59) hb), h4, fun i hi => ?_, fun i hi => ?_⟩
  · obtain ⟨b1, b2, b3, b4, b5⟩ := h5 i hi
    refine ⟨b1, b2, b3, b4, fun z => ?_⟩
    rw [e59]
    by_cases e : i = a
    · rw [e] at z; exact absurd h2 z
    · rw [va_up_ne _ _ e]; exact b5 z
  · rw [e59]
    show i < q ∧ (G 10 (K 50 i) = 2 → ∃ fi, _ ∧ _ ∧ ∀ k, k < G 12 (K 50 i) → ∃ j, j < q ∧ K 61 (fi + k) = N 16 + j ∧ K 50 j = CH G (K 50 i) k)
    by_cases e : i = a
    · rw [e, va_up_self]; exact ⟨ha, fun _ => ⟨cp, rfl, Nat.le_refl _, hp⟩⟩
    · obtain ⟨b1, b2⟩ := h6 i (by omega)
      rw [va_up_ne _ _ e]
      refine ⟨b1, fun z => ?_⟩
      obtain ⟨fi, c1, c2, c3⟩ := b2 z
      exact ⟨fi, c1, Nat.le_trans c2 (Nat.le_add_right _ _), c3⟩
theorem D7I.copy (h : D7I N G s0 q K) (n c : Nat) : D7I N G s0 (q + 1) (CY K n q c) := by
  intro s hs
  obtain ⟨a1, a2⟩ := h s hs
  have e50 : CY K n q c 50 = va_up (K 50) q c := rfl
  refine ⟨fun z => (a1 z).imp id (fun ⟨b0, i, b1, b2, b3⟩ => ⟨b0, i, by omega, b2, ?_⟩), a2⟩
  rw [e50, va_up_ne _ _ (by omega)]; exact b3
theorem D7I.old (h : D7I N G s0 q K) (hs : s0 < 5000) (hg : G 7 s0 ≤ N 16) : D7I N G (s0 + 1) q K := by
  intro s hs9
  obtain ⟨a1, a2⟩ := h s hs9
  refine ⟨fun z => ?_, fun z => a2 (by omega)⟩
  by_cases e : s = s0
  · rw [e]; exact Or.inl ⟨(h s0 hs).2 (Nat.le_refl _), hg⟩
  · exact a1 (by omega)
theorem D7I.new (h : D7I N G s0 q K) (hs : s0 < 5000) (hg : N 16 < G 7 s0) {c : Nat} (hc : c = G 7 s0 - 1) : D7I N G (s0 + 1) (q + 1) (va_up (CY K q q c) 7 (va_up (K 7) s0 (N 16 + q + 1))) := by
  intro s hs9
  obtain ⟨a1, a2⟩ := h s hs9
  have e50 : va_up (CY K q q c) 7 (va_up (K 7) s0 (N 16 + q + 1)) 50 = va_up (K 50) q c := rfl
  have e7 : va_up (CY K q q c) 7 (va_up (K 7) s0 (N 16 + q + 1)) 7 = va_up (K 7) s0 (N 16 + q + 1) := rfl
  rw [e7, e50]
  by_cases e : s = s0
  · rw [e, va_up_self]
    exact ⟨fun _ => Or.inr ⟨hg, q, by omega, rfl, by rw [va_up_self]; exact hc⟩, fun z => absurd z (by omega)⟩
  · rw [va_up_ne _ _ e]
    refine ⟨fun z => (a1 (by omega)).imp id (fun ⟨b0, i, b1, b2, b3⟩ => ⟨b0, i, by omega, b2, by rw [va_up_ne _ _ (by omega)]; exact b3⟩), fun z => a2 (by omega)⟩
theorem D7I.all (h : D7I N G s0 q K) (hs : ∀ s, s0 ≤ s → s < 5000 → G 7 s ≤ N 16) : D7I N G 5000 q K := by
  intro s hs9
  obtain ⟨a1, a2⟩ := h s hs9
  refine ⟨fun _ => ?_, fun z => absurd z (by omega)⟩
  by_cases e : s < s0
  · exact a1 e
  · exact Or.inl ⟨a2 (by omega), hs s (by omega) hs9⟩
theorem sum50 {sz : Nat → Nat} (a n : Nat) {c : Nat} (h : a + n = q) : sumW (fun i => sz (va_up (K 50) q c i)) a (n + 1) = sumW (fun i => sz (K 50 i)) a n + sz c := by
  rw [sumW, h, va_up_self]
  congr 1
  exact sumW_congr _ (fun i _ hi => by rw [va_up_ne _ _ (by omega)])
end SI9
