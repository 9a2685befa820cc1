
/-- the numbers at a text's start -/
abbrev RSN (N : Nat → Nat) : Nat → Nat := va_up (va_up (va_up N 14 (N 16)) 15 (N 17)) 20 0
/-- what holds between calls -/
def PW (N : Nat → Nat) (G : Nat → Nat → Nat) (B : Nat → Nat → Int32) (sz az : Nat → Nat) (c5 c6 : Nat) : Prop :=
  FMS (RSN N) G sz ∧ TREQ (RSN N) G sz ∧ (ATOM (RSN N) G az ∧ ∀ f, f < N 16 → az f ≤ sz f) ∧ PLN (RSN N) G (N 16) ∧ (N 16 ≤ N 9 ∧ N 17 ≤ N 9 ∧ N 9 ≤ 4000) ∧
  (∀ s, s < 5000 → 0 < G 7 s → G 7 s ≤ N 16 ∧ RULESOK G sz (G 7 s - 1)) ∧ PS N G B (N 2) c5 c6 ∧ (N 2 ≤ 3000 ∧ N 49 ≤ 1600 ∧ N 53 ≤ 90000 ∧ N 40 ≤ 4000)
/-- what has been copied: q forms, cp parts; L tells of what -/
def STF (N : Nat → Nat) (G : Nat → Nat → Nat) (t q cp : Nat) (L : Nat → Nat) (G1 : Nat → Nat → Nat) : Prop :=
  (∀ f, f < N 16 → G1 10 f = G 10 f ∧ G1 11 f = G 11 f ∧ G1 12 f = G 12 f) ∧ (∀ j, j < N 17 → G1 13 j = G 13 j) ∧
  ∀ i, i < q → L i < t ∧ G1 10 (N 16 + i) = G 10 (L i) ∧ G1 12 (N 16 + i) = G 12 (L i) ∧ (G 10 (L i) ≠ 2 → G1 11 (N 16 + i) = G 11 (L i)) ∧
    (G 10 (L i) = 2 → ∃ fi, G1 11 (N 16 + i) = N 17 + fi ∧ fi + G 12 (L i) ≤ cp ∧ ∀ k, k < G 12 (L i) → ∃ j, j < q ∧ G1 13 (N 17 + fi + k) = N 16 + j ∧ L j = CH G (L i) k)
section ST
variable {N N1 : Nat → Nat} {G G1 : Nat → Nat → Nat} {B : Nat → Nat → Int32} {sz az : Nat → Nat} {t q cp : Nat} {L : Nat → Nat}
/-- sizes behind the copying -/
abbrev SZ1 (N sz L : Nat → Nat) : Nat → Nat := fun f => if f < N 16 then sz f else sz (L (f - N 16))
theorem STF.low (h : STF N G t q cp L G1) (hx : FMS N G sz) (hs : STY N G sz) {f k : Nat} (hf : f < N 16) (hk : k < G 12 f) : CH G1 f k = CH G f k := by
  have e2 := hx.2.2.1.two (show f < N 14 by have := hs.1; omega) hk
  have e3 := (hs.2.2.2.2.1 f hf).2.1 e2
  show G1 13 (G1 11 f + k) = _
  rw [(h.1 f hf).2.1, h.2.1 _ (by omega)]
theorem STF.sim0 (h : STF N G t q cp L G1) (hx : FMS N G sz) (hs : STY N G sz) : ∀ d f, f < N 16 → SIMf G G1 d f f := by
  intro d
  induction d with
  | zero => intro f _; trivial
  | succ d ih =>
    intro f hf
    obtain ⟨e1, e2, e3⟩ := h.1 f hf
    obtain ⟨y1, y2, y3⟩ := hs.2.2.2.2.1 f hf
    have h6 := hx.2.1.1
    refine ⟨e1, e3, fun _ => e2, fun z => ?_, fun k hk => ?_⟩
    · have := y3 z
      rw [ROOT_lt (by omega), ROOT_lt (by omega)]
    · rw [h.low hx hs hf hk]; exact ih _ (y1 k hk)
theorem STF.sim1 (h : STF N G t q cp L G1) (hx : FMS N G sz) (hp : PLN N G t) : ∀ d i, i < q → SIMf G G1 d (L i) (N 16 + i) := by
  intro d
  induction d with
  | zero => intro i _; trivial
  | succ d ih =>
    intro i hi
    obtain ⟨a1, a2, a3, a4, a5⟩ := h.2.2 i hi
    have h6 := hx.2.1.1
    refine ⟨a2, a3, a4, fun z => ?_, fun k hk => ?_⟩
    · have := (hp.2 _ a1).2 z
      rw [ROOT_lt (by omega), ROOT_lt (by omega)]
    · have e2 := hx.2.2.1.two (show L i < N 14 by have := hp.1; omega) hk
      obtain ⟨fi, b1, b2, b3⟩ := a5 e2
      obtain ⟨j, c1, c2, c3⟩ := b3 k hk
      have e : CH G1 (N 16 + i) k = N 16 + j := by
        show G1 13 (G1 11 (N 16 + i) + k) = _
        rw [b1]; exact c2
      rw [e, ← c3]
      exact ih j c1
theorem STF.pw (h : STF N G t q cp L G1) (hx : XI N G sz az) (hp : PLN N G t) (n16 : N1 16 = N 16 + q) (n17 : N1 17 = N 17 + cp) (n6 : N1 6 = N 6) (hb : N 16 + q ≤ 4000) (hb2 : N 17 + cp ≤ 4000) (hG : ∀ k i, G1 k i < 1048576) :
    FMS (RSN N1) G1 (SZ1 N sz L) ∧ TREQ (RSN N1) G1 (SZ1 N sz L) ∧ (ATOM (RSN N1) G1 (SZ1 N az L) ∧ ∀ f, f < N1 16 → SZ1 N az L f ≤ SZ1 N sz L f) ∧ PLN (RSN N1) G1 (N1 16) := by
  obtain ⟨hf, hq, hat, hev, he, hn, m1, m2, hs⟩ := hx
  have hlow := fun {f k : Nat} => STF.low (f := f) (k := k) h hf hs
  obtain ⟨s1, s2, s3, s4, s5, s6⟩ := hs
  obtain ⟨f1, f2, f3, f4, f5⟩ := hf
  have hp1 := hp.1
  have e14 : RSN N1 14 = N 16 + q := n16
  have e15 : RSN N1 15 = N 17 + cp := n17
  have e6 : RSN N1 6 = N 6 := n6
  have e20 : RSN N1 20 = 0 := rfl
  have lo : ∀ (v : Nat → Nat) f, f < N 16 → SZ1 N v L f = v f := fun v f hf => if_pos hf
  have hi : ∀ (v : Nat → Nat) i, SZ1 N v L (N 16 + i) = v (L i) := fun v i => by
    show (if N 16 + i < N 16 then _ else _) = _
    rw [if_neg (by omega), show N 16 + i - N 16 = i by omega]
  -- the sums over the parts
  have sl : ∀ (v : Nat → Nat) f, f < N 16 → sumC (SZ1 N v L) (CH G1 f) (G1 12 f) = sumC v (CH G f) (G 12 f) := fun v f hf9 => by
    rw [(h.1 f hf9).2.2]
    refine sumC_congr _ (fun k hk => ?_)
    rw [hlow hf9 hk]
    exact lo v _ ((s5 f hf9).1 k hk)
  have sh : ∀ (v : Nat → Nat) i, i < q → sumC (SZ1 N v L) (CH G1 (N 16 + i)) (G1 12 (N 16 + i)) = sumC v (CH G (L i)) (G 12 (L i)) := fun v i hi9 => by
    obtain ⟨a1, a2, a3, a4, a5⟩ := h.2.2 i hi9
    rw [a3]
    refine sumC_congr _ (fun k hk => ?_)
    obtain ⟨fi, b1, b2, b3⟩ := a5 (f3.two (show L i < N 14 by omega) hk)
    obtain ⟨j, c1, c2, c3⟩ := b3 k hk
    have e : CH G1 (N 16 + i) k = N 16 + j := by
      show G1 13 (G1 11 (N 16 + i) + k) = _
      rw [b1]; exact c2
    rw [e, hi v j, c3]
  have split : ∀ f, f < N 16 + q → f < N 16 ∨ ∃ i, i < q ∧ f = N 16 + i := fun f hf9 => by
    by_cases c : f < N 16
    · exact Or.inl c
    · exact Or.inr ⟨f - N 16, by omega, by omega⟩
  refine ⟨⟨hG, ⟨by rw [e6]; exact f2.1, by rw [e20]; omega, fun a ha => absurd ha (by rw [e20]; exact Nat.not_lt_zero a)⟩, ⟨by rw [e14]; omega, fun f hf9 => ?_⟩, fun f hf9 => ?_, ⟨by rw [e15]; omega, fun f hf9 h2 => ?_⟩⟩, fun f hf9 => ?_, ⟨fun f hf9 => ?_, fun f hf9 => ?_⟩, ⟨Nat.le_refl _, fun f hf9 => ?_⟩⟩
  · rw [e14] at hf9
    rcases split f hf9 with c | ⟨i, c, rfl⟩
    · obtain ⟨x1, x2, x3⟩ := h.1 f c
      obtain ⟨y1, y2, y3, y4, y5⟩ := f3.2 f (by omega)
      rw [sl sz f c, lo sz f c, x1, x2, x3]
      refine ⟨y1, y2, fun k hk => ⟨(y3 k hk).1, by rw [hlow c hk, e14]; have := (s5 f c).1 k hk; omega⟩, fun z => Or.inl (by rw [e6]; exact (s5 f c).2.2 z), y5⟩
    · obtain ⟨a1, a2, a3, a4, a5⟩ := h.2.2 i c
      obtain ⟨y1, y2, y3, y4, y5⟩ := f3.2 (L i) (by omega)
      rw [sh sz i c, hi sz i, a2, a3]
      refine ⟨y1, y2, fun k hk => ?_, fun z => Or.inl ?_, y5⟩
      · obtain ⟨fi, b1, b2, b3⟩ := a5 (f3.two (show L i < N 14 by omega) hk)
        obtain ⟨j, c1, c2, c3⟩ := b3 k hk
        refine ⟨by rw [b1]; omega, ?_⟩
        show G1 13 (G1 11 (N 16 + i) + k) < _
        rw [b1, c2, e14]; omega
      · rw [a4 (by omega), e6]; exact (hp.2 _ a1).2 z
  · rw [e14] at hf9
    rcases split f hf9 with c | ⟨i, c, rfl⟩
    · rw [(h.1 f c).1]; exact f4 f (by omega)
    · rw [(h.2.2 i c).2.1]; exact f4 _ (by have := (h.2.2 i c).1; omega)
  · rw [e14] at hf9
    rcases split f hf9 with c | ⟨i, c, rfl⟩
    · obtain ⟨x1, x2, x3⟩ := h.1 f c
      rw [x1] at h2
      rw [x2, x3, e15]
      have := (s5 f c).2.1 h2
      omega
    · obtain ⟨a1, a2, a3, a4, a5⟩ := h.2.2 i c
      rw [a2] at h2
      obtain ⟨fi, b1, b2, b3⟩ := a5 h2
      rw [a3, b1, e15]; omega
  · rw [e14] at hf9
    rcases split f hf9 with c | ⟨i, c, rfl⟩
    · rw [sl sz f c, lo sz f c]; exact hq f (by omega)
    · rw [sh sz i c, hi sz i]; exact hq _ (by have := (h.2.2 i c).1; omega)
  · rw [e14] at hf9
    rcases split f hf9 with c | ⟨i, c, rfl⟩
    · rw [sl az f c, lo az f c, (h.1 f c).1]; exact hat.1 f (by omega)
    · rw [sh az i c, hi az i, (h.2.2 i c).2.1]; exact hat.1 _ (by have := (h.2.2 i c).1; omega)
  · rw [n16] at hf9
    rcases split f hf9 with c | ⟨i, c, rfl⟩
    · rw [lo az f c, lo sz f c]; exact hat.2 f (by omega)
    · rw [hi az i, hi sz i]; exact hat.2 _ (by have := (h.2.2 i c).1; omega)
  · rw [n16] at hf9
    rw [n16, e6]
    rcases split f hf9 with c | ⟨i, c, rfl⟩
    · obtain ⟨x1, x2, x3⟩ := h.1 f c
      rw [x1, x2, x3]
      exact ⟨fun k hk => by rw [hlow c hk]; have := (s5 f c).1 k hk; omega, (s5 f c).2.2⟩
    · obtain ⟨a1, a2, a3, a4, a5⟩ := h.2.2 i c
      rw [a2, a3]
      refine ⟨fun k hk => ?_, fun z => by rw [a4 (by omega)]; exact (hp.2 _ a1).2 z⟩
      obtain ⟨fi, b1, b2, b3⟩ := a5 (f3.two (show L i < N 14 by omega) hk)
      obtain ⟨j, c1, c2, c3⟩ := b3 k hk
      show G1 13 (G1 11 (N 16 + i) + k) < _
      rw [b1, c2]; omega
theorem STF.rules (h : STF N G t q cp L G1) (hx : XI N G sz az) (hp : PLN N G t) (hq1 : TREE (RSN N1) G1 (SZ1 N sz L)) (hq2 : TREQ (RSN N1) G1 (SZ1 N sz L)) (n16 : N1 16 = N 16 + q) {r r1 : Nat} (hr : r < N 14) (ho : RULESOK G sz r) (hc : (r < N 16 ∧ r1 = r) ∨ ∃ i, i < q ∧ r1 = N 16 + i ∧ L i = r) : RULESOK G1 (SZ1 N sz L) r1 := by
  have e14 : RSN N1 14 = N 16 + q := n16
  refine RULESOK.sim hx.1.2.2.1 hq1 hx.2.1 hq2 hr ?_ (fun d => ?_) ho
  · rw [e14]
    rcases hc with ⟨a, rfl⟩ | ⟨i, a, rfl, b⟩ <;> omega
  · rcases hc with ⟨a, rfl⟩ | ⟨i, a, rfl, rfl⟩
    · exact h.sim0 hx.1 hx.2.2.2.2.2.2.2.2 d r1 a
    · exact h.sim1 hx.1 hp d i a
end ST
