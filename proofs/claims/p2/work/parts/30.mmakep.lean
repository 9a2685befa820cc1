
/-- the parts of lists lie below N 15 -/
def PB (N : Nat → Nat) (G : Nat → Nat → Nat) : Prop := N 15 ≤ 90000 ∧ ∀ f, f < N 14 → G 10 f = 2 → G 11 f + G 12 f ≤ N 15
/-- forms, names, aliases, all as they should be -/
def FMS (N : Nat → Nat) (G : Nat → Nat → Nat) (sz : Nat → Nat) : Prop := (∀ k i, G k i < 1048576) ∧ AL N G ∧ TREE N G sz ∧ KD N G ∧ PB N G
/-- forms, parts and aliases were added, what was there is there still -/
def GROW (N0 : Nat → Nat) (G0 : Nat → Nat → Nat) (sz0 : Nat → Nat) (N : Nat → Nat) (G : Nat → Nat → Nat) (sz : Nat → Nat) : Prop :=
  (∀ k, k ≠ 14 → k ≠ 15 → k ≠ 20 → k ≠ 53 → N k = N0 k) ∧ (∀ k, (k < 10 ∨ (13 < k ∧ k < 18) ∨ (19 < k ∧ k < 50) ∨ 54 < k) → G k = G0 k) ∧
  (N0 14 ≤ N 14 ∧ N0 15 ≤ N 15 ∧ N0 20 ≤ N 20) ∧ (∀ f, f < N0 14 → G 10 f = G0 10 f ∧ G 11 f = G0 11 f ∧ G 12 f = G0 12 f ∧ sz f = sz0 f) ∧
  (∀ j, j < N0 15 → G 13 j = G0 13 j) ∧ ∀ a, a < N0 20 → G 18 a = G0 18 a ∧ G 19 a = G0 19 a
noncomputable def TRNq (P : Nat → Prop) : Nat := @dite Nat (∃ n, P n) (Classical.propDecidable _) (fun h => h.choose) (fun _ => 0)
theorem TRN_q {N : Nat → Nat} {G : Nat → Nat → Nat} {sz : Nat → Nat} {f : Nat} : TRN N G sz f = TRNq (fun n => 0 < n ∧ (∃ x, OC G sz f x ∧ (0 < VAR N G x ∧ 0 < G 48 (VAR N G x - 1))) ∧ ∀ x, OC G sz f x → (0 < VAR N G x ∧ 0 < G 48 (VAR N G x - 1)) → G 56 (VAR N G x - 1) = n) := rfl
section GR
variable {N0 N : Nat → Nat} {G0 G : Nat → Nat → Nat} {sz0 sz : Nat → Nat}
theorem GROW.refl : GROW N G sz N G sz := ⟨fun _ _ _ _ _ => rfl, fun _ _ => rfl, ⟨Nat.le_refl _, Nat.le_refl _, Nat.le_refl _⟩, fun _ _ => ⟨rfl, rfl, rfl, rfl⟩, fun _ _ => rfl, fun _ _ => ⟨rfl, rfl⟩⟩
theorem GROW.trans {N1 : Nat → Nat} {G1 : Nat → Nat → Nat} {sz1 : Nat → Nat} (h : GROW N0 G0 sz0 N G sz) (h' : GROW N G sz N1 G1 sz1) : GROW N0 G0 sz0 N1 G1 sz1 := by
  obtain ⟨a1, a2, a3, a4, a5, a6⟩ := h
  obtain ⟨b1, b2, b3, b4, b5, b6⟩ := h'
  refine ⟨fun k h1 h2 h3 h4 => (b1 k h1 h2 h3 h4).trans (a1 k h1 h2 h3 h4), fun k hk => (b2 k hk).trans (a2 k hk), ⟨by omega, by omega, by omega⟩, fun f hf => ?_, fun j hj => (b5 j (by omega)).trans (a5 j hj), fun a ha => ?_⟩
  · obtain ⟨x1, x2, x3, x4⟩ := a4 f hf
    obtain ⟨y1, y2, y3, y4⟩ := b4 f (by omega)
    exact ⟨y1.trans x1, y2.trans x2, y3.trans x3, y4.trans x4⟩
  · obtain ⟨x1, x2⟩ := a6 a ha
    obtain ⟨y1, y2⟩ := b6 a (by omega)
    exact ⟨y1.trans x1, y2.trans x2⟩
theorem TREE.two (ht : TREE N G sz) {f k : Nat} (hf : f < N 14) (hk : k < G 12 f) : G 10 f = 2 := by
  by_cases c : G 10 f = 2
  · exact c
  · have := (ht.2 f hf).2.2.2.2 c
    omega
theorem GROW.ch (h : GROW N0 G0 sz0 N G sz) (h0 : FMS N0 G0 sz0) {f k : Nat} (hf : f < N0 14) (hk : k < G0 12 f) : CH G f k = CH G0 f k := by
  have h2 := h0.2.2.1.two hf hk
  have h3 := h0.2.2.2.2.2 f hf h2
  show G 13 (G 11 f + k) = G0 13 (G0 11 f + k)
  rw [(h.2.2.2.1 f hf).2.1]
  exact h.2.2.2.2.1 _ (by omega)
theorem GROW.nm (h : GROW N0 G0 sz0 N G sz) {x : Nat} (hx : nmOK N0 x) : nmOK N x := by
  have e6 := h.1 6 (by decide) (by decide) (by decide) (by decide)
  have := h.2.2.1.2.2
  rcases hx with y | y
  · exact Or.inl (by omega)
  · exact Or.inr (by omega)
theorem GROW.root (h : GROW N0 G0 sz0 N G sz) (ha0 : AL N0 G0) (ha : AL N G) : ∀ n x, x < n → nmOK N0 x → ROOT G x = ROOT G0 x := by
  intro n
  induction n with
  | zero => intro x hx; exact absurd hx (Nat.not_lt_zero x)
  | succ n ih =>
    intro x hx hn
    by_cases c : x < 5000
    · rw [ROOT_lt c, ROOT_lt c]
    · obtain ⟨a1, a2, a3⟩ := ROOT_step ha0 (by omega) hn
      obtain ⟨b1, b2, b3⟩ := ROOT_step ha (by omega) (h.nm hn)
      have e : G 18 (x - 5000) = G0 18 (x - 5000) := (h.2.2.2.2.2 _ (by have := ha0.1; rcases hn with y | y <;> omega)).1
      rw [← a3, ← b3, e]
      exact ih _ (by omega) a1
theorem GROW.from1 (h : GROW N0 G0 sz0 N G sz) (h0 : FMS N0 G0 sz0) (h1 : FMS N G sz) {f q : Nat} (hf : f < N0 14) : FROM G f q ↔ FROM G0 f q := by
  obtain ⟨e1, e2, e3, e4⟩ := h.2.2.2.1 f hf
  unfold FROM
  rw [e1, e2]
  constructor
  · rintro ⟨a, b⟩
    exact ⟨a, by rw [← b]; exact (h.root h0.2.1 h1.2.1 _ _ (Nat.lt_succ_self _) ((h0.2.2.1.2 f hf).2.2.2.1 a)).symm⟩
  · rintro ⟨a, b⟩
    exact ⟨a, by rw [← b]; exact h.root h0.2.1 h1.2.1 _ _ (Nat.lt_succ_self _) ((h0.2.2.1.2 f hf).2.2.2.1 a)⟩
theorem GROW.ell (h : GROW N0 G0 sz0 N G sz) (h0 : FMS N0 G0 sz0) (h1 : FMS N G sz) {f k : Nat} (hf : f < N0 14) : ELL G f k ↔ ELL G0 f k := by
  obtain ⟨e1, e2, e3, e4⟩ := h.2.2.2.1 f hf
  constructor
  · rintro ⟨a, b⟩
    rw [e3] at a
    rw [h.ch h0 hf a] at b
    exact ⟨a, (h.from1 h0 h1 (h0.2.2.1.pt hf a).2.1).mp b⟩
  · rintro ⟨a, b⟩
    refine ⟨by rw [e3]; exact a, ?_⟩
    rw [h.ch h0 hf a]
    exact (h.from1 h0 h1 (h0.2.2.1.pt hf a).2.1).mpr b
theorem GROW.oc (h : GROW N0 G0 sz0 N G sz) (h0 : FMS N0 G0 sz0) (h1 : FMS N G sz) {x : Nat} : ∀ d f, sz0 f ≤ d → f < N0 14 → (OC G sz f x ↔ OC G0 sz0 f x) := by
  intro d
  induction d with
  | zero => intro f hd hf; exact absurd (h0.2.2.1.one hf) (by omega)
  | succ d ih =>
    intro f hd hf
    obtain ⟨e1, e2, e3, e4⟩ := h.2.2.2.1 f hf
    have hf1 : f < N 14 := by have := h.2.2.1.1; omega
    rw [OC_iff h1.2.2.1 hf1, OC_iff h0.2.2.1 hf, e1, e2, e3]
    refine or_congr Iff.rfl ⟨?_, ?_⟩
    · rintro ⟨k, hk, y⟩
      rw [h.ch h0 hf hk] at y
      exact ⟨k, hk, (ih _ (by have := h0.2.2.1.lt hf hk; omega) (h0.2.2.1.pt hf hk).2.1).mp y⟩
    · rintro ⟨k, hk, y⟩
      refine ⟨k, hk, ?_⟩
      rw [h.ch h0 hf hk]
      exact (ih _ (by have := h0.2.2.1.lt hf hk; omega) (h0.2.2.1.pt hf hk).2.1).mpr y
theorem GROW.var (h : GROW N0 G0 sz0 N G sz) (x : Nat) : VAR N G x = VAR N0 G0 x := by
  unfold VAR
  rw [h.2.1 47 (by omega), h.1 49 (by decide) (by decide) (by decide) (by decide)]
theorem GROW.trn (h : GROW N0 G0 sz0 N G sz) (h0 : FMS N0 G0 sz0) (h1 : FMS N G sz) {f : Nat} (hf : f < N0 14) : TRN N G sz f = TRN N0 G0 sz0 f := by
  have eo : ∀ x, OC G sz f x = OC G0 sz0 f x := fun x => propext (h.oc h0 h1 _ f (Nat.le_refl _) hf)
  have ev := h.var
  have e48 := h.2.1 48 (by omega)
  have e56 := h.2.1 56 (by omega)
  rw [TRN_q, TRN_q]
  refine congrArg TRNq (funext (fun n => ?_))
  simp only [eo, ev, e48, e56]
end GR
/-- what begin does: an old form, a new list that waits, or a new name -/
def BGX (N : Nat → Nat) (G : Nat → Nat → Nat) (c h rin : Nat) (N1 : Nat → Nat) (G1 : Nat → Nat → Nat) (r : Nat) : Prop :=
  (∀ k, k ≠ 14 → k ≠ 20 → k ≠ 53 → N1 k = N k) ∧ (∀ k, (k < 10 ∨ (12 < k ∧ k < 18) ∨ (19 < k ∧ k < 50) ∨ 52 < k) → G1 k = G k) ∧ (∀ k i, G1 k i < 1048576) ∧
  (∀ f, f < N 14 → G1 10 f = G 10 f ∧ G1 11 f = G 11 f ∧ G1 12 f = G 12 f) ∧ (∀ a, a < N 20 → G1 18 a = G 18 a ∧ G1 19 a = G 19 a) ∧ (∀ i, i < N 53 → G1 50 i = G 50 i ∧ G1 51 i = G 51 i ∧ G1 52 i = G 52 i) ∧
  ((N1 14 = N 14 ∧ N1 20 = N 20 ∧ N1 53 = N 53 ∧ ((G 10 c = 0 ∧ r = c) ∨ (G 10 c = 1 ∧ 0 < VAR N G (G 11 c) ∧ r = G 57 (MTX G (VAR N G (G 11 c) - 1) h)))) ∨
   (G 10 c = 2 ∧ r = N 14 ∧ N1 14 = N 14 + 1 ∧ N1 20 = N 20 ∧ N1 53 = N 53 + 1 ∧ G1 10 r = 2 ∧ G1 11 r = 0 ∧ G1 12 r = 0 ∧ G1 50 (N 53) = c ∧ G1 51 (N 53) = h ∧ G1 52 (N 53) = r) ∨
   (G 10 c = 1 ∧ VAR N G (G 11 c) = 0 ∧ r = N 14 ∧ N1 14 = N 14 + 1 ∧ N1 53 = N 53 ∧ (N1 20 = N 20 ∨ N1 20 = N 20 + 1) ∧ G1 10 r = 1 ∧ G1 12 r = 0 ∧ 5000 ≤ G1 11 r ∧ G1 11 r < 5000 + N1 20 ∧ ∀ a, N 20 ≤ a → a < N1 20 → G1 18 a = G 11 c ∧ G1 19 a = rin))
/-- the lists that wait, from a1 on, and what is made -/
def MKW (N0 : Nat → Nat) (G0 : Nat → Nat → Nat) (sz0 E : Nat → Nat) (rin a1 : Nat) (N : Nat → Nat) (G : Nat → Nat → Nat) (sz : Nat → Nat) : Prop :=
  GROW N0 G0 sz0 N G sz ∧ FMS N G sz ∧
  (∀ i, i < N 53 → G 50 i < N0 14 ∧ G0 10 (G 50 i) = 2 ∧ GOOD N0 G0 sz0 E (G 50 i) (G 51 i)) ∧
  (∀ i, a1 ≤ i → i < N 53 → N0 14 ≤ G 52 i ∧ G 52 i < N 14 ∧ G 10 (G 52 i) = 2 ∧ G 12 (G 52 i) = 0 ∧ sz (G 52 i) = SZM N0 G0 sz0 (G 50 i) (G 51 i)) ∧
  (∀ i j, a1 ≤ i → i < j → j < N 53 → G 52 i < G 52 j) ∧
  (∀ f, f < N 14 → (∃ i, a1 ≤ i ∧ i < N 53 ∧ G 52 i = f) ∨ sz f = 1 + sumC sz (CH G f) (G 12 f)) ∧
  N 53 + N0 14 ≤ N 14 ∧ (∀ f, N0 14 ≤ f → f < N 14 → sz f ≤ 600) ∧ ∀ a, N0 20 ≤ a → a < N 20 → G 19 a = rin
/-- what the waiting lists will yet make -/
noncomputable abbrev PEND (N0 : Nat → Nat) (G0 : Nat → Nat → Nat) (sz0 : Nat → Nat) (G : Nat → Nat → Nat) (a q : Nat) : Nat := sumW (fun i => SZM N0 G0 sz0 (G 50 i) (G 51 i) - 1) a (q - a)
section MKs
variable {N0 N N1 : Nat → Nat} {G0 G G1 : Nat → Nat → Nat} {sz0 sz E : Nat → Nat} {rin a1 c h r : Nat}
theorem sumC_congr {s s' c c' : Nat → Nat} : ∀ n, (∀ k, k < n → s (c k) = s' (c' k)) → sumC s c n = sumC s' c' n := by
  intro n
  induction n with
  | zero => intro _; rfl
  | succ n ih => intro hk; rw [sumC, sumC, ih (fun k z => hk k (by omega)), hk n (by omega)]
/-- a world in which forms below n are as they were, and their sizes -/
theorem MKW.keep (ht : TREE N G sz) {s1 : Nat → Nat} {g : Nat → Nat → Nat} (hs : ∀ f, f < N 14 → s1 f = sz f) {f : Nat} (hf : f < N 14) (e2 : g 12 f = G 12 f) (ec : ∀ k, k < G 12 f → CH g f k = CH G f k) : sumC s1 (CH g f) (g 12 f) = sumC sz (CH G f) (G 12 f) := by
  rw [e2]
  refine sumC_congr _ (fun k hk => ?_)
  rw [ec k hk]
  exact hs _ (ht.pt hf hk).2.1
theorem MKW.beg (h0 : FMS N0 G0 sz0) (hq0 : TREQ N0 G0 sz0) (hk9 : KEPT N0 G0) (hRE : ∀ x, (0 < VAR N0 G0 x ∧ 0 < G0 48 (VAR N0 G0 x - 1)) ↔ 0 < E x)
    (hM : MKW N0 G0 sz0 E rin a1 N G sz) (hb : BGX N G c h rin N1 G1 r) (hc : c < N0 14) (hg : GOOD N0 G0 sz0 E c h) (ha1 : a1 ≤ N 53)
    (b14 : N0 14 ≤ 80000) (b20 : N 20 < 65000) (hbud : N 14 + SZM N0 G0 sz0 c h ≤ N0 14 + 600) :
    ∃ sz1, MKW N0 G0 sz0 E rin a1 N1 G1 sz1 ∧ r < N1 14 ∧ sz1 r = SZM N0 G0 sz0 c h ∧ (∀ f, f < N 14 → sz1 f = sz f) ∧ N 14 ≤ N1 14 ∧ N1 14 ≤ N 14 + 1 ∧ N1 20 ≤ N 20 + 1 ∧ N1 15 = N 15 ∧ N 53 ≤ N1 53 ∧
      (∀ i, i < N 53 → G1 50 i = G 50 i ∧ G1 51 i = G 51 i ∧ G1 52 i = G 52 i) ∧ G1 13 = G 13 ∧
      ∀ a, a ≤ N 53 → PEND N0 G0 sz0 G1 a (N1 53) + 1 ≤ PEND N0 G0 sz0 G a (N 53) + SZM N0 G0 sz0 c h := by
  have hpos := SZM_pos h0.2.2.1 hk9 hRE hg hc
  obtain ⟨hgr, hfm, m1, m2, m3, m4, m5, m6, m7⟩ := hM
  obtain ⟨x1, x2, x3, x4, x5, x6, x7⟩ := hb
  obtain ⟨g1, g2, g3, g4, g5, g6⟩ := id hgr
  obtain ⟨f1, f2, f3, f4, f5⟩ := id hfm
  obtain ⟨c1, c2, c3, c4⟩ := g4 c hc
  have e13 : G1 13 = G 13 := x2 13 (by omega)
  have e15 : N1 15 = N 15 := x1 15 (by decide) (by decide) (by decide)
  have e6 : N1 6 = N 6 := x1 6 (by decide) (by decide) (by decide)
  have hu := SZM_un h0.2.2.1 (f := c) (h := h) hc
  have hch : ∀ f, f < N 14 → ∀ k, CH G1 f k = CH G f k := fun f hf k => by
    show G1 13 (G1 11 f + k) = G 13 (G 11 f + k)
    rw [(x4 f hf).2.1, e13]
  have hroots : c < N 14 := by omega
  -- the queue's sum
  have hpe : ∀ a n, a + n ≤ N 53 → sumW (fun i => SZM N0 G0 sz0 (G1 50 i) (G1 51 i) - 1) a n = sumW (fun i => SZM N0 G0 sz0 (G 50 i) (G 51 i) - 1) a n := fun a n hn => sumW_congr n (fun i _ hi => by
    obtain ⟨y1, y2, y3⟩ := x6 i (by omega)
    rw [y1, y2])
  -- the common part, for a given sz1 that agrees on the old forms
  have common : ∀ sz1 : Nat → Nat, (∀ f, f < N 14 → sz1 f = sz f) → N 14 ≤ N1 14 → N 20 ≤ N1 20 → GROW N0 G0 sz0 N1 G1 sz1 := by
    intro sz1 hs h14 h20
    refine ⟨fun k k1 k2 k3 k4 => (x1 k k1 k3 k4).trans (g1 k k1 k2 k3 k4), fun k hk => (x2 k (by omega)).trans (g2 k hk), ⟨by omega, by omega, by omega⟩, fun f hf => ?_, fun j hj => ?_, fun a ha => ?_⟩
    · obtain ⟨y1, y2, y3⟩ := x4 f (by omega)
      obtain ⟨z1, z2, z3, z4⟩ := g4 f hf
      exact ⟨y1.trans z1, y2.trans z2, y3.trans z3, (hs f (by omega)).trans z4⟩
    · rw [e13]; exact g5 j hj
    · obtain ⟨y1, y2⟩ := x5 a (by omega)
      obtain ⟨z1, z2⟩ := g6 a ha
      exact ⟨y1.trans z1, y2.trans z2⟩
  have nmk : N 20 ≤ N1 20 → ∀ x, nmOK N x → nmOK N1 x := fun h20 x hx => hx.imp (fun z => by omega) (fun z => by omega)
  -- a new form n = N 14 with kind kd, size w
  have newf : ∀ (w : Nat), w = SZM N0 G0 sz0 c h → N1 14 = N 14 + 1 → N 20 ≤ N1 20 → r = N 14 → G1 12 r = 0 → (G1 10 r = 1 ∧ nmOK N1 (G1 11 r) ∨ G1 10 r = 2 ∧ G1 11 r = 0) → AL N1 G1 → FMS N1 G1 (va_up sz (N 14) w) := by
    intro w hw h14 h20 hr hz hk hal
    have hs : ∀ f, f < N 14 → va_up sz (N 14) w f = sz f := fun f hf => va_up_ne _ _ (by omega)
    refine ⟨x3, hal, ⟨by have := f3.1; omega, fun f hf => ?_⟩, fun f hf => ?_, ⟨by rw [e15]; exact f5.1, fun f hf h2 => ?_⟩⟩
    · by_cases e : f = N 14
      · subst e
        rw [hr] at hz hk
        refine ⟨by rw [va_up_self, hz, sumC]; omega, by rw [va_up_self]; omega, fun k hk => by omega, fun z => ?_, fun _ => hz⟩
        rcases hk with y | y
        · exact y.2
        · omega
      · have hf' : f < N 14 := by omega
        obtain ⟨y1, y2, y3, y4, y5⟩ := f3.2 f hf'
        obtain ⟨z1, z2, z3⟩ := x4 f hf'
        refine ⟨?_, by rw [hs f hf']; exact y2, fun k hk => ?_, fun z => ?_, fun z => ?_⟩
        · rw [MKW.keep f3 hs hf' z3 (fun k _ => hch f hf' k), hs f hf']; exact y1
        · rw [z3] at hk
          rw [hch f hf', z2]
          exact ⟨(y3 k hk).1, by have := (y3 k hk).2; omega⟩
        · rw [z2]; rw [z1] at z; exact nmk h20 _ (y4 z)
        · rw [z3]; rw [z1] at z; exact y5 z
    · by_cases e : f = N 14
      · subst e; rw [hr] at hk; rcases hk with y | y <;> omega
      · rw [(x4 f (by omega)).1]; exact f4 f (by omega)
    · by_cases e : f = N 14
      · subst e
        rw [hr] at hz hk
        rcases hk with y | y
        · omega
        · omega
      · obtain ⟨z1, z2, z3⟩ := x4 f (by omega)
        rw [z2, z3, e15]
        exact f5.2 f (by omega) (by rw [← z1]; exact h2)
  rcases x7 with ⟨n14, n20, n53, hr⟩ | ⟨k2, hr, n14, n20, n53, r10, r11, r12, q50, q51, q52⟩ | ⟨k1, kv, hr, n14, n53, n20, r10, r12, r11, r11', hal⟩
  · -- an old form
    have hal1 : AL N1 G1 := ⟨by rw [e6]; exact f2.1, by rw [n20]; exact f2.2.1, fun a ha => by rw [n20] at ha; rw [(x5 a ha).1, e6]; exact f2.2.2 a ha⟩
    have hs : ∀ f, f < N 14 → sz f = sz f := fun _ _ => rfl
    have hr' : r < N0 14 ∧ sz0 r = SZM N0 G0 sz0 c h := by
      rcases hr with ⟨z, rfl⟩ | ⟨z1, z2, z3⟩
      · rw [c1] at z
        refine ⟨hc, ?_⟩
        rw [hu, if_neg (fun y => by omega), (h0.2.2.1.2 r hc).2.2.2.2 (by omega), hq0 r hc, (h0.2.2.1.2 r hc).2.2.2.2 (by omega)]
        rfl
      · rw [c1] at z1
        rw [hgr.var, c2] at z2 z3
        have e55 := g2 55 (by omega)
        have e57 := g2 57 (by omega)
        have e48 := g2 48 (by omega)
        have z4 : r = G0 57 (MTX G0 (VAR N0 G0 (G0 11 c) - 1) h) := by rw [z3]; unfold MTX; rw [e55, e57, e48]
        have z5 := GOOD.var h0.2.2.1 hk9 hRE hg hc z1 z2
        refine ⟨by rw [z4]; exact z5.2.2, ?_⟩
        rw [hu, if_pos ⟨z1, z2⟩, (h0.2.2.1.2 c hc).2.2.2.2 (by omega), z4]
        rfl
    refine ⟨sz, ⟨common sz hs (by omega) (by omega), ⟨x3, hal1, ⟨by rw [n14]; exact f3.1, fun f hf => ?_⟩, fun f hf => ?_, ⟨by rw [e15]; exact f5.1, fun f hf h2 => ?_⟩⟩, fun i hi => ?_, fun i hi1 hi2 => ?_, fun i j h1 h2 h3 => ?_, fun f hf => ?_, by omega, fun f h1 h2 => m6 f h1 (by omega), fun a h1 h2 => ?_⟩, by omega, by rw [(g4 r hr'.1).2.2.2]; exact hr'.2, hs, by omega, by omega, by omega, e15, by omega, x6, e13, fun a ha => ?_⟩
    · rw [n14] at hf
      obtain ⟨y1, y2, y3, y4, y5⟩ := f3.2 f hf
      obtain ⟨z1, z2, z3⟩ := x4 f hf
      refine ⟨?_, y2, fun k hk => ?_, fun z => ?_, fun z => ?_⟩
      · rw [MKW.keep f3 hs hf z3 (fun k _ => hch f hf k)]; exact y1
      · rw [z3] at hk
        rw [hch f hf, z2, n14]
        exact y3 k hk
      · rw [z2]; rw [z1] at z; exact nmk (by omega) _ (y4 z)
      · rw [z3]; rw [z1] at z; exact y5 z
    · rw [n14] at hf; rw [(x4 f hf).1]; exact f4 f hf
    · rw [n14] at hf
      obtain ⟨z1, z2, z3⟩ := x4 f hf
      rw [z2, z3, e15]
      exact f5.2 f hf (by rw [← z1]; exact h2)
    · rw [n53] at hi
      obtain ⟨y1, y2, y3⟩ := x6 i hi
      rw [y1, y2]; exact m1 i hi
    · rw [n53] at hi2
      obtain ⟨y1, y2, y3⟩ := x6 i hi2
      obtain ⟨w1, w2, w3, w4, w5⟩ := m2 i hi1 hi2
      obtain ⟨z1, z2, z3⟩ := x4 _ w2
      rw [y1, y2, y3, z1, z3, n14]
      exact ⟨w1, w2, w3, w4, w5⟩
    · rw [n53] at h3
      rw [(x6 i (by omega)).2.2, (x6 j h3).2.2]; exact m3 i j h1 h2 h3
    · rw [n14] at hf
      rcases m4 f hf with ⟨i, i1, i2, i3⟩ | y
      · exact Or.inl ⟨i, i1, by omega, by rw [(x6 i i2).2.2]; exact i3⟩
      · refine Or.inr ?_
        rw [MKW.keep f3 hs hf (x4 f hf).2.2 (fun k _ => hch f hf k)]; exact y
    · rw [n20] at h2; rw [(x5 a h2).2]; exact m7 a h1 h2
    · show sumW _ a (N1 53 - a) + 1 ≤ sumW _ a (N 53 - a) + _
      rw [n53, hpe a _ (by omega)]
      omega
  · -- a new list
    rw [hr] at r10 r11 r12 q52
    have hal1 : AL N1 G1 := ⟨by rw [e6]; exact f2.1, by rw [n20]; exact f2.2.1, fun a ha => by rw [n20] at ha; rw [(x5 a ha).1, e6]; exact f2.2.2 a ha⟩
    have hs : ∀ f, f < N 14 → va_up sz (N 14) (SZM N0 G0 sz0 c h) f = sz f := fun f hf => va_up_ne _ _ (by omega)
    refine ⟨va_up sz (N 14) (SZM N0 G0 sz0 c h), ⟨common _ hs (by omega) (by omega), newf _ rfl n14 (by omega) hr (by rw [hr]; exact r12) (Or.inr (by rw [hr]; exact ⟨r10, r11⟩)) hal1, fun i hi => ?_, fun i hi1 hi2 => ?_, fun i j h1 h2 h3 => ?_, fun f hf => ?_, by omega, fun f h1 h2 => ?_, fun a h1 h2 => ?_⟩, by omega, by rw [hr, va_up_self], hs, by omega, by omega, by omega, e15, by omega, x6, e13, fun a ha => ?_⟩
    · by_cases e : i = N 53
      · subst e; rw [q50, q51]; exact ⟨hc, by rw [← c1]; exact k2, hg⟩
      · obtain ⟨y1, y2, y3⟩ := x6 i (by omega)
        rw [y1, y2]; exact m1 i (by omega)
    · by_cases e : i = N 53
      · subst e; rw [q50, q51, q52, va_up_self]; exact ⟨by omega, by omega, r10, r12, rfl⟩
      · obtain ⟨y1, y2, y3⟩ := x6 i (by omega)
        obtain ⟨w1, w2, w3, w4, w5⟩ := m2 i hi1 (by omega)
        obtain ⟨z1, z2, z3⟩ := x4 _ w2
        rw [y1, y2, y3, z1, z3, n14, hs _ w2]
        exact ⟨w1, by omega, w3, w4, w5⟩
    · by_cases e : j = N 53
      · subst e; rw [q52, (x6 i (by omega)).2.2]; exact (m2 i h1 h2).2.1
      · rw [(x6 i (by omega)).2.2, (x6 j (by omega)).2.2]; exact m3 i j h1 h2 (by omega)
    · by_cases e : f = N 14
      · exact Or.inl ⟨N 53, ha1, by omega, by rw [q52, e]⟩
      · have hf' : f < N 14 := by omega
        rcases m4 f hf' with ⟨i, i1, i2, i3⟩ | y
        · exact Or.inl ⟨i, i1, by omega, by rw [(x6 i i2).2.2]; exact i3⟩
        · refine Or.inr ?_
          rw [MKW.keep f3 hs hf' (x4 f hf').2.2 (fun k _ => hch f hf' k), hs f hf']; exact y
    · by_cases e : f = N 14
      · rw [e, va_up_self]; omega
      · rw [hs f (by omega)]; exact m6 f h1 (by omega)
    · rw [n20] at h2; rw [(x5 a h2).2]; exact m7 a h1 h2
    · show sumW _ a (N1 53 - a) + 1 ≤ sumW _ a (N 53 - a) + _
      rw [n53, show N 53 + 1 - a = (N 53 - a) + 1 by omega, sumW, hpe a _ (by omega), show a + (N 53 - a) = N 53 by omega, q50, q51]
      omega
  · -- a new name
    rw [hr] at r10 r11 r11' r12
    have hn20 : N 20 ≤ N1 20 := by omega
    have hcn : nmOK N (G 11 c) := (f3.2 c hroots).2.2.2.1 k1
    have hal1 : AL N1 G1 := by
      refine ⟨by rw [e6]; exact f2.1, by omega, fun a ha => ?_⟩
      by_cases e : a < N 20
      · rw [(x5 a e).1, e6]; exact f2.2.2 a e
      · rw [(hal a (by omega) ha).1, e6]
        rcases hcn with y | y
        · exact Or.inl y
        · exact Or.inr (by omega)
    have hsz1 : SZM N0 G0 sz0 c h = 1 := by
      rw [c1] at k1
      rw [hgr.var, c2] at kv
      rw [hu, if_neg (fun y => by omega), (h0.2.2.1.2 c hc).2.2.2.2 (by omega)]
      rfl
    have hs : ∀ f, f < N 14 → va_up sz (N 14) (SZM N0 G0 sz0 c h) f = sz f := fun f hf => va_up_ne _ _ (by omega)
    refine ⟨va_up sz (N 14) (SZM N0 G0 sz0 c h), ⟨common _ hs (by omega) hn20, newf _ rfl n14 hn20 hr (by rw [hr]; exact r12) (Or.inl (by rw [hr]; exact ⟨r10, Or.inr ⟨r11, r11'⟩⟩)) hal1, fun i hi => ?_, fun i hi1 hi2 => ?_, fun i j h1 h2 h3 => ?_, fun f hf => ?_, by omega, fun f h1 h2 => ?_, fun a h1 h2 => ?_⟩, by omega, by rw [hr, va_up_self], hs, by omega, by omega, by omega, e15, by omega, x6, e13, fun a ha => ?_⟩
    · rw [n53] at hi
      obtain ⟨y1, y2, y3⟩ := x6 i hi
      rw [y1, y2]; exact m1 i hi
    · rw [n53] at hi2
      obtain ⟨y1, y2, y3⟩ := x6 i hi2
      obtain ⟨w1, w2, w3, w4, w5⟩ := m2 i hi1 hi2
      obtain ⟨z1, z2, z3⟩ := x4 _ w2
      rw [y1, y2, y3, z1, z3, n14, hs _ w2]
      exact ⟨w1, by omega, w3, w4, w5⟩
    · rw [n53] at h3
      rw [(x6 i (by omega)).2.2, (x6 j h3).2.2]; exact m3 i j h1 h2 h3
    · by_cases e : f = N 14
      · refine Or.inr ?_
        rw [e, va_up_self, r12, hsz1]
        rfl
      · have hf' : f < N 14 := by omega
        rcases m4 f hf' with ⟨i, i1, i2, i3⟩ | y
        · exact Or.inl ⟨i, i1, by omega, by rw [(x6 i i2).2.2]; exact i3⟩
        · refine Or.inr ?_
          rw [MKW.keep f3 hs hf' (x4 f hf').2.2 (fun k _ => hch f hf' k), hs f hf']; exact y
    · by_cases e : f = N 14
      · rw [e, va_up_self]; omega
      · rw [hs f (by omega)]; exact m6 f h1 (by omega)
    · by_cases e : a < N 20
      · rw [(x5 a e).2]; exact m7 a h1 e
      · exact (hal a (by omega) h2).2
    · show sumW _ a (N1 53 - a) + 1 ≤ sumW _ a (N 53 - a) + _
      rw [n53, hpe a _ (by omega)]
      omega
end MKs
