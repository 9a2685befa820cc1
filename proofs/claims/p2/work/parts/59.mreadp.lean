
section PWs
variable {N N1 : Nat → Nat} {G G1 : Nat → Nat → Nat} {B B1 : Nat → Nat → Int32} {sz az sz1 az1 : Nat → Nat} {c5 c6 d5 d6 : Nat}
/-- forms that stay, in two worlds -/
def LOW (N : Nat → Nat) (G G1 : Nat → Nat → Nat) : Prop := (∀ f, f < N 16 → G1 10 f = G 10 f ∧ G1 11 f = G 11 f ∧ G1 12 f = G 12 f) ∧ ∀ j, j < N 17 → G1 13 j = G 13 j
theorem LOW.ch (h : LOW N G G1) (hp : PW N G B sz az c5 c6) {f k : Nat} (hf : f < N 16) (hk : k < G 12 f) : CH G1 f k = CH G f k ∧ CH G f k < N 16 := by
  have e2 : G 10 f = 2 := hp.1.2.2.1.two (show f < RSN N 14 from hf) hk
  have e3 : G 11 f + G 12 f ≤ N 17 := hp.1.2.2.2.2.2 f hf e2
  refine ⟨?_, (hp.2.2.2.1.2 f hf).1 k hk⟩
  show G1 13 (G1 11 f + k) = _
  rw [(h.1 f hf).2.1, h.2 _ (by omega)]
theorem LOW.sim (h : LOW N G G1) (hp : PW N G B sz az c5 c6) : ∀ d f, f < N 16 → SIMf G G1 d f f := by
  intro d
  induction d with
  | zero => intro f _; trivial
  | succ d ih =>
    intro f hf
    obtain ⟨e1, e2, e3⟩ := h.1 f hf
    have h6 : N 6 ≤ 5000 := hp.1.2.1.1
    refine ⟨e1, e3, fun _ => e2, fun z => ?_, fun k hk => ?_⟩
    · have : G 11 f < N 6 := (hp.2.2.2.1.2 f hf).2 z
      rw [ROOT_lt (by omega), ROOT_lt (by omega)]
    · obtain ⟨a, b⟩ := h.ch hp hf hk
      rw [a]; exact ih _ b
/-- the world between calls, when what stays has been left alone -/
theorem PW.same (hp : PW N G B sz az c5 c6) (h : LOW N G G1) (n16 : N1 16 = N 16) (n17 : N1 17 = N 17) (n9 : N1 9 = N 9) (n6 : N 6 ≤ N1 6) (k7 : ∀ s, s < 5000 → G1 7 s = G 7 s) (hG : ∀ k i, G1 k i < 1048576) (hps : PS N1 G1 B1 (N1 2) d5 d6) (hn : N1 2 ≤ 3000 ∧ N1 49 ≤ 1600 ∧ N1 53 ≤ 90000 ∧ N1 40 ≤ 4000) : PW N1 G1 B1 sz az d5 d6 := by
  have hsim := h.sim hp
  have hch := fun {f k : Nat} => LOW.ch (f := f) (k := k) h hp
  have h65 : N1 6 ≤ 5000 := by have := hps.2.1; have := hps.2.2.1; omega
  have p2 : TREQ (RSN N) G sz := hp.2.1
  obtain ⟨⟨a1, a2, a3, a4, a5⟩, -, p3, p4, p5, p6, p7, p8⟩ := id hp
  have e14 : RSN N1 14 = N 16 := n16
  have e15 : RSN N1 15 = N 17 := n17
  have hl : ∀ f, f < N 16 → f < RSN N 14 := fun f hf => hf
  have sl : ∀ (v : Nat → Nat) f, f < N 16 → sumC v (CH G1 f) (G1 12 f) = sumC v (CH G f) (G 12 f) := fun v f hf => by
    rw [(h.1 f hf).2.2]
    exact sumC_congr _ (fun k hk => by rw [(hch hf hk).1])
  have ht : TREE (RSN N1) G1 sz := by
    refine ⟨by rw [e14]; have : N 16 ≤ 90000 := a3.1; omega, fun f hf => ?_⟩
    rw [e14] at hf
    obtain ⟨x1, x2, x3⟩ := h.1 f hf
    obtain ⟨y1, y2, y3, y4, y5⟩ := a3.2 f hf
    rw [sl sz f hf, x1, x2, x3]
    exact ⟨y1, y2, fun k hk => ⟨(y3 k hk).1, by rw [(hch hf hk).1, e14]; exact (hch hf hk).2⟩, fun z => Or.inl (show _ < N1 6 from Nat.lt_of_lt_of_le ((p4.2 f hf).2 z) n6), y5⟩
  have hq : TREQ (RSN N1) G1 sz := fun f hf => by rw [e14] at hf; rw [sl sz f hf]; exact p2 f hf
  refine ⟨⟨hG, ⟨h65, by show (0 : Nat) ≤ _; omega, fun a ha => absurd ha (Nat.not_lt_zero a)⟩, ht, fun f hf => ?_, ⟨by rw [e15]; have : N 17 ≤ 90000 := a5.1; omega, fun f hf h2 => ?_⟩⟩, hq, ⟨fun f hf => ?_, fun f hf => ?_⟩, ⟨Nat.le_refl _, fun f hf => ?_⟩, by rw [n16, n17, n9]; exact p5, fun s hs hz => ?_, hps, hn⟩
  · rw [e14] at hf; rw [(h.1 f hf).1]; exact a4 f hf
  · rw [e14] at hf
    obtain ⟨x1, x2, x3⟩ := h.1 f hf
    rw [x2, x3, e15]; rw [x1] at h2; exact a5.2 f hf h2
  · rw [e14] at hf; rw [sl az f hf, (h.1 f hf).1]; exact p3.1 f hf
  · rw [n16] at hf; exact p3.2 f hf
  · rw [n16] at hf ⊢
    obtain ⟨x1, x2, x3⟩ := h.1 f hf
    rw [x1, x2, x3]
    exact ⟨fun k hk => by rw [(hch hf hk).1]; exact (hch hf hk).2, fun z => Nat.lt_of_lt_of_le ((p4.2 f hf).2 z) n6⟩
  · rw [k7 s hs] at hz ⊢
    obtain ⟨b1, b2⟩ := p6 s hs hz
    rw [n16]
    exact ⟨b1, RULESOK.sim a3 ht p2 hq (show _ < N 16 by omega) (by rw [e14]; omega) (fun d => hsim d _ (by omega)) b2⟩
/-- reading may begin -/
theorem PF.start (hp : PW N G B sz az c5 c6) (n14 : N1 14 = N 16) (n15 : N1 15 = N 17) (n6 : N1 6 = N 6) (n45 : N1 45 = 0) (hG : ∀ k i, G1 k i < 1048576) (k10 : G1 10 = G 10) (k11 : G1 11 = G 11) (k12 : G1 12 = G 12) (k13 : G1 13 = G 13) : PF N1 G1 sz az (N 16) (N 17) 0 := by
  obtain ⟨⟨a1, a2, a3, a4, a5⟩, p2, p3, p4, p5, p6, p7, p8⟩ := hp
  have hc : ∀ f k, CH G1 f k = CH G f k := fun f k => by
    show G1 13 (G1 11 f + k) = _
    rw [k11, k13]
  have hcf : ∀ f, CH G1 f = CH G f := fun f => funext (hc f)
  refine ⟨hG, ⟨by rw [n14]; exact a3.1, fun f hf => ?_⟩, fun f hf => ?_, fun f hf => ?_, ⟨by rw [n15]; exact a5.1, fun f hf h2 => ?_⟩, ⟨Nat.le_refl _, fun f hf => ?_⟩, ⟨fun f hf => ?_, fun f hf => ?_⟩, fun i hi => absurd hi (by rw [n45]; exact Nat.not_lt_zero i), ?_⟩
  · rw [n14] at hf
    obtain ⟨y1, y2, y3, y4, y5⟩ := a3.2 f hf
    rw [k10, k11, k12, hcf, n14]
    exact ⟨y1, y2, fun k hk => ⟨(y3 k hk).1, (y3 k hk).2⟩, fun z => Or.inl (by rw [n6]; exact (p4.2 f hf).2 z), y5⟩
  · rw [n14] at hf; rw [k12, hcf]; exact p2 f hf
  · rw [n14] at hf; rw [k10]; exact a4 f hf
  · rw [n14] at hf; rw [k10] at h2; rw [k11, k12, n15]; exact a5.2 f hf h2
  · rw [n14] at hf ⊢; rw [k10, k11, k12, hcf, n6]; exact p4.2 f hf
  · rw [n14] at hf; rw [k10, k12, hcf]; exact p3.1 f hf
  · rw [n14] at hf; exact p3.2 f hf
  · rw [n14, n15, n45]; omega
/-- telling may begin -/
theorem XI.start (hp : PW N G B sz az c5 c6) (hf : PF N1 G1 sz1 az1 (N 16) (N 17) 3000) (hs : PS N1 G1 B1 0 c5 c6) (hl : LOW N G G1) (hsz : ∀ f, f < N 16 → sz1 f = sz f) (n16 : N1 16 = N 16) (n17 : N1 17 = N 17) (n6 : N 6 ≤ N1 6) (n9 : N1 9 = N 9) (k7 : ∀ s, s < 5000 → G1 7 s = G 7 s) (k8 : ∀ s, s < 5000 → G1 8 s = G 7 s)
    (n20 : N1 20 = 0) (n23 : N1 23 = 1) (n27 : N1 27 = 0) (n34 : N1 34 = 0) (n35 : N1 35 = 0) (n36 : N1 36 = 0) (n33 : N1 33 = 0) (n49 : N1 49 ≤ 1600) (n53 : N1 53 ≤ 90000) (g22 : G1 22 1 = 0) : XI N1 G1 sz1 az1 ∧ RQ N1 G1 sz1 (N1 14) ∧ PLN N1 G1 (N1 14) := by
  have hsim := hl.sim hp
  have hch := fun {f k : Nat} => LOW.ch (f := f) (k := k) hl hp
  have hm := hs.mono
  obtain ⟨f1, f2, f3, f4, f5, f6, f7, f8, f9⟩ := hf
  obtain ⟨⟨a1, a2, a3, a4, a5⟩, p2, p3, p4, p5, p6, p7, p8⟩ := id hp
  have h65 : N1 6 ≤ 5000 := by have := hs.2.1; have := hs.2.2.1; omega
  have h5c : G1 5 (N1 6) ≤ 4200 := by have := hs.2.2.2.2.1; have := hs.2.2.2.1; omega
  have hru : ∀ r, r < N 16 → RULESOK G sz r → RULESOK G1 sz1 r := fun r hr ho => RULESOK.sim a3 f2 p2 f3 hr (by omega) (fun d => hsim d r hr) ho
  have h7 : ∀ s, s < 5000 → 0 < G 7 s → G 7 s - 1 < N 16 ∧ RULESOK G1 sz1 (G 7 s - 1) := fun s hs9 hz => by
    obtain ⟨b1, b2⟩ := p6 s hs9 hz
    exact ⟨by omega, hru _ (by omega) b2⟩
  have hd0 : DSZ N1 G1 sz1 = 0 := by
    have key : ∀ n, n ≤ 5000 → sumW (fun s => if N1 16 < G1 7 s then sz1 (G1 7 s - 1) else 0) 0 n = 0 := by
      intro n
      induction n with
      | zero => intro _; rfl
      | succ n ih =>
        intro hn
        rw [sumW, ih (by omega), Nat.zero_add, Nat.zero_add]
        have e : ¬ N1 16 < G1 7 n := by
          rw [k7 n (by omega), n16]
          by_cases z : 0 < G 7 n
          · have := (p6 n (by omega) z).1; omega
          · omega
        exact if_neg e
    exact key 5000 (Nat.le_refl _)
  refine ⟨⟨⟨f1, ⟨h65, by omega, fun a ha => absurd ha (by rw [n20]; exact Nat.not_lt_zero a)⟩, f2, f4, f5⟩, f3, f7, ⟨by omega, by omega, by omega, fun e h1 h2 => by omega, fun e h0 h1 => ?_, fun a ha => absurd ha (by rw [n20]; exact Nat.not_lt_zero a)⟩, ⟨g22, by rw [n23, n27]; exact g22, hs.1, fun s hs9 => by have := hm s hs9; omega⟩, ⟨n49, n53, by omega, by omega, by omega, by omega, by omega, by omega, by omega, by omega, by omega⟩, fun _ b hb => absurd hb (by rw [n27]; exact Nat.not_lt_zero b), fun s hs9 hz => ?_, by omega, by omega, by omega, by omega, fun f hf9 => ?_, fun s hs9 hz => ?_⟩, ⟨by rw [hd0]; omega, by rw [hd0]; omega, by omega, fun s hs9 hz => ?_, fun s h6 hs9 => ?_⟩, f6⟩
  · have e1 : e = 1 := by omega
    rw [e1, g22]; exact Nat.zero_le _
  · rw [k7 s hs9] at hz ⊢
    obtain ⟨b1, b2⟩ := h7 s hs9 hz
    exact ⟨by omega, b2⟩
  · rw [n16] at hf9 ⊢
    obtain ⟨x1, x2, x3⟩ := hl.1 f hf9
    rw [x1, x2, x3, n17]
    exact ⟨fun k hk => by rw [(hch hf9 hk).1]; exact (hch hf9 hk).2, fun z => a5.2 f hf9 z, fun z => Nat.lt_of_lt_of_le ((p4.2 f hf9).2 z) n6⟩
  · rw [k8 s hs9] at hz ⊢
    obtain ⟨b1, b2⟩ := h7 s hs9 hz
    exact ⟨by omega, b2⟩
  · rw [k7 s hs9] at hz ⊢
    have := (h7 s hs9 hz).1
    omega
  · rw [k7 s hs9, n16]
    by_cases z : 0 < G 7 s
    · have := (p6 s hs9 z).1; omega
    · omega
end PWs
