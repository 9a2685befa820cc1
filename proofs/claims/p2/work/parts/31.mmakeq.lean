
/-- what is yet to be made has room -/
abbrev POT (N0 N : Nat → Nat) (x : Nat) : Prop := N 14 + x ≤ N0 14 + 600 ∧ N 15 + x ≤ N0 15 + 600 ∧ N 20 + x ≤ N0 20 + 600
def MKO (N0 : Nat → Nat) (G0 : Nat → Nat → Nat) (sz0 E : Nat → Nat) (rin a1 : Nat) (N : Nat → Nat) (G : Nat → Nat → Nat) (sz : Nat → Nat) : Prop :=
  MKW N0 G0 sz0 E rin a1 N G sz ∧ a1 ≤ N 53 ∧ POT N0 N (PEND N0 G0 sz0 G a1 (N 53))
/-- the list a1 is being made: its parts lie from fs on, rest is to come -/
def MKP (N0 : Nat → Nat) (G0 : Nat → Nat → Nat) (sz0 E : Nat → Nat) (rin a1 p h fs rest : Nat) (N : Nat → Nat) (G : Nat → Nat → Nat) (sz : Nat → Nat) : Prop :=
  MKW N0 G0 sz0 E rin a1 N G sz ∧ a1 < N 53 ∧ (G 50 a1 = p ∧ G 51 a1 = h) ∧ (N0 15 ≤ fs ∧ fs ≤ N 15) ∧ (∀ j, fs ≤ j → j < N 15 → G 13 j < N 14) ∧
  sumW (fun j => sz (G 13 j)) fs (N 15 - fs) + rest + 1 = SZM N0 G0 sz0 p h ∧ POT N0 N (PEND N0 G0 sz0 G (a1 + 1) (N 53) + rest)
section MKt
variable {N0 N N1 : Nat → Nat} {G0 G G1 : Nat → Nat → Nat} {sz0 sz E : Nat → Nat} {rin a1 c h r p h' fs rest : Nat}
theorem MKW.store (hM : MKW N0 G0 sz0 E rin a1 N G sz) (hr : r < N 14) (h15 : N 15 < 90000) : MKW N0 G0 sz0 E rin a1 (va_up N 15 (N 15 + 1)) (va_up G 13 (va_up (G 13) (N 15) r)) sz := by
  obtain ⟨⟨g1, g2, g3, g4, g5, g6⟩, ⟨f1, f2, f3, f4, f5⟩, m1, m2, m3, m4, m5, m6, m7⟩ := hM
  have hch : ∀ f, f < N 14 → ∀ k, k < G 12 f → CH (va_up G 13 (va_up (G 13) (N 15) r)) f k = CH G f k := fun f hf k hk => by
    have h2 := f3.two hf hk
    have h3 := f5.2 f hf h2
    show va_up (G 13) (N 15) r (G 11 f + k) = G 13 (G 11 f + k)
    exact va_up_ne _ _ (by omega)
  have n15 : va_up N 15 (N 15 + 1) 15 = N 15 + 1 := va_up_self _ _ _
  have hf1 := f3.1
  refine ⟨⟨fun k k1 k2 k3 k4 => (va_up_ne _ _ k2).trans (g1 k k1 k2 k3 k4), fun k hk => (va_up_ne _ _ (by omega)).trans (g2 k hk), ⟨g3.1, by rw [n15]; omega, g3.2.2⟩, g4, fun j hj => ?_, g6⟩, ⟨hGup f1 (hIup (f1 13) (by omega)), f2, ⟨f3.1, fun f hf => ?_⟩, f4, ⟨by rw [n15]; omega, fun f hf h2 => by rw [n15]; exact Nat.le_succ_of_le (f5.2 f hf h2)⟩⟩, m1, m2, m3, fun f hf => ?_, m5, m6, m7⟩
  · show va_up (G 13) (N 15) r j = G0 13 j
    rw [va_up_ne _ _ (by omega)]; exact g5 j hj
  · obtain ⟨y1, y2, y3, y4, y5⟩ := f3.2 f hf
    refine ⟨?_, y2, fun k hk => ⟨(y3 k hk).1, by rw [hch f hf k hk]; exact (y3 k hk).2⟩, y4, y5⟩
    rw [MKW.keep (g := va_up G 13 (va_up (G 13) (N 15) r)) f3 (fun _ _ => rfl) hf rfl (hch f hf)]; exact y1
  · refine (m4 f hf).imp id (fun y => ?_)
    rw [MKW.keep (g := va_up G 13 (va_up (G 13) (N 15) r)) f3 (fun _ _ => rfl) hf rfl (hch f hf)]; exact y
theorem MKP.put (h0 : FMS N0 G0 sz0) (hq0 : TREQ N0 G0 sz0) (hk9 : KEPT N0 G0) (hRE : ∀ x, (0 < VAR N0 G0 x ∧ 0 < G0 48 (VAR N0 G0 x - 1)) ↔ 0 < E x)
    (hP : MKP N0 G0 sz0 E rin a1 p h' fs (SZM N0 G0 sz0 c h + rest) N G sz) (hb : BGX N G c h rin N1 G1 r) (hc : c < N0 14) (hg : GOOD N0 G0 sz0 E c h)
    (b14 : N0 14 ≤ 80000) (b15 : N0 15 ≤ 80000) (b20 : N0 20 ≤ 64000) : ∃ sz1, MKP N0 G0 sz0 E rin a1 p h' fs rest (va_up N1 15 (N1 15 + 1)) (va_up G1 13 (va_up (G1 13) (N 15) r)) sz1 ∧ (∀ f, f < N 14 → sz1 f = sz f) ∧ N 14 ≤ N1 14 ∧ G1 52 a1 = G 52 a1 := by
  obtain ⟨hM, hq, ⟨hp, hh⟩, hfs, hpl, hsum, hpot⟩ := hP
  have hpos := SZM_pos h0.2.2.1 hk9 hRE hg hc
  obtain ⟨sz1, k1, k2, k3, k4, k5, k6, k7, k8, k9, k10, k11, k12⟩ := MKW.beg h0 hq0 hk9 hRE hM hb hc hg (by omega) b14 (by omega) (by omega)
  have q1 := k12 (a1 + 1) (by omega)
  have hst := MKW.store k1 k2 (by omega)
  have n15 : va_up N1 15 (N1 15 + 1) 15 = N1 15 + 1 := va_up_self _ _ _
  have e13 : ∀ j, va_up G1 13 (va_up (G1 13) (N 15) r) 13 j = va_up (G 13) (N 15) r j := fun j => by
    show va_up (G1 13) (N 15) r j = _
    rw [k11]
  refine ⟨sz1, ⟨?_, ?_, ?_, ?_, ?_, ?_, ?_⟩, k4, k5, (k10 a1 hq).2.2⟩
  · rw [← k8]; exact hst
  · show a1 < N1 53
    omega
  · exact ⟨(k10 a1 hq).1.trans hp, (k10 a1 hq).2.1.trans hh⟩
  · rw [n15]; exact ⟨hfs.1, by omega⟩
  · intro j j1 j2
    rw [n15] at j2
    rw [e13]
    show _ < N1 14
    by_cases e : j = N 15
    · rw [e, va_up_self]; exact k2
    · rw [va_up_ne _ _ e]; have := hpl j j1 (by omega); omega
  · have es1 : sumW (fun j => sz1 (va_up G1 13 (va_up (G1 13) (N 15) r) 13 j)) fs (N 15 - fs) = sumW (fun j => sz (G 13 j)) fs (N 15 - fs) := sumW_congr _ (fun j j1 j2 => by
      show sz1 (va_up G1 13 (va_up (G1 13) (N 15) r) 13 j) = _
      rw [e13, va_up_ne _ _ (by omega)]
      exact k4 _ (hpl j j1 (by omega)))
    have es2 : sz1 (va_up G1 13 (va_up (G1 13) (N 15) r) 13 (fs + (N 15 - fs))) = SZM N0 G0 sz0 c h := by
      rw [show fs + (N 15 - fs) = N 15 by omega, e13, va_up_self]; exact k3
    have es3 : sumW (fun j => sz1 (va_up G1 13 (va_up (G1 13) (N 15) r) 13 j)) fs ((N 15 - fs) + 1) = sumW (fun j => sz1 (va_up G1 13 (va_up (G1 13) (N 15) r) 13 j)) fs (N 15 - fs) + sz1 (va_up G1 13 (va_up (G1 13) (N 15) r) 13 (fs + (N 15 - fs))) := rfl
    rw [n15, k8, show N 15 + 1 - fs = (N 15 - fs) + 1 by omega, es3, es1, es2]
    omega
  · have n14 : va_up N1 15 (N1 15 + 1) 14 = N1 14 := rfl
    have n20 : va_up N1 15 (N1 15 + 1) 20 = N1 20 := rfl
    have e9 : PEND N0 G0 sz0 (va_up G1 13 (va_up (G1 13) (N 15) r)) (a1 + 1) (va_up N1 15 (N1 15 + 1) 53) = PEND N0 G0 sz0 G1 (a1 + 1) (N1 53) := rfl
    rw [e9]
    unfold POT
    rw [n14, n15, n20]
    omega
theorem MKO.enter (h0 : FMS N0 G0 sz0) (ho : MKO N0 G0 sz0 E rin a1 N G sz) (hq : a1 < N 53) : MKP N0 G0 sz0 E rin a1 (G 50 a1) (G 51 a1) (N 15) (sumW (SZK N0 G0 sz0 (G 50 a1) (G 51 a1)) 0 (G0 12 (G 50 a1))) N G sz := by
  obtain ⟨hM, ha, hp⟩ := ho
  obtain ⟨p1, p2, p3⟩ := hM.2.2.1 a1 hq
  have hu := SZM_un h0.2.2.1 (f := G 50 a1) (h := G 51 a1) p1
  rw [if_neg (fun y => by omega)] at hu
  have he : PEND N0 G0 sz0 G a1 (N 53) = (SZM N0 G0 sz0 (G 50 a1) (G 51 a1) - 1) + PEND N0 G0 sz0 G (a1 + 1) (N 53) := sumW_step _ hq
  have g3 := hM.1.2.2.1
  refine ⟨hM, hq, ⟨rfl, rfl⟩, ⟨g3.2.1, Nat.le_refl _⟩, fun j j1 j2 => by omega, ?_, ?_⟩
  · rw [Nat.sub_self, sumW]; omega
  · unfold POT at hp ⊢
    omega
theorem MKP.fin (hP : MKP N0 G0 sz0 E rin a1 p h fs 0 N G sz) : MKO N0 G0 sz0 E rin (a1 + 1) N (va_up (va_up G 11 (va_up (G 11) (G 52 a1) fs)) 12 (va_up (G 12) (G 52 a1) (N 15 - fs))) sz := by
  obtain ⟨hM, hq, ⟨hp, hh⟩, hfs, hpl, hsum, hpot⟩ := hP
  obtain ⟨⟨g1, g2, g3, g4, g5, g6⟩, ⟨f1, f2, f3, f4, f5⟩, m1, m2, m3, m4, m5, m6, m7⟩ := hM
  obtain ⟨w1, w2, w3, w4, w5⟩ := m2 a1 (Nat.le_refl _) hq
  generalize hm : G 52 a1 = m at w1 w2 w3 w4 w5 ⊢
  generalize hG3 : va_up (va_up G 11 (va_up (G 11) m fs)) 12 (va_up (G 12) m (N 15 - fs)) = G3
  have k10 : G3 10 = G 10 := by rw [← hG3]; rfl
  have k13 : G3 13 = G 13 := by rw [← hG3]; rfl
  have k18 : G3 18 = G 18 := by rw [← hG3]; rfl
  have k19 : G3 19 = G 19 := by rw [← hG3]; rfl
  have k50 : G3 50 = G 50 := by rw [← hG3]; rfl
  have k51 : G3 51 = G 51 := by rw [← hG3]; rfl
  have k52 : G3 52 = G 52 := by rw [← hG3]; rfl
  have k11 : G3 11 = va_up (G 11) m fs := by rw [← hG3]; rfl
  have k12 : G3 12 = va_up (G 12) m (N 15 - fs) := by rw [← hG3]; rfl
  have hne : ∀ f, f ≠ m → G3 11 f = G 11 f ∧ G3 12 f = G 12 f := fun f e => by rw [k11, k12, va_up_ne _ _ e, va_up_ne _ _ e]; exact ⟨rfl, rfl⟩
  have hch : ∀ f, f ≠ m → ∀ k, CH G3 f k = CH G f k := fun f e k => by
    show G3 13 (G3 11 f + k) = _
    rw [k13, (hne f e).1]
  have em11 : G3 11 m = fs := by rw [k11, va_up_self]
  have em12 : G3 12 m = N 15 - fs := by rw [k12, va_up_self]
  have b15 := f5.1
  have hmsum : sz m = 1 + sumC sz (CH G3 m) (G3 12 m) := by
    rw [em12, ← sumW_sumC]
    have e1 : sumW (fun k => sz (CH G3 m k)) 0 (N 15 - fs) = sumW (fun j => sz (G 13 j)) fs (N 15 - fs) := by
      have key : ∀ n, sumW (fun k => sz (CH G3 m k)) 0 n = sumW (fun j => sz (G 13 j)) fs n := by
        intro n
        induction n with
        | zero => rfl
        | succ n ih =>
          rw [sumW, sumW, ih, Nat.zero_add]
          show _ + sz (G3 13 (G3 11 m + n)) = _
          rw [k13, em11]
      exact key _
    rw [e1, w5, hp, hh]
    omega
  refine ⟨⟨⟨g1, fun k hk => ?_, g3, fun f hf => ?_, fun j hj => by rw [k13]; exact g5 j hj, fun a ha => by rw [k18, k19]; exact g6 a ha⟩, ⟨?_, ?_, ⟨f3.1, fun f hf => ?_⟩, fun f hf => by rw [k10]; exact f4 f hf, ⟨b15, fun f hf h2 => ?_⟩⟩, fun i hi => by rw [k50, k51]; exact m1 i hi, fun i h1 h2 => ?_, fun i j h1 h2 h3 => by rw [k52]; exact m3 i j (by omega) h2 h3, fun f hf => ?_, m5, m6, fun a h1 h2 => by rw [k19]; exact m7 a h1 h2⟩, hq, ?_⟩
  · rw [← hG3, va_up_ne _ _ (by omega), va_up_ne _ _ (by omega)]; exact g2 k hk
  · have e : f ≠ m := by omega
    rw [k10, (hne f e).1, (hne f e).2]; exact g4 f hf
  · rw [← hG3]; exact hGup (hGup f1 (hIup (f1 11) (by omega))) (hIup (f1 12) (by omega))
  · refine ⟨f2.1, f2.2.1, fun a ha => by rw [k18]; exact f2.2.2 a ha⟩
  · by_cases e : f = m
    · rw [e]
      refine ⟨by omega, (f3.2 m w2).2.1, fun k hk => ?_, fun z => ?_, fun z => ?_⟩
      · rw [em12] at hk
        show G3 11 m + k < 90000 ∧ G3 13 (G3 11 m + k) < N 14
        rw [em11, k13]
        exact ⟨by omega, hpl _ (by omega) (by omega)⟩
      · rw [k10] at z; omega
      · rw [k10] at z; omega
    · obtain ⟨y1, y2, y3, y4, y5⟩ := f3.2 f hf
      obtain ⟨z1, z2⟩ := hne f e
      refine ⟨?_, y2, fun k hk => ?_, fun z => ?_, fun z => ?_⟩
      · rw [MKW.keep f3 (fun _ _ => rfl) hf z2 (fun k _ => hch f e k)]; exact y1
      · rw [z2] at hk; rw [hch f e, z1]; exact y3 k hk
      · rw [z1]; rw [k10] at z; exact y4 z
      · rw [z2]; rw [k10] at z; exact y5 z
  · by_cases e : f = m
    · rw [e, em11, em12]; omega
    · rw [(hne f e).1, (hne f e).2]; rw [k10] at h2; exact f5.2 f hf h2
  · have e : G 52 i ≠ m := by have := m3 a1 i (Nat.le_refl _) (by omega) h2; omega
    rw [k52, k50, k51, k10, (hne _ e).2]
    exact m2 i (by omega) h2
  · by_cases e : f = m
    · exact Or.inr (by rw [e]; exact hmsum)
    · rcases m4 f hf with ⟨i, i1, i2, i3⟩ | y
      · have : i ≠ a1 := fun z => by rw [z, hm] at i3; exact e i3.symm
        exact Or.inl ⟨i, by omega, i2, by rw [k52]; exact i3⟩
      · refine Or.inr ?_
        rw [MKW.keep f3 (fun _ _ => rfl) hf (hne f e).2 (fun k _ => hch f e k)]; exact y
  · have e9 : PEND N0 G0 sz0 G3 (a1 + 1) (N 53) = PEND N0 G0 sz0 G (a1 + 1) (N 53) := by
      unfold PEND
      rw [k50, k51]
    rw [e9]
    exact hpot
/-- before the first form is made -/
theorem MKW.start (h0 : FMS N0 G0 sz0) (hq0 : TREQ N0 G0 sz0) : MKW N0 G0 sz0 E rin 0 (va_up N0 53 0) G0 sz0 := by
  obtain ⟨f1, f2, f3, f4, f5⟩ := h0
  refine ⟨⟨fun k _ _ _ k4 => va_up_ne _ _ k4, fun _ _ => rfl, ⟨Nat.le_refl _, Nat.le_refl _, Nat.le_refl _⟩, fun _ _ => ⟨rfl, rfl, rfl, rfl⟩, fun _ _ => rfl, fun _ _ => ⟨rfl, rfl⟩⟩, ⟨f1, f2, f3, f4, f5⟩, fun i hi => absurd hi (Nat.not_lt_zero i), fun i _ hi => absurd hi (Nat.not_lt_zero i), fun i j _ _ hj => absurd hj (Nat.not_lt_zero j), fun f hf => Or.inr (hq0 f hf), Nat.le_of_eq (Nat.zero_add _), fun f y1 y2 => ?_, fun a y1 y2 => ?_⟩
  · have y2 : f < N0 14 := y2
    omega
  · have y2 : a < N0 20 := y2
    omega
theorem MKO.first (h0 : FMS N0 G0 sz0) (hq0 : TREQ N0 G0 sz0) (hk9 : KEPT N0 G0) (hRE : ∀ x, (0 < VAR N0 G0 x ∧ 0 < G0 48 (VAR N0 G0 x - 1)) ↔ 0 < E x) (hb : BGX (va_up N0 53 0) G0 c 0 rin N1 G1 r) (hc : c < N0 14) (hg : GOOD N0 G0 sz0 E c 0)
    (b14 : N0 14 ≤ 80000) (b20 : N0 20 ≤ 64000) (hT : SZM N0 G0 sz0 c 0 ≤ 600) : ∃ sz1, MKO N0 G0 sz0 E rin 0 N1 G1 sz1 ∧ r < N1 14 ∧ sz1 r = SZM N0 G0 sz0 c 0 := by
  obtain ⟨sz1, k1, k2, k3, k4, k5, k6, k7, k8, k9, k10, k11, k12⟩ := MKW.beg h0 hq0 hk9 hRE (MKW.start (E := E) (rin := rin) h0 hq0) hb hc hg (Nat.zero_le _) b14 (by show N0 20 < _; omega) (by show N0 14 + _ ≤ _; omega)
  have q1 := k12 0 (Nat.zero_le _)
  have e0 : PEND N0 G0 sz0 G0 0 (va_up N0 53 0 53) = 0 := rfl
  rw [e0] at q1
  have k6 : N1 14 ≤ N0 14 + 1 := k6
  have k7 : N1 20 ≤ N0 20 + 1 := k7
  have k8 : N1 15 = N0 15 := k8
  refine ⟨sz1, ⟨k1, Nat.zero_le _, ?_⟩, k2, k3⟩
  unfold POT
  omega
theorem MKO.done (ho : MKO N0 G0 sz0 E rin a1 N G sz) (hx : N 53 ≤ a1) : GROW N0 G0 sz0 N G sz ∧ FMS N G sz ∧ TREQ N G sz ∧ (∀ f, N0 14 ≤ f → f < N 14 → sz f ≤ 600) ∧ (∀ a, N0 20 ≤ a → a < N 20 → G 19 a = rin) ∧ N 14 ≤ N0 14 + 600 ∧ N 15 ≤ N0 15 + 600 ∧ N 20 ≤ N0 20 + 600 ∧ N 53 ≤ 600 := by
  obtain ⟨⟨a, b, m1, m2, m3, m4, m5, m6, m7⟩, h1, h2⟩ := ho
  unfold POT at h2
  refine ⟨a, b, fun f hf => (m4 f hf).elim (fun ⟨i, i1, i2, _⟩ => by omega) id, m6, m7, by omega, by omega, by omega, by omega⟩
theorem MKW.hyps (h0 : FMS N0 G0 sz0) (hk9 : KEPT N0 G0) (hRE : ∀ x, (0 < VAR N0 G0 x ∧ 0 < G0 48 (VAR N0 G0 x - 1)) ↔ 0 < E x) (hM : MKW N0 G0 sz0 E rin a1 N G sz) (hc : c < N0 14) (hg : GOOD N0 G0 sz0 E c h) :
    c < 90000 ∧ G 10 c ≤ 2 ∧ h ≤ 3001 ∧ N 49 ≤ 1600 ∧ (G 10 c = 1 → 0 < VAR N G (G 11 c) → VAR N G (G 11 c) - 1 < 1600 ∧ MTX G (VAR N G (G 11 c) - 1) h < 90000) := by
  obtain ⟨hgr, hfm, -⟩ := hM
  obtain ⟨e1, e2, e3, e4⟩ := hgr.2.2.2.1 c hc
  have b := h0.2.2.1.1
  refine ⟨by omega, by rw [e1]; exact h0.2.2.2.1 c hc, hg.1, by rw [hgr.1 49 (by decide) (by decide) (by decide) (by decide)]; exact hk9.1, fun h1 h2 => ?_⟩
  rw [hgr.var, e2] at h2 ⊢
  rw [e1] at h1
  have z := GOOD.var h0.2.2.1 hk9 hRE hg hc h1 h2
  unfold MTX at z ⊢
  rw [hgr.2.1 55 (by omega), hgr.2.1 48 (by omega)]
  exact ⟨z.1, z.2.1⟩
theorem MKW.i54 {I : Nat → Nat} (hI : ∀ i, I i < 1048576) (hM : MKW N0 G0 sz0 E rin a1 N G sz) : MKW N0 G0 sz0 E rin a1 N (va_up G 54 I) sz := by
  obtain ⟨⟨g1, g2, g3, g4, g5, g6⟩, ⟨f1, f2, f3, f4, f5⟩, m1, m2, m3, m4, m5, m6, m7⟩ := hM
  exact ⟨⟨g1, fun k hk => (va_up_ne _ _ (by omega)).trans (g2 k hk), g3, g4, g5, g6⟩, ⟨hGup f1 hI, f2, f3, f4, f5⟩, m1, m2, m3, m4, m5, m6, m7⟩
theorem MKP.i54 {I : Nat → Nat} (hI : ∀ i, I i < 1048576) (hP : MKP N0 G0 sz0 E rin a1 p h fs rest N G sz) : MKP N0 G0 sz0 E rin a1 p h fs rest N (va_up G 54 I) sz := by
  obtain ⟨hM, a, b, c, d, e, f⟩ := hP
  exact ⟨hM.i54 hI, a, b, c, d, e, f⟩
theorem MKP.num (hP : MKP N0 G0 sz0 E rin a1 p h fs rest N G sz) (b14 : N0 14 ≤ 80000) (b15 : N0 15 ≤ 80000) (b20 : N0 20 ≤ 64000) : p < N0 14 ∧ G0 10 p = 2 ∧ GOOD N0 G0 sz0 E p h ∧ N 14 + rest ≤ 80600 ∧ N 15 + rest ≤ 80600 ∧ N 20 + rest ≤ 64600 ∧ N 53 ≤ 600 ∧ p < N 14 ∧ a1 < N 53 ∧ fs ≤ N 15 ∧ G 52 a1 < N 14 := by
  obtain ⟨hM, a, ⟨b1, b2⟩, c, d, e, f⟩ := hP
  obtain ⟨hgr, hfm, m1, m2, m3, m4, m5, m6, m7⟩ := hM
  have z := m1 a1 a
  rw [b1, b2] at z
  have y := hgr.2.2.1
  unfold POT at f
  exact ⟨z.1, z.2.1, z.2.2, by omega, by omega, by omega, by omega, by omega, a, c.2, (m2 a1 (Nat.le_refl _) a).2.1⟩
theorem MKO.num (ho : MKO N0 G0 sz0 E rin a1 N G sz) (b14 : N0 14 ≤ 80000) (b15 : N0 15 ≤ 80000) : a1 ≤ N 53 ∧ N 53 ≤ 600 ∧ N 15 ≤ 80600 ∧ N 14 ≤ 80600 ∧ ∀ i, i < N 53 → G 50 i < N 14 := by
  obtain ⟨⟨hgr, hfm, m1, m2, m3, m4, m5, m6, m7⟩, a, f⟩ := ho
  have y := hgr.2.2.1
  unfold POT at f
  exact ⟨a, by omega, by omega, by omega, fun i hi => by have := (m1 i hi).1; omega⟩
end MKt
