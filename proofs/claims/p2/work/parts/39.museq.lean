
section CO
variable {N N1 : Nat → Nat} {G G1 : Nat → Nat → Nat} {sz : Nat → Nat}
theorem opn_core (h : CORE G1 G) {p fr : Nat} : OPN G1 p fr ↔ OPN G p fr := by
  unfold OPN
  rw [h.2.2.1, ell_core h]
theorem fx_core (h : CORE G1 G) {p fr : Nat} : FX G1 p fr = FX G p fr := by
  unfold FX
  exact ite_iff (opn_core h) (fun _ => by rw [h.2.2.1]) (fun _ => by rw [h.2.2.1])
theorem fit_core (h : CORE G1 G) {p f fr : Nat} : FIT G1 p f fr ↔ FIT G p f fr := by
  unfold FIT
  rw [fx_core h, h.2.2.1, opn_core h]
theorem ch_core (h : CORE G1 G) {f k : Nat} : CH G1 f k = CH G f k := by
  show G1 13 (G1 11 f + k) = _
  rw [h.2.1, h.2.2.2.1]
theorem MATf_core (h : CORE G1 G) : ∀ d p f fr, MATf G1 d p f fr ↔ MATf G d p f fr := by
  intro d
  induction d with
  | zero => intro p f fr; exact Iff.rfl
  | succ d ih =>
    intro p f fr
    unfold MATf
    rw [h.1, h.2.2.1, fit_core h]
    simp only [ch_core h, fx_core h, ih]
theorem OCC_core (h : CORE G1 G) : ∀ d f x, OCC G1 d f x ↔ OCC G d f x := by
  intro d f x
  unfold OCC
  rw [h.1, h.2.1, h.2.2.1, h.2.2.2.1]
theorem TRN_core (h : CORE G1 G) (hN : N1 49 = N 49) (h47 : G1 47 = G 47) (h48 : G1 48 = G 48) (h56 : G1 56 = G 56) {f : Nat} : TRN N1 G1 sz f = TRN N G sz f := by
  rw [TRN_q, TRN_q]
  refine congrArg TRNq (funext (fun n => ?_))
  have eo : ∀ x, OC G1 sz f x = OC G sz f x := fun x => propext (OCC_core h _ _ _)
  unfold VAR
  rw [hN, h47, h48, h56]
  simp only [eo]
theorem TK_core (h : CORE G1 G) (hN : N1 49 = N 49) (h47 : G1 47 = G 47) (h48 : G1 48 = G 48) (h56 : G1 56 = G 56) {f k : Nat} : TK N1 G1 sz f k = TK N G sz f k := by
  unfold TK
  exact ite_iff (ell_core h) (fun _ => rfl) (fun _ => ite_iff (ell_core h) (fun _ => by rw [ch_core h, TRN_core h hN h47 h48 h56]) (fun _ => rfl))
theorem HK_core (h : CORE G1 G) {f h9 k i : Nat} : HK G1 f h9 k i = HK G f h9 k i := ite_iff (ell_core h) (fun _ => rfl) (fun _ => rfl)
theorem SZMf_core (h : CORE G1 G) (hN : N1 49 = N 49) (h47 : G1 47 = G 47) (h48 : G1 48 = G 48) (h55 : G1 55 = G 55) (h56 : G1 56 = G 56) (h57 : G1 57 = G 57) : ∀ d f h9, SZMf N1 G1 sz d f h9 = SZMf N G sz d f h9 := by
  intro d
  induction d with
  | zero => intro f h9; rfl
  | succ d ih =>
    intro f h9
    unfold SZMf
    congr 1
    · unfold VAR MTX
      rw [h.1, h.2.1, hN, h47, h48, h55, h57]
    · rw [h.2.2.1]
      refine sumW_congr _ (fun k _ _ => ?_)
      show sumW _ 0 (TK N1 G1 sz f k) = _
      rw [TK_core h hN h47 h48 h56]
      refine sumW_congr _ (fun i _ _ => ?_)
      show SZMf N1 G1 sz d (CH G1 f k) (HK G1 f h9 k i) = _
      rw [ih, ch_core h, HK_core h]
end CO
section XG
variable {N0 N : Nat → Nat} {G0 G : Nat → Nat → Nat} {sz0 sz az0 : Nat → Nat}
theorem XI.uses (h : XI N G sz az0) (hu : N 35 < 100) : XI (va_up N 35 (N 35 + 1)) G sz az0 := by
  obtain ⟨a, b, c, d, e, f, g1, g2, g3⟩ := h
  obtain ⟨f1, f2, f3, f4, f5, f6, f7, f8, f9, f10, f11⟩ := f
  have n35 : va_up N 35 (N 35 + 1) 35 = N 35 + 1 := va_up_self _ _ _
  refine ⟨a, b, c, d, e, ⟨f1, f2, f3, f4, f5, f6, ?_, ?_, ?_, ?_, f11⟩, g1, g2, g3⟩
  · rw [n35]; omega
  · rw [n35]; show N 14 ≤ _; omega
  · rw [n35]; show N 15 ≤ _; omega
  · rw [n35]; show N 20 ≤ _; omega
theorem GROW.sim (h : GROW N0 G0 sz0 N G sz) (h0 : FMS N0 G0 sz0) (h1 : FMS N G sz) : ∀ d f, f < N0 14 → SIMf G0 G d f f := by
  intro d
  induction d with
  | zero => intro f _; trivial
  | succ d ih =>
    intro f hf
    obtain ⟨e1, e2, e3, e4⟩ := h.2.2.2.1 f hf
    refine ⟨e1, e3, fun _ => e2, fun z => h.root h0.2.1 h1.2.1 _ _ (Nat.lt_succ_self _) ((h0.2.2.1.2 f hf).2.2.2.1 z), fun k hk => ?_⟩
    rw [h.ch h0 hf hk]
    exact ih _ (h0.2.2.1.pt hf hk).2.1
theorem GROW.rules (h : GROW N0 G0 sz0 N G sz) (h0 : FMS N0 G0 sz0) (h1 : FMS N G sz) (hq0 : TREQ N0 G0 sz0) (hq : TREQ N G sz) {r : Nat} (hr : r < N0 14) (ho : RULESOK G0 sz0 r) : RULESOK G sz r :=
  RULESOK.sim h0.2.2.1 h1.2.2.1 hq0 hq hr (Nat.lt_of_lt_of_le hr h.2.2.1.1) (fun d => h.sim h0 h1 d r hr) ho
theorem XI.grow (hx : XI N0 G0 sz0 az0) (h : GROW N0 G0 sz0 N G sz) (h1 : FMS N G sz) (hq : TREQ N G sz) {rin : Nat} (hrin : rin < N0 23) (h600 : ∀ f, N0 14 ≤ f → f < N 14 → sz f ≤ 600) (hal : ∀ a, N0 20 ≤ a → a < N 20 → G 19 a = rin)
    (b14 : N 14 ≤ 8000 + 600 * N0 35) (b15 : N 15 ≤ 8000 + 600 * N0 35) (b20 : N 20 ≤ 600 * N0 35) (b53 : N 53 ≤ 90000) : ∃ az, XI N G sz az := by
  obtain ⟨h0, hq0, ⟨hat, haz⟩, hev, he, hn, m1, m2, hs⟩ := hx
  have hR := fun {r : Nat} => GROW.rules (r := r) h h0 h1 hq0 hq
  have hch := fun {f k : Nat} => GROW.ch (f := f) (k := k) h h0
  obtain ⟨g1, g2, g3, g4, g5, g6⟩ := h
  have kn : ∀ k, k ≠ 14 → k ≠ 15 → k ≠ 20 → k ≠ 53 → N k = N0 k := g1
  have n23 := kn 23 (by decide) (by decide) (by decide) (by decide)
  have n27 := kn 27 (by decide) (by decide) (by decide) (by decide)
  have n36 := kn 36 (by decide) (by decide) (by decide) (by decide)
  have n34 := kn 34 (by decide) (by decide) (by decide) (by decide)
  have n35 := kn 35 (by decide) (by decide) (by decide) (by decide)
  have n33 := kn 33 (by decide) (by decide) (by decide) (by decide)
  have n49 := kn 49 (by decide) (by decide) (by decide) (by decide)
  have n6 := kn 6 (by decide) (by decide) (by decide) (by decide)
  have n16 := kn 16 (by decide) (by decide) (by decide) (by decide)
  have n17 := kn 17 (by decide) (by decide) (by decide) (by decide)
  have k21 := g2 21 (by omega)
  have k22 := g2 22 (by omega)
  have k25 := g2 25 (by omega)
  have k26 := g2 26 (by omega)
  have k5 := g2 5 (by omega)
  have k7 := g2 7 (by omega)
  have k8 := g2 8 (by omega)
  have le14 := g3.1
  obtain ⟨q1, q2, q3, q4, q5, q6⟩ := hs
  refine ⟨fun f => if f < N0 14 then az0 f else sz f, h1, hq, ⟨fun f hf => ?_, fun f hf => ?_⟩, ⟨?_, ?_, ?_, ?_, ?_, fun a ha => ?_⟩, ?_, ?_, ?_, ?_, ?_, ?_, ?_, ?_, fun f hf => ?_, ?_⟩
  · by_cases c : f < N0 14
    · obtain ⟨e1, e2, e3, e4⟩ := g4 f c
      have z := hat f c
      simp only [if_pos c]
      rw [e1, e3]
      refine ⟨?_, z.2⟩
      rw [sumC_congr (s' := az0) (c' := CH G0 f) (G0 12 f) (fun k hk => by
        rw [hch c hk, if_pos (h0.2.2.1.pt c hk).2.1])]
      exact z.1
    · simp only [if_neg c]
      have z := hq f hf
      have y := h600 f (by omega) hf
      refine ⟨?_, by omega⟩
      have key : ∀ n, n ≤ G 12 f → sumC (fun f => if f < N0 14 then az0 f else sz f) (CH G f) n ≤ sumC sz (CH G f) n := by
        intro n
        induction n with
        | zero => intro _; exact Nat.le_refl _
        | succ n ih =>
          intro hn
          rw [sumC, sumC]
          have i1 := ih (by omega)
          have i2 : (if CH G f n < N0 14 then az0 (CH G f n) else sz (CH G f n)) ≤ sz (CH G f n) := by
            by_cases d : CH G f n < N0 14
            · rw [if_pos d, (g4 _ d).2.2.2]; exact haz _ d
            · rw [if_neg d]; exact Nat.le_refl _
          omega
      have k1 := key _ (Nat.le_refl _)
      have k2 : (if G 10 f = 2 then 0 else 1) ≤ 1 := by
        by_cases d : G 10 f = 2
        · rw [if_pos d]; omega
        · rw [if_neg d]; exact Nat.le_refl _
      omega
  · by_cases c : f < N0 14
    · simp only [if_pos c]; rw [(g4 f c).2.2.2]; exact haz f c
    · simp only [if_neg c]; exact Nat.le_refl _
  · rw [n23]; exact hev.1
  · rw [n23]; exact hev.2.1
  · rw [n27]; exact hev.2.2.1
  · rw [n23, k21]; exact hev.2.2.2.1
  · rw [n23, n27, k22]; exact hev.2.2.2.2.1
  · rw [n23]
    by_cases c : a < N0 20
    · rw [(g6 a c).2]; exact hev.2.2.2.2.2 a c
    · rw [hal a (by omega) ha]; exact hrin
  · rw [k22, n23, n27, n6, k5]; exact he
  · rw [n49, n36, n23, n27, n34, n35, n33]
    exact ⟨hn.1, b53, hn.2.2.1, hn.2.2.2.1, hn.2.2.2.2.1, hn.2.2.2.2.2.1, hn.2.2.2.2.2.2.1, b14, b15, b20, hn.2.2.2.2.2.2.2.2.2.2⟩
  · rw [n33, n27, k25, k26]
    exact fun z b hb y => ⟨(m1 z b hb y).1, Nat.lt_of_lt_of_le (m1 z b hb y).2.1 le14, hR (m1 z b hb y).2.1 (m1 z b hb y).2.2⟩
  · rw [k7]
    exact fun s hs y => ⟨Nat.lt_of_lt_of_le (m2 s hs y).1 le14, hR (m2 s hs y).1 (m2 s hs y).2⟩
  · rw [n16]; omega
  · rw [n17]; have := g3.2.1; omega
  · rw [n16]; exact q3
  · rw [n17]; exact q4
  · rw [n16] at hf ⊢
    have c : f < N0 14 := by omega
    obtain ⟨e1, e2, e3, e4⟩ := g4 f c
    obtain ⟨y1, y2, y3⟩ := q5 f hf
    rw [e1, e2, e3, n17, n6]
    exact ⟨fun k hk => by rw [hch c hk]; exact y1 k hk, y2, y3⟩
  · rw [k8, n16]
    exact fun s hs y => ⟨(q6 s hs y).1, hR (Nat.lt_of_lt_of_le (q6 s hs y).1 q1) (q6 s hs y).2⟩
end XG
section XH
variable {N0 N N1 N2 : Nat → Nat} {G0 G G1 G2 g : Nat → Nat → Nat} {B0 B B1 B2 : Nat → Nat → Int32} {sz sz1 az : Nat → Nat} {w s x vc q : Nat}
theorem XPOST.trans (h : XT N G B sz N1 G1 B1 sz1) (h' : XPOST N1 G1 B1 sz1 x N2 G2 B2) : XPOST N G B sz x N2 G2 B2 := by
  obtain ⟨sz2, az2, w2, a, b, c, d, e⟩ := h'
  exact ⟨sz2, az2, w2, a, b, c, h.trans d, e⟩
theorem RUN.scr (h : RUN N0 G0 B0 sz N G B az w s) (hg : ∀ k i, g k i < 1048576) (hv : vc ≤ 1600) (hq : q ≤ 90000) : RUN N0 G0 B0 sz (SCN N vc q) (SCG G g) B az w s := by
  obtain ⟨h1, h2, h3, h4, h5, h6⟩ := h
  have kn : ∀ k, k ≠ 49 → k ≠ 53 → SCN N vc q k = N k := fun k a b => by rw [SCN, va_up_ne _ _ b, va_up_ne _ _ a]
  have kg : ∀ k, ¬ (47 ≤ k ∧ k ≤ 57) → SCG G g k = G k := fun k hk => if_neg hk
  refine ⟨h1.congr (SCG_bd h1.1.1 hg) (fun k hk => kn k (by omega) (by omega)) hv hq (fun k hk => kg k (by omega)), h2.congr (kn 32 (by decide) (by decide)) (kn 14 (by decide) (by decide)) (kn 23 (by decide) (by decide)) (fun k k1 k2 => kg k (by omega)), ⟨fun k hk => (kn k (by omega) (by omega)).trans (h3.1 k hk), fun k hk => (kg k (by omega)).trans (h3.2.1 k hk), h3.2.2⟩, h4, h5, h6⟩
theorem TSK.grow (h : TSK N G sz w) (h32 : N1 32 = N 32) (h14 : N 14 ≤ N1 14) (h23 : N1 23 = N 23) (hg : ∀ k, 28 ≤ k → k ≤ 31 → G1 k = G k) (hs : ∀ f, f < N 14 → sz1 f = sz f) : TSK N1 G1 sz1 w := by
  obtain ⟨a, b⟩ := h
  have k28 := hg 28 (by omega) (by omega)
  have k29 := hg 29 (by omega) (by omega)
  have k30 := hg 30 (by omega) (by omega)
  have k31 := hg 31 (by omega) (by omega)
  refine ⟨fun i hi => ?_, ?_⟩
  · rw [h32] at hi
    obtain ⟨x1, x2, x3⟩ := a i hi
    rw [k28, k29, k30, k31, h23]
    exact ⟨x1, fun z => Nat.lt_of_lt_of_le (x2 z) h14, x3⟩
  · rw [h32, sumW_congr (h := WT G sz) (N 32) (fun i _ hi => ?_)]
    · exact b
    · unfold WT
      rw [k28, k29]
      by_cases c : G 28 i = 2
      · rw [if_pos c, if_pos c]
      · rw [if_neg c, if_neg c, hs _ ((a i (by omega)).2.1 c)]
theorem GROW.xt (h : GROW N G sz N1 G1 sz1) : XT N G B sz N1 G1 B sz1 := by
  obtain ⟨g1, g2, g3, g4, g5, g6⟩ := h
  exact ⟨fun k hk => g1 k (by omega) (by omega) (by omega) (by omega), fun k hk => g2 k (by omega), fun _ _ => rfl, g3.1, fun f hf => (g4 f hf).2.2.2, g3.2.1, fun f hf => ⟨(g4 f hf).1, (g4 f hf).2.1, (g4 f hf).2.2.1⟩, g5⟩
theorem GROW.tsk (h : GROW N G sz N1 G1 sz1) (ht : TSK N G sz w) : TSK N1 G1 sz1 w := by
  obtain ⟨g1, g2, g3, g4, g5, g6⟩ := h
  exact ht.grow (g1 32 (by decide) (by decide) (by decide) (by decide)) g3.1 (g1 23 (by decide) (by decide) (by decide) (by decide)) (fun k a b => g2 k (by omega)) (fun f hf => (g4 f hf).2.2.2)
end XH
