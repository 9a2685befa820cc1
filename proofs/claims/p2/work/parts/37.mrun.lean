
/-- what a task leaves -/
def XPOST (N : Nat → Nat) (G : Nat → Nat → Nat) (B : Nat → Nat → Int32) (sz : Nat → Nat) (x : Nat) (N1 : Nat → Nat) (G1 : Nat → Nat → Nat) (B1 : Nat → Nat → Int32) : Prop :=
  ∃ sz1 az1 w1, XI N1 G1 sz1 az1 ∧ TSK N1 G1 sz1 w1 ∧ BUD N1 w1 x ∧ XT N G B sz N1 G1 B1 sz1 ∧ (N1 33 = 0 → PHI N1 w1 < x)
/-- in the middle of a task: w waits, s was told -/
def RUN (N0 : Nat → Nat) (G0 : Nat → Nat → Nat) (B0 : Nat → Nat → Int32) (sz : Nat → Nat) (N : Nat → Nat) (G : Nat → Nat → Nat) (B : Nat → Nat → Int32) (az : Nat → Nat) (w s : Nat) : Prop :=
  XI N G sz az ∧ TSK N G sz w ∧ XT N0 G0 B0 sz N G B sz ∧ N 38 ≤ N0 38 + s ∧ N 35 = N0 35 ∧ N 33 = 0 ∧ CORE G G0 ∧ N 14 = N0 14 ∧ N0 23 ≤ N 23
section RUNs
variable {N0 N N1 : Nat → Nat} {G0 G G1 : Nat → Nat → Nat} {B0 B B1 : Nat → Nat → Int32} {sz az : Nat → Nat} {w s x : Nat}
theorem RUN.start (h : XI N G sz az) (ht : TSK N G sz w) (h33 : N 33 = 0) : RUN N G B sz N G B az w 0 := ⟨h, ht, XT.refl, Nat.le_refl _, rfl, h33, ⟨rfl, rfl, rfl, rfl, rfl⟩, rfl, Nat.le_refl _⟩
theorem RUN.say (h : RUN N0 G0 B0 sz N G B az w s) (n : Nat) (X : Nat → Int32) {t : Nat} (ht : s + n ≤ t) : RUN N0 G0 B0 sz (va_up N 38 (N 38 + n)) G (va_up B 37 X) az w t := by
  obtain ⟨a, b, c, d, e, f⟩ := h
  refine ⟨a, b, ⟨fun k hk => (va_up_ne _ _ (by omega)).trans (c.1 k hk), c.2.1, fun k hk => (va_up_ne _ _ hk).trans (c.2.2.1 k hk), c.2.2.2.1, c.2.2.2.2⟩, ?_, e, f⟩
  rw [va_up_self]; omega
theorem RUN.task (h : RUN N0 G0 B0 sz N G B az w s) {a b c d : Nat} (ha : a ≤ 2) (hb : a ≠ 2 → b < N 14) (hc : a = 0 → c < N 23 ∧ d ≤ 101) (hb9 : b < 1048576) (hc9 : c < 1048576) (hd9 : d < 1048576) {v : Nat} (hv : w + (if a = 2 then 1 else 3 * sz b - 1) ≤ v) : RUN N0 G0 B0 sz (va_up N 32 (N 32 + 1)) (TG G (N 32) a b c d) B az v s := by
  obtain ⟨h1, h2, h3, h4, h5, h6⟩ := h
  have f := h1.2.2.2.2.2.1
  refine ⟨h1.congr (TG_bd h1.1.1 (by omega) hb9 hc9 hd9) (fun k hk => va_up_ne _ _ (by omega)) f.1 f.2.1 (fun k hk => TG_ne (by omega)), h2.push ha hb hc hv, ⟨fun k hk => (va_up_ne _ _ (by omega)).trans (h3.1 k hk), fun k hk => (TG_ne (by omega)).trans (h3.2.1 k hk), h3.2.2⟩, h4, h5, h6⟩
theorem RUN.parts (h : RUN N0 G0 B0 sz N G B az w s) {q v : Nat} (hG : ∀ k i, G1 k i < 1048576) (hg : ∀ k, ¬ (28 ≤ k ∧ k ≤ 31) → G1 k = G k) (ht : TSK (va_up N 32 q) G1 sz v) : RUN N0 G0 B0 sz (va_up N 32 q) G1 B az v s := by
  obtain ⟨h1, h2, h3, h4, h5, h6⟩ := h
  have f := h1.2.2.2.2.2.1
  refine ⟨h1.congr hG (fun k hk => va_up_ne _ _ (by omega)) f.1 f.2.1 (fun k hk => hg k (by omega)), ht, ⟨fun k hk => (va_up_ne _ _ (by omega)).trans (h3.1 k hk), fun k hk => (hg k (by omega)).trans (h3.2.1 k hk), h3.2.2.1, h3.2.2.2.1, h3.2.2.2.2.1, h3.2.2.2.2.2.1, by rw [hg 10 (by omega), hg 11 (by omega), hg 12 (by omega)]; exact h3.2.2.2.2.2.2.1, by rw [hg 13 (by omega)]; exact h3.2.2.2.2.2.2.2⟩, h4, h5, h6.1, ⟨(hg 10 (by omega)).trans h6.2.1.1, (hg 11 (by omega)).trans h6.2.1.2.1, (hg 12 (by omega)).trans h6.2.1.2.2.1, (hg 13 (by omega)).trans h6.2.1.2.2.2.1, (hg 18 (by omega)).trans h6.2.1.2.2.2.2⟩, h6.2.2⟩
theorem RUN.post (h : RUN N0 G0 B0 sz N G B az w s) {W : Nat} (hb : BUD N0 W x) (hw : w + 1 ≤ W) (hs : s < 10000) : XPOST N0 G0 B0 sz x N G B := by
  obtain ⟨h1, h2, h3, h4, h5, h6⟩ := h
  unfold BUD PHI at hb
  refine ⟨sz, az, w, h1, h2, ?_, h3, fun _ => ?_⟩
  · unfold BUD PHI; rw [h5]; omega
  · unfold PHI; rw [h5]; omega
theorem XI.fault (h : XI N G sz az) {cd : Nat} (h0 : 0 < cd) (h1 : cd < 100) : XI (va_up N 33 cd) G sz az := by
  obtain ⟨a, b, c, d, e, f, g1, g2, g3⟩ := h
  obtain ⟨f1, f2, f3, f4, f5, f6, f7, f8, f9, f10, f11⟩ := f
  refine ⟨a, b, c, d, e, ⟨f1, f2, f3, f4, f5, f6, f7, f8, f9, f10, ?_⟩, fun z => ?_, g2, g3⟩
  · rw [va_up_self]; exact h1
  · rw [va_up_self] at z; omega
theorem RUN.fail (h : RUN N0 G0 B0 sz N G B az w s) {W : Nat} (hb : BUD N0 W x) (hw : w ≤ W) (hs : s = 0 ∨ (w + 1 ≤ W ∧ s ≤ 10000)) {cd : Nat} (hc0 : 0 < cd) (hc1 : cd < 100) : XPOST N0 G0 B0 sz x (va_up N 33 cd) G B := by
  obtain ⟨h1, h2, h3, h4, h5, h6⟩ := h
  refine ⟨sz, az, w, h1.fault hc0 hc1, h2, ?_, ⟨fun k hk => (va_up_ne _ _ (by omega)).trans (h3.1 k hk), h3.2⟩, fun z => ?_⟩
  · unfold BUD PHI at hb ⊢
    show w + 1800 * (100 - N 35) ≤ 190000 ∧ N 38 + 10000 * (w + 1800 * (100 - N 35)) ≤ x ∧ x ≤ 1950000000
    rw [h5]
    omega
  · rw [va_up_self] at z; omega
theorem RUN.num (h : RUN N0 G0 B0 sz N G B az w s) {W : Nat} (hb : BUD N0 W x) (hw : w ≤ W) (hs : s ≤ 10000) : N 32 ≤ 190000 ∧ N 38 + 5000 ≤ 2000000000 ∧ w ≤ 190000 := by
  obtain ⟨h1, h2, h3, h4, h5, h6⟩ := h
  have := h2.le h1.1.2.2.1
  unfold BUD PHI at hb
  omega
/-- one more binder -/
theorem XI.binder (h : XI N G sz az) (hb : N 36 < 250) : XI (va_up N 36 (N 36 + 1)) G sz az := by
  obtain ⟨a, b, c, d, e, f, g1, g2, g3⟩ := h
  obtain ⟨f1, f2, f3, f4, f5, f6, f7, f8, f9, f10, f11⟩ := f
  have n36 : va_up N 36 (N 36 + 1) 36 = N 36 + 1 := va_up_self _ _ _
  refine ⟨a, b, c, d, e, ⟨f1, f2, ?_, ?_, ?_, ?_, f7, f8, f9, f10, f11⟩, g1, g2, g3⟩
  · rw [n36]; omega
  · rw [n36]; show N 23 ≤ _; omega
  · rw [n36]; show N 27 ≤ _; omega
  · rw [n36]; show N 34 ≤ _; omega
/-- a new environment -/
abbrev EG (N : Nat → Nat) (G : Nat → Nat → Nat) (en : Nat) : Nat → Nat → Nat := va_up (va_up G 21 (va_up (G 21) (N 23) en)) 22 (va_up (G 22) (N 23 + 1) (N 27))
theorem XI.env (h : XI N G sz az) {en : Nat} (he : en < N 23) (hb : N 23 ≤ N 36) : XI (va_up N 23 (N 23 + 1)) (EG N G en) sz az := by
  obtain ⟨⟨a1, a2, a3, a4, a5⟩, b, c, d, e, f, g1, g2, g3⟩ := h
  obtain ⟨f1, f2, f3, f4, f5, f6, f7, f8, f9, f10, f11⟩ := f
  obtain ⟨d1, d2, d3, d4, d5, d6⟩ := d
  have n23 : va_up N 23 (N 23 + 1) 23 = N 23 + 1 := va_up_self _ _ _
  have k21 : EG N G en 21 = va_up (G 21) (N 23) en := rfl
  have hc : CORE (EG N G en) G := ⟨rfl, rfl, rfl, rfl, rfl⟩
  obtain ⟨q1, q2, q3, q4, q5, q6⟩ := g3
  have k22 : EG N G en 22 = va_up (G 22) (N 23 + 1) (N 27) := rfl
  refine ⟨⟨hGup (hGup a1 (hIup (a1 21) (by omega))) (hIup (a1 22) (by omega)), a2, a3, a4, a5⟩, b, c, ⟨?_, ?_, d3, fun i h1 h2 => ?_, fun i h0 h1 => ?_, fun a ha => ?_⟩, ⟨?_, ?_, e.2.2.1, e.2.2.2⟩, ⟨f1, f2, f3, ?_, f5, f6, f7, f8, f9, f10, f11⟩, fun z b hb y => ⟨(g1 z b hb y).1, (g1 z b hb y).2.1, (RULESOK_core hc).mpr (g1 z b hb y).2.2⟩, fun s hs y => ⟨(g2 s hs y).1, (RULESOK_core hc).mpr (g2 s hs y).2⟩, q1, q2, q3, q4, q5, fun s hs y => ⟨(q6 s hs y).1, (RULESOK_core hc).mpr (q6 s hs y).2⟩⟩
  · rw [n23]; omega
  · rw [n23]; omega
  · rw [n23] at h2
    rw [k21]
    by_cases z : i = N 23
    · rw [z, va_up_self]; exact he
    · rw [va_up_ne _ _ z]; exact d4 i h1 (by omega)
  · rw [n23] at h1
    rw [k22]
    show _ ≤ N 27
    by_cases z : i = N 23 + 1
    · rw [z, va_up_self]; exact Nat.le_refl _
    · rw [va_up_ne _ _ z]; exact d5 i h0 (by omega)
  · rw [n23]
    have := d6 a ha
    show G 19 a < _
    omega
  · rw [k22, va_up_ne _ _ (by omega)]; exact e.1
  · rw [n23, k22, va_up_self]; rfl
  · rw [n23]; show _ ≤ N 36 + 1; omega
/-- one more binding -/
abbrev BG (N : Nat → Nat) (G : Nat → Nat → Nat) (y vr ru : Nat) : Nat → Nat → Nat := va_up (va_up (va_up (va_up G 24 (va_up (G 24) (N 27) y)) 25 (va_up (G 25) (N 27) vr)) 26 (va_up (G 26) (N 27) ru)) 22 (va_up (G 22) (N 23) (N 27 + 1))
theorem XI.bind (h : XI N G sz az) {y vr ru : Nat} (h23 : 2 ≤ N 23) (h27 : N 27 + 1 ≤ 6 * N 36) (hy : y < 1048576) (hv : vr < 1048576) (hr : ru < 1048576) (hm : N 33 = 0 → vr = 0 → 0 < ru ∧ ru - 1 < N 14 ∧ RULESOK G sz (ru - 1)) : XI (va_up N 27 (N 27 + 1)) (BG N G y vr ru) sz az := by
  obtain ⟨⟨a1, a2, a3, a4, a5⟩, b, c, d, e, f, g1, g2, g3⟩ := h
  obtain ⟨f1, f2, f3, f4, f5, f6, f7, f8, f9, f10, f11⟩ := f
  obtain ⟨d1, d2, d3, d4, d5, d6⟩ := d
  obtain ⟨q1, q2, q3, q4, q5, q6⟩ := g3
  have n27 : va_up N 27 (N 27 + 1) 27 = N 27 + 1 := va_up_self _ _ _
  have k22 : BG N G y vr ru 22 = va_up (G 22) (N 23) (N 27 + 1) := rfl
  have k25 : BG N G y vr ru 25 = va_up (G 25) (N 27) vr := rfl
  have k26 : BG N G y vr ru 26 = va_up (G 26) (N 27) ru := rfl
  have hc : CORE (BG N G y vr ru) G := ⟨rfl, rfl, rfl, rfl, rfl⟩
  refine ⟨⟨hGup (hGup (hGup (hGup a1 (hIup (a1 24) hy)) (hIup (a1 25) hv)) (hIup (a1 26) hr)) (hIup (a1 22) (by omega)), a2, a3, a4, a5⟩, b, c, ⟨d1, d2, ?_, d4, fun i h0 h1 => ?_, d6⟩, ⟨?_, ?_, e.2.2.1, e.2.2.2⟩, ⟨f1, f2, f3, f4, ?_, f6, f7, f8, f9, f10, f11⟩, fun z i hi hz => ?_, fun s hs y => ⟨(g2 s hs y).1, (RULESOK_core hc).mpr (g2 s hs y).2⟩, q1, q2, q3, q4, q5, fun s hs y => ⟨(q6 s hs y).1, (RULESOK_core hc).mpr (q6 s hs y).2⟩⟩
  · rw [n27]; omega
  · rw [n27, k22]
    by_cases z : i = N 23
    · rw [z, va_up_self]; exact Nat.le_refl _
    · rw [va_up_ne _ _ z]; have := d5 i h0 h1; omega
  · rw [k22, va_up_ne _ _ (by omega)]; exact e.1
  · rw [n27, k22]; exact va_up_self _ _ _
  · rw [n27]; exact h27
  · rw [n27] at hi
    rw [k25] at hz
    rw [k26]
    show 0 < _ ∧ _ < N 14 ∧ _
    rw [RULESOK_core hc]
    by_cases j : i = N 27
    · rw [j, va_up_self] at hz
      rw [j, va_up_self]
      exact hm z hz
    · rw [va_up_ne _ _ j] at hz ⊢
      exact g1 z i (by omega) hz
/-- all macros of a text are known to be right: the mark that they may not be goes -/
theorem XI.unmark (h : XI (va_up N 33 1) G sz az) (h33 : N 33 = 0) (hm : ∀ b, b < N 27 → G 25 b = 0 → 0 < G 26 b ∧ G 26 b - 1 < N 14 ∧ RULESOK G sz (G 26 b - 1)) : XI N G sz az := by
  obtain ⟨a, b, c, d, e, f, g1, g2, g3⟩ := h
  obtain ⟨f1, f2, f3, f4, f5, f6, f7, f8, f9, f10, f11⟩ := f
  exact ⟨a, b, c, d, e, ⟨f1, f2, f3, f4, f5, f6, f7, f8, f9, f10, by omega⟩, fun _ => hm, g2, g3⟩
theorem XI.var (h : XI N G sz az) {v : Nat} (hv : v ≤ 6 * N 36) : XI (va_up N 34 v) G sz az := by
  obtain ⟨a, b, c, d, e, f, g1, g2, g3⟩ := h
  obtain ⟨f1, f2, f3, f4, f5, f6, f7, f8, f9, f10, f11⟩ := f
  refine ⟨a, b, c, d, e, ⟨f1, f2, f3, f4, f5, ?_, f7, f8, f9, f10, f11⟩, g1, g2, g3⟩
  rw [va_up_self]; exact hv
theorem TSK.more (h : TSK N G sz w) (h32 : N1 32 = N 32) (h14 : N 14 ≤ N1 14) (h23 : N 23 ≤ N1 23) (hg : ∀ k, 28 ≤ k → k ≤ 31 → G1 k = G k) : TSK N1 G1 sz w := by
  obtain ⟨a, b⟩ := h
  unfold TSK WT at *
  rw [h32, hg 28 (by omega) (by omega), hg 29 (by omega) (by omega), hg 30 (by omega) (by omega), hg 31 (by omega) (by omega)]
  refine ⟨fun i hi => ?_, b⟩
  obtain ⟨x1, x2, x3⟩ := a i hi
  exact ⟨x1, fun z => Nat.lt_of_lt_of_le (x2 z) h14, fun z => ⟨Nat.lt_of_lt_of_le (x3 z).1 h23, (x3 z).2⟩⟩
end RUNs
