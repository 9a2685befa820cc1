
/-- what stays from text to text -/
def STY (N : Nat → Nat) (G : Nat → Nat → Nat) (sz : Nat → Nat) : Prop :=
  N 16 ≤ N 14 ∧ N 17 ≤ N 15 ∧ N 16 ≤ 4000 ∧ N 17 ≤ 4000 ∧
  (∀ f, f < N 16 → (∀ k, k < G 12 f → CH G f k < N 16) ∧ (G 10 f = 2 → G 11 f + G 12 f ≤ N 17) ∧ (G 10 f = 1 → G 11 f < N 6)) ∧
  ∀ s, s < 5000 → 0 < G 8 s → G 8 s - 1 < N 16 ∧ RULESOK G sz (G 8 s - 1)
/-- the world while a text is told -/
def XI (N : Nat → Nat) (G : Nat → Nat → Nat) (sz az : Nat → Nat) : Prop :=
  FMS N G sz ∧ TREQ N G sz ∧ (ATOM N G az ∧ ∀ f, f < N 14 → az f ≤ sz f) ∧ EV N G ∧ (G 22 1 = 0 ∧ G 22 (N 23) = N 27 ∧ 9 ≤ N 6 ∧ ∀ s, s ≤ N 6 → G 5 s ≤ 4200) ∧
  (N 49 ≤ 1600 ∧ N 53 ≤ 90000 ∧ N 36 ≤ 250 ∧ N 23 ≤ N 36 + 1 ∧ N 27 ≤ 6 * N 36 ∧ N 34 ≤ 6 * N 36 ∧ N 35 ≤ 100 ∧ N 14 ≤ 8000 + 600 * N 35 ∧ N 15 ≤ 8000 + 600 * N 35 ∧ N 20 ≤ 600 * N 35 ∧ N 33 < 100) ∧
  (N 33 = 0 → ∀ b, b < N 27 → G 25 b = 0 → 0 < G 26 b ∧ G 26 b - 1 < N 14 ∧ RULESOK G sz (G 26 b - 1)) ∧
  (∀ s, s < 5000 → 0 < G 7 s → G 7 s - 1 < N 14 ∧ RULESOK G sz (G 7 s - 1)) ∧ STY N G sz
/-- what a task weighs -/
abbrev WT (G : Nat → Nat → Nat) (sz : Nat → Nat) (i : Nat) : Nat := if G 28 i = 2 then 1 else 3 * sz (G 29 i) - 1
/-- the tasks, and what they weigh -/
def TSK (N : Nat → Nat) (G : Nat → Nat → Nat) (sz : Nat → Nat) (w : Nat) : Prop :=
  (∀ i, i < N 32 → G 28 i ≤ 2 ∧ (G 28 i ≠ 2 → G 29 i < N 14) ∧ (G 28 i = 0 → G 30 i < N 23 ∧ G 31 i ≤ 101)) ∧ sumW (WT G sz) 0 (N 32) ≤ w
/-- the most that may yet be told and put down; x bounds both together -/
abbrev PHI (N : Nat → Nat) (w : Nat) : Nat := N 38 + 10000 * (w + 1800 * (100 - N 35))
def BUD (N : Nat → Nat) (w x : Nat) : Prop := w + 1800 * (100 - N 35) ≤ 190000 ∧ PHI N w ≤ x ∧ x ≤ 1950000000
/-- the forms that were there are there still -/
def FK (N : Nat → Nat) (G : Nat → Nat → Nat) (N1 : Nat → Nat) (G1 : Nat → Nat → Nat) : Prop :=
  N 15 ≤ N1 15 ∧ (∀ f, f < N 14 → G1 10 f = G 10 f ∧ G1 11 f = G 11 f ∧ G1 12 f = G 12 f) ∧ ∀ j, j < N 15 → G1 13 j = G 13 j
/-- what a task leaves alone -/
def XT (N : Nat → Nat) (G : Nat → Nat → Nat) (B : Nat → Nat → Int32) (sz : Nat → Nat) (N1 : Nat → Nat) (G1 : Nat → Nat → Nat) (B1 : Nat → Nat → Int32) (sz1 : Nat → Nat) : Prop :=
  (∀ k, (k < 14 ∨ (15 < k ∧ k < 20) ∨ (38 < k ∧ k ≠ 49 ∧ k ≠ 53)) → N1 k = N k) ∧ (∀ k, (k < 10 ∨ (13 < k ∧ k < 18) ∨ (31 < k ∧ k < 47) ∨ 57 < k) → G1 k = G k) ∧ (∀ k, k ≠ 37 → B1 k = B k) ∧ N 14 ≤ N1 14 ∧ (∀ f, f < N 14 → sz1 f = sz f) ∧ FK N G N1 G1
section XIs
variable {N N1 N2 : Nat → Nat} {G G1 G2 : Nat → Nat → Nat} {B B1 B2 : Nat → Nat → Int32} {sz az sz1 sz2 : Nat → Nat} {w x : Nat}
theorem XT.refl : XT N G B sz N G B sz := ⟨fun _ _ => rfl, fun _ _ => rfl, fun _ _ => rfl, Nat.le_refl _, fun _ _ => rfl, Nat.le_refl _, fun _ _ => ⟨rfl, rfl, rfl⟩, fun _ _ => rfl⟩
theorem XT.trans (h : XT N G B sz N1 G1 B1 sz1) (h' : XT N1 G1 B1 sz1 N2 G2 B2 sz2) : XT N G B sz N2 G2 B2 sz2 := by
  obtain ⟨a1, a2, a3, a4, a5, a6, a7, a8⟩ := h
  obtain ⟨b1, b2, b3, b4, b5, b6, b7, b8⟩ := h'
  refine ⟨fun k hk => (b1 k hk).trans (a1 k hk), fun k hk => (b2 k hk).trans (a2 k hk), fun k hk => (b3 k hk).trans (a3 k hk), Nat.le_trans a4 b4, fun f hf => (b5 f (Nat.lt_of_lt_of_le hf a4)).trans (a5 f hf), Nat.le_trans a6 b6, fun f hf => ?_, fun j hj => (b8 j (Nat.lt_of_lt_of_le hj a6)).trans (a8 j hj)⟩
  obtain ⟨x1, x2, x3⟩ := a7 f hf
  obtain ⟨y1, y2, y3⟩ := b7 f (Nat.lt_of_lt_of_le hf a4)
  exact ⟨y1.trans x1, y2.trans x2, y3.trans x3⟩
/-- numbers alone were changed -/
theorem XT.nums (h : ∀ k, (k < 20 ∨ (38 < k ∧ k ≠ 49 ∧ k ≠ 53)) → N1 k = N k) : XT N G B sz N1 G B sz :=
  ⟨fun k hk => h k (by omega), fun _ _ => rfl, fun _ _ => rfl, by rw [h 14 (by omega)]; exact Nat.le_refl _, fun _ _ => rfl, by rw [h 15 (by omega)]; exact Nat.le_refl _, fun _ _ => ⟨rfl, rfl, rfl⟩, fun _ _ => rfl⟩
/-- the rows 28 to 31 and 47 to 57 from g -/
abbrev MIX (G g : Nat → Nat → Nat) : Nat → Nat → Nat := fun k => if (28 ≤ k ∧ k ≤ 31) ∨ (47 ≤ k ∧ k ≤ 57) then g k else G k
abbrev MIXN (N n : Nat → Nat) : Nat → Nat := fun k => if k = 32 ∨ k = 38 ∨ k = 49 ∨ k = 53 then n k else N k
theorem MIX_of (h : ∀ k, ¬ ((28 ≤ k ∧ k ≤ 31) ∨ (47 ≤ k ∧ k ≤ 57)) → G1 k = G k) : G1 = MIX G G1 := by
  funext k
  by_cases c : (28 ≤ k ∧ k ≤ 31) ∨ (47 ≤ k ∧ k ≤ 57)
  · simp only [MIX, if_pos c]
  · simp only [MIX, if_neg c, h k c]
theorem MIXN_of (h : ∀ k, ¬ (k = 32 ∨ k = 38 ∨ k = 49 ∨ k = 53) → N1 k = N k) : N1 = MIXN N N1 := by
  funext k
  by_cases c : k = 32 ∨ k = 38 ∨ k = 49 ∨ k = 53
  · simp only [MIXN, if_pos c]
  · simp only [MIXN, if_neg c, h k c]
theorem RULESOK_core (h : CORE G1 G) {r : Nat} : RULESOK G1 sz r ↔ RULESOK G sz r := by
  obtain ⟨h1, h2, h3, h4, h5⟩ := id h
  have ec : ∀ f k, CH G1 f k = CH G f k := fun f k => by
    show G1 13 (G1 11 f + k) = _
    rw [h2, h4]
  have ep : ∀ p, PAIROK G1 sz r p ↔ PAIROK G sz r p := fun p => by
    unfold PAIROK
    rw [PATOK_eq h, TEM_eq h, ec, ec, h1, h3]
    have : (fun x => LEF G1 sz r x 1 (CH G p 0) 1 0) = fun x => LEF G sz r x 1 (CH G p 0) 1 0 := funext (fun x => LEF_eq h)
    rw [this]
  unfold RULESOK
  rw [h1, h3, ec]
  simp only [ec, ep]
theorem XI.congr (h : XI N G sz az) (hG : ∀ k i, G1 k i < 1048576) (hN : ∀ k, ¬ (k = 32 ∨ k = 38 ∨ k = 49 ∨ k = 53) → N1 k = N k) (h49 : N1 49 ≤ 1600) (h53 : N1 53 ≤ 90000) (hg : ∀ k, ¬ ((28 ≤ k ∧ k ≤ 31) ∨ (47 ≤ k ∧ k ≤ 57)) → G1 k = G k) : XI N1 G1 sz az := by
  have e1 := MIX_of hg
  have e2 := MIXN_of hN
  have hc : CORE G1 G := ⟨hg 10 (by omega), hg 11 (by omega), hg 12 (by omega), hg 13 (by omega), hg 18 (by omega)⟩
  have n14 := hN 14 (by omega)
  obtain ⟨⟨a1, a2, a3, a4, a5⟩, b, c, d, e, f, g1, g2, g3⟩ := h
  obtain ⟨q1, q2, q3, q4, q5, q6⟩ := g3
  have f' : N1 49 ≤ 1600 ∧ N1 53 ≤ 90000 ∧ N1 36 ≤ 250 ∧ N1 23 ≤ N1 36 + 1 ∧ N1 27 ≤ 6 * N1 36 ∧ N1 34 ≤ 6 * N1 36 ∧ N1 35 ≤ 100 ∧ N1 14 ≤ 8000 + 600 * N1 35 ∧ N1 15 ≤ 8000 + 600 * N1 35 ∧ N1 20 ≤ 600 * N1 35 ∧ N1 33 < 100 := by
    rw [hN 36 (by omega), hN 23 (by omega), hN 27 (by omega), hN 34 (by omega), hN 35 (by omega), hN 14 (by omega), hN 15 (by omega), hN 20 (by omega), hN 33 (by omega)]
    exact ⟨h49, h53, f.2.2⟩
  have g1' : N1 33 = 0 → ∀ b, b < N1 27 → G1 25 b = 0 → 0 < G1 26 b ∧ G1 26 b - 1 < N1 14 ∧ RULESOK G1 sz (G1 26 b - 1) := by
    rw [hN 33 (by omega), hN 27 (by omega), hg 25 (by omega), hg 26 (by omega), hN 14 (by omega)]
    exact fun z b hb y => ⟨(g1 z b hb y).1, (g1 z b hb y).2.1, (RULESOK_core hc).mpr (g1 z b hb y).2.2⟩
  have g2' : ∀ s, s < 5000 → 0 < G1 7 s → G1 7 s - 1 < N1 14 ∧ RULESOK G1 sz (G1 7 s - 1) := by
    rw [hg 7 (by omega), n14]
    exact fun s hs y => ⟨(g2 s hs y).1, (RULESOK_core hc).mpr (g2 s hs y).2⟩
  have g3' : ∀ s, s < 5000 → 0 < G1 8 s → G1 8 s - 1 < N1 16 ∧ RULESOK G1 sz (G1 8 s - 1) := by
    rw [hg 8 (by omega), hN 16 (by omega)]
    exact fun s hs y => ⟨(q6 s hs y).1, (RULESOK_core hc).mpr (q6 s hs y).2⟩
  clear hg hN hc
  refine ⟨⟨hG, ?_⟩, ?_, ?_, ?_, ?_, f', g1', g2', ?_, ?_, ?_, ?_, ?_, g3'⟩
  all_goals (clear f' g1' g2' g3')
  all_goals (rw [e2])
  all_goals (try rw [e1])
  · exact ⟨a2, a3, a4, a5⟩
  · exact b
  · exact c
  · exact d
  · exact e
  · exact q1
  · exact q2
  · exact q3
  · exact q4
  · exact q5
theorem TSK.le (h : TSK N G sz w) (ht : TREE N G sz) : N 32 ≤ w := by
  obtain ⟨a, b⟩ := h
  have := sumW_ge (g := WT G sz) (a := 0) (N 32) (fun i _ hi => by
    unfold WT
    by_cases c : G 28 i = 2
    · rw [if_pos c]; exact Nat.le_refl 1
    · rw [if_neg c]
      have := ht.one ((a i (by omega)).2.1 c)
      omega)
  omega
theorem TSK.push (h : TSK N G sz w) {a b c d : Nat} (ha : a ≤ 2) (hb : a ≠ 2 → b < N 14) (hc : a = 0 → c < N 23 ∧ d ≤ 101) {v : Nat} (hv : w + (if a = 2 then 1 else 3 * sz b - 1) ≤ v) : TSK (va_up N 32 (N 32 + 1)) (TG G (N 32) a b c d) sz v := by
  obtain ⟨h1, h2⟩ := h
  have e32 : va_up N 32 (N 32 + 1) 32 = N 32 + 1 := va_up_self _ _ _
  have k28 : TG G (N 32) a b c d 28 = va_up (G 28) (N 32) a := rfl
  have k29 : TG G (N 32) a b c d 29 = va_up (G 29) (N 32) b := rfl
  have k30 : TG G (N 32) a b c d 30 = va_up (G 30) (N 32) c := rfl
  have k31 : TG G (N 32) a b c d 31 = va_up (G 31) (N 32) d := rfl
  refine ⟨fun i hi => ?_, ?_⟩
  · rw [e32] at hi
    rw [k28, k29, k30, k31]
    by_cases e : i = N 32
    · rw [e, va_up_self, va_up_self, va_up_self, va_up_self]; exact ⟨ha, hb, hc⟩
    · rw [va_up_ne _ _ e, va_up_ne _ _ e, va_up_ne _ _ e, va_up_ne _ _ e]; exact h1 i (by omega)
  · rw [e32, sumW, Nat.zero_add]
    have e1 : sumW (WT (TG G (N 32) a b c d) sz) 0 (N 32) = sumW (WT G sz) 0 (N 32) := sumW_congr _ (fun i _ hi => by
      unfold WT
      rw [k28, k29, va_up_ne _ _ (by omega), va_up_ne _ _ (by omega)])
    have e2 : WT (TG G (N 32) a b c d) sz (N 32) = if a = 2 then 1 else 3 * sz b - 1 := by
      unfold WT
      rw [k28, k29, va_up_self, va_up_self]
    rw [e1, e2]
    omega
theorem TSK.congr (h : TSK N G sz w) (h32 : N1 32 = N 32) (h14 : N1 14 = N 14) (h23 : N1 23 = N 23) (hg : ∀ k, 28 ≤ k → k ≤ 31 → G1 k = G k) : TSK N1 G1 sz w := by
  unfold TSK WT at h ⊢
  rw [h32, h14, h23, hg 28 (by omega) (by omega), hg 29 (by omega) (by omega), hg 30 (by omega) (by omega), hg 31 (by omega) (by omega)]
  exact h
/-- the last task is taken -/
theorem TSK.pop (h : TSK N G sz w) {n : Nat} (hn : N 32 = n + 1) {N' : Nat → Nat} (h32 : N' 32 = n) (h14 : N' 14 = N 14) (h23 : N' 23 = N 23) : G 28 n ≤ 2 ∧ (G 28 n ≠ 2 → G 29 n < N 14) ∧ (G 28 n = 0 → G 30 n < N 23 ∧ G 31 n ≤ 101) ∧ ∃ v, TSK N' G sz v ∧ v + WT G sz n ≤ w := by
  obtain ⟨a, b⟩ := h
  obtain ⟨x1, x2, x3⟩ := a n (by omega)
  rw [hn, sumW, Nat.zero_add] at b
  refine ⟨x1, x2, x3, sumW (WT G sz) 0 n, ⟨fun i hi => ?_, by rw [h32]; exact Nat.le_refl _⟩, b⟩
  rw [h14, h23]
  exact a i (by omega)
end XIs
