
section RB
variable {N0 N M : Nat → Nat} {G0 G K g : Nat → Nat → Nat} {B0 B : Nat → Nat → Int32} {sz az : Nat → Nat} {w s x : Nat}
theorem RUN.env (h : RUN N0 G0 B0 sz N G B az w s) {en : Nat} (he : en < N 23) (hb : N 23 ≤ N 36) : RUN N0 G0 B0 sz (va_up N 23 (N 23 + 1)) (EG N G en) B az w s := by
  obtain ⟨h1, h2, h3, h4, h5, h6, h7, h8, h9⟩ := h
  have e23 : va_up N 23 (N 23 + 1) 23 = N 23 + 1 := va_up_self _ _ _
  have kg : ∀ k, k ≠ 21 → k ≠ 22 → EG N G en k = G k := fun k a b => by rw [EG, va_up_ne _ _ b, va_up_ne _ _ a]
  refine ⟨h1.env he hb, h2.more (N1 := va_up N 23 (N 23 + 1)) (G1 := EG N G en) rfl (Nat.le_refl _) (by rw [e23]; omega) (fun k a b => kg k (by omega) (by omega)), ⟨fun k hk => (va_up_ne _ _ (by omega)).trans (h3.1 k hk), fun k hk => (kg k (by omega) (by omega)).trans (h3.2.1 k hk), h3.2.2⟩, h4, h5, h6, h7, h8, ?_⟩
  rw [e23]; omega
theorem BG_ne {y vr ru k : Nat} (h : ¬ (k = 22 ∨ k = 24 ∨ k = 25 ∨ k = 26)) : BG N G y vr ru k = G k := by
  rw [BG, va_up_ne _ _ (by omega), va_up_ne _ _ (by omega), va_up_ne _ _ (by omega), va_up_ne _ _ (by omega)]
theorem RUN.bindv (h : RUN N0 G0 B0 sz N G B az w s) {y vr : Nat} (h23 : 2 ≤ N 23) (h27 : N 27 + 1 ≤ 6 * N 36) (hy : y < 1048576) (hv : vr < 1048576) (hv0 : 0 < vr) : RUN N0 G0 B0 sz (va_up N 27 (N 27 + 1)) (BG N G y vr 0) B az w s := by
  obtain ⟨h1, h2, h3, h4, h5, h6, h7, h8, h9⟩ := h
  exact ⟨h1.bind h23 h27 hy hv (by decide) (fun _ z => by omega), h2.more (N1 := va_up N 27 (N 27 + 1)) (G1 := BG N G y vr 0) rfl (Nat.le_refl _) (Nat.le_refl _) (fun k a b => BG_ne (by omega)), ⟨fun k hk => (va_up_ne _ _ (by omega)).trans (h3.1 k hk), fun k hk => (BG_ne (by omega)).trans (h3.2.1 k hk), h3.2.2⟩, h4, h5, h6, h7, h8, h9⟩
theorem RUN.var (h : RUN N0 G0 B0 sz N G B az w s) {v : Nat} (hv : v ≤ 6 * N 36) : RUN N0 G0 B0 sz (va_up N 34 v) G B az w s := by
  obtain ⟨h1, h2, h3, h4⟩ := h
  exact ⟨h1.var hv, h2, ⟨fun k hk => (va_up_ne _ _ (by omega)).trans (h3.1 k hk), h3.2⟩, h4⟩
theorem RUN.binder (h : RUN N0 G0 B0 sz N G B az w s) (hb : N 36 < 250) : RUN N0 G0 B0 sz (va_up N 36 (N 36 + 1)) G B az w s := by
  obtain ⟨h1, h2, h3, h4⟩ := h
  exact ⟨h1.binder hb, h2, ⟨fun k hk => (va_up_ne _ _ (by omega)).trans (h3.1 k hk), h3.2⟩, h4⟩
/-- macros are being bound: k of those that the list ps names -/
def LSI (N : Nat → Nat) (G : Nat → Nat → Nat) (B : Nat → Nat → Int32) (sz az : Nat → Nat) (w ps k : Nat) (M : Nat → Nat) (K : Nat → Nat → Nat) : Prop :=
  XI (va_up M 33 1) K sz az ∧ TSK M K sz w ∧ XT N G B sz M K B sz ∧ (M 38 = N 38 ∧ M 35 = N 35 ∧ M 33 = 0) ∧ CORE K G ∧ M 14 = N 14 ∧ M 23 = N 23 + 1 ∧ M 27 = N 27 + k ∧ M 36 = N 36 ∧
  (∀ b, b < N 27 → K 25 b = G 25 b ∧ K 26 b = G 26 b) ∧ ∀ i, i < k → K 25 (N 27 + i) = 0 ∧ K 26 (N 27 + i) = CH G (CH G ps i) 1 + 1
theorem LSI.start (h : XI N G sz az) (ht : TSK N G sz w) (h33 : N 33 = 0) {en ps : Nat} (he : en < N 23) (hb : N 23 ≤ N 36) : LSI N G B sz az w ps 0 (va_up N 23 (N 23 + 1)) (EG N G en) := by
  have hr := RUN.env (RUN.start (B := B) h ht h33) he hb
  obtain ⟨h1, h2, h3, h4, h5, h6, h7, h8, h9⟩ := hr
  exact ⟨h1.fault (by decide) (by decide), h2, h3, ⟨rfl, rfl, h33⟩, h7, rfl, va_up_self _ _ _, rfl, rfl, fun _ _ => ⟨rfl, rfl⟩, fun i hi => absurd hi (Nat.not_lt_zero i)⟩
theorem LSI.bind {ps k : Nat} (h : LSI N G B sz az w ps k M K) {y ru : Nat} (h27 : N 27 + k + 1 ≤ 6 * N 36) (hy : y < 1048576) (hr : ru = CH G (CH G ps k) 1 + 1) (hr9 : ru < 1048576) (h1n : 1 ≤ N 23) : LSI N G B sz az w ps (k + 1) (va_up M 27 (M 27 + 1)) (BG M K y 0 ru) := by
  obtain ⟨h1, h2, h3, h4, h5, h6, h7, h8, h9, h10, h11⟩ := h
  have e25 : BG M K y 0 ru 25 = va_up (K 25) (M 27) 0 := rfl
  have e26 : BG M K y 0 ru 26 = va_up (K 26) (M 27) ru := rfl
  have hx : XI (va_up (va_up M 33 1) 27 (M 27 + 1)) (BG M K y 0 ru) sz az := XI.bind (N := va_up M 33 1) h1 (show 2 ≤ M 23 by omega) (show M 27 + 1 ≤ 6 * M 36 by omega) hy (by decide) hr9 (fun z => absurd (show (1 : Nat) = 0 from z) (by decide))
  have hsw : va_up (va_up M 33 1) 27 (M 27 + 1) = va_up (va_up M 27 (M 27 + 1)) 33 1 := by
    funext k
    by_cases a : k = 27 <;> by_cases b : k = 33 <;> simp [va_up, a, b]
  rw [hsw] at hx
  refine ⟨hx, h2.more (N1 := va_up M 27 (M 27 + 1)) (G1 := BG M K y 0 ru) rfl (Nat.le_refl _) (Nat.le_refl _) (fun k a b => BG_ne (by omega)), ⟨fun k hk => (va_up_ne _ _ (by omega)).trans (h3.1 k hk), fun k hk => (BG_ne (by omega)).trans (h3.2.1 k hk), h3.2.2⟩, h4, h5, h6, h7, ?_, h9, fun b hb => ?_, fun i hi => ?_⟩
  · rw [va_up_self]; omega
  · rw [e25, e26, va_up_ne _ _ (by omega), va_up_ne _ _ (by omega)]; exact h10 b hb
  · rw [e25, e26]
    by_cases e : i = k
    · rw [e, ← h8, va_up_self, va_up_self]; exact ⟨rfl, hr⟩
    · rw [va_up_ne _ _ (by omega), va_up_ne _ _ (by omega)]; exact h11 i (by omega)
theorem LSI.done {ps k : Nat} (h : LSI N G B sz az w ps k M K) (hx : XI N G sz az) (h33 : N 33 = 0) (hm : ∀ i, i < k → CH G (CH G ps i) 1 < N 14 ∧ RULESOK G sz (CH G (CH G ps i) 1)) : RUN N G B sz M K B az w 0 := by
  obtain ⟨h1, h2, h3, h4, h5, h6, h7, h8, h9, h10, h11⟩ := h
  refine ⟨h1.unmark h4.2.2 (fun b hb hz => ?_), h2, h3, by omega, h4.2.1, h4.2.2, h5, h6, by omega⟩
  rw [h6, RULESOK_core h5]
  by_cases c : b < N 27
  · obtain ⟨a1, a2⟩ := h10 b c
    rw [a1] at hz
    rw [a2]
    exact hx.2.2.2.2.2.2.1 h33 b c hz
  · obtain ⟨i, rfl⟩ : ∃ i, b = N 27 + i := ⟨b - N 27, by omega⟩
    obtain ⟨a1, a2⟩ := h11 i (by omega)
    obtain ⟨b1, b2⟩ := hm i (by omega)
    rw [a2]
    exact ⟨by omega, by rw [Nat.add_sub_cancel]; exact b1, by rw [Nat.add_sub_cancel]; exact b2⟩
theorem LSI.fail {ps k vc q cd : Nat} (h : LSI N G B sz az w ps k M K) {W : Nat} (hb : BUD N W x) (hw : w ≤ W) (hg : ∀ k i, g k i < 1048576) (hv : vc ≤ 1600) (hq : q ≤ 90000) (hc0 : 0 < cd) (hc1 : cd < 100) : XPOST N G B sz x (va_up (SCN M vc q) 33 cd) (SCG K g) B := by
  obtain ⟨h1, h2, h3, h4, h5, h6, h7, h8, h9, h10, h11⟩ := h
  have hx := h1.fault hc0 hc1
  rw [bx_uu] at hx
  have kn : ∀ k, k ≠ 49 → k ≠ 53 → SCN M vc q k = M k := fun k a b => by rw [SCN, va_up_ne _ _ b, va_up_ne _ _ a]
  have kg : ∀ k, ¬ (47 ≤ k ∧ k ≤ 57) → SCG K g k = K k := fun k hk => if_neg hk
  have kn3 : ∀ k, ¬ (k = 32 ∨ k = 38 ∨ k = 49 ∨ k = 53) → va_up (SCN M vc q) 33 cd k = va_up M 33 cd k := fun k hk => by
    by_cases e : k = 33
    · rw [e, va_up_self, va_up_self]
    · rw [va_up_ne _ _ e, va_up_ne _ _ e]; exact kn k (by omega) (by omega)
  refine ⟨sz, az, w, hx.congr (SCG_bd hx.1.1 hg) kn3 hv hq (fun k hk => kg k (by omega)), h2.congr rfl rfl rfl (fun k a b => kg k (by omega)), ?_, ⟨fun k hk => ?_, fun k hk => (kg k (by omega)).trans (h3.2.1 k hk), h3.2.2⟩, fun z => ?_⟩
  · unfold BUD PHI at hb ⊢
    show w + 1800 * (100 - M 35) ≤ 190000 ∧ M 38 + 10000 * (w + 1800 * (100 - M 35)) ≤ x ∧ x ≤ 1950000000
    rw [h4.1, h4.2.1]; omega
  · rw [va_up_ne _ _ (by omega)]; exact (kn k (by omega) (by omega)).trans (h3.1 k hk)
  · rw [va_up_self] at z; omega
end RB
