
/-- what ends a word -/
abbrev DEL (x : Int32) : Prop := x = nI 32 ∨ x = nI 40 ∨ x = nI 41
/-- a text is read as far as at; op lists have begun and not ended; bb: a word has just ended -/
def PI (N : Nat → Nat) (G : Nat → Nat → Nat) (B : Nat → Nat → Int32) (sz az : Nat → Nat) (b14 b15 c5 c6 at9 op bb : Nat) (M : Nat → Nat) (K : Nat → Nat → Nat) (C : Nat → Nat → Int32) (sz1 az1 : Nat → Nat) : Prop :=
  PS M K C (M 2 - at9) c5 c6 ∧ PF M K sz1 az1 b14 b15 at9 ∧ PK N G B sz az b14 b15 M K C sz1 az1 ∧ (at9 ≤ M 2 ∧ M 2 ≤ 3000 ∧ op ≤ 61) ∧ (∀ i, i < op → K 46 i ≤ M 45) ∧ (∀ i j, i < j → j < op → K 46 i ≤ K 46 j) ∧
  sumC sz1 (K 44) (M 45) + op ≤ at9 ∧ 2 * sumC az1 (K 44) (M 45) ≤ at9 + bb ∧ bb ≤ 1 ∧ (bb = 1 → at9 < M 2 → DEL (C 1 at9))
theorem sumC_add (sz c : Nat → Nat) (a : Nat) : ∀ b, sumC sz c (a + b) = sumC sz c a + sumC sz (fun i => c (a + i)) b := by
  intro b
  induction b with
  | zero => rfl
  | succ b ih => rw [← Nat.add_assoc, sumC, sumC, ih, Nat.add_assoc]
section PIs
variable {N M N1 : Nat → Nat} {G K G1 : Nat → Nat → Nat} {B C B1 : Nat → Nat → Int32} {sz az sz1 az1 sz2 az2 : Nat → Nat} {b14 b15 c5 c6 at9 op bb ct : Nat}
theorem PF.more (h : PF M K sz1 az1 b14 b15 ct) {ct2 : Nat} (h1 : ct ≤ ct2) (h2 : ct2 ≤ 3000) : PF M K sz1 az1 b14 b15 ct2 := by
  obtain ⟨f1, f2, f3, f4, f5, f6, f7, f8, f9⟩ := h
  exact ⟨f1, f2, f3, f4, f5, f6, f7, f8, by omega⟩
theorem PF.k46 (h : PF M K sz1 az1 b14 b15 ct) {X : Nat → Nat} (hX : ∀ i, X i < 1048576) : PF M (va_up K 46 X) sz1 az1 b14 b15 ct := by
  obtain ⟨f1, f2, f3, f4, f5, f6, f7, f8, f9⟩ := h
  exact ⟨hGup f1 hX, f2, f3, f4, f5, f6, f7, f8, f9⟩
theorem PI.w45 (h : PI N G B sz az b14 b15 c5 c6 at9 op bb M K C sz1 az1) : M 45 ≤ at9 := by
  obtain ⟨h1, h2, h3, h4, h5, h6, h7, h8, h9, h10⟩ := h
  have := sumC_len (sz := sz1) (c := K 44) (M 45) (fun i hi => h2.2.1.one (h2.2.2.2.2.2.2.2.1 i hi))
  omega
theorem PI.skip (h : PI N G B sz az b14 b15 c5 c6 at9 op bb M K C sz1 az1) (hl : at9 < M 2) : PI N G B sz az b14 b15 c5 c6 (at9 + 1) op 0 M K C sz1 az1 := by
  obtain ⟨h1, h2, h3, h4, h5, h6, h7, h8, h9, h10⟩ := h
  exact ⟨h1.less (by omega), h2.more (by omega) (by omega), h3, ⟨by omega, h4.2⟩, h5, h6, by omega, by omega, by decide, fun z => absurd z (by decide)⟩
theorem PI.opn (h : PI N G B sz az b14 b15 c5 c6 at9 op bb M K C sz1 az1) (hl : at9 < M 2) (ho : op ≤ 60) : PI N G B sz az b14 b15 c5 c6 (at9 + 1) (op + 1) 0 M (va_up K 46 (va_up (K 46) op (M 45))) C sz1 az1 := by
  have h45 := h.w45
  obtain ⟨h1, h2, h3, h4, h5, h6, h7, h8, h9, h10⟩ := h
  have k46 : va_up K 46 (va_up (K 46) op (M 45)) 46 = va_up (K 46) op (M 45) := rfl
  refine ⟨h1.less (by omega), (h2.more (by omega) (by omega)).k46 (hIup (h2.1 46) (by omega)), ⟨h3.1, fun k a1 a2 a3 a4 a5 a6 a7 => (va_up_ne _ _ a7).trans (h3.2.1 k a1 a2 a3 a4 a5 a6 a7), h3.2.2⟩, ⟨by omega, h4.2.1, by omega⟩, fun i hi => ?_, fun i j hi hj => ?_, ?_, ?_, by decide, fun z => absurd z (by decide)⟩
  · rw [k46]
    by_cases e : i = op
    · rw [e, va_up_self]; exact Nat.le_refl _
    · rw [va_up_ne _ _ e]; exact h5 i (by omega)
  · rw [k46, va_up_ne _ _ (show i ≠ op by omega)]
    by_cases e : j = op
    · rw [e, va_up_self]; exact h5 i (by omega)
    · rw [va_up_ne _ _ e]; exact h6 i j hi (by omega)
  · show sumC sz1 (K 44) (M 45) + (op + 1) ≤ at9 + 1
    omega
  · show 2 * sumC az1 (K 44) (M 45) ≤ _
    omega
theorem PI.cls (h : PI N G B sz az b14 b15 c5 c6 at9 (op + 1) bb M K C sz1 az1) (hl : at9 < M 2) {fr : Nat} (efr : K 46 op = fr) {P13 : Nat → Nat} (hP : ∀ i, P13 i < 1048576) (hP1 : ∀ j, j < M 15 → P13 j = K 13 j) (hP2 : ∀ i, i < M 45 - fr → P13 (M 15 + i) = K 44 (fr + i)) :
    ∃ sz2 az2, PI N G B sz az b14 b15 c5 c6 (at9 + 1) op 0 (va_up (va_up (va_up M 14 (M 14 + 1)) 15 (M 15 + (M 45 - fr))) 45 (fr + 1)) (va_up (va_up (NF K (M 14) 2 (M 15) (M 45 - fr)) 13 P13) 44 (va_up (K 44) fr (M 14))) C sz2 az2 := by
  have h45 := h.w45
  obtain ⟨h1, h2, h3, h4, h5, h6, h7, h8, h9, h10⟩ := h
  have hfr : fr ≤ M 45 := by rw [← efr]; exact h5 op (by omega)
  have f9 := h2.2.2.2.2.2.2.2.2
  have f8 := h2.2.2.2.2.2.2.2.1
  have e1 : sumC sz1 (K 44) (M 45) = sumC sz1 (K 44) fr + sumC sz1 (fun i => K 44 (fr + i)) (M 45 - fr) := by
    rw [← sumC_add, show fr + (M 45 - fr) = M 45 by omega]
  have e2 : sumC az1 (K 44) (M 45) = sumC az1 (K 44) fr + sumC az1 (fun i => K 44 (fr + i)) (M 45 - fr) := by
    rw [← sumC_add, show fr + (M 45 - fr) = M 45 by omega]
  obtain ⟨s, hs⟩ : ∃ s, s = 1 + sumC sz1 (fun i => K 44 (fr + i)) (M 45 - fr) := ⟨_, rfl⟩
  obtain ⟨a, ha⟩ : ∃ a, a = sumC az1 (fun i => K 44 (fr + i)) (M 45 - fr) := ⟨_, rfl⟩
  have hpf := (h2.more (ct2 := at9 + 1) (by omega) (by omega)).lst hfr (by omega) hP hP1 hP2 hs (by omega) ha (by omega)
  have hlow : ∀ (t : Nat → Nat) (v : Nat), sumC (va_up t (M 14) v) (va_up (K 44) fr (M 14)) (fr + 1) = sumC t (K 44) fr + v := by
    intro t v
    rw [sumC, va_up_self, va_up_self]
    congr 1
    refine sumC_congr _ (fun k hk => ?_)
    rw [va_up_ne _ _ (show k ≠ fr by omega), va_up_ne _ _ (by have := f8 k (by omega); omega)]
  refine ⟨va_up sz1 (M 14) s, va_up az1 (M 14) a, ⟨h1.1, ?_⟩, hpf, ⟨fun k a1 a2 a3 a4 => ?_, fun k a1 a2 a3 a4 a5 a6 a7 => ?_, h3.2.2.1, fun f hf => ?_, fun j hj => ?_, h3.2.2.2.2.2⟩, ⟨?_, ?_, by omega⟩, fun i hi => ?_, fun i j hi hj => h6 i j hi (by omega), ?_, ?_, by decide, fun z => absurd z (by decide)⟩
  · have z := (h1.less (u1 := M 2 - (at9 + 1)) (by omega)).2
    exact z
  · rw [va_up_ne _ _ a4, va_up_ne _ _ a3, va_up_ne _ _ a2]; exact h3.1 k a1 a2 a3 a4
  · rw [va_up_ne _ _ a6, va_up_ne _ _ a5, NF, va_up_ne _ _ a4, va_up_ne _ _ a3, va_up_ne _ _ a2]; exact h3.2.1 k a1 a2 a3 a4 a5 a6 a7
  · obtain ⟨x1, x2, x3, x4, x5⟩ := h3.2.2.2.1 f hf
    have e : f ≠ M 14 := by omega
    exact ⟨(va_up_ne _ _ e).trans x1, (va_up_ne _ _ e).trans x2, (va_up_ne _ _ e).trans x3, (va_up_ne _ _ e).trans x4, (va_up_ne _ _ e).trans x5⟩
  · show P13 j = _
    rw [hP1 j (by omega)]; exact h3.2.2.2.2.1 j hj
  · show at9 + 1 ≤ M 2
    omega
  · exact h4.2.1
  · have q := h6 i op hi (by omega)
    rw [efr] at q
    show K 46 i ≤ va_up _ 45 (fr + 1) 45
    rw [va_up_self]; omega
  · show sumC (va_up sz1 (M 14) s) (va_up (K 44) fr (M 14)) (va_up _ 45 (fr + 1) 45) + op ≤ at9 + 1
    rw [va_up_self, hlow]; omega
  · show 2 * sumC (va_up az1 (M 14) a) (va_up (K 44) fr (M 14)) (va_up _ 45 (fr + 1) 45) ≤ _
    rw [va_up_self, hlow]; omega
theorem PI.tok (h : PI N G B sz az b14 b15 c5 c6 at9 op bb M K C sz1 az1) (hnd : ¬ DEL (C 1 at9)) {to n6 kd v : Nat} {L5 : Nat → Nat} {X4 : Nat → Int32} (h1t : at9 < to) (h2t : to ≤ M 2) (hdl : to < M 2 → DEL (C 1 to)) (hk : kd ≤ 1) (hv : v < 1048576) (hkv : kd = 1 → v < n6) (hy : SYA M K C (to - at9) n6 L5 X4) :
    ∃ sz2 az2, PI N G B sz az b14 b15 c5 c6 to op 1 (va_up (va_up (va_up M 6 n6) 14 (M 14 + 1)) 45 (M 45 + 1)) (va_up (NF (va_up K 5 L5) (M 14) kd v 0) 44 (va_up (K 44) (M 45) (M 14))) (va_up C 4 X4) sz2 az2 := by
  have h45 := h.w45
  obtain ⟨h1, h2, h3, h4, h5, h6, h7, h8, h9, h10⟩ := h
  have f9 := h2.2.2.2.2.2.2.2.2
  have f8 := h2.2.2.2.2.2.2.2.1
  have hbb : bb = 0 := by
    by_cases z : bb = 1
    · exact absurd (h10 z (by omega)) hnd
    · omega
  have h6n : M 6 ≤ n6 ∧ n6 ≤ 5000 := by have := h1.2.1; have := h1.2.2.1; rcases hy.1 with e | e <;> omega
  have hpf := (h2.more (ct2 := to) (by omega) (by omega)).tok h6n.1 h6n.2 hk hv hkv hy.2.1 (by omega)
  have hlow : ∀ (t : Nat → Nat), sumC (va_up t (M 14) 1) (va_up (K 44) (M 45) (M 14)) (M 45 + 1) = sumC t (K 44) (M 45) + 1 := by
    intro t
    rw [sumC, va_up_self, va_up_self]
    congr 1
    refine sumC_congr _ (fun k hk => ?_)
    rw [va_up_ne _ _ (show k ≠ M 45 by omega), va_up_ne _ _ (by have := f8 k (by omega); omega)]
  refine ⟨va_up sz1 (M 14) 1, va_up az1 (M 14) 1, ?_, hpf, ⟨fun k a1 a2 a3 a4 => ?_, fun k a1 a2 a3 a4 a5 a6 a7 => ?_, fun k a1 => (va_up_ne _ _ a1).trans (h3.2.2.1 k a1), fun f hf => ?_, h3.2.2.2.2.1, ?_⟩, ⟨h2t, h4.2.1, h4.2.2⟩, fun i hi => ?_, h6, ?_, ?_, Nat.le_refl _, fun _ z => hdl z⟩
  · exact PS.sym h1 hy (by omega) (by omega) rfl rfl rfl (show M 2 - to + (to - at9) ≤ M 2 - at9 by omega)
  · rw [va_up_ne _ _ a4, va_up_ne _ _ a2, va_up_ne _ _ a1]; exact h3.1 k a1 a2 a3 a4
  · rw [va_up_ne _ _ a6, NF, va_up_ne _ _ a4, va_up_ne _ _ a3, va_up_ne _ _ a2, va_up_ne _ _ a1]; exact h3.2.1 k a1 a2 a3 a4 a5 a6 a7
  · obtain ⟨x1, x2, x3, x4, x5⟩ := h3.2.2.2.1 f hf
    have e : f ≠ M 14 := by omega
    exact ⟨(va_up_ne _ _ e).trans x1, (va_up_ne _ _ e).trans x2, (va_up_ne _ _ e).trans x3, (va_up_ne _ _ e).trans x4, (va_up_ne _ _ e).trans x5⟩
  · exact Nat.le_trans h3.2.2.2.2.2 h6n.1
  · have q := h5 i hi
    show K 46 i ≤ va_up _ 45 (M 45 + 1) 45
    rw [va_up_self]; omega
  · show sumC (va_up sz1 (M 14) 1) (va_up (K 44) (M 45) (M 14)) (va_up _ 45 (M 45 + 1) 45) + op ≤ to
    rw [va_up_self, hlow]; omega
  · show 2 * sumC (va_up az1 (M 14) 1) (va_up (K 44) (M 45) (M 14)) (va_up _ 45 (M 45 + 1) 45) ≤ _
    rw [va_up_self, hlow]; omega
end PIs
