
/-- the lists that are open while a text is read -/
def RD (f : Nat → Int32) (D : Int → Nat) (o : Nat → Int32) (n t : Int) : Prop := ∀ i : Int, 0 ≤ i → i < n → (o i.toNat).toInt = -1 ∨ (4000 ≤ (o i.toNat).toInt ∧ (o i.toNat).toInt < t ∧ CUT f 4000 (o i.toNat).toInt ∧ (D (o i.toNat).toInt : Int) = 61 - i ∧ ∀ q : Int, (o i.toNat).toInt < q → q < t → (D q : Int) < 61 - i)
theorem RD_gr {f f1 : Nat → Int32} {D D1 : Int → Nat} {o : Nat → Int32} {n t t1 : Int} (h : RD f D o n t) (hG : GR f D t f1 D1 t1 (61 - n)) : RD f1 D1 o n t1 := by
  intro i i0 i1
  obtain ⟨g1, g2, g3⟩ := hG
  rcases h i i0 i1 with a | ⟨a, b, c, d, e⟩
  · exact Or.inl a
  · refine Or.inr ⟨a, by omega, CUT_agree c (fun p _ p1 => (g2 p (by omega)).1), by rw [(g2 _ b).2]; exact d, fun q q0 q1 => ?_⟩
    by_cases hq : q < t
    · rw [(g2 q hq).2]; exact e q q0 hq
    · have := g3 q (by omega) q1
      omega
theorem RD_open {f f1 : Nat → Int32} {D D1 : Int → Nat} {o : Nat → Int32} {gf : Nat} {k n t t1 r : Int} (h0 : FI f D gf k t) (h : RD f D o n t) (hn : 0 ≤ n ∧ n ≤ 61) (hr : -2147483648 ≤ r ∧ r < 2147483648) (hG : GR f D t f1 D1 t1 (61 - n)) (hL : LI D1 t t1 r n) : RD f1 D1 (upd o n.toNat (oI r)) (n + 1) t1 := by
  have h1 := RD_gr h hG
  intro i i0 i1
  by_cases hi : i = n
  · subst hi
    rw [upd_at, toInt_oI hr]
    rcases hL with a | ⟨a, b, c, d⟩
    · exact Or.inl a
    · subst a
      refine Or.inr ⟨h0.2.2.1.2.2.1, b, CUT_agree h0.2.2.2.2.2 (fun p _ p1 => (hG.2.1 p p1).1), c, fun q q0 q1 => ?_⟩
      have := d q q0 q1
      omega
  · rw [upd_ni i0 hn.1 hi]
    exact h1 i i0 (by omega)
theorem RD_close {f f1 : Nat → Int32} {D : Int → Nat} {o : Nat → Int32} {gf : Nat} {k n t : Int} (hg : gf ≤ 67600) (h0 : FI f D gf k t) (h : RD f D o n t) (hn : 0 < n)
    (he : ((0 ≤ (o (n - 1).toNat).toInt ∧ (o (n - 1).toNat).toInt < t ∧ (o (n - 1).toNat).toInt < (gf : Int)) ∧ f1 = upd f (o (n - 1).toNat).toInt.toNat (oI (t - (o (n - 1).toNat).toInt))) ∨ (¬ (0 ≤ (o (n - 1).toNat).toInt ∧ (o (n - 1).toNat).toInt < t ∧ (o (n - 1).toNat).toInt < (gf : Int)) ∧ f1 = f)) : FI f1 D gf k t ∧ RD f1 D o (n - 1) t := by
  rcases he with ⟨b, e⟩ | ⟨-, e⟩
  · subst e
    rcases h (n - 1) (by omega) (by omega) with a | ⟨a1, a2, a3, a4, a5⟩
    · omega
    · refine ⟨FI_end hg h0 a1 a2 a3 (fun q q0 q1 => by have := a5 q q0 q1; omega), fun i i0 i1 => ?_⟩
      rcases h i i0 (by omega) with b1 | ⟨b1, b2, b3, b4, b5⟩
      · exact Or.inl b1
      · refine Or.inr ⟨b1, b2, CUT_agree b3 (fun p p0 p1 => upd_ni (by omega) (by omega) ?_), b4, b5⟩
        intro hp
        rw [hp] at p1
        have := a5 _ p1 b2
        omega
  · subst e
    exact ⟨h0, fun i i0 i1 => h i i0 (by omega)⟩