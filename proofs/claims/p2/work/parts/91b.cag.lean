
def AGo {α : Type} (F G : Nat → α) (P : Nat → Prop) : Prop := ∀ k, ¬ P k → G k = F k
theorem ag_rf {α : Type} {F : Nat → α} {P : Nat → Prop} : AGo F F P := fun _ _ => rfl
theorem ag_up {α : Type} {F G : Nat → α} {P : Nat → Prop} {j : Nat} {v : α} (h : AGo F G P) (hj : P j) : AGo F (va_up G j v) P := fun k hk => by
  have hne : k ≠ j := fun e => hk (by rw [e]; exact hj)
  unfold va_up
  rw [if_neg hne]
  exact h k hk
theorem ag_rg {α : Type} {F G G1 : Nat → α} {P : Nat → Prop} {lo hi : Nat} (h : AGo F G P) (hj : ∀ k, lo ≤ k → k ≤ hi → P k) : AGo F (rg lo hi G G1) P := fun k hk => by
  unfold rg
  rw [if_neg (fun e => hk (hj k e.1 e.2))]
  exact h k hk
theorem ag_cl {α : Type} {F G : Nat → α} {P : Nat → Prop} {lo hi : Nat} (h : AGo F G (fun k => (lo ≤ k ∧ k ≤ hi) ∨ P k)) : AGo (rg lo hi F G) G P := fun k hk => by
  unfold rg
  split
  · rfl
  · rename_i hn
    exact h k (fun e => e.elim hn hk)
theorem ag_end {α : Type} {F G : Nat → α} {lo hi : Nat} (h : AGo F G (fun k => lo ≤ k ∧ k ≤ hi)) : rg lo hi F G = G := funext fun k => by
  unfold rg
  split
  · rfl
  · rename_i hn
    exact (h k hn).symm