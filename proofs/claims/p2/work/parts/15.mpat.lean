
/-- the sum of g over n places from a on -/
def sumW (g : Nat → Nat) (a : Nat) : Nat → Nat
  | 0 => 0
  | n + 1 => sumW g a n + g (a + n)
theorem sumW_head (g : Nat → Nat) (a : Nat) : ∀ n, sumW g a (n + 1) = g a + sumW g (a + 1) n := by
  intro n
  induction n with
  | zero => simp [sumW]
  | succ n ih => rw [sumW, ih, sumW, Nat.add_assoc, show a + (n + 1) = a + 1 + n by omega]
theorem sumW_congr {g h : Nat → Nat} {a : Nat} : ∀ n, (∀ i, a ≤ i → i < a + n → g i = h i) → sumW g a n = sumW h a n := by
  intro n
  induction n with
  | zero => intro _; rfl
  | succ n ih => intro e; rw [sumW, sumW, ih (fun i h1 h2 => e i h1 (by omega)), e (a + n) (by omega) (by omega)]
theorem sumW_sumC (sz c : Nat → Nat) : ∀ n, sumW (fun k => sz (c k)) 0 n = sumC sz c n := by
  intro n
  induction n with
  | zero => rfl
  | succ n ih => rw [sumW, sumC, ih, Nat.zero_add]
theorem sumW_drop (g : Nat → Nat) (a : Nat) : ∀ n, sumW g a n ≤ sumW g 0 (a + n) := by
  induction a with
  | zero => intro n; rw [Nat.zero_add]; exact Nat.le_refl _
  | succ a ih =>
    intro n
    have h := ih (n + 1)
    rw [sumW_head, show a + (n + 1) = a + 1 + n by omega] at h
    omega
/-- what the entries of a queue, n of them from a on, have in all -/
abbrev EW (F : Nat → Nat → Nat → Nat) (L O Hw : Nat → Nat) (a n : Nat) : Nat := sumW (fun i => F (L i) (O i) (Hw i)) a n
theorem EW_push {F : Nat → Nat → Nat → Nat} {L O Hw : Nat → Nat} {a n q c o h : Nat} (e : a + n = q) : EW F (va_up L q c) (va_up O q o) (va_up Hw q h) a (n + 1) = EW F L O Hw a n + F c o h := by
  show sumW _ a n + _ = _
  rw [e]
  simp only [va_up_self]
  congr 1
  refine sumW_congr n (fun i h1 h2 => ?_)
  rw [va_up_ne _ _ (show i ≠ q by omega), va_up_ne _ _ (show i ≠ q by omega), va_up_ne _ _ (show i ≠ q by omega)]
/-- whether a form behind ..., or within what stands before one -/
abbrev MORE (G : Nat → Nat → Nat) (p w k : Nat) : Nat := if w = 1 ∨ ELL G p (k + 1) then 1 else 0
/-- a name of a pattern that is a variable -/
abbrev PV (G : Nat → Nat → Nat) (rules c : Nat) : Prop := BND G c ∧ LIT G rules (G 11 c) = 0
/-- how often the name x, with the mark rp, is a variable among the parts of the list p, from fr on -/
def LEFf (G : Nat → Nat → Nat) (rules x rp : Nat) : Nat → Nat → Nat → Nat → Nat
  | 0, _, _, _ => 0
  | d + 1, p, fr, w => sumW (fun k => if ELL G p k then 0 else if G 10 (CH G p k) = 2 then LEFf G rules x rp d (CH G p k) 0 (MORE G p w k) else if PV G rules (CH G p k) ∧ G 11 (CH G p k) = x ∧ MORE G p w k = rp then 1 else 0) fr (G 12 p - fr)
/-- a list of a pattern is as rules want it, from fr on -/
def PATf (G : Nat → Nat → Nat) : Nat → Nat → Nat → Nat → Prop
  | 0, _, _, _ => True
  | d + 1, p, fr, w => ∀ k, fr ≤ k → k < G 12 p → (ELL G p k → k + 1 = G 12 p ∧ fr < k ∧ w = 0) ∧ (¬ ELL G p k → G 10 (CH G p k) = 2 → PATf G d (CH G p k) 0 (MORE G p w k))
theorem LEFf_eq {N : Nat → Nat} {G : Nat → Nat → Nat} {sz : Nat → Nat} (h : TREE N G sz) {rules x rp : Nat} : ∀ (d p fr w e : Nat), p < N 14 → sz p ≤ d → sz p ≤ e → LEFf G rules x rp d p fr w = LEFf G rules x rp e p fr w := by
  intro d
  induction d with
  | zero => intro p fr w e hp hd; exact absurd (h.one hp) (by omega)
  | succ d ih =>
    intro p fr w e hp hd he
    cases e with
    | zero => exact absurd (h.one hp) (by omega)
    | succ e =>
      unfold LEFf
      refine sumW_congr _ (fun k h1 h2 => ?_)
      have hk : k < G 12 p := by omega
      have hl := h.lt hp hk
      rw [ih (CH G p k) 0 (MORE G p w k) e ((h.2 p hp).2.2.1 k hk).2 (by omega) (by omega)]
theorem PATf_eq {N : Nat → Nat} {G : Nat → Nat → Nat} {sz : Nat → Nat} (h : TREE N G sz) : ∀ (d p fr w e : Nat), p < N 14 → sz p ≤ d → sz p ≤ e → (PATf G d p fr w ↔ PATf G e p fr w) := by
  intro d
  induction d with
  | zero => intro p fr w e hp hd; exact absurd (h.one hp) (by omega)
  | succ d ih =>
    intro p fr w e hp hd he
    cases e with
    | zero => exact absurd (h.one hp) (by omega)
    | succ e =>
      unfold PATf
      constructor
      · intro q k h1 hk
        have hl := h.lt hp hk
        exact ⟨(q k h1 hk).1, fun a b => (ih (CH G p k) 0 (MORE G p w k) e ((h.2 p hp).2.2.1 k hk).2 (by omega) (by omega)).mp ((q k h1 hk).2 a b)⟩
      · intro q k h1 hk
        have hl := h.lt hp hk
        exact ⟨(q k h1 hk).1, fun a b => (ih (CH G p k) 0 (MORE G p w k) e ((h.2 p hp).2.2.1 k hk).2 (by omega) (by omega)).mpr ((q k h1 hk).2 a b)⟩
abbrev LEF (G : Nat → Nat → Nat) (sz : Nat → Nat) (rules x rp p fr w : Nat) : Nat := LEFf G rules x rp (sz p) p fr w
abbrev PAT (G : Nat → Nat → Nat) (sz : Nat → Nat) (p fr w : Nat) : Prop := PATf G (sz p) p fr w
/-- what a part k of a list p gives -/
abbrev LEFk (G : Nat → Nat → Nat) (sz : Nat → Nat) (rules x rp p w k : Nat) : Nat := if ELL G p k then 0 else if G 10 (CH G p k) = 2 then LEF G sz rules x rp (CH G p k) 0 (MORE G p w k) else if PV G rules (CH G p k) ∧ G 11 (CH G p k) = x ∧ MORE G p w k = rp then 1 else 0
abbrev PATk (G : Nat → Nat → Nat) (sz : Nat → Nat) (p fr w k : Nat) : Prop := (ELL G p k → k + 1 = G 12 p ∧ fr < k ∧ w = 0) ∧ (¬ ELL G p k → G 10 (CH G p k) = 2 → PAT G sz (CH G p k) 0 (MORE G p w k))
theorem LEF_un {N : Nat → Nat} {G : Nat → Nat → Nat} {sz : Nat → Nat} (h : TREE N G sz) {rules x rp p fr w : Nat} (hp : p < N 14) : LEF G sz rules x rp p fr w = sumW (LEFk G sz rules x rp p w) fr (G 12 p - fr) := by
  have h1 := h.one hp
  obtain ⟨d, hd⟩ : ∃ d, sz p = d + 1 := ⟨sz p - 1, by omega⟩
  unfold LEF
  rw [hd, LEFf]
  refine sumW_congr _ (fun k h1 h2 => ?_)
  have hk : k < G 12 p := by omega
  have hl := h.lt hp hk
  show _ = LEFk G sz rules x rp p w k
  unfold LEFk
  rw [LEFf_eq h d (CH G p k) 0 (MORE G p w k) (sz (CH G p k)) ((h.2 p hp).2.2.1 k hk).2 (by omega) (Nat.le_refl _)]
theorem PAT_un {N : Nat → Nat} {G : Nat → Nat → Nat} {sz : Nat → Nat} (h : TREE N G sz) {p fr w : Nat} (hp : p < N 14) : PAT G sz p fr w ↔ ∀ k, fr ≤ k → k < G 12 p → PATk G sz p fr w k := by
  have h1 := h.one hp
  obtain ⟨d, hd⟩ : ∃ d, sz p = d + 1 := ⟨sz p - 1, by omega⟩
  unfold PAT
  rw [hd, PATf]
  constructor
  · intro q k h1 hk
    have hl := h.lt hp hk
    exact ⟨(q k h1 hk).1, fun a b => (PATf_eq h d (CH G p k) 0 (MORE G p w k) (sz (CH G p k)) ((h.2 p hp).2.2.1 k hk).2 (by omega) (Nat.le_refl _)).mp ((q k h1 hk).2 a b)⟩
  · intro q k h1 hk
    have hl := h.lt hp hk
    exact ⟨(q k h1 hk).1, fun a b => (PATf_eq h d (CH G p k) 0 (MORE G p w k) (sz (CH G p k)) ((h.2 p hp).2.2.1 k hk).2 (by omega) (Nat.le_refl _)).mpr ((q k h1 hk).2 a b)⟩
/-- how often the name x stands in a row of vc names with the mark rp -/
def TC (VN VR : Nat → Nat) (x rp : Nat) : Nat → Nat
  | 0 => 0
  | n + 1 => TC VN VR x rp n + if VN n = x ∧ VR n = rp then 1 else 0
/-- numbers and names of a form, none of them a list -/
def ATOM (N : Nat → Nat) (G : Nat → Nat → Nat) (az : Nat → Nat) : Prop := ∀ f, f < N 14 → (if G 10 f = 2 then 0 else 1) + sumC az (CH G f) (G 12 f) ≤ az f ∧ az f ≤ 1501
