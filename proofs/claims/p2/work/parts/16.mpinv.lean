
theorem sumW_step (g : Nat → Nat) {k n : Nat} (h : k < n) : sumW g k (n - k) = g k + sumW g (k + 1) (n - (k + 1)) := by
  rw [show n - k = (n - (k + 1)) + 1 by omega, sumW_head]
theorem TC_up {VN VR : Nat → Nat} {y m x rp : Nat} : ∀ n q, n ≤ q → TC (va_up VN q y) (va_up VR q m) x rp n = TC VN VR x rp n := by
  intro n
  induction n with
  | zero => intro q _; rfl
  | succ n ih => intro q h; rw [TC, TC, ih q (by omega), va_up_ne _ _ (by omega), va_up_ne _ _ (by omega)]
theorem TC_push {VN VR : Nat → Nat} {vc y m x rp : Nat} : TC (va_up VN vc y) (va_up VR vc m) x rp (vc + 1) = TC VN VR x rp vc + if y = x ∧ m = rp then 1 else 0 := by
  rw [TC, TC_up vc vc (Nat.le_refl _), va_up_self, va_up_self]
theorem TC_zero {VN VR : Nat → Nat} {x rp : Nat} : ∀ n, varF VN x n = 0 → TC VN VR x rp n = 0 := by
  intro n
  induction n with
  | zero => intro _; rfl
  | succ n ih =>
    intro h
    rw [varF] at h
    by_cases e : VN n = x
    · rw [if_pos e] at h; omega
    · rw [if_neg e] at h
      rw [TC, ih h, if_neg (fun q => e q.1)]
theorem TC_pos {VN VR : Nat → Nat} {x : Nat} : ∀ n, (∀ v, v < n → VR v ≤ 1) → 0 < varF VN x n → 1 ≤ TC VN VR x 0 n + TC VN VR x 1 n := by
  intro n
  induction n with
  | zero => intro _ h; exact absurd h (Nat.lt_irrefl 0)
  | succ n ih =>
    intro hr h
    rw [varF] at h
    rw [TC, TC]
    by_cases e : VN n = x
    · have := hr n (by omega)
      rcases (show VR n = 0 ∨ VR n = 1 by omega) with z | z
      · rw [if_pos ⟨e, z⟩]; omega
      · rw [if_pos (c := VN n = x ∧ VR n = 1) ⟨e, z⟩]; omega
    · rw [if_neg e] at h
      have := ih (fun v hv => hr v (by omega)) h
      omega
def PINV (N : Nat → Nat) (G : Nat → Nat → Nat) (sz az : Nat → Nat) (rules top a1 p fr w k q vc fi : Nat) (L Hw O VN VR : Nat → Nat) : Prop :=
  (a1 < q ∧ fi ≤ 1 ∧ fr ≤ k ∧ p < N 14 ∧ w ≤ 1) ∧ (∀ i, i < q → L i < N 14 ∧ Hw i ≤ 1 ∧ O i ≤ 1) ∧
  (a1 + 1 + EW (fun p _ _ => sz p) L O Hw (a1 + 1) (q - (a1 + 1)) + sumW (fun k => sz (CH G p k)) k (G 12 p - k) ≤ 3001) ∧
  (vc + EW (fun p _ _ => az p) L O Hw (a1 + 1) (q - (a1 + 1)) + sumW (fun k => az (CH G p k)) k (G 12 p - k) ≤ 1501) ∧
  (fi = 1 → ∀ x rp, LEF G sz rules x rp top 1 0 = TC VN VR x rp vc + sumW (LEFk G sz rules x rp p w) k (G 12 p - k) + EW (LEF G sz rules x rp) L O Hw (a1 + 1) (q - (a1 + 1))) ∧
  (fi = 1 → (PAT G sz top 1 0 ↔ (∀ j, k ≤ j → j < G 12 p → PATk G sz p fr w j) ∧ ∀ i, a1 < i → i < q → PAT G sz (L i) (O i) (Hw i))) ∧
  (fi = 1 → ∀ x, TC VN VR x 0 vc + TC VN VR x 1 vc ≤ 1) ∧ (fi = 0 → ¬ PAT G sz top 1 0 ∨ ∃ x, 2 ≤ LEF G sz rules x 0 top 1 0 + LEF G sz rules x 1 top 1 0) ∧ ∀ v, v < vc → VR v ≤ 1
section PI
variable {N : Nat → Nat} {G : Nat → Nat → Nat} {sz az : Nat → Nat} {rules top a1 p fr w k q vc : Nat} {L Hw O VN VR : Nat → Nat}
theorem PINV.split (hk : k < G 12 p) : (∀ j, k ≤ j → j < G 12 p → PATk G sz p fr w j) ↔ PATk G sz p fr w k ∧ ∀ j, k + 1 ≤ j → j < G 12 p → PATk G sz p fr w j := by
  constructor
  · intro h; exact ⟨h k (Nat.le_refl k) hk, fun j h1 h2 => h j (by omega) h2⟩
  · intro h j h1 h2
    by_cases e : j = k
    · subst e; exact h.1
    · exact h.2 j (by omega) h2
/-- a part that gives nothing, and is as it should be -/
theorem PINV.skip (h : PINV N G sz az rules top a1 p fr w k q vc 1 L Hw O VN VR) (hk : k < G 12 p) (h0 : ∀ x rp, LEFk G sz rules x rp p w k = 0) (hp : PATk G sz p fr w k) : PINV N G sz az rules top a1 p fr w (k + 1) q vc 1 L Hw O VN VR := by
  obtain ⟨⟨a, b, c, d, e⟩, j1, j2, j3, j4, j5, j6, j7, j8⟩ := h
  rw [sumW_step _ hk] at j2 j3
  refine ⟨⟨a, b, by omega, d, e⟩, j1, by omega, by omega, fun z x rp => ?_, fun z => ?_, j6, j7, j8⟩
  · have := j4 z x rp
    rw [sumW_step _ hk, h0 x rp] at this
    omega
  · rw [j5 z, PINV.split hk]
    exact ⟨fun q => ⟨q.1.2, q.2⟩, fun q => ⟨⟨hp, q.1⟩, q.2⟩⟩
/-- a part that is not as it should be -/
theorem PINV.bad (h : PINV N G sz az rules top a1 p fr w k q vc 1 L Hw O VN VR) (hk : k < G 12 p) (hp : ¬ PATk G sz p fr w k) : PINV N G sz az rules top a1 p fr w (k + 1) q vc 0 L Hw O VN VR := by
  obtain ⟨⟨a, b, c, d, e⟩, j1, j2, j3, j4, j5, j6, j7, j8⟩ := h
  rw [sumW_step _ hk] at j2 j3
  refine ⟨⟨a, by omega, by omega, d, e⟩, j1, by omega, by omega, fun z => absurd z (by decide), fun z => absurd z (by decide), fun z => absurd z (by decide), fun _ => Or.inl (fun z => ?_), j8⟩
  exact hp (((j5 rfl).mp z).1 k (Nat.le_refl k) hk)
/-- a list: it comes behind the others -/
theorem PINV.list (h : PINV N G sz az rules top a1 p fr w k q vc 1 L Hw O VN VR) (hk : k < G 12 p) (hc : CH G p k < N 14) (he : ¬ ELL G p k) (h2 : G 10 (CH G p k) = 2) : PINV N G sz az rules top a1 p fr w (k + 1) (q + 1) vc 1 (va_up L q (CH G p k)) (va_up Hw q (MORE G p w k)) (va_up O q 0) VN VR := by
  obtain ⟨⟨a, b, c, d, e⟩, j1, j2, j3, j4, j5, j6, j7, j8⟩ := h
  have hm : MORE G p w k ≤ 1 := by unfold MORE; split <;> omega
  rw [sumW_step _ hk] at j2 j3
  have eq : q + 1 - (a1 + 1) = (q - (a1 + 1)) + 1 := by omega
  refine ⟨⟨by omega, b, by omega, d, e⟩, fun i hi => ?_, ?_, ?_, fun z x rp => ?_, fun z => ?_, j6, j7, j8⟩
  · by_cases ei : i = q
    · subst ei; rw [va_up_self, va_up_self, va_up_self]; exact ⟨hc, hm, Nat.zero_le 1⟩
    · rw [va_up_ne _ _ ei, va_up_ne _ _ ei, va_up_ne _ _ ei]; exact j1 i (by omega)
  · rw [eq, EW_push (by omega)]; omega
  · rw [eq, EW_push (by omega)]; omega
  · have := j4 z x rp
    rw [sumW_step _ hk] at this
    rw [eq, EW_push (by omega)]
    have e9 : LEFk G sz rules x rp p w k = LEF G sz rules x rp (CH G p k) 0 (MORE G p w k) := by unfold LEFk; rw [if_neg he, if_pos h2]
    rw [e9] at this
    omega
  · rw [j5 z, PINV.split hk]
    constructor
    · rintro ⟨⟨q1, q2⟩, q3⟩
      refine ⟨q2, fun i h1 hi => ?_⟩
      by_cases ei : i = q
      · subst ei; rw [va_up_self, va_up_self, va_up_self]; exact q1.2 he h2
      · rw [va_up_ne _ _ ei, va_up_ne _ _ ei, va_up_ne _ _ ei]; exact q3 i h1 (by omega)
    · rintro ⟨q1, q2⟩
      have q3 := q2 q (by omega) (by omega)
      rw [va_up_self, va_up_self, va_up_self] at q3
      refine ⟨⟨⟨fun z => absurd z he, fun _ _ => q3⟩, q1⟩, fun i h1 hi => ?_⟩
      have q4 := q2 i h1 (by omega)
      rw [va_up_ne _ _ (show i ≠ q by omega), va_up_ne _ _ (show i ≠ q by omega), va_up_ne _ _ (show i ≠ q by omega)] at q4
      exact q4
/-- a variable: it is written down; fi tells whether it is new -/
theorem PINV.leaf (h : PINV N G sz az rules top a1 p fr w k q vc 1 L Hw O VN VR) (hat : ATOM N G az) (hk : k < G 12 p) (hc : CH G p k < N 14) (he : ¬ ELL G p k) (h2 : G 10 (CH G p k) ≠ 2) (hv : PV G rules (CH G p k)) (fi : Nat) (hf : fi = if varF VN (G 11 (CH G p k)) vc = 0 then 1 else 0) :
    PINV N G sz az rules top a1 p fr w (k + 1) q (vc + 1) fi L Hw O (va_up VN vc (G 11 (CH G p k))) (va_up VR vc (MORE G p w k)) := by
  obtain ⟨⟨a, b, c, d, e⟩, j1, j2, j3, j4, j5, j6, j7, j8⟩ := h
  have hm : MORE G p w k ≤ 1 := by unfold MORE; split <;> omega
  have hz := (hat _ hc).1
  rw [if_neg h2] at hz
  rw [sumW_step _ hk] at j2 j3
  have ek : ∀ x rp, LEFk G sz rules x rp p w k = if G 11 (CH G p k) = x ∧ MORE G p w k = rp then 1 else 0 := by
    intro x rp
    unfold LEFk
    rw [if_neg he, if_neg h2]
    by_cases z : G 11 (CH G p k) = x ∧ MORE G p w k = rp
    · rw [if_pos z, if_pos ⟨hv, z⟩]
    · rw [if_neg z, if_neg (fun y => z y.2)]
  refine ⟨⟨a, by rw [hf]; split <;> omega, by omega, d, e⟩, j1, by omega, by omega, fun z x rp => ?_, fun z => ?_, fun z x => ?_, fun z => ?_, fun v hv2 => ?_⟩
  · have := j4 rfl x rp
    rw [sumW_step _ hk, ek] at this
    rw [TC_push]
    omega
  · rw [j5 rfl, PINV.split hk]
    exact ⟨fun q => ⟨q.1.2, q.2⟩, fun q => ⟨⟨⟨fun z => absurd z he, fun _ z => absurd z h2⟩, q.1⟩, q.2⟩⟩
  · rw [TC_push, TC_push]
    have hx := j6 rfl x
    by_cases ex : G 11 (CH G p k) = x
    · have h0 : varF VN (G 11 (CH G p k)) vc = 0 := by
        by_cases y : varF VN (G 11 (CH G p k)) vc = 0
        · exact y
        · rw [if_neg y] at hf; omega
      rw [ex] at h0
      rw [TC_zero vc h0, TC_zero vc h0]
      rcases (show MORE G p w k = 0 ∨ MORE G p w k = 1 by omega) with y | y
      · rw [if_pos ⟨ex, y⟩, if_neg (fun t => by omega)]; omega
      · rw [if_neg (fun t => by omega), if_pos ⟨ex, y⟩]; omega
    · rw [if_neg (fun t => ex t.1), if_neg (fun t => ex t.1)]; omega
  · refine Or.inr ⟨G 11 (CH G p k), ?_⟩
    have h0 : 0 < varF VN (G 11 (CH G p k)) vc := by
      by_cases y : varF VN (G 11 (CH G p k)) vc = 0
      · rw [if_pos y] at hf; omega
      · omega
    have t1 := TC_pos vc j8 h0
    have t2 := j4 rfl (G 11 (CH G p k)) 0
    have t3 := j4 rfl (G 11 (CH G p k)) 1
    rw [sumW_step _ hk, ek] at t2 t3
    rcases (show MORE G p w k = 0 ∨ MORE G p w k = 1 by omega) with y | y
    · rw [if_pos ⟨rfl, y⟩] at t2; omega
    · rw [if_pos ⟨rfl, y⟩] at t3; omega
  · by_cases ev : v = vc
    · subst ev; rw [va_up_self]; exact hm
    · rw [va_up_ne _ _ ev]; exact j8 v (by omega)
end PI
