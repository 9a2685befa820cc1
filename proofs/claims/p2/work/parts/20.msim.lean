
/-- the rows 47 to 57 from g, the others as they are -/
abbrev SCG (G g : Nat → Nat → Nat) : Nat → Nat → Nat := fun k => if 47 ≤ k ∧ k ≤ 57 then g k else G k
abbrev SCN (N : Nat → Nat) (vc q : Nat) : Nat → Nat := va_up (va_up N 49 vc) 53 q
theorem SCG_of {G X : Nat → Nat → Nat} (h : ∀ k, ¬ (47 ≤ k ∧ k ≤ 57) → X k = G k) : X = SCG G X := by
  funext k
  by_cases c : 47 ≤ k ∧ k ≤ 57
  · simp only [SCG, if_pos c]
  · simp only [SCG, if_neg c, h k c]
theorem SCG_SCG {G g h : Nat → Nat → Nat} : SCG (SCG G g) h = SCG G h := by
  funext k
  by_cases c : 47 ≤ k ∧ k ≤ 57
  · simp only [SCG, if_pos c]
  · simp only [SCG, if_neg c]
theorem SCN_SCN {N : Nat → Nat} {a b c d : Nat} : SCN (SCN N a b) c d = SCN N c d := by
  funext k
  by_cases h1 : k = 49 <;> by_cases h2 : k = 53 <;> simp [SCN, va_up, h1, h2]
theorem SCG_bd {G g : Nat → Nat → Nat} (hG : ∀ k i, G k i < 1048576) (hg : ∀ k i, g k i < 1048576) : ∀ k i, SCG G g k i < 1048576 := by
  intro k i
  by_cases c : 47 ≤ k ∧ k ≤ 57
  · simp only [SCG, if_pos c]; exact hg k i
  · simp only [SCG, if_neg c]; exact hG k i
theorem SCG_up {G g : Nat → Nat → Nat} {k : Nat} {f : Nat → Nat} (h : 47 ≤ k ∧ k ≤ 57) : va_up (SCG G g) k f = SCG G (va_up (SCG G g) k f) := by
  funext j
  by_cases c : 47 ≤ j ∧ j ≤ 57
  · simp only [SCG, if_pos c]
  · have e : j ≠ k := fun e => c (e ▸ h)
    rw [va_up_ne _ _ e]; simp only [SCG, if_neg c]
theorem SCG_LK {G g : Nat → Nat → Nat} {L Hw O : Nat → Nat} : LK (SCG G g) L Hw O = SCG G (LK (SCG G g) L Hw O) := by
  refine SCG_of (fun k c => ?_)
  show va_up (va_up (va_up (SCG G g) 50 L) 51 Hw) 52 O k = G k
  rw [va_up_ne _ _ (by omega), va_up_ne _ _ (by omega), va_up_ne _ _ (by omega)]
  simp only [SCG, if_neg c]
theorem SCG_self (G : Nat → Nat → Nat) : SCG G G = G := (SCG_of (G := G) (X := G) (fun _ _ => rfl)).symm
theorem SCN_self (N : Nat → Nat) : SCN N (N 49) (N 53) = N := by
  funext k
  by_cases h1 : k = 49 <;> by_cases h2 : k = 53 <;> simp [SCN, va_up, h1, h2]
theorem SCN_53 {N : Nat → Nat} {vc q q2 : Nat} : va_up (SCN N vc q) 53 q2 = SCN N vc q2 := by
  funext k
  by_cases h1 : k = 49 <;> by_cases h2 : k = 53 <;> simp [SCN, va_up, h1, h2]
theorem SCN_pat {N : Nat → Nat} {vc q vc2 q2 : Nat} : va_up (va_up (SCN N vc q) 49 vc2) 53 q2 = SCN N vc2 q2 := SCN_SCN
theorem SCG_pat {G g : Nat → Nat → Nat} {VN VR L Hw O : Nat → Nat} : LK (va_up (va_up (SCG G g) 47 VN) 48 VR) L Hw O = SCG G (LK (va_up (va_up (SCG G g) 47 VN) 48 VR) L Hw O) := by
  refine SCG_of (fun k c => ?_)
  show va_up (va_up (va_up (va_up (va_up (SCG G g) 47 VN) 48 VR) 50 L) 51 Hw) 52 O k = G k
  rw [va_up_ne _ _ (by omega), va_up_ne _ _ (by omega), va_up_ne _ _ (by omega), va_up_ne _ _ (by omega), va_up_ne _ _ (by omega)]
  simp only [SCG, if_neg c]
theorem SCG_tem {G g : Nat → Nat → Nat} {I L Hw O : Nat → Nat} : LK (va_up (SCG G g) 54 I) L Hw O = SCG G (LK (va_up (SCG G g) 54 I) L Hw O) := by
  refine SCG_of (fun k c => ?_)
  show va_up (va_up (va_up (va_up (SCG G g) 54 I) 50 L) 51 Hw) 52 O k = G k
  rw [va_up_ne _ _ (by omega), va_up_ne _ _ (by omega), va_up_ne _ _ (by omega), va_up_ne _ _ (by omega)]
  simp only [SCG, if_neg c]
theorem TREE.pt {N : Nat → Nat} {G : Nat → Nat → Nat} {sz : Nat → Nat} (h : TREE N G sz) {f k : Nat} (hf : f < N 14) (hk : k < G 12 f) : G 11 f + k < 90000 ∧ CH G f k < N 14 ∧ CH G f k < 90000 ∧ f < 90000 := by
  have a := (h.2 f hf).2.2.1 k hk
  have b := h.1
  exact ⟨a.1, a.2, by omega, by omega⟩
/-- the last name of a row that is x has the mark 1 just where x stands in it with the mark 1 -/
theorem TC_rep {VN VR : Nat → Nat} {x : Nat} : ∀ n, (∀ v, v < n → VR v ≤ 1) → TC VN VR x 0 n + TC VN VR x 1 n ≤ 1 → ((0 < varF VN x n ∧ 0 < VR (varF VN x n - 1)) ↔ 0 < TC VN VR x 1 n) := by
  intro n
  induction n with
  | zero => intro _ _; exact ⟨fun h => absurd h.1 (Nat.lt_irrefl 0), fun h => absurd h (Nat.lt_irrefl 0)⟩
  | succ n ih =>
    intro hr h
    rw [TC, TC] at h
    rw [TC, varF]
    by_cases e : VN n = x
    · rw [if_pos e, Nat.add_sub_cancel]
      have := hr n (by omega)
      rcases (show VR n = 0 ∨ VR n = 1 by omega) with z | z
      · rw [if_pos ⟨e, z⟩] at h
        rw [if_neg (fun t => by omega)]
        omega
      · rw [if_pos (c := VN n = x ∧ VR n = 1) ⟨e, z⟩]
        omega
    · rw [if_neg e, if_neg (fun t => e t.1)]
      rw [if_neg (fun t => e t.1), if_neg (fun t => e t.1)] at h
      exact ih (fun v hv => hr v (by omega)) h
/-- one rule: pattern and template -/
def PAIROK (G : Nat → Nat → Nat) (sz : Nat → Nat) (rules pair : Nat) : Prop :=
  G 10 pair = 2 ∧ G 12 pair = 2 ∧ G 10 (CH G pair 0) = 2 ∧ 0 < G 12 (CH G pair 0) ∧ PATOK G sz rules (CH G pair 0) ∧ TEM G sz (fun x => LEF G sz rules x 1 (CH G pair 0) 1 0) (CH G pair 1)
/-- a list of rules, as areRules wants it -/
def RULESOK (G : Nat → Nat → Nat) (sz : Nat → Nat) (rules : Nat) : Prop :=
  G 10 rules = 2 ∧ 2 < G 12 rules ∧ G 12 rules ≤ 10 ∧ (∀ j, j < G 12 (CH G rules 1) → G 10 (CH G (CH G rules 1) j) = 1) ∧ ∀ k, 2 ≤ k → k < G 12 rules → PAIROK G sz rules (CH G rules k)
theorem ite_iff {P Q : Prop} [Decidable P] [Decidable Q] {a b c d : Nat} (h : P ↔ Q) (h1 : P → a = b) (h2 : ¬ P → c = d) : (if P then a else c) = (if Q then b else d) := by
  by_cases p : P
  · rw [if_pos p, if_pos (h.mp p)]; exact h1 p
  · rw [if_neg p, if_neg (fun q => p (h.mpr q))]; exact h2 p
theorem sumW_congr2 {g h : Nat → Nat} {a m : Nat} (n : Nat) (e : n = m) (k : ∀ i, a ≤ i → i < a + n → g i = h i) : sumW g a n = sumW h a m := by
  subst e
  exact sumW_congr n k
/-- what two worlds tell alike of a form: kind, value, count, the end of its name, its parts -/
def SIMf (G G' : Nat → Nat → Nat) : Nat → Nat → Nat → Prop
  | 0, _, _ => True
  | d + 1, f, f' => G' 10 f' = G 10 f ∧ G' 12 f' = G 12 f ∧ (G 10 f ≠ 2 → G' 11 f' = G 11 f) ∧ (G 10 f = 1 → ROOT G' (G 11 f) = ROOT G (G 11 f)) ∧ ∀ k, k < G 12 f → SIMf G G' d (CH G f k) (CH G' f' k)
section SI
variable {N N' : Nat → Nat} {G G' : Nat → Nat → Nat} {sz sz' : Nat → Nat}
theorem SIMf.from1 {d f f' q : Nat} (h : SIMf G G' (d + 1) f f') : FROM G f q ↔ FROM G' f' q := by
  obtain ⟨a, b, c, r, e⟩ := h
  constructor
  · rintro ⟨x, y⟩; exact ⟨by rw [a]; exact x, by rw [c (by omega), r x]; exact y⟩
  · rintro ⟨x, y⟩
    have x' : G 10 f = 1 := by rw [← a]; exact x
    exact ⟨x', by rw [c (by omega), r x'] at y; exact y⟩
theorem SIMf.bnd {d f f' : Nat} (h : SIMf G G' (d + 1) f f') : BND G f ↔ BND G' f' := by
  obtain ⟨a, b, c, r, e⟩ := h
  constructor
  · rintro ⟨x, y⟩; exact ⟨by rw [a]; exact x, by rw [c (by omega), r x]; exact y⟩
  · rintro ⟨x, y⟩
    have x' : G 10 f = 1 := by rw [← a]; exact x
    exact ⟨x', by rw [c (by omega), r x'] at y; exact y⟩
theorem SIMf.ell {d f f' k : Nat} (h : SIMf G G' (d + 2) f f') : ELL G f k ↔ ELL G' f' k := by
  obtain ⟨a, b, c, r, e⟩ := h
  constructor
  · rintro ⟨x, y⟩; exact ⟨by rw [b]; exact x, ((e k x).from1).mp y⟩
  · rintro ⟨x, y⟩
    have x' : k < G 12 f := by rw [← b]; exact x
    exact ⟨x', ((e k x').from1).mpr y⟩
theorem SIMf.more {d f f' w k : Nat} (h : SIMf G G' (d + 2) f f') : MORE G' f' w k = MORE G f w k := by
  unfold MORE
  by_cases c : w = 1 ∨ ELL G f (k + 1)
  · rw [if_pos c, if_pos (c.imp id h.ell.mp)]
  · rw [if_neg c, if_neg (fun z => c (z.imp id h.ell.mpr))]
theorem SIMf.mono : ∀ (d e f f' : Nat), e ≤ d → SIMf G G' d f f' → SIMf G G' e f f' := by
  intro d
  induction d with
  | zero => intro e f f' h _; rw [Nat.le_zero.mp h]; trivial
  | succ d ih =>
    intro e f f' h hs
    cases e with
    | zero => trivial
    | succ e =>
      obtain ⟨a, b, c, r, z⟩ := hs
      exact ⟨a, b, c, r, fun k hk => ih e _ _ (by omega) (z k hk)⟩
/-- the sizes are alike -/
theorem SIMf.size (ht : TREE N G sz) (ht' : TREE N' G' sz') (hq : TREQ N G sz) (hq' : TREQ N' G' sz') : ∀ (d f f' : Nat), f < N 14 → f' < N' 14 → sz f ≤ d → SIMf G G' d f f' → sz' f' = sz f := by
  intro d
  induction d with
  | zero => intro f f' hf _ h; exact absurd (ht.one hf) (by omega)
  | succ d ih =>
    intro f f' hf hf' h hs
    obtain ⟨a, b, c, r, e⟩ := hs
    rw [hq f hf, hq' f' hf', b]
    congr 1
    have key : ∀ n, n ≤ G 12 f → sumC sz' (CH G' f') n = sumC sz (CH G f) n := by
      intro n
      induction n with
      | zero => intro _; rfl
      | succ n ihn =>
        intro hn
        rw [sumC, sumC, ihn (by omega)]
        have hl := ht.lt hf (show n < G 12 f by omega)
        rw [ih (CH G f n) (CH G' f' n) ((ht.2 f hf).2.2.1 n (by omega)).2 ((ht'.2 f' hf').2.2.1 n (by omega)).2 (by omega) (e n (by omega))]
    exact key _ (Nat.le_refl _)
theorem SIMf.lit {r r' x : Nat} (h : SIMf G G' 3 r r') (h1 : 1 < G 12 r) (hn : ∀ j, j < G 12 (CH G r 1) → G 10 (CH G (CH G r 1) j) ≠ 2) : LIT G' r' x = LIT G r x := by
  obtain ⟨a, b, c, rr, e⟩ := h
  obtain ⟨a1, b1, c1, r1, e1⟩ := e 1 h1
  unfold LIT
  rw [b1]
  have key : ∀ n, n ≤ G 12 (CH G r 1) → litF (G' 11) (CH G' (CH G' r' 1)) x n = litF (G 11) (CH G (CH G r 1)) x n := by
    intro n
    induction n with
    | zero => intro _; rfl
    | succ n ih =>
      intro hn'
      rw [litF, litF, ih (by omega), (e1 n (by omega)).2.2.1 (hn n (by omega))]
  exact key _ (Nat.le_refl _)
theorem SIMf.tem {E : Nat → Nat} (ht : TREE N G sz) : ∀ (d f f' : Nat), f < N 14 → SIMf G G' (d + 1) f f' → TEMf G E d f → TEMf G' E d f' := by
  intro d
  induction d with
  | zero => intro f f' _ _ _; trivial
  | succ d ih =>
    intro f f' hf hs ht2
    have hs' := hs
    obtain ⟨a, b, c, r, e⟩ := hs
    obtain ⟨p, q⟩ := ht2
    refine ⟨fun z => p ?_, fun k hk x y => ?_⟩
    · have x' : G 10 f = 1 := by rw [← a]; exact z.1
      exact ⟨x', by rw [← c (by omega)]; exact z.2⟩
    · rw [b] at hk
      exact ih _ _ ((ht.2 f hf).2.2.1 k hk).2 (e k hk) (q k hk (fun z => x (hs'.ell.mp z)) (fun z => y (hs'.ell.mp z)))
theorem SIMf.pat (ht : TREE N G sz) : ∀ (d f f' fr w : Nat), f < N 14 → SIMf G G' (d + 1) f f' → PATf G d f fr w → PATf G' d f' fr w := by
  intro d
  induction d with
  | zero => intro f f' _ _ _ _ _; trivial
  | succ d ih =>
    intro f f' fr w hf hs hp
    have hs' := hs
    obtain ⟨a, b, c, r, e⟩ := hs
    intro k h1 hk
    rw [b] at hk
    obtain ⟨p, q⟩ := hp k h1 hk
    refine ⟨fun z => by rw [b]; exact p (hs'.ell.mpr z), fun z y => ?_⟩
    rw [hs'.more]
    exact ih _ _ _ _ ((ht.2 f hf).2.2.1 k hk).2 (e k hk) (q (fun t => z (hs'.ell.mp t)) (by rw [← (e k hk).1]; exact y))
theorem SIMf.lef (ht : TREE N G sz) {r r' x rp : Nat} (hl : ∀ y, LIT G' r' y = LIT G r y) : ∀ (d f f' fr w : Nat), f < N 14 → SIMf G G' (d + 1) f f' → LEFf G' r' x rp d f' fr w = LEFf G r x rp d f fr w := by
  intro d
  induction d with
  | zero => intro f f' _ _ _ _; rfl
  | succ d ih =>
    intro f f' fr w hf hs
    have hs' := hs
    obtain ⟨a, b, c, rr, e⟩ := hs
    unfold LEFf
    refine sumW_congr2 _ (by rw [b]) (fun k h1 h2 => ?_)
    have hk : k < G 12 f := by omega
    have hc := e k hk
    refine ite_iff hs'.ell.symm (fun _ => rfl) (fun _ => ite_iff (by rw [hc.1]) (fun _ => ?_) (fun c2 => ?_))
    · rw [hs'.more]; exact ih _ _ 0 (MORE G f w k) ((ht.2 f hf).2.2.1 k hk).2 hc
    · have c2' : G 10 (CH G f k) ≠ 2 := by rw [← hc.1]; exact c2
      refine ite_iff ?_ (fun _ => rfl) (fun _ => rfl)
      rw [hc.2.2.1 c2', hs'.more]
      constructor
      · intro z; exact ⟨⟨hc.bnd.mpr z.1.1, by have := z.1.2; rw [hl, hc.2.2.1 c2'] at this; exact this⟩, z.2⟩
      · intro z; exact ⟨⟨hc.bnd.mp z.1.1, by rw [hl, hc.2.2.1 c2']; exact z.1.2⟩, z.2⟩
abbrev SIM (G G' : Nat → Nat → Nat) (f f' : Nat) : Prop := ∀ d, SIMf G G' d f f'
theorem SIM.ch {f f' k : Nat} (h : SIM G G' f f') (hk : k < G 12 f) : SIM G G' (CH G f k) (CH G' f' k) := fun d => (h (d + 1)).2.2.2.2 k hk
theorem RULESOK.sim (ht : TREE N G sz) (ht' : TREE N' G' sz') (hq : TREQ N G sz) (hq' : TREQ N' G' sz') {r r' : Nat} (hr : r < N 14) (hr' : r' < N' 14) (hs : SIM G G' r r') (h : RULESOK G sz r) : RULESOK G' sz' r' := by
  obtain ⟨h1, h2, h3, h4, h5⟩ := h
  have e12 : G' 12 r' = G 12 r := (hs 1).2.1
  have s1 := hs.ch (k := 1) (by omega)
  have hl : ∀ y, LIT G' r' y = LIT G r y := fun y => (hs 3).lit (by omega) (fun j hj => by rw [h4 j hj]; decide)
  refine ⟨by rw [(hs 1).1]; exact h1, by omega, by omega, fun j hj => ?_, fun k hk1 hk2 => ?_⟩
  · rw [(s1 1).2.1] at hj
    rw [(s1.ch hj 1).1]; exact h4 j hj
  · rw [e12] at hk2
    have sp := hs.ch hk2
    have hp := (ht.pt hr hk2).2.1
    have hp' := (ht'.pt hr' (show k < G' 12 r' by omega)).2.1
    obtain ⟨p1, p2, p3, p4, ⟨p5, p6⟩, p7⟩ := h5 k hk1 hk2
    have sp0 := sp.ch (k := 0) (by omega)
    have sp1 := sp.ch (k := 1) (by omega)
    have q0 := (ht.pt hp (show 0 < G 12 (CH G r k) by omega)).2.1
    have q1 := (ht.pt hp (show 1 < G 12 (CH G r k) by omega)).2.1
    have e12p : G' 12 (CH G' r' k) = G 12 (CH G r k) := (sp 1).2.1
    have q0' := (ht'.pt hp' (show 0 < G' 12 (CH G' r' k) by omega)).2.1
    have q1' := (ht'.pt hp' (show 1 < G' 12 (CH G' r' k) by omega)).2.1
    have z0 : sz' (CH G' (CH G' r' k) 0) = sz (CH G (CH G r k) 0) := SIMf.size ht ht' hq hq' _ _ _ q0 q0' (Nat.le_refl _) (sp0 _)
    have z1 : sz' (CH G' (CH G' r' k) 1) = sz (CH G (CH G r k) 1) := SIMf.size ht ht' hq hq' _ _ _ q1 q1' (Nat.le_refl _) (sp1 _)
    have el : ∀ x rp, LEF G' sz' r' x rp (CH G' (CH G' r' k) 0) 1 0 = LEF G sz r x rp (CH G (CH G r k) 0) 1 0 := by
      intro x rp
      unfold LEF
      rw [z0]
      exact SIMf.lef ht hl _ _ _ _ _ q0 (sp0 _)
    refine ⟨by rw [(sp 1).1]; exact p1, by omega, by rw [(sp0 1).1]; exact p3, by rw [(sp0 1).2.1]; exact p4, ⟨?_, fun x => ?_⟩, ?_⟩
    · unfold PAT
      rw [z0]
      exact SIMf.pat ht _ _ _ _ _ q0 (sp0 _) p5
    · rw [el, el]; exact p6 x
    · have ee : (fun x => LEF G' sz' r' x 1 (CH G' (CH G' r' k) 0) 1 0) = fun x => LEF G sz r x 1 (CH G (CH G r k) 0) 1 0 := funext (fun x => el x 1)
      rw [ee]
      unfold TEM
      rw [z1]
      exact SIMf.tem ht _ _ _ q1 (sp1 _) p7
end SI
/-- two worlds with the same forms and aliases -/
def CORE (G' G : Nat → Nat → Nat) : Prop := G' 10 = G 10 ∧ G' 11 = G 11 ∧ G' 12 = G 12 ∧ G' 13 = G 13 ∧ G' 18 = G 18
theorem SCG_core (G g : Nat → Nat → Nat) : CORE (SCG G g) G := ⟨rfl, rfl, rfl, rfl, rfl⟩
section CO
variable {G G' : Nat → Nat → Nat} {sz E : Nat → Nat} {r x rp : Nat}
theorem ell_core (h : CORE G' G) {p k : Nat} : ELL G' p k ↔ ELL G p k := by
  obtain ⟨e10, e11, e12, e13, e18⟩ := h
  simp only [ELL, FROM, CH, ROOT, e10, e11, e12, e13, e18]
theorem bnd_core (h : CORE G' G) {p : Nat} : BND G' p ↔ BND G p := by
  obtain ⟨e10, e11, e12, e13, e18⟩ := h
  simp only [BND, ROOT, e10, e11, e18]
theorem more_core (h : CORE G' G) {p w k : Nat} : MORE G' p w k = MORE G p w k := by
  unfold MORE
  by_cases c : w = 1 ∨ ELL G p (k + 1)
  · rw [if_pos c, if_pos (c.imp id (ell_core h).mpr)]
  · rw [if_neg c, if_neg (fun z => c (z.imp id (ell_core h).mp))]
theorem LEFf_core (h : CORE G' G) : ∀ d p fr w, LEFf G' r x rp d p fr w = LEFf G r x rp d p fr w := by
  have h' := h
  obtain ⟨e10, e11, e12, e13, e18⟩ := h
  have ec : ∀ p k, CH G' p k = CH G p k := fun p k => by simp only [CH, e11, e13]
  have el : ∀ y, LIT G' r y = LIT G r y := fun y => by unfold LIT; rw [e11, e12, ec, show CH G' (CH G r 1) = CH G (CH G r 1) from funext (ec _)]
  intro d
  induction d with
  | zero => intros; rfl
  | succ d ih =>
    intro p fr w
    unfold LEFf
    refine sumW_congr2 _ (by rw [e12]) (fun k h1 h2 => ?_)
    refine ite_iff (ell_core h') (fun _ => rfl) (fun _ => ite_iff (by rw [e10, ec]) (fun _ => ?_) (fun c2 => ?_))
    · rw [more_core h', ih, ec]
    · refine ite_iff ?_ (fun _ => rfl) (fun _ => rfl)
      rw [more_core h', ec, e11]
      constructor
      · intro z; exact ⟨⟨(bnd_core h').mp z.1.1, by have := z.1.2; rw [el, e11] at this; exact this⟩, z.2⟩
      · intro z; exact ⟨⟨(bnd_core h').mpr z.1.1, by rw [el, e11]; exact z.1.2⟩, z.2⟩
theorem PATf_core (h : CORE G' G) : ∀ d p fr w, PATf G' d p fr w ↔ PATf G d p fr w := by
  have h' := h
  obtain ⟨e10, e11, e12, e13, e18⟩ := h
  have ec : ∀ p k, CH G' p k = CH G p k := fun p k => by simp only [CH, e11, e13]
  intro d
  induction d with
  | zero => intros; exact Iff.rfl
  | succ d ih =>
    intro p fr w
    unfold PATf
    constructor
    · intro q k h1 h2
      have z := q k h1 (by rw [e12]; exact h2)
      rw [ell_core h', more_core h', ec, e10, e12, ih] at z
      exact z
    · intro q k h1 h2
      have z := q k h1 (by rw [← e12]; exact h2)
      rw [ell_core h', more_core h', ec, e10, e12, ih]
      exact z
theorem TEMf_core (h : CORE G' G) : ∀ d p, TEMf G' E d p ↔ TEMf G E d p := by
  have h' := h
  obtain ⟨e10, e11, e12, e13, e18⟩ := h
  have ec : ∀ p k, CH G' p k = CH G p k := fun p k => by simp only [CH, e11, e13]
  intro d
  induction d with
  | zero => intros; exact Iff.rfl
  | succ d ih =>
    intro p
    unfold TEMf
    simp only [ell_core h', ih, ec, e10, e11, e12]
theorem LEF_eq (h : CORE G' G) {p fr w : Nat} : LEF G' sz r x rp p fr w = LEF G sz r x rp p fr w := LEFf_core h _ _ _ _
theorem TEM_eq (h : CORE G' G) {f : Nat} : TEM G' sz E f = TEM G sz E f := propext (TEMf_core h _ _)
theorem PATOK_eq (h : CORE G' G) {top : Nat} : PATOK G' sz r top = PATOK G sz r top := by
  unfold PATOK
  rw [show PAT G' sz top 1 0 = PAT G sz top 1 0 from propext (PATf_core h _ _ _ _)]
  simp only [LEF_eq h]
end CO
