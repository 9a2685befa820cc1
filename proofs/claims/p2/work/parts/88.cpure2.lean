
/-- what is left of the rows that are being told -/
def PSI (nx en : Nat → Int32) : Nat → Nat
  | 0 => 0
  | n + 1 => PSI nx en n + ((en n).toInt - (nx n).toInt).toNat
theorem PSI_ge {nx en : Nat → Int32} {j : Nat} {u v : Int32} : ∀ {n : Nat}, n ≤ j → PSI (upd nx j u) (upd en j v) n = PSI nx en n ∧ PSI (upd nx j u) en n = PSI nx en n
  | 0, _ => ⟨rfl, rfl⟩
  | n + 1, h => by
    have h1 := PSI_ge (nx := nx) (en := en) (j := j) (u := u) (v := v) (n := n) (by omega)
    have e1 : upd nx j u n = nx n := by unfold upd; rw [if_neg (by omega)]
    have e2 : upd en j v n = en n := by unfold upd; rw [if_neg (by omega)]
    unfold PSI
    rw [h1.1, h1.2, e1, e2]
    exact ⟨rfl, rfl⟩
theorem PSI_en {nx en : Nat → Int32} {n : Nat} {u v : Int32} : PSI (upd nx n u) (upd en n v) (n + 1) = PSI nx en n + (v.toInt - u.toInt).toNat := by
  show PSI (upd nx n u) (upd en n v) n + ((upd en n v n).toInt - (upd nx n u n).toInt).toNat = _
  rw [(PSI_ge (Nat.le_refl n)).1]
  simp [upd]
theorem PSI_pop {nx en : Nat → Int32} {n : Nat} {u : Int32} : PSI (upd nx n u) en (n + 1) + ((en n).toInt - (nx n).toInt).toNat = PSI nx en (n + 1) + ((en n).toInt - u.toInt).toNat := by
  show PSI (upd nx n u) en n + ((en n).toInt - (upd nx n u n).toInt).toNat + _ = PSI nx en n + ((en n).toInt - (nx n).toInt).toNat + _
  rw [(PSI_ge (v := 0) (Nat.le_refl n)).2]
  simp [upd]
  omega
theorem PSI_le {nx en : Nat → Int32} {n : Nat} : PSI nx en n ≤ PSI nx en (n + 1) := Nat.le_add_right _ _
/-- the frames: rows that end where forms end, what to go back to -/
def FRM (f : Nat → Int32) (nx en fb : Nat → Int32) (n t e : Int) : Prop := (4000 ≤ e ∧ e ≤ t ∧ CUT f 4000 e) ∧ ∀ i : Int, 0 ≤ i → i < n → (4000 ≤ (nx i.toNat).toInt ∧ (en i.toNat).toInt ≤ t ∧ CUT f (nx i.toNat).toInt (en i.toNat).toInt) ∧ (e ≤ (fb i.toNat).toInt ∧ (fb i.toNat).toInt ≤ t ∧ CUT f 4000 (fb i.toNat).toInt) ∧ ∀ j : Int, i < j → j < n → (en i.toNat).toInt ≤ (fb j.toNat).toInt ∧ (fb i.toNat).toInt ≤ (fb j.toNat).toInt
/-- what the next frame goes back to -/
def PND (f : Nat → Int32) (en fb : Nat → Int32) (n t e : Int) : Prop := n < 101 → (e ≤ (fb n.toNat).toInt ∧ (fb n.toNat).toInt ≤ t ∧ CUT f 4000 (fb n.toNat).toInt) ∧ ∀ i : Int, 0 ≤ i → i < n → (en i.toNat).toInt ≤ (fb n.toNat).toInt ∧ (fb i.toNat).toInt ≤ (fb n.toNat).toInt
theorem FRM_ag {f f1 nx en fb : Nat → Int32} {n t t1 e : Int} (h : FRM f nx en fb n t e) (ht : t ≤ t1) (ha : ∀ p : Int, 4000 ≤ p → p < t → f1 p.toNat = f p.toNat) : FRM f1 nx en fb n t1 e := by
  obtain ⟨⟨h1, h2, h3⟩, h4⟩ := h
  refine ⟨⟨h1, by omega, CUT_agree h3 (fun p p0 p1 => ha p p0 (by omega))⟩, fun i i0 i1 => ?_⟩
  obtain ⟨⟨a1, a2, a3⟩, ⟨b1, b2, b3⟩, c⟩ := h4 i i0 i1
  exact ⟨⟨a1, by omega, CUT_agree a3 (fun p p0 p1 => ha p (by omega) (by omega))⟩, ⟨b1, by omega, CUT_agree b3 (fun p p0 p1 => ha p p0 (by omega))⟩, c⟩
theorem PND_ag {f f1 en fb : Nat → Int32} {n t t1 e : Int} (h : PND f en fb n t e) (ht : t ≤ t1) (ha : ∀ p : Int, 4000 ≤ p → p < t → f1 p.toNat = f p.toNat) : PND f1 en fb n t1 e := by
  intro hn
  obtain ⟨⟨a1, a2, a3⟩, b⟩ := h hn
  exact ⟨⟨a1, by omega, CUT_agree a3 (fun p p0 p1 => ha p p0 (by omega))⟩, b⟩
theorem FRM_en {f nx en fb nx1 en1 : Nat → Int32} {n n1 t e x y : Int} (h : FRM f nx en fb n t e) (hp : PND f en fb n t e) (hn : 0 ≤ n ∧ n ≤ 101) (hen : (n < 101 ∧ n1 = n + 1 ∧ nx1 = upd nx n.toNat (oI x) ∧ en1 = upd en n.toNat (oI y)) ∨ (n = 101 ∧ n1 = n ∧ nx1 = nx ∧ en1 = en)) (hx : 4000 ≤ x ∧ x < 2147483648) (hy : -2147483648 ≤ y ∧ y ≤ t ∧ y < 2147483648) (hc : CUT f x y) : FRM f nx1 en1 fb n1 t e ∧ PSI nx1 en1 n1.toNat ≤ PSI nx en n.toNat + (y - x).toNat ∧ n1 ≤ n + 1 ∧ 0 ≤ n1 ∧ n1 ≤ 101 := by
  rcases hen with ⟨h0, e1, e2, e3⟩ | ⟨h0, e1, e2, e3⟩
  · subst e1; subst e2; subst e3
    obtain ⟨p1, p2⟩ := hp h0
    refine ⟨⟨h.1, fun i i0 i1 => ?_⟩, ?_, by omega, by omega, by omega⟩
    · by_cases hi : i = n
      · subst hi
        rw [upd_at, upd_at, toInt_oI (by omega), toInt_oI (by omega)]
        exact ⟨⟨hx.1, hy.2.1, hc⟩, p1, fun j j0 j1 => by omega⟩
      · rw [upd_ni i0 hn.1 hi, upd_ni i0 hn.1 hi]
        obtain ⟨a, b, c⟩ := h.2 i i0 (by omega)
        refine ⟨a, b, fun j j0 j1 => ?_⟩
        by_cases hj : j = n
        · subst hj
          exact p2 i i0 j0
        · exact c j j0 (by omega)
    · have en1 : (n + 1).toNat = n.toNat + 1 := by omega
      rw [en1, PSI_en, toInt_oI (by omega), toInt_oI (by omega)]
      exact Nat.le_refl _
  · subst e1; subst e2; subst e3
    exact ⟨h, Nat.le_add_right _ _, by omega, by omega, by omega⟩
theorem FRM_rem {f nx en fb fb1 : Nat → Int32} {D : Int → Nat} {gf : Nat} {k n t e : Int} (hf : FI f D gf k t) (hg : gf ≤ 67600) (h : FRM f nx en fb n t e) (hn : 0 ≤ n ∧ n ≤ 101) (hre : (n < 101 ∧ fb1 = upd fb n.toNat (oI t)) ∨ (n = 101 ∧ fb1 = fb)) : FRM f nx en fb1 n t e ∧ PND f en fb1 n t e := by
  have hb := FI_b hf
  rcases hre with ⟨h0, e1⟩ | ⟨h0, e1⟩
  · subst e1
    constructor
    · refine ⟨h.1, fun i i0 i1 => ?_⟩
      obtain ⟨a, b, c⟩ := h.2 i i0 i1
      rw [upd_ni i0 hn.1 (by omega)]
      refine ⟨a, b, fun j j0 j1 => ?_⟩
      rw [upd_ni (by omega) hn.1 (by omega)]
      exact c j j0 j1
    · intro _
      rw [upd_at, toInt_oI (by omega)]
      refine ⟨⟨h.1.2.1, Int.le_refl _, hf.2.2.2.2.2⟩, fun i i0 i1 => ?_⟩
      obtain ⟨a, b, c⟩ := h.2 i i0 i1
      rw [upd_ni i0 hn.1 (by omega)]
      exact ⟨a.2.1, b.2.1⟩
  · subst e1
    exact ⟨h, fun hh => by omega⟩
theorem FRM_leave {f nx en fb : Nat → Int32} {D : Int → Nat} {gf : Nat} {k n t e : Int} (hf : FI f D gf k t) (h : FRM f nx en fb n t e) (hn : 0 < n) : FRM f nx en fb (n - 1) (fb (n - 1).toNat).toInt e ∧ FI f D gf k (fb (n - 1).toNat).toInt ∧ PSI nx en (n - 1).toNat ≤ PSI nx en n.toNat := by
  obtain ⟨h1, h4⟩ := h
  obtain ⟨a, b, c⟩ := h4 (n - 1) (by omega) (by omega)
  obtain ⟨f1, f2, f3, f4, f5, f6⟩ := hf
  refine ⟨⟨⟨h1.1, b.1, h1.2.2⟩, fun i i0 i1 => ?_⟩, ⟨f1, f2, by omega, f4, f5, b.2.2⟩, ?_⟩
  · obtain ⟨a1, b1, c1⟩ := h4 i i0 (by omega)
    obtain ⟨q1, q2⟩ := c1 (n - 1) (by omega) (by omega)
    exact ⟨⟨a1.1, q1, a1.2.2⟩, ⟨b1.1, q2, b1.2.2⟩, fun j j0 j1 => c1 j j0 (by omega)⟩
  · have : n.toNat = (n - 1).toNat + 1 := by omega
    rw [this]
    exact PSI_le
theorem CUT_af {f : Nat → Int32} {gf : Nat} {lo b q : Int} (h : CUT f lo b) (h1 : lo ≤ q) (h2 : q < b) : AF f gf q ≤ b := by
  have := AF_cases f gf q
  have := h q h1 h2
  omega
theorem CUT_in {f : Nat → Int32} {D : Int → Nat} {gf : Nat} (hs : SPR f) (h : NST f D gf) {p a : Int} (ha : p < a) : CUT f a (AF f gf p) := by
  intro q q0 q1
  have h1 := (NST_af h (by omega) q1).2.1
  have h2 := AF_cases f gf q
  have h3 := hs q.toNat
  have h4 := NST_af h (p := p) (q := q) (by omega) q1
  omega
theorem FRM_pop {f nx en fb nx1 : Nat → Int32} {gf : Nat} {n t e : Int} (hs : SPR f) (hg : t ≤ 70000) (h : FRM f nx en fb n t e) (hn : 0 < n) (hx : (nx (n - 1).toNat).toInt < (en (n - 1).toNat).toInt) (h1 : nx1 = upd nx (n - 1).toNat (oI (AF f gf (nx (n - 1).toNat).toInt))) :
    FRM f nx1 en fb n t e ∧ 4000 ≤ (nx (n - 1).toNat).toInt ∧ AF f gf (nx (n - 1).toNat).toInt ≤ (en (n - 1).toNat).toInt ∧ (en (n - 1).toNat).toInt ≤ t ∧ (PSI nx1 en n.toNat : Int) + (AF f gf (nx (n - 1).toNat).toInt - (nx (n - 1).toNat).toInt) = PSI nx en n.toNat := by
  subst h1
  obtain ⟨g1, g2⟩ := h
  obtain ⟨a, b, c⟩ := g2 (n - 1) (by omega) (by omega)
  have ha := CUT_af (gf := gf) a.2.2 (Int.le_refl _) hx
  have hb := AF_b hs gf (nx (n - 1).toNat).toInt
  refine ⟨⟨g1, fun i i0 i1 => ?_⟩, a.1, ha, a.2.1, ?_⟩
  · by_cases hi : i = n - 1
    · subst hi
      rw [upd_at, toInt_oI (by omega)]
      exact ⟨⟨by omega, a.2.1, fun q q0 q1 => a.2.2 q (by omega) q1⟩, b, c⟩
    · rw [upd_ni i0 (by omega) hi]
      exact g2 i i0 i1
  · have en1 : n.toNat = (n - 1).toNat + 1 := by omega
    have := PSI_pop (nx := nx) (en := en) (n := (n - 1).toNat) (u := oI (AF f gf (nx (n - 1).toNat).toInt))
    rw [toInt_oI (by omega)] at this
    rw [en1]
    omega
theorem GR_ag {f f1 : Nat → Int32} {D D1 : Int → Nat} {t t1 e : Int} (h : GR f D t f1 D1 t1 e) : ∀ p : Int, 4000 ≤ p → p < t → f1 p.toNat = f p.toNat := fun p _ h2 => (h.2.1 p h2).1
/-- a rule is kept -/
theorem FI_keep {f : Nat → Int32} {D : Int → Nat} {gf : Nat} {k t x n : Int} (h : FI f D gf k t) (hx : 4000 ≤ x) (hn : 0 ≤ n) (hn2 : (x < (gf : Int) ∧ n = (f x.toNat).toInt) ∨ n = 0) (hxn : x + n ≤ (gf : Int)) (hk : k + n ≤ 4000) :
    FI (va_cpy f f x.toNat k.toNat n.toNat) (fun p => if k ≤ p ∧ p < k + n then D (p - k + x) else D p) gf (k + n) t ∧ (∀ p : Int, p < k → va_cpy f f x.toNat k.toNat n.toNat p.toNat = f p.toNat ∨ p < 0) ∧ ∀ p : Int, 4000 ≤ p → va_cpy f f x.toNat k.toNat n.toNat p.toNat = f p.toNat := by
  obtain ⟨h1, h2, h3, h4, h5, h6⟩ := h
  have ein : ∀ p : Int, k ≤ p → p < k + n → va_cpy f f x.toNat k.toNat n.toNat p.toNat = f (p - k + x).toNat := by
    intro p p0 p1
    unfold va_cpy
    rw [if_pos (by omega)]
    congr 1; omega
  have eout : ∀ p : Int, 0 ≤ p → ¬ (k ≤ p ∧ p < k + n) → va_cpy f f x.toNat k.toNat n.toNat p.toNat = f p.toNat := by
    intro p p0 p1
    unfold va_cpy
    rw [if_neg (by omega)]
  have inn : ∀ p : Int, k ≤ p → p < k + n → p + (f (p - k + x).toNat).toInt ≤ k + n ∧ ∀ q : Int, p < q → q < p + (f (p - k + x).toNat).toInt → D (q - k + x) < D (p - k + x) ∧ q + (f (q - k + x).toNat).toInt ≤ p + (f (p - k + x).toNat).toInt := by
    intro p p0 p1
    rcases hn2 with ⟨x1, hn2⟩ | hn2
    · have hh := h2.2 x (by omega) x1
      obtain ⟨g1, g2⟩ := h2.2 (p - k + x) (by omega) (by omega)
      constructor
      · by_cases hp : p = k
        · subst hp
          rw [show p - p + x = x by omega]; omega
        · have := (hh.2 (p - k + x) (by omega) (by omega)).2
          omega
      · intro q q0 q1
        have := g2 (q - k + x) (by omega) (by omega)
        exact ⟨this.1, by omega⟩
    · omega
  refine ⟨⟨?_, ⟨?_, ?_⟩, by omega, ?_, ?_, ?_⟩, fun p p1 => ?_, fun p p0 => eout p (by omega) (by omega)⟩
  · intro i
    unfold va_cpy
    split
    · exact h1 _
    · exact h1 i
  · intro p
    show (if k ≤ p ∧ p < k + n then D (p - k + x) else D p) ≤ 61
    split
    · exact h2.1 _
    · exact h2.1 _
  · intro p p0 p1
    by_cases hp : k ≤ p ∧ p < k + n
    · rw [ein p hp.1 hp.2]
      obtain ⟨i1, i2⟩ := inn p hp.1 hp.2
      refine ⟨by omega, fun q q0 q1 => ?_⟩
      show (if k ≤ q ∧ q < k + n then D (q - k + x) else D q) < (if k ≤ p ∧ p < k + n then D (p - k + x) else D p) ∧ _
      rw [if_pos hp, if_pos (by omega), ein q (by omega) (by omega)]
      exact i2 q q0 q1
    · rw [eout p p0 hp]
      obtain ⟨g1, g2⟩ := h2.2 p p0 p1
      refine ⟨g1, fun q q0 q1 => ?_⟩
      have hq : ¬ (k ≤ q ∧ q < k + n) := by
        by_cases pk : p < k
        · have := h4 p p0 pk; omega
        · omega
      show (if k ≤ q ∧ q < k + n then D (q - k + x) else D q) < (if k ≤ p ∧ p < k + n then D (p - k + x) else D p) ∧ _
      rw [if_neg hp, if_neg hq, eout q (by omega) hq]
      exact g2 q q0 q1
  · intro p p0 p1
    by_cases hp : k ≤ p ∧ p < k + n
    · rw [ein p hp.1 hp.2]; exact (inn p hp.1 hp.2).1
    · rw [eout p p0 hp]
      have := h4 p p0 (by omega)
      omega
  · intro p p0 p1
    by_cases hp : k ≤ p ∧ p < k + n
    · rw [ein p hp.1 hp.2]
      have := (inn p hp.1 hp.2).1
      omega
    · rw [eout p p0 hp]
      exact h5 p p0 p1
  · exact CUT_agree h6 (fun p p0 p1 => eout p (by omega) (by omega))
  · by_cases p9 : p < 0
    · exact Or.inr p9
    · exact Or.inl (eout p (by omega) (by omega))
theorem VB_cpy {f g : Nat → Int32} {a b n : Nat} (hf : VB f) (hg : VB g) : VB (va_cpy f g a b n) := by
  intro i
  unfold va_cpy
  split
  · exact hf _
  · exact hg _
