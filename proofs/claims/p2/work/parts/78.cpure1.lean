
theorem upd_at {f : Nat → Int32} {t : Int} {v : Int32} : upd f t.toNat v t.toNat = v := by simp [upd]
theorem upd_ni {f : Nat → Int32} {t p : Int} {v : Int32} (h0 : 0 ≤ p) (h1 : 0 ≤ t) (h : p ≠ t) : upd f t.toNat v p.toNat = f p.toNat := by
  unfold upd
  rw [if_neg (by omega)]
/-- no form between lo and b reaches beyond b -/
def CUT (f : Nat → Int32) (lo b : Int) : Prop := ∀ p : Int, lo ≤ p → p < b → p + (f p.toNat).toInt ≤ b
/-- what holds of the forms: spans nest, below k the kept ones, from 4000 to t those in use -/
def FI (f : Nat → Int32) (D : Int → Nat) (gf : Nat) (k t : Int) : Prop := SPR f ∧ NST f D gf ∧ (0 ≤ k ∧ k ≤ 4000 ∧ 4000 ≤ t ∧ t ≤ (gf : Int)) ∧ CUT f 0 k ∧ CUT f 0 4000 ∧ CUT f 4000 t
theorem CUT_agree {f g : Nat → Int32} {lo b : Int} (h : CUT f lo b) (ha : ∀ p : Int, lo ≤ p → p < b → g p.toNat = f p.toNat) : CUT g lo b := fun p h1 h2 => by rw [ha p h1 h2]; exact h p h1 h2
theorem FI_add {f : Nat → Int32} {D : Int → Nat} {gf : Nat} {k t : Int} (h : FI f D gf k t) (ht : t < (gf : Int)) (e : Nat) (he : e ≤ 61) : FI (upd f t.toNat (oI 1)) (fun p => if p = t then e else D p) gf k (t + 1) := by
  obtain ⟨h1, h2, h3, h4, h5, h6⟩ := h
  have one : (oI 1).toInt = 1 := by decide
  refine ⟨?_, ⟨?_, ?_⟩, by omega, ?_, ?_, ?_⟩
  · intro i
    unfold upd
    split
    · rw [one]; omega
    · exact h1 i
  · intro p
    show (if p = t then e else D p) ≤ 61
    split
    · exact he
    · exact h2.1 p
  · intro p p0 p1
    by_cases hp : p = t
    · subst hp
      rw [upd_at, one]
      exact ⟨by omega, fun q q1 q2 => by omega⟩
    · rw [upd_ni p0 (by omega) hp]
      obtain ⟨g1, g2⟩ := h2.2 p p0 p1
      refine ⟨g1, fun q q1 q2 => ?_⟩
      have hq : q ≠ t := by
        intro hq
        subst hq
        by_cases p4 : p < 4000
        · have := h5 p p0 p4; omega
        · have := h6 p (by omega) q1; omega
      show (if q = t then e else D q) < (if p = t then e else D p) ∧ _
      rw [if_neg hq, if_neg hp, upd_ni (by omega) (by omega) hq]
      exact g2 q q1 q2
  · exact CUT_agree h4 (fun p a b => upd_ni a (by omega) (by omega))
  · exact CUT_agree h5 (fun p a b => upd_ni a (by omega) (by omega))
  · intro p a b
    by_cases hp : p = t
    · subst hp
      rw [upd_at, one]; omega
    · rw [upd_ni (by omega) (by omega) hp]
      have := h6 p a (by omega)
      omega
theorem FI_end {f : Nat → Int32} {D : Int → Nat} {gf : Nat} {k t o : Int} (hg : gf ≤ 67600) (h : FI f D gf k t) (h0 : 4000 ≤ o) (h1 : o < t) (hc : CUT f 4000 o) (hd : ∀ q, o < q → q < t → D q < D o) : FI (upd f o.toNat (oI (t - o))) D gf k t := by
  obtain ⟨a1, a2, a3, a4, a5, a6⟩ := h
  have one : (oI (t - o)).toInt = t - o := toInt_oI (by omega)
  refine ⟨?_, ⟨a2.1, ?_⟩, a3, ?_, ?_, ?_⟩
  · intro i
    unfold upd
    split
    · rw [one]; omega
    · exact a1 i
  · intro p p0 p1
    by_cases hp : p = o
    · subst hp
      rw [upd_at, one]
      refine ⟨by omega, fun q q1 q2 => ⟨hd q q1 (by omega), ?_⟩⟩
      rw [upd_ni (by omega) (by omega) (by omega)]
      have := a6 q (by omega) (by omega)
      omega
    · rw [upd_ni p0 (by omega) hp]
      obtain ⟨g1, g2⟩ := a2.2 p p0 p1
      refine ⟨g1, fun q q1 q2 => ?_⟩
      have hq : q ≠ o := by
        intro hq
        subst hq
        by_cases p4 : p < 4000
        · have := a5 p p0 p4; omega
        · have := hc p (by omega) q1; omega
      rw [upd_ni (by omega) (by omega) hq]
      exact g2 q q1 q2
  · exact CUT_agree a4 (fun p a b => upd_ni a (by omega) (by omega))
  · exact CUT_agree a5 (fun p a b => upd_ni a (by omega) (by omega))
  · intro p a b
    by_cases hp : p = o
    · subst hp
      rw [upd_at, one]; omega
    · rw [upd_ni (by omega) (by omega) hp]
      exact a6 p a b
theorem upd_lt {f : Nat → Int32} {t p : Int} {v : Int32} (h1 : 0 < t) (h : p < t) : upd f t.toNat v p.toNat = f p.toNat := by
  unfold upd
  rw [if_neg (by omega)]
/-- forms were put behind those that were there: none of these changed -/
def GR (f : Nat → Int32) (D : Int → Nat) (t : Int) (f1 : Nat → Int32) (D1 : Int → Nat) (t1 : Int) (e : Int) : Prop := t ≤ t1 ∧ (∀ p : Int, p < t → f1 p.toNat = f p.toNat ∧ D1 p = D p) ∧ ∀ q : Int, t ≤ q → q < t1 → (D1 q : Int) ≤ e
theorem GR_rf {f : Nat → Int32} {D : Int → Nat} {t e : Int} : GR f D t f D t e := ⟨Int.le_refl _, fun _ _ => ⟨rfl, rfl⟩, fun q a b => by omega⟩
theorem GR_tr {f f1 f2 : Nat → Int32} {D D1 D2 : Int → Nat} {t t1 t2 e1 e2 e : Int} (h1 : GR f D t f1 D1 t1 e1) (h2 : GR f1 D1 t1 f2 D2 t2 e2) (he1 : e1 ≤ e) (he2 : e2 ≤ e) : GR f D t f2 D2 t2 e := by
  obtain ⟨a1, a2, a3⟩ := h1
  obtain ⟨b1, b2, b3⟩ := h2
  refine ⟨by omega, fun p p1 => ?_, fun q q0 q1 => ?_⟩
  · obtain ⟨x1, x2⟩ := a2 p p1
    obtain ⟨y1, y2⟩ := b2 p (by omega)
    exact ⟨y1.trans x1, y2.trans x2⟩
  · by_cases hq : q < t1
    · rw [(b2 q hq).2]
      have := a3 q q0 hq
      omega
    · have := b3 q (by omega) q1
      omega
/-- the list that is being made: none, or the first form behind those that were there -/
def LI (D1 : Int → Nat) (t t1 li z : Int) : Prop := li = -1 ∨ (li = t ∧ t < t1 ∧ (D1 t : Int) = 61 - z ∧ ∀ q, t < q → q < t1 → (D1 q : Int) ≤ 60 - z)
/-- one form is put behind, or none -/
theorem MK_add {f f1 : Nat → Int32} {D : Int → Nat} {gf : Nat} {k t t1 r z : Int} (h : FI f D gf k t) (hz : 0 ≤ z ∧ z ≤ 61)
    (ha : ((0 ≤ t ∧ t < (gf : Int)) ∧ r = t ∧ t1 = t + 1 ∧ f1 = upd f t.toNat (oI 1)) ∨ (r = -1 ∧ t1 = t ∧ f1 = f)) :
    ∃ D1, FI f1 D1 gf k t1 ∧ GR f D t f1 D1 t1 (61 - z) ∧ LI D1 t t1 r z := by
  have ht := h.2.2.1
  rcases ha with ⟨b, e1, e2, e3⟩ | ⟨e1, e2, e3⟩
  · subst e2; subst e3
    refine ⟨_, FI_add h b.2 (61 - z).toNat (by omega), ⟨by omega, fun p p1 => ⟨upd_lt (by omega) p1, ?_⟩, fun q q0 q1 => ?_⟩, Or.inr ⟨e1, by omega, ?_, fun q q0 q1 => by omega⟩⟩
    · show (if p = t then _ else D p) = D p
      rw [if_neg (by omega)]
    · show ((if q = t then (61 - z).toNat else D q : Nat) : Int) ≤ _
      rw [if_pos (by omega)]; omega
    · show ((if t = t then (61 - z).toNat else D t : Nat) : Int) = _
      rw [if_pos rfl]; omega
  · subst e2; subst e3
    exact ⟨D, h, GR_rf, Or.inl e1⟩
/-- what is put into the list that is being made -/
theorem MK_step {f f1 f2 : Nat → Int32} {D D1 D2 : Int → Nat} {t t1 t2 li z : Int} (hG : GR f D t f1 D1 t1 (61 - z)) (hL : LI D1 t t1 li z) (hG2 : GR f1 D1 t1 f2 D2 t2 (61 - (z + 1))) : GR f D t f2 D2 t2 (61 - z) ∧ LI D2 t t2 li z := by
  refine ⟨GR_tr hG hG2 (Int.le_refl _) (by omega), ?_⟩
  rcases hL with h | ⟨h1, h2, h3, h4⟩
  · exact Or.inl h
  · obtain ⟨b1, b2, b3⟩ := hG2
    refine Or.inr ⟨h1, by omega, by rw [(b2 t h2).2]; exact h3, fun q q0 q1 => ?_⟩
    by_cases hq : q < t1
    · rw [(b2 q hq).2]; exact h4 q q0 hq
    · have := b3 q (by omega) q1
      omega
/-- the list's end -/
theorem MK_end {f f1 f2 : Nat → Int32} {D D1 : Int → Nat} {gf : Nat} {k t t1 li z : Int} (hg : gf ≤ 67600) (h0 : FI f D gf k t) (h : FI f1 D1 gf k t1) (hG : GR f D t f1 D1 t1 (61 - z)) (hL : LI D1 t t1 li z)
    (he : ((0 ≤ li ∧ li < t1 ∧ li < (gf : Int)) ∧ f2 = upd f1 li.toNat (oI (t1 - li))) ∨ (¬ (0 ≤ li ∧ li < t1 ∧ li < (gf : Int)) ∧ f2 = f1)) : FI f2 D1 gf k t1 ∧ GR f D t f2 D1 t1 (61 - z) := by
  have ht := h0.2.2.1
  rcases he with ⟨b, e⟩ | ⟨-, e⟩
  · subst e
    rcases hL with hl | ⟨hl, l1, l2, l3⟩
    · omega
    · subst hl
      refine ⟨FI_end hg h ht.2.2.1 b.2.1 (CUT_agree h0.2.2.2.2.2 (fun p p0 p1 => (hG.2.1 p p1).1)) (fun q q0 q1 => by have := l3 q q0 q1; omega), hG.1, fun p p1 => ?_, hG.2.2⟩
      rw [upd_lt (by omega) p1]
      exact hG.2.1 p p1
  · subst e
    exact ⟨h, hG⟩
theorem FI_sp {f : Nat → Int32} {D : Int → Nat} {gf : Nat} {k t : Int} (h : FI f D gf k t) : SPR f := h.1
theorem FI_ns {f : Nat → Int32} {D : Int → Nat} {gf : Nat} {k t : Int} (h : FI f D gf k t) : NST f D gf := h.2.1
theorem FI_b {f : Nat → Int32} {D : Int → Nat} {gf : Nat} {k t : Int} (h : FI f D gf k t) : 0 ≤ k ∧ k ≤ 4000 ∧ 4000 ≤ t ∧ t ≤ (gf : Int) := h.2.2.1
