def oX12_setCounts : List Cond := [Cond.fieldLink RX12 38 "MacroScopesModel" "counts" "[I", Cond.fieldLink RX12 107 "MacroScopesModel" "inner" "[I", Cond.methodLink RX12 192 yX12_part, Cond.instanceMethod yX12_part, Cond.selects RX12 yX12_part yX12_part, Cond.initialized RX12, Cond.methodLink RX12 180 yX12_isName, Cond.instanceMethod yX12_isName, Cond.selects RX12 yX12_isName yX12_isName, Cond.fieldLink RX12 35 "MacroScopesModel" "values" "[I", Cond.methodLink RX12 327 yX12_variable, Cond.instanceMethod yX12_variable, Cond.selects RX12 yX12_variable yX12_variable, Cond.fieldLink RX12 113 "MacroScopesModel" "matchCount" "[I"]
def vX12_setCounts : List Cond := .code yX12_setCounts cX12_setCounts 7 none :: (oX12_setCounts ++ (vX12_part ++ (vX12_isName ++ (vX12_variable ++ (wsX120)))))
theorem lkX12_setCounts_f38 : Cond.fieldLink RX12 38 "MacroScopesModel" "counts" "[I" ∈ vX12_setCounts := List.mem_cons_of_mem _ (List.mem_append_left _ (List.mem_of_getElem? (i := 0) rfl))
theorem lkX12_setCounts_f107 : Cond.fieldLink RX12 107 "MacroScopesModel" "inner" "[I" ∈ vX12_setCounts := List.mem_cons_of_mem _ (List.mem_append_left _ (List.mem_of_getElem? (i := 1) rfl))
theorem lkX12_setCounts_f35 : Cond.fieldLink RX12 35 "MacroScopesModel" "values" "[I" ∈ vX12_setCounts := List.mem_cons_of_mem _ (List.mem_append_left _ (List.mem_of_getElem? (i := 9) rfl))
theorem lkX12_setCounts_f113 : Cond.fieldLink RX12 113 "MacroScopesModel" "matchCount" "[I" ∈ vX12_setCounts := List.mem_cons_of_mem _ (List.mem_append_left _ (List.mem_of_getElem? (i := 13) rfl))
theorem inX12_setCounts : ∀ w ∈ wsX120, w ∈ vX12_setCounts := fun w h => List.mem_cons_of_mem _ (List.mem_append_right _ (List.mem_append_right _ (List.mem_append_right _ (List.mem_append_right _ (h)))))
theorem kX12_setCounts_X12_part_192 : GoodIn vX12_setCounts (wsV RX12 192 RX12 yX12_part vX12_part) := goodIn_sub (fun w h => (List.mem_append.mp h).elim (fun h => List.mem_cons_of_mem _ (List.mem_append_left _ ((by decide +kernel : ∀ w ∈ ([.methodLink RX12 192 yX12_part, .instanceMethod yX12_part, .selects RX12 yX12_part yX12_part, .initialized RX12] : List Cond), w ∈ oX12_setCounts) w h))) (fun h => List.mem_cons_of_mem _ (List.mem_append_right _ (List.mem_append_left _ (h))))) (by decide +kernel)
theorem kX12_setCounts_X12_isName_180 : GoodIn vX12_setCounts (wsV RX12 180 RX12 yX12_isName vX12_isName) := goodIn_sub (fun w h => (List.mem_append.mp h).elim (fun h => List.mem_cons_of_mem _ (List.mem_append_left _ ((by decide +kernel : ∀ w ∈ ([.methodLink RX12 180 yX12_isName, .instanceMethod yX12_isName, .selects RX12 yX12_isName yX12_isName, .initialized RX12] : List Cond), w ∈ oX12_setCounts) w h))) (fun h => List.mem_cons_of_mem _ (List.mem_append_right _ (List.mem_append_right _ (List.mem_append_left _ (h)))))) (by decide +kernel)
theorem kX12_setCounts_X12_variable_327 : GoodIn vX12_setCounts (wsV RX12 327 RX12 yX12_variable vX12_variable) := goodIn_sub (fun w h => (List.mem_append.mp h).elim (fun h => List.mem_cons_of_mem _ (List.mem_append_left _ ((by decide +kernel : ∀ w ∈ ([.methodLink RX12 327 yX12_variable, .instanceMethod yX12_variable, .selects RX12 yX12_variable yX12_variable, .initialized RX12] : List Cond), w ∈ oX12_setCounts) w h))) (fun h => List.mem_cons_of_mem _ (List.mem_append_right _ (List.mem_append_right _ (List.mem_append_right _ (List.mem_append_left _ (h))))))) (by decide +kernel)
theorem up5654 {G : Nat → Nat → Nat} {M I M2 : Nat → Nat} : va_up (va_up (va_up G 56 M) 54 I) 56 M2 = va_up (va_up G 56 M2) 54 I := by
  funext k
  by_cases h2 : k = 56
  · simp [va_up, h2]
  · by_cases h1 : k = 54
    · simp [va_up, h1]
    · simp [va_up, h1, h2]
/-- what holds while setCounts goes through a form -/
def SCI (N : Nat → Nat) (G : Nat → Nat → Nat) (sz : Nat → Nat) (f many : Nat) (M : Nat → Nat) (n : Nat) (I : Nat → Nat) : Prop :=
  (∀ x v, OC G sz f x → VAR N G x = v + 1 → M v = many ∨ ∃ i, i < n ∧ OC G sz (I i) x) ∧ (∀ v, M v = G 56 v ∨ (M v = many ∧ ∃ x, OC G sz f x ∧ VAR N G x = v + 1)) ∧ ∀ i, i < n → ∀ x, OC G sz (I i) x → OC G sz f x
theorem SCI.pop {N : Nat → Nat} {G : Nat → Nat → Nat} {sz : Nat → Nat} {f many : Nat} {M : Nat → Nat} {n1 : Nat} {I I2 : Nat → Nat} (ht : TREE N G sz) (h : SCI N G sz f many M (n1 + 1) I) (hI : I n1 < N 14) (hp : PUSHED G n1 (I n1) (G 12 (I n1)) I I2) (M2 : Nat → Nat)
    (h1 : ∀ v, M v = many → M2 v = many) (h2 : ∀ v, G 10 (I n1) = 1 → VAR N G (G 11 (I n1)) = v + 1 → M2 v = many) (h3 : ∀ v, M2 v = M v ∨ (M2 v = many ∧ G 10 (I n1) = 1 ∧ VAR N G (G 11 (I n1)) = v + 1)) : SCI N G sz f many M2 (n1 + G 12 (I n1)) I2 := by
  obtain ⟨a, b, c⟩ := h
  refine ⟨fun x v hx hv => ?_, fun v => ?_, fun i hi x hx => ?_⟩
  · rcases a x v hx hv with q | ⟨i, hi, q⟩
    · exact Or.inl (h1 v q)
    · by_cases e : i = n1
      · subst e
        rcases (OC_iff ht hI).mp q with ⟨q1, q2⟩ | ⟨k, hk, q⟩
        · exact Or.inl (h2 v q1 (by rw [q2]; exact hv))
        · exact Or.inr ⟨i + k, by omega, by rw [hp.2 k hk]; exact q⟩
      · exact Or.inr ⟨i, by omega, by rw [hp.1 i (by omega)]; exact q⟩
  · rcases h3 v with q | ⟨q1, q2, q3⟩
    · rw [q]; exact b v
    · exact Or.inr ⟨q1, G 11 (I n1), c n1 (by omega) _ ((OC_iff ht hI).mpr (Or.inl ⟨q2, rfl⟩)), q3⟩
  · by_cases e : i < n1
    · rw [hp.1 i e] at hx; exact c i (by omega) x hx
    · obtain ⟨k, rfl⟩ : ∃ k, i = n1 + k := ⟨i - n1, by omega⟩
      rw [hp.2 k (by omega)] at hx
      exact c n1 (by omega) x ((OC_iff ht hI).mpr (Or.inr ⟨k, by omega, hx⟩))
/-- what holds while turnsOf goes through a form; q is two more than the turns -/
def TOI (N : Nat → Nat) (G : Nat → Nat → Nat) (sz : Nat → Nat) (f q n : Nat) (I : Nat → Nat) : Prop :=
  ∀ x, OC G sz f x → 0 < VAR N G x → 0 < G 48 (VAR N G x - 1) → q = 0 ∨ q = G 56 (VAR N G x - 1) + 2 ∨ ∃ i, i < n ∧ OC G sz (I i) x
theorem TOI.pop {N : Nat → Nat} {G : Nat → Nat → Nat} {sz : Nat → Nat} {f q q2 n1 : Nat} {I I2 : Nat → Nat} (ht : TREE N G sz) (h : TOI N G sz f q (n1 + 1) I) (hI : I n1 < N 14) (hp : PUSHED G n1 (I n1) (G 12 (I n1)) I I2)
    (h0 : q = 0 → q2 = 0) (h1 : 2 ≤ q → q2 = 0 ∨ q2 = q) (h2 : REP N G (I n1) → q2 = 0 ∨ q2 = G 56 (VAR N G (G 11 (I n1)) - 1) + 2) : TOI N G sz f q2 (n1 + G 12 (I n1)) I2 := by
  intro x hx hv hr
  rcases h x hx hv hr with e | e | ⟨i, hi, e⟩
  · exact Or.inl (h0 e)
  · rcases h1 (by omega) with z | z
    · exact Or.inl z
    · exact Or.inr (Or.inl (by rw [z]; exact e))
  · by_cases ei : i = n1
    · subst ei
      rcases (OC_iff ht hI).mp e with ⟨q1, q3⟩ | ⟨k, hk, e⟩
      · subst q3
        rcases h2 ⟨q1, hv, hr⟩ with z | z
        · exact Or.inl z
        · exact Or.inr (Or.inl z)
      · exact Or.inr (Or.inr ⟨i + k, by omega, by rw [hp.2 k hk]; exact e⟩)
    · exact Or.inr (Or.inr ⟨i, by omega, by rw [hp.1 i (by omega)]; exact e⟩)
/-- a name that is a repeated variable -/
abbrev RPX (N : Nat → Nat) (G : Nat → Nat → Nat) (x : Nat) : Prop := 0 < VAR N G x ∧ 0 < G 48 (VAR N G x - 1)
/-- where the turns come from -/
def TOJ (N : Nat → Nat) (G : Nat → Nat → Nat) (sz : Nat → Nat) (f q n : Nat) (I : Nat → Nat) : Prop :=
  (∀ i, i < n → ∀ x, OC G sz (I i) x → OC G sz f x) ∧ (2 ≤ q → ∃ x, OC G sz f x ∧ RPX N G x ∧ q = G 56 (VAR N G x - 1) + 2) ∧ (q = 0 → ∃ x y, OC G sz f x ∧ RPX N G x ∧ OC G sz f y ∧ RPX N G y ∧ G 56 (VAR N G x - 1) ≠ G 56 (VAR N G y - 1))
theorem TOJ.pop {N : Nat → Nat} {G : Nat → Nat → Nat} {sz : Nat → Nat} {f q q2 n1 : Nat} {I I2 : Nat → Nat} (ht : TREE N G sz) (h : TOJ N G sz f q (n1 + 1) I) (hI : I n1 < N 14) (hp : PUSHED G n1 (I n1) (G 12 (I n1)) I I2)
    (h1 : q2 = q ∨ (REP N G (I n1) ∧ (q2 = G 56 (VAR N G (G 11 (I n1)) - 1) + 2 ∨ (q2 = 0 ∧ q ≠ 1 ∧ q ≠ G 56 (VAR N G (G 11 (I n1)) - 1) + 2)))) : TOJ N G sz f q2 (n1 + G 12 (I n1)) I2 := by
  obtain ⟨a, b, c⟩ := h
  refine ⟨fun i hi x hx => ?_, ?_⟩
  · by_cases e : i < n1
    · rw [hp.1 i e] at hx; exact a i (by omega) x hx
    · obtain ⟨k, rfl⟩ : ∃ k, i = n1 + k := ⟨i - n1, by omega⟩
      rw [hp.2 k (by omega)] at hx
      exact a n1 (by omega) x ((OC_iff ht hI).mpr (Or.inr ⟨k, by omega, hx⟩))
  · rcases h1 with e | ⟨⟨r1, r2, r3⟩, e⟩
    · rw [e]; exact ⟨b, c⟩
    · have here : OC G sz f (G 11 (I n1)) := a n1 (by omega) _ ((OC_iff ht hI).mpr (Or.inl ⟨r1, rfl⟩))
      rcases e with e | ⟨e, ne1, ne2⟩
      · exact ⟨fun _ => ⟨_, here, ⟨r2, r3⟩, e⟩, fun z => absurd z (by omega)⟩
      · refine ⟨fun z => absurd z (by omega), fun _ => ?_⟩
        by_cases q0 : q = 0
        · exact c q0
        · obtain ⟨x, x1, x2, x3⟩ := b (by omega)
          exact ⟨x, _, x1, x2, here, ⟨r2, r3⟩, by omega⟩
/-- how often what stands before a ... is put: the count that all its repeated variables have -/
noncomputable def TRN (N : Nat → Nat) (G : Nat → Nat → Nat) (sz : Nat → Nat) (f : Nat) : Nat := @dite Nat (∃ n, 0 < n ∧ (∃ x, OC G sz f x ∧ RPX N G x) ∧ ∀ x, OC G sz f x → RPX N G x → G 56 (VAR N G x - 1) = n) (Classical.propDecidable _) (fun h => h.choose) (fun _ => 0)
theorem TRN_in {N : Nat → Nat} {G : Nat → Nat → Nat} {sz : Nat → Nat} {f : Nat} (h : 0 < TRN N G sz f) : ∀ x, OC G sz f x → RPX N G x → G 56 (VAR N G x - 1) = TRN N G sz f := by
  unfold TRN at h ⊢
  by_cases c : ∃ n, 0 < n ∧ (∃ x, OC G sz f x ∧ RPX N G x) ∧ ∀ x, OC G sz f x → RPX N G x → G 56 (VAR N G x - 1) = n
  · rw [dif_pos c]; exact c.choose_spec.2.2
  · rw [dif_neg c] at h; exact absurd h (Nat.lt_irrefl 0)
theorem TRN_of {N : Nat → Nat} {G : Nat → Nat → Nat} {sz : Nat → Nat} {f q : Nat} (h1 : ∀ x, OC G sz f x → 0 < VAR N G x → 0 < G 48 (VAR N G x - 1) → q = 0 ∨ q = G 56 (VAR N G x - 1) + 2) (h2 : (2 ≤ q → ∃ x, OC G sz f x ∧ RPX N G x ∧ q = G 56 (VAR N G x - 1) + 2) ∧ (q = 0 → ∃ x y, OC G sz f x ∧ RPX N G x ∧ OC G sz f y ∧ RPX N G y ∧ G 56 (VAR N G x - 1) ≠ G 56 (VAR N G y - 1))) : q - 2 = TRN N G sz f := by
  unfold TRN
  by_cases c : ∃ n, 0 < n ∧ (∃ x, OC G sz f x ∧ RPX N G x) ∧ ∀ x, OC G sz f x → RPX N G x → G 56 (VAR N G x - 1) = n
  · rw [dif_pos c]
    obtain ⟨s1, ⟨x, s2, s3⟩, s4⟩ := c.choose_spec
    have s5 := s4 x s2 s3
    rcases h1 x s2 s3.1 s3.2 with e | e
    · obtain ⟨y, z, y1, y2, z1, z2, ne⟩ := h2.2 e
      exact absurd ((s4 y y1 y2).trans (s4 z z1 z2).symm) ne
    · omega
  · rw [dif_neg c]
    by_cases e : q ≤ 2
    · omega
    · exfalso
      obtain ⟨x, x1, x2, x3⟩ := h2.1 (by omega)
      refine c ⟨q - 2, by omega, ⟨x, x1, x2⟩, fun y y1 y2 => ?_⟩
      rcases h1 y y1 y2.1 y2.2 with z | z <;> omega
theorem p2_eq {q h : Nat} (hq : q < 2 ^ 30) (hh : h < 2 ^ 30) : nI q - 2 = nI h ↔ q = h + 2 := by
  constructor
  · intro e
    have e2 : nI q = nI (h + 2) := by
      have e3 : nI q - 2 + 2 = nI h + 2 := by rw [e]
      rw [Int32.sub_add_cancel] at e3
      rw [e3]; exact nI_add h 2
    exact (nI_eq (by omega) (by omega)).mp e2
  · intro e
    subst e
    exact pk_sub (a := h + 2) (b := 2) (by omega)
theorem p1_eq {q : Nat} (hq : q < 2 ^ 30) : nI q - 2 = nI 0 - 1 ↔ q = 1 := by
  rw [show (nI 0 - 1 : Int32) = nI 1 - 2 by decide]
  constructor
  · intro e
    have e3 : nI q - 2 + 2 = nI 1 - 2 + 2 := by rw [e]
    rw [Int32.sub_add_cancel, Int32.sub_add_cancel] at e3
    exact (nI_eq (by omega) (by decide)).mp e3
  · intro e; rw [e]

theorem va_upid {α : Type} (f : Nat → α) (k : Nat) : va_up f k (f k) = f := by
  funext j
  by_cases h : j = k
  · subst h; rw [va_up_self]
  · rw [va_up_ne _ _ h]
set_option maxHeartbeats 4000000 in
set_option maxRecDepth 100000 in
theorem lp_setC1 {p : Program} {l : Launch} {e : Env} {s : State} {m : MethodId} {args : Array Value} {below : List Frame} {meth : Method} {c : Code} {Q : State → Prop} {A : Nat → Prop} {dC : Nat → ClassId} {dI : Nat → Nat → Nat} {cB cC cI cJ cZ : ClassId} {z0 : Nat} {R : Nat → Nat} (hx : p.tables.exec = Jvm.exec) (hb : c.code = cX12_setCounts) (hml : c.maxLocals = 7) (hown : s.vm.findClass RX12 = some m.cls) (hts : ∀ w ∈ vX12_setCounts, w.before args s = true) (hK : va_K (dC, dI) vwCl (TY cB cC cI cJ cZ) s) (hA : ∀ q : Nat, s.heap.size ≤ q → A q) {pl : Int32} {N : Nat → Nat} {G : Nat → Nat → Nat} {B : Nat → Nat → Int32} {sz : Nat → Nat} (hG : ∀ k i, G k i < 1048576) (ht9 : TREE N G sz) (n0 a0 bs : Nat) (I0 : Nat → Nat) (ha0 : a0 < N 14) (hbs : bs + sz a0 ≤ 3001) (many : Nat) (kk : ∀ (I : Nat → Nat) (H : Heap) (locs : List Loc), (∀ i, I i < 1048576) → (∀ i, i < n0 + G 12 a0 → I i < N 14) → sumC sz I (n0 + G 12 a0) = bs + sumC sz (CH G a0) (G 12 a0) → PUSHED G n0 a0 (G 12 a0) I0 I → va_P (dC, dI) vwCl (MW cB cC cI cJ cZ z0 R pl N (va_up G 54 I) B) H → va_D A (MW cB cC cI cJ cZ z0 R pl N (va_up G 54 I) B) → va_S A s.heap H locs → ∀ (ls : Array Slot), lv_has ls 7 [(0, .ref z0), (3, .int (nI (n0 + G 12 a0))), (2, .int (nI many))] → W p l e (headSpec vX12_setCounts { frames := 1, cells := 0, slots := 0, locals := 23 }).room s m args below meth c H locs 0 0 Q (F0 m 101 ls [])) : ∀ (k : Nat) (j : Nat) (I : Nat → Nat), j ≤ G 12 a0 → G 12 a0 + 1 ≤ j + k → (∀ i, I i < 1048576) → (∀ i, i < n0 + j → I i < N 14) → sumC sz I (n0 + j) = bs + sumC sz (CH G a0) j → PUSHED G n0 a0 j I0 I → ∀ (H : Heap) (locs : List Loc), va_P (dC, dI) vwCl (MW cB cC cI cJ cZ z0 R pl N (va_up G 54 I) B) H → va_D A (MW cB cC cI cJ cZ z0 R pl N (va_up G 54 I) B) → va_S A s.heap H locs → ∀ (ls : Array Slot), lv_has ls 7 [(0, .ref z0), (3, .int (nI (n0 + j))), (4, .int (nI a0)), (6, .int (nI j)), (2, .int (nI many))] → W p l e (headSpec vX12_setCounts { frames := 1, cells := 0, slots := 0, locals := 23 }).room s m args below meth c H locs 0 0 Q (F0 m 66 ls []) := by
  have hcs : 0 + 0 ≤ (0 : Nat) ∧ 0 + 0 ≤ (0 : Nat) := ⟨Nat.le_refl 0, Nat.le_refl 0⟩
  intro k
  induction k with
  | zero =>
    intro j I hj hk hI hlow hsum hpu
    omega
  | succ k ih =>
    intro j I hj hk hI hlow hsum hpu H locs hP hD hS ls hl
    have g1 := hG 12 a0
    obtain ⟨u1, u2, u3, u4, u5⟩ := ht9.2 a0 ha0
    have u6 := ht9.1
    have u7 := sumC_len (sz := sz) (c := I) (n0 + j) (fun i hi => ht9.one (hlow i hi))
    refine lv_iload hx hb dX12_setCounts_66 (lv_at hl 3 rfl) ?_
    refine lv_aload_n hx hb dX12_setCounts_68 rfl (lv_at hl 0 rfl) ?_
    refine mg_12 hx hb hts inX12_setCounts hown hK hP (hts _ lkX12_setCounts_f38) dX12_setCounts_69 ?_
    refine lv_iload hx hb dX12_setCounts_72 (lv_at hl 2 rfl) ?_
    refine ml_12 hx hb hK hP (by omega) dX12_setCounts_74 ?_
    refine tp_i (y := nI (G 12 a0)) rfl ?_
    refine bn_ge (tgt := 101) hx hb (by omega) (by omega) dX12_setCounts_75 (by decide) (fun c1 => ?_) (fun c1 => ?_)
    · have e9 : j = G 12 a0 := by omega
      subst e9
      exact kk I H locs hI hlow hsum hpu hP hD hS ls (lv_sub hl [0, 1, 4] rfl)
    · obtain ⟨t1, t2⟩ := u3 j c1
      have t5 : sumC sz (CH G a0) j ≤ sumC sz (CH G a0) (G 12 a0) := sumC_mono _ _ _ _ (by omega)
      refine lv_aload_n hx hb dX12_setCounts_78 rfl (lv_at hl 0 rfl) ?_
      refine mg_54 hx hb hts inX12_setCounts hown hK hP (hts _ lkX12_setCounts_f107) dX12_setCounts_79 ?_
      refine lv_iload_n hx hb dX12_setCounts_82 rfl (lv_at hl 1 rfl) ?_
      refine lv_aload_n hx hb dX12_setCounts_83 rfl (lv_at hl 0 rfl) ?_
      refine lv_iload hx hb dX12_setCounts_84 (lv_at hl 2 rfl) ?_
      refine lv_iload hx hb dX12_setCounts_86 (lv_at hl 3 rfl) ?_
      refine mcl_i (As := [.int (nI a0), .int (nI j)]) (rest := [.int (nI (n0 + j)), .ref (R 54)]) ⟨hx, hb, hml, hown, hts⟩ (m_part l dC dI cB cC cI cJ cZ z0 R pl N (va_up G 54 I) B a0 j (hGup hG hI) (by omega) t1 H.size) (cwV 2 hts kX12_setCounts_X12_part_192 rfl rfl rfl (by decide +kernel) ⟨Nat.le_of_ble_eq_true rfl, Nat.le_of_ble_eq_true rfl⟩) hK hP hD hS hA rfl rfl hl.1 (lv_room (Nat.le_of_ble_eq_true rfl)) dX12_setCounts_88 hcs (fun r_5 N_1 G_2 B_3 pl_4 hw H locs hP hD hS => ?_)
      dsimp only at hw
      obtain ⟨e1, e2, e3, e4, hw⟩ := hw
      rw [e1, e2, e3, e4] at hP hD
      have hw : r_5 = nI (CH G a0 j) := hw
      subst hw
      refine ms_54 hx hb hK hP hD hS (by omega) dX12_setCounts_91 (fun H locs hP hD hS => ?_)
      rw [bx_uu] at hP hD
      refine lv_iinc (v := nI ((n0 + j) + 1)) (lv' := [(3, .int (nI ((n0 + j) + 1))), (0, .ref z0), (4, .int (nI a0)), (6, .int (nI j)), (2, .int (nI many))]) hx hb dX12_setCounts_92 hl (k := 1) rfl (nI_add (n0 + j) 1) (by decide) rfl (fun ls hl => ?_)
      refine lv_iinc (v := nI (j + 1)) (lv' := [(6, .int (nI (j + 1))), (3, .int (nI ((n0 + j) + 1))), (0, .ref z0), (4, .int (nI a0)), (2, .int (nI many))]) hx hb dX12_setCounts_95 hl (k := 3) rfl (nI_add j 1) (by decide) rfl (fun ls hl => ?_)
      refine lv_goto (tgt := 66) hx hb dX12_setCounts_98 (by decide) ?_
      exact ih (j + 1) (va_up I (n0 + j) (CH G a0 j)) (by omega) (by omega) (hIup hI (by omega)) (ltup (j := n0 + j) hlow t2) (by rw [show n0 + (j + 1) = n0 + j + 1 from rfl, sumC_push, hsum, sumC]; omega) (PUSHED.step hpu) _ _ hP hD hS ls (lv_sub hl [2, 1, 3, 0, 4] rfl)

theorem upk1 {M : Nat → Nat} {j m : Nat} (v : Nat) (h : M v = m) : va_up M j m v = m := by
  by_cases e : v = j
  · rw [e, va_up_self]
  · rw [va_up_ne _ _ e]; exact h
theorem upk2 {M : Nat → Nat} {j m : Nat} (v : Nat) : va_up M j m v = M v ∨ (va_up M j m v = m ∧ v = j) := by
  by_cases e : v = j
  · exact Or.inr ⟨by rw [e, va_up_self], e⟩
  · exact Or.inl (va_up_ne _ _ e)
set_option maxHeartbeats 4000000 in
set_option maxRecDepth 100000 in
theorem lp_setC2 {p : Program} {l : Launch} {e : Env} {s : State} {m : MethodId} {args : Array Value} {below : List Frame} {meth : Method} {c : Code} {Q : State → Prop} {A : Nat → Prop} {dC : Nat → ClassId} {dI : Nat → Nat → Nat} {cB cC cI cJ cZ : ClassId} {z0 : Nat} {R : Nat → Nat} (hx : p.tables.exec = Jvm.exec) (hb : c.code = cX12_setCounts) (hml : c.maxLocals = 7) (hown : s.vm.findClass RX12 = some m.cls) (hts : ∀ w ∈ vX12_setCounts, w.before args s = true) (hK : va_K (dC, dI) vwCl (TY cB cC cI cJ cZ) s) (hA : ∀ q : Nat, s.heap.size ≤ q → A q) {pl : Int32} {N : Nat → Nat} {G : Nat → Nat → Nat} {B : Nat → Nat → Int32} {sz : Nat → Nat} (hG : ∀ k i, G k i < 1048576) (ht9 : TREE N G sz) (hN : N 49 ≤ 1600) (f many : Nat) (hm : many < 1048576) (kk : ∀ (M I : Nat → Nat) (H : Heap) (locs : List Loc), (∀ i, I i < 1048576) → (∀ i, M i < 1048576) → SCI N G sz f many M 0 I → va_P (dC, dI) vwCl (MW cB cC cI cJ cZ z0 R pl N (va_up (va_up G 56 M) 54 I) B) H → va_D A (MW cB cC cI cJ cZ z0 R pl N (va_up (va_up G 56 M) 54 I) B) → va_S A s.heap H locs → ∀ (ls : Array Slot), lv_has ls 7 [] → W p l e (headSpec vX12_setCounts { frames := 1, cells := 0, slots := 0, locals := 23 }).room s m args below meth c H locs 0 0 Q (F0 m 104 ls [])) : ∀ (k : Nat) (n : Nat) (M I : Nat → Nat), sumC sz I n < k → (∀ i, I i < 1048576) → (∀ i, M i < 1048576) → (∀ i, i < n → I i < N 14) → sumC sz I n ≤ 3001 → SCI N G sz f many M n I → ∀ (H : Heap) (locs : List Loc), va_P (dC, dI) vwCl (MW cB cC cI cJ cZ z0 R pl N (va_up (va_up G 56 M) 54 I) B) H → va_D A (MW cB cC cI cJ cZ z0 R pl N (va_up (va_up G 56 M) 54 I) B) → va_S A s.heap H locs → ∀ (ls : Array Slot), lv_has ls 7 [(0, .ref z0), (2, .int (nI many)), (3, .int (nI n))] → W p l e (headSpec vX12_setCounts { frames := 1, cells := 0, slots := 0, locals := 23 }).room s m args below meth c H locs 0 0 Q (F0 m 9 ls []) := by
  have hcs : 0 + 0 ≤ (0 : Nat) ∧ 0 + 0 ≤ (0 : Nat) := ⟨Nat.le_refl 0, Nat.le_refl 0⟩
  intro k
  induction k with
  | zero =>
    intro n M I hk hI hM hlow hsum hsc
    omega
  | succ k ih =>
    intro n M I hk hI hM hlow hsum hsc H locs hP hD hS ls hl
    have u6 := ht9.1
    have u7 := sumC_len (sz := sz) (c := I) n (fun i hi => ht9.one (hlow i hi))
    have hG2 := hGup (hGup (q := 56) hG hM) (q := 54) hI
    refine lv_iload_n hx hb dX12_setCounts_9 rfl (lv_at hl 2 rfl) ?_
    refine bz_le (tgt := 104) hx hb (by omega) dX12_setCounts_10 (by decide) (fun c1 => ?_) (fun c1 => ?_)
    · subst c1
      exact kk M I H locs hI hM hsc hP hD hS ls (lv_sub hl [] rfl)
    · obtain ⟨n1, rfl⟩ : ∃ n1, n = n1 + 1 := ⟨n - 1, by omega⟩
      have t1 := hlow n1 (by omega)
      obtain ⟨w1, w2, w3, w4, w5⟩ := ht9.2 (I n1) t1
      rw [sumC] at hsum hk u7
      refine lv_iinc (v := nI ((n1 + 1) - 1)) (lv' := [(3, .int (nI ((n1 + 1) - 1))), (0, .ref z0), (2, .int (nI many))]) hx hb dX12_setCounts_13 hl (k := 2) rfl (sb_m1 (by omega)) (by decide) rfl (fun ls hl => ?_)
      have hl : lv_has ls 7 [(3, .int (nI n1)), (0, .ref z0), (2, .int (nI many))] := hl
      refine lv_aload_n hx hb dX12_setCounts_16 rfl (lv_at hl 1 rfl) ?_
      refine mg_54 hx hb hts inX12_setCounts hown hK hP (hts _ lkX12_setCounts_f107) dX12_setCounts_17 ?_
      refine lv_iload_n hx hb dX12_setCounts_20 rfl (lv_at hl 0 rfl) ?_
      refine ml_54 hx hb hK hP (by omega) dX12_setCounts_21 ?_
      refine tp_i (y := nI (I n1)) rfl ?_
      refine lv_istore (lv' := [(4, .int (nI (I n1))), (3, .int (nI n1)), (0, .ref z0), (2, .int (nI many))]) hx hb dX12_setCounts_22 hl (by decide) rfl (fun ls hl => ?_)
      refine lv_aload_n hx hb dX12_setCounts_24 rfl (lv_at hl 2 rfl) ?_
      refine lv_iload hx hb dX12_setCounts_25 (lv_at hl 0 rfl) ?_
      refine mcl_i (As := [.int (nI (I n1))]) (rest := []) ⟨hx, hb, hml, hown, hts⟩ (m_isName l dC dI cB cC cI cJ cZ z0 R pl N (va_up (va_up G 56 M) 54 I) B (I n1) hG2 (by omega) H.size) (cwV 1 hts kX12_setCounts_X12_isName_180 rfl rfl rfl (by decide +kernel) ⟨Nat.le_of_ble_eq_true rfl, Nat.le_of_ble_eq_true rfl⟩) hK hP hD hS hA rfl rfl hl.1 (lv_room (Nat.le_of_ble_eq_true rfl)) dX12_setCounts_27 hcs (fun r_5 N_1 G_2 B_3 pl_4 hw H locs hP hD hS => ?_)
      dsimp only at hw
      obtain ⟨e1, e2, e3, e4, hw⟩ := hw
      rw [e1, e2, e3, e4] at hP hD
      have hw : r_5 = nI (if G 10 (I n1) = 1 then 1 else 0) := hw
      by_cases c2 : G 10 (I n1) = 1
      · rw [if_pos c2] at hw
        subst hw
        refine bz_eq (tgt := 47) hx hb (by omega) dX12_setCounts_30 (by decide) (fun q9 => absurd q9 (by omega)) (fun c => ?_)
        refine lv_aload_n hx hb dX12_setCounts_33 rfl (lv_at hl 2 rfl) ?_
        refine lv_aload_n hx hb dX12_setCounts_34 rfl (lv_at hl 2 rfl) ?_
        refine mg_11 hx hb hts inX12_setCounts hown hK hP (hts _ lkX12_setCounts_f35) dX12_setCounts_35 ?_
        refine lv_iload hx hb dX12_setCounts_38 (lv_at hl 0 rfl) ?_
        refine ml_11 hx hb hK hP (by omega) dX12_setCounts_40 ?_
        refine tp_i (y := nI ((va_up G 56 M) 11 (I n1))) rfl ?_
        refine mcl_i (As := [.int (nI ((va_up G 56 M) 11 (I n1)))]) (rest := []) ⟨hx, hb, hml, hown, hts⟩ (m_variable l dC dI cB cC cI cJ cZ z0 R pl N (va_up (va_up G 56 M) 54 I) B (G 11 (I n1)) hG2 hN (hG 11 (I n1)) H.size) (cwV 1 hts kX12_setCounts_X12_variable_327 rfl rfl rfl (by decide +kernel) ⟨Nat.le_of_ble_eq_true rfl, Nat.le_of_ble_eq_true rfl⟩) hK hP hD hS hA rfl rfl hl.1 (lv_room (Nat.le_of_ble_eq_true rfl)) dX12_setCounts_41 hcs (fun r_10 N_6 G_7 B_8 pl_9 hw H locs hP hD hS => ?_)
        dsimp only at hw
        obtain ⟨e1, e2, e3, e4, hw⟩ := hw
        rw [e1, e2, e3, e4] at hP hD
        have hw : r_10 = nI (VAR N G (G 11 (I n1))) - 1 := hw
        subst hw
        have v1 : VAR N G (G 11 (I n1)) ≤ N 49 := varF_le (G 47) (G 11 (I n1)) (N 49)
        refine lv_goto (tgt := 48) hx hb dX12_setCounts_44 (by decide) ?_
        refine lv_istore (lv' := [(5, .int (nI (VAR N G (G 11 (I n1))) - 1)), (4, .int (nI (I n1))), (3, .int (nI n1)), (0, .ref z0), (2, .int (nI many))]) hx hb dX12_setCounts_48 hl (by decide) rfl (fun ls hl => ?_)
        refine lv_iload hx hb dX12_setCounts_50 (lv_at hl 0 rfl) ?_
        refine bo_lt (tgt := 63) hx hb (by omega) dX12_setCounts_52 (by decide) (fun c3 => ?_) (fun c3 => ?_)
        · refine lv_iconst (v := nI 0) hx hb dX12_setCounts_63 (by decide) ?_
          refine lv_istore (lv' := [(6, .int (nI 0)), (5, .int (nI (VAR N G (G 11 (I n1))) - 1)), (4, .int (nI (I n1))), (3, .int (nI n1)), (0, .ref z0), (2, .int (nI many))]) hx hb dX12_setCounts_64 hl (by decide) rfl (fun ls hl => ?_)
          refine lp_setC1 (G := va_up G 56 M) hx hb hml hown hts hK hA (hGup hG hM) (ht9.up _) n1 (I n1) (sumC sz I n1) I t1 (by omega) many (fun I2 H locs hI2 hlow2 hsum2 hpu2 hP hD hS ls hl => ?_) (G 12 (I n1) + 1) 0 I (by show 0 ≤ _; omega) (by show G 12 (I n1) + 1 ≤ _; omega) hI (fun i hi => hlow i (by omega)) rfl ⟨fun _ _ => rfl, fun k hk => absurd hk (Nat.not_lt_zero k)⟩ _ _ hP hD hS ls (lv_sub hl [4, 3, 2, 0, 5] rfl)
          refine lv_goto (tgt := 9) hx hb dX12_setCounts_101 (by decide) ?_
          have hpu3 : PUSHED G n1 (I n1) (G 12 (I n1)) I I2 := hpu2
          have hsum3 : sumC sz I2 (n1 + G 12 (I n1)) = sumC sz I n1 + sumC sz (CH G (I n1)) (G 12 (I n1)) := hsum2
          exact ih (n1 + G 12 (I n1)) (M) I2 (by omega) hI2 hM hlow2 (by omega) (SCI.pop ht9 hsc t1 hpu3 _ (fun v h => h) (fun v _ h => absurd h (by omega)) (fun v => Or.inl rfl)) _ _ hP hD hS ls (lv_sub hl [0, 2, 1] rfl)
        · refine lv_aload_n hx hb dX12_setCounts_55 rfl (lv_at hl 3 rfl) ?_
          refine mg_56 hx hb hts inX12_setCounts hown hK hP (hts _ lkX12_setCounts_f113) dX12_setCounts_56 ?_
          refine lv_iload hx hb dX12_setCounts_59 (lv_at hl 0 rfl) ?_
          refine tp_i (om1 (c3)) ?_
          refine lv_iload_n hx hb dX12_setCounts_61 rfl (lv_at hl 4 rfl) ?_
          refine ms_56 hx hb hK hP hD hS (by omega) dX12_setCounts_62 (fun H locs hP hD hS => ?_)
          rw [up5654] at hP hD
          have hP : va_P (dC, dI) vwCl (MW cB cC cI cJ cZ z0 R pl N (va_up (va_up G 56 (va_up M (VAR N G (G 11 (I n1)) - 1) many)) 54 I) B) H := hP
          have hD : va_D A (MW cB cC cI cJ cZ z0 R pl N (va_up (va_up G 56 (va_up M (VAR N G (G 11 (I n1)) - 1) many)) 54 I) B) := hD
          refine lv_iconst (v := nI 0) hx hb dX12_setCounts_63 (by decide) ?_
          refine lv_istore (lv' := [(6, .int (nI 0)), (5, .int (nI (VAR N G (G 11 (I n1))) - 1)), (4, .int (nI (I n1))), (3, .int (nI n1)), (0, .ref z0), (2, .int (nI many))]) hx hb dX12_setCounts_64 hl (by decide) rfl (fun ls hl => ?_)
          refine lp_setC1 (G := va_up G 56 (va_up M (VAR N G (G 11 (I n1)) - 1) many)) hx hb hml hown hts hK hA (hGup hG (hIup hM hm)) (ht9.up _) n1 (I n1) (sumC sz I n1) I t1 (by omega) many (fun I2 H locs hI2 hlow2 hsum2 hpu2 hP hD hS ls hl => ?_) (G 12 (I n1) + 1) 0 I (by show 0 ≤ _; omega) (by show G 12 (I n1) + 1 ≤ _; omega) hI (fun i hi => hlow i (by omega)) rfl ⟨fun _ _ => rfl, fun k hk => absurd hk (Nat.not_lt_zero k)⟩ _ _ hP hD hS ls (lv_sub hl [4, 3, 2, 0, 5] rfl)
          refine lv_goto (tgt := 9) hx hb dX12_setCounts_101 (by decide) ?_
          have hpu3 : PUSHED G n1 (I n1) (G 12 (I n1)) I I2 := hpu2
          have hsum3 : sumC sz I2 (n1 + G 12 (I n1)) = sumC sz I n1 + sumC sz (CH G (I n1)) (G 12 (I n1)) := hsum2
          exact ih (n1 + G 12 (I n1)) (va_up M (VAR N G (G 11 (I n1)) - 1) many) I2 (by omega) hI2 (hIup hM hm) hlow2 (by omega) (SCI.pop ht9 hsc t1 hpu3 _ (fun v h => upk1 v h) (fun v _ h => by rw [show v = VAR N G (G 11 (I n1)) - 1 by omega, va_up_self]) (fun v => (upk2 v).imp id (fun q => ⟨q.1, c2, by omega⟩))) _ _ hP hD hS ls (lv_sub hl [0, 2, 1] rfl)
      · rw [if_neg c2] at hw
        subst hw
        refine bz_eq (tgt := 47) hx hb (by omega) dX12_setCounts_30 (by decide) (fun c => ?_) (fun q9 => absurd q9 (by omega))
        refine lv_iconst (v := nI 0 - 1) hx hb dX12_setCounts_47 (by decide) ?_
        refine lv_istore (lv' := [(5, .int (nI 0 - 1)), (4, .int (nI (I n1))), (3, .int (nI n1)), (0, .ref z0), (2, .int (nI many))]) hx hb dX12_setCounts_48 hl (by decide) rfl (fun ls hl => ?_)
        refine lv_iload hx hb dX12_setCounts_50 (lv_at hl 0 rfl) ?_
        refine bo_lt (tgt := 63) hx hb (by omega) dX12_setCounts_52 (by decide) (fun c3 => ?_) (fun c3 => ?_)
        · refine lv_iconst (v := nI 0) hx hb dX12_setCounts_63 (by decide) ?_
          refine lv_istore (lv' := [(6, .int (nI 0)), (5, .int (nI 0 - 1)), (4, .int (nI (I n1))), (3, .int (nI n1)), (0, .ref z0), (2, .int (nI many))]) hx hb dX12_setCounts_64 hl (by decide) rfl (fun ls hl => ?_)
          refine lp_setC1 (G := va_up G 56 M) hx hb hml hown hts hK hA (hGup hG hM) (ht9.up _) n1 (I n1) (sumC sz I n1) I t1 (by omega) many (fun I2 H locs hI2 hlow2 hsum2 hpu2 hP hD hS ls hl => ?_) (G 12 (I n1) + 1) 0 I (by show 0 ≤ _; omega) (by show G 12 (I n1) + 1 ≤ _; omega) hI (fun i hi => hlow i (by omega)) rfl ⟨fun _ _ => rfl, fun k hk => absurd hk (Nat.not_lt_zero k)⟩ _ _ hP hD hS ls (lv_sub hl [4, 3, 2, 0, 5] rfl)
          refine lv_goto (tgt := 9) hx hb dX12_setCounts_101 (by decide) ?_
          have hpu3 : PUSHED G n1 (I n1) (G 12 (I n1)) I I2 := hpu2
          have hsum3 : sumC sz I2 (n1 + G 12 (I n1)) = sumC sz I n1 + sumC sz (CH G (I n1)) (G 12 (I n1)) := hsum2
          exact ih (n1 + G 12 (I n1)) (M) I2 (by omega) hI2 hM hlow2 (by omega) (SCI.pop ht9 hsc t1 hpu3 _ (fun v h => h) (fun v h => absurd h c2) (fun v => Or.inl rfl)) _ _ hP hD hS ls (lv_sub hl [0, 2, 1] rfl)
        · exact absurd c3 (by decide)

set_option maxHeartbeats 4000000 in
set_option maxRecDepth 100000 in
/-- setCounts -/
theorem m_setCounts (l : Launch) (dC : Nat → ClassId) (dI : Nat → Nat → Nat) (cB cC cI cJ cZ : ClassId) (z0 : Nat) (R : Nat → Nat) (pl : Int32) (N : Nat → Nat) (G : Nat → Nat → Nat) (B : Nat → Nat → Int32) (f many : Nat) (sz : Nat → Nat) (hG : ∀ k i, G k i < 1048576) (ht9 : TREE N G sz) (hN : N 49 ≤ 1600) (hf : f < N 14) (hm : many < 1048576) (s0 : Nat) : Met l yX12_setCounts vX12_setCounts { frames := 1, cells := 0, slots := 0, locals := 23 } (va_Pc [.ref z0, .int (nI f), .int (nI many)] (mPre dC dI cB cC cI cJ cZ z0 R pl N G B s0)) (va_Qv (fun u : ((Nat → Nat) × (Nat → Nat → Nat) × (Nat → Nat → Int32) × Int32) => match u with | (N1, G1, B1, pl1) => N1 = N ∧ (∃ I M1, (∀ i, I i < 1048576) ∧ (∀ i, M1 i < 1048576) ∧ G1 = va_up (va_up G 56 M1) 54 I ∧ (∀ x v, OC G sz f x → VAR N G x = v + 1 → M1 v = many) ∧ (∀ v, M1 v = G 56 v ∨ (M1 v = many ∧ ∃ x, OC G sz f x ∧ VAR N G x = v + 1))) ∧ B1 = B ∧ pl1 = pl) (mPost dC dI cB cC cI cJ cZ z0 R (va_A (MW cB cC cI cJ cZ z0 R pl N G B) s0)) (va_A (MW cB cC cI cJ cZ z0 R pl N G B) s0)) 0 0 (va_A (MW cB cC cI cJ cZ z0 R pl N G B) s0) := by
  refine Met.ofW (cc := cX12_setCounts) (maxL := 7) (ret := none) (by decide) rfl ?_
  intro p e s m args below meth c s₁ B9 hml hv
  obtain ⟨rfl, hsz, hP, hK, hD0⟩ := hv
  have hx := B9.exec
  have hb := B9.bytes
  have hr := B9.returns
  have hts := atoms_spec (ws := vX12_setCounts) B9.pre
  have hown : s.vm.findClass RX12 = some m.cls := findClass_of_methodNamed B9.named
  have hlocks := B9.notSynchronized
  subst hsz
  have hD := hD0.self (sz := s.heap.size)
  generalize hAe : va_A (MW cB cC cI cJ cZ z0 R pl N G B) s.heap.size = A at hD ⊢
  have hA : ∀ q : Nat, s.heap.size ≤ q → A q := fun q h => by rw [← hAe]; exact Or.inr h
  have hS : va_S A s.heap s.heap [] := va_S.rf
  have hcs : 0 + 0 ≤ (0 : Nat) ∧ 0 + 0 ≤ (0 : Nat) := ⟨Nat.le_refl 0, Nat.le_refl 0⟩
  have hl := lv_entry ([.ref z0, .int (nI f), .int (nI many)]) (n := 7) (Nat.le_of_ble_eq_true rfl)
  rw [lg_entry_eq]
  generalize (lg_sl ([.ref z0, .int (nI f), .int (nI many)]) ++ List.replicate (7 - (lg_sl ([.ref z0, .int (nI f), .int (nI many)])).length) Slot.unset).toArray = ls at hl ⊢
  have hl : lv_has ls 7 [(0, .ref z0), (1, .int (nI f)), (2, .int (nI many))] := hl
  obtain ⟨u1, u2, u3, u4, u5⟩ := ht9.2 f hf
  have u6 := ht9.1
  refine lv_iconst (v := nI 1) hx hb dX12_setCounts_0 (by decide) ?_
  refine lv_istore_n (lv' := [(3, .int (nI 1)), (0, .ref z0), (1, .int (nI f)), (2, .int (nI many))]) hx hb dX12_setCounts_1 rfl hl (by decide) rfl (fun ls hl => ?_)
  refine lv_aload_n hx hb dX12_setCounts_2 rfl (lv_at hl 1 rfl) ?_
  refine mg_54 hx hb hts inX12_setCounts hown hK hP (hts _ lkX12_setCounts_f107) dX12_setCounts_3 ?_
  refine lv_iconst (v := nI 0) hx hb dX12_setCounts_6 (by decide) ?_
  refine lv_iload_n hx hb dX12_setCounts_7 rfl (lv_at hl 2 rfl) ?_
  refine ms_54 hx hb hK hP hD hS (by omega) dX12_setCounts_8 (fun H locs hP hD hS => ?_)
  have e56 : va_up G 56 (G 56) = G := va_upid G 56
  have hP : va_P (dC, dI) vwCl (MW cB cC cI cJ cZ z0 R pl N (va_up (va_up G 56 (G 56)) 54 (va_up (G 54) 0 f)) B) H := by rw [e56]; exact hP
  have hD : va_D A (MW cB cC cI cJ cZ z0 R pl N (va_up (va_up G 56 (G 56)) 54 (va_up (G 54) 0 f)) B) := by rw [e56]; exact hD
  have hsc : SCI N G sz f many (G 56) 1 (va_up (G 54) 0 f) := ⟨fun x v hx _ => Or.inr ⟨0, by decide, by rw [va_up_self]; exact hx⟩, fun v => Or.inl rfl, fun i hi x hx => by rw [show i = 0 by omega, va_up_self] at hx; exact hx⟩
  refine lp_setC2 hx hb hml hown hts hK hA hG ht9 hN f many hm (fun M I H locs hI hM hsc hP hD hS ls hl => ?_) _ 1 (G 56) (va_up (G 54) 0 f) (Nat.lt_succ_self _) (hIup (hG 54) (by omega)) (hG 56) (ltup (j := 0) (fun i hi => absurd hi (Nat.not_lt_zero i)) hf) (by rw [sumC_push, sumC]; omega) hsc _ _ hP hD hS ls (lv_sub hl [1, 3, 0] rfl)
  exact W.vret hx hb hr (fun t ht hW => ⟨⟨(N, va_up (va_up G 56 M) 54 I, B, pl), rfl, ⟨rfl, ⟨I, M, hI, hM, rfl, fun x v hx hv => (hsc.1 x v hx hv).elim id (fun q => absurd q.choose_spec.1 (Nat.not_lt_zero _)), hsc.2.1⟩, rfl, rfl⟩, by rw [ht]; exact hP, va_K.moved hW.alike hK, hD⟩, hS.F ht⟩) hS.2.2 dX12_setCounts_104
