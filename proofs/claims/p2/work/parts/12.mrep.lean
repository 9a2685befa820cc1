def oX12_hasRepeated : List Cond := [Cond.fieldLink RX12 38 "MacroScopesModel" "counts" "[I", Cond.fieldLink RX12 107 "MacroScopesModel" "inner" "[I", Cond.methodLink RX12 192 yX12_part, Cond.instanceMethod yX12_part, Cond.selects RX12 yX12_part yX12_part, Cond.initialized RX12, Cond.methodLink RX12 330 yX12_isRepeated, Cond.instanceMethod yX12_isRepeated, Cond.selects RX12 yX12_isRepeated yX12_isRepeated]
def vX12_hasRepeated : List Cond := .code yX12_hasRepeated cX12_hasRepeated 6 (some .boolean) :: (oX12_hasRepeated ++ (vX12_part ++ (vX12_isRepeated ++ (wsX120))))
theorem lkX12_hasRepeated_f38 : Cond.fieldLink RX12 38 "MacroScopesModel" "counts" "[I" ∈ vX12_hasRepeated := List.mem_cons_of_mem _ (List.mem_append_left _ (List.mem_of_getElem? (i := 0) rfl))
theorem lkX12_hasRepeated_f107 : Cond.fieldLink RX12 107 "MacroScopesModel" "inner" "[I" ∈ vX12_hasRepeated := List.mem_cons_of_mem _ (List.mem_append_left _ (List.mem_of_getElem? (i := 1) rfl))
theorem inX12_hasRepeated : ∀ w ∈ wsX120, w ∈ vX12_hasRepeated := fun w h => List.mem_cons_of_mem _ (List.mem_append_right _ (List.mem_append_right _ (List.mem_append_right _ (h))))
theorem kX12_hasRepeated_X12_part_192 : GoodIn vX12_hasRepeated (wsV RX12 192 RX12 yX12_part vX12_part) := goodIn_sub (fun w h => (List.mem_append.mp h).elim (fun h => List.mem_cons_of_mem _ (List.mem_append_left _ ((by decide +kernel : ∀ w ∈ ([.methodLink RX12 192 yX12_part, .instanceMethod yX12_part, .selects RX12 yX12_part yX12_part, .initialized RX12] : List Cond), w ∈ oX12_hasRepeated) w h))) (fun h => List.mem_cons_of_mem _ (List.mem_append_right _ (List.mem_append_left _ (h))))) (by decide +kernel)
theorem kX12_hasRepeated_X12_isRepeated_330 : GoodIn vX12_hasRepeated (wsV RX12 330 RX12 yX12_isRepeated vX12_isRepeated) := goodIn_sub (fun w h => (List.mem_append.mp h).elim (fun h => List.mem_cons_of_mem _ (List.mem_append_left _ ((by decide +kernel : ∀ w ∈ ([.methodLink RX12 330 yX12_isRepeated, .instanceMethod yX12_isRepeated, .selects RX12 yX12_isRepeated yX12_isRepeated, .initialized RX12] : List Cond), w ∈ oX12_hasRepeated) w h))) (fun h => List.mem_cons_of_mem _ (List.mem_append_right _ (List.mem_append_right _ (List.mem_append_left _ (h)))))) (by decide +kernel)
/-- the name x stands in the form f, looked for d deep -/
def OCCf (kd vl ct pt : Nat → Nat) : Nat → Nat → Nat → Prop
  | 0, _, _ => False
  | d + 1, f, x => (kd f = 1 ∧ vl f = x) ∨ ∃ k, k < ct f ∧ OCCf kd vl ct pt d (pt (vl f + k)) x
abbrev OCC (G : Nat → Nat → Nat) : Nat → Nat → Nat → Prop := OCCf (G 10) (G 11) (G 12) (G 13)
theorem sumC_ge {sz c : Nat → Nat} {n k : Nat} (h : k < n) : sz (c k) ≤ sumC sz c n := by
  have h1 := sumC_mono sz c (k + 1) n h
  rw [sumC] at h1
  omega
theorem TREE.lt {N : Nat → Nat} {G : Nat → Nat → Nat} {sz : Nat → Nat} (h : TREE N G sz) {f k : Nat} (hf : f < N 14) (hk : k < G 12 f) : sz (CH G f k) < sz f := by
  have h1 := (h.2 f hf).1
  have h2 := sumC_ge (sz := sz) (c := CH G f) hk
  omega
theorem OCC_eq {N : Nat → Nat} {G : Nat → Nat → Nat} {sz : Nat → Nat} (h : TREE N G sz) {x : Nat} : ∀ (d f e : Nat), f < N 14 → sz f ≤ d → sz f ≤ e → (OCC G d f x ↔ OCC G e f x) := by
  intro d
  induction d with
  | zero => intro f e hf hd; exact absurd (h.one hf) (by omega)
  | succ d ih =>
    intro f e hf hd he
    cases e with
    | zero => exact absurd (h.one hf) (by omega)
    | succ e =>
      unfold OCC OCCf
      constructor
      · rintro (q | ⟨k, hk, q⟩)
        · exact Or.inl q
        · have := h.lt hf hk
          exact Or.inr ⟨k, hk, (ih _ e ((h.2 f hf).2.2.1 k hk).2 (by omega) (by omega)).mp q⟩
      · rintro (q | ⟨k, hk, q⟩)
        · exact Or.inl q
        · have := h.lt hf hk
          exact Or.inr ⟨k, hk, (ih _ e ((h.2 f hf).2.2.1 k hk).2 (by omega) (by omega)).mpr q⟩
/-- the name x stands in the form f -/
def OC (G : Nat → Nat → Nat) (sz : Nat → Nat) (f x : Nat) : Prop := OCC G (sz f) f x
theorem OC_iff {N : Nat → Nat} {G : Nat → Nat → Nat} {sz : Nat → Nat} (h : TREE N G sz) {f x : Nat} (hf : f < N 14) : OC G sz f x ↔ (G 10 f = 1 ∧ G 11 f = x) ∨ ∃ k, k < G 12 f ∧ OC G sz (CH G f k) x := by
  unfold OC
  have h1 := h.one hf
  obtain ⟨d, hd⟩ : ∃ d, sz f = d + 1 := ⟨sz f - 1, by omega⟩
  rw [hd, OCC, OCCf]
  constructor
  · rintro (q | ⟨k, hk, q⟩)
    · exact Or.inl q
    · have := h.lt hf hk
      exact Or.inr ⟨k, hk, (OCC_eq h _ _ _ ((h.2 f hf).2.2.1 k hk).2 (by omega) (Nat.le_refl _)).mp q⟩
  · rintro (q | ⟨k, hk, q⟩)
    · exact Or.inl q
    · have := h.lt hf hk
      exact Or.inr ⟨k, hk, (OCC_eq h _ _ _ ((h.2 f hf).2.2.1 k hk).2 (by omega) (Nat.le_refl _)).mpr q⟩
/-- what a row holds behind the putting of a list's parts -/
abbrev PUSHED (G : Nat → Nat → Nat) (n0 a0 j : Nat) (I0 I : Nat → Nat) : Prop := (∀ i, i < n0 → I i = I0 i) ∧ ∀ k, k < j → I (n0 + k) = CH G a0 k
theorem PUSHED.step {G : Nat → Nat → Nat} {n0 a0 j : Nat} {I0 I : Nat → Nat} (h : PUSHED G n0 a0 j I0 I) : PUSHED G n0 a0 (j + 1) I0 (va_up I (n0 + j) (CH G a0 j)) := by
  refine ⟨fun i hi => ?_, fun k hk => ?_⟩
  · rw [va_up_ne _ _ (by omega)]; exact h.1 i hi
  · by_cases e : k = j
    · subst e; rw [va_up_self]
    · rw [va_up_ne _ _ (by omega)]; exact h.2 k (by omega)
theorem TREE.up {N : Nat → Nat} {G : Nat → Nat → Nat} {sz : Nat → Nat} (h : TREE N G sz) (M : Nat → Nat) : TREE N (va_up G 56 M) sz := h

set_option maxHeartbeats 4000000 in
set_option maxRecDepth 100000 in
theorem lp_hasRep1 {p : Program} {l : Launch} {e : Env} {s : State} {m : MethodId} {args : Array Value} {below : List Frame} {meth : Method} {c : Code} {Q : State → Prop} {A : Nat → Prop} {dC : Nat → ClassId} {dI : Nat → Nat → Nat} {cB cC cI cJ cZ : ClassId} {z0 : Nat} {R : Nat → Nat} (hx : p.tables.exec = Jvm.exec) (hb : c.code = cX12_hasRepeated) (hml : c.maxLocals = 6) (hown : s.vm.findClass RX12 = some m.cls) (hts : ∀ w ∈ vX12_hasRepeated, w.before args s = true) (hK : va_K (dC, dI) vwCl (TY cB cC cI cJ cZ) s) (hA : ∀ q : Nat, s.heap.size ≤ q → A q) {pl : Int32} {N : Nat → Nat} {G : Nat → Nat → Nat} {B : Nat → Nat → Int32} {sz : Nat → Nat} (hG : ∀ k i, G k i < 1048576) (ht9 : TREE N G sz) (n0 a0 bs : Nat) (I0 : Nat → Nat) (ha0 : a0 < N 14) (hbs : bs + sz a0 ≤ 3001) (hs : Nat) (kk : ∀ (I : Nat → Nat) (H : Heap) (locs : List Loc), (∀ i, I i < 1048576) → (∀ i, i < n0 + G 12 a0 → I i < N 14) → sumC sz I (n0 + G 12 a0) = bs + sumC sz (CH G a0) (G 12 a0) → PUSHED G n0 a0 (G 12 a0) I0 I → va_P (dC, dI) vwCl (MW cB cC cI cJ cZ z0 R pl N (va_up G 54 I) B) H → va_D A (MW cB cC cI cJ cZ z0 R pl N (va_up G 54 I) B) → va_S A s.heap H locs → ∀ (ls : Array Slot), lv_has ls 6 [(0, .ref z0), (2, .int (nI (n0 + G 12 a0))), (3, .int (nI hs))] → W p l e (headSpec vX12_hasRepeated { frames := 2, cells := 0, slots := 0, locals := 45 }).room s m args below meth c H locs 0 0 Q (F0 m 75 ls [])) : ∀ (k : Nat) (j : Nat) (I : Nat → Nat), j ≤ G 12 a0 → G 12 a0 + 1 ≤ j + k → (∀ i, I i < 1048576) → (∀ i, i < n0 + j → I i < N 14) → sumC sz I (n0 + j) = bs + sumC sz (CH G a0) j → PUSHED G n0 a0 j I0 I → ∀ (H : Heap) (locs : List Loc), va_P (dC, dI) vwCl (MW cB cC cI cJ cZ z0 R pl N (va_up G 54 I) B) H → va_D A (MW cB cC cI cJ cZ z0 R pl N (va_up G 54 I) B) → va_S A s.heap H locs → ∀ (ls : Array Slot), lv_has ls 6 [(0, .ref z0), (2, .int (nI (n0 + j))), (4, .int (nI a0)), (5, .int (nI j)), (3, .int (nI hs))] → W p l e (headSpec vX12_hasRepeated { frames := 2, cells := 0, slots := 0, locals := 45 }).room s m args below meth c H locs 0 0 Q (F0 m 40 ls []) := by
  have hcs : 0 + 0 ≤ (0 : Nat) ∧ 0 + 0 ≤ (0 : Nat) := ⟨Nat.le_refl 0, Nat.le_refl 0⟩
  intro k
  induction k with
  | zero =>
    intro j I hj hk hI hlow hsum hpu
    omega
  | succ k ih =>
    intro j I hj hk hI hlow hsum hpu H locs hP hD hS ls hl
    have g1 := hG 12 a0
    obtain ⟨u1, u2, u3, u4, u5⟩ := ht9.2 a0 ha0
    have u6 := ht9.1
    have u7 := sumC_len (sz := sz) (c := I) (n0 + j) (fun i hi => ht9.one (hlow i hi))
    refine lv_iload hx hb dX12_hasRepeated_40 (lv_at hl 3 rfl) ?_
    refine lv_aload_n hx hb dX12_hasRepeated_42 rfl (lv_at hl 0 rfl) ?_
    refine mg_12 hx hb hts inX12_hasRepeated hown hK hP (hts _ lkX12_hasRepeated_f38) dX12_hasRepeated_43 ?_
    refine lv_iload hx hb dX12_hasRepeated_46 (lv_at hl 2 rfl) ?_
    refine ml_12 hx hb hK hP (by omega) dX12_hasRepeated_48 ?_
    refine tp_i (y := nI (G 12 a0)) rfl ?_
    refine bn_ge (tgt := 75) hx hb (by omega) (by omega) dX12_hasRepeated_49 (by decide) (fun c1 => ?_) (fun c1 => ?_)
    · have e9 : j = G 12 a0 := by omega
      subst e9
      exact kk I H locs hI hlow hsum hpu hP hD hS ls (lv_sub hl [0, 1, 4] rfl)
    · obtain ⟨t1, t2⟩ := u3 j c1
      have t5 : sumC sz (CH G a0) j ≤ sumC sz (CH G a0) (G 12 a0) := sumC_mono _ _ _ _ (by omega)
      refine lv_aload_n hx hb dX12_hasRepeated_52 rfl (lv_at hl 0 rfl) ?_
      refine mg_54 hx hb hts inX12_hasRepeated hown hK hP (hts _ lkX12_hasRepeated_f107) dX12_hasRepeated_53 ?_
      refine lv_iload_n hx hb dX12_hasRepeated_56 rfl (lv_at hl 1 rfl) ?_
      refine lv_aload_n hx hb dX12_hasRepeated_57 rfl (lv_at hl 0 rfl) ?_
      refine lv_iload hx hb dX12_hasRepeated_58 (lv_at hl 2 rfl) ?_
      refine lv_iload hx hb dX12_hasRepeated_60 (lv_at hl 3 rfl) ?_
      refine mcl_i (As := [.int (nI a0), .int (nI j)]) (rest := [.int (nI (n0 + j)), .ref (R 54)]) ⟨hx, hb, hml, hown, hts⟩ (m_part l dC dI cB cC cI cJ cZ z0 R pl N (va_up G 54 I) B a0 j (hGup hG hI) (by omega) t1 H.size) (cwV 2 hts kX12_hasRepeated_X12_part_192 rfl rfl rfl (by decide +kernel) ⟨Nat.le_of_ble_eq_true rfl, Nat.le_of_ble_eq_true rfl⟩) hK hP hD hS hA rfl rfl hl.1 (lv_room (Nat.le_of_ble_eq_true rfl)) dX12_hasRepeated_62 hcs (fun r_5 N_1 G_2 B_3 pl_4 hw H locs hP hD hS => ?_)
      dsimp only at hw
      obtain ⟨e1, e2, e3, e4, hw⟩ := hw
      rw [e1, e2, e3, e4] at hP hD
      have hw : r_5 = nI (CH G a0 j) := hw
      subst hw
      refine ms_54 hx hb hK hP hD hS (by omega) dX12_hasRepeated_65 (fun H locs hP hD hS => ?_)
      rw [bx_uu] at hP hD
      refine lv_iinc (v := nI ((n0 + j) + 1)) (lv' := [(2, .int (nI ((n0 + j) + 1))), (0, .ref z0), (4, .int (nI a0)), (5, .int (nI j)), (3, .int (nI hs))]) hx hb dX12_hasRepeated_66 hl (k := 1) rfl (nI_add (n0 + j) 1) (by decide) rfl (fun ls hl => ?_)
      refine lv_iinc (v := nI (j + 1)) (lv' := [(5, .int (nI (j + 1))), (2, .int (nI ((n0 + j) + 1))), (0, .ref z0), (4, .int (nI a0)), (3, .int (nI hs))]) hx hb dX12_hasRepeated_69 hl (k := 3) rfl (nI_add j 1) (by decide) rfl (fun ls hl => ?_)
      refine lv_goto (tgt := 40) hx hb dX12_hasRepeated_72 (by decide) ?_
      exact ih (j + 1) (va_up I (n0 + j) (CH G a0 j)) (by omega) (by omega) (hIup hI (by omega)) (ltup (j := n0 + j) hlow t2) (by rw [show n0 + (j + 1) = n0 + j + 1 from rfl, sumC_push, hsum, sumC]; omega) (PUSHED.step hpu) _ _ hP hD hS ls (lv_sub hl [2, 1, 3, 0, 4] rfl)

set_option maxHeartbeats 4000000 in
set_option maxRecDepth 100000 in
theorem lp_hasRep2 {p : Program} {l : Launch} {e : Env} {s : State} {m : MethodId} {args : Array Value} {below : List Frame} {meth : Method} {c : Code} {Q : State → Prop} {A : Nat → Prop} {dC : Nat → ClassId} {dI : Nat → Nat → Nat} {cB cC cI cJ cZ : ClassId} {z0 : Nat} {R : Nat → Nat} (hx : p.tables.exec = Jvm.exec) (hb : c.code = cX12_hasRepeated) (hml : c.maxLocals = 6) (hown : s.vm.findClass RX12 = some m.cls) (hts : ∀ w ∈ vX12_hasRepeated, w.before args s = true) (hK : va_K (dC, dI) vwCl (TY cB cC cI cJ cZ) s) (hA : ∀ q : Nat, s.heap.size ≤ q → A q) {pl : Int32} {N : Nat → Nat} {G : Nat → Nat → Nat} {B : Nat → Nat → Int32} {sz : Nat → Nat} (hG : ∀ k i, G k i < 1048576) (ht9 : TREE N G sz) (hN : N 49 ≤ 1600) (kk : ∀ (hs : Nat) (I : Nat → Nat) (H : Heap) (locs : List Loc), (∀ i, I i < 1048576) → hs ≤ 1 → va_P (dC, dI) vwCl (MW cB cC cI cJ cZ z0 R pl N (va_up G 54 I) B) H → va_D A (MW cB cC cI cJ cZ z0 R pl N (va_up G 54 I) B) → va_S A s.heap H locs → ∀ (ls : Array Slot), lv_has ls 6 [(3, .int (nI hs))] → W p l e (headSpec vX12_hasRepeated { frames := 2, cells := 0, slots := 0, locals := 45 }).room s m args below meth c H locs 0 0 Q (F0 m 78 ls [])) : ∀ (k : Nat) (n hs : Nat) (I : Nat → Nat), sumC sz I n < k → (∀ i, I i < 1048576) → (∀ i, i < n → I i < N 14) → sumC sz I n ≤ 3001 → hs ≤ 1 → ∀ (H : Heap) (locs : List Loc), va_P (dC, dI) vwCl (MW cB cC cI cJ cZ z0 R pl N (va_up G 54 I) B) H → va_D A (MW cB cC cI cJ cZ z0 R pl N (va_up G 54 I) B) → va_S A s.heap H locs → ∀ (ls : Array Slot), lv_has ls 6 [(0, .ref z0), (2, .int (nI n)), (3, .int (nI hs))] → W p l e (headSpec vX12_hasRepeated { frames := 2, cells := 0, slots := 0, locals := 45 }).room s m args below meth c H locs 0 0 Q (F0 m 11 ls []) := by
  have hcs : 0 + 0 ≤ (0 : Nat) ∧ 0 + 0 ≤ (0 : Nat) := ⟨Nat.le_refl 0, Nat.le_refl 0⟩
  intro k
  induction k with
  | zero =>
    intro n hs I hk hI hlow hsum hhs
    omega
  | succ k ih =>
    intro n hs I hk hI hlow hsum hhs H locs hP hD hS ls hl
    have u6 := ht9.1
    have u7 := sumC_len (sz := sz) (c := I) n (fun i hi => ht9.one (hlow i hi))
    refine lv_iload_n hx hb dX12_hasRepeated_11 rfl (lv_at hl 1 rfl) ?_
    refine bz_le (tgt := 78) hx hb (by omega) dX12_hasRepeated_12 (by decide) (fun c1 => ?_) (fun c1 => ?_)
    · exact kk hs I H locs hI hhs hP hD hS ls (lv_sub hl [2] rfl)
    · refine lv_iload_n hx hb dX12_hasRepeated_15 rfl (lv_at hl 2 rfl) ?_
      refine bz_ne (tgt := 78) hx hb (by omega) dX12_hasRepeated_16 (by decide) (fun c2 => ?_) (fun c2 => ?_)
      · exact kk hs I H locs hI hhs hP hD hS ls (lv_sub hl [2] rfl)
      · obtain ⟨n1, rfl⟩ : ∃ n1, n = n1 + 1 := ⟨n - 1, by omega⟩
        have t1 := hlow n1 (by omega)
        obtain ⟨w1, w2, w3, w4, w5⟩ := ht9.2 (I n1) t1
        rw [sumC] at hsum hk u7
        refine lv_iinc (v := nI ((n1 + 1) - 1)) (lv' := [(2, .int (nI ((n1 + 1) - 1))), (0, .ref z0), (3, .int (nI hs))]) hx hb dX12_hasRepeated_19 hl (k := 1) rfl (sb_m1 (by omega)) (by decide) rfl (fun ls hl => ?_)
        have hl : lv_has ls 6 [(2, .int (nI n1)), (0, .ref z0), (3, .int (nI hs))] := hl
        refine lv_aload_n hx hb dX12_hasRepeated_22 rfl (lv_at hl 1 rfl) ?_
        refine mg_54 hx hb hts inX12_hasRepeated hown hK hP (hts _ lkX12_hasRepeated_f107) dX12_hasRepeated_23 ?_
        refine lv_iload_n hx hb dX12_hasRepeated_26 rfl (lv_at hl 0 rfl) ?_
        refine ml_54 hx hb hK hP (by omega) dX12_hasRepeated_27 ?_
        refine tp_i (y := nI (I n1)) rfl ?_
        refine lv_istore (lv' := [(4, .int (nI (I n1))), (2, .int (nI n1)), (0, .ref z0), (3, .int (nI hs))]) hx hb dX12_hasRepeated_28 hl (by decide) rfl (fun ls hl => ?_)
        refine lv_aload_n hx hb dX12_hasRepeated_30 rfl (lv_at hl 2 rfl) ?_
        refine lv_iload hx hb dX12_hasRepeated_31 (lv_at hl 0 rfl) ?_
        refine mcl_i (As := [.int (nI (I n1))]) (rest := []) ⟨hx, hb, hml, hown, hts⟩ (m_isRepeated l dC dI cB cC cI cJ cZ z0 R pl N (va_up G 54 I) B (I n1) (hGup hG hI) hN (by omega) H.size) (cwV 1 hts kX12_hasRepeated_X12_isRepeated_330 rfl rfl rfl (by decide +kernel) ⟨Nat.le_of_ble_eq_true rfl, Nat.le_of_ble_eq_true rfl⟩) hK hP hD hS hA rfl rfl hl.1 (lv_room (Nat.le_of_ble_eq_true rfl)) dX12_hasRepeated_33 hcs (fun r_5 N_1 G_2 B_3 pl_4 hw H locs hP hD hS => ?_)
        dsimp only at hw
        obtain ⟨e1, e2, e3, e4, hw⟩ := hw
        rw [e1, e2, e3, e4] at hP hD
        obtain ⟨h2, hh2, hw⟩ : ∃ h2, h2 ≤ 1 ∧ r_5 = nI h2 := ⟨_, by split <;> omega, hw⟩
        subst hw
        refine lv_istore_n (lv' := [(3, .int (nI h2)), (4, .int (nI (I n1))), (2, .int (nI n1)), (0, .ref z0)]) hx hb dX12_hasRepeated_36 rfl hl (by decide) rfl (fun ls hl => ?_)
        refine lv_iconst (v := nI 0) hx hb dX12_hasRepeated_37 (by decide) ?_
        refine lv_istore (lv' := [(5, .int (nI 0)), (3, .int (nI h2)), (4, .int (nI (I n1))), (2, .int (nI n1)), (0, .ref z0)]) hx hb dX12_hasRepeated_38 hl (by decide) rfl (fun ls hl => ?_)
        refine lp_hasRep1 hx hb hml hown hts hK hA hG ht9 n1 (I n1) (sumC sz I n1) I t1 (by omega) h2 (fun I2 H locs hI2 hlow2 hsum2 hpu2 hP hD hS ls hl => ?_) (G 12 (I n1) + 1) 0 I (by omega) (by omega) hI (fun i hi => hlow i (by omega)) rfl ⟨fun _ _ => rfl, fun k hk => absurd hk (Nat.not_lt_zero k)⟩ _ _ hP hD hS ls (lv_sub hl [4, 3, 2, 0, 1] rfl)
        refine lv_goto (tgt := 11) hx hb dX12_hasRepeated_75 (by decide) ?_
        exact ih _ _ I2 (by omega) hI2 hlow2 (by omega) hh2 _ _ hP hD hS ls (lv_sub hl [0, 1, 2] rfl)

set_option maxHeartbeats 4000000 in
set_option maxRecDepth 100000 in
/-- hasRepeated -/
theorem m_hasRepeated (l : Launch) (dC : Nat → ClassId) (dI : Nat → Nat → Nat) (cB cC cI cJ cZ : ClassId) (z0 : Nat) (R : Nat → Nat) (pl : Int32) (N : Nat → Nat) (G : Nat → Nat → Nat) (B : Nat → Nat → Int32) (f : Nat) (sz : Nat → Nat) (hG : ∀ k i, G k i < 1048576) (ht9 : TREE N G sz) (hN : N 49 ≤ 1600) (hf : f < N 14) (s0 : Nat) : Met l yX12_hasRepeated vX12_hasRepeated { frames := 2, cells := 0, slots := 0, locals := 45 } (va_Pc [.ref z0, .int (nI f)] (mPre dC dI cB cC cI cJ cZ z0 R pl N G B s0)) (va_Qi (fun (r : Int32) (u : ((Nat → Nat) × (Nat → Nat → Nat) × (Nat → Nat → Int32) × Int32)) => match u with | (N1, G1, B1, pl1) => N1 = N ∧ (∃ I, (∀ i, I i < 1048576) ∧ G1 = va_up G 54 I) ∧ B1 = B ∧ pl1 = pl ∧ ∃ v, v ≤ 1 ∧ r = nI v) (mPost dC dI cB cC cI cJ cZ z0 R (va_A (MW cB cC cI cJ cZ z0 R pl N G B) s0)) (va_A (MW cB cC cI cJ cZ z0 R pl N G B) s0)) 0 0 (va_A (MW cB cC cI cJ cZ z0 R pl N G B) s0) := by
  refine Met.ofW (cc := cX12_hasRepeated) (maxL := 6) (ret := (some .boolean)) (by decide) rfl ?_
  intro p e s m args below meth c s₁ B9 hml hv
  obtain ⟨rfl, hsz, hP, hK, hD0⟩ := hv
  have hx := B9.exec
  have hb := B9.bytes
  have hr := B9.returns
  have hts := atoms_spec (ws := vX12_hasRepeated) B9.pre
  have hown : s.vm.findClass RX12 = some m.cls := findClass_of_methodNamed B9.named
  have hlocks := B9.notSynchronized
  subst hsz
  have hD := hD0.self (sz := s.heap.size)
  generalize hAe : va_A (MW cB cC cI cJ cZ z0 R pl N G B) s.heap.size = A at hD ⊢
  have hA : ∀ q : Nat, s.heap.size ≤ q → A q := fun q h => by rw [← hAe]; exact Or.inr h
  have hS : va_S A s.heap s.heap [] := va_S.rf
  have hcs : 0 + 0 ≤ (0 : Nat) ∧ 0 + 0 ≤ (0 : Nat) := ⟨Nat.le_refl 0, Nat.le_refl 0⟩
  have hl := lv_entry ([.ref z0, .int (nI f)]) (n := 6) (Nat.le_of_ble_eq_true rfl)
  rw [lg_entry_eq]
  generalize (lg_sl ([.ref z0, .int (nI f)]) ++ List.replicate (6 - (lg_sl ([.ref z0, .int (nI f)])).length) Slot.unset).toArray = ls at hl ⊢
  have hl : lv_has ls 6 [(0, .ref z0), (1, .int (nI f))] := hl
  obtain ⟨u1, u2, u3, u4, u5⟩ := ht9.2 f hf
  have u6 := ht9.1
  refine lv_iconst (v := nI 1) hx hb dX12_hasRepeated_0 (by decide) ?_
  refine lv_istore_n (lv' := [(2, .int (nI 1)), (0, .ref z0), (1, .int (nI f))]) hx hb dX12_hasRepeated_1 rfl hl (by decide) rfl (fun ls hl => ?_)
  refine lv_aload_n hx hb dX12_hasRepeated_2 rfl (lv_at hl 1 rfl) ?_
  refine mg_54 hx hb hts inX12_hasRepeated hown hK hP (hts _ lkX12_hasRepeated_f107) dX12_hasRepeated_3 ?_
  refine lv_iconst (v := nI 0) hx hb dX12_hasRepeated_6 (by decide) ?_
  refine lv_iload_n hx hb dX12_hasRepeated_7 rfl (lv_at hl 2 rfl) ?_
  refine ms_54 hx hb hK hP hD hS (by omega) dX12_hasRepeated_8 (fun H locs hP hD hS => ?_)
  refine lv_iconst (v := nI 0) hx hb dX12_hasRepeated_9 (by decide) ?_
  refine lv_istore_n (lv' := [(3, .int (nI 0)), (2, .int (nI 1)), (0, .ref z0), (1, .int (nI f))]) hx hb dX12_hasRepeated_10 rfl hl (by decide) rfl (fun ls hl => ?_)
  refine lp_hasRep2 hx hb hml hown hts hK hA hG ht9 hN (fun hs I H locs hI hhs hP hD hS ls hl => ?_) _ 1 0 (va_up (G 54) 0 f) (Nat.lt_succ_self _) (hIup (hG 54) (by omega)) (ltup (j := 0) (fun i hi => absurd hi (Nat.not_lt_zero i)) hf) (by rw [sumC_push, sumC]; omega) (by decide) _ _ hP hD hS ls (lv_sub hl [2, 1, 0] rfl)
  refine lv_iload_n hx hb dX12_hasRepeated_78 rfl (lv_at hl 0 rfl) ?_
  have hz1 : narrow .boolean (.int (nI hs)) = .int (nI hs) := by rcases (show hs = 0 ∨ hs = 1 by omega) with h | h <;> rw [h] <;> rfl
  exact W.zret (v := (nI hs)) hx hb hr hz1 (fun t ht hW => ⟨⟨(nI hs), (N, va_up G 54 I, B, pl), rfl, ⟨rfl, ⟨I, hI, rfl⟩, rfl, rfl, hs, hhs, rfl⟩, by rw [ht]; exact hP, va_K.moved hW.alike hK, hD⟩, hS.F ht⟩) hS.2.2 dX12_hasRepeated_79
