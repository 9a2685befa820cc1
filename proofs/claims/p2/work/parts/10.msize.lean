def oX12_sizeOf : List Cond := [Cond.fieldLink RX12 38 "MacroScopesModel" "counts" "[I", Cond.fieldLink RX12 107 "MacroScopesModel" "inner" "[I", Cond.methodLink RX12 192 yX12_part, Cond.instanceMethod yX12_part, Cond.selects RX12 yX12_part yX12_part, Cond.initialized RX12]
def vX12_sizeOf : List Cond := .code yX12_sizeOf cX12_sizeOf 6 (some .int) :: (oX12_sizeOf ++ (vX12_part ++ (wsX120)))
theorem lkX12_sizeOf_f38 : Cond.fieldLink RX12 38 "MacroScopesModel" "counts" "[I" ∈ vX12_sizeOf := List.mem_cons_of_mem _ (List.mem_append_left _ (List.mem_of_getElem? (i := 0) rfl))
theorem lkX12_sizeOf_f107 : Cond.fieldLink RX12 107 "MacroScopesModel" "inner" "[I" ∈ vX12_sizeOf := List.mem_cons_of_mem _ (List.mem_append_left _ (List.mem_of_getElem? (i := 1) rfl))
theorem inX12_sizeOf : ∀ w ∈ wsX120, w ∈ vX12_sizeOf := fun w h => List.mem_cons_of_mem _ (List.mem_append_right _ (List.mem_append_right _ (h)))
theorem kX12_sizeOf_X12_part_192 : GoodIn vX12_sizeOf (wsV RX12 192 RX12 yX12_part vX12_part) := goodIn_sub (fun w h => (List.mem_append.mp h).elim (fun h => List.mem_cons_of_mem _ (List.mem_append_left _ ((by decide +kernel : ∀ w ∈ ([.methodLink RX12 192 yX12_part, .instanceMethod yX12_part, .selects RX12 yX12_part yX12_part, .initialized RX12] : List Cond), w ∈ oX12_sizeOf) w h))) (fun h => List.mem_cons_of_mem _ (List.mem_append_right _ (List.mem_append_left _ (h))))) (by decide +kernel)
/-- the sum of sz over the first n of a row of forms -/
def sumC (sz c : Nat → Nat) : Nat → Nat
  | 0 => 0
  | n + 1 => sumC sz c n + sz (c n)
/-- forms are trees: sz f bounds how many numbers, names and lists f has -/
def TREE (N : Nat → Nat) (G : Nat → Nat → Nat) (sz : Nat → Nat) : Prop := N 14 ≤ 90000 ∧ ∀ f, f < N 14 → 1 + sumC sz (CH G f) (G 12 f) ≤ sz f ∧ sz f ≤ 3001 ∧ (∀ k, k < G 12 f → G 11 f + k < 90000 ∧ CH G f k < N 14) ∧ (G 10 f = 1 → nmOK N (G 11 f)) ∧ (G 10 f ≠ 2 → G 12 f = 0)
/-- sz f tells just how many -/
def TREQ (N : Nat → Nat) (G : Nat → Nat → Nat) (sz : Nat → Nat) : Prop := ∀ f, f < N 14 → sz f = 1 + sumC sz (CH G f) (G 12 f)
theorem sumC_up {sz c : Nat → Nat} {j v : Nat} : ∀ n, n ≤ j → sumC sz (va_up c j v) n = sumC sz c n := by
  intro n
  induction n with
  | zero => intro _; rfl
  | succ n ih =>
    intro h
    rw [sumC, sumC, ih (by omega), va_up_ne _ _ (by omega)]
theorem sumC_len {sz c : Nat → Nat} : ∀ n, (∀ i, i < n → 1 ≤ sz (c i)) → n ≤ sumC sz c n := by
  intro n
  induction n with
  | zero => intro _; exact Nat.zero_le _
  | succ n ih =>
    intro h
    rw [sumC]
    have := ih (fun i hi => h i (by omega))
    have := h n (by omega)
    omega
theorem TREE.one {N : Nat → Nat} {G : Nat → Nat → Nat} {sz : Nat → Nat} (h : TREE N G sz) {f : Nat} (hf : f < N 14) : 1 ≤ sz f := by
  have := (h.2 f hf).1
  omega
theorem hGup {G : Nat → Nat → Nat} {q : Nat} {I : Nat → Nat} (hG : ∀ k i, G k i < 1048576) (hI : ∀ i, I i < 1048576) : ∀ k i, va_up G q I k i < 1048576 := by
  intro k i
  by_cases h : k = q
  · subst h; rw [va_up_self]; exact hI i
  · rw [va_up_ne _ _ h]; exact hG k i
theorem hIup {I : Nat → Nat} {j v : Nat} (hI : ∀ i, I i < 1048576) (hv : v < 1048576) : ∀ i, va_up I j v i < 1048576 := by
  intro i
  by_cases h : i = j
  · subst h; rw [va_up_self]; exact hv
  · rw [va_up_ne _ _ h]; exact hI i
theorem ltup {I : Nat → Nat} {j v M : Nat} (h : ∀ i, i < j → I i < M) (hv : v < M) : ∀ i, i < j + 1 → va_up I j v i < M := by
  intro i hi
  by_cases e : i = j
  · subst e; rw [va_up_self]; exact hv
  · rw [va_up_ne _ _ e]; exact h i (by omega)
theorem sumC_push {sz I : Nat → Nat} {j v : Nat} : sumC sz (va_up I j v) (j + 1) = sumC sz I j + sz v := by
  rw [sumC, sumC_up j (Nat.le_refl j), va_up_self]

theorem sumC_mono (sz c : Nat → Nat) (a : Nat) : ∀ b, a ≤ b → sumC sz c a ≤ sumC sz c b := by
  intro b
  induction b with
  | zero => intro h; rw [Nat.le_zero.mp h]; exact Nat.le_refl _
  | succ b ih =>
    intro h
    by_cases e : a = b + 1
    · rw [e]; exact Nat.le_refl _
    · rw [sumC]
      have := ih (by omega)
      omega
set_option maxHeartbeats 4000000 in
set_option maxRecDepth 100000 in
theorem lp_sizeOf1 {p : Program} {l : Launch} {e : Env} {s : State} {m : MethodId} {args : Array Value} {below : List Frame} {meth : Method} {c : Code} {Q : State → Prop} {A : Nat → Prop} {dC : Nat → ClassId} {dI : Nat → Nat → Nat} {cB cC cI cJ cZ : ClassId} {z0 : Nat} {R : Nat → Nat} (hx : p.tables.exec = Jvm.exec) (hb : c.code = cX12_sizeOf) (hml : c.maxLocals = 6) (hown : s.vm.findClass RX12 = some m.cls) (hts : ∀ w ∈ vX12_sizeOf, w.before args s = true) (hK : va_K (dC, dI) vwCl (TY cB cC cI cJ cZ) s) (hA : ∀ q : Nat, s.heap.size ≤ q → A q) {pl : Int32} {N : Nat → Nat} {G : Nat → Nat → Nat} {B : Nat → Nat → Int32} {sz : Nat → Nat} (hG : ∀ k i, G k i < 1048576) (ht9 : TREE N G sz) (n0 a0 bs : Nat) (ha0 : a0 < N 14) (hbs : bs + sz a0 ≤ 3001) (cnt : Nat) (kk : ∀ (I : Nat → Nat) (H : Heap) (locs : List Loc), (∀ i, I i < 1048576) → (∀ i, i < n0 + G 12 a0 → I i < N 14) → sumC sz I (n0 + G 12 a0) = bs + sumC sz (CH G a0) (G 12 a0) → va_P (dC, dI) vwCl (MW cB cC cI cJ cZ z0 R pl N (va_up G 54 I) B) H → va_D A (MW cB cC cI cJ cZ z0 R pl N (va_up G 54 I) B) → va_S A s.heap H locs → ∀ (ls : Array Slot), lv_has ls 6 [(0, .ref z0), (2, .int (nI (n0 + G 12 a0))), (3, .int (nI cnt))] → W p l e (headSpec vX12_sizeOf { frames := 1, cells := 0, slots := 0, locals := 22 }).room s m args below meth c H locs 0 0 Q (F0 m 67 ls [])) : ∀ (k : Nat) (j : Nat) (I : Nat → Nat), j ≤ G 12 a0 → G 12 a0 + 1 ≤ j + k → (∀ i, I i < 1048576) → (∀ i, i < n0 + j → I i < N 14) → sumC sz I (n0 + j) = bs + sumC sz (CH G a0) j → ∀ (H : Heap) (locs : List Loc), va_P (dC, dI) vwCl (MW cB cC cI cJ cZ z0 R pl N (va_up G 54 I) B) H → va_D A (MW cB cC cI cJ cZ z0 R pl N (va_up G 54 I) B) → va_S A s.heap H locs → ∀ (ls : Array Slot), lv_has ls 6 [(0, .ref z0), (2, .int (nI (n0 + j))), (4, .int (nI a0)), (5, .int (nI j)), (3, .int (nI cnt))] → W p l e (headSpec vX12_sizeOf { frames := 1, cells := 0, slots := 0, locals := 22 }).room s m args below meth c H locs 0 0 Q (F0 m 32 ls []) := by
  have hcs : 0 + 0 ≤ (0 : Nat) ∧ 0 + 0 ≤ (0 : Nat) := ⟨Nat.le_refl 0, Nat.le_refl 0⟩
  intro k
  induction k with
  | zero =>
    intro j I hj hk hI hlow hsum
    omega
  | succ k ih =>
    intro j I hj hk hI hlow hsum H locs hP hD hS ls hl
    have g1 := hG 12 a0
    obtain ⟨u1, u2, u3, u4, u5⟩ := ht9.2 a0 ha0
    have u6 := ht9.1
    have u7 := sumC_len (sz := sz) (c := I) (n0 + j) (fun i hi => ht9.one (hlow i hi))
    refine lv_iload hx hb dX12_sizeOf_32 (lv_at hl 3 rfl) ?_
    refine lv_aload_n hx hb dX12_sizeOf_34 rfl (lv_at hl 0 rfl) ?_
    refine mg_12 hx hb hts inX12_sizeOf hown hK hP (hts _ lkX12_sizeOf_f38) dX12_sizeOf_35 ?_
    refine lv_iload hx hb dX12_sizeOf_38 (lv_at hl 2 rfl) ?_
    refine ml_12 hx hb hK hP (by omega) dX12_sizeOf_40 ?_
    refine tp_i (y := nI (G 12 a0)) rfl ?_
    refine bn_ge (tgt := 67) hx hb (by omega) (by omega) dX12_sizeOf_41 (by decide) (fun c1 => ?_) (fun c1 => ?_)
    · have e9 : j = G 12 a0 := by omega
      subst e9
      exact kk I H locs hI hlow hsum hP hD hS ls (lv_sub hl [0, 1, 4] rfl)
    · obtain ⟨t1, t2⟩ := u3 j c1
      have t5 : sumC sz (CH G a0) j ≤ sumC sz (CH G a0) (G 12 a0) := sumC_mono _ _ _ _ (by omega)
      refine lv_aload_n hx hb dX12_sizeOf_44 rfl (lv_at hl 0 rfl) ?_
      refine mg_54 hx hb hts inX12_sizeOf hown hK hP (hts _ lkX12_sizeOf_f107) dX12_sizeOf_45 ?_
      refine lv_iload_n hx hb dX12_sizeOf_48 rfl (lv_at hl 1 rfl) ?_
      refine lv_aload_n hx hb dX12_sizeOf_49 rfl (lv_at hl 0 rfl) ?_
      refine lv_iload hx hb dX12_sizeOf_50 (lv_at hl 2 rfl) ?_
      refine lv_iload hx hb dX12_sizeOf_52 (lv_at hl 3 rfl) ?_
      refine mcl_i (As := [.int (nI a0), .int (nI j)]) (rest := [.int (nI (n0 + j)), .ref (R 54)]) ⟨hx, hb, hml, hown, hts⟩ (m_part l dC dI cB cC cI cJ cZ z0 R pl N (va_up G 54 I) B a0 j (hGup hG hI) (by omega) t1 H.size) (cwV 2 hts kX12_sizeOf_X12_part_192 rfl rfl rfl (by decide +kernel) ⟨Nat.le_of_ble_eq_true rfl, Nat.le_of_ble_eq_true rfl⟩) hK hP hD hS hA rfl rfl hl.1 (lv_room (Nat.le_of_ble_eq_true rfl)) dX12_sizeOf_54 hcs (fun r_5 N_1 G_2 B_3 pl_4 hw H locs hP hD hS => ?_)
      dsimp only at hw
      obtain ⟨e1, e2, e3, e4, hw⟩ := hw
      rw [e1, e2, e3, e4] at hP hD
      have hw : r_5 = nI (CH G a0 j) := hw
      subst hw
      refine ms_54 hx hb hK hP hD hS (by omega) dX12_sizeOf_57 (fun H locs hP hD hS => ?_)
      rw [bx_uu] at hP hD
      refine lv_iinc (v := nI ((n0 + j) + 1)) (lv' := [(2, .int (nI ((n0 + j) + 1))), (0, .ref z0), (4, .int (nI a0)), (5, .int (nI j)), (3, .int (nI cnt))]) hx hb dX12_sizeOf_58 hl (k := 1) rfl (nI_add (n0 + j) 1) (by decide) rfl (fun ls hl => ?_)
      refine lv_iinc (v := nI (j + 1)) (lv' := [(5, .int (nI (j + 1))), (2, .int (nI ((n0 + j) + 1))), (0, .ref z0), (4, .int (nI a0)), (3, .int (nI cnt))]) hx hb dX12_sizeOf_61 hl (k := 3) rfl (nI_add j 1) (by decide) rfl (fun ls hl => ?_)
      refine lv_goto (tgt := 32) hx hb dX12_sizeOf_64 (by decide) ?_
      exact ih (j + 1) (va_up I (n0 + j) (CH G a0 j)) (by omega) (by omega) (hIup hI (by omega)) (ltup hlow t2) (by rw [show n0 + (j + 1) = n0 + j + 1 from rfl, sumC_push, hsum, sumC]; omega) _ _ hP hD hS ls (lv_sub hl [2, 1, 3, 0, 4] rfl)

set_option maxHeartbeats 4000000 in
set_option maxRecDepth 100000 in
theorem lp_sizeOf2 {p : Program} {l : Launch} {e : Env} {s : State} {m : MethodId} {args : Array Value} {below : List Frame} {meth : Method} {c : Code} {Q : State → Prop} {A : Nat → Prop} {dC : Nat → ClassId} {dI : Nat → Nat → Nat} {cB cC cI cJ cZ : ClassId} {z0 : Nat} {R : Nat → Nat} (hx : p.tables.exec = Jvm.exec) (hb : c.code = cX12_sizeOf) (hml : c.maxLocals = 6) (hown : s.vm.findClass RX12 = some m.cls) (hts : ∀ w ∈ vX12_sizeOf, w.before args s = true) (hK : va_K (dC, dI) vwCl (TY cB cC cI cJ cZ) s) (hA : ∀ q : Nat, s.heap.size ≤ q → A q) {pl : Int32} {N : Nat → Nat} {G : Nat → Nat → Nat} {B : Nat → Nat → Int32} {sz : Nat → Nat} (hG : ∀ k i, G k i < 1048576) (ht9 : TREE N G sz) (hq9 : TREQ N G sz) (tot : Nat) (htot : tot ≤ 3001) (kk : ∀ (I : Nat → Nat) (H : Heap) (locs : List Loc), (∀ i, I i < 1048576) → va_P (dC, dI) vwCl (MW cB cC cI cJ cZ z0 R pl N (va_up G 54 I) B) H → va_D A (MW cB cC cI cJ cZ z0 R pl N (va_up G 54 I) B) → va_S A s.heap H locs → ∀ (ls : Array Slot), lv_has ls 6 [(3, .int (nI tot))] → W p l e (headSpec vX12_sizeOf { frames := 1, cells := 0, slots := 0, locals := 22 }).room s m args below meth c H locs 0 0 Q (F0 m 70 ls [])) : ∀ (k : Nat) (n cnt : Nat) (I : Nat → Nat), sumC sz I n < k → (∀ i, I i < 1048576) → (∀ i, i < n → I i < N 14) → cnt + sumC sz I n = tot → ∀ (H : Heap) (locs : List Loc), va_P (dC, dI) vwCl (MW cB cC cI cJ cZ z0 R pl N (va_up G 54 I) B) H → va_D A (MW cB cC cI cJ cZ z0 R pl N (va_up G 54 I) B) → va_S A s.heap H locs → ∀ (ls : Array Slot), lv_has ls 6 [(0, .ref z0), (2, .int (nI n)), (3, .int (nI cnt))] → W p l e (headSpec vX12_sizeOf { frames := 1, cells := 0, slots := 0, locals := 22 }).room s m args below meth c H locs 0 0 Q (F0 m 11 ls []) := by
  have hcs : 0 + 0 ≤ (0 : Nat) ∧ 0 + 0 ≤ (0 : Nat) := ⟨Nat.le_refl 0, Nat.le_refl 0⟩
  intro k
  induction k with
  | zero =>
    intro n cnt I hk hI hlow hsum
    omega
  | succ k ih =>
    intro n cnt I hk hI hlow hsum H locs hP hD hS ls hl
    have u6 := ht9.1
    have u7 := sumC_len (sz := sz) (c := I) n (fun i hi => ht9.one (hlow i hi))
    refine lv_iload_n hx hb dX12_sizeOf_11 rfl (lv_at hl 1 rfl) ?_
    refine bz_le (tgt := 70) hx hb (by omega) dX12_sizeOf_12 (by decide) (fun c1 => ?_) (fun c1 => ?_)
    · subst c1
      have e9 : cnt = tot := hsum
      subst e9
      exact kk I H locs hI hP hD hS ls (lv_sub hl [2] rfl)
    · obtain ⟨n1, rfl⟩ : ∃ n1, n = n1 + 1 := ⟨n - 1, by omega⟩
      have t1 := hlow n1 (by omega)
      obtain ⟨w1, w2, w3, w4, w5⟩ := ht9.2 (I n1) t1
      have w1 := hq9 (I n1) t1
      rw [sumC] at hsum hk u7
      refine lv_iinc (v := nI ((n1 + 1) - 1)) (lv' := [(2, .int (nI ((n1 + 1) - 1))), (0, .ref z0), (3, .int (nI cnt))]) hx hb dX12_sizeOf_15 hl (k := 1) rfl (sb_m1 (by omega)) (by decide) rfl (fun ls hl => ?_)
      have e8 : n1 + 1 - 1 = n1 := rfl
      have hl : lv_has ls 6 [(2, .int (nI n1)), (0, .ref z0), (3, .int (nI cnt))] := hl
      refine lv_aload_n hx hb dX12_sizeOf_18 rfl (lv_at hl 1 rfl) ?_
      refine mg_54 hx hb hts inX12_sizeOf hown hK hP (hts _ lkX12_sizeOf_f107) dX12_sizeOf_19 ?_
      refine lv_iload_n hx hb dX12_sizeOf_22 rfl (lv_at hl 0 rfl) ?_
      refine ml_54 hx hb hK hP (by omega) dX12_sizeOf_23 ?_
      refine tp_i (y := nI (I n1)) rfl ?_
      refine lv_istore (lv' := [(4, .int (nI (I n1))), (2, .int (nI n1)), (0, .ref z0), (3, .int (nI cnt))]) hx hb dX12_sizeOf_24 hl (by decide) rfl (fun ls hl => ?_)
      refine lv_iinc (v := nI (cnt + 1)) (lv' := [(3, .int (nI (cnt + 1))), (4, .int (nI (I n1))), (2, .int (nI n1)), (0, .ref z0)]) hx hb dX12_sizeOf_26 hl (k := 3) rfl (nI_add cnt 1) (by decide) rfl (fun ls hl => ?_)
      refine lv_iconst (v := nI 0) hx hb dX12_sizeOf_29 (by decide) ?_
      refine lv_istore (lv' := [(5, .int (nI 0)), (3, .int (nI (cnt + 1))), (4, .int (nI (I n1))), (2, .int (nI n1)), (0, .ref z0)]) hx hb dX12_sizeOf_30 hl (by decide) rfl (fun ls hl => ?_)
      refine lp_sizeOf1 hx hb hml hown hts hK hA hG ht9 n1 (I n1) (sumC sz I n1) t1 (by omega) (cnt + 1) (fun I2 H locs hI2 hlow2 hsum2 hP hD hS ls hl => ?_) (G 12 (I n1) + 1) 0 I (by omega) (by omega) hI (fun i hi => hlow i (by omega)) rfl _ _ hP hD hS ls (lv_sub hl [4, 3, 2, 0, 1] rfl)
      refine lv_goto (tgt := 11) hx hb dX12_sizeOf_67 (by decide) ?_
      exact ih _ _ I2 (by omega) hI2 hlow2 (by omega) _ _ hP hD hS ls (lv_sub hl [0, 1, 2] rfl)

set_option maxHeartbeats 4000000 in
set_option maxRecDepth 100000 in
/-- sizeOf -/
theorem m_sizeOf (l : Launch) (dC : Nat → ClassId) (dI : Nat → Nat → Nat) (cB cC cI cJ cZ : ClassId) (z0 : Nat) (R : Nat → Nat) (pl : Int32) (N : Nat → Nat) (G : Nat → Nat → Nat) (B : Nat → Nat → Int32) (f : Nat) (sz : Nat → Nat) (hG : ∀ k i, G k i < 1048576) (ht9 : TREE N G sz) (hq9 : TREQ N G sz) (hf : f < N 14) (s0 : Nat) : Met l yX12_sizeOf vX12_sizeOf { frames := 1, cells := 0, slots := 0, locals := 22 } (va_Pc [.ref z0, .int (nI f)] (mPre dC dI cB cC cI cJ cZ z0 R pl N G B s0)) (va_Qi (fun (r : Int32) (u : ((Nat → Nat) × (Nat → Nat → Nat) × (Nat → Nat → Int32) × Int32)) => match u with | (N1, G1, B1, pl1) => N1 = N ∧ (∃ I, (∀ i, I i < 1048576) ∧ G1 = va_up G 54 I) ∧ B1 = B ∧ pl1 = pl ∧ r = nI (sz f)) (mPost dC dI cB cC cI cJ cZ z0 R (va_A (MW cB cC cI cJ cZ z0 R pl N G B) s0)) (va_A (MW cB cC cI cJ cZ z0 R pl N G B) s0)) 0 0 (va_A (MW cB cC cI cJ cZ z0 R pl N G B) s0) := by
  refine Met.ofW (cc := cX12_sizeOf) (maxL := 6) (ret := (some .int)) (by decide) rfl ?_
  intro p e s m args below meth c s₁ B9 hml hv
  obtain ⟨rfl, hsz, hP, hK, hD0⟩ := hv
  have hx := B9.exec
  have hb := B9.bytes
  have hr := B9.returns
  have hts := atoms_spec (ws := vX12_sizeOf) B9.pre
  have hown : s.vm.findClass RX12 = some m.cls := findClass_of_methodNamed B9.named
  have hlocks := B9.notSynchronized
  subst hsz
  have hD := hD0.self (sz := s.heap.size)
  generalize hAe : va_A (MW cB cC cI cJ cZ z0 R pl N G B) s.heap.size = A at hD ⊢
  have hA : ∀ q : Nat, s.heap.size ≤ q → A q := fun q h => by rw [← hAe]; exact Or.inr h
  have hS : va_S A s.heap s.heap [] := va_S.rf
  have hcs : 0 + 0 ≤ (0 : Nat) ∧ 0 + 0 ≤ (0 : Nat) := ⟨Nat.le_refl 0, Nat.le_refl 0⟩
  have hl := lv_entry ([.ref z0, .int (nI f)]) (n := 6) (Nat.le_of_ble_eq_true rfl)
  rw [lg_entry_eq]
  generalize (lg_sl ([.ref z0, .int (nI f)]) ++ List.replicate (6 - (lg_sl ([.ref z0, .int (nI f)])).length) Slot.unset).toArray = ls at hl ⊢
  have hl : lv_has ls 6 [(0, .ref z0), (1, .int (nI f))] := hl
  obtain ⟨u1, u2, u3, u4, u5⟩ := ht9.2 f hf
  have u6 := ht9.1
  refine lv_iconst (v := nI 1) hx hb dX12_sizeOf_0 (by decide) ?_
  refine lv_istore_n (lv' := [(2, .int (nI 1)), (0, .ref z0), (1, .int (nI f))]) hx hb dX12_sizeOf_1 rfl hl (by decide) rfl (fun ls hl => ?_)
  refine lv_iconst (v := nI 0) hx hb dX12_sizeOf_2 (by decide) ?_
  refine lv_istore_n (lv' := [(3, .int (nI 0)), (2, .int (nI 1)), (0, .ref z0), (1, .int (nI f))]) hx hb dX12_sizeOf_3 rfl hl (by decide) rfl (fun ls hl => ?_)
  refine lv_aload_n hx hb dX12_sizeOf_4 rfl (lv_at hl 2 rfl) ?_
  refine mg_54 hx hb hts inX12_sizeOf hown hK hP (hts _ lkX12_sizeOf_f107) dX12_sizeOf_5 ?_
  refine lv_iconst (v := nI 0) hx hb dX12_sizeOf_8 (by decide) ?_
  refine lv_iload_n hx hb dX12_sizeOf_9 rfl (lv_at hl 3 rfl) ?_
  refine ms_54 hx hb hK hP hD hS (by omega) dX12_sizeOf_10 (fun H locs hP hD hS => ?_)
  refine lp_sizeOf2 hx hb hml hown hts hK hA hG ht9 hq9 (sz f) u2 (fun I H locs hI hP hD hS ls hl => ?_) _ 1 0 (va_up (G 54) 0 f) (Nat.lt_succ_self _) (hIup (hG 54) (by omega)) (ltup (fun i hi => absurd hi (Nat.not_lt_zero i)) hf) (by rw [sumC_push, sumC]; omega) _ _ hP hD hS ls (lv_sub hl [2, 1, 0] rfl)
  refine lv_iload_n hx hb dX12_sizeOf_70 rfl (lv_at hl 0 rfl) ?_
  exact W.iret (v := (nI (sz f))) hx hb hr (fun t ht hW => ⟨⟨(nI (sz f)), (N, va_up G 54 I, B, pl), rfl, ⟨rfl, ⟨I, hI, rfl⟩, rfl, rfl, rfl⟩, by rw [ht]; exact hP, va_K.moved hW.alike hK, hD⟩, hS.F ht⟩) hS.2.2 dX12_sizeOf_71
