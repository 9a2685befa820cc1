def oX12_taskParts : List Cond := [Cond.methodLink RX12 192 yX12_part, Cond.instanceMethod yX12_part, Cond.selects RX12 yX12_part yX12_part, Cond.initialized RX12, Cond.methodLink RX12 232 yX12_task, Cond.instanceMethod yX12_task, Cond.selects RX12 yX12_task yX12_task, Cond.fieldLink RX12 38 "MacroScopesModel" "counts" "[I"]
def vX12_taskParts : List Cond := .code yX12_taskParts cX12_taskParts 7 none :: (oX12_taskParts ++ (vX12_part ++ (vX12_task ++ (wsX120))))
theorem lkX12_taskParts_f38 : Cond.fieldLink RX12 38 "MacroScopesModel" "counts" "[I" ∈ vX12_taskParts := List.mem_cons_of_mem _ (List.mem_append_left _ (List.mem_of_getElem? (i := 7) rfl))
theorem inX12_taskParts : ∀ w ∈ wsX120, w ∈ vX12_taskParts := fun w h => List.mem_cons_of_mem _ (List.mem_append_right _ (List.mem_append_right _ (List.mem_append_right _ (h))))
theorem kX12_taskParts_X12_part_192 : GoodIn vX12_taskParts (wsV RX12 192 RX12 yX12_part vX12_part) := goodIn_sub (fun w h => (List.mem_append.mp h).elim (fun h => List.mem_cons_of_mem _ (List.mem_append_left _ ((by decide +kernel : ∀ w ∈ ([.methodLink RX12 192 yX12_part, .instanceMethod yX12_part, .selects RX12 yX12_part yX12_part, .initialized RX12] : List Cond), w ∈ oX12_taskParts) w h))) (fun h => List.mem_cons_of_mem _ (List.mem_append_right _ (List.mem_append_left _ (h))))) (by decide +kernel)
theorem kX12_taskParts_X12_task_232 : GoodIn vX12_taskParts (wsV RX12 232 RX12 yX12_task vX12_task) := goodIn_sub (fun w h => (List.mem_append.mp h).elim (fun h => List.mem_cons_of_mem _ (List.mem_append_left _ ((by decide +kernel : ∀ w ∈ ([.methodLink RX12 232 yX12_task, .instanceMethod yX12_task, .selects RX12 yX12_task yX12_task, .initialized RX12] : List Cond), w ∈ oX12_taskParts) w h))) (fun h => List.mem_cons_of_mem _ (List.mem_append_right _ (List.mem_append_right _ (List.mem_append_left _ (h)))))) (by decide +kernel)
theorem p1_lt {j q : Nat} (hj : j < 2 ^ 30) (hq : q < 2 ^ 30) : nI j - 1 < nI q ↔ j ≤ q := by
  by_cases h : 0 < j
  · rw [om1 h, nI_ltI (by omega) (by omega)]; omega
  · have e : j = 0 := by omega
    subst e
    rw [Int32.lt_iff_toInt_lt, nI_toInt (by omega), show (nI 0 - 1 : Int32).toInt = -1 by decide]
    omega
theorem om1m {j : Nat} (h : 0 < j) : nI j - 1 + Int32.ofInt (-1) = nI (j - 1) - 1 := by
  rw [om1 h]
  show nI (j - 1) + (-1) = nI (j - 1) - 1
  rw [Int32.sub_eq_add_neg]
/-- what the parts below j weigh as tasks -/
abbrev PWT (G : Nat → Nat → Nat) (sz : Nat → Nat) (f fr j : Nat) : Nat := if fr < j then 3 * sumW (fun k => sz (CH G f k)) fr (j - fr) - 1 else 0
theorem PWT_step {G : Nat → Nat → Nat} {sz : Nat → Nat} {f fr j : Nat} (h : fr < j + 1) (h1 : ∀ k, fr ≤ k → k ≤ j → 1 ≤ sz (CH G f k)) : PWT G sz f fr (j + 1) = (3 * sz (CH G f j) - 1) + (if fr < j then 1 else 0) + PWT G sz f fr j := by
  unfold PWT
  rw [if_pos h, show j + 1 - fr = (j - fr) + 1 by omega, sumW, show fr + (j - fr) = j by omega]
  have a := h1 j (by omega) (Nat.le_refl _)
  by_cases c : fr < j
  · rw [if_pos c, if_pos c]
    have b := sumW_ge (g := fun k => sz (CH G f k)) (a := fr) (j - fr) (fun i i1 i2 => h1 i i1 (by omega))
    omega
  · rw [if_neg c, if_neg c, show j - fr = 0 by omega, sumW]; omega
theorem PWT_all {N : Nat → Nat} {G : Nat → Nat → Nat} {sz : Nat → Nat} (ht : TREE N G sz) {f fr : Nat} (hf : f < N 14) : PWT G sz f fr (G 12 f) + 3 ≤ 3 * sz f := by
  unfold PWT
  have a := (ht.2 f hf).1
  have b := rest_le sz (CH G f) fr (G 12 f)
  have c := ht.one hf
  by_cases d : fr < G 12 f
  · rw [if_pos d]; omega
  · rw [if_neg d]; omega
theorem TG_bd {G : Nat → Nat → Nat} {j a b c d : Nat} (hG : ∀ k i, G k i < 1048576) (ha : a < 1048576) (hb : b < 1048576) (hc : c < 1048576) (hd : d < 1048576) : ∀ k i, TG G j a b c d k i < 1048576 := hGup (hGup (hGup (hGup hG (hIup (hG 28) ha)) (hIup (hG 29) hb)) (hIup (hG 30) hc)) (hIup (hG 31) hd)
theorem TG_ne {G : Nat → Nat → Nat} {j a b c d k : Nat} (h : ¬ (28 ≤ k ∧ k ≤ 31)) : TG G j a b c d k = G k := by
  show va_up (va_up (va_up (va_up G 28 _) 29 _) 30 _) 31 _ k = G k
  rw [va_up_ne _ _ (by omega), va_up_ne _ _ (by omega), va_up_ne _ _ (by omega), va_up_ne _ _ (by omega)]
theorem TREE.of {N N1 : Nat → Nat} {G G1 : Nat → Nat → Nat} {sz : Nat → Nat} (h : TREE N G sz) (h14 : N1 14 = N 14) (h6 : N1 6 = N 6) (h20 : N1 20 = N 20) (k10 : G1 10 = G 10) (k11 : G1 11 = G 11) (k12 : G1 12 = G 12) (k13 : G1 13 = G 13) : TREE N1 G1 sz := by
  unfold TREE nmOK CH at h ⊢
  rw [h14, h6, h20, k10, k11, k12, k13]
  exact h
set_option maxHeartbeats 4000000 in
set_option maxRecDepth 100000 in
theorem lp_tkp {p : Program} {l : Launch} {e : Env} {s : State} {m : MethodId} {args : Array Value} {below : List Frame} {meth : Method} {c : Code} {Q : State → Prop} {A : Nat → Prop} {dC : Nat → ClassId} {dI : Nat → Nat → Nat} {cB cC cI cJ cZ : ClassId} {z0 : Nat} {R : Nat → Nat} (hx : p.tables.exec = Jvm.exec) (hb : c.code = cX12_taskParts) (hml : c.maxLocals = 7) (hown : s.vm.findClass RX12 = some m.cls) (hts : ∀ w ∈ vX12_taskParts, w.before args s = true) (hK : va_K (dC, dI) vwCl (TY cB cC cI cJ cZ) s) (hA : ∀ q : Nat, s.heap.size ≤ q → A q) {pl : Int32} {N : Nat → Nat} {G : Nat → Nat → Nat} {B : Nat → Nat → Int32} {sz : Nat → Nat} {kd f fr en dp : Nat} (hG : ∀ k i, G k i < 1048576) (ht9 : TREE N G sz) (hf : f < N 14) (hkd : kd ≤ 1) (hen : kd = 0 → en < N 23 ∧ dp ≤ 101) (hfr : fr < 1048576) (hen9 : en < 1048576) (hdp9 : dp < 1048576) (hkt : ∀ (q : Nat) (g : Nat → Nat → Nat), (∀ k, ¬ (28 ≤ k ∧ k ≤ 31) → g k = G k) → TREE (va_up N 32 q) g sz) (W0 : Nat) (hW0 : W0 ≤ 199000) (ke : ∀ (q w1 : Nat) (g : Nat → Nat → Nat) (H : Heap) (locs : List Loc), (∀ k i, g k i < 1048576) → (∀ k, ¬ (28 ≤ k ∧ k ≤ 31) → g k = G k) → TSK (va_up N 32 q) g sz w1 → w1 ≤ W0 → va_P (dC, dI) vwCl (MW cB cC cI cJ cZ z0 R pl (va_up N 32 q) g B) H → va_D A (MW cB cC cI cJ cZ z0 R pl (va_up N 32 q) g B) → va_S A s.heap H locs → ∀ (ls : Array Slot), lv_has ls 7 [] → W p l e (headSpec vX12_taskParts { frames := 1, cells := 0, slots := 0, locals := 24 }).room s m args below meth c H locs 0 0 Q (F0 m 53 ls [])) : ∀ (k : Nat) (j q w1 : Nat) (g : Nat → Nat → Nat), j < k → j ≤ G 12 f → (∀ k i, g k i < 1048576) → (∀ k, ¬ (28 ≤ k ∧ k ≤ 31) → g k = G k) → TSK (va_up N 32 q) g sz w1 → w1 + PWT G sz f fr j ≤ W0 → ∀ (H : Heap) (locs : List Loc), va_P (dC, dI) vwCl (MW cB cC cI cJ cZ z0 R pl (va_up N 32 q) g B) H → va_D A (MW cB cC cI cJ cZ z0 R pl (va_up N 32 q) g B) → va_S A s.heap H locs → ∀ (ls : Array Slot), lv_has ls 7 [(0, .ref z0), (1, .int (nI kd)), (2, .int (nI f)), (3, .int (nI fr)), (4, .int (nI en)), (5, .int (nI dp)), (6, .int (nI j - 1))] → W p l e (headSpec vX12_taskParts { frames := 1, cells := 0, slots := 0, locals := 24 }).room s m args below meth c H locs 0 0 Q (F0 m 10 ls []) := by
  have hcs : 0 + 0 ≤ (0 : Nat) ∧ 0 + 0 ≤ (0 : Nat) := ⟨Nat.le_refl 0, Nat.le_refl 0⟩
  intro k
  induction k with
  | zero =>
    intro j q w1 g hk hj hg hkg htk hb9 H locs hP hD hS ls hl
    exact absurd hk (Nat.not_lt_zero _)
  | succ k ih =>
    intro j q w1 g hk hj hg hkg htk hb9 H locs hP hD hS ls hl
    have u6 := ht9.1
    have t8 := cnt_le ht9 hf
    have t9 := (ht9.2 f hf).2.1
    refine lv_iload hx hb dX12_taskParts_10 (lv_at hl 6 rfl) ?_
    refine lv_iload_n hx hb dX12_taskParts_12 rfl (lv_at hl 3 rfl) ?_
    refine lv_icmp_lt (tgt := 53) hx hb dX12_taskParts_13 (by decide) (fun c1 => ?_) (fun c1 => ?_)
    · exact ke q w1 g H locs hg hkg htk (by omega) hP hD hS ls (lv_sub hl [] rfl)
    · have c1 : fr < j := Nat.lt_of_not_le (fun y => c1 ((p1_lt (by omega) (by omega)).mpr y))
      obtain ⟨j, rfl⟩ : ∃ i, j = i + 1 := ⟨j - 1, by omega⟩
      obtain ⟨p1, p2, p3, p4⟩ := ht9.pt hf (show j < G 12 f by omega)
      have g11 := hkg 11 (by omega)
      have g13 := hkg 13 (by omega)
      have ech : CH g f j = CH G f j := by
        show g 13 (g 11 f + j) = _
        rw [g11, g13]
      have hps := PWT_step (G := G) (sz := sz) (f := f) c1 (fun k _ hk => ht9.one (ht9.pt hf (show k < G 12 f by omega)).2.1)
      have h32 := TSK.le (N := va_up N 32 q) htk (hkt q g hkg)
      have h32 : q ≤ w1 := h32
      refine lv_aload_n hx hb dX12_taskParts_16 rfl (lv_at hl 0 rfl) ?_
      refine lv_iload_n hx hb dX12_taskParts_17 rfl (lv_at hl 1 rfl) ?_
      refine lv_aload_n hx hb dX12_taskParts_18 rfl (lv_at hl 0 rfl) ?_
      refine lv_iload_n hx hb dX12_taskParts_19 rfl (lv_at hl 2 rfl) ?_
      refine lv_iload hx hb dX12_taskParts_20 (lv_at hl 6 rfl) ?_
      refine tp_i (om1 (by omega)) ?_
      have ej : j + 1 - 1 = j := rfl
      refine tp_i (y := nI j) rfl ?_
      refine mcl_i (As := [.int (nI f), .int (nI j)]) (rest := [.int (nI kd), .ref z0]) ⟨hx, hb, hml, hown, hts⟩ (m_part l dC dI cB cC cI cJ cZ z0 R pl (va_up N 32 q) g B f j hg p4 (by rw [g11]; exact p1) H.size) (cwV 2 hts kX12_taskParts_X12_part_192 rfl rfl rfl (by decide +kernel) ⟨Nat.le_of_ble_eq_true rfl, Nat.le_of_ble_eq_true rfl⟩) hK hP hD hS hA rfl rfl hl.1 (lv_room (Nat.le_of_ble_eq_true rfl)) dX12_taskParts_22 hcs (fun r_5 N_1 G_2 B_3 pl_4 hw H locs hP hD hS => ?_)
      dsimp only at hw
      obtain ⟨e1, e2, e3, e4, hw⟩ := hw
      rw [e1, e2, e3, e4] at hP hD
      subst hw
      refine tp_i (y := nI (CH G f j)) (by rw [ech]) ?_
      refine lv_iload hx hb dX12_taskParts_25 (lv_at hl 4 rfl) ?_
      refine lv_iload hx hb dX12_taskParts_27 (lv_at hl 5 rfl) ?_
      refine mcl_v (As := [.int (nI kd), .int (nI (CH G f j)), .int (nI en), .int (nI dp)]) (rest := []) ⟨hx, hb, hml, hown, hts⟩ (m_task l dC dI cB cC cI cJ cZ z0 R pl (va_up N 32 q) g B kd (CH G f j) en dp (by omega) (show q < 200000 by omega) H.size) (cwV 4 hts kX12_taskParts_X12_task_232 rfl rfl rfl (by decide +kernel) ⟨Nat.le_of_ble_eq_true rfl, Nat.le_of_ble_eq_true rfl⟩) hK hP hD hS hA rfl rfl hl.1 (lv_room (Nat.le_of_ble_eq_true rfl)) dX12_taskParts_29 hcs (fun  N_6 G_7 B_8 pl_9 hw H locs hP hD hS => ?_)
      dsimp only at hw
      obtain ⟨e3, e4, e1, e2⟩ := hw
      rw [e1, e2, e3, e4, bx_uu] at hP hD
      have hkd2 : kd ≠ 2 := by omega
      have htk2 : TSK (va_up N 32 (q + 1)) (TG g q kd (CH G f j) en dp) sz (w1 + (3 * sz (CH G f j) - 1)) := by
        have z := TSK.push (N := va_up N 32 q) htk (a := kd) (b := CH G f j) (c := en) (d := dp) (by omega) (fun _ => p2) (fun z => hen z) (v := w1 + (3 * sz (CH G f j) - 1)) (by rw [if_neg hkd2]; exact Nat.le_refl _)
        rw [bx_uu] at z; exact z
      have hg2 : ∀ k i, TG g q kd (CH G f j) en dp k i < 1048576 := TG_bd hg (by omega) (by omega) (by omega) (by omega)
      have hkg2 : ∀ k, ¬ (28 ≤ k ∧ k ≤ 31) → TG g q kd (CH G f j) en dp k = G k := fun k hk => (TG_ne hk).trans (hkg k hk)
      have hP : va_P (dC, dI) vwCl (MW cB cC cI cJ cZ z0 R pl (va_up N 32 (q + 1)) (TG g q kd (CH G f j) en dp) B) H := hP
      have hD : va_D A (MW cB cC cI cJ cZ z0 R pl (va_up N 32 (q + 1)) (TG g q kd (CH G f j) en dp) B) := hD
      refine lv_iload hx hb dX12_taskParts_32 (lv_at hl 6 rfl) ?_
      refine tp_i (om1 (by omega)) ?_
      refine tp_i (y := nI j) rfl ?_
      refine lv_iload_n hx hb dX12_taskParts_34 rfl (lv_at hl 3 rfl) ?_
      refine bn_le (tgt := 47) hx hb (by first | omega | exact Nat.lt_of_lt_of_le (hG _ _) (by decide)) (by first | omega | exact Nat.lt_of_lt_of_le (hG _ _) (by decide)) dX12_taskParts_35 (by decide) (fun c2 => ?_) (fun c2 => ?_)
      · rw [if_neg (by omega)] at hps
        refine lv_iinc (v := nI j - 1) (lv' := [(6, .int (nI j - 1)), (0, .ref z0), (1, .int (nI kd)), (2, .int (nI f)), (3, .int (nI fr)), (4, .int (nI en)), (5, .int (nI dp))]) hx hb dX12_taskParts_47 hl (k := 6) rfl (om1m (show 0 < j + 1 by omega)) (by decide) rfl (fun ls hl => ?_)
        refine lv_goto (tgt := 10) hx hb dX12_taskParts_50 (by decide) ?_
        have hbd : w1 + (3 * sz (CH G f j) - 1) + PWT G sz f fr j ≤ W0 := by omega
        exact ih j (q + 1) (w1 + (3 * sz (CH G f j) - 1)) (TG g q kd (CH G f j) en dp) (by omega) (by omega) hg2 hkg2 htk2 hbd _ _ hP hD hS ls (lv_sub hl [1, 2, 3, 4, 5, 6, 0] rfl)
      · rw [if_pos c2] at hps
        refine lv_aload_n hx hb dX12_taskParts_38 rfl (lv_at hl 0 rfl) ?_
        refine lv_iconst (v := nI 2) hx hb dX12_taskParts_39 (by decide) ?_
        refine lv_bipush (v := nI 32) hx hb dX12_taskParts_40 (by decide) ?_
        refine lv_iconst (v := nI 0) hx hb dX12_taskParts_42 (by decide) ?_
        refine lv_iconst (v := nI 0) hx hb dX12_taskParts_43 (by decide) ?_
        refine mcl_v (As := [.int (nI 2), .int (nI 32), .int (nI 0), .int (nI 0)]) (rest := []) ⟨hx, hb, hml, hown, hts⟩ (m_task l dC dI cB cC cI cJ cZ z0 R pl (va_up N 32 (q + 1)) (TG g q kd (CH G f j) en dp) B 2 32 0 0 (by decide) (show q + 1 < 200000 by omega) H.size) (cwV 4 hts kX12_taskParts_X12_task_232 rfl rfl rfl (by decide +kernel) ⟨Nat.le_of_ble_eq_true rfl, Nat.le_of_ble_eq_true rfl⟩) hK hP hD hS hA rfl rfl hl.1 (lv_room (Nat.le_of_ble_eq_true rfl)) dX12_taskParts_44 hcs (fun  N_11 G_12 B_13 pl_14 hw H locs hP hD hS => ?_)
        dsimp only at hw
        obtain ⟨e3, e4, e1, e2⟩ := hw
        rw [e1, e2, e3, e4, bx_uu] at hP hD
        have htk3 : TSK (va_up N 32 (q + 1 + 1)) (TG (TG g q kd (CH G f j) en dp) (q + 1) 2 32 0 0) sz (w1 + (3 * sz (CH G f j) - 1) + 1) := by
          have z := TSK.push (N := va_up N 32 (q + 1)) htk2 (a := 2) (b := 32) (c := 0) (d := 0) (by decide) (fun z => absurd rfl z) (fun z => absurd z (by decide)) (v := w1 + (3 * sz (CH G f j) - 1) + 1) (by rw [if_pos rfl]; exact Nat.le_refl _)
          rw [bx_uu] at z; exact z
        have hP : va_P (dC, dI) vwCl (MW cB cC cI cJ cZ z0 R pl (va_up N 32 (q + 1 + 1)) (TG (TG g q kd (CH G f j) en dp) (q + 1) 2 32 0 0) B) H := hP
        have hD : va_D A (MW cB cC cI cJ cZ z0 R pl (va_up N 32 (q + 1 + 1)) (TG (TG g q kd (CH G f j) en dp) (q + 1) 2 32 0 0) B) := hD
        refine lv_iinc (v := nI j - 1) (lv' := [(6, .int (nI j - 1)), (0, .ref z0), (1, .int (nI kd)), (2, .int (nI f)), (3, .int (nI fr)), (4, .int (nI en)), (5, .int (nI dp))]) hx hb dX12_taskParts_47 hl (k := 6) rfl (om1m (show 0 < j + 1 by omega)) (by decide) rfl (fun ls hl => ?_)
        refine lv_goto (tgt := 10) hx hb dX12_taskParts_50 (by decide) ?_
        have hbd : w1 + (3 * sz (CH G f j) - 1) + 1 + PWT G sz f fr j ≤ W0 := by omega
        exact ih j (q + 1 + 1) (w1 + (3 * sz (CH G f j) - 1) + 1) (TG (TG g q kd (CH G f j) en dp) (q + 1) 2 32 0 0) (by omega) (by omega) (TG_bd hg2 (by decide) (by decide) (by decide) (by decide)) (fun k hk => (TG_ne hk).trans (hkg2 k hk)) htk3 hbd _ _ hP hD hS ls (lv_sub hl [1, 2, 3, 4, 5, 6, 0] rfl)

set_option maxHeartbeats 4000000 in
set_option maxRecDepth 100000 in
/-- taskParts -/
theorem m_taskParts (l : Launch) (dC : Nat → ClassId) (dI : Nat → Nat → Nat) (cB cC cI cJ cZ : ClassId) (z0 : Nat) (R : Nat → Nat) (pl : Int32) (N : Nat → Nat) (G : Nat → Nat → Nat) (B : Nat → Nat → Int32) (kd f fr en dp w : Nat) (sz : Nat → Nat) (hG : ∀ k i, G k i < 1048576) (ht9 : TREE N G sz) (htk : TSK N G sz w) (hwb : w + 3 * sz f ≤ 199000) (hf : f < N 14) (hkd : kd ≤ 1) (hen : kd = 0 → en < N 23 ∧ dp ≤ 101) (hfr : fr < 1048576) (hen9 : en < 1048576) (hdp9 : dp < 1048576) (s0 : Nat) : Met l yX12_taskParts vX12_taskParts { frames := 1, cells := 0, slots := 0, locals := 24 } (va_Pc [.ref z0, .int (nI kd), .int (nI f), .int (nI fr), .int (nI en), .int (nI dp)] (mPre dC dI cB cC cI cJ cZ z0 R pl N G B s0)) (va_Qv (fun u : ((Nat → Nat) × (Nat → Nat → Nat) × (Nat → Nat → Int32) × Int32) => match u with | (N1, G1, B1, pl1) => B1 = B ∧ pl1 = pl ∧ ∃ q w1, N1 = va_up N 32 q ∧ (∀ k i, G1 k i < 1048576) ∧ (∀ k, ¬ (28 ≤ k ∧ k ≤ 31) → G1 k = G k) ∧ TSK N1 G1 sz w1 ∧ w1 + 3 ≤ w + 3 * sz f) (mPost dC dI cB cC cI cJ cZ z0 R (va_A (MW cB cC cI cJ cZ z0 R pl N G B) s0)) (va_A (MW cB cC cI cJ cZ z0 R pl N G B) s0)) 0 0 (va_A (MW cB cC cI cJ cZ z0 R pl N G B) s0) := by
  refine Met.ofW (cc := cX12_taskParts) (maxL := 7) (ret := none) (by decide) rfl ?_
  intro p e s m args below meth c s₁ B9 hml hv
  obtain ⟨rfl, hsz, hP, hK, hD0⟩ := hv
  have hx := B9.exec
  have hb := B9.bytes
  have hr := B9.returns
  have hts := atoms_spec (ws := vX12_taskParts) B9.pre
  have hown : s.vm.findClass RX12 = some m.cls := findClass_of_methodNamed B9.named
  have hlocks := B9.notSynchronized
  subst hsz
  have hD := hD0.self (sz := s.heap.size)
  generalize hAe : va_A (MW cB cC cI cJ cZ z0 R pl N G B) s.heap.size = A at hD ⊢
  have hA : ∀ q : Nat, s.heap.size ≤ q → A q := fun q h => by rw [← hAe]; exact Or.inr h
  have hS : va_S A s.heap s.heap [] := va_S.rf
  have hcs : 0 + 0 ≤ (0 : Nat) ∧ 0 + 0 ≤ (0 : Nat) := ⟨Nat.le_refl 0, Nat.le_refl 0⟩
  have hl := lv_entry ([.ref z0, .int (nI kd), .int (nI f), .int (nI fr), .int (nI en), .int (nI dp)]) (n := 7) (Nat.le_of_ble_eq_true rfl)
  rw [lg_entry_eq]
  generalize (lg_sl ([.ref z0, .int (nI kd), .int (nI f), .int (nI fr), .int (nI en), .int (nI dp)]) ++ List.replicate (7 - (lg_sl ([.ref z0, .int (nI kd), .int (nI f), .int (nI fr), .int (nI en), .int (nI dp)])).length) Slot.unset).toArray = ls at hl ⊢
  have hl : lv_has ls 7 [(0, .ref z0), (1, .int (nI kd)), (2, .int (nI f)), (3, .int (nI fr)), (4, .int (nI en)), (5, .int (nI dp))] := hl
  have u6 := ht9.1
  have hpa := PWT_all ht9 (fr := fr) hf
  have g12 := hG 12 f
  have hkt : ∀ (q : Nat) (g : Nat → Nat → Nat), (∀ k, ¬ (28 ≤ k ∧ k ≤ 31) → g k = G k) → TREE (va_up N 32 q) g sz := fun q g hg => ht9.of rfl rfl rfl (hg 10 (by omega)) (hg 11 (by omega)) (hg 12 (by omega)) (hg 13 (by omega))
  refine lv_aload_n hx hb dX12_taskParts_0 rfl (lv_at hl 0 rfl) ?_
  refine mg_12 hx hb hts inX12_taskParts hown hK hP (hts _ lkX12_taskParts_f38) dX12_taskParts_1 ?_
  refine lv_iload_n hx hb dX12_taskParts_4 rfl (lv_at hl 2 rfl) ?_
  refine ml_12 hx hb hK hP (by omega) dX12_taskParts_5 ?_
  refine lv_iconst (v := nI 1) hx hb dX12_taskParts_6 (by decide) ?_
  refine lv_isub hx hb dX12_taskParts_7 ?_
  refine lv_istore (lv' := [(6, .int (nI (G 12 f) - 1)), (0, .ref z0), (1, .int (nI kd)), (2, .int (nI f)), (3, .int (nI fr)), (4, .int (nI en)), (5, .int (nI dp))]) hx hb dX12_taskParts_8 hl (by decide) rfl (fun ls hl => ?_)
  have hP : va_P (dC, dI) vwCl (MW cB cC cI cJ cZ z0 R pl (va_up N 32 (N 32)) G B) s.heap := by rw [va_upid]; exact hP
  have hD : va_D A (MW cB cC cI cJ cZ z0 R pl (va_up N 32 (N 32)) G B) := by rw [va_upid]; exact hD
  refine lp_tkp hx hb hml hown hts hK hA hG ht9 hf hkd hen hfr hen9 hdp9 hkt (w + PWT G sz f fr (G 12 f)) (by omega) (fun q w1 g H locs hg hkg htk hw1 hP hD hS ls hl => ?_) _ (G 12 f) (N 32) w G (Nat.lt_succ_self _) (Nat.le_refl _) hG (fun _ _ => rfl) (by rw [va_upid]; exact htk) (Nat.le_refl _) _ _ hP hD hS ls (lv_sub hl [1, 2, 3, 4, 5, 6, 0] rfl)
  exact W.vret hx hb hr (fun t ht hW => ⟨⟨(va_up N 32 q, g, B, pl), rfl, ⟨rfl, rfl, q, w1, rfl, hg, hkg, htk, by omega⟩, by rw [ht]; exact hP, va_K.moved hW.alike hK, hD⟩, hS.F ht⟩) hS.2.2 dX12_taskParts_53
