def oX12_stay : List Cond := [Cond.fieldLink RX12 165 "MacroScopesModel" "symbols" "I", Cond.fieldLink RX12 25 "MacroScopesModel" "defined" "[I", Cond.fieldLink RX12 402 "MacroScopesModel" "staying" "I", Cond.methodLink RX12 439 yX12_copyOne, Cond.instanceMethod yX12_copyOne, Cond.selects RX12 yX12_copyOne yX12_copyOne, Cond.initialized RX12, Cond.fieldLink RX12 38 "MacroScopesModel" "counts" "[I", Cond.fieldLink RX12 128 "MacroScopesModel" "copyParts" "[I", Cond.methodLink RX12 192 yX12_part, Cond.instanceMethod yX12_part, Cond.selects RX12 yX12_part yX12_part, Cond.fieldLink RX12 306 "MacroScopesModel" "looks" "I", Cond.fieldLink RX12 98 "MacroScopesModel" "look" "[I", Cond.fieldLink RX12 32 "MacroScopesModel" "kinds" "[B", Cond.fieldLink RX12 436 "MacroScopesModel" "copiedParts" "I", Cond.fieldLink RX12 122 "MacroScopesModel" "copyValues" "[I", Cond.fieldLink RX12 101 "MacroScopesModel" "lookHow" "[I", Cond.fieldLink RX12 405 "MacroScopesModel" "stayingParts" "I", Cond.fieldLink RX12 433 "MacroScopesModel" "copies" "I", Cond.fieldLink RX12 119 "MacroScopesModel" "copyKinds" "[B", Cond.fieldLink RX12 35 "MacroScopesModel" "values" "[I", Cond.fieldLink RX12 125 "MacroScopesModel" "copyCounts" "[I", Cond.fieldLink RX12 41 "MacroScopesModel" "parts" "[I"]
def vX12_stay : List Cond := .code yX12_stay cX12_stay 5 none :: (oX12_stay ++ (vX12_copyOne ++ (vX12_part ++ (wsX120))))
theorem lkX12_stay_f165 : Cond.fieldLink RX12 165 "MacroScopesModel" "symbols" "I" ∈ vX12_stay := List.mem_cons_of_mem _ (List.mem_append_left _ (List.mem_of_getElem? (i := 0) rfl))
theorem lkX12_stay_f25 : Cond.fieldLink RX12 25 "MacroScopesModel" "defined" "[I" ∈ vX12_stay := List.mem_cons_of_mem _ (List.mem_append_left _ (List.mem_of_getElem? (i := 1) rfl))
theorem lkX12_stay_f402 : Cond.fieldLink RX12 402 "MacroScopesModel" "staying" "I" ∈ vX12_stay := List.mem_cons_of_mem _ (List.mem_append_left _ (List.mem_of_getElem? (i := 2) rfl))
theorem lkX12_stay_f38 : Cond.fieldLink RX12 38 "MacroScopesModel" "counts" "[I" ∈ vX12_stay := List.mem_cons_of_mem _ (List.mem_append_left _ (List.mem_of_getElem? (i := 7) rfl))
theorem lkX12_stay_f128 : Cond.fieldLink RX12 128 "MacroScopesModel" "copyParts" "[I" ∈ vX12_stay := List.mem_cons_of_mem _ (List.mem_append_left _ (List.mem_of_getElem? (i := 8) rfl))
theorem lkX12_stay_f306 : Cond.fieldLink RX12 306 "MacroScopesModel" "looks" "I" ∈ vX12_stay := List.mem_cons_of_mem _ (List.mem_append_left _ (List.mem_of_getElem? (i := 12) rfl))
theorem lkX12_stay_f98 : Cond.fieldLink RX12 98 "MacroScopesModel" "look" "[I" ∈ vX12_stay := List.mem_cons_of_mem _ (List.mem_append_left _ (List.mem_of_getElem? (i := 13) rfl))
theorem lkX12_stay_f32 : Cond.fieldLink RX12 32 "MacroScopesModel" "kinds" "[B" ∈ vX12_stay := List.mem_cons_of_mem _ (List.mem_append_left _ (List.mem_of_getElem? (i := 14) rfl))
theorem lkX12_stay_f436 : Cond.fieldLink RX12 436 "MacroScopesModel" "copiedParts" "I" ∈ vX12_stay := List.mem_cons_of_mem _ (List.mem_append_left _ (List.mem_of_getElem? (i := 15) rfl))
theorem lkX12_stay_f122 : Cond.fieldLink RX12 122 "MacroScopesModel" "copyValues" "[I" ∈ vX12_stay := List.mem_cons_of_mem _ (List.mem_append_left _ (List.mem_of_getElem? (i := 16) rfl))
theorem lkX12_stay_f101 : Cond.fieldLink RX12 101 "MacroScopesModel" "lookHow" "[I" ∈ vX12_stay := List.mem_cons_of_mem _ (List.mem_append_left _ (List.mem_of_getElem? (i := 17) rfl))
theorem lkX12_stay_f405 : Cond.fieldLink RX12 405 "MacroScopesModel" "stayingParts" "I" ∈ vX12_stay := List.mem_cons_of_mem _ (List.mem_append_left _ (List.mem_of_getElem? (i := 18) rfl))
theorem lkX12_stay_f433 : Cond.fieldLink RX12 433 "MacroScopesModel" "copies" "I" ∈ vX12_stay := List.mem_cons_of_mem _ (List.mem_append_left _ (List.mem_of_getElem? (i := 19) rfl))
theorem lkX12_stay_f119 : Cond.fieldLink RX12 119 "MacroScopesModel" "copyKinds" "[B" ∈ vX12_stay := List.mem_cons_of_mem _ (List.mem_append_left _ (List.mem_of_getElem? (i := 20) rfl))
theorem lkX12_stay_f35 : Cond.fieldLink RX12 35 "MacroScopesModel" "values" "[I" ∈ vX12_stay := List.mem_cons_of_mem _ (List.mem_append_left _ (List.mem_of_getElem? (i := 21) rfl))
theorem lkX12_stay_f125 : Cond.fieldLink RX12 125 "MacroScopesModel" "copyCounts" "[I" ∈ vX12_stay := List.mem_cons_of_mem _ (List.mem_append_left _ (List.mem_of_getElem? (i := 22) rfl))
theorem lkX12_stay_f41 : Cond.fieldLink RX12 41 "MacroScopesModel" "parts" "[I" ∈ vX12_stay := List.mem_cons_of_mem _ (List.mem_append_left _ (List.mem_of_getElem? (i := 23) rfl))
theorem inX12_stay : ∀ w ∈ wsX120, w ∈ vX12_stay := fun w h => List.mem_cons_of_mem _ (List.mem_append_right _ (List.mem_append_right _ (List.mem_append_right _ (h))))
theorem kX12_stay_X12_copyOne_439 : GoodIn vX12_stay (wsV RX12 439 RX12 yX12_copyOne vX12_copyOne) := goodIn_sub (fun w h => (List.mem_append.mp h).elim (fun h => List.mem_cons_of_mem _ (List.mem_append_left _ ((by decide +kernel : ∀ w ∈ ([.methodLink RX12 439 yX12_copyOne, .instanceMethod yX12_copyOne, .selects RX12 yX12_copyOne yX12_copyOne, .initialized RX12] : List Cond), w ∈ oX12_stay) w h))) (fun h => List.mem_cons_of_mem _ (List.mem_append_right _ (List.mem_append_left _ (h))))) (by decide +kernel)
theorem kX12_stay_X12_part_192 : GoodIn vX12_stay (wsV RX12 192 RX12 yX12_part vX12_part) := goodIn_sub (fun w h => (List.mem_append.mp h).elim (fun h => List.mem_cons_of_mem _ (List.mem_append_left _ ((by decide +kernel : ∀ w ∈ ([.methodLink RX12 192 yX12_part, .instanceMethod yX12_part, .selects RX12 yX12_part yX12_part, .initialized RX12] : List Cond), w ∈ oX12_stay) w h))) (fun h => List.mem_cons_of_mem _ (List.mem_append_right _ (List.mem_append_right _ (List.mem_append_left _ (h)))))) (by decide +kernel)
set_option maxHeartbeats 4000000 in
set_option maxRecDepth 100000 in
theorem lp_sta1 {p : Program} {l : Launch} {e : Env} {s : State} {m : MethodId} {args : Array Value} {below : List Frame} {meth : Method} {c : Code} {Q : State → Prop} {A : Nat → Prop} {dC : Nat → ClassId} {dI : Nat → Nat → Nat} {cB cC cI cJ cZ : ClassId} {z0 : Nat} {R : Nat → Nat} (hx : p.tables.exec = Jvm.exec) (hb : c.code = cX12_stay) (hml : c.maxLocals = 5) (hown : s.vm.findClass RX12 = some m.cls) (hts : ∀ w ∈ vX12_stay, w.before args s = true) (hK : va_K (dC, dI) vwCl (TY cB cC cI cJ cZ) s) (hA : ∀ q : Nat, s.heap.size ≤ q → A q) {pl : Int32} {N : Nat → Nat} {G : Nat → Nat → Nat} {B : Nat → Nat → Int32} {sz az : Nat → Nat} {t : Nat} (hxi : XI N G sz az) (hrq : RQ N G sz t) (hpl : PLN N G t) (ke : ∀ (q : Nat) (M : Nat → Nat) (K : Nat → Nat → Nat) (H : Heap) (locs : List Loc), STI N G t q 0 0 0 M K → D7I N G 5000 q K → sumW (fun i => sz (K 50 i)) 0 q ≤ DSZ N G sz → va_P (dC, dI) vwCl (MW cB cC cI cJ cZ z0 R pl M K B) H → va_D A (MW cB cC cI cJ cZ z0 R pl M K B) → va_S A s.heap H locs → ∀ (ls : Array Slot), lv_has ls 5 [(0, .ref z0)] → W p l e (headSpec vX12_stay { frames := 2, cells := 0, slots := 0, locals := 44 }).room s m args below meth c H locs 0 0 Q (F0 m 64 ls [])) : ∀ (k : Nat) (s0 q : Nat) (M : Nat → Nat) (K : Nat → Nat → Nat), 5001 - s0 < k → s0 ≤ 5000 → STI N G t q 0 0 0 M K → D7I N G s0 q K → sumW (fun i => sz (K 50 i)) 0 q + sumW (fun s => if N 16 < G 7 s then sz (G 7 s - 1) else 0) s0 (5000 - s0) ≤ DSZ N G sz → ∀ (H : Heap) (locs : List Loc), va_P (dC, dI) vwCl (MW cB cC cI cJ cZ z0 R pl M K B) H → va_D A (MW cB cC cI cJ cZ z0 R pl M K B) → va_S A s.heap H locs → ∀ (ls : Array Slot), lv_has ls 5 [(0, .ref z0), (1, .int (nI s0))] → W p l e (headSpec vX12_stay { frames := 2, cells := 0, slots := 0, locals := 44 }).room s m args below meth c H locs 0 0 Q (F0 m 17 ls []) := by
  have hcs : 0 + 0 ≤ (0 : Nat) ∧ 0 + 0 ≤ (0 : Nat) := ⟨Nat.le_refl 0, Nat.le_refl 0⟩
  intro k
  induction k with
  | zero =>
    intro s0 q M K hk hs0 hsti hd7 hsb H locs hP hD hS ls hl
    exact absurd hk (Nat.not_lt_zero _)
  | succ k ih =>
    intro s0 q M K hk hs0 hsti hd7 hsb H locs hP hD hS ls hl
    obtain ⟨z1, z2, z3, z4, z5, z6⟩ := id hsti
    obtain ⟨r1, r2, r3, r4, r5⟩ := id hrq
    have ht9 := hxi.1.2.2.1
    have u6 := ht9.1
    have hp1 := hpl.1
    have hal := hxi.1.2.1.1
    have hkd := hxi.1.2.2.2.1
    have m6 := z1 6 (by decide) (by decide) (by decide)
    have m16 := z1 16 (by decide) (by decide) (by decide)
    have m17 := z1 17 (by decide) (by decide) (by decide)
    have k10 := z2 10 (by decide) (by omega) (by omega)
    have k11 := z2 11 (by decide) (by omega) (by omega)
    have k12 := z2 12 (by decide) (by omega) (by omega)
    have k13 := z2 13 (by decide) (by omega) (by omega)
    obtain ⟨z53, z62, z63⟩ := z4
    have hq9 := sumW_ge (g := fun i => sz (K 50 i)) (a := 0) q (fun i _ hi => ht9.one (by have := (z5 i (by omega)).1; omega))
    refine lv_iload_n hx hb dX12_stay_17 rfl (lv_at hl 1 rfl) ?_
    refine lv_aload_n hx hb dX12_stay_18 rfl (lv_at hl 0 rfl) ?_
    refine mg_6 hx hb hts inX12_stay hown hK hP (hts _ lkX12_stay_f165) dX12_stay_19 ?_
    refine bn_ge (tgt := 64) hx hb (by first | omega | exact Nat.lt_of_lt_of_le (hG _ _) (by decide)) (by first | omega | exact Nat.lt_of_lt_of_le (hG _ _) (by decide)) dX12_stay_22 (by decide) (fun c1 => ?_) (fun c1 => ?_)
    · exact ke q M K H locs hsti (hd7.all (fun s a1 a2 => r5 s (by omega) a2)) (by omega) hP hD hS ls (lv_sub hl [0] rfl)
    · have h7 := (hd7 s0 (by omega)).2 (Nat.le_refl _)
      have g7 := z3 7 s0
      rw [sumW_step _ (show s0 < 5000 by omega)] at hsb
      refine lv_aload_n hx hb dX12_stay_25 rfl (lv_at hl 0 rfl) ?_
      refine mg_7 hx hb hts inX12_stay hown hK hP (hts _ lkX12_stay_f25) dX12_stay_26 ?_
      refine lv_iload_n hx hb dX12_stay_29 rfl (lv_at hl 1 rfl) ?_
      refine ml_7 hx hb hK hP (by omega) dX12_stay_30 ?_
      refine lv_aload_n hx hb dX12_stay_31 rfl (lv_at hl 0 rfl) ?_
      refine mg_16 hx hb hts inX12_stay hown hK hP (hts _ lkX12_stay_f402) dX12_stay_32 ?_
      refine bn_le (tgt := 58) hx hb (by first | omega | exact Nat.lt_of_lt_of_le (hG _ _) (by decide)) (by first | omega | exact Nat.lt_of_lt_of_le (hG _ _) (by decide)) dX12_stay_35 (by decide) (fun c2 => ?_) (fun c2 => ?_)
      · have c2 : G 7 s0 ≤ N 16 := by omega
        rw [if_neg (show ¬ N 16 < G 7 s0 by omega)] at hsb
        refine lv_iinc (v := nI (s0 + 1)) (lv' := [(1, .int (nI (s0 + 1))), (0, .ref z0)]) hx hb dX12_stay_58 hl (k := 1) rfl (nI_add s0 1) (by decide) rfl (fun ls hl => ?_)
        refine lv_goto (tgt := 17) hx hb dX12_stay_61 (by decide) ?_
        exact ih (s0 + 1) q M K (by omega) (by omega) hsti (hd7.old (by omega) c2) (by omega) _ _ hP hD hS ls (lv_sub hl [1, 0] rfl)
      · have c2 : N 16 < G 7 s0 := by omega
        rw [if_pos c2] at hsb
        have ct := r4 s0 (by omega) (by omega)
        have cs := ht9.one (show G 7 s0 - 1 < N 14 by omega)
        refine lv_aload_n hx hb dX12_stay_38 rfl (lv_at hl 0 rfl) ?_
        refine mg_7 hx hb hts inX12_stay hown hK hP (hts _ lkX12_stay_f25) dX12_stay_39 ?_
        refine lv_iload_n hx hb dX12_stay_42 rfl (lv_at hl 1 rfl) ?_
        refine lv_aload_n hx hb dX12_stay_43 rfl (lv_at hl 0 rfl) ?_
        refine lv_aload_n hx hb dX12_stay_44 rfl (lv_at hl 0 rfl) ?_
        refine mg_7 hx hb hts inX12_stay hown hK hP (hts _ lkX12_stay_f25) dX12_stay_45 ?_
        refine lv_iload_n hx hb dX12_stay_48 rfl (lv_at hl 1 rfl) ?_
        refine ml_7 hx hb hK hP (by omega) dX12_stay_49 ?_
        refine lv_iconst (v := nI 1) hx hb dX12_stay_50 (by decide) ?_
        refine lv_isub hx hb dX12_stay_51 ?_
        refine tp_i (pk_sub (a := K 7 s0) (b := 1) (by omega)) ?_
        refine tp_i (y := nI (G 7 s0 - 1)) (by rw [h7]) ?_
        refine mcl_i (As := [.int (nI (G 7 s0 - 1))]) (rest := [.int (nI s0), .ref (R 7)]) ⟨hx, hb, hml, hown, hts⟩ (m_copyOne l dC dI cB cC cI cJ cZ z0 R pl M K B (G 7 s0 - 1) z3 (by omega) (by rw [k10]; exact hkd _ (by omega)) (by omega) (by omega) H.size) (cwV 1 hts kX12_stay_X12_copyOne_439 rfl rfl rfl (by decide +kernel) ⟨Nat.le_of_ble_eq_true rfl, Nat.le_of_ble_eq_true rfl⟩) hK hP hD hS hA rfl rfl hl.1 (lv_room (Nat.le_of_ble_eq_true rfl)) dX12_stay_52 hcs (fun r_5 N_1 G_2 B_3 pl_4 hw H locs hP hD hS => ?_)
        dsimp only at hw
        obtain ⟨e3, e4, e1, e2, hw⟩ := hw
        rw [z53, z62] at e1 e2
        rw [m16, z62] at hw
        have hst2 := hsti.copy (ct) (by omega) (by omega)
        rw [← e1, ← e2] at hst2
        rw [e3, e4] at hP hD
        subst hw
        refine lv_iconst (v := nI 1) hx hb dX12_stay_55 (by decide) ?_
        refine lv_iadd hx hb dX12_stay_56 ?_
        refine tp_i (nI_add (N 16 + q) 1) ?_
        refine ms_7 hx hb hK hP hD hS (by omega) dX12_stay_57 (fun H locs hP hD hS => ?_)
        have hst3 := hst2.def7 (X := va_up (G_2 7) s0 (N 16 + q + 1)) (hIup (hst2.2.2.1 7) (by omega))
        have hd8 : D7I N G (s0 + 1) (q + 1) (va_up G_2 7 (va_up (G_2 7) s0 ((N 16 + q) + 1))) := by rw [e2]; exact hd7.new (by omega) c2 rfl
        have hs9 : sumW (fun i => sz ((va_up G_2 7 (va_up (G_2 7) s0 ((N 16 + q) + 1))) 50 i)) 0 (q + 1) = sumW (fun i => sz (K 50 i)) 0 q + sz (G 7 s0 - 1) := by rw [e2]; exact sum50 0 q (Nat.zero_add q)
        refine lv_iinc (v := nI (s0 + 1)) (lv' := [(1, .int (nI (s0 + 1))), (0, .ref z0)]) hx hb dX12_stay_58 hl (k := 1) rfl (nI_add s0 1) (by decide) rfl (fun ls hl => ?_)
        refine lv_goto (tgt := 17) hx hb dX12_stay_61 (by decide) ?_
        exact ih (s0 + 1) (q + 1) N_1 (va_up G_2 7 (va_up (G_2 7) s0 ((N 16 + q) + 1))) (by omega) (by omega) hst3 hd8 (by omega) _ _ hP hD hS ls (lv_sub hl [1, 0] rfl)

set_option maxHeartbeats 4000000 in
set_option maxRecDepth 100000 in
theorem lp_sta2 {p : Program} {l : Launch} {e : Env} {s : State} {m : MethodId} {args : Array Value} {below : List Frame} {meth : Method} {c : Code} {Q : State → Prop} {A : Nat → Prop} {dC : Nat → ClassId} {dI : Nat → Nat → Nat} {cB cC cI cJ cZ : ClassId} {z0 : Nat} {R : Nat → Nat} (hx : p.tables.exec = Jvm.exec) (hb : c.code = cX12_stay) (hml : c.maxLocals = 5) (hown : s.vm.findClass RX12 = some m.cls) (hts : ∀ w ∈ vX12_stay, w.before args s = true) (hK : va_K (dC, dI) vwCl (TY cB cC cI cJ cZ) s) (hA : ∀ q : Nat, s.heap.size ≤ q → A q) {pl : Int32} {N : Nat → Nat} {G : Nat → Nat → Nat} {B : Nat → Nat → Int32} {sz az : Nat → Nat} {t : Nat} (hxi : XI N G sz az) (hrq : RQ N G sz t) (hpl : PLN N G t) (a f cp : Nat) (ke : ∀ (q : Nat) (M : Nat → Nat) (K : Nat → Nat → Nat) (H : Heap) (locs : List Loc), STI N G t q cp (cp + G 12 f) a M K → D7I N G 5000 q K → a < q → K 50 a = f → (∀ k, k < (G 12 f) → ∃ j, j < q ∧ K 61 (cp + k) = N 16 + j ∧ K 50 j = CH G f k) → cp + (G 12 f) ≤ q → a + 1 + sumW (fun i => sz (K 50 i)) (a + 1) (q - (a + 1)) ≤ DSZ N G sz → va_P (dC, dI) vwCl (MW cB cC cI cJ cZ z0 R pl M K B) H → va_D A (MW cB cC cI cJ cZ z0 R pl M K B) → va_S A s.heap H locs → ∀ (ls : Array Slot), lv_has ls 5 [(0, .ref z0), (1, .int (nI a)), (2, .int (nI f)), (3, .int (nI cp))] → W p l e (headSpec vX12_stay { frames := 2, cells := 0, slots := 0, locals := 44 }).room s m args below meth c H locs 0 0 Q (F0 m 151 ls [])) : ∀ (k : Nat) (kx q : Nat) (M : Nat → Nat) (K : Nat → Nat → Nat), G 12 f - kx < k → kx ≤ G 12 f → STI N G t q cp (cp + G 12 f) a M K → D7I N G 5000 q K → a < q → K 50 a = f → (∀ k, k < kx → ∃ j, j < q ∧ K 61 (cp + k) = N 16 + j ∧ K 50 j = CH G f k) → cp + kx ≤ q → a + 1 + sumW (fun i => sz (K 50 i)) (a + 1) (q - (a + 1)) + sumW (fun k => sz (CH G f k)) kx (G 12 f - kx) ≤ DSZ N G sz → ∀ (H : Heap) (locs : List Loc), va_P (dC, dI) vwCl (MW cB cC cI cJ cZ z0 R pl M K B) H → va_D A (MW cB cC cI cJ cZ z0 R pl M K B) → va_S A s.heap H locs → ∀ (ls : Array Slot), lv_has ls 5 [(0, .ref z0), (1, .int (nI a)), (2, .int (nI f)), (3, .int (nI cp)), (4, .int (nI kx))] → W p l e (headSpec vX12_stay { frames := 2, cells := 0, slots := 0, locals := 44 }).room s m args below meth c H locs 0 0 Q (F0 m 114 ls []) := by
  have hcs : 0 + 0 ≤ (0 : Nat) ∧ 0 + 0 ≤ (0 : Nat) := ⟨Nat.le_refl 0, Nat.le_refl 0⟩
  intro k
  induction k with
  | zero =>
    intro kx q M K hk hkb hsti hd7 haq haf hpt hcp hsb H locs hP hD hS ls hl
    exact absurd hk (Nat.not_lt_zero _)
  | succ k ih =>
    intro kx q M K hk hkb hsti hd7 haq haf hpt hcp hsb H locs hP hD hS ls hl
    obtain ⟨z1, z2, z3, z4, z5, z6⟩ := id hsti
    obtain ⟨r1, r2, r3, r4, r5⟩ := id hrq
    have ht9 := hxi.1.2.2.1
    have u6 := ht9.1
    have hp1 := hpl.1
    have hal := hxi.1.2.1.1
    have hkd := hxi.1.2.2.2.1
    have m6 := z1 6 (by decide) (by decide) (by decide)
    have m16 := z1 16 (by decide) (by decide) (by decide)
    have m17 := z1 17 (by decide) (by decide) (by decide)
    have k10 := z2 10 (by decide) (by omega) (by omega)
    have k11 := z2 11 (by decide) (by omega) (by omega)
    have k12 := z2 12 (by decide) (by omega) (by omega)
    have k13 := z2 13 (by decide) (by omega) (by omega)
    obtain ⟨z53, z62, z63⟩ := z4
    have hft := (z5 a haq).1
    rw [haf] at hft
    have hfN : f < N 14 := by omega
    have g12 := z3 12 f
    have hl9 := ht9.one hfN
    have hq9 := sumW_ge (g := fun i => sz (K 50 i)) (a := a + 1) (q - (a + 1)) (fun i _ hi => ht9.one (by have := (z5 i (by omega)).1; omega))
    refine lv_iload hx hb dX12_stay_114 (lv_at hl 4 rfl) ?_
    refine lv_aload_n hx hb dX12_stay_116 rfl (lv_at hl 0 rfl) ?_
    refine mg_12 hx hb hts inX12_stay hown hK hP (hts _ lkX12_stay_f38) dX12_stay_117 ?_
    refine lv_iload_n hx hb dX12_stay_120 rfl (lv_at hl 2 rfl) ?_
    refine ml_12 hx hb hK hP (by omega) dX12_stay_121 ?_
    refine bn_ge (tgt := 151) hx hb (by first | omega | exact Nat.lt_of_lt_of_le (hG _ _) (by decide)) (by first | omega | exact Nat.lt_of_lt_of_le (hG _ _) (by decide)) dX12_stay_122 (by decide) (fun c1 => ?_) (fun c1 => ?_)
    · rw [k12] at c1
      have e9 : kx = G 12 f := by omega
      subst e9
      exact ke q M K H locs hsti hd7 haq haf hpt hcp (by omega) hP hD hS ls (lv_sub hl [0, 1, 2, 3] rfl)
    · rw [k12] at c1
      obtain ⟨p1, p2, p3, p4⟩ := ht9.pt hfN c1
      have pc := (hpl.2 f hft).1 kx c1
      rw [sumW_step _ c1] at hsb
      have cs := ht9.one p2
      have hrk := sumW_ge (g := fun k => sz (CH G f k)) (a := kx + 1) (G 12 f - (kx + 1)) (fun i i1 i2 => ht9.one (ht9.pt hfN (show i < G 12 f by omega)).2.1)
      refine lv_aload_n hx hb dX12_stay_125 rfl (lv_at hl 0 rfl) ?_
      refine mg_61 hx hb hts inX12_stay hown hK hP (hts _ lkX12_stay_f128) dX12_stay_126 ?_
      refine lv_iload_n hx hb dX12_stay_129 rfl (lv_at hl 3 rfl) ?_
      refine lv_iload hx hb dX12_stay_130 (lv_at hl 4 rfl) ?_
      refine lv_iadd hx hb dX12_stay_132 ?_
      refine tp_i (nI_add cp kx) ?_
      refine lv_aload_n hx hb dX12_stay_133 rfl (lv_at hl 0 rfl) ?_
      refine lv_aload_n hx hb dX12_stay_134 rfl (lv_at hl 0 rfl) ?_
      refine lv_iload_n hx hb dX12_stay_135 rfl (lv_at hl 2 rfl) ?_
      refine lv_iload hx hb dX12_stay_136 (lv_at hl 4 rfl) ?_
      refine mcl_i (As := [.int (nI f), .int (nI kx)]) (rest := [.ref z0, .int (nI (cp + kx)), .ref (R 61)]) ⟨hx, hb, hml, hown, hts⟩ (m_part l dC dI cB cC cI cJ cZ z0 R pl M K B f kx z3 p4 (by rw [k11]; exact p1) H.size) (cwV 2 hts kX12_stay_X12_part_192 rfl rfl rfl (by decide +kernel) ⟨Nat.le_of_ble_eq_true rfl, Nat.le_of_ble_eq_true rfl⟩) hK hP hD hS hA rfl rfl hl.1 (lv_room (Nat.le_of_ble_eq_true rfl)) dX12_stay_138 hcs (fun r_5 N_1 G_2 B_3 pl_4 hw H locs hP hD hS => ?_)
      dsimp only at hw
      obtain ⟨e1, e2, e3, e4, hw⟩ := hw
      rw [e1, e2, e3, e4] at hP hD
      subst hw
      refine tp_i (y := nI (CH G f kx)) (by show nI (K 13 (K 11 f + kx)) = _; rw [k11, k13]) ?_
      refine mcl_i (As := [.int (nI (CH G f kx))]) (rest := [.int (nI (cp + kx)), .ref (R 61)]) ⟨hx, hb, hml, hown, hts⟩ (m_copyOne l dC dI cB cC cI cJ cZ z0 R pl M K B (CH G f kx) z3 (by omega) (by rw [k10]; exact hkd _ p2) (by omega) (by omega) H.size) (cwV 1 hts kX12_stay_X12_copyOne_439 rfl rfl rfl (by decide +kernel) ⟨Nat.le_of_ble_eq_true rfl, Nat.le_of_ble_eq_true rfl⟩) hK hP hD hS hA rfl rfl hl.1 (lv_room (Nat.le_of_ble_eq_true rfl)) dX12_stay_141 hcs (fun r_10 N_6 G_7 B_8 pl_9 hw H locs hP hD hS => ?_)
      dsimp only at hw
      obtain ⟨e3, e4, e1, e2, hw⟩ := hw
      rw [z53, z62] at e1 e2
      rw [m16, z62] at hw
      have hst2 := hsti.copy (pc) (by omega) (by omega)
      rw [← e1, ← e2] at hst2
      rw [e3, e4] at hP hD
      subst hw
      have c50 : ∀ i, G_7 50 i = va_up (K 50) q (CH G f kx) i := fun i => by rw [e2]; rfl
      have c61 : G_7 61 = K 61 := by rw [e2]; rfl
      refine ms_61 hx hb hK hP hD hS (by omega) dX12_stay_144 (fun H locs hP hD hS => ?_)
      have hst3 := hst2.part (j := cp + kx) (v := N 16 + q) (by omega) (by omega)
      have hd8 : D7I N G 5000 (q + 1) (va_up G_7 61 (va_up (G_7 61) (cp + kx) (N 16 + q))) := by rw [e2]; exact hd7.copy q (CH G f kx)
      have hs9 : sumW (fun i => sz ((va_up G_7 61 (va_up (G_7 61) (cp + kx) (N 16 + q))) 50 i)) (a + 1) (q + 1 - (a + 1)) = sumW (fun i => sz (K 50 i)) (a + 1) (q - (a + 1)) + sz (CH G f kx) := by rw [e2, show q + 1 - (a + 1) = (q - (a + 1)) + 1 by omega]; exact sum50 (a + 1) _ (by omega)
      have haf2 : (va_up G_7 61 (va_up (G_7 61) (cp + kx) (N 16 + q))) 50 a = f := by rw [← haf]; show G_7 50 a = K 50 a; rw [c50, va_up_ne _ _ (by omega)]
      have hpt2 : ∀ k, k < kx + 1 → ∃ j, j < q + 1 ∧ (va_up G_7 61 (va_up (G_7 61) (cp + kx) (N 16 + q))) 61 (cp + k) = N 16 + j ∧ (va_up G_7 61 (va_up (G_7 61) (cp + kx) (N 16 + q))) 50 j = CH G f k := fun k hk => by
        show ∃ j, j < q + 1 ∧ va_up (G_7 61) (cp + kx) (N 16 + q) (cp + k) = N 16 + j ∧ G_7 50 j = CH G f k
        by_cases e : k = kx
        · rw [e]; exact ⟨q, by omega, va_up_self _ _ _, by rw [c50, va_up_self]⟩
        · obtain ⟨j, j1, j2, j3⟩ := hpt k (by omega)
          exact ⟨j, by omega, by rw [va_up_ne _ _ (by omega), c61]; exact j2, by rw [c50, va_up_ne _ _ (by omega)]; exact j3⟩
      refine lv_iinc (v := nI (kx + 1)) (lv' := [(4, .int (nI (kx + 1))), (0, .ref z0), (1, .int (nI a)), (2, .int (nI f)), (3, .int (nI cp))]) hx hb dX12_stay_145 hl (k := 4) rfl (nI_add kx 1) (by decide) rfl (fun ls hl => ?_)
      refine lv_goto (tgt := 114) hx hb dX12_stay_148 (by decide) ?_
      exact ih (kx + 1) (q + 1) N_6 (va_up G_7 61 (va_up (G_7 61) (cp + kx) (N 16 + q))) (by omega) (by omega) hst3 hd8 (by omega) haf2 hpt2 (by omega) (by omega) _ _ hP hD hS ls (lv_sub hl [1, 2, 3, 4, 0] rfl)

set_option maxHeartbeats 4000000 in
set_option maxRecDepth 100000 in
theorem lp_sta3 {p : Program} {l : Launch} {e : Env} {s : State} {m : MethodId} {args : Array Value} {below : List Frame} {meth : Method} {c : Code} {Q : State → Prop} {A : Nat → Prop} {dC : Nat → ClassId} {dI : Nat → Nat → Nat} {cB cC cI cJ cZ : ClassId} {z0 : Nat} {R : Nat → Nat} (hx : p.tables.exec = Jvm.exec) (hb : c.code = cX12_stay) (hml : c.maxLocals = 5) (hown : s.vm.findClass RX12 = some m.cls) (hts : ∀ w ∈ vX12_stay, w.before args s = true) (hK : va_K (dC, dI) vwCl (TY cB cC cI cJ cZ) s) (hA : ∀ q : Nat, s.heap.size ≤ q → A q) {pl : Int32} {N : Nat → Nat} {G : Nat → Nat → Nat} {B : Nat → Nat → Int32} {sz az : Nat → Nat} {t : Nat} (hxi : XI N G sz az) (hrq : RQ N G sz t) (hpl : PLN N G t) (ke : ∀ (q cp : Nat) (M : Nat → Nat) (K : Nat → Nat → Nat) (H : Heap) (locs : List Loc), STI N G t q cp cp q M K → D7I N G 5000 q K → cp ≤ q → q ≤ DSZ N G sz → va_P (dC, dI) vwCl (MW cB cC cI cJ cZ z0 R pl M K B) H → va_D A (MW cB cC cI cJ cZ z0 R pl M K B) → va_S A s.heap H locs → ∀ (ls : Array Slot), lv_has ls 5 [(0, .ref z0)] → W p l e (headSpec vX12_stay { frames := 2, cells := 0, slots := 0, locals := 44 }).room s m args below meth c H locs 0 0 Q (F0 m 174 ls [])) : ∀ (k : Nat) (a q cp : Nat) (M : Nat → Nat) (K : Nat → Nat → Nat), 4001 - a < k → a ≤ q → STI N G t q cp cp a M K → D7I N G 5000 q K → cp ≤ q → a + sumW (fun i => sz (K 50 i)) a (q - a) ≤ DSZ N G sz → ∀ (H : Heap) (locs : List Loc), va_P (dC, dI) vwCl (MW cB cC cI cJ cZ z0 R pl M K B) H → va_D A (MW cB cC cI cJ cZ z0 R pl M K B) → va_S A s.heap H locs → ∀ (ls : Array Slot), lv_has ls 5 [(0, .ref z0), (1, .int (nI a))] → W p l e (headSpec vX12_stay { frames := 2, cells := 0, slots := 0, locals := 44 }).room s m args below meth c H locs 0 0 Q (F0 m 66 ls []) := by
  have hcs : 0 + 0 ≤ (0 : Nat) ∧ 0 + 0 ≤ (0 : Nat) := ⟨Nat.le_refl 0, Nat.le_refl 0⟩
  intro k
  induction k with
  | zero =>
    intro a q cp M K hk haq0 hsti hd7 hcp hsb H locs hP hD hS ls hl
    exact absurd hk (Nat.not_lt_zero _)
  | succ k ih =>
    intro a q cp M K hk haq0 hsti hd7 hcp hsb H locs hP hD hS ls hl
    obtain ⟨z1, z2, z3, z4, z5, z6⟩ := id hsti
    obtain ⟨r1, r2, r3, r4, r5⟩ := id hrq
    have ht9 := hxi.1.2.2.1
    have u6 := ht9.1
    have hp1 := hpl.1
    have hal := hxi.1.2.1.1
    have hkd := hxi.1.2.2.2.1
    have m6 := z1 6 (by decide) (by decide) (by decide)
    have m16 := z1 16 (by decide) (by decide) (by decide)
    have m17 := z1 17 (by decide) (by decide) (by decide)
    have k10 := z2 10 (by decide) (by omega) (by omega)
    have k11 := z2 11 (by decide) (by omega) (by omega)
    have k12 := z2 12 (by decide) (by omega) (by omega)
    have k13 := z2 13 (by decide) (by omega) (by omega)
    obtain ⟨z53, z62, z63⟩ := z4
    have hq9 := sumW_ge (g := fun i => sz (K 50 i)) (a := a) (q - a) (fun i _ hi => ht9.one (by have := (z5 i (by omega)).1; omega))
    refine lv_iload_n hx hb dX12_stay_66 rfl (lv_at hl 1 rfl) ?_
    refine lv_aload_n hx hb dX12_stay_67 rfl (lv_at hl 0 rfl) ?_
    refine mg_53 hx hb hts inX12_stay hown hK hP (hts _ lkX12_stay_f306) dX12_stay_68 ?_
    refine bn_ge (tgt := 174) hx hb (by first | omega | exact Nat.lt_of_lt_of_le (hG _ _) (by decide)) (by first | omega | exact Nat.lt_of_lt_of_le (hG _ _) (by decide)) dX12_stay_71 (by decide) (fun c1 => ?_) (fun c1 => ?_)
    · have e9 : a = q := by omega
      subst e9
      exact ke a cp M K H locs hsti hd7 hcp (by omega) hP hD hS ls (lv_sub hl [0] rfl)
    · have c1 : a < q := by omega
      have hft := (z5 a c1).1
      rw [sumW_step _ c1] at hsb
      have hs1 := ht9.one (show K 50 a < N 14 by omega)
      have g10 := z3 10 (K 50 a)
      have g12 := z3 12 (K 50 a)
      refine lv_aload_n hx hb dX12_stay_74 rfl (lv_at hl 0 rfl) ?_
      refine mg_50 hx hb hts inX12_stay hown hK hP (hts _ lkX12_stay_f98) dX12_stay_75 ?_
      refine lv_iload_n hx hb dX12_stay_78 rfl (lv_at hl 1 rfl) ?_
      refine ml_50 hx hb hK hP (by omega) dX12_stay_79 ?_
      refine lv_istore_n (lv' := [(2, .int (nI (K 50 a))), (0, .ref z0), (1, .int (nI a))]) hx hb dX12_stay_80 rfl hl (by decide) rfl (fun ls hl => ?_)
      refine lv_aload_n hx hb dX12_stay_81 rfl (lv_at hl 1 rfl) ?_
      refine mg_10 hx hb hts inX12_stay hown hK hP (hts _ lkX12_stay_f32) dX12_stay_82 ?_
      refine lv_iload_n hx hb dX12_stay_85 rfl (lv_at hl 0 rfl) ?_
      refine ml_10 hx hb hK hP (by omega) dX12_stay_86 ?_
      refine lv_iconst (v := nI 2) hx hb dX12_stay_87 (by decide) ?_
      refine bn_ne (tgt := 168) hx hb (by first | omega | exact Nat.lt_of_lt_of_le (hG _ _) (by decide)) (by first | omega | exact Nat.lt_of_lt_of_le (hG _ _) (by decide)) dX12_stay_88 (by decide) (fun c2 => ?_) (fun c2 => ?_)
      · rw [k10] at c2
        refine lv_iinc (v := nI (a + 1)) (lv' := [(1, .int (nI (a + 1))), (2, .int (nI (K 50 a))), (0, .ref z0)]) hx hb dX12_stay_168 hl (k := 2) rfl (nI_add a 1) (by decide) rfl (fun ls hl => ?_)
        refine lv_goto (tgt := 66) hx hb dX12_stay_171 (by decide) ?_
        exact ih (a + 1) q cp M K (by omega) (by omega) (hsti.skip c1 c2) hd7 hcp (by omega) _ _ hP hD hS ls (lv_sub hl [2, 0] rfl)
      · rw [k10] at c2
        obtain ⟨f, hf⟩ : ∃ f, K 50 a = f := ⟨_, rfl⟩
        rw [hf] at hft hs1 hsb c2
        have hpw := (ht9.2 f (by omega)).1
        have hsc := rest_le sz (CH G f) 0 (G 12 f)
        have hrk := sumW_ge (g := fun k => sz (CH G f k)) (a := 0) (G 12 f) (fun i i1 i2 => ht9.one (ht9.pt (show f < N 14 by omega) (show i < G 12 f by omega)).2.1)
        have hl : lv_has ls 5 [(2, .int (nI f)), (0, .ref z0), (1, .int (nI a))] := by rw [← hf]; exact hl
        refine lv_aload_n hx hb dX12_stay_91 rfl (lv_at hl 1 rfl) ?_
        refine mg_63 hx hb hts inX12_stay hown hK hP (hts _ lkX12_stay_f436) dX12_stay_92 ?_
        refine tp_i (y := nI cp) (by rw [z63]) ?_
        refine lv_istore_n (lv' := [(3, .int (nI cp)), (2, .int (nI f)), (0, .ref z0), (1, .int (nI a))]) hx hb dX12_stay_95 rfl hl (by decide) rfl (fun ls hl => ?_)
        refine lv_aload_n hx hb dX12_stay_96 rfl (lv_at hl 2 rfl) ?_
        refine lv_aload_n hx hb dX12_stay_97 rfl (lv_at hl 2 rfl) ?_
        refine mg_63 hx hb hts inX12_stay hown hK hP (hts _ lkX12_stay_f436) dX12_stay_98 ?_
        refine lv_aload_n hx hb dX12_stay_101 rfl (lv_at hl 2 rfl) ?_
        refine mg_12 hx hb hts inX12_stay hown hK hP (hts _ lkX12_stay_f38) dX12_stay_102 ?_
        refine lv_iload_n hx hb dX12_stay_105 rfl (lv_at hl 1 rfl) ?_
        refine ml_12 hx hb hK hP (by omega) dX12_stay_106 ?_
        refine tp_i (y := nI (G 12 f)) (by rw [k12]) ?_
        refine lv_iadd hx hb dX12_stay_107 ?_
        refine tp_i (nI_add (M 63) (G 12 f)) ?_
        refine tp_i (y := nI (cp + G 12 f)) (by rw [z63]) ?_
        refine mp_63 hx hb hts inX12_stay hown hK hP hD hS (hts _ lkX12_stay_f436) dX12_stay_108 (fun H locs hP hD hS => ?_)
        have hst2 := hsti.m63 (cp + G 12 f)
        refine lv_iconst (v := nI 0) hx hb dX12_stay_111 (by decide) ?_
        refine lv_istore (lv' := [(4, .int (nI 0)), (3, .int (nI cp)), (2, .int (nI f)), (0, .ref z0), (1, .int (nI a))]) hx hb dX12_stay_112 hl (by decide) rfl (fun ls hl => ?_)
        refine lp_sta2 hx hb hml hown hts hK hA hxi hrq hpl a f cp (fun q M K H locs hsti hd7 haq haf hpt hcp hsb hP hD hS ls hl => ?_) _ 0 q (va_up M 63 (cp + G 12 f)) K (Nat.lt_succ_self _) (Nat.zero_le _) hst2 hd7 c1 hf (fun k hk => absurd hk (Nat.not_lt_zero k)) hcp (by rw [Nat.sub_zero] at hsc ⊢; omega) _ _ hP hD hS ls (lv_sub hl [3, 4, 2, 1, 0] rfl)
        obtain ⟨z1, z2, z3, z4, z5, z6⟩ := id hsti
        obtain ⟨z53, z62, z63⟩ := z4
        have m17 := z1 17 (by decide) (by decide) (by decide)
        have h51 := (z5 a haq).2.1
        have hq9 := sumW_ge (g := fun i => sz (K 50 i)) (a := a + 1) (q - (a + 1)) (fun i _ hi => ht9.one (by have := (z5 i (by omega)).1; omega))
        refine lv_aload_n hx hb dX12_stay_151 rfl (lv_at hl 0 rfl) ?_
        refine mg_59 hx hb hts inX12_stay hown hK hP (hts _ lkX12_stay_f122) dX12_stay_152 ?_
        refine lv_aload_n hx hb dX12_stay_155 rfl (lv_at hl 0 rfl) ?_
        refine mg_51 hx hb hts inX12_stay hown hK hP (hts _ lkX12_stay_f101) dX12_stay_156 ?_
        refine lv_iload_n hx hb dX12_stay_159 rfl (lv_at hl 1 rfl) ?_
        refine ml_51 hx hb hK hP (by omega) dX12_stay_160 ?_
        refine tp_i (y := nI a) (by rw [h51]) ?_
        refine lv_aload_n hx hb dX12_stay_161 rfl (lv_at hl 0 rfl) ?_
        refine mg_17 hx hb hts inX12_stay hown hK hP (hts _ lkX12_stay_f405) dX12_stay_162 ?_
        refine lv_iload_n hx hb dX12_stay_165 rfl (lv_at hl 3 rfl) ?_
        refine lv_iadd hx hb dX12_stay_166 ?_
        refine tp_i (nI_add (M 17) cp) ?_
        refine tp_i (y := nI (N 17 + cp)) (by rw [m17]) ?_
        refine ms_59 hx hb hK hP hD hS (by omega) dX12_stay_167 (fun H locs hP hD hS => ?_)
        have hst3 := hsti.list haq (by rw [haf]; exact c2) (by rw [haf]; exact hpt) (by omega)
        rw [haf] at hst3
        refine lv_iinc (v := nI (a + 1)) (lv' := [(1, .int (nI (a + 1))), (0, .ref z0), (2, .int (nI f)), (3, .int (nI cp))]) hx hb dX12_stay_168 hl (k := 1) rfl (nI_add a 1) (by decide) rfl (fun ls hl => ?_)
        refine lv_goto (tgt := 66) hx hb dX12_stay_171 (by decide) ?_
        exact ih (a + 1) q (cp + G 12 f) M (va_up K 59 (va_up (K 59) a (N 17 + cp))) (by omega) (by omega) hst3 hd7 hcp hsb _ _ hP hD hS ls (lv_sub hl [1, 0] rfl)

theorem pl_step {K9 K58 X : Nat → Nat} {b i v : Nat} (h : (∀ f, f < b → X f = K9 f) ∧ ∀ j, j < i → X (b + j) = K58 j) (hv : v = K58 i) : (∀ f, f < b → va_up X (b + i) v f = K9 f) ∧ ∀ j, j < i + 1 → va_up X (b + i) v (b + j) = K58 j := by
  refine ⟨fun f hf => by rw [va_up_ne _ _ (by omega)]; exact h.1 f hf, fun j hj => ?_⟩
  by_cases e : j = i
  · rw [e, va_up_self]; exact hv
  · rw [va_up_ne _ _ (by omega)]; exact h.2 j (by omega)
theorem up3_10 {K : Nat → Nat → Nat} {X Y Z X2 : Nat → Nat} : va_up (va_up (va_up (va_up K 10 X) 11 Y) 12 Z) 10 X2 = va_up (va_up (va_up K 10 X2) 11 Y) 12 Z := by
  funext k
  by_cases a : k = 10 <;> by_cases b : k = 11 <;> by_cases c : k = 12 <;> simp [va_up, a, b, c]
theorem up3_11 {K : Nat → Nat → Nat} {X Y Z Y2 : Nat → Nat} : va_up (va_up (va_up (va_up K 10 X) 11 Y) 12 Z) 11 Y2 = va_up (va_up (va_up K 10 X) 11 Y2) 12 Z := by
  funext k
  by_cases a : k = 10 <;> by_cases b : k = 11 <;> by_cases c : k = 12 <;> simp [va_up, a, b, c]
set_option maxHeartbeats 4000000 in
set_option maxRecDepth 100000 in
theorem lp_sta4 {p : Program} {l : Launch} {e : Env} {s : State} {m : MethodId} {args : Array Value} {below : List Frame} {meth : Method} {c : Code} {Q : State → Prop} {A : Nat → Prop} {dC : Nat → ClassId} {dI : Nat → Nat → Nat} {cB cC cI cJ cZ : ClassId} {z0 : Nat} {R : Nat → Nat} (hx : p.tables.exec = Jvm.exec) (hb : c.code = cX12_stay) (hml : c.maxLocals = 5) (hown : s.vm.findClass RX12 = some m.cls) (hts : ∀ w ∈ vX12_stay, w.before args s = true) (hK : va_K (dC, dI) vwCl (TY cB cC cI cJ cZ) s) (hA : ∀ q : Nat, s.heap.size ≤ q → A q) {pl : Int32} {N : Nat → Nat} {G : Nat → Nat → Nat} {B : Nat → Nat → Int32} (M : Nat → Nat) (K : Nat → Nat → Nat) (q : Nat) (m16 : M 16 = N 16) (m62 : M 62 = q) (hq : N 16 + q ≤ 4000) (hK9 : ∀ k i, K k i < 1048576) (h58b : ∀ i, i < q → K 58 i ≤ 2) (ke : ∀ (X Y Y2 : Nat → Nat) (H : Heap) (locs : List Loc), (∀ i, X i < 1048576) → (∀ i, Y i < 1048576) → (∀ i, Y2 i < 1048576) → ((∀ f, f < N 16 → X f = K 10 f) ∧ ∀ j, j < q → X (N 16 + j) = K 58 j) → ((∀ f, f < N 16 → Y f = K 11 f) ∧ ∀ j, j < q → Y (N 16 + j) = K 59 j) → ((∀ f, f < N 16 → Y2 f = K 12 f) ∧ ∀ j, j < q → Y2 (N 16 + j) = K 60 j) → va_P (dC, dI) vwCl (MW cB cC cI cJ cZ z0 R pl M (va_up (va_up (va_up K 10 X) 11 Y) 12 Y2) B) H → va_D A (MW cB cC cI cJ cZ z0 R pl M (va_up (va_up (va_up K 10 X) 11 Y) 12 Y2) B) → va_S A s.heap H locs → ∀ (ls : Array Slot), lv_has ls 5 [(0, .ref z0)] → W p l e (headSpec vX12_stay { frames := 2, cells := 0, slots := 0, locals := 44 }).room s m args below meth c H locs 0 0 Q (F0 m 241 ls [])) : ∀ (k : Nat) (i : Nat) (X Y Y2 : Nat → Nat), q - i < k → i ≤ q → (∀ i, X i < 1048576) → (∀ i, Y i < 1048576) → (∀ i, Y2 i < 1048576) → ((∀ f, f < N 16 → X f = K 10 f) ∧ ∀ j, j < i → X (N 16 + j) = K 58 j) → ((∀ f, f < N 16 → Y f = K 11 f) ∧ ∀ j, j < i → Y (N 16 + j) = K 59 j) → ((∀ f, f < N 16 → Y2 f = K 12 f) ∧ ∀ j, j < i → Y2 (N 16 + j) = K 60 j) → ∀ (H : Heap) (locs : List Loc), va_P (dC, dI) vwCl (MW cB cC cI cJ cZ z0 R pl M (va_up (va_up (va_up K 10 X) 11 Y) 12 Y2) B) H → va_D A (MW cB cC cI cJ cZ z0 R pl M (va_up (va_up (va_up K 10 X) 11 Y) 12 Y2) B) → va_S A s.heap H locs → ∀ (ls : Array Slot), lv_has ls 5 [(0, .ref z0), (1, .int (nI i))] → W p l e (headSpec vX12_stay { frames := 2, cells := 0, slots := 0, locals := 44 }).room s m args below meth c H locs 0 0 Q (F0 m 176 ls []) := by
  have hcs : 0 + 0 ≤ (0 : Nat) ∧ 0 + 0 ≤ (0 : Nat) := ⟨Nat.le_refl 0, Nat.le_refl 0⟩
  intro k
  induction k with
  | zero =>
    intro i X Y Y2 hk hi bx by9 bz px py pz
    omega
  | succ k ih =>
    intro i X Y Y2 hk hi bx by9 bz px py pz H locs hP hD hS ls hl
    have g58 := hK9 58 i
    have g59 := hK9 59 i
    have g60 := hK9 60 i
    refine lv_iload_n hx hb dX12_stay_176 rfl (lv_at hl 1 rfl) ?_
    refine lv_aload_n hx hb dX12_stay_177 rfl (lv_at hl 0 rfl) ?_
    refine mg_62 hx hb hts inX12_stay hown hK hP (hts _ lkX12_stay_f433) dX12_stay_178 ?_
    refine bn_ge (tgt := 241) hx hb (by first | omega | exact Nat.lt_of_lt_of_le (hG _ _) (by decide)) (by first | omega | exact Nat.lt_of_lt_of_le (hG _ _) (by decide)) dX12_stay_181 (by decide) (fun c1 => ?_) (fun c1 => ?_)
    · have e9 : i = q := by omega
      subst e9
      exact ke X Y Y2 H locs bx by9 bz px py pz hP hD hS ls (lv_sub hl [0] rfl)
    · have h58 := h58b i (by omega)
      refine lv_aload_n hx hb dX12_stay_184 rfl (lv_at hl 0 rfl) ?_
      refine mg_10 hx hb hts inX12_stay hown hK hP (hts _ lkX12_stay_f32) dX12_stay_185 ?_
      refine lv_aload_n hx hb dX12_stay_188 rfl (lv_at hl 0 rfl) ?_
      refine mg_16 hx hb hts inX12_stay hown hK hP (hts _ lkX12_stay_f402) dX12_stay_189 ?_
      refine lv_iload_n hx hb dX12_stay_192 rfl (lv_at hl 1 rfl) ?_
      refine lv_iadd hx hb dX12_stay_193 ?_
      refine tp_i (nI_add (M 16) i) ?_
      refine tp_i (y := nI (N 16 + i)) (by rw [m16]) ?_
      refine lv_aload_n hx hb dX12_stay_194 rfl (lv_at hl 0 rfl) ?_
      refine mg_58 hx hb hts inX12_stay hown hK hP (hts _ lkX12_stay_f119) dX12_stay_195 ?_
      refine lv_iload_n hx hb dX12_stay_198 rfl (lv_at hl 1 rfl) ?_
      refine ml_58 hx hb hK hP (by omega) dX12_stay_199 ?_
      refine tp_i (y := nI (K 58 i)) rfl ?_
      refine ms_10 hx hb hK hP hD hS (by omega) (by omega) dX12_stay_200 (fun H locs hP hD hS => ?_)
      rw [up3_10] at hP hD
      have hP : va_P (dC, dI) vwCl (MW cB cC cI cJ cZ z0 R pl M (va_up (va_up (va_up K 10 (va_up X (N 16 + i) (K 58 i))) 11 Y) 12 Y2) B) H := hP
      have hD : va_D A (MW cB cC cI cJ cZ z0 R pl M (va_up (va_up (va_up K 10 (va_up X (N 16 + i) (K 58 i))) 11 Y) 12 Y2) B) := hD
      refine lv_aload_n hx hb dX12_stay_201 rfl (lv_at hl 0 rfl) ?_
      refine mg_11 hx hb hts inX12_stay hown hK hP (hts _ lkX12_stay_f35) dX12_stay_202 ?_
      refine lv_aload_n hx hb dX12_stay_205 rfl (lv_at hl 0 rfl) ?_
      refine mg_16 hx hb hts inX12_stay hown hK hP (hts _ lkX12_stay_f402) dX12_stay_206 ?_
      refine lv_iload_n hx hb dX12_stay_209 rfl (lv_at hl 1 rfl) ?_
      refine lv_iadd hx hb dX12_stay_210 ?_
      refine tp_i (nI_add (M 16) i) ?_
      refine tp_i (y := nI (N 16 + i)) (by rw [m16]) ?_
      refine lv_aload_n hx hb dX12_stay_211 rfl (lv_at hl 0 rfl) ?_
      refine mg_59 hx hb hts inX12_stay hown hK hP (hts _ lkX12_stay_f122) dX12_stay_212 ?_
      refine lv_iload_n hx hb dX12_stay_215 rfl (lv_at hl 1 rfl) ?_
      refine ml_59 hx hb hK hP (by omega) dX12_stay_216 ?_
      refine tp_i (y := nI (K 59 i)) rfl ?_
      refine ms_11 hx hb hK hP hD hS (by omega) dX12_stay_217 (fun H locs hP hD hS => ?_)
      rw [up3_11] at hP hD
      have hP : va_P (dC, dI) vwCl (MW cB cC cI cJ cZ z0 R pl M (va_up (va_up (va_up K 10 (va_up X (N 16 + i) (K 58 i))) 11 (va_up Y (N 16 + i) (K 59 i))) 12 Y2) B) H := hP
      have hD : va_D A (MW cB cC cI cJ cZ z0 R pl M (va_up (va_up (va_up K 10 (va_up X (N 16 + i) (K 58 i))) 11 (va_up Y (N 16 + i) (K 59 i))) 12 Y2) B) := hD
      refine lv_aload_n hx hb dX12_stay_218 rfl (lv_at hl 0 rfl) ?_
      refine mg_12 hx hb hts inX12_stay hown hK hP (hts _ lkX12_stay_f38) dX12_stay_219 ?_
      refine lv_aload_n hx hb dX12_stay_222 rfl (lv_at hl 0 rfl) ?_
      refine mg_16 hx hb hts inX12_stay hown hK hP (hts _ lkX12_stay_f402) dX12_stay_223 ?_
      refine lv_iload_n hx hb dX12_stay_226 rfl (lv_at hl 1 rfl) ?_
      refine lv_iadd hx hb dX12_stay_227 ?_
      refine tp_i (nI_add (M 16) i) ?_
      refine tp_i (y := nI (N 16 + i)) (by rw [m16]) ?_
      refine lv_aload_n hx hb dX12_stay_228 rfl (lv_at hl 0 rfl) ?_
      refine mg_60 hx hb hts inX12_stay hown hK hP (hts _ lkX12_stay_f125) dX12_stay_229 ?_
      refine lv_iload_n hx hb dX12_stay_232 rfl (lv_at hl 1 rfl) ?_
      refine ml_60 hx hb hK hP (by omega) dX12_stay_233 ?_
      refine tp_i (y := nI (K 60 i)) rfl ?_
      refine ms_12 hx hb hK hP hD hS (by omega) dX12_stay_234 (fun H locs hP hD hS => ?_)
      rw [bx_uu] at hP hD
      have hP : va_P (dC, dI) vwCl (MW cB cC cI cJ cZ z0 R pl M (va_up (va_up (va_up K 10 (va_up X (N 16 + i) (K 58 i))) 11 (va_up Y (N 16 + i) (K 59 i))) 12 (va_up Y2 (N 16 + i) (K 60 i))) B) H := hP
      have hD : va_D A (MW cB cC cI cJ cZ z0 R pl M (va_up (va_up (va_up K 10 (va_up X (N 16 + i) (K 58 i))) 11 (va_up Y (N 16 + i) (K 59 i))) 12 (va_up Y2 (N 16 + i) (K 60 i))) B) := hD
      refine lv_iinc (v := nI (i + 1)) (lv' := [(1, .int (nI (i + 1))), (0, .ref z0)]) hx hb dX12_stay_235 hl (k := 1) rfl (nI_add i 1) (by decide) rfl (fun ls hl => ?_)
      refine lv_goto (tgt := 176) hx hb dX12_stay_238 (by decide) ?_
      exact ih (i + 1) (va_up X (N 16 + i) (K 58 i)) (va_up Y (N 16 + i) (K 59 i)) (va_up Y2 (N 16 + i) (K 60 i)) (by omega) (by omega) (hIup bx (by omega)) (hIup by9 (by omega)) (hIup bz (by omega)) (pl_step px rfl) (pl_step py rfl) (pl_step pz rfl) _ _ hP hD hS ls (lv_sub hl [1, 0] rfl)

set_option maxHeartbeats 4000000 in
set_option maxRecDepth 100000 in
theorem lp_sta5 {p : Program} {l : Launch} {e : Env} {s : State} {m : MethodId} {args : Array Value} {below : List Frame} {meth : Method} {c : Code} {Q : State → Prop} {A : Nat → Prop} {dC : Nat → ClassId} {dI : Nat → Nat → Nat} {cB cC cI cJ cZ : ClassId} {z0 : Nat} {R : Nat → Nat} (hx : p.tables.exec = Jvm.exec) (hb : c.code = cX12_stay) (hml : c.maxLocals = 5) (hown : s.vm.findClass RX12 = some m.cls) (hts : ∀ w ∈ vX12_stay, w.before args s = true) (hK : va_K (dC, dI) vwCl (TY cB cC cI cJ cZ) s) (hA : ∀ q : Nat, s.heap.size ≤ q → A q) {pl : Int32} {N : Nat → Nat} {G : Nat → Nat → Nat} {B : Nat → Nat → Int32} (M : Nat → Nat) (K : Nat → Nat → Nat) (cp : Nat) (m17 : M 17 = N 17) (m63 : M 63 = cp) (hq : N 17 + cp ≤ 4000) (hK9 : ∀ k i, K k i < 1048576) (ke : ∀ (P : Nat → Nat) (H : Heap) (locs : List Loc), (∀ i, P i < 1048576) → ((∀ f, f < N 17 → P f = K 13 f) ∧ ∀ j, j < cp → P (N 17 + j) = K 61 j) → va_P (dC, dI) vwCl (MW cB cC cI cJ cZ z0 R pl M (va_up K 13 P) B) H → va_D A (MW cB cC cI cJ cZ z0 R pl M (va_up K 13 P) B) → va_S A s.heap H locs → ∀ (ls : Array Slot), lv_has ls 5 [(0, .ref z0)] → W p l e (headSpec vX12_stay { frames := 2, cells := 0, slots := 0, locals := 44 }).room s m args below meth c H locs 0 0 Q (F0 m 274 ls [])) : ∀ (k : Nat) (i : Nat) (P : Nat → Nat), cp - i < k → i ≤ cp → (∀ i, P i < 1048576) → ((∀ f, f < N 17 → P f = K 13 f) ∧ ∀ j, j < i → P (N 17 + j) = K 61 j) → ∀ (H : Heap) (locs : List Loc), va_P (dC, dI) vwCl (MW cB cC cI cJ cZ z0 R pl M (va_up K 13 P) B) H → va_D A (MW cB cC cI cJ cZ z0 R pl M (va_up K 13 P) B) → va_S A s.heap H locs → ∀ (ls : Array Slot), lv_has ls 5 [(0, .ref z0), (1, .int (nI i))] → W p l e (headSpec vX12_stay { frames := 2, cells := 0, slots := 0, locals := 44 }).room s m args below meth c H locs 0 0 Q (F0 m 243 ls []) := by
  have hcs : 0 + 0 ≤ (0 : Nat) ∧ 0 + 0 ≤ (0 : Nat) := ⟨Nat.le_refl 0, Nat.le_refl 0⟩
  intro k
  induction k with
  | zero =>
    intro i P hk hi bp pp
    omega
  | succ k ih =>
    intro i P hk hi bp pp H locs hP hD hS ls hl
    have g61 := hK9 61 i
    refine lv_iload_n hx hb dX12_stay_243 rfl (lv_at hl 1 rfl) ?_
    refine lv_aload_n hx hb dX12_stay_244 rfl (lv_at hl 0 rfl) ?_
    refine mg_63 hx hb hts inX12_stay hown hK hP (hts _ lkX12_stay_f436) dX12_stay_245 ?_
    refine bn_ge (tgt := 274) hx hb (by first | omega | exact Nat.lt_of_lt_of_le (hG _ _) (by decide)) (by first | omega | exact Nat.lt_of_lt_of_le (hG _ _) (by decide)) dX12_stay_248 (by decide) (fun c1 => ?_) (fun c1 => ?_)
    · have e9 : i = cp := by omega
      subst e9
      exact ke P H locs bp pp hP hD hS ls (lv_sub hl [0] rfl)
    · refine lv_aload_n hx hb dX12_stay_251 rfl (lv_at hl 0 rfl) ?_
      refine mg_13 hx hb hts inX12_stay hown hK hP (hts _ lkX12_stay_f41) dX12_stay_252 ?_
      refine lv_aload_n hx hb dX12_stay_255 rfl (lv_at hl 0 rfl) ?_
      refine mg_17 hx hb hts inX12_stay hown hK hP (hts _ lkX12_stay_f405) dX12_stay_256 ?_
      refine lv_iload_n hx hb dX12_stay_259 rfl (lv_at hl 1 rfl) ?_
      refine lv_iadd hx hb dX12_stay_260 ?_
      refine tp_i (nI_add (M 17) i) ?_
      refine tp_i (y := nI (N 17 + i)) (by rw [m17]) ?_
      refine lv_aload_n hx hb dX12_stay_261 rfl (lv_at hl 0 rfl) ?_
      refine mg_61 hx hb hts inX12_stay hown hK hP (hts _ lkX12_stay_f128) dX12_stay_262 ?_
      refine lv_iload_n hx hb dX12_stay_265 rfl (lv_at hl 1 rfl) ?_
      refine ml_61 hx hb hK hP (by omega) dX12_stay_266 ?_
      refine tp_i (y := nI (K 61 i)) rfl ?_
      refine ms_13 hx hb hK hP hD hS (by omega) dX12_stay_267 (fun H locs hP hD hS => ?_)
      rw [bx_uu] at hP hD
      refine lv_iinc (v := nI (i + 1)) (lv' := [(1, .int (nI (i + 1))), (0, .ref z0)]) hx hb dX12_stay_268 hl (k := 1) rfl (nI_add i 1) (by decide) rfl (fun ls hl => ?_)
      refine lv_goto (tgt := 243) hx hb dX12_stay_271 (by decide) ?_
      exact ih (i + 1) (va_up P (N 17 + i) (K 61 i)) (by omega) (by omega) (hIup bp (by omega)) (pl_step pp rfl) _ _ hP hD hS ls (lv_sub hl [1, 0] rfl)

set_option maxHeartbeats 4000000 in
set_option maxRecDepth 100000 in
/-- stay -/
theorem m_stay (l : Launch) (dC : Nat → ClassId) (dI : Nat → Nat → Nat) (cB cC cI cJ cZ : ClassId) (z0 : Nat) (R : Nat → Nat) (pl : Int32) (N : Nat → Nat) (G : Nat → Nat → Nat) (B : Nat → Nat → Int32) (t : Nat) (sz az : Nat → Nat) (hxi : XI N G sz az) (hrq : RQ N G sz t) (hpl : PLN N G t) (s0 : Nat) : Met l yX12_stay vX12_stay { frames := 2, cells := 0, slots := 0, locals := 44 } (va_Pc [.ref z0] (mPre dC dI cB cC cI cJ cZ z0 R pl N G B s0)) (va_Qv (fun u : ((Nat → Nat) × (Nat → Nat → Nat) × (Nat → Nat → Int32) × Int32) => match u with | (N1, G1, B1, pl1) => B1 = B ∧ pl1 = pl ∧ ∃ sz1 az1, FMS (RSN N1) G1 sz1 ∧ TREQ (RSN N1) G1 sz1 ∧ (ATOM (RSN N1) G1 az1 ∧ ∀ f, f < N1 16 → az1 f ≤ sz1 f) ∧ PLN (RSN N1) G1 (N1 16) ∧ (N1 16 ≤ N 9 ∧ N1 17 ≤ N 9) ∧ (∀ s, s < 5000 → 0 < G1 7 s → G1 7 s ≤ N1 16 ∧ RULESOK G1 sz1 (G1 7 s - 1)) ∧ (∀ k, k ≠ 16 → k ≠ 17 → k ≠ 53 → k ≠ 62 → k ≠ 63 → N1 k = N k) ∧ G1 5 = G 5 ∧ N1 53 ≤ 90000) (mPost dC dI cB cC cI cJ cZ z0 R (va_A (MW cB cC cI cJ cZ z0 R pl N G B) s0)) (va_A (MW cB cC cI cJ cZ z0 R pl N G B) s0)) 0 0 (va_A (MW cB cC cI cJ cZ z0 R pl N G B) s0) := by
  refine Met.ofW (cc := cX12_stay) (maxL := 5) (ret := none) (by decide) rfl ?_
  intro p e s m args below meth c s₁ B9 hml hv
  obtain ⟨rfl, hsz, hP, hK, hD0⟩ := hv
  have hx := B9.exec
  have hb := B9.bytes
  have hr := B9.returns
  have hts := atoms_spec (ws := vX12_stay) B9.pre
  have hown : s.vm.findClass RX12 = some m.cls := findClass_of_methodNamed B9.named
  have hlocks := B9.notSynchronized
  subst hsz
  have hD := hD0.self (sz := s.heap.size)
  generalize hAe : va_A (MW cB cC cI cJ cZ z0 R pl N G B) s.heap.size = A at hD ⊢
  have hA : ∀ q : Nat, s.heap.size ≤ q → A q := fun q h => by rw [← hAe]; exact Or.inr h
  have hS : va_S A s.heap s.heap [] := va_S.rf
  have hcs : 0 + 0 ≤ (0 : Nat) ∧ 0 + 0 ≤ (0 : Nat) := ⟨Nat.le_refl 0, Nat.le_refl 0⟩
  have hl := lv_entry ([.ref z0]) (n := 5) (Nat.le_of_ble_eq_true rfl)
  rw [lg_entry_eq]
  generalize (lg_sl ([.ref z0]) ++ List.replicate (5 - (lg_sl ([.ref z0])).length) Slot.unset).toArray = ls at hl ⊢
  have hl : lv_has ls 5 [(0, .ref z0)] := hl
  have hG := hxi.1.1
  have hal := hxi.1.2.1.1
  have hp1 := hpl.1
  have ht9 := hxi.1.2.2.1
  have u6 := ht9.1
  obtain ⟨r1, r2, r3, r4, r5⟩ := id hrq
  refine lv_aload_n hx hb dX12_stay_0 rfl (lv_at hl 0 rfl) ?_
  refine lv_iconst (v := nI 0) hx hb dX12_stay_1 (by decide) ?_
  refine mp_62 hx hb hts inX12_stay hown hK hP hD hS (hts _ lkX12_stay_f433) dX12_stay_2 (fun H locs hP hD hS => ?_)
  refine lv_aload_n hx hb dX12_stay_5 rfl (lv_at hl 0 rfl) ?_
  refine lv_iconst (v := nI 0) hx hb dX12_stay_6 (by decide) ?_
  refine mp_63 hx hb hts inX12_stay hown hK hP hD hS (hts _ lkX12_stay_f436) dX12_stay_7 (fun H locs hP hD hS => ?_)
  refine lv_aload_n hx hb dX12_stay_10 rfl (lv_at hl 0 rfl) ?_
  refine lv_iconst (v := nI 0) hx hb dX12_stay_11 (by decide) ?_
  refine mp_53 hx hb hts inX12_stay hown hK hP hD hS (hts _ lkX12_stay_f306) dX12_stay_12 (fun H locs hP hD hS => ?_)
  refine lv_iconst (v := nI 0) hx hb dX12_stay_15 (by decide) ?_
  refine lv_istore_n (lv' := [(1, .int (nI 0)), (0, .ref z0)]) hx hb dX12_stay_16 rfl hl (by decide) rfl (fun ls hl => ?_)
  obtain ⟨M0, hM0⟩ : ∃ M0, M0 = va_up (va_up (va_up N 62 0) 63 0) 53 0 := ⟨_, rfl⟩
  rw [← hM0] at hP hD
  have hsti : STI N G t 0 0 0 0 M0 G := ⟨fun k a1 a2 a3 => by rw [hM0, va_up_ne _ _ a1, va_up_ne _ _ a3, va_up_ne _ _ a2], fun _ _ _ _ => rfl, hG, ⟨by rw [hM0]; rfl, by rw [hM0]; rfl, by rw [hM0]; rfl⟩, fun i hi => absurd hi (Nat.not_lt_zero i), fun i hi => absurd hi (Nat.not_lt_zero i)⟩
  have hd7 : D7I N G 0 0 G := fun s _ => ⟨fun z => absurd z (Nat.not_lt_zero s), fun _ => rfl⟩
  refine lp_sta1 hx hb hml hown hts hK hA hxi hrq hpl (fun q M K H locs hsti hd7 hsb hP hD hS ls hl => ?_) _ 0 0 M0 G (Nat.lt_succ_self _) (by decide) hsti hd7 (by rw [sumW, Nat.zero_add]; exact Nat.le_refl _) _ _ hP hD hS ls (lv_sub hl [1, 0] rfl)
  refine lv_iconst (v := nI 0) hx hb dX12_stay_64 (by decide) ?_
  refine lv_istore_n (lv' := [(1, .int (nI 0)), (0, .ref z0)]) hx hb dX12_stay_65 rfl hl (by decide) rfl (fun ls hl => ?_)
  refine lp_sta3 hx hb hml hown hts hK hA hxi hrq hpl (fun q cp M K H locs hsti hd7 hcp hqd hP hD hS ls hl => ?_) _ 0 q 0 M K (Nat.lt_succ_self _) (Nat.zero_le _) hsti hd7 (Nat.zero_le _) (by rw [Nat.sub_zero, Nat.zero_add]; exact hsb) _ _ hP hD hS ls (lv_sub hl [1, 0] rfl)
  obtain ⟨z1, z2, z3, z4, z5, z6⟩ := id hsti
  obtain ⟨z53, z62, z63⟩ := z4
  have m16 := z1 16 (by decide) (by decide) (by decide)
  have m17 := z1 17 (by decide) (by decide) (by decide)
  have k10 := z2 10 (by decide) (by omega) (by omega)
  have k11 := z2 11 (by decide) (by omega) (by omega)
  have k12 := z2 12 (by decide) (by omega) (by omega)
  have k13 := z2 13 (by decide) (by omega) (by omega)
  have k5 := z2 5 (by decide) (by omega) (by omega)
  have hkd := hxi.1.2.2.2.1
  have h58b : ∀ i, i < q → K 58 i ≤ 2 := fun i hi => by rw [(z5 i hi).2.2.1]; exact hkd _ (by have := (z5 i hi).1; omega)
  refine lv_iconst (v := nI 0) hx hb dX12_stay_174 (by decide) ?_
  refine lv_istore_n (lv' := [(1, .int (nI 0)), (0, .ref z0)]) hx hb dX12_stay_175 rfl hl (by decide) rfl (fun ls hl => ?_)
  have hP : va_P (dC, dI) vwCl (MW cB cC cI cJ cZ z0 R pl M (va_up (va_up (va_up K 10 (K 10)) 11 (K 11)) 12 (K 12)) B) H := by rw [va_upid, va_upid, va_upid]; exact hP
  have hD : va_D A (MW cB cC cI cJ cZ z0 R pl M (va_up (va_up (va_up K 10 (K 10)) 11 (K 11)) 12 (K 12)) B) := by rw [va_upid, va_upid, va_upid]; exact hD
  refine lp_sta4 (N := N) (G := G) hx hb hml hown hts hK hA M K q m16 z62 (by omega) z3 h58b (fun X Y Y2 H locs bx by9 bz px py pz hP hD hS ls hl => ?_) _ 0 (K 10) (K 11) (K 12) (Nat.lt_succ_self _) (Nat.zero_le _) (z3 10) (z3 11) (z3 12) ⟨fun _ _ => rfl, fun j hj => absurd hj (Nat.not_lt_zero j)⟩ ⟨fun _ _ => rfl, fun j hj => absurd hj (Nat.not_lt_zero j)⟩ ⟨fun _ _ => rfl, fun j hj => absurd hj (Nat.not_lt_zero j)⟩ _ _ hP hD hS ls (lv_sub hl [1, 0] rfl)
  refine lv_iconst (v := nI 0) hx hb dX12_stay_241 (by decide) ?_
  refine lv_istore_n (lv' := [(1, .int (nI 0)), (0, .ref z0)]) hx hb dX12_stay_242 rfl hl (by decide) rfl (fun ls hl => ?_)
  obtain ⟨K2, hK2⟩ : ∃ K2, K2 = va_up (va_up (va_up K 10 X) 11 Y) 12 Y2 := ⟨_, rfl⟩
  rw [← hK2] at hP hD
  have hG2 : ∀ k i, K2 k i < 1048576 := by rw [hK2]; exact hGup (hGup (hGup z3 bx) by9) bz
  have j10 : K2 10 = X := by rw [hK2]; rfl
  have j11 : K2 11 = Y := by rw [hK2]; rfl
  have j12 : K2 12 = Y2 := by rw [hK2]; rfl
  have j13 : K2 13 = K 13 := by rw [hK2]; rfl
  have j61 : K2 61 = K 61 := by rw [hK2]; rfl
  have j7 : K2 7 = K 7 := by rw [hK2]; rfl
  have j5 : K2 5 = K 5 := by rw [hK2]; rfl
  have hP : va_P (dC, dI) vwCl (MW cB cC cI cJ cZ z0 R pl M (va_up K2 13 (K2 13)) B) H := by rw [va_upid]; exact hP
  have hD : va_D A (MW cB cC cI cJ cZ z0 R pl M (va_up K2 13 (K2 13)) B) := by rw [va_upid]; exact hD
  refine lp_sta5 (N := N) (G := G) hx hb hml hown hts hK hA M K2 cp m17 z63 (by omega) hG2 (fun P H locs bp pp hP hD hS ls hl => ?_) _ 0 (K2 13) (Nat.lt_succ_self _) (Nat.zero_le _) (hG2 13) ⟨fun _ _ => rfl, fun j hj => absurd hj (Nat.not_lt_zero j)⟩ _ _ hP hD hS ls (lv_sub hl [1, 0] rfl)
  refine lv_aload_n hx hb dX12_stay_274 rfl (lv_at hl 0 rfl) ?_
  refine lv_aload_n hx hb dX12_stay_275 rfl (lv_at hl 0 rfl) ?_
  refine mg_16 hx hb hts inX12_stay hown hK hP (hts _ lkX12_stay_f402) dX12_stay_276 ?_
  refine lv_aload_n hx hb dX12_stay_279 rfl (lv_at hl 0 rfl) ?_
  refine mg_62 hx hb hts inX12_stay hown hK hP (hts _ lkX12_stay_f433) dX12_stay_280 ?_
  refine lv_iadd hx hb dX12_stay_283 ?_
  refine tp_i (nI_add (M 16) (M 62)) ?_
  refine tp_i (y := nI (N 16 + q)) (by rw [m16, z62]) ?_
  refine mp_16 hx hb hts inX12_stay hown hK hP hD hS (hts _ lkX12_stay_f402) dX12_stay_284 (fun H locs hP hD hS => ?_)
  refine lv_aload_n hx hb dX12_stay_287 rfl (lv_at hl 0 rfl) ?_
  refine lv_aload_n hx hb dX12_stay_288 rfl (lv_at hl 0 rfl) ?_
  refine mg_17 hx hb hts inX12_stay hown hK hP (hts _ lkX12_stay_f405) dX12_stay_289 ?_
  refine tp_i (y := nI (M 17)) rfl ?_
  refine lv_aload_n hx hb dX12_stay_292 rfl (lv_at hl 0 rfl) ?_
  refine mg_63 hx hb hts inX12_stay hown hK hP (hts _ lkX12_stay_f436) dX12_stay_293 ?_
  refine tp_i (y := nI (M 63)) rfl ?_
  refine lv_iadd hx hb dX12_stay_296 ?_
  refine tp_i (nI_add (M 17) (M 63)) ?_
  refine tp_i (y := nI (N 17 + cp)) (by rw [m17, z63]) ?_
  refine mp_17 hx hb hts inX12_stay hown hK hP hD hS (hts _ lkX12_stay_f405) dX12_stay_297 (fun H locs hP hD hS => ?_)
  have hstf : STF N G t q cp (K 50) (va_up K2 13 P) := by
    have f10 : (va_up K2 13 P) 10 = X := j10
    have f11 : (va_up K2 13 P) 11 = Y := j11
    have f12 : (va_up K2 13 P) 12 = Y2 := j12
    have f13 : (va_up K2 13 P) 13 = P := rfl
    unfold STF
    rw [f10, f11, f12, f13]
    refine ⟨fun f hf => ⟨by rw [px.1 f hf, k10], by rw [py.1 f hf, k11], by rw [pz.1 f hf, k12]⟩, fun j hj => by rw [pp.1 j hj, j13, k13], fun i hi => ?_⟩
    obtain ⟨b1, b2, b3, b4, b5⟩ := z5 i hi
    refine ⟨b1, by rw [px.2 i hi]; exact b3, by rw [pz.2 i hi]; exact b4, fun z => by rw [py.2 i hi]; exact b5 z, fun z => ?_⟩
    obtain ⟨fi, c1, c2, c3⟩ := (z6 i hi).2 z
    refine ⟨fi, by rw [py.2 i hi]; exact c1, c2, fun k hk => ?_⟩
    obtain ⟨j, d1, d2, d3⟩ := c3 k hk
    exact ⟨j, d1, by rw [Nat.add_assoc, pp.2 _ (by omega), j61]; exact d2, d3⟩
  have n16 : (va_up (va_up M 16 (N 16 + q)) 17 (N 17 + cp)) 16 = N 16 + q := rfl
  have n17 : (va_up (va_up M 16 (N 16 + q)) 17 (N 17 + cp)) 17 = N 17 + cp := rfl
  have n6 : (va_up (va_up M 16 (N 16 + q)) 17 (N 17 + cp)) 6 = N 6 := z1 6 (by decide) (by decide) (by decide)
  obtain ⟨a1, a2, a3, a4⟩ := hstf.pw hxi hpl n16 n17 n6 (by omega) (by omega) (hGup hG2 bp)
  have hru : ∀ s, s < 5000 → 0 < (va_up K2 13 P) 7 s → (va_up K2 13 P) 7 s ≤ (va_up (va_up M 16 (N 16 + q)) 17 (N 17 + cp)) 16 ∧ RULESOK (va_up K2 13 P) (SZ1 N sz (K 50)) ((va_up K2 13 P) 7 s - 1) := fun s hs hz => by
    have f7 : (va_up K2 13 P) 7 = K 7 := j7
    rw [f7] at hz ⊢
    rw [n16]
    rcases (hd7 s hs).1 hs with ⟨b1, b2⟩ | ⟨b0, i, b1, b2, b3⟩
    · rw [b1] at hz ⊢
      have hm := hxi.2.2.2.2.2.2.2.1 s hs hz
      exact ⟨by omega, hstf.rules (N1 := va_up (va_up M 16 (N 16 + q)) 17 (N 17 + cp)) hxi hpl a1.2.2.1 a2 n16 hm.1 hm.2 (Or.inl ⟨by omega, rfl⟩)⟩
    · rw [b2]
      have hm := hxi.2.2.2.2.2.2.2.1 s hs (by omega)
      exact ⟨by omega, hstf.rules (N1 := va_up (va_up M 16 (N 16 + q)) 17 (N 17 + cp)) hxi hpl a1.2.2.1 a2 n16 hm.1 hm.2 (Or.inr ⟨i, b1, rfl, b3⟩)⟩
  exact W.vret hx hb hr (fun t ht hW => ⟨⟨(va_up (va_up M 16 (N 16 + q)) 17 (N 17 + cp), va_up K2 13 P, B, pl), rfl, ⟨rfl, rfl, SZ1 N sz (K 50), SZ1 N az (K 50), a1, a2, a3, a4, ⟨show N 16 + q ≤ N 9 by omega, show N 17 + cp ≤ N 9 by omega⟩, hru, fun k c1 c2 c3 c4 c5 => by rw [va_up_ne _ _ c2, va_up_ne _ _ c1]; exact z1 k c3 c4 c5, j5.trans k5, show M 53 ≤ 90000 by omega⟩, by rw [ht]; exact hP, va_K.moved hW.alike hK, hD⟩, hS.F ht⟩) hS.2.2 dX12_stay_300
