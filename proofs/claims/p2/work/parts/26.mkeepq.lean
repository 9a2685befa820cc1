def oX12_keepParts : List Cond := [Cond.fieldLink RX12 38 "MacroScopesModel" "counts" "[I", Cond.methodLink RX12 192 yX12_part, Cond.instanceMethod yX12_part, Cond.selects RX12 yX12_part yX12_part, Cond.initialized RX12, Cond.methodLink RX12 318 yX12_lookAt, Cond.instanceMethod yX12_lookAt, Cond.selects RX12 yX12_lookAt yX12_lookAt, Cond.methodLink RX12 321 yX12_isEllipsis, Cond.instanceMethod yX12_isEllipsis, Cond.selects RX12 yX12_isEllipsis yX12_isEllipsis, Cond.methodLink RX12 342 yX12_setCounts, Cond.instanceMethod yX12_setCounts, Cond.selects RX12 yX12_setCounts yX12_setCounts]
def vX12_keepParts : List Cond := .code yX12_keepParts cX12_keepParts 9 none :: (oX12_keepParts ++ (vX12_part ++ (vX12_lookAt ++ (vX12_isEllipsis ++ (vX12_setCounts ++ (wsX120))))))
theorem lkX12_keepParts_f38 : Cond.fieldLink RX12 38 "MacroScopesModel" "counts" "[I" ∈ vX12_keepParts := List.mem_cons_of_mem _ (List.mem_append_left _ (List.mem_of_getElem? (i := 0) rfl))
theorem inX12_keepParts : ∀ w ∈ wsX120, w ∈ vX12_keepParts := fun w h => List.mem_cons_of_mem _ (List.mem_append_right _ (List.mem_append_right _ (List.mem_append_right _ (List.mem_append_right _ (List.mem_append_right _ (h))))))
theorem kX12_keepParts_X12_part_192 : GoodIn vX12_keepParts (wsV RX12 192 RX12 yX12_part vX12_part) := goodIn_sub (fun w h => (List.mem_append.mp h).elim (fun h => List.mem_cons_of_mem _ (List.mem_append_left _ ((by decide +kernel : ∀ w ∈ ([.methodLink RX12 192 yX12_part, .instanceMethod yX12_part, .selects RX12 yX12_part yX12_part, .initialized RX12] : List Cond), w ∈ oX12_keepParts) w h))) (fun h => List.mem_cons_of_mem _ (List.mem_append_right _ (List.mem_append_left _ (h))))) (by decide +kernel)
theorem kX12_keepParts_X12_lookAt_318 : GoodIn vX12_keepParts (wsV RX12 318 RX12 yX12_lookAt vX12_lookAt) := goodIn_sub (fun w h => (List.mem_append.mp h).elim (fun h => List.mem_cons_of_mem _ (List.mem_append_left _ ((by decide +kernel : ∀ w ∈ ([.methodLink RX12 318 yX12_lookAt, .instanceMethod yX12_lookAt, .selects RX12 yX12_lookAt yX12_lookAt, .initialized RX12] : List Cond), w ∈ oX12_keepParts) w h))) (fun h => List.mem_cons_of_mem _ (List.mem_append_right _ (List.mem_append_right _ (List.mem_append_left _ (h)))))) (by decide +kernel)
theorem kX12_keepParts_X12_isEllipsis_321 : GoodIn vX12_keepParts (wsV RX12 321 RX12 yX12_isEllipsis vX12_isEllipsis) := goodIn_sub (fun w h => (List.mem_append.mp h).elim (fun h => List.mem_cons_of_mem _ (List.mem_append_left _ ((by decide +kernel : ∀ w ∈ ([.methodLink RX12 321 yX12_isEllipsis, .instanceMethod yX12_isEllipsis, .selects RX12 yX12_isEllipsis yX12_isEllipsis, .initialized RX12] : List Cond), w ∈ oX12_keepParts) w h))) (fun h => List.mem_cons_of_mem _ (List.mem_append_right _ (List.mem_append_right _ (List.mem_append_right _ (List.mem_append_left _ (h))))))) (by decide +kernel)
theorem kX12_keepParts_X12_setCounts_342 : GoodIn vX12_keepParts (wsV RX12 342 RX12 yX12_setCounts vX12_setCounts) := goodIn_sub (fun w h => (List.mem_append.mp h).elim (fun h => List.mem_cons_of_mem _ (List.mem_append_left _ ((by decide +kernel : ∀ w ∈ ([.methodLink RX12 342 yX12_setCounts, .instanceMethod yX12_setCounts, .selects RX12 yX12_setCounts yX12_setCounts, .initialized RX12] : List Cond), w ∈ oX12_keepParts) w h))) (fun h => List.mem_cons_of_mem _ (List.mem_append_right _ (List.mem_append_right _ (List.mem_append_right _ (List.mem_append_right _ (List.mem_append_left _ (h)))))))) (by decide +kernel)
set_option maxHeartbeats 4000000 in
set_option maxRecDepth 100000 in
theorem lp_kp {p : Program} {l : Launch} {e : Env} {s : State} {m : MethodId} {args : Array Value} {below : List Frame} {meth : Method} {c : Code} {Q : State → Prop} {A : Nat → Prop} {dC : Nat → ClassId} {dI : Nat → Nat → Nat} {cB cC cI cJ cZ : ClassId} {z0 : Nat} {R : Nat → Nat} (hx : p.tables.exec = Jvm.exec) (hb : c.code = cX12_keepParts) (hml : c.maxLocals = 9) (hown : s.vm.findClass RX12 = some m.cls) (hts : ∀ w ∈ vX12_keepParts, w.before args s = true) (hK : va_K (dC, dI) vwCl (TY cB cC cI cJ cZ) s) (hA : ∀ q : Nat, s.heap.size ≤ q → A q) {pl : Int32} {N : Nat → Nat} {G : Nat → Nat → Nat} {B : Nat → Nat → Int32} {sz : Nat → Nat} (hG : ∀ k i, G k i < 1048576) (ht9 : TREE N G sz) (p9 f fr fx q0 tn : Nat) (L0 H0 O0 : Nat → Nat) (hp9 : p9 < N 14) (hf9 : f < N 14) (hfr : fr ≤ 1) (htn : tn ≤ 3001) (hfx : fx < 1048576) (hq9 : q0 + G 12 f < 90000) (hix : ∀ k, fr ≤ k → k < G 12 f → CIX fx k < G 12 p9) (ke : ∀ (L Hw O : Nat → Nat) (H : Heap) (locs : List Loc), (∀ i, L i < 1048576) → (∀ i, Hw i < 1048576) → (∀ i, O i < 1048576) → QAPP q0 (G 12 f - fr) L0 H0 O0 L Hw O (fun j => CH G p9 (CIX fx (fr + j))) (fun j => if fr + j < fx then tn else fr + j - fx) (fun j => CH G f (fr + j)) → va_P (dC, dI) vwCl (MW cB cC cI cJ cZ z0 R pl (va_up N 53 (q0 + (G 12 f - fr))) (LK G L Hw O) B) H → va_D A (MW cB cC cI cJ cZ z0 R pl (va_up N 53 (q0 + (G 12 f - fr))) (LK G L Hw O) B) → va_S A s.heap H locs → ∀ (ls : Array Slot), lv_has ls 9 [] → W p l e (headSpec vX12_keepParts { frames := 3, cells := 0, slots := 0, locals := 66 }).room s m args below meth c H locs 0 0 Q (F0 m 141 ls [])) : ∀ (k : Nat) (j : Nat) (L Hw O : Nat → Nat), G 12 f - fr - j < k → (j = 0 ∨ fr + j ≤ G 12 f) → (∀ i, L i < 1048576) → (∀ i, Hw i < 1048576) → (∀ i, O i < 1048576) → QAPP q0 j L0 H0 O0 L Hw O (fun j => CH G p9 (CIX fx (fr + j))) (fun j => if fr + j < fx then tn else fr + j - fx) (fun j => CH G f (fr + j)) → ∀ (H : Heap) (locs : List Loc), va_P (dC, dI) vwCl (MW cB cC cI cJ cZ z0 R pl (va_up N 53 (q0 + j)) (LK G L Hw O) B) H → va_D A (MW cB cC cI cJ cZ z0 R pl (va_up N 53 (q0 + j)) (LK G L Hw O) B) → va_S A s.heap H locs → ∀ (ls : Array Slot), lv_has ls 9 [(0, .ref z0), (1, .int (nI p9)), (2, .int (nI f)), (4, .int (nI tn)), (7, .int (nI fx)), (8, .int (nI (fr + j)))] → W p l e (headSpec vX12_keepParts { frames := 3, cells := 0, slots := 0, locals := 66 }).room s m args below meth c H locs 0 0 Q (F0 m 77 ls []) := by
  have hcs : 0 + 0 ≤ (0 : Nat) ∧ 0 + 0 ≤ (0 : Nat) := ⟨Nat.le_refl 0, Nat.le_refl 0⟩
  intro k
  induction k with
  | zero =>
    intro j L Hw O hk hjb hL hH hO hqa
    omega
  | succ k ih =>
    intro j L Hw O hk hjb hL hH hO hqa H locs hP hD hS ls hl
    have u6 := ht9.1
    have hG2 := hGLK hG hL hH hO
    have g1 := hG 12 f
    have g2 := hG 12 p9
    refine lv_iload hx hb dX12_keepParts_77 (lv_at hl 5 rfl) ?_
    refine lv_aload_n hx hb dX12_keepParts_79 rfl (lv_at hl 0 rfl) ?_
    refine mg_12 hx hb hts inX12_keepParts hown hK hP (hts _ lkX12_keepParts_f38) dX12_keepParts_80 ?_
    refine lv_iload_n hx hb dX12_keepParts_83 rfl (lv_at hl 2 rfl) ?_
    refine ml_12 hx hb hK hP (by omega) dX12_keepParts_84 ?_
    refine tp_i (y := nI (G 12 f)) rfl ?_
    refine bn_ge (tgt := 141) hx hb (by first | omega | exact Nat.lt_of_lt_of_le (hG _ _) (by decide)) (by first | omega | exact Nat.lt_of_lt_of_le (hG _ _) (by decide)) dX12_keepParts_85 (by decide) (fun c1 => ?_) (fun c1 => ?_)
    · have e9 : j = G 12 f - fr := by omega
      subst e9
      exact ke L Hw O H locs hL hH hO hqa hP hD hS ls (lv_sub hl [] rfl)
    · have hci := hix (fr + j) (by omega) c1
      refine lv_aload_n hx hb dX12_keepParts_88 rfl (lv_at hl 0 rfl) ?_
      refine lv_aload_n hx hb dX12_keepParts_89 rfl (lv_at hl 0 rfl) ?_
      refine lv_iload_n hx hb dX12_keepParts_90 rfl (lv_at hl 1 rfl) ?_
      refine lv_iload hx hb dX12_keepParts_91 (lv_at hl 5 rfl) ?_
      refine lv_iload hx hb dX12_keepParts_93 (lv_at hl 4 rfl) ?_
      refine bn_ge (tgt := 103) hx hb (by first | omega | exact Nat.lt_of_lt_of_le (hG _ _) (by decide)) (by first | omega | exact Nat.lt_of_lt_of_le (hG _ _) (by decide)) dX12_keepParts_95 (by decide) (fun c2 => ?_) (fun c2 => ?_)
      · have ei : CIX fx (fr + j) = fx := if_neg (by omega)
        rw [ei] at hci
        refine lv_iload hx hb dX12_keepParts_103 (lv_at hl 4 rfl) ?_
        obtain ⟨t_1, t_1b, t_1c, t_1d⟩ := ht9.pt (f := p9) (k := fx) (by first | assumption | omega) (by first | assumption | omega)
        refine mcl_i (As := [.int (nI p9), .int (nI fx)]) (rest := [.ref z0]) ⟨hx, hb, hml, hown, hts⟩ (m_part l dC dI cB cC cI cJ cZ z0 R pl (va_up N 53 (q0 + j)) (LK G L Hw O) B p9 fx hG2 t_1d t_1 H.size) (cwV 2 hts kX12_keepParts_X12_part_192 rfl rfl rfl (by decide +kernel) ⟨Nat.le_of_ble_eq_true rfl, Nat.le_of_ble_eq_true rfl⟩) hK hP hD hS hA rfl rfl hl.1 (lv_room (Nat.le_of_ble_eq_true rfl)) dX12_keepParts_105 hcs (fun r_6 N_2 G_3 B_4 pl_5 hw H locs hP hD hS => ?_)
        dsimp only at hw
        obtain ⟨e1, e2, e3, e4, hw⟩ := hw
        rw [e1, e2, e3, e4] at hP hD
        have hw : r_6 = nI (CH G p9 fx) := hw
        subst hw
        refine lv_iload hx hb dX12_keepParts_108 (lv_at hl 5 rfl) ?_
        refine lv_iload hx hb dX12_keepParts_110 (lv_at hl 4 rfl) ?_
        refine bn_ge (tgt := 120) hx hb (by first | omega | exact Nat.lt_of_lt_of_le (hG _ _) (by decide)) (by first | omega | exact Nat.lt_of_lt_of_le (hG _ _) (by decide)) dX12_keepParts_112 (by decide) (fun c3 => ?_) (fun q9 => absurd q9 (by omega))
        refine lv_iload hx hb dX12_keepParts_120 (lv_at hl 5 rfl) ?_
        refine lv_iload hx hb dX12_keepParts_122 (lv_at hl 4 rfl) ?_
        refine lv_isub hx hb dX12_keepParts_124 ?_
        refine tp_i (pk_sub (a := fr + j) (b := fx) (by omega)) ?_
        refine lv_aload_n hx hb dX12_keepParts_125 rfl (lv_at hl 0 rfl) ?_
        refine lv_iload_n hx hb dX12_keepParts_126 rfl (lv_at hl 2 rfl) ?_
        refine lv_iload hx hb dX12_keepParts_127 (lv_at hl 5 rfl) ?_
        obtain ⟨t_7, t_7b, t_7c, t_7d⟩ := ht9.pt (f := f) (k := fr + j) (by first | assumption | omega) (by first | assumption | omega)
        refine mcl_i (As := [.int (nI f), .int (nI (fr + j))]) (rest := [.int (nI ((fr + j) - fx)), .int (nI (CH G p9 fx)), .ref z0]) ⟨hx, hb, hml, hown, hts⟩ (m_part l dC dI cB cC cI cJ cZ z0 R pl (va_up N 53 (q0 + j)) (LK G L Hw O) B f (fr + j) hG2 t_7d t_7 H.size) (cwV 2 hts kX12_keepParts_X12_part_192 rfl rfl rfl (by decide +kernel) ⟨Nat.le_of_ble_eq_true rfl, Nat.le_of_ble_eq_true rfl⟩) hK hP hD hS hA rfl rfl hl.1 (lv_room (Nat.le_of_ble_eq_true rfl)) dX12_keepParts_129 hcs (fun r_12 N_8 G_9 B_10 pl_11 hw H locs hP hD hS => ?_)
        dsimp only at hw
        obtain ⟨e1, e2, e3, e4, hw⟩ := hw
        rw [e1, e2, e3, e4] at hP hD
        have hw : r_12 = nI (CH G f (fr + j)) := hw
        subst hw
        have t9 : q0 + j < 90000 := by omega
        refine mcl_v (As := [.int (nI (CH G p9 fx)), .int (nI ((fr + j) - fx)), .int (nI (CH G f (fr + j)))]) (rest := []) ⟨hx, hb, hml, hown, hts⟩ (m_lookAt l dC dI cB cC cI cJ cZ z0 R pl (va_up N 53 (q0 + j)) (LK G L Hw O) B (CH G p9 fx) ((fr + j) - fx) (CH G f (fr + j)) (show q0 + j < 90000 from (by omega)) H.size) (cwV 3 hts kX12_keepParts_X12_lookAt_318 rfl rfl rfl (by decide +kernel) ⟨Nat.le_of_ble_eq_true rfl, Nat.le_of_ble_eq_true rfl⟩) hK hP hD hS hA rfl rfl hl.1 (lv_room (Nat.le_of_ble_eq_true rfl)) dX12_keepParts_132 hcs (fun  N_13 G_14 B_15 pl_16 hw H locs hP hD hS => ?_)
        dsimp only at hw
        obtain ⟨e1, e2, e3, e4⟩ := hw
        rw [e1, e2, e3, e4, bx_uu, LK_look] at hP hD
        have hP : va_P (dC, dI) vwCl (MW cB cC cI cJ cZ z0 R pl (va_up N 53 ((q0 + j) + 1)) (LK G (va_up L (q0 + j) (CH G p9 fx)) (va_up Hw (q0 + j) ((fr + j) - fx)) (va_up O (q0 + j) (CH G f (fr + j)))) B) H := hP
        have hD : va_D A (MW cB cC cI cJ cZ z0 R pl (va_up N 53 ((q0 + j) + 1)) (LK G (va_up L (q0 + j) (CH G p9 fx)) (va_up Hw (q0 + j) ((fr + j) - fx)) (va_up O (q0 + j) (CH G f (fr + j)))) B) := hD
        refine lv_iinc (v := nI ((fr + j) + 1)) (lv' := [(8, .int (nI ((fr + j) + 1))), (0, .ref z0), (1, .int (nI p9)), (2, .int (nI f)), (4, .int (nI tn)), (7, .int (nI fx))]) hx hb dX12_keepParts_135 hl (k := 5) rfl (nI_add (fr + j) 1) (by decide) rfl (fun ls hl => ?_)
        refine lv_goto (tgt := 77) hx hb dX12_keepParts_138 (by decide) ?_
        exact ih (j + 1) _ _ _ (by omega) (by omega) (hIup hL (by omega)) (hIup hH (by omega)) (hIup hO (by omega)) (hqa.step (by rw [ei]) ((if_neg (by omega)).symm) rfl) _ _ hP hD hS ls (lv_sub hl [1, 2, 3, 4, 5, 0] rfl)
      · have ei : CIX fx (fr + j) = fr + j := if_pos c2
        rw [ei] at hci
        refine lv_iload hx hb dX12_keepParts_98 (lv_at hl 5 rfl) ?_
        refine lv_goto (tgt := 105) hx hb dX12_keepParts_100 (by decide) ?_
        obtain ⟨t_18, t_18b, t_18c, t_18d⟩ := ht9.pt (f := p9) (k := fr + j) (by first | assumption | omega) (by first | assumption | omega)
        refine mcl_i (As := [.int (nI p9), .int (nI (fr + j))]) (rest := [.ref z0]) ⟨hx, hb, hml, hown, hts⟩ (m_part l dC dI cB cC cI cJ cZ z0 R pl (va_up N 53 (q0 + j)) (LK G L Hw O) B p9 (fr + j) hG2 t_18d t_18 H.size) (cwV 2 hts kX12_keepParts_X12_part_192 rfl rfl rfl (by decide +kernel) ⟨Nat.le_of_ble_eq_true rfl, Nat.le_of_ble_eq_true rfl⟩) hK hP hD hS hA rfl rfl hl.1 (lv_room (Nat.le_of_ble_eq_true rfl)) dX12_keepParts_105 hcs (fun r_23 N_19 G_20 B_21 pl_22 hw H locs hP hD hS => ?_)
        dsimp only at hw
        obtain ⟨e1, e2, e3, e4, hw⟩ := hw
        rw [e1, e2, e3, e4] at hP hD
        have hw : r_23 = nI (CH G p9 (fr + j)) := hw
        subst hw
        refine lv_iload hx hb dX12_keepParts_108 (lv_at hl 5 rfl) ?_
        refine lv_iload hx hb dX12_keepParts_110 (lv_at hl 4 rfl) ?_
        refine bn_ge (tgt := 120) hx hb (by first | omega | exact Nat.lt_of_lt_of_le (hG _ _) (by decide)) (by first | omega | exact Nat.lt_of_lt_of_le (hG _ _) (by decide)) dX12_keepParts_112 (by decide) (fun q9 => absurd q9 (by omega)) (fun c3 => ?_)
        refine lv_iload hx hb dX12_keepParts_115 (lv_at hl 3 rfl) ?_
        refine lv_goto (tgt := 125) hx hb dX12_keepParts_117 (by decide) ?_
        refine lv_aload_n hx hb dX12_keepParts_125 rfl (lv_at hl 0 rfl) ?_
        refine lv_iload_n hx hb dX12_keepParts_126 rfl (lv_at hl 2 rfl) ?_
        refine lv_iload hx hb dX12_keepParts_127 (lv_at hl 5 rfl) ?_
        obtain ⟨t_24, t_24b, t_24c, t_24d⟩ := ht9.pt (f := f) (k := fr + j) (by first | assumption | omega) (by first | assumption | omega)
        refine mcl_i (As := [.int (nI f), .int (nI (fr + j))]) (rest := [.int (nI tn), .int (nI (CH G p9 (fr + j))), .ref z0]) ⟨hx, hb, hml, hown, hts⟩ (m_part l dC dI cB cC cI cJ cZ z0 R pl (va_up N 53 (q0 + j)) (LK G L Hw O) B f (fr + j) hG2 t_24d t_24 H.size) (cwV 2 hts kX12_keepParts_X12_part_192 rfl rfl rfl (by decide +kernel) ⟨Nat.le_of_ble_eq_true rfl, Nat.le_of_ble_eq_true rfl⟩) hK hP hD hS hA rfl rfl hl.1 (lv_room (Nat.le_of_ble_eq_true rfl)) dX12_keepParts_129 hcs (fun r_29 N_25 G_26 B_27 pl_28 hw H locs hP hD hS => ?_)
        dsimp only at hw
        obtain ⟨e1, e2, e3, e4, hw⟩ := hw
        rw [e1, e2, e3, e4] at hP hD
        have hw : r_29 = nI (CH G f (fr + j)) := hw
        subst hw
        have t9 : q0 + j < 90000 := by omega
        refine mcl_v (As := [.int (nI (CH G p9 (fr + j))), .int (nI tn), .int (nI (CH G f (fr + j)))]) (rest := []) ⟨hx, hb, hml, hown, hts⟩ (m_lookAt l dC dI cB cC cI cJ cZ z0 R pl (va_up N 53 (q0 + j)) (LK G L Hw O) B (CH G p9 (fr + j)) tn (CH G f (fr + j)) (show q0 + j < 90000 from (by omega)) H.size) (cwV 3 hts kX12_keepParts_X12_lookAt_318 rfl rfl rfl (by decide +kernel) ⟨Nat.le_of_ble_eq_true rfl, Nat.le_of_ble_eq_true rfl⟩) hK hP hD hS hA rfl rfl hl.1 (lv_room (Nat.le_of_ble_eq_true rfl)) dX12_keepParts_132 hcs (fun  N_30 G_31 B_32 pl_33 hw H locs hP hD hS => ?_)
        dsimp only at hw
        obtain ⟨e1, e2, e3, e4⟩ := hw
        rw [e1, e2, e3, e4, bx_uu, LK_look] at hP hD
        have hP : va_P (dC, dI) vwCl (MW cB cC cI cJ cZ z0 R pl (va_up N 53 ((q0 + j) + 1)) (LK G (va_up L (q0 + j) (CH G p9 (fr + j))) (va_up Hw (q0 + j) tn) (va_up O (q0 + j) (CH G f (fr + j)))) B) H := hP
        have hD : va_D A (MW cB cC cI cJ cZ z0 R pl (va_up N 53 ((q0 + j) + 1)) (LK G (va_up L (q0 + j) (CH G p9 (fr + j))) (va_up Hw (q0 + j) tn) (va_up O (q0 + j) (CH G f (fr + j)))) B) := hD
        refine lv_iinc (v := nI ((fr + j) + 1)) (lv' := [(8, .int (nI ((fr + j) + 1))), (0, .ref z0), (1, .int (nI p9)), (2, .int (nI f)), (4, .int (nI tn)), (7, .int (nI fx))]) hx hb dX12_keepParts_135 hl (k := 5) rfl (nI_add (fr + j) 1) (by decide) rfl (fun ls hl => ?_)
        refine lv_goto (tgt := 77) hx hb dX12_keepParts_138 (by decide) ?_
        exact ih (j + 1) _ _ _ (by omega) (by omega) (hIup hL (by omega)) (hIup hH (by omega)) (hIup hO (by omega)) (hqa.step (by rw [ei]) ((if_pos c2).symm) rfl) _ _ hP hD hS ls (lv_sub hl [1, 2, 3, 4, 5, 0] rfl)

theorem LK_self2 {G : Nat → Nat → Nat} {M I : Nat → Nat} : LK (va_up (va_up G 56 M) 54 I) (G 50) (G 51) (G 52) = va_up (va_up G 56 M) 54 I := LK_self (va_up (va_up G 56 M) 54 I)
set_option maxHeartbeats 4000000 in
set_option maxRecDepth 100000 in
/-- keepParts -/
theorem m_keepParts (l : Launch) (dC : Nat → ClassId) (dI : Nat → Nat → Nat) (cB cC cI cJ cZ : ClassId) (z0 : Nat) (R : Nat → Nat) (pl : Int32) (N : Nat → Nat) (G : Nat → Nat → Nat) (B : Nat → Nat → Int32) (p9 f fr tn : Nat) (sz : Nat → Nat) (hG : ∀ k i, G k i < 1048576) (ht9 : TREE N G sz) (hal : AL N G) (hp9 : p9 < N 14) (hf9 : f < N 14) (hfr : fr ≤ 1) (htn : tn ≤ 3001) (hpw : ∃ w, PAT G sz p9 fr w) (hfit : FIT G p9 f fr) (hN : N 49 ≤ 1600) (hq9 : N 53 + G 12 f < 90000) (s0 : Nat) : Met l yX12_keepParts vX12_keepParts { frames := 3, cells := 0, slots := 0, locals := 66 } (va_Pc [.ref z0, .int (nI p9), .int (nI f), .int (nI fr), .int (nI tn)] (mPre dC dI cB cC cI cJ cZ z0 R pl N G B s0)) (va_Qv (fun u : ((Nat → Nat) × (Nat → Nat → Nat) × (Nat → Nat → Int32) × Int32) => match u with | (N1, G1, B1, pl1) => B1 = B ∧ pl1 = pl ∧ ∃ M I L Hw O, (∀ i, M i < 1048576) ∧ (∀ i, I i < 1048576) ∧ (∀ i, L i < 1048576) ∧ (∀ i, Hw i < 1048576) ∧ (∀ i, O i < 1048576) ∧ N1 = va_up N 53 (N 53 + (G 12 f - fr)) ∧ G1 = LK (va_up (va_up G 56 M) 54 I) L Hw O ∧ QAPP (N 53) (G 12 f - fr) (G 50) (G 51) (G 52) L Hw O (fun j => CH G p9 (CIX (FX G p9 fr) (fr + j))) (fun j => if fr + j < FX G p9 fr then tn else fr + j - FX G p9 fr) (fun j => CH G f (fr + j)) ∧ (¬ OPN G p9 fr → M = G 56) ∧ (OPN G p9 fr → (∀ x v, OC G sz (CH G p9 (FX G p9 fr)) x → VAR N G x = v + 1 → M v = G 12 f - FX G p9 fr) ∧ ∀ v, M v = G 56 v ∨ (M v = G 12 f - FX G p9 fr ∧ ∃ x, OC G sz (CH G p9 (FX G p9 fr)) x ∧ VAR N G x = v + 1))) (mPost dC dI cB cC cI cJ cZ z0 R (va_A (MW cB cC cI cJ cZ z0 R pl N G B) s0)) (va_A (MW cB cC cI cJ cZ z0 R pl N G B) s0)) 0 0 (va_A (MW cB cC cI cJ cZ z0 R pl N G B) s0) := by
  refine Met.ofW (cc := cX12_keepParts) (maxL := 9) (ret := none) (by decide) rfl ?_
  intro p e s m args below meth c s₁ B9 hml hv
  obtain ⟨rfl, hsz, hP, hK, hD0⟩ := hv
  have hx := B9.exec
  have hb := B9.bytes
  have hr := B9.returns
  have hts := atoms_spec (ws := vX12_keepParts) B9.pre
  have hown : s.vm.findClass RX12 = some m.cls := findClass_of_methodNamed B9.named
  have hlocks := B9.notSynchronized
  subst hsz
  have hD := hD0.self (sz := s.heap.size)
  generalize hAe : va_A (MW cB cC cI cJ cZ z0 R pl N G B) s.heap.size = A at hD ⊢
  have hA : ∀ q : Nat, s.heap.size ≤ q → A q := fun q h => by rw [← hAe]; exact Or.inr h
  have hS : va_S A s.heap s.heap [] := va_S.rf
  have hcs : 0 + 0 ≤ (0 : Nat) ∧ 0 + 0 ≤ (0 : Nat) := ⟨Nat.le_refl 0, Nat.le_refl 0⟩
  have hl := lv_entry ([.ref z0, .int (nI p9), .int (nI f), .int (nI fr), .int (nI tn)]) (n := 9) (Nat.le_of_ble_eq_true rfl)
  rw [lg_entry_eq]
  generalize (lg_sl ([.ref z0, .int (nI p9), .int (nI f), .int (nI fr), .int (nI tn)]) ++ List.replicate (9 - (lg_sl ([.ref z0, .int (nI p9), .int (nI f), .int (nI fr), .int (nI tn)])).length) Slot.unset).toArray = ls at hl ⊢
  have hl : lv_has ls 9 [(0, .ref z0), (1, .int (nI p9)), (2, .int (nI f)), (3, .int (nI fr)), (4, .int (nI tn))] := hl
  have u6 := ht9.1
  have hG2 := hG
  have hf8 : f < 90000 := by omega
  have hp8 : p9 < 90000 := by omega
  have g1 := hG 12 f
  have g2 := hG 12 p9
  obtain ⟨w9, hw9⟩ := hpw
  obtain ⟨r1, r2⟩ := PAT.parts ht9 hp9 hw9
  refine lv_aload_n hx hb dX12_keepParts_0 rfl (lv_at hl 0 rfl) ?_
  refine mg_12 hx hb hts inX12_keepParts hown hK hP (hts _ lkX12_keepParts_f38) dX12_keepParts_1 ?_
  refine lv_iload_n hx hb dX12_keepParts_4 rfl (lv_at hl 1 rfl) ?_
  refine ml_12 hx hb hK hP (by omega) dX12_keepParts_5 ?_
  refine lv_istore (lv' := [(5, .int (nI (G 12 p9))), (0, .ref z0), (1, .int (nI p9)), (2, .int (nI f)), (3, .int (nI fr)), (4, .int (nI tn))]) hx hb dX12_keepParts_6 hl (by decide) rfl (fun ls hl => ?_)
  refine lv_iload hx hb dX12_keepParts_8 (lv_at hl 0 rfl) ?_
  refine lv_iload_n hx hb dX12_keepParts_10 rfl (lv_at hl 4 rfl) ?_
  refine bn_le (tgt := 30) hx hb (by first | omega | exact Nat.lt_of_lt_of_le (hG _ _) (by decide)) (by first | omega | exact Nat.lt_of_lt_of_le (hG _ _) (by decide)) dX12_keepParts_11 (by decide) (fun c1 => ?_) (fun c1 => ?_)
  · have ho : ¬ OPN G p9 fr := fun z => by have := z.1; omega
    have efx : FX G p9 fr = G 12 p9 := if_neg ho
    have ho3 := hfit.2 ho
    refine lv_iconst (v := nI 0) hx hb dX12_keepParts_30 (by decide) ?_
    refine lv_istore (lv' := [(6, .int (nI 0)), (5, .int (nI (G 12 p9))), (0, .ref z0), (1, .int (nI p9)), (2, .int (nI f)), (3, .int (nI fr)), (4, .int (nI tn))]) hx hb dX12_keepParts_31 hl (by decide) rfl (fun ls hl => ?_)
    refine lv_iload hx hb dX12_keepParts_33 (lv_at hl 0 rfl) ?_
    refine bz_eq (tgt := 45) hx hb (by first | omega | exact Nat.lt_of_lt_of_le (hG _ _) (by decide)) dX12_keepParts_35 (by decide) (fun c => ?_) (fun q9 => absurd q9 (by omega))
    refine lv_iload hx hb dX12_keepParts_45 (lv_at hl 1 rfl) ?_
    refine lv_istore (lv' := [(7, .int (nI (G 12 p9))), (6, .int (nI 0)), (5, .int (nI (G 12 p9))), (0, .ref z0), (1, .int (nI p9)), (2, .int (nI f)), (3, .int (nI fr)), (4, .int (nI tn))]) hx hb dX12_keepParts_47 hl (by decide) rfl (fun ls hl => ?_)
    refine lv_iload hx hb dX12_keepParts_49 (lv_at hl 1 rfl) ?_
    refine bz_eq (tgt := 74) hx hb (by first | omega | exact Nat.lt_of_lt_of_le (hG _ _) (by decide)) dX12_keepParts_51 (by decide) (fun c => ?_) (fun q9 => absurd q9 (by omega))
    refine lv_iload_n hx hb dX12_keepParts_74 rfl (lv_at hl 6 rfl) ?_
    refine lv_istore (lv' := [(8, .int (nI fr)), (7, .int (nI (G 12 p9))), (6, .int (nI 0)), (5, .int (nI (G 12 p9))), (0, .ref z0), (1, .int (nI p9)), (2, .int (nI f)), (3, .int (nI fr)), (4, .int (nI tn))]) hx hb dX12_keepParts_75 hl (by decide) rfl (fun ls hl => ?_)
    have hP : va_P (dC, dI) vwCl (MW cB cC cI cJ cZ z0 R pl (va_up N 53 (N 53 + 0)) (LK (va_up (va_up G 56 (G 56)) 54 (G 54)) (G 50) (G 51) (G 52)) B) s.heap := by rw [show va_up N 53 (N 53 + 0) = N from va_upid N 53, LK_self2, va_upid, va_upid]; exact hP
    have hD : va_D A (MW cB cC cI cJ cZ z0 R pl (va_up N 53 (N 53 + 0)) (LK (va_up (va_up G 56 (G 56)) 54 (G 54)) (G 50) (G 51) (G 52)) B) := by rw [show va_up N 53 (N 53 + 0) = N from va_upid N 53, LK_self2, va_upid, va_upid]; exact hD
    refine lp_kp (G := va_up (va_up G 56 (G 56)) 54 (G 54)) hx hb hml hown hts hK hA (hGup (hGup hG (hG 56)) (hG 54)) ht9 p9 f fr (G 12 p9) (N 53) tn (G 50) (G 51) (G 52) hp9 hf9 hfr htn (by omega) hq9 (fun k h1 h2 => by have := (r2 k h1 (Or.inl (by rw [efx, ← ho3]; exact h2))).1; rw [efx] at this; exact this) (fun L Hw O H locs hL hH hO hqa hP hD hS ls hl => ?_) _ 0 (G 50) (G 51) (G 52) (Nat.lt_succ_self _) (Or.inl rfl) (hG 50) (hG 51) (hG 52) QAPP.zero _ _ hP hD hS ls (lv_sub hl [4, 5, 6, 8, 1, 0] rfl)
    exact W.vret hx hb hr (fun t ht hW => ⟨⟨(va_up N 53 (N 53 + (G 12 f - fr)), LK (va_up (va_up G 56 (G 56)) 54 (G 54)) L Hw O, B, pl), rfl, ⟨rfl, rfl, G 56, G 54, L, Hw, O, (hG 56), (hG 54), hL, hH, hO, rfl, rfl, by rw [efx]; exact hqa, fun _ => rfl, fun z => absurd z ho⟩, by rw [ht]; exact hP, va_K.moved hW.alike hK, hD⟩, hS.F ht⟩) hS.2.2 dX12_keepParts_141
  · refine lv_aload_n hx hb dX12_keepParts_14 rfl (lv_at hl 1 rfl) ?_
    refine lv_iload_n hx hb dX12_keepParts_15 rfl (lv_at hl 2 rfl) ?_
    refine lv_iload hx hb dX12_keepParts_16 (lv_at hl 0 rfl) ?_
    refine lv_iconst (v := nI 1) hx hb dX12_keepParts_18 (by decide) ?_
    refine lv_isub hx hb dX12_keepParts_19 ?_
    refine tp_i (pk_sub (a := G 12 p9) (b := 1) (by omega)) ?_
    refine mcl_i (As := [.int (nI p9), .int (nI ((G 12 p9) - 1))]) (rest := []) ⟨hx, hb, hml, hown, hts⟩ (m_isEllipsis l dC dI cB cC cI cJ cZ z0 R pl N G B p9 ((G 12 p9) - 1) hG2 hal (by omega) (by omega) (fun y => ⟨(ht9.pt hp9 y).1, (ht9.pt hp9 y).2.2.1, (ht9.2 _ (ht9.pt hp9 y).2.1).2.2.2.1⟩) s.heap.size) (cwV 2 hts kX12_keepParts_X12_isEllipsis_321 rfl rfl rfl (by decide +kernel) ⟨Nat.le_of_ble_eq_true rfl, Nat.le_of_ble_eq_true rfl⟩) hK hP hD hS hA rfl rfl hl.1 (lv_room (Nat.le_of_ble_eq_true rfl)) dX12_keepParts_20 hcs (fun r_6 N_2 G_3 B_4 pl_5 hw H locs hP hD hS => ?_)
    dsimp only at hw
    obtain ⟨e1, e2, e3, e4, hw⟩ := hw
    rw [e1, e2, e3, e4] at hP hD
    have hw : r_6 = nI (if ELL G p9 ((G 12 p9) - 1) then 1 else 0) := hw
    by_cases c_1 : ELL G p9 ((G 12 p9) - 1)
    · rw [if_pos c_1] at hw
      subst hw
      have ho : OPN G p9 fr := ⟨by omega, c_1⟩
      have efx : FX G p9 fr = G 12 p9 - 2 := if_pos ho
      have ho2 := r1 ho
      have ho3 := hfit.1 ho
      refine bz_eq (tgt := 30) hx hb (by first | omega | exact Nat.lt_of_lt_of_le (hG _ _) (by decide)) dX12_keepParts_23 (by decide) (fun q9 => absurd q9 (by omega)) (fun c => ?_)
      refine lv_iconst (v := nI 1) hx hb dX12_keepParts_26 (by decide) ?_
      refine lv_goto (tgt := 31) hx hb dX12_keepParts_27 (by decide) ?_
      refine lv_istore (lv' := [(6, .int (nI 1)), (5, .int (nI (G 12 p9))), (0, .ref z0), (1, .int (nI p9)), (2, .int (nI f)), (3, .int (nI fr)), (4, .int (nI tn))]) hx hb dX12_keepParts_31 hl (by decide) rfl (fun ls hl => ?_)
      refine lv_iload hx hb dX12_keepParts_33 (lv_at hl 0 rfl) ?_
      refine bz_eq (tgt := 45) hx hb (by first | omega | exact Nat.lt_of_lt_of_le (hG _ _) (by decide)) dX12_keepParts_35 (by decide) (fun q9 => absurd q9 (by omega)) (fun c => ?_)
      refine lv_iload hx hb dX12_keepParts_38 (lv_at hl 1 rfl) ?_
      refine lv_iconst (v := nI 2) hx hb dX12_keepParts_40 (by decide) ?_
      refine lv_isub hx hb dX12_keepParts_41 ?_
      refine tp_i (pk_sub (a := G 12 p9) (b := 2) (by omega)) ?_
      refine lv_goto (tgt := 47) hx hb dX12_keepParts_42 (by decide) ?_
      refine lv_istore (lv' := [(7, .int (nI ((G 12 p9) - 2))), (6, .int (nI 1)), (5, .int (nI (G 12 p9))), (0, .ref z0), (1, .int (nI p9)), (2, .int (nI f)), (3, .int (nI fr)), (4, .int (nI tn))]) hx hb dX12_keepParts_47 hl (by decide) rfl (fun ls hl => ?_)
      refine lv_iload hx hb dX12_keepParts_49 (lv_at hl 1 rfl) ?_
      refine bz_eq (tgt := 74) hx hb (by first | omega | exact Nat.lt_of_lt_of_le (hG _ _) (by decide)) dX12_keepParts_51 (by decide) (fun q9 => absurd q9 (by omega)) (fun c => ?_)
      refine lv_aload_n hx hb dX12_keepParts_54 rfl (lv_at hl 3 rfl) ?_
      refine lv_aload_n hx hb dX12_keepParts_55 rfl (lv_at hl 3 rfl) ?_
      refine lv_iload_n hx hb dX12_keepParts_56 rfl (lv_at hl 4 rfl) ?_
      refine lv_iload hx hb dX12_keepParts_57 (lv_at hl 0 rfl) ?_
      obtain ⟨t_7, t_7b, t_7c, t_7d⟩ := ht9.pt (f := p9) (k := (G 12 p9) - 2) (by first | assumption | omega) (by first | assumption | omega)
      refine mcl_i (As := [.int (nI p9), .int (nI ((G 12 p9) - 2))]) (rest := [.ref z0]) ⟨hx, hb, hml, hown, hts⟩ (m_part l dC dI cB cC cI cJ cZ z0 R pl N G B p9 ((G 12 p9) - 2) hG2 t_7d t_7 H.size) (cwV 2 hts kX12_keepParts_X12_part_192 rfl rfl rfl (by decide +kernel) ⟨Nat.le_of_ble_eq_true rfl, Nat.le_of_ble_eq_true rfl⟩) hK hP hD hS hA rfl rfl hl.1 (lv_room (Nat.le_of_ble_eq_true rfl)) dX12_keepParts_59 hcs (fun r_12 N_8 G_9 B_10 pl_11 hw H locs hP hD hS => ?_)
      dsimp only at hw
      obtain ⟨e1, e2, e3, e4, hw⟩ := hw
      rw [e1, e2, e3, e4] at hP hD
      have hw : r_12 = nI (CH G p9 ((G 12 p9) - 2)) := hw
      subst hw
      refine lv_aload_n hx hb dX12_keepParts_62 rfl (lv_at hl 3 rfl) ?_
      refine mg_12 hx hb hts inX12_keepParts hown hK hP (hts _ lkX12_keepParts_f38) dX12_keepParts_63 ?_
      refine lv_iload_n hx hb dX12_keepParts_66 rfl (lv_at hl 5 rfl) ?_
      refine ml_12 hx hb hK hP (by omega) dX12_keepParts_67 ?_
      refine lv_iload hx hb dX12_keepParts_68 (lv_at hl 0 rfl) ?_
      refine lv_isub hx hb dX12_keepParts_70 ?_
      refine tp_i (pk_sub (a := G 12 f) (b := (G 12 p9) - 2) (by omega)) ?_
      refine mcl_v (As := [.int (nI (CH G p9 ((G 12 p9) - 2))), .int (nI ((G 12 f) - ((G 12 p9) - 2)))]) (rest := []) ⟨hx, hb, hml, hown, hts⟩ (m_setCounts l dC dI cB cC cI cJ cZ z0 R pl N G B (CH G p9 (G 12 p9 - 2)) (G 12 f - (G 12 p9 - 2)) sz hG2 ht9 hN (ht9.pt hp9 (show G 12 p9 - 2 < G 12 p9 by omega)).2.1 (by omega) H.size) (cwV 2 hts kX12_keepParts_X12_setCounts_342 rfl rfl rfl (by decide +kernel) ⟨Nat.le_of_ble_eq_true rfl, Nat.le_of_ble_eq_true rfl⟩) hK hP hD hS hA rfl rfl hl.1 (lv_room (Nat.le_of_ble_eq_true rfl)) dX12_keepParts_71 hcs (fun  N_13 G_14 B_15 pl_16 hw H locs hP hD hS => ?_)
      dsimp only at hw
      obtain ⟨e1, ⟨I, M, hI, hM, e2, hs1, hs2⟩, e3, e4⟩ := hw
      rw [e1, e2, e3, e4] at hP hD
      refine lv_iload_n hx hb dX12_keepParts_74 rfl (lv_at hl 6 rfl) ?_
      refine lv_istore (lv' := [(8, .int (nI fr)), (7, .int (nI ((G 12 p9) - 2))), (6, .int (nI 1)), (5, .int (nI (G 12 p9))), (0, .ref z0), (1, .int (nI p9)), (2, .int (nI f)), (3, .int (nI fr)), (4, .int (nI tn))]) hx hb dX12_keepParts_75 hl (by decide) rfl (fun ls hl => ?_)
      have hP : va_P (dC, dI) vwCl (MW cB cC cI cJ cZ z0 R pl (va_up N 53 (N 53 + 0)) (LK (va_up (va_up G 56 M) 54 I) (G 50) (G 51) (G 52)) B) H := by rw [show va_up N 53 (N 53 + 0) = N from va_upid N 53, LK_self2]; exact hP
      have hD : va_D A (MW cB cC cI cJ cZ z0 R pl (va_up N 53 (N 53 + 0)) (LK (va_up (va_up G 56 M) 54 I) (G 50) (G 51) (G 52)) B) := by rw [show va_up N 53 (N 53 + 0) = N from va_upid N 53, LK_self2]; exact hD
      refine lp_kp (G := va_up (va_up G 56 M) 54 I) hx hb hml hown hts hK hA (hGup (hGup hG hM) hI) ht9 p9 f fr (G 12 p9 - 2) (N 53) tn (G 50) (G 51) (G 52) hp9 hf9 hfr htn (by omega) hq9 (fun k h1 h2 => by have := (r2 k h1 (Or.inr ho)).1; rw [efx] at this; exact this) (fun L Hw O H locs hL hH hO hqa hP hD hS ls hl => ?_) _ 0 (G 50) (G 51) (G 52) (Nat.lt_succ_self _) (Or.inl rfl) (hG 50) (hG 51) (hG 52) QAPP.zero _ _ hP hD hS ls (lv_sub hl [4, 5, 6, 8, 1, 0] rfl)
      exact W.vret hx hb hr (fun t ht hW => ⟨⟨(va_up N 53 (N 53 + (G 12 f - fr)), LK (va_up (va_up G 56 M) 54 I) L Hw O, B, pl), rfl, ⟨rfl, rfl, M, I, L, Hw, O, hM, hI, hL, hH, hO, rfl, rfl, by rw [efx]; exact hqa, fun z => absurd ho z, fun _ => by rw [efx]; exact ⟨hs1, hs2⟩⟩, by rw [ht]; exact hP, va_K.moved hW.alike hK, hD⟩, hS.F ht⟩) hS.2.2 dX12_keepParts_141
    · rw [if_neg c_1] at hw
      subst hw
      have ho : ¬ OPN G p9 fr := fun z => c_1 z.2
      have efx : FX G p9 fr = G 12 p9 := if_neg ho
      have ho3 := hfit.2 ho
      refine bz_eq (tgt := 30) hx hb (by first | omega | exact Nat.lt_of_lt_of_le (hG _ _) (by decide)) dX12_keepParts_23 (by decide) (fun c => ?_) (fun q9 => absurd q9 (by omega))
      refine lv_iconst (v := nI 0) hx hb dX12_keepParts_30 (by decide) ?_
      refine lv_istore (lv' := [(6, .int (nI 0)), (5, .int (nI (G 12 p9))), (0, .ref z0), (1, .int (nI p9)), (2, .int (nI f)), (3, .int (nI fr)), (4, .int (nI tn))]) hx hb dX12_keepParts_31 hl (by decide) rfl (fun ls hl => ?_)
      refine lv_iload hx hb dX12_keepParts_33 (lv_at hl 0 rfl) ?_
      refine bz_eq (tgt := 45) hx hb (by first | omega | exact Nat.lt_of_lt_of_le (hG _ _) (by decide)) dX12_keepParts_35 (by decide) (fun c => ?_) (fun q9 => absurd q9 (by omega))
      refine lv_iload hx hb dX12_keepParts_45 (lv_at hl 1 rfl) ?_
      refine lv_istore (lv' := [(7, .int (nI (G 12 p9))), (6, .int (nI 0)), (5, .int (nI (G 12 p9))), (0, .ref z0), (1, .int (nI p9)), (2, .int (nI f)), (3, .int (nI fr)), (4, .int (nI tn))]) hx hb dX12_keepParts_47 hl (by decide) rfl (fun ls hl => ?_)
      refine lv_iload hx hb dX12_keepParts_49 (lv_at hl 1 rfl) ?_
      refine bz_eq (tgt := 74) hx hb (by first | omega | exact Nat.lt_of_lt_of_le (hG _ _) (by decide)) dX12_keepParts_51 (by decide) (fun c => ?_) (fun q9 => absurd q9 (by omega))
      refine lv_iload_n hx hb dX12_keepParts_74 rfl (lv_at hl 6 rfl) ?_
      refine lv_istore (lv' := [(8, .int (nI fr)), (7, .int (nI (G 12 p9))), (6, .int (nI 0)), (5, .int (nI (G 12 p9))), (0, .ref z0), (1, .int (nI p9)), (2, .int (nI f)), (3, .int (nI fr)), (4, .int (nI tn))]) hx hb dX12_keepParts_75 hl (by decide) rfl (fun ls hl => ?_)
      have hP : va_P (dC, dI) vwCl (MW cB cC cI cJ cZ z0 R pl (va_up N 53 (N 53 + 0)) (LK (va_up (va_up G 56 (G 56)) 54 (G 54)) (G 50) (G 51) (G 52)) B) H := by rw [show va_up N 53 (N 53 + 0) = N from va_upid N 53, LK_self2, va_upid, va_upid]; exact hP
      have hD : va_D A (MW cB cC cI cJ cZ z0 R pl (va_up N 53 (N 53 + 0)) (LK (va_up (va_up G 56 (G 56)) 54 (G 54)) (G 50) (G 51) (G 52)) B) := by rw [show va_up N 53 (N 53 + 0) = N from va_upid N 53, LK_self2, va_upid, va_upid]; exact hD
      refine lp_kp (G := va_up (va_up G 56 (G 56)) 54 (G 54)) hx hb hml hown hts hK hA (hGup (hGup hG (hG 56)) (hG 54)) ht9 p9 f fr (G 12 p9) (N 53) tn (G 50) (G 51) (G 52) hp9 hf9 hfr htn (by omega) hq9 (fun k h1 h2 => by have := (r2 k h1 (Or.inl (by rw [efx, ← ho3]; exact h2))).1; rw [efx] at this; exact this) (fun L Hw O H locs hL hH hO hqa hP hD hS ls hl => ?_) _ 0 (G 50) (G 51) (G 52) (Nat.lt_succ_self _) (Or.inl rfl) (hG 50) (hG 51) (hG 52) QAPP.zero _ _ hP hD hS ls (lv_sub hl [4, 5, 6, 8, 1, 0] rfl)
      exact W.vret hx hb hr (fun t ht hW => ⟨⟨(va_up N 53 (N 53 + (G 12 f - fr)), LK (va_up (va_up G 56 (G 56)) 54 (G 54)) L Hw O, B, pl), rfl, ⟨rfl, rfl, G 56, G 54, L, Hw, O, (hG 56), (hG 54), hL, hH, hO, rfl, rfl, by rw [efx]; exact hqa, fun _ => rfl, fun z => absurd z ho⟩, by rw [ht]; exact hP, va_K.moved hW.alike hK, hD⟩, hS.F ht⟩) hS.2.2 dX12_keepParts_141
