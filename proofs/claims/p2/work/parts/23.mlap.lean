def oX12_lookAtParts : List Cond := [Cond.fieldLink RX12 38 "MacroScopesModel" "counts" "[I", Cond.methodLink RX12 192 yX12_part, Cond.instanceMethod yX12_part, Cond.selects RX12 yX12_part yX12_part, Cond.initialized RX12, Cond.methodLink RX12 318 yX12_lookAt, Cond.instanceMethod yX12_lookAt, Cond.selects RX12 yX12_lookAt yX12_lookAt, Cond.methodLink RX12 321 yX12_isEllipsis, Cond.instanceMethod yX12_isEllipsis, Cond.selects RX12 yX12_isEllipsis yX12_isEllipsis]
def vX12_lookAtParts : List Cond := .code yX12_lookAtParts cX12_lookAtParts 9 (some .boolean) :: (oX12_lookAtParts ++ (vX12_part ++ (vX12_lookAt ++ (vX12_isEllipsis ++ (wsX120)))))
theorem lkX12_lookAtParts_f38 : Cond.fieldLink RX12 38 "MacroScopesModel" "counts" "[I" ∈ vX12_lookAtParts := List.mem_cons_of_mem _ (List.mem_append_left _ (List.mem_of_getElem? (i := 0) rfl))
theorem inX12_lookAtParts : ∀ w ∈ wsX120, w ∈ vX12_lookAtParts := fun w h => List.mem_cons_of_mem _ (List.mem_append_right _ (List.mem_append_right _ (List.mem_append_right _ (List.mem_append_right _ (h)))))
theorem kX12_lookAtParts_X12_part_192 : GoodIn vX12_lookAtParts (wsV RX12 192 RX12 yX12_part vX12_part) := goodIn_sub (fun w h => (List.mem_append.mp h).elim (fun h => List.mem_cons_of_mem _ (List.mem_append_left _ ((by decide +kernel : ∀ w ∈ ([.methodLink RX12 192 yX12_part, .instanceMethod yX12_part, .selects RX12 yX12_part yX12_part, .initialized RX12] : List Cond), w ∈ oX12_lookAtParts) w h))) (fun h => List.mem_cons_of_mem _ (List.mem_append_right _ (List.mem_append_left _ (h))))) (by decide +kernel)
theorem kX12_lookAtParts_X12_lookAt_318 : GoodIn vX12_lookAtParts (wsV RX12 318 RX12 yX12_lookAt vX12_lookAt) := goodIn_sub (fun w h => (List.mem_append.mp h).elim (fun h => List.mem_cons_of_mem _ (List.mem_append_left _ ((by decide +kernel : ∀ w ∈ ([.methodLink RX12 318 yX12_lookAt, .instanceMethod yX12_lookAt, .selects RX12 yX12_lookAt yX12_lookAt, .initialized RX12] : List Cond), w ∈ oX12_lookAtParts) w h))) (fun h => List.mem_cons_of_mem _ (List.mem_append_right _ (List.mem_append_right _ (List.mem_append_left _ (h)))))) (by decide +kernel)
theorem kX12_lookAtParts_X12_isEllipsis_321 : GoodIn vX12_lookAtParts (wsV RX12 321 RX12 yX12_isEllipsis vX12_isEllipsis) := goodIn_sub (fun w h => (List.mem_append.mp h).elim (fun h => List.mem_cons_of_mem _ (List.mem_append_left _ ((by decide +kernel : ∀ w ∈ ([.methodLink RX12 321 yX12_isEllipsis, .instanceMethod yX12_isEllipsis, .selects RX12 yX12_isEllipsis yX12_isEllipsis, .initialized RX12] : List Cond), w ∈ oX12_lookAtParts) w h))) (fun h => List.mem_cons_of_mem _ (List.mem_append_right _ (List.mem_append_right _ (List.mem_append_right _ (List.mem_append_left _ (h))))))) (by decide +kernel)
set_option maxHeartbeats 4000000 in
set_option maxRecDepth 100000 in
theorem lp_lap {p : Program} {l : Launch} {e : Env} {s : State} {m : MethodId} {args : Array Value} {below : List Frame} {meth : Method} {c : Code} {Q : State → Prop} {A : Nat → Prop} {dC : Nat → ClassId} {dI : Nat → Nat → Nat} {cB cC cI cJ cZ : ClassId} {z0 : Nat} {R : Nat → Nat} (hx : p.tables.exec = Jvm.exec) (hb : c.code = cX12_lookAtParts) (hml : c.maxLocals = 9) (hown : s.vm.findClass RX12 = some m.cls) (hts : ∀ w ∈ vX12_lookAtParts, w.before args s = true) (hK : va_K (dC, dI) vwCl (TY cB cC cI cJ cZ) s) (hA : ∀ q : Nat, s.heap.size ≤ q → A q) {pl : Int32} {N : Nat → Nat} {G : Nat → Nat → Nat} {B : Nat → Nat → Int32} {sz : Nat → Nat} (hG : ∀ k i, G k i < 1048576) (ht9 : TREE N G sz) (p9 f fr fx q0 : Nat) (L0 H0 O0 : Nat → Nat) (hp9 : p9 < N 14) (hf9 : f < N 14) (hfr : fr ≤ 1) (hfx : fx < 1048576) (hq9 : q0 + G 12 f < 90000) (hix : ∀ k, fr ≤ k → k < G 12 f → CIX fx k < G 12 p9) (ke : ∀ (L Hw O : Nat → Nat) (H : Heap) (locs : List Loc), (∀ i, L i < 1048576) → (∀ i, Hw i < 1048576) → (∀ i, O i < 1048576) → QAPP q0 (G 12 f - fr) L0 H0 O0 L Hw O (fun j => CH G p9 (CIX fx (fr + j))) (fun _ => 0) (fun j => CH G f (fr + j)) → va_P (dC, dI) vwCl (MW cB cC cI cJ cZ z0 R pl (va_up N 53 (q0 + (G 12 f - fr))) (LK G L Hw O) B) H → va_D A (MW cB cC cI cJ cZ z0 R pl (va_up N 53 (q0 + (G 12 f - fr))) (LK G L Hw O) B) → va_S A s.heap H locs → ∀ (ls : Array Slot), lv_has ls 9 [(7, .int (nI 1))] → W p l e (headSpec vX12_lookAtParts { frames := 3, cells := 0, slots := 0, locals := 66 }).room s m args below meth c H locs 0 0 Q (F0 m 147 ls [])) : ∀ (k : Nat) (j : Nat) (L Hw O : Nat → Nat), G 12 f - fr - j < k → (j = 0 ∨ fr + j ≤ G 12 f) → (∀ i, L i < 1048576) → (∀ i, Hw i < 1048576) → (∀ i, O i < 1048576) → QAPP q0 j L0 H0 O0 L Hw O (fun j => CH G p9 (CIX fx (fr + j))) (fun _ => 0) (fun j => CH G f (fr + j)) → ∀ (H : Heap) (locs : List Loc), va_P (dC, dI) vwCl (MW cB cC cI cJ cZ z0 R pl (va_up N 53 (q0 + j)) (LK G L Hw O) B) H → va_D A (MW cB cC cI cJ cZ z0 R pl (va_up N 53 (q0 + j)) (LK G L Hw O) B) → va_S A s.heap H locs → ∀ (ls : Array Slot), lv_has ls 9 [(0, .ref z0), (1, .int (nI p9)), (2, .int (nI f)), (3, .int (nI fr)), (6, .int (nI fx)), (7, .int (nI 1)), (8, .int (nI (fr + j)))] → W p l e (headSpec vX12_lookAtParts { frames := 3, cells := 0, slots := 0, locals := 66 }).room s m args below meth c H locs 0 0 Q (F0 m 94 ls []) := by
  have hcs : 0 + 0 ≤ (0 : Nat) ∧ 0 + 0 ≤ (0 : Nat) := ⟨Nat.le_refl 0, Nat.le_refl 0⟩
  intro k
  induction k with
  | zero =>
    intro j L Hw O hk hjb hL hH hO hqa
    omega
  | succ k ih =>
    intro j L Hw O hk hjb hL hH hO hqa H locs hP hD hS ls hl
    have u6 := ht9.1
    have hG2 := hGLK hG hL hH hO
    have g1 := hG 12 f
    have g2 := hG 12 p9
    refine lv_iload hx hb dX12_lookAtParts_94 (lv_at hl 6 rfl) ?_
    refine lv_aload_n hx hb dX12_lookAtParts_96 rfl (lv_at hl 0 rfl) ?_
    refine mg_12 hx hb hts inX12_lookAtParts hown hK hP (hts _ lkX12_lookAtParts_f38) dX12_lookAtParts_97 ?_
    refine lv_iload_n hx hb dX12_lookAtParts_100 rfl (lv_at hl 2 rfl) ?_
    refine ml_12 hx hb hK hP (by omega) dX12_lookAtParts_101 ?_
    refine tp_i (y := nI (G 12 f)) rfl ?_
    refine bn_ge (tgt := 147) hx hb (by first | omega | exact Nat.lt_of_lt_of_le (hG _ _) (by decide)) (by first | omega | exact Nat.lt_of_lt_of_le (hG _ _) (by decide)) dX12_lookAtParts_102 (by decide) (fun c1 => ?_) (fun c1 => ?_)
    · have e9 : j = G 12 f - fr := by omega
      subst e9
      exact ke L Hw O H locs hL hH hO hqa hP hD hS ls (lv_sub hl [5] rfl)
    · have hci := hix (fr + j) (by omega) c1
      refine lv_iload hx hb dX12_lookAtParts_105 (lv_at hl 5 rfl) ?_
      refine bz_eq (tgt := 147) hx hb (by first | omega | exact Nat.lt_of_lt_of_le (hG _ _) (by decide)) dX12_lookAtParts_107 (by decide) (fun q9 => absurd q9 (by omega)) (fun c => ?_)
      refine lv_aload_n hx hb dX12_lookAtParts_110 rfl (lv_at hl 0 rfl) ?_
      refine lv_aload_n hx hb dX12_lookAtParts_111 rfl (lv_at hl 0 rfl) ?_
      refine lv_iload_n hx hb dX12_lookAtParts_112 rfl (lv_at hl 1 rfl) ?_
      refine lv_iload hx hb dX12_lookAtParts_113 (lv_at hl 6 rfl) ?_
      refine lv_iload hx hb dX12_lookAtParts_115 (lv_at hl 4 rfl) ?_
      refine bn_ge (tgt := 125) hx hb (by first | omega | exact Nat.lt_of_lt_of_le (hG _ _) (by decide)) (by first | omega | exact Nat.lt_of_lt_of_le (hG _ _) (by decide)) dX12_lookAtParts_117 (by decide) (fun c2 => ?_) (fun c2 => ?_)
      · have ei : CIX fx (fr + j) = fx := if_neg (by omega)
        rw [ei] at hci
        refine lv_iload hx hb dX12_lookAtParts_125 (lv_at hl 4 rfl) ?_
        obtain ⟨t_1, t_1b, t_1c, t_1d⟩ := ht9.pt (f := p9) (k := fx) (by first | assumption | omega) (by first | assumption | omega)
        refine mcl_i (As := [.int (nI p9), .int (nI fx)]) (rest := [.ref z0]) ⟨hx, hb, hml, hown, hts⟩ (m_part l dC dI cB cC cI cJ cZ z0 R pl (va_up N 53 (q0 + j)) (LK G L Hw O) B p9 fx hG2 t_1d t_1 H.size) (cwV 2 hts kX12_lookAtParts_X12_part_192 rfl rfl rfl (by decide +kernel) ⟨Nat.le_of_ble_eq_true rfl, Nat.le_of_ble_eq_true rfl⟩) hK hP hD hS hA rfl rfl hl.1 (lv_room (Nat.le_of_ble_eq_true rfl)) dX12_lookAtParts_127 hcs (fun r_6 N_2 G_3 B_4 pl_5 hw H locs hP hD hS => ?_)
        dsimp only at hw
        obtain ⟨e1, e2, e3, e4, hw⟩ := hw
        rw [e1, e2, e3, e4] at hP hD
        have hw : r_6 = nI (CH G p9 fx) := hw
        subst hw
        refine lv_iconst (v := nI 0) hx hb dX12_lookAtParts_130 (by decide) ?_
        refine lv_aload_n hx hb dX12_lookAtParts_131 rfl (lv_at hl 0 rfl) ?_
        refine lv_iload_n hx hb dX12_lookAtParts_132 rfl (lv_at hl 2 rfl) ?_
        refine lv_iload hx hb dX12_lookAtParts_133 (lv_at hl 6 rfl) ?_
        obtain ⟨t_7, t_7b, t_7c, t_7d⟩ := ht9.pt (f := f) (k := fr + j) (by first | assumption | omega) (by first | assumption | omega)
        refine mcl_i (As := [.int (nI f), .int (nI (fr + j))]) (rest := [.int (nI 0), .int (nI (CH G p9 fx)), .ref z0]) ⟨hx, hb, hml, hown, hts⟩ (m_part l dC dI cB cC cI cJ cZ z0 R pl (va_up N 53 (q0 + j)) (LK G L Hw O) B f (fr + j) hG2 t_7d t_7 H.size) (cwV 2 hts kX12_lookAtParts_X12_part_192 rfl rfl rfl (by decide +kernel) ⟨Nat.le_of_ble_eq_true rfl, Nat.le_of_ble_eq_true rfl⟩) hK hP hD hS hA rfl rfl hl.1 (lv_room (Nat.le_of_ble_eq_true rfl)) dX12_lookAtParts_135 hcs (fun r_12 N_8 G_9 B_10 pl_11 hw H locs hP hD hS => ?_)
        dsimp only at hw
        obtain ⟨e1, e2, e3, e4, hw⟩ := hw
        rw [e1, e2, e3, e4] at hP hD
        have hw : r_12 = nI (CH G f (fr + j)) := hw
        subst hw
        have t9 : q0 + j < 90000 := by omega
        refine mcl_v (As := [.int (nI (CH G p9 fx)), .int (nI 0), .int (nI (CH G f (fr + j)))]) (rest := []) ⟨hx, hb, hml, hown, hts⟩ (m_lookAt l dC dI cB cC cI cJ cZ z0 R pl (va_up N 53 (q0 + j)) (LK G L Hw O) B (CH G p9 fx) 0 (CH G f (fr + j)) (show q0 + j < 90000 from (by omega)) H.size) (cwV 3 hts kX12_lookAtParts_X12_lookAt_318 rfl rfl rfl (by decide +kernel) ⟨Nat.le_of_ble_eq_true rfl, Nat.le_of_ble_eq_true rfl⟩) hK hP hD hS hA rfl rfl hl.1 (lv_room (Nat.le_of_ble_eq_true rfl)) dX12_lookAtParts_138 hcs (fun  N_13 G_14 B_15 pl_16 hw H locs hP hD hS => ?_)
        dsimp only at hw
        obtain ⟨e1, e2, e3, e4⟩ := hw
        rw [e1, e2, e3, e4, bx_uu, LK_look] at hP hD
        have hP : va_P (dC, dI) vwCl (MW cB cC cI cJ cZ z0 R pl (va_up N 53 ((q0 + j) + 1)) (LK G (va_up L (q0 + j) (CH G p9 fx)) (va_up Hw (q0 + j) 0) (va_up O (q0 + j) (CH G f (fr + j)))) B) H := hP
        have hD : va_D A (MW cB cC cI cJ cZ z0 R pl (va_up N 53 ((q0 + j) + 1)) (LK G (va_up L (q0 + j) (CH G p9 fx)) (va_up Hw (q0 + j) 0) (va_up O (q0 + j) (CH G f (fr + j)))) B) := hD
        refine lv_iinc (v := nI ((fr + j) + 1)) (lv' := [(8, .int (nI ((fr + j) + 1))), (0, .ref z0), (1, .int (nI p9)), (2, .int (nI f)), (3, .int (nI fr)), (6, .int (nI fx)), (7, .int (nI 1))]) hx hb dX12_lookAtParts_141 hl (k := 6) rfl (nI_add (fr + j) 1) (by decide) rfl (fun ls hl => ?_)
        refine lv_goto (tgt := 94) hx hb dX12_lookAtParts_144 (by decide) ?_
        exact ih (j + 1) _ _ _ (by omega) (by omega) (hIup hL (by omega)) (hIup hH (by decide)) (hIup hO (by omega)) (hqa.step (by rw [ei]) rfl rfl) _ _ hP hD hS ls (lv_sub hl [1, 2, 3, 4, 5, 6, 0] rfl)
      · have ei : CIX fx (fr + j) = fr + j := if_pos c2
        rw [ei] at hci
        refine lv_iload hx hb dX12_lookAtParts_120 (lv_at hl 6 rfl) ?_
        refine lv_goto (tgt := 127) hx hb dX12_lookAtParts_122 (by decide) ?_
        obtain ⟨t_18, t_18b, t_18c, t_18d⟩ := ht9.pt (f := p9) (k := fr + j) (by first | assumption | omega) (by first | assumption | omega)
        refine mcl_i (As := [.int (nI p9), .int (nI (fr + j))]) (rest := [.ref z0]) ⟨hx, hb, hml, hown, hts⟩ (m_part l dC dI cB cC cI cJ cZ z0 R pl (va_up N 53 (q0 + j)) (LK G L Hw O) B p9 (fr + j) hG2 t_18d t_18 H.size) (cwV 2 hts kX12_lookAtParts_X12_part_192 rfl rfl rfl (by decide +kernel) ⟨Nat.le_of_ble_eq_true rfl, Nat.le_of_ble_eq_true rfl⟩) hK hP hD hS hA rfl rfl hl.1 (lv_room (Nat.le_of_ble_eq_true rfl)) dX12_lookAtParts_127 hcs (fun r_23 N_19 G_20 B_21 pl_22 hw H locs hP hD hS => ?_)
        dsimp only at hw
        obtain ⟨e1, e2, e3, e4, hw⟩ := hw
        rw [e1, e2, e3, e4] at hP hD
        have hw : r_23 = nI (CH G p9 (fr + j)) := hw
        subst hw
        refine lv_iconst (v := nI 0) hx hb dX12_lookAtParts_130 (by decide) ?_
        refine lv_aload_n hx hb dX12_lookAtParts_131 rfl (lv_at hl 0 rfl) ?_
        refine lv_iload_n hx hb dX12_lookAtParts_132 rfl (lv_at hl 2 rfl) ?_
        refine lv_iload hx hb dX12_lookAtParts_133 (lv_at hl 6 rfl) ?_
        obtain ⟨t_24, t_24b, t_24c, t_24d⟩ := ht9.pt (f := f) (k := fr + j) (by first | assumption | omega) (by first | assumption | omega)
        refine mcl_i (As := [.int (nI f), .int (nI (fr + j))]) (rest := [.int (nI 0), .int (nI (CH G p9 (fr + j))), .ref z0]) ⟨hx, hb, hml, hown, hts⟩ (m_part l dC dI cB cC cI cJ cZ z0 R pl (va_up N 53 (q0 + j)) (LK G L Hw O) B f (fr + j) hG2 t_24d t_24 H.size) (cwV 2 hts kX12_lookAtParts_X12_part_192 rfl rfl rfl (by decide +kernel) ⟨Nat.le_of_ble_eq_true rfl, Nat.le_of_ble_eq_true rfl⟩) hK hP hD hS hA rfl rfl hl.1 (lv_room (Nat.le_of_ble_eq_true rfl)) dX12_lookAtParts_135 hcs (fun r_29 N_25 G_26 B_27 pl_28 hw H locs hP hD hS => ?_)
        dsimp only at hw
        obtain ⟨e1, e2, e3, e4, hw⟩ := hw
        rw [e1, e2, e3, e4] at hP hD
        have hw : r_29 = nI (CH G f (fr + j)) := hw
        subst hw
        have t9 : q0 + j < 90000 := by omega
        refine mcl_v (As := [.int (nI (CH G p9 (fr + j))), .int (nI 0), .int (nI (CH G f (fr + j)))]) (rest := []) ⟨hx, hb, hml, hown, hts⟩ (m_lookAt l dC dI cB cC cI cJ cZ z0 R pl (va_up N 53 (q0 + j)) (LK G L Hw O) B (CH G p9 (fr + j)) 0 (CH G f (fr + j)) (show q0 + j < 90000 from (by omega)) H.size) (cwV 3 hts kX12_lookAtParts_X12_lookAt_318 rfl rfl rfl (by decide +kernel) ⟨Nat.le_of_ble_eq_true rfl, Nat.le_of_ble_eq_true rfl⟩) hK hP hD hS hA rfl rfl hl.1 (lv_room (Nat.le_of_ble_eq_true rfl)) dX12_lookAtParts_138 hcs (fun  N_30 G_31 B_32 pl_33 hw H locs hP hD hS => ?_)
        dsimp only at hw
        obtain ⟨e1, e2, e3, e4⟩ := hw
        rw [e1, e2, e3, e4, bx_uu, LK_look] at hP hD
        have hP : va_P (dC, dI) vwCl (MW cB cC cI cJ cZ z0 R pl (va_up N 53 ((q0 + j) + 1)) (LK G (va_up L (q0 + j) (CH G p9 (fr + j))) (va_up Hw (q0 + j) 0) (va_up O (q0 + j) (CH G f (fr + j)))) B) H := hP
        have hD : va_D A (MW cB cC cI cJ cZ z0 R pl (va_up N 53 ((q0 + j) + 1)) (LK G (va_up L (q0 + j) (CH G p9 (fr + j))) (va_up Hw (q0 + j) 0) (va_up O (q0 + j) (CH G f (fr + j)))) B) := hD
        refine lv_iinc (v := nI ((fr + j) + 1)) (lv' := [(8, .int (nI ((fr + j) + 1))), (0, .ref z0), (1, .int (nI p9)), (2, .int (nI f)), (3, .int (nI fr)), (6, .int (nI fx)), (7, .int (nI 1))]) hx hb dX12_lookAtParts_141 hl (k := 6) rfl (nI_add (fr + j) 1) (by decide) rfl (fun ls hl => ?_)
        refine lv_goto (tgt := 94) hx hb dX12_lookAtParts_144 (by decide) ?_
        exact ih (j + 1) _ _ _ (by omega) (by omega) (hIup hL (by omega)) (hIup hH (by decide)) (hIup hO (by omega)) (hqa.step (by rw [ei]) rfl rfl) _ _ hP hD hS ls (lv_sub hl [1, 2, 3, 4, 5, 6, 0] rfl)

set_option maxHeartbeats 4000000 in
set_option maxRecDepth 100000 in
/-- lookAtParts -/
theorem m_lookAtParts (l : Launch) (dC : Nat → ClassId) (dI : Nat → Nat → Nat) (cB cC cI cJ cZ : ClassId) (z0 : Nat) (R : Nat → Nat) (pl : Int32) (N : Nat → Nat) (G : Nat → Nat → Nat) (B : Nat → Nat → Int32) (p9 f fr : Nat) (sz : Nat → Nat) (hG : ∀ k i, G k i < 1048576) (ht9 : TREE N G sz) (hal : AL N G) (hp9 : p9 < N 14) (hf9 : f < N 14) (hfr : fr ≤ 1) (hpw : ∃ w, PAT G sz p9 fr w) (hq9 : N 53 + G 12 f < 90000) (s0 : Nat) : Met l yX12_lookAtParts vX12_lookAtParts { frames := 3, cells := 0, slots := 0, locals := 66 } (va_Pc [.ref z0, .int (nI p9), .int (nI f), .int (nI fr)] (mPre dC dI cB cC cI cJ cZ z0 R pl N G B s0)) (va_Qi (fun (r : Int32) (u : ((Nat → Nat) × (Nat → Nat → Nat) × (Nat → Nat → Int32) × Int32)) => match u with | (N1, G1, B1, pl1) => B1 = B ∧ pl1 = pl ∧ ∃ fi, r = nI fi ∧ fi ≤ 1 ∧ (fi = 0 → N1 = N ∧ G1 = G) ∧ (fi = 1 → FIT G p9 f fr ∧ ∃ L Hw O, (∀ i, L i < 1048576) ∧ (∀ i, Hw i < 1048576) ∧ (∀ i, O i < 1048576) ∧ N1 = va_up N 53 (N 53 + (G 12 f - fr)) ∧ G1 = LK G L Hw O ∧ QAPP (N 53) (G 12 f - fr) (G 50) (G 51) (G 52) L Hw O (fun j => CH G p9 (CIX (FX G p9 fr) (fr + j))) (fun _ => 0) (fun j => CH G f (fr + j)))) (mPost dC dI cB cC cI cJ cZ z0 R (va_A (MW cB cC cI cJ cZ z0 R pl N G B) s0)) (va_A (MW cB cC cI cJ cZ z0 R pl N G B) s0)) 0 0 (va_A (MW cB cC cI cJ cZ z0 R pl N G B) s0) := by
  refine Met.ofW (cc := cX12_lookAtParts) (maxL := 9) (ret := (some .boolean)) (by decide) rfl ?_
  intro p e s m args below meth c s₁ B9 hml hv
  obtain ⟨rfl, hsz, hP, hK, hD0⟩ := hv
  have hx := B9.exec
  have hb := B9.bytes
  have hr := B9.returns
  have hts := atoms_spec (ws := vX12_lookAtParts) B9.pre
  have hown : s.vm.findClass RX12 = some m.cls := findClass_of_methodNamed B9.named
  have hlocks := B9.notSynchronized
  subst hsz
  have hD := hD0.self (sz := s.heap.size)
  generalize hAe : va_A (MW cB cC cI cJ cZ z0 R pl N G B) s.heap.size = A at hD ⊢
  have hA : ∀ q : Nat, s.heap.size ≤ q → A q := fun q h => by rw [← hAe]; exact Or.inr h
  have hS : va_S A s.heap s.heap [] := va_S.rf
  have hcs : 0 + 0 ≤ (0 : Nat) ∧ 0 + 0 ≤ (0 : Nat) := ⟨Nat.le_refl 0, Nat.le_refl 0⟩
  have hl := lv_entry ([.ref z0, .int (nI p9), .int (nI f), .int (nI fr)]) (n := 9) (Nat.le_of_ble_eq_true rfl)
  rw [lg_entry_eq]
  generalize (lg_sl ([.ref z0, .int (nI p9), .int (nI f), .int (nI fr)]) ++ List.replicate (9 - (lg_sl ([.ref z0, .int (nI p9), .int (nI f), .int (nI fr)])).length) Slot.unset).toArray = ls at hl ⊢
  have hl : lv_has ls 9 [(0, .ref z0), (1, .int (nI p9)), (2, .int (nI f)), (3, .int (nI fr))] := hl
  have u6 := ht9.1
  have hG2 := hG
  have hf8 : f < 90000 := by omega
  have hp8 : p9 < 90000 := by omega
  have g1 := hG 12 f
  have g2 := hG 12 p9
  obtain ⟨w9, hw9⟩ := hpw
  obtain ⟨r1, r2⟩ := PAT.parts ht9 hp9 hw9
  refine lv_aload_n hx hb dX12_lookAtParts_0 rfl (lv_at hl 0 rfl) ?_
  refine mg_12 hx hb hts inX12_lookAtParts hown hK hP (hts _ lkX12_lookAtParts_f38) dX12_lookAtParts_1 ?_
  refine lv_iload_n hx hb dX12_lookAtParts_4 rfl (lv_at hl 1 rfl) ?_
  refine ml_12 hx hb hK hP (by omega) dX12_lookAtParts_5 ?_
  refine lv_istore (lv' := [(4, .int (nI (G 12 p9))), (0, .ref z0), (1, .int (nI p9)), (2, .int (nI f)), (3, .int (nI fr))]) hx hb dX12_lookAtParts_6 hl (by decide) rfl (fun ls hl => ?_)
  refine lv_iload hx hb dX12_lookAtParts_8 (lv_at hl 0 rfl) ?_
  refine lv_iload_n hx hb dX12_lookAtParts_10 rfl (lv_at hl 4 rfl) ?_
  refine bn_le (tgt := 30) hx hb (by first | omega | exact Nat.lt_of_lt_of_le (hG _ _) (by decide)) (by first | omega | exact Nat.lt_of_lt_of_le (hG _ _) (by decide)) dX12_lookAtParts_11 (by decide) (fun c1 => ?_) (fun c1 => ?_)
  · have ho : ¬ OPN G p9 fr := fun z => by have := z.1; omega
    have efx : FX G p9 fr = G 12 p9 := if_neg ho
    refine lv_iconst (v := nI 0) hx hb dX12_lookAtParts_30 (by decide) ?_
    refine lv_istore (lv' := [(5, .int (nI 0)), (4, .int (nI (G 12 p9))), (0, .ref z0), (1, .int (nI p9)), (2, .int (nI f)), (3, .int (nI fr))]) hx hb dX12_lookAtParts_31 hl (by decide) rfl (fun ls hl => ?_)
    refine lv_iload hx hb dX12_lookAtParts_33 (lv_at hl 0 rfl) ?_
    refine bz_eq (tgt := 45) hx hb (by first | omega | exact Nat.lt_of_lt_of_le (hG _ _) (by decide)) dX12_lookAtParts_35 (by decide) (fun c => ?_) (fun q9 => absurd q9 (by omega))
    refine lv_iload hx hb dX12_lookAtParts_45 (lv_at hl 1 rfl) ?_
    refine lv_istore (lv' := [(6, .int (nI (G 12 p9))), (5, .int (nI 0)), (4, .int (nI (G 12 p9))), (0, .ref z0), (1, .int (nI p9)), (2, .int (nI f)), (3, .int (nI fr))]) hx hb dX12_lookAtParts_47 hl (by decide) rfl (fun ls hl => ?_)
    refine lv_iload hx hb dX12_lookAtParts_49 (lv_at hl 1 rfl) ?_
    refine bz_eq (tgt := 73) hx hb (by first | omega | exact Nat.lt_of_lt_of_le (hG _ _) (by decide)) dX12_lookAtParts_51 (by decide) (fun c => ?_) (fun q9 => absurd q9 (by omega))
    refine lv_aload_n hx hb dX12_lookAtParts_73 rfl (lv_at hl 3 rfl) ?_
    refine mg_12 hx hb hts inX12_lookAtParts hown hK hP (hts _ lkX12_lookAtParts_f38) dX12_lookAtParts_74 ?_
    refine lv_iload_n hx hb dX12_lookAtParts_77 rfl (lv_at hl 5 rfl) ?_
    refine ml_12 hx hb hK hP (by omega) dX12_lookAtParts_78 ?_
    refine lv_iload hx hb dX12_lookAtParts_79 (lv_at hl 2 rfl) ?_
    refine bn_ne (tgt := 88) hx hb (by first | omega | exact Nat.lt_of_lt_of_le (hG _ _) (by decide)) (by first | omega | exact Nat.lt_of_lt_of_le (hG _ _) (by decide)) dX12_lookAtParts_81 (by decide) (fun c3 => ?_) (fun c3 => ?_)
    · refine lv_iconst (v := nI 0) hx hb dX12_lookAtParts_88 (by decide) ?_
      refine lv_istore (lv' := [(7, .int (nI 0)), (6, .int (nI (G 12 p9))), (5, .int (nI 0)), (4, .int (nI (G 12 p9))), (0, .ref z0), (1, .int (nI p9)), (2, .int (nI f)), (3, .int (nI fr))]) hx hb dX12_lookAtParts_89 hl (by decide) rfl (fun ls hl => ?_)
      refine lv_iload_n hx hb dX12_lookAtParts_91 rfl (lv_at hl 7 rfl) ?_
      refine lv_istore (lv' := [(8, .int (nI fr)), (7, .int (nI 0)), (6, .int (nI (G 12 p9))), (5, .int (nI 0)), (4, .int (nI (G 12 p9))), (0, .ref z0), (1, .int (nI p9)), (2, .int (nI f)), (3, .int (nI fr))]) hx hb dX12_lookAtParts_92 hl (by decide) rfl (fun ls hl => ?_)
      refine lv_iload hx hb dX12_lookAtParts_94 (lv_at hl 0 rfl) ?_
      refine lv_aload_n hx hb dX12_lookAtParts_96 rfl (lv_at hl 5 rfl) ?_
      refine mg_12 hx hb hts inX12_lookAtParts hown hK hP (hts _ lkX12_lookAtParts_f38) dX12_lookAtParts_97 ?_
      refine lv_iload_n hx hb dX12_lookAtParts_100 rfl (lv_at hl 7 rfl) ?_
      refine ml_12 hx hb hK hP (by omega) dX12_lookAtParts_101 ?_
      refine bn_ge (tgt := 147) hx hb (by first | omega | exact Nat.lt_of_lt_of_le (hG _ _) (by decide)) (by first | omega | exact Nat.lt_of_lt_of_le (hG _ _) (by decide)) dX12_lookAtParts_102 (by decide) (fun c4 => ?_) (fun c4 => ?_)
      · refine lv_iload hx hb dX12_lookAtParts_147 (lv_at hl 1 rfl) ?_
        exact W.zret (v := (nI 0)) hx hb hr (by first | rfl | decide) (fun t ht hW => ⟨⟨(nI 0), (N, G, B, pl), rfl, ⟨rfl, rfl, 0, rfl, by decide, fun _ => ⟨rfl, rfl⟩, fun y => absurd y (by decide)⟩, by rw [ht]; exact hP, va_K.moved hW.alike hK, hD⟩, hS.F ht⟩) hS.2.2 dX12_lookAtParts_149
      · refine lv_iload hx hb dX12_lookAtParts_105 (lv_at hl 1 rfl) ?_
        refine bz_eq (tgt := 147) hx hb (by first | omega | exact Nat.lt_of_lt_of_le (hG _ _) (by decide)) dX12_lookAtParts_107 (by decide) (fun c => ?_) (fun q9 => absurd q9 (by omega))
        refine lv_iload hx hb dX12_lookAtParts_147 (lv_at hl 1 rfl) ?_
        exact W.zret (v := (nI 0)) hx hb hr (by first | rfl | decide) (fun t ht hW => ⟨⟨(nI 0), (N, G, B, pl), rfl, ⟨rfl, rfl, 0, rfl, by decide, fun _ => ⟨rfl, rfl⟩, fun y => absurd y (by decide)⟩, by rw [ht]; exact hP, va_K.moved hW.alike hK, hD⟩, hS.F ht⟩) hS.2.2 dX12_lookAtParts_149
    · refine lv_iconst (v := nI 1) hx hb dX12_lookAtParts_84 (by decide) ?_
      refine lv_goto (tgt := 89) hx hb dX12_lookAtParts_85 (by decide) ?_
      refine lv_istore (lv' := [(7, .int (nI 1)), (6, .int (nI (G 12 p9))), (5, .int (nI 0)), (4, .int (nI (G 12 p9))), (0, .ref z0), (1, .int (nI p9)), (2, .int (nI f)), (3, .int (nI fr))]) hx hb dX12_lookAtParts_89 hl (by decide) rfl (fun ls hl => ?_)
      refine lv_iload_n hx hb dX12_lookAtParts_91 rfl (lv_at hl 7 rfl) ?_
      refine lv_istore (lv' := [(8, .int (nI fr)), (7, .int (nI 1)), (6, .int (nI (G 12 p9))), (5, .int (nI 0)), (4, .int (nI (G 12 p9))), (0, .ref z0), (1, .int (nI p9)), (2, .int (nI f)), (3, .int (nI fr))]) hx hb dX12_lookAtParts_92 hl (by decide) rfl (fun ls hl => ?_)
      have hP : va_P (dC, dI) vwCl (MW cB cC cI cJ cZ z0 R pl (va_up N 53 (N 53 + 0)) (LK G (G 50) (G 51) (G 52)) B) s.heap := by rw [show va_up N 53 (N 53 + 0) = N from va_upid N 53, LK_self]; exact hP
      have hD : va_D A (MW cB cC cI cJ cZ z0 R pl (va_up N 53 (N 53 + 0)) (LK G (G 50) (G 51) (G 52)) B) := by rw [show va_up N 53 (N 53 + 0) = N from va_upid N 53, LK_self]; exact hD
      refine lp_lap hx hb hml hown hts hK hA hG ht9 p9 f fr (G 12 p9) (N 53) (G 50) (G 51) (G 52) hp9 hf9 hfr (by omega) hq9 (fun k h1 h2 => by have := (r2 k h1 (Or.inl (by rw [efx]; omega))).1; rw [efx] at this; exact this) (fun L Hw O H locs hL hH hO hqa hP hD hS ls hl => ?_) _ 0 (G 50) (G 51) (G 52) (Nat.lt_succ_self _) (Or.inl rfl) (hG 50) (hG 51) (hG 52) QAPP.zero _ _ hP hD hS ls (lv_sub hl [5, 6, 7, 8, 2, 1, 0] rfl)
      refine lv_iload hx hb dX12_lookAtParts_147 (lv_at hl 0 rfl) ?_
      exact W.zret (v := (nI 1)) hx hb hr (by first | rfl | decide) (fun t ht hW => ⟨⟨(nI 1), (va_up N 53 (N 53 + (G 12 f - fr)), LK G L Hw O, B, pl), rfl, ⟨rfl, rfl, 1, rfl, by decide, fun y => absurd y (by decide), fun _ => ⟨⟨fun z => absurd z ho, fun _ => c3⟩, L, Hw, O, hL, hH, hO, rfl, rfl, by rw [efx]; exact hqa⟩⟩, by rw [ht]; exact hP, va_K.moved hW.alike hK, hD⟩, hS.F ht⟩) hS.2.2 dX12_lookAtParts_149
  · refine lv_aload_n hx hb dX12_lookAtParts_14 rfl (lv_at hl 1 rfl) ?_
    refine lv_iload_n hx hb dX12_lookAtParts_15 rfl (lv_at hl 2 rfl) ?_
    refine lv_iload hx hb dX12_lookAtParts_16 (lv_at hl 0 rfl) ?_
    refine lv_iconst (v := nI 1) hx hb dX12_lookAtParts_18 (by decide) ?_
    refine lv_isub hx hb dX12_lookAtParts_19 ?_
    refine tp_i (pk_sub (a := G 12 p9) (b := 1) (by omega)) ?_
    refine mcl_i (As := [.int (nI p9), .int (nI ((G 12 p9) - 1))]) (rest := []) ⟨hx, hb, hml, hown, hts⟩ (m_isEllipsis l dC dI cB cC cI cJ cZ z0 R pl N G B p9 ((G 12 p9) - 1) hG2 hal (by omega) (by omega) (fun y => ⟨(ht9.pt hp9 y).1, (ht9.pt hp9 y).2.2.1, (ht9.2 _ (ht9.pt hp9 y).2.1).2.2.2.1⟩) s.heap.size) (cwV 2 hts kX12_lookAtParts_X12_isEllipsis_321 rfl rfl rfl (by decide +kernel) ⟨Nat.le_of_ble_eq_true rfl, Nat.le_of_ble_eq_true rfl⟩) hK hP hD hS hA rfl rfl hl.1 (lv_room (Nat.le_of_ble_eq_true rfl)) dX12_lookAtParts_20 hcs (fun r_6 N_2 G_3 B_4 pl_5 hw H locs hP hD hS => ?_)
    dsimp only at hw
    obtain ⟨e1, e2, e3, e4, hw⟩ := hw
    rw [e1, e2, e3, e4] at hP hD
    have hw : r_6 = nI (if ELL G p9 ((G 12 p9) - 1) then 1 else 0) := hw
    by_cases c_1 : ELL G p9 ((G 12 p9) - 1)
    · rw [if_pos c_1] at hw
      subst hw
      have ho : OPN G p9 fr := ⟨by omega, c_1⟩
      have efx : FX G p9 fr = G 12 p9 - 2 := if_pos ho
      have ho2 := r1 ho
      refine bz_eq (tgt := 30) hx hb (by first | omega | exact Nat.lt_of_lt_of_le (hG _ _) (by decide)) dX12_lookAtParts_23 (by decide) (fun q9 => absurd q9 (by omega)) (fun c => ?_)
      refine lv_iconst (v := nI 1) hx hb dX12_lookAtParts_26 (by decide) ?_
      refine lv_goto (tgt := 31) hx hb dX12_lookAtParts_27 (by decide) ?_
      refine lv_istore (lv' := [(5, .int (nI 1)), (4, .int (nI (G 12 p9))), (0, .ref z0), (1, .int (nI p9)), (2, .int (nI f)), (3, .int (nI fr))]) hx hb dX12_lookAtParts_31 hl (by decide) rfl (fun ls hl => ?_)
      refine lv_iload hx hb dX12_lookAtParts_33 (lv_at hl 0 rfl) ?_
      refine bz_eq (tgt := 45) hx hb (by first | omega | exact Nat.lt_of_lt_of_le (hG _ _) (by decide)) dX12_lookAtParts_35 (by decide) (fun q9 => absurd q9 (by omega)) (fun c => ?_)
      refine lv_iload hx hb dX12_lookAtParts_38 (lv_at hl 1 rfl) ?_
      refine lv_iconst (v := nI 2) hx hb dX12_lookAtParts_40 (by decide) ?_
      refine lv_isub hx hb dX12_lookAtParts_41 ?_
      refine tp_i (pk_sub (a := G 12 p9) (b := 2) (by omega)) ?_
      refine lv_goto (tgt := 47) hx hb dX12_lookAtParts_42 (by decide) ?_
      refine lv_istore (lv' := [(6, .int (nI ((G 12 p9) - 2))), (5, .int (nI 1)), (4, .int (nI (G 12 p9))), (0, .ref z0), (1, .int (nI p9)), (2, .int (nI f)), (3, .int (nI fr))]) hx hb dX12_lookAtParts_47 hl (by decide) rfl (fun ls hl => ?_)
      refine lv_iload hx hb dX12_lookAtParts_49 (lv_at hl 1 rfl) ?_
      refine bz_eq (tgt := 73) hx hb (by first | omega | exact Nat.lt_of_lt_of_le (hG _ _) (by decide)) dX12_lookAtParts_51 (by decide) (fun q9 => absurd q9 (by omega)) (fun c => ?_)
      refine lv_aload_n hx hb dX12_lookAtParts_54 rfl (lv_at hl 3 rfl) ?_
      refine mg_12 hx hb hts inX12_lookAtParts hown hK hP (hts _ lkX12_lookAtParts_f38) dX12_lookAtParts_55 ?_
      refine lv_iload_n hx hb dX12_lookAtParts_58 rfl (lv_at hl 5 rfl) ?_
      refine ml_12 hx hb hK hP (by omega) dX12_lookAtParts_59 ?_
      refine lv_iload hx hb dX12_lookAtParts_60 (lv_at hl 0 rfl) ?_
      refine bn_lt (tgt := 69) hx hb (by first | omega | exact Nat.lt_of_lt_of_le (hG _ _) (by decide)) (by first | omega | exact Nat.lt_of_lt_of_le (hG _ _) (by decide)) dX12_lookAtParts_62 (by decide) (fun c3 => ?_) (fun c3 => ?_)
      · refine lv_iconst (v := nI 0) hx hb dX12_lookAtParts_69 (by decide) ?_
        refine lv_goto (tgt := 89) hx hb dX12_lookAtParts_70 (by decide) ?_
        refine lv_istore (lv' := [(7, .int (nI 0)), (6, .int (nI ((G 12 p9) - 2))), (5, .int (nI 1)), (4, .int (nI (G 12 p9))), (0, .ref z0), (1, .int (nI p9)), (2, .int (nI f)), (3, .int (nI fr))]) hx hb dX12_lookAtParts_89 hl (by decide) rfl (fun ls hl => ?_)
        refine lv_iload_n hx hb dX12_lookAtParts_91 rfl (lv_at hl 7 rfl) ?_
        refine lv_istore (lv' := [(8, .int (nI fr)), (7, .int (nI 0)), (6, .int (nI ((G 12 p9) - 2))), (5, .int (nI 1)), (4, .int (nI (G 12 p9))), (0, .ref z0), (1, .int (nI p9)), (2, .int (nI f)), (3, .int (nI fr))]) hx hb dX12_lookAtParts_92 hl (by decide) rfl (fun ls hl => ?_)
        refine lv_iload hx hb dX12_lookAtParts_94 (lv_at hl 0 rfl) ?_
        refine lv_aload_n hx hb dX12_lookAtParts_96 rfl (lv_at hl 5 rfl) ?_
        refine mg_12 hx hb hts inX12_lookAtParts hown hK hP (hts _ lkX12_lookAtParts_f38) dX12_lookAtParts_97 ?_
        refine lv_iload_n hx hb dX12_lookAtParts_100 rfl (lv_at hl 7 rfl) ?_
        refine ml_12 hx hb hK hP (by omega) dX12_lookAtParts_101 ?_
        refine bn_ge (tgt := 147) hx hb (by first | omega | exact Nat.lt_of_lt_of_le (hG _ _) (by decide)) (by first | omega | exact Nat.lt_of_lt_of_le (hG _ _) (by decide)) dX12_lookAtParts_102 (by decide) (fun c4 => ?_) (fun c4 => ?_)
        · refine lv_iload hx hb dX12_lookAtParts_147 (lv_at hl 1 rfl) ?_
          exact W.zret (v := (nI 0)) hx hb hr (by first | rfl | decide) (fun t ht hW => ⟨⟨(nI 0), (N, G, B, pl), rfl, ⟨rfl, rfl, 0, rfl, by decide, fun _ => ⟨rfl, rfl⟩, fun y => absurd y (by decide)⟩, by rw [ht]; exact hP, va_K.moved hW.alike hK, hD⟩, hS.F ht⟩) hS.2.2 dX12_lookAtParts_149
        · refine lv_iload hx hb dX12_lookAtParts_105 (lv_at hl 1 rfl) ?_
          refine bz_eq (tgt := 147) hx hb (by first | omega | exact Nat.lt_of_lt_of_le (hG _ _) (by decide)) dX12_lookAtParts_107 (by decide) (fun c => ?_) (fun q9 => absurd q9 (by omega))
          refine lv_iload hx hb dX12_lookAtParts_147 (lv_at hl 1 rfl) ?_
          exact W.zret (v := (nI 0)) hx hb hr (by first | rfl | decide) (fun t ht hW => ⟨⟨(nI 0), (N, G, B, pl), rfl, ⟨rfl, rfl, 0, rfl, by decide, fun _ => ⟨rfl, rfl⟩, fun y => absurd y (by decide)⟩, by rw [ht]; exact hP, va_K.moved hW.alike hK, hD⟩, hS.F ht⟩) hS.2.2 dX12_lookAtParts_149
      · refine lv_iconst (v := nI 1) hx hb dX12_lookAtParts_65 (by decide) ?_
        refine lv_goto (tgt := 89) hx hb dX12_lookAtParts_66 (by decide) ?_
        refine lv_istore (lv' := [(7, .int (nI 1)), (6, .int (nI ((G 12 p9) - 2))), (5, .int (nI 1)), (4, .int (nI (G 12 p9))), (0, .ref z0), (1, .int (nI p9)), (2, .int (nI f)), (3, .int (nI fr))]) hx hb dX12_lookAtParts_89 hl (by decide) rfl (fun ls hl => ?_)
        refine lv_iload_n hx hb dX12_lookAtParts_91 rfl (lv_at hl 7 rfl) ?_
        refine lv_istore (lv' := [(8, .int (nI fr)), (7, .int (nI 1)), (6, .int (nI ((G 12 p9) - 2))), (5, .int (nI 1)), (4, .int (nI (G 12 p9))), (0, .ref z0), (1, .int (nI p9)), (2, .int (nI f)), (3, .int (nI fr))]) hx hb dX12_lookAtParts_92 hl (by decide) rfl (fun ls hl => ?_)
        have hP : va_P (dC, dI) vwCl (MW cB cC cI cJ cZ z0 R pl (va_up N 53 (N 53 + 0)) (LK G (G 50) (G 51) (G 52)) B) H := by rw [show va_up N 53 (N 53 + 0) = N from va_upid N 53, LK_self]; exact hP
        have hD : va_D A (MW cB cC cI cJ cZ z0 R pl (va_up N 53 (N 53 + 0)) (LK G (G 50) (G 51) (G 52)) B) := by rw [show va_up N 53 (N 53 + 0) = N from va_upid N 53, LK_self]; exact hD
        refine lp_lap hx hb hml hown hts hK hA hG ht9 p9 f fr (G 12 p9 - 2) (N 53) (G 50) (G 51) (G 52) hp9 hf9 hfr (by omega) hq9 (fun k h1 h2 => by have := (r2 k h1 (Or.inr ho)).1; rw [efx] at this; exact this) (fun L Hw O H locs hL hH hO hqa hP hD hS ls hl => ?_) _ 0 (G 50) (G 51) (G 52) (Nat.lt_succ_self _) (Or.inl rfl) (hG 50) (hG 51) (hG 52) QAPP.zero _ _ hP hD hS ls (lv_sub hl [5, 6, 7, 8, 2, 1, 0] rfl)
        refine lv_iload hx hb dX12_lookAtParts_147 (lv_at hl 0 rfl) ?_
        exact W.zret (v := (nI 1)) hx hb hr (by first | rfl | decide) (fun t ht hW => ⟨⟨(nI 1), (va_up N 53 (N 53 + (G 12 f - fr)), LK G L Hw O, B, pl), rfl, ⟨rfl, rfl, 1, rfl, by decide, fun y => absurd y (by decide), fun _ => ⟨⟨fun _ => by rw [efx]; omega, fun z => absurd ho z⟩, L, Hw, O, hL, hH, hO, rfl, rfl, by rw [efx]; exact hqa⟩⟩, by rw [ht]; exact hP, va_K.moved hW.alike hK, hD⟩, hS.F ht⟩) hS.2.2 dX12_lookAtParts_149
    · rw [if_neg c_1] at hw
      subst hw
      have ho : ¬ OPN G p9 fr := fun z => c_1 z.2
      have efx : FX G p9 fr = G 12 p9 := if_neg ho
      refine bz_eq (tgt := 30) hx hb (by first | omega | exact Nat.lt_of_lt_of_le (hG _ _) (by decide)) dX12_lookAtParts_23 (by decide) (fun c => ?_) (fun q9 => absurd q9 (by omega))
      refine lv_iconst (v := nI 0) hx hb dX12_lookAtParts_30 (by decide) ?_
      refine lv_istore (lv' := [(5, .int (nI 0)), (4, .int (nI (G 12 p9))), (0, .ref z0), (1, .int (nI p9)), (2, .int (nI f)), (3, .int (nI fr))]) hx hb dX12_lookAtParts_31 hl (by decide) rfl (fun ls hl => ?_)
      refine lv_iload hx hb dX12_lookAtParts_33 (lv_at hl 0 rfl) ?_
      refine bz_eq (tgt := 45) hx hb (by first | omega | exact Nat.lt_of_lt_of_le (hG _ _) (by decide)) dX12_lookAtParts_35 (by decide) (fun c => ?_) (fun q9 => absurd q9 (by omega))
      refine lv_iload hx hb dX12_lookAtParts_45 (lv_at hl 1 rfl) ?_
      refine lv_istore (lv' := [(6, .int (nI (G 12 p9))), (5, .int (nI 0)), (4, .int (nI (G 12 p9))), (0, .ref z0), (1, .int (nI p9)), (2, .int (nI f)), (3, .int (nI fr))]) hx hb dX12_lookAtParts_47 hl (by decide) rfl (fun ls hl => ?_)
      refine lv_iload hx hb dX12_lookAtParts_49 (lv_at hl 1 rfl) ?_
      refine bz_eq (tgt := 73) hx hb (by first | omega | exact Nat.lt_of_lt_of_le (hG _ _) (by decide)) dX12_lookAtParts_51 (by decide) (fun c => ?_) (fun q9 => absurd q9 (by omega))
      refine lv_aload_n hx hb dX12_lookAtParts_73 rfl (lv_at hl 3 rfl) ?_
      refine mg_12 hx hb hts inX12_lookAtParts hown hK hP (hts _ lkX12_lookAtParts_f38) dX12_lookAtParts_74 ?_
      refine lv_iload_n hx hb dX12_lookAtParts_77 rfl (lv_at hl 5 rfl) ?_
      refine ml_12 hx hb hK hP (by omega) dX12_lookAtParts_78 ?_
      refine lv_iload hx hb dX12_lookAtParts_79 (lv_at hl 2 rfl) ?_
      refine bn_ne (tgt := 88) hx hb (by first | omega | exact Nat.lt_of_lt_of_le (hG _ _) (by decide)) (by first | omega | exact Nat.lt_of_lt_of_le (hG _ _) (by decide)) dX12_lookAtParts_81 (by decide) (fun c3 => ?_) (fun c3 => ?_)
      · refine lv_iconst (v := nI 0) hx hb dX12_lookAtParts_88 (by decide) ?_
        refine lv_istore (lv' := [(7, .int (nI 0)), (6, .int (nI (G 12 p9))), (5, .int (nI 0)), (4, .int (nI (G 12 p9))), (0, .ref z0), (1, .int (nI p9)), (2, .int (nI f)), (3, .int (nI fr))]) hx hb dX12_lookAtParts_89 hl (by decide) rfl (fun ls hl => ?_)
        refine lv_iload_n hx hb dX12_lookAtParts_91 rfl (lv_at hl 7 rfl) ?_
        refine lv_istore (lv' := [(8, .int (nI fr)), (7, .int (nI 0)), (6, .int (nI (G 12 p9))), (5, .int (nI 0)), (4, .int (nI (G 12 p9))), (0, .ref z0), (1, .int (nI p9)), (2, .int (nI f)), (3, .int (nI fr))]) hx hb dX12_lookAtParts_92 hl (by decide) rfl (fun ls hl => ?_)
        refine lv_iload hx hb dX12_lookAtParts_94 (lv_at hl 0 rfl) ?_
        refine lv_aload_n hx hb dX12_lookAtParts_96 rfl (lv_at hl 5 rfl) ?_
        refine mg_12 hx hb hts inX12_lookAtParts hown hK hP (hts _ lkX12_lookAtParts_f38) dX12_lookAtParts_97 ?_
        refine lv_iload_n hx hb dX12_lookAtParts_100 rfl (lv_at hl 7 rfl) ?_
        refine ml_12 hx hb hK hP (by omega) dX12_lookAtParts_101 ?_
        refine bn_ge (tgt := 147) hx hb (by first | omega | exact Nat.lt_of_lt_of_le (hG _ _) (by decide)) (by first | omega | exact Nat.lt_of_lt_of_le (hG _ _) (by decide)) dX12_lookAtParts_102 (by decide) (fun c4 => ?_) (fun c4 => ?_)
        · refine lv_iload hx hb dX12_lookAtParts_147 (lv_at hl 1 rfl) ?_
          exact W.zret (v := (nI 0)) hx hb hr (by first | rfl | decide) (fun t ht hW => ⟨⟨(nI 0), (N, G, B, pl), rfl, ⟨rfl, rfl, 0, rfl, by decide, fun _ => ⟨rfl, rfl⟩, fun y => absurd y (by decide)⟩, by rw [ht]; exact hP, va_K.moved hW.alike hK, hD⟩, hS.F ht⟩) hS.2.2 dX12_lookAtParts_149
        · refine lv_iload hx hb dX12_lookAtParts_105 (lv_at hl 1 rfl) ?_
          refine bz_eq (tgt := 147) hx hb (by first | omega | exact Nat.lt_of_lt_of_le (hG _ _) (by decide)) dX12_lookAtParts_107 (by decide) (fun c => ?_) (fun q9 => absurd q9 (by omega))
          refine lv_iload hx hb dX12_lookAtParts_147 (lv_at hl 1 rfl) ?_
          exact W.zret (v := (nI 0)) hx hb hr (by first | rfl | decide) (fun t ht hW => ⟨⟨(nI 0), (N, G, B, pl), rfl, ⟨rfl, rfl, 0, rfl, by decide, fun _ => ⟨rfl, rfl⟩, fun y => absurd y (by decide)⟩, by rw [ht]; exact hP, va_K.moved hW.alike hK, hD⟩, hS.F ht⟩) hS.2.2 dX12_lookAtParts_149
      · refine lv_iconst (v := nI 1) hx hb dX12_lookAtParts_84 (by decide) ?_
        refine lv_goto (tgt := 89) hx hb dX12_lookAtParts_85 (by decide) ?_
        refine lv_istore (lv' := [(7, .int (nI 1)), (6, .int (nI (G 12 p9))), (5, .int (nI 0)), (4, .int (nI (G 12 p9))), (0, .ref z0), (1, .int (nI p9)), (2, .int (nI f)), (3, .int (nI fr))]) hx hb dX12_lookAtParts_89 hl (by decide) rfl (fun ls hl => ?_)
        refine lv_iload_n hx hb dX12_lookAtParts_91 rfl (lv_at hl 7 rfl) ?_
        refine lv_istore (lv' := [(8, .int (nI fr)), (7, .int (nI 1)), (6, .int (nI (G 12 p9))), (5, .int (nI 0)), (4, .int (nI (G 12 p9))), (0, .ref z0), (1, .int (nI p9)), (2, .int (nI f)), (3, .int (nI fr))]) hx hb dX12_lookAtParts_92 hl (by decide) rfl (fun ls hl => ?_)
        have hP : va_P (dC, dI) vwCl (MW cB cC cI cJ cZ z0 R pl (va_up N 53 (N 53 + 0)) (LK G (G 50) (G 51) (G 52)) B) H := by rw [show va_up N 53 (N 53 + 0) = N from va_upid N 53, LK_self]; exact hP
        have hD : va_D A (MW cB cC cI cJ cZ z0 R pl (va_up N 53 (N 53 + 0)) (LK G (G 50) (G 51) (G 52)) B) := by rw [show va_up N 53 (N 53 + 0) = N from va_upid N 53, LK_self]; exact hD
        refine lp_lap hx hb hml hown hts hK hA hG ht9 p9 f fr (G 12 p9) (N 53) (G 50) (G 51) (G 52) hp9 hf9 hfr (by omega) hq9 (fun k h1 h2 => by have := (r2 k h1 (Or.inl (by rw [efx]; omega))).1; rw [efx] at this; exact this) (fun L Hw O H locs hL hH hO hqa hP hD hS ls hl => ?_) _ 0 (G 50) (G 51) (G 52) (Nat.lt_succ_self _) (Or.inl rfl) (hG 50) (hG 51) (hG 52) QAPP.zero _ _ hP hD hS ls (lv_sub hl [5, 6, 7, 8, 2, 1, 0] rfl)
        refine lv_iload hx hb dX12_lookAtParts_147 (lv_at hl 0 rfl) ?_
        exact W.zret (v := (nI 1)) hx hb hr (by first | rfl | decide) (fun t ht hW => ⟨⟨(nI 1), (va_up N 53 (N 53 + (G 12 f - fr)), LK G L Hw O, B, pl), rfl, ⟨rfl, rfl, 1, rfl, by decide, fun y => absurd y (by decide), fun _ => ⟨⟨fun z => absurd z ho, fun _ => c3⟩, L, Hw, O, hL, hH, hO, rfl, rfl, by rw [efx]; exact hqa⟩⟩, by rw [ht]; exact hP, va_K.moved hW.alike hK, hD⟩, hS.F ht⟩) hS.2.2 dX12_lookAtParts_149
