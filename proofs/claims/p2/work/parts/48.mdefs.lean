def oX12_defineSyntax : List Cond := [Cond.methodLink RX12 192 yX12_part, Cond.instanceMethod yX12_part, Cond.selects RX12 yX12_part yX12_part, Cond.initialized RX12, Cond.methodLink RX12 303 yX12_areRules, Cond.instanceMethod yX12_areRules, Cond.selects RX12 yX12_areRules yX12_areRules, Cond.methodLink RX12 255 yX12_need, Cond.instanceMethod yX12_need, Cond.selects RX12 yX12_need yX12_need, Cond.fieldLink RX12 390 "MacroScopesModel" "ruleSize" "I", Cond.methodLink RX12 370 yX12_sizeOf, Cond.instanceMethod yX12_sizeOf, Cond.selects RX12 yX12_sizeOf yX12_sizeOf, Cond.fieldLink RX12 25 "MacroScopesModel" "defined" "[I"]
def vX12_defineSyntax : List Cond := .code yX12_defineSyntax cX12_defineSyntax 4 none :: (oX12_defineSyntax ++ (vX12_part ++ (vX12_areRules ++ (vX12_need ++ (vX12_sizeOf ++ (wsX120))))))
theorem lkX12_defineSyntax_f390 : Cond.fieldLink RX12 390 "MacroScopesModel" "ruleSize" "I" ∈ vX12_defineSyntax := List.mem_cons_of_mem _ (List.mem_append_left _ (List.mem_of_getElem? (i := 10) rfl))
theorem lkX12_defineSyntax_f25 : Cond.fieldLink RX12 25 "MacroScopesModel" "defined" "[I" ∈ vX12_defineSyntax := List.mem_cons_of_mem _ (List.mem_append_left _ (List.mem_of_getElem? (i := 14) rfl))
theorem inX12_defineSyntax : ∀ w ∈ wsX120, w ∈ vX12_defineSyntax := fun w h => List.mem_cons_of_mem _ (List.mem_append_right _ (List.mem_append_right _ (List.mem_append_right _ (List.mem_append_right _ (List.mem_append_right _ (h))))))
theorem kX12_defineSyntax_X12_part_192 : GoodIn vX12_defineSyntax (wsV RX12 192 RX12 yX12_part vX12_part) := goodIn_sub (fun w h => (List.mem_append.mp h).elim (fun h => List.mem_cons_of_mem _ (List.mem_append_left _ ((by decide +kernel : ∀ w ∈ ([.methodLink RX12 192 yX12_part, .instanceMethod yX12_part, .selects RX12 yX12_part yX12_part, .initialized RX12] : List Cond), w ∈ oX12_defineSyntax) w h))) (fun h => List.mem_cons_of_mem _ (List.mem_append_right _ (List.mem_append_left _ (h))))) (by decide +kernel)
theorem kX12_defineSyntax_X12_areRules_303 : GoodIn vX12_defineSyntax (wsV RX12 303 RX12 yX12_areRules vX12_areRules) := goodIn_sub (fun w h => (List.mem_append.mp h).elim (fun h => List.mem_cons_of_mem _ (List.mem_append_left _ ((by decide +kernel : ∀ w ∈ ([.methodLink RX12 303 yX12_areRules, .instanceMethod yX12_areRules, .selects RX12 yX12_areRules yX12_areRules, .initialized RX12] : List Cond), w ∈ oX12_defineSyntax) w h))) (fun h => List.mem_cons_of_mem _ (List.mem_append_right _ (List.mem_append_right _ (List.mem_append_left _ (h)))))) (by decide +kernel)
theorem kX12_defineSyntax_X12_need_255 : GoodIn vX12_defineSyntax (wsV RX12 255 RX12 yX12_need vX12_need) := goodIn_sub (fun w h => (List.mem_append.mp h).elim (fun h => List.mem_cons_of_mem _ (List.mem_append_left _ ((by decide +kernel : ∀ w ∈ ([.methodLink RX12 255 yX12_need, .instanceMethod yX12_need, .selects RX12 yX12_need yX12_need, .initialized RX12] : List Cond), w ∈ oX12_defineSyntax) w h))) (fun h => List.mem_cons_of_mem _ (List.mem_append_right _ (List.mem_append_right _ (List.mem_append_right _ (List.mem_append_left _ (h))))))) (by decide +kernel)
theorem kX12_defineSyntax_X12_sizeOf_370 : GoodIn vX12_defineSyntax (wsV RX12 370 RX12 yX12_sizeOf vX12_sizeOf) := goodIn_sub (fun w h => (List.mem_append.mp h).elim (fun h => List.mem_cons_of_mem _ (List.mem_append_left _ ((by decide +kernel : ∀ w ∈ ([.methodLink RX12 370 yX12_sizeOf, .instanceMethod yX12_sizeOf, .selects RX12 yX12_sizeOf yX12_sizeOf, .initialized RX12] : List Cond), w ∈ oX12_defineSyntax) w h))) (fun h => List.mem_cons_of_mem _ (List.mem_append_right _ (List.mem_append_right _ (List.mem_append_right _ (List.mem_append_right _ (List.mem_append_left _ (h)))))))) (by decide +kernel)
set_option maxHeartbeats 4000000 in
set_option maxRecDepth 100000 in
/-- defineSyntax -/
theorem m_defineSyntax (l : Launch) (dC : Nat → ClassId) (dI : Nat → Nat → Nat) (cB cC cI cJ cZ : ClassId) (z0 : Nat) (R : Nat → Nat) (pl : Int32) (N : Nat → Nat) (G : Nat → Nat → Nat) (B : Nat → Nat → Int32) (f y t R1 x : Nat) (sz az : Nat → Nat) (hxi : XI N G sz az) (h33 : N 33 = 0) (hrq : RQ N G sz t) (hpl : PLN N G t) (hf : f < t) (h12 : 2 < G 12 f) (hy : y < N 6) (hph : PHI N R1 ≤ x) (s0 : Nat) : Met l yX12_defineSyntax vX12_defineSyntax { frames := 5, cells := 0, slots := 0, locals := 122 } (va_Pc [.ref z0, .int (nI f), .int (nI y)] (mPre dC dI cB cC cI cJ cZ z0 R pl N G B s0)) (va_Qv (fun u : ((Nat → Nat) × (Nat → Nat → Nat) × (Nat → Nat → Int32) × Int32) => match u with | (N1, G1, B1, pl1) => pl1 = pl ∧ ∃ sz1 az1, XI N1 G1 sz1 az1 ∧ RQ N1 G1 sz1 t ∧ XU N G B sz N1 G1 B1 sz1 ∧ (N1 33 = 0 → PHI N1 R1 ≤ x)) (mPost dC dI cB cC cI cJ cZ z0 R (va_A (MW cB cC cI cJ cZ z0 R pl N G B) s0)) (va_A (MW cB cC cI cJ cZ z0 R pl N G B) s0)) 0 0 (va_A (MW cB cC cI cJ cZ z0 R pl N G B) s0) := by
  refine Met.ofW (cc := cX12_defineSyntax) (maxL := 4) (ret := none) (by decide) rfl ?_
  intro p e s m args below meth c s₁ B9 hml hv
  obtain ⟨rfl, hsz, hP, hK, hD0⟩ := hv
  have hx := B9.exec
  have hb := B9.bytes
  have hr := B9.returns
  have hts := atoms_spec (ws := vX12_defineSyntax) B9.pre
  have hown : s.vm.findClass RX12 = some m.cls := findClass_of_methodNamed B9.named
  have hlocks := B9.notSynchronized
  subst hsz
  have hD := hD0.self (sz := s.heap.size)
  generalize hAe : va_A (MW cB cC cI cJ cZ z0 R pl N G B) s.heap.size = A at hD ⊢
  have hA : ∀ q : Nat, s.heap.size ≤ q → A q := fun q h => by rw [← hAe]; exact Or.inr h
  have hS : va_S A s.heap s.heap [] := va_S.rf
  have hcs : 0 + 0 ≤ (0 : Nat) ∧ 0 + 0 ≤ (0 : Nat) := ⟨Nat.le_refl 0, Nat.le_refl 0⟩
  have hl := lv_entry ([.ref z0, .int (nI f), .int (nI y)]) (n := 4) (Nat.le_of_ble_eq_true rfl)
  rw [lg_entry_eq]
  generalize (lg_sl ([.ref z0, .int (nI f), .int (nI y)]) ++ List.replicate (4 - (lg_sl ([.ref z0, .int (nI f), .int (nI y)])).length) Slot.unset).toArray = ls at hl ⊢
  have hl : lv_has ls 4 [(0, .ref z0), (1, .int (nI f)), (2, .int (nI y))] := hl
  have ht9 := hxi.1.2.2.1
  have hG := hxi.1.1
  have hG2 := hG
  have hal := hxi.1.2.1
  have u6 := ht9.1
  have hpl1 := hpl.1
  have hfN : f < N 14 := by omega
  have u1 := ht9.one hfN
  have hf8 : f < 90000 := by omega
  have hnf := hxi.2.2.2.2.2.1
  have hlt := hxi.2.2.2.2.1
  have hev := hxi.2.2.2.1
  have h9b := hrq.2.2.1
  have h1n := hev.1
  have h65 := hal.1
  obtain ⟨rl, erl⟩ : ∃ rl, rl = CH G f 2 := ⟨_, rfl⟩
  have hrt := (hpl.2 f hf).1 2 h12
  rw [← erl] at hrt
  have hrN : rl < N 14 := by omega
  have hs1 := (ht9.2 rl hrN).2.1
  refine lv_aload_n hx hb dX12_defineSyntax_0 rfl (lv_at hl 0 rfl) ?_
  refine lv_iload_n hx hb dX12_defineSyntax_1 rfl (lv_at hl 1 rfl) ?_
  refine lv_iconst (v := nI 2) hx hb dX12_defineSyntax_2 (by decide) ?_
  obtain ⟨t_1, t_1b, t_1c, t_1d⟩ := ht9.pt (f := f) (k := 2) (hfN) (h12)
  refine mcl_i (As := [.int (nI f), .int (nI 2)]) (rest := []) ⟨hx, hb, hml, hown, hts⟩ (m_part l dC dI cB cC cI cJ cZ z0 R pl N G B f 2 hG2 t_1d t_1 s.heap.size) (cwV 2 hts kX12_defineSyntax_X12_part_192 rfl rfl rfl (by decide +kernel) ⟨Nat.le_of_ble_eq_true rfl, Nat.le_of_ble_eq_true rfl⟩) hK hP hD hS hA rfl rfl hl.1 (lv_room (Nat.le_of_ble_eq_true rfl)) dX12_defineSyntax_3 hcs (fun r_6 N_2 G_3 B_4 pl_5 hw H locs hP hD hS => ?_)
  dsimp only at hw
  obtain ⟨e1, e2, e3, e4, hw⟩ := hw
  rw [e1, e2, e3, e4] at hP hD
  have hw : r_6 = nI (CH G f 2) := hw
  subst hw
  refine tp_i (y := nI rl) (by rw [erl]) ?_
  refine lv_istore_n (lv' := [(3, .int (nI rl)), (0, .ref z0), (1, .int (nI f)), (2, .int (nI y))]) hx hb dX12_defineSyntax_6 rfl hl (by decide) rfl (fun ls hl => ?_)
  refine lv_aload_n hx hb dX12_defineSyntax_7 rfl (lv_at hl 1 rfl) ?_
  refine lv_aload_n hx hb dX12_defineSyntax_8 rfl (lv_at hl 1 rfl) ?_
  refine lv_iload_n hx hb dX12_defineSyntax_9 rfl (lv_at hl 0 rfl) ?_
  refine lv_iconst (v := nI 0) hx hb dX12_defineSyntax_10 (by decide) ?_
  refine mcl_i (As := [.int (nI rl), .int (nI 0)]) (rest := [.ref z0]) ⟨hx, hb, hml, hown, hts⟩ (m_areRules l dC dI cB cC cI cJ cZ z0 R pl N G B rl 0 sz az hG2 ht9 hxi.2.2.1.1 hal hev hnf.1 hnf.2.1 hrN hev.1 H.size) (cwV 2 hts kX12_defineSyntax_X12_areRules_303 rfl rfl rfl (by decide +kernel) ⟨Nat.le_of_ble_eq_true rfl, Nat.le_of_ble_eq_true rfl⟩) hK hP hD hS hA rfl rfl hl.1 (lv_room (Nat.le_of_ble_eq_true rfl)) dX12_defineSyntax_11 hcs (fun r_11 N_7 G_8 B_9 pl_10 hw H locs hP hD hS => ?_)
  dsimp only at hw
  obtain ⟨e3, e4, vc, q, fi, g, hg, hvc, hq, e1, e2, hw, hfi, hrl⟩ := hw
  rw [e1, e2, e3, e4] at hP hD
  subst hw
  have hxs : XI (SCN N vc q) (SCG G g) sz az := hxi.congr (SCG_bd hG hg) (fun k hk => by rw [SCN, va_up_ne _ _ (by omega), va_up_ne _ _ (by omega)]) hvc hq (fun k hk => if_neg (by omega))
  have hxt : XT N G B sz (SCN N vc q) (SCG G g) B sz := ⟨fun k hk => by rw [SCN, va_up_ne _ _ (by omega), va_up_ne _ _ (by omega)], fun k hk => if_neg (by omega), fun _ _ => rfl, Nat.le_refl _, fun _ _ => rfl, Nat.le_refl _, fun _ _ => ⟨rfl, rfl, rfl⟩, fun _ _ => rfl⟩
  have hrs := hxt.rq hpl1 hrq
  have hGs := hxs.1.1
  rcases (show fi = 0 ∨ fi = 1 by omega) with hz | hz
  · subst hz
    refine lv_iconst (v := nI 3) hx hb dX12_defineSyntax_14 (by decide) ?_
    refine mcl_i (As := [.int (nI 0), .int (nI 3)]) (rest := []) ⟨hx, hb, hml, hown, hts⟩ (m_need l dC dI cB cC cI cJ cZ z0 R pl (SCN N vc q) (SCG G g) B 0 3 (by decide) ⟨by decide, by decide⟩ (show (SCN N vc q) 33 = 0 from h33) H.size) (cwV 2 hts kX12_defineSyntax_X12_need_255 rfl rfl rfl (by decide +kernel) ⟨Nat.le_of_ble_eq_true rfl, Nat.le_of_ble_eq_true rfl⟩) hK hP hD hS hA rfl rfl hl.1 (lv_room (Nat.le_of_ble_eq_true rfl)) dX12_defineSyntax_15 hcs (fun r_16 N_12 G_13 B_14 pl_15 hw H locs hP hD hS => ?_)
    dsimp only at hw
    obtain ⟨e3, e4, e2, hw, e5, e6⟩ := hw
    rw [e6 rfl, e2, e3, e4] at hP hD
    subst hw
    refine bz_eq (tgt := 73) hx hb (by first | omega | exact Nat.lt_of_lt_of_le (hG _ _) (by decide)) dX12_defineSyntax_18 (by decide) (fun c => ?_) (fun q9 => absurd q9 (by omega))
    exact W.vret hx hb hr (fun t ht hW => ⟨⟨(va_up (SCN N vc q) 33 3, SCG G g, B, pl), rfl, ⟨rfl, sz, az, XI.fault hxs (by decide) (by decide), hrs, hxt.u.trans (XT.u (XT.nums (fun k hk => va_up_ne _ _ (by omega)))), fun z => absurd (show (3 : Nat) = 0 from z) (by decide)⟩, by rw [ht]; exact hP, va_K.moved hW.alike hK, hD⟩, hS.F ht⟩) hS.2.2 dX12_defineSyntax_73
  · subst hz
    refine lv_iconst (v := nI 3) hx hb dX12_defineSyntax_14 (by decide) ?_
    refine mcl_i (As := [.int (nI 1), .int (nI 3)]) (rest := []) ⟨hx, hb, hml, hown, hts⟩ (m_need l dC dI cB cC cI cJ cZ z0 R pl (SCN N vc q) (SCG G g) B 1 3 (by decide) ⟨by decide, by decide⟩ (show (SCN N vc q) 33 = 0 from h33) H.size) (cwV 2 hts kX12_defineSyntax_X12_need_255 rfl rfl rfl (by decide +kernel) ⟨Nat.le_of_ble_eq_true rfl, Nat.le_of_ble_eq_true rfl⟩) hK hP hD hS hA rfl rfl hl.1 (lv_room (Nat.le_of_ble_eq_true rfl)) dX12_defineSyntax_15 hcs (fun r_21 N_17 G_18 B_19 pl_20 hw H locs hP hD hS => ?_)
    dsimp only at hw
    obtain ⟨e3, e4, e2, hw, e5, e6⟩ := hw
    rw [e5 rfl, e2, e3, e4] at hP hD
    subst hw
    have hro := hrl rfl
    refine bz_eq (tgt := 73) hx hb (by first | omega | exact Nat.lt_of_lt_of_le (hG _ _) (by decide)) dX12_defineSyntax_18 (by decide) (fun q9 => absurd q9 (by omega)) (fun c => ?_)
    refine lv_aload_n hx hb dX12_defineSyntax_21 rfl (lv_at hl 1 rfl) ?_
    refine lv_aload_n hx hb dX12_defineSyntax_22 rfl (lv_at hl 1 rfl) ?_
    refine mg_9 hx hb hts inX12_defineSyntax hown hK hP (hts _ lkX12_defineSyntax_f390) dX12_defineSyntax_23 ?_
    refine tp_i (y := nI (N 9)) rfl ?_
    refine lv_aload_n hx hb dX12_defineSyntax_26 rfl (lv_at hl 1 rfl) ?_
    refine lv_iload_n hx hb dX12_defineSyntax_27 rfl (lv_at hl 0 rfl) ?_
    refine mcl_i (As := [.int (nI rl)]) (rest := [.int (nI (N 9)), .ref z0]) ⟨hx, hb, hml, hown, hts⟩ (m_sizeOf l dC dI cB cC cI cJ cZ z0 R pl (SCN N vc q) (SCG G g) B rl sz hGs (show TREE _ _ sz from hxs.1.2.2.1) (show TREQ _ _ sz from hxs.2.1) hrN H.size) (cwV 1 hts kX12_defineSyntax_X12_sizeOf_370 rfl rfl rfl (by decide +kernel) ⟨Nat.le_of_ble_eq_true rfl, Nat.le_of_ble_eq_true rfl⟩) hK hP hD hS hA rfl rfl hl.1 (lv_room (Nat.le_of_ble_eq_true rfl)) dX12_defineSyntax_28 hcs (fun r_26 N_22 G_23 B_24 pl_25 hw H locs hP hD hS => ?_)
    dsimp only at hw
    obtain ⟨e1, ⟨I_27, hI, e2⟩, e3, e4, hw⟩ := hw
    rw [e1, e2, e3, e4] at hP hD
    subst hw
    rw [SCG_up (by omega : 47 ≤ 54 ∧ 54 ≤ 57)] at hP hD
    have hg2 : ∀ k i, (va_up (SCG G g) 54 I_27) k i < 1048576 := hGup hGs hI
    generalize va_up (SCG G g) 54 I_27 = g2 at hP hD hg2
    have hxs2 : XI (SCN N vc q) (SCG G g2) sz az := hxi.congr (SCG_bd hG hg2) (fun k hk => by rw [SCN, va_up_ne _ _ (by omega), va_up_ne _ _ (by omega)]) hvc hq (fun k hk => if_neg (by omega))
    have hxt2 : XT N G B sz (SCN N vc q) (SCG G g2) B sz := ⟨fun k hk => by rw [SCN, va_up_ne _ _ (by omega), va_up_ne _ _ (by omega)], fun k hk => if_neg (by omega), fun _ _ => rfl, Nat.le_refl _, fun _ _ => rfl, Nat.le_refl _, fun _ _ => ⟨rfl, rfl, rfl⟩, fun _ _ => rfl⟩
    have hrs2 := hxt2.rq hpl1 hrq
    have hGs := hxs2.1.1
    have hxs := hxs2
    refine lv_iadd hx hb dX12_defineSyntax_31 ?_
    refine tp_i (nI_add (N 9) (sz rl)) ?_
    refine lv_sipush (v := nI 4000) hx hb dX12_defineSyntax_32 (by decide) ?_
    refine bn_gt (tgt := 42) hx hb (by first | omega | exact Nat.lt_of_lt_of_le (hG _ _) (by decide)) (by first | omega | exact Nat.lt_of_lt_of_le (hG _ _) (by decide)) dX12_defineSyntax_35 (by decide) (fun c1 => ?_) (fun c1 => ?_)
    · refine lv_iconst (v := nI 0) hx hb dX12_defineSyntax_42 (by decide) ?_
      refine lv_iconst (v := nI 2) hx hb dX12_defineSyntax_43 (by decide) ?_
      refine mcl_i (As := [.int (nI 0), .int (nI 2)]) (rest := []) ⟨hx, hb, hml, hown, hts⟩ (m_need l dC dI cB cC cI cJ cZ z0 R pl (SCN N vc q) (SCG G g2) B 0 2 (by decide) ⟨by decide, by decide⟩ (show (SCN N vc q) 33 = 0 from h33) H.size) (cwV 2 hts kX12_defineSyntax_X12_need_255 rfl rfl rfl (by decide +kernel) ⟨Nat.le_of_ble_eq_true rfl, Nat.le_of_ble_eq_true rfl⟩) hK hP hD hS hA rfl rfl hl.1 (lv_room (Nat.le_of_ble_eq_true rfl)) dX12_defineSyntax_44 hcs (fun r_32 N_28 G_29 B_30 pl_31 hw H locs hP hD hS => ?_)
      dsimp only at hw
      obtain ⟨e3, e4, e2, hw, e5, e6⟩ := hw
      rw [e6 rfl, e2, e3, e4] at hP hD
      subst hw
      refine bz_eq (tgt := 73) hx hb (by first | omega | exact Nat.lt_of_lt_of_le (hG _ _) (by decide)) dX12_defineSyntax_47 (by decide) (fun c => ?_) (fun q9 => absurd q9 (by omega))
      exact W.vret hx hb hr (fun t ht hW => ⟨⟨(va_up (SCN N vc q) 33 2, SCG G g2, B, pl), rfl, ⟨rfl, sz, az, XI.fault hxs2 (by decide) (by decide), hrs2, hxt2.u.trans (XT.u (XT.nums (fun k hk => va_up_ne _ _ (by omega)))), fun z => absurd (show (2 : Nat) = 0 from z) (by decide)⟩, by rw [ht]; exact hP, va_K.moved hW.alike hK, hD⟩, hS.F ht⟩) hS.2.2 dX12_defineSyntax_73
    · refine lv_iconst (v := nI 1) hx hb dX12_defineSyntax_38 (by decide) ?_
      refine lv_goto (tgt := 43) hx hb dX12_defineSyntax_39 (by decide) ?_
      refine lv_iconst (v := nI 2) hx hb dX12_defineSyntax_43 (by decide) ?_
      refine mcl_i (As := [.int (nI 1), .int (nI 2)]) (rest := []) ⟨hx, hb, hml, hown, hts⟩ (m_need l dC dI cB cC cI cJ cZ z0 R pl (SCN N vc q) (SCG G g2) B 1 2 (by decide) ⟨by decide, by decide⟩ (show (SCN N vc q) 33 = 0 from h33) H.size) (cwV 2 hts kX12_defineSyntax_X12_need_255 rfl rfl rfl (by decide +kernel) ⟨Nat.le_of_ble_eq_true rfl, Nat.le_of_ble_eq_true rfl⟩) hK hP hD hS hA rfl rfl hl.1 (lv_room (Nat.le_of_ble_eq_true rfl)) dX12_defineSyntax_44 hcs (fun r_37 N_33 G_34 B_35 pl_36 hw H locs hP hD hS => ?_)
      dsimp only at hw
      obtain ⟨e3, e4, e2, hw, e5, e6⟩ := hw
      rw [e5 rfl, e2, e3, e4] at hP hD
      subst hw
      refine bz_eq (tgt := 73) hx hb (by first | omega | exact Nat.lt_of_lt_of_le (hG _ _) (by decide)) dX12_defineSyntax_47 (by decide) (fun q9 => absurd q9 (by omega)) (fun c => ?_)
      refine lv_aload_n hx hb dX12_defineSyntax_50 rfl (lv_at hl 1 rfl) ?_
      refine lv_aload_n hx hb dX12_defineSyntax_51 rfl (lv_at hl 1 rfl) ?_
      refine mg_9 hx hb hts inX12_defineSyntax hown hK hP (hts _ lkX12_defineSyntax_f390) dX12_defineSyntax_52 ?_
      refine tp_i (y := nI (N 9)) rfl ?_
      refine lv_aload_n hx hb dX12_defineSyntax_55 rfl (lv_at hl 1 rfl) ?_
      refine lv_iload_n hx hb dX12_defineSyntax_56 rfl (lv_at hl 0 rfl) ?_
      refine mcl_i (As := [.int (nI rl)]) (rest := [.int (nI (N 9)), .ref z0]) ⟨hx, hb, hml, hown, hts⟩ (m_sizeOf l dC dI cB cC cI cJ cZ z0 R pl (SCN N vc q) (SCG G g2) B rl sz hGs (show TREE _ _ sz from hxs.1.2.2.1) (show TREQ _ _ sz from hxs.2.1) hrN H.size) (cwV 1 hts kX12_defineSyntax_X12_sizeOf_370 rfl rfl rfl (by decide +kernel) ⟨Nat.le_of_ble_eq_true rfl, Nat.le_of_ble_eq_true rfl⟩) hK hP hD hS hA rfl rfl hl.1 (lv_room (Nat.le_of_ble_eq_true rfl)) dX12_defineSyntax_57 hcs (fun r_42 N_38 G_39 B_40 pl_41 hw H locs hP hD hS => ?_)
      dsimp only at hw
      obtain ⟨e1, ⟨I_43, hI, e2⟩, e3, e4, hw⟩ := hw
      rw [e1, e2, e3, e4] at hP hD
      subst hw
      rw [SCG_up (by omega : 47 ≤ 54 ∧ 54 ≤ 57)] at hP hD
      have hg3 : ∀ k i, (va_up (SCG G g2) 54 I_43) k i < 1048576 := hGup hGs hI
      generalize va_up (SCG G g2) 54 I_43 = g3 at hP hD hg3
      have hxs3 : XI (SCN N vc q) (SCG G g3) sz az := hxi.congr (SCG_bd hG hg3) (fun k hk => by rw [SCN, va_up_ne _ _ (by omega), va_up_ne _ _ (by omega)]) hvc hq (fun k hk => if_neg (by omega))
      have hxt3 : XT N G B sz (SCN N vc q) (SCG G g3) B sz := ⟨fun k hk => by rw [SCN, va_up_ne _ _ (by omega), va_up_ne _ _ (by omega)], fun k hk => if_neg (by omega), fun _ _ => rfl, Nat.le_refl _, fun _ _ => rfl, Nat.le_refl _, fun _ _ => ⟨rfl, rfl, rfl⟩, fun _ _ => rfl⟩
      have hrs3 := hxt3.rq hpl1 hrq
      have es9 : SCN N vc q 9 = N 9 := rfl
      refine lv_iadd hx hb dX12_defineSyntax_60 ?_
      refine tp_i (nI_add (N 9) (sz rl)) ?_
      refine mp_9 hx hb hts inX12_defineSyntax hown hK hP hD hS (hts _ lkX12_defineSyntax_f390) dX12_defineSyntax_61 (fun H locs hP hD hS => ?_)
      refine lv_aload_n hx hb dX12_defineSyntax_64 rfl (lv_at hl 1 rfl) ?_
      refine mg_7 hx hb hts inX12_defineSyntax hown hK hP (hts _ lkX12_defineSyntax_f25) dX12_defineSyntax_65 ?_
      refine lv_iload_n hx hb dX12_defineSyntax_68 rfl (lv_at hl 3 rfl) ?_
      refine lv_iload_n hx hb dX12_defineSyntax_69 rfl (lv_at hl 0 rfl) ?_
      refine lv_iconst (v := nI 1) hx hb dX12_defineSyntax_70 (by decide) ?_
      refine lv_iadd hx hb dX12_defineSyntax_71 ?_
      refine tp_i (nI_add rl 1) ?_
      refine ms_7 hx hb hK hP hD hS (by omega) dX12_defineSyntax_72 (fun H locs hP hD hS => ?_)
      have hxd : XI (va_up (SCN N vc q) 9 ((N 9) + (sz rl))) (va_up (SCG G g3) 7 (va_up (G 7) y (rl + 1))) sz az := XI.def hxs3 (Or.inr ⟨show rl < N 14 from hrN, (RULESOK_core (SCG_core G g3)).mpr hro⟩) (by omega)
      have hrd : RQ (va_up (SCN N vc q) 9 ((N 9) + (sz rl))) (va_up (SCG G g3) 7 (va_up (G 7) y (rl + 1))) sz t := RQ.set hrs3 hy (Or.inr hrt) (by rw [if_pos (Nat.succ_pos _)]; exact Nat.le_refl _) (by omega)
      have hxu : XU N G B sz (va_up (SCN N vc q) 9 ((N 9) + (sz rl))) (va_up (SCG G g3) 7 (va_up (G 7) y (rl + 1))) B sz := hxt3.u.trans ⟨fun k hk => va_up_ne _ _ (by omega), fun k hk => va_up_ne _ _ (by omega), fun _ _ => rfl, Nat.le_refl _, fun _ _ => rfl, Nat.le_refl _, fun _ _ => ⟨rfl, rfl, rfl⟩, fun _ _ => rfl⟩
      exact W.vret hx hb hr (fun t ht hW => ⟨⟨(va_up (SCN N vc q) 9 ((N 9) + (sz rl)), va_up (SCG G g3) 7 (va_up (G 7) y (rl + 1)), B, pl), rfl, ⟨rfl, sz, az, hxd, hrd, hxu, fun _ => hph⟩, by rw [ht]; exact hP, va_K.moved hW.alike hK, hD⟩, hS.F ht⟩) hS.2.2 dX12_defineSyntax_73
