def oX12_matches : List Cond := [Cond.fieldLink RX12 306 "MacroScopesModel" "looks" "I", Cond.fieldLink RX12 98 "MacroScopesModel" "look" "[I", Cond.fieldLink RX12 104 "MacroScopesModel" "lookOther" "[I", Cond.fieldLink RX12 32 "MacroScopesModel" "kinds" "[B", Cond.fieldLink RX12 35 "MacroScopesModel" "values" "[I", Cond.methodLink RX12 324 yX12_isLiteral, Cond.instanceMethod yX12_isLiteral, Cond.selects RX12 yX12_isLiteral yX12_isLiteral, Cond.initialized RX12, Cond.methodLink RX12 180 yX12_isName, Cond.instanceMethod yX12_isName, Cond.selects RX12 yX12_isName yX12_isName, Cond.methodLink RX12 252 yX12_meaning, Cond.instanceMethod yX12_meaning, Cond.selects RX12 yX12_meaning yX12_meaning, Cond.fieldLink RX12 101 "MacroScopesModel" "lookHow" "[I", Cond.methodLink RX12 336 yX12_lookAtParts, Cond.instanceMethod yX12_lookAtParts, Cond.selects RX12 yX12_lookAtParts yX12_lookAtParts, Cond.methodLink RX12 318 yX12_lookAt, Cond.instanceMethod yX12_lookAt, Cond.selects RX12 yX12_lookAt yX12_lookAt]
def vX12_matches : List Cond := .code yX12_matches cX12_matches 10 (some .boolean) :: (oX12_matches ++ (vX12_isLiteral ++ (vX12_isName ++ (vX12_meaning ++ (vX12_lookAtParts ++ (vX12_lookAt ++ (wsX120)))))))
theorem lkX12_matches_f306 : Cond.fieldLink RX12 306 "MacroScopesModel" "looks" "I" ∈ vX12_matches := List.mem_cons_of_mem _ (List.mem_append_left _ (List.mem_of_getElem? (i := 0) rfl))
theorem lkX12_matches_f98 : Cond.fieldLink RX12 98 "MacroScopesModel" "look" "[I" ∈ vX12_matches := List.mem_cons_of_mem _ (List.mem_append_left _ (List.mem_of_getElem? (i := 1) rfl))
theorem lkX12_matches_f104 : Cond.fieldLink RX12 104 "MacroScopesModel" "lookOther" "[I" ∈ vX12_matches := List.mem_cons_of_mem _ (List.mem_append_left _ (List.mem_of_getElem? (i := 2) rfl))
theorem lkX12_matches_f32 : Cond.fieldLink RX12 32 "MacroScopesModel" "kinds" "[B" ∈ vX12_matches := List.mem_cons_of_mem _ (List.mem_append_left _ (List.mem_of_getElem? (i := 3) rfl))
theorem lkX12_matches_f35 : Cond.fieldLink RX12 35 "MacroScopesModel" "values" "[I" ∈ vX12_matches := List.mem_cons_of_mem _ (List.mem_append_left _ (List.mem_of_getElem? (i := 4) rfl))
theorem lkX12_matches_f101 : Cond.fieldLink RX12 101 "MacroScopesModel" "lookHow" "[I" ∈ vX12_matches := List.mem_cons_of_mem _ (List.mem_append_left _ (List.mem_of_getElem? (i := 15) rfl))
theorem inX12_matches : ∀ w ∈ wsX120, w ∈ vX12_matches := fun w h => List.mem_cons_of_mem _ (List.mem_append_right _ (List.mem_append_right _ (List.mem_append_right _ (List.mem_append_right _ (List.mem_append_right _ (List.mem_append_right _ (h)))))))
theorem kX12_matches_X12_isLiteral_324 : GoodIn vX12_matches (wsV RX12 324 RX12 yX12_isLiteral vX12_isLiteral) := goodIn_sub (fun w h => (List.mem_append.mp h).elim (fun h => List.mem_cons_of_mem _ (List.mem_append_left _ ((by decide +kernel : ∀ w ∈ ([.methodLink RX12 324 yX12_isLiteral, .instanceMethod yX12_isLiteral, .selects RX12 yX12_isLiteral yX12_isLiteral, .initialized RX12] : List Cond), w ∈ oX12_matches) w h))) (fun h => List.mem_cons_of_mem _ (List.mem_append_right _ (List.mem_append_left _ (h))))) (by decide +kernel)
theorem kX12_matches_X12_isName_180 : GoodIn vX12_matches (wsV RX12 180 RX12 yX12_isName vX12_isName) := goodIn_sub (fun w h => (List.mem_append.mp h).elim (fun h => List.mem_cons_of_mem _ (List.mem_append_left _ ((by decide +kernel : ∀ w ∈ ([.methodLink RX12 180 yX12_isName, .instanceMethod yX12_isName, .selects RX12 yX12_isName yX12_isName, .initialized RX12] : List Cond), w ∈ oX12_matches) w h))) (fun h => List.mem_cons_of_mem _ (List.mem_append_right _ (List.mem_append_right _ (List.mem_append_left _ (h)))))) (by decide +kernel)
theorem kX12_matches_X12_meaning_252 : GoodIn vX12_matches (wsV RX12 252 RX12 yX12_meaning vX12_meaning) := goodIn_sub (fun w h => (List.mem_append.mp h).elim (fun h => List.mem_cons_of_mem _ (List.mem_append_left _ ((by decide +kernel : ∀ w ∈ ([.methodLink RX12 252 yX12_meaning, .instanceMethod yX12_meaning, .selects RX12 yX12_meaning yX12_meaning, .initialized RX12] : List Cond), w ∈ oX12_matches) w h))) (fun h => List.mem_cons_of_mem _ (List.mem_append_right _ (List.mem_append_right _ (List.mem_append_right _ (List.mem_append_left _ (h))))))) (by decide +kernel)
theorem kX12_matches_X12_lookAtParts_336 : GoodIn vX12_matches (wsV RX12 336 RX12 yX12_lookAtParts vX12_lookAtParts) := goodIn_sub (fun w h => (List.mem_append.mp h).elim (fun h => List.mem_cons_of_mem _ (List.mem_append_left _ ((by decide +kernel : ∀ w ∈ ([.methodLink RX12 336 yX12_lookAtParts, .instanceMethod yX12_lookAtParts, .selects RX12 yX12_lookAtParts yX12_lookAtParts, .initialized RX12] : List Cond), w ∈ oX12_matches) w h))) (fun h => List.mem_cons_of_mem _ (List.mem_append_right _ (List.mem_append_right _ (List.mem_append_right _ (List.mem_append_right _ (List.mem_append_left _ (h)))))))) (by decide +kernel)
theorem kX12_matches_X12_lookAt_318 : GoodIn vX12_matches (wsV RX12 318 RX12 yX12_lookAt vX12_lookAt) := goodIn_sub (fun w h => (List.mem_append.mp h).elim (fun h => List.mem_cons_of_mem _ (List.mem_append_left _ ((by decide +kernel : ∀ w ∈ ([.methodLink RX12 318 yX12_lookAt, .instanceMethod yX12_lookAt, .selects RX12 yX12_lookAt yX12_lookAt, .initialized RX12] : List Cond), w ∈ oX12_matches) w h))) (fun h => List.mem_cons_of_mem _ (List.mem_append_right _ (List.mem_append_right _ (List.mem_append_right _ (List.mem_append_right _ (List.mem_append_right _ (List.mem_append_left _ (h))))))))) (by decide +kernel)
theorem LK_LK {G : Nat → Nat → Nat} {L Hw O X Y Z : Nat → Nat} : LK (LK G L Hw O) X Y Z = LK G X Y Z := LK_look
theorem PATc {G : Nat → Nat → Nat} {L Hw O sz : Nat → Nat} {p fr w : Nat} (h : PAT G sz p fr w) : PAT (LK G L Hw O) sz p fr w := (PATf_core (G' := LK G L Hw O) (G := G) ⟨rfl, rfl, rfl, rfl, rfl⟩ _ _ _ _).mpr h
theorem FXc {G : Nat → Nat → Nat} {L Hw O : Nat → Nat} (p fr : Nat) : FX (LK G L Hw O) p fr = FX G p fr := rfl
theorem FITc {G : Nat → Nat → Nat} {L Hw O : Nat → Nat} {p f fr : Nat} (h : FIT (LK G L Hw O) p f fr) : FIT G p f fr := h
theorem QAc {G : Nat → Nat → Nat} {L Hw O L2 H2 O2 : Nat → Nat} {p f fr q n : Nat} (h : QAPP q n L Hw O L2 H2 O2 (fun j => CH (LK G L Hw O) p (CIX (FX (LK G L Hw O) p fr) (fr + j))) (fun _ => 0) (fun j => CH (LK G L Hw O) f (fr + j))) : QAPP q n L Hw O L2 H2 O2 (fun j => CH G p (CIX (FX G p fr) (fr + j))) (fun _ => 0) (fun j => CH G f (fr + j)) := h
set_option maxHeartbeats 4000000 in
set_option maxRecDepth 100000 in
theorem lp_mat {p : Program} {l : Launch} {e : Env} {s : State} {m : MethodId} {args : Array Value} {below : List Frame} {meth : Method} {c : Code} {Q : State → Prop} {A : Nat → Prop} {dC : Nat → ClassId} {dI : Nat → Nat → Nat} {cB cC cI cJ cZ : ClassId} {z0 : Nat} {R : Nat → Nat} (hx : p.tables.exec = Jvm.exec) (hb : c.code = cX12_matches) (hml : c.maxLocals = 10) (hown : s.vm.findClass RX12 = some m.cls) (hts : ∀ w ∈ vX12_matches, w.before args s = true) (hK : va_K (dC, dI) vwCl (TY cB cC cI cJ cZ) s) (hA : ∀ q : Nat, s.heap.size ≤ q → A q) {pl : Int32} {N : Nat → Nat} {G : Nat → Nat → Nat} {B : Nat → Nat → Int32} {sz : Nat → Nat} {rules rin en : Nat} (hG : ∀ k i, G k i < 1048576) (ht9 : TREE N G sz) (hkd : KD N G) (hal : AL N G) (hev : EV N G) (hru : rules < 90000) (hr1 : G 11 rules + 1 < 90000) (hl1 : CH G rules 1 < 90000) (hlc : ∀ j, j < G 12 (CH G rules 1) → G 11 (CH G rules 1) + j < 90000 ∧ CH G (CH G rules 1) j < 90000) (hri : rin < N 23) (hen : en < N 23) (top lst : Nat) (kf : ∀ (q fi : Nat) (L Hw O : Nat → Nat) (H : Heap) (locs : List Loc), (∀ i, L i < 1048576) → (∀ i, Hw i < 1048576) → (∀ i, O i < 1048576) → q ≤ 3001 → (fi ≤ 1 ∧ (fi = 1 → MAT G sz top lst 1)) → va_P (dC, dI) vwCl (MW cB cC cI cJ cZ z0 R pl (va_up N 53 q) (LK G L Hw O) B) H → va_D A (MW cB cC cI cJ cZ z0 R pl (va_up N 53 q) (LK G L Hw O) B) → va_S A s.heap H locs → ∀ (ls : Array Slot), lv_has ls 10 [(6, .int (nI fi))] → W p l e (headSpec vX12_matches { frames := 4, cells := 0, slots := 0, locals := 94 }).room s m args below meth c H locs 0 0 Q (F0 m 213 ls [])) : ∀ (k : Nat) (a1 q fi : Nat) (L Hw O : Nat → Nat), 3002 - a1 < k → (∀ i, L i < 1048576) → (∀ i, Hw i < 1048576) → (∀ i, O i < 1048576) → MOUT N G sz top lst a1 q fi L Hw O → ∀ (H : Heap) (locs : List Loc), va_P (dC, dI) vwCl (MW cB cC cI cJ cZ z0 R pl (va_up N 53 q) (LK G L Hw O) B) H → va_D A (MW cB cC cI cJ cZ z0 R pl (va_up N 53 q) (LK G L Hw O) B) → va_S A s.heap H locs → ∀ (ls : Array Slot), lv_has ls 10 [(0, .ref z0), (1, .int (nI rules)), (2, .int (nI rin)), (5, .int (nI en)), (6, .int (nI fi)), (7, .int (nI a1))] → W p l e (headSpec vX12_matches { frames := 4, cells := 0, slots := 0, locals := 94 }).room s m args below meth c H locs 0 0 Q (F0 m 19 ls []) := by
  have hcs : 0 + 0 ≤ (0 : Nat) ∧ 0 + 0 ≤ (0 : Nat) := ⟨Nat.le_refl 0, Nat.le_refl 0⟩
  intro k
  induction k with
  | zero =>
    intro a1 q fi L Hw O hk hL hH hO hp
    omega
  | succ k ih =>
    intro a1 q fi L Hw O hk hL hH hO hp H locs hP hD hS ls hl
    obtain ⟨n1, n3, n4⟩ := hp.num ht9
    have u6 := ht9.1
    have hG2 := hGLK hG hL hH hO
    refine lv_iload hx hb dX12_matches_19 (lv_at hl 5 rfl) ?_
    refine lv_aload_n hx hb dX12_matches_21 rfl (lv_at hl 0 rfl) ?_
    refine mg_53 hx hb hts inX12_matches hown hK hP (hts _ lkX12_matches_f306) dX12_matches_22 ?_
    refine tp_i (y := nI q) rfl ?_
    refine bn_ge (tgt := 213) hx hb (by first | omega | exact Nat.lt_of_lt_of_le (hG _ _) (by decide)) (by first | omega | exact Nat.lt_of_lt_of_le (hG _ _) (by decide)) dX12_matches_25 (by decide) (fun c1 => ?_) (fun c1 => ?_)
    · exact kf q fi L Hw O H locs hL hH hO n1 (hp.fin (Or.inl c1)) hP hD hS ls (lv_sub hl [4] rfl)
    · refine lv_iload hx hb dX12_matches_28 (lv_at hl 4 rfl) ?_
      refine bz_eq (tgt := 213) hx hb (by first | omega | exact Nat.lt_of_lt_of_le (hG _ _) (by decide)) dX12_matches_30 (by decide) (fun c2 => ?_) (fun c2 => ?_)
      · exact kf q fi L Hw O H locs hL hH hO n1 (hp.fin (Or.inr c2)) hP hD hS ls (lv_sub hl [4] rfl)
      · obtain rfl : fi = 1 := by omega
        obtain ⟨p1, p2, p3, p4⟩ := hp.2.1 a1 c1
        have hl8 : L a1 < 90000 := by omega
        have hl9 : O a1 < 90000 := by omega
        have hnL := (ht9.2 _ p1).2.2.2.1
        have hnO := (ht9.2 _ p2).2.2.2.1
        refine lv_aload_n hx hb dX12_matches_33 rfl (lv_at hl 0 rfl) ?_
        refine mg_50 hx hb hts inX12_matches hown hK hP (hts _ lkX12_matches_f98) dX12_matches_34 ?_
        refine lv_iload hx hb dX12_matches_37 (lv_at hl 5 rfl) ?_
        refine ml_50 hx hb hK hP (by omega) dX12_matches_39 ?_
        refine tp_i (y := nI (L a1)) rfl ?_
        refine lv_istore (lv' := [(8, .int (nI (L a1))), (0, .ref z0), (1, .int (nI rules)), (2, .int (nI rin)), (5, .int (nI en)), (6, .int (nI 1)), (7, .int (nI a1))]) hx hb dX12_matches_40 hl (by decide) rfl (fun ls hl => ?_)
        refine lv_aload_n hx hb dX12_matches_42 rfl (lv_at hl 1 rfl) ?_
        refine mg_52 hx hb hts inX12_matches hown hK hP (hts _ lkX12_matches_f104) dX12_matches_43 ?_
        refine lv_iload hx hb dX12_matches_46 (lv_at hl 6 rfl) ?_
        refine ml_52 hx hb hK hP (by omega) dX12_matches_48 ?_
        refine tp_i (y := nI (O a1)) rfl ?_
        refine lv_istore (lv' := [(9, .int (nI (O a1))), (8, .int (nI (L a1))), (0, .ref z0), (1, .int (nI rules)), (2, .int (nI rin)), (5, .int (nI en)), (6, .int (nI 1)), (7, .int (nI a1))]) hx hb dX12_matches_49 hl (by decide) rfl (fun ls hl => ?_)
        refine lv_aload_n hx hb dX12_matches_51 rfl (lv_at hl 2 rfl) ?_
        refine mg_10 hx hb hts inX12_matches hown hK hP (hts _ lkX12_matches_f32) dX12_matches_52 ?_
        refine lv_iload hx hb dX12_matches_55 (lv_at hl 1 rfl) ?_
        refine ml_10 hx hb hK hP (by omega) dX12_matches_57 ?_
        refine tp_i (y := nI (G 10 (L a1))) rfl ?_
        refine lv_iconst (v := nI 2) hx hb dX12_matches_58 (by decide) ?_
        refine bn_ne (tgt := 101) hx hb (by first | omega | exact Nat.lt_of_lt_of_le (hG _ _) (by decide)) (by first | omega | exact Nat.lt_of_lt_of_le (hG _ _) (by decide)) dX12_matches_59 (by decide) (fun c3 => ?_) (fun c3 => ?_)
        · have g10 := hG 10 (L a1)
          have hk3 : G 10 (L a1) ≤ 2 := hkd _ p1
          refine lv_aload_n hx hb dX12_matches_101 rfl (lv_at hl 2 rfl) ?_
          refine mg_10 hx hb hts inX12_matches hown hK hP (hts _ lkX12_matches_f32) dX12_matches_102 ?_
          refine lv_iload hx hb dX12_matches_105 (lv_at hl 1 rfl) ?_
          refine ml_10 hx hb hK hP (by omega) dX12_matches_107 ?_
          refine tp_i (y := nI (G 10 (L a1))) rfl ?_
          refine bz_ne (tgt := 148) hx hb (by first | omega | exact Nat.lt_of_lt_of_le (hG _ _) (by decide)) dX12_matches_108 (by decide) (fun c_1 => ?_) (fun c_1 => ?_)
          · refine lv_aload_n hx hb dX12_matches_148 rfl (lv_at hl 2 rfl) ?_
            refine lv_iload_n hx hb dX12_matches_149 rfl (lv_at hl 3 rfl) ?_
            refine lv_aload_n hx hb dX12_matches_150 rfl (lv_at hl 2 rfl) ?_
            refine mg_11 hx hb hts inX12_matches hown hK hP (hts _ lkX12_matches_f35) dX12_matches_151 ?_
            refine lv_iload hx hb dX12_matches_154 (lv_at hl 1 rfl) ?_
            refine ml_11 hx hb hK hP (by omega) dX12_matches_156 ?_
            refine tp_i (y := nI (G 11 (L a1))) rfl ?_
            refine mcl_i (As := [.int (nI rules), .int (nI (G 11 (L a1)))]) (rest := []) ⟨hx, hb, hml, hown, hts⟩ (m_isLiteral l dC dI cB cC cI cJ cZ z0 R pl (va_up N 53 q) (LK G L Hw O) B rules (G 11 (L a1)) hG2 (hG 11 (L a1)) hru hr1 hl1 hlc H.size) (cwV 2 hts kX12_matches_X12_isLiteral_324 rfl rfl rfl (by decide +kernel) ⟨Nat.le_of_ble_eq_true rfl, Nat.le_of_ble_eq_true rfl⟩) hK hP hD hS hA rfl rfl hl.1 (lv_room (Nat.le_of_ble_eq_true rfl)) dX12_matches_157 hcs (fun r_7 N_3 G_4 B_5 pl_6 hw H locs hP hD hS => ?_)
            dsimp only at hw
            obtain ⟨e1, e2, e3, e4, hw⟩ := hw
            rw [e1, e2, e3, e4] at hP hD
            have hlt := litF_le (G 11) (CH G (CH G rules 1)) (G 11 (L a1)) (G 12 (CH G rules 1))
            have hw : r_7 = nI (LIT G rules (G 11 (L a1))) := hw
            subst hw
            have hlt2 : LIT G rules (G 11 (L a1)) ≤ 1 := hlt
            refine bz_eq (tgt := 207) hx hb (by first | omega | exact Nat.lt_of_lt_of_le (hG _ _) (by decide)) dX12_matches_160 (by decide) (fun c_8 => ?_) (fun c_8 => ?_)
            · refine lv_iinc (v := nI (a1 + 1)) (lv' := [(7, .int (nI (a1 + 1))), (9, .int (nI (O a1))), (8, .int (nI (L a1))), (0, .ref z0), (1, .int (nI rules)), (2, .int (nI rin)), (5, .int (nI en)), (6, .int (nI 1))]) hx hb dX12_matches_207 hl (k := 7) rfl (nI_add a1 1) (by decide) rfl (fun ls hl => ?_)
              refine lv_goto (tgt := 19) hx hb dX12_matches_210 (by decide) ?_
              exact ih (a1 + 1) q 1 L Hw O (by omega) hL hH hO (hp.skip ht9 c1 (by decide) (fun _ => c3)) _ _ hP hD hS ls (lv_sub hl [3, 4, 5, 6, 7, 0] rfl)
            · refine lv_aload_n hx hb dX12_matches_163 rfl (lv_at hl 2 rfl) ?_
              refine lv_iload hx hb dX12_matches_164 (lv_at hl 0 rfl) ?_
              refine mcl_i (As := [.int (nI (O a1))]) (rest := []) ⟨hx, hb, hml, hown, hts⟩ (m_isName l dC dI cB cC cI cJ cZ z0 R pl (va_up N 53 q) (LK G L Hw O) B (O a1) hG2 (by omega) H.size) (cwV 1 hts kX12_matches_X12_isName_180 rfl rfl rfl (by decide +kernel) ⟨Nat.le_of_ble_eq_true rfl, Nat.le_of_ble_eq_true rfl⟩) hK hP hD hS hA rfl rfl hl.1 (lv_room (Nat.le_of_ble_eq_true rfl)) dX12_matches_166 hcs (fun r_14 N_10 G_11 B_12 pl_13 hw H locs hP hD hS => ?_)
              dsimp only at hw
              obtain ⟨e1, e2, e3, e4, hw⟩ := hw
              rw [e1, e2, e3, e4] at hP hD
              have hw : r_14 = nI (if G 10 (O a1) = 1 then 1 else 0) := hw
              by_cases c_9 : G 10 (O a1) = 1
              · rw [if_pos c_9] at hw
                subst hw
                refine bz_eq (tgt := 204) hx hb (by first | omega | exact Nat.lt_of_lt_of_le (hG _ _) (by decide)) dX12_matches_169 (by decide) (fun q9 => absurd q9 (by omega)) (fun c => ?_)
                refine lv_aload_n hx hb dX12_matches_172 rfl (lv_at hl 2 rfl) ?_
                refine lv_aload_n hx hb dX12_matches_173 rfl (lv_at hl 2 rfl) ?_
                refine mg_11 hx hb hts inX12_matches hown hK hP (hts _ lkX12_matches_f35) dX12_matches_174 ?_
                refine lv_iload hx hb dX12_matches_177 (lv_at hl 1 rfl) ?_
                refine ml_11 hx hb hK hP (by omega) dX12_matches_179 ?_
                refine tp_i (y := nI (G 11 (L a1))) rfl ?_
                refine lv_iload_n hx hb dX12_matches_180 rfl (lv_at hl 4 rfl) ?_
                refine mcl_i (As := [.int (nI (G 11 (L a1))), .int (nI rin)]) (rest := []) ⟨hx, hb, hml, hown, hts⟩ (m_meaning l dC dI cB cC cI cJ cZ z0 R pl (va_up N 53 q) (LK G L Hw O) B (G 11 (L a1)) rin hG2 hal hev (by first | assumption | (exact hnO (by assumption)) | (refine hnL ?_; omega)) (by assumption) H.size) (cwV 2 hts kX12_matches_X12_meaning_252 rfl rfl rfl (by decide +kernel) ⟨Nat.le_of_ble_eq_true rfl, Nat.le_of_ble_eq_true rfl⟩) hK hP hD hS hA rfl rfl hl.1 (lv_room (Nat.le_of_ble_eq_true rfl)) dX12_matches_181 hcs (fun r_19 N_15 G_16 B_17 pl_18 hw H locs hP hD hS => ?_)
                dsimp only at hw
                obtain ⟨e1, e2, e3, e4, hw⟩ := hw
                rw [e1, e2, e3, e4] at hP hD
                refine lv_aload_n hx hb dX12_matches_184 rfl (lv_at hl 2 rfl) ?_
                refine lv_aload_n hx hb dX12_matches_185 rfl (lv_at hl 2 rfl) ?_
                refine mg_11 hx hb hts inX12_matches hown hK hP (hts _ lkX12_matches_f35) dX12_matches_186 ?_
                refine lv_iload hx hb dX12_matches_189 (lv_at hl 0 rfl) ?_
                refine ml_11 hx hb hK hP (by omega) dX12_matches_191 ?_
                refine tp_i (y := nI (G 11 (O a1))) rfl ?_
                refine lv_iload hx hb dX12_matches_192 (lv_at hl 5 rfl) ?_
                refine mcl_i (As := [.int (nI (G 11 (O a1))), .int (nI en)]) (rest := [.int r_19]) ⟨hx, hb, hml, hown, hts⟩ (m_meaning l dC dI cB cC cI cJ cZ z0 R pl (va_up N 53 q) (LK G L Hw O) B (G 11 (O a1)) en hG2 hal hev (by first | assumption | (exact hnO (by assumption)) | (refine hnL ?_; omega)) (by assumption) H.size) (cwV 2 hts kX12_matches_X12_meaning_252 rfl rfl rfl (by decide +kernel) ⟨Nat.le_of_ble_eq_true rfl, Nat.le_of_ble_eq_true rfl⟩) hK hP hD hS hA rfl rfl hl.1 (lv_room (Nat.le_of_ble_eq_true rfl)) dX12_matches_194 hcs (fun r_24 N_20 G_21 B_22 pl_23 hw H locs hP hD hS => ?_)
                dsimp only at hw
                obtain ⟨e1, e2, e3, e4, hw⟩ := hw
                rw [e1, e2, e3, e4] at hP hD
                refine lv_icmp_ne (tgt := 204) hx hb dX12_matches_197 (by decide) (fun c_25 => ?_) (fun c_25 => ?_)
                · refine lv_iconst (v := nI 0) hx hb dX12_matches_204 (by decide) ?_
                  refine lv_istore (lv' := [(6, .int (nI 0)), (9, .int (nI (O a1))), (8, .int (nI (L a1))), (0, .ref z0), (1, .int (nI rules)), (2, .int (nI rin)), (5, .int (nI en)), (7, .int (nI a1))]) hx hb dX12_matches_205 hl (by decide) rfl (fun ls hl => ?_)
                  refine lv_iinc (v := nI (a1 + 1)) (lv' := [(7, .int (nI (a1 + 1))), (6, .int (nI 0)), (9, .int (nI (O a1))), (8, .int (nI (L a1))), (0, .ref z0), (1, .int (nI rules)), (2, .int (nI rin)), (5, .int (nI en))]) hx hb dX12_matches_207 hl (k := 7) rfl (nI_add a1 1) (by decide) rfl (fun ls hl => ?_)
                  refine lv_goto (tgt := 19) hx hb dX12_matches_210 (by decide) ?_
                  exact ih (a1 + 1) q 0 L Hw O (by omega) hL hH hO (hp.skip ht9 c1 (by decide) (fun _ => c3)) _ _ hP hD hS ls (lv_sub hl [4, 5, 6, 7, 1, 0] rfl)
                · refine lv_iconst (v := nI 1) hx hb dX12_matches_200 (by decide) ?_
                  refine lv_goto (tgt := 205) hx hb dX12_matches_201 (by decide) ?_
                  refine lv_istore (lv' := [(6, .int (nI 1)), (9, .int (nI (O a1))), (8, .int (nI (L a1))), (0, .ref z0), (1, .int (nI rules)), (2, .int (nI rin)), (5, .int (nI en)), (7, .int (nI a1))]) hx hb dX12_matches_205 hl (by decide) rfl (fun ls hl => ?_)
                  refine lv_iinc (v := nI (a1 + 1)) (lv' := [(7, .int (nI (a1 + 1))), (6, .int (nI 1)), (9, .int (nI (O a1))), (8, .int (nI (L a1))), (0, .ref z0), (1, .int (nI rules)), (2, .int (nI rin)), (5, .int (nI en))]) hx hb dX12_matches_207 hl (k := 7) rfl (nI_add a1 1) (by decide) rfl (fun ls hl => ?_)
                  refine lv_goto (tgt := 19) hx hb dX12_matches_210 (by decide) ?_
                  exact ih (a1 + 1) q 1 L Hw O (by omega) hL hH hO (hp.skip ht9 c1 (by decide) (fun _ => c3)) _ _ hP hD hS ls (lv_sub hl [4, 5, 6, 7, 1, 0] rfl)
              · rw [if_neg c_9] at hw
                subst hw
                refine bz_eq (tgt := 204) hx hb (by first | omega | exact Nat.lt_of_lt_of_le (hG _ _) (by decide)) dX12_matches_169 (by decide) (fun c => ?_) (fun q9 => absurd q9 (by omega))
                refine lv_iconst (v := nI 0) hx hb dX12_matches_204 (by decide) ?_
                refine lv_istore (lv' := [(6, .int (nI 0)), (9, .int (nI (O a1))), (8, .int (nI (L a1))), (0, .ref z0), (1, .int (nI rules)), (2, .int (nI rin)), (5, .int (nI en)), (7, .int (nI a1))]) hx hb dX12_matches_205 hl (by decide) rfl (fun ls hl => ?_)
                refine lv_iinc (v := nI (a1 + 1)) (lv' := [(7, .int (nI (a1 + 1))), (6, .int (nI 0)), (9, .int (nI (O a1))), (8, .int (nI (L a1))), (0, .ref z0), (1, .int (nI rules)), (2, .int (nI rin)), (5, .int (nI en))]) hx hb dX12_matches_207 hl (k := 7) rfl (nI_add a1 1) (by decide) rfl (fun ls hl => ?_)
                refine lv_goto (tgt := 19) hx hb dX12_matches_210 (by decide) ?_
                exact ih (a1 + 1) q 0 L Hw O (by omega) hL hH hO (hp.skip ht9 c1 (by decide) (fun _ => c3)) _ _ hP hD hS ls (lv_sub hl [4, 5, 6, 7, 1, 0] rfl)
          · refine lv_aload_n hx hb dX12_matches_111 rfl (lv_at hl 2 rfl) ?_
            refine mg_10 hx hb hts inX12_matches hown hK hP (hts _ lkX12_matches_f32) dX12_matches_112 ?_
            refine lv_iload hx hb dX12_matches_115 (lv_at hl 0 rfl) ?_
            refine ml_10 hx hb hK hP (by omega) dX12_matches_117 ?_
            refine tp_i (y := nI (G 10 (O a1))) rfl ?_
            refine bz_ne (tgt := 142) hx hb (by first | omega | exact Nat.lt_of_lt_of_le (hG _ _) (by decide)) dX12_matches_118 (by decide) (fun c_26 => ?_) (fun c_26 => ?_)
            · refine lv_iconst (v := nI 0) hx hb dX12_matches_142 (by decide) ?_
              refine lv_istore (lv' := [(6, .int (nI 0)), (9, .int (nI (O a1))), (8, .int (nI (L a1))), (0, .ref z0), (1, .int (nI rules)), (2, .int (nI rin)), (5, .int (nI en)), (7, .int (nI a1))]) hx hb dX12_matches_143 hl (by decide) rfl (fun ls hl => ?_)
              refine lv_goto (tgt := 207) hx hb dX12_matches_145 (by decide) ?_
              refine lv_iinc (v := nI (a1 + 1)) (lv' := [(7, .int (nI (a1 + 1))), (6, .int (nI 0)), (9, .int (nI (O a1))), (8, .int (nI (L a1))), (0, .ref z0), (1, .int (nI rules)), (2, .int (nI rin)), (5, .int (nI en))]) hx hb dX12_matches_207 hl (k := 7) rfl (nI_add a1 1) (by decide) rfl (fun ls hl => ?_)
              refine lv_goto (tgt := 19) hx hb dX12_matches_210 (by decide) ?_
              exact ih (a1 + 1) q 0 L Hw O (by omega) hL hH hO (hp.skip ht9 c1 (by decide) (fun _ => c3)) _ _ hP hD hS ls (lv_sub hl [4, 5, 6, 7, 1, 0] rfl)
            · refine lv_aload_n hx hb dX12_matches_121 rfl (lv_at hl 2 rfl) ?_
              refine mg_11 hx hb hts inX12_matches hown hK hP (hts _ lkX12_matches_f35) dX12_matches_122 ?_
              refine lv_iload hx hb dX12_matches_125 (lv_at hl 0 rfl) ?_
              refine ml_11 hx hb hK hP (by omega) dX12_matches_127 ?_
              refine tp_i (y := nI (G 11 (O a1))) rfl ?_
              refine lv_aload_n hx hb dX12_matches_128 rfl (lv_at hl 2 rfl) ?_
              refine mg_11 hx hb hts inX12_matches hown hK hP (hts _ lkX12_matches_f35) dX12_matches_129 ?_
              refine lv_iload hx hb dX12_matches_132 (lv_at hl 1 rfl) ?_
              refine ml_11 hx hb hK hP (by omega) dX12_matches_134 ?_
              refine tp_i (y := nI (G 11 (L a1))) rfl ?_
              refine bn_ne (tgt := 142) hx hb (by first | omega | exact Nat.lt_of_lt_of_le (hG _ _) (by decide)) (by first | omega | exact Nat.lt_of_lt_of_le (hG _ _) (by decide)) dX12_matches_135 (by decide) (fun c_27 => ?_) (fun c_27 => ?_)
              · refine lv_iconst (v := nI 0) hx hb dX12_matches_142 (by decide) ?_
                refine lv_istore (lv' := [(6, .int (nI 0)), (9, .int (nI (O a1))), (8, .int (nI (L a1))), (0, .ref z0), (1, .int (nI rules)), (2, .int (nI rin)), (5, .int (nI en)), (7, .int (nI a1))]) hx hb dX12_matches_143 hl (by decide) rfl (fun ls hl => ?_)
                refine lv_goto (tgt := 207) hx hb dX12_matches_145 (by decide) ?_
                refine lv_iinc (v := nI (a1 + 1)) (lv' := [(7, .int (nI (a1 + 1))), (6, .int (nI 0)), (9, .int (nI (O a1))), (8, .int (nI (L a1))), (0, .ref z0), (1, .int (nI rules)), (2, .int (nI rin)), (5, .int (nI en))]) hx hb dX12_matches_207 hl (k := 7) rfl (nI_add a1 1) (by decide) rfl (fun ls hl => ?_)
                refine lv_goto (tgt := 19) hx hb dX12_matches_210 (by decide) ?_
                exact ih (a1 + 1) q 0 L Hw O (by omega) hL hH hO (hp.skip ht9 c1 (by decide) (fun _ => c3)) _ _ hP hD hS ls (lv_sub hl [4, 5, 6, 7, 1, 0] rfl)
              · refine lv_iconst (v := nI 1) hx hb dX12_matches_138 (by decide) ?_
                refine lv_goto (tgt := 143) hx hb dX12_matches_139 (by decide) ?_
                refine lv_istore (lv' := [(6, .int (nI 1)), (9, .int (nI (O a1))), (8, .int (nI (L a1))), (0, .ref z0), (1, .int (nI rules)), (2, .int (nI rin)), (5, .int (nI en)), (7, .int (nI a1))]) hx hb dX12_matches_143 hl (by decide) rfl (fun ls hl => ?_)
                refine lv_goto (tgt := 207) hx hb dX12_matches_145 (by decide) ?_
                refine lv_iinc (v := nI (a1 + 1)) (lv' := [(7, .int (nI (a1 + 1))), (6, .int (nI 1)), (9, .int (nI (O a1))), (8, .int (nI (L a1))), (0, .ref z0), (1, .int (nI rules)), (2, .int (nI rin)), (5, .int (nI en))]) hx hb dX12_matches_207 hl (k := 7) rfl (nI_add a1 1) (by decide) rfl (fun ls hl => ?_)
                refine lv_goto (tgt := 19) hx hb dX12_matches_210 (by decide) ?_
                exact ih (a1 + 1) q 1 L Hw O (by omega) hL hH hO (hp.skip ht9 c1 (by decide) (fun _ => c3)) _ _ hP hD hS ls (lv_sub hl [4, 5, 6, 7, 1, 0] rfl)
        · refine lv_aload_n hx hb dX12_matches_62 rfl (lv_at hl 2 rfl) ?_
          refine mg_10 hx hb hts inX12_matches hown hK hP (hts _ lkX12_matches_f32) dX12_matches_63 ?_
          refine lv_iload hx hb dX12_matches_66 (lv_at hl 0 rfl) ?_
          refine ml_10 hx hb hK hP (by omega) dX12_matches_68 ?_
          refine tp_i (y := nI (G 10 (O a1))) rfl ?_
          refine lv_iconst (v := nI 2) hx hb dX12_matches_69 (by decide) ?_
          refine bn_ne (tgt := 95) hx hb (by first | omega | exact Nat.lt_of_lt_of_le (hG _ _) (by decide)) (by first | omega | exact Nat.lt_of_lt_of_le (hG _ _) (by decide)) dX12_matches_70 (by decide) (fun c4 => ?_) (fun c4 => ?_)
          · refine lv_iconst (v := nI 0) hx hb dX12_matches_95 (by decide) ?_
            refine lv_istore (lv' := [(6, .int (nI 0)), (9, .int (nI (O a1))), (8, .int (nI (L a1))), (0, .ref z0), (1, .int (nI rules)), (2, .int (nI rin)), (5, .int (nI en)), (7, .int (nI a1))]) hx hb dX12_matches_96 hl (by decide) rfl (fun ls hl => ?_)
            refine lv_goto (tgt := 207) hx hb dX12_matches_98 (by decide) ?_
            refine lv_iinc (v := nI (a1 + 1)) (lv' := [(7, .int (nI (a1 + 1))), (6, .int (nI 0)), (9, .int (nI (O a1))), (8, .int (nI (L a1))), (0, .ref z0), (1, .int (nI rules)), (2, .int (nI rin)), (5, .int (nI en))]) hx hb dX12_matches_207 hl (k := 7) rfl (nI_add a1 1) (by decide) rfl (fun ls hl => ?_)
            refine lv_goto (tgt := 19) hx hb dX12_matches_210 (by decide) ?_
            exact ih (a1 + 1) q 0 L Hw O (by omega) hL hH hO (hp.skip ht9 c1 (by decide) (fun z => absurd z (by decide))) _ _ hP hD hS ls (lv_sub hl [4, 5, 6, 7, 1, 0] rfl)
          · refine lv_aload_n hx hb dX12_matches_73 rfl (lv_at hl 2 rfl) ?_
            refine lv_iload hx hb dX12_matches_74 (lv_at hl 1 rfl) ?_
            refine lv_iload hx hb dX12_matches_76 (lv_at hl 0 rfl) ?_
            refine lv_aload_n hx hb dX12_matches_78 rfl (lv_at hl 2 rfl) ?_
            refine mg_51 hx hb hts inX12_matches hown hK hP (hts _ lkX12_matches_f101) dX12_matches_79 ?_
            refine lv_iload hx hb dX12_matches_82 (lv_at hl 7 rfl) ?_
            refine ml_51 hx hb hK hP (by omega) dX12_matches_84 ?_
            refine tp_i (y := nI (Hw a1)) rfl ?_
            have s9 := (ht9.2 _ p2).2.1
            have s8 := sumC_len (sz := sz) (c := CH G (O a1)) (G 12 (O a1)) (fun i hi => ht9.one (ht9.pt p2 hi).2.1)
            have s7 := (ht9.2 _ p2).1
            refine mcl_i (As := [.int (nI (L a1)), .int (nI (O a1)), .int (nI (Hw a1))]) (rest := []) ⟨hx, hb, hml, hown, hts⟩ (m_lookAtParts l dC dI cB cC cI cJ cZ z0 R pl (va_up N 53 q) (LK G L Hw O) B (L a1) (O a1) (Hw a1) sz hG2 ht9 hal p1 p2 p3 (by obtain ⟨w9, h9⟩ := p4 c3; exact ⟨w9, PATc h9⟩) (show q + G 12 (O a1) < 90000 by omega) H.size) (cwV 3 hts kX12_matches_X12_lookAtParts_336 rfl rfl rfl (by decide +kernel) ⟨Nat.le_of_ble_eq_true rfl, Nat.le_of_ble_eq_true rfl⟩) hK hP hD hS hA rfl rfl hl.1 (lv_room (Nat.le_of_ble_eq_true rfl)) dX12_matches_85 hcs (fun r_32 N_28 G_29 B_30 pl_31 hw H locs hP hD hS => ?_)
            dsimp only at hw
            obtain ⟨e3, e4, fi, hw, hfi, hz, ho⟩ := hw
            subst hw
            rw [e3, e4] at hP hD
            refine bz_eq (tgt := 95) hx hb (by first | omega | exact Nat.lt_of_lt_of_le (hG _ _) (by decide)) dX12_matches_88 (by decide) (fun c5 => ?_) (fun c5 => ?_)
            · obtain ⟨e1, e2⟩ := hz c5
              rw [e1, e2] at hP hD
              refine lv_iconst (v := nI 0) hx hb dX12_matches_95 (by decide) ?_
              refine lv_istore (lv' := [(6, .int (nI 0)), (9, .int (nI (O a1))), (8, .int (nI (L a1))), (0, .ref z0), (1, .int (nI rules)), (2, .int (nI rin)), (5, .int (nI en)), (7, .int (nI a1))]) hx hb dX12_matches_96 hl (by decide) rfl (fun ls hl => ?_)
              refine lv_goto (tgt := 207) hx hb dX12_matches_98 (by decide) ?_
              refine lv_iinc (v := nI (a1 + 1)) (lv' := [(7, .int (nI (a1 + 1))), (6, .int (nI 0)), (9, .int (nI (O a1))), (8, .int (nI (L a1))), (0, .ref z0), (1, .int (nI rules)), (2, .int (nI rin)), (5, .int (nI en))]) hx hb dX12_matches_207 hl (k := 7) rfl (nI_add a1 1) (by decide) rfl (fun ls hl => ?_)
              refine lv_goto (tgt := 19) hx hb dX12_matches_210 (by decide) ?_
              exact ih (a1 + 1) q 0 L Hw O (by omega) hL hH hO (hp.skip ht9 c1 (by decide) (fun z => absurd z (by decide))) _ _ hP hD hS ls (lv_sub hl [4, 5, 6, 7, 1, 0] rfl)
            · obtain ⟨hfit, L2, Hw2, O2, hL2, hH2, hO2, e1, e2, hqa⟩ := ho (by omega)
              rw [e1, e2, bx_uu, LK_LK] at hP hD
              have hP : va_P (dC, dI) vwCl (MW cB cC cI cJ cZ z0 R pl (va_up N 53 (q + (G 12 (O a1) - Hw a1))) (LK G L2 Hw2 O2) B) H := hP
              have hD : va_D A (MW cB cC cI cJ cZ z0 R pl (va_up N 53 (q + (G 12 (O a1) - Hw a1))) (LK G L2 Hw2 O2) B) := hD
              refine lv_iconst (v := nI 1) hx hb dX12_matches_91 (by decide) ?_
              refine lv_goto (tgt := 96) hx hb dX12_matches_92 (by decide) ?_
              refine lv_istore (lv' := [(6, .int (nI 1)), (9, .int (nI (O a1))), (8, .int (nI (L a1))), (0, .ref z0), (1, .int (nI rules)), (2, .int (nI rin)), (5, .int (nI en)), (7, .int (nI a1))]) hx hb dX12_matches_96 hl (by decide) rfl (fun ls hl => ?_)
              refine lv_goto (tgt := 207) hx hb dX12_matches_98 (by decide) ?_
              refine lv_iinc (v := nI (a1 + 1)) (lv' := [(7, .int (nI (a1 + 1))), (6, .int (nI 1)), (9, .int (nI (O a1))), (8, .int (nI (L a1))), (0, .ref z0), (1, .int (nI rules)), (2, .int (nI rin)), (5, .int (nI en))]) hx hb dX12_matches_207 hl (k := 7) rfl (nI_add a1 1) (by decide) rfl (fun ls hl => ?_)
              refine lv_goto (tgt := 19) hx hb dX12_matches_210 (by decide) ?_
              have hp2 := MOUT.list (L' := L2) (Hw' := Hw2) (O' := O2) hp ht9 c1 c3 c4 (FITc hfit) (QAc hqa)
              have n9 := hp2.num ht9
              exact ih (a1 + 1) _ 1 L2 Hw2 O2 (by omega) hL2 hH2 hO2 hp2 _ _ hP hD hS ls (lv_sub hl [4, 5, 6, 7, 1, 0] rfl)

set_option maxHeartbeats 4000000 in
set_option maxRecDepth 100000 in
/-- matches: where 1, the form is as the pattern wants it -/
theorem m_matches (l : Launch) (dC : Nat → ClassId) (dI : Nat → Nat → Nat) (cB cC cI cJ cZ : ClassId) (z0 : Nat) (R : Nat → Nat) (pl : Int32) (N : Nat → Nat) (G : Nat → Nat → Nat) (B : Nat → Nat → Int32) (rules rin top lst en : Nat) (sz : Nat → Nat) (hG : ∀ k i, G k i < 1048576) (ht9 : TREE N G sz) (hkd : KD N G) (hal : AL N G) (hev : EV N G) (hru : rules < 90000) (hr1 : G 11 rules + 1 < 90000) (hl1 : CH G rules 1 < 90000) (hlc : ∀ j, j < G 12 (CH G rules 1) → G 11 (CH G rules 1) + j < 90000 ∧ CH G (CH G rules 1) j < 90000) (hri : rin < N 23) (hen : en < N 23) (htop : top < N 14) (hlst : lst < N 14) (hpt : PAT G sz top 1 0) (s0 : Nat) : Met l yX12_matches vX12_matches { frames := 4, cells := 0, slots := 0, locals := 94 } (va_Pc [.ref z0, .int (nI rules), .int (nI rin), .int (nI top), .int (nI lst), .int (nI en)] (mPre dC dI cB cC cI cJ cZ z0 R pl N G B s0)) (va_Qi (fun (r : Int32) (u : ((Nat → Nat) × (Nat → Nat → Nat) × (Nat → Nat → Int32) × Int32)) => match u with | (N1, G1, B1, pl1) => B1 = B ∧ pl1 = pl ∧ ∃ q fi L Hw O, (∀ i, L i < 1048576) ∧ (∀ i, Hw i < 1048576) ∧ (∀ i, O i < 1048576) ∧ q ≤ 3001 ∧ N1 = va_up N 53 q ∧ G1 = LK G L Hw O ∧ r = nI fi ∧ fi ≤ 1 ∧ (fi = 1 → MAT G sz top lst 1)) (mPost dC dI cB cC cI cJ cZ z0 R (va_A (MW cB cC cI cJ cZ z0 R pl N G B) s0)) (va_A (MW cB cC cI cJ cZ z0 R pl N G B) s0)) 0 0 (va_A (MW cB cC cI cJ cZ z0 R pl N G B) s0) := by
  refine Met.ofW (cc := cX12_matches) (maxL := 10) (ret := (some .boolean)) (by decide) rfl ?_
  intro p e s m args below meth c s₁ B9 hml hv
  obtain ⟨rfl, hsz, hP, hK, hD0⟩ := hv
  have hx := B9.exec
  have hb := B9.bytes
  have hr := B9.returns
  have hts := atoms_spec (ws := vX12_matches) B9.pre
  have hown : s.vm.findClass RX12 = some m.cls := findClass_of_methodNamed B9.named
  have hlocks := B9.notSynchronized
  subst hsz
  have hD := hD0.self (sz := s.heap.size)
  generalize hAe : va_A (MW cB cC cI cJ cZ z0 R pl N G B) s.heap.size = A at hD ⊢
  have hA : ∀ q : Nat, s.heap.size ≤ q → A q := fun q h => by rw [← hAe]; exact Or.inr h
  have hS : va_S A s.heap s.heap [] := va_S.rf
  have hcs : 0 + 0 ≤ (0 : Nat) ∧ 0 + 0 ≤ (0 : Nat) := ⟨Nat.le_refl 0, Nat.le_refl 0⟩
  have hl := lv_entry ([.ref z0, .int (nI rules), .int (nI rin), .int (nI top), .int (nI lst), .int (nI en)]) (n := 10) (Nat.le_of_ble_eq_true rfl)
  rw [lg_entry_eq]
  generalize (lg_sl ([.ref z0, .int (nI rules), .int (nI rin), .int (nI top), .int (nI lst), .int (nI en)]) ++ List.replicate (10 - (lg_sl ([.ref z0, .int (nI rules), .int (nI rin), .int (nI top), .int (nI lst), .int (nI en)])).length) Slot.unset).toArray = ls at hl ⊢
  have hl : lv_has ls 10 [(0, .ref z0), (1, .int (nI rules)), (2, .int (nI rin)), (3, .int (nI top)), (4, .int (nI lst)), (5, .int (nI en))] := hl
  have u6 := ht9.1
  refine lv_aload_n hx hb dX12_matches_0 rfl (lv_at hl 0 rfl) ?_
  refine lv_iconst (v := nI 0) hx hb dX12_matches_1 (by decide) ?_
  refine mp_53 hx hb hts inX12_matches hown hK hP hD hS (hts _ lkX12_matches_f306) dX12_matches_2 (fun H locs hP hD hS => ?_)
  have hP : va_P (dC, dI) vwCl (MW cB cC cI cJ cZ z0 R pl (va_up N 53 0) (LK G (G 50) (G 51) (G 52)) B) H := by rw [LK_self]; exact hP
  have hD : va_D A (MW cB cC cI cJ cZ z0 R pl (va_up N 53 0) (LK G (G 50) (G 51) (G 52)) B) := by rw [LK_self]; exact hD
  refine lv_aload_n hx hb dX12_matches_5 rfl (lv_at hl 0 rfl) ?_
  refine lv_iload_n hx hb dX12_matches_6 rfl (lv_at hl 3 rfl) ?_
  refine lv_iconst (v := nI 1) hx hb dX12_matches_7 (by decide) ?_
  refine lv_iload hx hb dX12_matches_8 (lv_at hl 4 rfl) ?_
  refine mcl_v (As := [.int (nI top), .int (nI 1), .int (nI lst)]) (rest := []) ⟨hx, hb, hml, hown, hts⟩ (m_lookAt l dC dI cB cC cI cJ cZ z0 R pl (va_up N 53 0) (LK G (G 50) (G 51) (G 52)) B top 1 lst (show 0 < 90000 from (by decide)) H.size) (cwV 3 hts kX12_matches_X12_lookAt_318 rfl rfl rfl (by decide +kernel) ⟨Nat.le_of_ble_eq_true rfl, Nat.le_of_ble_eq_true rfl⟩) hK hP hD hS hA rfl rfl hl.1 (lv_room (Nat.le_of_ble_eq_true rfl)) dX12_matches_10 hcs (fun  N_1 G_2 B_3 pl_4 hw H locs hP hD hS => ?_)
  dsimp only at hw
  obtain ⟨e1, e2, e3, e4⟩ := hw
  rw [e1, e2, e3, e4, bx_uu, LK_look] at hP hD
  have hP : va_P (dC, dI) vwCl (MW cB cC cI cJ cZ z0 R pl (va_up N 53 (0 + 1)) (LK G (va_up (G 50) 0 top) (va_up (G 51) 0 1) (va_up (G 52) 0 lst)) B) H := hP
  have hD : va_D A (MW cB cC cI cJ cZ z0 R pl (va_up N 53 (0 + 1)) (LK G (va_up (G 50) 0 top) (va_up (G 51) 0 1) (va_up (G 52) 0 lst)) B) := hD
  refine lv_iconst (v := nI 1) hx hb dX12_matches_13 (by decide) ?_
  refine lv_istore (lv' := [(6, .int (nI 1)), (0, .ref z0), (1, .int (nI rules)), (2, .int (nI rin)), (3, .int (nI top)), (4, .int (nI lst)), (5, .int (nI en))]) hx hb dX12_matches_14 hl (by decide) rfl (fun ls hl => ?_)
  refine lv_iconst (v := nI 0) hx hb dX12_matches_16 (by decide) ?_
  refine lv_istore (lv' := [(7, .int (nI 0)), (6, .int (nI 1)), (0, .ref z0), (1, .int (nI rules)), (2, .int (nI rin)), (3, .int (nI top)), (4, .int (nI lst)), (5, .int (nI en))]) hx hb dX12_matches_17 hl (by decide) rfl (fun ls hl => ?_)
  refine lp_mat hx hb hml hown hts hK hA hG ht9 hkd hal hev hru hr1 hl1 hlc hri hen top lst (fun q fi L Hw O H locs hL hH hO hq hfin hP hD hS ls hl => ?_) _ 0 1 1 _ _ _ (Nat.lt_succ_self _) (hIup (hG 50) (by omega)) (hIup (hG 51) (by decide)) (hIup (hG 52) (by omega)) (MOUT.start ht9 htop hlst hpt) _ _ hP hD hS ls (lv_sub hl [2, 3, 4, 7, 1, 0] rfl)
  refine lv_iload hx hb dX12_matches_213 (lv_at hl 0 rfl) ?_
  have hz1 : narrow .boolean (.int (nI fi)) = .int (nI fi) := by rcases (show fi = 0 ∨ fi = 1 by omega) with h | h <;> rw [h] <;> rfl
  exact W.zret (v := (nI fi)) hx hb hr hz1 (fun t ht hW => ⟨⟨(nI fi), (va_up N 53 q, LK G L Hw O, B, pl), rfl, ⟨rfl, rfl, q, fi, L, Hw, O, hL, hH, hO, hq, rfl, rfl, rfl, hfin.1, hfin.2⟩, by rw [ht]; exact hP, va_K.moved hW.alike hK, hD⟩, hS.F ht⟩) hS.2.2 dX12_matches_215
