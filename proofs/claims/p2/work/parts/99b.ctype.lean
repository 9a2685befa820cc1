def oX11_byteOf : List Cond := []
def vX11_byteOf : List Cond := .code yX11_byteOf cX11_byteOf 3 (some .int) :: (oX11_byteOf)
def oX11_type : List Cond := [Cond.fieldLink RX11 52 "MacroScopes" "typedLength" "I", Cond.fieldLink RX11 9 "MacroScopes" "typed" "[C", Cond.methodLink RX11 68 yX11_byteOf, Cond.static yX11_byteOf, Cond.initialized RX11]
def vX11_type : List Cond := .code yX11_type cX11_type 6 (some .int) :: (oX11_type ++ (vX11_byteOf ++ (wsX110)))
theorem lkX11_type_f52 : Cond.fieldLink RX11 52 "MacroScopes" "typedLength" "I" ∈ vX11_type := List.mem_cons_of_mem _ (List.mem_append_left _ (List.mem_of_getElem? (i := 0) rfl))
theorem lkX11_type_f9 : Cond.fieldLink RX11 9 "MacroScopes" "typed" "[C" ∈ vX11_type := List.mem_cons_of_mem _ (List.mem_append_left _ (List.mem_of_getElem? (i := 1) rfl))
theorem inX11_type_X11 : ∀ w ∈ wsX110, w ∈ vX11_type := fun w h => List.mem_cons_of_mem _ (List.mem_append_right _ (List.mem_append_right _ (h)))
theorem kX11_type_X11_byteOf_68 : GoodIn vX11_type (va_wsS RX11 68 yX11_byteOf vX11_byteOf) := goodIn_sub (fun w h => (List.mem_append.mp h).elim (fun h => List.mem_cons_of_mem _ (List.mem_append_left _ ((by decide +kernel : ∀ w ∈ ([.methodLink RX11 68 yX11_byteOf, .static yX11_byteOf, .initialized yX11_byteOf.cls] : List Cond), w ∈ oX11_type) w h))) (fun h => List.mem_cons_of_mem _ (List.mem_append_right _ (List.mem_append_left _ (h))))) (by decide +kernel)
theorem ty_x {x : Int} {M : Nat} (ix : -2147483648 ≤ x ∧ x < 2147483648) (hM : M ≤ 8) (e : oI x = nI M) : x = (M : Int) := by
  have h := congrArg Int32.toInt e
  rw [toInt_oI ix, nI_toInt (by omega)] at h
  exact h
theorem ty_not {g1 : Int64} {x : Int} {len : Nat} (ix : -2147483648 ≤ x ∧ x < 2147483648) (h : ¬ (1 ≤ x ∧ x ≤ 8 ∧ (len : Int) + x ≤ 3000)) : ¬ TGD g1 (oI x) len := fun ⟨M, e, m1, m2, m3, _⟩ => h (by have := ty_x ix m2 e; omega)
theorem ty_bad {g1 : Int64} {x i : Int} {len : Nat} {r : Int32} (ix : -2147483648 ≤ x ∧ x < 2147483648) (hi : 0 ≤ i ∧ i < x) (hr : r = BY g1 (oI i)) (hb : r.toInt < 32 ∨ 126 < r.toInt) : ¬ TGD g1 (oI x) len := fun ⟨M, e, m1, m2, m3, m5⟩ => by
  have hx := ty_x ix m2 e
  have h := m5 i.toNat (by omega)
  unfold OKB at h
  rw [← oI_nI (n := i.toNat) (by omega), show ((i.toNat : Nat) : Int) = i by omega, ← hr] at h
  have h1 := Int32.le_iff_toInt_le.mp h.1
  have h2 := Int32.le_iff_toInt_le.mp h.2
  have e1 : (32 : Int32).toInt = 32 := rfl
  have e2 : (126 : Int32).toInt = 126 := rfl
  omega
theorem ty_ok {g1 : Int64} {i : Int} {r : Int32} (hi : 0 ≤ i ∧ i < 8) (hr : r = BY g1 (oI i)) (h1 : 32 ≤ r.toInt) (h2 : r.toInt ≤ 126) : OKB g1 i.toNat := by
  unfold OKB
  rw [← oI_nI (n := i.toNat) (by omega), show ((i.toNat : Nat) : Int) = i by omega, ← hr]
  have e1 : (32 : Int32).toInt = 32 := rfl
  have e2 : (126 : Int32).toInt = 126 := rfl
  exact ⟨Int32.le_iff_toInt_le.mpr (by omega), Int32.le_iff_toInt_le.mpr (by omega)⟩
theorem ty_yes {g1 : Int64} {x : Int} {len len1 : Nat} {r : Int32} (hx : 1 ≤ x ∧ x ≤ 8) (hl : (len : Int) + x ≤ 3000) (hok : ∀ j : Nat, (j : Int) < x → OKB g1 j) (hr : r.toInt = (len : Int) + x) (h1 : (len1 : Int) = (len : Int) + x) : TYP g1 (oI x) len r len1 := by
  have e : oI x = nI x.toNat := by rw [← oI_nI (n := x.toNat) (by omega), show ((x.toNat : Nat) : Int) = x by omega]
  refine Or.inl ⟨⟨x.toNat, e, by omega, by omega, by omega, fun j hj => hok j (by omega)⟩, x.toNat, e, by omega, ?_, by omega⟩
  apply Int32.toInt_inj.mp
  rw [nI_toInt (by omega)]
  omega
set_option maxHeartbeats 4000000 in
set_option maxRecDepth 100000 in
theorem c_byteOf (l : Launch) (dC : Nat → ClassId) (dI : Nat → Nat → Nat) (cB cC cI cJ cZ : ClassId) (a : Nat → Nat) (F : Nat → Int32) (X : Nat → Nat → Int32) (J : Nat → Nat → Int64) (R : Nat → Nat) (gf gn : Nat) (x : Int) (g1 : Int64)  (ix : (-2147483648 ≤ x ∧ x < 2147483648)) (s0 : Nat) : Met l yX11_byteOf vX11_byteOf { frames := 1, cells := 0, slots := 0, locals := 60 } (va_Pc [.long g1, .int (oI x)] (cPre dC dI cB cC cI cJ cZ a F X J R gf gn s0)) (va_Qi (fun (r : Int32) (_ : Unit) => r = BY g1 (oI x)) (fun _ => cPost dC dI cB cC cI cJ cZ a F X J R gf gn (va_A (CW cB cC cI cJ cZ a F X J R gf gn) s0)) (va_A (CW cB cC cI cJ cZ a F X J R gf gn) s0)) 0 0 (va_A (CW cB cC cI cJ cZ a F X J R gf gn) s0) := by
  refine Met.ofW (cc := cX11_byteOf) (maxL := 3) (ret := (some .int)) (by decide) rfl ?_
  intro p e s m args below meth c s₁ B9 hml hv
  obtain ⟨rfl, hsz0, hP, hK, hD0, hNW⟩ := hv
  have hx := B9.exec
  have hb := B9.bytes
  have hr := B9.returns
  have hts := atoms_spec (ws := vX11_byteOf) B9.pre
  have hown : s.vm.findClass RX11 = some m.cls := findClass_of_methodNamed B9.named
  have hlocks := B9.notSynchronized
  clear B9
  subst hsz0
  have hD := hD0.self (sz := s.heap.size)
  generalize hAe : va_A (CW cB cC cI cJ cZ a F X J R gf gn) s.heap.size = A at hD ⊢
  have hA : ∀ q : Nat, s.heap.size ≤ q → A q := fun q h => by rw [← hAe]; exact Or.inr h
  have hS : va_S A s.heap s.heap [] := va_S.rf
  have hcs : 0 + 0 ≤ (0 : Nat) ∧ 0 + 0 ≤ (0 : Nat) := ⟨Nat.le_refl 0, Nat.le_refl 0⟩
  have hl := lv_entry ([.long g1, .int (oI x)]) (n := 3) (Nat.le_of_ble_eq_true rfl)
  rw [lg_entry_eq]
  generalize (lg_sl ([.long g1, .int (oI x)]) ++ List.replicate (3 - (lg_sl ([.long g1, .int (oI x)])).length) Slot.unset).toArray = ls at hl ⊢
  have hl : lv_has ls 3 [(0, .long g1), (2, .int (oI x))] := hl
  refine lv_lload_n hx hb dX11_byteOf_0 rfl (lv_at hl 0 rfl) ?_
  refine lv_bipush (v := 8) hx hb dX11_byteOf_1 (by decide) ?_
  refine lv_iload_n hx hb dX11_byteOf_3 rfl (lv_at hl 1 rfl) ?_
  refine lv_imul hx hb dX11_byteOf_4 ?_
  refine lv_lushr hx hb dX11_byteOf_5 rfl ?_
  refine lv_l2i hx hb dX11_byteOf_6 rfl ?_
  refine lv_sipush (v := 255) hx hb dX11_byteOf_7 (by decide) ?_
  refine lv_iand hx hb dX11_byteOf_10 ?_
  exact W.iret (v := BY g1 (oI x)) hx hb hr (fun t ht hW => ⟨⟨BY g1 (oI x), (), rfl, rfl, by rw [ht]; exact hP, va_K.moved hW.alike hK, hD⟩, hS.F ht⟩) hS.2.2 dX11_byteOf_11

set_option maxHeartbeats 4000000 in
set_option maxRecDepth 100000 in
theorem lq_typeB {p : Program} {l : Launch} {e : Env} {s : State} {m : MethodId} {args : Array Value} {below : List Frame} {meth : Method} {c : Code} {A : Nat → Prop} {dC : Nat → ClassId} {dI : Nat → Nat → Nat} {cB cC cI cJ cZ : ClassId} {a : Nat → Nat} {F : Nat → Int32} {X : Nat → Nat → Int32} {J : Nat → Nat → Int64} {R : Nat → Nat} {gf gn : Nat} (hx : p.tables.exec = Jvm.exec) (hb : c.code = cX11_type) (hml : c.maxLocals = 6) (hown : s.vm.findClass RX11 = some m.cls) (hts : ∀ w ∈ vX11_type, w.before args s = true) (hK : va_K (dC, dI) vwCl (TY cB cC cI cJ cZ) s) (hNW : NW s) (hA : ∀ q : Nat, s.heap.size ≤ q → A q) (hr : meth.sig.returnType = (some .int)) (hlocks : meth.locks = false) (x : Int) (g1 : Int64)  (ix : (-2147483648 ≤ x ∧ x < 2147483648)) (hty : 0 ≤ (F 27).toInt ∧ (F 27).toInt ≤ 3000)  (hx9 : 1 ≤ x ∧ x ≤ 8 ∧ (F 27).toInt + x ≤ 3000) (hok : ∀ j : Nat, (j : Int) < x → OKB g1 j) : ∀ (k : Nat) (F1 : Nat → Int32) (X1 : Nat → Nat → Int32) (q : Int), (q + 1).toNat < k → (-2147483648 ≤ q ∧ q < 2147483648) → (-1 ≤ q ∧ q < x ∧ (F1 27).toInt = (F 27).toInt + (x - 1 - q)) → ∀ (H : Heap) (locs : List Loc), va_P (dC, dI) vwCl (CW cB cC cI cJ cZ a (rg 27 27 F F1) (rg 26 26 X X1) J R gf gn) H → va_D A (CW cB cC cI cJ cZ a (rg 27 27 F F1) (rg 26 26 X X1) J R gf gn) → va_S A s.heap H locs → ∀ (ls : Array Slot), lv_has ls 6 [(0, .ref (a 11)), (1, .long g1), (3, .int (oI x)), (4, .int (oI q))] → W p l e (headSpec vX11_type { frames := 2, cells := 0, slots := 0, locals := 82 }).room s m args below meth c H locs 0 0 (MQ below (va_Qi (fun (r : Int32) (u : (Nat → Int32) × (Nat → Nat → Int32)) => match u with | (F1, X1) => TYP g1 (oI x) (F 27).toInt.toNat (r) (F1 27).toInt.toNat ∧ 0 ≤ (F1 27).toInt) (fun u => cPost dC dI cB cC cI cJ cZ a (rg 27 27 F u.1) (rg 26 26 X u.2) J R gf gn A) A) args s 0 0 A) (F0 m 69 ls []) := by
  have hcs : 0 + 0 ≤ (0 : Nat) ∧ 0 + 0 ≤ (0 : Nat) := ⟨Nat.le_refl 0, Nat.le_refl 0⟩
  intro k
  induction k with
  | zero =>
    intro F1 X1 q hk iq9 hq
    exact absurd hk (Nat.not_lt_zero _)
  | succ k ih =>
    intro F1 X1 q hk iq9 hq H locs hP hD hS ls hl
    refine lv_iload hx hb dX11_type_69 (lv_at hl 3 rfl) ?_
    refine cz_lt (tgt := 106) hx hb (by omega) dX11_type_71 (by decide) (fun c_1 => ?_) (fun c_1 => ?_)
    · refine lv_aload_n hx hb dX11_type_106 rfl (lv_at hl 0 rfl) ?_
      refine cg_11_6 hx hb hts inX11_type_X11 hown hK hP (hts _ lkX11_type_f52) dX11_type_107 ?_
      refine tp_i (y := oI (F1 27).toInt) rfl ?_
      have i_2 := i32r (F1 27)
      have e0 : (oI ((F1 27).toInt)).toInt = (F1 27).toInt := congrArg Int32.toInt (oI_toInt _)
      have eF9 : rg 27 27 F (rg 27 27 F F1) = rg 27 27 F F1 := ag_end (show AGo F (rg 27 27 F F1) (fun k => (27 ≤ k ∧ k ≤ 27)) from ag_rg (ag_rf) (fun k a b => (show (27 ≤ k ∧ k ≤ 27) from by omega)))
      have eX9 : rg 26 26 X (rg 26 26 X X1) = rg 26 26 X X1 := ag_end (show AGo X (rg 26 26 X X1) (fun k => (26 ≤ k ∧ k ≤ 26)) from ag_rg (ag_rf) (fun k a b => (show (26 ≤ k ∧ k ≤ 26) from by omega)))
      have hP9 : va_P (dC, dI) vwCl (CW cB cC cI cJ cZ a (rg 27 27 F (rg 27 27 F F1)) (rg 26 26 X (rg 26 26 X X1)) J R gf gn) H := by rw [eF9, eX9]; exact hP
      have hD9 : va_D A (CW cB cC cI cJ cZ a (rg 27 27 F (rg 27 27 F F1)) (rg 26 26 X (rg 26 26 X X1)) J R gf gn) := by rw [eF9, eX9]; exact hD
      have hpost : TYP g1 (oI x) (F 27).toInt.toNat (oI ((F1 27).toInt)) (F1 27).toInt.toNat ∧ 0 ≤ (F1 27).toInt := ⟨ty_yes (by omega) (by omega) hok (by omega) (by omega), by omega⟩
      exact W.iret (v := (oI ((F1 27).toInt))) hx hb hr (fun t ht hW => ⟨⟨(oI ((F1 27).toInt)), (rg 27 27 F F1, rg 26 26 X X1), rfl, hpost, by rw [ht]; exact hP9, va_K.moved hW.alike hK, hD9⟩, hS.F ht⟩) hS.2.2 dX11_type_110
    · refine lv_aload_n hx hb dX11_type_74 rfl (lv_at hl 0 rfl) ?_
      refine cg_11_0 hx hb hts inX11_type_X11 hown hK hP (hts _ lkX11_type_f9) dX11_type_75 ?_
      refine lv_aload_n hx hb dX11_type_78 rfl (lv_at hl 0 rfl) ?_
      refine cg_11_6 hx hb hts inX11_type_X11 hown hK hP (hts _ lkX11_type_f52) dX11_type_79 ?_
      refine tp_i (y := oI (F1 27).toInt) rfl ?_
      have i_3 := i32r (F1 27)
      refine lv_lload_n hx hb dX11_type_82 rfl (lv_at hl 1 rfl) ?_
      refine lv_iload hx hb dX11_type_83 (lv_at hl 3 rfl) ?_
      refine ccs_iS (As := [.long g1, .int (oI q)]) (rest := [.int (oI ((F1 27).toInt)), .ref (R 26)]) ⟨hx, hb, hml, hown, hts⟩ (c_byteOf l dC dI cB cC cI cJ cZ a (rg 27 27 F F1) (rg 26 26 X X1) J R gf gn q g1  (by omega)   H.size) (va_cwS 2 hts kX11_type_X11_byteOf_68 rfl rfl rfl (by decide +kernel) ⟨Nat.le_of_ble_eq_true rfl, Nat.le_of_ble_eq_true rfl⟩) hK hNW hP hD hS hA rfl rfl hl.1 (lv_room (Nat.le_of_ble_eq_true rfl)) dX11_type_85 hcs (fun r_4 hw_5 H locs hP hD hS => ?_)
      replace hw_5 : r_4 = BY g1 (oI q) := hw_5
      have hby := hw_5
      clear hw_5
      have i_6 := i32r r_4
      refine lv_i2c (v := ((oI r_4.toInt).toUInt32 % 65536).toInt32) hx hb dX11_type_88 rfl ?_
      refine lv_topi (fun v_7 ev_7 => ?_)
      refine tp_i (oI_toInt v_7).symm ?_
      have i_8 := i2cr _ _ ev_7
      refine cs_26 hx hb hK hP hD hS (by omega) dX11_type_89 (fun H locs hP hD hS => ?_)
      have hP : va_P (dC, dI) vwCl (CW cB cC cI cJ cZ a (rg 27 27 F F1) (va_up (rg 26 26 X X1) 26 (upd (X1 26) ((F1 27).toInt).toNat (vp_nar .char (oI v_7.toInt)))) J R gf gn) H := hP
      have hD : va_D A (CW cB cC cI cJ cZ a (rg 27 27 F F1) (va_up (rg 26 26 X X1) 26 (upd (X1 26) ((F1 27).toInt).toNat (vp_nar .char (oI v_7.toInt)))) J R gf gn) := hD
      refine lv_aload_n hx hb dX11_type_90 rfl (lv_at hl 0 rfl) ?_
      refine lv_dup hx hb dX11_type_91 rfl ?_
      refine cg_11_6 hx hb hts inX11_type_X11 hown hK hP (hts _ lkX11_type_f52) dX11_type_92 ?_
      refine tp_i (y := oI (F1 27).toInt) rfl ?_
      refine lv_iconst (v := oI 1) hx hb dX11_type_95 (by decide) ?_
      refine lv_iadd hx hb dX11_type_96 ?_
      refine tp_i (oI_add ((F1 27).toInt) 1) ?_
      refine cp_11_6 hx hb hts inX11_type_X11 hown hK hP hD hS (hts _ lkX11_type_f52) dX11_type_97 (fun H locs hP hD hS => ?_)
      have hP : va_P (dC, dI) vwCl (CW cB cC cI cJ cZ a (va_up (rg 27 27 F F1) 27 (oI (((F1 27).toInt) + 1))) (va_up (rg 26 26 X X1) 26 (upd (X1 26) ((F1 27).toInt).toNat (vp_nar .char (oI v_7.toInt)))) J R gf gn) H := hP
      have hD : va_D A (CW cB cC cI cJ cZ a (va_up (rg 27 27 F F1) 27 (oI (((F1 27).toInt) + 1))) (va_up (rg 26 26 X X1) 26 (upd (X1 26) ((F1 27).toInt).toNat (vp_nar .char (oI v_7.toInt)))) J R gf gn) := hD
      have e_9 : (oI (((F1 27).toInt) + 1)).toInt = ((F1 27).toInt) + 1 := toInt_oI (by omega)
      refine lv_iinc (v := oI (q + (-1))) (lv' := [(4, .int (oI (q + (-1)))), (0, .ref (a 11)), (1, .long g1), (3, .int (oI x))]) hx hb dX11_type_100 hl (k := 3) rfl (oI_add q (-1)) (by decide) rfl (fun ls hl => ?_)
      refine lv_goto (tgt := 69) hx hb dX11_type_103 (by decide) ?_
      have eF9 : rg 27 27 F (va_up (rg 27 27 F F1) 27 (oI (((F1 27).toInt) + 1))) = va_up (rg 27 27 F F1) 27 (oI (((F1 27).toInt) + 1)) := ag_end (show AGo F (va_up (rg 27 27 F F1) 27 (oI (((F1 27).toInt) + 1))) (fun k => (27 ≤ k ∧ k ≤ 27)) from ag_up (ag_rg (ag_rf) (fun k a b => (show (27 ≤ k ∧ k ≤ 27) from by omega))) (show (27 ≤ 27 ∧ 27 ≤ 27) from by omega))
      have eX9 : rg 26 26 X (va_up (rg 26 26 X X1) 26 (upd (X1 26) ((F1 27).toInt).toNat (vp_nar .char (oI v_7.toInt)))) = va_up (rg 26 26 X X1) 26 (upd (X1 26) ((F1 27).toInt).toNat (vp_nar .char (oI v_7.toInt))) := ag_end (show AGo X (va_up (rg 26 26 X X1) 26 (upd (X1 26) ((F1 27).toInt).toNat (vp_nar .char (oI v_7.toInt)))) (fun k => (26 ≤ k ∧ k ≤ 26)) from ag_up (ag_rg (ag_rf) (fun k a b => (show (26 ≤ k ∧ k ≤ 26) from by omega))) (show (26 ≤ 26 ∧ 26 ≤ 26) from by omega))
      have hP9 : va_P (dC, dI) vwCl (CW cB cC cI cJ cZ a (rg 27 27 F (va_up (rg 27 27 F F1) 27 (oI (((F1 27).toInt) + 1)))) (rg 26 26 X (va_up (rg 26 26 X X1) 26 (upd (X1 26) ((F1 27).toInt).toNat (vp_nar .char (oI v_7.toInt))))) J R gf gn) H := by rw [eF9, eX9]; exact hP
      have hD9 : va_D A (CW cB cC cI cJ cZ a (rg 27 27 F (va_up (rg 27 27 F F1) 27 (oI (((F1 27).toInt) + 1)))) (rg 26 26 X (va_up (rg 26 26 X X1) 26 (upd (X1 26) ((F1 27).toInt).toNat (vp_nar .char (oI v_7.toInt))))) J R gf gn) := by rw [eF9, eX9]; exact hD
      exact ih (va_up (rg 27 27 F F1) 27 (oI (((F1 27).toInt) + 1))) (va_up (rg 26 26 X X1) 26 (upd (X1 26) ((F1 27).toInt).toNat (vp_nar .char (oI v_7.toInt)))) (q + (-1)) (show ((q + (-1)) + 1).toNat < k from by omega) (by omega) (show -1 ≤ (q + (-1)) ∧ (q + (-1)) < x ∧ (oI (((F1 27).toInt) + 1)).toInt = (F 27).toInt + (x - 1 - (q + (-1))) from by first | assumption | omega | (with_reducible rfl) | ((repeat' apply And.intro) <;> first | assumption | omega | (with_reducible rfl))) _ _ hP9 hD9 hS ls (lv_sub hl [1, 2, 3, 0] rfl)

set_option maxHeartbeats 4000000 in
set_option maxRecDepth 100000 in
theorem lq_typeA {p : Program} {l : Launch} {e : Env} {s : State} {m : MethodId} {args : Array Value} {below : List Frame} {meth : Method} {c : Code} {A : Nat → Prop} {dC : Nat → ClassId} {dI : Nat → Nat → Nat} {cB cC cI cJ cZ : ClassId} {a : Nat → Nat} {F : Nat → Int32} {X : Nat → Nat → Int32} {J : Nat → Nat → Int64} {R : Nat → Nat} {gf gn : Nat} (hx : p.tables.exec = Jvm.exec) (hb : c.code = cX11_type) (hml : c.maxLocals = 6) (hown : s.vm.findClass RX11 = some m.cls) (hts : ∀ w ∈ vX11_type, w.before args s = true) (hK : va_K (dC, dI) vwCl (TY cB cC cI cJ cZ) s) (hNW : NW s) (hA : ∀ q : Nat, s.heap.size ≤ q → A q) (hr : meth.sig.returnType = (some .int)) (hlocks : meth.locks = false) (x : Int) (g1 : Int64)  (ix : (-2147483648 ≤ x ∧ x < 2147483648)) (hty : 0 ≤ (F 27).toInt ∧ (F 27).toInt ≤ 3000)  (hx9 : 1 ≤ x ∧ x ≤ 8 ∧ (F 27).toInt + x ≤ 3000) : ∀ (k : Nat) (q : Int), (x - q).toNat < k → (-2147483648 ≤ q ∧ q < 2147483648) → (0 ≤ q ∧ q ≤ x) → (∀ j : Nat, (j : Int) < q → OKB g1 j) → ∀ (H : Heap) (locs : List Loc), va_P (dC, dI) vwCl (CW cB cC cI cJ cZ a F X J R gf gn) H → va_D A (CW cB cC cI cJ cZ a F X J R gf gn) → va_S A s.heap H locs → ∀ (ls : Array Slot), lv_has ls 6 [(0, .ref (a 11)), (1, .long g1), (3, .int (oI x)), (4, .int (oI q))] → W p l e (headSpec vX11_type { frames := 2, cells := 0, slots := 0, locals := 82 }).room s m args below meth c H locs 0 0 (MQ below (va_Qi (fun (r : Int32) (u : (Nat → Int32) × (Nat → Nat → Int32)) => match u with | (F1, X1) => TYP g1 (oI x) (F 27).toInt.toNat (r) (F1 27).toInt.toNat ∧ 0 ≤ (F1 27).toInt) (fun u => cPost dC dI cB cC cI cJ cZ a (rg 27 27 F u.1) (rg 26 26 X u.2) J R gf gn A) A) args s 0 0 A) (F0 m 28 ls []) := by
  have hcs : 0 + 0 ≤ (0 : Nat) ∧ 0 + 0 ≤ (0 : Nat) := ⟨Nat.le_refl 0, Nat.le_refl 0⟩
  intro k
  induction k with
  | zero =>
    intro q hk iq9 hq hok
    exact absurd hk (Nat.not_lt_zero _)
  | succ k ih =>
    intro q hk iq9 hq hok H locs hP hD hS ls hl
    refine lv_iload hx hb dX11_type_28 (lv_at hl 3 rfl) ?_
    refine lv_iload_n hx hb dX11_type_30 rfl (lv_at hl 2 rfl) ?_
    refine ci_ge (tgt := 64) hx hb (by omega) (by omega) dX11_type_31 (by decide) (fun c_1 => ?_) (fun c_1 => ?_)
    · refine lv_iload_n hx hb dX11_type_64 rfl (lv_at hl 2 rfl) ?_
      refine lv_iconst (v := oI 1) hx hb dX11_type_65 (by decide) ?_
      refine lv_isub hx hb dX11_type_66 ?_
      refine tp_i (oI_sub x 1) ?_
      refine lv_istore (lv' := [(4, .int (oI (x - 1))), (0, .ref (a 11)), (1, .long g1), (3, .int (oI x))]) hx hb dX11_type_67 hl (by decide) rfl (fun ls hl => ?_)
      have hok2 : ∀ j : Nat, (j : Int) < x → OKB g1 j := fun j hj => hok j (by omega)
      have eF9 : rg 27 27 F F = F := ag_end (show AGo F F (fun k => (27 ≤ k ∧ k ≤ 27)) from ag_rf)
      have eX9 : rg 26 26 X X = X := ag_end (show AGo X X (fun k => (26 ≤ k ∧ k ≤ 26)) from ag_rf)
      have hP9 : va_P (dC, dI) vwCl (CW cB cC cI cJ cZ a (rg 27 27 F F) (rg 26 26 X X) J R gf gn) H := by rw [eF9, eX9]; exact hP
      have hD9 : va_D A (CW cB cC cI cJ cZ a (rg 27 27 F F) (rg 26 26 X X) J R gf gn) := by rw [eF9, eX9]; exact hD
      exact lq_typeB hx hb hml hown hts hK hNW hA hr hlocks x g1 ix (by assumption) hx9 hok2 _ F X (x - 1) (Nat.lt_succ_self _) (by omega) (show -1 ≤ (x - 1) ∧ (x - 1) < x ∧ (F 27).toInt = (F 27).toInt + (x - 1 - (x - 1)) from by first | assumption | omega | (with_reducible rfl) | ((repeat' apply And.intro) <;> first | assumption | omega | (with_reducible rfl))) _ _ hP9 hD9 hS ls (lv_sub hl [1, 2, 3, 0] rfl)
    · refine lv_lload_n hx hb dX11_type_34 rfl (lv_at hl 1 rfl) ?_
      refine lv_iload hx hb dX11_type_35 (lv_at hl 3 rfl) ?_
      refine ccs_iS (As := [.long g1, .int (oI q)]) (rest := []) ⟨hx, hb, hml, hown, hts⟩ (c_byteOf l dC dI cB cC cI cJ cZ a F X J R gf gn q g1  (by omega)   H.size) (va_cwS 2 hts kX11_type_X11_byteOf_68 rfl rfl rfl (by decide +kernel) ⟨Nat.le_of_ble_eq_true rfl, Nat.le_of_ble_eq_true rfl⟩) hK hNW hP hD hS hA rfl rfl hl.1 (lv_room (Nat.le_of_ble_eq_true rfl)) dX11_type_37 hcs (fun r_2 hw_3 H locs hP hD hS => ?_)
      replace hw_3 : r_2 = BY g1 (oI q) := hw_3
      have hby := hw_3
      clear hw_3
      have i_4 := i32r r_2
      refine lv_istore (lv' := [(5, .int (oI r_2.toInt)), (0, .ref (a 11)), (1, .long g1), (3, .int (oI x)), (4, .int (oI q))]) hx hb dX11_type_40 hl (by decide) rfl (fun ls hl => ?_)
      refine lv_iload hx hb dX11_type_42 (lv_at hl 0 rfl) ?_
      refine lv_bipush (v := oI 32) hx hb dX11_type_44 (by decide) ?_
      refine ci_lt (tgt := 56) hx hb (i32r _) (by decide) dX11_type_46 (by decide) (fun c_5 => ?_) (fun c_5 => ?_)
      · refine lv_iconst (v := oI (-1)) hx hb dX11_type_56 (by decide) ?_
        have hno : ¬ TGD g1 (oI x) (F 27).toInt.toNat := ty_bad ix (by omega) hby (by omega)
        have e0 : (oI ((-1))).toInt = (-1) := by decide
        have eF9 : rg 27 27 F F = F := ag_end (show AGo F F (fun k => (27 ≤ k ∧ k ≤ 27)) from ag_rf)
        have eX9 : rg 26 26 X X = X := ag_end (show AGo X X (fun k => (26 ≤ k ∧ k ≤ 26)) from ag_rf)
        have hP9 : va_P (dC, dI) vwCl (CW cB cC cI cJ cZ a (rg 27 27 F F) (rg 26 26 X X) J R gf gn) H := by rw [eF9, eX9]; exact hP
        have hD9 : va_D A (CW cB cC cI cJ cZ a (rg 27 27 F F) (rg 26 26 X X) J R gf gn) := by rw [eF9, eX9]; exact hD
        have hpost : TYP g1 (oI x) (F 27).toInt.toNat (oI ((-1))) (F 27).toInt.toNat ∧ 0 ≤ (F 27).toInt := ⟨Or.inr ⟨hno, by decide, rfl⟩, by omega⟩
        exact W.iret (v := (oI ((-1)))) hx hb hr (fun t ht hW => ⟨⟨(oI ((-1))), (F, X), rfl, hpost, by rw [ht]; exact hP9, va_K.moved hW.alike hK, hD9⟩, hS.F ht⟩) hS.2.2 dX11_type_57
      · refine lv_iload hx hb dX11_type_49 (lv_at hl 0 rfl) ?_
        refine lv_bipush (v := oI 126) hx hb dX11_type_51 (by decide) ?_
        refine ci_le (tgt := 58) hx hb (i32r _) (by decide) dX11_type_53 (by decide) (fun c_6 => ?_) (fun c_6 => ?_)
        · refine lv_iinc (v := oI (q + 1)) (lv' := [(4, .int (oI (q + 1))), (5, .int (oI r_2.toInt)), (0, .ref (a 11)), (1, .long g1), (3, .int (oI x))]) hx hb dX11_type_58 hl (k := 4) rfl (oI_add q 1) (by decide) rfl (fun ls hl => ?_)
          refine lv_goto (tgt := 28) hx hb dX11_type_61 (by decide) ?_
          exact ih (q + 1) (show (x - (q + 1)).toNat < k from by omega) (by omega) (show 0 ≤ (q + 1) ∧ (q + 1) ≤ x from by first | assumption | omega | (with_reducible rfl) | ((repeat' apply And.intro) <;> first | assumption | omega | (with_reducible rfl))) (show ∀ j : Nat, (j : Int) < (q + 1) → OKB g1 j from fun j hj => if h9 : (j : Int) < q then hok j h9 else by have e9 : j = q.toNat := (by omega); rw [e9]; exact ty_ok (by omega) hby (by omega) (by omega)) _ _ hP hD hS ls (lv_sub hl [2, 3, 4, 0] rfl)
        · refine lv_iconst (v := oI (-1)) hx hb dX11_type_56 (by decide) ?_
          have hno : ¬ TGD g1 (oI x) (F 27).toInt.toNat := ty_bad ix (by omega) hby (by omega)
          have e0 : (oI ((-1))).toInt = (-1) := by decide
          have eF9 : rg 27 27 F F = F := ag_end (show AGo F F (fun k => (27 ≤ k ∧ k ≤ 27)) from ag_rf)
          have eX9 : rg 26 26 X X = X := ag_end (show AGo X X (fun k => (26 ≤ k ∧ k ≤ 26)) from ag_rf)
          have hP9 : va_P (dC, dI) vwCl (CW cB cC cI cJ cZ a (rg 27 27 F F) (rg 26 26 X X) J R gf gn) H := by rw [eF9, eX9]; exact hP
          have hD9 : va_D A (CW cB cC cI cJ cZ a (rg 27 27 F F) (rg 26 26 X X) J R gf gn) := by rw [eF9, eX9]; exact hD
          have hpost : TYP g1 (oI x) (F 27).toInt.toNat (oI ((-1))) (F 27).toInt.toNat ∧ 0 ≤ (F 27).toInt := ⟨Or.inr ⟨hno, by decide, rfl⟩, by omega⟩
          exact W.iret (v := (oI ((-1)))) hx hb hr (fun t ht hW => ⟨⟨(oI ((-1))), (F, X), rfl, hpost, by rw [ht]; exact hP9, va_K.moved hW.alike hK, hD9⟩, hS.F ht⟩) hS.2.2 dX11_type_57

set_option maxHeartbeats 4000000 in
set_option maxRecDepth 100000 in
theorem c_typeX (l : Launch) (dC : Nat → ClassId) (dI : Nat → Nat → Nat) (cB cC cI cJ cZ : ClassId) (a : Nat → Nat) (F : Nat → Int32) (X : Nat → Nat → Int32) (J : Nat → Nat → Int64) (R : Nat → Nat) (gf gn : Nat) (x : Int) (g1 : Int64)  (ix : (-2147483648 ≤ x ∧ x < 2147483648)) (hty : 0 ≤ (F 27).toInt ∧ (F 27).toInt ≤ 3000) (s0 : Nat) : Met l yX11_type vX11_type { frames := 2, cells := 0, slots := 0, locals := 82 } (va_Pc [.ref (a 11), .long g1, .int (oI x)] (cPre dC dI cB cC cI cJ cZ a F X J R gf gn s0)) (va_Qi (fun (r : Int32) (u : (Nat → Int32) × (Nat → Nat → Int32)) => match u with | (F1, X1) => TYP g1 (oI x) (F 27).toInt.toNat (r) (F1 27).toInt.toNat ∧ 0 ≤ (F1 27).toInt) (fun u => cPost dC dI cB cC cI cJ cZ a (rg 27 27 F u.1) (rg 26 26 X u.2) J R gf gn (va_A (CW cB cC cI cJ cZ a F X J R gf gn) s0)) (va_A (CW cB cC cI cJ cZ a F X J R gf gn) s0)) 0 0 (va_A (CW cB cC cI cJ cZ a F X J R gf gn) s0) := by
  refine Met.ofW (cc := cX11_type) (maxL := 6) (ret := (some .int)) (by decide) rfl ?_
  intro p e s m args below meth c s₁ B9 hml hv
  obtain ⟨rfl, hsz0, hP, hK, hD0, hNW⟩ := hv
  have hx := B9.exec
  have hb := B9.bytes
  have hr := B9.returns
  have hts := atoms_spec (ws := vX11_type) B9.pre
  have hown : s.vm.findClass RX11 = some m.cls := findClass_of_methodNamed B9.named
  have hlocks := B9.notSynchronized
  clear B9
  subst hsz0
  have hD := hD0.self (sz := s.heap.size)
  generalize hAe : va_A (CW cB cC cI cJ cZ a F X J R gf gn) s.heap.size = A at hD ⊢
  have hA : ∀ q : Nat, s.heap.size ≤ q → A q := fun q h => by rw [← hAe]; exact Or.inr h
  have hS : va_S A s.heap s.heap [] := va_S.rf
  have hcs : 0 + 0 ≤ (0 : Nat) ∧ 0 + 0 ≤ (0 : Nat) := ⟨Nat.le_refl 0, Nat.le_refl 0⟩
  have hl := lv_entry ([.ref (a 11), .long g1, .int (oI x)]) (n := 6) (Nat.le_of_ble_eq_true rfl)
  rw [lg_entry_eq]
  generalize (lg_sl ([.ref (a 11), .long g1, .int (oI x)]) ++ List.replicate (6 - (lg_sl ([.ref (a 11), .long g1, .int (oI x)])).length) Slot.unset).toArray = ls at hl ⊢
  have hl : lv_has ls 6 [(0, .ref (a 11)), (1, .long g1), (3, .int (oI x))] := hl
  refine lv_iload_n hx hb dX11_type_0 rfl (lv_at hl 2 rfl) ?_
  refine lv_iconst (v := oI 1) hx hb dX11_type_1 (by decide) ?_
  refine ci_lt (tgt := 23) hx hb (by omega) (by decide) dX11_type_2 (by decide) (fun c_1 => ?_) (fun c_1 => ?_)
  · refine lv_iconst (v := oI (-1)) hx hb dX11_type_23 (by decide) ?_
    have hno : ¬ TGD g1 (oI x) (F 27).toInt.toNat := ty_not ix (by omega)
    have e0 : (oI ((-1))).toInt = (-1) := by decide
    have eF9 : rg 27 27 F F = F := ag_end (show AGo F F (fun k => (27 ≤ k ∧ k ≤ 27)) from ag_rf)
    have eX9 : rg 26 26 X X = X := ag_end (show AGo X X (fun k => (26 ≤ k ∧ k ≤ 26)) from ag_rf)
    have hP9 : va_P (dC, dI) vwCl (CW cB cC cI cJ cZ a (rg 27 27 F F) (rg 26 26 X X) J R gf gn) s.heap := by rw [eF9, eX9]; exact hP
    have hD9 : va_D A (CW cB cC cI cJ cZ a (rg 27 27 F F) (rg 26 26 X X) J R gf gn) := by rw [eF9, eX9]; exact hD
    have hpost : TYP g1 (oI x) (F 27).toInt.toNat (oI ((-1))) (F 27).toInt.toNat ∧ 0 ≤ (F 27).toInt := ⟨Or.inr ⟨hno, by decide, rfl⟩, by omega⟩
    exact W.iret (v := (oI ((-1)))) hx hb hr (fun t ht hW => ⟨⟨(oI ((-1))), (F, X), rfl, hpost, by rw [ht]; exact hP9, va_K.moved hW.alike hK, hD9⟩, hS.F ht⟩) hS.2.2 dX11_type_24
  · refine lv_iload_n hx hb dX11_type_5 rfl (lv_at hl 2 rfl) ?_
    refine lv_bipush (v := oI 8) hx hb dX11_type_6 (by decide) ?_
    refine ci_gt (tgt := 23) hx hb (by omega) (by decide) dX11_type_8 (by decide) (fun c_2 => ?_) (fun c_2 => ?_)
    · refine lv_iconst (v := oI (-1)) hx hb dX11_type_23 (by decide) ?_
      have hno : ¬ TGD g1 (oI x) (F 27).toInt.toNat := ty_not ix (by omega)
      have e0 : (oI ((-1))).toInt = (-1) := by decide
      have eF9 : rg 27 27 F F = F := ag_end (show AGo F F (fun k => (27 ≤ k ∧ k ≤ 27)) from ag_rf)
      have eX9 : rg 26 26 X X = X := ag_end (show AGo X X (fun k => (26 ≤ k ∧ k ≤ 26)) from ag_rf)
      have hP9 : va_P (dC, dI) vwCl (CW cB cC cI cJ cZ a (rg 27 27 F F) (rg 26 26 X X) J R gf gn) s.heap := by rw [eF9, eX9]; exact hP
      have hD9 : va_D A (CW cB cC cI cJ cZ a (rg 27 27 F F) (rg 26 26 X X) J R gf gn) := by rw [eF9, eX9]; exact hD
      have hpost : TYP g1 (oI x) (F 27).toInt.toNat (oI ((-1))) (F 27).toInt.toNat ∧ 0 ≤ (F 27).toInt := ⟨Or.inr ⟨hno, by decide, rfl⟩, by omega⟩
      exact W.iret (v := (oI ((-1)))) hx hb hr (fun t ht hW => ⟨⟨(oI ((-1))), (F, X), rfl, hpost, by rw [ht]; exact hP9, va_K.moved hW.alike hK, hD9⟩, hS.F ht⟩) hS.2.2 dX11_type_24
    · refine lv_aload_n hx hb dX11_type_11 rfl (lv_at hl 0 rfl) ?_
      refine cg_11_6 hx hb hts inX11_type_X11 hown hK hP (hts _ lkX11_type_f52) dX11_type_12 ?_
      have i_3 := i32r (F 27)
      refine lv_iload_n hx hb dX11_type_15 rfl (lv_at hl 2 rfl) ?_
      refine lv_iadd hx hb dX11_type_16 ?_
      refine tp_i (oI_add ((F 27).toInt) x) ?_
      refine lv_sipush (v := oI 3000) hx hb dX11_type_17 (by decide) ?_
      refine ci_le (tgt := 25) hx hb (by omega) (by decide) dX11_type_20 (by decide) (fun c_4 => ?_) (fun c_4 => ?_)
      · refine lv_iconst (v := oI 0) hx hb dX11_type_25 (by decide) ?_
        refine lv_istore (lv' := [(4, .int (oI 0)), (0, .ref (a 11)), (1, .long g1), (3, .int (oI x))]) hx hb dX11_type_26 hl (by decide) rfl (fun ls hl => ?_)
        have hx9 : 1 ≤ x ∧ x ≤ 8 ∧ (F 27).toInt + x ≤ 3000 := by omega
        exact lq_typeA hx hb hml hown hts hK hNW hA hr hlocks x g1 ix (by assumption) hx9 _ 0 (Nat.lt_succ_self _) (by decide) (show 0 ≤ 0 ∧ 0 ≤ x from by first | assumption | omega | (with_reducible rfl) | ((repeat' apply And.intro) <;> first | assumption | omega | (with_reducible rfl))) (show ∀ j : Nat, (j : Int) < 0 → OKB g1 j from fun j hj => absurd hj (by omega)) _ _ hP hD hS ls (lv_sub hl [1, 2, 3, 0] rfl)
      · refine lv_iconst (v := oI (-1)) hx hb dX11_type_23 (by decide) ?_
        have hno : ¬ TGD g1 (oI x) (F 27).toInt.toNat := ty_not ix (by omega)
        have e0 : (oI ((-1))).toInt = (-1) := by decide
        have eF9 : rg 27 27 F F = F := ag_end (show AGo F F (fun k => (27 ≤ k ∧ k ≤ 27)) from ag_rf)
        have eX9 : rg 26 26 X X = X := ag_end (show AGo X X (fun k => (26 ≤ k ∧ k ≤ 26)) from ag_rf)
        have hP9 : va_P (dC, dI) vwCl (CW cB cC cI cJ cZ a (rg 27 27 F F) (rg 26 26 X X) J R gf gn) s.heap := by rw [eF9, eX9]; exact hP
        have hD9 : va_D A (CW cB cC cI cJ cZ a (rg 27 27 F F) (rg 26 26 X X) J R gf gn) := by rw [eF9, eX9]; exact hD
        have hpost : TYP g1 (oI x) (F 27).toInt.toNat (oI ((-1))) (F 27).toInt.toNat ∧ 0 ≤ (F 27).toInt := ⟨Or.inr ⟨hno, by decide, rfl⟩, by omega⟩
        exact W.iret (v := (oI ((-1)))) hx hb hr (fun t ht hW => ⟨⟨(oI ((-1))), (F, X), rfl, hpost, by rw [ht]; exact hP9, va_K.moved hW.alike hK, hD9⟩, hS.F ht⟩) hS.2.2 dX11_type_24
