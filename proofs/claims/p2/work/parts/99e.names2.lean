
theorem VB_zero : VB (fun _ => (0 : Int32)) := by
  intro i
  show (0 : Int32).toInt < 1073741824
  decide
theorem VB_m1 {f : Nat → Int32} (h : VB f) {j : Nat} : VB (upd f j (-1)) := by
  have e : (-1 : Int32) = oI (-1) := by decide
  rw [e]
  exact VB_upd h (by decide)
set_option maxHeartbeats 4000000 in
set_option maxRecDepth 100000 in
theorem ilp_half {p : Program} {l : Launch} {e : Env} {R : Room} {s : State} {m : MethodId} {args : Array Value} {below : List Frame} {meth : Method} {c : Code} {Q : State → Prop} {A : Nat → Prop} {dC : Nat → ClassId} {dI : Nat → Nat → Nat} {cB cC cI cJ cZ : ClassId} {cells slots : Nat} (hx : p.tables.exec = Jvm.exec) (hb : c.code = cX6_half) (hml : c.maxLocals = 6) (hown : s.vm.findClass RX6 = some m.cls) (hts : ∀ w ∈ vX6_half, w.before args s = true) (hK : va_K (dC, dI) vwCl (TY cB cC cI cJ cZ) s) (hA : ∀ q : Nat, s.heap.size ≤ q → A q) (h1 n : Nat) (f : Nat → Int32) (p1 p2 : Int32) (hn : n ≤ 16) (kk : ∀ (y : Int64) (H : Heap) (locs : List Loc), va_P (dC, dI) vwCl [(h1, .inl (cC, n, .inl f))] H → va_D A [(h1, .inl (cC, n, .inl f))] → va_S A s.heap H locs → ∀ (ls : Array Slot), lv_has ls 6 [(3, .long y)] → W p l e R s m args below meth c H locs cells slots Q (F0 m 49 ls [])) : ∀ (k : Nat) (x : Int32) (y : Int64), n - x.toNatClampNeg < k → ∀ (H : Heap) (locs : List Loc), va_P (dC, dI) vwCl [(h1, .inl (cC, n, .inl f))] H → va_D A [(h1, .inl (cC, n, .inl f))] → va_S A s.heap H locs → ∀ (ls : Array Slot), lv_has ls 6 [(0, .ref h1), (1, .int p1), (2, .int p2), (3, .long y), (5, .int x)] → W p l e R s m args below meth c H locs cells slots Q (F0 m 5 ls []) := by
  intro k
  induction k with
  | zero =>
    intro x y hk
    omega
  | succ k ih =>
    intro x y hk H locs hP hD hS ls hl
    refine lv_iload hx hb dX6_half_5 (lv_at hl 4 rfl) ?_
    refine lv_iload_n hx hb dX6_half_7 rfl (lv_at hl 2 rfl) ?_
    refine lv_icmp_ge (tgt := 49) hx hb dX6_half_8 (by decide) (fun c1 => ?_) (fun c1 => ?_)
    · exact kk y H locs (hP.sub [0] rfl) (hD.sub [0] (by decide) rfl) hS ls (lv_sub hl [3] rfl)
    · refine lv_iload hx hb dX6_half_11 (lv_at hl 4 rfl) ?_
      refine lv_iload_n hx hb dX6_half_13 rfl (lv_at hl 1 rfl) ?_
      refine lv_bipush (v := 8) hx hb dX6_half_14 (by decide) ?_
      refine lv_iadd hx hb dX6_half_16 ?_
      refine lv_icmp_ge (tgt := 49) hx hb dX6_half_17 (by decide) (fun c2 => ?_) (fun c2 => ?_)
      · exact kk y H locs (hP.sub [0] rfl) (hD.sub [0] (by decide) rfl) hS ls (lv_sub hl [3] rfl)
      · refine lv_iload hx hb dX6_half_20 (lv_at hl 4 rfl) ?_
        refine lv_if_lt (tgt := 49) hx hb dX6_half_22 (by decide) (fun c3 => ?_) (fun c3 => ?_)
        · exact kk y H locs (hP.sub [0] rfl) (hD.sub [0] (by decide) rfl) hS ls (lv_sub hl [3] rfl)
        · refine lv_iload hx hb dX6_half_25 (lv_at hl 4 rfl) ?_
          refine lv_aload_n hx hb dX6_half_27 rfl (lv_at hl 0 rfl) ?_
          refine va_alen hx hb hK hP 0 1 rfl rfl (v := nI n) rfl dX6_half_28 ?_
          refine lv_icmp_ge (tgt := 49) hx hb dX6_half_29 (by decide) (fun c4 => ?_) (fun c4 => ?_)
          · exact kk y H locs (hP.sub [0] rfl) (hD.sub [0] (by decide) rfl) hS ls (lv_sub hl [3] rfl)
          · obtain ⟨j, hj, ej, ej1, ecl, hm⟩ := pk_mu c3 c4 (by omega)
            have hin1 : vp_in x n := by rw [ej]; exact vp_in_nI hj (by omega)
            refine lv_lload_n hx hb dX6_half_32 rfl (lv_at hl 3 rfl) ?_
            refine lv_bipush (v := 8) hx hb dX6_half_33 (by decide) ?_
            refine lv_lshl hx hb dX6_half_35 rfl ?_
            refine lv_aload_n hx hb dX6_half_36 rfl (lv_at hl 0 rfl) ?_
            refine lv_iload hx hb dX6_half_37 (lv_at hl 4 rfl) ?_
            refine va_cald hx hb hK hP 0 1 rfl rfl (hin1) dX6_half_39 ?_
            refine lv_topi (fun x_1 ex_1 => ?_)
            refine lv_i2l hx hb dX6_half_40 rfl ?_
            refine lv_lor hx hb dX6_half_41 ?_
            refine lv_topl (fun x_2 ex_2 => ?_)
            refine lv_lstore_n (lv' := [(3, .long x_2), (0, .ref h1), (1, .int p1), (2, .int p2), (5, .int x)]) hx hb dX6_half_42 rfl hl (by decide) rfl (fun ls hl => ?_)
            obtain ⟨x_3, ex_3⟩ : ∃ y : Int32, y = x + 1 := ⟨_, rfl⟩
            refine lv_iinc (v := x_3) (lv' := [(5, .int x_3), (3, .long x_2), (0, .ref h1), (1, .int p1), (2, .int p2)]) hx hb dX6_half_43 hl (k := 4) rfl (by rw [ex_3]; rfl) (by decide) rfl (fun ls hl => ?_)
            refine lv_goto (tgt := 5) hx hb dX6_half_46 (by decide) ?_
            exact ih x_3 x_2 (by rw [ex_3]; omega) _ _ (hP.sub [0] rfl) (hD.sub [0] (by decide) rfl) hS ls (lv_sub hl [2, 3, 4, 1, 0] rfl)

set_option maxHeartbeats 4000000 in
set_option maxRecDepth 100000 in
/-- half: some number -/
theorem i_half (l : Launch) (dC : Nat → ClassId) (dI : Nat → Nat → Nat) (cB cC cI cJ cZ : ClassId) (h1 n : Nat) (f : Nat → Int32) (p1 p2 : Int32) (hn : n ≤ 16) (sz : Nat) : Met l yX6_half vX6_half { frames := 0, cells := 0, slots := 0, locals := 0 } (va_Pc [.ref h1, .int p1, .int p2] (fun U => U.heap.size = sz ∧ va_P (dC, dI) vwCl [(h1, .inl (cC, n, .inl f))] U.heap ∧ va_K (dC, dI) vwCl (TY cB cC cI cJ cZ) U ∧ va_D (fun _ => True) [(h1, .inl (cC, n, .inl f))])) (va_Ql (fun (r : Int64) (_ : Unit) => True) (fun (_ : Unit) (t : State) => va_P (dC, dI) vwCl [(h1, .inl (cC, n, .inl f))] t.heap ∧ va_K (dC, dI) vwCl (TY cB cC cI cJ cZ) t ∧ va_D (va_A [(h1, .inl (cC, n, .inl f))] sz) [(h1, .inl (cC, n, .inl f))]) (va_A [(h1, .inl (cC, n, .inl f))] sz)) 0 0 (va_A [(h1, .inl (cC, n, .inl f))] sz) := by
  refine Met.ofW (cc := cX6_half) (maxL := 6) (ret := (some .long)) (by decide) rfl ?_
  intro p e s m args below meth c s₁ B hml hv
  obtain ⟨rfl, hsz, hP, hK, hD0⟩ := hv
  have hx := B.exec
  have hb := B.bytes
  have hr := B.returns
  have hts := atoms_spec (ws := vX6_half) B.pre
  have hown : s.vm.findClass RX6 = some m.cls := findClass_of_methodNamed B.named
  have hlocks := B.notSynchronized
  subst hsz
  have hD := hD0.self (sz := s.heap.size)
  generalize hAe : va_A [(h1, .inl (cC, n, .inl f))] s.heap.size = A at hD ⊢
  have hA : ∀ q : Nat, s.heap.size ≤ q → A q := fun q h => by rw [← hAe]; exact Or.inr h
  have hS : va_S A s.heap s.heap [] := va_S.rf
  have hP : va_P (dC, dI) vwCl [(h1, .inl (cC, n, .inl f))] s.heap := hP
  have hl := lv_entry ([.ref h1, .int p1, .int p2]) (n := 6) (Nat.le_of_ble_eq_true rfl)
  rw [lg_entry_eq]
  generalize (lg_sl ([.ref h1, .int p1, .int p2]) ++ List.replicate (6 - (lg_sl ([.ref h1, .int p1, .int p2])).length) Slot.unset).toArray = ls at hl ⊢
  have hl : lv_has ls 6 [(0, .ref h1), (1, .int p1), (2, .int p2)] := hl
  refine lv_lconst (v := 0) hx hb dX6_half_0 (by decide) ?_
  refine lv_lstore_n (lv' := [(3, .long 0), (0, .ref h1), (1, .int p1), (2, .int p2)]) hx hb dX6_half_1 rfl hl (by decide) rfl (fun ls hl => ?_)
  refine lv_iload_n hx hb dX6_half_2 rfl (lv_at hl 2 rfl) ?_
  refine lv_istore (lv' := [(5, .int p1), (3, .long 0), (0, .ref h1), (1, .int p1), (2, .int p2)]) hx hb dX6_half_3 hl (by decide) rfl (fun ls hl => ?_)
  refine ilp_half hx hb hml hown hts hK hA h1 n f p1 p2 hn (fun y H locs hP hD hS ls hl => ?_) (n - p1.toNatClampNeg + 1) p1 0 (Nat.lt_succ_self _) _ _ (hP.sub [0] rfl) (hD.sub [0] (by decide) rfl) hS ls (lv_sub hl [2, 3, 4, 1, 0] rfl)
  refine lv_lload_n hx hb dX6_half_49 rfl (lv_at hl 0 rfl) ?_
  refine W.widen (k := 0) (n := 0) (Nat.le_of_ble_eq_true rfl) (Nat.le_of_ble_eq_true rfl) ?_
  have hP9 := hP.sub (ws' := [(h1, .inl (cC, n, .inl f))]) [0] rfl
  have hD9 := hD.sub (ws' := [(h1, .inl (cC, n, .inl f))]) [0] (by decide) rfl
  exact W.lret (v := y) hx hb hr (fun t ht hW => ⟨⟨y, (), rfl, trivial, by rw [ht]; exact hP9, va_K.moved hW.alike hK, hD9⟩, hS.F ht⟩) hS.2.2 dX6_half_50

set_option maxHeartbeats 4000000 in
set_option maxRecDepth 100000 in
/-- addName: one name more -/
theorem i_addName (l : Launch) (dC : Nat → ClassId) (dI : Nat → Nat → Nat) (cB cC cI cJ cZ : ClassId) (h0 a0 a1 a2 a3 a6 a7 a8 a9 a10 : Nat) (sy sb tp lm : Int32) (f6 f7 f8 f9 : Nat → Int32) (p1 p2 : Int32) (kt : Nat) (hkt : kt < 3760) (htp : tp = nI kt) (sz : Nat) : Met l yX6_addName vX6_addName { frames := 0, cells := 0, slots := 0, locals := 0 } (va_Pc [.ref h0, .int p1, .int p2] (fun U => U.heap.size = sz ∧ va_P (dC, dI) vwCl [(h0, .inr (6, [.ref a0, .ref a1, .ref a2, .ref a3, .int sy, .int sb, .ref a6, .ref a7, .ref a8, .ref a9, .ref a10, .int tp, .int lm])), (a6, .inl (cI, 3760, .inl f6)), (a7, .inl (cI, 3760, .inl f7)), (a8, .inl (cI, 3760, .inl f8)), (a9, .inl (cI, 3760, .inl f9))] U.heap ∧ va_K (dC, dI) vwCl (TY cB cC cI cJ cZ) U ∧ va_D (fun _ => True) [(h0, .inr (6, [.ref a0, .ref a1, .ref a2, .ref a3, .int sy, .int sb, .ref a6, .ref a7, .ref a8, .ref a9, .ref a10, .int tp, .int lm])), (a6, .inl (cI, 3760, .inl f6)), (a7, .inl (cI, 3760, .inl f7)), (a8, .inl (cI, 3760, .inl f8)), (a9, .inl (cI, 3760, .inl f9))])) (va_Qi (fun (r : Int32) (_ : Unit) => True) (fun (_ : Unit) (t : State) => ∃ (tp1 : Int32), ∃ (g6 : Nat → Int32), ∃ (g7 : Nat → Int32), ∃ (g8 : Nat → Int32), ∃ (g9 : Nat → Int32), (tp1 = nI (kt + 1)) ∧ va_P (dC, dI) vwCl [(h0, .inr (6, [.ref a0, .ref a1, .ref a2, .ref a3, .int sy, .int sb, .ref a6, .ref a7, .ref a8, .ref a9, .ref a10, .int tp1, .int lm])), (a6, .inl (cI, 3760, .inl g6)), (a7, .inl (cI, 3760, .inl g7)), (a8, .inl (cI, 3760, .inl g8)), (a9, .inl (cI, 3760, .inl g9))] t.heap ∧ va_K (dC, dI) vwCl (TY cB cC cI cJ cZ) t ∧ va_D (va_A [(h0, .inr (6, [.ref a0, .ref a1, .ref a2, .ref a3, .int sy, .int sb, .ref a6, .ref a7, .ref a8, .ref a9, .ref a10, .int tp, .int lm])), (a6, .inl (cI, 3760, .inl f6)), (a7, .inl (cI, 3760, .inl f7)), (a8, .inl (cI, 3760, .inl f8)), (a9, .inl (cI, 3760, .inl f9))] sz) [(h0, .inr (6, [.ref a0, .ref a1, .ref a2, .ref a3, .int sy, .int sb, .ref a6, .ref a7, .ref a8, .ref a9, .ref a10, .int tp1, .int lm])), (a6, .inl (cI, 3760, .inl g6)), (a7, .inl (cI, 3760, .inl g7)), (a8, .inl (cI, 3760, .inl g8)), (a9, .inl (cI, 3760, .inl g9))]) (va_A [(h0, .inr (6, [.ref a0, .ref a1, .ref a2, .ref a3, .int sy, .int sb, .ref a6, .ref a7, .ref a8, .ref a9, .ref a10, .int tp, .int lm])), (a6, .inl (cI, 3760, .inl f6)), (a7, .inl (cI, 3760, .inl f7)), (a8, .inl (cI, 3760, .inl f8)), (a9, .inl (cI, 3760, .inl f9))] sz)) 0 0 (va_A [(h0, .inr (6, [.ref a0, .ref a1, .ref a2, .ref a3, .int sy, .int sb, .ref a6, .ref a7, .ref a8, .ref a9, .ref a10, .int tp, .int lm])), (a6, .inl (cI, 3760, .inl f6)), (a7, .inl (cI, 3760, .inl f7)), (a8, .inl (cI, 3760, .inl f8)), (a9, .inl (cI, 3760, .inl f9))] sz) := by
  refine Met.ofW (cc := cX6_addName) (maxL := 3) (ret := (some .int)) (by decide) rfl ?_
  intro p e s m args below meth c s₁ B hml hv
  obtain ⟨rfl, hsz, hP, hK, hD0⟩ := hv
  have hx := B.exec
  have hb := B.bytes
  have hr := B.returns
  have hts := atoms_spec (ws := vX6_addName) B.pre
  have hown : s.vm.findClass RX6 = some m.cls := findClass_of_methodNamed B.named
  have hlocks := B.notSynchronized
  subst hsz
  have hD := hD0.self (sz := s.heap.size)
  generalize hAe : va_A [(h0, .inr (6, [.ref a0, .ref a1, .ref a2, .ref a3, .int sy, .int sb, .ref a6, .ref a7, .ref a8, .ref a9, .ref a10, .int tp, .int lm])), (a6, .inl (cI, 3760, .inl f6)), (a7, .inl (cI, 3760, .inl f7)), (a8, .inl (cI, 3760, .inl f8)), (a9, .inl (cI, 3760, .inl f9))] s.heap.size = A at hD ⊢
  have hA : ∀ q : Nat, s.heap.size ≤ q → A q := fun q h => by rw [← hAe]; exact Or.inr h
  have hS : va_S A s.heap s.heap [] := va_S.rf
  have hP : va_P (dC, dI) vwCl [(h0, .inr (6, [.ref a0, .ref a1, .ref a2, .ref a3, .int sy, .int sb, .ref a6, .ref a7, .ref a8, .ref a9, .ref a10, .int tp, .int lm])), (a6, .inl (cI, 3760, .inl f6)), (a7, .inl (cI, 3760, .inl f7)), (a8, .inl (cI, 3760, .inl f8)), (a9, .inl (cI, 3760, .inl f9))] s.heap := hP
  have hl := lv_entry ([.ref h0, .int p1, .int p2]) (n := 3) (Nat.le_of_ble_eq_true rfl)
  rw [lg_entry_eq]
  generalize (lg_sl ([.ref h0, .int p1, .int p2]) ++ List.replicate (3 - (lg_sl ([.ref h0, .int p1, .int p2])).length) Slot.unset).toArray = ls at hl ⊢
  have hl : lv_has ls 3 [(0, .ref h0), (1, .int p1), (2, .int p2)] := hl
  have hin1 : vp_in tp 3760 := by rw [htp]; exact vp_in_nI hkt (by decide)
  refine lv_aload_n hx hb dX6_addName_0 rfl (lv_at hl 0 rfl) ?_
  refine va_get (D := (dC, dI)) (ci := 6) (v := .int tp) (C := RX6) (T := TX6) (N := 13) hx hb hts inX6_addName_X6 hown hK hP 0 rfl rfl 11 (by decide) (hts _ lkX6_addName_f47) (fun _ h9 => h9) rfl dX6_addName_1 ?_
  refine lv_aload_n hx hb dX6_addName_4 rfl (lv_at hl 0 rfl) ?_
  refine va_get (D := (dC, dI)) (ci := 6) (v := .ref a6) (C := RX6) (T := TX6) (N := 13) hx hb hts inX6_addName_X6 hown hK hP 0 rfl rfl 6 (by decide) (hts _ lkX6_addName_f32) (fun _ h9 => h9) rfl dX6_addName_5 ?_
  refine va_alen hx hb hK hP 1 2 rfl rfl (v := 3760) rfl dX6_addName_8 ?_
  refine lv_icmp_lt (tgt := 14) hx hb dX6_addName_9 (by decide) (fun _ => ?_) (fun q9 => absurd (by rw [htp]; exact nI_lt hkt (by decide)) q9)
  refine lv_aload_n hx hb dX6_addName_14 rfl (lv_at hl 0 rfl) ?_
  refine va_get (D := (dC, dI)) (ci := 6) (v := .ref a6) (C := RX6) (T := TX6) (N := 13) hx hb hts inX6_addName_X6 hown hK hP 0 rfl rfl 6 (by decide) (hts _ lkX6_addName_f32) (fun _ h9 => h9) rfl dX6_addName_15 ?_
  refine lv_aload_n hx hb dX6_addName_18 rfl (lv_at hl 0 rfl) ?_
  refine va_get (D := (dC, dI)) (ci := 6) (v := .int tp) (C := RX6) (T := TX6) (N := 13) hx hb hts inX6_addName_X6 hown hK hP 0 rfl rfl 11 (by decide) (hts _ lkX6_addName_f47) (fun _ h9 => h9) rfl dX6_addName_19 ?_
  refine lv_iload_n hx hb dX6_addName_22 rfl (lv_at hl 1 rfl) ?_
  refine va_iast hx hb hK hP hD hS 1 2 rfl rfl (hin1) dX6_addName_23 (fun H locs hP hD hS => ?_)
  have hP : va_P (dC, dI) vwCl [(h0, .inr (6, [.ref a0, .ref a1, .ref a2, .ref a3, .int sy, .int sb, .ref a6, .ref a7, .ref a8, .ref a9, .ref a10, .int tp, .int lm])), (a6, .inl (cI, 3760, .inl (upd f6 tp.toNatClampNeg p1))), (a7, .inl (cI, 3760, .inl f7)), (a8, .inl (cI, 3760, .inl f8)), (a9, .inl (cI, 3760, .inl f9))] H := hP
  have hD : va_D A [(h0, .inr (6, [.ref a0, .ref a1, .ref a2, .ref a3, .int sy, .int sb, .ref a6, .ref a7, .ref a8, .ref a9, .ref a10, .int tp, .int lm])), (a6, .inl (cI, 3760, .inl (upd f6 tp.toNatClampNeg p1))), (a7, .inl (cI, 3760, .inl f7)), (a8, .inl (cI, 3760, .inl f8)), (a9, .inl (cI, 3760, .inl f9))] := hD
  generalize ef_1 : upd f6 tp.toNatClampNeg p1 = f_1 at hP hD
  refine lv_aload_n hx hb dX6_addName_24 rfl (lv_at hl 0 rfl) ?_
  refine va_get (D := (dC, dI)) (ci := 6) (v := .ref a7) (C := RX6) (T := TX6) (N := 13) hx hb hts inX6_addName_X6 hown hK hP 0 rfl rfl 7 (by decide) (hts _ lkX6_addName_f35) (fun _ h9 => h9) rfl dX6_addName_25 ?_
  refine lv_aload_n hx hb dX6_addName_28 rfl (lv_at hl 0 rfl) ?_
  refine va_get (D := (dC, dI)) (ci := 6) (v := .int tp) (C := RX6) (T := TX6) (N := 13) hx hb hts inX6_addName_X6 hown hK hP 0 rfl rfl 11 (by decide) (hts _ lkX6_addName_f47) (fun _ h9 => h9) rfl dX6_addName_29 ?_
  refine lv_iload_n hx hb dX6_addName_32 rfl (lv_at hl 2 rfl) ?_
  refine va_iast hx hb hK hP hD hS 2 2 rfl rfl (hin1) dX6_addName_33 (fun H locs hP hD hS => ?_)
  have hP : va_P (dC, dI) vwCl [(h0, .inr (6, [.ref a0, .ref a1, .ref a2, .ref a3, .int sy, .int sb, .ref a6, .ref a7, .ref a8, .ref a9, .ref a10, .int tp, .int lm])), (a6, .inl (cI, 3760, .inl f_1)), (a7, .inl (cI, 3760, .inl (upd f7 tp.toNatClampNeg p2))), (a8, .inl (cI, 3760, .inl f8)), (a9, .inl (cI, 3760, .inl f9))] H := hP
  have hD : va_D A [(h0, .inr (6, [.ref a0, .ref a1, .ref a2, .ref a3, .int sy, .int sb, .ref a6, .ref a7, .ref a8, .ref a9, .ref a10, .int tp, .int lm])), (a6, .inl (cI, 3760, .inl f_1)), (a7, .inl (cI, 3760, .inl (upd f7 tp.toNatClampNeg p2))), (a8, .inl (cI, 3760, .inl f8)), (a9, .inl (cI, 3760, .inl f9))] := hD
  generalize ef_2 : upd f7 tp.toNatClampNeg p2 = f_2 at hP hD
  refine lv_aload_n hx hb dX6_addName_34 rfl (lv_at hl 0 rfl) ?_
  refine va_get (D := (dC, dI)) (ci := 6) (v := .ref a8) (C := RX6) (T := TX6) (N := 13) hx hb hts inX6_addName_X6 hown hK hP 0 rfl rfl 8 (by decide) (hts _ lkX6_addName_f38) (fun _ h9 => h9) rfl dX6_addName_35 ?_
  refine lv_aload_n hx hb dX6_addName_38 rfl (lv_at hl 0 rfl) ?_
  refine va_get (D := (dC, dI)) (ci := 6) (v := .int tp) (C := RX6) (T := TX6) (N := 13) hx hb hts inX6_addName_X6 hown hK hP 0 rfl rfl 11 (by decide) (hts _ lkX6_addName_f47) (fun _ h9 => h9) rfl dX6_addName_39 ?_
  refine lv_iconst (v := (-1)) hx hb dX6_addName_42 (by decide) ?_
  refine va_iast hx hb hK hP hD hS 3 2 rfl rfl (hin1) dX6_addName_43 (fun H locs hP hD hS => ?_)
  have hP : va_P (dC, dI) vwCl [(h0, .inr (6, [.ref a0, .ref a1, .ref a2, .ref a3, .int sy, .int sb, .ref a6, .ref a7, .ref a8, .ref a9, .ref a10, .int tp, .int lm])), (a6, .inl (cI, 3760, .inl f_1)), (a7, .inl (cI, 3760, .inl f_2)), (a8, .inl (cI, 3760, .inl (upd f8 tp.toNatClampNeg (-1)))), (a9, .inl (cI, 3760, .inl f9))] H := hP
  have hD : va_D A [(h0, .inr (6, [.ref a0, .ref a1, .ref a2, .ref a3, .int sy, .int sb, .ref a6, .ref a7, .ref a8, .ref a9, .ref a10, .int tp, .int lm])), (a6, .inl (cI, 3760, .inl f_1)), (a7, .inl (cI, 3760, .inl f_2)), (a8, .inl (cI, 3760, .inl (upd f8 tp.toNatClampNeg (-1)))), (a9, .inl (cI, 3760, .inl f9))] := hD
  generalize ef_3 : upd f8 tp.toNatClampNeg (-1) = f_3 at hP hD
  refine lv_aload_n hx hb dX6_addName_44 rfl (lv_at hl 0 rfl) ?_
  refine va_get (D := (dC, dI)) (ci := 6) (v := .ref a9) (C := RX6) (T := TX6) (N := 13) hx hb hts inX6_addName_X6 hown hK hP 0 rfl rfl 9 (by decide) (hts _ lkX6_addName_f41) (fun _ h9 => h9) rfl dX6_addName_45 ?_
  refine lv_aload_n hx hb dX6_addName_48 rfl (lv_at hl 0 rfl) ?_
  refine va_get (D := (dC, dI)) (ci := 6) (v := .int tp) (C := RX6) (T := TX6) (N := 13) hx hb hts inX6_addName_X6 hown hK hP 0 rfl rfl 11 (by decide) (hts _ lkX6_addName_f47) (fun _ h9 => h9) rfl dX6_addName_49 ?_
  refine lv_iconst (v := 0) hx hb dX6_addName_52 (by decide) ?_
  refine va_iast hx hb hK hP hD hS 4 2 rfl rfl (hin1) dX6_addName_53 (fun H locs hP hD hS => ?_)
  have hP : va_P (dC, dI) vwCl [(h0, .inr (6, [.ref a0, .ref a1, .ref a2, .ref a3, .int sy, .int sb, .ref a6, .ref a7, .ref a8, .ref a9, .ref a10, .int tp, .int lm])), (a6, .inl (cI, 3760, .inl f_1)), (a7, .inl (cI, 3760, .inl f_2)), (a8, .inl (cI, 3760, .inl f_3)), (a9, .inl (cI, 3760, .inl (upd f9 tp.toNatClampNeg 0)))] H := hP
  have hD : va_D A [(h0, .inr (6, [.ref a0, .ref a1, .ref a2, .ref a3, .int sy, .int sb, .ref a6, .ref a7, .ref a8, .ref a9, .ref a10, .int tp, .int lm])), (a6, .inl (cI, 3760, .inl f_1)), (a7, .inl (cI, 3760, .inl f_2)), (a8, .inl (cI, 3760, .inl f_3)), (a9, .inl (cI, 3760, .inl (upd f9 tp.toNatClampNeg 0)))] := hD
  generalize ef_4 : upd f9 tp.toNatClampNeg 0 = f_4 at hP hD
  refine lv_aload_n hx hb dX6_addName_54 rfl (lv_at hl 0 rfl) ?_
  refine lv_dup hx hb dX6_addName_55 rfl ?_
  refine va_get (D := (dC, dI)) (ci := 6) (v := .int tp) (C := RX6) (T := TX6) (N := 13) hx hb hts inX6_addName_X6 hown hK hP 0 rfl rfl 11 (by decide) (hts _ lkX6_addName_f47) (fun _ h9 => h9) rfl dX6_addName_56 ?_
  refine lv_iconst (v := 1) hx hb dX6_addName_59 (by decide) ?_
  refine lv_iadd hx hb dX6_addName_60 ?_
  refine lv_topi (fun x_5 ex_5 => ?_)
  refine va_put (D := (dC, dI)) (ci := 6) (v := .int x_5) (ty := .int) (C := RX6) (T := TX6) (N := 13) hx hb hts inX6_addName_X6 tyX6 tyX6_ok nmX6 hown hK hP hD hS 0 rfl rfl 11 (by decide) (hts _ lkX6_addName_f47) (fun _ h9 => h9) rfl (by decide +kernel) rfl rfl (Nat.le_of_ble_eq_true rfl) dX6_addName_61 (fun H locs hP hD hS => ?_)
  have hP : va_P (dC, dI) vwCl [(h0, .inr (6, [.ref a0, .ref a1, .ref a2, .ref a3, .int sy, .int sb, .ref a6, .ref a7, .ref a8, .ref a9, .ref a10, .int x_5, .int lm])), (a6, .inl (cI, 3760, .inl f_1)), (a7, .inl (cI, 3760, .inl f_2)), (a8, .inl (cI, 3760, .inl f_3)), (a9, .inl (cI, 3760, .inl f_4))] H := hP
  have hD : va_D A [(h0, .inr (6, [.ref a0, .ref a1, .ref a2, .ref a3, .int sy, .int sb, .ref a6, .ref a7, .ref a8, .ref a9, .ref a10, .int x_5, .int lm])), (a6, .inl (cI, 3760, .inl f_1)), (a7, .inl (cI, 3760, .inl f_2)), (a8, .inl (cI, 3760, .inl f_3)), (a9, .inl (cI, 3760, .inl f_4))] := hD
  refine lv_aload_n hx hb dX6_addName_64 rfl (lv_at hl 0 rfl) ?_
  refine va_get (D := (dC, dI)) (ci := 6) (v := .int x_5) (C := RX6) (T := TX6) (N := 13) hx hb hts inX6_addName_X6 hown hK hP 0 rfl rfl 11 (by decide) (hts _ lkX6_addName_f47) (fun _ h9 => h9) rfl dX6_addName_65 ?_
  refine lv_iconst (v := 1) hx hb dX6_addName_68 (by decide) ?_
  refine lv_isub hx hb dX6_addName_69 ?_
  refine W.widen (k := 0) (n := 0) (Nat.le_of_ble_eq_true rfl) (Nat.le_of_ble_eq_true rfl) ?_
  have hP9 := hP.sub (ws' := [(h0, .inr (6, [.ref a0, .ref a1, .ref a2, .ref a3, .int sy, .int sb, .ref a6, .ref a7, .ref a8, .ref a9, .ref a10, .int x_5, .int lm])), (a6, .inl (cI, 3760, .inl f_1)), (a7, .inl (cI, 3760, .inl f_2)), (a8, .inl (cI, 3760, .inl f_3)), (a9, .inl (cI, 3760, .inl f_4))]) [0, 1, 2, 3, 4] rfl
  have hD9 := hD.sub (ws' := [(h0, .inr (6, [.ref a0, .ref a1, .ref a2, .ref a3, .int sy, .int sb, .ref a6, .ref a7, .ref a8, .ref a9, .ref a10, .int x_5, .int lm])), (a6, .inl (cI, 3760, .inl f_1)), (a7, .inl (cI, 3760, .inl f_2)), (a8, .inl (cI, 3760, .inl f_3)), (a9, .inl (cI, 3760, .inl f_4))]) [0, 1, 2, 3, 4] (by decide) rfl
  exact W.iret (v := (x_5 - 1)) hx hb hr (fun t ht hW => ⟨⟨(x_5 - 1), (), rfl, trivial, x_5, f_1, f_2, f_3, f_4, by rw [ex_5, htp]; exact nI_1 kt, by rw [ht]; exact hP9, va_K.moved hW.alike hK, hD9⟩, hS.F ht⟩) hS.2.2 dX6_addName_70

set_option maxHeartbeats 4000000 in
set_option maxRecDepth 100000 in
/-- addSymbol: one symbol more, without rules -/
theorem i_addSymbol (l : Launch) (dC : Nat → ClassId) (dI : Nat → Nat → Nat) (cB cC cI cJ cZ : ClassId) (h0 a0 a1 a2 a3 a6 a7 a8 a9 a10 : Nat) (sy sb tp lm : Int32) (f6 f7 f8 f9 : Nat → Int32) (f0 f1 : Nat → Int64) (f2 : Nat → Int32) (p1 p3 : Int64) (kt : Nat) (hkt : kt < 100) (hsy : sy = nI kt) (htp : tp = nI kt) (hR : VB f2) (sz : Nat) : Met l yX6_addSymbol vX6_addSymbol { frames := 1, cells := 0, slots := 0, locals := 22 } (va_Pc [.ref h0, .long p1, .long p3] (fun U => U.heap.size = sz ∧ va_P (dC, dI) vwCl [(h0, .inr (6, [.ref a0, .ref a1, .ref a2, .ref a3, .int sy, .int sb, .ref a6, .ref a7, .ref a8, .ref a9, .ref a10, .int tp, .int lm])), (a0, .inl (cJ, 2560, .inr (.inl f0))), (a1, .inl (cJ, 2560, .inr (.inl f1))), (a2, .inl (cI, 2560, .inl f2)), (a6, .inl (cI, 3760, .inl f6)), (a7, .inl (cI, 3760, .inl f7)), (a8, .inl (cI, 3760, .inl f8)), (a9, .inl (cI, 3760, .inl f9))] U.heap ∧ va_K (dC, dI) vwCl (TY cB cC cI cJ cZ) U ∧ va_D (fun _ => True) [(h0, .inr (6, [.ref a0, .ref a1, .ref a2, .ref a3, .int sy, .int sb, .ref a6, .ref a7, .ref a8, .ref a9, .ref a10, .int tp, .int lm])), (a0, .inl (cJ, 2560, .inr (.inl f0))), (a1, .inl (cJ, 2560, .inr (.inl f1))), (a2, .inl (cI, 2560, .inl f2)), (a6, .inl (cI, 3760, .inl f6)), (a7, .inl (cI, 3760, .inl f7)), (a8, .inl (cI, 3760, .inl f8)), (a9, .inl (cI, 3760, .inl f9))])) (va_Qi (fun (r : Int32) (_ : Unit) => True) (fun (_ : Unit) (t : State) => ∃ (sy1 : Int32), ∃ (tp1 : Int32), ∃ (g0 : Nat → Int64), ∃ (g1 : Nat → Int64), ∃ (g2 : Nat → Int32), ∃ (g6 : Nat → Int32), ∃ (g7 : Nat → Int32), ∃ (g8 : Nat → Int32), ∃ (g9 : Nat → Int32), (sy1 = nI (kt + 1)) ∧ (tp1 = nI (kt + 1)) ∧ (VB g2) ∧ va_P (dC, dI) vwCl [(h0, .inr (6, [.ref a0, .ref a1, .ref a2, .ref a3, .int sy1, .int sb, .ref a6, .ref a7, .ref a8, .ref a9, .ref a10, .int tp1, .int lm])), (a0, .inl (cJ, 2560, .inr (.inl g0))), (a1, .inl (cJ, 2560, .inr (.inl g1))), (a2, .inl (cI, 2560, .inl g2)), (a6, .inl (cI, 3760, .inl g6)), (a7, .inl (cI, 3760, .inl g7)), (a8, .inl (cI, 3760, .inl g8)), (a9, .inl (cI, 3760, .inl g9))] t.heap ∧ va_K (dC, dI) vwCl (TY cB cC cI cJ cZ) t ∧ va_D (va_A [(h0, .inr (6, [.ref a0, .ref a1, .ref a2, .ref a3, .int sy, .int sb, .ref a6, .ref a7, .ref a8, .ref a9, .ref a10, .int tp, .int lm])), (a0, .inl (cJ, 2560, .inr (.inl f0))), (a1, .inl (cJ, 2560, .inr (.inl f1))), (a2, .inl (cI, 2560, .inl f2)), (a6, .inl (cI, 3760, .inl f6)), (a7, .inl (cI, 3760, .inl f7)), (a8, .inl (cI, 3760, .inl f8)), (a9, .inl (cI, 3760, .inl f9))] sz) [(h0, .inr (6, [.ref a0, .ref a1, .ref a2, .ref a3, .int sy1, .int sb, .ref a6, .ref a7, .ref a8, .ref a9, .ref a10, .int tp1, .int lm])), (a0, .inl (cJ, 2560, .inr (.inl g0))), (a1, .inl (cJ, 2560, .inr (.inl g1))), (a2, .inl (cI, 2560, .inl g2)), (a6, .inl (cI, 3760, .inl g6)), (a7, .inl (cI, 3760, .inl g7)), (a8, .inl (cI, 3760, .inl g8)), (a9, .inl (cI, 3760, .inl g9))]) (va_A [(h0, .inr (6, [.ref a0, .ref a1, .ref a2, .ref a3, .int sy, .int sb, .ref a6, .ref a7, .ref a8, .ref a9, .ref a10, .int tp, .int lm])), (a0, .inl (cJ, 2560, .inr (.inl f0))), (a1, .inl (cJ, 2560, .inr (.inl f1))), (a2, .inl (cI, 2560, .inl f2)), (a6, .inl (cI, 3760, .inl f6)), (a7, .inl (cI, 3760, .inl f7)), (a8, .inl (cI, 3760, .inl f8)), (a9, .inl (cI, 3760, .inl f9))] sz)) 0 0 (va_A [(h0, .inr (6, [.ref a0, .ref a1, .ref a2, .ref a3, .int sy, .int sb, .ref a6, .ref a7, .ref a8, .ref a9, .ref a10, .int tp, .int lm])), (a0, .inl (cJ, 2560, .inr (.inl f0))), (a1, .inl (cJ, 2560, .inr (.inl f1))), (a2, .inl (cI, 2560, .inl f2)), (a6, .inl (cI, 3760, .inl f6)), (a7, .inl (cI, 3760, .inl f7)), (a8, .inl (cI, 3760, .inl f8)), (a9, .inl (cI, 3760, .inl f9))] sz) := by
  refine Met.ofW (cc := cX6_addSymbol) (maxL := 5) (ret := (some .int)) (by decide) rfl ?_
  intro p e s m args below meth c s₁ B hml hv
  obtain ⟨rfl, hsz, hP, hK, hD0⟩ := hv
  have hx := B.exec
  have hb := B.bytes
  have hr := B.returns
  have hts := atoms_spec (ws := vX6_addSymbol) B.pre
  have hown : s.vm.findClass RX6 = some m.cls := findClass_of_methodNamed B.named
  have hlocks := B.notSynchronized
  subst hsz
  have hD := hD0.self (sz := s.heap.size)
  generalize hAe : va_A [(h0, .inr (6, [.ref a0, .ref a1, .ref a2, .ref a3, .int sy, .int sb, .ref a6, .ref a7, .ref a8, .ref a9, .ref a10, .int tp, .int lm])), (a0, .inl (cJ, 2560, .inr (.inl f0))), (a1, .inl (cJ, 2560, .inr (.inl f1))), (a2, .inl (cI, 2560, .inl f2)), (a6, .inl (cI, 3760, .inl f6)), (a7, .inl (cI, 3760, .inl f7)), (a8, .inl (cI, 3760, .inl f8)), (a9, .inl (cI, 3760, .inl f9))] s.heap.size = A at hD ⊢
  have hA : ∀ q : Nat, s.heap.size ≤ q → A q := fun q h => by rw [← hAe]; exact Or.inr h
  have hS : va_S A s.heap s.heap [] := va_S.rf
  have hP : va_P (dC, dI) vwCl [(h0, .inr (6, [.ref a0, .ref a1, .ref a2, .ref a3, .int sy, .int sb, .ref a6, .ref a7, .ref a8, .ref a9, .ref a10, .int tp, .int lm])), (a0, .inl (cJ, 2560, .inr (.inl f0))), (a1, .inl (cJ, 2560, .inr (.inl f1))), (a2, .inl (cI, 2560, .inl f2)), (a6, .inl (cI, 3760, .inl f6)), (a7, .inl (cI, 3760, .inl f7)), (a8, .inl (cI, 3760, .inl f8)), (a9, .inl (cI, 3760, .inl f9))] s.heap := hP
  have hl := lv_entry ([.ref h0, .long p1, .long p3]) (n := 5) (Nat.le_of_ble_eq_true rfl)
  rw [lg_entry_eq]
  generalize (lg_sl ([.ref h0, .long p1, .long p3]) ++ List.replicate (5 - (lg_sl ([.ref h0, .long p1, .long p3])).length) Slot.unset).toArray = ls at hl ⊢
  have hl : lv_has ls 5 [(0, .ref h0), (1, .long p1), (3, .long p3)] := hl
  have hin1 : vp_in sy 2560 := by rw [hsy]; exact vp_in_nI (by omega) (by decide)
  refine lv_aload_n hx hb dX6_addSymbol_0 rfl (lv_at hl 0 rfl) ?_
  refine va_get (D := (dC, dI)) (ci := 6) (v := .int sy) (C := RX6) (T := TX6) (N := 13) hx hb hts inX6_addSymbol_X6 hown hK hP 0 rfl rfl 4 (by decide) (hts _ lkX6_addSymbol_f25) (fun _ h9 => h9) rfl dX6_addSymbol_1 ?_
  refine lv_sipush (v := 2560) hx hb dX6_addSymbol_4 (by decide) ?_
  refine lv_icmp_lt (tgt := 12) hx hb dX6_addSymbol_7 (by decide) (fun _ => ?_) (fun q9 => absurd (by rw [hsy]; exact nI_lt (b := 2560) (by omega) (by decide)) q9)
  refine lv_aload_n hx hb dX6_addSymbol_12 rfl (lv_at hl 0 rfl) ?_
  refine va_get (D := (dC, dI)) (ci := 6) (v := .ref a0) (C := RX6) (T := TX6) (N := 13) hx hb hts inX6_addSymbol_X6 hown hK hP 0 rfl rfl 0 (by decide) (hts _ lkX6_addSymbol_f9) (fun _ h9 => h9) rfl dX6_addSymbol_13 ?_
  refine lv_aload_n hx hb dX6_addSymbol_16 rfl (lv_at hl 0 rfl) ?_
  refine va_get (D := (dC, dI)) (ci := 6) (v := .int sy) (C := RX6) (T := TX6) (N := 13) hx hb hts inX6_addSymbol_X6 hown hK hP 0 rfl rfl 4 (by decide) (hts _ lkX6_addSymbol_f25) (fun _ h9 => h9) rfl dX6_addSymbol_17 ?_
  refine lv_lload_n hx hb dX6_addSymbol_20 rfl (lv_at hl 1 rfl) ?_
  refine va_last hx hb hK hP hD hS 1 3 rfl rfl (hin1) dX6_addSymbol_21 (fun H locs hP hD hS => ?_)
  have hP : va_P (dC, dI) vwCl [(h0, .inr (6, [.ref a0, .ref a1, .ref a2, .ref a3, .int sy, .int sb, .ref a6, .ref a7, .ref a8, .ref a9, .ref a10, .int tp, .int lm])), (a0, .inl (cJ, 2560, .inr (.inl (vp_updL f0 sy.toNatClampNeg p1)))), (a1, .inl (cJ, 2560, .inr (.inl f1))), (a2, .inl (cI, 2560, .inl f2)), (a6, .inl (cI, 3760, .inl f6)), (a7, .inl (cI, 3760, .inl f7)), (a8, .inl (cI, 3760, .inl f8)), (a9, .inl (cI, 3760, .inl f9))] H := hP
  have hD : va_D A [(h0, .inr (6, [.ref a0, .ref a1, .ref a2, .ref a3, .int sy, .int sb, .ref a6, .ref a7, .ref a8, .ref a9, .ref a10, .int tp, .int lm])), (a0, .inl (cJ, 2560, .inr (.inl (vp_updL f0 sy.toNatClampNeg p1)))), (a1, .inl (cJ, 2560, .inr (.inl f1))), (a2, .inl (cI, 2560, .inl f2)), (a6, .inl (cI, 3760, .inl f6)), (a7, .inl (cI, 3760, .inl f7)), (a8, .inl (cI, 3760, .inl f8)), (a9, .inl (cI, 3760, .inl f9))] := hD
  generalize ef_1 : vp_updL f0 sy.toNatClampNeg p1 = f_1 at hP hD
  refine lv_aload_n hx hb dX6_addSymbol_22 rfl (lv_at hl 0 rfl) ?_
  refine va_get (D := (dC, dI)) (ci := 6) (v := .ref a1) (C := RX6) (T := TX6) (N := 13) hx hb hts inX6_addSymbol_X6 hown hK hP 0 rfl rfl 1 (by decide) (hts _ lkX6_addSymbol_f15) (fun _ h9 => h9) rfl dX6_addSymbol_23 ?_
  refine lv_aload_n hx hb dX6_addSymbol_26 rfl (lv_at hl 0 rfl) ?_
  refine va_get (D := (dC, dI)) (ci := 6) (v := .int sy) (C := RX6) (T := TX6) (N := 13) hx hb hts inX6_addSymbol_X6 hown hK hP 0 rfl rfl 4 (by decide) (hts _ lkX6_addSymbol_f25) (fun _ h9 => h9) rfl dX6_addSymbol_27 ?_
  refine lv_lload_n hx hb dX6_addSymbol_30 rfl (lv_at hl 2 rfl) ?_
  refine va_last hx hb hK hP hD hS 2 3 rfl rfl (hin1) dX6_addSymbol_31 (fun H locs hP hD hS => ?_)
  have hP : va_P (dC, dI) vwCl [(h0, .inr (6, [.ref a0, .ref a1, .ref a2, .ref a3, .int sy, .int sb, .ref a6, .ref a7, .ref a8, .ref a9, .ref a10, .int tp, .int lm])), (a0, .inl (cJ, 2560, .inr (.inl f_1))), (a1, .inl (cJ, 2560, .inr (.inl (vp_updL f1 sy.toNatClampNeg p3)))), (a2, .inl (cI, 2560, .inl f2)), (a6, .inl (cI, 3760, .inl f6)), (a7, .inl (cI, 3760, .inl f7)), (a8, .inl (cI, 3760, .inl f8)), (a9, .inl (cI, 3760, .inl f9))] H := hP
  have hD : va_D A [(h0, .inr (6, [.ref a0, .ref a1, .ref a2, .ref a3, .int sy, .int sb, .ref a6, .ref a7, .ref a8, .ref a9, .ref a10, .int tp, .int lm])), (a0, .inl (cJ, 2560, .inr (.inl f_1))), (a1, .inl (cJ, 2560, .inr (.inl (vp_updL f1 sy.toNatClampNeg p3)))), (a2, .inl (cI, 2560, .inl f2)), (a6, .inl (cI, 3760, .inl f6)), (a7, .inl (cI, 3760, .inl f7)), (a8, .inl (cI, 3760, .inl f8)), (a9, .inl (cI, 3760, .inl f9))] := hD
  generalize ef_2 : vp_updL f1 sy.toNatClampNeg p3 = f_2 at hP hD
  refine lv_aload_n hx hb dX6_addSymbol_32 rfl (lv_at hl 0 rfl) ?_
  refine va_get (D := (dC, dI)) (ci := 6) (v := .ref a2) (C := RX6) (T := TX6) (N := 13) hx hb hts inX6_addSymbol_X6 hown hK hP 0 rfl rfl 2 (by decide) (hts _ lkX6_addSymbol_f18) (fun _ h9 => h9) rfl dX6_addSymbol_33 ?_
  refine lv_aload_n hx hb dX6_addSymbol_36 rfl (lv_at hl 0 rfl) ?_
  refine va_get (D := (dC, dI)) (ci := 6) (v := .int sy) (C := RX6) (T := TX6) (N := 13) hx hb hts inX6_addSymbol_X6 hown hK hP 0 rfl rfl 4 (by decide) (hts _ lkX6_addSymbol_f25) (fun _ h9 => h9) rfl dX6_addSymbol_37 ?_
  refine lv_iconst (v := (-1)) hx hb dX6_addSymbol_40 (by decide) ?_
  refine va_iast hx hb hK hP hD hS 3 2 rfl rfl (hin1) dX6_addSymbol_41 (fun H locs hP hD hS => ?_)
  have hP : va_P (dC, dI) vwCl [(h0, .inr (6, [.ref a0, .ref a1, .ref a2, .ref a3, .int sy, .int sb, .ref a6, .ref a7, .ref a8, .ref a9, .ref a10, .int tp, .int lm])), (a0, .inl (cJ, 2560, .inr (.inl f_1))), (a1, .inl (cJ, 2560, .inr (.inl f_2))), (a2, .inl (cI, 2560, .inl (upd f2 sy.toNatClampNeg (-1)))), (a6, .inl (cI, 3760, .inl f6)), (a7, .inl (cI, 3760, .inl f7)), (a8, .inl (cI, 3760, .inl f8)), (a9, .inl (cI, 3760, .inl f9))] H := hP
  have hD : va_D A [(h0, .inr (6, [.ref a0, .ref a1, .ref a2, .ref a3, .int sy, .int sb, .ref a6, .ref a7, .ref a8, .ref a9, .ref a10, .int tp, .int lm])), (a0, .inl (cJ, 2560, .inr (.inl f_1))), (a1, .inl (cJ, 2560, .inr (.inl f_2))), (a2, .inl (cI, 2560, .inl (upd f2 sy.toNatClampNeg (-1)))), (a6, .inl (cI, 3760, .inl f6)), (a7, .inl (cI, 3760, .inl f7)), (a8, .inl (cI, 3760, .inl f8)), (a9, .inl (cI, 3760, .inl f9))] := hD
  generalize eg2 : upd f2 sy.toNatClampNeg (-1) = g2 at hP hD
  refine lv_aload_n hx hb dX6_addSymbol_42 rfl (lv_at hl 0 rfl) ?_
  refine lv_dup hx hb dX6_addSymbol_43 rfl ?_
  refine va_get (D := (dC, dI)) (ci := 6) (v := .int sy) (C := RX6) (T := TX6) (N := 13) hx hb hts inX6_addSymbol_X6 hown hK hP 0 rfl rfl 4 (by decide) (hts _ lkX6_addSymbol_f25) (fun _ h9 => h9) rfl dX6_addSymbol_44 ?_
  refine lv_iconst (v := 1) hx hb dX6_addSymbol_47 (by decide) ?_
  refine lv_iadd hx hb dX6_addSymbol_48 ?_
  refine lv_topi (fun x_3 ex_3 => ?_)
  refine va_put (D := (dC, dI)) (ci := 6) (v := .int x_3) (ty := .int) (C := RX6) (T := TX6) (N := 13) hx hb hts inX6_addSymbol_X6 tyX6 tyX6_ok nmX6 hown hK hP hD hS 0 rfl rfl 4 (by decide) (hts _ lkX6_addSymbol_f25) (fun _ h9 => h9) rfl (by decide +kernel) rfl rfl (Nat.le_of_ble_eq_true rfl) dX6_addSymbol_49 (fun H locs hP hD hS => ?_)
  have hP : va_P (dC, dI) vwCl [(h0, .inr (6, [.ref a0, .ref a1, .ref a2, .ref a3, .int x_3, .int sb, .ref a6, .ref a7, .ref a8, .ref a9, .ref a10, .int tp, .int lm])), (a0, .inl (cJ, 2560, .inr (.inl f_1))), (a1, .inl (cJ, 2560, .inr (.inl f_2))), (a2, .inl (cI, 2560, .inl g2)), (a6, .inl (cI, 3760, .inl f6)), (a7, .inl (cI, 3760, .inl f7)), (a8, .inl (cI, 3760, .inl f8)), (a9, .inl (cI, 3760, .inl f9))] H := hP
  have hD : va_D A [(h0, .inr (6, [.ref a0, .ref a1, .ref a2, .ref a3, .int x_3, .int sb, .ref a6, .ref a7, .ref a8, .ref a9, .ref a10, .int tp, .int lm])), (a0, .inl (cJ, 2560, .inr (.inl f_1))), (a1, .inl (cJ, 2560, .inr (.inl f_2))), (a2, .inl (cI, 2560, .inl g2)), (a6, .inl (cI, 3760, .inl f6)), (a7, .inl (cI, 3760, .inl f7)), (a8, .inl (cI, 3760, .inl f8)), (a9, .inl (cI, 3760, .inl f9))] := hD
  refine lv_aload_n hx hb dX6_addSymbol_52 rfl (lv_at hl 0 rfl) ?_
  refine lv_iconst (v := (-1)) hx hb dX6_addSymbol_53 (by decide) ?_
  refine lv_iconst (v := 0) hx hb dX6_addSymbol_54 (by decide) ?_
  have hPc := hP.sub (ws' := [(h0, .inr (6, [.ref a0, .ref a1, .ref a2, .ref a3, .int x_3, .int sb, .ref a6, .ref a7, .ref a8, .ref a9, .ref a10, .int tp, .int lm])), (a6, .inl (cI, 3760, .inl f6)), (a7, .inl (cI, 3760, .inl f7)), (a8, .inl (cI, 3760, .inl f8)), (a9, .inl (cI, 3760, .inl f9))]) [0, 4, 5, 6, 7] rfl
  have hDc := hD.sub (ws' := [(h0, .inr (6, [.ref a0, .ref a1, .ref a2, .ref a3, .int x_3, .int sb, .ref a6, .ref a7, .ref a8, .ref a9, .ref a10, .int tp, .int lm])), (a6, .inl (cI, 3760, .inl f6)), (a7, .inl (cI, 3760, .inl f7)), (a8, .inl (cI, 3760, .inl f8)), (a9, .inl (cI, 3760, .inl f9))]) [0, 4, 5, 6, 7] (by decide) rfl
  have hFc := va_free (wc := [(h0, .inr (6, [.ref a0, .ref a1, .ref a2, .ref a3, .int x_3, .int sb, .ref a6, .ref a7, .ref a8, .ref a9, .ref a10, .int tp, .int lm])), (a6, .inl (cI, 3760, .inl f6)), (a7, .inl (cI, 3760, .inl f7)), (a8, .inl (cI, 3760, .inl f8)), (a9, .inl (cI, 3760, .inl f9))]) hD hS hA [0, 4, 5, 6, 7] rfl
  refine va_calli (va_runV (As := [.int (-1), .int 0]) (rest := []) ⟨hx, hb, hml, hown, hts⟩ (i_addName l dC dI cB cC cI cJ cZ h0 a0 a1 a2 a3 a6 a7 a8 a9 a10 x_3 sb tp lm f6 f7 f8 f9 (-1) 0 kt (by omega) htp H.size) (cwV 2 hts kX6_addSymbol_X6_addName_95 rfl rfl rfl (by decide +kernel) ⟨Nat.le_of_ble_eq_true rfl, Nat.le_of_ble_eq_true rfl⟩) ⟨fun a U g mk q => by obtain ⟨q0, q1, qP, qK, qD⟩ := q; exact ⟨q0, q1, qP, va_K.moved (u := U) (U := U.calling g mk a) (Vm.Alike.refl U.vm) qK, qD⟩, va_recv hK hPc (ci := 6) (q0 := 0) rfl rfl, fun U hU hW => ⟨rfl, by rw [hU], by rw [hU]; exact hPc, va_K.moved hW.alike hK, hDc.weaken (fun _ _ _ _ => trivial)⟩⟩ rfl rfl hl.1 rfl (lv_room (Nat.le_of_ble_eq_true rfl)) dX6_addSymbol_55 ⟨Nat.le_of_ble_eq_true rfl, Nat.le_of_ble_eq_true rfl⟩) hS (fun q _ h => hFc q h) hFc (fun r_4 _u t H locs ht hvm hw hB hz1 hk1 hS => ?_)
  obtain ⟨tp_5, g_6, g_7, g_8, g_9, htp_10, hP1, hK1, hD1⟩ := hB
  rw [ht] at hP1
  obtain ⟨hP, hD⟩ := va_join (wr := [(a0, .inl (cJ, 2560, .inr (.inl f_1))), (a1, .inl (cJ, 2560, .inr (.inl f_2))), (a2, .inl (cI, 2560, .inl g2))]) (w1 := [(h0, .inr (6, [.ref a0, .ref a1, .ref a2, .ref a3, .int x_3, .int sb, .ref a6, .ref a7, .ref a8, .ref a9, .ref a10, .int tp_5, .int lm])), (a6, .inl (cI, 3760, .inl g_6)), (a7, .inl (cI, 3760, .inl g_7)), (a8, .inl (cI, 3760, .inl g_8)), (a9, .inl (cI, 3760, .inl g_9))]) hP hD [0, 4, 5, 6, 7] [1, 2, 3] rfl rfl (by decide) (by decide) hk1 hFc hP1 hD1
  have hP : va_P (dC, dI) vwCl [(a0, .inl (cJ, 2560, .inr (.inl f_1))), (a1, .inl (cJ, 2560, .inr (.inl f_2))), (a2, .inl (cI, 2560, .inl g2)), (h0, .inr (6, [.ref a0, .ref a1, .ref a2, .ref a3, .int x_3, .int sb, .ref a6, .ref a7, .ref a8, .ref a9, .ref a10, .int tp_5, .int lm])), (a6, .inl (cI, 3760, .inl g_6)), (a7, .inl (cI, 3760, .inl g_7)), (a8, .inl (cI, 3760, .inl g_8)), (a9, .inl (cI, 3760, .inl g_9))] H := hP
  have hD : va_D A [(a0, .inl (cJ, 2560, .inr (.inl f_1))), (a1, .inl (cJ, 2560, .inr (.inl f_2))), (a2, .inl (cI, 2560, .inl g2)), (h0, .inr (6, [.ref a0, .ref a1, .ref a2, .ref a3, .int x_3, .int sb, .ref a6, .ref a7, .ref a8, .ref a9, .ref a10, .int tp_5, .int lm])), (a6, .inl (cI, 3760, .inl g_6)), (a7, .inl (cI, 3760, .inl g_7)), (a8, .inl (cI, 3760, .inl g_8)), (a9, .inl (cI, 3760, .inl g_9))] := hD
  refine W.widen (k := 0) (n := 0) (Nat.le_of_ble_eq_true rfl) (Nat.le_of_ble_eq_true rfl) ?_
  have hR1 : VB g2 := by rw [← eg2]; exact VB_m1 hR
  refine W.widen (k := 0) (n := 0) (Nat.le_of_ble_eq_true rfl) (Nat.le_of_ble_eq_true rfl) ?_
  have hP9 := hP.sub (ws' := [(h0, .inr (6, [.ref a0, .ref a1, .ref a2, .ref a3, .int x_3, .int sb, .ref a6, .ref a7, .ref a8, .ref a9, .ref a10, .int tp_5, .int lm])), (a0, .inl (cJ, 2560, .inr (.inl f_1))), (a1, .inl (cJ, 2560, .inr (.inl f_2))), (a2, .inl (cI, 2560, .inl g2)), (a6, .inl (cI, 3760, .inl g_6)), (a7, .inl (cI, 3760, .inl g_7)), (a8, .inl (cI, 3760, .inl g_8)), (a9, .inl (cI, 3760, .inl g_9))]) [3, 0, 1, 2, 4, 5, 6, 7] rfl
  have hD9 := hD.sub (ws' := [(h0, .inr (6, [.ref a0, .ref a1, .ref a2, .ref a3, .int x_3, .int sb, .ref a6, .ref a7, .ref a8, .ref a9, .ref a10, .int tp_5, .int lm])), (a0, .inl (cJ, 2560, .inr (.inl f_1))), (a1, .inl (cJ, 2560, .inr (.inl f_2))), (a2, .inl (cI, 2560, .inl g2)), (a6, .inl (cI, 3760, .inl g_6)), (a7, .inl (cI, 3760, .inl g_7)), (a8, .inl (cI, 3760, .inl g_8)), (a9, .inl (cI, 3760, .inl g_9))]) [3, 0, 1, 2, 4, 5, 6, 7] (by decide) rfl
  exact W.iret (v := r_4) hx hb hr (fun t ht hW => ⟨⟨r_4, (), rfl, trivial, x_3, tp_5, f_1, f_2, g2, g_6, g_7, g_8, g_9, by rw [ex_3, hsy]; exact nI_1 kt, htp_10, hR1, by rw [ht]; exact hP9, va_K.moved hW.alike hK, hD9⟩, hS.F ht⟩) hS.2.2 dX6_addSymbol_58
