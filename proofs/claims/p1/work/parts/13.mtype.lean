def oX12_type : List Cond := [Cond.constantLong RX12 174 (255), Cond.constantLong RX12 176 (32), Cond.constantLong RX12 178 (126), Cond.fieldLink RX12 7 "MacroScopesModel" "text" "[B", Cond.fieldLink RX12 171 "MacroScopesModel" "length" "I", Cond.fieldLink RX12 168 "MacroScopesModel" "thrown" "I"]
def vX12_type : List Cond := .code yX12_type cX12_type 8 (some .int) :: (oX12_type ++ (wsX120))
theorem lkX12_type_c174 : Cond.constantLong RX12 174 (255) ∈ vX12_type := List.mem_cons_of_mem _ (List.mem_append_left _ (List.mem_of_getElem? (i := 0) rfl))
theorem lkX12_type_c176 : Cond.constantLong RX12 176 (32) ∈ vX12_type := List.mem_cons_of_mem _ (List.mem_append_left _ (List.mem_of_getElem? (i := 1) rfl))
theorem lkX12_type_c178 : Cond.constantLong RX12 178 (126) ∈ vX12_type := List.mem_cons_of_mem _ (List.mem_append_left _ (List.mem_of_getElem? (i := 2) rfl))
theorem lkX12_type_f7 : Cond.fieldLink RX12 7 "MacroScopesModel" "text" "[B" ∈ vX12_type := List.mem_cons_of_mem _ (List.mem_append_left _ (List.mem_of_getElem? (i := 3) rfl))
theorem lkX12_type_f171 : Cond.fieldLink RX12 171 "MacroScopesModel" "length" "I" ∈ vX12_type := List.mem_cons_of_mem _ (List.mem_append_left _ (List.mem_of_getElem? (i := 4) rfl))
theorem lkX12_type_f168 : Cond.fieldLink RX12 168 "MacroScopesModel" "thrown" "I" ∈ vX12_type := List.mem_cons_of_mem _ (List.mem_append_left _ (List.mem_of_getElem? (i := 5) rfl))
theorem inX12_type_X12 : ∀ w ∈ wsX120, w ∈ vX12_type := fun w h => List.mem_cons_of_mem _ (List.mem_append_right _ (h))
abbrev mcl (z0 m1 m4 m5 m7 m8 m10 m11 m12 m13 m18 m19 m21 m22 m24 m25 m26 m28 m29 m30 m31 m37 m39 m44 m46 m47 m48 m50 m51 m52 m54 m55 m56 m57 m58 m59 m60 m61 : Nat) (sy ln : Int32) : Nat × va_E := (z0, .inr (12, [.int 0, .ref m1, .int ln, .int (-1), .ref m4, .ref m5, .int sy, .ref m7, .ref m8, .int 0, .ref m10, .ref m11, .ref m12, .ref m13, .int 0, .int 0, .int 0, .int 0, .ref m18, .ref m19, .int 0, .ref m21, .ref m22, .int 1, .ref m24, .ref m25, .ref m26, .int 0, .ref m28, .ref m29, .ref m30, .ref m31, .int 0, .int 0, .int 0, .int 0, .int 0, .ref m37, .int 0, .ref m39, .int 0, .int 0, .int 0, .int 0, .ref m44, .int 0, .ref m46, .ref m47, .ref m48, .int 0, .ref m50, .ref m51, .ref m52, .int 0, .ref m54, .ref m55, .ref m56, .ref m57, .ref m58, .ref m59, .ref m60, .ref m61, .int 0, .int 0]))
set_option maxHeartbeats 4000000 in
set_option maxRecDepth 100000 in
theorem lp_mtype1 {p : Program} {l : Launch} {e : Env} {R : Room} {s : State} {m : MethodId} {args : Array Value} {below : List Frame} {meth : Method} {c : Code} {Q : State → Prop} {A : Nat → Prop} {dC : Nat → ClassId} {dI : Nat → Nat → Nat} {cB cC cI cJ cZ : ClassId} {cells slots : Nat} (hx : p.tables.exec = Jvm.exec) (hb : c.code = cX12_type) (hml : c.maxLocals = 8) (hown : s.vm.findClass RX12 = some m.cls) (hts : ∀ w ∈ vX12_type, w.before args s = true) (hK : va_K (dC, dI) vwCl (TY cB cC cI cJ cZ) s) (hA : ∀ q : Nat, s.heap.size ≤ q → A q) (z0 m1 m4 m5 m7 m8 m10 m11 m12 m13 m18 m19 m21 m22 m24 m25 m26 m28 m29 m30 m31 m37 m39 m44 m46 m47 m48 m50 m51 m52 m54 m55 m56 m57 m58 m59 m60 m61 : Nat) (sy : Int32) (x : Int64) (n : Int32) (N : Nat) (hN : N ≤ 8) (en : n = nI N) (kk1 : ∀  (H : Heap) (locs : List Loc), (∀ j, j < N → OKB x j) → va_P (dC, dI) vwCl [(mcl z0 m1 m4 m5 m7 m8 m10 m11 m12 m13 m18 m19 m21 m22 m24 m25 m26 m28 m29 m30 m31 m37 m39 m44 m46 m47 m48 m50 m51 m52 m54 m55 m56 m57 m58 m59 m60 m61 sy 0), (m1, .inl (cB, 3000, .inl (fun _ => 0)))] H → va_D A [(mcl z0 m1 m4 m5 m7 m8 m10 m11 m12 m13 m18 m19 m21 m22 m24 m25 m26 m28 m29 m30 m31 m37 m39 m44 m46 m47 m48 m50 m51 m52 m54 m55 m56 m57 m58 m59 m60 m61 sy 0), (m1, .inl (cB, 3000, .inl (fun _ => 0)))] → va_S A s.heap H locs → ∀ (ls : Array Slot), lv_has ls 8 [(0, .ref z0), (1, .long x), (3, .int n), (4, .int 1)] → W p l e R s m args below meth c H locs cells slots Q (F0 m 93 ls [])) (kk2 : ∀ (j : Nat) (H : Heap) (locs : List Loc), j < N → ¬ OKB x j → va_P (dC, dI) vwCl [(mcl z0 m1 m4 m5 m7 m8 m10 m11 m12 m13 m18 m19 m21 m22 m24 m25 m26 m28 m29 m30 m31 m37 m39 m44 m46 m47 m48 m50 m51 m52 m54 m55 m56 m57 m58 m59 m60 m61 sy 0), (m1, .inl (cB, 3000, .inl (fun _ => 0)))] H → va_D A [(mcl z0 m1 m4 m5 m7 m8 m10 m11 m12 m13 m18 m19 m21 m22 m24 m25 m26 m28 m29 m30 m31 m37 m39 m44 m46 m47 m48 m50 m51 m52 m54 m55 m56 m57 m58 m59 m60 m61 sy 0), (m1, .inl (cB, 3000, .inl (fun _ => 0)))] → va_S A s.heap H locs → ∀ (ls : Array Slot), lv_has ls 8 [(4, .int 0)] → W p l e R s m args below meth c H locs cells slots Q (F0 m 93 ls [])) : ∀ (k : Nat) (i : Nat) (x5 : Int32), i ≤ N → N + 1 ≤ i + k → x5 = nI i → (∀ j, j < i → OKB x j) → ∀ (H : Heap) (locs : List Loc), va_P (dC, dI) vwCl [(mcl z0 m1 m4 m5 m7 m8 m10 m11 m12 m13 m18 m19 m21 m22 m24 m25 m26 m28 m29 m30 m31 m37 m39 m44 m46 m47 m48 m50 m51 m52 m54 m55 m56 m57 m58 m59 m60 m61 sy 0), (m1, .inl (cB, 3000, .inl (fun _ => 0)))] H → va_D A [(mcl z0 m1 m4 m5 m7 m8 m10 m11 m12 m13 m18 m19 m21 m22 m24 m25 m26 m28 m29 m30 m31 m37 m39 m44 m46 m47 m48 m50 m51 m52 m54 m55 m56 m57 m58 m59 m60 m61 sy 0), (m1, .inl (cB, 3000, .inl (fun _ => 0)))] → va_S A s.heap H locs → ∀ (ls : Array Slot), lv_has ls 8 [(0, .ref z0), (1, .long x), (3, .int n), (4, .int 1), (5, .int x5)] → W p l e R s m args below meth c H locs cells slots Q (F0 m 38 ls []) := by
  intro k
  induction k with
  | zero =>
    intro i x5 hi hk h5 hall
    omega
  | succ k ih =>
    intro i x5 hi hk h5 hall H locs hP hD hS ls hl
    refine lv_iload hx hb dX12_type_38 (lv_at hl 3 rfl) ?_
    refine lv_if_eq (tgt := 93) hx hb dX12_type_40 (by decide) (fun q9 => absurd q9 (by decide)) (fun _ => ?_)
    refine lv_iload hx hb dX12_type_43 (lv_at hl 4 rfl) ?_
    refine lv_iload_n hx hb dX12_type_45 rfl (lv_at hl 2 rfl) ?_
    refine lv_icmp_ge (tgt := 93) hx hb dX12_type_46 (by decide) (fun c1 => ?_) (fun c1 => ?_)
    · have hge : N ≤ i := (nI_leI (by omega) (by omega)).mp (by rw [← en, ← h5]; exact c1)
      exact kk1 H locs (fun j hj => hall j (by omega)) (hP.sub [0, 1] rfl) (hD.sub [0, 1] (by decide) rfl) hS ls (lv_sub hl [0, 1, 2, 3] rfl)
    · have hlt : i < N := by
        rcases Nat.lt_or_ge i N with q9 | q9
        · exact q9
        · exact absurd (by rw [en, h5]; exact nI_le q9 (by omega)) c1
      obtain ⟨v, hv, eb, el⟩ := by_val x (k := i) (by omega)
      refine lv_lload_n hx hb dX12_type_49 rfl (lv_at hl 1 rfl) ?_
      refine lv_bipush (v := 8) hx hb dX12_type_50 (by decide) ?_
      refine lv_iload hx hb dX12_type_52 (lv_at hl 4 rfl) ?_
      refine lv_imul hx hb dX12_type_54 ?_
      refine lv_lshr hx hb dX12_type_55 rfl ?_
      refine lv_ldc2 (v := 255) hx hb hown (hts _ lkX12_type_c174) dX12_type_56 ?_
      refine lv_land hx hb dX12_type_59 ?_
      refine lv_topl (fun x_1 ex_1 => ?_)
      rw [h5, el] at ex_1
      refine lv_lstore (lv' := [(6, .long x_1), (0, .ref z0), (1, .long x), (3, .int n), (4, .int 1), (5, .int x5)]) hx hb dX12_type_60 hl (by decide) rfl (fun ls hl => ?_)
      refine lv_lload hx hb dX12_type_62 (lv_at hl 0 rfl) ?_
      refine lv_ldc2 (v := 32) hx hb hown (hts _ lkX12_type_c176) dX12_type_64 ?_
      refine W.lcmp hx hb dX12_type_67 ?_
      refine lv_if_lt (tgt := 84) hx hb dX12_type_68 (by decide) (fun c2 => ?_) (fun c2 => ?_)
      · refine lv_iconst (v := 0) hx hb dX12_type_84 (by decide) ?_
        refine lv_istore (lv' := [(4, .int 0), (6, .long x_1), (0, .ref z0), (1, .long x), (3, .int n), (5, .int x5)]) hx hb dX12_type_85 hl (by decide) rfl (fun ls hl => ?_)
        obtain ⟨x_2, ex_2⟩ : ∃ y : Int32, y = x5 + 1 := ⟨_, rfl⟩
        refine lv_iinc (v := x_2) (lv' := [(5, .int x_2), (4, .int 0), (6, .long x_1), (0, .ref z0), (1, .long x), (3, .int n)]) hx hb dX12_type_87 hl (k := 5) rfl (by rw [ex_2]; rfl) (by decide) rfl (fun ls hl => ?_)
        refine lv_goto (tgt := 38) hx hb dX12_type_90 (by decide) ?_
        refine lv_iload hx hb dX12_type_38 (lv_at hl 1 rfl) ?_
        refine lv_if_eq (tgt := 93) hx hb dX12_type_40 (by decide) (fun _ => ?_) (fun q9 => absurd (by decide) q9)
        exact kk2 i H locs hlt (fun q9 => absurd ((okb_iff hv eb).mp q9).1 (by have := (lo_iff hv ex_1).mp c2; omega)) (hP.sub [0, 1] rfl) (hD.sub [0, 1] (by decide) rfl) hS ls (lv_sub hl [1] rfl)
      · refine lv_lload hx hb dX12_type_71 (lv_at hl 0 rfl) ?_
        refine lv_ldc2 (v := 126) hx hb hown (hts _ lkX12_type_c178) dX12_type_73 ?_
        refine W.lcmp hx hb dX12_type_76 ?_
        refine lv_if_gt (tgt := 84) hx hb dX12_type_77 (by decide) (fun c3 => ?_) (fun c3 => ?_)
        · refine lv_iconst (v := 0) hx hb dX12_type_84 (by decide) ?_
          refine lv_istore (lv' := [(4, .int 0), (6, .long x_1), (0, .ref z0), (1, .long x), (3, .int n), (5, .int x5)]) hx hb dX12_type_85 hl (by decide) rfl (fun ls hl => ?_)
          obtain ⟨x_3, ex_3⟩ : ∃ y : Int32, y = x5 + 1 := ⟨_, rfl⟩
          refine lv_iinc (v := x_3) (lv' := [(5, .int x_3), (4, .int 0), (6, .long x_1), (0, .ref z0), (1, .long x), (3, .int n)]) hx hb dX12_type_87 hl (k := 5) rfl (by rw [ex_3]; rfl) (by decide) rfl (fun ls hl => ?_)
          refine lv_goto (tgt := 38) hx hb dX12_type_90 (by decide) ?_
          refine lv_iload hx hb dX12_type_38 (lv_at hl 1 rfl) ?_
          refine lv_if_eq (tgt := 93) hx hb dX12_type_40 (by decide) (fun _ => ?_) (fun q9 => absurd (by decide) q9)
          exact kk2 i H locs hlt (fun q9 => absurd ((okb_iff hv eb).mp q9).2 (by have := (hi_iff hv ex_1).mp c3; omega)) (hP.sub [0, 1] rfl) (hD.sub [0, 1] (by decide) rfl) hS ls (lv_sub hl [1] rfl)
        · refine lv_iconst (v := 1) hx hb dX12_type_80 (by decide) ?_
          refine lv_goto (tgt := 85) hx hb dX12_type_81 (by decide) ?_
          refine lv_istore (lv' := [(4, .int 1), (6, .long x_1), (0, .ref z0), (1, .long x), (3, .int n), (5, .int x5)]) hx hb dX12_type_85 hl (by decide) rfl (fun ls hl => ?_)
          obtain ⟨x_4, ex_4⟩ : ∃ y : Int32, y = x5 + 1 := ⟨_, rfl⟩
          refine lv_iinc (v := x_4) (lv' := [(5, .int x_4), (4, .int 1), (6, .long x_1), (0, .ref z0), (1, .long x), (3, .int n)]) hx hb dX12_type_87 hl (k := 5) rfl (by rw [ex_4]; rfl) (by decide) rfl (fun ls hl => ?_)
          refine lv_goto (tgt := 38) hx hb dX12_type_90 (by decide) ?_
          have hok : OKB x i := (okb_iff hv eb).mpr ⟨Nat.le_of_not_lt (fun h => c2 ((lo_iff hv ex_1).mpr h)), Nat.le_of_not_lt (fun h => c3 ((hi_iff hv ex_1).mpr h))⟩
          exact ih (i + 1) x_4 (by omega) (by omega) (by rw [ex_4, h5]; exact nI_1 i) (lt_s hall hok) _ _ (hP.sub [0, 1] rfl) (hD.sub [0, 1] (by decide) rfl) hS ls (lv_sub hl [3, 4, 5, 1, 0] rfl)

set_option maxHeartbeats 4000000 in
set_option maxRecDepth 100000 in
theorem lp_mtype2 {p : Program} {l : Launch} {e : Env} {R : Room} {s : State} {m : MethodId} {args : Array Value} {below : List Frame} {meth : Method} {c : Code} {Q : State → Prop} {A : Nat → Prop} {dC : Nat → ClassId} {dI : Nat → Nat → Nat} {cB cC cI cJ cZ : ClassId} {cells slots : Nat} (hx : p.tables.exec = Jvm.exec) (hb : c.code = cX12_type) (hml : c.maxLocals = 8) (hown : s.vm.findClass RX12 = some m.cls) (hts : ∀ w ∈ vX12_type, w.before args s = true) (hK : va_K (dC, dI) vwCl (TY cB cC cI cJ cZ) s) (hA : ∀ q : Nat, s.heap.size ≤ q → A q) (z0 m1 m4 m5 m7 m8 m10 m11 m12 m13 m18 m19 m21 m22 m24 m25 m26 m28 m29 m30 m31 m37 m39 m44 m46 m47 m48 m50 m51 m52 m54 m55 m56 m57 m58 m59 m60 m61 : Nat) (sy : Int32) (x : Int64) (n : Int32) (N : Nat) (hN : N ≤ 8) (en : n = nI N) (kk : ∀ (tl : Int32) (f : Nat → Int32) (H : Heap) (locs : List Loc), tl = n → va_P (dC, dI) vwCl [(mcl z0 m1 m4 m5 m7 m8 m10 m11 m12 m13 m18 m19 m21 m22 m24 m25 m26 m28 m29 m30 m31 m37 m39 m44 m46 m47 m48 m50 m51 m52 m54 m55 m56 m57 m58 m59 m60 m61 sy tl), (m1, .inl (cB, 3000, .inl f))] H → va_D A [(mcl z0 m1 m4 m5 m7 m8 m10 m11 m12 m13 m18 m19 m21 m22 m24 m25 m26 m28 m29 m30 m31 m37 m39 m44 m46 m47 m48 m50 m51 m52 m54 m55 m56 m57 m58 m59 m60 m61 sy tl), (m1, .inl (cB, 3000, .inl f))] → va_S A s.heap H locs → ∀ (ls : Array Slot), lv_has ls 8 [(0, .ref z0)] → W p l e R s m args below meth c H locs cells slots Q (F0 m 144 ls [])) : ∀ (k : Nat) (tt : Nat) (x5 tl : Int32) (f : Nat → Int32), x5 = nI k - 1 → tl = nI tt → tt + k = N → ∀ (H : Heap) (locs : List Loc), va_P (dC, dI) vwCl [(mcl z0 m1 m4 m5 m7 m8 m10 m11 m12 m13 m18 m19 m21 m22 m24 m25 m26 m28 m29 m30 m31 m37 m39 m44 m46 m47 m48 m50 m51 m52 m54 m55 m56 m57 m58 m59 m60 m61 sy tl), (m1, .inl (cB, 3000, .inl f))] H → va_D A [(mcl z0 m1 m4 m5 m7 m8 m10 m11 m12 m13 m18 m19 m21 m22 m24 m25 m26 m28 m29 m30 m31 m37 m39 m44 m46 m47 m48 m50 m51 m52 m54 m55 m56 m57 m58 m59 m60 m61 sy tl), (m1, .inl (cB, 3000, .inl f))] → va_S A s.heap H locs → ∀ (ls : Array Slot), lv_has ls 8 [(0, .ref z0), (1, .long x), (5, .int x5)] → W p l e R s m args below meth c H locs cells slots Q (F0 m 105 ls []) := by
  intro k
  induction k with
  | zero =>
    intro tt x5 tl f h5 htl ht H locs hP hD hS ls hl
    refine lv_iload hx hb dX12_type_105 (lv_at hl 2 rfl) ?_
    refine lv_if_lt (tgt := 144) hx hb dX12_type_107 (by decide) (fun _ => ?_) (fun q9 => absurd (by rw [h5]; decide) q9)
    exact kk tl f H locs (by rw [htl, en]; exact congrArg nI (by omega)) (hP.sub [0, 1] rfl) (hD.sub [0, 1] (by decide) rfl) hS ls (lv_sub hl [0] rfl)
  | succ k ih =>
    intro tt x5 tl f h5 htl ht H locs hP hD hS ls hl
    refine lv_iload hx hb dX12_type_105 (lv_at hl 2 rfl) ?_
    refine lv_if_lt (tgt := 144) hx hb dX12_type_107 (by decide) (fun q9 => absurd q9 (by rw [h5, nI_pred]; exact nI_pos (by omega))) (fun _ => ?_)
    have hin1 : vp_in tl 3000 := by rw [htl]; exact vp_in_nI (by omega) (by decide)
    refine lv_aload_n hx hb dX12_type_110 rfl (lv_at hl 0 rfl) ?_
    refine va_get (D := (dC, dI)) (ci := 12) (v := .ref m1) (C := RX12) (T := TX12) (N := 64) hx hb hts inX12_type_X12 hown hK hP 0 rfl rfl 1 (by decide) (hts _ lkX12_type_f7) (fun _ h9 => h9) rfl dX12_type_111 ?_
    refine lv_aload_n hx hb dX12_type_114 rfl (lv_at hl 0 rfl) ?_
    refine va_get (D := (dC, dI)) (ci := 12) (v := .int tl) (C := RX12) (T := TX12) (N := 64) hx hb hts inX12_type_X12 hown hK hP 0 rfl rfl 2 (by decide) (hts _ lkX12_type_f171) (fun _ h9 => h9) rfl dX12_type_115 ?_
    refine lv_lload_n hx hb dX12_type_118 rfl (lv_at hl 1 rfl) ?_
    refine lv_bipush (v := 8) hx hb dX12_type_119 (by decide) ?_
    refine lv_iload hx hb dX12_type_121 (lv_at hl 2 rfl) ?_
    refine lv_imul hx hb dX12_type_123 ?_
    refine lv_lshr hx hb dX12_type_124 rfl ?_
    refine lv_l2i hx hb dX12_type_125 rfl ?_
    refine lv_i2b hx hb dX12_type_126 rfl ?_
    refine va_bast hx hb hK hP hD hS 1 0 rfl rfl (hin1) dX12_type_127 (fun H locs hP hD hS => ?_)
    have hP : va_P (dC, dI) vwCl [(mcl z0 m1 m4 m5 m7 m8 m10 m11 m12 m13 m18 m19 m21 m22 m24 m25 m26 m28 m29 m30 m31 m37 m39 m44 m46 m47 m48 m50 m51 m52 m54 m55 m56 m57 m58 m59 m60 m61 sy tl), (m1, .inl (cB, 3000, .inl (upd f tl.toNatClampNeg (vp_nar .byte (((x >>> ((8 * x5).toInt64 &&& 63)).toInt32).toInt8.toInt32)))))] H := hP
    have hD : va_D A [(mcl z0 m1 m4 m5 m7 m8 m10 m11 m12 m13 m18 m19 m21 m22 m24 m25 m26 m28 m29 m30 m31 m37 m39 m44 m46 m47 m48 m50 m51 m52 m54 m55 m56 m57 m58 m59 m60 m61 sy tl), (m1, .inl (cB, 3000, .inl (upd f tl.toNatClampNeg (vp_nar .byte (((x >>> ((8 * x5).toInt64 &&& 63)).toInt32).toInt8.toInt32)))))] := hD
    generalize eg9 : upd f tl.toNatClampNeg (vp_nar .byte (((x >>> ((8 * x5).toInt64 &&& 63)).toInt32).toInt8.toInt32)) = g9 at hP hD
    refine lv_aload_n hx hb dX12_type_128 rfl (lv_at hl 0 rfl) ?_
    refine lv_dup hx hb dX12_type_129 rfl ?_
    refine va_get (D := (dC, dI)) (ci := 12) (v := .int tl) (C := RX12) (T := TX12) (N := 64) hx hb hts inX12_type_X12 hown hK hP 0 rfl rfl 2 (by decide) (hts _ lkX12_type_f171) (fun _ h9 => h9) rfl dX12_type_130 ?_
    refine lv_iconst (v := 1) hx hb dX12_type_133 (by decide) ?_
    refine lv_iadd hx hb dX12_type_134 ?_
    refine lv_topi (fun x_1 ex_1 => ?_)
    refine va_put (D := (dC, dI)) (ci := 12) (v := .int x_1) (ty := .int) (C := RX12) (T := TX12) (N := 64) hx hb hts inX12_type_X12 tyX12 tyX12_ok nmX12 hown hK hP hD hS 0 rfl rfl 2 (by decide) (hts _ lkX12_type_f171) (fun _ h9 => h9) rfl (by decide +kernel) rfl rfl (Nat.le_of_ble_eq_true rfl) dX12_type_135 (fun H locs hP hD hS => ?_)
    have hP : va_P (dC, dI) vwCl [(mcl z0 m1 m4 m5 m7 m8 m10 m11 m12 m13 m18 m19 m21 m22 m24 m25 m26 m28 m29 m30 m31 m37 m39 m44 m46 m47 m48 m50 m51 m52 m54 m55 m56 m57 m58 m59 m60 m61 sy x_1), (m1, .inl (cB, 3000, .inl g9))] H := hP
    have hD : va_D A [(mcl z0 m1 m4 m5 m7 m8 m10 m11 m12 m13 m18 m19 m21 m22 m24 m25 m26 m28 m29 m30 m31 m37 m39 m44 m46 m47 m48 m50 m51 m52 m54 m55 m56 m57 m58 m59 m60 m61 sy x_1), (m1, .inl (cB, 3000, .inl g9))] := hD
    obtain ⟨x_2, ex_2⟩ : ∃ y : Int32, y = x5 + (-1) := ⟨_, rfl⟩
    refine lv_iinc (v := x_2) (lv' := [(5, .int x_2), (0, .ref z0), (1, .long x)]) hx hb dX12_type_138 hl (k := 2) rfl (by rw [ex_2]; rfl) (by decide) rfl (fun ls hl => ?_)
    refine lv_goto (tgt := 105) hx hb dX12_type_141 (by decide) ?_
    exact ih (tt + 1) x_2 x_1 g9 (by rw [ex_2, h5, nI_pred]; exact (Int32.sub_eq_add_neg _ _).symm) (by rw [ex_1, htl]; exact nI_1 tt) (by omega) _ _ (hP.sub [0, 1] rfl) (hD.sub [0, 1] (by decide) rfl) hS ls (lv_sub hl [1, 2, 0] rfl)

set_option maxHeartbeats 4000000 in
set_option maxRecDepth 100000 in
/-- type of the other side on a new object -/
theorem c_mtype (l : Launch) (dC : Nat → ClassId) (dI : Nat → Nat → Nat) (cB cC cI cJ cZ : ClassId) (z0 m1 m4 m5 m7 m8 m10 m11 m12 m13 m18 m19 m21 m22 m24 m25 m26 m28 m29 m30 m31 m37 m39 m44 m46 m47 m48 m50 m51 m52 m54 m55 m56 m57 m58 m59 m60 m61 : Nat) (sy : Int32) (x : Int64) (n : Int32)  (sz : Nat) : Met l yX12_type vX12_type { frames := 0, cells := 0, slots := 0, locals := 0 } (va_Pc [.ref z0, .long x, .int n] (fun U => U.heap.size = sz ∧ va_P (dC, dI) vwCl [(mcl z0 m1 m4 m5 m7 m8 m10 m11 m12 m13 m18 m19 m21 m22 m24 m25 m26 m28 m29 m30 m31 m37 m39 m44 m46 m47 m48 m50 m51 m52 m54 m55 m56 m57 m58 m59 m60 m61 sy 0), (m1, .inl (cB, 3000, .inl (fun _ => 0)))] U.heap ∧ va_K (dC, dI) vwCl (TY cB cC cI cJ cZ) U ∧ va_D (fun _ => True) [(mcl z0 m1 m4 m5 m7 m8 m10 m11 m12 m13 m18 m19 m21 m22 m24 m25 m26 m28 m29 m30 m31 m37 m39 m44 m46 m47 m48 m50 m51 m52 m54 m55 m56 m57 m58 m59 m60 m61 sy 0), (m1, .inl (cB, 3000, .inl (fun _ => 0)))])) (va_Qi (fun (r : Int32) (_ : Unit) => TR x n r) (fun (_ : Unit) (t : State) => va_P (dC, dI) vwCl [] t.heap ∧ va_K (dC, dI) vwCl (TY cB cC cI cJ cZ) t ∧ va_D (va_A [(mcl z0 m1 m4 m5 m7 m8 m10 m11 m12 m13 m18 m19 m21 m22 m24 m25 m26 m28 m29 m30 m31 m37 m39 m44 m46 m47 m48 m50 m51 m52 m54 m55 m56 m57 m58 m59 m60 m61 sy 0), (m1, .inl (cB, 3000, .inl (fun _ => 0)))] sz) []) (va_A [(mcl z0 m1 m4 m5 m7 m8 m10 m11 m12 m13 m18 m19 m21 m22 m24 m25 m26 m28 m29 m30 m31 m37 m39 m44 m46 m47 m48 m50 m51 m52 m54 m55 m56 m57 m58 m59 m60 m61 sy 0), (m1, .inl (cB, 3000, .inl (fun _ => 0)))] sz)) 0 0 (va_A [(mcl z0 m1 m4 m5 m7 m8 m10 m11 m12 m13 m18 m19 m21 m22 m24 m25 m26 m28 m29 m30 m31 m37 m39 m44 m46 m47 m48 m50 m51 m52 m54 m55 m56 m57 m58 m59 m60 m61 sy 0), (m1, .inl (cB, 3000, .inl (fun _ => 0)))] sz) := by
  refine Met.ofW (cc := cX12_type) (maxL := 8) (ret := (some .int)) (by decide) rfl ?_
  intro p e s m args below meth c s₁ B hml hv
  obtain ⟨rfl, hsz, hP, hK, hD0⟩ := hv
  have hx := B.exec
  have hb := B.bytes
  have hr := B.returns
  have hts := atoms_spec (ws := vX12_type) B.pre
  have hown : s.vm.findClass RX12 = some m.cls := findClass_of_methodNamed B.named
  have hlocks := B.notSynchronized
  subst hsz
  have hD := hD0.self (sz := s.heap.size)
  generalize hAe : va_A [(mcl z0 m1 m4 m5 m7 m8 m10 m11 m12 m13 m18 m19 m21 m22 m24 m25 m26 m28 m29 m30 m31 m37 m39 m44 m46 m47 m48 m50 m51 m52 m54 m55 m56 m57 m58 m59 m60 m61 sy 0), (m1, .inl (cB, 3000, .inl (fun _ => 0)))] s.heap.size = A at hD ⊢
  have hA : ∀ q : Nat, s.heap.size ≤ q → A q := fun q h => by rw [← hAe]; exact Or.inr h
  have hS : va_S A s.heap s.heap [] := va_S.rf
  have hP : va_P (dC, dI) vwCl [(mcl z0 m1 m4 m5 m7 m8 m10 m11 m12 m13 m18 m19 m21 m22 m24 m25 m26 m28 m29 m30 m31 m37 m39 m44 m46 m47 m48 m50 m51 m52 m54 m55 m56 m57 m58 m59 m60 m61 sy 0), (m1, .inl (cB, 3000, .inl (fun _ => 0)))] s.heap := hP
  have hl := lv_entry ([.ref z0, .long x, .int n]) (n := 8) (Nat.le_of_ble_eq_true rfl)
  rw [lg_entry_eq]
  generalize (lg_sl ([.ref z0, .long x, .int n]) ++ List.replicate (8 - (lg_sl ([.ref z0, .long x, .int n])).length) Slot.unset).toArray = ls at hl ⊢
  have hl : lv_has ls 8 [(0, .ref z0), (1, .long x), (3, .int n)] := hl
  refine lv_aload_n hx hb dX12_type_0 rfl (lv_at hl 0 rfl) ?_
  refine lv_iconst (v := 0) hx hb dX12_type_1 (by decide) ?_
  refine va_put (D := (dC, dI)) (ci := 12) (v := .int 0) (ty := .int) (C := RX12) (T := TX12) (N := 64) hx hb hts inX12_type_X12 tyX12 tyX12_ok nmX12 hown hK hP hD hS 0 rfl rfl 0 (by decide) (hts _ lkX12_type_f168) (fun _ h9 => h9) rfl (by decide +kernel) rfl rfl (Nat.le_of_ble_eq_true rfl) dX12_type_2 (fun H locs hP hD hS => ?_)
  have hP : va_P (dC, dI) vwCl [(mcl z0 m1 m4 m5 m7 m8 m10 m11 m12 m13 m18 m19 m21 m22 m24 m25 m26 m28 m29 m30 m31 m37 m39 m44 m46 m47 m48 m50 m51 m52 m54 m55 m56 m57 m58 m59 m60 m61 sy 0), (m1, .inl (cB, 3000, .inl (fun _ => 0)))] H := hP
  have hD : va_D A [(mcl z0 m1 m4 m5 m7 m8 m10 m11 m12 m13 m18 m19 m21 m22 m24 m25 m26 m28 m29 m30 m31 m37 m39 m44 m46 m47 m48 m50 m51 m52 m54 m55 m56 m57 m58 m59 m60 m61 sy 0), (m1, .inl (cB, 3000, .inl (fun _ => 0)))] := hD
  refine lv_iload_n hx hb dX12_type_5 rfl (lv_at hl 2 rfl) ?_
  refine lv_iconst (v := 1) hx hb dX12_type_6 (by decide) ?_
  refine lv_icmp_lt (tgt := 32) hx hb dX12_type_7 (by decide) (fun c1 => ?_) (fun c1 => ?_)
  · refine lv_iconst (v := 0) hx hb dX12_type_32 (by decide) ?_
    refine lv_istore (lv' := [(4, .int 0), (0, .ref z0), (1, .long x), (3, .int n)]) hx hb dX12_type_33 hl (by decide) rfl (fun ls hl => ?_)
    refine lv_iconst (v := 0) hx hb dX12_type_35 (by decide) ?_
    refine lv_istore (lv' := [(5, .int 0), (4, .int 0), (0, .ref z0), (1, .long x), (3, .int n)]) hx hb dX12_type_36 hl (by decide) rfl (fun ls hl => ?_)
    refine lv_iload hx hb dX12_type_38 (lv_at hl 1 rfl) ?_
    refine lv_if_eq (tgt := 93) hx hb dX12_type_40 (by decide) (fun _ => ?_) (fun q9 => absurd (by decide) q9)
    refine lv_iload hx hb dX12_type_93 (lv_at hl 1 rfl) ?_
    refine lv_if_ne (tgt := 100) hx hb dX12_type_95 (by decide) (fun q9 => absurd q9 (by decide)) (fun _ => ?_)
    refine lv_iconst (v := (-1)) hx hb dX12_type_98 (by decide) ?_
    refine W.widen (k := 0) (n := 0) (Nat.le_of_ble_eq_true rfl) (Nat.le_of_ble_eq_true rfl) ?_
    have hP9 := hP.sub (ws' := []) [] rfl
    have hD9 := hD.sub (ws' := []) [] (by decide) rfl
    exact W.iret (v := (-1)) hx hb hr (fun t ht hW => ⟨⟨(-1), (), rfl, Or.inr ⟨rfl, fun h => Int32.not_le.mpr c1 h.1⟩, by rw [ht]; exact hP9, va_K.moved hW.alike hK, hD9⟩, hS.F ht⟩) hS.2.2 dX12_type_99
  · refine lv_iload_n hx hb dX12_type_10 rfl (lv_at hl 2 rfl) ?_
    refine lv_bipush (v := 8) hx hb dX12_type_11 (by decide) ?_
    refine lv_icmp_gt (tgt := 32) hx hb dX12_type_13 (by decide) (fun c2 => ?_) (fun c2 => ?_)
    · refine lv_iconst (v := 0) hx hb dX12_type_32 (by decide) ?_
      refine lv_istore (lv' := [(4, .int 0), (0, .ref z0), (1, .long x), (3, .int n)]) hx hb dX12_type_33 hl (by decide) rfl (fun ls hl => ?_)
      refine lv_iconst (v := 0) hx hb dX12_type_35 (by decide) ?_
      refine lv_istore (lv' := [(5, .int 0), (4, .int 0), (0, .ref z0), (1, .long x), (3, .int n)]) hx hb dX12_type_36 hl (by decide) rfl (fun ls hl => ?_)
      refine lv_iload hx hb dX12_type_38 (lv_at hl 1 rfl) ?_
      refine lv_if_eq (tgt := 93) hx hb dX12_type_40 (by decide) (fun _ => ?_) (fun q9 => absurd (by decide) q9)
      refine lv_iload hx hb dX12_type_93 (lv_at hl 1 rfl) ?_
      refine lv_if_ne (tgt := 100) hx hb dX12_type_95 (by decide) (fun q9 => absurd q9 (by decide)) (fun _ => ?_)
      refine lv_iconst (v := (-1)) hx hb dX12_type_98 (by decide) ?_
      refine W.widen (k := 0) (n := 0) (Nat.le_of_ble_eq_true rfl) (Nat.le_of_ble_eq_true rfl) ?_
      have hP9 := hP.sub (ws' := []) [] rfl
      have hD9 := hD.sub (ws' := []) [] (by decide) rfl
      exact W.iret (v := (-1)) hx hb hr (fun t ht hW => ⟨⟨(-1), (), rfl, Or.inr ⟨rfl, fun h => Int32.not_le.mpr c2 h.2.1⟩, by rw [ht]; exact hP9, va_K.moved hW.alike hK, hD9⟩, hS.F ht⟩) hS.2.2 dX12_type_99
    · obtain ⟨N, hN1, hN, en⟩ := ty_n c1 c2
      refine lv_aload_n hx hb dX12_type_16 rfl (lv_at hl 0 rfl) ?_
      refine va_get (D := (dC, dI)) (ci := 12) (v := .int 0) (C := RX12) (T := TX12) (N := 64) hx hb hts inX12_type_X12 hown hK hP 0 rfl rfl 2 (by decide) (hts _ lkX12_type_f171) (fun _ h9 => h9) rfl dX12_type_17 ?_
      refine lv_iload_n hx hb dX12_type_20 rfl (lv_at hl 2 rfl) ?_
      refine lv_iadd hx hb dX12_type_21 ?_
      refine lv_sipush (v := 3000) hx hb dX12_type_22 (by decide) ?_
      refine lv_icmp_gt (tgt := 32) hx hb dX12_type_25 (by decide) (fun q9 => absurd q9 (Int32.not_lt.mpr (by rw [Int32.zero_add, en]; exact nI_le (b := 3000) (by omega) (by decide)))) (fun _ => ?_)
      refine lv_iconst (v := 1) hx hb dX12_type_28 (by decide) ?_
      refine lv_goto (tgt := 33) hx hb dX12_type_29 (by decide) ?_
      refine lv_istore (lv' := [(4, .int 1), (0, .ref z0), (1, .long x), (3, .int n)]) hx hb dX12_type_33 hl (by decide) rfl (fun ls hl => ?_)
      refine lv_iconst (v := 0) hx hb dX12_type_35 (by decide) ?_
      refine lv_istore (lv' := [(5, .int 0), (4, .int 1), (0, .ref z0), (1, .long x), (3, .int n)]) hx hb dX12_type_36 hl (by decide) rfl (fun ls hl => ?_)
      refine lp_mtype1 hx hb hml hown hts hK hA z0 m1 m4 m5 m7 m8 m10 m11 m12 m13 m18 m19 m21 m22 m24 m25 m26 m28 m29 m30 m31 m37 m39 m44 m46 m47 m48 m50 m51 m52 m54 m55 m56 m57 m58 m59 m60 m61 sy x n N hN en ?_ ?_ (N + 1) 0 0 (by omega) (by omega) nI_0.symm (fun j hj => absurd hj (Nat.not_lt_zero j)) _ _ (hP.sub [0, 1] rfl) (hD.sub [0, 1] (by decide) rfl) hS ls (lv_sub hl [2, 3, 4, 1, 0] rfl)
      · intro H locs hall hP hD hS ls hl
        refine lv_iload hx hb dX12_type_93 (lv_at hl 3 rfl) ?_
        refine lv_if_ne (tgt := 100) hx hb dX12_type_95 (by decide) (fun _ => ?_) (fun q9 => absurd q9 (by decide))
        refine lv_iload_n hx hb dX12_type_100 rfl (lv_at hl 2 rfl) ?_
        refine lv_iconst (v := 1) hx hb dX12_type_101 (by decide) ?_
        refine lv_isub hx hb dX12_type_102 ?_
        refine lv_topi (fun x_1 ex_1 => ?_)
        refine lv_istore (lv' := [(5, .int x_1), (0, .ref z0), (1, .long x), (3, .int n), (4, .int 1)]) hx hb dX12_type_103 hl (by decide) rfl (fun ls hl => ?_)
        refine lp_mtype2 hx hb hml hown hts hK hA z0 m1 m4 m5 m7 m8 m10 m11 m12 m13 m18 m19 m21 m22 m24 m25 m26 m28 m29 m30 m31 m37 m39 m44 m46 m47 m48 m50 m51 m52 m54 m55 m56 m57 m58 m59 m60 m61 sy x n N hN en (fun tl f H locs htl hP hD hS ls hl => ?_) N 0 x_1 0 (fun _ => 0) (by rw [ex_1, en]) nI_0.symm (by omega) _ _ (hP.sub [0, 1] rfl) (hD.sub [0, 1] (by decide) rfl) hS ls (lv_sub hl [1, 2, 0] rfl)
        refine lv_aload_n hx hb dX12_type_144 rfl (lv_at hl 0 rfl) ?_
        refine va_get (D := (dC, dI)) (ci := 12) (v := .int tl) (C := RX12) (T := TX12) (N := 64) hx hb hts inX12_type_X12 hown hK hP 0 rfl rfl 2 (by decide) (hts _ lkX12_type_f171) (fun _ h9 => h9) rfl dX12_type_145 ?_
        refine W.widen (k := 0) (n := 0) (Nat.le_of_ble_eq_true rfl) (Nat.le_of_ble_eq_true rfl) ?_
        have hP9 := hP.sub (ws' := []) [] rfl
        have hD9 := hD.sub (ws' := []) [] (by decide) rfl
        exact W.iret (v := tl) hx hb hr (fun t ht hW => ⟨⟨tl, (), rfl, TR.good en hN1 hN hall htl, by rw [ht]; exact hP9, va_K.moved hW.alike hK, hD9⟩, hS.F ht⟩) hS.2.2 dX12_type_148
      · intro j H locs hj hbad hP hD hS ls hl
        refine lv_iload hx hb dX12_type_93 (lv_at hl 0 rfl) ?_
        refine lv_if_ne (tgt := 100) hx hb dX12_type_95 (by decide) (fun q9 => absurd q9 (by decide)) (fun _ => ?_)
        refine lv_iconst (v := (-1)) hx hb dX12_type_98 (by decide) ?_
        refine W.widen (k := 0) (n := 0) (Nat.le_of_ble_eq_true rfl) (Nat.le_of_ble_eq_true rfl) ?_
        have hP9 := hP.sub (ws' := []) [] rfl
        have hD9 := hD.sub (ws' := []) [] (by decide) rfl
        exact W.iret (v := (-1)) hx hb hr (fun t ht hW => ⟨⟨(-1), (), rfl, TR.bad en hN hj hbad, by rw [ht]; exact hP9, va_K.moved hW.alike hK, hD9⟩, hS.F ht⟩) hS.2.2 dX12_type_99
