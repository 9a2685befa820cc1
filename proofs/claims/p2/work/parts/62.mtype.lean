def oX12_type : List Cond := [Cond.constantLong RX12 174 (255), Cond.constantLong RX12 176 (32), Cond.constantLong RX12 178 (126), Cond.fieldLink RX12 7 "MacroScopesModel" "text" "[B", Cond.fieldLink RX12 171 "MacroScopesModel" "length" "I", Cond.fieldLink RX12 168 "MacroScopesModel" "thrown" "I"]
def vX12_type : List Cond := .code yX12_type cX12_type 8 (some .int) :: (oX12_type ++ (wsX120))
theorem lkX12_type_c174 : Cond.constantLong RX12 174 (255) ∈ vX12_type := List.mem_cons_of_mem _ (List.mem_append_left _ (List.mem_of_getElem? (i := 0) rfl))
theorem lkX12_type_c176 : Cond.constantLong RX12 176 (32) ∈ vX12_type := List.mem_cons_of_mem _ (List.mem_append_left _ (List.mem_of_getElem? (i := 1) rfl))
theorem lkX12_type_c178 : Cond.constantLong RX12 178 (126) ∈ vX12_type := List.mem_cons_of_mem _ (List.mem_append_left _ (List.mem_of_getElem? (i := 2) rfl))
theorem lkX12_type_f7 : Cond.fieldLink RX12 7 "MacroScopesModel" "text" "[B" ∈ vX12_type := List.mem_cons_of_mem _ (List.mem_append_left _ (List.mem_of_getElem? (i := 3) rfl))
theorem lkX12_type_f171 : Cond.fieldLink RX12 171 "MacroScopesModel" "length" "I" ∈ vX12_type := List.mem_cons_of_mem _ (List.mem_append_left _ (List.mem_of_getElem? (i := 4) rfl))
theorem lkX12_type_f168 : Cond.fieldLink RX12 168 "MacroScopesModel" "thrown" "I" ∈ vX12_type := List.mem_cons_of_mem _ (List.mem_append_left _ (List.mem_of_getElem? (i := 5) rfl))
theorem inX12_type : ∀ w ∈ wsX120, w ∈ vX12_type := fun w h => List.mem_cons_of_mem _ (List.mem_append_right _ (h))
/-- byte i of a number -/
def BY (x : Int64) (i : Int32) : Int32 := ((x.toUInt64 >>> ((8 * i).toInt64.toUInt64 &&& Int64.toUInt64 63)).toInt64).toInt32 &&& 255
def OKB (x : Int64) (j : Nat) : Prop := 32 ≤ BY x (nI j) ∧ BY x (nI j) ≤ 126
theorem ty_n {n : Int32} (c1 : ¬ n < 1) (c2 : ¬ 8 < n) : ∃ N : Nat, 1 ≤ N ∧ N ≤ 8 ∧ n = nI N := by
  have h1 : (1 : Int) ≤ n.toInt := by
    have := Int32.le_iff_toInt_le.mp (Int32.not_lt.mp c1)
    simpa using this
  have h2 : n.toInt ≤ 8 := by
    have := Int32.le_iff_toInt_le.mp (Int32.not_lt.mp c2)
    simpa using this
  refine ⟨n.toInt.toNat, by omega, by omega, ?_⟩
  apply Int32.toInt_inj.mp
  rw [nI_toInt (by omega)]
  omega
/-- characters that can be typed behind len others -/
def TGD (x : Int64) (n : Int32) (len : Nat) : Prop := ∃ M : Nat, n = nI M ∧ 1 ≤ M ∧ M ≤ 8 ∧ len + M ≤ 3000 ∧ ∀ j : Nat, j < M → OKB x j
/-- what type answers, and how many characters there are then -/
def TYP (x : Int64) (n : Int32) (len : Nat) (r : Int32) (len1 : Nat) : Prop := (TGD x n len ∧ ∃ M : Nat, n = nI M ∧ M ≤ 8 ∧ r = nI (len + M) ∧ len1 = len + M) ∨ (¬ TGD x n len ∧ r = nI 0 - 1 ∧ len1 = len)
theorem TYP.one {x : Int64} {n r r' : Int32} {len a b : Nat} (h : TYP x n len r a) (g : TYP x n len r' b) : r = r' ∧ a = b := by
  rcases h with ⟨h, M, h1, h2, h3, h4⟩ | ⟨h, h1, h2⟩ <;> rcases g with ⟨g, K, g1, g2, g3, g4⟩ | ⟨g, g1, g2⟩
  · have e : M = K := (nI_eq (by omega) (by omega)).mp (h1.symm.trans g1)
    subst e
    exact ⟨h3.trans g3.symm, h4.trans g4.symm⟩
  · exact absurd h g
  · exact absurd g h
  · exact ⟨h1.trans g1.symm, h2.trans g2.symm⟩
theorem TYP.lim {x : Int64} {n r : Int32} {len a : Nat} (h : TYP x n len r a) (hl : len ≤ 3000) : a ≤ 3000 ∧ len ≤ a ∧ a ≤ len + 8 := by
  rcases h with ⟨⟨M, h1, h2, h3, h4, h5⟩, K, g1, g2, g3, g4⟩ | ⟨h, h1, h2⟩
  · have e : M = K := (nI_eq (by omega) (by omega)).mp (h1.symm.trans g1)
    omega
  · omega
theorem TYP.no {x : Int64} {n : Int32} {len : Nat} (h : ¬ TGD x n len) : TYP x n len (nI 0 - 1) len := Or.inr ⟨h, rfl, rfl⟩
theorem ml_bv (x : BitVec 64) (c : Nat) (hc : c + 8 ≤ 64) : x.sshiftRight c &&& 255#64 = ((x >>> c).setWidth 32 &&& 255#32).setWidth 64 := by
  have h255 : ∀ j : Nat, j < 64 → (255#64).getLsbD j = decide (j < 8) := by decide +kernel
  have h255' : ∀ j : Nat, j < 32 → (255#32).getLsbD j = decide (j < 8) := by decide +kernel
  apply BitVec.eq_of_getLsbD_eq
  intro i hi
  rw [BitVec.getLsbD_and, h255 i hi, BitVec.getLsbD_setWidth, BitVec.getLsbD_and, decide_eq_true hi, Bool.true_and]
  by_cases h8 : i < 8
  · rw [h255' i (by omega), decide_eq_true h8, Bool.and_true, Bool.and_true, BitVec.getLsbD_setWidth, decide_eq_true (show i < 32 by omega), Bool.true_and, BitVec.getLsbD_ushiftRight, BitVec.getLsbD_sshiftRight]
    simp [show ¬ 64 ≤ i by omega, show c + i < 64 by omega]
  · rw [decide_eq_false h8, Bool.and_false]
    by_cases h32 : i < 32
    · rw [h255' i h32, decide_eq_false h8, Bool.and_false]
    · rw [BitVec.getLsbD_of_ge (255#32) i (by omega), Bool.and_false]
theorem by_sh : ∀ k : Nat, k < 8 → (((8 * nI k).toInt64.toUInt64 &&& Int64.toUInt64 63).toBitVec % 64).toNat = 8 * k := by decide +kernel
theorem ml_sh : ∀ k : Nat, k < 8 → (((8 * nI k).toInt64 &&& 63).toBitVec.smod 64).toNat = 8 * k := by decide +kernel
theorem by_bv (x : Int64) (k : Nat) (hk : k < 8) : (BY x (nI k)).toBitVec = (x.toBitVec >>> (8 * k)).setWidth 32 &&& 255#32 := by
  have h := by_sh k hk
  unfold BY
  generalize (8 * nI k).toInt64.toUInt64 &&& Int64.toUInt64 63 = d at h ⊢
  rw [Int32.toBitVec_and, Int64.toBitVec_toInt32, UInt64.toBitVec_toInt64, UInt64.toBitVec_shiftRight, BitVec.ushiftRight_eq', h, BitVec.signExtend_eq_setWidth_of_le _ (by decide), Int64.toBitVec_toUInt64]
  rfl
theorem ml_b2 (x : Int64) (k : Nat) (hk : k < 8) : (x >>> ((8 * nI k).toInt64 &&& 63) &&& 255).toBitVec = x.toBitVec.sshiftRight (8 * k) &&& 255#64 := by
  have h := ml_sh k hk
  generalize (8 * nI k).toInt64 &&& 63 = d at h ⊢
  rw [Int64.toBitVec_and, Int64.toBitVec_shiftRight, BitVec.sshiftRight_eq', h]
  rfl
theorem by_nI (n : Nat) : (nI n).toBitVec = BitVec.ofNat 32 n := rfl
theorem by_lN (n : Nat) : (lN n).toBitVec = BitVec.ofNat 64 n := rfl
theorem by_val (x : Int64) {k : Nat} (hk : k < 8) : ∃ v : Nat, v < 256 ∧ BY x (nI k) = nI v ∧ (x >>> ((8 * nI k).toInt64 &&& 63) &&& 255) = lN v := by
  refine ⟨((x.toBitVec >>> (8 * k)).setWidth 32 &&& 255#32).toNat, ?_, ?_, ?_⟩
  · rw [BitVec.toNat_and]
    exact Nat.lt_of_le_of_lt Nat.and_le_right (by decide)
  · apply Int32.toBitVec_inj.mp
    rw [by_bv x k hk, by_nI, BitVec.ofNat_toNat, BitVec.setWidth_eq]
  · apply Int64.toBitVec_inj.mp
    rw [ml_b2 x k hk, ml_bv _ _ (by omega), by_lN, BitVec.ofNat_toNat]
theorem okb_iff {x : Int64} {k v : Nat} (hv : v < 256) (e : BY x (nI k) = nI v) : OKB x k ↔ 32 ≤ v ∧ v ≤ 126 := by
  unfold OKB
  rw [e]
  exact and_congr (nI_leI (a := 32) (by decide) (by omega)) (nI_leI (b := 126) (by omega) (by decide))
theorem lo_iff {y : Int64} {v : Nat} (hv : v < 256) (e : y = lN v) : lg_cmp y 32 < 0 ↔ v < 32 := by
  rw [lg_cmp_lt, e]
  exact lN_lt (b := 32) (by omega) (by decide)
theorem hi_iff {y : Int64} {v : Nat} (hv : v < 256) (e : y = lN v) : 0 < lg_cmp y 126 ↔ 126 < v := by
  rw [lg_cmp_gt, e]
  exact lN_lt (a := 126) (by decide) (by omega)

set_option maxHeartbeats 4000000 in
set_option maxRecDepth 100000 in
theorem lp_ty1 {p : Program} {l : Launch} {e : Env} {s : State} {m : MethodId} {args : Array Value} {below : List Frame} {meth : Method} {c : Code} {Q : State → Prop} {A : Nat → Prop} {dC : Nat → ClassId} {dI : Nat → Nat → Nat} {cB cC cI cJ cZ : ClassId} {z0 : Nat} {R : Nat → Nat} (hx : p.tables.exec = Jvm.exec) (hb : c.code = cX12_type) (hml : c.maxLocals = 8) (hown : s.vm.findClass RX12 = some m.cls) (hts : ∀ w ∈ vX12_type, w.before args s = true) (hK : va_K (dC, dI) vwCl (TY cB cC cI cJ cZ) s) (hA : ∀ q : Nat, s.heap.size ≤ q → A q) {pl : Int32} {N : Nat → Nat} {G : Nat → Nat → Nat} {B : Nat → Nat → Int32} (h2 : N 2 ≤ 3000) (x : Int64) (M : Nat) (hM : M ≤ 8) (k1 : ∀  (H : Heap) (locs : List Loc), (∀ j : Nat, j < M → OKB x j) → va_P (dC, dI) vwCl (MW cB cC cI cJ cZ z0 R pl (va_up N 0 0) G B) H → va_D A (MW cB cC cI cJ cZ z0 R pl (va_up N 0 0) G B) → va_S A s.heap H locs → ∀ (ls : Array Slot), lv_has ls 8 [(0, .ref z0), (1, .long x), (3, .int (nI M)), (4, .int (nI 1))] → W p l e (headSpec vX12_type { frames := 0, cells := 0, slots := 0, locals := 0 }).room s m args below meth c H locs 0 0 Q (F0 m 93 ls [])) (k2 : ∀ (j : Nat) (H : Heap) (locs : List Loc), j < M → ¬ OKB x j → va_P (dC, dI) vwCl (MW cB cC cI cJ cZ z0 R pl (va_up N 0 0) G B) H → va_D A (MW cB cC cI cJ cZ z0 R pl (va_up N 0 0) G B) → va_S A s.heap H locs → ∀ (ls : Array Slot), lv_has ls 8 [(4, .int (nI 0))] → W p l e (headSpec vX12_type { frames := 0, cells := 0, slots := 0, locals := 0 }).room s m args below meth c H locs 0 0 Q (F0 m 93 ls [])) : ∀ (k : Nat) (i : Nat), M - i < k → i ≤ M → (∀ j : Nat, j < i → OKB x j) → ∀ (H : Heap) (locs : List Loc), va_P (dC, dI) vwCl (MW cB cC cI cJ cZ z0 R pl (va_up N 0 0) G B) H → va_D A (MW cB cC cI cJ cZ z0 R pl (va_up N 0 0) G B) → va_S A s.heap H locs → ∀ (ls : Array Slot), lv_has ls 8 [(0, .ref z0), (1, .long x), (3, .int (nI M)), (4, .int (nI 1)), (5, .int (nI i))] → W p l e (headSpec vX12_type { frames := 0, cells := 0, slots := 0, locals := 0 }).room s m args below meth c H locs 0 0 Q (F0 m 38 ls []) := by
  have hcs : 0 + 0 ≤ (0 : Nat) ∧ 0 + 0 ≤ (0 : Nat) := ⟨Nat.le_refl 0, Nat.le_refl 0⟩
  intro k
  induction k with
  | zero =>
    intro i hk hi hall
    omega
  | succ k ih =>
    intro i hk hi hall H locs hP hD hS ls hl
    refine lv_iload hx hb dX12_type_38 (lv_at hl 3 rfl) ?_
    refine bz_eq (tgt := 93) hx hb (by first | omega | exact Nat.lt_of_lt_of_le (hG _ _) (by decide)) dX12_type_40 (by decide) (fun q9 => absurd q9 (by omega)) (fun c => ?_)
    refine lv_iload hx hb dX12_type_43 (lv_at hl 4 rfl) ?_
    refine lv_iload_n hx hb dX12_type_45 rfl (lv_at hl 2 rfl) ?_
    refine bn_ge (tgt := 93) hx hb (by first | omega | exact Nat.lt_of_lt_of_le (hG _ _) (by decide)) (by first | omega | exact Nat.lt_of_lt_of_le (hG _ _) (by decide)) dX12_type_46 (by decide) (fun c1 => ?_) (fun c1 => ?_)
    · exact k1 H locs (fun j hj => hall j (by omega)) hP hD hS ls (lv_sub hl [0, 1, 2, 3] rfl)
    · obtain ⟨v, hv, eb, el⟩ := by_val x (k := i) (by omega)
      refine lv_lload_n hx hb dX12_type_49 rfl (lv_at hl 1 rfl) ?_
      refine lv_bipush (v := nI 8) hx hb dX12_type_50 (by decide) ?_
      refine lv_iload hx hb dX12_type_52 (lv_at hl 4 rfl) ?_
      refine lv_imul hx hb dX12_type_54 ?_
      refine tp_i (y := 8 * nI i) rfl ?_
      refine lv_lshr hx hb dX12_type_55 rfl ?_
      refine lv_ldc2 (v := 255) hx hb hown (hts _ lkX12_type_c174) dX12_type_56 ?_
      refine lv_land hx hb dX12_type_59 ?_
      refine lv_lstore (lv' := [(6, .long ((x >>> (((8 * nI i)).toInt64 &&& 63)) &&& 255)), (0, .ref z0), (1, .long x), (3, .int (nI M)), (4, .int (nI 1)), (5, .int (nI i))]) hx hb dX12_type_60 hl (by decide) rfl (fun ls hl => ?_)
      refine lv_lload hx hb dX12_type_62 (lv_at hl 0 rfl) ?_
      refine lv_ldc2 (v := 32) hx hb hown (hts _ lkX12_type_c176) dX12_type_64 ?_
      refine W.lcmp hx hb dX12_type_67 ?_
      refine lv_if_lt (tgt := 84) hx hb dX12_type_68 (by decide) (fun c2 => ?_) (fun c2 => ?_)
      · refine lv_iconst (v := nI 0) hx hb dX12_type_84 (by decide) ?_
        refine lv_istore (lv' := [(4, .int (nI 0)), (6, .long ((x >>> (((8 * nI i)).toInt64 &&& 63)) &&& 255)), (0, .ref z0), (1, .long x), (3, .int (nI M)), (5, .int (nI i))]) hx hb dX12_type_85 hl (by decide) rfl (fun ls hl => ?_)
        refine lv_iinc (v := nI (i + 1)) (lv' := [(5, .int (nI (i + 1))), (4, .int (nI 0)), (6, .long ((x >>> (((8 * nI i)).toInt64 &&& 63)) &&& 255)), (0, .ref z0), (1, .long x), (3, .int (nI M))]) hx hb dX12_type_87 hl (k := 5) rfl (nI_add i 1) (by decide) rfl (fun ls hl => ?_)
        refine lv_goto (tgt := 38) hx hb dX12_type_90 (by decide) ?_
        refine lv_iload hx hb dX12_type_38 (lv_at hl 1 rfl) ?_
        refine bz_eq (tgt := 93) hx hb (by first | omega | exact Nat.lt_of_lt_of_le (hG _ _) (by decide)) dX12_type_40 (by decide) (fun c => ?_) (fun q9 => absurd q9 (by omega))
        exact k2 i H locs c1 (fun q9 => absurd ((okb_iff hv eb).mp q9).1 (by have := (lo_iff hv el).mp c2; omega)) hP hD hS ls (lv_sub hl [1] rfl)
      · refine lv_lload hx hb dX12_type_71 (lv_at hl 0 rfl) ?_
        refine lv_ldc2 (v := 126) hx hb hown (hts _ lkX12_type_c178) dX12_type_73 ?_
        refine W.lcmp hx hb dX12_type_76 ?_
        refine lv_if_gt (tgt := 84) hx hb dX12_type_77 (by decide) (fun c3 => ?_) (fun c3 => ?_)
        · refine lv_iconst (v := nI 0) hx hb dX12_type_84 (by decide) ?_
          refine lv_istore (lv' := [(4, .int (nI 0)), (6, .long ((x >>> (((8 * nI i)).toInt64 &&& 63)) &&& 255)), (0, .ref z0), (1, .long x), (3, .int (nI M)), (5, .int (nI i))]) hx hb dX12_type_85 hl (by decide) rfl (fun ls hl => ?_)
          refine lv_iinc (v := nI (i + 1)) (lv' := [(5, .int (nI (i + 1))), (4, .int (nI 0)), (6, .long ((x >>> (((8 * nI i)).toInt64 &&& 63)) &&& 255)), (0, .ref z0), (1, .long x), (3, .int (nI M))]) hx hb dX12_type_87 hl (k := 5) rfl (nI_add i 1) (by decide) rfl (fun ls hl => ?_)
          refine lv_goto (tgt := 38) hx hb dX12_type_90 (by decide) ?_
          refine lv_iload hx hb dX12_type_38 (lv_at hl 1 rfl) ?_
          refine bz_eq (tgt := 93) hx hb (by first | omega | exact Nat.lt_of_lt_of_le (hG _ _) (by decide)) dX12_type_40 (by decide) (fun c => ?_) (fun q9 => absurd q9 (by omega))
          exact k2 i H locs c1 (fun q9 => absurd ((okb_iff hv eb).mp q9).2 (by have := (hi_iff hv el).mp c3; omega)) hP hD hS ls (lv_sub hl [1] rfl)
        · have hok : OKB x i := (okb_iff hv eb).mpr ⟨Nat.le_of_not_lt (fun h => c2 ((lo_iff hv el).mpr h)), Nat.le_of_not_lt (fun h => c3 ((hi_iff hv el).mpr h))⟩
          refine lv_iconst (v := nI 1) hx hb dX12_type_80 (by decide) ?_
          refine lv_goto (tgt := 85) hx hb dX12_type_81 (by decide) ?_
          refine lv_istore (lv' := [(4, .int (nI 1)), (6, .long ((x >>> (((8 * nI i)).toInt64 &&& 63)) &&& 255)), (0, .ref z0), (1, .long x), (3, .int (nI M)), (5, .int (nI i))]) hx hb dX12_type_85 hl (by decide) rfl (fun ls hl => ?_)
          refine lv_iinc (v := nI (i + 1)) (lv' := [(5, .int (nI (i + 1))), (4, .int (nI 1)), (6, .long ((x >>> (((8 * nI i)).toInt64 &&& 63)) &&& 255)), (0, .ref z0), (1, .long x), (3, .int (nI M))]) hx hb dX12_type_87 hl (k := 5) rfl (nI_add i 1) (by decide) rfl (fun ls hl => ?_)
          refine lv_goto (tgt := 38) hx hb dX12_type_90 (by decide) ?_
          exact ih (i + 1) (by omega) (by omega) (lt_s hall hok) _ _ hP hD hS ls (lv_sub hl [3, 4, 5, 1, 0] rfl)

set_option maxHeartbeats 4000000 in
set_option maxRecDepth 100000 in
theorem lp_ty2 {p : Program} {l : Launch} {e : Env} {s : State} {m : MethodId} {args : Array Value} {below : List Frame} {meth : Method} {c : Code} {Q : State → Prop} {A : Nat → Prop} {dC : Nat → ClassId} {dI : Nat → Nat → Nat} {cB cC cI cJ cZ : ClassId} {z0 : Nat} {R : Nat → Nat} (hx : p.tables.exec = Jvm.exec) (hb : c.code = cX12_type) (hml : c.maxLocals = 8) (hown : s.vm.findClass RX12 = some m.cls) (hts : ∀ w ∈ vX12_type, w.before args s = true) (hK : va_K (dC, dI) vwCl (TY cB cC cI cJ cZ) s) (hA : ∀ q : Nat, s.heap.size ≤ q → A q) {pl : Int32} {N : Nat → Nat} {G : Nat → Nat → Nat} {B : Nat → Nat → Int32} (h2 : N 2 ≤ 3000) (x : Int64) (M : Nat) (hM : M ≤ 8) (hm : N 2 + M ≤ 3000) (ke : ∀ (X : Nat → Int32) (H : Heap) (locs : List Loc), va_P (dC, dI) vwCl (MW cB cC cI cJ cZ z0 R pl (va_up (va_up N 0 0) 2 (N 2 + (M - 0))) G (va_up B 1 X)) H → va_D A (MW cB cC cI cJ cZ z0 R pl (va_up (va_up N 0 0) 2 (N 2 + (M - 0))) G (va_up B 1 X)) → va_S A s.heap H locs → ∀ (ls : Array Slot), lv_has ls 8 [(0, .ref z0)] → W p l e (headSpec vX12_type { frames := 0, cells := 0, slots := 0, locals := 0 }).room s m args below meth c H locs 0 0 Q (F0 m 144 ls [])) : ∀ (k : Nat) (j : Nat) (X : Nat → Int32), j < k → j ≤ M → ∀ (H : Heap) (locs : List Loc), va_P (dC, dI) vwCl (MW cB cC cI cJ cZ z0 R pl (va_up (va_up N 0 0) 2 (N 2 + (M - j))) G (va_up B 1 X)) H → va_D A (MW cB cC cI cJ cZ z0 R pl (va_up (va_up N 0 0) 2 (N 2 + (M - j))) G (va_up B 1 X)) → va_S A s.heap H locs → ∀ (ls : Array Slot), lv_has ls 8 [(0, .ref z0), (1, .long x), (5, .int (nI j - 1))] → W p l e (headSpec vX12_type { frames := 0, cells := 0, slots := 0, locals := 0 }).room s m args below meth c H locs 0 0 Q (F0 m 105 ls []) := by
  have hcs : 0 + 0 ≤ (0 : Nat) ∧ 0 + 0 ≤ (0 : Nat) := ⟨Nat.le_refl 0, Nat.le_refl 0⟩
  intro k
  induction k with
  | zero =>
    intro j X hk hj H locs hP hD hS ls hl
    exact absurd hk (Nat.not_lt_zero _)
  | succ k ih =>
    intro j X hk hj H locs hP hD hS ls hl
    refine lv_iload hx hb dX12_type_105 (lv_at hl 2 rfl) ?_
    refine bo_lt (tgt := 144) hx hb (by first | omega | exact Nat.lt_of_lt_of_le (hG _ _) (by decide)) dX12_type_107 (by decide) (fun c1 => ?_) (fun c1 => ?_)
    · subst c1
      exact ke X H locs hP hD hS ls (lv_sub hl [0] rfl)
    · obtain ⟨j, rfl⟩ : ∃ i, j = i + 1 := ⟨j - 1, by omega⟩
      refine lv_aload_n hx hb dX12_type_110 rfl (lv_at hl 0 rfl) ?_
      refine mg_1 hx hb hts inX12_type hown hK hP (hts _ lkX12_type_f7) dX12_type_111 ?_
      refine lv_aload_n hx hb dX12_type_114 rfl (lv_at hl 0 rfl) ?_
      refine mg_2 hx hb hts inX12_type hown hK hP (hts _ lkX12_type_f171) dX12_type_115 ?_
      refine tp_i (y := nI (N 2 + (M - (j + 1)))) rfl ?_
      refine lv_lload_n hx hb dX12_type_118 rfl (lv_at hl 1 rfl) ?_
      refine lv_bipush (v := nI 8) hx hb dX12_type_119 (by decide) ?_
      refine lv_iload hx hb dX12_type_121 (lv_at hl 2 rfl) ?_
      refine lv_imul hx hb dX12_type_123 ?_
      refine lv_lshr hx hb dX12_type_124 rfl ?_
      refine lv_l2i hx hb dX12_type_125 rfl ?_
      refine lv_i2b (v := ((x >>> (((nI 8 * (nI (j + 1) - 1))).toInt64 &&& 63)).toInt32).toInt8.toInt32) hx hb dX12_type_126 rfl ?_
      refine ms_1 hx hb hK hP hD hS (by omega) dX12_type_127 (fun H locs hP hD hS => ?_)
      rw [bx_uu] at hP hD
      obtain ⟨X2, hX2⟩ : ∃ X2, X2 = upd (va_up B 1 X 1) (N 2 + (M - (j + 1))) (vp_nar .byte (((x >>> (((nI 8 * (nI (j + 1) - 1))).toInt64 &&& 63)).toInt32).toInt8.toInt32)) := ⟨_, rfl⟩
      rw [← hX2] at hP hD
      refine lv_aload_n hx hb dX12_type_128 rfl (lv_at hl 0 rfl) ?_
      refine lv_dup hx hb dX12_type_129 rfl ?_
      refine mg_2 hx hb hts inX12_type hown hK hP (hts _ lkX12_type_f171) dX12_type_130 ?_
      refine tp_i (y := nI (N 2 + (M - (j + 1)))) rfl ?_
      refine lv_iconst (v := nI 1) hx hb dX12_type_133 (by decide) ?_
      refine lv_iadd hx hb dX12_type_134 ?_
      refine tp_i (nI_add (N 2 + (M - (j + 1))) 1) ?_
      refine tp_i (y := nI (N 2 + (M - j))) (congrArg nI (by omega)) ?_
      refine mp_2 hx hb hts inX12_type hown hK hP hD hS (hts _ lkX12_type_f171) dX12_type_135 (fun H locs hP hD hS => ?_)
      rw [bx_uu] at hP hD
      refine lv_iinc (v := nI j - 1) (lv' := [(5, .int (nI j - 1)), (0, .ref z0), (1, .long x)]) hx hb dX12_type_138 hl (k := 2) rfl (om1m (show 0 < j + 1 by omega)) (by decide) rfl (fun ls hl => ?_)
      refine lv_goto (tgt := 105) hx hb dX12_type_141 (by decide) ?_
      exact ih j X2 (by omega) (by omega) _ _ hP hD hS ls (lv_sub hl [1, 2, 0] rfl)

set_option maxHeartbeats 4000000 in
set_option maxRecDepth 100000 in
/-- type -/
theorem m_type (l : Launch) (dC : Nat → ClassId) (dI : Nat → Nat → Nat) (cB cC cI cJ cZ : ClassId) (z0 : Nat) (R : Nat → Nat) (pl : Int32) (N : Nat → Nat) (G : Nat → Nat → Nat) (B : Nat → Nat → Int32) (x : Int64) (n : Int32) (h2 : N 2 ≤ 3000) (s0 : Nat) : Met l yX12_type vX12_type { frames := 0, cells := 0, slots := 0, locals := 0 } (va_Pc [.ref z0, .long x, .int n] (mPre dC dI cB cC cI cJ cZ z0 R pl N G B s0)) (va_Qi (fun (r : Int32) (u : ((Nat → Nat) × (Nat → Nat → Nat) × (Nat → Nat → Int32) × Int32)) => match u with | (N1, G1, B1, pl1) => G1 = G ∧ pl1 = pl ∧ ∃ X len1, N1 = va_up (va_up N 0 0) 2 len1 ∧ B1 = va_up B 1 X ∧ TYP x n (N 2) r len1) (mPost dC dI cB cC cI cJ cZ z0 R (va_A (MW cB cC cI cJ cZ z0 R pl N G B) s0)) (va_A (MW cB cC cI cJ cZ z0 R pl N G B) s0)) 0 0 (va_A (MW cB cC cI cJ cZ z0 R pl N G B) s0) := by
  refine Met.ofW (cc := cX12_type) (maxL := 8) (ret := (some .int)) (by decide) rfl ?_
  intro p e s m args below meth c s₁ B9 hml hv
  obtain ⟨rfl, hsz, hP, hK, hD0⟩ := hv
  have hx := B9.exec
  have hb := B9.bytes
  have hr := B9.returns
  have hts := atoms_spec (ws := vX12_type) B9.pre
  have hown : s.vm.findClass RX12 = some m.cls := findClass_of_methodNamed B9.named
  have hlocks := B9.notSynchronized
  subst hsz
  have hD := hD0.self (sz := s.heap.size)
  generalize hAe : va_A (MW cB cC cI cJ cZ z0 R pl N G B) s.heap.size = A at hD ⊢
  have hA : ∀ q : Nat, s.heap.size ≤ q → A q := fun q h => by rw [← hAe]; exact Or.inr h
  have hS : va_S A s.heap s.heap [] := va_S.rf
  have hcs : 0 + 0 ≤ (0 : Nat) ∧ 0 + 0 ≤ (0 : Nat) := ⟨Nat.le_refl 0, Nat.le_refl 0⟩
  have hl := lv_entry ([.ref z0, .long x, .int n]) (n := 8) (Nat.le_of_ble_eq_true rfl)
  rw [lg_entry_eq]
  generalize (lg_sl ([.ref z0, .long x, .int n]) ++ List.replicate (8 - (lg_sl ([.ref z0, .long x, .int n])).length) Slot.unset).toArray = ls at hl ⊢
  have hl : lv_has ls 8 [(0, .ref z0), (1, .long x), (3, .int n)] := hl
  have e2 : va_up (va_up N 0 0) 2 (N 2) = va_up N 0 0 := va_upid (va_up N 0 0) 2
  have eb : va_up B 1 (B 1) = B := va_upid B 1
  refine lv_aload_n hx hb dX12_type_0 rfl (lv_at hl 0 rfl) ?_
  refine lv_iconst (v := nI 0) hx hb dX12_type_1 (by decide) ?_
  refine mp_0 hx hb hts inX12_type hown hK hP hD hS (hts _ lkX12_type_f168) dX12_type_2 (fun H locs hP hD hS => ?_)
  refine lv_iload_n hx hb dX12_type_5 rfl (lv_at hl 2 rfl) ?_
  refine lv_iconst (v := nI 1) hx hb dX12_type_6 (by decide) ?_
  refine lv_icmp_lt (tgt := 32) hx hb dX12_type_7 (by decide) (fun c1 => ?_) (fun c1 => ?_)
  · refine lv_iconst (v := nI 0) hx hb dX12_type_32 (by decide) ?_
    refine lv_istore (lv' := [(4, .int (nI 0)), (0, .ref z0), (1, .long x), (3, .int n)]) hx hb dX12_type_33 hl (by decide) rfl (fun ls hl => ?_)
    refine lv_iconst (v := nI 0) hx hb dX12_type_35 (by decide) ?_
    refine lv_istore (lv' := [(5, .int (nI 0)), (4, .int (nI 0)), (0, .ref z0), (1, .long x), (3, .int n)]) hx hb dX12_type_36 hl (by decide) rfl (fun ls hl => ?_)
    refine lv_iload hx hb dX12_type_38 (lv_at hl 1 rfl) ?_
    refine bz_eq (tgt := 93) hx hb (by first | omega | exact Nat.lt_of_lt_of_le (hG _ _) (by decide)) dX12_type_40 (by decide) (fun c => ?_) (fun q9 => absurd q9 (by omega))
    refine lv_iload hx hb dX12_type_93 (lv_at hl 1 rfl) ?_
    refine bz_ne (tgt := 100) hx hb (by first | omega | exact Nat.lt_of_lt_of_le (hG _ _) (by decide)) dX12_type_95 (by decide) (fun q9 => absurd q9 (by omega)) (fun c => ?_)
    refine lv_iconst (v := nI 0 - 1) hx hb dX12_type_98 (by decide) ?_
    exact W.iret (v := (nI 0 - 1)) hx hb hr (fun t ht hW => ⟨⟨(nI 0 - 1), (va_up N 0 0, G, B, pl), rfl, ⟨rfl, rfl, B 1, N 2, e2.symm, eb.symm, TYP.no (fun ⟨M, q1, q2, q3, q4, q5⟩ => by rw [q1] at c1; exact absurd c1 (by rw [nI_ltI (by omega) (by decide)]; omega))⟩, by rw [ht]; exact hP, va_K.moved hW.alike hK, hD⟩, hS.F ht⟩) hS.2.2 dX12_type_99
  · refine lv_iload_n hx hb dX12_type_10 rfl (lv_at hl 2 rfl) ?_
    refine lv_bipush (v := nI 8) hx hb dX12_type_11 (by decide) ?_
    refine lv_icmp_gt (tgt := 32) hx hb dX12_type_13 (by decide) (fun c2 => ?_) (fun c2 => ?_)
    · refine lv_iconst (v := nI 0) hx hb dX12_type_32 (by decide) ?_
      refine lv_istore (lv' := [(4, .int (nI 0)), (0, .ref z0), (1, .long x), (3, .int n)]) hx hb dX12_type_33 hl (by decide) rfl (fun ls hl => ?_)
      refine lv_iconst (v := nI 0) hx hb dX12_type_35 (by decide) ?_
      refine lv_istore (lv' := [(5, .int (nI 0)), (4, .int (nI 0)), (0, .ref z0), (1, .long x), (3, .int n)]) hx hb dX12_type_36 hl (by decide) rfl (fun ls hl => ?_)
      refine lv_iload hx hb dX12_type_38 (lv_at hl 1 rfl) ?_
      refine bz_eq (tgt := 93) hx hb (by first | omega | exact Nat.lt_of_lt_of_le (hG _ _) (by decide)) dX12_type_40 (by decide) (fun c => ?_) (fun q9 => absurd q9 (by omega))
      refine lv_iload hx hb dX12_type_93 (lv_at hl 1 rfl) ?_
      refine bz_ne (tgt := 100) hx hb (by first | omega | exact Nat.lt_of_lt_of_le (hG _ _) (by decide)) dX12_type_95 (by decide) (fun q9 => absurd q9 (by omega)) (fun c => ?_)
      refine lv_iconst (v := nI 0 - 1) hx hb dX12_type_98 (by decide) ?_
      exact W.iret (v := (nI 0 - 1)) hx hb hr (fun t ht hW => ⟨⟨(nI 0 - 1), (va_up N 0 0, G, B, pl), rfl, ⟨rfl, rfl, B 1, N 2, e2.symm, eb.symm, TYP.no (fun ⟨M, q1, q2, q3, q4, q5⟩ => by rw [q1] at c2; exact absurd c2 (by rw [nI_ltI (by decide) (by omega)]; omega))⟩, by rw [ht]; exact hP, va_K.moved hW.alike hK, hD⟩, hS.F ht⟩) hS.2.2 dX12_type_99
    · obtain ⟨M, hM1, hM, en⟩ := ty_n c1 c2
      subst en
      have hl : lv_has ls 8 [(0, .ref z0), (1, .long x), (3, .int (nI M))] := hl
      have hmm : ∀ K : Nat, K ≤ 8 → nI M = nI K → K = M := fun K hK e => ((nI_eq (by omega) (by omega)).mp e).symm
      refine lv_aload_n hx hb dX12_type_16 rfl (lv_at hl 0 rfl) ?_
      refine mg_2 hx hb hts inX12_type hown hK hP (hts _ lkX12_type_f171) dX12_type_17 ?_
      refine tp_i (y := nI (N 2)) rfl ?_
      refine lv_iload_n hx hb dX12_type_20 rfl (lv_at hl 2 rfl) ?_
      refine lv_iadd hx hb dX12_type_21 ?_
      refine tp_i (nI_add (N 2) M) ?_
      refine lv_sipush (v := nI 3000) hx hb dX12_type_22 (by decide) ?_
      refine bn_gt (tgt := 32) hx hb (by first | omega | exact Nat.lt_of_lt_of_le (hG _ _) (by decide)) (by first | omega | exact Nat.lt_of_lt_of_le (hG _ _) (by decide)) dX12_type_25 (by decide) (fun c3 => ?_) (fun c3 => ?_)
      · refine lv_iconst (v := nI 0) hx hb dX12_type_32 (by decide) ?_
        refine lv_istore (lv' := [(4, .int (nI 0)), (0, .ref z0), (1, .long x), (3, .int (nI M))]) hx hb dX12_type_33 hl (by decide) rfl (fun ls hl => ?_)
        refine lv_iconst (v := nI 0) hx hb dX12_type_35 (by decide) ?_
        refine lv_istore (lv' := [(5, .int (nI 0)), (4, .int (nI 0)), (0, .ref z0), (1, .long x), (3, .int (nI M))]) hx hb dX12_type_36 hl (by decide) rfl (fun ls hl => ?_)
        refine lv_iload hx hb dX12_type_38 (lv_at hl 1 rfl) ?_
        refine bz_eq (tgt := 93) hx hb (by first | omega | exact Nat.lt_of_lt_of_le (hG _ _) (by decide)) dX12_type_40 (by decide) (fun c => ?_) (fun q9 => absurd q9 (by omega))
        refine lv_iload hx hb dX12_type_93 (lv_at hl 1 rfl) ?_
        refine bz_ne (tgt := 100) hx hb (by first | omega | exact Nat.lt_of_lt_of_le (hG _ _) (by decide)) dX12_type_95 (by decide) (fun q9 => absurd q9 (by omega)) (fun c => ?_)
        refine lv_iconst (v := nI 0 - 1) hx hb dX12_type_98 (by decide) ?_
        exact W.iret (v := (nI 0 - 1)) hx hb hr (fun t ht hW => ⟨⟨(nI 0 - 1), (va_up N 0 0, G, B, pl), rfl, ⟨rfl, rfl, B 1, N 2, e2.symm, eb.symm, TYP.no (fun ⟨K, q1, q2, q3, q4, q5⟩ => by have := hmm K q3 q1; omega)⟩, by rw [ht]; exact hP, va_K.moved hW.alike hK, hD⟩, hS.F ht⟩) hS.2.2 dX12_type_99
      · refine lv_iconst (v := nI 1) hx hb dX12_type_28 (by decide) ?_
        refine lv_goto (tgt := 33) hx hb dX12_type_29 (by decide) ?_
        refine lv_istore (lv' := [(4, .int (nI 1)), (0, .ref z0), (1, .long x), (3, .int (nI M))]) hx hb dX12_type_33 hl (by decide) rfl (fun ls hl => ?_)
        refine lv_iconst (v := nI 0) hx hb dX12_type_35 (by decide) ?_
        refine lv_istore (lv' := [(5, .int (nI 0)), (4, .int (nI 1)), (0, .ref z0), (1, .long x), (3, .int (nI M))]) hx hb dX12_type_36 hl (by decide) rfl (fun ls hl => ?_)
        refine lp_ty1 hx hb hml hown hts hK hA h2 x M hM (fun H locs hall hP hD hS ls hl => ?_) (fun j H locs hj hbad hP hD hS ls hl => ?_) _ 0 (Nat.lt_succ_self _) (Nat.zero_le _) (fun j hj => absurd hj (Nat.not_lt_zero j)) _ _ hP hD hS ls (lv_sub hl [2, 3, 4, 1, 0] rfl)
        · refine lv_iload hx hb dX12_type_93 (lv_at hl 3 rfl) ?_
          refine bz_ne (tgt := 100) hx hb (by first | omega | exact Nat.lt_of_lt_of_le (hG _ _) (by decide)) dX12_type_95 (by decide) (fun c => ?_) (fun q9 => absurd q9 (by omega))
          refine lv_iload_n hx hb dX12_type_100 rfl (lv_at hl 2 rfl) ?_
          refine lv_iconst (v := nI 1) hx hb dX12_type_101 (by decide) ?_
          refine lv_isub hx hb dX12_type_102 ?_
          refine lv_istore (lv' := [(5, .int (nI M - 1)), (0, .ref z0), (1, .long x), (3, .int (nI M)), (4, .int (nI 1))]) hx hb dX12_type_103 hl (by decide) rfl (fun ls hl => ?_)
          have e0 : N 2 + (M - M) = N 2 := by omega
          have hP : va_P (dC, dI) vwCl (MW cB cC cI cJ cZ z0 R pl (va_up (va_up N 0 0) 2 (N 2 + (M - M))) G (va_up B 1 (B 1))) H := by rw [e0, e2, eb]; exact hP
          have hD : va_D A (MW cB cC cI cJ cZ z0 R pl (va_up (va_up N 0 0) 2 (N 2 + (M - M))) G (va_up B 1 (B 1))) := by rw [e0, e2, eb]; exact hD
          refine lp_ty2 hx hb hml hown hts hK hA h2 x M hM c3 (fun X H locs hP hD hS ls hl => ?_) _ M (B 1) (Nat.lt_succ_self _) (Nat.le_refl _) _ _ hP hD hS ls (lv_sub hl [1, 2, 0] rfl)
          refine lv_aload_n hx hb dX12_type_144 rfl (lv_at hl 0 rfl) ?_
          refine mg_2 hx hb hts inX12_type hown hK hP (hts _ lkX12_type_f171) dX12_type_145 ?_
          refine tp_i (y := nI (N 2 + (M - 0))) rfl ?_
          exact W.iret (v := (nI (N 2 + (M - 0)))) hx hb hr (fun t ht hW => ⟨⟨(nI (N 2 + (M - 0))), (va_up (va_up N 0 0) 2 (N 2 + (M - 0)), G, va_up B 1 X, pl), rfl, ⟨rfl, rfl, X, N 2 + (M - 0), rfl, rfl, Or.inl ⟨⟨M, rfl, hM1, hM, c3, hall⟩, M, rfl, hM, by rw [Nat.sub_zero], by rw [Nat.sub_zero]⟩⟩, by rw [ht]; exact hP, va_K.moved hW.alike hK, hD⟩, hS.F ht⟩) hS.2.2 dX12_type_148
        · refine lv_iload hx hb dX12_type_93 (lv_at hl 0 rfl) ?_
          refine bz_ne (tgt := 100) hx hb (by first | omega | exact Nat.lt_of_lt_of_le (hG _ _) (by decide)) dX12_type_95 (by decide) (fun q9 => absurd q9 (by omega)) (fun c => ?_)
          refine lv_iconst (v := nI 0 - 1) hx hb dX12_type_98 (by decide) ?_
          exact W.iret (v := (nI 0 - 1)) hx hb hr (fun t ht hW => ⟨⟨(nI 0 - 1), (va_up N 0 0, G, B, pl), rfl, ⟨rfl, rfl, B 1, N 2, e2.symm, eb.symm, TYP.no (fun ⟨K, q1, q2, q3, q4, q5⟩ => hbad (q5 j (by have := hmm K q3 q1; omega)))⟩, by rw [ht]; exact hP, va_K.moved hW.alike hK, hD⟩, hS.F ht⟩) hS.2.2 dX12_type_99
