def SPR (f : Nat → Int32) : Prop := ∀ i, 0 ≤ (f i).toInt ∧ (f i).toInt ≤ 67600
def VB (f : Nat → Int32) : Prop := ∀ i, (f i).toInt < 1073741824
def NB (f : Nat → Int32) (n : Nat) : Prop := ∀ i, 0 ≤ (f i).toInt ∧ (f i).toInt ≤ (n : Int)
/-- the place behind a form -/
def AF (f : Nat → Int32) (gf : Nat) (x : Int) : Int := if 0 ≤ x ∧ x < (gf : Int) ∧ 1 < (f x.toNat).toInt then x + (f x.toNat).toInt else x + 1
theorem AF_cases (f : Nat → Int32) (gf : Nat) (x : Int) : (AF f gf x = x + (f x.toNat).toInt ∧ 0 ≤ x ∧ x < (gf : Int) ∧ 1 < (f x.toNat).toInt) ∨ (AF f gf x = x + 1 ∧ ¬ (0 ≤ x ∧ x < (gf : Int) ∧ 1 < (f x.toNat).toInt)) := by
  unfold AF
  split
  · rename_i h; exact Or.inl ⟨rfl, h⟩
  · rename_i h; exact Or.inr ⟨rfl, h⟩
theorem AF_b {f : Nat → Int32} (h : SPR f) (gf : Nat) (x : Int) : x < AF f gf x ∧ AF f gf x ≤ x + 67600 := by
  have h1 := AF_cases f gf x
  have h2 := h x.toNat
  omega
theorem VB_upd {f : Nat → Int32} (h : VB f) {j : Nat} {v : Int} (hr : -2147483648 ≤ v ∧ v < 1073741824) : VB (upd f j (oI v)) := by
  intro i
  unfold upd
  split
  · rw [toInt_oI ⟨hr.1, by omega⟩]; exact hr.2
  · exact h i
theorem NB_upd {f : Nat → Int32} {n : Nat} (h : NB f n) {j : Nat} {v : Int} (hr : 0 ≤ v ∧ v ≤ (n : Int)) (hn : n ≤ 63261) : NB (upd f j (oI v)) n := by
  intro i
  unfold upd
  split
  · rw [toInt_oI ⟨by omega, by omega⟩]; exact hr
  · exact h i
theorem zb9 {x : Int} (h : x = 0 ∨ x = 1) : narrow .boolean (.int (oI x)) = .int (oI x) := by
  rcases h with rfl | rfl <;> rfl
theorem ne0 {y : Int} (hr : -2147483648 ≤ y ∧ y < 2147483648) (h : y ≠ 0) : ¬ oI y = 0 := fun q => h (by have := congrArg Int32.toInt q; rwa [toInt_oI hr] at this)
theorem oI_nI {n : Nat} (hn : n < 2147483648) : oI (n : Int) = nI n := Int32.toInt_inj.mp (by rw [toInt_oI (by omega)]; exact (Int32.toInt_ofNat_of_lt (by show n < 2 ^ 31; omega)).symm)
theorem div10 {x : Int} (h : 0 ≤ x ∧ x < 2147483648) : oI x / oI 10 = oI (x / 10) := by
  obtain ⟨n, rfl⟩ := Int.eq_ofNat_of_zero_le h.1
  have e : (n : Int) / 10 = ((n / 10 : Nat) : Int) := by omega
  rw [e, oI_nI (n := n) (by omega), oI_nI (n := n / 10) (by omega), show oI 10 = nI 10 from rfl]
  exact pk_div (by omega) (by omega) (by omega)
theorem i2cr (x y : Int32) (h : y = (x.toUInt32 % 65536).toInt32) : 0 ≤ y.toInt ∧ y.toInt < 65536 := by
  subst h
  have h1 : (x.toUInt32 % 65536).toNat < 65536 := by
    rw [UInt32.toNat_mod]; exact Nat.mod_lt _ (by decide)
  have h2 : (x.toUInt32 % 65536).toInt32.toInt = ((x.toUInt32 % 65536).toNat : Int) := by
    show (x.toUInt32 % 65536).toBitVec.toInt = _
    rw [BitVec.toInt_eq_toNat_of_lt (by show 2 * (x.toUInt32 % 65536).toNat < 2 ^ 32; omega)]; rfl
  omega
theorem chr9 {x : Int} (h : 0 ≤ x ∧ x < 65536) : narrow .char (.int (oI x)) = .int (oI x) ∧ fits .char (.int (oI x)) = true := by
  obtain ⟨n, rfl⟩ := Int.eq_ofNat_of_zero_le h.1
  have hn : n < 65536 := by omega
  have e : oI (n : Int) = nI n := Int32.toInt_inj.mp (by rw [toInt_oI (by omega)]; exact (Int32.toInt_ofNat_of_lt (by show n < 2 ^ 31; omega)).symm)
  constructor
  · rw [e]
    show Value.int ((nI n).toUInt32.toUInt16.toUInt32.toInt32) = _
    have : (nI n).toUInt32.toUInt16.toUInt32.toInt32 = nI n := by
      apply Int32.toBitVec_inj.mp
      show BitVec.setWidth 32 (BitVec.setWidth 16 (BitVec.ofNat 32 n)) = BitVec.ofNat 32 n
      apply BitVec.eq_of_toNat_eq
      simp only [BitVec.toNat_setWidth, BitVec.toNat_ofNat]
      omega
    rw [this]
  · show (decide (0 ≤ oI (n : Int)) && decide (oI (n : Int) ≤ 65535)) = true
    rw [Bool.and_eq_true, decide_eq_true_eq, decide_eq_true_eq]
    exact ⟨(oI_le (x := 0) (by omega) (by omega)).mpr (by omega), (oI_le (y := 65535) (by omega) (by omega)).mpr (by omega)⟩
/-- all slots of a heap -/
def tot (H : Heap) : Nat := H.foldl (fun n c => n + c.slots.size) 0
/-- cells and slots that may yet be made: two rows of forms, five of names -/
def cg (gf gn : Nat) : Nat := (if gf = 67600 then 0 else 2) + (if gn = 63261 then 0 else 5)
def sg (gf gn : Nat) : Nat := (if gf = 67600 then 0 else 135200) + (if gn = 63261 then 0 else 316305)
def gC (gf gn gf0 gn0 cells slots : Nat) : Prop := cells + cg gf gn ≤ cg gf0 gn0 ∧ slots + sg gf gn ≤ sg gf0 gn0
theorem gC.rf {gf gn : Nat} : gC gf gn gf gn 0 0 := ⟨by omega, by omega⟩
theorem gC.cs {gf gn gf0 gn0 cells slots : Nat} (h : gC gf gn gf0 gn0 cells slots) : cells + 0 ≤ cg gf0 gn0 ∧ slots + 0 ≤ sg gf0 gn0 := ⟨by have := h.1; omega, by have := h.2; omega⟩
section KN
variable {p : Program} {l : Launch} {e : Env} {R : Room} {s : State} {m : MethodId} {args : Array Value} {below : List Frame} {meth : Method} {c : Code} {H : Heap} {locs : List Loc} {cells slots : Nat} {Q : State → Prop} {g : JFrame}
theorem st_tot {T : State} (X : Stand p l e R s m args below meth c T locs cells slots) : T.slotsUsed = tot T.heap ∧ s.slotsUsed = tot s.heap := by
  have hb := X.book
  have h0 : s.slotsTrue = true := by
    have h := X.room
    simp only [State.hasRoom, Bool.and_eq_true] at h
    exact h.2
  simp only [State.slotsTrue, beq_iff_eq] at hb h0
  exact ⟨hb, h0⟩
theorem W.know (k : H.size ≤ s.heap.size + cells → tot H ≤ tot s.heap + slots → W p l e R s m args below meth c H locs cells slots Q g) : W p l e R s m args below meth c H locs cells slots Q g := by
  intro T hT X
  have ht := st_tot X
  have h1 := X.heapSize
  have h2 := X.used
  rw [hT] at h1 ht
  exact k h1 (by omega) T hT X
theorem W.tight {k n : Nat} (hc : H.size ≤ s.heap.size + k) (hs : tot H ≤ tot s.heap + n) (kk : W p l e R s m args below meth c H locs k n Q g) : W p l e R s m args below meth c H locs cells slots Q g := by
  intro T hT X
  have ht := st_tot X
  obtain ⟨h1, h2, h3, h4, h5, h6⟩ := X.same
  have h4' : T.slotsUsed = s.slotsUsed + ((T.heap.toList.drop s.heap.size).map (·.slots.size)).sum := h4
  refine kk T hT { X with same := ⟨h1, h2, ?_, h4, ?_, h6⟩ }
  · show T.heap.size ≤ _
    rw [hT]; exact hc
  · show ((T.heap.toList.drop s.heap.size).map (·.slots.size)).sum ≤ n
    rw [hT] at ht h4' ⊢
    omega
end KN
theorem gEnd {s : State} {H : Heap} {gf gn gf0 gn0 cells slots : Nat} (h : gC gf gn gf0 gn0 cells slots) (h1 : H.size ≤ s.heap.size + cells) (h2 : tot H ≤ tot s.heap + slots) : H.size + cg gf gn ≤ s.heap.size + cg gf0 gn0 ∧ tot H + sg gf gn ≤ tot s.heap + sg gf0 gn0 ∧ cg gf gn ≤ cg gf0 gn0 ∧ sg gf gn ≤ sg gf0 gn0 := by
  obtain ⟨a, b⟩ := h
  exact ⟨by omega, by omega, by omega, by omega⟩
def gPre (dC : Nat → ClassId) (dI : Nat → Nat → Nat) (cB cC cI cJ cZ : ClassId) (a : Nat → Nat) (F : Nat → Int32) (X : Nat → Nat → Int32) (J : Nat → Nat → Int64) (R : Nat → Nat) (gf gn : Nat) (sz n0 : Nat) : State → Prop := fun U => cPre dC dI cB cC cI cJ cZ a F X J R gf gn sz U ∧ tot U.heap = n0
def gPost (dC : Nat → ClassId) (dI : Nat → Nat → Nat) (cB cC cI cJ cZ : ClassId) (a : Nat → Nat) (F : Nat → Int32) (X : Nat → Nat → Int32) (J : Nat → Nat → Int64) (R : Nat → Nat) (gf gn : Nat) (S N C0 S0 : Nat) (A : Nat → Prop) (t : State) : Prop := cPost dC dI cB cC cI cJ cZ a F X J R gf gn A t ∧ t.heap.size + cg gf gn ≤ S ∧ tot t.heap + sg gf gn ≤ N ∧ cg gf gn ≤ C0 ∧ sg gf gn ≤ S0
theorem gPre_blind {av : List Value} {dC : Nat → ClassId} {dI : Nat → Nat → Nat} {cB cC cI cJ cZ : ClassId} {a : Nat → Nat} {F : Nat → Int32} {X : Nat → Nat → Int32} {J : Nat → Nat → Int64} {R : Nat → Nat} {gf gn : Nat} {sz n0 : Nat} : FrameBlind (va_Pc av (gPre dC dI cB cC cI cJ cZ a F X J R gf gn sz n0)) := fun v U g mk q => ⟨(cPre_blind v U g mk ⟨q.1, q.2.1⟩).1, (cPre_blind v U g mk ⟨q.1, q.2.1⟩).2, q.2.2⟩
theorem ccj_iV {p : Program} {l : Launch} {e : Env} {RR : Room} {s : State} {m : MethodId} {args : Array Value} {below : List Frame} {meth : Method} {c : Code} {H : Heap} {locs : List Loc} {cells slots : Nat} {Q : State → Prop} {cc : ByteArray} {pc : Nat} {ls : Array Slot} {st0 rest : List Value} {A : Nat → Prop} {dC : Nat → ClassId} {dI : Nat → Nat → Nat} {cB cC cI cJ cZ : ClassId} {a : Nat → Nat} {F : Nat → Int32} {X : Nat → Nat → Int32} {J : Nat → Nat → Int64} {R : Nat → Nat} {gf gn : Nat} {yy : MethodName} {bytes : ByteArray} {maxL nL n index : Nat} {ret : Option FieldType} {ws Ts : List Cond} {rm : Room} {As : List Value} {own : String} {z : Nat} {C : String} {gF : (Nat → Int32) → (Nat → Int32)} {gX : (Nat → Nat → Int32) → (Nat → Nat → Int32)} {post : Int32 → ((Nat → Int32) × (Nat → Nat → Int32) × (Nat → Nat → Int64)) → Prop}
    (S : CallFix p m c cc nL s args Ts own) (hM : Met l yy ws rm (va_Pc (.ref z :: As) (cPre dC dI cB cC cI cJ cZ a F X J R gf gn H.size)) (va_Qi post (fun u => cPost dC dI cB cC cI cJ cZ a (gF u.1) (gX u.2.1) u.2.2 R gf gn (va_A (CW cB cC cI cJ cZ a F X J R gf gn) H.size)) (va_A (CW cB cC cI cJ cZ a F X J R gf gn) H.size)) 0 0 (va_A (CW cB cC cI cJ cZ a F X J R gf gn) H.size)) (cw : CallW RR s args own C index yy bytes maxL ret ws rm 0 0 n) (hrc : ∃ cell : Cell, H[z]? = some cell ∧ cell.vm.isStatics = false ∧ s.vm.findClass C = some cell.cls) 
    (hK : va_K (dC, dI) vwCl (TY cB cC cI cJ cZ) s) (hNW : NW s) (hP : va_P (dC, dI) vwCl (CW cB cC cI cJ cZ a F X J R gf gn) H) (hD : va_D A (CW cB cC cI cJ cZ a F X J R gf gn)) (hS : va_S A s.heap H locs) (hA : ∀ q : Nat, s.heap.size ≤ q → A q) (hn : As.length = n) (hg : st0 = As.reverse ++ .ref z :: rest) (hsize : ls.size = nL) (hW : 2 * (F0 m pc ls st0).monitorRoom + (rest.map fun v => v.category).sum ≤ 8) (hdg : decode cc pc = .ok (.invokevirtual index, 3)) (hf : cells + 0 ≤ RR.cells ∧ slots + 0 ≤ RR.slots)
    (kk : ∀ (r : Int32) (F1 : Nat → Int32) (X1 : Nat → Nat → Int32) (J1 : Nat → Nat → Int64) , post r (F1, X1, J1) → ∀ (H1 : Heap) (locs1 : List Loc), va_P (dC, dI) vwCl (CW cB cC cI cJ cZ a (gF F1) (gX X1) J1 R gf gn) H1 → va_D A (CW cB cC cI cJ cZ a (gF F1) (gX X1) J1 R gf gn) → va_S A s.heap H1 locs1 → W p l e RR s m args below meth c H1 locs1 cells slots Q (F0 m (pc + 3) ls (.int (oI r.toInt) :: rest))) :
    W p l e RR s m args below meth c H locs cells slots Q (F0 m pc ls st0) := by
  have hFc : ∀ q, va_A (CW cB cC cI cJ cZ a F X J R gf gn) H.size q → A q := by
    intro q h
    rcases h with ⟨k, e, hk⟩ | h
    · exact hD.2 k _ hk
    · exact hA q (Nat.le_trans hS.1 h)
  have hcf : cells + 0 ≤ RR.cells ∧ slots + 0 ≤ RR.slots := hf
  refine va_calli (va_runV (As := As) (rest := rest) S hM cw ⟨cPre_blind, hrc, fun U hU hW => ⟨rfl, by rw [hU], by rw [hU]; exact hP, va_K.moved hW.alike hK, hD.weaken (fun _ _ _ _ => trivial), hNW.warm hW⟩⟩ rfl hn hsize hg hW hdg hcf) hS (fun q _ h => hFc q h) hFc (fun r u t H1 locs1 ht hvm hw hB hz hk hS1 => ?_)
  obtain ⟨hP1, hK1, hD1⟩ := hB
  rw [ht] at hP1
  refine tp_i (oI_toInt r).symm ?_
  exact kk r u.1 u.2.1 u.2.2 hw H1 locs1 hP1 (hD1.weaken (fun k q h ha => hFc _ ha)) hS1
theorem ccj_vV {p : Program} {l : Launch} {e : Env} {RR : Room} {s : State} {m : MethodId} {args : Array Value} {below : List Frame} {meth : Method} {c : Code} {H : Heap} {locs : List Loc} {cells slots : Nat} {Q : State → Prop} {cc : ByteArray} {pc : Nat} {ls : Array Slot} {st0 rest : List Value} {A : Nat → Prop} {dC : Nat → ClassId} {dI : Nat → Nat → Nat} {cB cC cI cJ cZ : ClassId} {a : Nat → Nat} {F : Nat → Int32} {X : Nat → Nat → Int32} {J : Nat → Nat → Int64} {R : Nat → Nat} {gf gn : Nat} {yy : MethodName} {bytes : ByteArray} {maxL nL n index : Nat} {ret : Option FieldType} {ws Ts : List Cond} {rm : Room} {As : List Value} {own : String} {z : Nat} {C : String} {gF : (Nat → Int32) → (Nat → Int32)} {gX : (Nat → Nat → Int32) → (Nat → Nat → Int32)} {post : ((Nat → Int32) × (Nat → Nat → Int32) × (Nat → Nat → Int64)) → Prop}
    (S : CallFix p m c cc nL s args Ts own) (hM : Met l yy ws rm (va_Pc (.ref z :: As) (cPre dC dI cB cC cI cJ cZ a F X J R gf gn H.size)) (va_Qv post (fun u => cPost dC dI cB cC cI cJ cZ a (gF u.1) (gX u.2.1) u.2.2 R gf gn (va_A (CW cB cC cI cJ cZ a F X J R gf gn) H.size)) (va_A (CW cB cC cI cJ cZ a F X J R gf gn) H.size)) 0 0 (va_A (CW cB cC cI cJ cZ a F X J R gf gn) H.size)) (cw : CallW RR s args own C index yy bytes maxL ret ws rm 0 0 n) (hrc : ∃ cell : Cell, H[z]? = some cell ∧ cell.vm.isStatics = false ∧ s.vm.findClass C = some cell.cls) 
    (hK : va_K (dC, dI) vwCl (TY cB cC cI cJ cZ) s) (hNW : NW s) (hP : va_P (dC, dI) vwCl (CW cB cC cI cJ cZ a F X J R gf gn) H) (hD : va_D A (CW cB cC cI cJ cZ a F X J R gf gn)) (hS : va_S A s.heap H locs) (hA : ∀ q : Nat, s.heap.size ≤ q → A q) (hn : As.length = n) (hg : st0 = As.reverse ++ .ref z :: rest) (hsize : ls.size = nL) (hW : 2 * (F0 m pc ls st0).monitorRoom + (rest.map fun v => v.category).sum ≤ 8) (hdg : decode cc pc = .ok (.invokevirtual index, 3)) (hf : cells + 0 ≤ RR.cells ∧ slots + 0 ≤ RR.slots)
    (kk : ∀ (F1 : Nat → Int32) (X1 : Nat → Nat → Int32) (J1 : Nat → Nat → Int64) , post (F1, X1, J1) → ∀ (H1 : Heap) (locs1 : List Loc), va_P (dC, dI) vwCl (CW cB cC cI cJ cZ a (gF F1) (gX X1) J1 R gf gn) H1 → va_D A (CW cB cC cI cJ cZ a (gF F1) (gX X1) J1 R gf gn) → va_S A s.heap H1 locs1 → W p l e RR s m args below meth c H1 locs1 cells slots Q (F0 m (pc + 3) ls (rest))) :
    W p l e RR s m args below meth c H locs cells slots Q (F0 m pc ls st0) := by
  have hFc : ∀ q, va_A (CW cB cC cI cJ cZ a F X J R gf gn) H.size q → A q := by
    intro q h
    rcases h with ⟨k, e, hk⟩ | h
    · exact hD.2 k _ hk
    · exact hA q (Nat.le_trans hS.1 h)
  have hcf : cells + 0 ≤ RR.cells ∧ slots + 0 ≤ RR.slots := hf
  refine va_callv (va_runV (As := As) (rest := rest) S hM cw ⟨cPre_blind, hrc, fun U hU hW => ⟨rfl, by rw [hU], by rw [hU]; exact hP, va_K.moved hW.alike hK, hD.weaken (fun _ _ _ _ => trivial), hNW.warm hW⟩⟩ rfl hn hsize hg hW hdg hcf) hS (fun q _ h => hFc q h) hFc (fun u t H1 locs1 ht hvm hw hB hz hk hS1 => ?_)
  obtain ⟨hP1, hK1, hD1⟩ := hB
  rw [ht] at hP1
  exact kk u.1 u.2.1 u.2.2 hw H1 locs1 hP1 (hD1.weaken (fun k q h ha => hFc _ ha)) hS1
theorem ccg_iV {p : Program} {l : Launch} {e : Env} {RR : Room} {s : State} {m : MethodId} {args : Array Value} {below : List Frame} {meth : Method} {c : Code} {H : Heap} {locs : List Loc} {cells slots : Nat} {Q : State → Prop} {cc : ByteArray} {pc : Nat} {ls : Array Slot} {st0 rest : List Value} {A : Nat → Prop} {dC : Nat → ClassId} {dI : Nat → Nat → Nat} {cB cC cI cJ cZ : ClassId} {a : Nat → Nat} {F : Nat → Int32} {X : Nat → Nat → Int32} {J : Nat → Nat → Int64} {R : Nat → Nat} {gf gn : Nat} {yy : MethodName} {bytes : ByteArray} {maxL nL n index : Nat} {ret : Option FieldType} {ws Ts : List Cond} {rm : Room} {As : List Value} {own : String} {z : Nat} {C : String} {gf0 gn0 : Nat} {post : Int32 → ((Nat → Int32) × (Nat → Nat → Int32) × (Nat → Nat → Int64) × (Nat → Nat) × Nat × Nat) → Prop}
    (S : CallFix p m c cc nL s args Ts own) (hM : Met l yy ws rm (va_Pc (.ref z :: As) (gPre dC dI cB cC cI cJ cZ a F X J R gf gn H.size (tot H))) (va_Qi post (fun u => gPost dC dI cB cC cI cJ cZ a u.1 u.2.1 u.2.2.1 u.2.2.2.1 u.2.2.2.2.1 u.2.2.2.2.2 (H.size + cg gf gn) (tot H + sg gf gn) (cg gf gn) (sg gf gn) (va_A (CW cB cC cI cJ cZ a F X J R gf gn) H.size)) (va_A (CW cB cC cI cJ cZ a F X J R gf gn) H.size)) (cg gf gn) (sg gf gn) (va_A (CW cB cC cI cJ cZ a F X J R gf gn) H.size)) (cw : CallW RR s args own C index yy bytes maxL ret ws rm (cg gf gn) (sg gf gn) n) (hrc : ∃ cell : Cell, H[z]? = some cell ∧ cell.vm.isStatics = false ∧ s.vm.findClass C = some cell.cls) 
    (hK : va_K (dC, dI) vwCl (TY cB cC cI cJ cZ) s) (hNW : NW s) (hP : va_P (dC, dI) vwCl (CW cB cC cI cJ cZ a F X J R gf gn) H) (hD : va_D A (CW cB cC cI cJ cZ a F X J R gf gn)) (hS : va_S A s.heap H locs) (hA : ∀ q : Nat, s.heap.size ≤ q → A q) (hn : As.length = n) (hg : st0 = As.reverse ++ .ref z :: rest) (hsize : ls.size = nL) (hW : 2 * (F0 m pc ls st0).monitorRoom + (rest.map fun v => v.category).sum ≤ 8) (hdg : decode cc pc = .ok (.invokevirtual index, 3)) (hRc : RR.cells = cg gf0 gn0) (hRs : RR.slots = sg gf0 gn0) (hsz : H.size ≤ s.heap.size + cells) (htot : tot H ≤ tot s.heap + slots) (hgc : gC gf gn gf0 gn0 cells slots)
    (kk : ∀ (r : Int32) (F1 : Nat → Int32) (X1 : Nat → Nat → Int32) (J1 : Nat → Nat → Int64) (R1 : Nat → Nat) (gf1 gn1 : Nat) , post r (F1, X1, J1, R1, gf1, gn1) → ∀ (H1 : Heap) (locs1 : List Loc) (cells1 slots1 : Nat), gC gf1 gn1 gf0 gn0 cells1 slots1 → (cells1 + 0 ≤ RR.cells ∧ slots1 + 0 ≤ RR.slots) → va_P (dC, dI) vwCl (CW cB cC cI cJ cZ a F1 X1 J1 R1 gf1 gn1) H1 → va_D A (CW cB cC cI cJ cZ a F1 X1 J1 R1 gf1 gn1) → va_S A s.heap H1 locs1 → W p l e RR s m args below meth c H1 locs1 cells1 slots1 Q (F0 m (pc + 3) ls (.int (oI r.toInt) :: rest))) :
    W p l e RR s m args below meth c H locs cells slots Q (F0 m pc ls st0) := by
  have hFc : ∀ q, va_A (CW cB cC cI cJ cZ a F X J R gf gn) H.size q → A q := by
    intro q h
    rcases h with ⟨k, e, hk⟩ | h
    · exact hD.2 k _ hk
    · exact hA q (Nat.le_trans hS.1 h)
  have hcf : cells + (cg gf gn) ≤ RR.cells ∧ slots + (sg gf gn) ≤ RR.slots := (by rw [hRc, hRs]; exact ⟨hgc.1, hgc.2⟩)
  refine va_calli (va_runV (As := As) (rest := rest) S hM cw ⟨gPre_blind, hrc, fun U hU hW => ⟨rfl, ⟨by rw [hU], by rw [hU]; exact hP, va_K.moved hW.alike hK, hD.weaken (fun _ _ _ _ => trivial), hNW.warm hW⟩, by rw [hU]⟩⟩ rfl hn hsize hg hW hdg hcf) hS (fun q _ h => hFc q h) hFc (fun r u t H1 locs1 ht hvm hw hB hz hk hS1 => ?_)
  obtain ⟨⟨hP1, hK1, hD1⟩, hz1, hz2, hz3, hz4⟩ := hB
  rw [ht] at hP1 hz1 hz2
  have hgc1 : gC u.2.2.2.2.1 u.2.2.2.2.2 gf0 gn0 (cells + (cg gf gn - cg u.2.2.2.2.1 u.2.2.2.2.2)) (slots + (sg gf gn - sg u.2.2.2.2.1 u.2.2.2.2.2)) := by
    obtain ⟨g1, g2⟩ := hgc
    exact ⟨by omega, by omega⟩
  refine W.tight (k := cells + (cg gf gn - cg u.2.2.2.2.1 u.2.2.2.2.2)) (n := slots + (sg gf gn - sg u.2.2.2.2.1 u.2.2.2.2.2)) (by omega) (by omega) ?_
  refine tp_i (oI_toInt r).symm ?_
  exact kk r u.1 u.2.1 u.2.2.1 u.2.2.2.1 u.2.2.2.2.1 u.2.2.2.2.2 hw H1 locs1 (cells + (cg gf gn - cg u.2.2.2.2.1 u.2.2.2.2.2)) (slots + (sg gf gn - sg u.2.2.2.2.1 u.2.2.2.2.2)) hgc1 (by rw [hRc, hRs]; exact hgc1.cs) hP1 (hD1.weaken (fun k q h ha => hFc _ ha)) hS1
theorem ccg_vV {p : Program} {l : Launch} {e : Env} {RR : Room} {s : State} {m : MethodId} {args : Array Value} {below : List Frame} {meth : Method} {c : Code} {H : Heap} {locs : List Loc} {cells slots : Nat} {Q : State → Prop} {cc : ByteArray} {pc : Nat} {ls : Array Slot} {st0 rest : List Value} {A : Nat → Prop} {dC : Nat → ClassId} {dI : Nat → Nat → Nat} {cB cC cI cJ cZ : ClassId} {a : Nat → Nat} {F : Nat → Int32} {X : Nat → Nat → Int32} {J : Nat → Nat → Int64} {R : Nat → Nat} {gf gn : Nat} {yy : MethodName} {bytes : ByteArray} {maxL nL n index : Nat} {ret : Option FieldType} {ws Ts : List Cond} {rm : Room} {As : List Value} {own : String} {z : Nat} {C : String} {gf0 gn0 : Nat} {post : ((Nat → Int32) × (Nat → Nat → Int32) × (Nat → Nat → Int64) × (Nat → Nat) × Nat × Nat) → Prop}
    (S : CallFix p m c cc nL s args Ts own) (hM : Met l yy ws rm (va_Pc (.ref z :: As) (gPre dC dI cB cC cI cJ cZ a F X J R gf gn H.size (tot H))) (va_Qv post (fun u => gPost dC dI cB cC cI cJ cZ a u.1 u.2.1 u.2.2.1 u.2.2.2.1 u.2.2.2.2.1 u.2.2.2.2.2 (H.size + cg gf gn) (tot H + sg gf gn) (cg gf gn) (sg gf gn) (va_A (CW cB cC cI cJ cZ a F X J R gf gn) H.size)) (va_A (CW cB cC cI cJ cZ a F X J R gf gn) H.size)) (cg gf gn) (sg gf gn) (va_A (CW cB cC cI cJ cZ a F X J R gf gn) H.size)) (cw : CallW RR s args own C index yy bytes maxL ret ws rm (cg gf gn) (sg gf gn) n) (hrc : ∃ cell : Cell, H[z]? = some cell ∧ cell.vm.isStatics = false ∧ s.vm.findClass C = some cell.cls) 
    (hK : va_K (dC, dI) vwCl (TY cB cC cI cJ cZ) s) (hNW : NW s) (hP : va_P (dC, dI) vwCl (CW cB cC cI cJ cZ a F X J R gf gn) H) (hD : va_D A (CW cB cC cI cJ cZ a F X J R gf gn)) (hS : va_S A s.heap H locs) (hA : ∀ q : Nat, s.heap.size ≤ q → A q) (hn : As.length = n) (hg : st0 = As.reverse ++ .ref z :: rest) (hsize : ls.size = nL) (hW : 2 * (F0 m pc ls st0).monitorRoom + (rest.map fun v => v.category).sum ≤ 8) (hdg : decode cc pc = .ok (.invokevirtual index, 3)) (hRc : RR.cells = cg gf0 gn0) (hRs : RR.slots = sg gf0 gn0) (hsz : H.size ≤ s.heap.size + cells) (htot : tot H ≤ tot s.heap + slots) (hgc : gC gf gn gf0 gn0 cells slots)
    (kk : ∀ (F1 : Nat → Int32) (X1 : Nat → Nat → Int32) (J1 : Nat → Nat → Int64) (R1 : Nat → Nat) (gf1 gn1 : Nat) , post (F1, X1, J1, R1, gf1, gn1) → ∀ (H1 : Heap) (locs1 : List Loc) (cells1 slots1 : Nat), gC gf1 gn1 gf0 gn0 cells1 slots1 → (cells1 + 0 ≤ RR.cells ∧ slots1 + 0 ≤ RR.slots) → va_P (dC, dI) vwCl (CW cB cC cI cJ cZ a F1 X1 J1 R1 gf1 gn1) H1 → va_D A (CW cB cC cI cJ cZ a F1 X1 J1 R1 gf1 gn1) → va_S A s.heap H1 locs1 → W p l e RR s m args below meth c H1 locs1 cells1 slots1 Q (F0 m (pc + 3) ls (rest))) :
    W p l e RR s m args below meth c H locs cells slots Q (F0 m pc ls st0) := by
  have hFc : ∀ q, va_A (CW cB cC cI cJ cZ a F X J R gf gn) H.size q → A q := by
    intro q h
    rcases h with ⟨k, e, hk⟩ | h
    · exact hD.2 k _ hk
    · exact hA q (Nat.le_trans hS.1 h)
  have hcf : cells + (cg gf gn) ≤ RR.cells ∧ slots + (sg gf gn) ≤ RR.slots := (by rw [hRc, hRs]; exact ⟨hgc.1, hgc.2⟩)
  refine va_callv (va_runV (As := As) (rest := rest) S hM cw ⟨gPre_blind, hrc, fun U hU hW => ⟨rfl, ⟨by rw [hU], by rw [hU]; exact hP, va_K.moved hW.alike hK, hD.weaken (fun _ _ _ _ => trivial), hNW.warm hW⟩, by rw [hU]⟩⟩ rfl hn hsize hg hW hdg hcf) hS (fun q _ h => hFc q h) hFc (fun u t H1 locs1 ht hvm hw hB hz hk hS1 => ?_)
  obtain ⟨⟨hP1, hK1, hD1⟩, hz1, hz2, hz3, hz4⟩ := hB
  rw [ht] at hP1 hz1 hz2
  have hgc1 : gC u.2.2.2.2.1 u.2.2.2.2.2 gf0 gn0 (cells + (cg gf gn - cg u.2.2.2.2.1 u.2.2.2.2.2)) (slots + (sg gf gn - sg u.2.2.2.2.1 u.2.2.2.2.2)) := by
    obtain ⟨g1, g2⟩ := hgc
    exact ⟨by omega, by omega⟩
  refine W.tight (k := cells + (cg gf gn - cg u.2.2.2.2.1 u.2.2.2.2.2)) (n := slots + (sg gf gn - sg u.2.2.2.2.1 u.2.2.2.2.2)) (by omega) (by omega) ?_
  exact kk u.1 u.2.1 u.2.2.1 u.2.2.2.1 u.2.2.2.2.1 u.2.2.2.2.2 hw H1 locs1 (cells + (cg gf gn - cg u.2.2.2.2.1 u.2.2.2.2.2)) (slots + (sg gf gn - sg u.2.2.2.2.1 u.2.2.2.2.2)) hgc1 (by rw [hRc, hRs]; exact hgc1.cs) hP1 (hD1.weaken (fun k q h ha => hFc _ ha)) hS1
