def cPre (dC : Nat → ClassId) (dI : Nat → Nat → Nat) (cB cC cI cJ cZ : ClassId) (a : Nat → Nat) (F : Nat → Int32) (X : Nat → Nat → Int32) (J : Nat → Nat → Int64) (R : Nat → Nat) (gf gn : Nat) (sz : Nat) : State → Prop := fun U => U.heap.size = sz ∧ va_P (dC, dI) vwCl (CW cB cC cI cJ cZ a F X J R gf gn) U.heap ∧ va_K (dC, dI) vwCl (TY cB cC cI cJ cZ) U ∧ va_D (fun _ => True) (CW cB cC cI cJ cZ a F X J R gf gn) ∧ NW U
def cPost (dC : Nat → ClassId) (dI : Nat → Nat → Nat) (cB cC cI cJ cZ : ClassId) (a : Nat → Nat) (F : Nat → Int32) (X : Nat → Nat → Int32) (J : Nat → Nat → Int64) (R : Nat → Nat) (gf gn : Nat) (A : Nat → Prop) (t : State) : Prop := va_P (dC, dI) vwCl (CW cB cC cI cJ cZ a F X J R gf gn) t.heap ∧ va_K (dC, dI) vwCl (TY cB cC cI cJ cZ) t ∧ va_D A (CW cB cC cI cJ cZ a F X J R gf gn)
theorem cPre_blind {av : List Value} {dC : Nat → ClassId} {dI : Nat → Nat → Nat} {cB cC cI cJ cZ : ClassId} {a : Nat → Nat} {F : Nat → Int32} {X : Nat → Nat → Int32} {J : Nat → Nat → Int64} {R : Nat → Nat} {gf gn : Nat} {sz : Nat} : FrameBlind (va_Pc av (cPre dC dI cB cC cI cJ cZ a F X J R gf gn sz)) := fun v U g mk q => by
  obtain ⟨q0, q1, qP, qK, qD, qN⟩ := q
  exact ⟨q0, q1, qP, va_K.moved (u := U) (U := U.calling g mk v) (Vm.Alike.refl U.vm) qK, qD, qN.same rfl⟩
theorem ccs_iV {p : Program} {l : Launch} {e : Env} {RR : Room} {s : State} {m : MethodId} {args : Array Value} {below : List Frame} {meth : Method} {c : Code} {H : Heap} {locs : List Loc} {cells slots : Nat} {Q : State → Prop} {cc : ByteArray} {pc : Nat} {ls : Array Slot} {st0 rest : List Value} {A : Nat → Prop} {dC : Nat → ClassId} {dI : Nat → Nat → Nat} {cB cC cI cJ cZ : ClassId} {a : Nat → Nat} {F : Nat → Int32} {X : Nat → Nat → Int32} {J : Nat → Nat → Int64} {R : Nat → Nat} {gf gn : Nat} {yy : MethodName} {bytes : ByteArray} {maxL nL n index : Nat} {ret : Option FieldType} {ws Ts : List Cond} {rm : Room} {As : List Value} {own : String} {z : Nat} {C : String} {post : Int32 → Unit → Prop}
    (S : CallFix p m c cc nL s args Ts own) (hM : Met l yy ws rm (va_Pc (.ref z :: As) (cPre dC dI cB cC cI cJ cZ a F X J R gf gn H.size)) (va_Qi post (fun _ => cPost dC dI cB cC cI cJ cZ a F X J R gf gn (va_A (CW cB cC cI cJ cZ a F X J R gf gn) H.size)) (va_A (CW cB cC cI cJ cZ a F X J R gf gn) H.size)) 0 0 (va_A (CW cB cC cI cJ cZ a F X J R gf gn) H.size)) (cw : CallW RR s args own C index yy bytes maxL ret ws rm 0 0 n) (hrc : ∃ cell : Cell, H[z]? = some cell ∧ cell.vm.isStatics = false ∧ s.vm.findClass C = some cell.cls) 
    (hK : va_K (dC, dI) vwCl (TY cB cC cI cJ cZ) s) (hNW : NW s) (hP : va_P (dC, dI) vwCl (CW cB cC cI cJ cZ a F X J R gf gn) H) (hD : va_D A (CW cB cC cI cJ cZ a F X J R gf gn)) (hS : va_S A s.heap H locs) (hA : ∀ q : Nat, s.heap.size ≤ q → A q) (hn : As.length = n) (hg : st0 = As.reverse ++ .ref z :: rest) (hsize : ls.size = nL) (hW : 2 * (F0 m pc ls st0).monitorRoom + (rest.map fun v => v.category).sum ≤ 8) (hdg : decode cc pc = .ok (.invokevirtual index, 3)) (hf : cells + 0 ≤ RR.cells ∧ slots + 0 ≤ RR.slots)
    (kk : ∀ (r : Int32), post r () → ∀ (H1 : Heap) (locs1 : List Loc), va_P (dC, dI) vwCl (CW cB cC cI cJ cZ a F X J R gf gn) H1 → va_D A (CW cB cC cI cJ cZ a F X J R gf gn) → va_S A s.heap H1 locs1 → W p l e RR s m args below meth c H1 locs1 cells slots Q (F0 m (pc + 3) ls (.int (oI r.toInt) :: rest))) :
    W p l e RR s m args below meth c H locs cells slots Q (F0 m pc ls st0) := by
  have hFc : ∀ q, va_A (CW cB cC cI cJ cZ a F X J R gf gn) H.size q → A q := by
    intro q h
    rcases h with ⟨k, e, hk⟩ | h
    · exact hD.2 k _ hk
    · exact hA q (Nat.le_trans hS.1 h)
  refine va_calli (va_runV (As := As) (rest := rest) S hM cw ⟨cPre_blind, hrc, fun U hU hW => ⟨rfl, by rw [hU], by rw [hU]; exact hP, va_K.moved hW.alike hK, hD.weaken (fun _ _ _ _ => trivial), hNW.warm hW⟩⟩ rfl hn hsize hg hW hdg hf) hS (fun q _ h => hFc q h) hFc (fun r u t H1 locs1 ht hvm hw hB hz hk hS1 => ?_)
  obtain ⟨hP1, hK1, hD1⟩ := hB
  rw [ht] at hP1
  refine tp_i (oI_toInt r).symm ?_
  exact kk r hw H1 locs1 hP1 (hD1.weaken (fun k q h ha => hFc _ ha)) hS1
theorem ccs_iS {p : Program} {l : Launch} {e : Env} {RR : Room} {s : State} {m : MethodId} {args : Array Value} {below : List Frame} {meth : Method} {c : Code} {H : Heap} {locs : List Loc} {cells slots : Nat} {Q : State → Prop} {cc : ByteArray} {pc : Nat} {ls : Array Slot} {st0 rest : List Value} {A : Nat → Prop} {dC : Nat → ClassId} {dI : Nat → Nat → Nat} {cB cC cI cJ cZ : ClassId} {a : Nat → Nat} {F : Nat → Int32} {X : Nat → Nat → Int32} {J : Nat → Nat → Int64} {R : Nat → Nat} {gf gn : Nat} {yy : MethodName} {bytes : ByteArray} {maxL nL n index : Nat} {ret : Option FieldType} {ws Ts : List Cond} {rm : Room} {As : List Value} {own : String} {post : Int32 → Unit → Prop}
    (S : CallFix p m c cc nL s args Ts own) (hM : Met l yy ws rm (va_Pc As (cPre dC dI cB cC cI cJ cZ a F X J R gf gn H.size)) (va_Qi post (fun _ => cPost dC dI cB cC cI cJ cZ a F X J R gf gn (va_A (CW cB cC cI cJ cZ a F X J R gf gn) H.size)) (va_A (CW cB cC cI cJ cZ a F X J R gf gn) H.size)) 0 0 (va_A (CW cB cC cI cJ cZ a F X J R gf gn) H.size)) (cw : CallB RR s args own index yy bytes maxL ret ws rm 0 0 n ∧ (Cond.static yy).before args s = true) 
    (hK : va_K (dC, dI) vwCl (TY cB cC cI cJ cZ) s) (hNW : NW s) (hP : va_P (dC, dI) vwCl (CW cB cC cI cJ cZ a F X J R gf gn) H) (hD : va_D A (CW cB cC cI cJ cZ a F X J R gf gn)) (hS : va_S A s.heap H locs) (hA : ∀ q : Nat, s.heap.size ≤ q → A q) (hn : As.length = n) (hg : st0 = As.reverse ++ rest) (hsize : ls.size = nL) (hW : 2 * (F0 m pc ls st0).monitorRoom + (rest.map fun v => v.category).sum ≤ 8) (hdg : decode cc pc = .ok (.invokestatic index, 3)) (hf : cells + 0 ≤ RR.cells ∧ slots + 0 ≤ RR.slots)
    (kk : ∀ (r : Int32), post r () → ∀ (H1 : Heap) (locs1 : List Loc), va_P (dC, dI) vwCl (CW cB cC cI cJ cZ a F X J R gf gn) H1 → va_D A (CW cB cC cI cJ cZ a F X J R gf gn) → va_S A s.heap H1 locs1 → W p l e RR s m args below meth c H1 locs1 cells slots Q (F0 m (pc + 3) ls (.int (oI r.toInt) :: rest))) :
    W p l e RR s m args below meth c H locs cells slots Q (F0 m pc ls st0) := by
  have hFc : ∀ q, va_A (CW cB cC cI cJ cZ a F X J R gf gn) H.size q → A q := by
    intro q h
    rcases h with ⟨k, e, hk⟩ | h
    · exact hD.2 k _ hk
    · exact hA q (Nat.le_trans hS.1 h)
  refine va_calli (va_runS (As := As) (rest := rest) S hM cw ⟨cPre_blind, fun U hU hW => ⟨rfl, by rw [hU], by rw [hU]; exact hP, va_K.moved hW.alike hK, hD.weaken (fun _ _ _ _ => trivial), hNW.warm hW⟩⟩ rfl hn hsize hg hW hdg hf) hS (fun q _ h => hFc q h) hFc (fun r u t H1 locs1 ht hvm hw hB hz hk hS1 => ?_)
  obtain ⟨hP1, hK1, hD1⟩ := hB
  rw [ht] at hP1
  refine tp_i (oI_toInt r).symm ?_
  exact kk r hw H1 locs1 hP1 (hD1.weaken (fun k q h ha => hFc _ ha)) hS1
theorem ccs_vV {p : Program} {l : Launch} {e : Env} {RR : Room} {s : State} {m : MethodId} {args : Array Value} {below : List Frame} {meth : Method} {c : Code} {H : Heap} {locs : List Loc} {cells slots : Nat} {Q : State → Prop} {cc : ByteArray} {pc : Nat} {ls : Array Slot} {st0 rest : List Value} {A : Nat → Prop} {dC : Nat → ClassId} {dI : Nat → Nat → Nat} {cB cC cI cJ cZ : ClassId} {a : Nat → Nat} {F : Nat → Int32} {X : Nat → Nat → Int32} {J : Nat → Nat → Int64} {R : Nat → Nat} {gf gn : Nat} {yy : MethodName} {bytes : ByteArray} {maxL nL n index : Nat} {ret : Option FieldType} {ws Ts : List Cond} {rm : Room} {As : List Value} {own : String} {z : Nat} {C : String} {post : Unit → Prop}
    (S : CallFix p m c cc nL s args Ts own) (hM : Met l yy ws rm (va_Pc (.ref z :: As) (cPre dC dI cB cC cI cJ cZ a F X J R gf gn H.size)) (va_Qv post (fun _ => cPost dC dI cB cC cI cJ cZ a F X J R gf gn (va_A (CW cB cC cI cJ cZ a F X J R gf gn) H.size)) (va_A (CW cB cC cI cJ cZ a F X J R gf gn) H.size)) 0 0 (va_A (CW cB cC cI cJ cZ a F X J R gf gn) H.size)) (cw : CallW RR s args own C index yy bytes maxL ret ws rm 0 0 n) (hrc : ∃ cell : Cell, H[z]? = some cell ∧ cell.vm.isStatics = false ∧ s.vm.findClass C = some cell.cls) 
    (hK : va_K (dC, dI) vwCl (TY cB cC cI cJ cZ) s) (hNW : NW s) (hP : va_P (dC, dI) vwCl (CW cB cC cI cJ cZ a F X J R gf gn) H) (hD : va_D A (CW cB cC cI cJ cZ a F X J R gf gn)) (hS : va_S A s.heap H locs) (hA : ∀ q : Nat, s.heap.size ≤ q → A q) (hn : As.length = n) (hg : st0 = As.reverse ++ .ref z :: rest) (hsize : ls.size = nL) (hW : 2 * (F0 m pc ls st0).monitorRoom + (rest.map fun v => v.category).sum ≤ 8) (hdg : decode cc pc = .ok (.invokevirtual index, 3)) (hf : cells + 0 ≤ RR.cells ∧ slots + 0 ≤ RR.slots)
    (kk : post () → ∀ (H1 : Heap) (locs1 : List Loc), va_P (dC, dI) vwCl (CW cB cC cI cJ cZ a F X J R gf gn) H1 → va_D A (CW cB cC cI cJ cZ a F X J R gf gn) → va_S A s.heap H1 locs1 → W p l e RR s m args below meth c H1 locs1 cells slots Q (F0 m (pc + 3) ls (rest))) :
    W p l e RR s m args below meth c H locs cells slots Q (F0 m pc ls st0) := by
  have hFc : ∀ q, va_A (CW cB cC cI cJ cZ a F X J R gf gn) H.size q → A q := by
    intro q h
    rcases h with ⟨k, e, hk⟩ | h
    · exact hD.2 k _ hk
    · exact hA q (Nat.le_trans hS.1 h)
  refine va_callv (va_runV (As := As) (rest := rest) S hM cw ⟨cPre_blind, hrc, fun U hU hW => ⟨rfl, by rw [hU], by rw [hU]; exact hP, va_K.moved hW.alike hK, hD.weaken (fun _ _ _ _ => trivial), hNW.warm hW⟩⟩ rfl hn hsize hg hW hdg hf) hS (fun q _ h => hFc q h) hFc (fun u t H1 locs1 ht hvm hw hB hz hk hS1 => ?_)
  obtain ⟨hP1, hK1, hD1⟩ := hB
  rw [ht] at hP1
  exact kk hw H1 locs1 hP1 (hD1.weaken (fun k q h ha => hFc _ ha)) hS1
theorem ccs_vS {p : Program} {l : Launch} {e : Env} {RR : Room} {s : State} {m : MethodId} {args : Array Value} {below : List Frame} {meth : Method} {c : Code} {H : Heap} {locs : List Loc} {cells slots : Nat} {Q : State → Prop} {cc : ByteArray} {pc : Nat} {ls : Array Slot} {st0 rest : List Value} {A : Nat → Prop} {dC : Nat → ClassId} {dI : Nat → Nat → Nat} {cB cC cI cJ cZ : ClassId} {a : Nat → Nat} {F : Nat → Int32} {X : Nat → Nat → Int32} {J : Nat → Nat → Int64} {R : Nat → Nat} {gf gn : Nat} {yy : MethodName} {bytes : ByteArray} {maxL nL n index : Nat} {ret : Option FieldType} {ws Ts : List Cond} {rm : Room} {As : List Value} {own : String} {post : Unit → Prop}
    (S : CallFix p m c cc nL s args Ts own) (hM : Met l yy ws rm (va_Pc As (cPre dC dI cB cC cI cJ cZ a F X J R gf gn H.size)) (va_Qv post (fun _ => cPost dC dI cB cC cI cJ cZ a F X J R gf gn (va_A (CW cB cC cI cJ cZ a F X J R gf gn) H.size)) (va_A (CW cB cC cI cJ cZ a F X J R gf gn) H.size)) 0 0 (va_A (CW cB cC cI cJ cZ a F X J R gf gn) H.size)) (cw : CallB RR s args own index yy bytes maxL ret ws rm 0 0 n ∧ (Cond.static yy).before args s = true) 
    (hK : va_K (dC, dI) vwCl (TY cB cC cI cJ cZ) s) (hNW : NW s) (hP : va_P (dC, dI) vwCl (CW cB cC cI cJ cZ a F X J R gf gn) H) (hD : va_D A (CW cB cC cI cJ cZ a F X J R gf gn)) (hS : va_S A s.heap H locs) (hA : ∀ q : Nat, s.heap.size ≤ q → A q) (hn : As.length = n) (hg : st0 = As.reverse ++ rest) (hsize : ls.size = nL) (hW : 2 * (F0 m pc ls st0).monitorRoom + (rest.map fun v => v.category).sum ≤ 8) (hdg : decode cc pc = .ok (.invokestatic index, 3)) (hf : cells + 0 ≤ RR.cells ∧ slots + 0 ≤ RR.slots)
    (kk : post () → ∀ (H1 : Heap) (locs1 : List Loc), va_P (dC, dI) vwCl (CW cB cC cI cJ cZ a F X J R gf gn) H1 → va_D A (CW cB cC cI cJ cZ a F X J R gf gn) → va_S A s.heap H1 locs1 → W p l e RR s m args below meth c H1 locs1 cells slots Q (F0 m (pc + 3) ls (rest))) :
    W p l e RR s m args below meth c H locs cells slots Q (F0 m pc ls st0) := by
  have hFc : ∀ q, va_A (CW cB cC cI cJ cZ a F X J R gf gn) H.size q → A q := by
    intro q h
    rcases h with ⟨k, e, hk⟩ | h
    · exact hD.2 k _ hk
    · exact hA q (Nat.le_trans hS.1 h)
  refine va_callv (va_runS (As := As) (rest := rest) S hM cw ⟨cPre_blind, fun U hU hW => ⟨rfl, by rw [hU], by rw [hU]; exact hP, va_K.moved hW.alike hK, hD.weaken (fun _ _ _ _ => trivial), hNW.warm hW⟩⟩ rfl hn hsize hg hW hdg hf) hS (fun q _ h => hFc q h) hFc (fun u t H1 locs1 ht hvm hw hB hz hk hS1 => ?_)
  obtain ⟨hP1, hK1, hD1⟩ := hB
  rw [ht] at hP1
  exact kk hw H1 locs1 hP1 (hD1.weaken (fun k q h ha => hFc _ ha)) hS1
theorem ccs_lV {p : Program} {l : Launch} {e : Env} {RR : Room} {s : State} {m : MethodId} {args : Array Value} {below : List Frame} {meth : Method} {c : Code} {H : Heap} {locs : List Loc} {cells slots : Nat} {Q : State → Prop} {cc : ByteArray} {pc : Nat} {ls : Array Slot} {st0 rest : List Value} {A : Nat → Prop} {dC : Nat → ClassId} {dI : Nat → Nat → Nat} {cB cC cI cJ cZ : ClassId} {a : Nat → Nat} {F : Nat → Int32} {X : Nat → Nat → Int32} {J : Nat → Nat → Int64} {R : Nat → Nat} {gf gn : Nat} {yy : MethodName} {bytes : ByteArray} {maxL nL n index : Nat} {ret : Option FieldType} {ws Ts : List Cond} {rm : Room} {As : List Value} {own : String} {z : Nat} {C : String} {post : Int64 → Unit → Prop}
    (S : CallFix p m c cc nL s args Ts own) (hM : Met l yy ws rm (va_Pc (.ref z :: As) (cPre dC dI cB cC cI cJ cZ a F X J R gf gn H.size)) (va_Ql post (fun _ => cPost dC dI cB cC cI cJ cZ a F X J R gf gn (va_A (CW cB cC cI cJ cZ a F X J R gf gn) H.size)) (va_A (CW cB cC cI cJ cZ a F X J R gf gn) H.size)) 0 0 (va_A (CW cB cC cI cJ cZ a F X J R gf gn) H.size)) (cw : CallW RR s args own C index yy bytes maxL ret ws rm 0 0 n) (hrc : ∃ cell : Cell, H[z]? = some cell ∧ cell.vm.isStatics = false ∧ s.vm.findClass C = some cell.cls) 
    (hK : va_K (dC, dI) vwCl (TY cB cC cI cJ cZ) s) (hNW : NW s) (hP : va_P (dC, dI) vwCl (CW cB cC cI cJ cZ a F X J R gf gn) H) (hD : va_D A (CW cB cC cI cJ cZ a F X J R gf gn)) (hS : va_S A s.heap H locs) (hA : ∀ q : Nat, s.heap.size ≤ q → A q) (hn : As.length = n) (hg : st0 = As.reverse ++ .ref z :: rest) (hsize : ls.size = nL) (hW : 2 * (F0 m pc ls st0).monitorRoom + (rest.map fun v => v.category).sum ≤ 8) (hdg : decode cc pc = .ok (.invokevirtual index, 3)) (hf : cells + 0 ≤ RR.cells ∧ slots + 0 ≤ RR.slots)
    (kk : ∀ (r : Int64) , post r () → ∀ (H1 : Heap) (locs1 : List Loc), va_P (dC, dI) vwCl (CW cB cC cI cJ cZ a F X J R gf gn) H1 → va_D A (CW cB cC cI cJ cZ a F X J R gf gn) → va_S A s.heap H1 locs1 → W p l e RR s m args below meth c H1 locs1 cells slots Q (F0 m (pc + 3) ls (.long r :: rest))) :
    W p l e RR s m args below meth c H locs cells slots Q (F0 m pc ls st0) := by
  have hFc : ∀ q, va_A (CW cB cC cI cJ cZ a F X J R gf gn) H.size q → A q := by
    intro q h
    rcases h with ⟨k, e, hk⟩ | h
    · exact hD.2 k _ hk
    · exact hA q (Nat.le_trans hS.1 h)
  refine va_calll (va_runV (As := As) (rest := rest) S hM cw ⟨cPre_blind, hrc, fun U hU hW => ⟨rfl, by rw [hU], by rw [hU]; exact hP, va_K.moved hW.alike hK, hD.weaken (fun _ _ _ _ => trivial), hNW.warm hW⟩⟩ rfl hn hsize hg hW hdg hf) hS (fun q _ h => hFc q h) hFc (fun r u t H1 locs1 ht hvm hw hB hz hk hS1 => ?_)
  obtain ⟨hP1, hK1, hD1⟩ := hB
  rw [ht] at hP1
  exact kk r hw H1 locs1 hP1 (hD1.weaken (fun k q h ha => hFc _ ha)) hS1
theorem ccs_lS {p : Program} {l : Launch} {e : Env} {RR : Room} {s : State} {m : MethodId} {args : Array Value} {below : List Frame} {meth : Method} {c : Code} {H : Heap} {locs : List Loc} {cells slots : Nat} {Q : State → Prop} {cc : ByteArray} {pc : Nat} {ls : Array Slot} {st0 rest : List Value} {A : Nat → Prop} {dC : Nat → ClassId} {dI : Nat → Nat → Nat} {cB cC cI cJ cZ : ClassId} {a : Nat → Nat} {F : Nat → Int32} {X : Nat → Nat → Int32} {J : Nat → Nat → Int64} {R : Nat → Nat} {gf gn : Nat} {yy : MethodName} {bytes : ByteArray} {maxL nL n index : Nat} {ret : Option FieldType} {ws Ts : List Cond} {rm : Room} {As : List Value} {own : String} {post : Int64 → Unit → Prop}
    (S : CallFix p m c cc nL s args Ts own) (hM : Met l yy ws rm (va_Pc As (cPre dC dI cB cC cI cJ cZ a F X J R gf gn H.size)) (va_Ql post (fun _ => cPost dC dI cB cC cI cJ cZ a F X J R gf gn (va_A (CW cB cC cI cJ cZ a F X J R gf gn) H.size)) (va_A (CW cB cC cI cJ cZ a F X J R gf gn) H.size)) 0 0 (va_A (CW cB cC cI cJ cZ a F X J R gf gn) H.size)) (cw : CallB RR s args own index yy bytes maxL ret ws rm 0 0 n ∧ (Cond.static yy).before args s = true) 
    (hK : va_K (dC, dI) vwCl (TY cB cC cI cJ cZ) s) (hNW : NW s) (hP : va_P (dC, dI) vwCl (CW cB cC cI cJ cZ a F X J R gf gn) H) (hD : va_D A (CW cB cC cI cJ cZ a F X J R gf gn)) (hS : va_S A s.heap H locs) (hA : ∀ q : Nat, s.heap.size ≤ q → A q) (hn : As.length = n) (hg : st0 = As.reverse ++ rest) (hsize : ls.size = nL) (hW : 2 * (F0 m pc ls st0).monitorRoom + (rest.map fun v => v.category).sum ≤ 8) (hdg : decode cc pc = .ok (.invokestatic index, 3)) (hf : cells + 0 ≤ RR.cells ∧ slots + 0 ≤ RR.slots)
    (kk : ∀ (r : Int64) , post r () → ∀ (H1 : Heap) (locs1 : List Loc), va_P (dC, dI) vwCl (CW cB cC cI cJ cZ a F X J R gf gn) H1 → va_D A (CW cB cC cI cJ cZ a F X J R gf gn) → va_S A s.heap H1 locs1 → W p l e RR s m args below meth c H1 locs1 cells slots Q (F0 m (pc + 3) ls (.long r :: rest))) :
    W p l e RR s m args below meth c H locs cells slots Q (F0 m pc ls st0) := by
  have hFc : ∀ q, va_A (CW cB cC cI cJ cZ a F X J R gf gn) H.size q → A q := by
    intro q h
    rcases h with ⟨k, e, hk⟩ | h
    · exact hD.2 k _ hk
    · exact hA q (Nat.le_trans hS.1 h)
  refine va_calll (va_runS (As := As) (rest := rest) S hM cw ⟨cPre_blind, fun U hU hW => ⟨rfl, by rw [hU], by rw [hU]; exact hP, va_K.moved hW.alike hK, hD.weaken (fun _ _ _ _ => trivial), hNW.warm hW⟩⟩ rfl hn hsize hg hW hdg hf) hS (fun q _ h => hFc q h) hFc (fun r u t H1 locs1 ht hvm hw hB hz hk hS1 => ?_)
  obtain ⟨hP1, hK1, hD1⟩ := hB
  rw [ht] at hP1
  exact kk r hw H1 locs1 hP1 (hD1.weaken (fun k q h ha => hFc _ ha)) hS1
theorem ccp_iV {p : Program} {l : Launch} {e : Env} {RR : Room} {s : State} {m : MethodId} {args : Array Value} {below : List Frame} {meth : Method} {c : Code} {H : Heap} {locs : List Loc} {cells slots : Nat} {Q : State → Prop} {cc : ByteArray} {pc : Nat} {ls : Array Slot} {st0 rest : List Value} {A : Nat → Prop} {dC : Nat → ClassId} {dI : Nat → Nat → Nat} {cB cC cI cJ cZ : ClassId} {a : Nat → Nat} {F : Nat → Int32} {X : Nat → Nat → Int32} {J : Nat → Nat → Int64} {R : Nat → Nat} {gf gn : Nat} {yy : MethodName} {bytes : ByteArray} {maxL nL n index : Nat} {ret : Option FieldType} {ws Ts : List Cond} {rm : Room} {As : List Value} {own : String} {z : Nat} {C : String} {gF : (Nat → Int32) → (Nat → Int32)} {gX : (Nat → Nat → Int32) → (Nat → Nat → Int32)} {post : Int32 → ((Nat → Int32) × (Nat → Nat → Int32)) → Prop}
    (S : CallFix p m c cc nL s args Ts own) (hM : Met l yy ws rm (va_Pc (.ref z :: As) (cPre dC dI cB cC cI cJ cZ a F X J R gf gn H.size)) (va_Qi post (fun u => cPost dC dI cB cC cI cJ cZ a (gF u.1) (gX u.2) J R gf gn (va_A (CW cB cC cI cJ cZ a F X J R gf gn) H.size)) (va_A (CW cB cC cI cJ cZ a F X J R gf gn) H.size)) 0 0 (va_A (CW cB cC cI cJ cZ a F X J R gf gn) H.size)) (cw : CallW RR s args own C index yy bytes maxL ret ws rm 0 0 n) (hrc : ∃ cell : Cell, H[z]? = some cell ∧ cell.vm.isStatics = false ∧ s.vm.findClass C = some cell.cls) 
    (hK : va_K (dC, dI) vwCl (TY cB cC cI cJ cZ) s) (hNW : NW s) (hP : va_P (dC, dI) vwCl (CW cB cC cI cJ cZ a F X J R gf gn) H) (hD : va_D A (CW cB cC cI cJ cZ a F X J R gf gn)) (hS : va_S A s.heap H locs) (hA : ∀ q : Nat, s.heap.size ≤ q → A q) (hn : As.length = n) (hg : st0 = As.reverse ++ .ref z :: rest) (hsize : ls.size = nL) (hW : 2 * (F0 m pc ls st0).monitorRoom + (rest.map fun v => v.category).sum ≤ 8) (hdg : decode cc pc = .ok (.invokevirtual index, 3)) (hf : cells + 0 ≤ RR.cells ∧ slots + 0 ≤ RR.slots)
    (kk : ∀ (r : Int32) (F1 : Nat → Int32) (X1 : Nat → Nat → Int32) , post r (F1, X1) → ∀ (H1 : Heap) (locs1 : List Loc), va_P (dC, dI) vwCl (CW cB cC cI cJ cZ a (gF F1) (gX X1) J R gf gn) H1 → va_D A (CW cB cC cI cJ cZ a (gF F1) (gX X1) J R gf gn) → va_S A s.heap H1 locs1 → W p l e RR s m args below meth c H1 locs1 cells slots Q (F0 m (pc + 3) ls (.int (oI r.toInt) :: rest))) :
    W p l e RR s m args below meth c H locs cells slots Q (F0 m pc ls st0) := by
  have hFc : ∀ q, va_A (CW cB cC cI cJ cZ a F X J R gf gn) H.size q → A q := by
    intro q h
    rcases h with ⟨k, e, hk⟩ | h
    · exact hD.2 k _ hk
    · exact hA q (Nat.le_trans hS.1 h)
  refine va_calli (va_runV (As := As) (rest := rest) S hM cw ⟨cPre_blind, hrc, fun U hU hW => ⟨rfl, by rw [hU], by rw [hU]; exact hP, va_K.moved hW.alike hK, hD.weaken (fun _ _ _ _ => trivial), hNW.warm hW⟩⟩ rfl hn hsize hg hW hdg hf) hS (fun q _ h => hFc q h) hFc (fun r u t H1 locs1 ht hvm hw hB hz hk hS1 => ?_)
  obtain ⟨hP1, hK1, hD1⟩ := hB
  rw [ht] at hP1
  refine tp_i (oI_toInt r).symm ?_
  exact kk r u.1 u.2 hw H1 locs1 hP1 (hD1.weaken (fun k q h ha => hFc _ ha)) hS1
theorem ccp_iS {p : Program} {l : Launch} {e : Env} {RR : Room} {s : State} {m : MethodId} {args : Array Value} {below : List Frame} {meth : Method} {c : Code} {H : Heap} {locs : List Loc} {cells slots : Nat} {Q : State → Prop} {cc : ByteArray} {pc : Nat} {ls : Array Slot} {st0 rest : List Value} {A : Nat → Prop} {dC : Nat → ClassId} {dI : Nat → Nat → Nat} {cB cC cI cJ cZ : ClassId} {a : Nat → Nat} {F : Nat → Int32} {X : Nat → Nat → Int32} {J : Nat → Nat → Int64} {R : Nat → Nat} {gf gn : Nat} {yy : MethodName} {bytes : ByteArray} {maxL nL n index : Nat} {ret : Option FieldType} {ws Ts : List Cond} {rm : Room} {As : List Value} {own : String} {gF : (Nat → Int32) → (Nat → Int32)} {gX : (Nat → Nat → Int32) → (Nat → Nat → Int32)} {post : Int32 → ((Nat → Int32) × (Nat → Nat → Int32)) → Prop}
    (S : CallFix p m c cc nL s args Ts own) (hM : Met l yy ws rm (va_Pc As (cPre dC dI cB cC cI cJ cZ a F X J R gf gn H.size)) (va_Qi post (fun u => cPost dC dI cB cC cI cJ cZ a (gF u.1) (gX u.2) J R gf gn (va_A (CW cB cC cI cJ cZ a F X J R gf gn) H.size)) (va_A (CW cB cC cI cJ cZ a F X J R gf gn) H.size)) 0 0 (va_A (CW cB cC cI cJ cZ a F X J R gf gn) H.size)) (cw : CallB RR s args own index yy bytes maxL ret ws rm 0 0 n ∧ (Cond.static yy).before args s = true) 
    (hK : va_K (dC, dI) vwCl (TY cB cC cI cJ cZ) s) (hNW : NW s) (hP : va_P (dC, dI) vwCl (CW cB cC cI cJ cZ a F X J R gf gn) H) (hD : va_D A (CW cB cC cI cJ cZ a F X J R gf gn)) (hS : va_S A s.heap H locs) (hA : ∀ q : Nat, s.heap.size ≤ q → A q) (hn : As.length = n) (hg : st0 = As.reverse ++ rest) (hsize : ls.size = nL) (hW : 2 * (F0 m pc ls st0).monitorRoom + (rest.map fun v => v.category).sum ≤ 8) (hdg : decode cc pc = .ok (.invokestatic index, 3)) (hf : cells + 0 ≤ RR.cells ∧ slots + 0 ≤ RR.slots)
    (kk : ∀ (r : Int32) (F1 : Nat → Int32) (X1 : Nat → Nat → Int32) , post r (F1, X1) → ∀ (H1 : Heap) (locs1 : List Loc), va_P (dC, dI) vwCl (CW cB cC cI cJ cZ a (gF F1) (gX X1) J R gf gn) H1 → va_D A (CW cB cC cI cJ cZ a (gF F1) (gX X1) J R gf gn) → va_S A s.heap H1 locs1 → W p l e RR s m args below meth c H1 locs1 cells slots Q (F0 m (pc + 3) ls (.int (oI r.toInt) :: rest))) :
    W p l e RR s m args below meth c H locs cells slots Q (F0 m pc ls st0) := by
  have hFc : ∀ q, va_A (CW cB cC cI cJ cZ a F X J R gf gn) H.size q → A q := by
    intro q h
    rcases h with ⟨k, e, hk⟩ | h
    · exact hD.2 k _ hk
    · exact hA q (Nat.le_trans hS.1 h)
  refine va_calli (va_runS (As := As) (rest := rest) S hM cw ⟨cPre_blind, fun U hU hW => ⟨rfl, by rw [hU], by rw [hU]; exact hP, va_K.moved hW.alike hK, hD.weaken (fun _ _ _ _ => trivial), hNW.warm hW⟩⟩ rfl hn hsize hg hW hdg hf) hS (fun q _ h => hFc q h) hFc (fun r u t H1 locs1 ht hvm hw hB hz hk hS1 => ?_)
  obtain ⟨hP1, hK1, hD1⟩ := hB
  rw [ht] at hP1
  refine tp_i (oI_toInt r).symm ?_
  exact kk r u.1 u.2 hw H1 locs1 hP1 (hD1.weaken (fun k q h ha => hFc _ ha)) hS1
theorem ccp_vV {p : Program} {l : Launch} {e : Env} {RR : Room} {s : State} {m : MethodId} {args : Array Value} {below : List Frame} {meth : Method} {c : Code} {H : Heap} {locs : List Loc} {cells slots : Nat} {Q : State → Prop} {cc : ByteArray} {pc : Nat} {ls : Array Slot} {st0 rest : List Value} {A : Nat → Prop} {dC : Nat → ClassId} {dI : Nat → Nat → Nat} {cB cC cI cJ cZ : ClassId} {a : Nat → Nat} {F : Nat → Int32} {X : Nat → Nat → Int32} {J : Nat → Nat → Int64} {R : Nat → Nat} {gf gn : Nat} {yy : MethodName} {bytes : ByteArray} {maxL nL n index : Nat} {ret : Option FieldType} {ws Ts : List Cond} {rm : Room} {As : List Value} {own : String} {z : Nat} {C : String} {gF : (Nat → Int32) → (Nat → Int32)} {gX : (Nat → Nat → Int32) → (Nat → Nat → Int32)} {post : ((Nat → Int32) × (Nat → Nat → Int32)) → Prop}
    (S : CallFix p m c cc nL s args Ts own) (hM : Met l yy ws rm (va_Pc (.ref z :: As) (cPre dC dI cB cC cI cJ cZ a F X J R gf gn H.size)) (va_Qv post (fun u => cPost dC dI cB cC cI cJ cZ a (gF u.1) (gX u.2) J R gf gn (va_A (CW cB cC cI cJ cZ a F X J R gf gn) H.size)) (va_A (CW cB cC cI cJ cZ a F X J R gf gn) H.size)) 0 0 (va_A (CW cB cC cI cJ cZ a F X J R gf gn) H.size)) (cw : CallW RR s args own C index yy bytes maxL ret ws rm 0 0 n) (hrc : ∃ cell : Cell, H[z]? = some cell ∧ cell.vm.isStatics = false ∧ s.vm.findClass C = some cell.cls) 
    (hK : va_K (dC, dI) vwCl (TY cB cC cI cJ cZ) s) (hNW : NW s) (hP : va_P (dC, dI) vwCl (CW cB cC cI cJ cZ a F X J R gf gn) H) (hD : va_D A (CW cB cC cI cJ cZ a F X J R gf gn)) (hS : va_S A s.heap H locs) (hA : ∀ q : Nat, s.heap.size ≤ q → A q) (hn : As.length = n) (hg : st0 = As.reverse ++ .ref z :: rest) (hsize : ls.size = nL) (hW : 2 * (F0 m pc ls st0).monitorRoom + (rest.map fun v => v.category).sum ≤ 8) (hdg : decode cc pc = .ok (.invokevirtual index, 3)) (hf : cells + 0 ≤ RR.cells ∧ slots + 0 ≤ RR.slots)
    (kk : ∀ (F1 : Nat → Int32) (X1 : Nat → Nat → Int32) , post (F1, X1) → ∀ (H1 : Heap) (locs1 : List Loc), va_P (dC, dI) vwCl (CW cB cC cI cJ cZ a (gF F1) (gX X1) J R gf gn) H1 → va_D A (CW cB cC cI cJ cZ a (gF F1) (gX X1) J R gf gn) → va_S A s.heap H1 locs1 → W p l e RR s m args below meth c H1 locs1 cells slots Q (F0 m (pc + 3) ls (rest))) :
    W p l e RR s m args below meth c H locs cells slots Q (F0 m pc ls st0) := by
  have hFc : ∀ q, va_A (CW cB cC cI cJ cZ a F X J R gf gn) H.size q → A q := by
    intro q h
    rcases h with ⟨k, e, hk⟩ | h
    · exact hD.2 k _ hk
    · exact hA q (Nat.le_trans hS.1 h)
  refine va_callv (va_runV (As := As) (rest := rest) S hM cw ⟨cPre_blind, hrc, fun U hU hW => ⟨rfl, by rw [hU], by rw [hU]; exact hP, va_K.moved hW.alike hK, hD.weaken (fun _ _ _ _ => trivial), hNW.warm hW⟩⟩ rfl hn hsize hg hW hdg hf) hS (fun q _ h => hFc q h) hFc (fun u t H1 locs1 ht hvm hw hB hz hk hS1 => ?_)
  obtain ⟨hP1, hK1, hD1⟩ := hB
  rw [ht] at hP1
  exact kk u.1 u.2 hw H1 locs1 hP1 (hD1.weaken (fun k q h ha => hFc _ ha)) hS1
theorem ccp_vS {p : Program} {l : Launch} {e : Env} {RR : Room} {s : State} {m : MethodId} {args : Array Value} {below : List Frame} {meth : Method} {c : Code} {H : Heap} {locs : List Loc} {cells slots : Nat} {Q : State → Prop} {cc : ByteArray} {pc : Nat} {ls : Array Slot} {st0 rest : List Value} {A : Nat → Prop} {dC : Nat → ClassId} {dI : Nat → Nat → Nat} {cB cC cI cJ cZ : ClassId} {a : Nat → Nat} {F : Nat → Int32} {X : Nat → Nat → Int32} {J : Nat → Nat → Int64} {R : Nat → Nat} {gf gn : Nat} {yy : MethodName} {bytes : ByteArray} {maxL nL n index : Nat} {ret : Option FieldType} {ws Ts : List Cond} {rm : Room} {As : List Value} {own : String} {gF : (Nat → Int32) → (Nat → Int32)} {gX : (Nat → Nat → Int32) → (Nat → Nat → Int32)} {post : ((Nat → Int32) × (Nat → Nat → Int32)) → Prop}
    (S : CallFix p m c cc nL s args Ts own) (hM : Met l yy ws rm (va_Pc As (cPre dC dI cB cC cI cJ cZ a F X J R gf gn H.size)) (va_Qv post (fun u => cPost dC dI cB cC cI cJ cZ a (gF u.1) (gX u.2) J R gf gn (va_A (CW cB cC cI cJ cZ a F X J R gf gn) H.size)) (va_A (CW cB cC cI cJ cZ a F X J R gf gn) H.size)) 0 0 (va_A (CW cB cC cI cJ cZ a F X J R gf gn) H.size)) (cw : CallB RR s args own index yy bytes maxL ret ws rm 0 0 n ∧ (Cond.static yy).before args s = true) 
    (hK : va_K (dC, dI) vwCl (TY cB cC cI cJ cZ) s) (hNW : NW s) (hP : va_P (dC, dI) vwCl (CW cB cC cI cJ cZ a F X J R gf gn) H) (hD : va_D A (CW cB cC cI cJ cZ a F X J R gf gn)) (hS : va_S A s.heap H locs) (hA : ∀ q : Nat, s.heap.size ≤ q → A q) (hn : As.length = n) (hg : st0 = As.reverse ++ rest) (hsize : ls.size = nL) (hW : 2 * (F0 m pc ls st0).monitorRoom + (rest.map fun v => v.category).sum ≤ 8) (hdg : decode cc pc = .ok (.invokestatic index, 3)) (hf : cells + 0 ≤ RR.cells ∧ slots + 0 ≤ RR.slots)
    (kk : ∀ (F1 : Nat → Int32) (X1 : Nat → Nat → Int32) , post (F1, X1) → ∀ (H1 : Heap) (locs1 : List Loc), va_P (dC, dI) vwCl (CW cB cC cI cJ cZ a (gF F1) (gX X1) J R gf gn) H1 → va_D A (CW cB cC cI cJ cZ a (gF F1) (gX X1) J R gf gn) → va_S A s.heap H1 locs1 → W p l e RR s m args below meth c H1 locs1 cells slots Q (F0 m (pc + 3) ls (rest))) :
    W p l e RR s m args below meth c H locs cells slots Q (F0 m pc ls st0) := by
  have hFc : ∀ q, va_A (CW cB cC cI cJ cZ a F X J R gf gn) H.size q → A q := by
    intro q h
    rcases h with ⟨k, e, hk⟩ | h
    · exact hD.2 k _ hk
    · exact hA q (Nat.le_trans hS.1 h)
  refine va_callv (va_runS (As := As) (rest := rest) S hM cw ⟨cPre_blind, fun U hU hW => ⟨rfl, by rw [hU], by rw [hU]; exact hP, va_K.moved hW.alike hK, hD.weaken (fun _ _ _ _ => trivial), hNW.warm hW⟩⟩ rfl hn hsize hg hW hdg hf) hS (fun q _ h => hFc q h) hFc (fun u t H1 locs1 ht hvm hw hB hz hk hS1 => ?_)
  obtain ⟨hP1, hK1, hD1⟩ := hB
  rw [ht] at hP1
  exact kk u.1 u.2 hw H1 locs1 hP1 (hD1.weaken (fun k q h ha => hFc _ ha)) hS1
theorem ccf_iV {p : Program} {l : Launch} {e : Env} {RR : Room} {s : State} {m : MethodId} {args : Array Value} {below : List Frame} {meth : Method} {c : Code} {H : Heap} {locs : List Loc} {cells slots : Nat} {Q : State → Prop} {cc : ByteArray} {pc : Nat} {ls : Array Slot} {st0 rest : List Value} {A : Nat → Prop} {dC : Nat → ClassId} {dI : Nat → Nat → Nat} {cB cC cI cJ cZ : ClassId} {a : Nat → Nat} {F : Nat → Int32} {X : Nat → Nat → Int32} {J : Nat → Nat → Int64} {R : Nat → Nat} {gf gn : Nat} {yy : MethodName} {bytes : ByteArray} {maxL nL n index : Nat} {ret : Option FieldType} {ws Ts : List Cond} {rm : Room} {As : List Value} {own : String} {z : Nat} {C : String} {post : Int32 → ((Nat → Int32) × (Nat → Nat → Int32) × (Nat → Nat → Int64) × (Nat → Nat) × Nat × Nat) → Prop}
    (S : CallFix p m c cc nL s args Ts own) (hM : Met l yy ws rm (va_Pc (.ref z :: As) (cPre dC dI cB cC cI cJ cZ a F X J R gf gn H.size)) (va_Qi post (fun u => cPost dC dI cB cC cI cJ cZ a u.1 u.2.1 u.2.2.1 u.2.2.2.1 u.2.2.2.2.1 u.2.2.2.2.2 (va_A (CW cB cC cI cJ cZ a F X J R gf gn) H.size)) (va_A (CW cB cC cI cJ cZ a F X J R gf gn) H.size)) 0 0 (va_A (CW cB cC cI cJ cZ a F X J R gf gn) H.size)) (cw : CallW RR s args own C index yy bytes maxL ret ws rm 0 0 n) (hrc : ∃ cell : Cell, H[z]? = some cell ∧ cell.vm.isStatics = false ∧ s.vm.findClass C = some cell.cls) 
    (hK : va_K (dC, dI) vwCl (TY cB cC cI cJ cZ) s) (hNW : NW s) (hP : va_P (dC, dI) vwCl (CW cB cC cI cJ cZ a F X J R gf gn) H) (hD : va_D A (CW cB cC cI cJ cZ a F X J R gf gn)) (hS : va_S A s.heap H locs) (hA : ∀ q : Nat, s.heap.size ≤ q → A q) (hn : As.length = n) (hg : st0 = As.reverse ++ .ref z :: rest) (hsize : ls.size = nL) (hW : 2 * (F0 m pc ls st0).monitorRoom + (rest.map fun v => v.category).sum ≤ 8) (hdg : decode cc pc = .ok (.invokevirtual index, 3)) (hf : cells + 0 ≤ RR.cells ∧ slots + 0 ≤ RR.slots)
    (kk : ∀ (r : Int32) (F1 : Nat → Int32) (X1 : Nat → Nat → Int32) (J1 : Nat → Nat → Int64) (R1 : Nat → Nat) (gf1 gn1 : Nat) , post r (F1, X1, J1, R1, gf1, gn1) → ∀ (H1 : Heap) (locs1 : List Loc), va_P (dC, dI) vwCl (CW cB cC cI cJ cZ a F1 X1 J1 R1 gf1 gn1) H1 → va_D A (CW cB cC cI cJ cZ a F1 X1 J1 R1 gf1 gn1) → va_S A s.heap H1 locs1 → W p l e RR s m args below meth c H1 locs1 cells slots Q (F0 m (pc + 3) ls (.int (oI r.toInt) :: rest))) :
    W p l e RR s m args below meth c H locs cells slots Q (F0 m pc ls st0) := by
  have hFc : ∀ q, va_A (CW cB cC cI cJ cZ a F X J R gf gn) H.size q → A q := by
    intro q h
    rcases h with ⟨k, e, hk⟩ | h
    · exact hD.2 k _ hk
    · exact hA q (Nat.le_trans hS.1 h)
  refine va_calli (va_runV (As := As) (rest := rest) S hM cw ⟨cPre_blind, hrc, fun U hU hW => ⟨rfl, by rw [hU], by rw [hU]; exact hP, va_K.moved hW.alike hK, hD.weaken (fun _ _ _ _ => trivial), hNW.warm hW⟩⟩ rfl hn hsize hg hW hdg hf) hS (fun q _ h => hFc q h) hFc (fun r u t H1 locs1 ht hvm hw hB hz hk hS1 => ?_)
  obtain ⟨hP1, hK1, hD1⟩ := hB
  rw [ht] at hP1
  refine tp_i (oI_toInt r).symm ?_
  exact kk r u.1 u.2.1 u.2.2.1 u.2.2.2.1 u.2.2.2.2.1 u.2.2.2.2.2 hw H1 locs1 hP1 (hD1.weaken (fun k q h ha => hFc _ ha)) hS1
theorem ccf_iS {p : Program} {l : Launch} {e : Env} {RR : Room} {s : State} {m : MethodId} {args : Array Value} {below : List Frame} {meth : Method} {c : Code} {H : Heap} {locs : List Loc} {cells slots : Nat} {Q : State → Prop} {cc : ByteArray} {pc : Nat} {ls : Array Slot} {st0 rest : List Value} {A : Nat → Prop} {dC : Nat → ClassId} {dI : Nat → Nat → Nat} {cB cC cI cJ cZ : ClassId} {a : Nat → Nat} {F : Nat → Int32} {X : Nat → Nat → Int32} {J : Nat → Nat → Int64} {R : Nat → Nat} {gf gn : Nat} {yy : MethodName} {bytes : ByteArray} {maxL nL n index : Nat} {ret : Option FieldType} {ws Ts : List Cond} {rm : Room} {As : List Value} {own : String} {post : Int32 → ((Nat → Int32) × (Nat → Nat → Int32) × (Nat → Nat → Int64) × (Nat → Nat) × Nat × Nat) → Prop}
    (S : CallFix p m c cc nL s args Ts own) (hM : Met l yy ws rm (va_Pc As (cPre dC dI cB cC cI cJ cZ a F X J R gf gn H.size)) (va_Qi post (fun u => cPost dC dI cB cC cI cJ cZ a u.1 u.2.1 u.2.2.1 u.2.2.2.1 u.2.2.2.2.1 u.2.2.2.2.2 (va_A (CW cB cC cI cJ cZ a F X J R gf gn) H.size)) (va_A (CW cB cC cI cJ cZ a F X J R gf gn) H.size)) 0 0 (va_A (CW cB cC cI cJ cZ a F X J R gf gn) H.size)) (cw : CallB RR s args own index yy bytes maxL ret ws rm 0 0 n ∧ (Cond.static yy).before args s = true) 
    (hK : va_K (dC, dI) vwCl (TY cB cC cI cJ cZ) s) (hNW : NW s) (hP : va_P (dC, dI) vwCl (CW cB cC cI cJ cZ a F X J R gf gn) H) (hD : va_D A (CW cB cC cI cJ cZ a F X J R gf gn)) (hS : va_S A s.heap H locs) (hA : ∀ q : Nat, s.heap.size ≤ q → A q) (hn : As.length = n) (hg : st0 = As.reverse ++ rest) (hsize : ls.size = nL) (hW : 2 * (F0 m pc ls st0).monitorRoom + (rest.map fun v => v.category).sum ≤ 8) (hdg : decode cc pc = .ok (.invokestatic index, 3)) (hf : cells + 0 ≤ RR.cells ∧ slots + 0 ≤ RR.slots)
    (kk : ∀ (r : Int32) (F1 : Nat → Int32) (X1 : Nat → Nat → Int32) (J1 : Nat → Nat → Int64) (R1 : Nat → Nat) (gf1 gn1 : Nat) , post r (F1, X1, J1, R1, gf1, gn1) → ∀ (H1 : Heap) (locs1 : List Loc), va_P (dC, dI) vwCl (CW cB cC cI cJ cZ a F1 X1 J1 R1 gf1 gn1) H1 → va_D A (CW cB cC cI cJ cZ a F1 X1 J1 R1 gf1 gn1) → va_S A s.heap H1 locs1 → W p l e RR s m args below meth c H1 locs1 cells slots Q (F0 m (pc + 3) ls (.int (oI r.toInt) :: rest))) :
    W p l e RR s m args below meth c H locs cells slots Q (F0 m pc ls st0) := by
  have hFc : ∀ q, va_A (CW cB cC cI cJ cZ a F X J R gf gn) H.size q → A q := by
    intro q h
    rcases h with ⟨k, e, hk⟩ | h
    · exact hD.2 k _ hk
    · exact hA q (Nat.le_trans hS.1 h)
  refine va_calli (va_runS (As := As) (rest := rest) S hM cw ⟨cPre_blind, fun U hU hW => ⟨rfl, by rw [hU], by rw [hU]; exact hP, va_K.moved hW.alike hK, hD.weaken (fun _ _ _ _ => trivial), hNW.warm hW⟩⟩ rfl hn hsize hg hW hdg hf) hS (fun q _ h => hFc q h) hFc (fun r u t H1 locs1 ht hvm hw hB hz hk hS1 => ?_)
  obtain ⟨hP1, hK1, hD1⟩ := hB
  rw [ht] at hP1
  refine tp_i (oI_toInt r).symm ?_
  exact kk r u.1 u.2.1 u.2.2.1 u.2.2.2.1 u.2.2.2.2.1 u.2.2.2.2.2 hw H1 locs1 hP1 (hD1.weaken (fun k q h ha => hFc _ ha)) hS1
theorem ccf_vV {p : Program} {l : Launch} {e : Env} {RR : Room} {s : State} {m : MethodId} {args : Array Value} {below : List Frame} {meth : Method} {c : Code} {H : Heap} {locs : List Loc} {cells slots : Nat} {Q : State → Prop} {cc : ByteArray} {pc : Nat} {ls : Array Slot} {st0 rest : List Value} {A : Nat → Prop} {dC : Nat → ClassId} {dI : Nat → Nat → Nat} {cB cC cI cJ cZ : ClassId} {a : Nat → Nat} {F : Nat → Int32} {X : Nat → Nat → Int32} {J : Nat → Nat → Int64} {R : Nat → Nat} {gf gn : Nat} {yy : MethodName} {bytes : ByteArray} {maxL nL n index : Nat} {ret : Option FieldType} {ws Ts : List Cond} {rm : Room} {As : List Value} {own : String} {z : Nat} {C : String} {post : ((Nat → Int32) × (Nat → Nat → Int32) × (Nat → Nat → Int64) × (Nat → Nat) × Nat × Nat) → Prop}
    (S : CallFix p m c cc nL s args Ts own) (hM : Met l yy ws rm (va_Pc (.ref z :: As) (cPre dC dI cB cC cI cJ cZ a F X J R gf gn H.size)) (va_Qv post (fun u => cPost dC dI cB cC cI cJ cZ a u.1 u.2.1 u.2.2.1 u.2.2.2.1 u.2.2.2.2.1 u.2.2.2.2.2 (va_A (CW cB cC cI cJ cZ a F X J R gf gn) H.size)) (va_A (CW cB cC cI cJ cZ a F X J R gf gn) H.size)) 0 0 (va_A (CW cB cC cI cJ cZ a F X J R gf gn) H.size)) (cw : CallW RR s args own C index yy bytes maxL ret ws rm 0 0 n) (hrc : ∃ cell : Cell, H[z]? = some cell ∧ cell.vm.isStatics = false ∧ s.vm.findClass C = some cell.cls) 
    (hK : va_K (dC, dI) vwCl (TY cB cC cI cJ cZ) s) (hNW : NW s) (hP : va_P (dC, dI) vwCl (CW cB cC cI cJ cZ a F X J R gf gn) H) (hD : va_D A (CW cB cC cI cJ cZ a F X J R gf gn)) (hS : va_S A s.heap H locs) (hA : ∀ q : Nat, s.heap.size ≤ q → A q) (hn : As.length = n) (hg : st0 = As.reverse ++ .ref z :: rest) (hsize : ls.size = nL) (hW : 2 * (F0 m pc ls st0).monitorRoom + (rest.map fun v => v.category).sum ≤ 8) (hdg : decode cc pc = .ok (.invokevirtual index, 3)) (hf : cells + 0 ≤ RR.cells ∧ slots + 0 ≤ RR.slots)
    (kk : ∀ (F1 : Nat → Int32) (X1 : Nat → Nat → Int32) (J1 : Nat → Nat → Int64) (R1 : Nat → Nat) (gf1 gn1 : Nat) , post (F1, X1, J1, R1, gf1, gn1) → ∀ (H1 : Heap) (locs1 : List Loc), va_P (dC, dI) vwCl (CW cB cC cI cJ cZ a F1 X1 J1 R1 gf1 gn1) H1 → va_D A (CW cB cC cI cJ cZ a F1 X1 J1 R1 gf1 gn1) → va_S A s.heap H1 locs1 → W p l e RR s m args below meth c H1 locs1 cells slots Q (F0 m (pc + 3) ls (rest))) :
    W p l e RR s m args below meth c H locs cells slots Q (F0 m pc ls st0) := by
  have hFc : ∀ q, va_A (CW cB cC cI cJ cZ a F X J R gf gn) H.size q → A q := by
    intro q h
    rcases h with ⟨k, e, hk⟩ | h
    · exact hD.2 k _ hk
    · exact hA q (Nat.le_trans hS.1 h)
  refine va_callv (va_runV (As := As) (rest := rest) S hM cw ⟨cPre_blind, hrc, fun U hU hW => ⟨rfl, by rw [hU], by rw [hU]; exact hP, va_K.moved hW.alike hK, hD.weaken (fun _ _ _ _ => trivial), hNW.warm hW⟩⟩ rfl hn hsize hg hW hdg hf) hS (fun q _ h => hFc q h) hFc (fun u t H1 locs1 ht hvm hw hB hz hk hS1 => ?_)
  obtain ⟨hP1, hK1, hD1⟩ := hB
  rw [ht] at hP1
  exact kk u.1 u.2.1 u.2.2.1 u.2.2.2.1 u.2.2.2.2.1 u.2.2.2.2.2 hw H1 locs1 hP1 (hD1.weaken (fun k q h ha => hFc _ ha)) hS1
theorem ccf_vS {p : Program} {l : Launch} {e : Env} {RR : Room} {s : State} {m : MethodId} {args : Array Value} {below : List Frame} {meth : Method} {c : Code} {H : Heap} {locs : List Loc} {cells slots : Nat} {Q : State → Prop} {cc : ByteArray} {pc : Nat} {ls : Array Slot} {st0 rest : List Value} {A : Nat → Prop} {dC : Nat → ClassId} {dI : Nat → Nat → Nat} {cB cC cI cJ cZ : ClassId} {a : Nat → Nat} {F : Nat → Int32} {X : Nat → Nat → Int32} {J : Nat → Nat → Int64} {R : Nat → Nat} {gf gn : Nat} {yy : MethodName} {bytes : ByteArray} {maxL nL n index : Nat} {ret : Option FieldType} {ws Ts : List Cond} {rm : Room} {As : List Value} {own : String} {post : ((Nat → Int32) × (Nat → Nat → Int32) × (Nat → Nat → Int64) × (Nat → Nat) × Nat × Nat) → Prop}
    (S : CallFix p m c cc nL s args Ts own) (hM : Met l yy ws rm (va_Pc As (cPre dC dI cB cC cI cJ cZ a F X J R gf gn H.size)) (va_Qv post (fun u => cPost dC dI cB cC cI cJ cZ a u.1 u.2.1 u.2.2.1 u.2.2.2.1 u.2.2.2.2.1 u.2.2.2.2.2 (va_A (CW cB cC cI cJ cZ a F X J R gf gn) H.size)) (va_A (CW cB cC cI cJ cZ a F X J R gf gn) H.size)) 0 0 (va_A (CW cB cC cI cJ cZ a F X J R gf gn) H.size)) (cw : CallB RR s args own index yy bytes maxL ret ws rm 0 0 n ∧ (Cond.static yy).before args s = true) 
    (hK : va_K (dC, dI) vwCl (TY cB cC cI cJ cZ) s) (hNW : NW s) (hP : va_P (dC, dI) vwCl (CW cB cC cI cJ cZ a F X J R gf gn) H) (hD : va_D A (CW cB cC cI cJ cZ a F X J R gf gn)) (hS : va_S A s.heap H locs) (hA : ∀ q : Nat, s.heap.size ≤ q → A q) (hn : As.length = n) (hg : st0 = As.reverse ++ rest) (hsize : ls.size = nL) (hW : 2 * (F0 m pc ls st0).monitorRoom + (rest.map fun v => v.category).sum ≤ 8) (hdg : decode cc pc = .ok (.invokestatic index, 3)) (hf : cells + 0 ≤ RR.cells ∧ slots + 0 ≤ RR.slots)
    (kk : ∀ (F1 : Nat → Int32) (X1 : Nat → Nat → Int32) (J1 : Nat → Nat → Int64) (R1 : Nat → Nat) (gf1 gn1 : Nat) , post (F1, X1, J1, R1, gf1, gn1) → ∀ (H1 : Heap) (locs1 : List Loc), va_P (dC, dI) vwCl (CW cB cC cI cJ cZ a F1 X1 J1 R1 gf1 gn1) H1 → va_D A (CW cB cC cI cJ cZ a F1 X1 J1 R1 gf1 gn1) → va_S A s.heap H1 locs1 → W p l e RR s m args below meth c H1 locs1 cells slots Q (F0 m (pc + 3) ls (rest))) :
    W p l e RR s m args below meth c H locs cells slots Q (F0 m pc ls st0) := by
  have hFc : ∀ q, va_A (CW cB cC cI cJ cZ a F X J R gf gn) H.size q → A q := by
    intro q h
    rcases h with ⟨k, e, hk⟩ | h
    · exact hD.2 k _ hk
    · exact hA q (Nat.le_trans hS.1 h)
  refine va_callv (va_runS (As := As) (rest := rest) S hM cw ⟨cPre_blind, fun U hU hW => ⟨rfl, by rw [hU], by rw [hU]; exact hP, va_K.moved hW.alike hK, hD.weaken (fun _ _ _ _ => trivial), hNW.warm hW⟩⟩ rfl hn hsize hg hW hdg hf) hS (fun q _ h => hFc q h) hFc (fun u t H1 locs1 ht hvm hw hB hz hk hS1 => ?_)
  obtain ⟨hP1, hK1, hD1⟩ := hB
  rw [ht] at hP1
  exact kk u.1 u.2.1 u.2.2.1 u.2.2.2.1 u.2.2.2.2.1 u.2.2.2.2.2 hw H1 locs1 hP1 (hD1.weaken (fun k q h ha => hFc _ ha)) hS1
