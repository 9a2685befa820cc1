/-- two worlds side by side -/
def J2 (D : va_G) (A : Nat → Prop) (w1 w2 : va_W) (H : Heap) : Prop := va_P D vwCl w1 H ∧ va_P D vwCl w2 H ∧ va_D A w1 ∧ va_D A w2 ∧ ∀ (i j : Nat) (x y : Nat × va_E), w1[i]? = some x → w2[j]? = some y → x.1 ≠ y.1
theorem J2.flip {D : va_G} {A : Nat → Prop} {w1 w2 : va_W} {H : Heap} (j : J2 D A w1 w2 H) : J2 D A w2 w1 H := ⟨j.2.1, j.1, j.2.2.2.1, j.2.2.1, fun i k x y hx hy h => j.2.2.2.2 k i y x hy hx h.symm⟩
theorem J2.free {D : va_G} {A : Nat → Prop} {w1 w2 : va_W} {H0 H : Heap} {locs : List Loc} (j : J2 D A w1 w2 H) (hS : va_S A H0 H locs) (hA : ∀ q : Nat, H0.size ≤ q → A q) : ∀ q, va_A w1 H.size q → A q := by
  intro q h
  rcases h with ⟨k, e, hk⟩ | h
  · exact j.2.2.1.2 k _ hk
  · exact hA q (Nat.le_trans hS.1 h)
theorem J2.call {D : va_G} {A : Nat → Prop} {w1 w2 w3 : va_W} {H H1 : Heap} (j : J2 D A w1 w2 H) (hF : ∀ q, va_A w1 H.size q → A q) (hk : ∀ q : Nat, q < H.size → ¬ va_A w1 H.size q → H1[q]? = H[q]?) (hP1 : va_P D vwCl w3 H1) (hD1 : va_D (va_A w1 H.size) w3) : J2 D A w3 w2 H1 := by
  obtain ⟨p1, p2, d1, d2, dx⟩ := j
  have apart : ∀ (k : Nat) (q : Nat × va_E), w2[k]? = some q → q.1 < H.size ∧ ¬ va_A w1 H.size q.1 := by
    intro k q hq
    have hl := (p2 k q hq).lt
    refine ⟨hl, fun h => ?_⟩
    rcases h with ⟨k2, e, h⟩ | h
    · exact dx k2 k (q.1, e) q h hq rfl
    · omega
  exact ⟨hP1, p2.kept (fun k q hq => hk q.1 (apart k q hq).1 (apart k q hq).2), hD1.weaken (fun k q _ h => hF q.1 h), d2, fun i j x y hx hy hxy => (apart j y hy).2 (by rw [← hxy]; exact hD1.2 i x hx)⟩
theorem J2.split {D : va_G} {A : Nat → Prop} {w1 w2 : va_W} {H : Heap} (hP : va_P D vwCl (w1 ++ w2) H) (hD : va_D A (w1 ++ w2)) : J2 D A w1 w2 H := by
  have l1 : ∀ (k : Nat) (q : Nat × va_E), w1[k]? = some q → k < w1.length ∧ (w1 ++ w2)[k]? = some q := by
    intro k q h
    have hk := (List.getElem?_eq_some_iff.mp h).1
    exact ⟨hk, by rw [List.getElem?_append_left hk]; exact h⟩
  have l2 : ∀ (k : Nat) (q : Nat × va_E), w2[k]? = some q → (w1 ++ w2)[w1.length + k]? = some q := by
    intro k q h
    rw [List.getElem?_append_right (Nat.le_add_right _ _), Nat.add_sub_cancel_left]
    exact h
  refine ⟨fun k q h => hP k q (l1 k q h).2, fun k q h => hP _ q (l2 k q h), ⟨fun i j x y hx hy h => hD.1 i j x y (l1 i x hx).2 (l1 j y hy).2 h, fun k q h => hD.2 k q (l1 k q h).2⟩, ⟨fun i j x y hx hy h => ?_, fun k q h => hD.2 _ q (l2 k q h)⟩, fun i j x y hx hy h => ?_⟩
  · have h9 := hD.1 _ _ x y (l2 i x hx) (l2 j y hy) h
    omega
  · have h9 := hD.1 _ _ x y (l1 i x hx).2 (l2 j y hy) h
    have h8 := (l1 i x hx).1
    omega
/-- a call of the class that makes nothing -/
theorem lcC {p : Program} {l : Launch} {e : Env} {RR : Room} {s : State} {m : MethodId} {args : Array Value} {below : List Frame} {meth : Method} {c : Code} {H : Heap} {locs : List Loc} {cells slots : Nat} {Q : State → Prop} {cc : ByteArray} {pc : Nat} {ls : Array Slot} {st0 rest : List Value} {A : Nat → Prop} {dC : Nat → ClassId} {dI : Nat → Nat → Nat} {cB cC cI cJ cZ : ClassId} {yy : MethodName} {bytes : ByteArray} {maxL nL n index : Nat} {ret : Option FieldType} {ws Ts : List Cond} {rm : Room} {As : List Value} {own C : String} {z : Nat} {a : Nat → Nat} {F : Nat → Int32} {X : Nat → Nat → Int32} {J : Nat → Nat → Int64} {R : Nat → Nat} {gf gn : Nat} {w2 : va_W} {S : Type} {post : Int32 → S → Prop} {fF : S → Nat → Int32} {fX : S → Nat → Nat → Int32} (S0 : CallFix p m c cc nL s args Ts own) (hM : Met l yy ws rm (va_Pc (.ref z :: As) (cPre dC dI cB cC cI cJ cZ a F X J R gf gn H.size)) (va_Qi post (fun u => cPost dC dI cB cC cI cJ cZ a (fF u) (fX u) J R gf gn (va_A (CW cB cC cI cJ cZ a F X J R gf gn) H.size)) (va_A (CW cB cC cI cJ cZ a F X J R gf gn) H.size)) 0 0 (va_A (CW cB cC cI cJ cZ a F X J R gf gn) H.size)) (cw : CallW RR s args own C index yy bytes maxL ret ws rm 0 0 n) (hrc : ∃ cell : Cell, H[z]? = some cell ∧ cell.vm.isStatics = false ∧ s.vm.findClass C = some cell.cls) (hK : va_K (dC, dI) vwCl (TY cB cC cI cJ cZ) s) (hNW : NW s) (j : J2 (dC, dI) A (CW cB cC cI cJ cZ a F X J R gf gn) w2 H) (hS : va_S A s.heap H locs) (hA : ∀ q : Nat, s.heap.size ≤ q → A q) (hn : As.length = n) (hg : st0 = As.reverse ++ .ref z :: rest) (hsize : ls.size = nL) (hW : 2 * (F0 m pc ls st0).monitorRoom + (rest.map fun v => v.category).sum ≤ 8) (hdg : decode cc pc = .ok (.invokevirtual index, 3)) (hf : cells + 0 ≤ RR.cells ∧ slots + 0 ≤ RR.slots)
    (kk : ∀ (r : Int32) (u : S), post r u → ∀ (H1 : Heap) (locs1 : List Loc), J2 (dC, dI) A (CW cB cC cI cJ cZ a (fF u) (fX u) J R gf gn) w2 H1 → va_S A s.heap H1 locs1 → W p l e RR s m args below meth c H1 locs1 cells slots Q (F0 m (pc + 3) ls (.int r :: rest))) : W p l e RR s m args below meth c H locs cells slots Q (F0 m pc ls st0) := by
  have hFc := j.free hS hA
  refine va_calli (va_runV (As := As) (rest := rest) S0 hM cw ⟨cPre_blind, hrc, fun U hU hW => ⟨rfl, by rw [hU], by rw [hU]; exact j.1, va_K.moved hW.alike hK, j.2.2.1.weaken (fun _ _ _ _ => trivial), hNW.warm hW⟩⟩ rfl hn hsize hg hW hdg hf) hS (fun q _ h => hFc q h) hFc (fun r u t H1 locs1 ht hvm hw hB hz hk hS1 => ?_)
  obtain ⟨hP1, hK1, hD1⟩ := hB
  rw [ht] at hP1
  exact kk r u hw H1 locs1 (j.call hFc hk hP1 hD1) hS1
/-- read of the class -/
theorem lcG {p : Program} {l : Launch} {e : Env} {RR : Room} {s : State} {m : MethodId} {args : Array Value} {below : List Frame} {meth : Method} {c : Code} {H : Heap} {locs : List Loc} {cells slots : Nat} {Q : State → Prop} {cc : ByteArray} {pc : Nat} {ls : Array Slot} {st0 rest : List Value} {A : Nat → Prop} {dC : Nat → ClassId} {dI : Nat → Nat → Nat} {cB cC cI cJ cZ : ClassId} {yy : MethodName} {bytes : ByteArray} {maxL nL n index : Nat} {ret : Option FieldType} {ws Ts : List Cond} {rm : Room} {As : List Value} {own C : String} {z : Nat} {a : Nat → Nat} {F : Nat → Int32} {X : Nat → Nat → Int32} {J : Nat → Nat → Int64} {R : Nat → Nat} {gf gn : Nat} {w2 : va_W} {post : Int32 → ((Nat → Int32) × (Nat → Nat → Int32) × (Nat → Nat → Int64) × (Nat → Nat) × Nat × Nat) → Prop} (S0 : CallFix p m c cc nL s args Ts own) (hM : Met l yy ws rm (va_Pc (.ref z :: As) (gPre dC dI cB cC cI cJ cZ a F X J R gf gn H.size (tot H))) (va_Qi post (fun u => gPost dC dI cB cC cI cJ cZ a u.1 u.2.1 u.2.2.1 u.2.2.2.1 u.2.2.2.2.1 u.2.2.2.2.2 (H.size + cg gf gn) (tot H + sg gf gn) (cg gf gn) (sg gf gn) (va_A (CW cB cC cI cJ cZ a F X J R gf gn) H.size)) (va_A (CW cB cC cI cJ cZ a F X J R gf gn) H.size)) (cg gf gn) (sg gf gn) (va_A (CW cB cC cI cJ cZ a F X J R gf gn) H.size)) (cw : CallW RR s args own C index yy bytes maxL ret ws rm (cg gf gn) (sg gf gn) n) (hrc : ∃ cell : Cell, H[z]? = some cell ∧ cell.vm.isStatics = false ∧ s.vm.findClass C = some cell.cls) (hK : va_K (dC, dI) vwCl (TY cB cC cI cJ cZ) s) (hNW : NW s) (j : J2 (dC, dI) A (CW cB cC cI cJ cZ a F X J R gf gn) w2 H) (hS : va_S A s.heap H locs) (hA : ∀ q : Nat, s.heap.size ≤ q → A q) (hn : As.length = n) (hg : st0 = As.reverse ++ .ref z :: rest) (hsize : ls.size = nL) (hW : 2 * (F0 m pc ls st0).monitorRoom + (rest.map fun v => v.category).sum ≤ 8) (hdg : decode cc pc = .ok (.invokevirtual index, 3)) (hf : cells + cg gf gn ≤ RR.cells ∧ slots + sg gf gn ≤ RR.slots) (hsz : H.size ≤ s.heap.size + cells) (htot : tot H ≤ tot s.heap + slots)
    (kk : ∀ (r : Int32) (F1 : Nat → Int32) (X1 : Nat → Nat → Int32) (J1 : Nat → Nat → Int64) (R1 : Nat → Nat) (gf1 gn1 : Nat), post r (F1, X1, J1, R1, gf1, gn1) → ∀ (H1 : Heap) (locs1 : List Loc) (cells1 slots1 : Nat), (cells1 + cg gf1 gn1 ≤ RR.cells ∧ slots1 + sg gf1 gn1 ≤ RR.slots) → J2 (dC, dI) A (CW cB cC cI cJ cZ a F1 X1 J1 R1 gf1 gn1) w2 H1 → va_S A s.heap H1 locs1 → W p l e RR s m args below meth c H1 locs1 cells1 slots1 Q (F0 m (pc + 3) ls (.int r :: rest))) : W p l e RR s m args below meth c H locs cells slots Q (F0 m pc ls st0) := by
  have hFc := j.free hS hA
  refine va_calli (va_runV (As := As) (rest := rest) S0 hM cw ⟨gPre_blind, hrc, fun U hU hW => ⟨rfl, ⟨by rw [hU], by rw [hU]; exact j.1, va_K.moved hW.alike hK, j.2.2.1.weaken (fun _ _ _ _ => trivial), hNW.warm hW⟩, by rw [hU]⟩⟩ rfl hn hsize hg hW hdg hf) hS (fun q _ h => hFc q h) hFc (fun r u t H1 locs1 ht hvm hw hB hz hk hS1 => ?_)
  obtain ⟨F1, X1, J1, R1, gf1, gn1⟩ := u
  obtain ⟨⟨hP1, hK1, hD1⟩, hz1, hz2, hz3, hz4⟩ := hB
  dsimp only at hP1 hD1 hz1 hz2 hz3 hz4
  rw [ht] at hP1 hz1 hz2
  refine W.tight (k := cells + (cg gf gn - cg gf1 gn1)) (n := slots + (sg gf gn - sg gf1 gn1)) (by omega) (by omega) ?_
  exact kk r F1 X1 J1 R1 gf1 gn1 hw H1 locs1 _ _ ⟨by omega, by omega⟩ (j.call hFc hk hP1 hD1) hS1
/-- a call of the other side -/
theorem lcM {p : Program} {l : Launch} {e : Env} {RR : Room} {s : State} {m : MethodId} {args : Array Value} {below : List Frame} {meth : Method} {c : Code} {H : Heap} {locs : List Loc} {cells slots : Nat} {Q : State → Prop} {cc : ByteArray} {pc : Nat} {ls : Array Slot} {st0 rest : List Value} {A : Nat → Prop} {dC : Nat → ClassId} {dI : Nat → Nat → Nat} {cB cC cI cJ cZ : ClassId} {yy : MethodName} {bytes : ByteArray} {maxL nL n index : Nat} {ret : Option FieldType} {ws Ts : List Cond} {rm : Room} {As : List Value} {own C : String} {z : Nat} {z0 : Nat} {Rm : Nat → Nat} {pl : Int32} {N : Nat → Nat} {G : Nat → Nat → Nat} {B : Nat → Nat → Int32} {w1 : va_W} {post : Int32 → ((Nat → Nat) × (Nat → Nat → Nat) × (Nat → Nat → Int32) × Int32) → Prop} (S0 : CallFix p m c cc nL s args Ts own) (hM : Met l yy ws rm (va_Pc (.ref z :: As) (mPre dC dI cB cC cI cJ cZ z0 Rm pl N G B H.size)) (va_Qi post (mPost dC dI cB cC cI cJ cZ z0 Rm (va_A (MW cB cC cI cJ cZ z0 Rm pl N G B) H.size)) (va_A (MW cB cC cI cJ cZ z0 Rm pl N G B) H.size)) 0 0 (va_A (MW cB cC cI cJ cZ z0 Rm pl N G B) H.size)) (cw : CallW RR s args own C index yy bytes maxL ret ws rm 0 0 n) (hrc : ∃ cell : Cell, H[z]? = some cell ∧ cell.vm.isStatics = false ∧ s.vm.findClass C = some cell.cls) (hK : va_K (dC, dI) vwCl (TY cB cC cI cJ cZ) s) (hNW : NW s) (j : J2 (dC, dI) A w1 (MW cB cC cI cJ cZ z0 Rm pl N G B) H) (hS : va_S A s.heap H locs) (hA : ∀ q : Nat, s.heap.size ≤ q → A q) (hn : As.length = n) (hg : st0 = As.reverse ++ .ref z :: rest) (hsize : ls.size = nL) (hW : 2 * (F0 m pc ls st0).monitorRoom + (rest.map fun v => v.category).sum ≤ 8) (hdg : decode cc pc = .ok (.invokevirtual index, 3)) (hf : cells + 0 ≤ RR.cells ∧ slots + 0 ≤ RR.slots)
    (kk : ∀ (r : Int32) (N1 : Nat → Nat) (G1 : Nat → Nat → Nat) (B1 : Nat → Nat → Int32) (pl1 : Int32), post r (N1, G1, B1, pl1) → ∀ (H1 : Heap) (locs1 : List Loc), J2 (dC, dI) A w1 (MW cB cC cI cJ cZ z0 Rm pl1 N1 G1 B1) H1 → va_S A s.heap H1 locs1 → W p l e RR s m args below meth c H1 locs1 cells slots Q (F0 m (pc + 3) ls (.int r :: rest))) : W p l e RR s m args below meth c H locs cells slots Q (F0 m pc ls st0) := by
  have hFc := j.flip.free hS hA
  refine va_calli (va_runV (As := As) (rest := rest) S0 hM cw ⟨mPre_blind, hrc, fun U hU hW => ⟨rfl, by rw [hU], by rw [hU]; exact j.2.1, va_K.moved hW.alike hK, j.2.2.2.1.weaken (fun _ _ _ _ => trivial)⟩⟩ rfl hn hsize hg hW hdg hf) hS (fun q _ h => hFc q h) hFc (fun r u t H1 locs1 ht hvm hw hB hz hk hS1 => ?_)
  obtain ⟨N1, G1, B1, pl1⟩ := u
  obtain ⟨hP1, hK1, hD1⟩ := hB
  rw [ht] at hP1
  exact kk r N1 G1 B1 pl1 hw H1 locs1 (j.flip.call hFc hk hP1 hD1).flip hS1
theorem LOW.rf {N : Nat → Nat} {G : Nat → Nat → Nat} : LOW N G G := ⟨fun _ _ => ⟨rfl, rfl, rfl⟩, fun _ _ => rfl⟩
/-- what holds between two calls of the law -/
def LWI (F : Nat → Int32) (X : Nat → Nat → Int32) (gf gn : Nat) (N : Nat → Nat) (G : Nat → Nat → Nat) (B : Nat → Nat → Int32) (i : Nat) : Prop :=
  CI F X gf gn ∧ N 2 = (F 27).toInt.toNat ∧ ∃ (c5 c6 : Nat) (sz az : Nat → Nat), PW N G B sz az c5 c6 ∧ c5 ≤ 58 + 2 * i ∧ c6 ≤ 9 + 2 * i
theorem PW.zero {N : Nat → Nat} {G : Nat → Nat → Nat} {B : Nat → Nat → Int32} {sz az : Nat → Nat} {c5 c6 : Nat} (h : PW N G B sz az c5 c6) : PW (va_up N 0 0) G B sz az c5 c6 := by
  refine PW.same h LOW.rf rfl rfl rfl (Nat.le_refl _) (fun _ _ => rfl) h.1.1 ?_ ?_
  · exact h.2.2.2.2.2.2.1
  · exact h.2.2.2.2.2.2.2
theorem PW.typed {N : Nat → Nat} {G : Nat → Nat → Nat} {B : Nat → Nat → Int32} {sz az : Nat → Nat} {c5 c6 len : Nat} {Z : Nat → Int32} (h : PW N G B sz az c5 c6) (h1 : len ≤ 3000) (h2 : len ≤ N 2 + 8) (h5 : c5 + 8 ≤ 4200) (h6 : c6 + 8 ≤ 4500) : PW (va_up (va_up N 0 0) 2 len) G (va_up B 1 Z) sz az (c5 + 8) (c6 + 8) := by
  obtain ⟨q1, q2, q3, q4, q5, q6, q7, q8⟩ := h.2.2.2.2.2.2.1
  obtain ⟨r1, r2, r3, r4⟩ := h.2.2.2.2.2.2.2
  refine PW.same h LOW.rf rfl rfl rfl (Nat.le_refl _) (fun _ _ => rfl) h.1.1 ?_ ⟨?_, r2, r3, r4⟩
  · refine ⟨q1, ?_, h6, h5, ?_, q6, q7, q8⟩
    · show N 6 + len ≤ c6 + 8
      omega
    · show G 5 (N 6) + len ≤ c5 + 8
      omega
  · show len ≤ 3000
    exact h1
theorem LWI.up {F : Nat → Int32} {X : Nat → Nat → Int32} {gf gn : Nat} {N : Nat → Nat} {G : Nat → Nat → Nat} {B : Nat → Nat → Int32} {i : Nat} (h : LWI F X gf gn N G B i) : LWI F X gf gn N G B (i + 4) := by
  obtain ⟨h1, h2, c5, c6, sz, az, h3, h4, h5⟩ := h
  exact ⟨h1, h2, c5, c6, sz, az, h3, by omega, by omega⟩
theorem LWI.zero {F : Nat → Int32} {X : Nat → Nat → Int32} {gf gn : Nat} {N : Nat → Nat} {G : Nat → Nat → Nat} {B : Nat → Nat → Int32} {i : Nat} (h : LWI F X gf gn N G B i) : LWI F X gf gn (va_up N 0 0) G B (i + 4) := by
  obtain ⟨h1, h2, c5, c6, sz, az, h3, h4, h5⟩ := h
  exact ⟨h1, h2, c5, c6, sz, az, h3.zero, by omega, by omega⟩
theorem CI.rgA {F F1 : Nat → Int32} {X X1 : Nat → Nat → Int32} {gf gn : Nat} (h : CI F X gf gn) (h1 : 0 ≤ (F1 27).toInt ∧ (F1 27).toInt ≤ 3000) : CI (rg 27 27 F F1) (rg 26 26 X X1) gf gn := by
  obtain ⟨a1, a2, a3, a4, a5, a6, a7, a8, a9, b1, b2, b3, b4⟩ := h
  exact ⟨a1, a2, a3, a4, a5, a6, a7, a8, a9, b1, b2, b3, h1⟩
theorem CI.rgB {F F1 : Nat → Int32} {X : Nat → Nat → Int32} {gf gn : Nat} (h : CI F X gf gn) (h1 : 0 ≤ (F1 27).toInt ∧ (F1 27).toInt ≤ 3000) : CI (rg 27 27 F F1) X gf gn := by
  obtain ⟨a1, a2, a3, a4, a5, a6, a7, a8, a9, b1, b2, b3, b4⟩ := h
  exact ⟨a1, a2, a3, a4, a5, a6, a7, a8, a9, b1, b2, b3, h1⟩
theorem LWI.type {F F1 : Nat → Int32} {X X1 : Nat → Nat → Int32} {gf gn : Nat} {N : Nat → Nat} {G : Nat → Nat → Nat} {B : Nat → Nat → Int32} {i len : Nat} {Z : Nat → Int32} {x : Int64} {n r r2 : Int32} (h : LWI F X gf gn N G B i) (hi : i + 4 ≤ 2048) (t1 : TYP x n (F 27).toInt.toNat r (F1 27).toInt.toNat) (hp : 0 ≤ (F1 27).toInt) (t2 : TYP x n (N 2) r2 len) : r = r2 ∧ LWI (rg 27 27 F F1) (rg 26 26 X X1) gf gn (va_up (va_up N 0 0) 2 len) G (va_up B 1 Z) (i + 4) := by
  obtain ⟨h1, h2, c5, c6, sz, az, h3, h4, h5⟩ := h
  rw [← h2] at t1
  obtain ⟨e1, e2⟩ := t1.one t2
  have hn : N 2 ≤ 3000 := h3.2.2.2.2.2.2.2.1
  obtain ⟨l1, l2, l3⟩ := t2.lim hn
  refine ⟨e1, h1.rgA ⟨hp, by omega⟩, ?_, c5 + 8, c6 + 8, sz, az, h3.typed l1 l3 (by omega) (by omega), by omega, by omega⟩
  show len = (F1 27).toInt.toNat
  exact e2.symm
theorem LWI.read {F1 : Nat → Int32} {X1 : Nat → Nat → Int32} {gf1 gn1 : Nat} {N1 : Nat → Nat} {G1 : Nat → Nat → Nat} {B1 : Nat → Nat → Int32} {i c5 c6 : Nat} (h4 : c5 ≤ 58 + 2 * i) (h5 : c6 ≤ 9 + 2 * i) (hc : CI F1 X1 gf1 gn1) (h0 : (F1 27).toInt = 0) (hm : N1 2 = 0 ∧ ∃ sz1 az1, PW N1 G1 B1 sz1 az1 c5 c6) : LWI F1 X1 gf1 gn1 N1 G1 B1 (i + 4) := by
  obtain ⟨m1, sz, az, m2⟩ := hm
  exact ⟨hc, by rw [m1, h0]; rfl, c5, c6, sz, az, m2, by omega, by omega⟩
theorem lw_b (v : Int32) : -2147483648 ≤ v.toInt ∧ v.toInt < 2147483648 := ⟨Int32.le_toInt v, Int32.toInt_lt v⟩
theorem lw_gt {i L : Nat} (hi : i < 2 ^ 30) (hL : L < 2 ^ 30) : (nI L - 4 < nI i) ↔ L < i + 4 := by
  rw [Int32.lt_iff_toInt_lt, show (4 : Int32) = nI 4 from rfl, pk_sub_toInt hL (by decide), nI_toInt (by omega)]
  omega
theorem lw_in {i k L : Nat} (h : i + k < L) (hL : L < 2 ^ 31) : vp_in (nI i + nI k) L := by
  rw [nI_add]
  exact vp_in_nI h hL
