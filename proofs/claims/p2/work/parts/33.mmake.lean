def oX12_make : List Cond := [Cond.methodLink RX12 321 yX12_isEllipsis, Cond.instanceMethod yX12_isEllipsis, Cond.selects RX12 yX12_isEllipsis yX12_isEllipsis, Cond.initialized RX12, Cond.fieldLink RX12 41 "MacroScopesModel" "parts" "[I", Cond.fieldLink RX12 220 "MacroScopesModel" "partCount" "I", Cond.methodLink RX12 192 yX12_part, Cond.instanceMethod yX12_part, Cond.selects RX12 yX12_part yX12_part, Cond.fieldLink RX12 101 "MacroScopesModel" "lookHow" "[I", Cond.methodLink RX12 380 yX12_begin, Cond.instanceMethod yX12_begin, Cond.selects RX12 yX12_begin yX12_begin, Cond.fieldLink RX12 38 "MacroScopesModel" "counts" "[I", Cond.methodLink RX12 367 yX12_turnsOf, Cond.instanceMethod yX12_turnsOf, Cond.selects RX12 yX12_turnsOf yX12_turnsOf, Cond.fieldLink RX12 306 "MacroScopesModel" "looks" "I", Cond.fieldLink RX12 98 "MacroScopesModel" "look" "[I", Cond.fieldLink RX12 104 "MacroScopesModel" "lookOther" "[I", Cond.fieldLink RX12 35 "MacroScopesModel" "values" "[I", Cond.fieldLink RX12 374 "MacroScopesModel" "aliases" "I"]
def vX12_make : List Cond := .code yX12_make cX12_make 13 (some .int) :: (oX12_make ++ (vX12_isEllipsis ++ (vX12_part ++ (vX12_begin ++ (vX12_turnsOf ++ (wsX120))))))
theorem lkX12_make_f41 : Cond.fieldLink RX12 41 "MacroScopesModel" "parts" "[I" ∈ vX12_make := List.mem_cons_of_mem _ (List.mem_append_left _ (List.mem_of_getElem? (i := 4) rfl))
theorem lkX12_make_f220 : Cond.fieldLink RX12 220 "MacroScopesModel" "partCount" "I" ∈ vX12_make := List.mem_cons_of_mem _ (List.mem_append_left _ (List.mem_of_getElem? (i := 5) rfl))
theorem lkX12_make_f101 : Cond.fieldLink RX12 101 "MacroScopesModel" "lookHow" "[I" ∈ vX12_make := List.mem_cons_of_mem _ (List.mem_append_left _ (List.mem_of_getElem? (i := 9) rfl))
theorem lkX12_make_f38 : Cond.fieldLink RX12 38 "MacroScopesModel" "counts" "[I" ∈ vX12_make := List.mem_cons_of_mem _ (List.mem_append_left _ (List.mem_of_getElem? (i := 13) rfl))
theorem lkX12_make_f306 : Cond.fieldLink RX12 306 "MacroScopesModel" "looks" "I" ∈ vX12_make := List.mem_cons_of_mem _ (List.mem_append_left _ (List.mem_of_getElem? (i := 17) rfl))
theorem lkX12_make_f98 : Cond.fieldLink RX12 98 "MacroScopesModel" "look" "[I" ∈ vX12_make := List.mem_cons_of_mem _ (List.mem_append_left _ (List.mem_of_getElem? (i := 18) rfl))
theorem lkX12_make_f104 : Cond.fieldLink RX12 104 "MacroScopesModel" "lookOther" "[I" ∈ vX12_make := List.mem_cons_of_mem _ (List.mem_append_left _ (List.mem_of_getElem? (i := 19) rfl))
theorem lkX12_make_f35 : Cond.fieldLink RX12 35 "MacroScopesModel" "values" "[I" ∈ vX12_make := List.mem_cons_of_mem _ (List.mem_append_left _ (List.mem_of_getElem? (i := 20) rfl))
theorem lkX12_make_f374 : Cond.fieldLink RX12 374 "MacroScopesModel" "aliases" "I" ∈ vX12_make := List.mem_cons_of_mem _ (List.mem_append_left _ (List.mem_of_getElem? (i := 21) rfl))
theorem inX12_make : ∀ w ∈ wsX120, w ∈ vX12_make := fun w h => List.mem_cons_of_mem _ (List.mem_append_right _ (List.mem_append_right _ (List.mem_append_right _ (List.mem_append_right _ (List.mem_append_right _ (h))))))
theorem kX12_make_X12_isEllipsis_321 : GoodIn vX12_make (wsV RX12 321 RX12 yX12_isEllipsis vX12_isEllipsis) := goodIn_sub (fun w h => (List.mem_append.mp h).elim (fun h => List.mem_cons_of_mem _ (List.mem_append_left _ ((by decide +kernel : ∀ w ∈ ([.methodLink RX12 321 yX12_isEllipsis, .instanceMethod yX12_isEllipsis, .selects RX12 yX12_isEllipsis yX12_isEllipsis, .initialized RX12] : List Cond), w ∈ oX12_make) w h))) (fun h => List.mem_cons_of_mem _ (List.mem_append_right _ (List.mem_append_left _ (h))))) (by decide +kernel)
theorem kX12_make_X12_part_192 : GoodIn vX12_make (wsV RX12 192 RX12 yX12_part vX12_part) := goodIn_sub (fun w h => (List.mem_append.mp h).elim (fun h => List.mem_cons_of_mem _ (List.mem_append_left _ ((by decide +kernel : ∀ w ∈ ([.methodLink RX12 192 yX12_part, .instanceMethod yX12_part, .selects RX12 yX12_part yX12_part, .initialized RX12] : List Cond), w ∈ oX12_make) w h))) (fun h => List.mem_cons_of_mem _ (List.mem_append_right _ (List.mem_append_right _ (List.mem_append_left _ (h)))))) (by decide +kernel)
theorem kX12_make_X12_begin_380 : GoodIn vX12_make (wsV RX12 380 RX12 yX12_begin vX12_begin) := goodIn_sub (fun w h => (List.mem_append.mp h).elim (fun h => List.mem_cons_of_mem _ (List.mem_append_left _ ((by decide +kernel : ∀ w ∈ ([.methodLink RX12 380 yX12_begin, .instanceMethod yX12_begin, .selects RX12 yX12_begin yX12_begin, .initialized RX12] : List Cond), w ∈ oX12_make) w h))) (fun h => List.mem_cons_of_mem _ (List.mem_append_right _ (List.mem_append_right _ (List.mem_append_right _ (List.mem_append_left _ (h))))))) (by decide +kernel)
theorem kX12_make_X12_turnsOf_367 : GoodIn vX12_make (wsV RX12 367 RX12 yX12_turnsOf vX12_turnsOf) := goodIn_sub (fun w h => (List.mem_append.mp h).elim (fun h => List.mem_cons_of_mem _ (List.mem_append_left _ ((by decide +kernel : ∀ w ∈ ([.methodLink RX12 367 yX12_turnsOf, .instanceMethod yX12_turnsOf, .selects RX12 yX12_turnsOf yX12_turnsOf, .initialized RX12] : List Cond), w ∈ oX12_make) w h))) (fun h => List.mem_cons_of_mem _ (List.mem_append_right _ (List.mem_append_right _ (List.mem_append_right _ (List.mem_append_right _ (List.mem_append_left _ (h)))))))) (by decide +kernel)
set_option maxHeartbeats 4000000 in
set_option maxRecDepth 100000 in
theorem lp_mk1 {p : Program} {l : Launch} {e : Env} {s : State} {m : MethodId} {args : Array Value} {below : List Frame} {meth : Method} {c : Code} {Q : State → Prop} {A : Nat → Prop} {dC : Nat → ClassId} {dI : Nat → Nat → Nat} {cB cC cI cJ cZ : ClassId} {z0 : Nat} {R : Nat → Nat} (hx : p.tables.exec = Jvm.exec) (hb : c.code = cX12_make) (hml : c.maxLocals = 13) (hown : s.vm.findClass RX12 = some m.cls) (hts : ∀ w ∈ vX12_make, w.before args s = true) (hK : va_K (dC, dI) vwCl (TY cB cC cI cJ cZ) s) (hA : ∀ q : Nat, s.heap.size ≤ q → A q) {pl : Int32} {B : Nat → Nat → Int32} {N0 : Nat → Nat} {G0 : Nat → Nat → Nat} {sz0 E : Nat → Nat} {rin : Nat} (h0 : FMS N0 G0 sz0) (hq0 : TREQ N0 G0 sz0) (hk9 : KEPT N0 G0) (hRE : ∀ x, (0 < VAR N0 G0 x ∧ 0 < G0 48 (VAR N0 G0 x - 1)) ↔ 0 < E x) (b14 : N0 14 ≤ 80000) (b15 : N0 15 ≤ 80000) (b20 : N0 20 ≤ 64000) (hrin : rin < 1048576) (fa r1 : Nat) (hfa : fa ≤ 65000) (a1 p0 m0 h9 fs kx ee tq : Nat) (htq1 : tq < 1048580) (htq : ¬ ELL G0 p0 kx → tq - 2 = TK N0 G0 sz0 p0 kx) (hkx : kx < G0 12 p0) (hee1 : ee ≤ 1) (hee : ee = 0 ↔ ¬ ELL G0 p0 (kx + 1)) (ke : ∀ (N : Nat → Nat) (G : Nat → Nat → Nat) (sz : Nat → Nat) (H : Heap) (locs : List Loc), (r1 < N 14 ∧ sz r1 ≤ 600) → G 52 a1 = m0 → MKP N0 G0 sz0 E rin a1 p0 h9 fs (sumW (SZK N0 G0 sz0 p0 h9) (kx + 1) (G0 12 p0 - (kx + 1))) N G sz → va_P (dC, dI) vwCl (MW cB cC cI cJ cZ z0 R pl N G B) H → va_D A (MW cB cC cI cJ cZ z0 R pl N G B) → va_S A s.heap H locs → ∀ (ls : Array Slot), lv_has ls 13 [(0, .ref z0), (2, .int (nI rin)), (3, .int (nI fa)), (4, .int (nI r1)), (5, .int (nI a1)), (6, .int (nI p0)), (7, .int (nI m0)), (8, .int (nI fs)), (9, .int (nI kx))] → W p l e (headSpec vX12_make { frames := 3, cells := 0, slots := 0, locals := 70 }).room s m args below meth c H locs 0 0 Q (F0 m 183 ls [])) : ∀ (k : Nat) (i : Nat) (N : Nat → Nat) (G : Nat → Nat → Nat) (sz : Nat → Nat), TK N0 G0 sz0 p0 kx - i < k → i ≤ TK N0 G0 sz0 p0 kx → (r1 < N 14 ∧ sz r1 ≤ 600) → G 52 a1 = m0 → MKP N0 G0 sz0 E rin a1 p0 h9 fs (sumW (fun j => SZM N0 G0 sz0 (CH G0 p0 kx) (HK G0 p0 h9 kx j)) i (TK N0 G0 sz0 p0 kx - i) + sumW (SZK N0 G0 sz0 p0 h9) (kx + 1) (G0 12 p0 - (kx + 1))) N G sz → ∀ (H : Heap) (locs : List Loc), va_P (dC, dI) vwCl (MW cB cC cI cJ cZ z0 R pl N G B) H → va_D A (MW cB cC cI cJ cZ z0 R pl N G B) → va_S A s.heap H locs → ∀ (ls : Array Slot), lv_has ls 13 [(0, .ref z0), (2, .int (nI rin)), (3, .int (nI fa)), (4, .int (nI r1)), (5, .int (nI a1)), (6, .int (nI p0)), (7, .int (nI m0)), (8, .int (nI fs)), (9, .int (nI kx)), (10, .int (nI ee)), (11, .int (nI tq - 2)), (12, .int (nI i))] → W p l e (headSpec vX12_make { frames := 3, cells := 0, slots := 0, locals := 70 }).room s m args below meth c H locs 0 0 Q (F0 m 109 ls []) := by
  have hcs : 0 + 0 ≤ (0 : Nat) ∧ 0 + 0 ≤ (0 : Nat) := ⟨Nat.le_refl 0, Nat.le_refl 0⟩
  intro k
  induction k with
  | zero =>
    intro i N G sz hk hib hr1 hm hp H locs hP hD hS ls hl
    exact absurd hk (Nat.not_lt_zero _)
  | succ k ih =>
    intro i N G sz hk hib hr1 hm hp H locs hP hD hS ls hl
    obtain ⟨hp0, hp2, hgp, n1, n2, n3, n4, hp9, n5, n6, n7⟩ := hp.num b14 b15 b20
    have hgr := hp.1.1
    obtain ⟨hG2, hal, ht9, hkd, hpb⟩ := hp.1.2.1
    have hfm := hp.1.2.1
    have hel : ∀ j, ELL G p0 j ↔ ELL G0 p0 j := fun j => hgr.ell h0 hfm hp0
    have u6 := ht9.1
    have hp8 : p0 < 90000 := by omega
    have e12 := (hgr.2.2.2.1 p0 hp0).2.2.1
    have g1 := hG2 12 p0
    have t8 := cnt_le ht9 hp9
    have t9 := (ht9.2 p0 hp9).2.1
    have tkl := TK_le (sz := sz0) hk9 p0 kx
    refine lv_iload hx hb dX12_make_109 (lv_at hl 11 rfl) ?_
    refine lv_iload hx hb dX12_make_111 (lv_at hl 10 rfl) ?_
    refine lv_icmp_ge (tgt := 183) hx hb dX12_make_113 (by decide) (fun c1 => ?_) (fun c1 => ?_)
    · have c1 := (p2_ge (by omega) (by omega)).mp c1
      have hx9 : TK N0 G0 sz0 p0 kx - i = 0 := by
        by_cases ce : ELL G0 p0 kx
        · rw [TK, if_pos ce]; exact Nat.zero_sub _
        · rw [← htq ce]; omega
      rw [hx9, sumW, Nat.zero_add] at hp
      exact ke N G sz H locs hr1 hm hp hP hD hS ls (lv_sub hl [0, 1, 2, 3, 4, 5, 6, 7, 8] rfl)
    · have c1 : i + 2 < tq := Nat.lt_of_not_le (fun y => c1 ((p2_ge (by omega) (by omega)).mpr y))
      refine lv_aload_n hx hb dX12_make_116 rfl (lv_at hl 0 rfl) ?_
      refine lv_iload hx hb dX12_make_117 (lv_at hl 5 rfl) ?_
      refine lv_iload hx hb dX12_make_119 (lv_at hl 8 rfl) ?_
      refine mcl_i (As := [.int (nI p0), .int (nI kx)]) (rest := []) ⟨hx, hb, hml, hown, hts⟩ (m_isEllipsis l dC dI cB cC cI cJ cZ z0 R pl N G B p0 kx hG2 hal (by omega) (by omega) (fun y => ⟨(ht9.pt hp9 y).1, (ht9.pt hp9 y).2.2.1, (ht9.2 _ (ht9.pt hp9 y).2.1).2.2.2.1⟩) H.size) (cwV 2 hts kX12_make_X12_isEllipsis_321 rfl rfl rfl (by decide +kernel) ⟨Nat.le_of_ble_eq_true rfl, Nat.le_of_ble_eq_true rfl⟩) hK hP hD hS hA rfl rfl hl.1 (lv_room (Nat.le_of_ble_eq_true rfl)) dX12_make_121 hcs (fun r_5 N_1 G_2 B_3 pl_4 hw H locs hP hD hS => ?_)
      dsimp only at hw
      obtain ⟨e1, e2, e3, e4, hw⟩ := hw
      rw [e1, e2, e3, e4] at hP hD
      by_cases c2 : ELL G p0 kx
      · rw [if_pos c2] at hw
        subst hw
        have c2 := (hel _).mp c2
        refine bz_ne (tgt := 183) hx hb (by first | omega | exact Nat.lt_of_lt_of_le (hG _ _) (by decide)) dX12_make_124 (by decide) (fun c => ?_) (fun q9 => absurd q9 (by omega))
        have hx9 : TK N0 G0 sz0 p0 kx - i = 0 := by
          rw [TK, if_pos c2]; exact Nat.zero_sub _
        rw [hx9, sumW, Nat.zero_add] at hp
        exact ke N G sz H locs hr1 hm hp hP hD hS ls (lv_sub hl [0, 1, 2, 3, 4, 5, 6, 7, 8] rfl)
      · rw [if_neg c2] at hw
        subst hw
        have c2 := fun y => c2 ((hel _).mpr y)
        have hi9 : i < TK N0 G0 sz0 p0 kx := by rw [← htq c2]; omega
        have hgc := hgp.part h0.2.2.1 hk9 hp0 hkx hi9
        have hcc := (h0.2.2.1.pt hp0 hkx).2.1
        rw [sumW_step _ hi9, Nat.add_assoc] at hp
        have hpos := SZM_pos h0.2.2.1 hk9 hRE hgc hcc
        obtain ⟨-, -, -, q1, q2, q3, q4, -⟩ := hp.num b14 b15 b20
        refine bz_ne (tgt := 183) hx hb (by first | omega | exact Nat.lt_of_lt_of_le (hG _ _) (by decide)) dX12_make_124 (by decide) (fun q9 => absurd q9 (by omega)) (fun c => ?_)
        refine lv_aload_n hx hb dX12_make_127 rfl (lv_at hl 0 rfl) ?_
        refine mg_13 hx hb hts inX12_make hown hK hP (hts _ lkX12_make_f41) dX12_make_128 ?_
        refine lv_aload_n hx hb dX12_make_131 rfl (lv_at hl 0 rfl) ?_
        refine mg_15 hx hb hts inX12_make hown hK hP (hts _ lkX12_make_f220) dX12_make_132 ?_
        refine lv_aload_n hx hb dX12_make_135 rfl (lv_at hl 0 rfl) ?_
        refine lv_aload_n hx hb dX12_make_136 rfl (lv_at hl 0 rfl) ?_
        refine lv_iload hx hb dX12_make_137 (lv_at hl 5 rfl) ?_
        refine lv_iload hx hb dX12_make_139 (lv_at hl 8 rfl) ?_
        obtain ⟨tp1, tp2, tp3, tp4⟩ := ht9.pt hp9 (show kx < G 12 p0 by omega)
        refine mcl_i (As := [.int (nI p0), .int (nI kx)]) (rest := [.ref z0, .int (nI (N 15)), .ref (R 13)]) ⟨hx, hb, hml, hown, hts⟩ (m_part l dC dI cB cC cI cJ cZ z0 R pl N G B p0 kx hG2 (by omega) tp1 H.size) (cwV 2 hts kX12_make_X12_part_192 rfl rfl rfl (by decide +kernel) ⟨Nat.le_of_ble_eq_true rfl, Nat.le_of_ble_eq_true rfl⟩) hK hP hD hS hA rfl rfl hl.1 (lv_room (Nat.le_of_ble_eq_true rfl)) dX12_make_141 hcs (fun r_10 N_6 G_7 B_8 pl_9 hw H locs hP hD hS => ?_)
        dsimp only at hw
        obtain ⟨e1, e2, e3, e4, hw⟩ := hw
        rw [e1, e2, e3, e4] at hP hD
        subst hw
        have ech : CH G p0 kx = CH G0 p0 kx := hgr.ch h0 hp0 (by omega)
        rw [ech] at tp2 tp3
        refine tp_i (y := nI (CH G0 p0 kx)) (by rw [ech]) ?_
        refine lv_iload hx hb dX12_make_144 (lv_at hl 9 rfl) ?_
        refine bz_eq (tgt := 154) hx hb (by first | omega | exact Nat.lt_of_lt_of_le (hG _ _) (by decide)) dX12_make_146 (by decide) (fun c3 => ?_) (fun c3 => ?_)
        · have ehk : HK G0 p0 h9 kx i = h9 := if_neg (hee.mp c3)
          rw [ehk] at hgc hpos hp q1 q2 q3
          obtain ⟨k1, k2, k3, k4, k5⟩ := MKW.hyps h0 hk9 hRE hp.1 hcc hgc
          have g51 := hp.2.2.1.2
          refine lv_aload_n hx hb dX12_make_154 rfl (lv_at hl 0 rfl) ?_
          refine mg_51 hx hb hts inX12_make hown hK hP (hts _ lkX12_make_f101) dX12_make_155 ?_
          refine lv_iload hx hb dX12_make_158 (lv_at hl 4 rfl) ?_
          refine ml_51 hx hb hK hP (by omega) dX12_make_160 ?_
          refine tp_i (y := nI h9) (by rw [g51]) ?_
          refine lv_iload_n hx hb dX12_make_161 rfl (lv_at hl 2 rfl) ?_
          refine lv_iload_n hx hb dX12_make_162 rfl (lv_at hl 1 rfl) ?_
          refine mcl_i (As := [.int (nI (CH G0 p0 kx)), .int (nI h9), .int (nI fa), .int (nI rin)]) (rest := [.int (nI (N 15)), .ref (R 13)]) ⟨hx, hb, hml, hown, hts⟩ (m_begin l dC dI cB cC cI cJ cZ z0 R pl N G B (CH G0 p0 kx) h9 fa rin hG2 k1 k2 k3 hrin k4 (by omega) (by omega) (by omega) hfa k5 H.size) (cwV 4 hts kX12_make_X12_begin_380 rfl rfl rfl (by decide +kernel) ⟨Nat.le_of_ble_eq_true rfl, Nat.le_of_ble_eq_true rfl⟩) hK hP hD hS hA rfl rfl hl.1 (lv_room (Nat.le_of_ble_eq_true rfl)) dX12_make_163 hcs (fun r_15 N_11 G_12 B_13 pl_14 hw H locs hP hD hS => ?_)
          dsimp only at hw
          obtain ⟨e3, e4, r9, hw, hbg⟩ := hw
          rw [e3, e4] at hP hD
          subst hw
          obtain ⟨sz2, hp2, z1, z2, z3⟩ := MKP.put h0 hq0 hk9 hRE hp hbg hcc hgc b14 b15 b20
          refine ms_13 hx hb hK hP hD hS (by omega) dX12_make_166 (fun H locs hP hD hS => ?_)
          refine lv_aload_n hx hb dX12_make_167 rfl (lv_at hl 0 rfl) ?_
          refine lv_dup hx hb dX12_make_168 rfl ?_
          refine mg_15 hx hb hts inX12_make hown hK hP (hts _ lkX12_make_f220) dX12_make_169 ?_
          refine lv_iconst (v := nI 1) hx hb dX12_make_172 (by decide) ?_
          refine lv_iadd hx hb dX12_make_173 ?_
          refine tp_i (nI_add (N_11 15) 1) ?_
          refine mp_15 hx hb hts inX12_make hown hK hP hD hS (hts _ lkX12_make_f220) dX12_make_174 (fun H locs hP hD hS => ?_)
          refine lv_iinc (v := nI (i + 1)) (lv' := [(12, .int (nI (i + 1))), (0, .ref z0), (2, .int (nI rin)), (3, .int (nI fa)), (4, .int (nI r1)), (5, .int (nI a1)), (6, .int (nI p0)), (7, .int (nI m0)), (8, .int (nI fs)), (9, .int (nI kx)), (10, .int (nI ee)), (11, .int (nI tq - 2))]) hx hb dX12_make_177 hl (k := 11) rfl (nI_add i 1) (by decide) rfl (fun ls hl => ?_)
          refine lv_goto (tgt := 109) hx hb dX12_make_180 (by decide) ?_
          exact ih (i + 1) (va_up N_11 15 ((N_11 15) + 1)) (va_up G_12 13 (va_up (G_12 13) (N 15) r9)) sz2 (by omega) (by omega) ⟨Nat.lt_of_lt_of_le hr1.1 z2, by rw [z1 _ hr1.1]; exact hr1.2⟩ (z3.trans hm) hp2 _ _ hP hD hS ls (lv_sub hl [1, 2, 3, 4, 5, 6, 7, 8, 9, 10, 11, 0] rfl)
        · have ehk : HK G0 p0 h9 kx i = i := if_pos (Classical.byContradiction (fun z => by have := hee.mpr z; omega))
          rw [ehk] at hgc hpos hp q1 q2 q3
          obtain ⟨k1, k2, k3, k4, k5⟩ := MKW.hyps h0 hk9 hRE hp.1 hcc hgc
          refine lv_iload hx hb dX12_make_149 (lv_at hl 11 rfl) ?_
          refine lv_goto (tgt := 161) hx hb dX12_make_151 (by decide) ?_
          refine lv_iload_n hx hb dX12_make_161 rfl (lv_at hl 2 rfl) ?_
          refine lv_iload_n hx hb dX12_make_162 rfl (lv_at hl 1 rfl) ?_
          refine mcl_i (As := [.int (nI (CH G0 p0 kx)), .int (nI i), .int (nI fa), .int (nI rin)]) (rest := [.int (nI (N 15)), .ref (R 13)]) ⟨hx, hb, hml, hown, hts⟩ (m_begin l dC dI cB cC cI cJ cZ z0 R pl N G B (CH G0 p0 kx) i fa rin hG2 k1 k2 k3 hrin k4 (by omega) (by omega) (by omega) hfa k5 H.size) (cwV 4 hts kX12_make_X12_begin_380 rfl rfl rfl (by decide +kernel) ⟨Nat.le_of_ble_eq_true rfl, Nat.le_of_ble_eq_true rfl⟩) hK hP hD hS hA rfl rfl hl.1 (lv_room (Nat.le_of_ble_eq_true rfl)) dX12_make_163 hcs (fun r_20 N_16 G_17 B_18 pl_19 hw H locs hP hD hS => ?_)
          dsimp only at hw
          obtain ⟨e3, e4, r9, hw, hbg⟩ := hw
          rw [e3, e4] at hP hD
          subst hw
          obtain ⟨sz2, hp2, z1, z2, z3⟩ := MKP.put h0 hq0 hk9 hRE hp hbg hcc hgc b14 b15 b20
          refine ms_13 hx hb hK hP hD hS (by omega) dX12_make_166 (fun H locs hP hD hS => ?_)
          refine lv_aload_n hx hb dX12_make_167 rfl (lv_at hl 0 rfl) ?_
          refine lv_dup hx hb dX12_make_168 rfl ?_
          refine mg_15 hx hb hts inX12_make hown hK hP (hts _ lkX12_make_f220) dX12_make_169 ?_
          refine lv_iconst (v := nI 1) hx hb dX12_make_172 (by decide) ?_
          refine lv_iadd hx hb dX12_make_173 ?_
          refine tp_i (nI_add (N_16 15) 1) ?_
          refine mp_15 hx hb hts inX12_make hown hK hP hD hS (hts _ lkX12_make_f220) dX12_make_174 (fun H locs hP hD hS => ?_)
          refine lv_iinc (v := nI (i + 1)) (lv' := [(12, .int (nI (i + 1))), (0, .ref z0), (2, .int (nI rin)), (3, .int (nI fa)), (4, .int (nI r1)), (5, .int (nI a1)), (6, .int (nI p0)), (7, .int (nI m0)), (8, .int (nI fs)), (9, .int (nI kx)), (10, .int (nI ee)), (11, .int (nI tq - 2))]) hx hb dX12_make_177 hl (k := 11) rfl (nI_add i 1) (by decide) rfl (fun ls hl => ?_)
          refine lv_goto (tgt := 109) hx hb dX12_make_180 (by decide) ?_
          exact ih (i + 1) (va_up N_16 15 ((N_16 15) + 1)) (va_up G_17 13 (va_up (G_17 13) (N 15) r9)) sz2 (by omega) (by omega) ⟨Nat.lt_of_lt_of_le hr1.1 z2, by rw [z1 _ hr1.1]; exact hr1.2⟩ (z3.trans hm) hp2 _ _ hP hD hS ls (lv_sub hl [1, 2, 3, 4, 5, 6, 7, 8, 9, 10, 11, 0] rfl)

set_option maxHeartbeats 4000000 in
set_option maxRecDepth 100000 in
theorem lp_mk2 {p : Program} {l : Launch} {e : Env} {s : State} {m : MethodId} {args : Array Value} {below : List Frame} {meth : Method} {c : Code} {Q : State → Prop} {A : Nat → Prop} {dC : Nat → ClassId} {dI : Nat → Nat → Nat} {cB cC cI cJ cZ : ClassId} {z0 : Nat} {R : Nat → Nat} (hx : p.tables.exec = Jvm.exec) (hb : c.code = cX12_make) (hml : c.maxLocals = 13) (hown : s.vm.findClass RX12 = some m.cls) (hts : ∀ w ∈ vX12_make, w.before args s = true) (hK : va_K (dC, dI) vwCl (TY cB cC cI cJ cZ) s) (hA : ∀ q : Nat, s.heap.size ≤ q → A q) {pl : Int32} {B : Nat → Nat → Int32} {N0 : Nat → Nat} {G0 : Nat → Nat → Nat} {sz0 E : Nat → Nat} {rin : Nat} (h0 : FMS N0 G0 sz0) (hq0 : TREQ N0 G0 sz0) (hk9 : KEPT N0 G0) (hRE : ∀ x, (0 < VAR N0 G0 x ∧ 0 < G0 48 (VAR N0 G0 x - 1)) ↔ 0 < E x) (b14 : N0 14 ≤ 80000) (b15 : N0 15 ≤ 80000) (b20 : N0 20 ≤ 64000) (hrin : rin < 1048576) (fa r1 : Nat) (hfa : fa ≤ 65000) (a1 p0 m0 h9 fs : Nat) (ke : ∀ (N : Nat → Nat) (G : Nat → Nat → Nat) (sz : Nat → Nat) (H : Heap) (locs : List Loc), (r1 < N 14 ∧ sz r1 ≤ 600) → G 52 a1 = m0 → MKP N0 G0 sz0 E rin a1 p0 h9 fs (0) N G sz → va_P (dC, dI) vwCl (MW cB cC cI cJ cZ z0 R pl N G B) H → va_D A (MW cB cC cI cJ cZ z0 R pl N G B) → va_S A s.heap H locs → ∀ (ls : Array Slot), lv_has ls 13 [(0, .ref z0), (2, .int (nI rin)), (3, .int (nI fa)), (4, .int (nI r1)), (5, .int (nI a1)), (6, .int (nI p0)), (7, .int (nI m0)), (8, .int (nI fs))] → W p l e (headSpec vX12_make { frames := 3, cells := 0, slots := 0, locals := 70 }).room s m args below meth c H locs 0 0 Q (F0 m 189 ls [])) : ∀ (k : Nat) (kx : Nat) (N : Nat → Nat) (G : Nat → Nat → Nat) (sz : Nat → Nat), G0 12 p0 - kx < k → kx ≤ 1048576 → (r1 < N 14 ∧ sz r1 ≤ 600) → G 52 a1 = m0 → MKP N0 G0 sz0 E rin a1 p0 h9 fs (sumW (SZK N0 G0 sz0 p0 h9) kx (G0 12 p0 - kx)) N G sz → ∀ (H : Heap) (locs : List Loc), va_P (dC, dI) vwCl (MW cB cC cI cJ cZ z0 R pl N G B) H → va_D A (MW cB cC cI cJ cZ z0 R pl N G B) → va_S A s.heap H locs → ∀ (ls : Array Slot), lv_has ls 13 [(0, .ref z0), (2, .int (nI rin)), (3, .int (nI fa)), (4, .int (nI r1)), (5, .int (nI a1)), (6, .int (nI p0)), (7, .int (nI m0)), (8, .int (nI fs)), (9, .int (nI kx))] → W p l e (headSpec vX12_make { frames := 3, cells := 0, slots := 0, locals := 70 }).room s m args below meth c H locs 0 0 Q (F0 m 59 ls []) := by
  have hcs : 0 + 0 ≤ (0 : Nat) ∧ 0 + 0 ≤ (0 : Nat) := ⟨Nat.le_refl 0, Nat.le_refl 0⟩
  intro k
  induction k with
  | zero =>
    intro kx N G sz hk hkb hr1 hm hp H locs hP hD hS ls hl
    exact absurd hk (Nat.not_lt_zero _)
  | succ k ih =>
    intro kx N G sz hk hkb hr1 hm hp H locs hP hD hS ls hl
    obtain ⟨hp0, hp2, hgp, n1, n2, n3, n4, hp9, n5, n6, n7⟩ := hp.num b14 b15 b20
    have hgr := hp.1.1
    obtain ⟨hG2, hal, ht9, hkd, hpb⟩ := hp.1.2.1
    have hfm := hp.1.2.1
    have hel : ∀ j, ELL G p0 j ↔ ELL G0 p0 j := fun j => hgr.ell h0 hfm hp0
    have u6 := ht9.1
    have hp8 : p0 < 90000 := by omega
    have e12 := (hgr.2.2.2.1 p0 hp0).2.2.1
    have g1 := hG2 12 p0
    have t8 := cnt_le ht9 hp9
    have t9 := (ht9.2 p0 hp9).2.1
    refine lv_iload hx hb dX12_make_59 (lv_at hl 8 rfl) ?_
    refine lv_aload_n hx hb dX12_make_61 rfl (lv_at hl 0 rfl) ?_
    refine mg_12 hx hb hts inX12_make hown hK hP (hts _ lkX12_make_f38) dX12_make_62 ?_
    refine lv_iload hx hb dX12_make_65 (lv_at hl 5 rfl) ?_
    refine ml_12 hx hb hK hP (by omega) dX12_make_67 ?_
    refine bn_ge (tgt := 189) hx hb (by first | omega | exact Nat.lt_of_lt_of_le (hG _ _) (by decide)) (by first | omega | exact Nat.lt_of_lt_of_le (hG _ _) (by decide)) dX12_make_68 (by decide) (fun c1 => ?_) (fun c1 => ?_)
    · rw [show G0 12 p0 - kx = 0 by omega, sumW] at hp
      exact ke N G sz H locs hr1 hm hp hP hD hS ls (lv_sub hl [0, 1, 2, 3, 4, 5, 6, 7] rfl)
    · have hkx : kx < G0 12 p0 := by omega
      rw [sumW_step _ hkx] at hp
      refine lv_aload_n hx hb dX12_make_71 rfl (lv_at hl 0 rfl) ?_
      refine lv_iload hx hb dX12_make_72 (lv_at hl 5 rfl) ?_
      refine lv_iload hx hb dX12_make_74 (lv_at hl 8 rfl) ?_
      refine lv_iconst (v := nI 1) hx hb dX12_make_76 (by decide) ?_
      refine lv_iadd hx hb dX12_make_77 ?_
      refine tp_i (nI_add kx 1) ?_
      refine mcl_i (As := [.int (nI p0), .int (nI (kx + 1))]) (rest := []) ⟨hx, hb, hml, hown, hts⟩ (m_isEllipsis l dC dI cB cC cI cJ cZ z0 R pl N G B p0 (kx + 1) hG2 hal (by omega) (by omega) (fun y => ⟨(ht9.pt hp9 y).1, (ht9.pt hp9 y).2.2.1, (ht9.2 _ (ht9.pt hp9 y).2.1).2.2.2.1⟩) H.size) (cwV 2 hts kX12_make_X12_isEllipsis_321 rfl rfl rfl (by decide +kernel) ⟨Nat.le_of_ble_eq_true rfl, Nat.le_of_ble_eq_true rfl⟩) hK hP hD hS hA rfl rfl hl.1 (lv_room (Nat.le_of_ble_eq_true rfl)) dX12_make_78 hcs (fun r_5 N_1 G_2 B_3 pl_4 hw H locs hP hD hS => ?_)
      dsimp only at hw
      obtain ⟨e1, e2, e3, e4, hw⟩ := hw
      rw [e1, e2, e3, e4] at hP hD
      by_cases c2 : ELL G p0 (kx + 1)
      · rw [if_pos c2] at hw
        subst hw
        have c2 := (hel _).mp c2
        refine lv_istore (lv' := [(10, .int (nI 1)), (0, .ref z0), (2, .int (nI rin)), (3, .int (nI fa)), (4, .int (nI r1)), (5, .int (nI a1)), (6, .int (nI p0)), (7, .int (nI m0)), (8, .int (nI fs)), (9, .int (nI kx))]) hx hb dX12_make_81 hl (by decide) rfl (fun ls hl => ?_)
        refine lv_iload hx hb dX12_make_83 (lv_at hl 0 rfl) ?_
        refine bz_eq (tgt := 103) hx hb (by first | omega | exact Nat.lt_of_lt_of_le (hG _ _) (by decide)) dX12_make_85 (by decide) (fun q9 => absurd q9 (by omega)) (fun c => ?_)
        refine lv_aload_n hx hb dX12_make_88 rfl (lv_at hl 1 rfl) ?_
        refine lv_aload_n hx hb dX12_make_89 rfl (lv_at hl 1 rfl) ?_
        refine lv_iload hx hb dX12_make_90 (lv_at hl 6 rfl) ?_
        refine lv_iload hx hb dX12_make_92 (lv_at hl 9 rfl) ?_
        obtain ⟨tp1, tp2, tp3, tp4⟩ := ht9.pt hp9 (show kx < G 12 p0 by omega)
        refine mcl_i (As := [.int (nI p0), .int (nI kx)]) (rest := [.ref z0]) ⟨hx, hb, hml, hown, hts⟩ (m_part l dC dI cB cC cI cJ cZ z0 R pl N G B p0 kx hG2 (by omega) tp1 H.size) (cwV 2 hts kX12_make_X12_part_192 rfl rfl rfl (by decide +kernel) ⟨Nat.le_of_ble_eq_true rfl, Nat.le_of_ble_eq_true rfl⟩) hK hP hD hS hA rfl rfl hl.1 (lv_room (Nat.le_of_ble_eq_true rfl)) dX12_make_94 hcs (fun r_10 N_6 G_7 B_8 pl_9 hw H locs hP hD hS => ?_)
        dsimp only at hw
        obtain ⟨e1, e2, e3, e4, hw⟩ := hw
        rw [e1, e2, e3, e4] at hP hD
        subst hw
        have ech : CH G p0 kx = CH G0 p0 kx := hgr.ch h0 hp0 (by omega)
        rw [ech] at tp2 tp3
        refine tp_i (y := nI (CH G0 p0 kx)) (by rw [ech]) ?_
        rw [← ech] at tp2
        refine tp_i (y := nI (CH G p0 kx)) (by rw [ech]) ?_
        have hn49 : N 49 ≤ 1600 := by rw [hgr.1 49 (by decide) (by decide) (by decide) (by decide)]; exact hk9.1
        refine mcl_i (As := [.int (nI (CH G p0 kx))]) (rest := []) ⟨hx, hb, hml, hown, hts⟩ (m_turnsOf l dC dI cB cC cI cJ cZ z0 R pl N G B (CH G p0 kx) sz hG2 ht9 hn49 tp2 H.size) (cwV 1 hts kX12_make_X12_turnsOf_367 rfl rfl rfl (by decide +kernel) ⟨Nat.le_of_ble_eq_true rfl, Nat.le_of_ble_eq_true rfl⟩) hK hP hD hS hA rfl rfl hl.1 (lv_room (Nat.le_of_ble_eq_true rfl)) dX12_make_97 hcs (fun r_15 N_11 G_12 B_13 pl_14 hw H locs hP hD hS => ?_)
        dsimp only at hw
        obtain ⟨e1, ⟨I2, hI2, e2⟩, e3, e4, q9, hq8, hw, hq7⟩ := hw
        rw [e1, e2, e3, e4] at hP hD
        subst hw
        rw [ech, hgr.trn h0 hfm (h0.2.2.1.pt hp0 hkx).2.1] at hq7
        refine lv_goto (tgt := 104) hx hb dX12_make_100 (by decide) ?_
        refine lv_istore (lv' := [(11, .int (nI q9 - 2)), (10, .int (nI 1)), (0, .ref z0), (2, .int (nI rin)), (3, .int (nI fa)), (4, .int (nI r1)), (5, .int (nI a1)), (6, .int (nI p0)), (7, .int (nI m0)), (8, .int (nI fs)), (9, .int (nI kx))]) hx hb dX12_make_104 hl (by decide) rfl (fun ls hl => ?_)
        refine lv_iconst (v := nI 0) hx hb dX12_make_106 (by decide) ?_
        refine lv_istore (lv' := [(12, .int (nI 0)), (11, .int (nI q9 - 2)), (10, .int (nI 1)), (0, .ref z0), (2, .int (nI rin)), (3, .int (nI fa)), (4, .int (nI r1)), (5, .int (nI a1)), (6, .int (nI p0)), (7, .int (nI m0)), (8, .int (nI fs)), (9, .int (nI kx))]) hx hb dX12_make_107 hl (by decide) rfl (fun ls hl => ?_)
        refine lp_mk1 hx hb hml hown hts hK hA h0 hq0 hk9 hRE b14 b15 b20 hrin fa r1 hfa a1 p0 m0 h9 fs kx 1 q9 (hq8) (fun ce => by rw [hq7, TK, if_neg ce, if_pos c2]) hkx (by decide) (⟨fun y => absurd y (by decide), fun y => absurd c2 y⟩) (fun N G sz H locs hr1 hm hp hP hD hS ls hl => ?_) _ 0 N (va_up G 54 I2) sz (Nat.lt_succ_self _) (Nat.zero_le _) hr1 hm (by rw [Nat.sub_zero]; exact hp.i54 hI2) _ _ hP hD hS ls (lv_sub hl [3, 4, 5, 6, 7, 8, 9, 10, 11, 2, 1, 0] rfl)
        refine lv_iinc (v := nI (kx + 1)) (lv' := [(9, .int (nI (kx + 1))), (0, .ref z0), (2, .int (nI rin)), (3, .int (nI fa)), (4, .int (nI r1)), (5, .int (nI a1)), (6, .int (nI p0)), (7, .int (nI m0)), (8, .int (nI fs))]) hx hb dX12_make_183 hl (k := 8) rfl (nI_add kx 1) (by decide) rfl (fun ls hl => ?_)
        refine lv_goto (tgt := 59) hx hb dX12_make_186 (by decide) ?_
        exact ih (kx + 1) N G sz (by omega) (by omega) hr1 hm hp _ _ hP hD hS ls (lv_sub hl [1, 2, 3, 4, 5, 6, 7, 8, 0] rfl)
      · rw [if_neg c2] at hw
        subst hw
        have c2 := fun y => c2 ((hel _).mpr y)
        refine lv_istore (lv' := [(10, .int (nI 0)), (0, .ref z0), (2, .int (nI rin)), (3, .int (nI fa)), (4, .int (nI r1)), (5, .int (nI a1)), (6, .int (nI p0)), (7, .int (nI m0)), (8, .int (nI fs)), (9, .int (nI kx))]) hx hb dX12_make_81 hl (by decide) rfl (fun ls hl => ?_)
        refine lv_iload hx hb dX12_make_83 (lv_at hl 0 rfl) ?_
        refine bz_eq (tgt := 103) hx hb (by first | omega | exact Nat.lt_of_lt_of_le (hG _ _) (by decide)) dX12_make_85 (by decide) (fun c => ?_) (fun q9 => absurd q9 (by omega))
        refine lv_iconst (v := nI 1) hx hb dX12_make_103 (by decide) ?_
        refine tp_i p2_13 ?_
        refine lv_istore (lv' := [(11, .int (nI 3 - 2)), (10, .int (nI 0)), (0, .ref z0), (2, .int (nI rin)), (3, .int (nI fa)), (4, .int (nI r1)), (5, .int (nI a1)), (6, .int (nI p0)), (7, .int (nI m0)), (8, .int (nI fs)), (9, .int (nI kx))]) hx hb dX12_make_104 hl (by decide) rfl (fun ls hl => ?_)
        refine lv_iconst (v := nI 0) hx hb dX12_make_106 (by decide) ?_
        refine lv_istore (lv' := [(12, .int (nI 0)), (11, .int (nI 3 - 2)), (10, .int (nI 0)), (0, .ref z0), (2, .int (nI rin)), (3, .int (nI fa)), (4, .int (nI r1)), (5, .int (nI a1)), (6, .int (nI p0)), (7, .int (nI m0)), (8, .int (nI fs)), (9, .int (nI kx))]) hx hb dX12_make_107 hl (by decide) rfl (fun ls hl => ?_)
        refine lp_mk1 hx hb hml hown hts hK hA h0 hq0 hk9 hRE b14 b15 b20 hrin fa r1 hfa a1 p0 m0 h9 fs kx 0 3 (by decide) (fun ce => by rw [TK, if_neg ce, if_neg c2]) hkx (by decide) (⟨fun _ => c2, fun _ => rfl⟩) (fun N G sz H locs hr1 hm hp hP hD hS ls hl => ?_) _ 0 N G sz (Nat.lt_succ_self _) (Nat.zero_le _) hr1 hm (by rw [Nat.sub_zero]; exact hp) _ _ hP hD hS ls (lv_sub hl [3, 4, 5, 6, 7, 8, 9, 10, 11, 2, 1, 0] rfl)
        refine lv_iinc (v := nI (kx + 1)) (lv' := [(9, .int (nI (kx + 1))), (0, .ref z0), (2, .int (nI rin)), (3, .int (nI fa)), (4, .int (nI r1)), (5, .int (nI a1)), (6, .int (nI p0)), (7, .int (nI m0)), (8, .int (nI fs))]) hx hb dX12_make_183 hl (k := 8) rfl (nI_add kx 1) (by decide) rfl (fun ls hl => ?_)
        refine lv_goto (tgt := 59) hx hb dX12_make_186 (by decide) ?_
        exact ih (kx + 1) N G sz (by omega) (by omega) hr1 hm hp _ _ hP hD hS ls (lv_sub hl [1, 2, 3, 4, 5, 6, 7, 8, 0] rfl)

set_option maxHeartbeats 4000000 in
set_option maxRecDepth 100000 in
theorem lp_mk3 {p : Program} {l : Launch} {e : Env} {s : State} {m : MethodId} {args : Array Value} {below : List Frame} {meth : Method} {c : Code} {Q : State → Prop} {A : Nat → Prop} {dC : Nat → ClassId} {dI : Nat → Nat → Nat} {cB cC cI cJ cZ : ClassId} {z0 : Nat} {R : Nat → Nat} (hx : p.tables.exec = Jvm.exec) (hb : c.code = cX12_make) (hml : c.maxLocals = 13) (hown : s.vm.findClass RX12 = some m.cls) (hts : ∀ w ∈ vX12_make, w.before args s = true) (hK : va_K (dC, dI) vwCl (TY cB cC cI cJ cZ) s) (hA : ∀ q : Nat, s.heap.size ≤ q → A q) {pl : Int32} {B : Nat → Nat → Int32} {N0 : Nat → Nat} {G0 : Nat → Nat → Nat} {sz0 E : Nat → Nat} {rin : Nat} (h0 : FMS N0 G0 sz0) (hq0 : TREQ N0 G0 sz0) (hk9 : KEPT N0 G0) (hRE : ∀ x, (0 < VAR N0 G0 x ∧ 0 < G0 48 (VAR N0 G0 x - 1)) ↔ 0 < E x) (b14 : N0 14 ≤ 80000) (b15 : N0 15 ≤ 80000) (b20 : N0 20 ≤ 64000) (hrin : rin < 1048576) (fa r1 : Nat) (hfa : fa ≤ 65000) (ke : ∀ (N : Nat → Nat) (G : Nat → Nat → Nat) (sz : Nat → Nat) (H : Heap) (locs : List Loc), (r1 < N 14 ∧ sz r1 ≤ 600) → (GROW N0 G0 sz0 N G sz ∧ FMS N G sz ∧ TREQ N G sz ∧ (∀ f, N0 14 ≤ f → f < N 14 → sz f ≤ 600) ∧ (∀ a, N0 20 ≤ a → a < N 20 → G 19 a = rin) ∧ N 14 ≤ N0 14 + 600 ∧ N 15 ≤ N0 15 + 600 ∧ N 20 ≤ N0 20 + 600 ∧ N 53 ≤ 600) → va_P (dC, dI) vwCl (MW cB cC cI cJ cZ z0 R pl N G B) H → va_D A (MW cB cC cI cJ cZ z0 R pl N G B) → va_S A s.heap H locs → ∀ (ls : Array Slot), lv_has ls 13 [(4, .int (nI r1))] → W p l e (headSpec vX12_make { frames := 3, cells := 0, slots := 0, locals := 70 }).room s m args below meth c H locs 0 0 Q (F0 m 218 ls [])) : ∀ (k : Nat) (a1 : Nat) (N : Nat → Nat) (G : Nat → Nat → Nat) (sz : Nat → Nat), 601 - a1 < k → (r1 < N 14 ∧ sz r1 ≤ 600) → MKO N0 G0 sz0 E rin a1 N G sz → ∀ (H : Heap) (locs : List Loc), va_P (dC, dI) vwCl (MW cB cC cI cJ cZ z0 R pl N G B) H → va_D A (MW cB cC cI cJ cZ z0 R pl N G B) → va_S A s.heap H locs → ∀ (ls : Array Slot), lv_has ls 13 [(0, .ref z0), (2, .int (nI rin)), (3, .int (nI fa)), (4, .int (nI r1)), (5, .int (nI a1))] → W p l e (headSpec vX12_make { frames := 3, cells := 0, slots := 0, locals := 70 }).room s m args below meth c H locs 0 0 Q (F0 m 23 ls []) := by
  have hcs : 0 + 0 ≤ (0 : Nat) ∧ 0 + 0 ≤ (0 : Nat) := ⟨Nat.le_refl 0, Nat.le_refl 0⟩
  intro k
  induction k with
  | zero =>
    intro a1 N G sz hk hr1 ho H locs hP hD hS ls hl
    exact absurd hk (Nat.not_lt_zero _)
  | succ k ih =>
    intro a1 N G sz hk hr1 ho H locs hP hD hS ls hl
    obtain ⟨n1, n2, n3, n4, n5⟩ := ho.num b14 b15
    refine lv_iload hx hb dX12_make_23 (lv_at hl 4 rfl) ?_
    refine lv_aload_n hx hb dX12_make_25 rfl (lv_at hl 0 rfl) ?_
    refine mg_53 hx hb hts inX12_make hown hK hP (hts _ lkX12_make_f306) dX12_make_26 ?_
    refine bn_ge (tgt := 218) hx hb (by first | omega | exact Nat.lt_of_lt_of_le (hG _ _) (by decide)) (by first | omega | exact Nat.lt_of_lt_of_le (hG _ _) (by decide)) dX12_make_29 (by decide) (fun c1 => ?_) (fun c1 => ?_)
    · exact ke N G sz H locs hr1 (ho.done c1) hP hD hS ls (lv_sub hl [3] rfl)
    · have n6 := n5 a1 c1
      have hp := MKO.enter h0 ho c1
      have n7 := (hp.num b14 b15 b20).2.2.2.2.2.2.2.2.2.2
      have hb1 : ∃ p0 m0 h9 fs, G 50 a1 = p0 ∧ G 52 a1 = m0 ∧ G 51 a1 = h9 ∧ N 15 = fs := ⟨_, _, _, _, rfl, rfl, rfl, rfl⟩
      obtain ⟨p0, m0, h9, fs, i1, i2, i3, i4⟩ := hb1
      rw [i1, i3, i4] at hp
      refine lv_aload_n hx hb dX12_make_32 rfl (lv_at hl 0 rfl) ?_
      refine mg_50 hx hb hts inX12_make hown hK hP (hts _ lkX12_make_f98) dX12_make_33 ?_
      refine lv_iload hx hb dX12_make_36 (lv_at hl 4 rfl) ?_
      refine ml_50 hx hb hK hP (by omega) dX12_make_38 ?_
      refine tp_i (y := nI p0) (by rw [i1]) ?_
      refine lv_istore (lv' := [(6, .int (nI p0)), (0, .ref z0), (2, .int (nI rin)), (3, .int (nI fa)), (4, .int (nI r1)), (5, .int (nI a1))]) hx hb dX12_make_39 hl (by decide) rfl (fun ls hl => ?_)
      refine lv_aload_n hx hb dX12_make_41 rfl (lv_at hl 1 rfl) ?_
      refine mg_52 hx hb hts inX12_make hown hK hP (hts _ lkX12_make_f104) dX12_make_42 ?_
      refine lv_iload hx hb dX12_make_45 (lv_at hl 5 rfl) ?_
      refine ml_52 hx hb hK hP (by omega) dX12_make_47 ?_
      refine tp_i (y := nI m0) (by rw [i2]) ?_
      refine lv_istore (lv' := [(7, .int (nI m0)), (6, .int (nI p0)), (0, .ref z0), (2, .int (nI rin)), (3, .int (nI fa)), (4, .int (nI r1)), (5, .int (nI a1))]) hx hb dX12_make_48 hl (by decide) rfl (fun ls hl => ?_)
      refine lv_aload_n hx hb dX12_make_50 rfl (lv_at hl 2 rfl) ?_
      refine mg_15 hx hb hts inX12_make hown hK hP (hts _ lkX12_make_f220) dX12_make_51 ?_
      refine tp_i (y := nI fs) (by rw [i4]) ?_
      refine lv_istore (lv' := [(8, .int (nI fs)), (7, .int (nI m0)), (6, .int (nI p0)), (0, .ref z0), (2, .int (nI rin)), (3, .int (nI fa)), (4, .int (nI r1)), (5, .int (nI a1))]) hx hb dX12_make_54 hl (by decide) rfl (fun ls hl => ?_)
      refine lv_iconst (v := nI 0) hx hb dX12_make_56 (by decide) ?_
      refine lv_istore (lv' := [(9, .int (nI 0)), (8, .int (nI fs)), (7, .int (nI m0)), (6, .int (nI p0)), (0, .ref z0), (2, .int (nI rin)), (3, .int (nI fa)), (4, .int (nI r1)), (5, .int (nI a1))]) hx hb dX12_make_57 hl (by decide) rfl (fun ls hl => ?_)
      refine lp_mk2 hx hb hml hown hts hK hA h0 hq0 hk9 hRE b14 b15 b20 hrin fa r1 hfa a1 p0 m0 h9 fs (fun N G sz H locs hr1 hm hp hP hD hS ls hl => ?_) _ 0 N G sz (Nat.lt_succ_self _) (by decide) hr1 i2 (by rw [Nat.sub_zero]; exact hp) _ _ hP hD hS ls (lv_sub hl [4, 5, 6, 7, 8, 3, 2, 1, 0] rfl)
      obtain ⟨-, -, -, q1, q2, q3, q4, q5, q6, q7, q8⟩ := hp.num b14 b15 b20
      rw [hm] at q8
      have hfin := hp.fin
      rw [hm] at hfin
      refine lv_aload_n hx hb dX12_make_189 rfl (lv_at hl 0 rfl) ?_
      refine mg_11 hx hb hts inX12_make hown hK hP (hts _ lkX12_make_f35) dX12_make_190 ?_
      refine lv_iload hx hb dX12_make_193 (lv_at hl 6 rfl) ?_
      refine lv_iload hx hb dX12_make_195 (lv_at hl 7 rfl) ?_
      refine ms_11 hx hb hK hP hD hS (by omega) dX12_make_197 (fun H locs hP hD hS => ?_)
      refine lv_aload_n hx hb dX12_make_198 rfl (lv_at hl 0 rfl) ?_
      refine mg_12 hx hb hts inX12_make hown hK hP (hts _ lkX12_make_f38) dX12_make_199 ?_
      refine lv_iload hx hb dX12_make_202 (lv_at hl 6 rfl) ?_
      refine lv_aload_n hx hb dX12_make_204 rfl (lv_at hl 0 rfl) ?_
      refine mg_15 hx hb hts inX12_make hown hK hP (hts _ lkX12_make_f220) dX12_make_205 ?_
      refine lv_iload hx hb dX12_make_208 (lv_at hl 7 rfl) ?_
      refine lv_isub hx hb dX12_make_210 ?_
      refine tp_i (pk_sub (a := N 15) (b := fs) (by omega)) ?_
      refine ms_12 hx hb hK hP hD hS (by omega) dX12_make_211 (fun H locs hP hD hS => ?_)
      refine lv_iinc (v := nI (a1 + 1)) (lv' := [(5, .int (nI (a1 + 1))), (0, .ref z0), (2, .int (nI rin)), (3, .int (nI fa)), (4, .int (nI r1)), (6, .int (nI p0)), (7, .int (nI m0)), (8, .int (nI fs))]) hx hb dX12_make_212 hl (k := 4) rfl (nI_add a1 1) (by decide) rfl (fun ls hl => ?_)
      refine lv_goto (tgt := 23) hx hb dX12_make_215 (by decide) ?_
      exact ih (a1 + 1) _ _ sz (by omega) hr1 hfin _ _ hP hD hS ls (lv_sub hl [1, 2, 3, 4, 0] rfl)

set_option maxHeartbeats 4000000 in
set_option maxRecDepth 100000 in
/-- make -/
theorem m_make (l : Launch) (dC : Nat → ClassId) (dI : Nat → Nat → Nat) (cB cC cI cJ cZ : ClassId) (z0 : Nat) (R : Nat → Nat) (pl : Int32) (N : Nat → Nat) (G : Nat → Nat → Nat) (B : Nat → Nat → Int32) (top rin : Nat) (sz E : Nat → Nat) (h0 : FMS N G sz) (hq0 : TREQ N G sz) (hk9 : KEPT N G) (hRE : ∀ x, (0 < VAR N G x ∧ 0 < G 48 (VAR N G x - 1)) ↔ 0 < E x) (b14 : N 14 ≤ 80000) (b15 : N 15 ≤ 80000) (b20 : N 20 ≤ 64000) (hrin : rin < 1048576) (htop : top < N 14) (hgd : GOOD N G sz E top 0) (hT : SZM N G sz top 0 ≤ 600) (s0 : Nat) : Met l yX12_make vX12_make { frames := 3, cells := 0, slots := 0, locals := 70 } (va_Pc [.ref z0, .int (nI top), .int (nI rin)] (mPre dC dI cB cC cI cJ cZ z0 R pl N G B s0)) (va_Qi (fun (r : Int32) (u : ((Nat → Nat) × (Nat → Nat → Nat) × (Nat → Nat → Int32) × Int32)) => match u with | (N1, G1, B1, pl1) => B1 = B ∧ pl1 = pl ∧ ∃ r1 sz1, r = nI r1 ∧ r1 < N1 14 ∧ sz1 r1 ≤ 600 ∧ GROW N G sz N1 G1 sz1 ∧ FMS N1 G1 sz1 ∧ TREQ N1 G1 sz1 ∧ (∀ f, N 14 ≤ f → f < N1 14 → sz1 f ≤ 600) ∧ (∀ a, N 20 ≤ a → a < N1 20 → G1 19 a = rin) ∧ N1 14 ≤ N 14 + 600 ∧ N1 15 ≤ N 15 + 600 ∧ N1 20 ≤ N 20 + 600 ∧ N1 53 ≤ 600) (mPost dC dI cB cC cI cJ cZ z0 R (va_A (MW cB cC cI cJ cZ z0 R pl N G B) s0)) (va_A (MW cB cC cI cJ cZ z0 R pl N G B) s0)) 0 0 (va_A (MW cB cC cI cJ cZ z0 R pl N G B) s0) := by
  refine Met.ofW (cc := cX12_make) (maxL := 13) (ret := (some .int)) (by decide) rfl ?_
  intro p e s m args below meth c s₁ B9 hml hv
  obtain ⟨rfl, hsz, hP, hK, hD0⟩ := hv
  have hx := B9.exec
  have hb := B9.bytes
  have hr := B9.returns
  have hts := atoms_spec (ws := vX12_make) B9.pre
  have hown : s.vm.findClass RX12 = some m.cls := findClass_of_methodNamed B9.named
  have hlocks := B9.notSynchronized
  subst hsz
  have hD := hD0.self (sz := s.heap.size)
  generalize hAe : va_A (MW cB cC cI cJ cZ z0 R pl N G B) s.heap.size = A at hD ⊢
  have hA : ∀ q : Nat, s.heap.size ≤ q → A q := fun q h => by rw [← hAe]; exact Or.inr h
  have hS : va_S A s.heap s.heap [] := va_S.rf
  have hcs : 0 + 0 ≤ (0 : Nat) ∧ 0 + 0 ≤ (0 : Nat) := ⟨Nat.le_refl 0, Nat.le_refl 0⟩
  have hl := lv_entry ([.ref z0, .int (nI top), .int (nI rin)]) (n := 13) (Nat.le_of_ble_eq_true rfl)
  rw [lg_entry_eq]
  generalize (lg_sl ([.ref z0, .int (nI top), .int (nI rin)]) ++ List.replicate (13 - (lg_sl ([.ref z0, .int (nI top), .int (nI rin)])).length) Slot.unset).toArray = ls at hl ⊢
  have hl : lv_has ls 13 [(0, .ref z0), (1, .int (nI top)), (2, .int (nI rin))] := hl
  obtain ⟨hG2, hal, ht9, hkd, hpb⟩ := id h0
  have hM := MKW.start (E := E) (rin := rin) h0 hq0
  obtain ⟨k1, k2, k3, k4, k5⟩ := MKW.hyps h0 hk9 hRE hM htop hgd
  have hpos := SZM_pos h0.2.2.1 hk9 hRE hgd htop
  refine lv_aload_n hx hb dX12_make_0 rfl (lv_at hl 0 rfl) ?_
  refine lv_iconst (v := nI 0) hx hb dX12_make_1 (by decide) ?_
  refine mp_53 hx hb hts inX12_make hown hK hP hD hS (hts _ lkX12_make_f306) dX12_make_2 (fun H locs hP hD hS => ?_)
  refine lv_aload_n hx hb dX12_make_5 rfl (lv_at hl 0 rfl) ?_
  refine mg_20 hx hb hts inX12_make hown hK hP (hts _ lkX12_make_f374) dX12_make_6 ?_
  refine tp_i (y := nI (N 20)) rfl ?_
  refine lv_istore_n (lv' := [(3, .int (nI (N 20))), (0, .ref z0), (1, .int (nI top)), (2, .int (nI rin))]) hx hb dX12_make_9 rfl hl (by decide) rfl (fun ls hl => ?_)
  refine lv_aload_n hx hb dX12_make_10 rfl (lv_at hl 1 rfl) ?_
  refine lv_iload_n hx hb dX12_make_11 rfl (lv_at hl 2 rfl) ?_
  refine lv_iconst (v := nI 0) hx hb dX12_make_12 (by decide) ?_
  refine lv_iload_n hx hb dX12_make_13 rfl (lv_at hl 0 rfl) ?_
  refine lv_iload_n hx hb dX12_make_14 rfl (lv_at hl 3 rfl) ?_
  refine mcl_i (As := [.int (nI top), .int (nI 0), .int (nI (N 20)), .int (nI rin)]) (rest := []) ⟨hx, hb, hml, hown, hts⟩ (m_begin l dC dI cB cC cI cJ cZ z0 R pl (va_up N 53 0) G B top 0 (N 20) rin hG2 k1 k2 k3 hrin k4 (show N 14 < 90000 by omega) (show N 20 < 65000 by omega) (show 0 < 90000 by decide) (by omega) k5 H.size) (cwV 4 hts kX12_make_X12_begin_380 rfl rfl rfl (by decide +kernel) ⟨Nat.le_of_ble_eq_true rfl, Nat.le_of_ble_eq_true rfl⟩) hK hP hD hS hA rfl rfl hl.1 (lv_room (Nat.le_of_ble_eq_true rfl)) dX12_make_15 hcs (fun r_5 N_1 G_2 B_3 pl_4 hw H locs hP hD hS => ?_)
  dsimp only at hw
  obtain ⟨e3, e4, r9, hw, hbg⟩ := hw
  rw [e3, e4] at hP hD
  subst hw
  obtain ⟨sz2, ho, z1, z2⟩ := MKO.first h0 hq0 hk9 hRE hbg htop hgd b14 b20 hT
  refine lv_istore (lv' := [(4, .int (nI r9)), (3, .int (nI (N 20))), (0, .ref z0), (1, .int (nI top)), (2, .int (nI rin))]) hx hb dX12_make_18 hl (by decide) rfl (fun ls hl => ?_)
  refine lv_iconst (v := nI 0) hx hb dX12_make_20 (by decide) ?_
  refine lv_istore (lv' := [(5, .int (nI 0)), (4, .int (nI r9)), (3, .int (nI (N 20))), (0, .ref z0), (1, .int (nI top)), (2, .int (nI rin))]) hx hb dX12_make_21 hl (by decide) rfl (fun ls hl => ?_)
  refine lp_mk3 hx hb hml hown hts hK hA h0 hq0 hk9 hRE b14 b15 b20 hrin (N 20) r9 (by omega) (fun N1 G1 sz1 H locs hr1 hdn hP hD hS ls hl => ?_) _ 0 _ _ sz2 (Nat.lt_succ_self _) ⟨z1, by omega⟩ ho _ _ hP hD hS ls (lv_sub hl [3, 5, 2, 1, 0] rfl)
  refine lv_iload hx hb dX12_make_218 (lv_at hl 0 rfl) ?_
  exact W.iret (v := (nI r9)) hx hb hr (fun t ht hW => ⟨⟨(nI r9), (N1, G1, B, pl), rfl, ⟨rfl, rfl, r9, sz1, rfl, hr1.1, hr1.2, hdn⟩, by rw [ht]; exact hP, va_K.moved hW.alike hK, hD⟩, hS.F ht⟩) hS.2.2 dX12_make_220
