set_option maxHeartbeats 4000000 in
set_option maxRecDepth 100000 in
theorem law_out {p : Program} {e : Env} {s : State} {m : MethodId} {below : List Frame} {meth : Method} {c : Code} (l : Launch) {b L : Nat} {xs : Nat → Int32} {dC : Nat → ClassId} {dI : Nat → Nat → Nat} {cB cC cI cJ cZ : ClassId} {a : Nat → Nat} {z0 : Nat} {Rm : Nat → Nat} (hL : L ≤ 2048) (C0 : lw_At p s m meth c b L xs) (hK : va_K (dC, dI) vwCl (TY cB cC cI cJ cZ) s) (hNW : NW s) {i : Nat} (hi : i ≤ 2052) (hlt : L < i + 4) : ∀ (F : Nat → Int32) (X : Nat → Nat → Int32) (J : Nat → Nat → Int64) (R : Nat → Nat) (gf gn : Nat) (pl : Int32) (N : Nat → Nat) (G : Nat → Nat → Nat) (B : Nat → Nat → Int32) (H : Heap) (locs : List Loc) (cells slots : Nat), J2 (dC, dI) (fun q : Nat => s.heap.size ≤ q) (CW cB cC cI cJ cZ a F X J R gf gn) (MW cB cC cI cJ cZ z0 Rm pl N G B) H → va_S (fun q : Nat => s.heap.size ≤ q) s.heap H locs → cells + cg gf gn ≤ room_1.cells ∧ slots + sg gf gn ≤ room_1.slots → LWI F X gf gn N G B i → ∀ (ls : Array Slot), lv_has ls 4 [(3, .int (nI i)), (0, .ref b), (1, .ref (a 11)), (2, .ref z0)] → W p l e room_1 s m #[Value.ref b] below meth c H locs cells slots (lw_Z below #[Value.ref b] s) (F0 m 18 ls []) := by
  obtain ⟨hx, hb, hr, hml, hown, hts, hX, hbl, hlocks, hgv⟩ := id C0
  have hown : s.vm.findClass RL = some m.cls := hown
  have hA : ∀ q : Nat, s.heap.size ≤ q → (fun q : Nat => s.heap.size ≤ q) q := fun _ h => h
  have hbA : ¬ (fun q : Nat => s.heap.size ≤ q) b := Nat.not_le.mpr hbl
  intro F X J R gf gn pl N G B H locs cells slots j2 hS hcs hI ls hl
  refine lv_iload_n hx hb dL_law_18 rfl (lv_at hl 0 rfl) ?_
  refine lv_aload_n hx hb dL_law_19 rfl (lv_at hl 1 rfl) ?_
  refine va_slen hx hb hX hbl hbA hS dL_law_20 ?_
  refine lv_iconst (v := 4) hx hb dL_law_21 (by decide) ?_
  refine lv_isub hx hb dL_law_22 ?_
  refine lv_icmp_gt (tgt := 243) hx hb dL_law_23 (by decide) (fun _ => ?_) (fun q9 => absurd ((lw_gt (by omega) (by omega)).mpr hlt) q9)
  refine lv_iconst (v := 1) hx hb dL_law_243 (by decide) ?_
  refine va_forget (fun q hq => hS.2.2 q hq) ?_
  refine W.widen (k := 204511) (n := 8488716) (Nat.le_trans (Nat.le_add_right _ _) hcs.1) (Nat.le_trans (Nat.le_add_right _ _) hcs.2) ?_
  exact lw_ret hx hb hr hlocks dL_law_244

set_option maxHeartbeats 4000000 in
set_option maxRecDepth 100000 in
theorem law_step {p : Program} {e : Env} {s : State} {m : MethodId} {below : List Frame} {meth : Method} {c : Code} (l : Launch) {b L : Nat} {xs : Nat → Int32} {dC : Nat → ClassId} {dI : Nat → Nat → Nat} {cB cC cI cJ cZ : ClassId} {a : Nat → Nat} {z0 : Nat} {Rm : Nat → Nat} (hL : L ≤ 2048) (C0 : lw_At p s m meth c b L xs) (hK : va_K (dC, dI) vwCl (TY cB cC cI cJ cZ) s) (hNW : NW s) {i : Nat} (hi : i + 4 ≤ L) (nxt : ∀ (F : Nat → Int32) (X : Nat → Nat → Int32) (J : Nat → Nat → Int64) (R : Nat → Nat) (gf gn : Nat) (pl : Int32) (N : Nat → Nat) (G : Nat → Nat → Nat) (B : Nat → Nat → Int32) (H : Heap) (locs : List Loc) (cells slots : Nat), J2 (dC, dI) (fun q : Nat => s.heap.size ≤ q) (CW cB cC cI cJ cZ a F X J R gf gn) (MW cB cC cI cJ cZ z0 Rm pl N G B) H → va_S (fun q : Nat => s.heap.size ≤ q) s.heap H locs → cells + cg gf gn ≤ room_1.cells ∧ slots + sg gf gn ≤ room_1.slots → LWI F X gf gn N G B (i + 4) → ∀ (ls : Array Slot), lv_has ls 4 [(3, .int (nI i)), (0, .ref b), (1, .ref (a 11)), (2, .ref z0)] → W p l e room_1 s m #[Value.ref b] below meth c H locs cells slots (lw_Z below #[Value.ref b] s) (F0 m 237 ls [])) : ∀ (F : Nat → Int32) (X : Nat → Nat → Int32) (J : Nat → Nat → Int64) (R : Nat → Nat) (gf gn : Nat) (pl : Int32) (N : Nat → Nat) (G : Nat → Nat → Nat) (B : Nat → Nat → Int32) (H : Heap) (locs : List Loc) (cells slots : Nat), J2 (dC, dI) (fun q : Nat => s.heap.size ≤ q) (CW cB cC cI cJ cZ a F X J R gf gn) (MW cB cC cI cJ cZ z0 Rm pl N G B) H → va_S (fun q : Nat => s.heap.size ≤ q) s.heap H locs → cells + cg gf gn ≤ room_1.cells ∧ slots + sg gf gn ≤ room_1.slots → LWI F X gf gn N G B i → ∀ (ls : Array Slot), lv_has ls 4 [(3, .int (nI i)), (0, .ref b), (1, .ref (a 11)), (2, .ref z0)] → W p l e room_1 s m #[Value.ref b] below meth c H locs cells slots (lw_Z below #[Value.ref b] s) (F0 m 18 ls []) := by
  obtain ⟨hx, hb, hr, hml, hown, hts, hX, hbl, hlocks, hgv⟩ := id C0
  have hown : s.vm.findClass RL = some m.cls := hown
  have hA : ∀ q : Nat, s.heap.size ≤ q → (fun q : Nat => s.heap.size ≤ q) q := fun _ h => h
  have hbA : ¬ (fun q : Nat => s.heap.size ≤ q) b := Nat.not_le.mpr hbl
  intro F X J R gf gn pl N G B H locs cells slots j2 hS hcs hI ls hl
  refine lv_iload_n hx hb dL_law_18 rfl (lv_at hl 0 rfl) ?_
  refine lv_aload_n hx hb dL_law_19 rfl (lv_at hl 1 rfl) ?_
  refine va_slen hx hb hX hbl hbA hS dL_law_20 ?_
  refine lv_iconst (v := 4) hx hb dL_law_21 (by decide) ?_
  refine lv_isub hx hb dL_law_22 ?_
  refine lv_icmp_gt (tgt := 243) hx hb dL_law_23 (by decide) (fun c1 => ?_) (fun c1 => ?_)
  · exact absurd ((lw_gt (by omega) (by omega)).mp c1) (by omega)
  · have hin0 : vp_in (nI i) L := vp_in_nI (by omega) (by omega)
    have hin1 : vp_in ((nI i) + 1) L := lw_in (k := 1) (by omega) (by omega)
    have hin2 : vp_in ((nI i) + 2) L := lw_in (k := 2) (by omega) (by omega)
    have hin3 : vp_in ((nI i) + 3) L := lw_in (k := 3) (by omega) (by omega)
    obtain ⟨⟨⟨D, hfi⟩, hgf, hgn, hg2, hsy, hst, hms, hru, hrb, hva, hnb, hv2, hty⟩, hN2, c5, c6, sz, az, hpw, h5, h6⟩ := id hI
    have hf : cells + 0 ≤ room_1.cells ∧ slots + 0 ≤ room_1.slots := ⟨by omega, by omega⟩
    have hN : N 2 ≤ 3000 ∧ N 40 ≤ 4000 := ⟨hpw.2.2.2.2.2.2.2.1, hpw.2.2.2.2.2.2.2.2.2.2⟩
    have hN6 : N 6 ≤ 4500 := by have q9 := hpw.2.2.2.2.2.2.1.2.1; have q8 := hpw.2.2.2.2.2.2.1.2.2.1; omega
    refine lv_aload_n hx hb dL_law_26 rfl (lv_at hl 1 rfl) ?_
    refine lv_iload_n hx hb dL_law_27 rfl (lv_at hl 0 rfl) ?_
    refine va_sld (i := nI i) hx hb hX hbl hbA hS hin0 dL_law_28 ?_
    refine lv_bipush (v := 7) hx hb dL_law_29 (by decide) ?_
    refine lv_iand hx hb dL_law_31 ?_
    obtain ⟨j, hj, ej⟩ := pk_andE (xs (nI i).toNatClampNeg) (m := 7) 3 (by decide)
    refine tp_i (y := (nI j)) (ej) ?_
    have h8 : j = 0 ∨ j = 1 ∨ j = 2 ∨ j = 3 ∨ j = 4 ∨ j = 5 ∨ j = 6 ∨ j = 7 := by omega
    rcases h8 with rfl | rfl | rfl | rfl | rfl | rfl | rfl | rfl
    · refine lv_tableIn (tgt := 76) (off := 44) hx hb dL_law_32 (by decide) (by decide) rfl (by decide) ?_
      refine lv_aload_n hx hb dL_law_76 rfl (lv_at hl 2 rfl) ?_
      refine lv_aload_n hx hb dL_law_77 rfl (lv_at hl 1 rfl) ?_
      refine lv_iload_n hx hb dL_law_78 rfl (lv_at hl 0 rfl) ?_
      refine lv_iconst (v := 1) hx hb dL_law_79 (by decide) ?_
      refine lv_iadd hx hb dL_law_80 ?_
      refine va_sld (i := (nI i) + 1) hx hb hX hbl hbA hS hin1 dL_law_81 ?_
      refine lv_i2l hx hb dL_law_82 rfl ?_
      refine lv_bipush (v := 32) hx hb dL_law_83 (by decide) ?_
      refine lv_lshl hx hb dL_law_85 rfl ?_
      refine lv_aload_n hx hb dL_law_86 rfl (lv_at hl 1 rfl) ?_
      refine lv_iload_n hx hb dL_law_87 rfl (lv_at hl 0 rfl) ?_
      refine lv_iconst (v := 2) hx hb dL_law_88 (by decide) ?_
      refine lv_iadd hx hb dL_law_89 ?_
      refine va_sld (i := (nI i) + 2) hx hb hX hbl hbA hS hin2 dL_law_90 ?_
      refine lv_i2l hx hb dL_law_91 rfl ?_
      refine lv_ldc2 (v := 4294967295) hx hb hown (hts _ lkL_c13) dL_law_92 ?_
      refine lv_land hx hb dL_law_95 ?_
      refine lv_lor hx hb dL_law_96 ?_
      refine lv_aload_n hx hb dL_law_97 rfl (lv_at hl 1 rfl) ?_
      refine lv_iload_n hx hb dL_law_98 rfl (lv_at hl 0 rfl) ?_
      refine lv_iconst (v := 3) hx hb dL_law_99 (by decide) ?_
      refine lv_iadd hx hb dL_law_100 ?_
      refine va_sld (i := (nI i) + 3) hx hb hX hbl hbA hS hin3 dL_law_101 ?_
      refine tp_i (y := oI (xs ((nI i) + 3).toNatClampNeg).toInt) (oI_toInt _).symm ?_
      refine lcC (As := [.long ((((xs ((nI i) + 1).toNatClampNeg).toInt64) <<< ((32 : Int32).toInt64 &&& 63)) ||| (((xs ((nI i) + 2).toNatClampNeg).toInt64) &&& 4294967295)), .int (oI (xs ((nI i) + 3).toNatClampNeg).toInt)]) (rest := []) (S := (Nat → Int32) × (Nat → Nat → Int32)) (fF := fun u => rg 27 27 F u.1) (fX := fun u => rg 26 26 X u.2) ⟨hx, hb, hml, hown, hts⟩ (c_typeX l dC dI cB cC cI cJ cZ a F X J R gf gn (xs ((nI i) + 3).toNatClampNeg).toInt (((((xs ((nI i) + 1).toNatClampNeg).toInt64) <<< ((32 : Int32).toInt64 &&& 63)) ||| (((xs ((nI i) + 2).toNatClampNeg).toInt64) &&& 4294967295))) (lw_b _) hty H.size) (cwV 2 hts kL_law_X11_type_15 rfl rfl rfl (by decide +kernel) ⟨Nat.le_of_ble_eq_true rfl, Nat.le_of_ble_eq_true rfl⟩) (va_recv hK j2.1 (ci := 11) (q0 := 11) rfl rfl) hK hNW j2 hS hA rfl rfl hl.1 (lv_room (Nat.le_of_ble_eq_true rfl)) dL_law_102 hf (fun r1 u hw1 H locs j2 hS => ?_)
      obtain ⟨F1, X1⟩ := u
      dsimp only at hw1 j2
      refine lv_aload_n hx hb dL_law_105 rfl (lv_at hl 3 rfl) ?_
      refine lv_aload_n hx hb dL_law_106 rfl (lv_at hl 1 rfl) ?_
      refine lv_iload_n hx hb dL_law_107 rfl (lv_at hl 0 rfl) ?_
      refine lv_iconst (v := 1) hx hb dL_law_108 (by decide) ?_
      refine lv_iadd hx hb dL_law_109 ?_
      refine va_sld (i := (nI i) + 1) hx hb hX hbl hbA hS hin1 dL_law_110 ?_
      refine lv_i2l hx hb dL_law_111 rfl ?_
      refine lv_bipush (v := 32) hx hb dL_law_112 (by decide) ?_
      refine lv_lshl hx hb dL_law_114 rfl ?_
      refine lv_aload_n hx hb dL_law_115 rfl (lv_at hl 1 rfl) ?_
      refine lv_iload_n hx hb dL_law_116 rfl (lv_at hl 0 rfl) ?_
      refine lv_iconst (v := 2) hx hb dL_law_117 (by decide) ?_
      refine lv_iadd hx hb dL_law_118 ?_
      refine va_sld (i := (nI i) + 2) hx hb hX hbl hbA hS hin2 dL_law_119 ?_
      refine lv_i2l hx hb dL_law_120 rfl ?_
      refine lv_ldc2 (v := 4294967295) hx hb hown (hts _ lkL_c13) dL_law_121 ?_
      refine lv_land hx hb dL_law_124 ?_
      refine lv_lor hx hb dL_law_125 ?_
      refine lv_aload_n hx hb dL_law_126 rfl (lv_at hl 1 rfl) ?_
      refine lv_iload_n hx hb dL_law_127 rfl (lv_at hl 0 rfl) ?_
      refine lv_iconst (v := 3) hx hb dL_law_128 (by decide) ?_
      refine lv_iadd hx hb dL_law_129 ?_
      refine va_sld (i := (nI i) + 3) hx hb hX hbl hbA hS hin3 dL_law_130 ?_
      refine lcM (As := [.long ((((xs ((nI i) + 1).toNatClampNeg).toInt64) <<< ((32 : Int32).toInt64 &&& 63)) ||| (((xs ((nI i) + 2).toNatClampNeg).toInt64) &&& 4294967295)), .int (xs ((nI i) + 3).toNatClampNeg)]) (rest := [.int r1]) ⟨hx, hb, hml, hown, hts⟩ (m_type l dC dI cB cC cI cJ cZ z0 Rm pl N G B (((((xs ((nI i) + 1).toNatClampNeg).toInt64) <<< ((32 : Int32).toInt64 &&& 63)) ||| (((xs ((nI i) + 2).toNatClampNeg).toInt64) &&& 4294967295))) (xs ((nI i) + 3).toNatClampNeg) hN.1 H.size) (cwV 2 hts kL_law_X12_type_19 rfl rfl rfl (by decide +kernel) ⟨Nat.le_of_ble_eq_true rfl, Nat.le_of_ble_eq_true rfl⟩) (va_recv hK j2.2.1 (ci := 12) (q0 := 0) rfl rfl) hK hNW j2 hS hA rfl rfl hl.1 (lv_room (Nat.le_of_ble_eq_true rfl)) dL_law_131 hf (fun r2 N1 G9 B1 pl1 hw2 H locs j2 hS => ?_)
      dsimp only at hw2
      obtain ⟨e1, e2, Z9, len, e3, e4, t2⟩ := hw2
      rw [e1, e2, e3, e4] at j2
      rw [oI_toInt] at hw1
      obtain ⟨er, hI2⟩ := hI.type (X1 := X1) (Z := Z9) (by omega) hw1.1 hw1.2 t2
      refine lv_icmp_eq (tgt := 237) hx hb dL_law_134 (by decide) (fun _ => ?_) (fun q9 => absurd (er) q9)
      exact nxt _ _ _ _ _ _ _ _ _ _ _ _ _ _ j2 hS hcs hI2 ls (lv_sub hl [0, 1, 2, 3] rfl)
    · refine lv_tableIn (tgt := 139) (off := 107) hx hb dL_law_32 (by decide) (by decide) rfl (by decide) ?_
      refine lv_aload_n hx hb dL_law_139 rfl (lv_at hl 2 rfl) ?_
      refine W.know (fun hsz htot => ?_)
      refine lcG (As := []) (rest := []) ⟨hx, hb, hml, hown, hts⟩ (c_readX l dC dI cB cC cI cJ cZ a F X J R gf gn D hgf hgn hg2 hsy hst hms hru hrb hva hnb hv2 hty hfi H.size (tot H)) (cwV 0 hts kL_law_X11_read_20 rfl rfl rfl (by decide +kernel) ⟨Nat.le_of_ble_eq_true rfl, Nat.le_of_ble_eq_true rfl⟩) (va_recv hK j2.1 (ci := 11) (q0 := 11) rfl rfl) hK hNW j2 hS hA rfl rfl hl.1 (lv_room (Nat.le_of_ble_eq_true rfl)) dL_law_140 hcs hsz htot (fun r1 F1 X1 J1 R1 gf1 gn1 hw1 H locs cells slots hcs j2 hS => ?_)
      dsimp only at hw1
      have hf : cells + 0 ≤ room_1.cells ∧ slots + 0 ≤ room_1.slots := ⟨by omega, by omega⟩
      refine lv_pop hx hb dL_law_143 rfl ?_
      refine lv_aload_n hx hb dL_law_144 rfl (lv_at hl 3 rfl) ?_
      refine lcM (As := []) (rest := []) ⟨hx, hb, hml, hown, hts⟩ (m_read l dC dI cB cC cI cJ cZ z0 Rm pl N G B c5 c6 sz az hpw H.size) (cwV 0 hts kL_law_X12_read_24 rfl rfl rfl (by decide +kernel) ⟨Nat.le_of_ble_eq_true rfl, Nat.le_of_ble_eq_true rfl⟩) (va_recv hK j2.2.1 (ci := 12) (q0 := 0) rfl rfl) hK hNW j2 hS hA rfl rfl hl.1 (lv_room (Nat.le_of_ble_eq_true rfl)) dL_law_145 hf (fun r2 N1 G9 B1 pl1 hw2 H locs j2 hS => ?_)
      dsimp only at hw2
      refine lv_pop hx hb dL_law_148 rfl ?_
      refine lv_goto (tgt := 237) hx hb dL_law_149 (by decide) ?_
      exact nxt _ _ _ _ _ _ _ _ _ _ _ _ _ _ j2 hS hcs (LWI.read h5 h6 hw1.1 hw1.2 hw2) ls (lv_sub hl [0, 1, 2, 3] rfl)
    · refine lv_tableIn (tgt := 152) (off := 120) hx hb dL_law_32 (by decide) (by decide) rfl (by decide) ?_
      refine lv_aload_n hx hb dL_law_152 rfl (lv_at hl 2 rfl) ?_
      refine lcC (As := []) (rest := []) (S := Unit) (fF := fun u => F) (fX := fun u => X) ⟨hx, hb, hml, hown, hts⟩ (c_placeX l dC dI cB cC cI cJ cZ a F X J R gf gn   H.size) (cwV 0 hts kL_law_X11_place_25 rfl rfl rfl (by decide +kernel) ⟨Nat.le_of_ble_eq_true rfl, Nat.le_of_ble_eq_true rfl⟩) (va_recv hK j2.1 (ci := 11) (q0 := 11) rfl rfl) hK hNW j2 hS hA rfl rfl hl.1 (lv_room (Nat.le_of_ble_eq_true rfl)) dL_law_153 hf (fun r1 u hw1 H locs j2 hS => ?_)
      refine lv_pop hx hb dL_law_156 rfl ?_
      refine lv_aload_n hx hb dL_law_157 rfl (lv_at hl 3 rfl) ?_
      refine lcM (As := []) (rest := []) ⟨hx, hb, hml, hown, hts⟩ (m_place l dC dI cB cC cI cJ cZ z0 Rm pl N G B   H.size) (cwV 0 hts kL_law_X12_place_28 rfl rfl rfl (by decide +kernel) ⟨Nat.le_of_ble_eq_true rfl, Nat.le_of_ble_eq_true rfl⟩) (va_recv hK j2.2.1 (ci := 12) (q0 := 0) rfl rfl) hK hNW j2 hS hA rfl rfl hl.1 (lv_room (Nat.le_of_ble_eq_true rfl)) dL_law_158 hf (fun r2 N1 G9 B1 pl1 hw2 H locs j2 hS => ?_)
      dsimp only at hw2
      obtain ⟨e1, e2, e3, e4⟩ := hw2
      rw [e1, e2, e3, e4] at j2
      refine lv_pop hx hb dL_law_161 rfl ?_
      refine lv_goto (tgt := 237) hx hb dL_law_162 (by decide) ?_
      exact nxt _ _ _ _ _ _ _ _ _ _ _ _ _ _ j2 hS hcs hI.zero ls (lv_sub hl [0, 1, 2, 3] rfl)
    · refine lv_tableIn (tgt := 165) (off := 133) hx hb dL_law_32 (by decide) (by decide) rfl (by decide) ?_
      refine lv_aload_n hx hb dL_law_165 rfl (lv_at hl 2 rfl) ?_
      refine lv_aload_n hx hb dL_law_166 rfl (lv_at hl 1 rfl) ?_
      refine lv_iload_n hx hb dL_law_167 rfl (lv_at hl 0 rfl) ?_
      refine lv_iconst (v := 1) hx hb dL_law_168 (by decide) ?_
      refine lv_iadd hx hb dL_law_169 ?_
      refine va_sld (i := (nI i) + 1) hx hb hX hbl hbA hS hin1 dL_law_170 ?_
      refine tp_i (y := oI (xs ((nI i) + 1).toNatClampNeg).toInt) (oI_toInt _).symm ?_
      refine lcC (As := [.int (oI (xs ((nI i) + 1).toNatClampNeg).toInt)]) (rest := []) (S := Unit) (fF := fun u => F) (fX := fun u => X) ⟨hx, hb, hml, hown, hts⟩ (c_countX l dC dI cB cC cI cJ cZ a F X J R gf gn (xs ((nI i) + 1).toNatClampNeg).toInt (lw_b _) hsy H.size) (cwV 1 hts kL_law_X11_count_29 rfl rfl rfl (by decide +kernel) ⟨Nat.le_of_ble_eq_true rfl, Nat.le_of_ble_eq_true rfl⟩) (va_recv hK j2.1 (ci := 11) (q0 := 11) rfl rfl) hK hNW j2 hS hA rfl rfl hl.1 (lv_room (Nat.le_of_ble_eq_true rfl)) dL_law_171 hf (fun r1 u hw1 H locs j2 hS => ?_)
      refine lv_pop hx hb dL_law_174 rfl ?_
      refine lv_aload_n hx hb dL_law_175 rfl (lv_at hl 3 rfl) ?_
      refine lv_aload_n hx hb dL_law_176 rfl (lv_at hl 1 rfl) ?_
      refine lv_iload_n hx hb dL_law_177 rfl (lv_at hl 0 rfl) ?_
      refine lv_iconst (v := 1) hx hb dL_law_178 (by decide) ?_
      refine lv_iadd hx hb dL_law_179 ?_
      refine va_sld (i := (nI i) + 1) hx hb hX hbl hbA hS hin1 dL_law_180 ?_
      refine lcM (As := [.int (xs ((nI i) + 1).toNatClampNeg)]) (rest := []) ⟨hx, hb, hml, hown, hts⟩ (m_count l dC dI cB cC cI cJ cZ z0 Rm pl N G B (xs ((nI i) + 1).toNatClampNeg) hpw.1.1 hN6 H.size) (cwV 1 hts kL_law_X12_count_33 rfl rfl rfl (by decide +kernel) ⟨Nat.le_of_ble_eq_true rfl, Nat.le_of_ble_eq_true rfl⟩) (va_recv hK j2.2.1 (ci := 12) (q0 := 0) rfl rfl) hK hNW j2 hS hA rfl rfl hl.1 (lv_room (Nat.le_of_ble_eq_true rfl)) dL_law_181 hf (fun r2 N1 G9 B1 pl1 hw2 H locs j2 hS => ?_)
      dsimp only at hw2
      obtain ⟨e1, e2, e3, e4⟩ := hw2
      rw [e1, e2, e3, e4] at j2
      refine lv_pop hx hb dL_law_184 rfl ?_
      refine lv_goto (tgt := 237) hx hb dL_law_185 (by decide) ?_
      exact nxt _ _ _ _ _ _ _ _ _ _ _ _ _ _ j2 hS hcs hI.zero ls (lv_sub hl [0, 1, 2, 3] rfl)
    · refine lv_tableIn (tgt := 188) (off := 156) hx hb dL_law_32 (by decide) (by decide) rfl (by decide) ?_
      refine lv_aload_n hx hb dL_law_188 rfl (lv_at hl 2 rfl) ?_
      refine lv_aload_n hx hb dL_law_189 rfl (lv_at hl 1 rfl) ?_
      refine lv_iload_n hx hb dL_law_190 rfl (lv_at hl 0 rfl) ?_
      refine lv_iconst (v := 1) hx hb dL_law_191 (by decide) ?_
      refine lv_iadd hx hb dL_law_192 ?_
      refine va_sld (i := (nI i) + 1) hx hb hX hbl hbA hS hin1 dL_law_193 ?_
      refine tp_i (y := oI (xs ((nI i) + 1).toNatClampNeg).toInt) (oI_toInt _).symm ?_
      refine lcC (As := [.int (oI (xs ((nI i) + 1).toNatClampNeg).toInt)]) (rest := []) (S := Unit) (fF := fun u => F) (fX := fun u => X) ⟨hx, hb, hml, hown, hts⟩ (c_characterX l dC dI cB cC cI cJ cZ a F X J R gf gn (xs ((nI i) + 1).toNatClampNeg).toInt (lw_b _) H.size) (cwV 1 hts kL_law_X11_character_34 rfl rfl rfl (by decide +kernel) ⟨Nat.le_of_ble_eq_true rfl, Nat.le_of_ble_eq_true rfl⟩) (va_recv hK j2.1 (ci := 11) (q0 := 11) rfl rfl) hK hNW j2 hS hA rfl rfl hl.1 (lv_room (Nat.le_of_ble_eq_true rfl)) dL_law_194 hf (fun r1 u hw1 H locs j2 hS => ?_)
      refine lv_pop hx hb dL_law_197 rfl ?_
      refine lv_aload_n hx hb dL_law_198 rfl (lv_at hl 3 rfl) ?_
      refine lv_aload_n hx hb dL_law_199 rfl (lv_at hl 1 rfl) ?_
      refine lv_iload_n hx hb dL_law_200 rfl (lv_at hl 0 rfl) ?_
      refine lv_iconst (v := 1) hx hb dL_law_201 (by decide) ?_
      refine lv_iadd hx hb dL_law_202 ?_
      refine va_sld (i := (nI i) + 1) hx hb hX hbl hbA hS hin1 dL_law_203 ?_
      refine lcM (As := [.int (xs ((nI i) + 1).toNatClampNeg)]) (rest := []) ⟨hx, hb, hml, hown, hts⟩ (m_character l dC dI cB cC cI cJ cZ z0 Rm pl N G B (xs ((nI i) + 1).toNatClampNeg) hN.2 H.size) (cwV 1 hts kL_law_X12_character_37 rfl rfl rfl (by decide +kernel) ⟨Nat.le_of_ble_eq_true rfl, Nat.le_of_ble_eq_true rfl⟩) (va_recv hK j2.2.1 (ci := 12) (q0 := 0) rfl rfl) hK hNW j2 hS hA rfl rfl hl.1 (lv_room (Nat.le_of_ble_eq_true rfl)) dL_law_204 hf (fun r2 N1 G9 B1 pl1 hw2 H locs j2 hS => ?_)
      dsimp only at hw2
      obtain ⟨e1, e2, e3, e4⟩ := hw2
      rw [e1, e2, e3, e4] at j2
      refine lv_pop hx hb dL_law_207 rfl ?_
      refine lv_goto (tgt := 237) hx hb dL_law_208 (by decide) ?_
      exact nxt _ _ _ _ _ _ _ _ _ _ _ _ _ _ j2 hS hcs hI.zero ls (lv_sub hl [0, 1, 2, 3] rfl)
    · refine lv_tableIn (tgt := 211) (off := 179) hx hb dL_law_32 (by decide) (by decide) rfl (by decide) ?_
      refine lv_aload_n hx hb dL_law_211 rfl (lv_at hl 2 rfl) ?_
      refine lcC (As := []) (rest := []) (S := (Nat → Int32) × (Nat → Nat → Int32)) (fF := fun u => rg 27 27 F u.1) (fX := fun u => X) ⟨hx, hb, hml, hown, hts⟩ (c_meansX l dC dI cB cC cI cJ cZ a F X J R gf gn  hty hsy hru H.size) (cwV 0 hts kL_law_X11_means_38 rfl rfl rfl (by decide +kernel) ⟨Nat.le_of_ble_eq_true rfl, Nat.le_of_ble_eq_true rfl⟩) (va_recv hK j2.1 (ci := 11) (q0 := 11) rfl rfl) hK hNW j2 hS hA rfl rfl hl.1 (lv_room (Nat.le_of_ble_eq_true rfl)) dL_law_212 hf (fun r1 u hw1 H locs j2 hS => ?_)
      obtain ⟨F1, X1⟩ := u
      dsimp only at hw1 j2
      refine lv_pop hx hb dL_law_215 rfl ?_
      refine lv_aload_n hx hb dL_law_216 rfl (lv_at hl 3 rfl) ?_
      refine lcM (As := []) (rest := []) ⟨hx, hb, hml, hown, hts⟩ (m_means l dC dI cB cC cI cJ cZ z0 Rm pl N G B c5 c6 sz az hpw H.size) (cwV 0 hts kL_law_X12_means_41 rfl rfl rfl (by decide +kernel) ⟨Nat.le_of_ble_eq_true rfl, Nat.le_of_ble_eq_true rfl⟩) (va_recv hK j2.2.1 (ci := 12) (q0 := 0) rfl rfl) hK hNW j2 hS hA rfl rfl hl.1 (lv_room (Nat.le_of_ble_eq_true rfl)) dL_law_217 hf (fun r2 N1 G9 B1 pl1 hw2 H locs j2 hS => ?_)
      dsimp only at hw2
      refine lv_pop hx hb dL_law_220 rfl ?_
      refine lv_goto (tgt := 237) hx hb dL_law_221 (by decide) ?_
      exact nxt _ _ _ _ _ _ _ _ _ _ _ _ _ _ j2 hS hcs (LWI.read h5 h6 (hI.1.rgB (F1 := F1) ⟨by omega, by omega⟩) (show (F1 27).toInt = 0 from hw1) hw2) ls (lv_sub hl [0, 1, 2, 3] rfl)
    · refine lv_tableIn (tgt := 224) (off := 192) hx hb dL_law_32 (by decide) (by decide) rfl (by decide) ?_
      refine lv_aload_n hx hb dL_law_224 rfl (lv_at hl 2 rfl) ?_
      refine lcC (As := []) (rest := []) (S := Unit) (fF := fun u => F) (fX := fun u => X) ⟨hx, hb, hml, hown, hts⟩ (c_checkX l dC dI cB cC cI cJ cZ a F X J R gf gn   H.size) (cwV 0 hts kL_law_X11_check_42 rfl rfl rfl (by decide +kernel) ⟨Nat.le_of_ble_eq_true rfl, Nat.le_of_ble_eq_true rfl⟩) (va_recv hK j2.1 (ci := 11) (q0 := 11) rfl rfl) hK hNW j2 hS hA rfl rfl hl.1 (lv_room (Nat.le_of_ble_eq_true rfl)) dL_law_225 hf (fun r1 u hw1 H locs j2 hS => ?_)
      refine lv_pop hx hb dL_law_228 rfl ?_
      refine lv_aload_n hx hb dL_law_229 rfl (lv_at hl 3 rfl) ?_
      refine lcM (As := []) (rest := []) ⟨hx, hb, hml, hown, hts⟩ (m_check l dC dI cB cC cI cJ cZ z0 Rm pl N G B   H.size) (cwV 0 hts kL_law_X12_check_45 rfl rfl rfl (by decide +kernel) ⟨Nat.le_of_ble_eq_true rfl, Nat.le_of_ble_eq_true rfl⟩) (va_recv hK j2.2.1 (ci := 12) (q0 := 0) rfl rfl) hK hNW j2 hS hA rfl rfl hl.1 (lv_room (Nat.le_of_ble_eq_true rfl)) dL_law_230 hf (fun r2 N1 G9 B1 pl1 hw2 H locs j2 hS => ?_)
      dsimp only at hw2
      obtain ⟨e1, e2, e3, e4⟩ := hw2
      rw [e1, e2, e3, e4] at j2
      refine lv_pop hx hb dL_law_233 rfl ?_
      refine lv_goto (tgt := 237) hx hb dL_law_234 (by decide) ?_
      exact nxt _ _ _ _ _ _ _ _ _ _ _ _ _ _ j2 hS hcs hI.zero ls (lv_sub hl [0, 1, 2, 3] rfl)
    · refine lv_tableOut (tgt := 237) hx hb dL_law_32 (by decide) (by decide) ?_
      exact nxt _ _ _ _ _ _ _ _ _ _ _ _ _ _ j2 hS hcs hI.up ls (lv_sub hl [0, 1, 2, 3] rfl)

set_option maxHeartbeats 4000000 in
set_option maxRecDepth 100000 in
theorem law_again {p : Program} {e : Env} {s : State} {m : MethodId} {below : List Frame} {meth : Method} {c : Code} (l : Launch) {b L : Nat} {xs : Nat → Int32} {dC : Nat → ClassId} {dI : Nat → Nat → Nat} {cB cC cI cJ cZ : ClassId} {a : Nat → Nat} {z0 : Nat} {Rm : Nat → Nat} (hL : L ≤ 2048) (C0 : lw_At p s m meth c b L xs) (hK : va_K (dC, dI) vwCl (TY cB cC cI cJ cZ) s) (hNW : NW s) {i : Nat} (nxt : ∀ (F : Nat → Int32) (X : Nat → Nat → Int32) (J : Nat → Nat → Int64) (R : Nat → Nat) (gf gn : Nat) (pl : Int32) (N : Nat → Nat) (G : Nat → Nat → Nat) (B : Nat → Nat → Int32) (H : Heap) (locs : List Loc) (cells slots : Nat), J2 (dC, dI) (fun q : Nat => s.heap.size ≤ q) (CW cB cC cI cJ cZ a F X J R gf gn) (MW cB cC cI cJ cZ z0 Rm pl N G B) H → va_S (fun q : Nat => s.heap.size ≤ q) s.heap H locs → cells + cg gf gn ≤ room_1.cells ∧ slots + sg gf gn ≤ room_1.slots → LWI F X gf gn N G B (i + 4) → ∀ (ls : Array Slot), lv_has ls 4 [(3, .int (nI (i + 4))), (0, .ref b), (1, .ref (a 11)), (2, .ref z0)] → W p l e room_1 s m #[Value.ref b] below meth c H locs cells slots (lw_Z below #[Value.ref b] s) (F0 m 18 ls [])) : ∀ (F : Nat → Int32) (X : Nat → Nat → Int32) (J : Nat → Nat → Int64) (R : Nat → Nat) (gf gn : Nat) (pl : Int32) (N : Nat → Nat) (G : Nat → Nat → Nat) (B : Nat → Nat → Int32) (H : Heap) (locs : List Loc) (cells slots : Nat), J2 (dC, dI) (fun q : Nat => s.heap.size ≤ q) (CW cB cC cI cJ cZ a F X J R gf gn) (MW cB cC cI cJ cZ z0 Rm pl N G B) H → va_S (fun q : Nat => s.heap.size ≤ q) s.heap H locs → cells + cg gf gn ≤ room_1.cells ∧ slots + sg gf gn ≤ room_1.slots → LWI F X gf gn N G B (i + 4) → ∀ (ls : Array Slot), lv_has ls 4 [(3, .int (nI i)), (0, .ref b), (1, .ref (a 11)), (2, .ref z0)] → W p l e room_1 s m #[Value.ref b] below meth c H locs cells slots (lw_Z below #[Value.ref b] s) (F0 m 237 ls []) := by
  obtain ⟨hx, hb, hr, hml, hown, hts, hX, hbl, hlocks, hgv⟩ := id C0
  have hown : s.vm.findClass RL = some m.cls := hown
  have hA : ∀ q : Nat, s.heap.size ≤ q → (fun q : Nat => s.heap.size ≤ q) q := fun _ h => h
  have hbA : ¬ (fun q : Nat => s.heap.size ≤ q) b := Nat.not_le.mpr hbl
  intro F X J R gf gn pl N G B H locs cells slots j2 hS hcs hI ls hl
  obtain ⟨x_1, ex_1⟩ : ∃ y : Int32, y = (nI i) + 4 := ⟨_, rfl⟩
  refine lv_iinc (v := x_1) (lv' := [(3, .int x_1), (0, .ref b), (1, .ref (a 11)), (2, .ref z0)]) hx hb dL_law_237 hl (k := 0) rfl (by rw [ex_1]; rfl) (by decide) rfl (fun ls hl => ?_)
  refine lv_goto (tgt := 18) hx hb dL_law_240 (by decide) ?_
  have e9 : x_1 = nI (i + 4) := by rw [ex_1]; exact nI_add i 4
  subst e9
  exact nxt F X J R gf gn pl N G B H locs cells slots j2 hS hcs hI ls (lv_sub hl [0, 1, 2, 3] rfl)

theorem law_loop {p : Program} {e : Env} {s : State} {m : MethodId} {below : List Frame} {meth : Method} {c : Code} (l : Launch) {b L : Nat} {xs : Nat → Int32} {dC : Nat → ClassId} {dI : Nat → Nat → Nat} {cB cC cI cJ cZ : ClassId} {a : Nat → Nat} {z0 : Nat} {Rm : Nat → Nat} (hL : L ≤ 2048) (C0 : lw_At p s m meth c b L xs) (hK : va_K (dC, dI) vwCl (TY cB cC cI cJ cZ) s) (hNW : NW s) : ∀ (n i : Nat), i ≤ 2052 → L ≤ i + 4 * n → ∀ (F : Nat → Int32) (X : Nat → Nat → Int32) (J : Nat → Nat → Int64) (R : Nat → Nat) (gf gn : Nat) (pl : Int32) (N : Nat → Nat) (G : Nat → Nat → Nat) (B : Nat → Nat → Int32) (H : Heap) (locs : List Loc) (cells slots : Nat), J2 (dC, dI) (fun q : Nat => s.heap.size ≤ q) (CW cB cC cI cJ cZ a F X J R gf gn) (MW cB cC cI cJ cZ z0 Rm pl N G B) H → va_S (fun q : Nat => s.heap.size ≤ q) s.heap H locs → cells + cg gf gn ≤ room_1.cells ∧ slots + sg gf gn ≤ room_1.slots → LWI F X gf gn N G B i → ∀ (ls : Array Slot), lv_has ls 4 [(3, .int (nI i)), (0, .ref b), (1, .ref (a 11)), (2, .ref z0)] → W p l e room_1 s m #[Value.ref b] below meth c H locs cells slots (lw_Z below #[Value.ref b] s) (F0 m 18 ls []) := by
  intro n
  induction n with
  | zero =>
    intro i hi hn
    exact law_out l hL C0 hK hNW hi (by omega)
  | succ n ih =>
    intro i hi hn
    rcases Nat.lt_or_ge L (i + 4) with h | h
    · exact law_out l hL C0 hK hNW hi h
    · exact law_step l hL C0 hK hNW h (law_again l hL C0 hK hNW (ih (i + 4) (by omega) (by omega)))
