def tmS (i : Nat) : Term := .string RX6 ([53, 59, 61, 63, 65, 67, 69, 71, 73].getD i 0)
def lenS : List Nat := [6, 2, 5, 10, 12, 6, 13, 3, 1]
def bytS : List (List Int32) := [[108, 97, 109, 98, 100, 97], [105, 102], [113, 117, 111, 116, 101], [108, 101, 116, 45, 115, 121, 110, 116, 97, 120], [115, 121, 110, 116, 97, 120, 45, 114, 117, 108, 101, 115], [100, 101, 102, 105, 110, 101], [100, 101, 102, 105, 110, 101, 45, 115, 121, 110, 116, 97, 120], [46, 46, 46], [95]]
abbrev FL : List Cond := flatC (Jvm.Cond.and given_1 narrow_1)
theorem fs_ex : ∀ i, i < 9 → Cond.exactly (tmS i) "java/lang/String" ∈ FL := by decide +kernel
theorem fs_co : ∀ i, i < 9 → Cond.eq (.field (tmS i) "java/lang/String" "coder" "B") (.int 0) ∈ FL := by decide +kernel
theorem fs_ar : ∀ i, i < 9 → Cond.arrayOf (.field (tmS i) "java/lang/String" "value" "[B") .byte ∈ FL := by decide +kernel
theorem fs_le : ∀ i, i < 9 → Cond.eq (.length (.field (tmS i) "java/lang/String" "value" "[B")) (.int (Int32.ofNat (lenS.getD i 0))) ∈ FL := by decide +kernel
theorem fs_el : ∀ i, i < 9 → ∀ j, j < lenS.getD i 0 → Cond.eq (.elem (.field (tmS i) "java/lang/String" "value" "[B") (.int (Int32.ofNat j))) (.int ((bytS.getD i []).getD j 0)) ∈ FL := by decide +kernel
theorem fs_ne : ∀ i, i < 9 → ∀ j, j < 9 → i ≠ j → (Cond.not (Cond.eq (tmS i) (tmS j)) ∈ FL ∨ Cond.not (Cond.eq (tmS j) (tmS i)) ∈ FL) := by decide +kernel
theorem fs_cs : Cond.eq (.static "java/lang/String" "COMPACT_STRINGS" "Z") (.int 1) ∈ FL := by decide +kernel
theorem st_all {s : State} {b : Nat} (hts : ∀ w ∈ lw_tbl, w.before #[Value.ref b] s = true) (hgv : (Jvm.Cond.and given_1 narrow_1).before #[Value.ref b] s = true) : ∃ (dC : Nat → ClassId) (dI : Nat → Nat → Nat) (cB cC cI cJ cZ : ClassId) (ad : Nat → Nat), va_K (dC, dI) vwCl (TY cB cC cI cJ cZ) s ∧ NW s ∧ SA ad (fun q : Nat => s.heap.size ≤ q) s s.heap := by
  obtain ⟨c0, i0, hk0⟩ := u_known (C := RX0) (T := TX0) (N := 15) (n := 15) hts tb_X0 (hts _ tw_192)
  obtain ⟨c1, i1, hk1⟩ := u_known (C := RX1) (T := TX1) (N := 4) (n := 4) hts tb_X1 (hts _ tw_176)
  obtain ⟨c2, i2, hk2⟩ := u_known (C := RX2) (T := TX2) (N := 7) (n := 7) hts tb_X2 (hts _ tw_125)
  obtain ⟨c3, i3, hk3⟩ := u_known (C := RX3) (T := TX3) (N := 6) (n := 6) hts tb_X3 (hts _ tw_162)
  obtain ⟨c4, i4, hk4⟩ := u_known (C := RX4) (T := TX4) (N := 6) (n := 6) hts tb_X4 (hts _ tw_156)
  obtain ⟨c5, i5, hk5⟩ := u_known (C := RX5) (T := TX5) (N := 6) (n := 6) hts tb_X5 (hts _ tw_137)
  obtain ⟨c6, i6, hk6⟩ := u_known (C := RX6) (T := TX6) (N := 13) (n := 13) hts tb_X6 (hts _ tw_171)
  obtain ⟨c7, i7, hk7⟩ := u_known (C := RX7) (T := TX7) (N := 4) (n := 4) hts tb_X7 (hts _ tw_186)
  obtain ⟨c8, i8, hk8⟩ := u_known (C := RX8) (T := TX8) (N := 4) (n := 4) hts tb_X8 (hts _ tw_150)
  obtain ⟨c9, i9, hk9⟩ := u_known (C := RX9) (T := TX9) (N := 6) (n := 6) hts tb_X9 (hts _ tw_144)
  obtain ⟨c10, i10, hk10⟩ := u_known (C := RX10) (T := TX10) (N := 5) (n := 5) hts tb_X10 (hts _ tw_181)
  obtain ⟨c11, i11, hk11⟩ := u_known (C := RX11) (T := TX11) (N := 11) (n := 11) hts tb_X11 (hts _ tw_396)
  obtain ⟨c12, i12, hk12⟩ := u_known (C := RX12) (T := TX12) (N := 64) (n := 64) hts tb_X12 (hts _ tw_400)
  obtain ⟨cB, hcB⟩ := ak_byte (hts _ tw_290)
  obtain ⟨cC, hcC⟩ := ak_char (hts _ tw_11)
  obtain ⟨cI, hcI⟩ := ak_int (hts _ tw_4)
  obtain ⟨cJ, hcJ⟩ := ak_long (hts _ tw_114)
  obtain ⟨cZ, hcZ⟩ := ak_boolean (hts _ tw_21)
  have hs := flat_of_before _ hgv
  have hA : ∀ a : Nat, a < s.heap.size → ¬ (fun q : Nat => s.heap.size ≤ q) a := fun a h => Nat.not_le.mpr h
  obtain ⟨adK, adV, hvS, hev⟩ := vk_Sof (args := #[Value.ref b]) (s := s) (N := 9) (tm := tmS) (len := lenS) (byt := bytS) (A := fun q : Nat => s.heap.size ≤ q) (by decide) (fun i hi => hs _ (fs_ex i hi)) (fun i hi => hs _ (fs_co i hi)) (fun i hi => hs _ (fs_ar i hi)) (fun i hi => hs _ (fs_le i hi)) (fun i hi j hj => hs _ (fs_el i hi j hj)) (fun i j hi hj hn => (fs_ne i hi j hj hn).elim (fun h => Or.inl (hs _ h)) (fun h => Or.inr (hs _ h))) hA
  have hZ := va_Zof (A := fun q : Nat => s.heap.size ≤ q) (hts _ tw_446) (hts _ tw_83) (va_eqt (hs _ fs_cs)) hA
  have hl16 : ∀ i, i < 9 → lenS.getD i 0 ≤ 16 := by decide
  refine ⟨fun k => [c0, c1, c2, c3, c4, c5, c6, c7, c8, c9, c10, c11, c12].getD k c0, fun k => [i0, i1, i2, i3, i4, i5, i6, i7, i8, i9, i10, i11, i12].getD k i0, cB, cC, cI, cJ, cZ, adK, ⟨?_, ?_⟩, ⟨va_Nw.of rfl (hts _ tw_447), va_Nw.of rfl (hts _ tw_448), va_Nw.of rfl (hts _ tw_449), va_Nw.of rfl (hts _ tw_450), va_Nw.of rfl (hts _ tw_451), va_Nw.of rfl (hts _ tw_452), va_Nw.of rfl (hts _ tw_453), va_Nw.of rfl (hts _ tw_454), va_Nw.of rfl (hts _ tw_455), va_Nw.of rfl (hts _ tw_456), va_Nw.of rfl (hts _ tw_457), va_Nw.of rfl (hts _ tw_458), va_Nw.of rfl (hts _ tw_459)⟩, ⟨vk_R.of (hts _ tw_460) (hev 0 (by decide)), vk_R.of (hts _ tw_461) (hev 1 (by decide)), vk_R.of (hts _ tw_462) (hev 2 (by decide)), vk_R.of (hts _ tw_463) (hev 3 (by decide)), vk_R.of (hts _ tw_464) (hev 4 (by decide)), vk_R.of (hts _ tw_465) (hev 5 (by decide)), vk_R.of (hts _ tw_466) (hev 6 (by decide)), vk_R.of (hts _ tw_467) (hev 7 (by decide)), vk_R.of (hts _ tw_468) (hev 8 (by decide))⟩, ?_⟩
  · intro k q hq
    match k, hq with
    | 0, hq => cases hq; exact hk0
    | 1, hq => cases hq; exact hk1
    | 2, hq => cases hq; exact hk2
    | 3, hq => cases hq; exact hk3
    | 4, hq => cases hq; exact hk4
    | 5, hq => cases hq; exact hk5
    | 6, hq => cases hq; exact hk6
    | 7, hq => cases hq; exact hk7
    | 8, hq => cases hq; exact hk8
    | 9, hq => cases hq; exact hk9
    | 10, hq => cases hq; exact hk10
    | 11, hq => cases hq; exact hk11
    | 12, hq => cases hq; exact hk12
    | k + 13, hq => simp [vwCl] at hq
  · intro k q hq
    match k, hq with
    | 0, hq => cases hq; exact hcB
    | 1, hq => cases hq; exact hcC
    | 2, hq => cases hq; exact hcI
    | 3, hq => cases hq; exact hcJ
    | 4, hq => cases hq; exact hcZ
    | k + 5, hq => simp [TY] at hq
  · intro i hi
    obtain ⟨h1, h2, h3, h4⟩ := hvS.1 i hi
    exact ⟨hZ, h1, h2, adV i, lenS.getD i 0, fun j => (bytS.getD i []).getD j 0, hl16 i hi, h3, h4⟩
