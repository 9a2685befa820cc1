def tmS (i : Nat) : Term := .string RX6 ([53, 59, 61, 63, 65, 67, 69, 71, 73].getD i 0)
def lenS : List Nat := [6, 2, 5, 10, 12, 6, 13, 3, 1]
def bytS : List (List Int32) := [[108, 97, 109, 98, 100, 97], [105, 102], [113, 117, 111, 116, 101], [108, 101, 116, 45, 115, 121, 110, 116, 97, 120], [115, 121, 110, 116, 97, 120, 45, 114, 117, 108, 101, 115], [100, 101, 102, 105, 110, 101], [100, 101, 102, 105, 110, 101, 45, 115, 121, 110, 116, 97, 120], [46, 46, 46], [95]]
abbrev FL : List Cond := flatC (Jvm.Cond.and given_1 narrow_1)
theorem fs_ex : ∀ i, i < 9 → Cond.exactly (tmS i) "java/lang/String" ∈ FL := by decide +kernel
theorem fs_co : ∀ i, i < 9 → Cond.eq (.field (tmS i) "java/lang/String" "coder" "B") (.int 0) ∈ FL := by decide +kernel
theorem fs_ar : ∀ i, i < 9 → Cond.arrayOf (.field (tmS i) "java/lang/String" "value" "[B") .byte ∈ FL := by decide +kernel
theorem fs_le : ∀ i, i < 9 → Cond.eq (.length (.field (tmS i) "java/lang/String" "value" "[B")) (.int (Int32.ofNat (lenS.getD i 0))) ∈ FL := by decide +kernel
theorem fs_el : ∀ i, i < 9 → ∀ j, j < lenS.getD i 0 → Cond.eq (.elem (.field (tmS i) "java/lang/String" "value" "[B") (.int (Int32.ofNat j))) (.int ((bytS.getD i []).getD j 0)) ∈ FL := by decide +kernel
theorem fs_ne : ∀ i, i < 9 → ∀ j, j < 9 → i ≠ j → (Cond.not (Cond.eq (tmS i) (tmS j)) ∈ FL ∨ Cond.not (Cond.eq (tmS j) (tmS i)) ∈ FL) := by decide +kernel
theorem fs_cs : Cond.eq (.static "java/lang/String" "COMPACT_STRINGS" "Z") (.int 1) ∈ FL := by decide +kernel
theorem st_all {s : State} {b : Nat} (hts : ∀ w ∈ lw_tbl, w.before #[Value.ref b] s = true) (hgv : (Jvm.Cond.and given_1 narrow_1).before #[Value.ref b] s = true) : ∃ (dC : Nat → ClassId) (dI : Nat → Nat → Nat) (cB cC cI cJ cZ : ClassId) (ad : Nat → Nat), va_K (dC, dI) vwCl (TY cB cC cI cJ cZ) s ∧ NW s ∧ SA ad (fun q : Nat => s.heap.size ≤ q) s s.heap := by
  obtain ⟨c0, i0, hk0⟩ := u_known (C := RX0) (T := TX0) (N := 15) (n := 15) hts tb_X0 (hts _ tw_28)
  obtain ⟨c1, i1, hk1⟩ := u_known (C := RX1) (T := TX1) (N := 4) (n := 4) hts tb_X1 (hts _ tw_12)
  obtain ⟨c2, i2, hk2⟩ := u_known (C := RX2) (T := TX2) (N := 7) (n := 7) hts tb_X2 (hts _ tw_110)
  obtain ⟨c3, i3, hk3⟩ := u_known (C := RX3) (T := TX3) (N := 6) (n := 6) hts tb_X3 (hts _ tw_147)
  obtain ⟨c4, i4, hk4⟩ := u_known (C := RX4) (T := TX4) (N := 6) (n := 6) hts tb_X4 (hts _ tw_141)
  obtain ⟨c5, i5, hk5⟩ := u_known (C := RX5) (T := TX5) (N := 6) (n := 6) hts tb_X5 (hts _ tw_122)
  obtain ⟨c6, i6, hk6⟩ := u_known (C := RX6) (T := TX6) (N := 13) (n := 13) hts tb_X6 (hts _ tw_6)
  obtain ⟨c7, i7, hk7⟩ := u_known (C := RX7) (T := TX7) (N := 4) (n := 4) hts tb_X7 (hts _ tw_22)
  obtain ⟨c8, i8, hk8⟩ := u_known (C := RX8) (T := TX8) (N := 4) (n := 4) hts tb_X8 (hts _ tw_135)
  obtain ⟨c9, i9, hk9⟩ := u_known (C := RX9) (T := TX9) (N := 6) (n := 6) hts tb_X9 (hts _ tw_129)
  obtain ⟨c10, i10, hk10⟩ := u_known (C := RX10) (T := TX10) (N := 5) (n := 5) hts tb_X10 (hts _ tw_17)
  obtain ⟨c11, i11, hk11⟩ := u_known (C := RX11) (T := TX11) (N := 11) (n := 11) hts tb_X11 (hts _ tw_1135)
  obtain ⟨c12, i12, hk12⟩ := u_known (C := RX12) (T := TX12) (N := 64) (n := 64) hts tb_X12 (hts _ tw_1139)
  obtain ⟨cB, hcB⟩ := ak_byte (hts _ tw_203)
  obtain ⟨cC, hcC⟩ := ak_char (hts _ tw_3)
  obtain ⟨cI, hcI⟩ := ak_int (hts _ tw_42)
  obtain ⟨cJ, hcJ⟩ := ak_long (hts _ tw_39)
  obtain ⟨cZ, hcZ⟩ := ak_boolean (hts _ tw_155)
  have hs := flat_of_before _ hgv
  have hA : ∀ a : Nat, a < s.heap.size → ¬ (fun q : Nat => s.heap.size ≤ q) a := fun a h => Nat.not_le.mpr h
  obtain ⟨adK, adV, hvS, hev⟩ := vk_Sof (args := #[Value.ref b]) (s := s) (N := 9) (tm := tmS) (len := lenS) (byt := bytS) (A := fun q : Nat => s.heap.size ≤ q) (by decide) (fun i hi => hs _ (fs_ex i hi)) (fun i hi => hs _ (fs_co i hi)) (fun i hi => hs _ (fs_ar i hi)) (fun i hi => hs _ (fs_le i hi)) (fun i hi j hj => hs _ (fs_el i hi j hj)) (fun i j hi hj hn => (fs_ne i hi j hj hn).elim (fun h => Or.inl (hs _ h)) (fun h => Or.inr (hs _ h))) hA
  have hZ := va_Zof (A := fun q : Nat => s.heap.size ≤ q) (hts _ tw_1184) (hts _ tw_60) (va_eqt (hs _ fs_cs)) hA
  have hl16 : ∀ i, i < 9 → lenS.getD i 0 ≤ 16 := by decide
  refine ⟨fun k => [c0, c1, c2, c3, c4, c5, c6, c7, c8, c9, c10, c11, c12].getD k c0, fun k => [i0, i1, i2, i3, i4, i5, i6, i7, i8, i9, i10, i11, i12].getD k i0, cB, cC, cI, cJ, cZ, adK, ⟨?_, ?_⟩, ⟨va_Nw.of rfl (hts _ tw_1185), va_Nw.of rfl (hts _ tw_1186), va_Nw.of rfl (hts _ tw_1187), va_Nw.of rfl (hts _ tw_1188), va_Nw.of rfl (hts _ tw_1189), va_Nw.of rfl (hts _ tw_1190), va_Nw.of rfl (hts _ tw_1191), va_Nw.of rfl (hts _ tw_1192), va_Nw.of rfl (hts _ tw_1193), va_Nw.of rfl (hts _ tw_1194), va_Nw.of rfl (hts _ tw_1195), va_Nw.of rfl (hts _ tw_1196), va_Nw.of rfl (hts _ tw_1197), va_Nw.of rfl (hts _ tw_1198), va_Nw.of rfl (hts _ tw_1199), va_Nw.of rfl (hts _ tw_1200), va_Nw.of rfl (hts _ tw_1201), va_Nw.of rfl (hts _ tw_1202), va_Nw.of rfl (hts _ tw_1203), va_Nw.of rfl (hts _ tw_1204), va_Nw.of rfl (hts _ tw_1205), va_Nw.of rfl (hts _ tw_1206), va_Nw.of rfl (hts _ tw_1207), va_Nw.of rfl (hts _ tw_1208), va_Nw.of rfl (hts _ tw_1209), va_Nw.of rfl (hts _ tw_1210), va_Nw.of rfl (hts _ tw_1211)⟩, ⟨vk_R.of (hts _ tw_1212) (hev 0 (by decide)), vk_R.of (hts _ tw_1213) (hev 1 (by decide)), vk_R.of (hts _ tw_1214) (hev 2 (by decide)), vk_R.of (hts _ tw_1215) (hev 3 (by decide)), vk_R.of (hts _ tw_1216) (hev 4 (by decide)), vk_R.of (hts _ tw_1217) (hev 5 (by decide)), vk_R.of (hts _ tw_1218) (hev 6 (by decide)), vk_R.of (hts _ tw_1219) (hev 7 (by decide)), vk_R.of (hts _ tw_1220) (hev 8 (by decide))⟩, ?_⟩
  · intro k q hq
    match k, hq with
    | 0, hq => cases hq; exact hk0
    | 1, hq => cases hq; exact hk1
    | 2, hq => cases hq; exact hk2
    | 3, hq => cases hq; exact hk3
    | 4, hq => cases hq; exact hk4
    | 5, hq => cases hq; exact hk5
    | 6, hq => cases hq; exact hk6
    | 7, hq => cases hq; exact hk7
    | 8, hq => cases hq; exact hk8
    | 9, hq => cases hq; exact hk9
    | 10, hq => cases hq; exact hk10
    | 11, hq => cases hq; exact hk11
    | 12, hq => cases hq; exact hk12
    | k + 13, hq => simp [vwCl] at hq
  · intro k q hq
    match k, hq with
    | 0, hq => cases hq; exact hcB
    | 1, hq => cases hq; exact hcC
    | 2, hq => cases hq; exact hcI
    | 3, hq => cases hq; exact hcJ
    | 4, hq => cases hq; exact hcZ
    | k + 5, hq => simp [TY] at hq
  · intro i hi
    obtain ⟨h1, h2, h3, h4⟩ := hvS.1 i hi
    exact ⟨hZ, h1, h2, adV i, lenS.getD i 0, fun j => (bytS.getD i []).getD j 0, hl16 i hi, h3, h4⟩
/-! THE CLAIM OUT OF ONE WALK OF THE LAW'S BODY. Your part is whole_start (and what it stands on); all else here is the same for every law, but numbers. -/
def R_law : String := "MacroScopesLaw"
def lw_P (b : Addr) (xs : List Int32) (args : Array Value) (s : State) : Prop := args = #[.ref b] ∧ s.IntsAt b xs ∧ xs.length ≤ 2048 ∧ (Jvm.Cond.and given_1 narrow_1).before args s = true
def lw_Q (_ : Array Value) (s : State) (o : Outcome) (t : State) : Prop := o = .returned (some (.int 1)) ∧ Framed s o t [] 204511 8488716
def lw_Z (below : List Frame) (a : Array Value) (s : State) : State → Prop := fun t => ∃ o, t.status = .running ∧ Ended t below o ∧ lw_Q a s o t
/-- the law's own end, with 1 on the stack, nothing written that was there before, its room as the claim has it -/
theorem lw_ret {p : Program} {l : Launch} {e : Env} {s : State} {m : MethodId} {below : List Frame} {meth : Method} {c : Code} {b : Nat} (hx : p.tables.exec = Jvm.exec) (hb : c.code = code) (hr : meth.sig.returnType = ret) (hlocks : meth.locks = false) {pc : Nat} {H : Heap} {ls : Array Slot} (hdg : decode code pc = .ok (.ireturn, 1)) : W p l e room_1 s m #[Value.ref b] below meth c H [] 204511 8488716 (lw_Z below #[Value.ref b] s) (F0 m pc ls [.int 1]) := by
  intro T hT X
  obtain ⟨fs, hret, hrun, hended, hW, hframe⟩ := X.leave (v := some (.int 1)) (hlocks := hlocks) (fun h => by rw [hr] at h; cases h)
  have hmeth' : T.vm.method? m = some meth := X.method'
  refine ⟨T.setFrames fs, ?_, .returned (some (.int 1)), hrun, hended, rfl, ⟨_, rfl⟩, hW, hframe⟩
  jvm_step X.here [X.here.top, hx, hb, hdg, hmeth', hr, ret, narrow_b1]
  (try refine ⟨rfl, ?_⟩); (try refine ⟨rfl, ?_⟩)
  first | (intro acts; rw [hret _ acts rfl rfl rfl]) | rw [hret _ _ rfl rfl rfl]
  exact Steps.refl _
/-- what holds at the law's entry: the machine, the code, the tables' words (any of lw_tbl by 'hts w (by decide +kernel)'), the script of L ints xs at the cell b, what the Statement gives of the start (any of its parts by flat_of_before) -/
def lw_At (p : Program) (s : State) (m : MethodId) (meth : Method) (c : Code) (b L : Nat) (xs : Nat → Int32) : Prop :=
  p.tables.exec = Jvm.exec ∧ c.code = code ∧ meth.sig.returnType = ret ∧ c.maxLocals = 4 ∧ s.vm.findClass R_law = some m.cls ∧ (∀ w ∈ lw_tbl, w.before #[Value.ref b] s = true) ∧ va_X b L xs s s.heap ∧ b < s.heap.size ∧ meth.locks = false ∧ (Jvm.Cond.and given_1 narrow_1).before #[Value.ref b] s = true
