def oX8_isLiteral : List Cond := [Cond.methodLink RX8 49 yX1_after, Cond.instanceMethod yX1_after, Cond.selects RX1 yX1_after yX1_after, Cond.initialized RX1, Cond.methodLink RX8 59 yX1_nameOf, Cond.instanceMethod yX1_nameOf, Cond.selects RX1 yX1_nameOf yX1_nameOf]
def vX8_isLiteral : List Cond := .code yX8_isLiteral cX8_isLiteral 4 (some .boolean) :: (oX8_isLiteral ++ (vX1_after ++ (vX1_nameOf)))
theorem kX8_isLiteral_X1_after_49 : GoodIn vX8_isLiteral (wsV RX8 49 RX1 yX1_after vX1_after) := goodIn_sub (fun w h => (List.mem_append.mp h).elim (fun h => List.mem_cons_of_mem _ (List.mem_append_left _ ((by decide +kernel : ∀ w ∈ ([.methodLink RX8 49 yX1_after, .instanceMethod yX1_after, .selects RX1 yX1_after yX1_after, .initialized RX1] : List Cond), w ∈ oX8_isLiteral) w h))) (fun h => List.mem_cons_of_mem _ (List.mem_append_right _ (List.mem_append_left _ (h))))) (by decide +kernel)
theorem kX8_isLiteral_X1_nameOf_59 : GoodIn vX8_isLiteral (wsV RX8 59 RX1 yX1_nameOf vX1_nameOf) := goodIn_sub (fun w h => (List.mem_append.mp h).elim (fun h => List.mem_cons_of_mem _ (List.mem_append_left _ ((by decide +kernel : ∀ w ∈ ([.methodLink RX8 59 yX1_nameOf, .instanceMethod yX1_nameOf, .selects RX1 yX1_nameOf yX1_nameOf, .initialized RX1] : List Cond), w ∈ oX8_isLiteral) w h))) (fun h => List.mem_cons_of_mem _ (List.mem_append_right _ (List.mem_append_right _ (h))))) (by decide +kernel)
def oX8_holdsRepeated : List Cond := [Cond.fieldLink RX8 15 "MacroScopes$RuleCheck" "forms" "LMacroScopes$Forms;", Cond.methodLink RX8 49 yX1_after, Cond.instanceMethod yX1_after, Cond.selects RX1 yX1_after yX1_after, Cond.initialized RX1, Cond.fieldLink RX8 19 "MacroScopes$RuleCheck" "names" "LMacroScopes$Names;", Cond.methodLink RX8 59 yX1_nameOf, Cond.instanceMethod yX1_nameOf, Cond.selects RX1 yX1_nameOf yX1_nameOf, Cond.methodLink RX8 102 yX6_noteOf, Cond.instanceMethod yX6_noteOf, Cond.selects RX6 yX6_noteOf yX6_noteOf, Cond.initialized RX6]
def vX8_holdsRepeated : List Cond := .code yX8_holdsRepeated cX8_holdsRepeated 3 (some .boolean) :: (oX8_holdsRepeated ++ (vX1_after ++ (vX1_nameOf ++ (vX6_noteOf ++ (wsX80)))))
theorem lkX8_holdsRepeated_f15 : Cond.fieldLink RX8 15 "MacroScopes$RuleCheck" "forms" "LMacroScopes$Forms;" ∈ vX8_holdsRepeated := List.mem_cons_of_mem _ (List.mem_append_left _ (List.mem_of_getElem? (i := 0) rfl))
theorem lkX8_holdsRepeated_f19 : Cond.fieldLink RX8 19 "MacroScopes$RuleCheck" "names" "LMacroScopes$Names;" ∈ vX8_holdsRepeated := List.mem_cons_of_mem _ (List.mem_append_left _ (List.mem_of_getElem? (i := 5) rfl))
theorem inX8_holdsRepeated_X8 : ∀ w ∈ wsX80, w ∈ vX8_holdsRepeated := fun w h => List.mem_cons_of_mem _ (List.mem_append_right _ (List.mem_append_right _ (List.mem_append_right _ (List.mem_append_right _ (h)))))
theorem kX8_holdsRepeated_X1_after_49 : GoodIn vX8_holdsRepeated (wsV RX8 49 RX1 yX1_after vX1_after) := goodIn_sub (fun w h => (List.mem_append.mp h).elim (fun h => List.mem_cons_of_mem _ (List.mem_append_left _ ((by decide +kernel : ∀ w ∈ ([.methodLink RX8 49 yX1_after, .instanceMethod yX1_after, .selects RX1 yX1_after yX1_after, .initialized RX1] : List Cond), w ∈ oX8_holdsRepeated) w h))) (fun h => List.mem_cons_of_mem _ (List.mem_append_right _ (List.mem_append_left _ (h))))) (by decide +kernel)
theorem kX8_holdsRepeated_X1_nameOf_59 : GoodIn vX8_holdsRepeated (wsV RX8 59 RX1 yX1_nameOf vX1_nameOf) := goodIn_sub (fun w h => (List.mem_append.mp h).elim (fun h => List.mem_cons_of_mem _ (List.mem_append_left _ ((by decide +kernel : ∀ w ∈ ([.methodLink RX8 59 yX1_nameOf, .instanceMethod yX1_nameOf, .selects RX1 yX1_nameOf yX1_nameOf, .initialized RX1] : List Cond), w ∈ oX8_holdsRepeated) w h))) (fun h => List.mem_cons_of_mem _ (List.mem_append_right _ (List.mem_append_right _ (List.mem_append_left _ (h)))))) (by decide +kernel)
theorem kX8_holdsRepeated_X6_noteOf_102 : GoodIn vX8_holdsRepeated (wsV RX8 102 RX6 yX6_noteOf vX6_noteOf) := goodIn_sub (fun w h => (List.mem_append.mp h).elim (fun h => List.mem_cons_of_mem _ (List.mem_append_left _ ((by decide +kernel : ∀ w ∈ ([.methodLink RX8 102 yX6_noteOf, .instanceMethod yX6_noteOf, .selects RX6 yX6_noteOf yX6_noteOf, .initialized RX6] : List Cond), w ∈ oX8_holdsRepeated) w h))) (fun h => List.mem_cons_of_mem _ (List.mem_append_right _ (List.mem_append_right _ (List.mem_append_right _ (List.mem_append_left _ (h))))))) (by decide +kernel)
def oX8_literalsFit : List Cond := [Cond.fieldLink RX8 15 "MacroScopes$RuleCheck" "forms" "LMacroScopes$Forms;", Cond.fieldLink RX8 9 "MacroScopes$RuleCheck" "literals" "I", Cond.methodLink RX8 49 yX1_after, Cond.instanceMethod yX1_after, Cond.selects RX1 yX1_after yX1_after, Cond.initialized RX1, Cond.methodLink RX8 59 yX1_nameOf, Cond.instanceMethod yX1_nameOf, Cond.selects RX1 yX1_nameOf yX1_nameOf, Cond.methodLink RX8 62 yX6_canBeBound, Cond.static yX6_canBeBound, Cond.initialized RX6, Cond.methodLink RX8 56 yX1_isList, Cond.instanceMethod yX1_isList, Cond.selects RX1 yX1_isList yX1_isList, Cond.methodLink RX8 27 yX1_parts, Cond.instanceMethod yX1_parts, Cond.selects RX1 yX1_parts yX1_parts]
def vX8_literalsFit : List Cond := .code yX8_literalsFit cX8_literalsFit 2 (some .boolean) :: (oX8_literalsFit ++ (vX1_after ++ (vX1_nameOf ++ (vX6_canBeBound ++ (vX1_isList ++ (vX1_parts ++ (wsX80)))))))
theorem lkX8_literalsFit_f15 : Cond.fieldLink RX8 15 "MacroScopes$RuleCheck" "forms" "LMacroScopes$Forms;" ∈ vX8_literalsFit := List.mem_cons_of_mem _ (List.mem_append_left _ (List.mem_of_getElem? (i := 0) rfl))
theorem lkX8_literalsFit_f9 : Cond.fieldLink RX8 9 "MacroScopes$RuleCheck" "literals" "I" ∈ vX8_literalsFit := List.mem_cons_of_mem _ (List.mem_append_left _ (List.mem_of_getElem? (i := 1) rfl))
theorem inX8_literalsFit_X8 : ∀ w ∈ wsX80, w ∈ vX8_literalsFit := fun w h => List.mem_cons_of_mem _ (List.mem_append_right _ (List.mem_append_right _ (List.mem_append_right _ (List.mem_append_right _ (List.mem_append_right _ (List.mem_append_right _ (h)))))))
theorem kX8_literalsFit_X1_after_49 : GoodIn vX8_literalsFit (wsV RX8 49 RX1 yX1_after vX1_after) := goodIn_sub (fun w h => (List.mem_append.mp h).elim (fun h => List.mem_cons_of_mem _ (List.mem_append_left _ ((by decide +kernel : ∀ w ∈ ([.methodLink RX8 49 yX1_after, .instanceMethod yX1_after, .selects RX1 yX1_after yX1_after, .initialized RX1] : List Cond), w ∈ oX8_literalsFit) w h))) (fun h => List.mem_cons_of_mem _ (List.mem_append_right _ (List.mem_append_left _ (h))))) (by decide +kernel)
theorem kX8_literalsFit_X1_nameOf_59 : GoodIn vX8_literalsFit (wsV RX8 59 RX1 yX1_nameOf vX1_nameOf) := goodIn_sub (fun w h => (List.mem_append.mp h).elim (fun h => List.mem_cons_of_mem _ (List.mem_append_left _ ((by decide +kernel : ∀ w ∈ ([.methodLink RX8 59 yX1_nameOf, .instanceMethod yX1_nameOf, .selects RX1 yX1_nameOf yX1_nameOf, .initialized RX1] : List Cond), w ∈ oX8_literalsFit) w h))) (fun h => List.mem_cons_of_mem _ (List.mem_append_right _ (List.mem_append_right _ (List.mem_append_left _ (h)))))) (by decide +kernel)
theorem kX8_literalsFit_X6_canBeBound_62 : GoodIn vX8_literalsFit (va_wsS RX8 62 yX6_canBeBound vX6_canBeBound) := goodIn_sub (fun w h => (List.mem_append.mp h).elim (fun h => List.mem_cons_of_mem _ (List.mem_append_left _ ((by decide +kernel : ∀ w ∈ ([.methodLink RX8 62 yX6_canBeBound, .static yX6_canBeBound, .initialized yX6_canBeBound.cls] : List Cond), w ∈ oX8_literalsFit) w h))) (fun h => List.mem_cons_of_mem _ (List.mem_append_right _ (List.mem_append_right _ (List.mem_append_right _ (List.mem_append_left _ (h))))))) (by decide +kernel)
theorem kX8_literalsFit_X1_isList_56 : GoodIn vX8_literalsFit (wsV RX8 56 RX1 yX1_isList vX1_isList) := goodIn_sub (fun w h => (List.mem_append.mp h).elim (fun h => List.mem_cons_of_mem _ (List.mem_append_left _ ((by decide +kernel : ∀ w ∈ ([.methodLink RX8 56 yX1_isList, .instanceMethod yX1_isList, .selects RX1 yX1_isList yX1_isList, .initialized RX1] : List Cond), w ∈ oX8_literalsFit) w h))) (fun h => List.mem_cons_of_mem _ (List.mem_append_right _ (List.mem_append_right _ (List.mem_append_right _ (List.mem_append_right _ (List.mem_append_left _ (h)))))))) (by decide +kernel)
theorem kX8_literalsFit_X1_parts_27 : GoodIn vX8_literalsFit (wsV RX8 27 RX1 yX1_parts vX1_parts) := goodIn_sub (fun w h => (List.mem_append.mp h).elim (fun h => List.mem_cons_of_mem _ (List.mem_append_left _ ((by decide +kernel : ∀ w ∈ ([.methodLink RX8 27 yX1_parts, .instanceMethod yX1_parts, .selects RX1 yX1_parts yX1_parts, .initialized RX1] : List Cond), w ∈ oX8_literalsFit) w h))) (fun h => List.mem_cons_of_mem _ (List.mem_append_right _ (List.mem_append_right _ (List.mem_append_right _ (List.mem_append_right _ (List.mem_append_right _ (List.mem_append_left _ (h))))))))) (by decide +kernel)
def NST (f : Nat → Int32) (D : Int → Nat) (gf : Nat) : Prop := (∀ p, D p ≤ 61) ∧ ∀ p : Int, 0 ≤ p → p < (gf : Int) → p + (f p.toNat).toInt ≤ (gf : Int) ∧ ∀ q : Int, p < q → q < p + (f p.toNat).toInt → D q < D p ∧ q + (f q.toNat).toInt ≤ p + (f p.toNat).toInt
theorem NST_af {f : Nat → Int32} {D : Int → Nat} {gf : Nat} (h : NST f D gf) {p q : Int} (h1 : p < q) (h2 : q < AF f gf p) : D q < D p ∧ AF f gf q ≤ AF f gf p ∧ 0 ≤ p ∧ p < (gf : Int) ∧ AF f gf p ≤ (gf : Int) := by
  have a1 := AF_cases f gf p
  have a2 := AF_cases f gf q
  rcases a1 with ⟨e1, p0, p1, s1⟩ | ⟨e1, -⟩
  · obtain ⟨g1, g2⟩ := h.2 p p0 p1
    obtain ⟨g3, g4⟩ := g2 q h1 (by omega)
    refine ⟨g3, ?_, p0, p1, by omega⟩
    rcases a2 with ⟨e2, -, -, -⟩ | ⟨e2, -⟩ <;> omega
  · omega
set_option maxHeartbeats 4000000 in
set_option maxRecDepth 100000 in
theorem lq_isLiteral {p : Program} {l : Launch} {e : Env} {s : State} {m : MethodId} {args : Array Value} {below : List Frame} {meth : Method} {c : Code} {A : Nat → Prop} {dC : Nat → ClassId} {dI : Nat → Nat → Nat} {cB cC cI cJ cZ : ClassId} {a : Nat → Nat} {F : Nat → Int32} {X : Nat → Nat → Int32} {J : Nat → Nat → Int64} {R : Nat → Nat} {gf gn : Nat} (hx : p.tables.exec = Jvm.exec) (hb : c.code = cX8_isLiteral) (hml : c.maxLocals = 4) (hown : s.vm.findClass RX8 = some m.cls) (hts : ∀ w ∈ vX8_isLiteral, w.before args s = true) (hK : va_K (dC, dI) vwCl (TY cB cC cI cJ cZ) s) (hNW : NW s) (hA : ∀ q : Nat, s.heap.size ≤ q → A q) (hr : meth.sig.returnType = (some .boolean)) (hlocks : meth.locks = false) (x y : Int)  (ix : (-2147483648 ≤ x ∧ x < 2147483648)) (iy : (-2147483648 ≤ y ∧ y < 2147483648)) (hgf : gf ≤ 67600) (hsp : SPR (X 1)) (hx2 : x < 2000000000)   : ∀ (k : Nat) (q : Int), (AF (X 1) gf x - q).toNat < k → (-2147483648 ≤ q ∧ q < 2147483648) → (x < q ∧ q ≤ x + 67601) → ∀ (H : Heap) (locs : List Loc), va_P (dC, dI) vwCl (CW cB cC cI cJ cZ a F X J R gf gn) H → va_D A (CW cB cC cI cJ cZ a F X J R gf gn) → va_S A s.heap H locs → ∀ (ls : Array Slot), lv_has ls 4 [(0, .ref (a 1)), (1, .int (oI x)), (2, .int (oI y)), (3, .int (oI q))] → W p l e (headSpec vX8_isLiteral { frames := 2, cells := 0, slots := 0, locals := 82 }).room s m args below meth c H locs 0 0 (MQ below (va_Qi (fun (r : Int32) (_ : Unit) => (r).toInt = 0 ∨ (r).toInt = 1) (fun _ => cPost dC dI cB cC cI cJ cZ a F X J R gf gn A) A) args s 0 0 A) (F0 m 4 ls []) := by
  have hcs : 0 + 0 ≤ (0 : Nat) ∧ 0 + 0 ≤ (0 : Nat) := ⟨Nat.le_refl 0, Nat.le_refl 0⟩
  intro k
  induction k with
  | zero =>
    intro q hk iq9 hq
    exact absurd hk (Nat.not_lt_zero _)
  | succ k ih =>
    intro q hk iq9 hq H locs hP hD hS ls hl
    have eb := AF_b hsp gf x
    refine lv_iload_n hx hb dX8_isLiteral_4 rfl (lv_at hl 3 rfl) ?_
    refine lv_aload_n hx hb dX8_isLiteral_5 rfl (lv_at hl 0 rfl) ?_
    refine lv_iload_n hx hb dX8_isLiteral_6 rfl (lv_at hl 1 rfl) ?_
    refine ccs_iV (As := [.int (oI x)]) (rest := [.int (oI q)]) ⟨hx, hb, hml, hown, hts⟩ (c_after l dC dI cB cC cI cJ cZ a F X J R gf gn x  (by omega) (show gf ≤ 67600 from by first | assumption | omega) (show SPR (X 1) from by first | assumption | omega) (show x < 2147483647 from by first | assumption | omega) H.size) (cwV 1 hts kX8_isLiteral_X1_after_49 rfl rfl rfl (by decide +kernel) ⟨Nat.le_of_ble_eq_true rfl, Nat.le_of_ble_eq_true rfl⟩) (va_recv hK hP (ci := 1) (q0 := 1) rfl rfl) hK hNW hP hD hS hA rfl rfl hl.1 (lv_room (Nat.le_of_ble_eq_true rfl)) dX8_isLiteral_7 hcs (fun r_1 hw_2 H locs hP hD hS => ?_)
    have hw_2 : (r_1).toInt = AF (X 1) gf x ∧ x < (r_1).toInt ∧ (r_1).toInt ≤ x + 67600 := hw_2
    obtain ⟨ea, la, ua⟩ := hw_2
    have i_3 := i32r r_1
    refine ci_ge (tgt := 30) hx hb (by omega) (i32r _) dX8_isLiteral_10 (by decide) (fun c_4 => ?_) (fun c_4 => ?_)
    · refine lv_iconst (v := oI 0) hx hb dX8_isLiteral_30 (by decide) ?_
      have e0 : (oI 0).toInt = 0 := by decide
      have hpost : (oI 0).toInt = 0 ∨ (oI 0).toInt = 1 := by first | assumption | omega | (with_reducible rfl) | ((repeat' apply And.intro) <;> first | assumption | omega | (with_reducible rfl))
      exact W.zret (v := (oI 0)) hx hb hr (by first | rfl | decide | exact zb9 (by omega)) (fun t ht hW => ⟨⟨(oI 0), (), rfl, hpost, by rw [ht]; exact hP, va_K.moved hW.alike hK, hD⟩, hS.F ht⟩) hS.2.2 dX8_isLiteral_31
    · refine lv_aload_n hx hb dX8_isLiteral_13 rfl (lv_at hl 0 rfl) ?_
      refine lv_iload_n hx hb dX8_isLiteral_14 rfl (lv_at hl 3 rfl) ?_
      refine ccs_iV (As := [.int (oI q)]) (rest := []) ⟨hx, hb, hml, hown, hts⟩ (c_nameOf l dC dI cB cC cI cJ cZ a F X J R gf gn q  (by omega) (show gf ≤ 67600 from by first | assumption | omega)  H.size) (cwV 1 hts kX8_isLiteral_X1_nameOf_59 rfl rfl rfl (by decide +kernel) ⟨Nat.le_of_ble_eq_true rfl, Nat.le_of_ble_eq_true rfl⟩) (va_recv hK hP (ci := 1) (q0 := 1) rfl rfl) hK hNW hP hD hS hA rfl rfl hl.1 (lv_room (Nat.le_of_ble_eq_true rfl)) dX8_isLiteral_15 hcs (fun r_5 hw_6 H locs hP hD hS => ?_)
      have i_7 := i32r r_5
      refine lv_iload_n hx hb dX8_isLiteral_18 rfl (lv_at hl 2 rfl) ?_
      refine ci_ne (tgt := 24) hx hb (i32r _) (by omega) dX8_isLiteral_19 (by decide) (fun c_8 => ?_) (fun c_8 => ?_)
      · refine lv_iinc (v := oI (q + 1)) (lv' := [(3, .int (oI (q + 1))), (0, .ref (a 1)), (1, .int (oI x)), (2, .int (oI y))]) hx hb dX8_isLiteral_24 hl (k := 3) rfl (oI_add q 1) (by decide) rfl (fun ls hl => ?_)
        refine lv_goto (tgt := 4) hx hb dX8_isLiteral_27 (by decide) ?_
        exact ih (q + 1) (show (AF (X 1) gf x - (q + 1)).toNat < k from by omega) (by omega) (show x < (q + 1) ∧ (q + 1) ≤ x + 67601 from by first | assumption | omega | (with_reducible rfl) | ((repeat' apply And.intro) <;> first | assumption | omega | (with_reducible rfl))) _ _ hP hD hS ls (lv_sub hl [1, 2, 3, 0] rfl)
      · refine lv_iconst (v := oI 1) hx hb dX8_isLiteral_22 (by decide) ?_
        have e0 : (oI 1).toInt = 1 := by decide
        have hpost : (oI 1).toInt = 0 ∨ (oI 1).toInt = 1 := by first | assumption | omega | (with_reducible rfl) | ((repeat' apply And.intro) <;> first | assumption | omega | (with_reducible rfl))
        exact W.zret (v := (oI 1)) hx hb hr (by first | rfl | decide | exact zb9 (by omega)) (fun t ht hW => ⟨⟨(oI 1), (), rfl, hpost, by rw [ht]; exact hP, va_K.moved hW.alike hK, hD⟩, hS.F ht⟩) hS.2.2 dX8_isLiteral_23

set_option maxHeartbeats 4000000 in
set_option maxRecDepth 100000 in
/-- X8_isLiteral -/
theorem c_isLiteral (l : Launch) (dC : Nat → ClassId) (dI : Nat → Nat → Nat) (cB cC cI cJ cZ : ClassId) (a : Nat → Nat) (F : Nat → Int32) (X : Nat → Nat → Int32) (J : Nat → Nat → Int64) (R : Nat → Nat) (gf gn : Nat) (x y : Int)  (ix : (-2147483648 ≤ x ∧ x < 2147483648)) (iy : (-2147483648 ≤ y ∧ y < 2147483648)) (hgf : gf ≤ 67600) (hsp : SPR (X 1)) (hx2 : x < 2000000000) (s0 : Nat) : Met l yX8_isLiteral vX8_isLiteral { frames := 2, cells := 0, slots := 0, locals := 82 } (va_Pc [.ref (a 1), .int (oI x), .int (oI y)] (cPre dC dI cB cC cI cJ cZ a F X J R gf gn s0)) (va_Qi (fun (r : Int32) (_ : Unit) => (r).toInt = 0 ∨ (r).toInt = 1) (fun _ => cPost dC dI cB cC cI cJ cZ a F X J R gf gn (va_A (CW cB cC cI cJ cZ a F X J R gf gn) s0)) (va_A (CW cB cC cI cJ cZ a F X J R gf gn) s0)) 0 0 (va_A (CW cB cC cI cJ cZ a F X J R gf gn) s0) := by
  refine Met.ofW (cc := cX8_isLiteral) (maxL := 4) (ret := (some .boolean)) (by decide) rfl ?_
  intro p e s m args below meth c s₁ B9 hml hv
  obtain ⟨rfl, hsz0, hP, hK, hD0, hNW⟩ := hv
  have hx := B9.exec
  have hb := B9.bytes
  have hr := B9.returns
  have hts := atoms_spec (ws := vX8_isLiteral) B9.pre
  have hown : s.vm.findClass RX8 = some m.cls := findClass_of_methodNamed B9.named
  have hlocks := B9.notSynchronized
  clear B9
  subst hsz0
  have hD := hD0.self (sz := s.heap.size)
  generalize hAe : va_A (CW cB cC cI cJ cZ a F X J R gf gn) s.heap.size = A at hD ⊢
  have hA : ∀ q : Nat, s.heap.size ≤ q → A q := fun q h => by rw [← hAe]; exact Or.inr h
  have hS : va_S A s.heap s.heap [] := va_S.rf
  have hcs : 0 + 0 ≤ (0 : Nat) ∧ 0 + 0 ≤ (0 : Nat) := ⟨Nat.le_refl 0, Nat.le_refl 0⟩
  have hl := lv_entry ([.ref (a 1), .int (oI x), .int (oI y)]) (n := 4) (Nat.le_of_ble_eq_true rfl)
  rw [lg_entry_eq]
  generalize (lg_sl ([.ref (a 1), .int (oI x), .int (oI y)]) ++ List.replicate (4 - (lg_sl ([.ref (a 1), .int (oI x), .int (oI y)])).length) Slot.unset).toArray = ls at hl ⊢
  have hl : lv_has ls 4 [(0, .ref (a 1)), (1, .int (oI x)), (2, .int (oI y))] := hl
  have eb := AF_b hsp gf x
  refine lv_iload_n hx hb dX8_isLiteral_0 rfl (lv_at hl 1 rfl) ?_
  refine lv_iconst (v := oI 1) hx hb dX8_isLiteral_1 (by decide) ?_
  refine lv_iadd hx hb dX8_isLiteral_2 ?_
  refine tp_i (oI_add x 1) ?_
  refine lv_istore_n (lv' := [(3, .int (oI (x + 1))), (0, .ref (a 1)), (1, .int (oI x)), (2, .int (oI y))]) hx hb dX8_isLiteral_3 rfl hl (by decide) rfl (fun ls hl => ?_)
  exact lq_isLiteral hx hb hml hown hts hK hNW hA hr hlocks x y ix iy (by assumption) (by assumption) (by assumption)  _ (x + 1) (Nat.lt_succ_self _) (by omega) (show x < (x + 1) ∧ (x + 1) ≤ x + 67601 from by first | assumption | omega | (with_reducible rfl) | ((repeat' apply And.intro) <;> first | assumption | omega | (with_reducible rfl))) _ _ hP hD hS ls (lv_sub hl [1, 2, 3, 0] rfl)

set_option maxHeartbeats 4000000 in
set_option maxRecDepth 100000 in
theorem lq_holdsRepeated {p : Program} {l : Launch} {e : Env} {s : State} {m : MethodId} {args : Array Value} {below : List Frame} {meth : Method} {c : Code} {A : Nat → Prop} {dC : Nat → ClassId} {dI : Nat → Nat → Nat} {cB cC cI cJ cZ : ClassId} {a : Nat → Nat} {F : Nat → Int32} {X : Nat → Nat → Int32} {J : Nat → Nat → Int64} {R : Nat → Nat} {gf gn : Nat} (hx : p.tables.exec = Jvm.exec) (hb : c.code = cX8_holdsRepeated) (hml : c.maxLocals = 3) (hown : s.vm.findClass RX8 = some m.cls) (hts : ∀ w ∈ vX8_holdsRepeated, w.before args s = true) (hK : va_K (dC, dI) vwCl (TY cB cC cI cJ cZ) s) (hNW : NW s) (hA : ∀ q : Nat, s.heap.size ≤ q → A q) (hr : meth.sig.returnType = (some .boolean)) (hlocks : meth.locks = false) (x : Int)  (ix : (-2147483648 ≤ x ∧ x < 2147483648)) (hgf : gf ≤ 67600) (hgn : gn ≤ 63261) (hsp : SPR (X 1)) (hnt : 0 ≤ (F 13).toInt ∧ (F 13).toInt ≤ (gn : Int)) (hx2 : x < 1073741824)   : ∀ (k : Nat) (q : Int), (AF (X 1) gf x - q).toNat < k → (-2147483648 ≤ q ∧ q < 2147483648) → (x ≤ q ∧ q ≤ x + 67601) → ∀ (H : Heap) (locs : List Loc), va_P (dC, dI) vwCl (CW cB cC cI cJ cZ a F X J R gf gn) H → va_D A (CW cB cC cI cJ cZ a F X J R gf gn) → va_S A s.heap H locs → ∀ (ls : Array Slot), lv_has ls 3 [(0, .ref (a 8)), (1, .int (oI x)), (2, .int (oI q))] → W p l e (headSpec vX8_holdsRepeated { frames := 2, cells := 0, slots := 0, locals := 82 }).room s m args below meth c H locs 0 0 (MQ below (va_Qi (fun (r : Int32) (_ : Unit) => (r).toInt = 0 ∨ (r).toInt = 1) (fun _ => cPost dC dI cB cC cI cJ cZ a F X J R gf gn A) A) args s 0 0 A) (F0 m 2 ls []) := by
  have hcs : 0 + 0 ≤ (0 : Nat) ∧ 0 + 0 ≤ (0 : Nat) := ⟨Nat.le_refl 0, Nat.le_refl 0⟩
  intro k
  induction k with
  | zero =>
    intro q hk iq9 hq
    exact absurd hk (Nat.not_lt_zero _)
  | succ k ih =>
    intro q hk iq9 hq H locs hP hD hS ls hl
    have eb := AF_b hsp gf x
    refine lv_iload_n hx hb dX8_holdsRepeated_2 rfl (lv_at hl 2 rfl) ?_
    refine lv_aload_n hx hb dX8_holdsRepeated_3 rfl (lv_at hl 0 rfl) ?_
    refine cg_8_0 hx hb hts inX8_holdsRepeated_X8 hown hK hP (hts _ lkX8_holdsRepeated_f15) dX8_holdsRepeated_4 ?_
    refine lv_iload_n hx hb dX8_holdsRepeated_7 rfl (lv_at hl 1 rfl) ?_
    refine ccs_iV (As := [.int (oI x)]) (rest := [.int (oI q)]) ⟨hx, hb, hml, hown, hts⟩ (c_after l dC dI cB cC cI cJ cZ a F X J R gf gn x  (by omega) (show gf ≤ 67600 from by first | assumption | omega) (show SPR (X 1) from by first | assumption | omega) (show x < 2147483647 from by first | assumption | omega) H.size) (cwV 1 hts kX8_holdsRepeated_X1_after_49 rfl rfl rfl (by decide +kernel) ⟨Nat.le_of_ble_eq_true rfl, Nat.le_of_ble_eq_true rfl⟩) (va_recv hK hP (ci := 1) (q0 := 1) rfl rfl) hK hNW hP hD hS hA rfl rfl hl.1 (lv_room (Nat.le_of_ble_eq_true rfl)) dX8_holdsRepeated_8 hcs (fun r_1 hw_2 H locs hP hD hS => ?_)
    have hw_2 : (r_1).toInt = AF (X 1) gf x ∧ x < (r_1).toInt ∧ (r_1).toInt ≤ x + 67600 := hw_2
    obtain ⟨ea, la, ua⟩ := hw_2
    have i_3 := i32r r_1
    refine ci_ge (tgt := 41) hx hb (by omega) (i32r _) dX8_holdsRepeated_11 (by decide) (fun c_4 => ?_) (fun c_4 => ?_)
    · refine lv_iconst (v := oI 0) hx hb dX8_holdsRepeated_41 (by decide) ?_
      have e0 : (oI 0).toInt = 0 := by decide
      have hpost : (oI 0).toInt = 0 ∨ (oI 0).toInt = 1 := by first | assumption | omega | (with_reducible rfl) | ((repeat' apply And.intro) <;> first | assumption | omega | (with_reducible rfl))
      exact W.zret (v := (oI 0)) hx hb hr (by first | rfl | decide | exact zb9 (by omega)) (fun t ht hW => ⟨⟨(oI 0), (), rfl, hpost, by rw [ht]; exact hP, va_K.moved hW.alike hK, hD⟩, hS.F ht⟩) hS.2.2 dX8_holdsRepeated_42
    · refine lv_aload_n hx hb dX8_holdsRepeated_14 rfl (lv_at hl 0 rfl) ?_
      refine cg_8_1 hx hb hts inX8_holdsRepeated_X8 hown hK hP (hts _ lkX8_holdsRepeated_f19) dX8_holdsRepeated_15 ?_
      refine lv_aload_n hx hb dX8_holdsRepeated_18 rfl (lv_at hl 0 rfl) ?_
      refine cg_8_0 hx hb hts inX8_holdsRepeated_X8 hown hK hP (hts _ lkX8_holdsRepeated_f15) dX8_holdsRepeated_19 ?_
      refine lv_iload_n hx hb dX8_holdsRepeated_22 rfl (lv_at hl 2 rfl) ?_
      refine ccs_iV (As := [.int (oI q)]) (rest := [.ref (a 6)]) ⟨hx, hb, hml, hown, hts⟩ (c_nameOf l dC dI cB cC cI cJ cZ a F X J R gf gn q  (by omega) (show gf ≤ 67600 from by first | assumption | omega)  H.size) (cwV 1 hts kX8_holdsRepeated_X1_nameOf_59 rfl rfl rfl (by decide +kernel) ⟨Nat.le_of_ble_eq_true rfl, Nat.le_of_ble_eq_true rfl⟩) (va_recv hK hP (ci := 1) (q0 := 1) rfl rfl) hK hNW hP hD hS hA rfl rfl hl.1 (lv_room (Nat.le_of_ble_eq_true rfl)) dX8_holdsRepeated_23 hcs (fun r_5 hw_6 H locs hP hD hS => ?_)
      have i_7 := i32r r_5
      refine ccs_iV (As := [.int (oI r_5.toInt)]) (rest := []) ⟨hx, hb, hml, hown, hts⟩ (c_noteOf l dC dI cB cC cI cJ cZ a F X J R gf gn r_5.toInt  (i32r _) (show gn ≤ 63261 from by first | assumption | omega) (show 0 ≤ (F 13).toInt ∧ (F 13).toInt ≤ (gn : Int) from by first | assumption | omega)  H.size) (cwV 1 hts kX8_holdsRepeated_X6_noteOf_102 rfl rfl rfl (by decide +kernel) ⟨Nat.le_of_ble_eq_true rfl, Nat.le_of_ble_eq_true rfl⟩) (va_recv hK hP (ci := 6) (q0 := 6) rfl rfl) hK hNW hP hD hS hA rfl rfl hl.1 (lv_room (Nat.le_of_ble_eq_true rfl)) dX8_holdsRepeated_26 hcs (fun r_8 hw_9 H locs hP hD hS => ?_)
      have i_10 := i32r r_8
      refine lv_iconst (v := oI 1) hx hb dX8_holdsRepeated_29 (by decide) ?_
      refine ci_ne (tgt := 35) hx hb (i32r _) (by decide) dX8_holdsRepeated_30 (by decide) (fun c_11 => ?_) (fun c_11 => ?_)
      · refine lv_iinc (v := oI (q + 1)) (lv' := [(2, .int (oI (q + 1))), (0, .ref (a 8)), (1, .int (oI x))]) hx hb dX8_holdsRepeated_35 hl (k := 2) rfl (oI_add q 1) (by decide) rfl (fun ls hl => ?_)
        refine lv_goto (tgt := 2) hx hb dX8_holdsRepeated_38 (by decide) ?_
        exact ih (q + 1) (show (AF (X 1) gf x - (q + 1)).toNat < k from by omega) (by omega) (show x ≤ (q + 1) ∧ (q + 1) ≤ x + 67601 from by first | assumption | omega | (with_reducible rfl) | ((repeat' apply And.intro) <;> first | assumption | omega | (with_reducible rfl))) _ _ hP hD hS ls (lv_sub hl [1, 2, 0] rfl)
      · refine lv_iconst (v := oI 1) hx hb dX8_holdsRepeated_33 (by decide) ?_
        have e0 : (oI 1).toInt = 1 := by decide
        have hpost : (oI 1).toInt = 0 ∨ (oI 1).toInt = 1 := by first | assumption | omega | (with_reducible rfl) | ((repeat' apply And.intro) <;> first | assumption | omega | (with_reducible rfl))
        exact W.zret (v := (oI 1)) hx hb hr (by first | rfl | decide | exact zb9 (by omega)) (fun t ht hW => ⟨⟨(oI 1), (), rfl, hpost, by rw [ht]; exact hP, va_K.moved hW.alike hK, hD⟩, hS.F ht⟩) hS.2.2 dX8_holdsRepeated_34

set_option maxHeartbeats 4000000 in
set_option maxRecDepth 100000 in
/-- X8_holdsRepeated -/
theorem c_holdsRepeated (l : Launch) (dC : Nat → ClassId) (dI : Nat → Nat → Nat) (cB cC cI cJ cZ : ClassId) (a : Nat → Nat) (F : Nat → Int32) (X : Nat → Nat → Int32) (J : Nat → Nat → Int64) (R : Nat → Nat) (gf gn : Nat) (x : Int)  (ix : (-2147483648 ≤ x ∧ x < 2147483648)) (hgf : gf ≤ 67600) (hgn : gn ≤ 63261) (hsp : SPR (X 1)) (hnt : 0 ≤ (F 13).toInt ∧ (F 13).toInt ≤ (gn : Int)) (hx2 : x < 1073741824) (s0 : Nat) : Met l yX8_holdsRepeated vX8_holdsRepeated { frames := 2, cells := 0, slots := 0, locals := 82 } (va_Pc [.ref (a 8), .int (oI x)] (cPre dC dI cB cC cI cJ cZ a F X J R gf gn s0)) (va_Qi (fun (r : Int32) (_ : Unit) => (r).toInt = 0 ∨ (r).toInt = 1) (fun _ => cPost dC dI cB cC cI cJ cZ a F X J R gf gn (va_A (CW cB cC cI cJ cZ a F X J R gf gn) s0)) (va_A (CW cB cC cI cJ cZ a F X J R gf gn) s0)) 0 0 (va_A (CW cB cC cI cJ cZ a F X J R gf gn) s0) := by
  refine Met.ofW (cc := cX8_holdsRepeated) (maxL := 3) (ret := (some .boolean)) (by decide) rfl ?_
  intro p e s m args below meth c s₁ B9 hml hv
  obtain ⟨rfl, hsz0, hP, hK, hD0, hNW⟩ := hv
  have hx := B9.exec
  have hb := B9.bytes
  have hr := B9.returns
  have hts := atoms_spec (ws := vX8_holdsRepeated) B9.pre
  have hown : s.vm.findClass RX8 = some m.cls := findClass_of_methodNamed B9.named
  have hlocks := B9.notSynchronized
  clear B9
  subst hsz0
  have hD := hD0.self (sz := s.heap.size)
  generalize hAe : va_A (CW cB cC cI cJ cZ a F X J R gf gn) s.heap.size = A at hD ⊢
  have hA : ∀ q : Nat, s.heap.size ≤ q → A q := fun q h => by rw [← hAe]; exact Or.inr h
  have hS : va_S A s.heap s.heap [] := va_S.rf
  have hcs : 0 + 0 ≤ (0 : Nat) ∧ 0 + 0 ≤ (0 : Nat) := ⟨Nat.le_refl 0, Nat.le_refl 0⟩
  have hl := lv_entry ([.ref (a 8), .int (oI x)]) (n := 3) (Nat.le_of_ble_eq_true rfl)
  rw [lg_entry_eq]
  generalize (lg_sl ([.ref (a 8), .int (oI x)]) ++ List.replicate (3 - (lg_sl ([.ref (a 8), .int (oI x)])).length) Slot.unset).toArray = ls at hl ⊢
  have hl : lv_has ls 3 [(0, .ref (a 8)), (1, .int (oI x))] := hl
  have eb := AF_b hsp gf x
  refine lv_iload_n hx hb dX8_holdsRepeated_0 rfl (lv_at hl 1 rfl) ?_
  refine lv_istore_n (lv' := [(2, .int (oI x)), (0, .ref (a 8)), (1, .int (oI x))]) hx hb dX8_holdsRepeated_1 rfl hl (by decide) rfl (fun ls hl => ?_)
  exact lq_holdsRepeated hx hb hml hown hts hK hNW hA hr hlocks x ix (by assumption) (by assumption) (by assumption) (by assumption) (by assumption)  _ x (Nat.lt_succ_self _) (by omega) (show x ≤ x ∧ x ≤ x + 67601 from by first | assumption | omega | (with_reducible rfl) | ((repeat' apply And.intro) <;> first | assumption | omega | (with_reducible rfl))) _ _ hP hD hS ls (lv_sub hl [1, 2, 0] rfl)

set_option maxHeartbeats 4000000 in
set_option maxRecDepth 100000 in
theorem lq_literalsFit {p : Program} {l : Launch} {e : Env} {s : State} {m : MethodId} {args : Array Value} {below : List Frame} {meth : Method} {c : Code} {A : Nat → Prop} {dC : Nat → ClassId} {dI : Nat → Nat → Nat} {cB cC cI cJ cZ : ClassId} {a : Nat → Nat} {F : Nat → Int32} {X : Nat → Nat → Int32} {J : Nat → Nat → Int64} {R : Nat → Nat} {gf gn : Nat} (hx : p.tables.exec = Jvm.exec) (hb : c.code = cX8_literalsFit) (hml : c.maxLocals = 2) (hown : s.vm.findClass RX8 = some m.cls) (hts : ∀ w ∈ vX8_literalsFit, w.before args s = true) (hK : va_K (dC, dI) vwCl (TY cB cC cI cJ cZ) s) (hNW : NW s) (hA : ∀ q : Nat, s.heap.size ≤ q → A q) (hr : meth.sig.returnType = (some .boolean)) (hlocks : meth.locks = false)  (hgf : gf ≤ 67600) (hsp : SPR (X 1)) (hl8 : (F 21).toInt < 2000000000)   : ∀ (k : Nat) (q : Int), (AF (X 1) gf ((F 21).toInt) - q).toNat < k → (-2147483648 ≤ q ∧ q < 2147483648) → ((F 21).toInt < q ∧ q ≤ (F 21).toInt + 200000) → ∀ (H : Heap) (locs : List Loc), va_P (dC, dI) vwCl (CW cB cC cI cJ cZ a F X J R gf gn) H → va_D A (CW cB cC cI cJ cZ a F X J R gf gn) → va_S A s.heap H locs → ∀ (ls : Array Slot), lv_has ls 2 [(0, .ref (a 8)), (1, .int (oI q))] → W p l e (headSpec vX8_literalsFit { frames := 3, cells := 0, slots := 0, locals := 104 }).room s m args below meth c H locs 0 0 (MQ below (va_Qi (fun (r : Int32) (_ : Unit) => (r).toInt = 0 ∨ (r).toInt = 1) (fun _ => cPost dC dI cB cC cI cJ cZ a F X J R gf gn A) A) args s 0 0 A) (F0 m 39 ls []) := by
  have hcs : 0 + 0 ≤ (0 : Nat) ∧ 0 + 0 ≤ (0 : Nat) := ⟨Nat.le_refl 0, Nat.le_refl 0⟩
  intro k
  induction k with
  | zero =>
    intro q hk iq9 hq
    exact absurd hk (Nat.not_lt_zero _)
  | succ k ih =>
    intro q hk iq9 hq H locs hP hD hS ls hl
    have eb := AF_b hsp gf (F 21).toInt
    have i9 := i32r (F 21)
    refine lv_iload_n hx hb dX8_literalsFit_39 rfl (lv_at hl 1 rfl) ?_
    refine lv_aload_n hx hb dX8_literalsFit_40 rfl (lv_at hl 0 rfl) ?_
    refine cg_8_0 hx hb hts inX8_literalsFit_X8 hown hK hP (hts _ lkX8_literalsFit_f15) dX8_literalsFit_41 ?_
    refine lv_aload_n hx hb dX8_literalsFit_44 rfl (lv_at hl 0 rfl) ?_
    refine cg_8_3 hx hb hts inX8_literalsFit_X8 hown hK hP (hts _ lkX8_literalsFit_f9) dX8_literalsFit_45 ?_
    have i_1 := i32r (F 21)
    refine ccs_iV (As := [.int (oI ((F 21).toInt))]) (rest := [.int (oI q)]) ⟨hx, hb, hml, hown, hts⟩ (c_after l dC dI cB cC cI cJ cZ a F X J R gf gn ((F 21).toInt)  (i32r _) (show gf ≤ 67600 from by first | assumption | omega) (show SPR (X 1) from by first | assumption | omega) (show (F 21).toInt < 2147483647 from by first | assumption | omega) H.size) (cwV 1 hts kX8_literalsFit_X1_after_49 rfl rfl rfl (by decide +kernel) ⟨Nat.le_of_ble_eq_true rfl, Nat.le_of_ble_eq_true rfl⟩) (va_recv hK hP (ci := 1) (q0 := 1) rfl rfl) hK hNW hP hD hS hA rfl rfl hl.1 (lv_room (Nat.le_of_ble_eq_true rfl)) dX8_literalsFit_48 hcs (fun r_2 hw_3 H locs hP hD hS => ?_)
    have hw_3 : (r_2).toInt = AF (X 1) gf ((F 21).toInt) ∧ ((F 21).toInt) < (r_2).toInt ∧ (r_2).toInt ≤ ((F 21).toInt) + 67600 := hw_3
    obtain ⟨ea, la, ua⟩ := hw_3
    have i_4 := i32r r_2
    refine ci_ge (tgt := 82) hx hb (by omega) (i32r _) dX8_literalsFit_51 (by decide) (fun c_5 => ?_) (fun c_5 => ?_)
    · refine lv_iconst (v := oI 1) hx hb dX8_literalsFit_82 (by decide) ?_
      have e0 : (oI 1).toInt = 1 := by decide
      have hpost : (oI 1).toInt = 0 ∨ (oI 1).toInt = 1 := by first | assumption | omega | (with_reducible rfl) | ((repeat' apply And.intro) <;> first | assumption | omega | (with_reducible rfl))
      exact W.zret (v := (oI 1)) hx hb hr (by first | rfl | decide | exact zb9 (by omega)) (fun t ht hW => ⟨⟨(oI 1), (), rfl, hpost, by rw [ht]; exact hP, va_K.moved hW.alike hK, hD⟩, hS.F ht⟩) hS.2.2 dX8_literalsFit_83
    · refine lv_aload_n hx hb dX8_literalsFit_54 rfl (lv_at hl 0 rfl) ?_
      refine cg_8_0 hx hb hts inX8_literalsFit_X8 hown hK hP (hts _ lkX8_literalsFit_f15) dX8_literalsFit_55 ?_
      refine lv_iload_n hx hb dX8_literalsFit_58 rfl (lv_at hl 1 rfl) ?_
      refine ccs_iV (As := [.int (oI q)]) (rest := []) ⟨hx, hb, hml, hown, hts⟩ (c_nameOf l dC dI cB cC cI cJ cZ a F X J R gf gn q  (by omega) (show gf ≤ 67600 from by first | assumption | omega)  H.size) (cwV 1 hts kX8_literalsFit_X1_nameOf_59 rfl rfl rfl (by decide +kernel) ⟨Nat.le_of_ble_eq_true rfl, Nat.le_of_ble_eq_true rfl⟩) (va_recv hK hP (ci := 1) (q0 := 1) rfl rfl) hK hNW hP hD hS hA rfl rfl hl.1 (lv_room (Nat.le_of_ble_eq_true rfl)) dX8_literalsFit_59 hcs (fun r_6 hw_7 H locs hP hD hS => ?_)
      have i_8 := i32r r_6
      refine ccs_iS (As := [.int (oI r_6.toInt)]) (rest := []) ⟨hx, hb, hml, hown, hts⟩ (c_canBeBound l dC dI cB cC cI cJ cZ a F X J R gf gn r_6.toInt  (i32r _)   H.size) (va_cwS 1 hts kX8_literalsFit_X6_canBeBound_62 rfl rfl rfl (by decide +kernel) ⟨Nat.le_of_ble_eq_true rfl, Nat.le_of_ble_eq_true rfl⟩) hK hNW hP hD hS hA rfl rfl hl.1 (lv_room (Nat.le_of_ble_eq_true rfl)) dX8_literalsFit_62 hcs (fun r_9 hw_10 H locs hP hD hS => ?_)
      have i_11 := i32r r_9
      refine cz_ne (tgt := 70) hx hb (i32r _) dX8_literalsFit_65 (by decide) (fun c_12 => ?_) (fun c_12 => ?_)
      · refine lv_aload_n hx hb dX8_literalsFit_70 rfl (lv_at hl 0 rfl) ?_
        refine cg_8_0 hx hb hts inX8_literalsFit_X8 hown hK hP (hts _ lkX8_literalsFit_f15) dX8_literalsFit_71 ?_
        refine lv_iload_n hx hb dX8_literalsFit_74 rfl (lv_at hl 1 rfl) ?_
        refine ccs_iV (As := [.int (oI q)]) (rest := []) ⟨hx, hb, hml, hown, hts⟩ (c_after l dC dI cB cC cI cJ cZ a F X J R gf gn q  (by omega) (show gf ≤ 67600 from by first | assumption | omega) (show SPR (X 1) from by first | assumption | omega) (show q < 2147483647 from by first | assumption | omega) H.size) (cwV 1 hts kX8_literalsFit_X1_after_49 rfl rfl rfl (by decide +kernel) ⟨Nat.le_of_ble_eq_true rfl, Nat.le_of_ble_eq_true rfl⟩) (va_recv hK hP (ci := 1) (q0 := 1) rfl rfl) hK hNW hP hD hS hA rfl rfl hl.1 (lv_room (Nat.le_of_ble_eq_true rfl)) dX8_literalsFit_75 hcs (fun r_13 hw_14 H locs hP hD hS => ?_)
        have hw_14 : (r_13).toInt = AF (X 1) gf q ∧ q < (r_13).toInt ∧ (r_13).toInt ≤ q + 67600 := hw_14
        obtain ⟨ea, la, ua⟩ := hw_14
        have i_15 := i32r r_13
        refine lv_istore_n (lv' := [(1, .int (oI r_13.toInt)), (0, .ref (a 8))]) hx hb dX8_literalsFit_78 rfl hl (by decide) rfl (fun ls hl => ?_)
        refine lv_goto (tgt := 39) hx hb dX8_literalsFit_79 (by decide) ?_
        exact ih r_13.toInt (show (AF (X 1) gf ((F 21).toInt) - r_13.toInt).toNat < k from by omega) (i32r _) (show (F 21).toInt < r_13.toInt ∧ r_13.toInt ≤ (F 21).toInt + 200000 from by first | assumption | omega | (with_reducible rfl) | ((repeat' apply And.intro) <;> first | assumption | omega | (with_reducible rfl))) _ _ hP hD hS ls (lv_sub hl [1, 0] rfl)
      · refine lv_iconst (v := oI 0) hx hb dX8_literalsFit_68 (by decide) ?_
        have e0 : (oI 0).toInt = 0 := by decide
        have hpost : (oI 0).toInt = 0 ∨ (oI 0).toInt = 1 := by first | assumption | omega | (with_reducible rfl) | ((repeat' apply And.intro) <;> first | assumption | omega | (with_reducible rfl))
        exact W.zret (v := (oI 0)) hx hb hr (by first | rfl | decide | exact zb9 (by omega)) (fun t ht hW => ⟨⟨(oI 0), (), rfl, hpost, by rw [ht]; exact hP, va_K.moved hW.alike hK, hD⟩, hS.F ht⟩) hS.2.2 dX8_literalsFit_69

set_option maxHeartbeats 4000000 in
set_option maxRecDepth 100000 in
/-- X8_literalsFit -/
theorem c_literalsFit (l : Launch) (dC : Nat → ClassId) (dI : Nat → Nat → Nat) (cB cC cI cJ cZ : ClassId) (a : Nat → Nat) (F : Nat → Int32) (X : Nat → Nat → Int32) (J : Nat → Nat → Int64) (R : Nat → Nat) (gf gn : Nat)  (hgf : gf ≤ 67600) (hsp : SPR (X 1)) (hl8 : (F 21).toInt < 2000000000) (s0 : Nat) : Met l yX8_literalsFit vX8_literalsFit { frames := 3, cells := 0, slots := 0, locals := 104 } (va_Pc [.ref (a 8)] (cPre dC dI cB cC cI cJ cZ a F X J R gf gn s0)) (va_Qi (fun (r : Int32) (_ : Unit) => (r).toInt = 0 ∨ (r).toInt = 1) (fun _ => cPost dC dI cB cC cI cJ cZ a F X J R gf gn (va_A (CW cB cC cI cJ cZ a F X J R gf gn) s0)) (va_A (CW cB cC cI cJ cZ a F X J R gf gn) s0)) 0 0 (va_A (CW cB cC cI cJ cZ a F X J R gf gn) s0) := by
  refine Met.ofW (cc := cX8_literalsFit) (maxL := 2) (ret := (some .boolean)) (by decide) rfl ?_
  intro p e s m args below meth c s₁ B9 hml hv
  obtain ⟨rfl, hsz0, hP, hK, hD0, hNW⟩ := hv
  have hx := B9.exec
  have hb := B9.bytes
  have hr := B9.returns
  have hts := atoms_spec (ws := vX8_literalsFit) B9.pre
  have hown : s.vm.findClass RX8 = some m.cls := findClass_of_methodNamed B9.named
  have hlocks := B9.notSynchronized
  clear B9
  subst hsz0
  have hD := hD0.self (sz := s.heap.size)
  generalize hAe : va_A (CW cB cC cI cJ cZ a F X J R gf gn) s.heap.size = A at hD ⊢
  have hA : ∀ q : Nat, s.heap.size ≤ q → A q := fun q h => by rw [← hAe]; exact Or.inr h
  have hS : va_S A s.heap s.heap [] := va_S.rf
  have hcs : 0 + 0 ≤ (0 : Nat) ∧ 0 + 0 ≤ (0 : Nat) := ⟨Nat.le_refl 0, Nat.le_refl 0⟩
  have hl := lv_entry ([.ref (a 8)]) (n := 2) (Nat.le_of_ble_eq_true rfl)
  rw [lg_entry_eq]
  generalize (lg_sl ([.ref (a 8)]) ++ List.replicate (2 - (lg_sl ([.ref (a 8)])).length) Slot.unset).toArray = ls at hl ⊢
  have hl : lv_has ls 2 [(0, .ref (a 8))] := hl
  have eb := AF_b hsp gf (F 21).toInt
  have i9 := i32r (F 21)
  refine lv_aload_n hx hb dX8_literalsFit_0 rfl (lv_at hl 0 rfl) ?_
  refine cg_8_0 hx hb hts inX8_literalsFit_X8 hown hK hP (hts _ lkX8_literalsFit_f15) dX8_literalsFit_1 ?_
  refine lv_aload_n hx hb dX8_literalsFit_4 rfl (lv_at hl 0 rfl) ?_
  refine cg_8_3 hx hb hts inX8_literalsFit_X8 hown hK hP (hts _ lkX8_literalsFit_f9) dX8_literalsFit_5 ?_
  have i_1 := i32r (F 21)
  refine ccs_iV (As := [.int (oI ((F 21).toInt))]) (rest := []) ⟨hx, hb, hml, hown, hts⟩ (c_isList l dC dI cB cC cI cJ cZ a F X J R gf gn ((F 21).toInt)  (i32r _) (show gf ≤ 67600 from by first | assumption | omega)  s.heap.size) (cwV 1 hts kX8_literalsFit_X1_isList_56 rfl rfl rfl (by decide +kernel) ⟨Nat.le_of_ble_eq_true rfl, Nat.le_of_ble_eq_true rfl⟩) (va_recv hK hP (ci := 1) (q0 := 1) rfl rfl) hK hNW hP hD hS hA rfl rfl hl.1 (lv_room (Nat.le_of_ble_eq_true rfl)) dX8_literalsFit_8 hcs (fun r_2 hw_3 H locs hP hD hS => ?_)
  have hw_3 : ((r_2).toInt = 1 ∧ 0 ≤ ((F 21).toInt) ∧ ((F 21).toInt) < (gf : Int)) ∨ (r_2).toInt = 0 := hw_3
  have hil := hw_3
  have i_4 := i32r r_2
  refine cz_eq (tgt := 30) hx hb (i32r _) dX8_literalsFit_11 (by decide) (fun c_5 => ?_) (fun c_5 => ?_)
  · refine lv_iconst (v := oI 0) hx hb dX8_literalsFit_30 (by decide) ?_
    have e0 : (oI 0).toInt = 0 := by decide
    have hpost : (oI 0).toInt = 0 ∨ (oI 0).toInt = 1 := by first | assumption | omega | (with_reducible rfl) | ((repeat' apply And.intro) <;> first | assumption | omega | (with_reducible rfl))
    exact W.zret (v := (oI 0)) hx hb hr (by first | rfl | decide | exact zb9 (by omega)) (fun t ht hW => ⟨⟨(oI 0), (), rfl, hpost, by rw [ht]; exact hP, va_K.moved hW.alike hK, hD⟩, hS.F ht⟩) hS.2.2 dX8_literalsFit_31
  · refine lv_aload_n hx hb dX8_literalsFit_14 rfl (lv_at hl 0 rfl) ?_
    refine cg_8_0 hx hb hts inX8_literalsFit_X8 hown hK hP (hts _ lkX8_literalsFit_f15) dX8_literalsFit_15 ?_
    refine lv_aload_n hx hb dX8_literalsFit_18 rfl (lv_at hl 0 rfl) ?_
    refine cg_8_3 hx hb hts inX8_literalsFit_X8 hown hK hP (hts _ lkX8_literalsFit_f9) dX8_literalsFit_19 ?_
    refine ccs_iV (As := [.int (oI ((F 21).toInt))]) (rest := []) ⟨hx, hb, hml, hown, hts⟩ (c_parts l dC dI cB cC cI cJ cZ a F X J R gf gn ((F 21).toInt)  (i32r _) (show gf ≤ 67600 from by first | assumption | omega) (show SPR (X 1) from by first | assumption | omega)  H.size) (cwV 1 hts kX8_literalsFit_X1_parts_27 rfl rfl rfl (by decide +kernel) ⟨Nat.le_of_ble_eq_true rfl, Nat.le_of_ble_eq_true rfl⟩) (va_recv hK hP (ci := 1) (q0 := 1) rfl rfl) hK hNW hP hD hS hA rfl rfl hl.1 (lv_room (Nat.le_of_ble_eq_true rfl)) dX8_literalsFit_22 hcs (fun r_6 hw_7 H locs hP hD hS => ?_)
    have hw_7 : 0 ≤ (r_6).toInt ∧ (r_6).toInt ≤ 67600 ∧ (1 ≤ (r_6).toInt → ((F 21).toInt) + 1 < AF (X 1) gf ((F 21).toInt) ∧ 0 ≤ ((F 21).toInt) ∧ ((F 21).toInt) < (gf : Int)) ∧ (2 ≤ (r_6).toInt → AF (X 1) gf (((F 21).toInt) + 1) < AF (X 1) gf ((F 21).toInt)) ∧ (3 ≤ (r_6).toInt → AF (X 1) gf (AF (X 1) gf (((F 21).toInt) + 1)) < AF (X 1) gf ((F 21).toInt)) := hw_7
    have hpa := hw_7
    have i_8 := i32r r_6
    refine lv_bipush (v := oI 6) hx hb dX8_literalsFit_25 (by decide) ?_
    refine ci_le (tgt := 32) hx hb (i32r _) (by decide) dX8_literalsFit_27 (by decide) (fun c_9 => ?_) (fun c_9 => ?_)
    · refine lv_aload_n hx hb dX8_literalsFit_32 rfl (lv_at hl 0 rfl) ?_
      refine cg_8_3 hx hb hts inX8_literalsFit_X8 hown hK hP (hts _ lkX8_literalsFit_f9) dX8_literalsFit_33 ?_
      refine lv_iconst (v := oI 1) hx hb dX8_literalsFit_36 (by decide) ?_
      refine lv_iadd hx hb dX8_literalsFit_37 ?_
      refine tp_i (oI_add ((F 21).toInt) 1) ?_
      refine lv_istore_n (lv' := [(1, .int (oI (((F 21).toInt) + 1))), (0, .ref (a 8))]) hx hb dX8_literalsFit_38 rfl hl (by decide) rfl (fun ls hl => ?_)
      exact lq_literalsFit hx hb hml hown hts hK hNW hA hr hlocks (by assumption) (by assumption) (by assumption)  _ (((F 21).toInt) + 1) (Nat.lt_succ_self _) (by omega) (show (F 21).toInt < (((F 21).toInt) + 1) ∧ (((F 21).toInt) + 1) ≤ (F 21).toInt + 200000 from by first | assumption | omega | (with_reducible rfl) | ((repeat' apply And.intro) <;> first | assumption | omega | (with_reducible rfl))) _ _ hP hD hS ls (lv_sub hl [1, 0] rfl)
    · refine lv_iconst (v := oI 0) hx hb dX8_literalsFit_30 (by decide) ?_
      have e0 : (oI 0).toInt = 0 := by decide
      have hpost : (oI 0).toInt = 0 ∨ (oI 0).toInt = 1 := by first | assumption | omega | (with_reducible rfl) | ((repeat' apply And.intro) <;> first | assumption | omega | (with_reducible rfl))
      exact W.zret (v := (oI 0)) hx hb hr (by first | rfl | decide | exact zb9 (by omega)) (fun t ht hW => ⟨⟨(oI 0), (), rfl, hpost, by rw [ht]; exact hP, va_K.moved hW.alike hK, hD⟩, hS.F ht⟩) hS.2.2 dX8_literalsFit_31
