def oX12_keepMatches : List Cond := [Cond.fieldLink RX12 309 "MacroScopesModel" "variableCount" "I", Cond.fieldLink RX12 113 "MacroScopesModel" "matchCount" "[I", Cond.fieldLink RX12 306 "MacroScopesModel" "looks" "I", Cond.fieldLink RX12 98 "MacroScopesModel" "look" "[I", Cond.fieldLink RX12 104 "MacroScopesModel" "lookOther" "[I", Cond.methodLink RX12 180 yX12_isName, Cond.instanceMethod yX12_isName, Cond.selects RX12 yX12_isName yX12_isName, Cond.initialized RX12, Cond.fieldLink RX12 35 "MacroScopesModel" "values" "[I", Cond.methodLink RX12 327 yX12_variable, Cond.instanceMethod yX12_variable, Cond.selects RX12 yX12_variable yX12_variable, Cond.fieldLink RX12 32 "MacroScopesModel" "kinds" "[B", Cond.fieldLink RX12 116 "MacroScopesModel" "matched" "[I", Cond.fieldLink RX12 110 "MacroScopesModel" "matchFrom" "[I", Cond.fieldLink RX12 101 "MacroScopesModel" "lookHow" "[I", Cond.methodLink RX12 339 yX12_keepParts, Cond.instanceMethod yX12_keepParts, Cond.selects RX12 yX12_keepParts yX12_keepParts, Cond.methodLink RX12 318 yX12_lookAt, Cond.instanceMethod yX12_lookAt, Cond.selects RX12 yX12_lookAt yX12_lookAt]
def vX12_keepMatches : List Cond := .code yX12_keepMatches cX12_keepMatches 8 none :: (oX12_keepMatches ++ (vX12_isName ++ (vX12_variable ++ (vX12_keepParts ++ (vX12_lookAt ++ (wsX120))))))
theorem lkX12_keepMatches_f309 : Cond.fieldLink RX12 309 "MacroScopesModel" "variableCount" "I" ∈ vX12_keepMatches := List.mem_cons_of_mem _ (List.mem_append_left _ (List.mem_of_getElem? (i := 0) rfl))
theorem lkX12_keepMatches_f113 : Cond.fieldLink RX12 113 "MacroScopesModel" "matchCount" "[I" ∈ vX12_keepMatches := List.mem_cons_of_mem _ (List.mem_append_left _ (List.mem_of_getElem? (i := 1) rfl))
theorem lkX12_keepMatches_f306 : Cond.fieldLink RX12 306 "MacroScopesModel" "looks" "I" ∈ vX12_keepMatches := List.mem_cons_of_mem _ (List.mem_append_left _ (List.mem_of_getElem? (i := 2) rfl))
theorem lkX12_keepMatches_f98 : Cond.fieldLink RX12 98 "MacroScopesModel" "look" "[I" ∈ vX12_keepMatches := List.mem_cons_of_mem _ (List.mem_append_left _ (List.mem_of_getElem? (i := 3) rfl))
theorem lkX12_keepMatches_f104 : Cond.fieldLink RX12 104 "MacroScopesModel" "lookOther" "[I" ∈ vX12_keepMatches := List.mem_cons_of_mem _ (List.mem_append_left _ (List.mem_of_getElem? (i := 4) rfl))
theorem lkX12_keepMatches_f35 : Cond.fieldLink RX12 35 "MacroScopesModel" "values" "[I" ∈ vX12_keepMatches := List.mem_cons_of_mem _ (List.mem_append_left _ (List.mem_of_getElem? (i := 9) rfl))
theorem lkX12_keepMatches_f32 : Cond.fieldLink RX12 32 "MacroScopesModel" "kinds" "[B" ∈ vX12_keepMatches := List.mem_cons_of_mem _ (List.mem_append_left _ (List.mem_of_getElem? (i := 13) rfl))
theorem lkX12_keepMatches_f116 : Cond.fieldLink RX12 116 "MacroScopesModel" "matched" "[I" ∈ vX12_keepMatches := List.mem_cons_of_mem _ (List.mem_append_left _ (List.mem_of_getElem? (i := 14) rfl))
theorem lkX12_keepMatches_f110 : Cond.fieldLink RX12 110 "MacroScopesModel" "matchFrom" "[I" ∈ vX12_keepMatches := List.mem_cons_of_mem _ (List.mem_append_left _ (List.mem_of_getElem? (i := 15) rfl))
theorem lkX12_keepMatches_f101 : Cond.fieldLink RX12 101 "MacroScopesModel" "lookHow" "[I" ∈ vX12_keepMatches := List.mem_cons_of_mem _ (List.mem_append_left _ (List.mem_of_getElem? (i := 16) rfl))
theorem inX12_keepMatches : ∀ w ∈ wsX120, w ∈ vX12_keepMatches := fun w h => List.mem_cons_of_mem _ (List.mem_append_right _ (List.mem_append_right _ (List.mem_append_right _ (List.mem_append_right _ (List.mem_append_right _ (h))))))
theorem kX12_keepMatches_X12_isName_180 : GoodIn vX12_keepMatches (wsV RX12 180 RX12 yX12_isName vX12_isName) := goodIn_sub (fun w h => (List.mem_append.mp h).elim (fun h => List.mem_cons_of_mem _ (List.mem_append_left _ ((by decide +kernel : ∀ w ∈ ([.methodLink RX12 180 yX12_isName, .instanceMethod yX12_isName, .selects RX12 yX12_isName yX12_isName, .initialized RX12] : List Cond), w ∈ oX12_keepMatches) w h))) (fun h => List.mem_cons_of_mem _ (List.mem_append_right _ (List.mem_append_left _ (h))))) (by decide +kernel)
theorem kX12_keepMatches_X12_variable_327 : GoodIn vX12_keepMatches (wsV RX12 327 RX12 yX12_variable vX12_variable) := goodIn_sub (fun w h => (List.mem_append.mp h).elim (fun h => List.mem_cons_of_mem _ (List.mem_append_left _ ((by decide +kernel : ∀ w ∈ ([.methodLink RX12 327 yX12_variable, .instanceMethod yX12_variable, .selects RX12 yX12_variable yX12_variable, .initialized RX12] : List Cond), w ∈ oX12_keepMatches) w h))) (fun h => List.mem_cons_of_mem _ (List.mem_append_right _ (List.mem_append_right _ (List.mem_append_left _ (h)))))) (by decide +kernel)
theorem kX12_keepMatches_X12_keepParts_339 : GoodIn vX12_keepMatches (wsV RX12 339 RX12 yX12_keepParts vX12_keepParts) := goodIn_sub (fun w h => (List.mem_append.mp h).elim (fun h => List.mem_cons_of_mem _ (List.mem_append_left _ ((by decide +kernel : ∀ w ∈ ([.methodLink RX12 339 yX12_keepParts, .instanceMethod yX12_keepParts, .selects RX12 yX12_keepParts yX12_keepParts, .initialized RX12] : List Cond), w ∈ oX12_keepMatches) w h))) (fun h => List.mem_cons_of_mem _ (List.mem_append_right _ (List.mem_append_right _ (List.mem_append_right _ (List.mem_append_left _ (h))))))) (by decide +kernel)
theorem kX12_keepMatches_X12_lookAt_318 : GoodIn vX12_keepMatches (wsV RX12 318 RX12 yX12_lookAt vX12_lookAt) := goodIn_sub (fun w h => (List.mem_append.mp h).elim (fun h => List.mem_cons_of_mem _ (List.mem_append_left _ ((by decide +kernel : ∀ w ∈ ([.methodLink RX12 318 yX12_lookAt, .instanceMethod yX12_lookAt, .selects RX12 yX12_lookAt yX12_lookAt, .initialized RX12] : List Cond), w ∈ oX12_keepMatches) w h))) (fun h => List.mem_cons_of_mem _ (List.mem_append_right _ (List.mem_append_right _ (List.mem_append_right _ (List.mem_append_right _ (List.mem_append_left _ (h)))))))) (by decide +kernel)
abbrev KG (G : Nat → Nat → Nat) (MF MT M I L Hw O : Nat → Nat) : Nat → Nat → Nat := LK (va_up (va_up (va_up (va_up G 55 MF) 57 MT) 56 M) 54 I) L Hw O
section KGS
variable {N : Nat → Nat} {G : Nat → Nat → Nat} {MF MT M I L Hw O X Y L2 H2 O2 : Nat → Nat} {sz : Nat → Nat}
theorem KG57 : va_up (KG G MF MT M I L Hw O) 57 X = KG G MF X M I L Hw O := by
  funext k
  by_cases h : k = 57
  · subst h; rfl
  · simp [KG, LK, va_up, h]
theorem KG55 : va_up (KG G MF MT M I L Hw O) 55 X = KG G X MT M I L Hw O := by
  funext k
  by_cases h : k = 55
  · subst h; rfl
  · simp [KG, LK, va_up, h]
theorem KG_look : va_up (va_up (va_up (KG G MF MT M I L Hw O) 50 L2) 51 H2) 52 O2 = KG G MF MT M I L2 H2 O2 := LK_look
theorem KG_keep : LK (va_up (va_up (KG G MF MT M I L Hw O) 56 X) 54 Y) L2 H2 O2 = KG G MF MT X Y L2 H2 O2 := by
  funext k
  by_cases h6 : k = 56
  · simp [KG, LK, va_up, h6]
  · by_cases h4 : k = 54
    · simp [KG, LK, va_up, h4]
    · by_cases h0 : k = 50
      · simp [KG, LK, va_up, h0]
      · by_cases h1 : k = 51
        · simp [KG, LK, va_up, h1]
        · by_cases h2 : k = 52
          · simp [KG, LK, va_up, h2]
          · simp [KG, LK, va_up, h6, h4, h0, h1, h2]
theorem KG_self {M : Nat → Nat} : KG G (G 55) (G 57) M (G 54) (G 50) (G 51) (G 52) = va_up G 56 M := by
  funext k
  by_cases h6 : k = 56
  · subst h6; rfl
  · by_cases h : k = 50 ∨ k = 51 ∨ k = 52 ∨ k = 54 ∨ k = 55 ∨ k = 57
    · rcases h with rfl | rfl | rfl | rfl | rfl | rfl <;> rfl
    · simp only [not_or] at h
      simp [KG, LK, va_up, h6, h.1, h.2.1, h.2.2.1, h.2.2.2.1, h.2.2.2.2.1, h.2.2.2.2.2]
theorem hGKG (hG : ∀ k i, G k i < 1048576) (h1 : ∀ i, MF i < 1048576) (h2 : ∀ i, MT i < 1048576) (h3 : ∀ i, M i < 1048576) (h4 : ∀ i, I i < 1048576) (h5 : ∀ i, L i < 1048576) (h6 : ∀ i, Hw i < 1048576) (h7 : ∀ i, O i < 1048576) : ∀ k i, KG G MF MT M I L Hw O k i < 1048576 := hGLK (hGup (hGup (hGup (hGup hG h1) h2) h3) h4) h5 h6 h7
theorem KG_core : CORE (KG G MF MT M I L Hw O) G := ⟨rfl, rfl, rfl, rfl, rfl⟩
theorem KG_qa {p f fr q n tn : Nat} (h : QAPP q n L Hw O L2 H2 O2 (fun j => CH (KG G MF MT M I L Hw O) p (CIX (FX (KG G MF MT M I L Hw O) p fr) (fr + j))) (fun j => if fr + j < FX (KG G MF MT M I L Hw O) p fr then tn else fr + j - FX (KG G MF MT M I L Hw O) p fr) (fun j => CH (KG G MF MT M I L Hw O) f (fr + j))) :
    QAPP q n L Hw O L2 H2 O2 (fun j => CH G p (CIX (FX G p fr) (fr + j))) (fun j => if fr + j < FX G p fr then tn else fr + j - FX G p fr) (fun j => CH G f (fr + j)) := h
theorem KG_sc {p f fr q : Nat} (h : OPN (KG G MF MT M I L Hw O) p fr → (∀ x v, OC (KG G MF MT M I L Hw O) sz (CH (KG G MF MT M I L Hw O) p (FX (KG G MF MT M I L Hw O) p fr)) x → VAR (va_up N 53 q) (KG G MF MT M I L Hw O) x = v + 1 → X v = KG G MF MT M I L Hw O 12 f - FX (KG G MF MT M I L Hw O) p fr) ∧ ∀ v, X v = KG G MF MT M I L Hw O 56 v ∨ (X v = KG G MF MT M I L Hw O 12 f - FX (KG G MF MT M I L Hw O) p fr ∧ ∃ x, OC (KG G MF MT M I L Hw O) sz (CH (KG G MF MT M I L Hw O) p (FX (KG G MF MT M I L Hw O) p fr)) x ∧ VAR (va_up N 53 q) (KG G MF MT M I L Hw O) x = v + 1)) :
    OPN G p fr → (∀ x v, OC G sz (CH G p (FX G p fr)) x → VAR N G x = v + 1 → X v = G 12 f - FX G p fr) ∧ ∀ v, X v = M v ∨ (X v = G 12 f - FX G p fr ∧ ∃ x, OC G sz (CH G p (FX G p fr)) x ∧ VAR N G x = v + 1) := h
end KGS
set_option maxHeartbeats 4000000 in
set_option maxRecDepth 100000 in
theorem lp_km0 {p : Program} {l : Launch} {e : Env} {s : State} {m : MethodId} {args : Array Value} {below : List Frame} {meth : Method} {c : Code} {Q : State → Prop} {A : Nat → Prop} {dC : Nat → ClassId} {dI : Nat → Nat → Nat} {cB cC cI cJ cZ : ClassId} {z0 : Nat} {R : Nat → Nat} (hx : p.tables.exec = Jvm.exec) (hb : c.code = cX12_keepMatches) (hml : c.maxLocals = 8) (hown : s.vm.findClass RX12 = some m.cls) (hts : ∀ w ∈ vX12_keepMatches, w.before args s = true) (hK : va_K (dC, dI) vwCl (TY cB cC cI cJ cZ) s) (hA : ∀ q : Nat, s.heap.size ≤ q → A q) {pl : Int32} {N : Nat → Nat} {G : Nat → Nat → Nat} {B : Nat → Nat → Int32} (hN : N 49 ≤ 1600) (top lst : Nat) (ke : ∀ (M : Nat → Nat) (H : Heap) (locs : List Loc), (∀ i, M i < 1048576) → (∀ u, u < N 49 → M u = 1) → va_P (dC, dI) vwCl (MW cB cC cI cJ cZ z0 R pl N (va_up G 56 M) B) H → va_D A (MW cB cC cI cJ cZ z0 R pl N (va_up G 56 M) B) → va_S A s.heap H locs → ∀ (ls : Array Slot), lv_has ls 8 [(0, .ref z0), (1, .int (nI top)), (2, .int (nI lst))] → W p l e (headSpec vX12_keepMatches { frames := 4, cells := 0, slots := 0, locals := 94 }).room s m args below meth c H locs 0 0 Q (F0 m 23 ls [])) : ∀ (k : Nat) (v : Nat) (M : Nat → Nat), N 49 - v < k → v ≤ 1600 → (∀ i, M i < 1048576) → (∀ u, u < v → M u = 1) → ∀ (H : Heap) (locs : List Loc), va_P (dC, dI) vwCl (MW cB cC cI cJ cZ z0 R pl N (va_up G 56 M) B) H → va_D A (MW cB cC cI cJ cZ z0 R pl N (va_up G 56 M) B) → va_S A s.heap H locs → ∀ (ls : Array Slot), lv_has ls 8 [(0, .ref z0), (1, .int (nI top)), (2, .int (nI lst)), (3, .int (nI v))] → W p l e (headSpec vX12_keepMatches { frames := 4, cells := 0, slots := 0, locals := 94 }).room s m args below meth c H locs 0 0 Q (F0 m 2 ls []) := by
  have hcs : 0 + 0 ≤ (0 : Nat) ∧ 0 + 0 ≤ (0 : Nat) := ⟨Nat.le_refl 0, Nat.le_refl 0⟩
  intro k
  induction k with
  | zero =>
    intro v M hk hvb hM h1
    omega
  | succ k ih =>
    intro v M hk hvb hM h1 H locs hP hD hS ls hl
    refine lv_iload_n hx hb dX12_keepMatches_2 rfl (lv_at hl 3 rfl) ?_
    refine lv_aload_n hx hb dX12_keepMatches_3 rfl (lv_at hl 0 rfl) ?_
    refine mg_49 hx hb hts inX12_keepMatches hown hK hP (hts _ lkX12_keepMatches_f309) dX12_keepMatches_4 ?_
    refine bn_ge (tgt := 23) hx hb (by first | omega | exact Nat.lt_of_lt_of_le (hG _ _) (by decide)) (by first | omega | exact Nat.lt_of_lt_of_le (hG _ _) (by decide)) dX12_keepMatches_7 (by decide) (fun c1 => ?_) (fun c1 => ?_)
    · exact ke M H locs hM (fun v hv => h1 v (by omega)) hP hD hS ls (lv_sub hl [0, 1, 2] rfl)
    · refine lv_aload_n hx hb dX12_keepMatches_10 rfl (lv_at hl 0 rfl) ?_
      refine mg_56 hx hb hts inX12_keepMatches hown hK hP (hts _ lkX12_keepMatches_f113) dX12_keepMatches_11 ?_
      refine lv_iload_n hx hb dX12_keepMatches_14 rfl (lv_at hl 3 rfl) ?_
      refine lv_iconst (v := nI 1) hx hb dX12_keepMatches_15 (by decide) ?_
      refine ms_56 hx hb hK hP hD hS (by omega) dX12_keepMatches_16 (fun H locs hP hD hS => ?_)
      rw [bx_uu] at hP hD
      refine lv_iinc (v := nI (v + 1)) (lv' := [(3, .int (nI (v + 1))), (0, .ref z0), (1, .int (nI top)), (2, .int (nI lst))]) hx hb dX12_keepMatches_17 hl (k := 3) rfl (nI_add v 1) (by decide) rfl (fun ls hl => ?_)
      refine lv_goto (tgt := 2) hx hb dX12_keepMatches_20 (by decide) ?_
      refine ih (v + 1) (va_up M v 1) (by omega) (by omega) (hIup hM (by decide)) (fun u hu => ?_) _ _ hP hD hS ls (lv_sub hl [1, 2, 3, 0] rfl)
      by_cases e : u = v
      · subst e; rw [va_up_self]
      · rw [va_up_ne _ _ e]; exact h1 u (by omega)

theorem up_lt {MT : Nat → Nat} {j v i n : Nat} (hv : v < n) (h : i ≠ j → MT i < n) : va_up MT j v i < n := by
  by_cases e : i = j
  · subst e; rw [va_up_self]; exact hv
  · rw [va_up_ne _ _ e]; exact h e
set_option maxHeartbeats 4000000 in
set_option maxRecDepth 100000 in
theorem lp_km1 {p : Program} {l : Launch} {e : Env} {s : State} {m : MethodId} {args : Array Value} {below : List Frame} {meth : Method} {c : Code} {Q : State → Prop} {A : Nat → Prop} {dC : Nat → ClassId} {dI : Nat → Nat → Nat} {cB cC cI cJ cZ : ClassId} {z0 : Nat} {R : Nat → Nat} (hx : p.tables.exec = Jvm.exec) (hb : c.code = cX12_keepMatches) (hml : c.maxLocals = 8) (hown : s.vm.findClass RX12 = some m.cls) (hts : ∀ w ∈ vX12_keepMatches, w.before args s = true) (hK : va_K (dC, dI) vwCl (TY cB cC cI cJ cZ) s) (hA : ∀ q : Nat, s.heap.size ≤ q → A q) {pl : Int32} {N : Nat → Nat} {G : Nat → Nat → Nat} {B : Nat → Nat → Int32} {sz : Nat → Nat} {top lst rules : Nat} (hG : ∀ k i, G k i < 1048576) (ht9 : TREE N G sz) (hal : AL N G) (hN : N 49 ≤ 1600) (htop : top < N 14) (hlst : lst < N 14) (hpt : PAT G sz top 1 0) (hmt : MAT G sz top lst 1) (h2t : G 10 top = 2) (htab : TAB N G sz rules top) (rd : Nat) (hrd : rd ≤ 1) (MF M0 : Nat → Nat) (hMF : ∀ i, MF i < 1048576) (hMFb : rd = 1 → ∀ v, v < N 49 → MF v ≤ 3001) (ke : ∀ (q : Nat) (L Hw O M MT I : Nat → Nat) (H : Heap) (locs : List Loc), (∀ i, L i < 1048576) → (∀ i, Hw i < 1048576) → (∀ i, O i < 1048576) → (∀ i, M i < 1048576) → (∀ i, MT i < 1048576) → (∀ i, I i < 1048576) → q ≤ 3001 → KI N G sz top lst q q L Hw O M M0 → (rd = 1 → ∀ i, i < q → ∀ v, G 10 (L i) = 1 → VAR N G (G 11 (L i)) = v + 1 → MT (MF v + Hw i) < N 14) → va_P (dC, dI) vwCl (MW cB cC cI cJ cZ z0 R pl (va_up N 53 q) (KG G MF MT M I L Hw O) B) H → va_D A (MW cB cC cI cJ cZ z0 R pl (va_up N 53 q) (KG G MF MT M I L Hw O) B) → va_S A s.heap H locs → ∀ (ls : Array Slot), lv_has ls 8 [(0, .ref z0), (1, .int (nI top)), (2, .int (nI lst)), (3, .int (nI rd))] → W p l e (headSpec vX12_keepMatches { frames := 4, cells := 0, slots := 0, locals := 94 }).room s m args below meth c H locs 0 0 Q (F0 m 175 ls [])) : ∀ (k : Nat) (a1 q : Nat) (L Hw O M MT I : Nat → Nat), 3002 - a1 < k → (∀ i, L i < 1048576) → (∀ i, Hw i < 1048576) → (∀ i, O i < 1048576) → (∀ i, M i < 1048576) → (∀ i, MT i < 1048576) → (∀ i, I i < 1048576) → KI N G sz top lst a1 q L Hw O M M0 → (rd = 1 → ∀ i, i < a1 → ∀ v, G 10 (L i) = 1 → VAR N G (G 11 (L i)) = v + 1 → MT (MF v + Hw i) < N 14) → ∀ (H : Heap) (locs : List Loc), va_P (dC, dI) vwCl (MW cB cC cI cJ cZ z0 R pl (va_up N 53 q) (KG G MF MT M I L Hw O) B) H → va_D A (MW cB cC cI cJ cZ z0 R pl (va_up N 53 q) (KG G MF MT M I L Hw O) B) → va_S A s.heap H locs → ∀ (ls : Array Slot), lv_has ls 8 [(0, .ref z0), (1, .int (nI top)), (2, .int (nI lst)), (3, .int (nI rd)), (4, .int (nI a1))] → W p l e (headSpec vX12_keepMatches { frames := 4, cells := 0, slots := 0, locals := 94 }).room s m args below meth c H locs 0 0 Q (F0 m 45 ls []) := by
  have hcs : 0 + 0 ≤ (0 : Nat) ∧ 0 + 0 ≤ (0 : Nat) := ⟨Nat.le_refl 0, Nat.le_refl 0⟩
  intro k
  induction k with
  | zero =>
    intro a1 q L Hw O M MT I hk hL hH hO hM hMT hI hki hwr
    omega
  | succ k ih =>
    intro a1 q L Hw O M MT I hk hL hH hO hM hMT hI hki hwr H locs hP hD hS ls hl
    obtain ⟨n1, n3, n4⟩ := hki.num ht9 htop hlst hpt hmt
    have u6 := ht9.1
    have hG2 := hGKG hG hMF hMT hM hI hL hH hO
    refine lv_iload hx hb dX12_keepMatches_45 (lv_at hl 4 rfl) ?_
    refine lv_aload_n hx hb dX12_keepMatches_47 rfl (lv_at hl 0 rfl) ?_
    refine mg_53 hx hb hts inX12_keepMatches hown hK hP (hts _ lkX12_keepMatches_f306) dX12_keepMatches_48 ?_
    refine tp_i (y := nI q) rfl ?_
    refine bn_ge (tgt := 175) hx hb (by first | omega | exact Nat.lt_of_lt_of_le (hG _ _) (by decide)) (by first | omega | exact Nat.lt_of_lt_of_le (hG _ _) (by decide)) dX12_keepMatches_51 (by decide) (fun c1 => ?_) (fun c1 => ?_)
    · have e9 : a1 = q := by omega
      subst e9
      exact ke a1 L Hw O M MT I H locs hL hH hO hM hMT hI n1 hki hwr hP hD hS ls (lv_sub hl [0, 1, 2, 3] rfl)
    · have hrc := hki.2.1 a1 c1
      obtain ⟨p1, p2, p3, p4, p5, p6⟩ := hrc.ok ht9 htop hlst hpt hmt
      have hl8 : L a1 < 90000 := by omega
      have hl9 : O a1 < 90000 := by omega
      have g10 := hG 10 (L a1)
      refine lv_aload_n hx hb dX12_keepMatches_54 rfl (lv_at hl 0 rfl) ?_
      refine mg_50 hx hb hts inX12_keepMatches hown hK hP (hts _ lkX12_keepMatches_f98) dX12_keepMatches_55 ?_
      refine lv_iload hx hb dX12_keepMatches_58 (lv_at hl 4 rfl) ?_
      refine ml_50 hx hb hK hP (by omega) dX12_keepMatches_60 ?_
      refine tp_i (y := nI (L a1)) rfl ?_
      refine lv_istore (lv' := [(5, .int (nI (L a1))), (0, .ref z0), (1, .int (nI top)), (2, .int (nI lst)), (3, .int (nI rd)), (4, .int (nI a1))]) hx hb dX12_keepMatches_61 hl (by decide) rfl (fun ls hl => ?_)
      refine lv_aload_n hx hb dX12_keepMatches_63 rfl (lv_at hl 1 rfl) ?_
      refine mg_52 hx hb hts inX12_keepMatches hown hK hP (hts _ lkX12_keepMatches_f104) dX12_keepMatches_64 ?_
      refine lv_iload hx hb dX12_keepMatches_67 (lv_at hl 5 rfl) ?_
      refine ml_52 hx hb hK hP (by omega) dX12_keepMatches_69 ?_
      refine tp_i (y := nI (O a1)) rfl ?_
      refine lv_istore (lv' := [(6, .int (nI (O a1))), (5, .int (nI (L a1))), (0, .ref z0), (1, .int (nI top)), (2, .int (nI lst)), (3, .int (nI rd)), (4, .int (nI a1))]) hx hb dX12_keepMatches_70 hl (by decide) rfl (fun ls hl => ?_)
      refine lv_aload_n hx hb dX12_keepMatches_72 rfl (lv_at hl 2 rfl) ?_
      refine lv_iload hx hb dX12_keepMatches_73 (lv_at hl 1 rfl) ?_
      refine mcl_i (As := [.int (nI (L a1))]) (rest := []) ⟨hx, hb, hml, hown, hts⟩ (m_isName l dC dI cB cC cI cJ cZ z0 R pl (va_up N 53 q) (KG G MF MT M I L Hw O) B (L a1) hG2 (by omega) H.size) (cwV 1 hts kX12_keepMatches_X12_isName_180 rfl rfl rfl (by decide +kernel) ⟨Nat.le_of_ble_eq_true rfl, Nat.le_of_ble_eq_true rfl⟩) hK hP hD hS hA rfl rfl hl.1 (lv_room (Nat.le_of_ble_eq_true rfl)) dX12_keepMatches_75 hcs (fun r_6 N_2 G_3 B_4 pl_5 hw H locs hP hD hS => ?_)
      dsimp only at hw
      obtain ⟨e1, e2, e3, e4, hw⟩ := hw
      rw [e1, e2, e3, e4] at hP hD
      have hw : r_6 = nI (if G 10 (L a1) = 1 then 1 else 0) := hw
      by_cases c_1 : G 10 (L a1) = 1
      · rw [if_pos c_1] at hw
        subst hw
        refine bz_eq (tgt := 95) hx hb (by first | omega | exact Nat.lt_of_lt_of_le (hG _ _) (by decide)) dX12_keepMatches_78 (by decide) (fun q9 => absurd q9 (by omega)) (fun c => ?_)
        refine lv_aload_n hx hb dX12_keepMatches_81 rfl (lv_at hl 2 rfl) ?_
        refine lv_aload_n hx hb dX12_keepMatches_82 rfl (lv_at hl 2 rfl) ?_
        refine mg_11 hx hb hts inX12_keepMatches hown hK hP (hts _ lkX12_keepMatches_f35) dX12_keepMatches_83 ?_
        refine lv_iload hx hb dX12_keepMatches_86 (lv_at hl 1 rfl) ?_
        refine ml_11 hx hb hK hP (by omega) dX12_keepMatches_88 ?_
        refine tp_i (y := nI (G 11 (L a1))) rfl ?_
        refine mcl_i (As := [.int (nI (G 11 (L a1)))]) (rest := []) ⟨hx, hb, hml, hown, hts⟩ (m_variable l dC dI cB cC cI cJ cZ z0 R pl (va_up N 53 q) (KG G MF MT M I L Hw O) B (G 11 (L a1)) hG2 hN (hG 11 (L a1)) H.size) (cwV 1 hts kX12_keepMatches_X12_variable_327 rfl rfl rfl (by decide +kernel) ⟨Nat.le_of_ble_eq_true rfl, Nat.le_of_ble_eq_true rfl⟩) hK hP hD hS hA rfl rfl hl.1 (lv_room (Nat.le_of_ble_eq_true rfl)) dX12_keepMatches_89 hcs (fun r_11 N_7 G_8 B_9 pl_10 hw H locs hP hD hS => ?_)
        dsimp only at hw
        obtain ⟨e1, e2, e3, e4, hw⟩ := hw
        rw [e1, e2, e3, e4] at hP hD
        have hw : r_11 = nI (VAR N G (G 11 (L a1))) - 1 := hw
        subst hw
        have v1 : VAR N G (G 11 (L a1)) ≤ N 49 := varF_le (G 47) (G 11 (L a1)) (N 49)
        refine lv_goto (tgt := 96) hx hb dX12_keepMatches_92 (by decide) ?_
        refine lv_istore (lv' := [(7, .int (nI (VAR N G (G 11 (L a1))) - 1)), (6, .int (nI (O a1))), (5, .int (nI (L a1))), (0, .ref z0), (1, .int (nI top)), (2, .int (nI lst)), (3, .int (nI rd)), (4, .int (nI a1))]) hx hb dX12_keepMatches_96 hl (by decide) rfl (fun ls hl => ?_)
        refine lv_iload hx hb dX12_keepMatches_98 (lv_at hl 0 rfl) ?_
        refine bo_lt (tgt := 133) hx hb (by first | omega | exact Nat.lt_of_lt_of_le (hG _ _) (by decide)) dX12_keepMatches_100 (by decide) (fun c2 => ?_) (fun c2 => ?_)
        · refine lv_aload_n hx hb dX12_keepMatches_133 rfl (lv_at hl 3 rfl) ?_
          refine mg_10 hx hb hts inX12_keepMatches hown hK hP (hts _ lkX12_keepMatches_f32) dX12_keepMatches_134 ?_
          refine lv_iload hx hb dX12_keepMatches_137 (lv_at hl 2 rfl) ?_
          refine ml_10 hx hb hK hP (by omega) dX12_keepMatches_139 ?_
          refine tp_i (y := nI (G 10 (L a1))) rfl ?_
          refine lv_iconst (v := nI 2) hx hb dX12_keepMatches_140 (by decide) ?_
          refine bn_ne (tgt := 169) hx hb (by first | omega | exact Nat.lt_of_lt_of_le (hG _ _) (by decide)) (by first | omega | exact Nat.lt_of_lt_of_le (hG _ _) (by decide)) dX12_keepMatches_141 (by decide) (fun c9 => ?_) (fun q9 => absurd q9 (by omega))
          refine lv_iinc (v := nI (a1 + 1)) (lv' := [(4, .int (nI (a1 + 1))), (7, .int (nI (VAR N G (G 11 (L a1))) - 1)), (6, .int (nI (O a1))), (5, .int (nI (L a1))), (0, .ref z0), (1, .int (nI top)), (2, .int (nI lst)), (3, .int (nI rd))]) hx hb dX12_keepMatches_169 hl (k := 7) rfl (nI_add a1 1) (by decide) rfl (fun ls hl => ?_)
          refine lv_goto (tgt := 45) hx hb dX12_keepMatches_172 (by decide) ?_
          have hwr2 : (rd = 1 → ∀ i, i < a1 + 1 → ∀ v, G 10 (L i) = 1 → VAR N G (G 11 (L i)) = v + 1 → MT (MF v + Hw i) < N 14) := fun hr i hi v hv1 hv2 => (by by_cases ei : i = a1 <;> first | (subst ei; exact absurd hv2 (by omega)) | exact hwr hr i (by omega) v hv1 hv2)
          exact ih (a1 + 1) q L Hw O M MT I (by omega) hL hH hO hM hMT hI (hki.skip ht9 htop hlst hpt hmt c1 (by omega)) hwr2 _ _ hP hD hS ls (lv_sub hl [4, 5, 6, 7, 0] rfl)
        · refine lv_iload_n hx hb dX12_keepMatches_103 rfl (lv_at hl 6 rfl) ?_
          refine lv_iconst (v := nI 1) hx hb dX12_keepMatches_104 (by decide) ?_
          refine bn_ne (tgt := 133) hx hb (by first | omega | exact Nat.lt_of_lt_of_le (hG _ _) (by decide)) (by first | omega | exact Nat.lt_of_lt_of_le (hG _ _) (by decide)) dX12_keepMatches_105 (by decide) (fun c3 => ?_) (fun c3 => ?_)
          · refine lv_aload_n hx hb dX12_keepMatches_133 rfl (lv_at hl 3 rfl) ?_
            refine mg_10 hx hb hts inX12_keepMatches hown hK hP (hts _ lkX12_keepMatches_f32) dX12_keepMatches_134 ?_
            refine lv_iload hx hb dX12_keepMatches_137 (lv_at hl 2 rfl) ?_
            refine ml_10 hx hb hK hP (by omega) dX12_keepMatches_139 ?_
            refine tp_i (y := nI (G 10 (L a1))) rfl ?_
            refine lv_iconst (v := nI 2) hx hb dX12_keepMatches_140 (by decide) ?_
            refine bn_ne (tgt := 169) hx hb (by first | omega | exact Nat.lt_of_lt_of_le (hG _ _) (by decide)) (by first | omega | exact Nat.lt_of_lt_of_le (hG _ _) (by decide)) dX12_keepMatches_141 (by decide) (fun c9 => ?_) (fun q9 => absurd q9 (by omega))
            refine lv_iinc (v := nI (a1 + 1)) (lv' := [(4, .int (nI (a1 + 1))), (7, .int (nI (VAR N G (G 11 (L a1))) - 1)), (6, .int (nI (O a1))), (5, .int (nI (L a1))), (0, .ref z0), (1, .int (nI top)), (2, .int (nI lst)), (3, .int (nI rd))]) hx hb dX12_keepMatches_169 hl (k := 7) rfl (nI_add a1 1) (by decide) rfl (fun ls hl => ?_)
            refine lv_goto (tgt := 45) hx hb dX12_keepMatches_172 (by decide) ?_
            have hwr2 : (rd = 1 → ∀ i, i < a1 + 1 → ∀ v, G 10 (L i) = 1 → VAR N G (G 11 (L i)) = v + 1 → MT (MF v + Hw i) < N 14) := fun hr => absurd hr (by omega)
            exact ih (a1 + 1) q L Hw O M MT I (by omega) hL hH hO hM hMT hI (hki.skip ht9 htop hlst hpt hmt c1 (by omega)) hwr2 _ _ hP hD hS ls (lv_sub hl [4, 5, 6, 7, 0] rfl)
          · have e3 : rd = 1 := by omega
            have m9 := hMFb e3 (VAR N G (G 11 (L a1)) - 1) (by omega)
            refine lv_aload_n hx hb dX12_keepMatches_108 rfl (lv_at hl 3 rfl) ?_
            refine mg_57 hx hb hts inX12_keepMatches hown hK hP (hts _ lkX12_keepMatches_f116) dX12_keepMatches_109 ?_
            refine lv_aload_n hx hb dX12_keepMatches_112 rfl (lv_at hl 3 rfl) ?_
            refine mg_55 hx hb hts inX12_keepMatches hown hK hP (hts _ lkX12_keepMatches_f110) dX12_keepMatches_113 ?_
            refine lv_iload hx hb dX12_keepMatches_116 (lv_at hl 0 rfl) ?_
            refine tp_i (om1 (c2)) ?_
            refine ml_55 hx hb hK hP (by omega) dX12_keepMatches_118 ?_
            refine tp_i (y := nI (MF ((VAR N G (G 11 (L a1))) - 1))) rfl ?_
            refine lv_aload_n hx hb dX12_keepMatches_119 rfl (lv_at hl 3 rfl) ?_
            refine mg_51 hx hb hts inX12_keepMatches hown hK hP (hts _ lkX12_keepMatches_f101) dX12_keepMatches_120 ?_
            refine lv_iload hx hb dX12_keepMatches_123 (lv_at hl 7 rfl) ?_
            refine ml_51 hx hb hK hP (by omega) dX12_keepMatches_125 ?_
            refine tp_i (y := nI (Hw a1)) rfl ?_
            refine lv_iadd hx hb dX12_keepMatches_126 ?_
            refine tp_i (nI_add (MF ((VAR N G (G 11 (L a1))) - 1)) (Hw a1)) ?_
            refine lv_iload hx hb dX12_keepMatches_127 (lv_at hl 1 rfl) ?_
            refine ms_57 hx hb hK hP hD hS (by omega) dX12_keepMatches_129 (fun H locs hP hD hS => ?_)
            rw [KG57] at hP hD
            have hP : va_P (dC, dI) vwCl (MW cB cC cI cJ cZ z0 R pl (va_up N 53 q) (KG G MF (va_up MT (MF (VAR N G (G 11 (L a1)) - 1) + Hw a1) (O a1)) M I L Hw O) B) H := hP
            have hD : va_D A (MW cB cC cI cJ cZ z0 R pl (va_up N 53 q) (KG G MF (va_up MT (MF (VAR N G (G 11 (L a1)) - 1) + Hw a1) (O a1)) M I L Hw O) B) := hD
            refine lv_goto (tgt := 169) hx hb dX12_keepMatches_130 (by decide) ?_
            refine lv_iinc (v := nI (a1 + 1)) (lv' := [(4, .int (nI (a1 + 1))), (7, .int (nI (VAR N G (G 11 (L a1))) - 1)), (6, .int (nI (O a1))), (5, .int (nI (L a1))), (0, .ref z0), (1, .int (nI top)), (2, .int (nI lst)), (3, .int (nI rd))]) hx hb dX12_keepMatches_169 hl (k := 7) rfl (nI_add a1 1) (by decide) rfl (fun ls hl => ?_)
            refine lv_goto (tgt := 45) hx hb dX12_keepMatches_172 (by decide) ?_
            have hwr2 : (rd = 1 → ∀ i, i < a1 + 1 → ∀ v, G 10 (L i) = 1 → VAR N G (G 11 (L i)) = v + 1 → (va_up MT (MF (VAR N G (G 11 (L a1)) - 1) + Hw a1) (O a1)) (MF v + Hw i) < N 14) := fun hr i hi v hv1 hv2 => up_lt p2 (fun ne => (by by_cases ei : i = a1 <;> first | (subst ei; exact absurd (by rw [hv2]; rfl) ne) | exact hwr hr i (by omega) v hv1 hv2))
            exact ih (a1 + 1) q L Hw O M (va_up MT (MF (VAR N G (G 11 (L a1)) - 1) + Hw a1) (O a1)) I (by omega) hL hH hO hM (hIup hMT (by omega)) hI (hki.skip ht9 htop hlst hpt hmt c1 (by omega)) hwr2 _ _ hP hD hS ls (lv_sub hl [4, 5, 6, 7, 0] rfl)
      · rw [if_neg c_1] at hw
        subst hw
        refine bz_eq (tgt := 95) hx hb (by first | omega | exact Nat.lt_of_lt_of_le (hG _ _) (by decide)) dX12_keepMatches_78 (by decide) (fun c => ?_) (fun q9 => absurd q9 (by omega))
        refine lv_iconst (v := nI 0 - 1) hx hb dX12_keepMatches_95 (by decide) ?_
        refine lv_istore (lv' := [(7, .int (nI 0 - 1)), (6, .int (nI (O a1))), (5, .int (nI (L a1))), (0, .ref z0), (1, .int (nI top)), (2, .int (nI lst)), (3, .int (nI rd)), (4, .int (nI a1))]) hx hb dX12_keepMatches_96 hl (by decide) rfl (fun ls hl => ?_)
        refine lv_iload hx hb dX12_keepMatches_98 (lv_at hl 0 rfl) ?_
        refine bo_lt (tgt := 133) hx hb (by first | omega | exact Nat.lt_of_lt_of_le (hG _ _) (by decide)) dX12_keepMatches_100 (by decide) (fun c2 => ?_) (fun c2 => ?_)
        · refine lv_aload_n hx hb dX12_keepMatches_133 rfl (lv_at hl 3 rfl) ?_
          refine mg_10 hx hb hts inX12_keepMatches hown hK hP (hts _ lkX12_keepMatches_f32) dX12_keepMatches_134 ?_
          refine lv_iload hx hb dX12_keepMatches_137 (lv_at hl 2 rfl) ?_
          refine ml_10 hx hb hK hP (by omega) dX12_keepMatches_139 ?_
          refine tp_i (y := nI (G 10 (L a1))) rfl ?_
          refine lv_iconst (v := nI 2) hx hb dX12_keepMatches_140 (by decide) ?_
          refine bn_ne (tgt := 169) hx hb (by first | omega | exact Nat.lt_of_lt_of_le (hG _ _) (by decide)) (by first | omega | exact Nat.lt_of_lt_of_le (hG _ _) (by decide)) dX12_keepMatches_141 (by decide) (fun c3 => ?_) (fun c3 => ?_)
          · refine lv_iinc (v := nI (a1 + 1)) (lv' := [(4, .int (nI (a1 + 1))), (7, .int (nI 0 - 1)), (6, .int (nI (O a1))), (5, .int (nI (L a1))), (0, .ref z0), (1, .int (nI top)), (2, .int (nI lst)), (3, .int (nI rd))]) hx hb dX12_keepMatches_169 hl (k := 7) rfl (nI_add a1 1) (by decide) rfl (fun ls hl => ?_)
            refine lv_goto (tgt := 45) hx hb dX12_keepMatches_172 (by decide) ?_
            have hwr2 : (rd = 1 → ∀ i, i < a1 + 1 → ∀ v, G 10 (L i) = 1 → VAR N G (G 11 (L i)) = v + 1 → MT (MF v + Hw i) < N 14) := fun hr i hi v hv1 hv2 => (by by_cases ei : i = a1 <;> first | (subst ei; exact absurd hv1 c_1) | exact hwr hr i (by omega) v hv1 hv2)
            exact ih (a1 + 1) q L Hw O M MT I (by omega) hL hH hO hM hMT hI (hki.skip ht9 htop hlst hpt hmt c1 (by omega)) hwr2 _ _ hP hD hS ls (lv_sub hl [4, 5, 6, 7, 0] rfl)
          · obtain ⟨m1, m2, m3⟩ := (MAT_un ht9 p2).mp p6 c3
            have s9 := (ht9.2 _ p2).2.1
            have s8 := cnt_le ht9 p2
            refine lv_aload_n hx hb dX12_keepMatches_144 rfl (lv_at hl 3 rfl) ?_
            refine lv_iload hx hb dX12_keepMatches_145 (lv_at hl 2 rfl) ?_
            refine lv_iload hx hb dX12_keepMatches_147 (lv_at hl 1 rfl) ?_
            refine lv_iload hx hb dX12_keepMatches_149 (lv_at hl 7 rfl) ?_
            refine bz_ne (tgt := 158) hx hb (by first | omega | exact Nat.lt_of_lt_of_le (hG _ _) (by decide)) dX12_keepMatches_151 (by decide) (fun c4 => ?_) (fun c4 => ?_)
            · have efr : FRI a1 = 0 := if_neg (by omega)
              rw [efr] at p3 p5 m2
              refine lv_iconst (v := nI 0) hx hb dX12_keepMatches_158 (by decide) ?_
              refine lv_aload_n hx hb dX12_keepMatches_159 rfl (lv_at hl 3 rfl) ?_
              refine mg_51 hx hb hts inX12_keepMatches hown hK hP (hts _ lkX12_keepMatches_f101) dX12_keepMatches_160 ?_
              refine lv_iload hx hb dX12_keepMatches_163 (lv_at hl 7 rfl) ?_
              refine ml_51 hx hb hK hP (by omega) dX12_keepMatches_165 ?_
              refine tp_i (y := nI (Hw a1)) rfl ?_
              refine mcl_v (As := [.int (nI (L a1)), .int (nI (O a1)), .int (nI 0), .int (nI (Hw a1))]) (rest := []) ⟨hx, hb, hml, hown, hts⟩ (m_keepParts l dC dI cB cC cI cJ cZ z0 R pl (va_up N 53 q) (KG G MF MT M I L Hw O) B (L a1) (O a1) 0 (Hw a1) sz hG2 ht9 hal p1 p2 p3 p4 (by obtain ⟨w9, h9⟩ := p5 c3; exact ⟨w9, (PATf_core KG_core _ _ _ _).mpr h9⟩) m2 hN (show q + G 12 (O a1) < 90000 by omega) H.size) (cwV 4 hts kX12_keepMatches_X12_keepParts_339 rfl rfl rfl (by decide +kernel) ⟨Nat.le_of_ble_eq_true rfl, Nat.le_of_ble_eq_true rfl⟩) hK hP hD hS hA rfl rfl hl.1 (lv_room (Nat.le_of_ble_eq_true rfl)) dX12_keepMatches_166 hcs (fun  N_12 G_13 B_14 pl_15 hw H locs hP hD hS => ?_)
              dsimp only at hw
              obtain ⟨e3, e4, M2, I2, L2, Hw2, O2, hM2, hI2, hL2, hH2, hO2, e1, e2, hqa, hz1, hz2⟩ := hw
              rw [e1, e2, e3, e4, bx_uu, KG_keep] at hP hD
              have hP : va_P (dC, dI) vwCl (MW cB cC cI cJ cZ z0 R pl (va_up N 53 (q + (G 12 (O a1) - 0))) (KG G MF MT M2 I2 L2 Hw2 O2) B) H := hP
              have hD : va_D A (MW cB cC cI cJ cZ z0 R pl (va_up N 53 (q + (G 12 (O a1) - 0))) (KG G MF MT M2 I2 L2 Hw2 O2) B) := hD
              have hqa := KG_qa hqa
              have hz2 := KG_sc hz2
              have hz1 : ¬ OPN G (L a1) 0 → M2 = M := hz1
              have hki2 := KI.list2 hki ht9 htop hlst hpt hmt c1 c3 efr hqa hz1 hz2
              have n9 := hki2.num ht9 htop hlst hpt hmt
              refine lv_iinc (v := nI (a1 + 1)) (lv' := [(4, .int (nI (a1 + 1))), (7, .int (nI 0 - 1)), (6, .int (nI (O a1))), (5, .int (nI (L a1))), (0, .ref z0), (1, .int (nI top)), (2, .int (nI lst)), (3, .int (nI rd))]) hx hb dX12_keepMatches_169 hl (k := 7) rfl (nI_add a1 1) (by decide) rfl (fun ls hl => ?_)
              refine lv_goto (tgt := 45) hx hb dX12_keepMatches_172 (by decide) ?_
              refine ih (a1 + 1) _ L2 Hw2 O2 M2 MT I2 (by omega) hL2 hH2 hO2 hM2 hMT hI2 hki2 (fun hr i hi v hv1 hv2 => ?_) _ _ hP hD hS ls (lv_sub hl [4, 5, 6, 7, 0] rfl)
              obtain ⟨x1, x2, x3⟩ := hqa.1 i (show i < q by omega)
              rw [x1] at hv1 hv2
              rw [x2]
              by_cases ei : i = a1
              · subst ei; exact absurd hv1 c_1
              · exact hwr hr i (by omega) v hv1 hv2
            · have efr : FRI a1 = 1 := if_pos (by omega)
              rw [efr] at p3 p5 m2
              refine lv_iconst (v := nI 1) hx hb dX12_keepMatches_154 (by decide) ?_
              refine lv_goto (tgt := 159) hx hb dX12_keepMatches_155 (by decide) ?_
              refine lv_aload_n hx hb dX12_keepMatches_159 rfl (lv_at hl 3 rfl) ?_
              refine mg_51 hx hb hts inX12_keepMatches hown hK hP (hts _ lkX12_keepMatches_f101) dX12_keepMatches_160 ?_
              refine lv_iload hx hb dX12_keepMatches_163 (lv_at hl 7 rfl) ?_
              refine ml_51 hx hb hK hP (by omega) dX12_keepMatches_165 ?_
              refine tp_i (y := nI (Hw a1)) rfl ?_
              refine mcl_v (As := [.int (nI (L a1)), .int (nI (O a1)), .int (nI 1), .int (nI (Hw a1))]) (rest := []) ⟨hx, hb, hml, hown, hts⟩ (m_keepParts l dC dI cB cC cI cJ cZ z0 R pl (va_up N 53 q) (KG G MF MT M I L Hw O) B (L a1) (O a1) 1 (Hw a1) sz hG2 ht9 hal p1 p2 p3 p4 (by obtain ⟨w9, h9⟩ := p5 c3; exact ⟨w9, (PATf_core KG_core _ _ _ _).mpr h9⟩) m2 hN (show q + G 12 (O a1) < 90000 by omega) H.size) (cwV 4 hts kX12_keepMatches_X12_keepParts_339 rfl rfl rfl (by decide +kernel) ⟨Nat.le_of_ble_eq_true rfl, Nat.le_of_ble_eq_true rfl⟩) hK hP hD hS hA rfl rfl hl.1 (lv_room (Nat.le_of_ble_eq_true rfl)) dX12_keepMatches_166 hcs (fun  N_17 G_18 B_19 pl_20 hw H locs hP hD hS => ?_)
              dsimp only at hw
              obtain ⟨e3, e4, M2, I2, L2, Hw2, O2, hM2, hI2, hL2, hH2, hO2, e1, e2, hqa, hz1, hz2⟩ := hw
              rw [e1, e2, e3, e4, bx_uu, KG_keep] at hP hD
              have hP : va_P (dC, dI) vwCl (MW cB cC cI cJ cZ z0 R pl (va_up N 53 (q + (G 12 (O a1) - 1))) (KG G MF MT M2 I2 L2 Hw2 O2) B) H := hP
              have hD : va_D A (MW cB cC cI cJ cZ z0 R pl (va_up N 53 (q + (G 12 (O a1) - 1))) (KG G MF MT M2 I2 L2 Hw2 O2) B) := hD
              have hqa := KG_qa hqa
              have hz2 := KG_sc hz2
              have hz1 : ¬ OPN G (L a1) 1 → M2 = M := hz1
              have hki2 := KI.list2 hki ht9 htop hlst hpt hmt c1 c3 efr hqa hz1 hz2
              have n9 := hki2.num ht9 htop hlst hpt hmt
              refine lv_iinc (v := nI (a1 + 1)) (lv' := [(4, .int (nI (a1 + 1))), (7, .int (nI 0 - 1)), (6, .int (nI (O a1))), (5, .int (nI (L a1))), (0, .ref z0), (1, .int (nI top)), (2, .int (nI lst)), (3, .int (nI rd))]) hx hb dX12_keepMatches_169 hl (k := 7) rfl (nI_add a1 1) (by decide) rfl (fun ls hl => ?_)
              refine lv_goto (tgt := 45) hx hb dX12_keepMatches_172 (by decide) ?_
              refine ih (a1 + 1) _ L2 Hw2 O2 M2 MT I2 (by omega) hL2 hH2 hO2 hM2 hMT hI2 hki2 (fun hr i hi v hv1 hv2 => ?_) _ _ hP hD hS ls (lv_sub hl [4, 5, 6, 7, 0] rfl)
              obtain ⟨x1, x2, x3⟩ := hqa.1 i (show i < q by omega)
              rw [x1] at hv1 hv2
              rw [x2]
              by_cases ei : i = a1
              · subst ei; exact absurd hv1 c_1
              · exact hwr hr i (by omega) v hv1 hv2
        · exact absurd c2 (by decide)

theorem sumW_mono (g : Nat → Nat) (a n : Nat) : ∀ m, n ≤ m → sumW g a n ≤ sumW g a m := by
  intro m
  induction m with
  | zero => intro h; rw [Nat.le_zero.mp h]; exact Nat.le_refl _
  | succ m ih =>
    intro h
    by_cases e : n = m + 1
    · rw [e]; exact Nat.le_refl _
    · rw [sumW]
      have := ih (by omega)
      omega
theorem up_le {MT : Nat → Nat} {j v i n : Nat} (hv : v ≤ n) (h : i ≠ j → MT i ≤ n) : va_up MT j v i ≤ n := by
  by_cases e : i = j
  · subst e; rw [va_up_self]; exact hv
  · rw [va_up_ne _ _ e]; exact h e
set_option maxHeartbeats 4000000 in
set_option maxRecDepth 100000 in
theorem lp_km2 {p : Program} {l : Launch} {e : Env} {s : State} {m : MethodId} {args : Array Value} {below : List Frame} {meth : Method} {c : Code} {Q : State → Prop} {A : Nat → Prop} {dC : Nat → ClassId} {dI : Nat → Nat → Nat} {cB cC cI cJ cZ : ClassId} {z0 : Nat} {R : Nat → Nat} (hx : p.tables.exec = Jvm.exec) (hb : c.code = cX12_keepMatches) (hml : c.maxLocals = 8) (hown : s.vm.findClass RX12 = some m.cls) (hts : ∀ w ∈ vX12_keepMatches, w.before args s = true) (hK : va_K (dC, dI) vwCl (TY cB cC cI cJ cZ) s) (hA : ∀ q : Nat, s.heap.size ≤ q → A q) {pl : Int32} {N : Nat → Nat} {G : Nat → Nat → Nat} {B : Nat → Nat → Int32} (hN : N 49 ≤ 1600) (top lst q : Nat) (L Hw O M MT I : Nat → Nat) (hM : ∀ i, M i < 1048576) (hs : sumW M 0 (N 49) ≤ 3001) (ke : ∀ (MF : Nat → Nat) (H : Heap) (locs : List Loc), (∀ i, MF i < 1048576) → (∀ u, u < N 49 → MF u ≤ 3001) → va_P (dC, dI) vwCl (MW cB cC cI cJ cZ z0 R pl (va_up N 53 q) (KG G MF MT M I L Hw O) B) H → va_D A (MW cB cC cI cJ cZ z0 R pl (va_up N 53 q) (KG G MF MT M I L Hw O) B) → va_S A s.heap H locs → ∀ (ls : Array Slot), lv_has ls 8 [(0, .ref z0), (1, .int (nI top)), (2, .int (nI lst)), (3, .int (nI 0))] → W p l e (headSpec vX12_keepMatches { frames := 4, cells := 0, slots := 0, locals := 94 }).room s m args below meth c H locs 0 0 Q (F0 m 221 ls [])) : ∀ (k : Nat) (v : Nat) (MF : Nat → Nat), N 49 - v < k → v ≤ 1600 → (∀ i, MF i < 1048576) → (∀ u, u < v → MF u ≤ 3001) → ∀ (H : Heap) (locs : List Loc), va_P (dC, dI) vwCl (MW cB cC cI cJ cZ z0 R pl (va_up N 53 q) (KG G MF MT M I L Hw O) B) H → va_D A (MW cB cC cI cJ cZ z0 R pl (va_up N 53 q) (KG G MF MT M I L Hw O) B) → va_S A s.heap H locs → ∀ (ls : Array Slot), lv_has ls 8 [(0, .ref z0), (1, .int (nI top)), (2, .int (nI lst)), (3, .int (nI 0)), (4, .int (nI (sumW M 0 v))), (5, .int (nI v))] → W p l e (headSpec vX12_keepMatches { frames := 4, cells := 0, slots := 0, locals := 94 }).room s m args below meth c H locs 0 0 Q (F0 m 181 ls []) := by
  have hcs : 0 + 0 ≤ (0 : Nat) ∧ 0 + 0 ≤ (0 : Nat) := ⟨Nat.le_refl 0, Nat.le_refl 0⟩
  intro k
  induction k with
  | zero =>
    intro v MF hk hvb hMF hb1
    omega
  | succ k ih =>
    intro v MF hk hvb hMF hb1 H locs hP hD hS ls hl
    refine lv_iload hx hb dX12_keepMatches_181 (lv_at hl 5 rfl) ?_
    refine lv_aload_n hx hb dX12_keepMatches_183 rfl (lv_at hl 0 rfl) ?_
    refine mg_49 hx hb hts inX12_keepMatches hown hK hP (hts _ lkX12_keepMatches_f309) dX12_keepMatches_184 ?_
    refine tp_i (y := nI (N 49)) rfl ?_
    refine bn_ge (tgt := 221) hx hb (by first | omega | exact Nat.lt_of_lt_of_le (hG _ _) (by decide)) (by first | omega | exact Nat.lt_of_lt_of_le (hG _ _) (by decide)) dX12_keepMatches_187 (by decide) (fun c1 => ?_) (fun c1 => ?_)
    · exact ke MF H locs hMF (fun u hu => hb1 u (by omega)) hP hD hS ls (lv_sub hl [0, 1, 2, 3] rfl)
    · have s1 := sumW_mono M 0 v (N 49) (by omega)
      have s2 := sumW_mono M 0 (v + 1) (N 49) (by omega)
      rw [sumW, Nat.zero_add] at s2
      have g56 := hM v
      refine lv_iload_n hx hb dX12_keepMatches_190 rfl (lv_at hl 3 rfl) ?_
      refine bz_ne (tgt := 221) hx hb (by first | omega | exact Nat.lt_of_lt_of_le (hG _ _) (by decide)) dX12_keepMatches_191 (by decide) (fun q9 => absurd q9 (by omega)) (fun c => ?_)
      refine lv_aload_n hx hb dX12_keepMatches_194 rfl (lv_at hl 0 rfl) ?_
      refine mg_55 hx hb hts inX12_keepMatches hown hK hP (hts _ lkX12_keepMatches_f110) dX12_keepMatches_195 ?_
      refine lv_iload hx hb dX12_keepMatches_198 (lv_at hl 5 rfl) ?_
      refine lv_iload hx hb dX12_keepMatches_200 (lv_at hl 4 rfl) ?_
      refine ms_55 hx hb hK hP hD hS (by omega) dX12_keepMatches_202 (fun H locs hP hD hS => ?_)
      rw [KG55] at hP hD
      have hP : va_P (dC, dI) vwCl (MW cB cC cI cJ cZ z0 R pl (va_up N 53 q) (KG G (va_up MF v (sumW M 0 v)) MT M I L Hw O) B) H := hP
      have hD : va_D A (MW cB cC cI cJ cZ z0 R pl (va_up N 53 q) (KG G (va_up MF v (sumW M 0 v)) MT M I L Hw O) B) := hD
      refine lv_iload hx hb dX12_keepMatches_203 (lv_at hl 4 rfl) ?_
      refine lv_aload_n hx hb dX12_keepMatches_205 rfl (lv_at hl 0 rfl) ?_
      refine mg_56 hx hb hts inX12_keepMatches hown hK hP (hts _ lkX12_keepMatches_f113) dX12_keepMatches_206 ?_
      refine lv_iload hx hb dX12_keepMatches_209 (lv_at hl 5 rfl) ?_
      refine ml_56 hx hb hK hP (by omega) dX12_keepMatches_211 ?_
      refine tp_i (y := nI (M v)) rfl ?_
      refine lv_iadd hx hb dX12_keepMatches_212 ?_
      refine tp_i (nI_add (sumW M 0 v) (M v)) ?_
      refine tp_i (y := nI (sumW M 0 (v + 1))) (by rw [sumW, Nat.zero_add]) ?_
      refine lv_istore (lv' := [(4, .int (nI (sumW M 0 (v + 1)))), (0, .ref z0), (1, .int (nI top)), (2, .int (nI lst)), (3, .int (nI 0)), (5, .int (nI v))]) hx hb dX12_keepMatches_213 hl (by decide) rfl (fun ls hl => ?_)
      refine lv_iinc (v := nI (v + 1)) (lv' := [(5, .int (nI (v + 1))), (4, .int (nI (sumW M 0 (v + 1)))), (0, .ref z0), (1, .int (nI top)), (2, .int (nI lst)), (3, .int (nI 0))]) hx hb dX12_keepMatches_215 hl (k := 5) rfl (nI_add v 1) (by decide) rfl (fun ls hl => ?_)
      refine lv_goto (tgt := 181) hx hb dX12_keepMatches_218 (by decide) ?_
      exact ih (v + 1) (va_up MF v (sumW M 0 v)) (by omega) (by omega) (hIup hMF (by omega)) (fun u hu => up_le (by omega) (fun e => hb1 u (by omega))) _ _ hP hD hS ls (lv_sub hl [2, 3, 4, 5, 1, 0] rfl)

theorem LKk : True := trivial
set_option maxHeartbeats 4000000 in
set_option maxRecDepth 100000 in
/-- keepMatches: each turn of each variable is kept, as a form -/
theorem m_keepMatches (l : Launch) (dC : Nat → ClassId) (dI : Nat → Nat → Nat) (cB cC cI cJ cZ : ClassId) (z0 : Nat) (R : Nat → Nat) (pl : Int32) (N : Nat → Nat) (G : Nat → Nat → Nat) (B : Nat → Nat → Int32) (top lst rules : Nat) (sz : Nat → Nat) (hG : ∀ k i, G k i < 1048576) (ht9 : TREE N G sz) (hal : AL N G) (hN : N 49 ≤ 1600) (htop : top < N 14) (hlst : lst < N 14) (hpt : PAT G sz top 1 0) (hmt : MAT G sz top lst 1) (h2t : G 10 top = 2) (htab : TAB N G sz rules top) (s0 : Nat) : Met l yX12_keepMatches vX12_keepMatches { frames := 4, cells := 0, slots := 0, locals := 94 } (va_Pc [.ref z0, .int (nI top), .int (nI lst)] (mPre dC dI cB cC cI cJ cZ z0 R pl N G B s0)) (va_Qv (fun u : ((Nat → Nat) × (Nat → Nat → Nat) × (Nat → Nat → Int32) × Int32) => match u with | (N1, G1, B1, pl1) => B1 = B ∧ pl1 = pl ∧ ∃ q MF MT M I L Hw O, (∀ i, MF i < 1048576) ∧ (∀ i, MT i < 1048576) ∧ (∀ i, M i < 1048576) ∧ (∀ i, I i < 1048576) ∧ (∀ i, L i < 1048576) ∧ (∀ i, Hw i < 1048576) ∧ (∀ i, O i < 1048576) ∧ q ≤ 3001 ∧ N1 = va_up N 53 q ∧ G1 = KG G MF MT M I L Hw O ∧ (∀ v, v < N 49 → M v ≤ 3001 ∧ MF v ≤ 3001 ∧ (∀ t, t < M v → MT (MF v + t) < N 14) ∧ (G 48 v = 0 → MT (MF v) < N 14))) (mPost dC dI cB cC cI cJ cZ z0 R (va_A (MW cB cC cI cJ cZ z0 R pl N G B) s0)) (va_A (MW cB cC cI cJ cZ z0 R pl N G B) s0)) 0 0 (va_A (MW cB cC cI cJ cZ z0 R pl N G B) s0) := by
  refine Met.ofW (cc := cX12_keepMatches) (maxL := 8) (ret := none) (by decide) rfl ?_
  intro p e s m args below meth c s₁ B9 hml hv
  obtain ⟨rfl, hsz, hP, hK, hD0⟩ := hv
  have hx := B9.exec
  have hb := B9.bytes
  have hr := B9.returns
  have hts := atoms_spec (ws := vX12_keepMatches) B9.pre
  have hown : s.vm.findClass RX12 = some m.cls := findClass_of_methodNamed B9.named
  have hlocks := B9.notSynchronized
  subst hsz
  have hD := hD0.self (sz := s.heap.size)
  generalize hAe : va_A (MW cB cC cI cJ cZ z0 R pl N G B) s.heap.size = A at hD ⊢
  have hA : ∀ q : Nat, s.heap.size ≤ q → A q := fun q h => by rw [← hAe]; exact Or.inr h
  have hS : va_S A s.heap s.heap [] := va_S.rf
  have hcs : 0 + 0 ≤ (0 : Nat) ∧ 0 + 0 ≤ (0 : Nat) := ⟨Nat.le_refl 0, Nat.le_refl 0⟩
  have hl := lv_entry ([.ref z0, .int (nI top), .int (nI lst)]) (n := 8) (Nat.le_of_ble_eq_true rfl)
  rw [lg_entry_eq]
  generalize (lg_sl ([.ref z0, .int (nI top), .int (nI lst)]) ++ List.replicate (8 - (lg_sl ([.ref z0, .int (nI top), .int (nI lst)])).length) Slot.unset).toArray = ls at hl ⊢
  have hl : lv_has ls 8 [(0, .ref z0), (1, .int (nI top)), (2, .int (nI lst))] := hl
  have u6 := ht9.1
  refine lv_iconst (v := nI 0) hx hb dX12_keepMatches_0 (by decide) ?_
  refine lv_istore_n (lv' := [(3, .int (nI 0)), (0, .ref z0), (1, .int (nI top)), (2, .int (nI lst))]) hx hb dX12_keepMatches_1 rfl hl (by decide) rfl (fun ls hl => ?_)
  have hP : va_P (dC, dI) vwCl (MW cB cC cI cJ cZ z0 R pl N (va_up G 56 (G 56)) B) s.heap := by rw [va_upid]; exact hP
  have hD : va_D A (MW cB cC cI cJ cZ z0 R pl N (va_up G 56 (G 56)) B) := by rw [va_upid]; exact hD
  refine lp_km0 hx hb hml hown hts hK hA hN top lst (fun M H locs hM hm1 hP hD hS ls hl => ?_) _ 0 (G 56) (Nat.lt_succ_self _) (by decide) (hG 56) (fun u hu => absurd hu (Nat.not_lt_zero u)) _ _ hP hD hS ls (lv_sub hl [1, 2, 3, 0] rfl)
  refine lv_iconst (v := nI 0) hx hb dX12_keepMatches_23 (by decide) ?_
  refine lv_istore_n (lv' := [(3, .int (nI 0)), (0, .ref z0), (1, .int (nI top)), (2, .int (nI lst))]) hx hb dX12_keepMatches_24 rfl hl (by decide) rfl (fun ls hl => ?_)
  refine lv_iload_n hx hb dX12_keepMatches_25 rfl (lv_at hl 0 rfl) ?_
  refine lv_iconst (v := nI 2) hx hb dX12_keepMatches_26 (by decide) ?_
  refine bn_ge (tgt := 227) hx hb (by first | omega | exact Nat.lt_of_lt_of_le (hG _ _) (by decide)) (by first | omega | exact Nat.lt_of_lt_of_le (hG _ _) (by decide)) dX12_keepMatches_27 (by decide) (fun q9 => absurd q9 (by omega)) (fun c => ?_)
  refine lv_aload_n hx hb dX12_keepMatches_30 rfl (lv_at hl 1 rfl) ?_
  refine lv_iconst (v := nI 0) hx hb dX12_keepMatches_31 (by decide) ?_
  refine mp_53 hx hb hts inX12_keepMatches hown hK hP hD hS (hts _ lkX12_keepMatches_f306) dX12_keepMatches_32 (fun H locs hP hD hS => ?_)
  have hP : va_P (dC, dI) vwCl (MW cB cC cI cJ cZ z0 R pl (va_up N 53 0) (KG G (G 55) (G 57) M (G 54) (G 50) (G 51) (G 52)) B) H := by rw [KG_self]; exact hP
  have hD : va_D A (MW cB cC cI cJ cZ z0 R pl (va_up N 53 0) (KG G (G 55) (G 57) M (G 54) (G 50) (G 51) (G 52)) B) := by rw [KG_self]; exact hD
  refine lv_aload_n hx hb dX12_keepMatches_35 rfl (lv_at hl 1 rfl) ?_
  refine lv_iload_n hx hb dX12_keepMatches_36 rfl (lv_at hl 2 rfl) ?_
  refine lv_iconst (v := nI 0) hx hb dX12_keepMatches_37 (by decide) ?_
  refine lv_iload_n hx hb dX12_keepMatches_38 rfl (lv_at hl 3 rfl) ?_
  refine mcl_v (As := [.int (nI top), .int (nI 0), .int (nI lst)]) (rest := []) ⟨hx, hb, hml, hown, hts⟩ (m_lookAt l dC dI cB cC cI cJ cZ z0 R pl (va_up N 53 0) (KG G (G 55) (G 57) M (G 54) (G 50) (G 51) (G 52)) B top 0 lst (show 0 < 90000 from (by decide)) H.size) (cwV 3 hts kX12_keepMatches_X12_lookAt_318 rfl rfl rfl (by decide +kernel) ⟨Nat.le_of_ble_eq_true rfl, Nat.le_of_ble_eq_true rfl⟩) hK hP hD hS hA rfl rfl hl.1 (lv_room (Nat.le_of_ble_eq_true rfl)) dX12_keepMatches_39 hcs (fun  N_1 G_2 B_3 pl_4 hw H locs hP hD hS => ?_)
  dsimp only at hw
  obtain ⟨e1, e2, e3, e4⟩ := hw
  rw [e1, e2, e3, e4, bx_uu, LK_look] at hP hD
  have hP : va_P (dC, dI) vwCl (MW cB cC cI cJ cZ z0 R pl (va_up N 53 (0 + 1)) (KG G (G 55) (G 57) M (G 54) (va_up (G 50) 0 top) (va_up (G 51) 0 0) (va_up (G 52) 0 lst)) B) H := hP
  have hD : va_D A (MW cB cC cI cJ cZ z0 R pl (va_up N 53 (0 + 1)) (KG G (G 55) (G 57) M (G 54) (va_up (G 50) 0 top) (va_up (G 51) 0 0) (va_up (G 52) 0 lst)) B) := hD
  refine lv_iconst (v := nI 0) hx hb dX12_keepMatches_42 (by decide) ?_
  refine lv_istore (lv' := [(4, .int (nI 0)), (3, .int (nI 0)), (0, .ref z0), (1, .int (nI top)), (2, .int (nI lst))]) hx hb dX12_keepMatches_43 hl (by decide) rfl (fun ls hl => ?_)
  refine lp_km1 hx hb hml hown hts hK hA hG ht9 hal hN htop hlst hpt hmt h2t htab 0 (by decide) (G 55) M (hG 55) (fun z => absurd z (by decide)) (fun q L Hw O M1 MT I H locs hL hH hO hM1 hMT hI hq hki hwr hP hD hS ls hl => ?_) _ 0 1 _ _ _ M (G 57) (G 54) (Nat.lt_succ_self _) (hIup (hG 50) (by omega)) (hIup (hG 51) (by decide)) (hIup (hG 52) (by omega)) hM (hG 57) (hG 54) (KI.start ht9 hlst) (fun z => absurd z (by decide)) _ _ hP hD hS ls (lv_sub hl [2, 3, 4, 1, 0] rfl)
  have hf1 : ∀ v, v < N 49 → _ := fun v hv => hki.fin (rules := rules) ht9 htop hlst hpt hmt h2t (Nat.le_refl _) (fun v hv => Or.inl (hm1 v hv)) htab hv
  have hs := counts_le q (fun i => if G 10 (L i) = 1 then VAR N G (G 11 (L i)) else 0) Hw (N 49) M1 (fun v hv t ht => by
    obtain ⟨i, h1, h2, h3, h4⟩ := (hf1 v hv).2.2.1 t ht
    exact ⟨i, h1, by rw [if_pos h2]; exact h3, h4⟩)
  have hs2 := Nat.le_trans hs (cntP_le _ q)
  refine lv_iconst (v := nI 0) hx hb dX12_keepMatches_175 (by decide) ?_
  refine lv_istore (lv' := [(4, .int (nI 0)), (0, .ref z0), (1, .int (nI top)), (2, .int (nI lst)), (3, .int (nI 0))]) hx hb dX12_keepMatches_176 hl (by decide) rfl (fun ls hl => ?_)
  refine lv_iconst (v := nI 0) hx hb dX12_keepMatches_178 (by decide) ?_
  refine lv_istore (lv' := [(5, .int (nI 0)), (4, .int (nI 0)), (0, .ref z0), (1, .int (nI top)), (2, .int (nI lst)), (3, .int (nI 0))]) hx hb dX12_keepMatches_179 hl (by decide) rfl (fun ls hl => ?_)
  refine lp_km2 hx hb hml hown hts hK hA hN top lst q L Hw O M1 MT I hM1 (by omega) (fun MF H locs hMF hMFb hP hD hS ls hl => ?_) _ 0 (G 55) (Nat.lt_succ_self _) (by decide) (hG 55) (fun u hu => absurd hu (Nat.not_lt_zero u)) _ _ hP hD hS ls (lv_sub hl [2, 3, 4, 5, 1, 0] rfl)
  refine lv_iinc (v := nI (1)) (lv' := [(3, .int (nI 1)), (0, .ref z0), (1, .int (nI top)), (2, .int (nI lst))]) hx hb dX12_keepMatches_221 hl (k := 3) rfl (nI_add 0 1) (by decide) rfl (fun ls hl => ?_)
  refine lv_goto (tgt := 25) hx hb dX12_keepMatches_224 (by decide) ?_
  refine lv_iload_n hx hb dX12_keepMatches_25 rfl (lv_at hl 0 rfl) ?_
  refine lv_iconst (v := nI 2) hx hb dX12_keepMatches_26 (by decide) ?_
  refine bn_ge (tgt := 227) hx hb (by first | omega | exact Nat.lt_of_lt_of_le (hG _ _) (by decide)) (by first | omega | exact Nat.lt_of_lt_of_le (hG _ _) (by decide)) dX12_keepMatches_27 (by decide) (fun q9 => absurd q9 (by omega)) (fun c => ?_)
  refine lv_aload_n hx hb dX12_keepMatches_30 rfl (lv_at hl 1 rfl) ?_
  refine lv_iconst (v := nI 0) hx hb dX12_keepMatches_31 (by decide) ?_
  refine mp_53 hx hb hts inX12_keepMatches hown hK hP hD hS (hts _ lkX12_keepMatches_f306) dX12_keepMatches_32 (fun H locs hP hD hS => ?_)
  rw [bx_uu] at hP hD
  refine lv_aload_n hx hb dX12_keepMatches_35 rfl (lv_at hl 1 rfl) ?_
  refine lv_iload_n hx hb dX12_keepMatches_36 rfl (lv_at hl 2 rfl) ?_
  refine lv_iconst (v := nI 0) hx hb dX12_keepMatches_37 (by decide) ?_
  refine lv_iload_n hx hb dX12_keepMatches_38 rfl (lv_at hl 3 rfl) ?_
  refine mcl_v (As := [.int (nI top), .int (nI 0), .int (nI lst)]) (rest := []) ⟨hx, hb, hml, hown, hts⟩ (m_lookAt l dC dI cB cC cI cJ cZ z0 R pl (va_up N 53 0) (KG G MF MT M1 I L Hw O) B top 0 lst (show 0 < 90000 from (by decide)) H.size) (cwV 3 hts kX12_keepMatches_X12_lookAt_318 rfl rfl rfl (by decide +kernel) ⟨Nat.le_of_ble_eq_true rfl, Nat.le_of_ble_eq_true rfl⟩) hK hP hD hS hA rfl rfl hl.1 (lv_room (Nat.le_of_ble_eq_true rfl)) dX12_keepMatches_39 hcs (fun  N_6 G_7 B_8 pl_9 hw H locs hP hD hS => ?_)
  dsimp only at hw
  obtain ⟨e1, e2, e3, e4⟩ := hw
  rw [e1, e2, e3, e4, bx_uu, LK_look] at hP hD
  have hP : va_P (dC, dI) vwCl (MW cB cC cI cJ cZ z0 R pl (va_up N 53 (0 + 1)) (KG G MF MT M1 I (va_up L 0 top) (va_up Hw 0 0) (va_up O 0 lst)) B) H := hP
  have hD : va_D A (MW cB cC cI cJ cZ z0 R pl (va_up N 53 (0 + 1)) (KG G MF MT M1 I (va_up L 0 top) (va_up Hw 0 0) (va_up O 0 lst)) B) := hD
  refine lv_iconst (v := nI 0) hx hb dX12_keepMatches_42 (by decide) ?_
  refine lv_istore (lv' := [(4, .int (nI 0)), (3, .int (nI 1)), (0, .ref z0), (1, .int (nI top)), (2, .int (nI lst))]) hx hb dX12_keepMatches_43 hl (by decide) rfl (fun ls hl => ?_)
  refine lp_km1 hx hb hml hown hts hK hA hG ht9 hal hN htop hlst hpt hmt h2t htab 1 (by decide) MF M1 hMF (fun _ => hMFb) (fun q L Hw O M MT I H locs hL hH hO hM hMT hI hq hki hwr hP hD hS ls hl => ?_) _ 0 1 _ _ _ M1 MT I (Nat.lt_succ_self _) (hIup hL (by omega)) (hIup hH (by decide)) (hIup hO (by omega)) hM1 hMT hI (KI.start ht9 hlst) (fun _ i hi => absurd hi (Nat.not_lt_zero i)) _ _ hP hD hS ls (lv_sub hl [2, 3, 4, 1, 0] rfl)
  have hf2 : ∀ v, v < N 49 → _ := fun v hv => hki.fin (rules := rules) ht9 htop hlst hpt hmt h2t (Nat.le_refl _) (fun v hv => (hf1 v hv).2.1) htab hv
  have hkept : (∀ v, v < N 49 → M v ≤ 3001 ∧ MF v ≤ 3001 ∧ (∀ t, t < M v → MT (MF v + t) < N 14) ∧ (G 48 v = 0 → MT (MF v) < N 14)) := by
    intro v hv
    obtain ⟨k1, k2, k3, k4⟩ := hf2 v hv
    refine ⟨k1, hMFb v hv, fun t ht => ?_, fun hz => ?_⟩
    · obtain ⟨i, h1, h2, h3, h4⟩ := k3 t ht
      rw [← h4]; exact hwr rfl i h1 v h2 h3
    · obtain ⟨i, h1, h2, h3, h4⟩ := k4 hz
      have := hwr rfl i h1 v h2 h3
      rw [h4] at this; exact this
  refine lv_iconst (v := nI 0) hx hb dX12_keepMatches_175 (by decide) ?_
  refine lv_istore (lv' := [(4, .int (nI 0)), (0, .ref z0), (1, .int (nI top)), (2, .int (nI lst)), (3, .int (nI 1))]) hx hb dX12_keepMatches_176 hl (by decide) rfl (fun ls hl => ?_)
  refine lv_iconst (v := nI 0) hx hb dX12_keepMatches_178 (by decide) ?_
  refine lv_istore (lv' := [(5, .int (nI 0)), (4, .int (nI 0)), (0, .ref z0), (1, .int (nI top)), (2, .int (nI lst)), (3, .int (nI 1))]) hx hb dX12_keepMatches_179 hl (by decide) rfl (fun ls hl => ?_)
  refine lv_iload hx hb dX12_keepMatches_181 (lv_at hl 0 rfl) ?_
  refine lv_aload_n hx hb dX12_keepMatches_183 rfl (lv_at hl 2 rfl) ?_
  refine mg_49 hx hb hts inX12_keepMatches hown hK hP (hts _ lkX12_keepMatches_f309) dX12_keepMatches_184 ?_
  refine tp_i (y := nI (N 49)) rfl ?_
  refine bn_ge (tgt := 221) hx hb (by first | omega | exact Nat.lt_of_lt_of_le (hG _ _) (by decide)) (by first | omega | exact Nat.lt_of_lt_of_le (hG _ _) (by decide)) dX12_keepMatches_187 (by decide) (fun c1 => ?_) (fun c1 => ?_)
  · refine lv_iinc (v := nI (2)) (lv' := [(3, .int (nI 2)), (5, .int (nI 0)), (4, .int (nI 0)), (0, .ref z0), (1, .int (nI top)), (2, .int (nI lst))]) hx hb dX12_keepMatches_221 hl (k := 5) rfl (nI_add 1 1) (by decide) rfl (fun ls hl => ?_)
    refine lv_goto (tgt := 25) hx hb dX12_keepMatches_224 (by decide) ?_
    refine lv_iload_n hx hb dX12_keepMatches_25 rfl (lv_at hl 0 rfl) ?_
    refine lv_iconst (v := nI 2) hx hb dX12_keepMatches_26 (by decide) ?_
    refine bn_ge (tgt := 227) hx hb (by first | omega | exact Nat.lt_of_lt_of_le (hG _ _) (by decide)) (by first | omega | exact Nat.lt_of_lt_of_le (hG _ _) (by decide)) dX12_keepMatches_27 (by decide) (fun c => ?_) (fun q9 => absurd q9 (by omega))
    exact W.vret hx hb hr (fun t ht hW => ⟨⟨(va_up N 53 q, KG G MF MT M I L Hw O, B, pl), rfl, ⟨rfl, rfl, q, MF, MT, M, I, L, Hw, O, hMF, hMT, hM, hI, hL, hH, hO, hq, rfl, rfl, hkept⟩, by rw [ht]; exact hP, va_K.moved hW.alike hK, hD⟩, hS.F ht⟩) hS.2.2 dX12_keepMatches_227
  · refine lv_iload_n hx hb dX12_keepMatches_190 rfl (lv_at hl 5 rfl) ?_
    refine bz_ne (tgt := 221) hx hb (by first | omega | exact Nat.lt_of_lt_of_le (hG _ _) (by decide)) dX12_keepMatches_191 (by decide) (fun c => ?_) (fun q9 => absurd q9 (by omega))
    refine lv_iinc (v := nI (2)) (lv' := [(3, .int (nI 2)), (5, .int (nI 0)), (4, .int (nI 0)), (0, .ref z0), (1, .int (nI top)), (2, .int (nI lst))]) hx hb dX12_keepMatches_221 hl (k := 5) rfl (nI_add 1 1) (by decide) rfl (fun ls hl => ?_)
    refine lv_goto (tgt := 25) hx hb dX12_keepMatches_224 (by decide) ?_
    refine lv_iload_n hx hb dX12_keepMatches_25 rfl (lv_at hl 0 rfl) ?_
    refine lv_iconst (v := nI 2) hx hb dX12_keepMatches_26 (by decide) ?_
    refine bn_ge (tgt := 227) hx hb (by first | omega | exact Nat.lt_of_lt_of_le (hG _ _) (by decide)) (by first | omega | exact Nat.lt_of_lt_of_le (hG _ _) (by decide)) dX12_keepMatches_27 (by decide) (fun c => ?_) (fun q9 => absurd q9 (by omega))
    exact W.vret hx hb hr (fun t ht hW => ⟨⟨(va_up N 53 q, KG G MF MT M I L Hw O, B, pl), rfl, ⟨rfl, rfl, q, MF, MT, M, I, L, Hw, O, hMF, hMT, hM, hI, hL, hH, hO, hq, rfl, rfl, hkept⟩, by rw [ht]; exact hP, va_K.moved hW.alike hK, hD⟩, hS.F ht⟩) hS.2.2 dX12_keepMatches_227
