def oX12_parse : List Cond := [Cond.fieldLink RX12 171 "MacroScopesModel" "length" "I", Cond.fieldLink RX12 7 "MacroScopesModel" "text" "[B", Cond.fieldLink RX12 88 "MacroScopesModel" "opened" "[I", Cond.fieldLink RX12 203 "MacroScopesModel" "waits" "I", Cond.methodLink RX12 213 yX12_endList, Cond.instanceMethod yX12_endList, Cond.selects RX12 yX12_endList yX12_endList, Cond.initialized RX12, Cond.methodLink RX12 217 yX12_token, Cond.instanceMethod yX12_token, Cond.selects RX12 yX12_token yX12_token]
def vX12_parse : List Cond := .code yX12_parse cX12_parse 6 (some .boolean) :: (oX12_parse ++ (vX12_endList ++ (vX12_token ++ (wsX120))))
theorem lkX12_parse_f171 : Cond.fieldLink RX12 171 "MacroScopesModel" "length" "I" ∈ vX12_parse := List.mem_cons_of_mem _ (List.mem_append_left _ (List.mem_of_getElem? (i := 0) rfl))
theorem lkX12_parse_f7 : Cond.fieldLink RX12 7 "MacroScopesModel" "text" "[B" ∈ vX12_parse := List.mem_cons_of_mem _ (List.mem_append_left _ (List.mem_of_getElem? (i := 1) rfl))
theorem lkX12_parse_f88 : Cond.fieldLink RX12 88 "MacroScopesModel" "opened" "[I" ∈ vX12_parse := List.mem_cons_of_mem _ (List.mem_append_left _ (List.mem_of_getElem? (i := 2) rfl))
theorem lkX12_parse_f203 : Cond.fieldLink RX12 203 "MacroScopesModel" "waits" "I" ∈ vX12_parse := List.mem_cons_of_mem _ (List.mem_append_left _ (List.mem_of_getElem? (i := 3) rfl))
theorem inX12_parse : ∀ w ∈ wsX120, w ∈ vX12_parse := fun w h => List.mem_cons_of_mem _ (List.mem_append_right _ (List.mem_append_right _ (List.mem_append_right _ (h))))
theorem kX12_parse_X12_endList_213 : GoodIn vX12_parse (wsV RX12 213 RX12 yX12_endList vX12_endList) := goodIn_sub (fun w h => (List.mem_append.mp h).elim (fun h => List.mem_cons_of_mem _ (List.mem_append_left _ ((by decide +kernel : ∀ w ∈ ([.methodLink RX12 213 yX12_endList, .instanceMethod yX12_endList, .selects RX12 yX12_endList yX12_endList, .initialized RX12] : List Cond), w ∈ oX12_parse) w h))) (fun h => List.mem_cons_of_mem _ (List.mem_append_right _ (List.mem_append_left _ (h))))) (by decide +kernel)
theorem kX12_parse_X12_token_217 : GoodIn vX12_parse (wsV RX12 217 RX12 yX12_token vX12_token) := goodIn_sub (fun w h => (List.mem_append.mp h).elim (fun h => List.mem_cons_of_mem _ (List.mem_append_left _ ((by decide +kernel : ∀ w ∈ ([.methodLink RX12 217 yX12_token, .instanceMethod yX12_token, .selects RX12 yX12_token yX12_token, .initialized RX12] : List Cond), w ∈ oX12_parse) w h))) (fun h => List.mem_cons_of_mem _ (List.mem_append_right _ (List.mem_append_right _ (List.mem_append_left _ (h)))))) (by decide +kernel)
set_option maxHeartbeats 4000000 in
set_option maxRecDepth 100000 in
theorem lp_par1 {p : Program} {l : Launch} {e : Env} {s : State} {m : MethodId} {args : Array Value} {below : List Frame} {meth : Method} {c : Code} {Q : State → Prop} {A : Nat → Prop} {dC : Nat → ClassId} {dI : Nat → Nat → Nat} {cB cC cI cJ cZ : ClassId} {z0 : Nat} {R : Nat → Nat} (hx : p.tables.exec = Jvm.exec) (hb : c.code = cX12_parse) (hml : c.maxLocals = 6) (hown : s.vm.findClass RX12 = some m.cls) (hts : ∀ w ∈ vX12_parse, w.before args s = true) (hK : va_K (dC, dI) vwCl (TY cB cC cI cJ cZ) s) (hA : ∀ q : Nat, s.heap.size ≤ q → A q) {pl : Int32} {N : Nat → Nat} {G : Nat → Nat → Nat} {B : Nat → Nat → Int32} {sz az : Nat → Nat} {c5 c6 : Nat} (at9 op bb : Nat) (M : Nat → Nat) (K : Nat → Nat → Nat) (C : Nat → Nat → Int32) (sz1 az1 : Nat → Nat) (hpi : PI N G B sz az (N 14) (N 15) c5 c6 at9 op bb M K C sz1 az1) (ke : ∀ (j : Nat) (H : Heap) (locs : List Loc), at9 < j → j ≤ M 2 → (j < M 2 → DEL (C 1 j)) → va_P (dC, dI) vwCl (MW cB cC cI cJ cZ z0 R pl M K C) H → va_D A (MW cB cC cI cJ cZ z0 R pl M K C) → va_S A s.heap H locs → ∀ (ls : Array Slot), lv_has ls 6 [(0, .ref z0), (1, .int (nI op)), (2, .int (nI at9)), (3, .int (nI 1)), (5, .int (nI j))] → W p l e (headSpec vX12_parse { frames := 3, cells := 0, slots := 0, locals := 73 }).room s m args below meth c H locs 0 0 Q (F0 m 168 ls [])) : ∀ (k : Nat) (j : Nat), M 2 - j < k → at9 < j → j ≤ M 2 → ∀ (H : Heap) (locs : List Loc), va_P (dC, dI) vwCl (MW cB cC cI cJ cZ z0 R pl M K C) H → va_D A (MW cB cC cI cJ cZ z0 R pl M K C) → va_S A s.heap H locs → ∀ (ls : Array Slot), lv_has ls 6 [(0, .ref z0), (1, .int (nI op)), (2, .int (nI at9)), (3, .int (nI 1)), (5, .int (nI j))] → W p l e (headSpec vX12_parse { frames := 3, cells := 0, slots := 0, locals := 73 }).room s m args below meth c H locs 0 0 Q (F0 m 117 ls []) := by
  have hcs : 0 + 0 ≤ (0 : Nat) ∧ 0 + 0 ≤ (0 : Nat) := ⟨Nat.le_refl 0, Nat.le_refl 0⟩
  intro k
  induction k with
  | zero =>
    intro j hk hj1 hj2
    omega
  | succ k ih =>
    intro j hk hj1 hj2 H locs hP hD hS ls hl
    have b2 := hpi.2.2.2.1
    refine lv_iload hx hb dX12_parse_117 (lv_at hl 4 rfl) ?_
    refine lv_aload_n hx hb dX12_parse_119 rfl (lv_at hl 0 rfl) ?_
    refine mg_2 hx hb hts inX12_parse hown hK hP (hts _ lkX12_parse_f171) dX12_parse_120 ?_
    refine bn_ge (tgt := 168) hx hb (by first | omega | exact Nat.lt_of_lt_of_le (hG _ _) (by decide)) (by first | omega | exact Nat.lt_of_lt_of_le (hG _ _) (by decide)) dX12_parse_123 (by decide) (fun c1 => ?_) (fun c1 => ?_)
    · exact ke j H locs hj1 (by omega) (fun z => absurd z (by omega)) hP hD hS ls (lv_sub hl [0, 1, 2, 3, 4] rfl)
    · refine lv_aload_n hx hb dX12_parse_126 rfl (lv_at hl 0 rfl) ?_
      refine mg_1 hx hb hts inX12_parse hown hK hP (hts _ lkX12_parse_f7) dX12_parse_127 ?_
      refine lv_iload hx hb dX12_parse_130 (lv_at hl 4 rfl) ?_
      refine ml_1 hx hb hK hP (by omega) dX12_parse_132 ?_
      refine lv_bipush (v := nI 32) hx hb dX12_parse_133 (by decide) ?_
      refine lv_icmp_eq (tgt := 168) hx hb dX12_parse_135 (by decide) (fun c2 => ?_) (fun c2 => ?_)
      · exact ke j H locs hj1 (by omega) (fun _ => Or.inl c2) hP hD hS ls (lv_sub hl [0, 1, 2, 3, 4] rfl)
      · refine lv_aload_n hx hb dX12_parse_138 rfl (lv_at hl 0 rfl) ?_
        refine mg_1 hx hb hts inX12_parse hown hK hP (hts _ lkX12_parse_f7) dX12_parse_139 ?_
        refine lv_iload hx hb dX12_parse_142 (lv_at hl 4 rfl) ?_
        refine ml_1 hx hb hK hP (by omega) dX12_parse_144 ?_
        refine lv_bipush (v := nI 40) hx hb dX12_parse_145 (by decide) ?_
        refine lv_icmp_eq (tgt := 168) hx hb dX12_parse_147 (by decide) (fun c3 => ?_) (fun c3 => ?_)
        · exact ke j H locs hj1 (by omega) (fun _ => Or.inr (Or.inl c3)) hP hD hS ls (lv_sub hl [0, 1, 2, 3, 4] rfl)
        · refine lv_aload_n hx hb dX12_parse_150 rfl (lv_at hl 0 rfl) ?_
          refine mg_1 hx hb hts inX12_parse hown hK hP (hts _ lkX12_parse_f7) dX12_parse_151 ?_
          refine lv_iload hx hb dX12_parse_154 (lv_at hl 4 rfl) ?_
          refine ml_1 hx hb hK hP (by omega) dX12_parse_156 ?_
          refine lv_bipush (v := nI 41) hx hb dX12_parse_157 (by decide) ?_
          refine lv_icmp_eq (tgt := 168) hx hb dX12_parse_159 (by decide) (fun c4 => ?_) (fun c4 => ?_)
          · exact ke j H locs hj1 (by omega) (fun _ => Or.inr (Or.inr c4)) hP hD hS ls (lv_sub hl [0, 1, 2, 3, 4] rfl)
          · refine lv_iinc (v := nI (j + 1)) (lv' := [(5, .int (nI (j + 1))), (0, .ref z0), (1, .int (nI op)), (2, .int (nI at9)), (3, .int (nI 1))]) hx hb dX12_parse_162 hl (k := 4) rfl (nI_add j 1) (by decide) rfl (fun ls hl => ?_)
            refine lv_goto (tgt := 117) hx hb dX12_parse_165 (by decide) ?_
            exact ih (j + 1) (by omega) (by omega) (by omega) _ _ hP hD hS ls (lv_sub hl [1, 2, 3, 4, 0] rfl)

set_option maxHeartbeats 4000000 in
set_option maxRecDepth 100000 in
theorem lp_par2 {p : Program} {l : Launch} {e : Env} {s : State} {m : MethodId} {args : Array Value} {below : List Frame} {meth : Method} {c : Code} {Q : State → Prop} {A : Nat → Prop} {dC : Nat → ClassId} {dI : Nat → Nat → Nat} {cB cC cI cJ cZ : ClassId} {z0 : Nat} {R : Nat → Nat} (hx : p.tables.exec = Jvm.exec) (hb : c.code = cX12_parse) (hml : c.maxLocals = 6) (hown : s.vm.findClass RX12 = some m.cls) (hts : ∀ w ∈ vX12_parse, w.before args s = true) (hK : va_K (dC, dI) vwCl (TY cB cC cI cJ cZ) s) (hA : ∀ q : Nat, s.heap.size ≤ q → A q) {pl : Int32} {N : Nat → Nat} {G : Nat → Nat → Nat} {B : Nat → Nat → Int32} {sz az : Nat → Nat} {c5 c6 : Nat} (ke : ∀ (at9 op bb fi : Nat) (M : Nat → Nat) (K : Nat → Nat → Nat) (C : Nat → Nat → Int32) (sz1 az1 : Nat → Nat) (H : Heap) (locs : List Loc), fi ≤ 1 → PI N G B sz az (N 14) (N 15) c5 c6 at9 op bb M K C sz1 az1 → va_P (dC, dI) vwCl (MW cB cC cI cJ cZ z0 R pl M K C) H → va_D A (MW cB cC cI cJ cZ z0 R pl M K C) → va_S A s.heap H locs → ∀ (ls : Array Slot), lv_has ls 6 [(1, .int (nI op)), (3, .int (nI fi))] → W p l e (headSpec vX12_parse { frames := 3, cells := 0, slots := 0, locals := 73 }).room s m args below meth c H locs 0 0 Q (F0 m 187 ls [])) : ∀ (k : Nat) (at9 op bb fi : Nat) (M : Nat → Nat) (K : Nat → Nat → Nat) (C : Nat → Nat → Int32) (sz1 az1 : Nat → Nat), M 2 - at9 < k → fi ≤ 1 → PI N G B sz az (N 14) (N 15) c5 c6 at9 op bb M K C sz1 az1 → ∀ (H : Heap) (locs : List Loc), va_P (dC, dI) vwCl (MW cB cC cI cJ cZ z0 R pl M K C) H → va_D A (MW cB cC cI cJ cZ z0 R pl M K C) → va_S A s.heap H locs → ∀ (ls : Array Slot), lv_has ls 6 [(0, .ref z0), (1, .int (nI op)), (2, .int (nI at9)), (3, .int (nI fi))] → W p l e (headSpec vX12_parse { frames := 3, cells := 0, slots := 0, locals := 73 }).room s m args below meth c H locs 0 0 Q (F0 m 11 ls []) := by
  have hcs : 0 + 0 ≤ (0 : Nat) ∧ 0 + 0 ≤ (0 : Nat) := ⟨Nat.le_refl 0, Nat.le_refl 0⟩
  intro k
  induction k with
  | zero =>
    intro at9 op bb fi M K C sz1 az1 hk hfi hpi H locs hP hD hS ls hl
    exact absurd hk (Nat.not_lt_zero _)
  | succ k ih =>
    intro at9 op bb fi M K C sz1 az1 hk hfi hpi H locs hP hD hS ls hl
    have h45 := hpi.w45
    obtain ⟨p1, p2, p3, p4, p5, p6, p7, p8, p9, p10⟩ := id hpi
    have pg := p2.1
    have pf9 := p2.2.2.2.2.2.2.2.2
    refine lv_iload_n hx hb dX12_parse_11 rfl (lv_at hl 2 rfl) ?_
    refine lv_aload_n hx hb dX12_parse_12 rfl (lv_at hl 0 rfl) ?_
    refine mg_2 hx hb hts inX12_parse hown hK hP (hts _ lkX12_parse_f171) dX12_parse_13 ?_
    refine bn_ge (tgt := 187) hx hb (by first | omega | exact Nat.lt_of_lt_of_le (hG _ _) (by decide)) (by first | omega | exact Nat.lt_of_lt_of_le (hG _ _) (by decide)) dX12_parse_16 (by decide) (fun c1 => ?_) (fun c1 => ?_)
    · exact ke at9 op bb fi M K C sz1 az1 H locs hfi hpi hP hD hS ls (lv_sub hl [1, 3] rfl)
    · refine lv_iload_n hx hb dX12_parse_19 rfl (lv_at hl 3 rfl) ?_
      refine bz_eq (tgt := 187) hx hb (by first | omega | exact Nat.lt_of_lt_of_le (hG _ _) (by decide)) dX12_parse_20 (by decide) (fun c2 => ?_) (fun c2 => ?_)
      · exact ke at9 op bb fi M K C sz1 az1 H locs hfi hpi hP hD hS ls (lv_sub hl [1, 3] rfl)
      · obtain rfl : fi = 1 := by omega
        refine lv_aload_n hx hb dX12_parse_23 rfl (lv_at hl 0 rfl) ?_
        refine mg_1 hx hb hts inX12_parse hown hK hP (hts _ lkX12_parse_f7) dX12_parse_24 ?_
        refine lv_iload_n hx hb dX12_parse_27 rfl (lv_at hl 2 rfl) ?_
        refine ml_1 hx hb hK hP (by omega) dX12_parse_28 ?_
        refine lv_istore (lv' := [(4, .int (C 1 at9)), (0, .ref z0), (1, .int (nI op)), (2, .int (nI at9)), (3, .int (nI 1))]) hx hb dX12_parse_29 hl (by decide) rfl (fun ls hl => ?_)
        refine lv_iload hx hb dX12_parse_31 (lv_at hl 0 rfl) ?_
        refine lv_bipush (v := nI 40) hx hb dX12_parse_33 (by decide) ?_
        refine lv_icmp_ne (tgt := 70) hx hb dX12_parse_35 (by decide) (fun c3 => ?_) (fun c3 => ?_)
        · refine lv_iload hx hb dX12_parse_70 (lv_at hl 0 rfl) ?_
          refine lv_bipush (v := nI 41) hx hb dX12_parse_72 (by decide) ?_
          refine lv_icmp_ne (tgt := 107) hx hb dX12_parse_74 (by decide) (fun c4 => ?_) (fun c4 => ?_)
          · refine lv_iload hx hb dX12_parse_107 (lv_at hl 0 rfl) ?_
            refine lv_bipush (v := nI 32) hx hb dX12_parse_109 (by decide) ?_
            refine lv_icmp_eq (tgt := 181) hx hb dX12_parse_111 (by decide) (fun d9 => ?_) (fun d9 => ?_)
            · refine lv_iinc (v := nI (at9 + 1)) (lv' := [(2, .int (nI (at9 + 1))), (4, .int (C 1 at9)), (0, .ref z0), (1, .int (nI op)), (3, .int (nI 1))]) hx hb dX12_parse_181 hl (k := 3) rfl (nI_add at9 1) (by decide) rfl (fun ls hl => ?_)
              refine lv_goto (tgt := 11) hx hb dX12_parse_184 (by decide) ?_
              exact ih (at9 + 1) op 0 1 M K C sz1 az1 (by omega) (by decide) (hpi.skip c1) _ _ hP hD hS ls (lv_sub hl [2, 3, 0, 4] rfl)
            · have hnd : ¬ DEL (C 1 at9) := fun z => by rcases z with z | z | z; exact d9 z; exact c3 z; exact c4 z
              refine lv_iload_n hx hb dX12_parse_114 rfl (lv_at hl 3 rfl) ?_
              refine lv_istore (lv' := [(5, .int (nI at9)), (4, .int (C 1 at9)), (0, .ref z0), (1, .int (nI op)), (2, .int (nI at9)), (3, .int (nI 1))]) hx hb dX12_parse_115 hl (by decide) rfl (fun ls hl => ?_)
              refine lv_iload hx hb dX12_parse_117 (lv_at hl 0 rfl) ?_
              refine lv_aload_n hx hb dX12_parse_119 rfl (lv_at hl 2 rfl) ?_
              refine mg_2 hx hb hts inX12_parse hown hK hP (hts _ lkX12_parse_f171) dX12_parse_120 ?_
              refine bn_ge (tgt := 168) hx hb (by first | omega | exact Nat.lt_of_lt_of_le (hG _ _) (by decide)) (by first | omega | exact Nat.lt_of_lt_of_le (hG _ _) (by decide)) dX12_parse_123 (by decide) (fun d1 => ?_) (fun d1 => ?_)
              · exact absurd d1 (by omega)
              · refine lv_aload_n hx hb dX12_parse_126 rfl (lv_at hl 2 rfl) ?_
                refine mg_1 hx hb hts inX12_parse hown hK hP (hts _ lkX12_parse_f7) dX12_parse_127 ?_
                refine lv_iload hx hb dX12_parse_130 (lv_at hl 0 rfl) ?_
                refine ml_1 hx hb hK hP (by omega) dX12_parse_132 ?_
                refine lv_bipush (v := nI 32) hx hb dX12_parse_133 (by decide) ?_
                refine lv_icmp_eq (tgt := 168) hx hb dX12_parse_135 (by decide) (fun d2 => ?_) (fun d2 => ?_)
                · exact absurd d2 d9
                · refine lv_aload_n hx hb dX12_parse_138 rfl (lv_at hl 2 rfl) ?_
                  refine mg_1 hx hb hts inX12_parse hown hK hP (hts _ lkX12_parse_f7) dX12_parse_139 ?_
                  refine lv_iload hx hb dX12_parse_142 (lv_at hl 0 rfl) ?_
                  refine ml_1 hx hb hK hP (by omega) dX12_parse_144 ?_
                  refine lv_bipush (v := nI 40) hx hb dX12_parse_145 (by decide) ?_
                  refine lv_icmp_eq (tgt := 168) hx hb dX12_parse_147 (by decide) (fun d3 => ?_) (fun d3 => ?_)
                  · exact absurd d3 c3
                  · refine lv_aload_n hx hb dX12_parse_150 rfl (lv_at hl 2 rfl) ?_
                    refine mg_1 hx hb hts inX12_parse hown hK hP (hts _ lkX12_parse_f7) dX12_parse_151 ?_
                    refine lv_iload hx hb dX12_parse_154 (lv_at hl 0 rfl) ?_
                    refine ml_1 hx hb hK hP (by omega) dX12_parse_156 ?_
                    refine lv_bipush (v := nI 41) hx hb dX12_parse_157 (by decide) ?_
                    refine lv_icmp_eq (tgt := 168) hx hb dX12_parse_159 (by decide) (fun d4 => ?_) (fun d4 => ?_)
                    · exact absurd d4 c4
                    · refine lv_iinc (v := nI (at9 + 1)) (lv' := [(5, .int (nI (at9 + 1))), (4, .int (C 1 at9)), (0, .ref z0), (1, .int (nI op)), (2, .int (nI at9)), (3, .int (nI 1))]) hx hb dX12_parse_162 hl (k := 0) rfl (nI_add at9 1) (by decide) rfl (fun ls hl => ?_)
                      refine lv_goto (tgt := 117) hx hb dX12_parse_165 (by decide) ?_
                      refine lp_par1 (N := N) (G := G) (B := B) hx hb hml hown hts hK hA at9 op bb M K C sz1 az1 hpi (fun j H locs hj1 hj2 hdl hP hD hS ls hl => ?_) _ (at9 + 1) (Nat.lt_succ_self _) (by omega) (by omega) _ _ hP hD hS ls (lv_sub hl [2, 3, 4, 5, 0] rfl)
                      refine lv_aload_n hx hb dX12_parse_168 rfl (lv_at hl 0 rfl) ?_
                      refine lv_iload_n hx hb dX12_parse_169 rfl (lv_at hl 2 rfl) ?_
                      refine lv_iload hx hb dX12_parse_170 (lv_at hl 4 rfl) ?_
                      refine mcl_i (As := [.int (nI at9), .int (nI j)]) (rest := []) ⟨hx, hb, hml, hown, hts⟩ (m_token l dC dI cB cC cI cJ cZ z0 R pl M K C at9 j (M 2 - at9) c5 c6 pg p1 hj1 (by omega) (by omega) (by omega) (by omega) H.size) (cwV 2 hts kX12_parse_X12_token_217 rfl rfl rfl (by decide +kernel) ⟨Nat.le_of_ble_eq_true rfl, Nat.le_of_ble_eq_true rfl⟩) hK hP hD hS hA rfl rfl hl.1 (lv_room (Nat.le_of_ble_eq_true rfl)) dX12_parse_172 hcs (fun r_10 N_6 G_7 B_8 pl_9 hw H locs hP hD hS => ?_)
                      dsimp only at hw
                      obtain ⟨e4, f9, hw, hf9, h0, h1⟩ := hw
                      rw [e4] at hP hD
                      subst hw
                      rcases (show f9 = 0 ∨ f9 = 1 by omega) with hz | hz
                      · subst hz
                        obtain ⟨e1, e2, e3⟩ := h0 rfl
                        rw [e1, e2, e3] at hP hD
                        refine lv_istore_n (lv' := [(3, .int (nI 0)), (0, .ref z0), (1, .int (nI op)), (2, .int (nI at9)), (5, .int (nI j))]) hx hb dX12_parse_175 rfl hl (by decide) rfl (fun ls hl => ?_)
                        refine lv_iload hx hb dX12_parse_176 (lv_at hl 4 rfl) ?_
                        refine lv_iconst (v := nI 1) hx hb dX12_parse_178 (by decide) ?_
                        refine lv_isub hx hb dX12_parse_179 ?_
                        refine tp_i (pk_sub (a := j) (b := 1) (by omega)) ?_
                        refine lv_istore_n (lv' := [(2, .int (nI (j - 1))), (3, .int (nI 0)), (0, .ref z0), (1, .int (nI op)), (5, .int (nI j))]) hx hb dX12_parse_180 rfl hl (by decide) rfl (fun ls hl => ?_)
                        refine lv_iinc (v := nI ((j - 1) + 1)) (lv' := [(2, .int (nI ((j - 1) + 1))), (3, .int (nI 0)), (0, .ref z0), (1, .int (nI op)), (5, .int (nI j))]) hx hb dX12_parse_181 hl (k := 0) rfl (nI_add (j - 1) 1) (by decide) rfl (fun ls hl => ?_)
                        refine lv_goto (tgt := 11) hx hb dX12_parse_184 (by decide) ?_
                        refine lv_iload_n hx hb dX12_parse_11 rfl (lv_at hl 0 rfl) ?_
                        refine lv_aload_n hx hb dX12_parse_12 rfl (lv_at hl 2 rfl) ?_
                        refine mg_2 hx hb hts inX12_parse hown hK hP (hts _ lkX12_parse_f171) dX12_parse_13 ?_
                        refine bn_ge (tgt := 187) hx hb (by first | omega | exact Nat.lt_of_lt_of_le (hG _ _) (by decide)) (by first | omega | exact Nat.lt_of_lt_of_le (hG _ _) (by decide)) dX12_parse_16 (by decide) (fun d5 => ?_) (fun d5 => ?_)
                        · exact ke at9 op bb 0 M K C sz1 az1 H locs (by decide) hpi hP hD hS ls (lv_sub hl [3, 1] rfl)
                        · refine lv_iload_n hx hb dX12_parse_19 rfl (lv_at hl 1 rfl) ?_
                          refine bz_eq (tgt := 187) hx hb (by first | omega | exact Nat.lt_of_lt_of_le (hG _ _) (by decide)) dX12_parse_20 (by decide) (fun c => ?_) (fun q9 => absurd q9 (by omega))
                          exact ke at9 op bb 0 M K C sz1 az1 H locs (by decide) hpi hP hD hS ls (lv_sub hl [3, 1] rfl)
                      · subst hz
                        obtain ⟨n6, L5, X4, kd, v, e1, e2, e3, y1, y2, y3, y4⟩ := h1 rfl
                        obtain ⟨sz2, az2, hpi2⟩ := hpi.tok hnd hj1 hj2 hdl y1 y2 y3 y4
                        rw [← e1, ← e2, ← e3] at hpi2
                        clear h0 h1
                        have n2 : N_6 2 = M 2 := by rw [e1]; rfl
                        refine lv_istore_n (lv' := [(3, .int (nI 1)), (0, .ref z0), (1, .int (nI op)), (2, .int (nI at9)), (5, .int (nI j))]) hx hb dX12_parse_175 rfl hl (by decide) rfl (fun ls hl => ?_)
                        refine lv_iload hx hb dX12_parse_176 (lv_at hl 4 rfl) ?_
                        refine lv_iconst (v := nI 1) hx hb dX12_parse_178 (by decide) ?_
                        refine lv_isub hx hb dX12_parse_179 ?_
                        refine tp_i (pk_sub (a := j) (b := 1) (by omega)) ?_
                        refine lv_istore_n (lv' := [(2, .int (nI (j - 1))), (3, .int (nI 1)), (0, .ref z0), (1, .int (nI op)), (5, .int (nI j))]) hx hb dX12_parse_180 rfl hl (by decide) rfl (fun ls hl => ?_)
                        refine lv_iinc (v := nI j) (lv' := [(2, .int (nI j)), (3, .int (nI 1)), (0, .ref z0), (1, .int (nI op)), (5, .int (nI j))]) hx hb dX12_parse_181 hl (k := 0) rfl ((nI_add (j - 1) 1).trans (by rw [show j - 1 + 1 = j by omega])) (by decide) rfl (fun ls hl => ?_)
                        refine lv_goto (tgt := 11) hx hb dX12_parse_184 (by decide) ?_
                        exact ih j op 1 1 N_6 G_7 B_8 sz2 az2 (by omega) (by decide) hpi2 _ _ hP hD hS ls (lv_sub hl [2, 3, 0, 1] rfl)
          · refine lv_iload_n hx hb dX12_parse_77 rfl (lv_at hl 2 rfl) ?_
            refine bz_le (tgt := 85) hx hb (by first | omega | exact Nat.lt_of_lt_of_le (hG _ _) (by decide)) dX12_parse_78 (by decide) (fun d8 => ?_) (fun d8 => ?_)
            · refine lv_iconst (v := nI 0) hx hb dX12_parse_85 (by decide) ?_
              refine lv_istore_n (lv' := [(3, .int (nI 0)), (4, .int (C 1 at9)), (0, .ref z0), (1, .int (nI op)), (2, .int (nI at9))]) hx hb dX12_parse_86 rfl hl (by decide) rfl (fun ls hl => ?_)
              refine lv_iload_n hx hb dX12_parse_87 rfl (lv_at hl 0 rfl) ?_
              refine bz_eq (tgt := 181) hx hb (by first | omega | exact Nat.lt_of_lt_of_le (hG _ _) (by decide)) dX12_parse_88 (by decide) (fun c => ?_) (fun q9 => absurd q9 (by omega))
              refine lv_iinc (v := nI (at9 + 1)) (lv' := [(2, .int (nI (at9 + 1))), (3, .int (nI 0)), (4, .int (C 1 at9)), (0, .ref z0), (1, .int (nI op))]) hx hb dX12_parse_181 hl (k := 4) rfl (nI_add at9 1) (by decide) rfl (fun ls hl => ?_)
              refine lv_goto (tgt := 11) hx hb dX12_parse_184 (by decide) ?_
              exact ih (at9 + 1) op 0 0 M K C sz1 az1 (by omega) (by decide) (hpi.skip c1) _ _ hP hD hS ls (lv_sub hl [3, 4, 0, 1] rfl)
            · obtain ⟨op, rfl⟩ : ∃ o, op = o + 1 := ⟨op - 1, by omega⟩
              refine lv_iconst (v := nI 1) hx hb dX12_parse_81 (by decide) ?_
              refine lv_goto (tgt := 86) hx hb dX12_parse_82 (by decide) ?_
              refine lv_istore_n (lv' := [(3, .int (nI 1)), (4, .int (C 1 at9)), (0, .ref z0), (1, .int (nI (op + 1))), (2, .int (nI at9))]) hx hb dX12_parse_86 rfl hl (by decide) rfl (fun ls hl => ?_)
              refine lv_iload_n hx hb dX12_parse_87 rfl (lv_at hl 0 rfl) ?_
              refine bz_eq (tgt := 181) hx hb (by first | omega | exact Nat.lt_of_lt_of_le (hG _ _) (by decide)) dX12_parse_88 (by decide) (fun q9 => absurd q9 (by omega)) (fun c => ?_)
              have hl : lv_has ls 6 [(3, .int (nI 1)), (4, .int (C 1 at9)), (0, .ref z0), (1, .int (nI (op + 1))), (2, .int (nI at9))] := hl
              refine lv_iinc (v := nI op) (lv' := [(1, .int (nI op)), (3, .int (nI 1)), (4, .int (C 1 at9)), (0, .ref z0), (2, .int (nI at9))]) hx hb dX12_parse_91 hl (k := 3) rfl (sb_m1 (p := op + 1) (by omega)) (by decide) rfl (fun ls hl => ?_)
              have q5 := p5 op (by omega)
              refine lv_aload_n hx hb dX12_parse_94 rfl (lv_at hl 3 rfl) ?_
              refine lv_aload_n hx hb dX12_parse_95 rfl (lv_at hl 3 rfl) ?_
              refine mg_46 hx hb hts inX12_parse hown hK hP (hts _ lkX12_parse_f88) dX12_parse_96 ?_
              refine lv_iload_n hx hb dX12_parse_99 rfl (lv_at hl 0 rfl) ?_
              refine ml_46 hx hb hK hP (by omega) dX12_parse_100 ?_
              refine mcl_v (As := [.int (nI (K 46 op))]) (rest := []) ⟨hx, hb, hml, hown, hts⟩ (m_endList l dC dI cB cC cI cJ cZ z0 R pl M K C (K 46 op) pg q5 (by omega) (by omega) (by omega) H.size) (cwV 1 hts kX12_parse_X12_endList_213 rfl rfl rfl (by decide +kernel) ⟨Nat.le_of_ble_eq_true rfl, Nat.le_of_ble_eq_true rfl⟩) hK hP hD hS hA rfl rfl hl.1 (lv_room (Nat.le_of_ble_eq_true rfl)) dX12_parse_101 hcs (fun  N_1 G_2 B_3 pl_4 hw H locs hP hD hS => ?_)
              dsimp only at hw
              obtain ⟨e3, e4, P13, x1, x2, x3, e1, e2⟩ := hw
              obtain ⟨sz2, az2, hpi2⟩ := hpi.cls c1 rfl x1 x2 x3
              rw [← e1, ← e2] at hpi2
              rw [e3, e4] at hP hD
              have n2 : N_1 2 = M 2 := by rw [e1]; rfl
              refine lv_goto (tgt := 181) hx hb dX12_parse_104 (by decide) ?_
              refine lv_iinc (v := nI (at9 + 1)) (lv' := [(2, .int (nI (at9 + 1))), (1, .int (nI op)), (3, .int (nI 1)), (4, .int (C 1 at9)), (0, .ref z0)]) hx hb dX12_parse_181 hl (k := 4) rfl (nI_add at9 1) (by decide) rfl (fun ls hl => ?_)
              refine lv_goto (tgt := 11) hx hb dX12_parse_184 (by decide) ?_
              exact ih (at9 + 1) op 0 1 N_1 G_2 C sz2 az2 (by omega) (by decide) hpi2 _ _ hP hD hS ls (lv_sub hl [4, 1, 0, 2] rfl)
        · refine lv_iload_n hx hb dX12_parse_38 rfl (lv_at hl 2 rfl) ?_
          refine lv_bipush (v := nI 60) hx hb dX12_parse_39 (by decide) ?_
          refine bn_gt (tgt := 48) hx hb (by first | omega | exact Nat.lt_of_lt_of_le (hG _ _) (by decide)) (by first | omega | exact Nat.lt_of_lt_of_le (hG _ _) (by decide)) dX12_parse_41 (by decide) (fun c4 => ?_) (fun c4 => ?_)
          · refine lv_iconst (v := nI 0) hx hb dX12_parse_48 (by decide) ?_
            refine lv_istore_n (lv' := [(3, .int (nI 0)), (4, .int (C 1 at9)), (0, .ref z0), (1, .int (nI op)), (2, .int (nI at9))]) hx hb dX12_parse_49 rfl hl (by decide) rfl (fun ls hl => ?_)
            refine lv_iload_n hx hb dX12_parse_50 rfl (lv_at hl 0 rfl) ?_
            refine bz_eq (tgt := 181) hx hb (by first | omega | exact Nat.lt_of_lt_of_le (hG _ _) (by decide)) dX12_parse_51 (by decide) (fun c => ?_) (fun q9 => absurd q9 (by omega))
            refine lv_iinc (v := nI (at9 + 1)) (lv' := [(2, .int (nI (at9 + 1))), (3, .int (nI 0)), (4, .int (C 1 at9)), (0, .ref z0), (1, .int (nI op))]) hx hb dX12_parse_181 hl (k := 4) rfl (nI_add at9 1) (by decide) rfl (fun ls hl => ?_)
            refine lv_goto (tgt := 11) hx hb dX12_parse_184 (by decide) ?_
            exact ih (at9 + 1) op 0 0 M K C sz1 az1 (by omega) (by decide) (hpi.skip c1) _ _ hP hD hS ls (lv_sub hl [3, 4, 0, 1] rfl)
          · refine lv_iconst (v := nI 1) hx hb dX12_parse_44 (by decide) ?_
            refine lv_goto (tgt := 49) hx hb dX12_parse_45 (by decide) ?_
            refine lv_istore_n (lv' := [(3, .int (nI 1)), (4, .int (C 1 at9)), (0, .ref z0), (1, .int (nI op)), (2, .int (nI at9))]) hx hb dX12_parse_49 rfl hl (by decide) rfl (fun ls hl => ?_)
            refine lv_iload_n hx hb dX12_parse_50 rfl (lv_at hl 0 rfl) ?_
            refine bz_eq (tgt := 181) hx hb (by first | omega | exact Nat.lt_of_lt_of_le (hG _ _) (by decide)) dX12_parse_51 (by decide) (fun q9 => absurd q9 (by omega)) (fun c => ?_)
            refine lv_aload_n hx hb dX12_parse_54 rfl (lv_at hl 2 rfl) ?_
            refine mg_46 hx hb hts inX12_parse hown hK hP (hts _ lkX12_parse_f88) dX12_parse_55 ?_
            refine lv_iload_n hx hb dX12_parse_58 rfl (lv_at hl 3 rfl) ?_
            refine lv_aload_n hx hb dX12_parse_59 rfl (lv_at hl 2 rfl) ?_
            refine mg_45 hx hb hts inX12_parse hown hK hP (hts _ lkX12_parse_f203) dX12_parse_60 ?_
            refine ms_46 hx hb hK hP hD hS (by omega) dX12_parse_63 (fun H locs hP hD hS => ?_)
            refine lv_iinc (v := nI (op + 1)) (lv' := [(1, .int (nI (op + 1))), (3, .int (nI 1)), (4, .int (C 1 at9)), (0, .ref z0), (2, .int (nI at9))]) hx hb dX12_parse_64 hl (k := 3) rfl (nI_add op 1) (by decide) rfl (fun ls hl => ?_)
            refine lv_goto (tgt := 181) hx hb dX12_parse_67 (by decide) ?_
            refine lv_iinc (v := nI (at9 + 1)) (lv' := [(2, .int (nI (at9 + 1))), (1, .int (nI (op + 1))), (3, .int (nI 1)), (4, .int (C 1 at9)), (0, .ref z0)]) hx hb dX12_parse_181 hl (k := 4) rfl (nI_add at9 1) (by decide) rfl (fun ls hl => ?_)
            refine lv_goto (tgt := 11) hx hb dX12_parse_184 (by decide) ?_
            exact ih (at9 + 1) (op + 1) 0 1 M _ C sz1 az1 (by omega) (by decide) (hpi.opn c1 c4) _ _ hP hD hS ls (lv_sub hl [4, 1, 0, 2] rfl)

set_option maxHeartbeats 4000000 in
set_option maxRecDepth 100000 in
/-- parse -/
theorem m_parse (l : Launch) (dC : Nat → ClassId) (dI : Nat → Nat → Nat) (cB cC cI cJ cZ : ClassId) (z0 : Nat) (R : Nat → Nat) (pl : Int32) (N : Nat → Nat) (G : Nat → Nat → Nat) (B : Nat → Nat → Int32) (c5 c6 : Nat) (sz az : Nat → Nat) (hps : PS N G B (N 2) c5 c6) (hpf : PF (va_up N 45 0) G sz az (N 14) (N 15) 0) (h2 : N 2 ≤ 3000) (s0 : Nat) : Met l yX12_parse vX12_parse { frames := 3, cells := 0, slots := 0, locals := 73 } (va_Pc [.ref z0] (mPre dC dI cB cC cI cJ cZ z0 R pl N G B s0)) (va_Qi (fun (r : Int32) (u : ((Nat → Nat) × (Nat → Nat → Nat) × (Nat → Nat → Int32) × Int32)) => match u with | (N1, G1, B1, pl1) => pl1 = pl ∧ ∃ fi sz1 az1, r = nI fi ∧ fi ≤ 1 ∧ PS N1 G1 B1 0 c5 c6 ∧ PF N1 G1 sz1 az1 (N 14) (N 15) 3000 ∧ PK N G B sz az (N 14) (N 15) N1 G1 B1 sz1 az1 ∧ sumC sz1 (G1 44) (N1 45) ≤ 3000) (mPost dC dI cB cC cI cJ cZ z0 R (va_A (MW cB cC cI cJ cZ z0 R pl N G B) s0)) (va_A (MW cB cC cI cJ cZ z0 R pl N G B) s0)) 0 0 (va_A (MW cB cC cI cJ cZ z0 R pl N G B) s0) := by
  refine Met.ofW (cc := cX12_parse) (maxL := 6) (ret := (some .boolean)) (by decide) rfl ?_
  intro p e s m args below meth c s₁ B9 hml hv
  obtain ⟨rfl, hsz, hP, hK, hD0⟩ := hv
  have hx := B9.exec
  have hb := B9.bytes
  have hr := B9.returns
  have hts := atoms_spec (ws := vX12_parse) B9.pre
  have hown : s.vm.findClass RX12 = some m.cls := findClass_of_methodNamed B9.named
  have hlocks := B9.notSynchronized
  subst hsz
  have hD := hD0.self (sz := s.heap.size)
  generalize hAe : va_A (MW cB cC cI cJ cZ z0 R pl N G B) s.heap.size = A at hD ⊢
  have hA : ∀ q : Nat, s.heap.size ≤ q → A q := fun q h => by rw [← hAe]; exact Or.inr h
  have hS : va_S A s.heap s.heap [] := va_S.rf
  have hcs : 0 + 0 ≤ (0 : Nat) ∧ 0 + 0 ≤ (0 : Nat) := ⟨Nat.le_refl 0, Nat.le_refl 0⟩
  have hl := lv_entry ([.ref z0]) (n := 6) (Nat.le_of_ble_eq_true rfl)
  rw [lg_entry_eq]
  generalize (lg_sl ([.ref z0]) ++ List.replicate (6 - (lg_sl ([.ref z0])).length) Slot.unset).toArray = ls at hl ⊢
  have hl : lv_has ls 6 [(0, .ref z0)] := hl
  refine lv_aload_n hx hb dX12_parse_0 rfl (lv_at hl 0 rfl) ?_
  refine lv_iconst (v := nI 0) hx hb dX12_parse_1 (by decide) ?_
  refine mp_45 hx hb hts inX12_parse hown hK hP hD hS (hts _ lkX12_parse_f203) dX12_parse_2 (fun H locs hP hD hS => ?_)
  refine lv_iconst (v := nI 0) hx hb dX12_parse_5 (by decide) ?_
  refine lv_istore_n (lv' := [(1, .int (nI 0)), (0, .ref z0)]) hx hb dX12_parse_6 rfl hl (by decide) rfl (fun ls hl => ?_)
  refine lv_iconst (v := nI 0) hx hb dX12_parse_7 (by decide) ?_
  refine lv_istore_n (lv' := [(2, .int (nI 0)), (1, .int (nI 0)), (0, .ref z0)]) hx hb dX12_parse_8 rfl hl (by decide) rfl (fun ls hl => ?_)
  refine lv_iconst (v := nI 1) hx hb dX12_parse_9 (by decide) ?_
  refine lv_istore_n (lv' := [(3, .int (nI 1)), (2, .int (nI 0)), (1, .int (nI 0)), (0, .ref z0)]) hx hb dX12_parse_10 rfl hl (by decide) rfl (fun ls hl => ?_)
  have hpi : PI N G B sz az (N 14) (N 15) c5 c6 0 0 0 (va_up N 45 0) G B sz az := ⟨hps, hpf, ⟨fun k _ _ _ z => va_up_ne _ _ z, fun _ _ _ _ _ _ _ _ => rfl, fun _ _ => rfl, fun _ _ => ⟨rfl, rfl, rfl, rfl, rfl⟩, fun _ _ => rfl, Nat.le_refl _⟩, ⟨Nat.zero_le _, h2, by decide⟩, fun i hi => absurd hi (Nat.not_lt_zero i), fun i j _ hj => absurd hj (Nat.not_lt_zero j), Nat.le_refl _, Nat.le_refl _, by decide, fun z => absurd z (by decide)⟩
  refine lp_par2 (N := N) (G := G) (B := B) hx hb hml hown hts hK hA (fun at9 op bb fi M K C sz1 az1 H locs hfi hpi hP hD hS ls hl => ?_) _ 0 0 0 1 (va_up N 45 0) G B sz az (Nat.lt_succ_self _) (by decide) hpi _ _ hP hD hS ls (lv_sub hl [3, 2, 1, 0] rfl)
  obtain ⟨p1, p2, p3, p4, p5, p6, p7, p8, p9, p10⟩ := id hpi
  have hfin : PS M K C 0 c5 c6 ∧ PF M K sz1 az1 (N 14) (N 15) 3000 ∧ PK N G B sz az (N 14) (N 15) M K C sz1 az1 ∧ sumC sz1 (K 44) (M 45) ≤ 3000 := ⟨p1.less (Nat.zero_le _), p2.more (by omega) (Nat.le_refl _), p3, by omega⟩
  refine lv_iload_n hx hb dX12_parse_187 rfl (lv_at hl 1 rfl) ?_
  refine bz_eq (tgt := 199) hx hb (by first | omega | exact Nat.lt_of_lt_of_le (hG _ _) (by decide)) dX12_parse_188 (by decide) (fun c1 => ?_) (fun c1 => ?_)
  · refine lv_iconst (v := nI 0) hx hb dX12_parse_199 (by decide) ?_
    exact W.zret (v := (nI 0)) hx hb hr (by first | rfl | decide) (fun t ht hW => ⟨⟨(nI 0), (M, K, C, pl), rfl, ⟨rfl, 0, sz1, az1, rfl, by decide, hfin⟩, by rw [ht]; exact hP, va_K.moved hW.alike hK, hD⟩, hS.F ht⟩) hS.2.2 dX12_parse_200
  · refine lv_iload_n hx hb dX12_parse_191 rfl (lv_at hl 0 rfl) ?_
    refine bz_ne (tgt := 199) hx hb (by first | omega | exact Nat.lt_of_lt_of_le (hG _ _) (by decide)) dX12_parse_192 (by decide) (fun c2 => ?_) (fun c2 => ?_)
    · refine lv_iconst (v := nI 0) hx hb dX12_parse_199 (by decide) ?_
      exact W.zret (v := (nI 0)) hx hb hr (by first | rfl | decide) (fun t ht hW => ⟨⟨(nI 0), (M, K, C, pl), rfl, ⟨rfl, 0, sz1, az1, rfl, by decide, hfin⟩, by rw [ht]; exact hP, va_K.moved hW.alike hK, hD⟩, hS.F ht⟩) hS.2.2 dX12_parse_200
    · refine lv_iconst (v := nI 1) hx hb dX12_parse_195 (by decide) ?_
      refine lv_goto (tgt := 200) hx hb dX12_parse_196 (by decide) ?_
      exact W.zret (v := (nI 1)) hx hb hr (by first | rfl | decide) (fun t ht hW => ⟨⟨(nI 1), (M, K, C, pl), rfl, ⟨rfl, 1, sz1, az1, rfl, by decide, hfin⟩, by rw [ht]; exact hP, va_K.moved hW.alike hK, hD⟩, hS.F ht⟩) hS.2.2 dX12_parse_200
