abbrev TY (cB cC cI cJ cZ : ClassId) : List (ClassId × FieldType) := [(cB, .byte), (cC, .char), (cI, .int), (cJ, .long), (cZ, .boolean)]
section BS
variable {p : Program} {l : Launch} {e : Env} {R : Room} {s : State} {m : MethodId} {args : Array Value} {below : List Frame} {meth : Method} {c : Code} {H : Heap} {locs : List Loc} {cells slots : Nat} {Q : State → Prop}
variable {cc : ByteArray} {pc : Nat} {ls : Array Slot} {rest : List Value}
theorem tp_i {x y : Int32} (h : x = y) (k : W p l e R s m args below meth c H locs cells slots Q (F0 m pc ls (.int y :: rest))) : W p l e R s m args below meth c H locs cells slots Q (F0 m pc ls (.int x :: rest)) := h ▸ k
theorem tp_l {x y : Int64} (h : x = y) (k : W p l e R s m args below meth c H locs cells slots Q (F0 m pc ls (.long y :: rest))) : W p l e R s m args below meth c H locs cells slots Q (F0 m pc ls (.long x :: rest)) := h ▸ k
end BS
theorem updN {g : Nat → Nat} {j v : Nat} (hj : j < 2 ^ 31) : upd (fun i => nI (g i)) (nI j).toNatClampNeg (nI v) = fun i => nI (va_up g j v i) := by
  funext i
  rw [nI_clamp hj]
  by_cases h : i = j
  · subst h; rw [pk_us, va_up_self]
  · rw [pk_un h, va_up_ne _ _ h]
theorem updM {g : Nat → Nat} {j v : Nat} (hj : j < 2 ^ 31) : upd (fun i => nI (g i) - 1) (nI j).toNatClampNeg (nI v - 1) = fun i => nI (va_up g j v i) - 1 := by
  funext i
  rw [nI_clamp hj]
  by_cases h : i = j
  · subst h; rw [pk_us, va_up_self]
  · rw [pk_un h, va_up_ne _ _ h]
theorem narb : ∀ v : Nat, v < 128 → (nI v).toInt8.toInt32 = nI v := by decide +kernel
theorem narB : ∀ v : Nat, v < 128 → vp_nar .byte (nI v) = nI v := by
  intro v hv
  rw [vp_nar_byte]
  exact narb v hv
theorem narZ : ∀ v : Nat, v < 2 → vp_nar .boolean (nI v) = nI v := by
  intro v hv
  rcases (show v = 0 ∨ v = 1 by omega) with rfl | rfl <;> rfl
