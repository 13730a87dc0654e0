section JM
variable {E : eT} {z : zT} {cc : ByteArray} {own : String} {k n pc index d0 m0 s0 : Nat} {L : List (Nat × Value)} {st : List Value} {w : va_W}
theorem j_mmin (X : Cx E z cc own) (hm : ∀ w ∈ ([.methodLink own index Lib.Math.min.name, .static Lib.Math.min.name, .initialized "java/lang/Math", .code Lib.Math.min.name Lib.Math.min.code 2 (some .int)] : List Cond), w ∈ bgW) {a b : Int} (ha : inR a) (hb : inR b) (hz : zR z = rmD d0 m0 s0) (hd : Nat.blt 0 d0 = true) (hrest : (st.map fun v => v.category).sum ≤ 8) (hk : k ≤ m0 ∧ n ≤ s0) (d : decode cc pc = .ok (.invokestatic index, 3))
    (kk : J E z k n (pc + 3) L (.int (iI (if b < a then b else a)) :: st) w) : J E z k n pc L (.int (iI b) :: .int (iI a) :: st) w := by
  intro H locs ls hP hD hS hl
  have h0 : 0 < d0 := Nat.blt_eq.mp hd
  refine va_mmin X.1 X.2.1 (X.2.2.1.trans hl.1.symm) X.2.2.2.1 (X.2.2.2.2.1 _ (hm _ (by simp))) (X.2.2.2.2.1 _ (hm _ (by simp))) (X.2.2.2.2.1 _ (hm _ (by simp))) (X.2.2.2.2.1 _ (hm _ (by simp))) (by rw [hz]; exact h0) (by rw [hz]; show _ + 13 ≤ 36 * d0; omega) (by rw [hz]; exact hk.1) (by rw [hz]; exact hk.2) d ?_
  have e : (if iI b < iI a then iI b else iI a) = iI (if b < a then b else a) := by
    by_cases h : b < a
    · rw [if_pos h, if_pos ((iI_lt hb ha).mpr h)]
    · rw [if_neg h, if_neg (fun q => h ((iI_lt hb ha).mp q))]
  rw [e]
  exact kk H locs ls hP hD hS hl
theorem j_mabs (X : Cx E z cc own) (hm : ∀ w ∈ ([.methodLink own index Lib.Math.abs.name, .static Lib.Math.abs.name, .initialized "java/lang/Math", .code Lib.Math.abs.name Lib.Math.abs.code 1 (some .int)] : List Cond), w ∈ bgW) {a : Int} (ha : inR a) (hz : zR z = rmD d0 m0 s0) (hd : Nat.blt 0 d0 = true) (hrest : (st.map fun v => v.category).sum ≤ 8) (hk : k ≤ m0 ∧ n ≤ s0) (d : decode cc pc = .ok (.invokestatic index, 3))
    (kk : J E z k n (pc + 3) L (.int (iI (if 0 ≤ a then a else -a)) :: st) w) : J E z k n pc L (.int (iI a) :: st) w := by
  intro H locs ls hP hD hS hl
  have h0 : 0 < d0 := Nat.blt_eq.mp hd
  refine va_mabs X.1 X.2.1 (X.2.2.1.trans hl.1.symm) X.2.2.2.1 (X.2.2.2.2.1 _ (hm _ (by simp))) (X.2.2.2.2.1 _ (hm _ (by simp))) (X.2.2.2.2.1 _ (hm _ (by simp))) (X.2.2.2.2.1 _ (hm _ (by simp))) (by rw [hz]; exact h0) (by rw [hz]; show _ + 13 ≤ 36 * d0; omega) (by rw [hz]; exact hk.1) (by rw [hz]; exact hk.2) d ?_
  have e : (if 0 ≤ iI a then iI a else 0 - iI a) = iI (if 0 ≤ a then a else -a) := by
    by_cases h : 0 ≤ a
    · rw [if_pos h, if_pos ((iI_ge0 ha).mpr h)]
    · rw [if_neg h, if_neg (fun q => h ((iI_ge0 ha).mp q)), ← iI_0, iI_sub]
      congr 1
      omega
  rw [e]
  exact kk H locs ls hP hD hS hl
end JM
theorem mm_T_58 : ∀ w ∈ ([.methodLink R_T 58 Lib.Math.min.name, .static Lib.Math.min.name, .initialized "java/lang/Math", .code Lib.Math.min.name Lib.Math.min.code 2 (some .int)] : List Cond), w ∈ bgW := List.forall_mem_cons.mpr ⟨bg_in (List.mem_of_getElem? (i := 379) (by decide +kernel)) rfl, List.forall_mem_cons.mpr ⟨bg_in (List.mem_of_getElem? (i := 380) (by decide +kernel)) rfl, List.forall_mem_cons.mpr ⟨bg_in (List.mem_of_getElem? (i := 79) (by decide +kernel)) rfl, List.forall_mem_cons.mpr ⟨bg_in (List.mem_of_getElem? (i := 381) (by decide +kernel)) rfl, fun _ h => nomatch h⟩⟩⟩⟩
theorem mm_C_185 : ∀ w ∈ ([.methodLink R_C 185 Lib.Math.min.name, .static Lib.Math.min.name, .initialized "java/lang/Math", .code Lib.Math.min.name Lib.Math.min.code 2 (some .int)] : List Cond), w ∈ bgW := List.forall_mem_cons.mpr ⟨bg_in (List.mem_of_getElem? (i := 416) (by decide +kernel)) rfl, List.forall_mem_cons.mpr ⟨bg_in (List.mem_of_getElem? (i := 380) (by decide +kernel)) rfl, List.forall_mem_cons.mpr ⟨bg_in (List.mem_of_getElem? (i := 79) (by decide +kernel)) rfl, List.forall_mem_cons.mpr ⟨bg_in (List.mem_of_getElem? (i := 381) (by decide +kernel)) rfl, fun _ h => nomatch h⟩⟩⟩⟩
theorem mm_H_28 : ∀ w ∈ ([.methodLink R_H 28 Lib.Math.abs.name, .static Lib.Math.abs.name, .initialized "java/lang/Math", .code Lib.Math.abs.name Lib.Math.abs.code 1 (some .int)] : List Cond), w ∈ bgW := List.forall_mem_cons.mpr ⟨bg_in (List.mem_of_getElem? (i := 309) (by decide +kernel)) rfl, List.forall_mem_cons.mpr ⟨bg_in (List.mem_of_getElem? (i := 310) (by decide +kernel)) rfl, List.forall_mem_cons.mpr ⟨bg_in (List.mem_of_getElem? (i := 79) (by decide +kernel)) rfl, List.forall_mem_cons.mpr ⟨bg_in (List.mem_of_getElem? (i := 311) (by decide +kernel)) rfl, fun _ h => nomatch h⟩⟩⟩⟩
