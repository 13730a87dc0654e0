theorem j_aret {E : eT} {z : zT} {cc : ByteArray} {own : String} {k n pc : Nat} {L : List (Nat × Value)} {w : va_W} {l : Launch} {d0 mc ms : Nat} {o : Option Value → va_W → Prop} {nm : String} (X : Cx E z cc own) (Y : Bd l E d0 mc ms o (some (.object nm)) z) {a : Nat} (hk : k ≤ mc) (hn : n ≤ ms) (d : decode cc pc = .ok (.areturn, 1)) (ho : o (some (.ref a)) w) : J E z k n pc L [.ref a] w := by
  intro H locs ls hP hD hS hl
  rw [Y.2.2.1]
  refine W.widen hk hn ?_
  exact W.aret X.1 X.2.1 Y.2.2.2 (Or.inl ⟨nm, rfl⟩) (Or.inr ⟨a, rfl⟩) (fun t ht hW => ⟨⟨_, w, rfl, ho, by rw [ht]; exact hP, hD⟩, hS.F ht⟩) hS.2.2 d X.2.2.2.2.2.2
theorem j_ldc2 {E : eT} {z : zT} {cc : ByteArray} {own : String} {k n pc index : Nat} {L : List (Nat × Value)} {st : List Value} {w : va_W} (X : Cx E z cc own) {v : Int64} {a : Int} (hw : Cond.constantLong own index v ∈ bgW) (hv : v = iL a) (d : decode cc pc = .ok (.ldc2_w index, 3)) (kk : J E z k n (pc + 3) L (.long (iL a) :: st) w) : J E z k n pc L st w := by
  intro H locs ls hP hD hS hl
  refine lv_ldc2 X.1 X.2.1 X.2.2.2.1 (X.2.2.2.2.1 _ hw) d ?_
  rw [hv]
  exact kk H locs ls hP hD hS hl
theorem j_drop {E : eT} {z : zT} {k n pc : Nat} {L : List (Nat × Value)} {st : List Value} {w : va_W} (m : Nat) (kk : J E z k n pc (L.filter (fun q => Nat.blt q.1 m)) st w) : J E z k n pc L st w := j_loc (fun q hq => (List.mem_filter.mp hq).1) kk
theorem kl_H_23 : Cond.constantLong R_H 23 600 ∈ bgW := bg_in (List.mem_of_getElem? (i := 270) (by decide +kernel)) rfl
theorem kl_H_67 : Cond.constantLong R_H 67 2 ∈ bgW := bg_in (List.mem_of_getElem? (i := 333) (by decide +kernel)) rfl
theorem kl_C_161 : Cond.constantLong R_C 161 3 ∈ bgW := bg_in (List.mem_of_getElem? (i := 366) (by decide +kernel)) rfl
theorem kl_D_47 : Cond.constantLong R_D 47 4294967295 ∈ bgW := bg_in (List.mem_of_getElem? (i := 717) (by decide +kernel)) rfl
theorem kl_M_65 : Cond.constantLong R_M 65 600 ∈ bgW := bg_in (List.mem_of_getElem? (i := 876) (by decide +kernel)) rfl
theorem kl_M_204 : Cond.constantLong R_M 204 4294967295 ∈ bgW := bg_in (List.mem_of_getElem? (i := 1043) (by decide +kernel)) rfl
