/-! methods that catch -/
abbrev exT (c : Code) : List (Nat × Nat × Nat × Nat) := c.exceptionTable.toList.map (fun h => (h.startPc, h.endPc, h.handlerPc, h.catchType))
theorem con_ofW {l : Launch} {E : eT} {y : MethodName} {cc : ByteArray} {nL d mc ms : Nat} {ret : Option FieldType} {hh : List (Nat × Nat × Nat × Nat)} {vs : List Value} {w : va_W} {o : Option Value → va_W → Prop} (hy : plainName y.cls = true) (hlen : (lg_sl vs).length ≤ nL)
    (body : ∀ z : zT, Cx E z cc y.cls → Bd l E d mc ms o ret z → zn z = nL → exT (zc z) = hh → J E z 0 0 0 (lv_args 0 vs) [] w) : Con l E y (.codeWith y cc nL ret hh :: bgW) d mc ms vs w o := by
  refine va_MetW (cc := cc) (maxL := nL) (ret := ret) (hh := hh) (ws' := bgW) hy rfl ?_
  intro p e s m args below meth c s₁ B hml hv
  obtain ⟨rfl, hamb, hP, hD⟩ := hv
  have hts := atoms_spec (ws := .codeWith y cc nL ret hh :: bgW) B.pre
  have ht : exT c = hh := by
    obtain ⟨m9, meth9, c9, hn9, h1, h2, -, -, h5, -⟩ := Cond.codeWith_spec (hts _ List.mem_cons_self)
    cases B.named.symm.trans hn9
    cases Option.some.inj (h1.symm.trans B.method)
    cases Option.some.inj (h2.symm.trans (Stand.of_body B).code)
    exact h5
  have hl := lv_entry vs (n := nL) hlen
  rw [lg_entry_eq]
  exact body (p, l, e, (headSpec (.codeWith y cc nL ret hh :: bgW) (rmD d mc ms)).room, s, m, vs.toArray, below, meth, c, MQ below (Ret E o) vs.toArray s mc ms (zA E), nL)
    ⟨B.exec, B.bytes, hml, findClass_of_methodNamed B.named, fun w hw => hts w (List.mem_cons_of_mem _ hw), hamb, B.notSynchronized⟩ ⟨rfl, rfl, rfl, B.returns⟩ rfl ht s.heap [] _ hP hD va_S.rf hl
section CATCH
variable {E : eT} {z : zT} {cc : ByteArray} {own : String} {k n pc : Nat} {L : List (Nat × Value)} {mc ms : Nat} {rest st0 : List Value} {w w' : va_W} {nm nm0 : String} {a b hpc ci a0 b0 h0p c0 : Nat} {hs : List (Nat × Nat × Nat × Nat)}
theorem j_catch1 (X : Cx E z cc own) (hr : ∀ (H : Heap) (locs : List Loc) (ls : Array Slot), va_P E.1 vwCl w H → va_D (zA E) w → va_S (zA E) (zs z).heap H locs → lv_has ls (zn z) L → TRun E z H locs k n mc ms pc ls st0 rest nm w')
    (ht : exT (zc z) = (a, b, hpc, ci) :: hs) (hcov : Nat.ble a pc = true ∧ Nat.blt pc b = true) (h0 : ci ≠ 0) (hlink : Cond.classLink own ci nm ∈ bgW) (hcast : Cond.castable nm nm ∈ nsW) (kk : ∀ q : Nat, J E z (k + mc) (n + ms) hpc L [.ref q] w') : J E z k n pc L st0 w := by
  intro H locs ls hP hD hS hl T hT XS
  obtain ⟨q, ce, U, L1, X', hL, hce, hcv, hcl, hP', hD', hF, hst⟩ := hr H locs ls hP hD hS hl T hT XS
  obtain ⟨x, xs, ex, e1⟩ : ∃ x xs, (zc z).exceptionTable.toList = x :: xs ∧ (x.startPc, x.endPc, x.handlerPc, x.catchType) = (a, b, hpc, ci) := by
    unfold exT at ht
    cases hx : (zc z).exceptionTable.toList with
    | nil => rw [hx] at ht; cases ht
    | cons x xs => rw [hx] at ht; exact ⟨x, xs, rfl, (List.cons.inj ht).1⟩
  obtain ⟨f1, f2, f3, f4⟩ : x.startPc = a ∧ x.endPc = b ∧ x.handlerPc = hpc ∧ x.catchType = ci := by
    have := Prod.mk.inj e1
    have h2 := Prod.mk.inj this.2
    have h3 := Prod.mk.inj h2.2
    exact ⟨this.1, h2.1, h3.1, h3.2⟩
  subst f1; subst f2; subst f3; subst f4
  have hb : ∀ w ∈ bgW, w.before (za z) (zs z) = true := X.2.2.2.2.1
  obtain ⟨c3, cT, hc3, hcT, hasg⟩ := Cond.castable_spec (va_Nw.use (A := za z) rfl (X.2.2.2.2.2.1.2.2.1 _ hcast))
  cases hcl.symm.trans hc3
  obtain ⟨hend, hk0⟩ := X'.catches_of_link X.2.2.2.1 (x := x) h0 (hb _ hlink) hcT hasg
  have hcv' : covers x pc = true := by
    show (decide (x.startPc ≤ pc) && decide (pc < x.endPc)) = true
    rw [decide_eq_true (Nat.le_of_ble_eq_true hcov.1), decide_eq_true (Nat.blt_eq.mp hcov.2)]; rfl
  obtain ⟨vm', XV, hsteps⟩ := X'.thenCaughtThrough q (g := F0 (zm z) pc ls rest) rfl (hst _ (Steps.refl _)) hce (by rw [hcv]; rfl) hk0 [] x xs ex (fun y hy => by cases hy) hcv' hend
  obtain ⟨t2, a1, b1⟩ := kk q U.heap (locs ++ L1) ls hP' hD' ⟨Nat.le_trans hS.1 hF.1, fun a h1 h2 => (hF.2 a (Nat.lt_of_lt_of_le h1 hS.1) h2).trans (hS.2.1 a h1 h2), fun y hy => by
      rcases List.mem_append.mp hy with h | h
      · exact hS.2.2 y h
      · exact hL y h⟩ hl (U.setVm vm') rfl XV
  exact ⟨t2, hsteps.trans a1, b1⟩
theorem j_catch2 (X : Cx E z cc own) (hr : ∀ (H : Heap) (locs : List Loc) (ls : Array Slot), va_P E.1 vwCl w H → va_D (zA E) w → va_S (zA E) (zs z).heap H locs → lv_has ls (zn z) L → TRun E z H locs k n mc ms pc ls st0 rest nm w')
    (ht : exT (zc z) = (a0, b0, h0p, c0) :: (a, b, hpc, ci) :: hs) (hcov : Nat.ble a pc = true ∧ Nat.blt pc b = true) (h0 : ci ≠ 0) (h00 : c0 ≠ 0) (hlink0 : Cond.classLink own c0 nm0 ∈ bgW) (hno : va_Nc nm nm0 (zs z)) (hlink : Cond.classLink own ci nm ∈ bgW) (hcast : Cond.castable nm nm ∈ nsW) (kk : ∀ q : Nat, J E z (k + mc) (n + ms) hpc L [.ref q] w') : J E z k n pc L st0 w := by
  intro H locs ls hP hD hS hl T hT XS
  obtain ⟨q, ce, U, L1, X', hL, hce, hcv, hcl, hP', hD', hF, hst⟩ := hr H locs ls hP hD hS hl T hT XS
  obtain ⟨x0, x, xs, ex, e0, e1⟩ : ∃ x0 x xs, (zc z).exceptionTable.toList = x0 :: x :: xs ∧ (x0.startPc, x0.endPc, x0.handlerPc, x0.catchType) = (a0, b0, h0p, c0) ∧ (x.startPc, x.endPc, x.handlerPc, x.catchType) = (a, b, hpc, ci) := by
    unfold exT at ht
    cases hx : (zc z).exceptionTable.toList with
    | nil => rw [hx] at ht; cases ht
    | cons x0 xs =>
      rw [hx] at ht
      cases xs with
      | nil => cases (List.cons.inj ht).2
      | cons x xs => exact ⟨x0, x, xs, rfl, (List.cons.inj ht).1, (List.cons.inj (List.cons.inj ht).2).1⟩
  obtain ⟨f1, f2, f3, f4⟩ : x.startPc = a ∧ x.endPc = b ∧ x.handlerPc = hpc ∧ x.catchType = ci := by
    have := Prod.mk.inj e1
    have h2 := Prod.mk.inj this.2
    have h3 := Prod.mk.inj h2.2
    exact ⟨this.1, h2.1, h3.1, h3.2⟩
  have g4 : x0.catchType = c0 := (Prod.mk.inj (Prod.mk.inj (Prod.mk.inj e0).2).2).2
  subst f1; subst f2; subst f3; subst f4; subst g4
  have hb : ∀ w ∈ bgW, w.before (za z) (zs z) = true := X.2.2.2.2.1
  obtain ⟨c3, cT, hc3, hcT, hasg⟩ := Cond.castable_spec (va_Nw.use (A := za z) rfl (X.2.2.2.2.2.1.2.2.1 _ hcast))
  cases hcl.symm.trans hc3
  obtain ⟨hend, hk0⟩ := X'.catches_of_link X.2.2.2.1 (x := x) h0 (hb _ hlink) hcT hasg
  have hcv' : covers x pc = true := by
    show (decide (x.startPc ≤ pc) && decide (pc < x.endPc)) = true
    rw [decide_eq_true (Nat.le_of_ble_eq_true hcov.1), decide_eq_true (Nat.blt_eq.mp hcov.2)]; rfl
  have hpl : (ze z).platform.magicAccessors = ({} : Platform).magicAccessors := by rw [X'.admits.platform]
  obtain ⟨c', hc', hcl'⟩ := Cond.classLink_spec X.2.2.2.1 (hb _ hlink0) (ze z).platform hpl
  obtain ⟨cn, tn, n1, n2, n3⟩ := hno
  cases n1.symm.trans hc3
  cases n2.symm.trans hc'
  obtain ⟨vm', XV, hsteps⟩ := X'.thenCaughtThrough q (g := F0 (zm z) pc ls rest) rfl (hst _ (Steps.refl _)) hce (by rw [hcv]; rfl) hk0 [x0] x xs ex (fun y hy => by
      rw [List.mem_singleton.mp hy]
      exact Or.inr ⟨h00, _, hcl', n3⟩) hcv' hend
  obtain ⟨t2, a1, b1⟩ := kk q U.heap (locs ++ L1) ls hP' hD' ⟨Nat.le_trans hS.1 hF.1, fun a h1 h2 => (hF.2 a (Nat.lt_of_lt_of_le h1 hS.1) h2).trans (hS.2.1 a h1 h2), fun y hy => by
      rcases List.mem_append.mp hy with h | h
      · exact hS.2.2 y h
      · exact hL y h⟩ hl (U.setVm vm') rfl XV
  exact ⟨t2, hsteps.trans a1, b1⟩
end CATCH
