/-! methods that catch -/
abbrev exT (c : Code) : List (Nat × Nat × Nat × Nat) := c.exceptionTable.toList.map (fun h => (h.startPc, h.endPc, h.handlerPc, h.catchType))
theorem con_ofW {l : Launch} {E : eT} {y : MethodName} {cc : ByteArray} {nL d mc ms : Nat} {ret : Option FieldType} {hh : List (Nat × Nat × Nat × Nat)} {vs : List Value} {w : va_W} {o : Option Value → va_W → Prop} (hy : plainName y.cls = true) (hlen : (lg_sl vs).length ≤ nL)
    (body : ∀ z : zT, Cx E z cc y.cls → Bd l E d mc ms o ret z → zn z = nL → exT (zc z) = hh → J E z 0 0 0 (lv_args 0 vs) [] w) : Con l E y (.codeWith y cc nL ret hh :: bgW) d mc ms vs w o := by
  refine va_MetW (cc := cc) (maxL := nL) (ret := ret) (hh := hh) (ws' := bgW) hy rfl ?_
  intro p e s m args below meth c s₁ B hml hv
  obtain ⟨rfl, hamb, hP, hD⟩ := hv
  have hts := atoms_spec (ws := .codeWith y cc nL ret hh :: bgW) B.pre
  have ht : exT c = hh := by
    obtain ⟨m9, meth9, c9, hn9, h1, h2, -, -, h5, -⟩ := Cond.codeWith_spec (hts _ List.mem_cons_self)
    cases B.named.symm.trans hn9
    cases Option.some.inj (h1.symm.trans B.method)
    cases Option.some.inj (h2.symm.trans (Stand.of_body B).code)
    exact h5
  have hl := lv_entry vs (n := nL) hlen
  rw [lg_entry_eq]
  exact body (p, l, e, (headSpec (.codeWith y cc nL ret hh :: bgW) (rmD d mc ms)).room, s, m, vs.toArray, below, meth, c, MQ below (Ret E o) vs.toArray s mc ms (zA E), nL)
    ⟨B.exec, B.bytes, hml, findClass_of_methodNamed B.named, fun w hw => hts w (List.mem_cons_of_mem _ hw), hamb, B.notSynchronized⟩ ⟨rfl, rfl, rfl, B.returns⟩ rfl ht s.heap [] _ hP hD va_S.rf hl
/-- one row of the table that covers the place: her class is found (cold or warm), and takes the thrown one or lets it by -/
theorem ct_row {e : Env} {s : State} {f : JFrame} {a : Addr} {x : ExceptionTableEntry} {t : List ExceptionTableEntry} {c : ClassId} {cell : Cell} {Q : Handler → Bool → List Action → State → Prop} {E : CtlPost} {d : Bool} {acts : List Action} (hx : covers x f.pc = true) (h0 : x.catchType ≠ 0)
    (hl : s.vm.ClassLinks e.platform f.method.cls x.catchType c) (hcell : s.heap[a]? = some cell) (hobj : ∀ k, cell.vm ≠ .statics k) (hk : ∃ k, s.vm.classes[cell.cls]? = some k) (hc : ∃ k, s.vm.classes[c]? = some k) :
    wp (findHandler.go f a (x :: t)) Q E e d acts s ↔ (if s.vm.assignable cell.cls c = true then Q (.found x.handlerPc) d acts (s.setVm (s.vm.noted f.method.cls x.catchType (.cls c))) else wp (findHandler.go f a t) Q E e d acts (s.setVm (s.vm.noted f.method.cls x.catchType (.cls c)))) := by
  have hcov : (decide (x.startPc ≤ f.pc) && decide (f.pc < x.endPc)) = true := hx
  obtain ⟨g1, g2⟩ := (resolveClass_links e.toSetting hl).op (op := VmOp.resolveClass f.method.cls x.catchType) rfl
  have hal : s.vm.Alike (s.vm.noted f.method.cls x.catchType (.cls c)) := (Vm.Alike.refl s.vm).noted _ _ _
  obtain ⟨k1, hk1⟩ := hk
  obtain ⟨k2, hk2⟩ := hc
  obtain ⟨k1', hk1', -⟩ := hal.2.2 _ _ hk1
  obtain ⟨k2', hk2', -⟩ := hal.2.2 _ _ hk2
  have ea : (s.vm.noted f.method.cls x.catchType (.cls c)).assignable cell.cls c = s.vm.assignable cell.cls c := by rw [hal.assignable]
  cases hf : s.vm.assignable cell.cls c with
  | true => rw [if_pos rfl]; rw [hf] at ea; simp [findHandler.go, hcov, h0, g1, g2, hcell, hobj, hk1', hk2', ea, VmOp.dirties, VmOp.acts]
  | false => rw [if_neg (by decide)]; rw [hf] at ea; simp [findHandler.go, hcov, h0, g1, g2, hcell, hobj, hk1', hk2', ea, VmOp.dirties, VmOp.acts]
/-- the search has come to a row: the step to her handler -/
theorem ct_step {tb : Tables} {e : Env} {s target : State} {g : JFrame} {c : Code} {below : List Frame} {a : Addr} (h : At s g.method c below) {pc : Nat} {vm' : Vm}
    (hfind : ∀ (Q : Handler → Bool → List Action → State → Prop) (E : CtlPost) (d : Bool) (acts : List Action), wp (findHandler g a) Q E e d acts ((s.setTop g).pushFrame (.throwing a)) ↔ Q (.found pc) d acts (((s.setTop g).pushFrame (.throwing a)).setVm vm'))
    (hrest : Steps tb e below ((s.setVm vm').setTop { g with pc := pc, stack := [.ref a] }) target) : Steps tb e below ((s.setTop g).pushFrame (.throwing a)) target := by
  obtain ⟨hgo, hw⟩ := h.throwing a
  obtain ⟨g₀, hg⟩ := Option.isSome_iff_exists.mp h.top
  obtain ⟨r, hr⟩ := State.topJava?_eq_some.mp hg
  have key : (stepThrowing e ((s.setTop g).pushFrame (.throwing a)) a (.java g :: s.frames.tail)).Is ((((s.setTop g).pushFrame (.throwing a)).setVm vm').setFrames (.java { g with pc := pc, stack := [.ref a] } :: s.frames.tail)) [] := by
    simp only [stepThrowing, searchFrame, vmDo]
    generalize hres : Sem.go _ e false [] ((s.setTop g).pushFrame (.throwing a)) = res
    obtain ⟨as, rfl, ha⟩ := Sem.eq_ok_of hres (a := Handler.found pc) (s' := ((s.setTop g).pushFrame (.throwing a)).setVm vm') (acts' := []) (by simp [hfind _ _ _ _])
    exact ⟨rfl, ha⟩
  refine Steps.head hgo hw ?_
  rw [stepThread_throwing (frames_entered h.top _), key.1]
  have hr' : (s.setVm vm').frames = .java g₀ :: r := hr
  rw [State.setTop_of_frames _ hr'] at hrest
  have e1 : (((s.setTop g).pushFrame (.throwing a)).setVm vm').setFrames (.java { g with pc := pc, stack := [.ref a] } :: s.frames.tail) = (s.setVm vm').setFrames (.java { g with pc := pc, stack := [.ref a] } :: r) := by
    have e2 : ∀ (u : State) (F G : List Frame), ((u.setFrames F).setVm vm').setFrames G = (u.setVm vm').setFrames G := by
      intro u F G
      have e3 : (u.setFrames F).setVm vm' = (u.setVm vm').setFrames F := rfl
      rw [e3, State.setFrames_setFrames]
    rw [State.pushFrame, e2, State.setTop_of_frames _ hr, e2, hr, List.tail_cons]
  rw [e1]
  exact hrest
section CATCH
variable {E : eT} {z : zT} {cc : ByteArray} {own : String} {k n pc : Nat} {L : List (Nat × Value)} {mc ms : Nat} {rest st0 : List Value} {w w' : va_W} {nm nm0 : String} {a b hpc ci a0 b0 h0p c0 : Nat} {hs : List (Nat × Nat × Nat × Nat)}
/-- a row of the table by its four numbers -/
theorem ex_row {x : ExceptionTableEntry} (h : (x.startPc, x.endPc, x.handlerPc, x.catchType) = (a, b, hpc, ci)) : x.startPc = a ∧ x.endPc = b ∧ x.handlerPc = hpc ∧ x.catchType = ci := by
  have h1 := Prod.mk.inj h
  have h2 := Prod.mk.inj h1.2
  have h3 := Prod.mk.inj h2.2
  exact ⟨h1.1, h2.1, h3.1, h3.2⟩
theorem cv_row {x : ExceptionTableEntry} (h1 : Nat.ble x.startPc pc = true) (h2 : Nat.blt pc x.endPc = true) : covers x pc = true := by
  show (decide (x.startPc ≤ pc) && decide (pc < x.endPc)) = true
  rw [decide_eq_true (Nat.le_of_ble_eq_true h1), decide_eq_true (Nat.blt_eq.mp h2)]; rfl
/-- behind the catch -/
theorem ct_go {H : Heap} {locs L1 : List Loc} {ls : Array Slot} {T U : State} {q : Nat} {vm' : Vm} {h : Nat} (hT : T.heap = H) (hS : va_S (zA E) (zs z).heap H locs) (hL : ∀ x ∈ L1, zA E x.base) (hP' : va_P E.1 vwCl w' U.heap) (hD' : va_D (zA E) w') (hF : H.size ≤ U.heap.size ∧ ∀ a : Nat, a < H.size → ¬ zA E a → U.heap[a]? = H[a]?) (hl : lv_has ls (zn z) L)
    (X' : Stand (zp z) (zl z) (ze z) (zR z) (zs z) (zm z) (za z) (zb z) (zt z) (zc z) U (locs ++ L1) (k + mc) (n + ms)) (hW : (zs z).WarmedH vm') (hst : ∀ tg, Steps (zp z).tables (ze z) (zb z) ((U.setTop (F0 (zm z) pc ls rest)).pushFrame (.throwing q)) tg → Steps (zp z).tables (ze z) (zb z) (T.setTop (F0 (zm z) pc ls st0)) tg)
    (hfind : ∀ (Q : Handler → Bool → List Action → State → Prop) (E' : CtlPost) (d : Bool) (acts : List Action), wp (findHandler (F0 (zm z) pc ls rest) q) Q E' (ze z) d acts ((U.setTop (F0 (zm z) pc ls rest)).pushFrame (.throwing q)) ↔ Q (.found h) d acts (((U.setTop (F0 (zm z) pc ls rest)).pushFrame (.throwing q)).setVm vm'))
    (kk : J E z (k + mc) (n + ms) h L [.ref q] w') : ∃ t, Steps (zp z).tables (ze z) (zb z) (T.setTop (F0 (zm z) pc ls st0)) t ∧ zQ z t := by
  obtain ⟨t2, a1, b1⟩ := kk U.heap (locs ++ L1) ls hP' hD' ⟨Nat.le_trans hS.1 hF.1, fun a h1 h2 => (hF.2 a (Nat.lt_of_lt_of_le h1 hS.1) h2).trans (hS.2.1 a h1 h2), fun y hy => by
      rcases List.mem_append.mp hy with h | h
      · exact hS.2.2 y h
      · exact hL y h⟩ hl (U.setVm vm') rfl (X'.noted hW)
  exact ⟨t2, hst _ (ct_step X'.here hfind a1), b1⟩
theorem j_catch1 (X : Cx E z cc own) (hr : ∀ (H : Heap) (locs : List Loc) (ls : Array Slot), va_P E.1 vwCl w H → va_D (zA E) w → va_S (zA E) (zs z).heap H locs → lv_has ls (zn z) L → TRun E z H locs k n mc ms pc ls st0 rest nm w')
    (ht : exT (zc z) = (a, b, hpc, ci) :: hs) (hcov : Nat.ble a pc = true ∧ Nat.blt pc b = true) (h0 : ci ≠ 0) (hlink : Cond.classLink own ci nm ∈ bgW) (hcast : Cond.castable nm nm ∈ nsW) (kk : ∀ q : Nat, J E z (k + mc) (n + ms) hpc L [.ref q] w') : J E z k n pc L st0 w := by
  intro H locs ls hP hD hS hl T hT XS
  obtain ⟨q, ce, U, L1, X', hL, hce, hcv, hcl, hP', hD', hF, hst⟩ := hr H locs ls hP hD hS hl T hT XS
  obtain ⟨x, xs, ex, e1⟩ : ∃ x xs, (zc z).exceptionTable.toList = x :: xs ∧ (x.startPc, x.endPc, x.handlerPc, x.catchType) = (a, b, hpc, ci) := by
    unfold exT at ht
    cases hx : (zc z).exceptionTable.toList with
    | nil => rw [hx] at ht; cases ht
    | cons x xs => rw [hx] at ht; exact ⟨x, xs, rfl, (List.cons.inj ht).1⟩
  obtain ⟨f1, f2, f3, f4⟩ := ex_row e1
  subst f1; subst f2; subst f3; subst f4
  have hb : ∀ w ∈ bgW, w.before (za z) (zs z) = true := X.2.2.2.2.1
  obtain ⟨c3, cT, hc3, hcT, hasg⟩ := Cond.castable_spec (va_Nw.use (A := za z) rfl (X.2.2.2.2.2.1.2.2.1 _ hcast))
  cases hcl.symm.trans hc3
  have hpl : (ze z).platform.magicAccessors = ({} : Platform).magicAccessors := by rw [X'.admits.platform]
  obtain ⟨c', hc', hcl'⟩ := Cond.classLink_spec X.2.2.2.1 (hb _ hlink) (ze z).platform hpl
  cases hcT.symm.trans hc'
  obtain ⟨dk, _, _, kt, hd, _, _, _, _, hkt, _, hopen⟩ := hcl'.here
  obtain ⟨k0, hk0⟩ := Vm.classAt_of_assignable hasg ⟨kt, hkt⟩
  obtain ⟨kt', hkt', -⟩ := X'.warmed.alike.2.2 _ _ hkt
  obtain ⟨k0', hk0', -⟩ := X'.warmed.alike.2.2 _ _ hk0
  refine ct_go hT hS hL hP' hD' hF hl X' (X'.warmed.noted hd hopen (State.rightAt_cls hcl')) hst (fun Q E' d acts => ?_) (kk q)
  rw [W.findHandler_eq (meth := zt z) (code := zc z) X'.method' X'.code, ex, ct_row (s := (U.setTop (F0 (zm z) pc ls rest)).pushFrame (.throwing q)) (f := F0 (zm z) pc ls rest) (c := cT) (cell := ce) (cv_row hcov.1 hcov.2) h0 (X'.warmed.classLinks hcl') hce (VmData.ne_statics_of (by rw [hcv]; rfl)) ⟨k0', hk0'⟩ ⟨kt', hkt'⟩, if_pos (by show U.vm.assignable _ _ = true; rw [X'.warmed.alike.assignable]; exact hasg)]
  exact Iff.rfl
theorem j_catch2 (X : Cx E z cc own) (hr : ∀ (H : Heap) (locs : List Loc) (ls : Array Slot), va_P E.1 vwCl w H → va_D (zA E) w → va_S (zA E) (zs z).heap H locs → lv_has ls (zn z) L → TRun E z H locs k n mc ms pc ls st0 rest nm w')
    (ht : exT (zc z) = (a0, b0, h0p, c0) :: (a, b, hpc, ci) :: hs) (hcov0 : Nat.ble a0 pc = true ∧ Nat.blt pc b0 = true) (hcov : Nat.ble a pc = true ∧ Nat.blt pc b = true) (h0 : ci ≠ 0) (h00 : c0 ≠ 0) (hlink0 : Cond.classLink own c0 nm0 ∈ bgW) (hno : va_Nc nm nm0 (zs z)) (hlink : Cond.classLink own ci nm ∈ bgW) (hcast : Cond.castable nm nm ∈ nsW) (kk : ∀ q : Nat, J E z (k + mc) (n + ms) hpc L [.ref q] w') : J E z k n pc L st0 w := by
  intro H locs ls hP hD hS hl T hT XS
  obtain ⟨q, ce, U, L1, X', hL, hce, hcv, hcl, hP', hD', hF, hst⟩ := hr H locs ls hP hD hS hl T hT XS
  obtain ⟨x0, x, xs, ex, e0, e1⟩ : ∃ x0 x xs, (zc z).exceptionTable.toList = x0 :: x :: xs ∧ (x0.startPc, x0.endPc, x0.handlerPc, x0.catchType) = (a0, b0, h0p, c0) ∧ (x.startPc, x.endPc, x.handlerPc, x.catchType) = (a, b, hpc, ci) := by
    unfold exT at ht
    cases hx : (zc z).exceptionTable.toList with
    | nil => rw [hx] at ht; cases ht
    | cons x0 xs =>
      rw [hx] at ht
      cases xs with
      | nil => cases (List.cons.inj ht).2
      | cons x xs => exact ⟨x0, x, xs, rfl, (List.cons.inj ht).1, (List.cons.inj (List.cons.inj ht).2).1⟩
  obtain ⟨f1, f2, f3, f4⟩ := ex_row e1
  obtain ⟨g1, g2, g3, g4⟩ := ex_row e0
  subst f1; subst f2; subst f3; subst f4; subst g1; subst g2; subst g3; subst g4
  have hb : ∀ w ∈ bgW, w.before (za z) (zs z) = true := X.2.2.2.2.1
  obtain ⟨c3, cT, hc3, hcT, hasg⟩ := Cond.castable_spec (va_Nw.use (A := za z) rfl (X.2.2.2.2.2.1.2.2.1 _ hcast))
  cases hcl.symm.trans hc3
  have hpl : (ze z).platform.magicAccessors = ({} : Platform).magicAccessors := by rw [X'.admits.platform]
  obtain ⟨c', hc', hcl'⟩ := Cond.classLink_spec X.2.2.2.1 (hb _ hlink) (ze z).platform hpl
  cases hcT.symm.trans hc'
  obtain ⟨c1, hc1, hcl1⟩ := Cond.classLink_spec X.2.2.2.1 (hb _ hlink0) (ze z).platform hpl
  obtain ⟨cn, tn, n1, n2, n3⟩ := hno
  cases n1.symm.trans hc3
  cases n2.symm.trans hc1
  obtain ⟨dk, _, _, kt, hd, _, _, _, _, hkt, _, hopen⟩ := hcl'.here
  obtain ⟨dk1, _, _, kt1, hd1, _, _, _, _, hkt1, _, hopen1⟩ := hcl1.here
  obtain ⟨k0, hk0⟩ := Vm.classAt_of_assignable hasg ⟨kt, hkt⟩
  have hW1 : (zs z).WarmedH (U.vm.noted (zm z).cls x0.catchType (.cls c1)) := X'.warmed.noted hd1 hopen1 (State.rightAt_cls hcl1)
  obtain ⟨kt1', hkt1', -⟩ := X'.warmed.alike.2.2 _ _ hkt1
  obtain ⟨k0', hk0', -⟩ := X'.warmed.alike.2.2 _ _ hk0
  obtain ⟨kt', hkt', -⟩ := hW1.alike.2.2 _ _ hkt
  obtain ⟨k0'', hk0'', -⟩ := hW1.alike.2.2 _ _ hk0
  refine ct_go hT hS hL hP' hD' hF hl X' (hW1.noted hd hopen (State.rightAt_cls hcl')) hst (fun Q E' d acts => ?_) (kk q)
  rw [W.findHandler_eq (meth := zt z) (code := zc z) X'.method' X'.code, ex, ct_row (s := (U.setTop (F0 (zm z) pc ls rest)).pushFrame (.throwing q)) (f := F0 (zm z) pc ls rest) (c := c1) (cell := ce) (cv_row hcov0.1 hcov0.2) h00 (X'.warmed.classLinks hcl1) hce (VmData.ne_statics_of (by rw [hcv]; rfl)) ⟨k0', hk0'⟩ ⟨kt1', hkt1'⟩, if_neg (by show ¬ U.vm.assignable _ _ = true; rw [X'.warmed.alike.assignable, n3]; decide)]
  change wp (findHandler.go (F0 (zm z) pc ls rest) q (x :: xs)) Q E' (ze z) d acts (((U.setTop (F0 (zm z) pc ls rest)).pushFrame (.throwing q)).setVm (U.vm.noted (zm z).cls x0.catchType (.cls c1))) ↔ _
  rw [ct_row (s := ((U.setTop (F0 (zm z) pc ls rest)).pushFrame (.throwing q)).setVm (U.vm.noted (zm z).cls x0.catchType (.cls c1))) (f := F0 (zm z) pc ls rest) (c := cT) (cell := ce) (cv_row hcov.1 hcov.2) h0 (hW1.classLinks hcl') hce (VmData.ne_statics_of (by rw [hcv]; rfl)) ⟨k0'', hk0''⟩ ⟨kt', hkt'⟩, if_pos (by show (U.vm.noted (zm z).cls x0.catchType (.cls c1)).assignable _ _ = true; rw [hW1.alike.assignable]; exact hasg)]
  exact Iff.rfl
end CATCH
