/-! needArgument and needState: where they throw -/
theorem sb_same {s t : State} {c n : Nat} (h : s.sameButNew t [] c n) {a : Nat} {ce : Cell} (ha : s.heap[a]? = some ce) : t.heap[a]? = some ce := by
  obtain ⟨c', h1, h2, h3, h4⟩ := h.2.2.2.2.2 a ce ha
  have h5 : c'.slots = ce.slots := Array.ext_getElem? (fun i => h4 i (by simp))
  have h6 : c' = ce := by rw [h2, h5]
  rw [← h6]; exact h1
theorem lz_ref {C n d : String} {A : Nat → Prop} {U : State} {args : Array Value} (h : va_Zq C n d A U U.heap) : (Cond.isRef (.static C n d)).before args U = true := by
  rcases h with h | ⟨t, h⟩
  · obtain ⟨cf, kf, fi, f, a, cell, h1, h2, h3, h4, h5, h6, h7, -⟩ := h
    simp [Cond.before, Cond.holds, Cond.value, Term.eval, State.fieldNamed?, h1, h2, h4, h5, h6, h7]
  · obtain ⟨cf, kf, fi, f, a, cell, h1, h2, h3, h4, h5, h6, h7, -⟩ := h
    simp [Cond.before, Cond.holds, Cond.value, Term.eval, State.fieldNamed?, h1, h2, h4, h5, h6, h7]
theorem lz_lays {C n d : String} {A : Nat → Prop} {U : State} {args : Array Value} (h : lzL C n d A U U.heap) : (Cond.laysStatic C n d).before args U = true := by
  obtain ⟨c, k, i, f, a, cell, h1, h2, h3, h4, h5, h6, h7, h8, h9, -⟩ := h
  simp [Cond.before, Cond.holds, Cond.value, h1, h2, h3, h4, h5, h6, h7, h8, h9]
def upX : List String := ["java/lang/RuntimeException", "java/lang/Exception"]
def iaX : String := "java/lang/IllegalArgumentException"
def isX : String := "java/lang/IllegalStateException"
def spX : List Cond := [.isRef (.static lzT "UNASSIGNED_STACK" lzS), .isRef (.static lzT "SUPPRESSED_SENTINEL" lzV), .laysStatic lzT "UNASSIGNED_STACK" lzS, .laysStatic lzT "SUPPRESSED_SENTINEL" lzV]
def okX (a : Cond) : Bool := (decide (a ∈ lw_tbl) && goodWord a) || (decide (a ∈ nsW) || decide (a ∈ spX))
set_option maxRecDepth 100000 in
theorem okX_ia : (Bundle.ownAtoms0 R_U 195 iaX upX).all okX = true := by decide +kernel
set_option maxRecDepth 100000 in
theorem okX_is : (Bundle.ownAtoms0 R_U 198 isX upX).all okX = true := by decide +kernel
theorem okX_use {E : eT} {s : State} {args : Array Value} (hb : ∀ w ∈ bgW, w.before args s = true) (hA : Amb E s) {a : Cond} (h : okX a = true) : a.before args s = true := by
  rcases Bool.or_eq_true_iff.mp h with h | h
  · obtain ⟨h1, h2⟩ := Bool.and_eq_true_iff.mp h
    exact hb a (bg_in (of_decide_eq_true h1) h2)
  · rcases Bool.or_eq_true_iff.mp h with h | h
    · have h1 : a ∈ nsW := of_decide_eq_true h
      exact va_Nw.use (ns_tab a h1) (hA.2.2.1 a h1)
    · have h1 : a ∈ spX := of_decide_eq_true h
      obtain ⟨z1, z2, z3, z4⟩ := hA.2.2.2.1
      simp only [spX, List.mem_cons, List.not_mem_nil, or_false] at h1
      rcases h1 with h1 | h1 | h1 | h1
      · rw [h1]; exact lz_ref z1
      · rw [h1]; exact lz_ref z2
      · rw [h1]; exact lz_lays z3
      · rw [h1]; exact lz_lays z4
theorem tcon_ofW {l : Launch} {E : eT} {y : MethodName} {cc : ByteArray} {nL d mc ms : Nat} {ret : Option FieldType} {vs : List Value} {w w' : va_W} {nm : String} (hy : plainName y.cls = true) (hlen : (lg_sl vs).length ≤ nL)
    (body : ∀ z : zT, Cx E z cc y.cls → TBd l E d mc ms nm w' z → zn z = nL → va_P E.1 vwCl w (zs z).heap → va_D (zA E) w → ∀ ls : Array Slot, lv_has ls (zn z) (lv_args 0 vs) → W (zp z) (zl z) (ze z) (zR z) (zs z) (zm z) (za z) (zb z) (zt z) (zc z) (zs z).heap [] 0 0 (zQ z) (F0 (zm z) 0 ls [])) : TCon l E y (.code y cc nL ret :: bgW) d mc ms vs w nm w' := by
  refine MetFree.of_bodyS (code := cc) (maxLocals := nL) (ret := ret) hy ?_ ?_
  · intro args s m h hn
    obtain ⟨meth, c, h1, h2, h3, h4, h5, h6, -, -⟩ := Cond.code_spec hn (atoms_spec (ws := .code y cc nL ret :: bgW) h _ List.mem_cons_self)
    exact ⟨meth, c, h1, h2, h3, h4, h5, h6⟩
  · intro p e s m args below meth c s₁ B hml hv _
    obtain ⟨rfl, hamb, hP, hD⟩ := hv
    have hts := atoms_spec (ws := .code y cc nL ret :: bgW) B.pre
    have hh0 : s₁.heap = s.heap := by rw [B.state]; rfl
    have ht : ∀ x ∈ c.exceptionTable.toList, False := by
      obtain ⟨meth9, c9, h1, h2, -, -, -, -, h7, -⟩ := Cond.code_spec B.named (hts _ List.mem_cons_self)
      cases Option.some.inj (h1.symm.trans B.method)
      cases Option.some.inj (h2.symm.trans (Stand.of_body B).code)
      intro x hx
      rw [Array.isEmpty_iff.mp h7] at hx
      cases hx
    have hl := lv_entry vs (n := nL) hlen
    have hW := body (p, l, e, (headSpec (.code y cc nL ret :: bgW) (rmD d mc ms)).room, s, m, vs.toArray, below, meth, c, TZ E nm w' mc ms below vs.toArray s, nL)
      ⟨B.exec, B.bytes, hml, findClass_of_methodNamed B.named, fun w hw => hts w (List.mem_cons_of_mem _ hw), hamb, B.notSynchronized⟩ ⟨rfl, rfl, rfl, ht⟩ rfl hP hD _ hl
    obtain ⟨t, a1, o, b1, b2, b3⟩ := hW s₁ hh0 (Stand.of_body B)
    exact ⟨t, o, by rw [lg_entry_eq]; exact a1, b1, b2, b3⟩
set_option maxHeartbeats 2000000 in
theorem thr_con {l : Launch} {E : eT} {y : MethodName} {cc : ByteArray} {cN iN : Nat} {cls : String} {w : va_W} (hl : l.stackTraces = false) (hy : plainName y.cls = true) (hfit : Bundle.fit cls = true)
    (hw : (Bundle.ownAtoms0 y.cls iN cls upX).all okX = true) (hcl : Cond.classLink y.cls cN cls ∈ bgW) (hin : Cond.initialized cls ∈ bgW)
    (a0 : decode cc 0 = .ok (.iload_n 0, 1)) (a1 : decode cc 1 = .ok (.ifCond .ne 11, 3)) (a4 : decode cc 4 = .ok (.new cN, 3)) (a7 : decode cc 7 = .ok (.dup, 1)) (a8 : decode cc 8 = .ok (.invokespecial iN, 3)) (a11 : decode cc 11 = .ok (.athrow, 1)) :
    TCon l E y (.code y cc 1 none :: bgW) 6 1 6 [.int (iI 0)] w cls w := by
  refine tcon_ofW hy (Nat.le_refl _) (fun z X Y hn hP hD ls hls => ?_)
  have hb : ∀ w ∈ bgW, w.before (za z) (zs z) = true := X.2.2.2.2.1
  have hx : ∀ a ∈ Bundle.ownAtoms0 y.cls iN cls upX, a.before (za z) (zs z) = true := fun a ha => okX_use hb X.2.2.2.2.2.1 (List.all_eq_true.mp hw a ha)
  have hR : zR z = rmD 6 1 6 := Y.2.1
  refine lv_iload_n X.1 X.2.1 a0 rfl (lk_at (L := [(0, .int (iI 0))]) hls rfl) ?_
  refine lv_if_ne X.1 X.2.1 a1 (tgt := 12) rfl (fun h => absurd rfl h) (fun _ => ?_)
  intro T hT XS
  have htr : (ze z).platform.stackTraces = false := by rw [Jvm.Example.NoTraceControls.admits_follows XS.admits, Y.1]; exact hl
  obtain ⟨vm₁, cX, kX, hfX, hkX, -, -, X₁, st1⟩ := XS.newCold X.1 (own := y.cls) (C := cls) (index := cN) (n := 6) X.2.2.2.1 (hb _ hcl) (hx (.instantiable cls 6) (by simp [Bundle.ownAtoms0])) (hb _ hin)
    (g := F0 (zm z) 4 ls []) rfl (by rw [X.2.1]; exact a4) (by rw [hR]; exact Nat.le_refl _) (by rw [hR]; exact Nat.le_refl _)
  generalize hT' : (T.setVm vm₁).pushCell { cls := cX, slots := kX.instanceTypes.map defaultValue, vm := .none } = T' at X₁ st1
  have hcellA : T'.heap[T.heap.size]? = some (freshCell cX kX) := by rw [← hT']; exact State.heap_pushCell_size _ _
  have hWn : W (zp z) (zl z) (ze z) (zR z) (zs z) (zm z) (za z) (zb z) (zt z) (zc z) T'.heap [] (0 + 1) (0 + 6) (zQ z) (F0 (zm z) 8 ls [.ref T.heap.size, .ref T.heap.size]) := by
    intro T2 hT2 X2
    obtain ⟨U, hsteps, hrun, hend, hW, hsame, ce, hce, K⟩ := X2.ctorThrow0 X.1 htr (own := y.cls) (cls := cls) (names := upX) (ic := iN) X.2.2.2.1 hfit (by decide +kernel) hx (fun y hy => by cases hy) hfX hkX (by rw [hT2]; exact hcellA) (by rw [hT]; exact Nat.le_refl _)
      (g := F0 (zm z) 8 ls [.ref T.heap.size, .ref T.heap.size]) rfl (hls.1.trans X.2.2.1.symm) rfl rfl (rest := []) rfl (by rw [X.2.1]; exact a8) (by rw [X.2.1]; exact a11) (fun x hx => (Y.2.2.2 x hx).elim) (by rw [hR]; exact Nat.le_of_ble_eq_true rfl) (by rw [hR]; exact Nat.le_of_ble_eq_true rfl) X.2.2.2.2.2.2
    refine ⟨U, hsteps, ?_⟩
    rw [Y.2.2.1]
    have hk : ∀ (a : Nat) (ce : Cell), (zs z).heap[a]? = some ce → U.heap[a]? = some ce := fun a ce h => sb_same hsame h
    have hk2 : ∀ a : Nat, a < (zs z).heap.size → U.heap[a]? = (zs z).heap[a]? := fun a h => by
      rw [Array.getElem?_eq_getElem h]; exact hk a _ (Array.getElem?_eq_getElem h)
    exact ⟨.threw T.heap.size, hrun, hend, T.heap.size, ce, [], rfl, hce, K.vm, K.cls, fun k q hq => (hP k q hq).kept (hk2 _ (hP k q hq).lt), hD, ⟨hsame.2.1, fun q h _ => hk2 q h⟩, hW, hsame, fun x hx => by cases hx⟩
  obtain ⟨t, h1, h2⟩ := (lv_dup X.1 X.2.1 a7 rfl hWn) T' rfl X₁
  exact ⟨t, st1 t h1, h2⟩
theorem x_U_needArgument (l : Launch) (hl : l.stackTraces = false) (E : eT) (w : va_W) : TCon l E y_U_needArgument ws_U_needArgument 6 1 6 [.int (iI 0)] w iaX w :=
  thr_con hl (by decide) (by decide +kernel) okX_ia (bg_in (List.mem_of_getElem? (i := 494) (by decide +kernel)) rfl) (bg_in (List.mem_of_getElem? (i := 77) (by decide +kernel)) rfl) d_U_needArgument_0 d_U_needArgument_1 d_U_needArgument_4 d_U_needArgument_7 d_U_needArgument_8 d_U_needArgument_11
theorem x_U_needState (l : Launch) (hl : l.stackTraces = false) (E : eT) (w : va_W) : TCon l E y_U_needState ws_U_needState 6 1 6 [.int (iI 0)] w isX w :=
  thr_con hl (by decide) (by decide +kernel) okX_is (bg_in (List.mem_of_getElem? (i := 567) (by decide +kernel)) rfl) (bg_in (List.mem_of_getElem? (i := 78) (by decide +kernel)) rfl) d_U_needState_0 d_U_needState_1 d_U_needState_4 d_U_needState_7 d_U_needState_8 d_U_needState_11
