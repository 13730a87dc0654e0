/-! a method that throws: its contract, its calls, where it is caught -/
def TQ (E : eT) (nm : String) (w' : va_W) (mc ms : Nat) : Array Value → State → Outcome → State → Prop := fun _ st oc t => ∃ (q : Addr) (ce : Cell) (L : List Loc), oc = .threw q ∧ t.heap[q]? = some ce ∧ ce.vm = .none ∧ st.vm.findClass nm = some ce.cls ∧ va_P E.1 vwCl w' t.heap ∧ va_D (zA E) w' ∧ va_F (zA E) st t ∧ st.WarmedH t.vm ∧ st.sameButNew ({ t with vm := st.vm } : State) L mc ms ∧ ∀ z ∈ L, zA E z.base
def TZ (E : eT) (nm : String) (w' : va_W) (mc ms : Nat) (below : List Frame) (a : Array Value) (s : State) : State → Prop := fun t => ∃ oc, t.status = .running ∧ Ended t below oc ∧ TQ E nm w' mc ms a s oc t
def TCon (l : Launch) (E : eT) (y : MethodName) (ws : List Cond) (d mc ms : Nat) (vs : List Value) (w : va_W) (nm : String) (w' : va_W) : Prop := MetFree l y (headSpec ws (rmD d mc ms)) (Pre E w vs) (fun _ _ _ _ _ => True) (TQ E nm w' mc ms)
def TBd (l : Launch) (E : eT) (d mc ms : Nat) (nm : String) (w' : va_W) (z : zT) : Prop := zl z = l ∧ zR z = rmD d mc ms ∧ zQ z = TZ E nm w' mc ms (zb z) (za z) (zs z) ∧ ∀ x ∈ (zc z).exceptionTable.toList, False
theorem tcon_of {l : Launch} {E : eT} {y : MethodName} {cc : ByteArray} {nL d mc ms : Nat} {ret : Option FieldType} {vs : List Value} {w w' : va_W} {nm : String} (hy : plainName y.cls = true) (hlen : (lg_sl vs).length ≤ nL)
    (body : ∀ z : zT, Cx E z cc y.cls → TBd l E d mc ms nm w' z → zn z = nL → J E z 0 0 0 (lv_args 0 vs) [] w) : TCon l E y (.code y cc nL ret :: bgW) d mc ms vs w nm w' := by
  refine MetFree.of_bodyS (code := cc) (maxLocals := nL) (ret := ret) hy ?_ ?_
  · intro args s m h hn
    obtain ⟨meth, c, h1, h2, h3, h4, h5, h6, -, -⟩ := Cond.code_spec hn (atoms_spec (ws := .code y cc nL ret :: bgW) h _ List.mem_cons_self)
    exact ⟨meth, c, h1, h2, h3, h4, h5, h6⟩
  · intro p e s m args below meth c s₁ B hml hv _
    obtain ⟨rfl, hamb, hP, hD⟩ := hv
    have hts := atoms_spec (ws := .code y cc nL ret :: bgW) B.pre
    have hh0 : s₁.heap = s.heap := by rw [B.state]; rfl
    have ht : ∀ x ∈ c.exceptionTable.toList, False := by
      obtain ⟨meth9, c9, h1, h2, -, -, -, -, h7, -⟩ := Cond.code_spec B.named (hts _ List.mem_cons_self)
      cases Option.some.inj (h1.symm.trans B.method)
      cases Option.some.inj (h2.symm.trans (Stand.of_body B).code)
      intro x hx
      rw [Array.isEmpty_iff.mp h7] at hx
      cases hx
    have hl := lv_entry vs (n := nL) hlen
    have hW := body (p, l, e, (headSpec (.code y cc nL ret :: bgW) (rmD d mc ms)).room, s, m, vs.toArray, below, meth, c, TZ E nm w' mc ms below vs.toArray s, nL)
      ⟨B.exec, B.bytes, hml, findClass_of_methodNamed B.named, fun w hw => hts w (List.mem_cons_of_mem _ hw), hamb, B.notSynchronized⟩ ⟨rfl, rfl, rfl, ht⟩ rfl s.heap [] _ hP hD va_S.rf hl
    obtain ⟨t, a1, o, b1, b2, b3⟩ := hW s₁ hh0 (Stand.of_body B)
    exact ⟨t, o, by rw [lg_entry_eq]; exact a1, b1, b2, b3⟩
section TX
variable {p : Program} {l : Launch} {e : Env} {R : Room} {s : State} {m : MethodId} {args : Array Value} {below : List Frame} {meth : Method} {c : Code} {T : State} {locs : List Loc} {cells slots : Nat}
/-- a callee that throws: back at the caller's frame, with the thrown one over it -/
theorem tx_back {E : eT} {y : MethodName} {ws : List Cond} {d mc ms maxL len : Nat} {ret : Option FieldType} {bytes : ByteArray} {vs : List Value} {w w' : va_W} {nm : String} (hM : TCon l E y ws d mc ms vs w nm w') (X : Stand p l e R s m args below meth c T locs cells slots)
    (hfr : d + 1 ≤ R.frames) (hlo : 8 + (maxL + 11) + 36 * d ≤ R.locals) (hcc : cells + mc ≤ R.cells) (hss : slots + ms ≤ R.slots)
    (hws : ∀ w ∈ ws, ∀ (a' : Array Value) (U : State), s.WarmedH U.vm → w.before a' U = true) (hcode : Cond.code y bytes maxL ret ∈ ws) (hinit : ∀ (a' : Array Value) (U : State), s.WarmedH U.vm → (Cond.initialized y.cls).before a' U = true)
    {g : JFrame} (hg : g.method = m) (hsize : g.locals.size = c.maxLocals) {ig : Instr} (hdg : decode c.code g.pc = .ok (ig, len)) (hroom : 2 * g.monitorRoom + (g.stack.map fun v => v.category).sum ≤ 8) {mk : MethodId} (hn : T.methodNamed? y = some mk) (hpre : Pre E w vs vs.toArray T) :
    ∃ (q : Addr) (ce : Cell) (U : State) (L : List Loc), Stand p l e R s m args below meth c U (locs ++ L) (cells + mc) (slots + ms) ∧ (∀ z ∈ L, zA E z.base) ∧ U.heap[q]? = some ce ∧ ce.vm = .none ∧ T.vm.findClass nm = some ce.cls ∧ va_P E.1 vwCl w' U.heap ∧ va_D (zA E) w' ∧ (T.heap.size ≤ U.heap.size ∧ ∀ a : Nat, a < T.heap.size → ¬ zA E a → U.heap[a]? = T.heap[a]?) ∧
      Steps p.tables e below (doInvoke e (T.setTop g) [] mk vs.toArray).1 ((U.setTop g).pushFrame (.throwing q)) := by
  have h1 : (headSpec ws (rmD d mc ms)).pre.before vs.toArray T = true := atoms_intro fun w hw => hws w hw _ _ X.warmed
  obtain ⟨methY, cY, hmY, hcY, -, hlY, -⟩ := Cond.code_spec hn (hws _ hcode vs.toArray T X.warmed)
  obtain ⟨kY, hkY, -⟩ := className_of_methodNamed hn
  have hinitY : kY.init = .initialized := Cond.initialized_spec (findClass_of_methodNamed hn) hkY (hinit vs.toArray T X.warmed)
  have h : At T g.method c below := by rw [hg]; exact X.here
  have happ : (headSpec ws (rmD d mc ms)).appliesLoose y e.platform (T.calling g mk vs.toArray) = true :=
    Spec.appliesLoose_calling (g := g) h hdg hn hkY hinitY (X.room_calling (g := g) (R' := rmD d mc ms) hsize hmY hcY hfr (by show _ ≤ _; rw [hlY]; show _ + _ + 36 * d ≤ _; omega) hcc hss) h1
  obtain ⟨mid, hmid⟩ := h.above
  have hfs : (T.setTop g).frames = (.java g :: mid) ++ below := by rw [State.frames_setTop' g h.top, hmid]; rfl
  obtain ⟨o, s₂, hsteps, -, hend, hq⟩ := Steps.callFree hM p X.admits X.cas X.clock (acts := []) hfs happ (pre_blind E w vs _ _ _ _ hpre) trivial
  have hq : TQ E nm w' mc ms vs.toArray (T.calling g mk vs.toArray) o s₂ := hq
  obtain ⟨q, ce, L, rfl, hce, hcv, hcl, hP', hD', hF, hW₂, hsm, hL⟩ := hq
  rw [State.frames_setTop' g h.top] at hend
  obtain ⟨g₀, hg0⟩ := Option.isSome_iff_exists.mp h.top
  obtain ⟨r, hr⟩ := State.topJava?_eq_some.mp hg0
  have hr' : (({ T with heap := s₂.heap, slotsUsed := s₂.slotsUsed } : State).setVm s₂.vm).frames = .java g₀ :: r := hr
  obtain ⟨e2, q2, q3, q4, q5, q6⟩ := id hsm
  have hW' : T.WarmedH s₂.vm := hW₂
  have hf₂ : s₂.frames = .throwing q :: .java g :: T.frames.tail := hend
  have e3 : s₂ = ({ (T.calling g mk vs.toArray).setFrames s₂.frames with heap := s₂.heap, slotsUsed := s₂.slotsUsed } : State).setVm s₂.vm := by
    have e4 : s₂ = ({ s₂ with vm := (T.calling g mk vs.toArray).vm } : State).setVm s₂.vm := rfl
    rw [e2] at e4
    exact e4
  have hs₂ : s₂ = ((({ T with heap := s₂.heap, slotsUsed := s₂.slotsUsed } : State).setVm s₂.vm).setTop g).pushFrame (.throwing q) := by
    refine e3.trans ?_
    rw [hf₂, State.calling_eq h.top, State.setFrames_setFrames, State.pushFrame, State.frames_setTop _ hr', State.setTop_of_frames _ hr', State.setFrames_setFrames, hr]
    rfl
  have hsame : T.sameButNew ({ T with heap := s₂.heap, slotsUsed := s₂.slotsUsed } : State) L mc ms := by
    refine ⟨?_, q2, q3, q4, q5, q6⟩
    obtain ⟨t, ht, -⟩ := State.frames_cons hr
    show ({ T with heap := s₂.heap, slotsUsed := s₂.slotsUsed } : State) = { T.setFrames T.frames with heap := s₂.heap, slotsUsed := s₂.slotsUsed }
    rw [State.setFrames_self ht]
  subst hg
  refine ⟨q, ce, ({ T with heap := s₂.heap, slotsUsed := s₂.slotsUsed } : State).setVm s₂.vm, L, ⟨X.admits, X.cas, X.clock, X.frames, X.room, X.hears, X.method, X.code, (X.here.setHeapUsed s₂.heap s₂.slotsUsed).setVm hW'.alike, X.tail, State.WarmedH.trans X.warmed hW', X.limits, X.bytes, X.same.trans (hsame.setVm s.vm)⟩, hL, hce, hcv, hcl, hP', hD', hF, ?_⟩
  rw [← hs₂]
  exact hsteps
end TX
