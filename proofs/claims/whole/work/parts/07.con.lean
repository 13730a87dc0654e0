theorem amb_to {E : eT} {s : State} {H : Heap} {locs : List Loc} (h : Amb E s) (hS : va_S (zA E) s.heap H locs) {U : State} (hU : U.heap = H) (hW : s.WarmedH U.vm) : Amb E U := by
  obtain ⟨h1, h2, h3, h4, h5, h6⟩ := h
  exact ⟨by rw [hU]; exact Nat.le_trans h1 hS.1, va_K.moved hW.alike h2, fun w hw => ns_warm hW hw (h3 w hw), by rw [hU]; exact Thz.moved hW.alike (h4.kept hS.2.1), h5.moved hW.alike, h6.moved hW.alike⟩
theorem amb_same {E : eT} {s U : State} (h : Amb E s) (hh : U.heap = s.heap) (hv : U.vm = s.vm) : Amb E U := by
  obtain ⟨h1, h2, h3, h4, h5, h6⟩ := h
  have ha : s.vm.Alike U.vm := by rw [hv]; exact Vm.Alike.refl _
  exact ⟨by rw [hh]; exact h1, va_K.moved ha h2, fun w hw => va_Nw.same (ns_tab w hw) hv.symm (h3 w hw), by rw [hh]; exact Thz.moved ha h4, h5.moved ha, h6.moved ha⟩
def Pre (E : eT) (w : va_W) (vs : List Value) : Array Value → State → Prop := va_Pc vs (fun U => Amb E U ∧ va_P E.1 vwCl w U.heap ∧ va_D (zA E) w)
def Ret (E : eT) (o : Option Value → va_W → Prop) : Array Value → State → Outcome → State → Prop := fun _ st oc t => (∃ (v : Option Value) (w' : va_W), oc = .returned v ∧ o v w' ∧ va_P E.1 vwCl w' t.heap ∧ va_D (zA E) w') ∧ va_F (zA E) st t
def Thr (E : eT) (x : String → va_W → Prop) : String → State → State → Prop := fun nm st t => (∃ w' : va_W, x nm w' ∧ va_P E.1 vwCl w' t.heap ∧ va_D (zA E) w') ∧ va_F (zA E) st t
/-- the room of a method of height d that makes mc cells of ms slots -/
def rmD (d mc ms : Nat) : Room := { frames := d, cells := mc, slots := ms, locals := 36 * d }
/-- a method's contract: it returns -/
def Con (l : Launch) (E : eT) (y : MethodName) (ws : List Cond) (d mc ms : Nat) (vs : List Value) (w : va_W) (o : Option Value → va_W → Prop) : Prop := Met l y ws (rmD d mc ms) (Pre E w vs) (Ret E o) mc ms (zA E)
theorem pre_blind (E : eT) (w : va_W) (vs : List Value) : FrameBlind (Pre E w vs) := fun a U g mk h => ⟨h.1, amb_same h.2.1 rfl rfl, h.2.2.1, h.2.2.2⟩
theorem pre_at {E : eT} {z : zT} {cc : ByteArray} {own : String} {w : va_W} {H : Heap} {locs : List Loc} (X : Cx E z cc own) (hP : va_P E.1 vwCl w H) (hD : va_D (zA E) w) (hS : va_S (zA E) (zs z).heap H locs) (vs : List Value) {U : State} (hU : U.heap = H) (hW : (zs z).WarmedH U.vm) : Pre E w vs vs.toArray U := ⟨rfl, amb_to X.2.2.2.2.2.1 hS hU hW, by rw [hU]; exact hP, hD⟩
/-- what a body is told of its end -/
def Bd (l : Launch) (E : eT) (d mc ms : Nat) (o : Option Value → va_W → Prop) (ret : Option FieldType) (z : zT) : Prop := zl z = l ∧ zR z = rmD d mc ms ∧ zQ z = MQ (zb z) (Ret E o) (za z) (zs z) mc ms (zA E) ∧ (zt z).sig.returnType = ret
theorem con_of {l : Launch} {E : eT} {y : MethodName} {cc : ByteArray} {nL d mc ms : Nat} {ret : Option FieldType} {vs : List Value} {w : va_W} {o : Option Value → va_W → Prop} (hy : plainName y.cls = true) (hlen : (lg_sl vs).length ≤ nL)
    (body : ∀ z : zT, Cx E z cc y.cls → Bd l E d mc ms o ret z → zn z = nL → J E z 0 0 0 (lv_args 0 vs) [] w) : Con l E y (.code y cc nL ret :: bgW) d mc ms vs w o := by
  refine Met.ofW (cc := cc) (maxL := nL) (ret := ret) hy rfl ?_
  intro p e s m args below meth c s₁ B hml hv
  obtain ⟨rfl, hamb, hP, hD⟩ := hv
  have hts := atoms_spec (ws := .code y cc nL ret :: bgW) B.pre
  have hl := lv_entry vs (n := nL) hlen
  rw [lg_entry_eq]
  exact body (p, l, e, (headSpec (.code y cc nL ret :: bgW) (rmD d mc ms)).room, s, m, vs.toArray, below, meth, c, MQ below (Ret E o) vs.toArray s mc ms (zA E), nL)
    ⟨B.exec, B.bytes, hml, findClass_of_methodNamed B.named, fun w hw => hts w (List.mem_cons_of_mem _ hw), hamb, B.notSynchronized⟩ ⟨rfl, rfl, rfl, B.returns⟩ rfl s.heap [] _ hP hD va_S.rf hl
section JC
variable {E : eT} {z : zT} {cc : ByteArray} {own : String} {k n pc : Nat} {L : List (Nat × Value)} {st : List Value} {w : va_W} {l : Launch} {d0 mc ms : Nat} {o : Option Value → va_W → Prop}
theorem j_iret (X : Cx E z cc own) (Y : Bd l E d0 mc ms o (some .int) z) {x : Int32} (hk : k ≤ mc) (hn : n ≤ ms) (d : decode cc pc = .ok (.ireturn, 1)) (ho : o (some (.int x)) w) : J E z k n pc L [.int x] w := by
  intro H locs ls hP hD hS hl
  rw [Y.2.2.1]
  refine W.widen hk hn ?_
  exact W.iret X.1 X.2.1 Y.2.2.2 (fun t ht hW => ⟨⟨_, w, rfl, ho, by rw [ht]; exact hP, hD⟩, hS.F ht⟩) hS.2.2 d X.2.2.2.2.2.2
theorem j_zret (X : Cx E z cc own) (Y : Bd l E d0 mc ms o (some .boolean) z) {x : Int32} (hx : narrow .boolean (.int x) = .int x) (hk : k ≤ mc) (hn : n ≤ ms) (d : decode cc pc = .ok (.ireturn, 1)) (ho : o (some (.int x)) w) : J E z k n pc L [.int x] w := by
  intro H locs ls hP hD hS hl
  rw [Y.2.2.1]
  refine W.widen hk hn ?_
  exact W.zret X.1 X.2.1 Y.2.2.2 hx (fun t ht hW => ⟨⟨_, w, rfl, ho, by rw [ht]; exact hP, hD⟩, hS.F ht⟩) hS.2.2 d X.2.2.2.2.2.2
theorem j_lret (X : Cx E z cc own) (Y : Bd l E d0 mc ms o (some .long) z) {x : Int64} (hk : k ≤ mc) (hn : n ≤ ms) (d : decode cc pc = .ok (.lreturn, 1)) (ho : o (some (.long x)) w) : J E z k n pc L [.long x] w := by
  intro H locs ls hP hD hS hl
  rw [Y.2.2.1]
  refine W.widen hk hn ?_
  exact W.lret X.1 X.2.1 Y.2.2.2 (fun t ht hW => ⟨⟨_, w, rfl, ho, by rw [ht]; exact hP, hD⟩, hS.F ht⟩) hS.2.2 d X.2.2.2.2.2.2
theorem j_vret (X : Cx E z cc own) (Y : Bd l E d0 mc ms o none z) (hk : k ≤ mc) (hn : n ≤ ms) (d : decode cc pc = .ok (.return_, 1)) (ho : o none w) : J E z k n pc L [] w := by
  intro H locs ls hP hD hS hl
  rw [Y.2.2.1]
  refine W.widen hk hn ?_
  exact W.vret X.1 X.2.1 Y.2.2.2 (fun t ht hW => ⟨⟨_, w, rfl, ho, by rw [ht]; exact hP, hD⟩, hS.F ht⟩) hS.2.2 d X.2.2.2.2.2.2
/-- behind a call -/
theorem j_run {mc' ms' : Nat} {st0 rest : List Value} {a : Array Value} (X : Cx E z cc own)
    (hr : ∀ (H : Heap) (locs : List Loc) (ls : Array Slot), va_P E.1 vwCl w H → va_D (zA E) w → va_S (zA E) (zs z).heap H locs → lv_has ls (zn z) L → va_Run (zp z) (zl z) (ze z) (zR z) (zs z) (zm z) (za z) (zb z) (zt z) (zc z) H locs k n mc' ms' (F0 (zm z) pc ls st0) rest (Ret E o a) (zA E))
    (kk : ∀ (v : Option Value) (w' : va_W), o v w' → J E z (k + mc') (n + ms') (pc + 3) L (v.toList ++ rest) w') : J E z k n pc L st0 w := by
  intro H locs ls hP hD hS hl T hT XS
  obtain ⟨v, st₀, t, T', L1, h0, X', hL, e1, e2, ⟨⟨v', w', hv, ho, hP', hD'⟩, hz, hk⟩, st⟩ := hr H locs ls hP hD hS hl T hT XS
  cases hv
  rw [h0] at hz hk
  obtain ⟨t2, a1, b1⟩ := kk v w' ho T'.heap (locs ++ L1) ls (by rw [e1]; exact hP') hD'
    ⟨Nat.le_trans hS.1 (by rw [e1]; exact hz), fun q h1 h2 => by rw [e1, hk q (Nat.lt_of_lt_of_le h1 hS.1) h2]; exact hS.2.1 q h1 h2, fun q hq => by
      rcases List.mem_append.mp hq with h | h
      · exact hS.2.2 q h
      · exact hL q h⟩ hl T' rfl X'
  exact ⟨t2, st t2 a1, b1⟩
end JC
