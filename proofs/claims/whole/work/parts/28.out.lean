/-- a call that throws: back at this frame, the thrown one over it -/
def TRun (E : eT) (z : zT) (H : Heap) (locs : List Loc) (k n mc ms pc : Nat) (ls : Array Slot) (st0 rest : List Value) (nm : String) (w' : va_W) : Prop :=
  ∀ T : State, T.heap = H → Stand (zp z) (zl z) (ze z) (zR z) (zs z) (zm z) (za z) (zb z) (zt z) (zc z) T locs k n →
    ∃ (q : Addr) (ce : Cell) (U : State) (L : List Loc), Stand (zp z) (zl z) (ze z) (zR z) (zs z) (zm z) (za z) (zb z) (zt z) (zc z) U (locs ++ L) (k + mc) (n + ms) ∧ (∀ x ∈ L, zA E x.base) ∧ U.heap[q]? = some ce ∧ ce.vm = .none ∧ (zs z).vm.findClass nm = some ce.cls ∧ va_P E.1 vwCl w' U.heap ∧ va_D (zA E) w' ∧
      (H.size ≤ U.heap.size ∧ ∀ a : Nat, a < H.size → ¬ zA E a → U.heap[a]? = H[a]?) ∧
      ∀ tg, Steps (zp z).tables (ze z) (zb z) ((U.setTop (F0 (zm z) pc ls rest)).pushFrame (.throwing q)) tg → Steps (zp z).tables (ze z) (zb z) (T.setTop (F0 (zm z) pc ls st0)) tg
section TJ
variable {E : eT} {z : zT} {cc : ByteArray} {own : String} {k n pc : Nat} {L : List (Nat × Value)} {y : MethodName} {bytes : ByteArray} {maxL index d' d0 m0 s0 mc ms nn : Nat} {ret : Option FieldType} {As rest st0 : List Value} {w w' : va_W} {nm : String} {H : Heap} {locs : List Loc} {ls : Array Slot}
theorem t_cS (X : Cx E z cc own) (hm : ∀ w ∈ ([.methodLink own index y, .static y, .initialized own, .code y bytes maxL ret] : List Cond), w ∈ bgW) (hy : yOk y nn) (hmx : Nat.ble maxL 17 = true) (hcls : y.cls = own)
    (hz : zR z = rmD d0 m0 s0) (hM : TCon (zl z) E y (.code y bytes maxL ret :: bgW) d' mc ms As w nm w') (hn : As.length = nn) (hdd : Nat.blt d' d0 = true) (hst : st0 = As.reverse ++ rest) (hrest : (rest.map fun v => v.category).sum ≤ 8) (hk : k + mc ≤ m0 ∧ n + ms ≤ s0)
    (d : decode cc pc = .ok (.invokestatic index, 3)) (hP : va_P E.1 vwCl w H) (hD : va_D (zA E) w) (hS : va_S (zA E) (zs z).heap H locs) (hl : lv_has ls (zn z) L) : TRun E z H locs k n mc ms pc ls st0 rest nm w' := by
  subst hst
  intro T hT XS
  have hb : ∀ w ∈ bgW, w.before (za z) (zs z) = true := X.2.2.2.2.1
  have hcode := hb _ (hm (.code y bytes maxL ret) (by simp))
  have hini : (Cond.initialized y.cls).before (za z) (zs z) = true := by rw [hcls]; exact hb _ (hm (.initialized own) (by simp))
  obtain ⟨mk, hnamed⟩ := Cond.code_named hcode
  obtain ⟨methM, cM, hmethM, -, -, -, -, -, -, hsigM⟩ := Cond.code_spec hnamed hcode
  have hstatic : methM.isStatic = true := Cond.static_spec hnamed hmethM (hb _ (hm (.static y) (by simp)))
  obtain ⟨kP, hkP, -⟩ := className_of_methodNamed hnamed
  have hinitP : kP.init = .initialized := Cond.initialized_spec (findClass_of_methodNamed hnamed) hkP hini
  obtain ⟨vm₁, X₁, hstep₁⟩ := XS.invokestatic X.1 X.2.2.2.1 (hb _ (hm (.methodLink own index y) (by simp))) hnamed hmethM hstatic hkP hinitP ⟨hy.1, hy.2.1⟩ (g := F0 (zm z) pc ls (As.reverse ++ rest)) rfl (argsL := As) (rest := rest)
    (by have h2 := hy.2.2; rw [hsigM] at h2; exact hn.trans (Option.some.inj h2).symm) rfl (by rw [X.2.1]; exact d)
  have hrm := rm_le (mc := mc) (ms := ms) hz hdd hmx
  have hGI : GoodIn bgW (.code y bytes maxL ret :: bgW) := bg_good (fun w hw => by
    rcases List.mem_cons.mp hw with h | h
    · rw [h]; exact hm _ (by simp)
    · exact h) (fun _ h => h)
  obtain ⟨q, ce, U, L1, X', hL, hce, hcv, hcl, hP', hD', hF, hst⟩ := tx_back (len := 3) hM X₁ hrm.1 hrm.2 (by rw [hz]; exact hk.1) (by rw [hz]; exact hk.2) (pay_in hb hGI) List.mem_cons_self
    (fun a' U hW => word_at hW (Or.inl (by first | rfl | simp [Cond.onTables, Cond.keeps, Cond.steady])) hini) (g := F0 (zm z) pc ls rest) rfl (hl.1.trans X.2.2.1.symm) (by rw [X.2.1]; exact d) (lv_room hrest) (X₁.named hnamed) (pre_at X hP hD hS As hT X₁.warmed)
  refine ⟨q, ce, U, L1, X', hL, hce, hcv, (X₁.warmed.alike.findClass ..).symm.trans hcl, hP', hD', by rw [← hT]; exact hF, fun tg h => hstep₁ _ fun acts => by rw [doInvoke_state]; exact hst.trans h⟩
theorem t_cV (X : Cx E z cc own) (hm : ∀ w ∈ ([.methodLink own index y, .instanceMethod y, .selects y.cls y y, .initialized y.cls, .code y bytes maxL ret] : List Cond), w ∈ bgW) (hy : yOk y nn) (hmx : Nat.ble maxL 17 = true)
    {a ci q0 : Nat} {fs : List Value} {T0 : u_T} {N : Nat} (he : w[q0]? = some (a, .inr (ci, fs))) (hc : vwCl[ci]? = some (y.cls, T0, N))
    (hz : zR z = rmD d0 m0 s0) (hM : TCon (zl z) E y (.code y bytes maxL ret :: bgW) d' mc ms (.ref a :: As) w nm w') (hn : As.length = nn) (hdd : Nat.blt d' d0 = true) (hst : st0 = As.reverse ++ .ref a :: rest) (hrest : (rest.map fun v => v.category).sum ≤ 8) (hk : k + mc ≤ m0 ∧ n + ms ≤ s0)
    (d : decode cc pc = .ok (.invokevirtual index, 3)) (hP : va_P E.1 vwCl w H) (hD : va_D (zA E) w) (hS : va_S (zA E) (zs z).heap H locs) (hl : lv_has ls (zn z) L) : TRun E z H locs k n mc ms pc ls st0 rest nm w' := by
  subst hst
  intro T hT XS
  have hb : ∀ w ∈ bgW, w.before (za z) (zs z) = true := X.2.2.2.2.1
  have hcode := hb _ (hm (.code y bytes maxL ret) (by simp))
  have hini := hb _ (hm (.initialized y.cls) (by simp))
  obtain ⟨mk, methM, hnamed, hmethM, hstM, habM⟩ := Cond.instanceMethod_spec (hb _ (hm (.instanceMethod y) (by simp)))
  obtain ⟨methM', cM, hmethM', -, -, -, -, -, -, hsigM⟩ := Cond.code_spec hnamed hcode
  cases hmethM.symm.trans hmethM'
  obtain ⟨cellB, hcB, hoB, hclB⟩ := va_recv X.2.2.2.2.2.1.2.1 hP hc he
  obtain ⟨c2, r2, m2, q1, q2, q3, q4, kP, hkP, hkPi⟩ := Cond.selects_spec (hb _ (hm (.selects y.cls y y) (by simp)))
  cases hclB.symm.trans q1
  cases (State.methodFound?_of_named hnamed ⟨hy.1, hy.2.1⟩).symm.trans q2
  cases hnamed.symm.trans q3
  have hselP : selectMethod (ze z).platform (zs z).vm cellB.cls mk = .method mk := by rw [Launch.admits_selectMethod XS.admits]; exact q4
  obtain ⟨vm₁, X₁, hstep₁⟩ := XS.invokevirtual X.1 X.2.2.2.1 (hb _ (hm (.methodLink own index y) (by simp))) hnamed hmethM hstM hkP hkPi ⟨hy.1, hy.2.1⟩ (a := a) (cell := cellB) (by rw [hT]; exact hcB)
    (fun z h => by rw [h] at hoB; cases hoB) hselP hmethM habM hkP hkPi (g := F0 (zm z) pc ls (As.reverse ++ .ref a :: rest)) rfl (argsL := As) (rest := rest) (by have h2 := hy.2.2; rw [hsigM] at h2; exact hn.trans (Option.some.inj h2).symm) rfl (by rw [X.2.1]; exact d)
  have hrm := rm_le (mc := mc) (ms := ms) hz hdd hmx
  have hGI : GoodIn bgW (.code y bytes maxL ret :: bgW) := bg_good (fun w hw => by
    rcases List.mem_cons.mp hw with h | h
    · rw [h]; exact hm _ (by simp)
    · exact h) (fun _ h => h)
  obtain ⟨q, ce, U, L1, X', hL, hce, hcv, hcl, hP', hD', hF, hst⟩ := tx_back (len := 3) hM X₁ hrm.1 hrm.2 (by rw [hz]; exact hk.1) (by rw [hz]; exact hk.2) (pay_in hb hGI) List.mem_cons_self
    (fun a' U hW => word_at hW (Or.inl (by first | rfl | simp [Cond.onTables, Cond.keeps, Cond.steady])) hini) (g := F0 (zm z) pc ls rest) rfl (hl.1.trans X.2.2.1.symm) (by rw [X.2.1]; exact d) (lv_room hrest) (X₁.named hnamed) (pre_at X hP hD hS (.ref a :: As) hT X₁.warmed)
  refine ⟨q, ce, U, L1, X', hL, hce, hcv, (X₁.warmed.alike.findClass ..).symm.trans hcl, hP', hD', by rw [← hT]; exact hF, fun tg h => hstep₁ _ fun acts => by rw [doInvoke_state]; exact hst.trans h⟩
/-- it isn't caught here -/
theorem j_out {l : Launch} {d0 : Nat} (X : Cx E z cc own) (Y : TBd l E d0 m0 s0 nm w' z) (hk : k + mc ≤ m0 ∧ n + ms ≤ s0) (hr : ∀ (H : Heap) (locs : List Loc) (ls : Array Slot), va_P E.1 vwCl w H → va_D (zA E) w → va_S (zA E) (zs z).heap H locs → lv_has ls (zn z) L → TRun E z H locs k n mc ms pc ls st0 rest nm w') : J E z k n pc L st0 w := by
  intro H locs ls hP hD hS hl T hT XS
  obtain ⟨q, ce, U, L1, X', hL, hce, hcv, hcl, hP', hD', hF, hst⟩ := hr H locs ls hP hD hS hl T hT XS
  obtain ⟨hwalk, hrun, hend, hwarm, hsame⟩ := X'.leaveThrown q (g := F0 (zm z) pc ls rest) rfl rfl rfl (fun x hx => (Y.2.2.2 x hx).elim) X.2.2.2.2.2.2
  refine ⟨_, hst _ hwalk, ?_⟩
  rw [Y.2.2.1]
  refine ⟨.threw q, hrun, hend, q, ce, locs ++ L1, rfl, hce, hcv, hcl, hP', hD', ⟨Nat.le_trans hS.1 hF.1, fun a h1 h2 => (hF.2 a (Nat.lt_of_lt_of_le h1 hS.1) h2).trans (hS.2.1 a h1 h2)⟩, hwarm, hsame.weaken (fun y hy _ => hy) hk.1 hk.2, fun x hx => ?_⟩
  rcases List.mem_append.mp hx with h | h
  · exact hS.2.2 x h
  · exact hL x h
end TJ
