/-! objects and rows are made -/
theorem con_ofI {l : Launch} {E : eT} {y : MethodName} {cc : ByteArray} {nL d mc ms : Nat} {ret : Option FieldType} {vs : List Value} {w : va_W} {o : Option Value → va_W → Prop} (hy : plainName y.cls = true) (hlen : (lg_sl vs).length ≤ nL)
    (body : ∀ z : zT, Cx E z cc y.cls → Bd l E d mc ms o ret z → zn z = nL → (zt z).name = y.name → J E z 0 0 0 (lv_args 0 vs) [] w) : Con l E y (.code y cc nL ret :: bgW) d mc ms vs w o := by
  refine Met.ofW (cc := cc) (maxL := nL) (ret := ret) hy rfl ?_
  intro p e s m args below meth c s₁ B hml hv
  obtain ⟨rfl, hamb, hP, hD⟩ := hv
  have hts := atoms_spec (ws := .code y cc nL ret :: bgW) B.pre
  have hl := lv_entry vs (n := nL) hlen
  have hnm : meth.name = y.name := (name_of_methodNamed B.named B.method).1
  rw [lg_entry_eq]
  exact body (p, l, e, (headSpec (.code y cc nL ret :: bgW) (rmD d mc ms)).room, s, m, vs.toArray, below, meth, c, MQ below (Ret E o) vs.toArray s mc ms (zA E), nL)
    ⟨B.exec, B.bytes, hml, findClass_of_methodNamed B.named, fun w hw => hts w (List.mem_cons_of_mem _ hw), hamb, B.notSynchronized⟩ ⟨rfl, rfl, rfl, B.returns⟩ rfl hnm s.heap [] _ hP hD va_S.rf hl
section NEW
variable {E : eT} {z : zT} {cc : ByteArray} {own : String} {k n pc : Nat} {L : List (Nat × Value)} {st : List Value} {w : va_W} {d0 m0 s0 : Nat}
theorem am_A (X : Cx E z cc own) : ∀ q, (zs z).heap.size ≤ q → zA E q := fun q h => Nat.le_trans X.2.2.2.2.2.1.1 h
theorem j_objI (X : Cx E z cc own) {idx a : Nat} (hl : Cond.methodLink own idx Lib.objectInit ∈ bgW) (hi : Cond.instanceMethod Lib.objectInit ∈ bgW) (hc : Cond.code Lib.objectInit ⟨#[0xb1]⟩ 1 none ∈ bgW) (hz : zR z = rmD d0 m0 s0) (hd : Nat.blt 0 d0 = true) (hrest : (st.map fun v => v.category).sum ≤ 8) (d : decode cc pc = .ok (.invokespecial idx, 3)) (kk : J E z k n (pc + 3) L st w) : J E z k n pc L (.ref a :: st) w := by
  intro H locs ls hP hD hS hls
  have hd := Nat.blt_eq.mp hd
  have h8 := @lv_room (zm z) pc ls (.ref a :: st) st hrest
  refine W.objInit X.1 X.2.1 X.2.2.2.1 (X.2.2.2.2.1 _ hl) (X.2.2.2.2.1 _ hi) (X.2.2.2.2.1 _ hc) rfl (hls.1.trans X.2.2.1.symm) (rest := st) rfl d (by rw [hz]; exact hd) ?_ (kk H locs ls hP hD hS hls)
  rw [hz]
  show _ ≤ 36 * d0
  exact Nat.le_trans (Nat.add_le_add_right h8 12) (by omega)
theorem j_newC (X : Cx E z cc own) {C : String} {T : u_T} {N ci index : Nat} (hin : ∀ w ∈ u_ws C T N, w ∈ bgW) (ty : Nat → FieldType) (hty : ∀ k, k < N → parseFieldDescriptor (T k).2.2.1 = some (ty k)) (hcl : Cond.classLink own index C ∈ bgW) (hinst : Cond.instantiable C N ∈ bgW) (hini : Cond.initialized C ∈ bgW) (hc : vwCl[ci]? = some (C, T, N)) (fs : List Value) (hfs : ∀ j, j < N → defaultValue (ty j) = vp_V fs j) (hz : zR z = rmD d0 m0 s0) (hk : k + 1 ≤ m0 ∧ n + N ≤ s0) (d : decode cc pc = .ok (.new index, 3))
    (kk : ∀ q : Nat, J E z (k + 1) (n + N) (pc + 3) L (.ref q :: st) (w ++ [(q, .inr (ci, fs))])) : J E z k n pc L st w := fun H locs ls hP hD hS hl =>
  va_new (D := E.1) X.1 X.2.1 X.2.2.2.2.1 hin ty hty X.2.2.2.1 (X.2.2.2.2.1 _ hcl) (X.2.2.2.2.1 _ hinst) (X.2.2.2.2.1 _ hini) X.2.2.2.2.2.1.2.1 hP hD hS (am_A X) hc hfs (by rw [hz]; exact hk.1) (by rw [hz]; exact hk.2) d (fun q H1 hP1 hD1 hS1 => kk q H1 locs ls hP1 hD1 hS1 hl)
theorem j_newA (X : Cx E z cc own) {atype : ArrayType} (harr : Cond.arrayClass (newarray.typeOf atype) ∈ bgW) {ty : FieldType} (hty : newarray.typeOf atype = ty) (t0 : Nat) (ht0 : (tyE E)[t0]? = some (E.2.1 t0, ty)) (hra : ∀ (U : State) (c : ClassId), va_RA U c ty → U.vm.findClass ("[" ++ ty.toString) = some c) {nn : Int} {N' : Nat} {a0 : vp_A} (ha : ∀ cA : ClassId, vp_cell cA a0 = arrV cA N' (fun _ => defaultValue ty)) (hN : nn = N') (hN1 : Nat.ble N' 100000 = true) (hcb : Nat.ble (componentBytes ty) 8 = true) (hz : zR z = rmD d0 m0 s0) (hk : k + 1 ≤ m0 ∧ n + N' ≤ s0) (d : decode cc pc = .ok (.newarray atype, 2))
    (kk : ∀ q : Nat, J E z (k + 1) (n + N') (pc + 2) L (.ref q :: st) (w ++ [(q, .inl (E.2.1 t0, a0))])) : J E z k n pc L (.int (iI nn) :: st) w := by
  intro H locs ls hP hD hS hl
  have hN1 := Nat.le_of_ble_eq_true hN1
  have hcb := Nat.le_of_ble_eq_true hcb
  refine va_newa (D := E.1) X.1 X.2.1 (X.2.2.2.2.1 _ harr) hty X.2.2.2.2.2.1.2.1 hP hD hS (am_A X) ha ?_ ?_ ?_ (by rw [hz]; exact hk.1) (by rw [hz]; exact hk.2) d (fun q cA H1 hK1 hP1 hD1 hS1 => ?_)
  · rw [← iI_0, iI_lt (by omega) (by decide)]; omega
  · rw [iI_clamp (by omega) (by omega), hN]; rfl
  · exact Nat.le_trans (Nat.mul_le_mul hN1 hcb) (by decide)
  · have h1 := hra _ _ (hK1.2 (tyE E).length (cA, ty) (by rw [List.getElem?_append_right (Nat.le_refl _), Nat.sub_self]; rfl)).2
    have h2 := hra _ _ (X.2.2.2.2.2.1.2.1.2 t0 _ ht0).2
    cases h1.symm.trans h2
    exact kk q H1 locs ls hP1 hD1 hS1 hl
theorem j_newQ (X : Cx E z cc own) {index : Nat} (hcl : Cond.classLink own index "TrackUnit$Track" ∈ bgW) {nn : Int} {N' : Nat} (hN : nn = N') (hN1 : Nat.ble N' 100000 = true) (hz : zR z = rmD d0 m0 s0) (hk : k + 1 ≤ m0 ∧ n + N' ≤ s0) (d : decode cc pc = .ok (.anewarray index, 3))
    (kk : ∀ q : Nat, J E z (k + 1) (n + N') (pc + 3) L (.ref q :: st) (w ++ [(q, .inl (E.2.1 4, N', .inr (.inr (.inr (.inr (fun _ => none))))))])) : J E z k n pc L (.int (iI nn) :: st) w := by
  intro H locs ls hP hD hS hl
  have hN1 := Nat.le_of_ble_eq_true hN1
  refine va_newq (D := E.1) X.1 X.2.1 X.2.2.2.1 (X.2.2.2.2.1 _ hcl) X.2.2.2.2.2.1.2.2.2.2.2 X.2.2.2.2.2.1.2.1 hP hD hS (am_A X) ?_ ?_ ?_ (by rw [hz]; exact hk.1) (by rw [hz]; exact hk.2) d (fun q cA H1 hK1 hP1 hD1 hS1 => ?_)
  · rw [← iI_0, iI_lt (by omega) (by decide)]; omega
  · rw [iI_clamp (by omega) (by omega), hN]; rfl
  · omega
  · obtain ⟨kA, comp, -, -, -, h1⟩ := (hK1.2 (tyE E).length (cA, .object "TrackUnit$Track") (by rw [List.getElem?_append_right (Nat.le_refl _), Nat.sub_self]; rfl)).2
    obtain ⟨kA', comp', -, -, -, h2⟩ := (X.2.2.2.2.2.1.2.1.2 4 _ rfl).2
    cases h1.symm.trans h2
    exact kk q H1 locs ls hP1 hD1 hS1 hl
theorem j_putF (X : Cx E z cc own) (hnm : (zt z).name = "<init>") {C : String} {T : u_T} {N ci index q0 a : Nat} {fs : List Value} (hin : ∀ w ∈ u_ws C T N, w ∈ bgW) (ty0 : Nat → FieldType) (hty : ∀ k, k < N → parseFieldDescriptor (T k).2.2.1 = some (ty0 k)) (hfn : ∀ a, a < N → ∀ b, b < N → a ≠ b → (T a).2.1 ≠ (T b).2.1) (he : w[q0]? = some (a, .inr (ci, fs))) (hc : vwCl[ci]? = some (C, T, N)) (i : Nat) (hi : i < N) (hlink : Cond.fieldLink own index (T i).1 (T i).2.1 (T i).2.2.1 ∈ bgW) (hfin : (T i).2.2.2 = true) (hdecl : (T i).1 = own) {ty : FieldType} {v : Value} (hd : parseFieldDescriptor (T i).2.2.1 = some ty) (hn : narrow ty v = v) (hfit : fits ty v = true) (hl : i < fs.length) (d : decode cc pc = .ok (.putfield index, 3))
    (kk : J E z k n (pc + 3) L st (w.set q0 (a, .inr (ci, fs.set i v)))) : J E z k n pc L (v :: .ref a :: st) w := fun H locs ls hP hD hS hls =>
  va_putF (D := E.1) X.1 X.2.1 X.2.2.2.2.1 hin ty0 hty hfn X.2.2.2.1 X.2.2.2.2.2.1.2.1 hP hD hS q0 he hc i hi (X.2.2.2.2.1 _ hlink) (fun _ h => h) hfin hnm hdecl hd hn hfit hl d (fun H1 locs1 hP1 hD1 hS1 => kk H1 locs1 ls hP1 hD1 hS1 hls)
theorem j_getC (X : Cx E z cc own) {C : String} {T : u_T} {N ci index q0 a : Nat} {fs : List Value} (hin : ∀ w ∈ u_ws C T N, w ∈ bgW) (he : w[q0]? = some (a, .inr (ci, fs))) (hc : vwCl[ci]? = some (C, T, N)) (i : Nat) (hi : i < N) (hlink : Cond.fieldLink own index (T i).1 (T i).2.1 (T i).2.2.1 ∈ bgW) {v : Value} (hv : fs[i]? = some v) (d : decode cc pc = .ok (.getfield index, 3)) (kk : J E z k n (pc + 3) L (v :: st) w) : J E z k n pc L (.ref a :: st) w := fun H locs ls hP hD hS hls =>
  va_get (D := E.1) X.1 X.2.1 X.2.2.2.2.1 hin X.2.2.2.1 X.2.2.2.2.2.1.2.1 hP q0 he hc i hi (X.2.2.2.2.1 _ hlink) (fun _ h => h) hv d (kk H locs ls hP hD hS hls)
theorem j_astq (X : Cx E z cc own) {q0 qk a v N : Nat} {vs : List Value} {f : Nat → Option Nat} (ha : w[q0]? = some (a, .inl (E.2.1 4, N, .inr (.inr (.inr (.inr f)))))) (hv : w[qk]? = some (v, .inr (5, vs))) {i : Int} (hi : 0 ≤ i ∧ i < N) (hN : N ≤ 100000) (d : decode cc pc = .ok (.aastore, 1))
    (kk : J E z k n (pc + 1) L st (w.set q0 (a, .inl (E.2.1 4, N, .inr (.inr (.inr (.inr (va_up f i.toNat (some v))))))))) : J E z k n pc L (.ref v :: .int (iI i) :: .ref a :: st) w := by
  intro H locs ls hP hD hS hls
  refine va_astq (D := E.1) (r := (R_T, F_T, 5)) X.1 X.2.1 X.2.2.2.2.2.1.2.1 hP hD hS q0 4 qk 5 ha rfl hv rfl (iI_vin hi.1 hi.2 (by omega)) d (fun H1 locs1 hP1 hD1 hS1 => ?_)
  rw [iI_clamp hi.1 (by omega)] at hP1 hD1
  exact kk H1 locs1 ls hP1 hD1 hS1 hls
theorem j_iastG (X : Cx E z cc own) {q0 a N : Nat} {f : Nat → Int32} (ha : w[q0]? = some (a, .inl (E.2.1 0, N, .inl f))) {i : Int} {x : Int32} (hi : 0 ≤ i ∧ i < N) (hN : N ≤ 100000) (d : decode cc pc = .ok (.iastore, 1))
    (kk : J E z k n (pc + 1) L st (w.set q0 (a, .inl (E.2.1 0, N, .inl (upd f i.toNat x))))) : J E z k n pc L (.int x :: .int (iI i) :: .ref a :: st) w := by
  intro H locs ls hP hD hS hls
  refine va_iast (D := E.1) X.1 X.2.1 X.2.2.2.2.2.1.2.1 hP hD hS q0 0 ha rfl (iI_vin hi.1 hi.2 (by omega)) d (fun H1 locs1 hP1 hD1 hS1 => ?_)
  rw [iI_clamp hi.1 (by omega)] at hP1 hD1
  exact kk H1 locs1 ls hP1 hD1 hS1 hls
variable {y : MethodName} {bytes : ByteArray} {maxL index d' mc ms nn a : Nat} {As rest st0 : List Value} {o : Option Value → va_W → Prop}
theorem j_cI (X : Cx E z cc own) (hlink : Cond.methodLink own index y ∈ bgW) (hin : Cond.instanceMethod y ∈ bgW) (hini : Cond.initialized y.cls ∈ bgW) (hcode : Cond.code y bytes maxL none ∈ bgW) (hy : yOk y nn) (hy1 : y.name = "<init>") (hmx : Nat.ble maxL 17 = true)
    (hz : zR z = rmD d0 m0 s0) (hM : Con (zl z) E y (.code y bytes maxL none :: bgW) d' mc ms (.ref a :: As) w o) (hn : As.length = nn) (hdd : Nat.blt d' d0 = true) (hst : st0 = As.reverse ++ .ref a :: rest) (hrest : (rest.map fun v => v.category).sum ≤ 8) (hk : k + mc ≤ m0 ∧ n + ms ≤ s0)
    (d : decode cc pc = .ok (.invokespecial index, 3)) (kk : ∀ (v : Option Value) (w' : va_W), o v w' → J E z (k + mc) (n + ms) (pc + 3) L (pushv v rest) w') : J E z k n pc L st0 w := by
  subst hst
  refine j_run (a := (Value.ref a :: As).toArray) (rest := rest) X (fun H locs ls hP hD hS hl => ?_) (fun v w' h => by rw [pushv_eq]; exact kk v w' h)
  have hGI : GoodIn bgW (.code y bytes maxL none :: bgW) := bg_good (fun w hw => by
    rcases List.mem_cons.mp hw with h | h
    · rw [h]; exact hcode
    · exact h) (fun _ h => h)
  exact va_runI (Ts := bgW) ⟨X.1, X.2.1, X.2.2.1, X.2.2.2.1, X.2.2.2.2.1⟩ hM (cwI nn X.2.2.2.2.1 hGI rfl rfl rfl (X.2.2.2.2.1 _ hini) (X.2.2.2.2.1 _ hlink) (X.2.2.2.2.1 _ hin) hy1 hy (rm_le hz hdd hmx)) ⟨pre_blind E w _, fun U hU hW => pre_at X hP hD hS _ hU hW⟩ rfl hn hl.1 rfl (lv_room hrest) d (by rw [hz]; exact hk)
theorem j_cIN (X : Cx E z cc own) {host : String} (hlink : Cond.methodLinkNest own index y host ∈ nsW) (hin : Cond.instanceMethod y ∈ bgW) (hini : Cond.initialized y.cls ∈ bgW) (hcode : Cond.code y bytes maxL none ∈ bgW) (hy : yOk y nn) (hy1 : y.name = "<init>") (hmx : Nat.ble maxL 17 = true)
    (hz : zR z = rmD d0 m0 s0) (hM : Con (zl z) E y (.code y bytes maxL none :: bgW) d' mc ms (.ref a :: As) w o) (hn : As.length = nn) (hdd : Nat.blt d' d0 = true) (hst : st0 = As.reverse ++ .ref a :: rest) (hrest : (rest.map fun v => v.category).sum ≤ 8) (hk : k + mc ≤ m0 ∧ n + ms ≤ s0)
    (d : decode cc pc = .ok (.invokespecial index, 3)) (kk : ∀ (v : Option Value) (w' : va_W), o v w' → J E z (k + mc) (n + ms) (pc + 3) L (pushv v rest) w') : J E z k n pc L st0 w := by
  subst hst
  refine j_run (a := (Value.ref a :: As).toArray) (rest := rest) X (fun H locs ls hP hD hS hl => ?_) (fun v w' h => by rw [pushv_eq]; exact kk v w' h)
  have hGI : GoodIn bgW (.code y bytes maxL none :: bgW) := bg_good (fun w hw => by
    rcases List.mem_cons.mp hw with h | h
    · rw [h]; exact hcode
    · exact h) (fun _ h => h)
  exact va_runIN (Ts := bgW) ⟨X.1, X.2.1, X.2.2.1, X.2.2.2.1, X.2.2.2.2.1⟩ hM ⟨va_cnB nn X.2.2.2.2.1 hGI rfl rfl rfl (X.2.2.2.2.2.1.2.2.1 _ hlink) (X.2.2.2.2.1 _ hini) hy (rm_le hz hdd hmx), hy1, X.2.2.2.2.1 _ hin⟩ ⟨pre_blind E w _, fun U hU hW => pre_at X hP hD hS _ hU hW⟩ rfl hn hl.1 rfl (lv_room hrest) d (by rw [hz]; exact hk)
end NEW
theorem at0 (w0 : va_W) (x : Nat × va_E) (t : va_W) : (w0 ++ x :: t)[w0.length]? = some x := by rw [List.getElem?_append_right (Nat.le_refl _), Nat.sub_self]; rfl
theorem at1 (w0 : va_W) (x y : Nat × va_E) (t : va_W) : (w0 ++ x :: y :: t)[w0.length + 1]? = some y := by rw [List.getElem?_append_right (Nat.le_add_right _ _), Nat.add_sub_cancel_left]; rfl
theorem set0 (w0 : va_W) (x y : Nat × va_E) (t : va_W) : (w0 ++ x :: t).set w0.length y = w0 ++ y :: t := by rw [List.set_append_right _ _ (Nat.le_refl _), Nat.sub_self]; rfl
theorem set1 (w0 : va_W) (x y u : Nat × va_E) (t : va_W) : (w0 ++ x :: y :: t).set (w0.length + 1) u = w0 ++ x :: u :: t := by rw [List.set_append_right _ _ (Nat.le_add_right _ _), Nat.add_sub_cancel_left]; rfl
theorem app0 (w0 : va_W) (x : Nat × va_E) (t u : va_W) : (w0 ++ x :: t) ++ u = w0 ++ x :: (t ++ u) := by rw [List.append_assoc]; rfl
