/-! the claim; what stands around whole_start began as kit/laws/SKELETON.whole -/
def R_law : String := "TrackUnitLaw"
def lw_P (b : Addr) (xs : List Int32) (args : Array Value) (s : State) : Prop := args = #[.ref b] ∧ s.IntsAt b xs ∧ xs.length ≤ 2048 ∧ (Jvm.Cond.and given_1 narrow_1).before args s = true
def lw_Q (_ : Array Value) (s : State) (o : Outcome) (t : State) : Prop := o = .returned (some (.int 1)) ∧ Framed s o t [] 601024 7293034
def lw_Z (below : List Frame) (a : Array Value) (s : State) : State → Prop := fun t => ∃ o, t.status = .running ∧ Ended t below o ∧ lw_Q a s o t
/-- the law's own end, with 1 on the stack, nothing written that was there before, its room as the claim has it -/
theorem lw_ret {R : Room} {p : Program} {l : Launch} {e : Env} {s : State} {m : MethodId} {below : List Frame} {meth : Method} {c : Code} {b : Nat} (hx : p.tables.exec = Jvm.exec) (hb : c.code = code) (hr : meth.sig.returnType = ret) (hlocks : meth.locks = false) {pc : Nat} {H : Heap} {ls : Array Slot} (hdg : decode code pc = .ok (.ireturn, 1)) : W p l e R s m #[Value.ref b] below meth c H [] 601024 7293034 (lw_Z below #[Value.ref b] s) (F0 m pc ls [.int 1]) := by
  intro T hT X
  obtain ⟨fs, hret, hrun, hended, hW, hframe⟩ := X.leave (v := some (.int 1)) (hlocks := hlocks) (fun h => by rw [hr] at h; cases h)
  have hmeth' : T.vm.method? m = some meth := X.method'
  refine ⟨T.setFrames fs, ?_, .returned (some (.int 1)), hrun, hended, rfl, ⟨_, rfl⟩, hW, hframe⟩
  jvm_step X.here [X.here.top, hx, hb, hdg, hmeth', hr, ret, narrow_b1]
  (try refine ⟨rfl, ?_⟩); (try refine ⟨rfl, ?_⟩)
  first | (intro acts; rw [hret _ acts rfl rfl rfl]) | rw [hret _ _ rfl rfl rfl]
  exact Steps.refl _
/-- what holds at the law's entry: the machine, the code, the tables' words (any of lw_tbl by 'hts w (by decide +kernel)'), the script of L ints xs at the cell b, what the Statement gives of the start (any of its parts by flat_of_before) -/
def lw_At (p : Program) (s : State) (m : MethodId) (meth : Method) (c : Code) (b L : Nat) (xs : Nat → Int32) : Prop :=
  p.tables.exec = Jvm.exec ∧ c.code = code ∧ meth.sig.returnType = ret ∧ c.maxLocals = 7 ∧ s.vm.findClass R_law = some m.cls ∧ (∀ w ∈ lw_tbl, w.before #[Value.ref b] s = true) ∧ va_X b L xs s s.heap ∧ b < s.heap.size ∧ meth.locks = false ∧ (Jvm.Cond.and given_1 narrow_1).before #[Value.ref b] s = true
theorem hr_le {s : State} {pl : Platform} {R R' : Room} (h : s.hasRoom pl R = true) (h1 : R'.frames ≤ R.frames) (h2 : R'.cells ≤ R.cells) (h3 : R'.slots ≤ R.slots) (h4 : R'.locals ≤ R.locals) : s.hasRoom pl R' = true := by
  simp only [State.hasRoom, Bool.and_eq_true, decide_eq_true_eq] at h ⊢
  obtain ⟨⟨⟨⟨a1, a2, a3, a4, a5, a6⟩, a7⟩, a8⟩, a9⟩ := h
  exact ⟨⟨⟨⟨by omega, by omega, by omega, by omega, by omega, a6⟩, by omega⟩, by omega⟩, a9⟩
theorem w_room {p : Program} {l : Launch} {e : Env} {R R' : Room} {s : State} {m : MethodId} {args : Array Value} {below : List Frame} {meth : Method} {c : Code} {H : Heap} {locs : List Loc} {k n : Nat} {Q : State → Prop} {g : JFrame} (h1 : R'.frames ≤ R.frames) (h2 : R'.cells ≤ R.cells) (h3 : R'.slots ≤ R.slots) (h4 : R'.locals ≤ R.locals) (h : W p l e R' s m args below meth c H locs k n Q g) : W p l e R s m args below meth c H locs k n Q g :=
  fun T hT X => h T hT ⟨X.admits, X.cas, X.clock, X.frames, hr_le X.room h1 h2 h3 h4, X.hears, X.method, X.code, X.here, X.tail, X.warmed, X.limits, X.bytes, X.same⟩
theorem ns_sub : ∀ w ∈ nsW, w ∈ lw_tbl := by decide +kernel
theorem ls_1 : Cond.laysStatic lzT "UNASSIGNED_STACK" lzS ∈ lw_tbl := List.mem_of_getElem? (i := 521) (by decide +kernel)
theorem ls_2 : Cond.laysStatic lzT "SUPPRESSED_SENTINEL" lzV ∈ lw_tbl := List.mem_of_getElem? (i := 523) (by decide +kernel)
theorem ls_3 : Cond.initialized lzT ∈ bgW := bg_in (List.mem_of_getElem? (i := 74) (by decide +kernel)) rfl
theorem ls_4 : Cond.arrayOver (.object "TrackUnit$Track") ∈ lw_tbl := List.mem_of_getElem? (i := 100) (by decide +kernel)
theorem lz_of {C n d : String} {A : Nat → Prop} {args : Array Value} {s : State} (h : (Cond.laysStatic C n d).before args s = true) (hA : ∀ a : Nat, a < s.heap.size → ¬ A a) : lzL C n d A s s.heap := by
  obtain ⟨c, k, i, f, a, cell, h1, h2, h3, h4, h5, h6, h7, h8, h9⟩ := Cond.laysStatic_spec h
  exact ⟨c, k, i, f, a, cell, h1, h2, h3, h4, h5, h6, h7, h8, h9, hA a (Array.getElem?_eq_some_iff.mp h5).1⟩
set_option maxRecDepth 100000 in
/-- from the entry, for every script of at most 2048 ints, the law comes to its end with true -/
theorem whole_start {p : Program} {e : Env} {s : State} {m : MethodId} {below : List Frame} {meth : Method} {c : Code} (l : Launch) (hl0 : l.stackTraces = false) {b L : Nat} {xs : Nat → Int32} (hL : L ≤ 2048) (C0 : lw_At p s m meth c b L xs) : W p l e room_1 s m #[Value.ref b] below meth c s.heap [] 0 0 (lw_Z below #[Value.ref b] s) (entryFrame m ([Value.ref b] : List Value).toArray 7) := by
  obtain ⟨hx, hb, hr, hml, hown, hts, hX, hbl, hlocks, hgv⟩ := C0
  have hfl := flat_of_before _ hgv
  have hbg : ∀ w ∈ bgW, w.before #[Value.ref b] s = true := fun w hw => hts w (List.mem_filter.mp hw).1
  obtain ⟨cB, iB, kB⟩ := u_known (C := R_B) (T := F_B) (N := 1) hbg in_B (hbg _ in2_B)
  obtain ⟨cC, iC, kC⟩ := u_known (C := R_C) (T := F_C) (N := 11) hbg in_C (hbg _ in2_C)
  obtain ⟨cD, iD, kD⟩ := u_known (C := R_D) (T := F_D) (N := 2) hbg in_D (hbg _ in2_D)
  obtain ⟨cH, iH, kH⟩ := u_known (C := R_H) (T := F_H) (N := 5) hbg in_H (hbg _ in2_H)
  obtain ⟨cP, iP, kP⟩ := u_known (C := R_P) (T := F_P) (N := 4) hbg in_P (hbg _ in2_P)
  obtain ⟨cT, iT, kT⟩ := u_known (C := R_T) (T := F_T) (N := 5) hbg in_T (hbg _ in2_T)
  obtain ⟨cU, iU, kU⟩ := u_known (C := R_U) (T := F_U) (N := 6) hbg in_U (hbg _ in2_U)
  obtain ⟨cM, iM, kM⟩ := u_known (C := R_M) (T := F_M) (N := 21) hbg in_M (hbg _ in2_M)
  obtain ⟨aI, eI, gI, fI1, fI2, fI3⟩ := Cond.arrayClass_spec (hbg _ ac_int)
  obtain ⟨aY, eY, gY, fY1, fY2, fY3⟩ := Cond.arrayClass_spec (hbg _ ac_byte)
  obtain ⟨aZ, eZ, gZ, fZ1, fZ2, fZ3⟩ := Cond.arrayClass_spec (hbg _ ac_boolean)
  obtain ⟨aJ, eJ, gJ, fJ1, fJ2, fJ3⟩ := Cond.arrayClass_spec (hbg _ ac_long)
  obtain ⟨gQ, aQ, eQ, fQ0, fQ4, fQ2, fQ3, fQ1⟩ := Cond.arrayOver_spec (hts _ ls_4)
  let E : eT := ((fun c => match c with | 0 => cB | 1 => cC | 2 => cD | 3 => cH | 4 => cP | 5 => cT | 6 => cU | _ => cM, fun c => match c with | 0 => iB | 1 => iC | 2 => iD | 3 => iH | 4 => iP | 5 => iT | 6 => iU | _ => iM), (fun t => match t with | 0 => aI | 1 => aY | 2 => aZ | 3 => aJ | _ => aQ), s.heap.size, fun _ _ => 0)
  have hK : va_K E.1 vwCl (tyE E) s := by
    refine ⟨fun c q hq => ?_, fun k q hq => ?_⟩
    · rcases c with _ | _ | _ | _ | _ | _ | _ | _ | c
      · cases hq; exact kB
      · cases hq; exact kC
      · cases hq; exact kD
      · cases hq; exact kH
      · cases hq; exact kP
      · cases hq; exact kT
      · cases hq; exact kU
      · cases hq; exact kM
      · cases hq
    · rcases k with _ | _ | _ | _ | _ | k
      · cases hq; exact ⟨fun n z => ⟨fun k h => (by cases h), eI, fI2, gI, fI3⟩, fI1⟩
      · cases hq; exact ⟨fun n z => ⟨fun k h => (by cases h), eY, fY2, gY, fY3⟩, fY1⟩
      · cases hq; exact ⟨fun n z => ⟨fun k h => (by cases h), eZ, fZ2, gZ, fZ3⟩, fZ1⟩
      · cases hq; exact ⟨fun n z => ⟨fun k h => (by cases h), eJ, fJ2, gJ, fJ3⟩, fJ1⟩
      · cases hq; exact ⟨fun n z => ⟨fun k h => (by cases h), eQ, fQ2, gQ, fQ3⟩, ⟨eQ, gQ, fQ2, fQ3, fQ0, fQ1⟩⟩
      · cases hq
  have hA : ∀ a : Nat, a < s.heap.size → ¬ zA E a := fun a h q => absurd (Nat.lt_of_lt_of_le h q) (Nat.lt_irrefl a)
  have hamb : Amb E s := ⟨Nat.le_refl _, hK, fun w hw => va_any (ns_tab w hw) (hts w (ns_sub w hw)), ⟨va_Zqof (hts _ ls_1) (hbg _ ls_3) (hfl _ (by decide +kernel)) hA, va_Zqof (hts _ ls_2) (hbg _ ls_3) (hfl _ (by decide +kernel)) hA, lz_of (hts _ ls_1) hA, lz_of (hts _ ls_2) hA⟩, va_Nc.of (hfl _ (by decide +kernel)), hts _ ls_4⟩
  have X : Cx E (p, l, e, rmD 12 601024 7293034, s, m, #[Value.ref b], below, meth, c, lw_Z below #[Value.ref b] s, 7) code R_L := ⟨hx, hb, hml, hown, hbg, hamb, hlocks⟩
  have hEnd : ∀ (k n : Nat) (L : List (Nat × Value)) (w : va_W), k ≤ 601024 → n ≤ 7293034 → J E (p, l, e, rmD 12 601024 7293034, s, m, #[Value.ref b], below, meth, c, lw_Z below #[Value.ref b] s, 7) k n 927 L [.int (iI 1)] w := by
    intro k n L w hk hn H locs ls hP hD hS hl
    refine W.widen hk hn ?_
    refine va_forget (fun q hq => hS.2.2 q hq) ?_
    exact lw_ret hx hb hr hlocks d_L_law_927
  refine w_room (R' := rmD 12 601024 7293034) (Nat.le_of_ble_eq_true rfl) (Nat.le_of_ble_eq_true rfl) (Nat.le_of_ble_eq_true rfl) (Nat.le_of_ble_eq_true rfl) ?_
  rw [lg_entry_eq]
  exact law_all X rfl hl0 rfl hX hbl (hA b hbl) hL hEnd s.heap [] _ (fun _ _ h => by simp at h) ⟨fun _ _ _ _ h => by simp at h, fun _ _ h => by simp at h⟩ va_S.rf (lv_entry [Value.ref b] (Nat.le_of_ble_eq_true rfl))
set_option maxHeartbeats 4000000 in
theorem lw_walk (l : Launch) (hl0 : l.stackTraces = false) (b : Addr) (xs : List Int32) : MetFree l x (headSpec (Jvm.Cond.code x code maxLocals ret :: tables_1) room_1) (lw_P b xs) (fun _ _ _ _ _ => True) lw_Q := by
  refine MetFree.of_bodyS (code := code) (maxLocals := maxLocals) (ret := ret) (by decide) ?_ ?_
  · intro args s m h hn
    obtain ⟨meth, c, h1, h2, h3, h4, h5, h6, -, -⟩ := Cond.code_spec hn (atoms_spec (ws := Jvm.Cond.code x code maxLocals ret :: tables_1) h _ List.mem_cons_self)
    exact ⟨meth, c, h1, h2, h3, h4, h5, h6⟩
  · intro p e s m args below meth c s₁ B hml0 hP _
    obtain ⟨rfl, hx, hbd, hgv⟩ := hP
    obtain ⟨scr, harrAt, hlist, hof, hsmall⟩ := hx
    obtain ⟨hcb, hkn, -, -⟩ := State.arrayAt?_spec harrAt
    have hown : s.vm.findClass R_law = some m.cls := findClass_of_methodNamed B.named
    have hts0 : ∀ c ∈ (Jvm.Cond.code x code maxLocals ret :: tables_1), c.before #[Value.ref b] s = true := atoms_spec (ws := Jvm.Cond.code x code maxLocals ret :: tables_1) B.pre
    have hts : ∀ w ∈ lw_tbl, w.before #[Value.ref b] s = true := k2_hts_sels lw_privs (fun w hw => hts0 w (List.mem_cons_of_mem _ hw)) lw_privs_ok
    have hml : c.maxLocals = 7 := B.maxLocals_eq (hts0 _ List.mem_cons_self)
    have X₀ : Stand p l e room_1 s m #[Value.ref b] below meth c s₁ [] 0 0 := Stand.of_body B
    have hh0 : s₁.heap = s.heap := by rw [B.state]; rfl
    have hsz : scr.slots.size = xs.length := by rw [← Array.length_toList, hlist, List.length_map]
    have hval : ∀ j : Nat, j < xs.length → scr.slots[j]? = some (.int (xs.getD j 0)) := fun j hj => by
      rw [← Array.getElem?_toList, hlist]
      simp [hj]
    have hbl : b < s.heap.size := (Array.getElem?_eq_some_iff.mp hcb).1
    have hX : va_X b xs.length (fun j => xs.getD j 0) s s.heap := ⟨scr, hcb, hof, hkn, hsz, hval⟩
    have K : W p l e room_1 s m #[Value.ref b] below meth c s₁.heap [] 0 0 (lw_Z below #[Value.ref b] s) (entryFrame m ([Value.ref b] : List Value).toArray 7) := by
      rw [hh0]
      exact whole_start l hl0 hbd ⟨B.exec, B.bytes, B.returns, hml, hown, hts, hX, hbl, B.notSynchronized, hgv⟩
    obtain ⟨t, a1, o, b1, b2, b3⟩ := K s₁ rfl X₀
    exact ⟨t, o, a1, b1, b2, b3⟩
theorem lw_pre_spec {args : Array Value} {s : State} (h : (Jvm.Cond.and given_1 narrow_1).before args s = true) (hr : rest_1_c.before args s = true) : ∃ (b : Addr) (xs : List Int32), lw_P b xs args s := by
  have hs := flat_of_before _ h
  have hq := flat_of_before _ hr
  have hc : (Cond.count 1).before args s = true := hs _ (by decide +kernel)
  have harr : (Cond.arrayOf (.arg 0) .int).before args s = true := hs _ (by decide +kernel)
  have hle : (Cond.le (.length (.arg 0)) (.int 2048)).before args s = true := hs _ (by decide +kernel)
  have hlen : (Cond.isInt (.length (.arg 0))).before args s = true := hq _ (by decide +kernel)
  have hall : (Cond.all (.arg 0) (.isInt (.elem (.arg 0) (.index 0)))).before args s = true := hq _ (by decide +kernel)
  obtain ⟨b, xs, hb, hx⟩ := State.ints_of_pre rfl harr hlen hall
  have hsm : xs.length < 2 ^ 31 := hx.choose_spec.2.2.2
  have hev : (Term.length (.arg 0)).eval args s none [] s = some (.int xs.length.toInt32) := hx.length_eval hb
  have hv := Cond.le_ints hev (show (Term.int 2048).eval args s none [] s = some (.int 2048) from rfl)
  have hd : xs.length.toInt32 ≤ 2048 := by
    simpa [Cond.before, Cond.holds, hv] using hle
  have hN : xs.length ≤ 2048 := (Int32.ofNat_le_ofNat hsm (by decide)).mp (show Int32.ofNat xs.length ≤ Int32.ofNat 2048 from hd)
  exact ⟨b, xs, Cond.one_arg hc (show args[0]? = some (.ref b) from hb), hx, hN, h⟩
theorem lw_comes (l : Launch) (hl0 : l.stackTraces = false) : Comes l x (Jvm.Cond.code x code maxLocals ret :: tables_1) room_1 (fun tb e args s => Calls_1 tb e args s ∧ rest_1 tb e args s ∧ Pre_1 tb e args s)
    (fun _ _ args s o t => lw_Q args s o t) := by
  intro p e ha hc hk s m args below hf hfit hheap happ hpre
  obtain ⟨b, xs, hP⟩ := lw_pre_spec hpre.2.2 hpre.2.1
  obtain ⟨k, o, h1, h2, h3, hQ⟩ := lw_walk l hl0 b xs p e ha hc hk s m args below hf ((Spec.applies_iff_loose hf).mp happ).1 hP trivial
  exact ⟨k, o, h1, h2, h3, hQ⟩
theorem lw_frame {s t : State} {o : Outcome} {args : Array Value} (h : Framed s o t [] 601024 7293034) :
    Framed s o t (fieldLocs frame_1_writes args s ++ arrayLocs frame_1_arrays args s ++ staticLocs frame_1_statics s) 601024 7293034 := h
theorem lw_limb (L : Cond) (hL : ∀ (args : Array Value) (s t : State), L.after args s (.returned (some (.int 1))) t = true) :
    ArmFor flags0 classFile x code maxLocals ret World_1 tables_1 room_1 Calls_1 rest_1 Pre_1
      (fun tb e a s o t => postC L tb e a s o t ∧ Framed s o t (fieldLocs frame_1_writes a s ++ arrayLocs frame_1_arrays a s ++ staticLocs frame_1_statics s) 601024 7293034) := by
  intro l hfl _ _ p e ha hc hk s m args below hf hfit hheap happ hpre
  obtain ⟨k, o, h1, h2, h3, rfl, hF⟩ := lw_comes l (by unfold Launch.stackTraces; rw [hfl]; decide +kernel) p e ha hc hk s m args below hf hfit hheap happ hpre
  exact ⟨k, _, h1, h2, h3, hL args s _, lw_frame hF⟩
theorem i_vc : Claimed_1_1 ∧ Claimed_1_2 := ⟨lw_limb limb_1_1 (fun args s t => by simp [limb_1_1, Cond.after, Cond.holds, Cond.value]), lw_limb limb_1_2 (fun args s t => Cond.after_iff.mpr (by
  first | (rw [show limb_1_2 = Cond.eq .result (.int 1) from rfl, Cond.eq_ints (x := 1) (y := 1) rfl rfl]; simp; done) | (simp [limb_1_2, Cond.value, Term.eval]; done)))⟩
