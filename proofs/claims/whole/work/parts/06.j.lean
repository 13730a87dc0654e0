abbrev St : Type := Nat → Int → Int → Int
/-- layouts, array types, base, addresses of the cells -/
abbrev eT : Type := va_G × (Nat → ClassId) × Nat × (Nat → Int → Nat)
def tyE (E : eT) : List (ClassId × FieldType) := [(E.2.1 0, .int), (E.2.1 1, .byte), (E.2.1 2, .boolean), (E.2.1 3, .long), (E.2.1 4, .object "TrackUnit$Track")]
abbrev zT : Type := Program × Launch × Env × Room × State × MethodId × Array Value × List Frame × Method × Code × (State → Prop) × Nat
abbrev zp (z : zT) : Program := z.1
abbrev zl (z : zT) : Launch := z.2.1
abbrev ze (z : zT) : Env := z.2.2.1
abbrev zR (z : zT) : Room := z.2.2.2.1
abbrev zs (z : zT) : State := z.2.2.2.2.1
abbrev zm (z : zT) : MethodId := z.2.2.2.2.2.1
abbrev za (z : zT) : Array Value := z.2.2.2.2.2.2.1
abbrev zb (z : zT) : List Frame := z.2.2.2.2.2.2.2.1
abbrev zt (z : zT) : Method := z.2.2.2.2.2.2.2.2.1
abbrev zc (z : zT) : Code := z.2.2.2.2.2.2.2.2.2.1
abbrev zQ (z : zT) : State → Prop := z.2.2.2.2.2.2.2.2.2.2.1
abbrev zn (z : zT) : Nat := z.2.2.2.2.2.2.2.2.2.2.2
def zA (E : eT) : Nat → Prop := fun q => E.2.2.1 ≤ q
/-- where a static field lies: its cell is none that may change -/
def lzL (C n d : String) (A : Nat → Prop) (U : State) (H : Heap) : Prop := ∃ (c : ClassId) (k : Class) (i : Nat) (f : Field) (a : Nat) (cell : Cell), U.vm.findClass C = some c ∧ U.fieldFound? C n d = some (c, k, i, f) ∧ f.isStatic = true ∧ k.statics = some a ∧ H[a]? = some cell ∧ cell.vm.isStatics = true ∧ cell.cls = c ∧ f.slot < cell.slots.size ∧ k.staticTypes[f.slot]? = some f.type ∧ ¬ A a
theorem lzL.moved {C n d : String} {A : Nat → Prop} {u U : State} {H : Heap} (hvm : u.vm.Alike U.vm) (h : lzL C n d A u H) : lzL C n d A U H := by
  obtain ⟨c, k, i, f, a, cell, h1, h2, h3, h4, h5, h6, h7, h8, h9, h10⟩ := h
  obtain ⟨k', hi', he⟩ := State.fieldFound?_setVm hvm h2
  exact ⟨c, k', i, f, a, cell, (hvm.findClass ..).trans h1, hi', h3, by rw [he]; exact h4, h5, h6, h7, h8, by rw [he]; exact h9, h10⟩
theorem lzL.kept {C n d : String} {A : Nat → Prop} {U : State} {H H1 : Heap} (h : lzL C n d A U H) (hq : ∀ a : Nat, a < H.size → ¬ A a → H1[a]? = H[a]?) : lzL C n d A U H1 := by
  obtain ⟨c, k, i, f, a, cell, h1, h2, h3, h4, h5, h6⟩ := h
  exact ⟨c, k, i, f, a, cell, h1, h2, h3, h4, (hq a (Array.getElem?_eq_some_iff.mp h5).1 h6.2.2.2.2).trans h5, h6⟩
def lzT : String := "java/lang/Throwable"
def lzS : String := "[Ljava/lang/StackTraceElement;"
def lzV : String := "Ljava/util/List;"
def Thz (A : Nat → Prop) (U : State) (H : Heap) : Prop := va_Zq lzT "UNASSIGNED_STACK" lzS A U H ∧ va_Zq lzT "SUPPRESSED_SENTINEL" lzV A U H ∧ lzL lzT "UNASSIGNED_STACK" lzS A U H ∧ lzL lzT "SUPPRESSED_SENTINEL" lzV A U H
theorem Thz.moved {A : Nat → Prop} {u U : State} {H : Heap} (hvm : u.vm.Alike U.vm) (h : Thz A u H) : Thz A U H := ⟨h.1.moved hvm, h.2.1.moved hvm, h.2.2.1.moved hvm, h.2.2.2.moved hvm⟩
theorem Thz.kept {A : Nat → Prop} {U : State} {H H1 : Heap} (h : Thz A U H) (hq : ∀ a : Nat, a < H.size → ¬ A a → H1[a]? = H[a]?) : Thz A U H1 := ⟨h.1.kept hq, h.2.1.kept hq, h.2.2.1.kept hq, h.2.2.2.kept hq⟩
def Amb (E : eT) (U : State) : Prop := E.2.2.1 ≤ U.heap.size ∧ va_K E.1 vwCl (tyE E) U ∧ (∀ w ∈ nsW, va_Nw w U) ∧ Thz (zA E) U U.heap ∧ va_Nc "java/lang/IllegalStateException" "java/lang/IllegalArgumentException" U ∧ va_AO "TrackUnit$Track" U
def Cx (E : eT) (z : zT) (cc : ByteArray) (own : String) : Prop := (zp z).tables.exec = Jvm.exec ∧ (zc z).code = cc ∧ (zc z).maxLocals = zn z ∧ (zs z).vm.findClass own = some (zm z).cls ∧ (∀ w ∈ bgW, w.before (za z) (zs z) = true) ∧ Amb E (zs z) ∧ (zt z).locks = false
def J (E : eT) (z : zT) (k n pc : Nat) (L : List (Nat × Value)) (st : List Value) (w : va_W) : Prop :=
  ∀ (H : Heap) (locs : List Loc) (ls : Array Slot), va_P E.1 vwCl w H → va_D (zA E) w → va_S (zA E) (zs z).heap H locs → lv_has ls (zn z) L →
    W (zp z) (zl z) (ze z) (zR z) (zs z) (zm z) (za z) (zb z) (zt z) (zc z) H locs k n (zQ z) (F0 (zm z) pc ls st)
theorem lk_at {ls : Array Slot} {nL : Nat} {L : List (Nat × Value)} (h : lv_has ls nL L) : ∀ {i : Nat} {v : Value}, L.lookup i = some v → ls[i]? = some (.val v) := by
  intro i v hv
  refine h.2.2 (i, v) ?_
  clear h
  induction L with
  | nil => cases hv
  | cons q r ih =>
    obtain ⟨j, u⟩ := q
    rw [List.lookup_cons] at hv
    by_cases hj : (i == j) = true
    · rw [hj] at hv
      cases hv
      rw [beq_iff_eq] at hj
      rw [hj]
      exact List.mem_cons_self
    · rw [Bool.not_eq_true] at hj
      rw [hj] at hv
      exact List.mem_cons_of_mem _ (ih hv)
/-- a local is set: the list stays in the order of the places -/
def lins (i : Nat) (v : Value) : List (Nat × Value) → List (Nat × Value)
  | [] => [(i, v)]
  | q :: r => bif Nat.blt i q.1 then (i, v) :: q :: r else q :: lins i v r
def lset1 (L : List (Nat × Value)) (i : Nat) (v : Value) : List (Nat × Value) := lins i v (L.filter (fun q => !(q.1 == i) && !(q.1 + 1 == i && q.2.category == 2)))
def lset2 (L : List (Nat × Value)) (i : Nat) (v : Value) : List (Nat × Value) := lins i v (L.filter (fun q => !(q.1 == i) && (!(q.1 == i + 1) && !(q.1 + 1 == i && q.2.category == 2))))
theorem lins_mem {i : Nat} {v : Value} {q : Nat × Value} : ∀ {r : List (Nat × Value)}, q ∈ lins i v r → q ∈ (i, v) :: r := by
  intro r
  induction r with
  | nil => exact fun h => h
  | cons a r ih =>
    intro h
    unfold lins at h
    cases hb : Nat.blt i a.1 with
    | true => rw [hb] at h; exact h
    | false =>
      rw [hb] at h
      rcases List.mem_cons.mp h with h | h
      · rw [h]; exact List.mem_cons_of_mem _ List.mem_cons_self
      · rcases List.mem_cons.mp (ih h) with h | h
        · rw [h]; exact List.mem_cons_self
        · exact List.mem_cons_of_mem _ (List.mem_cons_of_mem _ h)
theorem lins_has {ls : Array Slot} {nL i : Nat} {v : Value} {r : List (Nat × Value)} (h : lv_has ls nL ((i, v) :: r)) : lv_has ls nL (lins i v r) := ⟨h.1, h.2.1, fun q hq => h.2.2 q (lins_mem hq)⟩
def cmpI (a b : Int) : Int := if b < a then 1 else if a = b then 0 else -1
theorem cmpI_eq {a b : Int} (ha : inL a) (hb : inL b) : lg_cmp (iL a) (iL b) = iI (cmpI a b) := by
  unfold lg_cmp cmpI
  by_cases h : b < a
  · rw [if_pos ((iL_lt hb ha).mpr h), if_pos h]; rfl
  · rw [if_neg (fun q => h ((iL_lt hb ha).mp q)), if_neg h]
    by_cases e : a = b
    · rw [if_pos ((iL_eq ha hb).mpr e), if_pos e]; rfl
    · rw [if_neg (fun q => e ((iL_eq ha hb).mp q)), if_neg e]; rfl
section JR
variable {E : eT} {z : zT} {cc : ByteArray} {own : String} {k n pc : Nat} {L : List (Nat × Value)} {st : List Value} {w : va_W}
theorem j_loc {L' : List (Nat × Value)} (h : ∀ q ∈ L', q ∈ L) (kk : J E z k n pc L' st w) : J E z k n pc L st w := fun H locs ls hP hD hS hl => kk H locs ls hP hD hS ⟨hl.1, hl.2.1, fun q hq => hl.2.2 q (h q hq)⟩
theorem j_topi {x y : Int32} (h : x = y) (kk : J E z k n pc L (.int y :: st) w) : J E z k n pc L (.int x :: st) w := by rw [h]; exact kk
theorem j_topl {x y : Int64} (h : x = y) (kk : J E z k n pc L (.long y :: st) w) : J E z k n pc L (.long x :: st) w := by rw [h]; exact kk
theorem j_widen {k' n' : Nat} (h1 : k ≤ k') (h2 : n ≤ n') (kk : J E z k' n' pc L st w) : J E z k n pc L st w := fun H locs ls hP hD hS hl => W.widen h1 h2 (kk H locs ls hP hD hS hl)
theorem j_w {w' : va_W} (h : w = w') (kk : J E z k n pc L st w') : J E z k n pc L st w := by rw [h]; exact kk
theorem j_iconst (X : Cx E z cc own) {v : Int} (d : decode cc pc = .ok (.iconst v, 1)) (kk : J E z k n (pc + 1) L (.int (iI v) :: st) w) : J E z k n pc L st w := fun H locs ls hP hD hS hl => lv_iconst (v := iI v) X.1 X.2.1 d rfl (kk H locs ls hP hD hS hl)
theorem j_bipush (X : Cx E z cc own) {v : Int} (hv : (Int8.ofInt v).toInt32 = iI v) (d : decode cc pc = .ok (.bipush v, 2)) (kk : J E z k n (pc + 2) L (.int (iI v) :: st) w) : J E z k n pc L st w := fun H locs ls hP hD hS hl => lv_bipush (v := iI v) X.1 X.2.1 d hv (kk H locs ls hP hD hS hl)
theorem j_sipush (X : Cx E z cc own) {v : Int} (hv : (Int16.ofInt v).toInt32 = iI v) (d : decode cc pc = .ok (.sipush v, 3)) (kk : J E z k n (pc + 3) L (.int (iI v) :: st) w) : J E z k n pc L st w := fun H locs ls hP hD hS hl => lv_sipush (v := iI v) X.1 X.2.1 d hv (kk H locs ls hP hD hS hl)
theorem j_lconst (X : Cx E z cc own) {v : Fin 2} (d : decode cc pc = .ok (.lconst v, 1)) (kk : J E z k n (pc + 1) L (.long (iL (v : Nat)) :: st) w) : J E z k n pc L st w := fun H locs ls hP hD hS hl => lv_lconst (v := iL (v : Nat)) X.1 X.2.1 d Int64.ofInt_eq_ofNat.symm (kk H locs ls hP hD hS hl)
theorem j_iload_n (X : Cx E z cc own) {i : Fin 4} {x : Int32} (hL : L.lookup (i : Nat) = some (.int x)) (d : decode cc pc = .ok (.iload_n i, 1)) (kk : J E z k n (pc + 1) L (.int x :: st) w) : J E z k n pc L st w := fun H locs ls hP hD hS hl => lv_iload_n X.1 X.2.1 d rfl (lk_at hl hL) (kk H locs ls hP hD hS hl)
theorem j_iload (X : Cx E z cc own) {i : Nat} {x : Int32} (hL : L.lookup i = some (.int x)) (d : decode cc pc = .ok (.iload i, 2)) (kk : J E z k n (pc + 2) L (.int x :: st) w) : J E z k n pc L st w := fun H locs ls hP hD hS hl => lv_iload X.1 X.2.1 d (lk_at hl hL) (kk H locs ls hP hD hS hl)
theorem j_istore_n (X : Cx E z cc own) {i : Fin 4} {x : Int32} (hn : (i : Nat) < zn z) (d : decode cc pc = .ok (.istore_n i, 1)) (kk : J E z k n (pc + 1) (lset1 L (i : Nat) (.int x)) st w) : J E z k n pc L (.int x :: st) w := fun H locs ls hP hD hS hl => lv_istore_n X.1 X.2.1 d rfl hl hn rfl (fun ls' hl' => kk H locs ls' hP hD hS (lins_has hl'))
theorem j_istore (X : Cx E z cc own) {i : Nat} {x : Int32} (hn : (i : Nat) < zn z) (d : decode cc pc = .ok (.istore i, 2)) (kk : J E z k n (pc + 2) (lset1 L i (.int x)) st w) : J E z k n pc L (.int x :: st) w := fun H locs ls hP hD hS hl => lv_istore X.1 X.2.1 d hl hn rfl (fun ls' hl' => kk H locs ls' hP hD hS (lins_has hl'))
theorem j_lload_n (X : Cx E z cc own) {i : Fin 4} {x : Int64} (hL : L.lookup (i : Nat) = some (.long x)) (d : decode cc pc = .ok (.lload_n i, 1)) (kk : J E z k n (pc + 1) L (.long x :: st) w) : J E z k n pc L st w := fun H locs ls hP hD hS hl => lv_lload_n X.1 X.2.1 d rfl (lk_at hl hL) (kk H locs ls hP hD hS hl)
theorem j_lload (X : Cx E z cc own) {i : Nat} {x : Int64} (hL : L.lookup i = some (.long x)) (d : decode cc pc = .ok (.lload i, 2)) (kk : J E z k n (pc + 2) L (.long x :: st) w) : J E z k n pc L st w := fun H locs ls hP hD hS hl => lv_lload X.1 X.2.1 d (lk_at hl hL) (kk H locs ls hP hD hS hl)
theorem j_lstore_n (X : Cx E z cc own) {i : Fin 4} {x : Int64} (hn : (i : Nat) + 1 < zn z) (d : decode cc pc = .ok (.lstore_n i, 1)) (kk : J E z k n (pc + 1) (lset2 L (i : Nat) (.long x)) st w) : J E z k n pc L (.long x :: st) w := fun H locs ls hP hD hS hl => lv_lstore_n X.1 X.2.1 d rfl hl hn rfl (fun ls' hl' => kk H locs ls' hP hD hS (lins_has hl'))
theorem j_lstore (X : Cx E z cc own) {i : Nat} {x : Int64} (hn : (i : Nat) + 1 < zn z) (d : decode cc pc = .ok (.lstore i, 2)) (kk : J E z k n (pc + 2) (lset2 L i (.long x)) st w) : J E z k n pc L (.long x :: st) w := fun H locs ls hP hD hS hl => lv_lstore X.1 X.2.1 d hl hn rfl (fun ls' hl' => kk H locs ls' hP hD hS (lins_has hl'))
theorem j_aload_n (X : Cx E z cc own) {i : Fin 4} {x : Nat} (hL : L.lookup (i : Nat) = some (.ref x)) (d : decode cc pc = .ok (.aload_n i, 1)) (kk : J E z k n (pc + 1) L (.ref x :: st) w) : J E z k n pc L st w := fun H locs ls hP hD hS hl => lv_aload_n X.1 X.2.1 d rfl (lk_at hl hL) (kk H locs ls hP hD hS hl)
theorem j_aload (X : Cx E z cc own) {i : Nat} {x : Nat} (hL : L.lookup i = some (.ref x)) (d : decode cc pc = .ok (.aload i, 2)) (kk : J E z k n (pc + 2) L (.ref x :: st) w) : J E z k n pc L st w := fun H locs ls hP hD hS hl => lv_aload X.1 X.2.1 d (lk_at hl hL) (kk H locs ls hP hD hS hl)
theorem j_astore_n (X : Cx E z cc own) {i : Fin 4} {x : Nat} (hn : (i : Nat) < zn z) (d : decode cc pc = .ok (.astore_n i, 1)) (kk : J E z k n (pc + 1) (lset1 L (i : Nat) (.ref x)) st w) : J E z k n pc L (.ref x :: st) w := fun H locs ls hP hD hS hl => lv_astore_n X.1 X.2.1 d rfl hl hn rfl (fun ls' hl' => kk H locs ls' hP hD hS (lins_has hl'))
theorem j_astore (X : Cx E z cc own) {i : Nat} {x : Nat} (hn : (i : Nat) < zn z) (d : decode cc pc = .ok (.astore i, 2)) (kk : J E z k n (pc + 2) (lset1 L i (.ref x)) st w) : J E z k n pc L (.ref x :: st) w := fun H locs ls hP hD hS hl => lv_astore X.1 X.2.1 d hl hn rfl (fun ls' hl' => kk H locs ls' hP hD hS (lins_has hl'))
theorem j_iinc (X : Cx E z cc own) {i : Nat} {v a : Int} (hL : L.lookup i = some (.int (iI a))) (hn : i < zn z) (d : decode cc pc = .ok (.iinc i v, 3)) (kk : J E z k n (pc + 3) (lset1 L i (.int (iI (a + v)))) st w) : J E z k n pc L st w := by
  intro H locs ls hP hD hS hl
  have h1 : lv_has ls (zn z) ((i, .int (iI a)) :: L) := ⟨hl.1, hl.2.1, fun q hq => by
    rcases List.mem_cons.mp hq with h | h
    · rw [h]; exact lk_at hl hL
    · exact hl.2.2 q h⟩
  refine lv_iinc (k := 0) (x := iI a) (v := iI (a + v)) X.1 X.2.1 d h1 rfl (iI_add a v) hn rfl (fun ls' hl' => kk H locs ls' hP hD hS (lins_has ⟨hl'.1, hl'.2.1, fun q hq => hl'.2.2 q ?_⟩))
  rcases List.mem_cons.mp hq with h | h
  · rw [h]; exact List.mem_cons_self
  · refine List.mem_cons_of_mem _ ?_
    obtain ⟨h2, h3⟩ := List.mem_filter.mp h
    exact List.mem_filter.mpr ⟨List.mem_cons_of_mem _ h2, h3⟩
theorem j_iadd (X : Cx E z cc own) {a b : Int} (d : decode cc pc = .ok (.iadd, 1)) (kk : J E z k n (pc + 1) L (.int (iI (a + b)) :: st) w) : J E z k n pc L (.int (iI b) :: .int (iI a) :: st) w := fun H locs ls hP hD hS hl => lv_iadd X.1 X.2.1 d (by rw [iI_add]; exact kk H locs ls hP hD hS hl)
theorem j_isub (X : Cx E z cc own) {a b : Int} (d : decode cc pc = .ok (.isub, 1)) (kk : J E z k n (pc + 1) L (.int (iI (a - b)) :: st) w) : J E z k n pc L (.int (iI b) :: .int (iI a) :: st) w := fun H locs ls hP hD hS hl => lv_isub X.1 X.2.1 d (by rw [iI_sub]; exact kk H locs ls hP hD hS hl)
theorem j_imul (X : Cx E z cc own) {a b : Int} (d : decode cc pc = .ok (.imul, 1)) (kk : J E z k n (pc + 1) L (.int (iI (a * b)) :: st) w) : J E z k n pc L (.int (iI b) :: .int (iI a) :: st) w := fun H locs ls hP hD hS hl => lv_imul X.1 X.2.1 d (by rw [iI_mul]; exact kk H locs ls hP hD hS hl)
theorem j_ladd (X : Cx E z cc own) {a b : Int} (d : decode cc pc = .ok (.ladd, 1)) (kk : J E z k n (pc + 1) L (.long (iL (a + b)) :: st) w) : J E z k n pc L (.long (iL b) :: .long (iL a) :: st) w := fun H locs ls hP hD hS hl => lv_ladd X.1 X.2.1 d (by rw [iL_add]; exact kk H locs ls hP hD hS hl)
theorem j_lsub (X : Cx E z cc own) {a b : Int} (d : decode cc pc = .ok (.lsub, 1)) (kk : J E z k n (pc + 1) L (.long (iL (a - b)) :: st) w) : J E z k n pc L (.long (iL b) :: .long (iL a) :: st) w := fun H locs ls hP hD hS hl => lv_lsub X.1 X.2.1 d (by rw [iL_sub]; exact kk H locs ls hP hD hS hl)
theorem j_lmul (X : Cx E z cc own) {a b : Int} (d : decode cc pc = .ok (.lmul, 1)) (kk : J E z k n (pc + 1) L (.long (iL (a * b)) :: st) w) : J E z k n pc L (.long (iL b) :: .long (iL a) :: st) w := fun H locs ls hP hD hS hl => lv_lmul X.1 X.2.1 d (by rw [iL_mul]; exact kk H locs ls hP hD hS hl)
theorem j_ineg (X : Cx E z cc own) {a : Int} (d : decode cc pc = .ok (.ineg, 1)) (kk : J E z k n (pc + 1) L (.int (iI (-a)) :: st) w) : J E z k n pc L (.int (iI a) :: st) w := fun H locs ls hP hD hS hl => lv_ineg X.1 X.2.1 d (by rw [iI_neg]; exact kk H locs ls hP hD hS hl)
theorem j_idiv (X : Cx E z cc own) {a b : Int} (h0 : 0 ≤ a) (ha : a ≤ 2147483647) (hb0 : 0 < b) (hb : b ≤ 2147483647) (d : decode cc pc = .ok (.idiv, 1)) (kk : J E z k n (pc + 1) L (.int (iI (a / b)) :: st) w) : J E z k n pc L (.int (iI b) :: .int (iI a) :: st) w := fun H locs ls hP hD hS hl => lv_idiv X.1 X.2.1 d (fun q => by have := (iI_eq (a := b) (b := 0) ⟨by omega, by omega⟩ (by decide)).mp q; omega) (by rw [iI_div h0 ha hb0 hb]; exact kk H locs ls hP hD hS hl)
theorem j_irem (X : Cx E z cc own) {a b : Int} (h0 : 0 ≤ a) (ha : a ≤ 2147483647) (hb0 : 0 < b) (hb : b ≤ 2147483647) (d : decode cc pc = .ok (.irem, 1)) (kk : J E z k n (pc + 1) L (.int (iI (a % b)) :: st) w) : J E z k n pc L (.int (iI b) :: .int (iI a) :: st) w := fun H locs ls hP hD hS hl => lv_irem X.1 X.2.1 d (fun q => by have := (iI_eq (a := b) (b := 0) ⟨by omega, by omega⟩ (by decide)).mp q; omega) (by rw [iI_rem h0 ha hb0 hb]; exact kk H locs ls hP hD hS hl)
theorem j_ldiv (X : Cx E z cc own) {a b : Int} (h0 : 0 ≤ a) (ha : a ≤ 9223372036854775807) (hb0 : 0 < b) (hb : b ≤ 9223372036854775807) (d : decode cc pc = .ok (.ldiv, 1)) (kk : J E z k n (pc + 1) L (.long (iL (a / b)) :: st) w) : J E z k n pc L (.long (iL b) :: .long (iL a) :: st) w := fun H locs ls hP hD hS hl => lv_ldiv X.1 X.2.1 d (fun q => by have := (iL_eq (a := b) (b := 0) ⟨by omega, by omega⟩ (by decide)).mp q; omega) (by rw [iL_div h0 ha hb0 hb]; exact kk H locs ls hP hD hS hl)
theorem j_lrem (X : Cx E z cc own) {a b : Int} (h0 : 0 ≤ a) (ha : a ≤ 9223372036854775807) (hb0 : 0 < b) (hb : b ≤ 9223372036854775807) (d : decode cc pc = .ok (.lrem, 1)) (kk : J E z k n (pc + 1) L (.long (iL (a % b)) :: st) w) : J E z k n pc L (.long (iL b) :: .long (iL a) :: st) w := fun H locs ls hP hD hS hl => lv_lrem X.1 X.2.1 d (fun q => by have := (iL_eq (a := b) (b := 0) ⟨by omega, by omega⟩ (by decide)).mp q; omega) (by rw [iL_rem h0 ha hb0 hb]; exact kk H locs ls hP hD hS hl)
theorem j_iand (X : Cx E z cc own) {x y : Int32} (d : decode cc pc = .ok (.iand, 1)) (kk : J E z k n (pc + 1) L (.int (x &&& y) :: st) w) : J E z k n pc L (.int y :: .int x :: st) w := fun H locs ls hP hD hS hl => lv_iand X.1 X.2.1 d (kk H locs ls hP hD hS hl)
theorem j_ior (X : Cx E z cc own) {x y : Int32} (d : decode cc pc = .ok (.ior, 1)) (kk : J E z k n (pc + 1) L (.int (x ||| y) :: st) w) : J E z k n pc L (.int y :: .int x :: st) w := fun H locs ls hP hD hS hl => lv_ior X.1 X.2.1 d (kk H locs ls hP hD hS hl)
theorem j_ixor (X : Cx E z cc own) {x y : Int32} (d : decode cc pc = .ok (.ixor, 1)) (kk : J E z k n (pc + 1) L (.int (x ^^^ y) :: st) w) : J E z k n pc L (.int y :: .int x :: st) w := fun H locs ls hP hD hS hl => lv_ixor X.1 X.2.1 d (kk H locs ls hP hD hS hl)
theorem j_land (X : Cx E z cc own) {x y : Int64} (d : decode cc pc = .ok (.land, 1)) (kk : J E z k n (pc + 1) L (.long (x &&& y) :: st) w) : J E z k n pc L (.long y :: .long x :: st) w := fun H locs ls hP hD hS hl => lv_land X.1 X.2.1 d (kk H locs ls hP hD hS hl)
theorem j_ishl (X : Cx E z cc own) {x y : Int32} (d : decode cc pc = .ok (.ishl, 1)) (kk : J E z k n (pc + 1) L (.int (x <<< (y &&& 31)) :: st) w) : J E z k n pc L (.int y :: .int x :: st) w := fun H locs ls hP hD hS hl => lv_ishl X.1 X.2.1 d (kk H locs ls hP hD hS hl)
theorem j_ishr (X : Cx E z cc own) {x y : Int32} (d : decode cc pc = .ok (.ishr, 1)) (kk : J E z k n (pc + 1) L (.int (x >>> (y &&& 31)) :: st) w) : J E z k n pc L (.int y :: .int x :: st) w := fun H locs ls hP hD hS hl => lv_ishr X.1 X.2.1 d (kk H locs ls hP hD hS hl)
theorem j_iushr (X : Cx E z cc own) {x y : Int32} (d : decode cc pc = .ok (.iushr, 1)) (kk : J E z k n (pc + 1) L (.int (x.toUInt32 >>> (y.toUInt32 &&& Int32.toUInt32 31)).toInt32 :: st) w) : J E z k n pc L (.int y :: .int x :: st) w := fun H locs ls hP hD hS hl => lv_iushr X.1 X.2.1 d rfl (kk H locs ls hP hD hS hl)
theorem j_i2l (X : Cx E z cc own) {a : Int} (ha : inR a) (d : decode cc pc = .ok (.i2l, 1)) (kk : J E z k n (pc + 1) L (.long (iL a) :: st) w) : J E z k n pc L (.int (iI a) :: st) w := fun H locs ls hP hD hS hl => lv_i2l X.1 X.2.1 d (iI_l ha) (kk H locs ls hP hD hS hl)
theorem j_l2i (X : Cx E z cc own) {a : Int} (d : decode cc pc = .ok (.l2i, 1)) (kk : J E z k n (pc + 1) L (.int (iI a) :: st) w) : J E z k n pc L (.long (iL a) :: st) w := fun H locs ls hP hD hS hl => lv_l2i X.1 X.2.1 d (iL_i a) (kk H locs ls hP hD hS hl)
theorem j_i2b (X : Cx E z cc own) {a : Int} (d : decode cc pc = .ok (.i2b, 1)) (kk : J E z k n (pc + 1) L (.int (iI (a.bmod 256)) :: st) w) : J E z k n pc L (.int (iI a) :: st) w := fun H locs ls hP hD hS hl => lv_i2b X.1 X.2.1 d (iI_b a) (kk H locs ls hP hD hS hl)
theorem j_dup (X : Cx E z cc own) {v : Value} (hv : v.category = 1) (d : decode cc pc = .ok (.dup, 1)) (kk : J E z k n (pc + 1) L (v :: v :: st) w) : J E z k n pc L (v :: st) w := fun H locs ls hP hD hS hl => lv_dup X.1 X.2.1 d hv (kk H locs ls hP hD hS hl)
theorem j_pop (X : Cx E z cc own) {v : Value} (hv : v.category = 1) (d : decode cc pc = .ok (.pop, 1)) (kk : J E z k n (pc + 1) L st w) : J E z k n pc L (v :: st) w := fun H locs ls hP hD hS hl => lv_pop X.1 X.2.1 d hv (kk H locs ls hP hD hS hl)
theorem j_dup_x1 (X : Cx E z cc own) {v u : Value} (hv : v.category = 1) (hu : u.category = 1) (d : decode cc pc = .ok (.dup_x1, 1)) (kk : J E z k n (pc + 1) L (v :: u :: v :: st) w) : J E z k n pc L (v :: u :: st) w := fun H locs ls hP hD hS hl => lv_dup_x1 X.1 X.2.1 d hv hu (kk H locs ls hP hD hS hl)
theorem j_dup_x2 (X : Cx E z cc own) {v u t : Value} (hv : v.category = 1) (hu : u.category = 1) (ht : t.category = 1) (d : decode cc pc = .ok (.dup_x2, 1)) (kk : J E z k n (pc + 1) L (v :: u :: t :: v :: st) w) : J E z k n pc L (v :: u :: t :: st) w := fun H locs ls hP hD hS hl => lv_dup_x2 X.1 X.2.1 d hv hu ht (kk H locs ls hP hD hS hl)
theorem j_dup2 (X : Cx E z cc own) {v u : Value} (hv : v.category = 1) (hu : u.category = 1) (d : decode cc pc = .ok (.dup2, 1)) (kk : J E z k n (pc + 1) L (v :: u :: v :: u :: st) w) : J E z k n pc L (v :: u :: st) w := fun H locs ls hP hD hS hl => lv_dup2_11 X.1 X.2.1 d hv hu (kk H locs ls hP hD hS hl)
theorem j_lcmp (X : Cx E z cc own) {a b : Int} (ha : inL a) (hb : inL b) (d : decode cc pc = .ok (.lcmp, 1)) (kk : J E z k n (pc + 1) L (.int (iI (cmpI a b)) :: st) w) : J E z k n pc L (.long (iL b) :: .long (iL a) :: st) w := fun H locs ls hP hD hS hl => W.lcmp X.1 X.2.1 d (by rw [cmpI_eq ha hb]; exact kk H locs ls hP hD hS hl)
theorem j_goto (X : Cx E z cc own) {off : Int} {tgt : Nat} (d : decode cc pc = .ok (.goto off, 3)) (ht : (pc : Int) + off = (tgt : Int)) (kk : J E z k n tgt L st w) : J E z k n pc L st w := fun H locs ls hP hD hS hl => lv_goto X.1 X.2.1 d ht (kk H locs ls hP hD hS hl)
theorem j_icmp_eq (X : Cx E z cc own) {a b off : Int} {tgt : Nat} (ha : inR a) (hb : inR b) (d : decode cc pc = .ok (.if_icmp .eq off, 3)) (ht : (pc : Int) + off = (tgt : Int)) (kt : a = b → J E z k n tgt L st w) (kf : ¬ a = b → J E z k n (pc + 3) L st w) : J E z k n pc L (.int (iI b) :: .int (iI a) :: st) w := fun H locs ls hP hD hS hl => lv_icmp_eq X.1 X.2.1 d ht (fun h => kt ((iI_eq ha hb).mp h) H locs ls hP hD hS hl) (fun h => kf (mt (iI_eq ha hb).mpr h) H locs ls hP hD hS hl)
theorem j_icmp_ne (X : Cx E z cc own) {a b off : Int} {tgt : Nat} (ha : inR a) (hb : inR b) (d : decode cc pc = .ok (.if_icmp .ne off, 3)) (ht : (pc : Int) + off = (tgt : Int)) (kt : ¬ a = b → J E z k n tgt L st w) (kf : a = b → J E z k n (pc + 3) L st w) : J E z k n pc L (.int (iI b) :: .int (iI a) :: st) w := fun H locs ls hP hD hS hl => lv_icmp_ne X.1 X.2.1 d ht (fun h => kt (mt (iI_eq ha hb).mpr h) H locs ls hP hD hS hl) (fun h => kf ((iI_eq ha hb).mp h) H locs ls hP hD hS hl)
theorem j_icmp_lt (X : Cx E z cc own) {a b off : Int} {tgt : Nat} (ha : inR a) (hb : inR b) (d : decode cc pc = .ok (.if_icmp .lt off, 3)) (ht : (pc : Int) + off = (tgt : Int)) (kt : a < b → J E z k n tgt L st w) (kf : b ≤ a → J E z k n (pc + 3) L st w) : J E z k n pc L (.int (iI b) :: .int (iI a) :: st) w := fun H locs ls hP hD hS hl => lv_icmp_lt X.1 X.2.1 d ht (fun h => kt ((iI_lt ha hb).mp h) H locs ls hP hD hS hl) (fun h => kf (Int.not_lt.mp (mt (iI_lt ha hb).mpr h)) H locs ls hP hD hS hl)
theorem j_icmp_ge (X : Cx E z cc own) {a b off : Int} {tgt : Nat} (ha : inR a) (hb : inR b) (d : decode cc pc = .ok (.if_icmp .ge off, 3)) (ht : (pc : Int) + off = (tgt : Int)) (kt : b ≤ a → J E z k n tgt L st w) (kf : a < b → J E z k n (pc + 3) L st w) : J E z k n pc L (.int (iI b) :: .int (iI a) :: st) w := fun H locs ls hP hD hS hl => lv_icmp_ge X.1 X.2.1 d ht (fun h => kt ((iI_le hb ha).mp h) H locs ls hP hD hS hl) (fun h => kf (Int.not_le.mp (mt (iI_le hb ha).mpr h)) H locs ls hP hD hS hl)
theorem j_icmp_gt (X : Cx E z cc own) {a b off : Int} {tgt : Nat} (ha : inR a) (hb : inR b) (d : decode cc pc = .ok (.if_icmp .gt off, 3)) (ht : (pc : Int) + off = (tgt : Int)) (kt : b < a → J E z k n tgt L st w) (kf : a ≤ b → J E z k n (pc + 3) L st w) : J E z k n pc L (.int (iI b) :: .int (iI a) :: st) w := fun H locs ls hP hD hS hl => lv_icmp_gt X.1 X.2.1 d ht (fun h => kt ((iI_lt hb ha).mp h) H locs ls hP hD hS hl) (fun h => kf (Int.not_lt.mp (mt (iI_lt hb ha).mpr h)) H locs ls hP hD hS hl)
theorem j_icmp_le (X : Cx E z cc own) {a b off : Int} {tgt : Nat} (ha : inR a) (hb : inR b) (d : decode cc pc = .ok (.if_icmp .le off, 3)) (ht : (pc : Int) + off = (tgt : Int)) (kt : a ≤ b → J E z k n tgt L st w) (kf : b < a → J E z k n (pc + 3) L st w) : J E z k n pc L (.int (iI b) :: .int (iI a) :: st) w := fun H locs ls hP hD hS hl => lv_icmp_le X.1 X.2.1 d ht (fun h => kt ((iI_le ha hb).mp h) H locs ls hP hD hS hl) (fun h => kf (Int.not_le.mp (mt (iI_le ha hb).mpr h)) H locs ls hP hD hS hl)
theorem j_if_eq (X : Cx E z cc own) {a off : Int} {tgt : Nat} (ha : inR a) (d : decode cc pc = .ok (.ifCond .eq off, 3)) (ht : (pc : Int) + off = (tgt : Int)) (kt : a = 0 → J E z k n tgt L st w) (kf : ¬ a = 0 → J E z k n (pc + 3) L st w) : J E z k n pc L (.int (iI a) :: st) w := fun H locs ls hP hD hS hl => lv_if_eq X.1 X.2.1 d ht (fun h => kt ((iI_eq0 ha).mp h) H locs ls hP hD hS hl) (fun h => kf (mt (iI_eq0 ha).mpr h) H locs ls hP hD hS hl)
theorem j_if_ne (X : Cx E z cc own) {a off : Int} {tgt : Nat} (ha : inR a) (d : decode cc pc = .ok (.ifCond .ne off, 3)) (ht : (pc : Int) + off = (tgt : Int)) (kt : ¬ a = 0 → J E z k n tgt L st w) (kf : a = 0 → J E z k n (pc + 3) L st w) : J E z k n pc L (.int (iI a) :: st) w := fun H locs ls hP hD hS hl => lv_if_ne X.1 X.2.1 d ht (fun h => kt (mt (iI_eq0 ha).mpr h) H locs ls hP hD hS hl) (fun h => kf ((iI_eq0 ha).mp h) H locs ls hP hD hS hl)
theorem j_if_lt (X : Cx E z cc own) {a off : Int} {tgt : Nat} (ha : inR a) (d : decode cc pc = .ok (.ifCond .lt off, 3)) (ht : (pc : Int) + off = (tgt : Int)) (kt : a < 0 → J E z k n tgt L st w) (kf : 0 ≤ a → J E z k n (pc + 3) L st w) : J E z k n pc L (.int (iI a) :: st) w := fun H locs ls hP hD hS hl => lv_if_lt X.1 X.2.1 d ht (fun h => kt ((iI_lt0 ha).mp h) H locs ls hP hD hS hl) (fun h => kf (Int.not_lt.mp (mt (iI_lt0 ha).mpr h)) H locs ls hP hD hS hl)
theorem j_if_ge (X : Cx E z cc own) {a off : Int} {tgt : Nat} (ha : inR a) (d : decode cc pc = .ok (.ifCond .ge off, 3)) (ht : (pc : Int) + off = (tgt : Int)) (kt : 0 ≤ a → J E z k n tgt L st w) (kf : a < 0 → J E z k n (pc + 3) L st w) : J E z k n pc L (.int (iI a) :: st) w := fun H locs ls hP hD hS hl => lv_if_ge X.1 X.2.1 d ht (fun h => kt ((iI_ge0 ha).mp h) H locs ls hP hD hS hl) (fun h => kf (Int.not_le.mp (mt (iI_ge0 ha).mpr h)) H locs ls hP hD hS hl)
theorem j_if_gt (X : Cx E z cc own) {a off : Int} {tgt : Nat} (ha : inR a) (d : decode cc pc = .ok (.ifCond .gt off, 3)) (ht : (pc : Int) + off = (tgt : Int)) (kt : 0 < a → J E z k n tgt L st w) (kf : a ≤ 0 → J E z k n (pc + 3) L st w) : J E z k n pc L (.int (iI a) :: st) w := fun H locs ls hP hD hS hl => lv_if_gt X.1 X.2.1 d ht (fun h => kt ((iI_gt0 ha).mp h) H locs ls hP hD hS hl) (fun h => kf (Int.not_lt.mp (mt (iI_gt0 ha).mpr h)) H locs ls hP hD hS hl)
theorem j_if_le (X : Cx E z cc own) {a off : Int} {tgt : Nat} (ha : inR a) (d : decode cc pc = .ok (.ifCond .le off, 3)) (ht : (pc : Int) + off = (tgt : Int)) (kt : a ≤ 0 → J E z k n tgt L st w) (kf : 0 < a → J E z k n (pc + 3) L st w) : J E z k n pc L (.int (iI a) :: st) w := fun H locs ls hP hD hS hl => lv_if_le X.1 X.2.1 d ht (fun h => kt ((iI_le0 ha).mp h) H locs ls hP hD hS hl) (fun h => kf (Int.not_le.mp (mt (iI_le0 ha).mpr h)) H locs ls hP hD hS hl)
theorem j_tableIn (X : Cx E z cc own) {a dflt lo hi off : Int} {offs : Array Int} {len tgt : Nat} (ha : inR a) (d : decode cc pc = .ok (.tableswitch dflt lo hi offs, len)) (h1 : lo ≤ a) (h2 : a ≤ hi) (ho : offs[(a - lo).toNat]? = some off) (ht : (pc : Int) + off = (tgt : Int)) (kk : J E z k n tgt L st w) : J E z k n pc L (.int (iI a) :: st) w := fun H locs ls hP hD hS hl => lv_tableIn X.1 X.2.1 d (by rw [iI_t ha]; omega) (by rw [iI_t ha]; omega) (by rw [iI_t ha]; exact ho) ht (kk H locs ls hP hD hS hl)
theorem j_tableOut (X : Cx E z cc own) {a dflt lo hi : Int} {offs : Array Int} {len tgt : Nat} (ha : inR a) (d : decode cc pc = .ok (.tableswitch dflt lo hi offs, len)) (h : a < lo ∨ hi < a) (ht : (pc : Int) + dflt = (tgt : Int)) (kk : J E z k n tgt L st w) : J E z k n pc L (.int (iI a) :: st) w := fun H locs ls hP hD hS hl => lv_tableOut X.1 X.2.1 d (by rw [iI_t ha]; exact h) ht (kk H locs ls hP hD hS hl)
end JR
