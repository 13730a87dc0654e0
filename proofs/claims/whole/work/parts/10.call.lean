def pushv : Option Value → List Value → List Value
  | none, r => r
  | some v, r => v :: r
theorem pushv_eq (v : Option Value) (r : List Value) : v.toList ++ r = pushv v r := by cases v <;> rfl
/-- a contract over the whole state: what is answered, and the state behind it -/
def FCon (l : Launch) (E : eT) (y : MethodName) (ws : List Cond) (d : Nat) (vs : List Value) (σ : St) (v : Option Value) (σ' : St) : Prop := Con l E y ws d 0 0 vs (cells E σ) (fun v' w' => v' = v ∧ w' = cells E σ')
abbrev mhN : String := "java/lang/invoke/MethodHandle"
abbrev vhN : String := "java/lang/invoke/VarHandle"
def yOk (y : MethodName) (nn : Nat) : Prop := y.cls ≠ mhN ∧ y.cls ≠ vhN ∧ (parseMethodDescriptor y.desc).map (fun d => d.parameters.length) = some nn
theorem rm_le {d' d0 m0 s0 mc ms maxL : Nat} {R : Room} (hz : R = rmD d0 m0 s0) (hd : Nat.blt d' d0 = true) (hm : Nat.ble maxL 17 = true) : (rmD d' mc ms).frames + 1 ≤ R.frames ∧ 8 + (maxL + 11) + (rmD d' mc ms).locals ≤ R.locals := by
  subst hz
  have h1 : d' < d0 := Nat.blt_eq.mp hd
  have h2 := Nat.le_of_ble_eq_true hm
  show d' + 1 ≤ d0 ∧ 8 + (maxL + 11) + 36 * d' ≤ 36 * d0
  omega
section JCALL
variable {E : eT} {z : zT} {cc : ByteArray} {own : String} {k n pc : Nat} {L : List (Nat × Value)} {σ : St} {y : MethodName} {bytes : ByteArray} {maxL index d' d0 m0 s0 mc ms nn q : Nat} {t : Int} {ret : Option FieldType} {As rest st0 : List Value} {o : Option Value → va_W → Prop} {w : va_W}
theorem j_cV (X : Cx E z cc own) (hm : ∀ w ∈ ([.methodLink own index y, .instanceMethod y, .selects y.cls y y, .initialized y.cls, .code y bytes maxL ret] : List Cond), w ∈ bgW) (hy : yOk y nn) (hmx : Nat.ble maxL 17 = true)
    {a ci q0 : Nat} {fs : List Value} {T : u_T} {N : Nat} (he : w[q0]? = some (a, .inr (ci, fs))) (hc : vwCl[ci]? = some (y.cls, T, N))
    (hz : zR z = rmD d0 m0 s0) (hM : Con (zl z) E y (.code y bytes maxL ret :: bgW) d' mc ms (.ref a :: As) w o) (hn : As.length = nn) (hdd : Nat.blt d' d0 = true) (hst : st0 = As.reverse ++ .ref a :: rest) (hrest : (rest.map fun v => v.category).sum ≤ 8) (hk : k + mc ≤ m0 ∧ n + ms ≤ s0)
    (d : decode cc pc = .ok (.invokevirtual index, 3)) (kk : ∀ (v : Option Value) (w' : va_W), o v w' → J E z (k + mc) (n + ms) (pc + 3) L (pushv v rest) w') : J E z k n pc L st0 w := by
  subst hst
  refine j_run (a := (Value.ref a :: As).toArray) (rest := rest) X (fun H locs ls hP hD hS hl => ?_) (fun v w' h => by rw [pushv_eq]; exact kk v w' h)
  refine va_runV (C := y.cls) (Ts := bgW) ⟨X.1, X.2.1, X.2.2.1, X.2.2.2.1, X.2.2.2.2.1⟩ hM (cwV nn X.2.2.2.2.1 (bg_good (fun w hw => ?_) (fun _ h => h)) rfl rfl rfl ⟨rfl, hy⟩ (rm_le hz hdd hmx)) ⟨pre_blind E w _, va_recv X.2.2.2.2.2.1.2.1 hP hc he, fun U hU hW => pre_at X hP hD hS _ hU hW⟩ rfl hn hl.1 rfl (lv_room hrest) d (by rw [hz]; exact hk)
  rcases List.mem_append.mp hw with h | h
  · exact hm w (by
      simp only [List.mem_cons, List.not_mem_nil, or_false] at h ⊢
      rcases h with h | h | h | h
      · exact Or.inl h
      · exact Or.inr (Or.inl h)
      · exact Or.inr (Or.inr (Or.inl h))
      · exact Or.inr (Or.inr (Or.inr (Or.inl h))))
  · rcases List.mem_cons.mp h with h | h
    · rw [h]; exact hm _ (by simp)
    · exact h
theorem j_cS (X : Cx E z cc own) (hm : ∀ w ∈ ([.methodLink own index y, .static y, .initialized own, .code y bytes maxL ret] : List Cond), w ∈ bgW) (hy : yOk y nn) (hmx : Nat.ble maxL 17 = true) (hcls : y.cls = own)
    (hz : zR z = rmD d0 m0 s0) (hM : Con (zl z) E y (.code y bytes maxL ret :: bgW) d' mc ms As w o) (hn : As.length = nn) (hdd : Nat.blt d' d0 = true) (hst : st0 = As.reverse ++ rest) (hrest : (rest.map fun v => v.category).sum ≤ 8) (hk : k + mc ≤ m0 ∧ n + ms ≤ s0)
    (d : decode cc pc = .ok (.invokestatic index, 3)) (kk : ∀ (v : Option Value) (w' : va_W), o v w' → J E z (k + mc) (n + ms) (pc + 3) L (pushv v rest) w') : J E z k n pc L st0 w := by
  subst hst
  refine j_run (a := As.toArray) (rest := rest) X (fun H locs ls hP hD hS hl => ?_) (fun v w' h => by rw [pushv_eq]; exact kk v w' h)
  refine va_runS (Ts := bgW) ⟨X.1, X.2.1, X.2.2.1, X.2.2.2.1, X.2.2.2.2.1⟩ hM (cwS nn X.2.2.2.2.1 (bg_good (fun w hw => ?_) (fun _ h => h)) rfl rfl rfl ⟨hcls, hy⟩ (rm_le hz hdd hmx)) ⟨pre_blind E w _, fun U hU hW => pre_at X hP hD hS _ hU hW⟩ rfl hn hl.1 rfl (lv_room hrest) d (by rw [hz]; exact hk)
  rcases List.mem_append.mp hw with h | h
  · exact hm w (by
      simp only [List.mem_cons, List.not_mem_nil, or_false] at h ⊢
      rcases h with h | h | h
      · exact Or.inl h
      · exact Or.inr (Or.inl h)
      · exact Or.inr (Or.inr (Or.inl h)))
  · rcases List.mem_cons.mp h with h | h
    · rw [h]; exact hm _ (by simp)
    · exact h
theorem j_cSN {host : String} (X : Cx E z cc own) (hN : Cond.methodLinkNest own index y host ∈ nsW) (hm : ∀ w ∈ ([.static y, .initialized y.cls, .code y bytes maxL ret] : List Cond), w ∈ bgW) (hy : yOk y nn) (hmx : Nat.ble maxL 17 = true)
    (hz : zR z = rmD d0 m0 s0) (hM : Con (zl z) E y (.code y bytes maxL ret :: bgW) d' mc ms As w o) (hn : As.length = nn) (hdd : Nat.blt d' d0 = true) (hst : st0 = As.reverse ++ rest) (hrest : (rest.map fun v => v.category).sum ≤ 8) (hk : k + mc ≤ m0 ∧ n + ms ≤ s0)
    (d : decode cc pc = .ok (.invokestatic index, 3)) (kk : ∀ (v : Option Value) (w' : va_W), o v w' → J E z (k + mc) (n + ms) (pc + 3) L (pushv v rest) w') : J E z k n pc L st0 w := by
  subst hst
  refine j_run (a := As.toArray) (rest := rest) X (fun H locs ls hP hD hS hl => ?_) (fun v w' h => by rw [pushv_eq]; exact kk v w' h)
  refine va_runSN (Ts := bgW) ⟨X.1, X.2.1, X.2.2.1, X.2.2.2.1, X.2.2.2.2.1⟩ hM ⟨va_cnB nn X.2.2.2.2.1 (bg_good (fun w hw => ?_) (fun _ h => h)) rfl rfl rfl (X.2.2.2.2.2.1.2.2.1 _ hN) (X.2.2.2.2.1 _ (hm _ (by simp))) hy (rm_le hz hdd hmx), X.2.2.2.2.1 _ (hm _ (by simp)), trivial⟩ ⟨pre_blind E w _, fun U hU hW => pre_at X hP hD hS _ hU hW⟩ rfl hn hl.1 rfl (lv_room hrest) d (by rw [hz]; exact hk)
  rcases List.mem_cons.mp hw with h | h
  · rw [h]; exact hm _ (by simp)
  · exact h
end JCALL
