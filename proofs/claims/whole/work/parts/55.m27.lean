/-! the law's own methods, which catch -/
theorem nc_ia : Cond.castable iaX iaX ∈ nsW := List.mem_append_right _ (List.mem_append_left _ (List.mem_map.mpr ⟨(iaX, iaX), List.mem_cons_self, rfl⟩))
theorem nc_is : Cond.castable isX isX ∈ nsW := List.mem_append_right _ (List.mem_append_left _ (List.mem_map.mpr ⟨(isX, isX), List.mem_cons_of_mem _ List.mem_cons_self, rfl⟩))
theorem cl_ia : Cond.classLink R_L 13 iaX ∈ bgW := bg_in (List.mem_of_getElem? (i := 484) (by decide +kernel)) rfl
theorem cl_is : Cond.classLink R_L 15 isX ∈ bgW := bg_in (List.mem_of_getElem? (i := 485) (by decide +kernel)) rfl
section JCW
variable {E : eT} {z : zT} {cc : ByteArray} {own : String} {k n pc : Nat} {L : List (Nat × Value)} {y : MethodName} {bytes : ByteArray} {maxL index d' d0 m0 s0 mc ms nn : Nat} {ret : Option FieldType} {hh : List (Nat × Nat × Nat × Nat)} {As rest st0 : List Value} {o : Option Value → va_W → Prop} {w : va_W}
/-- a static method that catches is called -/
theorem j_cSW (X : Cx E z cc own) (hm : ∀ w ∈ ([.methodLink own index y, .static y, .initialized own, .codeWith y bytes maxL ret hh] : List Cond), w ∈ bgW) (hy : yOk y nn) (hmx : Nat.ble maxL 17 = true) (hcls : y.cls = own)
    (hz : zR z = rmD d0 m0 s0) (hM : Con (zl z) E y (.codeWith y bytes maxL ret hh :: bgW) d' mc ms As w o) (hn : As.length = nn) (hdd : Nat.blt d' d0 = true) (hst : st0 = As.reverse ++ rest) (hrest : (rest.map fun v => v.category).sum ≤ 8) (hk : k + mc ≤ m0 ∧ n + ms ≤ s0)
    (d : decode cc pc = .ok (.invokestatic index, 3)) (kk : ∀ (v : Option Value) (w' : va_W), o v w' → J E z (k + mc) (n + ms) (pc + 3) L (pushv v rest) w') : J E z k n pc L st0 w := by
  subst hst
  refine j_run (a := As.toArray) (rest := rest) X (fun H locs ls hP hD hS hl => ?_) (fun v w' h => by rw [pushv_eq]; exact kk v w' h)
  have hb : ∀ w ∈ bgW, w.before (za z) (zs z) = true := X.2.2.2.2.1
  have hcode := hb _ (hm (.codeWith y bytes maxL ret hh) (by simp))
  have hini : (Cond.initialized y.cls).before (za z) (zs z) = true := by rw [hcls]; exact hb _ (hm (.initialized own) (by simp))
  obtain ⟨mk, methM, cM, hnamed, hmethM, -, -, -, -, -, -, hsigM⟩ := Cond.codeWith_spec hcode
  have hstatic : methM.isStatic = true := Cond.static_spec hnamed hmethM (hb _ (hm (.static y) (by simp)))
  obtain ⟨kP, hkP, -⟩ := className_of_methodNamed hnamed
  have hinitP : kP.init = .initialized := Cond.initialized_spec (findClass_of_methodNamed hnamed) hkP hini
  have hrm := rm_le (mc := mc) (ms := ms) hz hdd hmx
  have hGI : GoodIn bgW (.codeWith y bytes maxL ret hh :: bgW) := bg_good (fun w hw => by
    rcases List.mem_cons.mp hw with h | h
    · rw [h]; exact hm _ (by simp)
    · exact h) (fun _ h => h)
  have hK : Back (zl z) (zR z) (zp z) (ze z) (zb z) (zs z) (za z) y 3 8 (PreOf (zR z) mc ms (Pre E w As)) (PostOf (Ret E o) mc ms (zA E)) :=
    va_backW (hh := hh) (bytes := bytes) (maxL := maxL) (ret := ret) hM (pre_blind E w _) rfl rfl hrm.1 hrm.2 (pay_in hb hGI) List.mem_cons_self (fun a' U hW => word_at hW (Or.inl (by first | rfl | simp [Cond.onTables, Cond.keeps, Cond.steady])) hini)
  intro T hT XS
  obtain ⟨vm₁, X₁, hstep₁⟩ := XS.invokestatic X.1 X.2.2.2.1 (hb _ (hm (.methodLink own index y) (by simp))) hnamed hmethM hstatic hkP hinitP ⟨hy.1, hy.2.1⟩ (g := F0 (zm z) pc ls (As.reverse ++ rest)) rfl (argsL := As) (rest := rest)
    (by have h2 := hy.2.2; rw [hsigM] at h2; exact hn.trans (Option.some.inj h2).symm) rfl (by rw [X.2.1]; exact d)
  obtain ⟨v, ⟨U', l2, c2, s2⟩, X', ⟨g', mk', t, L1, e1, e2, hq, h1, hL, h2, h3⟩, hsteps⟩ := hK (zm z) (zt z) (zc z) ⟨T.setVm vm₁, locs, k, n⟩ (F0 (zm z) pc ls rest) (.invokestatic index) mk As.toArray X₁ rfl (hl.1.trans X.2.2.1.symm) (by rw [X.2.1]; exact d) (lv_room hrest) (X₁.named hnamed)
    ⟨by rw [hz]; exact hk.1, by rw [hz]; exact hk.2, pre_at X hP hD hS As hT X₁.warmed⟩
  dsimp only [Pt.U, Pt.locs, Pt.cells, Pt.slots] at X' e1 e2 h1 h2 h3 hsteps
  subst h1; subst h2; subst h3
  exact ⟨v, (T.setVm vm₁).calling g' mk' As.toArray, t, U', L1, hT, X', hL, e1, e2, hq, fun tg h => hstep₁ _ fun acts => by rw [doInvoke_state]; exact hsteps.trans h⟩
end JCW

abbrev ws_L_command : List Cond := .codeWith y_L_command b_L_command 6 (some .int) [(0, 12, 15, 13), (0, 12, 19, 15)] :: bgW
set_option maxRecDepth 100000 in
set_option maxHeartbeats 2000000 in
theorem l_command_s {l : Launch} {E : eT} {σ σ1 : St} {a b c v : Int} {d : Nat} (hd : Nat.blt d 9 = true) (hM : FCon l E y_U_command ws_U_command d (.ref (E.2.2.2 0 0) :: [.int (iI a), .int (iI b), .int (iI c)]) σ (some (.int (iI v))) σ1) (rv : inR v) : Con l E y_L_command ws_L_command 9 0 0 [.ref (E.2.2.2 0 0), .int (iI a), .int (iI b), .int (iI c), .ref (E.2.2.2 26 0)] (cells E σ) (fun v' w' => v' = some (.int (iI 0)) ∧ w' = cells E (up σ1 26 0 0 v)) := by
  refine con_ofW (cc := b_L_command) (nL := 6) (ret := (some .int)) (by decide) (Nat.le_of_ble_eq_true rfl) (fun z X Y hn hx => ?_)
  have X : Cx E z b_L_command R_L := X
  have hz := Y.2.1
  change J E z 0 0 0 [(0, .ref (E.2.2.2 0 0)), (1, .int (iI a)), (2, .int (iI b)), (3, .int (iI c)), (4, .ref (E.2.2.2 26 0))] [] (cells E σ)
  rw [← Y.1] at hM
  refine j_aload X rfl d_L_command_0 ?_
  refine j_iconst X d_L_command_2 ?_
  refine j_aload_n X rfl d_L_command_3 ?_
  refine j_iload_n X rfl d_L_command_4 ?_
  refine j_iload_n X rfl d_L_command_5 ?_
  refine j_iload_n X rfl d_L_command_6 ?_
  refine v_L_7 X hz hM rfl hd rfl (Nat.le_of_ble_eq_true rfl) ⟨Nat.le_refl _, Nat.le_refl _⟩ d_L_command_7 ?_
  refine j_i2l X (by omega) d_L_command_10 ?_
  refine j_last X (by first | exact okC1 rfl | exact (okCT rfl (by omega))) (fun _ => rfl) rfl (by omega) d_L_command_11 ?_
  refine j_goto X d_L_command_12 (tgt := 23) rfl ?_
  refine j_iconst X d_L_command_23 ?_
  exact j_iret X Y (Nat.le_refl _) (Nat.le_refl _) d_L_command_24 ⟨rfl, rfl⟩

set_option maxRecDepth 100000 in
set_option maxHeartbeats 2000000 in
theorem l_command_x {l : Launch} {E : eT} {σ : St} {a b c : Int} (hM : TCon l E y_U_command ws_U_command 8 1 6 (.ref (E.2.2.2 0 0) :: [.int (iI a), .int (iI b), .int (iI c)]) (cells E σ) iaX (cells E σ)) : Con l E y_L_command ws_L_command 9 1 6 [.ref (E.2.2.2 0 0), .int (iI a), .int (iI b), .int (iI c), .ref (E.2.2.2 26 0)] (cells E σ) (fun v' w' => v' = some (.int (iI 1)) ∧ w' = cells E σ) := by
  refine con_ofW (cc := b_L_command) (nL := 6) (ret := (some .int)) (by decide) (Nat.le_of_ble_eq_true rfl) (fun z X Y hn hx => ?_)
  have X : Cx E z b_L_command R_L := X
  have hz := Y.2.1
  change J E z 0 0 0 [(0, .ref (E.2.2.2 0 0)), (1, .int (iI a)), (2, .int (iI b)), (3, .int (iI c)), (4, .ref (E.2.2.2 26 0))] [] (cells E σ)
  rw [← Y.1] at hM
  refine j_aload X rfl d_L_command_0 ?_
  refine j_iconst X d_L_command_2 ?_
  refine j_aload_n X rfl d_L_command_3 ?_
  refine j_iload_n X rfl d_L_command_4 ?_
  refine j_iload_n X rfl d_L_command_5 ?_
  refine j_iload_n X rfl d_L_command_6 ?_
  refine j_catch1 X (fun H locs ls hP hD hS hLs => t_cV X mc_L_7 yo_U_command rfl (cl_get (okC1 rfl)) rfl hz hM rfl rfl rfl (Nat.le_of_ble_eq_true rfl) ⟨Nat.le_refl _, Nat.le_refl _⟩ d_L_command_7 hP hD hS hLs) hx ⟨rfl, rfl⟩ (by decide) cl_ia nc_ia (fun q => ?_)
  refine j_astore X (zlt hn rfl) d_L_command_15 ?_
  refine j_iconst X d_L_command_17 ?_
  exact j_iret X Y (Nat.le_refl _) (Nat.le_refl _) d_L_command_18 ⟨rfl, rfl⟩

set_option maxRecDepth 100000 in
set_option maxHeartbeats 2000000 in
theorem l_command_y {l : Launch} {E : eT} {σ : St} {a b c : Int} (hM : TCon l E y_U_command ws_U_command 8 1 6 (.ref (E.2.2.2 0 0) :: [.int (iI a), .int (iI b), .int (iI c)]) (cells E σ) isX (cells E σ)) : Con l E y_L_command ws_L_command 9 1 6 [.ref (E.2.2.2 0 0), .int (iI a), .int (iI b), .int (iI c), .ref (E.2.2.2 26 0)] (cells E σ) (fun v' w' => v' = some (.int (iI 2)) ∧ w' = cells E σ) := by
  refine con_ofW (cc := b_L_command) (nL := 6) (ret := (some .int)) (by decide) (Nat.le_of_ble_eq_true rfl) (fun z X Y hn hx => ?_)
  have X : Cx E z b_L_command R_L := X
  have hz := Y.2.1
  change J E z 0 0 0 [(0, .ref (E.2.2.2 0 0)), (1, .int (iI a)), (2, .int (iI b)), (3, .int (iI c)), (4, .ref (E.2.2.2 26 0))] [] (cells E σ)
  rw [← Y.1] at hM
  refine j_aload X rfl d_L_command_0 ?_
  refine j_iconst X d_L_command_2 ?_
  refine j_aload_n X rfl d_L_command_3 ?_
  refine j_iload_n X rfl d_L_command_4 ?_
  refine j_iload_n X rfl d_L_command_5 ?_
  refine j_iload_n X rfl d_L_command_6 ?_
  refine j_catch2 X (fun H locs ls hP hD hS hLs => t_cV X mc_L_7 yo_U_command rfl (cl_get (okC1 rfl)) rfl hz hM rfl rfl rfl (Nat.le_of_ble_eq_true rfl) ⟨Nat.le_refl _, Nat.le_refl _⟩ d_L_command_7 hP hD hS hLs) hx ⟨rfl, rfl⟩ ⟨rfl, rfl⟩ (by decide) (by decide) cl_ia X.2.2.2.2.2.1.2.2.2.2.1 cl_is nc_is (fun q => ?_)
  refine j_astore X (zlt hn rfl) d_L_command_19 ?_
  refine j_iconst X d_L_command_21 ?_
  exact j_iret X Y (Nat.le_refl _) (Nat.le_refl _) d_L_command_22 ⟨rfl, rfl⟩

abbrev ws_L_poke : List Cond := .codeWith y_L_poke b_L_poke 4 (some .int) [(0, 6, 9, 13)] :: bgW
set_option maxRecDepth 100000 in
set_option maxHeartbeats 2000000 in
theorem l_poke_s {l : Launch} {E : eT} {σ σ1 : St} {a b : Int} {d : Nat} (hd : Nat.blt d 9 = true) (hM : FCon l E y_U_poke ws_U_poke d (.ref (E.2.2.2 0 0) :: [.int (iI a), .int (iI b)]) σ none σ1) : Con l E y_L_poke ws_L_poke 9 0 0 [.ref (E.2.2.2 0 0), .int (iI a), .int (iI b)] (cells E σ) (fun v' w' => v' = some (.int (iI 0)) ∧ w' = cells E σ1) := by
  refine con_ofW (cc := b_L_poke) (nL := 4) (ret := (some .int)) (by decide) (Nat.le_of_ble_eq_true rfl) (fun z X Y hn hx => ?_)
  have X : Cx E z b_L_poke R_L := X
  have hz := Y.2.1
  change J E z 0 0 0 [(0, .ref (E.2.2.2 0 0)), (1, .int (iI a)), (2, .int (iI b))] [] (cells E σ)
  rw [← Y.1] at hM
  refine j_aload_n X rfl d_L_poke_0 ?_
  refine j_iload_n X rfl d_L_poke_1 ?_
  refine j_iload_n X rfl d_L_poke_2 ?_
  refine v_L_17 X hz hM rfl hd rfl (Nat.le_of_ble_eq_true rfl) ⟨Nat.le_refl _, Nat.le_refl _⟩ d_L_poke_3 ?_
  refine j_goto X d_L_poke_6 (tgt := 12) rfl ?_
  refine j_iconst X d_L_poke_12 ?_
  exact j_iret X Y (Nat.le_refl _) (Nat.le_refl _) d_L_poke_13 ⟨rfl, rfl⟩

set_option maxRecDepth 100000 in
set_option maxHeartbeats 2000000 in
theorem l_poke_x {l : Launch} {E : eT} {σ : St} {a b : Int} (hM : TCon l E y_U_poke ws_U_poke 8 1 6 (.ref (E.2.2.2 0 0) :: [.int (iI a), .int (iI b)]) (cells E σ) iaX (cells E σ)) : Con l E y_L_poke ws_L_poke 9 1 6 [.ref (E.2.2.2 0 0), .int (iI a), .int (iI b)] (cells E σ) (fun v' w' => v' = some (.int (iI 1)) ∧ w' = cells E σ) := by
  refine con_ofW (cc := b_L_poke) (nL := 4) (ret := (some .int)) (by decide) (Nat.le_of_ble_eq_true rfl) (fun z X Y hn hx => ?_)
  have X : Cx E z b_L_poke R_L := X
  have hz := Y.2.1
  change J E z 0 0 0 [(0, .ref (E.2.2.2 0 0)), (1, .int (iI a)), (2, .int (iI b))] [] (cells E σ)
  rw [← Y.1] at hM
  refine j_aload_n X rfl d_L_poke_0 ?_
  refine j_iload_n X rfl d_L_poke_1 ?_
  refine j_iload_n X rfl d_L_poke_2 ?_
  refine j_catch1 X (fun H locs ls hP hD hS hLs => t_cV X mc_L_17 yo_U_poke rfl (cl_get (okC1 rfl)) rfl hz hM rfl rfl rfl (Nat.le_of_ble_eq_true rfl) ⟨Nat.le_refl _, Nat.le_refl _⟩ d_L_poke_3 hP hD hS hLs) hx ⟨rfl, rfl⟩ (by decide) cl_ia nc_ia (fun q => ?_)
  refine j_astore_n X (zlt hn rfl) d_L_poke_9 ?_
  refine j_iconst X d_L_poke_10 ?_
  exact j_iret X Y (Nat.le_refl _) (Nat.le_refl _) d_L_poke_11 ⟨rfl, rfl⟩

abbrev ws_L_peek : List Cond := .codeWith y_L_peek b_L_peek 4 (some .int) [(0, 9, 12, 13)] :: bgW
set_option maxRecDepth 100000 in
set_option maxHeartbeats 2000000 in
theorem l_peek_s {l : Launch} {E : eT} {σ σ1 : St} {a v : Int} {d : Nat} (hd : Nat.blt d 9 = true) (hM : FCon l E y_U_peek ws_U_peek d (.ref (E.2.2.2 0 0) :: [.int (iI a)]) σ (some (.int (iI v))) σ1) (rv : inR v) : Con l E y_L_peek ws_L_peek 9 0 0 [.ref (E.2.2.2 0 0), .int (iI a), .ref (E.2.2.2 26 0)] (cells E σ) (fun v' w' => v' = some (.int (iI 0)) ∧ w' = cells E (up σ1 26 0 0 v)) := by
  refine con_ofW (cc := b_L_peek) (nL := 4) (ret := (some .int)) (by decide) (Nat.le_of_ble_eq_true rfl) (fun z X Y hn hx => ?_)
  have X : Cx E z b_L_peek R_L := X
  have hz := Y.2.1
  change J E z 0 0 0 [(0, .ref (E.2.2.2 0 0)), (1, .int (iI a)), (2, .ref (E.2.2.2 26 0))] [] (cells E σ)
  rw [← Y.1] at hM
  refine j_aload_n X rfl d_L_peek_0 ?_
  refine j_iconst X d_L_peek_1 ?_
  refine j_aload_n X rfl d_L_peek_2 ?_
  refine j_iload_n X rfl d_L_peek_3 ?_
  refine v_L_21 X hz hM rfl hd rfl (Nat.le_of_ble_eq_true rfl) ⟨Nat.le_refl _, Nat.le_refl _⟩ d_L_peek_4 ?_
  refine j_i2l X (by omega) d_L_peek_7 ?_
  refine j_last X (by first | exact okC1 rfl | exact (okCT rfl (by omega))) (fun _ => rfl) rfl (by omega) d_L_peek_8 ?_
  refine j_goto X d_L_peek_9 (tgt := 15) rfl ?_
  refine j_iconst X d_L_peek_15 ?_
  exact j_iret X Y (Nat.le_refl _) (Nat.le_refl _) d_L_peek_16 ⟨rfl, rfl⟩

set_option maxRecDepth 100000 in
set_option maxHeartbeats 2000000 in
theorem l_peek_x {l : Launch} {E : eT} {σ : St} {a : Int} (hM : TCon l E y_U_peek ws_U_peek 8 1 6 (.ref (E.2.2.2 0 0) :: [.int (iI a)]) (cells E σ) iaX (cells E σ)) : Con l E y_L_peek ws_L_peek 9 1 6 [.ref (E.2.2.2 0 0), .int (iI a), .ref (E.2.2.2 26 0)] (cells E σ) (fun v' w' => v' = some (.int (iI 1)) ∧ w' = cells E σ) := by
  refine con_ofW (cc := b_L_peek) (nL := 4) (ret := (some .int)) (by decide) (Nat.le_of_ble_eq_true rfl) (fun z X Y hn hx => ?_)
  have X : Cx E z b_L_peek R_L := X
  have hz := Y.2.1
  change J E z 0 0 0 [(0, .ref (E.2.2.2 0 0)), (1, .int (iI a)), (2, .ref (E.2.2.2 26 0))] [] (cells E σ)
  rw [← Y.1] at hM
  refine j_aload_n X rfl d_L_peek_0 ?_
  refine j_iconst X d_L_peek_1 ?_
  refine j_aload_n X rfl d_L_peek_2 ?_
  refine j_iload_n X rfl d_L_peek_3 ?_
  refine j_catch1 X (fun H locs ls hP hD hS hLs => t_cV X mc_L_21 yo_U_peek rfl (cl_get (okC1 rfl)) rfl hz hM rfl rfl rfl (Nat.le_of_ble_eq_true rfl) ⟨Nat.le_refl _, Nat.le_refl _⟩ d_L_peek_4 hP hD hS hLs) hx ⟨rfl, rfl⟩ (by decide) cl_ia nc_ia (fun q => ?_)
  refine j_astore_n X (zlt hn rfl) d_L_peek_12 ?_
  refine j_iconst X d_L_peek_13 ?_
  exact j_iret X Y (Nat.le_refl _) (Nat.le_refl _) d_L_peek_14 ⟨rfl, rfl⟩

abbrev ws_L_look : List Cond := .codeWith y_L_look b_L_look 4 (some .int) [(0, 9, 12, 13)] :: bgW
set_option maxRecDepth 100000 in
set_option maxHeartbeats 2000000 in
theorem l_look_s {l : Launch} {E : eT} {σ σ1 : St} {a v : Int} {d : Nat} (hd : Nat.blt d 9 = true) (hM : FCon l E y_U_look ws_U_look d (.ref (E.2.2.2 0 0) :: [.int (iI a)]) σ (some (.int (iI v))) σ1) (rv : inR v) : Con l E y_L_look ws_L_look 9 0 0 [.ref (E.2.2.2 0 0), .int (iI a), .ref (E.2.2.2 26 0)] (cells E σ) (fun v' w' => v' = some (.int (iI 0)) ∧ w' = cells E (up σ1 26 0 0 v)) := by
  refine con_ofW (cc := b_L_look) (nL := 4) (ret := (some .int)) (by decide) (Nat.le_of_ble_eq_true rfl) (fun z X Y hn hx => ?_)
  have X : Cx E z b_L_look R_L := X
  have hz := Y.2.1
  change J E z 0 0 0 [(0, .ref (E.2.2.2 0 0)), (1, .int (iI a)), (2, .ref (E.2.2.2 26 0))] [] (cells E σ)
  rw [← Y.1] at hM
  refine j_aload_n X rfl d_L_look_0 ?_
  refine j_iconst X d_L_look_1 ?_
  refine j_aload_n X rfl d_L_look_2 ?_
  refine j_iload_n X rfl d_L_look_3 ?_
  refine v_L_25 X hz hM rfl hd rfl (Nat.le_of_ble_eq_true rfl) ⟨Nat.le_refl _, Nat.le_refl _⟩ d_L_look_4 ?_
  refine j_i2l X (by omega) d_L_look_7 ?_
  refine j_last X (by first | exact okC1 rfl | exact (okCT rfl (by omega))) (fun _ => rfl) rfl (by omega) d_L_look_8 ?_
  refine j_goto X d_L_look_9 (tgt := 15) rfl ?_
  refine j_iconst X d_L_look_15 ?_
  exact j_iret X Y (Nat.le_refl _) (Nat.le_refl _) d_L_look_16 ⟨rfl, rfl⟩

set_option maxRecDepth 100000 in
set_option maxHeartbeats 2000000 in
theorem l_look_x {l : Launch} {E : eT} {σ : St} {a : Int} (hM : TCon l E y_U_look ws_U_look 8 1 6 (.ref (E.2.2.2 0 0) :: [.int (iI a)]) (cells E σ) iaX (cells E σ)) : Con l E y_L_look ws_L_look 9 1 6 [.ref (E.2.2.2 0 0), .int (iI a), .ref (E.2.2.2 26 0)] (cells E σ) (fun v' w' => v' = some (.int (iI 1)) ∧ w' = cells E σ) := by
  refine con_ofW (cc := b_L_look) (nL := 4) (ret := (some .int)) (by decide) (Nat.le_of_ble_eq_true rfl) (fun z X Y hn hx => ?_)
  have X : Cx E z b_L_look R_L := X
  have hz := Y.2.1
  change J E z 0 0 0 [(0, .ref (E.2.2.2 0 0)), (1, .int (iI a)), (2, .ref (E.2.2.2 26 0))] [] (cells E σ)
  rw [← Y.1] at hM
  refine j_aload_n X rfl d_L_look_0 ?_
  refine j_iconst X d_L_look_1 ?_
  refine j_aload_n X rfl d_L_look_2 ?_
  refine j_iload_n X rfl d_L_look_3 ?_
  refine j_catch1 X (fun H locs ls hP hD hS hLs => t_cV X mc_L_25 yo_U_look rfl (cl_get (okC1 rfl)) rfl hz hM rfl rfl rfl (Nat.le_of_ble_eq_true rfl) ⟨Nat.le_refl _, Nat.le_refl _⟩ d_L_look_4 hP hD hS hLs) hx ⟨rfl, rfl⟩ (by decide) cl_ia nc_ia (fun q => ?_)
  refine j_astore_n X (zlt hn rfl) d_L_look_12 ?_
  refine j_iconst X d_L_look_13 ?_
  exact j_iret X Y (Nat.le_refl _) (Nat.le_refl _) d_L_look_14 ⟨rfl, rfl⟩

abbrev ws_L_record : List Cond := .codeWith y_L_record b_L_record 6 (some .int) [(0, 12, 15, 13)] :: bgW
set_option maxRecDepth 100000 in
set_option maxHeartbeats 2000000 in
theorem l_record_s {l : Launch} {E : eT} {σ σ1 : St} {a b c v : Int} {d : Nat} (hd : Nat.blt d 9 = true) (hM : FCon l E y_U_record ws_U_record d (.ref (E.2.2.2 0 0) :: [.int (iI a), .int (iI b), .int (iI c)]) σ (some (.int (iI v))) σ1) (rv : inR v) : Con l E y_L_record ws_L_record 9 0 0 [.ref (E.2.2.2 0 0), .int (iI a), .int (iI b), .int (iI c), .ref (E.2.2.2 26 0)] (cells E σ) (fun v' w' => v' = some (.int (iI 0)) ∧ w' = cells E (up σ1 26 0 0 v)) := by
  refine con_ofW (cc := b_L_record) (nL := 6) (ret := (some .int)) (by decide) (Nat.le_of_ble_eq_true rfl) (fun z X Y hn hx => ?_)
  have X : Cx E z b_L_record R_L := X
  have hz := Y.2.1
  change J E z 0 0 0 [(0, .ref (E.2.2.2 0 0)), (1, .int (iI a)), (2, .int (iI b)), (3, .int (iI c)), (4, .ref (E.2.2.2 26 0))] [] (cells E σ)
  rw [← Y.1] at hM
  refine j_aload X rfl d_L_record_0 ?_
  refine j_iconst X d_L_record_2 ?_
  refine j_aload_n X rfl d_L_record_3 ?_
  refine j_iload_n X rfl d_L_record_4 ?_
  refine j_iload_n X rfl d_L_record_5 ?_
  refine j_iload_n X rfl d_L_record_6 ?_
  refine v_L_28 X hz hM rfl hd rfl (Nat.le_of_ble_eq_true rfl) ⟨Nat.le_refl _, Nat.le_refl _⟩ d_L_record_7 ?_
  refine j_i2l X (by omega) d_L_record_10 ?_
  refine j_last X (by first | exact okC1 rfl | exact (okCT rfl (by omega))) (fun _ => rfl) rfl (by omega) d_L_record_11 ?_
  refine j_goto X d_L_record_12 (tgt := 19) rfl ?_
  refine j_iconst X d_L_record_19 ?_
  exact j_iret X Y (Nat.le_refl _) (Nat.le_refl _) d_L_record_20 ⟨rfl, rfl⟩

set_option maxRecDepth 100000 in
set_option maxHeartbeats 2000000 in
theorem l_record_x {l : Launch} {E : eT} {σ : St} {a b c : Int} (hM : TCon l E y_U_record ws_U_record 8 1 6 (.ref (E.2.2.2 0 0) :: [.int (iI a), .int (iI b), .int (iI c)]) (cells E σ) iaX (cells E σ)) : Con l E y_L_record ws_L_record 9 1 6 [.ref (E.2.2.2 0 0), .int (iI a), .int (iI b), .int (iI c), .ref (E.2.2.2 26 0)] (cells E σ) (fun v' w' => v' = some (.int (iI 1)) ∧ w' = cells E σ) := by
  refine con_ofW (cc := b_L_record) (nL := 6) (ret := (some .int)) (by decide) (Nat.le_of_ble_eq_true rfl) (fun z X Y hn hx => ?_)
  have X : Cx E z b_L_record R_L := X
  have hz := Y.2.1
  change J E z 0 0 0 [(0, .ref (E.2.2.2 0 0)), (1, .int (iI a)), (2, .int (iI b)), (3, .int (iI c)), (4, .ref (E.2.2.2 26 0))] [] (cells E σ)
  rw [← Y.1] at hM
  refine j_aload X rfl d_L_record_0 ?_
  refine j_iconst X d_L_record_2 ?_
  refine j_aload_n X rfl d_L_record_3 ?_
  refine j_iload_n X rfl d_L_record_4 ?_
  refine j_iload_n X rfl d_L_record_5 ?_
  refine j_iload_n X rfl d_L_record_6 ?_
  refine j_catch1 X (fun H locs ls hP hD hS hLs => t_cV X mc_L_28 yo_U_record rfl (cl_get (okC1 rfl)) rfl hz hM rfl rfl rfl (Nat.le_of_ble_eq_true rfl) ⟨Nat.le_refl _, Nat.le_refl _⟩ d_L_record_7 hP hD hS hLs) hx ⟨rfl, rfl⟩ (by decide) cl_ia nc_ia (fun q => ?_)
  refine j_astore X (zlt hn rfl) d_L_record_15 ?_
  refine j_iconst X d_L_record_17 ?_
  exact j_iret X Y (Nat.le_refl _) (Nat.le_refl _) d_L_record_18 ⟨rfl, rfl⟩

abbrev ws_L_byteOf : List Cond := .codeWith y_L_byteOf b_L_byteOf 6 (some .int) [(0, 12, 15, 13)] :: bgW
set_option maxRecDepth 100000 in
set_option maxHeartbeats 2000000 in
theorem l_byteOf_s {l : Launch} {E : eT} {σ σ1 : St} {a b c v : Int} {d : Nat} (hd : Nat.blt d 9 = true) (hM : FCon l E y_U_byteOf ws_U_byteOf d (.ref (E.2.2.2 0 0) :: [.int (iI a), .int (iI b), .int (iI c)]) σ (some (.int (iI v))) σ1) (rv : inR v) : Con l E y_L_byteOf ws_L_byteOf 9 0 0 [.ref (E.2.2.2 0 0), .int (iI a), .int (iI b), .int (iI c), .ref (E.2.2.2 26 0)] (cells E σ) (fun v' w' => v' = some (.int (iI 0)) ∧ w' = cells E (up σ1 26 0 0 v)) := by
  refine con_ofW (cc := b_L_byteOf) (nL := 6) (ret := (some .int)) (by decide) (Nat.le_of_ble_eq_true rfl) (fun z X Y hn hx => ?_)
  have X : Cx E z b_L_byteOf R_L := X
  have hz := Y.2.1
  change J E z 0 0 0 [(0, .ref (E.2.2.2 0 0)), (1, .int (iI a)), (2, .int (iI b)), (3, .int (iI c)), (4, .ref (E.2.2.2 26 0))] [] (cells E σ)
  rw [← Y.1] at hM
  refine j_aload X rfl d_L_byteOf_0 ?_
  refine j_iconst X d_L_byteOf_2 ?_
  refine j_aload_n X rfl d_L_byteOf_3 ?_
  refine j_iload_n X rfl d_L_byteOf_4 ?_
  refine j_iload_n X rfl d_L_byteOf_5 ?_
  refine j_iload_n X rfl d_L_byteOf_6 ?_
  refine v_L_31 X hz hM rfl hd rfl (Nat.le_of_ble_eq_true rfl) ⟨Nat.le_refl _, Nat.le_refl _⟩ d_L_byteOf_7 ?_
  refine j_i2l X (by omega) d_L_byteOf_10 ?_
  refine j_last X (by first | exact okC1 rfl | exact (okCT rfl (by omega))) (fun _ => rfl) rfl (by omega) d_L_byteOf_11 ?_
  refine j_goto X d_L_byteOf_12 (tgt := 19) rfl ?_
  refine j_iconst X d_L_byteOf_19 ?_
  exact j_iret X Y (Nat.le_refl _) (Nat.le_refl _) d_L_byteOf_20 ⟨rfl, rfl⟩

set_option maxRecDepth 100000 in
set_option maxHeartbeats 2000000 in
theorem l_byteOf_x {l : Launch} {E : eT} {σ : St} {a b c : Int} (hM : TCon l E y_U_byteOf ws_U_byteOf 8 1 6 (.ref (E.2.2.2 0 0) :: [.int (iI a), .int (iI b), .int (iI c)]) (cells E σ) iaX (cells E σ)) : Con l E y_L_byteOf ws_L_byteOf 9 1 6 [.ref (E.2.2.2 0 0), .int (iI a), .int (iI b), .int (iI c), .ref (E.2.2.2 26 0)] (cells E σ) (fun v' w' => v' = some (.int (iI 1)) ∧ w' = cells E σ) := by
  refine con_ofW (cc := b_L_byteOf) (nL := 6) (ret := (some .int)) (by decide) (Nat.le_of_ble_eq_true rfl) (fun z X Y hn hx => ?_)
  have X : Cx E z b_L_byteOf R_L := X
  have hz := Y.2.1
  change J E z 0 0 0 [(0, .ref (E.2.2.2 0 0)), (1, .int (iI a)), (2, .int (iI b)), (3, .int (iI c)), (4, .ref (E.2.2.2 26 0))] [] (cells E σ)
  rw [← Y.1] at hM
  refine j_aload X rfl d_L_byteOf_0 ?_
  refine j_iconst X d_L_byteOf_2 ?_
  refine j_aload_n X rfl d_L_byteOf_3 ?_
  refine j_iload_n X rfl d_L_byteOf_4 ?_
  refine j_iload_n X rfl d_L_byteOf_5 ?_
  refine j_iload_n X rfl d_L_byteOf_6 ?_
  refine j_catch1 X (fun H locs ls hP hD hS hLs => t_cV X mc_L_31 yo_U_byteOf rfl (cl_get (okC1 rfl)) rfl hz hM rfl rfl rfl (Nat.le_of_ble_eq_true rfl) ⟨Nat.le_refl _, Nat.le_refl _⟩ d_L_byteOf_7 hP hD hS hLs) hx ⟨rfl, rfl⟩ (by decide) cl_ia nc_ia (fun q => ?_)
  refine j_astore X (zlt hn rfl) d_L_byteOf_15 ?_
  refine j_iconst X d_L_byteOf_17 ?_
  exact j_iret X Y (Nat.le_refl _) (Nat.le_refl _) d_L_byteOf_18 ⟨rfl, rfl⟩

abbrev ws_L_spoil : List Cond := .codeWith y_L_spoil b_L_spoil 4 (some .int) [(0, 6, 9, 13)] :: bgW
set_option maxRecDepth 100000 in
set_option maxHeartbeats 2000000 in
theorem l_spoil_s {l : Launch} {E : eT} {σ σ1 : St} {a b : Int} {d : Nat} (hd : Nat.blt d 9 = true) (hM : FCon l E y_U_spoil ws_U_spoil d (.ref (E.2.2.2 0 0) :: [.int (iI a), .int (iI b)]) σ none σ1) : Con l E y_L_spoil ws_L_spoil 9 0 0 [.ref (E.2.2.2 0 0), .int (iI a), .int (iI b)] (cells E σ) (fun v' w' => v' = some (.int (iI 0)) ∧ w' = cells E σ1) := by
  refine con_ofW (cc := b_L_spoil) (nL := 4) (ret := (some .int)) (by decide) (Nat.le_of_ble_eq_true rfl) (fun z X Y hn hx => ?_)
  have X : Cx E z b_L_spoil R_L := X
  have hz := Y.2.1
  change J E z 0 0 0 [(0, .ref (E.2.2.2 0 0)), (1, .int (iI a)), (2, .int (iI b))] [] (cells E σ)
  rw [← Y.1] at hM
  refine j_aload_n X rfl d_L_spoil_0 ?_
  refine j_iload_n X rfl d_L_spoil_1 ?_
  refine j_iload_n X rfl d_L_spoil_2 ?_
  refine v_L_34 X hz hM rfl hd rfl (Nat.le_of_ble_eq_true rfl) ⟨Nat.le_refl _, Nat.le_refl _⟩ d_L_spoil_3 ?_
  refine j_goto X d_L_spoil_6 (tgt := 12) rfl ?_
  refine j_iconst X d_L_spoil_12 ?_
  exact j_iret X Y (Nat.le_refl _) (Nat.le_refl _) d_L_spoil_13 ⟨rfl, rfl⟩

set_option maxRecDepth 100000 in
set_option maxHeartbeats 2000000 in
theorem l_spoil_x {l : Launch} {E : eT} {σ : St} {a b : Int} (hM : TCon l E y_U_spoil ws_U_spoil 8 1 6 (.ref (E.2.2.2 0 0) :: [.int (iI a), .int (iI b)]) (cells E σ) iaX (cells E σ)) : Con l E y_L_spoil ws_L_spoil 9 1 6 [.ref (E.2.2.2 0 0), .int (iI a), .int (iI b)] (cells E σ) (fun v' w' => v' = some (.int (iI 1)) ∧ w' = cells E σ) := by
  refine con_ofW (cc := b_L_spoil) (nL := 4) (ret := (some .int)) (by decide) (Nat.le_of_ble_eq_true rfl) (fun z X Y hn hx => ?_)
  have X : Cx E z b_L_spoil R_L := X
  have hz := Y.2.1
  change J E z 0 0 0 [(0, .ref (E.2.2.2 0 0)), (1, .int (iI a)), (2, .int (iI b))] [] (cells E σ)
  rw [← Y.1] at hM
  refine j_aload_n X rfl d_L_spoil_0 ?_
  refine j_iload_n X rfl d_L_spoil_1 ?_
  refine j_iload_n X rfl d_L_spoil_2 ?_
  refine j_catch1 X (fun H locs ls hP hD hS hLs => t_cV X mc_L_34 yo_U_spoil rfl (cl_get (okC1 rfl)) rfl hz hM rfl rfl rfl (Nat.le_of_ble_eq_true rfl) ⟨Nat.le_refl _, Nat.le_refl _⟩ d_L_spoil_3 hP hD hS hLs) hx ⟨rfl, rfl⟩ (by decide) cl_ia nc_ia (fun q => ?_)
  refine j_astore_n X (zlt hn rfl) d_L_spoil_9 ?_
  refine j_iconst X d_L_spoil_10 ?_
  exact j_iret X Y (Nat.le_refl _) (Nat.le_refl _) d_L_spoil_11 ⟨rfl, rfl⟩

abbrev ws_L_allocate : List Cond := .codeWith y_L_allocate b_L_allocate 5 (some .int) [(0, 10, 13, 13), (0, 10, 17, 15)] :: bgW
set_option maxRecDepth 100000 in
set_option maxHeartbeats 2000000 in
theorem l_allocate_s {l : Launch} {E : eT} {σ σ1 : St} {a b v : Int} {d : Nat} (hd : Nat.blt d 9 = true) (hM : FCon l E y_U_allocate ws_U_allocate d (.ref (E.2.2.2 0 0) :: [.int (iI a), .int (iI b)]) σ (some (.int (iI v))) σ1) (rv : inR v) : Con l E y_L_allocate ws_L_allocate 9 0 0 [.ref (E.2.2.2 0 0), .int (iI a), .int (iI b), .ref (E.2.2.2 26 0)] (cells E σ) (fun v' w' => v' = some (.int (iI 0)) ∧ w' = cells E (up σ1 26 0 0 v)) := by
  refine con_ofW (cc := b_L_allocate) (nL := 5) (ret := (some .int)) (by decide) (Nat.le_of_ble_eq_true rfl) (fun z X Y hn hx => ?_)
  have X : Cx E z b_L_allocate R_L := X
  have hz := Y.2.1
  change J E z 0 0 0 [(0, .ref (E.2.2.2 0 0)), (1, .int (iI a)), (2, .int (iI b)), (3, .ref (E.2.2.2 26 0))] [] (cells E σ)
  rw [← Y.1] at hM
  refine j_aload_n X rfl d_L_allocate_0 ?_
  refine j_iconst X d_L_allocate_1 ?_
  refine j_aload_n X rfl d_L_allocate_2 ?_
  refine j_iload_n X rfl d_L_allocate_3 ?_
  refine j_iload_n X rfl d_L_allocate_4 ?_
  refine v_L_37 X hz hM rfl hd rfl (Nat.le_of_ble_eq_true rfl) ⟨Nat.le_refl _, Nat.le_refl _⟩ d_L_allocate_5 ?_
  refine j_i2l X (by omega) d_L_allocate_8 ?_
  refine j_last X (by first | exact okC1 rfl | exact (okCT rfl (by omega))) (fun _ => rfl) rfl (by omega) d_L_allocate_9 ?_
  refine j_goto X d_L_allocate_10 (tgt := 21) rfl ?_
  refine j_iconst X d_L_allocate_21 ?_
  exact j_iret X Y (Nat.le_refl _) (Nat.le_refl _) d_L_allocate_22 ⟨rfl, rfl⟩

set_option maxRecDepth 100000 in
set_option maxHeartbeats 2000000 in
theorem l_allocate_x {l : Launch} {E : eT} {σ : St} {a b : Int} (hM : TCon l E y_U_allocate ws_U_allocate 8 1 6 (.ref (E.2.2.2 0 0) :: [.int (iI a), .int (iI b)]) (cells E σ) iaX (cells E σ)) : Con l E y_L_allocate ws_L_allocate 9 1 6 [.ref (E.2.2.2 0 0), .int (iI a), .int (iI b), .ref (E.2.2.2 26 0)] (cells E σ) (fun v' w' => v' = some (.int (iI 1)) ∧ w' = cells E σ) := by
  refine con_ofW (cc := b_L_allocate) (nL := 5) (ret := (some .int)) (by decide) (Nat.le_of_ble_eq_true rfl) (fun z X Y hn hx => ?_)
  have X : Cx E z b_L_allocate R_L := X
  have hz := Y.2.1
  change J E z 0 0 0 [(0, .ref (E.2.2.2 0 0)), (1, .int (iI a)), (2, .int (iI b)), (3, .ref (E.2.2.2 26 0))] [] (cells E σ)
  rw [← Y.1] at hM
  refine j_aload_n X rfl d_L_allocate_0 ?_
  refine j_iconst X d_L_allocate_1 ?_
  refine j_aload_n X rfl d_L_allocate_2 ?_
  refine j_iload_n X rfl d_L_allocate_3 ?_
  refine j_iload_n X rfl d_L_allocate_4 ?_
  refine j_catch1 X (fun H locs ls hP hD hS hLs => t_cV X mc_L_37 yo_U_allocate rfl (cl_get (okC1 rfl)) rfl hz hM rfl rfl rfl (Nat.le_of_ble_eq_true rfl) ⟨Nat.le_refl _, Nat.le_refl _⟩ d_L_allocate_5 hP hD hS hLs) hx ⟨rfl, rfl⟩ (by decide) cl_ia nc_ia (fun q => ?_)
  refine j_astore X (zlt hn rfl) d_L_allocate_13 ?_
  refine j_iconst X d_L_allocate_15 ?_
  exact j_iret X Y (Nat.le_refl _) (Nat.le_refl _) d_L_allocate_16 ⟨rfl, rfl⟩

set_option maxRecDepth 100000 in
set_option maxHeartbeats 2000000 in
theorem l_allocate_y {l : Launch} {E : eT} {σ : St} {a b : Int} (hM : TCon l E y_U_allocate ws_U_allocate 8 1 6 (.ref (E.2.2.2 0 0) :: [.int (iI a), .int (iI b)]) (cells E σ) isX (cells E σ)) : Con l E y_L_allocate ws_L_allocate 9 1 6 [.ref (E.2.2.2 0 0), .int (iI a), .int (iI b), .ref (E.2.2.2 26 0)] (cells E σ) (fun v' w' => v' = some (.int (iI 2)) ∧ w' = cells E σ) := by
  refine con_ofW (cc := b_L_allocate) (nL := 5) (ret := (some .int)) (by decide) (Nat.le_of_ble_eq_true rfl) (fun z X Y hn hx => ?_)
  have X : Cx E z b_L_allocate R_L := X
  have hz := Y.2.1
  change J E z 0 0 0 [(0, .ref (E.2.2.2 0 0)), (1, .int (iI a)), (2, .int (iI b)), (3, .ref (E.2.2.2 26 0))] [] (cells E σ)
  rw [← Y.1] at hM
  refine j_aload_n X rfl d_L_allocate_0 ?_
  refine j_iconst X d_L_allocate_1 ?_
  refine j_aload_n X rfl d_L_allocate_2 ?_
  refine j_iload_n X rfl d_L_allocate_3 ?_
  refine j_iload_n X rfl d_L_allocate_4 ?_
  refine j_catch2 X (fun H locs ls hP hD hS hLs => t_cV X mc_L_37 yo_U_allocate rfl (cl_get (okC1 rfl)) rfl hz hM rfl rfl rfl (Nat.le_of_ble_eq_true rfl) ⟨Nat.le_refl _, Nat.le_refl _⟩ d_L_allocate_5 hP hD hS hLs) hx ⟨rfl, rfl⟩ ⟨rfl, rfl⟩ (by decide) (by decide) cl_ia X.2.2.2.2.2.1.2.2.2.2.1 cl_is nc_is (fun q => ?_)
  refine j_astore X (zlt hn rfl) d_L_allocate_17 ?_
  refine j_iconst X d_L_allocate_19 ?_
  exact j_iret X Y (Nat.le_refl _) (Nat.le_refl _) d_L_allocate_20 ⟨rfl, rfl⟩

abbrev ws_L_scratch : List Cond := .codeWith y_L_scratch b_L_scratch 3 (some .int) [(0, 5, 8, 13), (0, 5, 11, 15)] :: bgW
set_option maxRecDepth 100000 in
set_option maxHeartbeats 2000000 in
theorem l_scratch_s {l : Launch} {E : eT} {σ σ1 : St} {a : Int} {d : Nat} (hd : Nat.blt d 9 = true) (hM : FCon l E y_U_scratch ws_U_scratch d (.ref (E.2.2.2 0 0) :: [.int (iI a)]) σ none σ1) : Con l E y_L_scratch ws_L_scratch 9 0 0 [.ref (E.2.2.2 0 0), .int (iI a)] (cells E σ) (fun v' w' => v' = some (.int (iI 0)) ∧ w' = cells E σ1) := by
  refine con_ofW (cc := b_L_scratch) (nL := 3) (ret := (some .int)) (by decide) (Nat.le_of_ble_eq_true rfl) (fun z X Y hn hx => ?_)
  have X : Cx E z b_L_scratch R_L := X
  have hz := Y.2.1
  change J E z 0 0 0 [(0, .ref (E.2.2.2 0 0)), (1, .int (iI a))] [] (cells E σ)
  rw [← Y.1] at hM
  refine j_aload_n X rfl d_L_scratch_0 ?_
  refine j_iload_n X rfl d_L_scratch_1 ?_
  refine v_L_41 X hz hM rfl hd rfl (Nat.le_of_ble_eq_true rfl) ⟨Nat.le_refl _, Nat.le_refl _⟩ d_L_scratch_2 ?_
  refine j_goto X d_L_scratch_5 (tgt := 14) rfl ?_
  refine j_iconst X d_L_scratch_14 ?_
  exact j_iret X Y (Nat.le_refl _) (Nat.le_refl _) d_L_scratch_15 ⟨rfl, rfl⟩

set_option maxRecDepth 100000 in
set_option maxHeartbeats 2000000 in
theorem l_scratch_x {l : Launch} {E : eT} {σ : St} {a : Int} (hM : TCon l E y_U_scratch ws_U_scratch 8 1 6 (.ref (E.2.2.2 0 0) :: [.int (iI a)]) (cells E σ) iaX (cells E σ)) : Con l E y_L_scratch ws_L_scratch 9 1 6 [.ref (E.2.2.2 0 0), .int (iI a)] (cells E σ) (fun v' w' => v' = some (.int (iI 1)) ∧ w' = cells E σ) := by
  refine con_ofW (cc := b_L_scratch) (nL := 3) (ret := (some .int)) (by decide) (Nat.le_of_ble_eq_true rfl) (fun z X Y hn hx => ?_)
  have X : Cx E z b_L_scratch R_L := X
  have hz := Y.2.1
  change J E z 0 0 0 [(0, .ref (E.2.2.2 0 0)), (1, .int (iI a))] [] (cells E σ)
  rw [← Y.1] at hM
  refine j_aload_n X rfl d_L_scratch_0 ?_
  refine j_iload_n X rfl d_L_scratch_1 ?_
  refine j_catch1 X (fun H locs ls hP hD hS hLs => t_cV X mc_L_41 yo_U_scratch rfl (cl_get (okC1 rfl)) rfl hz hM rfl rfl rfl (Nat.le_of_ble_eq_true rfl) ⟨Nat.le_refl _, Nat.le_refl _⟩ d_L_scratch_2 hP hD hS hLs) hx ⟨rfl, rfl⟩ (by decide) cl_ia nc_ia (fun q => ?_)
  refine j_astore_n X (zlt hn rfl) d_L_scratch_8 ?_
  refine j_iconst X d_L_scratch_9 ?_
  exact j_iret X Y (Nat.le_refl _) (Nat.le_refl _) d_L_scratch_10 ⟨rfl, rfl⟩

set_option maxRecDepth 100000 in
set_option maxHeartbeats 2000000 in
theorem l_scratch_y {l : Launch} {E : eT} {σ : St} {a : Int} (hM : TCon l E y_U_scratch ws_U_scratch 8 1 6 (.ref (E.2.2.2 0 0) :: [.int (iI a)]) (cells E σ) isX (cells E σ)) : Con l E y_L_scratch ws_L_scratch 9 1 6 [.ref (E.2.2.2 0 0), .int (iI a)] (cells E σ) (fun v' w' => v' = some (.int (iI 2)) ∧ w' = cells E σ) := by
  refine con_ofW (cc := b_L_scratch) (nL := 3) (ret := (some .int)) (by decide) (Nat.le_of_ble_eq_true rfl) (fun z X Y hn hx => ?_)
  have X : Cx E z b_L_scratch R_L := X
  have hz := Y.2.1
  change J E z 0 0 0 [(0, .ref (E.2.2.2 0 0)), (1, .int (iI a))] [] (cells E σ)
  rw [← Y.1] at hM
  refine j_aload_n X rfl d_L_scratch_0 ?_
  refine j_iload_n X rfl d_L_scratch_1 ?_
  refine j_catch2 X (fun H locs ls hP hD hS hLs => t_cV X mc_L_41 yo_U_scratch rfl (cl_get (okC1 rfl)) rfl hz hM rfl rfl rfl (Nat.le_of_ble_eq_true rfl) ⟨Nat.le_refl _, Nat.le_refl _⟩ d_L_scratch_2 hP hD hS hLs) hx ⟨rfl, rfl⟩ ⟨rfl, rfl⟩ (by decide) (by decide) cl_ia X.2.2.2.2.2.1.2.2.2.2.1 cl_is nc_is (fun q => ?_)
  refine j_astore_n X (zlt hn rfl) d_L_scratch_11 ?_
  refine j_iconst X d_L_scratch_12 ?_
  exact j_iret X Y (Nat.le_refl _) (Nat.le_refl _) d_L_scratch_13 ⟨rfl, rfl⟩

abbrev ws_L_trackOf : List Cond := .codeWith y_L_trackOf b_L_trackOf 5 (some .int) [(0, 10, 13, 13)] :: bgW
set_option maxRecDepth 100000 in
set_option maxHeartbeats 2000000 in
theorem l_trackOf_s {l : Launch} {E : eT} {σ σ1 : St} {a b v : Int} {d : Nat} (hd : Nat.blt d 9 = true) (hM : FCon l E y_U_trackOf ws_U_trackOf d (.ref (E.2.2.2 0 0) :: [.int (iI a), .int (iI b)]) σ (some (.int (iI v))) σ1) (rv : inR v) : Con l E y_L_trackOf ws_L_trackOf 9 0 0 [.ref (E.2.2.2 0 0), .int (iI a), .int (iI b), .ref (E.2.2.2 26 0)] (cells E σ) (fun v' w' => v' = some (.int (iI 0)) ∧ w' = cells E (up σ1 26 0 0 v)) := by
  refine con_ofW (cc := b_L_trackOf) (nL := 5) (ret := (some .int)) (by decide) (Nat.le_of_ble_eq_true rfl) (fun z X Y hn hx => ?_)
  have X : Cx E z b_L_trackOf R_L := X
  have hz := Y.2.1
  change J E z 0 0 0 [(0, .ref (E.2.2.2 0 0)), (1, .int (iI a)), (2, .int (iI b)), (3, .ref (E.2.2.2 26 0))] [] (cells E σ)
  rw [← Y.1] at hM
  refine j_aload_n X rfl d_L_trackOf_0 ?_
  refine j_iconst X d_L_trackOf_1 ?_
  refine j_aload_n X rfl d_L_trackOf_2 ?_
  refine j_iload_n X rfl d_L_trackOf_3 ?_
  refine j_iload_n X rfl d_L_trackOf_4 ?_
  refine v_L_45 X hz hM rfl hd rfl (Nat.le_of_ble_eq_true rfl) ⟨Nat.le_refl _, Nat.le_refl _⟩ d_L_trackOf_5 ?_
  refine j_i2l X (by omega) d_L_trackOf_8 ?_
  refine j_last X (by first | exact okC1 rfl | exact (okCT rfl (by omega))) (fun _ => rfl) rfl (by omega) d_L_trackOf_9 ?_
  refine j_goto X d_L_trackOf_10 (tgt := 17) rfl ?_
  refine j_iconst X d_L_trackOf_17 ?_
  exact j_iret X Y (Nat.le_refl _) (Nat.le_refl _) d_L_trackOf_18 ⟨rfl, rfl⟩

set_option maxRecDepth 100000 in
set_option maxHeartbeats 2000000 in
theorem l_trackOf_x {l : Launch} {E : eT} {σ : St} {a b : Int} (hM : TCon l E y_U_trackOf ws_U_trackOf 8 1 6 (.ref (E.2.2.2 0 0) :: [.int (iI a), .int (iI b)]) (cells E σ) iaX (cells E σ)) : Con l E y_L_trackOf ws_L_trackOf 9 1 6 [.ref (E.2.2.2 0 0), .int (iI a), .int (iI b), .ref (E.2.2.2 26 0)] (cells E σ) (fun v' w' => v' = some (.int (iI 1)) ∧ w' = cells E σ) := by
  refine con_ofW (cc := b_L_trackOf) (nL := 5) (ret := (some .int)) (by decide) (Nat.le_of_ble_eq_true rfl) (fun z X Y hn hx => ?_)
  have X : Cx E z b_L_trackOf R_L := X
  have hz := Y.2.1
  change J E z 0 0 0 [(0, .ref (E.2.2.2 0 0)), (1, .int (iI a)), (2, .int (iI b)), (3, .ref (E.2.2.2 26 0))] [] (cells E σ)
  rw [← Y.1] at hM
  refine j_aload_n X rfl d_L_trackOf_0 ?_
  refine j_iconst X d_L_trackOf_1 ?_
  refine j_aload_n X rfl d_L_trackOf_2 ?_
  refine j_iload_n X rfl d_L_trackOf_3 ?_
  refine j_iload_n X rfl d_L_trackOf_4 ?_
  refine j_catch1 X (fun H locs ls hP hD hS hLs => t_cV X mc_L_45 yo_U_trackOf rfl (cl_get (okC1 rfl)) rfl hz hM rfl rfl rfl (Nat.le_of_ble_eq_true rfl) ⟨Nat.le_refl _, Nat.le_refl _⟩ d_L_trackOf_5 hP hD hS hLs) hx ⟨rfl, rfl⟩ (by decide) cl_ia nc_ia (fun q => ?_)
  refine j_astore X (zlt hn rfl) d_L_trackOf_13 ?_
  refine j_iconst X d_L_trackOf_15 ?_
  exact j_iret X Y (Nat.le_refl _) (Nat.le_refl _) d_L_trackOf_16 ⟨rfl, rfl⟩

abbrev ws_L_store : List Cond := .codeWith y_L_store b_L_store 6 (some .int) [(0, 12, 15, 13), (0, 12, 19, 15)] :: bgW
set_option maxRecDepth 100000 in
set_option maxHeartbeats 2000000 in
theorem l_store_s {l : Launch} {E : eT} {σ σ1 : St} {a b c v : Int} {d : Nat} (hd : Nat.blt d 9 = true) (hM : FCon l E y_U_store ws_U_store d (.ref (E.2.2.2 0 0) :: [.int (iI a), .int (iI b), .int (iI c)]) σ (some (.int (iI v))) σ1) (rv : inR v) : Con l E y_L_store ws_L_store 9 0 0 [.ref (E.2.2.2 0 0), .int (iI a), .int (iI b), .int (iI c), .ref (E.2.2.2 26 0)] (cells E σ) (fun v' w' => v' = some (.int (iI 0)) ∧ w' = cells E (up σ1 26 0 0 v)) := by
  refine con_ofW (cc := b_L_store) (nL := 6) (ret := (some .int)) (by decide) (Nat.le_of_ble_eq_true rfl) (fun z X Y hn hx => ?_)
  have X : Cx E z b_L_store R_L := X
  have hz := Y.2.1
  change J E z 0 0 0 [(0, .ref (E.2.2.2 0 0)), (1, .int (iI a)), (2, .int (iI b)), (3, .int (iI c)), (4, .ref (E.2.2.2 26 0))] [] (cells E σ)
  rw [← Y.1] at hM
  refine j_aload X rfl d_L_store_0 ?_
  refine j_iconst X d_L_store_2 ?_
  refine j_aload_n X rfl d_L_store_3 ?_
  refine j_iload_n X rfl d_L_store_4 ?_
  refine j_iload_n X rfl d_L_store_5 ?_
  refine j_iload_n X rfl d_L_store_6 ?_
  refine v_L_48 X hz hM rfl hd rfl (Nat.le_of_ble_eq_true rfl) ⟨Nat.le_refl _, Nat.le_refl _⟩ d_L_store_7 ?_
  refine j_i2l X (by omega) d_L_store_10 ?_
  refine j_last X (by first | exact okC1 rfl | exact (okCT rfl (by omega))) (fun _ => rfl) rfl (by omega) d_L_store_11 ?_
  refine j_goto X d_L_store_12 (tgt := 23) rfl ?_
  refine j_iconst X d_L_store_23 ?_
  exact j_iret X Y (Nat.le_refl _) (Nat.le_refl _) d_L_store_24 ⟨rfl, rfl⟩

set_option maxRecDepth 100000 in
set_option maxHeartbeats 2000000 in
theorem l_store_x {l : Launch} {E : eT} {σ : St} {a b c : Int} (hM : TCon l E y_U_store ws_U_store 8 1 6 (.ref (E.2.2.2 0 0) :: [.int (iI a), .int (iI b), .int (iI c)]) (cells E σ) iaX (cells E σ)) : Con l E y_L_store ws_L_store 9 1 6 [.ref (E.2.2.2 0 0), .int (iI a), .int (iI b), .int (iI c), .ref (E.2.2.2 26 0)] (cells E σ) (fun v' w' => v' = some (.int (iI 1)) ∧ w' = cells E σ) := by
  refine con_ofW (cc := b_L_store) (nL := 6) (ret := (some .int)) (by decide) (Nat.le_of_ble_eq_true rfl) (fun z X Y hn hx => ?_)
  have X : Cx E z b_L_store R_L := X
  have hz := Y.2.1
  change J E z 0 0 0 [(0, .ref (E.2.2.2 0 0)), (1, .int (iI a)), (2, .int (iI b)), (3, .int (iI c)), (4, .ref (E.2.2.2 26 0))] [] (cells E σ)
  rw [← Y.1] at hM
  refine j_aload X rfl d_L_store_0 ?_
  refine j_iconst X d_L_store_2 ?_
  refine j_aload_n X rfl d_L_store_3 ?_
  refine j_iload_n X rfl d_L_store_4 ?_
  refine j_iload_n X rfl d_L_store_5 ?_
  refine j_iload_n X rfl d_L_store_6 ?_
  refine j_catch1 X (fun H locs ls hP hD hS hLs => t_cV X mc_L_48 yo_U_store rfl (cl_get (okC1 rfl)) rfl hz hM rfl rfl rfl (Nat.le_of_ble_eq_true rfl) ⟨Nat.le_refl _, Nat.le_refl _⟩ d_L_store_7 hP hD hS hLs) hx ⟨rfl, rfl⟩ (by decide) cl_ia nc_ia (fun q => ?_)
  refine j_astore X (zlt hn rfl) d_L_store_15 ?_
  refine j_iconst X d_L_store_17 ?_
  exact j_iret X Y (Nat.le_refl _) (Nat.le_refl _) d_L_store_18 ⟨rfl, rfl⟩

set_option maxRecDepth 100000 in
set_option maxHeartbeats 2000000 in
theorem l_store_y {l : Launch} {E : eT} {σ : St} {a b c : Int} (hM : TCon l E y_U_store ws_U_store 8 1 6 (.ref (E.2.2.2 0 0) :: [.int (iI a), .int (iI b), .int (iI c)]) (cells E σ) isX (cells E σ)) : Con l E y_L_store ws_L_store 9 1 6 [.ref (E.2.2.2 0 0), .int (iI a), .int (iI b), .int (iI c), .ref (E.2.2.2 26 0)] (cells E σ) (fun v' w' => v' = some (.int (iI 2)) ∧ w' = cells E σ) := by
  refine con_ofW (cc := b_L_store) (nL := 6) (ret := (some .int)) (by decide) (Nat.le_of_ble_eq_true rfl) (fun z X Y hn hx => ?_)
  have X : Cx E z b_L_store R_L := X
  have hz := Y.2.1
  change J E z 0 0 0 [(0, .ref (E.2.2.2 0 0)), (1, .int (iI a)), (2, .int (iI b)), (3, .int (iI c)), (4, .ref (E.2.2.2 26 0))] [] (cells E σ)
  rw [← Y.1] at hM
  refine j_aload X rfl d_L_store_0 ?_
  refine j_iconst X d_L_store_2 ?_
  refine j_aload_n X rfl d_L_store_3 ?_
  refine j_iload_n X rfl d_L_store_4 ?_
  refine j_iload_n X rfl d_L_store_5 ?_
  refine j_iload_n X rfl d_L_store_6 ?_
  refine j_catch2 X (fun H locs ls hP hD hS hLs => t_cV X mc_L_48 yo_U_store rfl (cl_get (okC1 rfl)) rfl hz hM rfl rfl rfl (Nat.le_of_ble_eq_true rfl) ⟨Nat.le_refl _, Nat.le_refl _⟩ d_L_store_7 hP hD hS hLs) hx ⟨rfl, rfl⟩ ⟨rfl, rfl⟩ (by decide) (by decide) cl_ia X.2.2.2.2.2.1.2.2.2.2.1 cl_is nc_is (fun q => ?_)
  refine j_astore X (zlt hn rfl) d_L_store_19 ?_
  refine j_iconst X d_L_store_21 ?_
  exact j_iret X Y (Nat.le_refl _) (Nat.le_refl _) d_L_store_22 ⟨rfl, rfl⟩

abbrev ws_L_fetch : List Cond := .codeWith y_L_fetch b_L_fetch 5 (some .int) [(0, 10, 13, 13), (0, 10, 17, 15)] :: bgW
set_option maxRecDepth 100000 in
set_option maxHeartbeats 2000000 in
theorem l_fetch_s {l : Launch} {E : eT} {σ σ1 : St} {a b v : Int} {d : Nat} (hd : Nat.blt d 9 = true) (hM : FCon l E y_U_fetch ws_U_fetch d (.ref (E.2.2.2 0 0) :: [.int (iI a), .int (iI b)]) σ (some (.int (iI v))) σ1) (rv : inR v) : Con l E y_L_fetch ws_L_fetch 9 0 0 [.ref (E.2.2.2 0 0), .int (iI a), .int (iI b), .ref (E.2.2.2 26 0)] (cells E σ) (fun v' w' => v' = some (.int (iI 0)) ∧ w' = cells E (up σ1 26 0 0 v)) := by
  refine con_ofW (cc := b_L_fetch) (nL := 5) (ret := (some .int)) (by decide) (Nat.le_of_ble_eq_true rfl) (fun z X Y hn hx => ?_)
  have X : Cx E z b_L_fetch R_L := X
  have hz := Y.2.1
  change J E z 0 0 0 [(0, .ref (E.2.2.2 0 0)), (1, .int (iI a)), (2, .int (iI b)), (3, .ref (E.2.2.2 26 0))] [] (cells E σ)
  rw [← Y.1] at hM
  refine j_aload_n X rfl d_L_fetch_0 ?_
  refine j_iconst X d_L_fetch_1 ?_
  refine j_aload_n X rfl d_L_fetch_2 ?_
  refine j_iload_n X rfl d_L_fetch_3 ?_
  refine j_iload_n X rfl d_L_fetch_4 ?_
  refine v_L_51 X hz hM rfl hd rfl (Nat.le_of_ble_eq_true rfl) ⟨Nat.le_refl _, Nat.le_refl _⟩ d_L_fetch_5 ?_
  refine j_i2l X (by omega) d_L_fetch_8 ?_
  refine j_last X (by first | exact okC1 rfl | exact (okCT rfl (by omega))) (fun _ => rfl) rfl (by omega) d_L_fetch_9 ?_
  refine j_goto X d_L_fetch_10 (tgt := 21) rfl ?_
  refine j_iconst X d_L_fetch_21 ?_
  exact j_iret X Y (Nat.le_refl _) (Nat.le_refl _) d_L_fetch_22 ⟨rfl, rfl⟩

set_option maxRecDepth 100000 in
set_option maxHeartbeats 2000000 in
theorem l_fetch_x {l : Launch} {E : eT} {σ : St} {a b : Int} (hM : TCon l E y_U_fetch ws_U_fetch 8 1 6 (.ref (E.2.2.2 0 0) :: [.int (iI a), .int (iI b)]) (cells E σ) iaX (cells E σ)) : Con l E y_L_fetch ws_L_fetch 9 1 6 [.ref (E.2.2.2 0 0), .int (iI a), .int (iI b), .ref (E.2.2.2 26 0)] (cells E σ) (fun v' w' => v' = some (.int (iI 1)) ∧ w' = cells E σ) := by
  refine con_ofW (cc := b_L_fetch) (nL := 5) (ret := (some .int)) (by decide) (Nat.le_of_ble_eq_true rfl) (fun z X Y hn hx => ?_)
  have X : Cx E z b_L_fetch R_L := X
  have hz := Y.2.1
  change J E z 0 0 0 [(0, .ref (E.2.2.2 0 0)), (1, .int (iI a)), (2, .int (iI b)), (3, .ref (E.2.2.2 26 0))] [] (cells E σ)
  rw [← Y.1] at hM
  refine j_aload_n X rfl d_L_fetch_0 ?_
  refine j_iconst X d_L_fetch_1 ?_
  refine j_aload_n X rfl d_L_fetch_2 ?_
  refine j_iload_n X rfl d_L_fetch_3 ?_
  refine j_iload_n X rfl d_L_fetch_4 ?_
  refine j_catch1 X (fun H locs ls hP hD hS hLs => t_cV X mc_L_51 yo_U_fetch rfl (cl_get (okC1 rfl)) rfl hz hM rfl rfl rfl (Nat.le_of_ble_eq_true rfl) ⟨Nat.le_refl _, Nat.le_refl _⟩ d_L_fetch_5 hP hD hS hLs) hx ⟨rfl, rfl⟩ (by decide) cl_ia nc_ia (fun q => ?_)
  refine j_astore X (zlt hn rfl) d_L_fetch_13 ?_
  refine j_iconst X d_L_fetch_15 ?_
  exact j_iret X Y (Nat.le_refl _) (Nat.le_refl _) d_L_fetch_16 ⟨rfl, rfl⟩

set_option maxRecDepth 100000 in
set_option maxHeartbeats 2000000 in
theorem l_fetch_y {l : Launch} {E : eT} {σ : St} {a b : Int} (hM : TCon l E y_U_fetch ws_U_fetch 8 1 6 (.ref (E.2.2.2 0 0) :: [.int (iI a), .int (iI b)]) (cells E σ) isX (cells E σ)) : Con l E y_L_fetch ws_L_fetch 9 1 6 [.ref (E.2.2.2 0 0), .int (iI a), .int (iI b), .ref (E.2.2.2 26 0)] (cells E σ) (fun v' w' => v' = some (.int (iI 2)) ∧ w' = cells E σ) := by
  refine con_ofW (cc := b_L_fetch) (nL := 5) (ret := (some .int)) (by decide) (Nat.le_of_ble_eq_true rfl) (fun z X Y hn hx => ?_)
  have X : Cx E z b_L_fetch R_L := X
  have hz := Y.2.1
  change J E z 0 0 0 [(0, .ref (E.2.2.2 0 0)), (1, .int (iI a)), (2, .int (iI b)), (3, .ref (E.2.2.2 26 0))] [] (cells E σ)
  rw [← Y.1] at hM
  refine j_aload_n X rfl d_L_fetch_0 ?_
  refine j_iconst X d_L_fetch_1 ?_
  refine j_aload_n X rfl d_L_fetch_2 ?_
  refine j_iload_n X rfl d_L_fetch_3 ?_
  refine j_iload_n X rfl d_L_fetch_4 ?_
  refine j_catch2 X (fun H locs ls hP hD hS hLs => t_cV X mc_L_51 yo_U_fetch rfl (cl_get (okC1 rfl)) rfl hz hM rfl rfl rfl (Nat.le_of_ble_eq_true rfl) ⟨Nat.le_refl _, Nat.le_refl _⟩ d_L_fetch_5 hP hD hS hLs) hx ⟨rfl, rfl⟩ ⟨rfl, rfl⟩ (by decide) (by decide) cl_ia X.2.2.2.2.2.1.2.2.2.2.1 cl_is nc_is (fun q => ?_)
  refine j_astore X (zlt hn rfl) d_L_fetch_17 ?_
  refine j_iconst X d_L_fetch_19 ?_
  exact j_iret X Y (Nat.le_refl _) (Nat.le_refl _) d_L_fetch_20 ⟨rfl, rfl⟩
