/-! the constructors -/
theorem at0' (w0 : va_W) (x : Nat × va_E) (t u : va_W) : ((w0 ++ x :: t) ++ u)[w0.length]? = some x := by rw [app0]; exact at0 _ _ _
theorem oj_i : Cond.instanceMethod Lib.objectInit ∈ bgW := bg_in (List.mem_of_getElem? (i := 86) (by decide +kernel)) rfl
theorem oj_c : Cond.code Lib.objectInit ⟨#[0xb1]⟩ 1 none ∈ bgW := bg_in (List.mem_of_getElem? (i := 87) (by decide +kernel)) rfl
theorem oj_B : Cond.methodLink R_B 1 Lib.objectInit ∈ bgW := bg_in (List.mem_of_getElem? (i := 93) (by decide +kernel)) rfl
theorem ii_B : Cond.instanceMethod y_B_init ∈ bgW := bg_in (List.mem_of_getElem? (i := 91) (by decide +kernel)) rfl
theorem ic_B : Cond.code y_B_init b_B_init 2 none ∈ bgW := bg_in (List.mem_of_getElem? (i := 92) (by decide +kernel)) rfl
theorem in1_B : Cond.initialized R_B ∈ bgW := bg_in (List.mem_of_getElem? (i := 67) (by decide +kernel)) rfl
theorem in2_B : Cond.instantiable R_B 1 ∈ bgW := bg_in (List.mem_of_getElem? (i := 89) (by decide +kernel)) rfl
theorem bk_B : ∀ j, j < 1 → defaultValue (ft_B j) = vp_V [.null] j := by
  intro j hj
  rcases (show j = 0 by omega) with rfl
  rfl
theorem oj_C : Cond.methodLink R_C 3 Lib.objectInit ∈ bgW := bg_in (List.mem_of_getElem? (i := 183) (by decide +kernel)) rfl
theorem ii_C : Cond.instanceMethod y_C_init ∈ bgW := bg_in (List.mem_of_getElem? (i := 181) (by decide +kernel)) rfl
theorem ic_C : Cond.code y_C_init b_C_init 4 none ∈ bgW := bg_in (List.mem_of_getElem? (i := 182) (by decide +kernel)) rfl
theorem in1_C : Cond.initialized R_C ∈ bgW := bg_in (List.mem_of_getElem? (i := 71) (by decide +kernel)) rfl
theorem in2_C : Cond.instantiable R_C 11 ∈ bgW := bg_in (List.mem_of_getElem? (i := 179) (by decide +kernel)) rfl
theorem bk_C : ∀ j, j < 11 → defaultValue (ft_C j) = vp_V [.null, .null, .null, .int (iI 0), .int (iI 0), .int (iI 0), .int (iI 0), .long (iL 0), .long (iL 0), .int (iI 0), .int (iI 0)] j := by
  intro j hj
  rcases (show j = 0 ∨ j = 1 ∨ j = 2 ∨ j = 3 ∨ j = 4 ∨ j = 5 ∨ j = 6 ∨ j = 7 ∨ j = 8 ∨ j = 9 ∨ j = 10 by omega) with rfl | rfl | rfl | rfl | rfl | rfl | rfl | rfl | rfl | rfl | rfl <;> rfl
theorem oj_D : Cond.methodLink R_D 3 Lib.objectInit ∈ bgW := bg_in (List.mem_of_getElem? (i := 227) (by decide +kernel)) rfl
theorem ii_D : Cond.instanceMethod y_D_init ∈ bgW := bg_in (List.mem_of_getElem? (i := 225) (by decide +kernel)) rfl
theorem ic_D : Cond.code y_D_init b_D_init 3 none ∈ bgW := bg_in (List.mem_of_getElem? (i := 226) (by decide +kernel)) rfl
theorem in1_D : Cond.initialized R_D ∈ bgW := bg_in (List.mem_of_getElem? (i := 72) (by decide +kernel)) rfl
theorem in2_D : Cond.instantiable R_D 2 ∈ bgW := bg_in (List.mem_of_getElem? (i := 223) (by decide +kernel)) rfl
theorem bk_D : ∀ j, j < 2 → defaultValue (ft_D j) = vp_V [.null, .null] j := by
  intro j hj
  rcases (show j = 0 ∨ j = 1 by omega) with rfl | rfl <;> rfl
theorem oj_H : Cond.methodLink R_H 3 Lib.objectInit ∈ bgW := bg_in (List.mem_of_getElem? (i := 157) (by decide +kernel)) rfl
theorem ii_H : Cond.instanceMethod y_H_init ∈ bgW := bg_in (List.mem_of_getElem? (i := 155) (by decide +kernel)) rfl
theorem ic_H : Cond.code y_H_init b_H_init 2 none ∈ bgW := bg_in (List.mem_of_getElem? (i := 156) (by decide +kernel)) rfl
theorem in1_H : Cond.initialized R_H ∈ bgW := bg_in (List.mem_of_getElem? (i := 70) (by decide +kernel)) rfl
theorem in2_H : Cond.instantiable R_H 5 ∈ bgW := bg_in (List.mem_of_getElem? (i := 153) (by decide +kernel)) rfl
theorem bk_H : ∀ j, j < 5 → defaultValue (ft_H j) = vp_V [.null, .long (iL 0), .int (iI 0), .int (iI 0), .int (iI 0)] j := by
  intro j hj
  rcases (show j = 0 ∨ j = 1 ∨ j = 2 ∨ j = 3 ∨ j = 4 by omega) with rfl | rfl | rfl | rfl | rfl <;> rfl
theorem oj_P : Cond.methodLink R_P 1 Lib.objectInit ∈ bgW := bg_in (List.mem_of_getElem? (i := 133) (by decide +kernel)) rfl
theorem ii_P : Cond.instanceMethod y_P_init ∈ bgW := bg_in (List.mem_of_getElem? (i := 131) (by decide +kernel)) rfl
theorem ic_P : Cond.code y_P_init b_P_init 1 none ∈ bgW := bg_in (List.mem_of_getElem? (i := 132) (by decide +kernel)) rfl
theorem in1_P : Cond.initialized R_P ∈ bgW := bg_in (List.mem_of_getElem? (i := 69) (by decide +kernel)) rfl
theorem in2_P : Cond.instantiable R_P 4 ∈ bgW := bg_in (List.mem_of_getElem? (i := 129) (by decide +kernel)) rfl
theorem bk_P : ∀ j, j < 4 → defaultValue (ft_P j) = vp_V [.null, .null, .null, .int (iI 0)] j := by
  intro j hj
  rcases (show j = 0 ∨ j = 1 ∨ j = 2 ∨ j = 3 by omega) with rfl | rfl | rfl | rfl <;> rfl
theorem oj_T : Cond.methodLink R_T 3 Lib.objectInit ∈ bgW := bg_in (List.mem_of_getElem? (i := 105) (by decide +kernel)) rfl
theorem ii_T : Cond.instanceMethod y_T_init ∈ bgW := bg_in (List.mem_of_getElem? (i := 103) (by decide +kernel)) rfl
theorem ic_T : Cond.code y_T_init b_T_init 1 none ∈ bgW := bg_in (List.mem_of_getElem? (i := 104) (by decide +kernel)) rfl
theorem in1_T : Cond.initialized R_T ∈ bgW := bg_in (List.mem_of_getElem? (i := 68) (by decide +kernel)) rfl
theorem in2_T : Cond.instantiable R_T 5 ∈ bgW := bg_in (List.mem_of_getElem? (i := 101) (by decide +kernel)) rfl
theorem bk_T : ∀ j, j < 5 → defaultValue (ft_T j) = vp_V [.null, .null, .null, .null, .int (iI 0)] j := by
  intro j hj
  rcases (show j = 0 ∨ j = 1 ∨ j = 2 ∨ j = 3 ∨ j = 4 by omega) with rfl | rfl | rfl | rfl | rfl <;> rfl
theorem oj_U : Cond.methodLink R_U 3 Lib.objectInit ∈ bgW := bg_in (List.mem_of_getElem? (i := 85) (by decide +kernel)) rfl
theorem ii_U : Cond.instanceMethod y_U_init ∈ bgW := bg_in (List.mem_of_getElem? (i := 83) (by decide +kernel)) rfl
theorem ic_U : Cond.code y_U_init b_U_init 2 none ∈ bgW := bg_in (List.mem_of_getElem? (i := 84) (by decide +kernel)) rfl
theorem in1_U : Cond.initialized R_U ∈ bgW := bg_in (List.mem_of_getElem? (i := 66) (by decide +kernel)) rfl
theorem in2_U : Cond.instantiable R_U 6 ∈ bgW := bg_in (List.mem_of_getElem? (i := 81) (by decide +kernel)) rfl
theorem bk_U : ∀ j, j < 6 → defaultValue (ft_U j) = vp_V [.null, .null, .null, .null, .null, .null] j := by
  intro j hj
  rcases (show j = 0 ∨ j = 1 ∨ j = 2 ∨ j = 3 ∨ j = 4 ∨ j = 5 by omega) with rfl | rfl | rfl | rfl | rfl | rfl <;> rfl
theorem oj_M : Cond.methodLink R_M 1 Lib.objectInit ∈ bgW := bg_in (List.mem_of_getElem? (i := 759) (by decide +kernel)) rfl
theorem ii_M : Cond.instanceMethod y_M_init ∈ bgW := bg_in (List.mem_of_getElem? (i := 757) (by decide +kernel)) rfl
theorem ic_M : Cond.code y_M_init b_M_init 1 none ∈ bgW := bg_in (List.mem_of_getElem? (i := 758) (by decide +kernel)) rfl
theorem in1_M : Cond.initialized R_M ∈ bgW := bg_in (List.mem_of_getElem? (i := 73) (by decide +kernel)) rfl
theorem in2_M : Cond.instantiable R_M 21 ∈ bgW := bg_in (List.mem_of_getElem? (i := 755) (by decide +kernel)) rfl
theorem bk_M : ∀ j, j < 21 → defaultValue (ft_M j) = vp_V [.int (iI 0), .null, .null, .null, .int (iI 0), .null, .null, .null, .long (iL 0), .int (iI 0), .int (iI 0), .int (iI 0), .int (iI 0), .int (iI 0), .int (iI 0), .int (iI 0), .int (iI 0), .int (iI 0), .int (iI 0), .int (iI 0), .null] j := by
  intro j hj
  rcases (show j = 0 ∨ j = 1 ∨ j = 2 ∨ j = 3 ∨ j = 4 ∨ j = 5 ∨ j = 6 ∨ j = 7 ∨ j = 8 ∨ j = 9 ∨ j = 10 ∨ j = 11 ∨ j = 12 ∨ j = 13 ∨ j = 14 ∨ j = 15 ∨ j = 16 ∨ j = 17 ∨ j = 18 ∨ j = 19 ∨ j = 20 by omega) with rfl | rfl | rfl | rfl | rfl | rfl | rfl | rfl | rfl | rfl | rfl | rfl | rfl | rfl | rfl | rfl | rfl | rfl | rfl | rfl | rfl <;> rfl
theorem ac_int : Cond.arrayClass .int ∈ bgW := bg_in (List.mem_of_getElem? (i := 98) (by decide +kernel)) rfl
theorem ac_boolean : Cond.arrayClass .boolean ∈ bgW := bg_in (List.mem_of_getElem? (i := 127) (by decide +kernel)) rfl
theorem ac_byte : Cond.arrayClass .byte ∈ bgW := bg_in (List.mem_of_getElem? (i := 824) (by decide +kernel)) rfl
theorem ac_long : Cond.arrayClass .long ∈ bgW := bg_in (List.mem_of_getElem? (i := 1056) (by decide +kernel)) rfl
theorem cn_L_8 : Cond.classLink R_L 8 R_U ∈ bgW := bg_in (List.mem_of_getElem? (i := 80) (by decide +kernel)) rfl
theorem cn_U_9 : Cond.classLink R_U 9 R_B ∈ bgW := bg_in (List.mem_of_getElem? (i := 88) (by decide +kernel)) rfl
theorem cn_U_18 : Cond.classLink R_U 18 R_T ∈ bgW := bg_in (List.mem_of_getElem? (i := 99) (by decide +kernel)) rfl
theorem cn_T_22 : Cond.classLink R_T 22 R_B ∈ bgW := bg_in (List.mem_of_getElem? (i := 106) (by decide +kernel)) rfl
theorem cn_U_25 : Cond.classLink R_U 25 R_P ∈ bgW := bg_in (List.mem_of_getElem? (i := 128) (by decide +kernel)) rfl
theorem cn_U_32 : Cond.classLink R_U 32 R_H ∈ bgW := bg_in (List.mem_of_getElem? (i := 152) (by decide +kernel)) rfl
theorem cn_U_41 : Cond.classLink R_U 41 R_C ∈ bgW := bg_in (List.mem_of_getElem? (i := 178) (by decide +kernel)) rfl
theorem cn_U_50 : Cond.classLink R_U 50 R_D ∈ bgW := bg_in (List.mem_of_getElem? (i := 222) (by decide +kernel)) rfl
theorem cn_L_55 : Cond.classLink R_L 55 R_M ∈ bgW := bg_in (List.mem_of_getElem? (i := 754) (by decide +kernel)) rfl
theorem ml_L_54 : Cond.methodLink R_L 54 y_U_init ∈ bgW := bg_in (List.mem_of_getElem? (i := 82) (by decide +kernel)) rfl
theorem ml_U_11 : Cond.methodLink R_U 11 y_B_init ∈ bgW := bg_in (List.mem_of_getElem? (i := 90) (by decide +kernel)) rfl
theorem ml_T_24 : Cond.methodLink R_T 24 y_B_init ∈ bgW := bg_in (List.mem_of_getElem? (i := 107) (by decide +kernel)) rfl
theorem ml_U_34 : Cond.methodLink R_U 34 y_H_init ∈ bgW := bg_in (List.mem_of_getElem? (i := 154) (by decide +kernel)) rfl
theorem ml_U_43 : Cond.methodLink R_U 43 y_C_init ∈ bgW := bg_in (List.mem_of_getElem? (i := 180) (by decide +kernel)) rfl
theorem ml_U_52 : Cond.methodLink R_U 52 y_D_init ∈ bgW := bg_in (List.mem_of_getElem? (i := 224) (by decide +kernel)) rfl
theorem ml_L_57 : Cond.methodLink R_L 57 y_M_init ∈ bgW := bg_in (List.mem_of_getElem? (i := 756) (by decide +kernel)) rfl
theorem ml_U_24 : Cond.methodLinkNest R_U 24 y_T_init "TrackUnit" ∈ nsW := List.mem_of_getElem? (i := 16) (by decide +kernel)
theorem ml_U_27 : Cond.methodLinkNest R_U 27 y_P_init "TrackUnit" ∈ nsW := List.mem_of_getElem? (i := 17) (by decide +kernel)
set_option maxRecDepth 100000 in
set_option maxHeartbeats 4000000 in
theorem c_B_init (l : Launch) (E : eT) (w0 : va_W) (a : Nat) (len : Int) (N : Nat) (hN : (len + 3) / 4 = N) (hN1 : Nat.ble N 100000 = true) (h0 : 0 ≤ len ∧ len ≤ 1000) : Con l E y_B_init ws_B_init 1 1 N [.ref a, .int (iI len)] (w0 ++ [(a, .inr (0, [.null]))]) (fun v w' => v = none ∧ ∃ q, w' = w0 ++ [(a, .inr (0, [.ref q])), (q, .inl (E.2.1 0, N, .inl (fun _ => iI 0)))]) := by
  refine con_ofI (cc := b_B_init) (nL := 2) (ret := none) (by decide) (Nat.le_of_ble_eq_true rfl) (fun z X Y hn hnm => ?_)
  have X : Cx E z b_B_init R_B := X
  have hz := Y.2.1
  change J E z 0 (0) 0 [(0, .ref a), (1, .int (iI len))] [] (w0 ++ (a, .inr (0, [.null])) :: [])
  refine j_aload_n X rfl d_B_init_0 ?_
  refine j_objI X oj_B oj_i oj_c hz rfl (Nat.le_of_ble_eq_true rfl) d_B_init_1 ?_
  refine j_aload_n X rfl d_B_init_4 ?_
  refine j_iload_n X rfl d_B_init_5 ?_
  refine j_iconst X d_B_init_6 ?_
  refine j_iadd X d_B_init_7 ?_
  refine j_iconst X d_B_init_8 ?_
  refine j_idiv X (by omega) (by omega) (by omega) (by omega) d_B_init_9 ?_
  refine j_newA X (atype := .int) ac_int rfl 0 rfl (fun _ _ h => h) (a0 := (N, .inl (fun _ => iI 0))) (N' := N) (fun _ => rfl) hN hN1 rfl hz ⟨Nat.le_refl _, Nat.le_of_eq (Nat.zero_add _)⟩ d_B_init_10 (fun q1 => ?_)
  rw [app0]
  change J E z 1 (0 + N) 12 [(0, .ref a), (1, .int (iI len))] [.ref q1, .ref a] (w0 ++ (a, .inr (0, [.null])) :: [(q1, .inl (E.2.1 0, N, .inl (fun _ => iI 0)))])
  refine j_putF X hnm in_B ft_B ft_B_ok fn_B (at0 _ _ _) rfl 0 (by decide) mf_B_7 rfl rfl (ty := ft_B 0) (by decide +kernel) rfl rfl (Nat.le_of_ble_eq_true rfl) d_B_init_12 ?_
  rw [set0]
  change J E z 1 (0 + N) 15 [(0, .ref a), (1, .int (iI len))] [] (w0 ++ (a, .inr (0, [.ref q1])) :: [(q1, .inl (E.2.1 0, N, .inl (fun _ => iI 0)))])
  exact j_vret X Y (Nat.le_of_ble_eq_true rfl) (Nat.le_of_eq (Nat.zero_add _)) d_B_init_15 ⟨rfl, _, rfl⟩

set_option maxRecDepth 100000 in
set_option maxHeartbeats 4000000 in
theorem c_H_init (l : Launch) (E : eT) (w0 : va_W) (a : Nat) (b : Nat) : Con l E y_H_init ws_H_init 1 0 0 [.ref a, .ref b] (w0 ++ [(a, .inr (3, [.null, .long (iL 0), .int (iI 0), .int (iI 0), .int (iI 0)]))]) (fun v w' => v = none ∧ w' = w0 ++ [(a, .inr (3, [.ref b, .long (iL 0), .int (iI 0), .int (iI 0), .int (iI 0)]))]) := by
  refine con_ofI (cc := b_H_init) (nL := 2) (ret := none) (by decide) (Nat.le_of_ble_eq_true rfl) (fun z X Y hn hnm => ?_)
  have X : Cx E z b_H_init R_H := X
  have hz := Y.2.1
  change J E z 0 (0) 0 [(0, .ref a), (1, .ref b)] [] (w0 ++ (a, .inr (3, [.null, .long (iL 0), .int (iI 0), .int (iI 0), .int (iI 0)])) :: [])
  refine j_aload_n X rfl d_H_init_0 ?_
  refine j_objI X oj_H oj_i oj_c hz rfl (Nat.le_of_ble_eq_true rfl) d_H_init_1 ?_
  refine j_aload_n X rfl d_H_init_4 ?_
  refine j_aload_n X rfl d_H_init_5 ?_
  refine j_putF X hnm in_H ft_H ft_H_ok fn_H (at0 _ _ _) rfl 0 (by decide) mf_H_9 rfl rfl (ty := ft_H 0) (by decide +kernel) rfl rfl (Nat.le_of_ble_eq_true rfl) d_H_init_6 ?_
  rw [set0]
  change J E z 0 (0) 9 [(0, .ref a), (1, .ref b)] [] (w0 ++ (a, .inr (3, [.ref b, .long (iL 0), .int (iI 0), .int (iI 0), .int (iI 0)])) :: [])
  exact j_vret X Y (Nat.le_of_ble_eq_true rfl) (Nat.le_of_ble_eq_true rfl) d_H_init_9 ⟨rfl, rfl⟩

set_option maxRecDepth 100000 in
set_option maxHeartbeats 4000000 in
theorem c_C_init (l : Launch) (E : eT) (w0 : va_W) (a : Nat) (b c d : Nat) : Con l E y_C_init ws_C_init 1 0 0 [.ref a, .ref b, .ref c, .ref d] (w0 ++ [(a, .inr (1, [.null, .null, .null, .int (iI 0), .int (iI 0), .int (iI 0), .int (iI 0), .long (iL 0), .long (iL 0), .int (iI 0), .int (iI 0)]))]) (fun v w' => v = none ∧ w' = w0 ++ [(a, .inr (1, [.ref b, .ref c, .ref d, .int (iI 0), .int (iI 0), .int (iI 0), .int (iI 0), .long (iL 0), .long (iL 0), .int (iI 0), .int (iI 0)]))]) := by
  refine con_ofI (cc := b_C_init) (nL := 4) (ret := none) (by decide) (Nat.le_of_ble_eq_true rfl) (fun z X Y hn hnm => ?_)
  have X : Cx E z b_C_init R_C := X
  have hz := Y.2.1
  change J E z 0 (0) 0 [(0, .ref a), (1, .ref b), (2, .ref c), (3, .ref d)] [] (w0 ++ (a, .inr (1, [.null, .null, .null, .int (iI 0), .int (iI 0), .int (iI 0), .int (iI 0), .long (iL 0), .long (iL 0), .int (iI 0), .int (iI 0)])) :: [])
  refine j_aload_n X rfl d_C_init_0 ?_
  refine j_objI X oj_C oj_i oj_c hz rfl (Nat.le_of_ble_eq_true rfl) d_C_init_1 ?_
  refine j_aload_n X rfl d_C_init_4 ?_
  refine j_aload_n X rfl d_C_init_5 ?_
  refine j_putF X hnm in_C ft_C ft_C_ok fn_C (at0 _ _ _) rfl 0 (by decide) mf_C_9 rfl rfl (ty := ft_C 0) (by decide +kernel) rfl rfl (Nat.le_of_ble_eq_true rfl) d_C_init_6 ?_
  rw [set0]
  change J E z 0 (0) 9 [(0, .ref a), (1, .ref b), (2, .ref c), (3, .ref d)] [] (w0 ++ (a, .inr (1, [.ref b, .null, .null, .int (iI 0), .int (iI 0), .int (iI 0), .int (iI 0), .long (iL 0), .long (iL 0), .int (iI 0), .int (iI 0)])) :: [])
  refine j_aload_n X rfl d_C_init_9 ?_
  refine j_aload_n X rfl d_C_init_10 ?_
  refine j_putF X hnm in_C ft_C ft_C_ok fn_C (at0 _ _ _) rfl 1 (by decide) mf_C_15 rfl rfl (ty := ft_C 1) (by decide +kernel) rfl rfl (Nat.le_of_ble_eq_true rfl) d_C_init_11 ?_
  rw [set0]
  change J E z 0 (0) 14 [(0, .ref a), (1, .ref b), (2, .ref c), (3, .ref d)] [] (w0 ++ (a, .inr (1, [.ref b, .ref c, .null, .int (iI 0), .int (iI 0), .int (iI 0), .int (iI 0), .long (iL 0), .long (iL 0), .int (iI 0), .int (iI 0)])) :: [])
  refine j_aload_n X rfl d_C_init_14 ?_
  refine j_aload_n X rfl d_C_init_15 ?_
  refine j_putF X hnm in_C ft_C ft_C_ok fn_C (at0 _ _ _) rfl 2 (by decide) mf_C_19 rfl rfl (ty := ft_C 2) (by decide +kernel) rfl rfl (Nat.le_of_ble_eq_true rfl) d_C_init_16 ?_
  rw [set0]
  change J E z 0 (0) 19 [(0, .ref a), (1, .ref b), (2, .ref c), (3, .ref d)] [] (w0 ++ (a, .inr (1, [.ref b, .ref c, .ref d, .int (iI 0), .int (iI 0), .int (iI 0), .int (iI 0), .long (iL 0), .long (iL 0), .int (iI 0), .int (iI 0)])) :: [])
  exact j_vret X Y (Nat.le_of_ble_eq_true rfl) (Nat.le_of_ble_eq_true rfl) d_C_init_19 ⟨rfl, rfl⟩

set_option maxRecDepth 100000 in
set_option maxHeartbeats 4000000 in
theorem c_P_init (l : Launch) (E : eT) (w0 : va_W) (a : Nat)  : Con l E y_P_init ws_P_init 1 3 48 [.ref a] (w0 ++ [(a, .inr (4, [.null, .null, .null, .int (iI 0)]))]) (fun v w' => v = none ∧ ∃ q1 q2 q3, w' = w0 ++ [(a, .inr (4, [.ref q1, .ref q2, .ref q3, .int (iI 0)])), (q1, .inl (E.2.1 0, 16, .inl (fun _ => iI 0))), (q2, .inl (E.2.1 0, 16, .inl (fun _ => iI 0))), (q3, .inl (E.2.1 0, 16, .inl (fun _ => iI 0)))]) := by
  refine con_ofI (cc := b_P_init) (nL := 1) (ret := none) (by decide) (Nat.le_of_ble_eq_true rfl) (fun z X Y hn hnm => ?_)
  have X : Cx E z b_P_init R_P := X
  have hz := Y.2.1
  change J E z 0 (0) 0 [(0, .ref a)] [] (w0 ++ (a, .inr (4, [.null, .null, .null, .int (iI 0)])) :: [])
  refine j_aload_n X rfl d_P_init_0 ?_
  refine j_objI X oj_P oj_i oj_c hz rfl (Nat.le_of_ble_eq_true rfl) d_P_init_1 ?_
  refine j_aload_n X rfl d_P_init_4 ?_
  refine j_bipush X rfl d_P_init_5 ?_
  refine j_newA X (atype := .int) ac_int rfl 0 rfl (fun _ _ h => h) (a0 := (16, .inl (fun _ => iI 0))) (N' := 16) (fun _ => rfl) rfl rfl rfl hz ⟨Nat.le_of_ble_eq_true rfl, Nat.le_of_ble_eq_true rfl⟩ d_P_init_7 (fun q1 => ?_)
  rw [app0]
  change J E z 1 (0 + 16) 9 [(0, .ref a)] [.ref q1, .ref a] (w0 ++ (a, .inr (4, [.null, .null, .null, .int (iI 0)])) :: [(q1, .inl (E.2.1 0, 16, .inl (fun _ => iI 0)))])
  refine j_putF X hnm in_P ft_P ft_P_ok fn_P (at0 _ _ _) rfl 0 (by decide) mf_P_9 rfl rfl (ty := ft_P 0) (by decide +kernel) rfl rfl (Nat.le_of_ble_eq_true rfl) d_P_init_9 ?_
  rw [set0]
  change J E z 1 (0 + 16) 12 [(0, .ref a)] [] (w0 ++ (a, .inr (4, [.ref q1, .null, .null, .int (iI 0)])) :: [(q1, .inl (E.2.1 0, 16, .inl (fun _ => iI 0)))])
  refine j_aload_n X rfl d_P_init_12 ?_
  refine j_bipush X rfl d_P_init_13 ?_
  refine j_newA X (atype := .int) ac_int rfl 0 rfl (fun _ _ h => h) (a0 := (16, .inl (fun _ => iI 0))) (N' := 16) (fun _ => rfl) rfl rfl rfl hz ⟨Nat.le_of_ble_eq_true rfl, Nat.le_of_ble_eq_true rfl⟩ d_P_init_15 (fun q2 => ?_)
  rw [app0]
  change J E z 2 (0 + 16 + 16) 17 [(0, .ref a)] [.ref q2, .ref a] (w0 ++ (a, .inr (4, [.ref q1, .null, .null, .int (iI 0)])) :: [(q1, .inl (E.2.1 0, 16, .inl (fun _ => iI 0))), (q2, .inl (E.2.1 0, 16, .inl (fun _ => iI 0)))])
  refine j_putF X hnm in_P ft_P ft_P_ok fn_P (at0 _ _ _) rfl 1 (by decide) mf_P_13 rfl rfl (ty := ft_P 1) (by decide +kernel) rfl rfl (Nat.le_of_ble_eq_true rfl) d_P_init_17 ?_
  rw [set0]
  change J E z 2 (0 + 16 + 16) 20 [(0, .ref a)] [] (w0 ++ (a, .inr (4, [.ref q1, .ref q2, .null, .int (iI 0)])) :: [(q1, .inl (E.2.1 0, 16, .inl (fun _ => iI 0))), (q2, .inl (E.2.1 0, 16, .inl (fun _ => iI 0)))])
  refine j_aload_n X rfl d_P_init_20 ?_
  refine j_bipush X rfl d_P_init_21 ?_
  refine j_newA X (atype := .int) ac_int rfl 0 rfl (fun _ _ h => h) (a0 := (16, .inl (fun _ => iI 0))) (N' := 16) (fun _ => rfl) rfl rfl rfl hz ⟨Nat.le_of_ble_eq_true rfl, Nat.le_of_ble_eq_true rfl⟩ d_P_init_23 (fun q3 => ?_)
  rw [app0]
  change J E z 3 (0 + 16 + 16 + 16) 25 [(0, .ref a)] [.ref q3, .ref a] (w0 ++ (a, .inr (4, [.ref q1, .ref q2, .null, .int (iI 0)])) :: [(q1, .inl (E.2.1 0, 16, .inl (fun _ => iI 0))), (q2, .inl (E.2.1 0, 16, .inl (fun _ => iI 0))), (q3, .inl (E.2.1 0, 16, .inl (fun _ => iI 0)))])
  refine j_putF X hnm in_P ft_P ft_P_ok fn_P (at0 _ _ _) rfl 2 (by decide) mf_P_16 rfl rfl (ty := ft_P 2) (by decide +kernel) rfl rfl (Nat.le_of_ble_eq_true rfl) d_P_init_25 ?_
  rw [set0]
  change J E z 3 (0 + 16 + 16 + 16) 28 [(0, .ref a)] [] (w0 ++ (a, .inr (4, [.ref q1, .ref q2, .ref q3, .int (iI 0)])) :: [(q1, .inl (E.2.1 0, 16, .inl (fun _ => iI 0))), (q2, .inl (E.2.1 0, 16, .inl (fun _ => iI 0))), (q3, .inl (E.2.1 0, 16, .inl (fun _ => iI 0)))])
  exact j_vret X Y (Nat.le_of_ble_eq_true rfl) (Nat.le_of_ble_eq_true rfl) d_P_init_28 ⟨rfl, _, _, _, rfl⟩

set_option maxRecDepth 100000 in
set_option maxHeartbeats 4000000 in
theorem c_M_init (l : Launch) (E : eT) (w0 : va_W) (a : Nat)  : Con l E y_M_init ws_M_init 1 7 38736 [.ref a] (w0 ++ [(a, .inr (7, [.int (iI 0), .null, .null, .null, .int (iI 0), .null, .null, .null, .long (iL 0), .int (iI 0), .int (iI 0), .int (iI 0), .int (iI 0), .int (iI 0), .int (iI 0), .int (iI 0), .int (iI 0), .int (iI 0), .int (iI 0), .int (iI 0), .null]))]) (fun v w' => v = none ∧ ∃ q1 q2 q3 q4 q5 q6 q7, w' = w0 ++ [(a, .inr (7, [.int (iI 0), .ref q1, .ref q2, .ref q3, .int (iI 0), .ref q4, .ref q5, .ref q6, .long (iL 0), .int (iI 0), .int (iI 0), .int (iI 0), .int (iI 0), .int (iI 0), .int (iI 0), .int (iI 0), .int (iI 0), .int (iI 0), .int (iI 0), .int (iI 0), .ref q7])), (q1, .inl (E.2.1 1, 19200, .inl (fun _ => iI 0))), (q2, .inl (E.2.1 1, 19200, .inl (fun _ => iI 0))), (q3, .inl (E.2.1 0, 256, .inl (fun _ => iI 0))), (q4, .inl (E.2.1 0, 16, .inl (fun _ => iI 0))), (q5, .inl (E.2.1 0, 16, .inl (fun _ => iI 0))), (q6, .inl (E.2.1 0, 16, .inl (fun _ => iI 0))), (q7, .inl (E.2.1 0, 32, .inl (fun _ => iI 0)))]) := by
  refine con_ofI (cc := b_M_init) (nL := 1) (ret := none) (by decide) (Nat.le_of_ble_eq_true rfl) (fun z X Y hn hnm => ?_)
  have X : Cx E z b_M_init R_M := X
  have hz := Y.2.1
  change J E z 0 (0) 0 [(0, .ref a)] [] (w0 ++ (a, .inr (7, [.int (iI 0), .null, .null, .null, .int (iI 0), .null, .null, .null, .long (iL 0), .int (iI 0), .int (iI 0), .int (iI 0), .int (iI 0), .int (iI 0), .int (iI 0), .int (iI 0), .int (iI 0), .int (iI 0), .int (iI 0), .int (iI 0), .null])) :: [])
  refine j_aload_n X rfl d_M_init_0 ?_
  refine j_objI X oj_M oj_i oj_c hz rfl (Nat.le_of_ble_eq_true rfl) d_M_init_1 ?_
  refine j_aload_n X rfl d_M_init_4 ?_
  refine j_sipush X rfl d_M_init_5 ?_
  refine j_newA X (atype := .byte) ac_byte rfl 1 rfl (fun _ _ h => h) (a0 := (19200, .inl (fun _ => iI 0))) (N' := 19200) (fun _ => rfl) rfl rfl rfl hz ⟨Nat.le_of_ble_eq_true rfl, Nat.le_of_ble_eq_true rfl⟩ d_M_init_8 (fun q1 => ?_)
  rw [app0]
  change J E z 1 (0 + 19200) 10 [(0, .ref a)] [.ref q1, .ref a] (w0 ++ (a, .inr (7, [.int (iI 0), .null, .null, .null, .int (iI 0), .null, .null, .null, .long (iL 0), .int (iI 0), .int (iI 0), .int (iI 0), .int (iI 0), .int (iI 0), .int (iI 0), .int (iI 0), .int (iI 0), .int (iI 0), .int (iI 0), .int (iI 0), .null])) :: [(q1, .inl (E.2.1 1, 19200, .inl (fun _ => iI 0)))])
  refine j_putF X hnm in_M ft_M ft_M_ok fn_M (at0 _ _ _) rfl 1 (by decide) mf_M_7 rfl rfl (ty := ft_M 1) (by decide +kernel) rfl rfl (Nat.le_of_ble_eq_true rfl) d_M_init_10 ?_
  rw [set0]
  change J E z 1 (0 + 19200) 13 [(0, .ref a)] [] (w0 ++ (a, .inr (7, [.int (iI 0), .ref q1, .null, .null, .int (iI 0), .null, .null, .null, .long (iL 0), .int (iI 0), .int (iI 0), .int (iI 0), .int (iI 0), .int (iI 0), .int (iI 0), .int (iI 0), .int (iI 0), .int (iI 0), .int (iI 0), .int (iI 0), .null])) :: [(q1, .inl (E.2.1 1, 19200, .inl (fun _ => iI 0)))])
  refine j_aload_n X rfl d_M_init_13 ?_
  refine j_sipush X rfl d_M_init_14 ?_
  refine j_newA X (atype := .byte) ac_byte rfl 1 rfl (fun _ _ h => h) (a0 := (19200, .inl (fun _ => iI 0))) (N' := 19200) (fun _ => rfl) rfl rfl rfl hz ⟨Nat.le_of_ble_eq_true rfl, Nat.le_of_ble_eq_true rfl⟩ d_M_init_17 (fun q2 => ?_)
  rw [app0]
  change J E z 2 (0 + 19200 + 19200) 19 [(0, .ref a)] [.ref q2, .ref a] (w0 ++ (a, .inr (7, [.int (iI 0), .ref q1, .null, .null, .int (iI 0), .null, .null, .null, .long (iL 0), .int (iI 0), .int (iI 0), .int (iI 0), .int (iI 0), .int (iI 0), .int (iI 0), .int (iI 0), .int (iI 0), .int (iI 0), .int (iI 0), .int (iI 0), .null])) :: [(q1, .inl (E.2.1 1, 19200, .inl (fun _ => iI 0))), (q2, .inl (E.2.1 1, 19200, .inl (fun _ => iI 0)))])
  refine j_putF X hnm in_M ft_M ft_M_ok fn_M (at0 _ _ _) rfl 2 (by decide) mf_M_13 rfl rfl (ty := ft_M 2) (by decide +kernel) rfl rfl (Nat.le_of_ble_eq_true rfl) d_M_init_19 ?_
  rw [set0]
  change J E z 2 (0 + 19200 + 19200) 22 [(0, .ref a)] [] (w0 ++ (a, .inr (7, [.int (iI 0), .ref q1, .ref q2, .null, .int (iI 0), .null, .null, .null, .long (iL 0), .int (iI 0), .int (iI 0), .int (iI 0), .int (iI 0), .int (iI 0), .int (iI 0), .int (iI 0), .int (iI 0), .int (iI 0), .int (iI 0), .int (iI 0), .null])) :: [(q1, .inl (E.2.1 1, 19200, .inl (fun _ => iI 0))), (q2, .inl (E.2.1 1, 19200, .inl (fun _ => iI 0)))])
  refine j_aload_n X rfl d_M_init_22 ?_
  refine j_sipush X rfl d_M_init_23 ?_
  refine j_newA X (atype := .int) ac_int rfl 0 rfl (fun _ _ h => h) (a0 := (256, .inl (fun _ => iI 0))) (N' := 256) (fun _ => rfl) rfl rfl rfl hz ⟨Nat.le_of_ble_eq_true rfl, Nat.le_of_ble_eq_true rfl⟩ d_M_init_26 (fun q3 => ?_)
  rw [app0]
  change J E z 3 (0 + 19200 + 19200 + 256) 28 [(0, .ref a)] [.ref q3, .ref a] (w0 ++ (a, .inr (7, [.int (iI 0), .ref q1, .ref q2, .null, .int (iI 0), .null, .null, .null, .long (iL 0), .int (iI 0), .int (iI 0), .int (iI 0), .int (iI 0), .int (iI 0), .int (iI 0), .int (iI 0), .int (iI 0), .int (iI 0), .int (iI 0), .int (iI 0), .null])) :: [(q1, .inl (E.2.1 1, 19200, .inl (fun _ => iI 0))), (q2, .inl (E.2.1 1, 19200, .inl (fun _ => iI 0))), (q3, .inl (E.2.1 0, 256, .inl (fun _ => iI 0)))])
  refine j_putF X hnm in_M ft_M ft_M_ok fn_M (at0 _ _ _) rfl 3 (by decide) mf_M_16 rfl rfl (ty := ft_M 3) (by decide +kernel) rfl rfl (Nat.le_of_ble_eq_true rfl) d_M_init_28 ?_
  rw [set0]
  change J E z 3 (0 + 19200 + 19200 + 256) 31 [(0, .ref a)] [] (w0 ++ (a, .inr (7, [.int (iI 0), .ref q1, .ref q2, .ref q3, .int (iI 0), .null, .null, .null, .long (iL 0), .int (iI 0), .int (iI 0), .int (iI 0), .int (iI 0), .int (iI 0), .int (iI 0), .int (iI 0), .int (iI 0), .int (iI 0), .int (iI 0), .int (iI 0), .null])) :: [(q1, .inl (E.2.1 1, 19200, .inl (fun _ => iI 0))), (q2, .inl (E.2.1 1, 19200, .inl (fun _ => iI 0))), (q3, .inl (E.2.1 0, 256, .inl (fun _ => iI 0)))])
  refine j_aload_n X rfl d_M_init_31 ?_
  refine j_bipush X rfl d_M_init_32 ?_
  refine j_newA X (atype := .int) ac_int rfl 0 rfl (fun _ _ h => h) (a0 := (16, .inl (fun _ => iI 0))) (N' := 16) (fun _ => rfl) rfl rfl rfl hz ⟨Nat.le_of_ble_eq_true rfl, Nat.le_of_ble_eq_true rfl⟩ d_M_init_34 (fun q4 => ?_)
  rw [app0]
  change J E z 4 (0 + 19200 + 19200 + 256 + 16) 36 [(0, .ref a)] [.ref q4, .ref a] (w0 ++ (a, .inr (7, [.int (iI 0), .ref q1, .ref q2, .ref q3, .int (iI 0), .null, .null, .null, .long (iL 0), .int (iI 0), .int (iI 0), .int (iI 0), .int (iI 0), .int (iI 0), .int (iI 0), .int (iI 0), .int (iI 0), .int (iI 0), .int (iI 0), .int (iI 0), .null])) :: [(q1, .inl (E.2.1 1, 19200, .inl (fun _ => iI 0))), (q2, .inl (E.2.1 1, 19200, .inl (fun _ => iI 0))), (q3, .inl (E.2.1 0, 256, .inl (fun _ => iI 0))), (q4, .inl (E.2.1 0, 16, .inl (fun _ => iI 0)))])
  refine j_putF X hnm in_M ft_M ft_M_ok fn_M (at0 _ _ _) rfl 5 (by decide) mf_M_20 rfl rfl (ty := ft_M 5) (by decide +kernel) rfl rfl (Nat.le_of_ble_eq_true rfl) d_M_init_36 ?_
  rw [set0]
  change J E z 4 (0 + 19200 + 19200 + 256 + 16) 39 [(0, .ref a)] [] (w0 ++ (a, .inr (7, [.int (iI 0), .ref q1, .ref q2, .ref q3, .int (iI 0), .ref q4, .null, .null, .long (iL 0), .int (iI 0), .int (iI 0), .int (iI 0), .int (iI 0), .int (iI 0), .int (iI 0), .int (iI 0), .int (iI 0), .int (iI 0), .int (iI 0), .int (iI 0), .null])) :: [(q1, .inl (E.2.1 1, 19200, .inl (fun _ => iI 0))), (q2, .inl (E.2.1 1, 19200, .inl (fun _ => iI 0))), (q3, .inl (E.2.1 0, 256, .inl (fun _ => iI 0))), (q4, .inl (E.2.1 0, 16, .inl (fun _ => iI 0)))])
  refine j_aload_n X rfl d_M_init_39 ?_
  refine j_bipush X rfl d_M_init_40 ?_
  refine j_newA X (atype := .int) ac_int rfl 0 rfl (fun _ _ h => h) (a0 := (16, .inl (fun _ => iI 0))) (N' := 16) (fun _ => rfl) rfl rfl rfl hz ⟨Nat.le_of_ble_eq_true rfl, Nat.le_of_ble_eq_true rfl⟩ d_M_init_42 (fun q5 => ?_)
  rw [app0]
  change J E z 5 (0 + 19200 + 19200 + 256 + 16 + 16) 44 [(0, .ref a)] [.ref q5, .ref a] (w0 ++ (a, .inr (7, [.int (iI 0), .ref q1, .ref q2, .ref q3, .int (iI 0), .ref q4, .null, .null, .long (iL 0), .int (iI 0), .int (iI 0), .int (iI 0), .int (iI 0), .int (iI 0), .int (iI 0), .int (iI 0), .int (iI 0), .int (iI 0), .int (iI 0), .int (iI 0), .null])) :: [(q1, .inl (E.2.1 1, 19200, .inl (fun _ => iI 0))), (q2, .inl (E.2.1 1, 19200, .inl (fun _ => iI 0))), (q3, .inl (E.2.1 0, 256, .inl (fun _ => iI 0))), (q4, .inl (E.2.1 0, 16, .inl (fun _ => iI 0))), (q5, .inl (E.2.1 0, 16, .inl (fun _ => iI 0)))])
  refine j_putF X hnm in_M ft_M ft_M_ok fn_M (at0 _ _ _) rfl 6 (by decide) mf_M_23 rfl rfl (ty := ft_M 6) (by decide +kernel) rfl rfl (Nat.le_of_ble_eq_true rfl) d_M_init_44 ?_
  rw [set0]
  change J E z 5 (0 + 19200 + 19200 + 256 + 16 + 16) 47 [(0, .ref a)] [] (w0 ++ (a, .inr (7, [.int (iI 0), .ref q1, .ref q2, .ref q3, .int (iI 0), .ref q4, .ref q5, .null, .long (iL 0), .int (iI 0), .int (iI 0), .int (iI 0), .int (iI 0), .int (iI 0), .int (iI 0), .int (iI 0), .int (iI 0), .int (iI 0), .int (iI 0), .int (iI 0), .null])) :: [(q1, .inl (E.2.1 1, 19200, .inl (fun _ => iI 0))), (q2, .inl (E.2.1 1, 19200, .inl (fun _ => iI 0))), (q3, .inl (E.2.1 0, 256, .inl (fun _ => iI 0))), (q4, .inl (E.2.1 0, 16, .inl (fun _ => iI 0))), (q5, .inl (E.2.1 0, 16, .inl (fun _ => iI 0)))])
  refine j_aload_n X rfl d_M_init_47 ?_
  refine j_bipush X rfl d_M_init_48 ?_
  refine j_newA X (atype := .int) ac_int rfl 0 rfl (fun _ _ h => h) (a0 := (16, .inl (fun _ => iI 0))) (N' := 16) (fun _ => rfl) rfl rfl rfl hz ⟨Nat.le_of_ble_eq_true rfl, Nat.le_of_ble_eq_true rfl⟩ d_M_init_50 (fun q6 => ?_)
  rw [app0]
  change J E z 6 (0 + 19200 + 19200 + 256 + 16 + 16 + 16) 52 [(0, .ref a)] [.ref q6, .ref a] (w0 ++ (a, .inr (7, [.int (iI 0), .ref q1, .ref q2, .ref q3, .int (iI 0), .ref q4, .ref q5, .null, .long (iL 0), .int (iI 0), .int (iI 0), .int (iI 0), .int (iI 0), .int (iI 0), .int (iI 0), .int (iI 0), .int (iI 0), .int (iI 0), .int (iI 0), .int (iI 0), .null])) :: [(q1, .inl (E.2.1 1, 19200, .inl (fun _ => iI 0))), (q2, .inl (E.2.1 1, 19200, .inl (fun _ => iI 0))), (q3, .inl (E.2.1 0, 256, .inl (fun _ => iI 0))), (q4, .inl (E.2.1 0, 16, .inl (fun _ => iI 0))), (q5, .inl (E.2.1 0, 16, .inl (fun _ => iI 0))), (q6, .inl (E.2.1 0, 16, .inl (fun _ => iI 0)))])
  refine j_putF X hnm in_M ft_M ft_M_ok fn_M (at0 _ _ _) rfl 7 (by decide) mf_M_26 rfl rfl (ty := ft_M 7) (by decide +kernel) rfl rfl (Nat.le_of_ble_eq_true rfl) d_M_init_52 ?_
  rw [set0]
  change J E z 6 (0 + 19200 + 19200 + 256 + 16 + 16 + 16) 55 [(0, .ref a)] [] (w0 ++ (a, .inr (7, [.int (iI 0), .ref q1, .ref q2, .ref q3, .int (iI 0), .ref q4, .ref q5, .ref q6, .long (iL 0), .int (iI 0), .int (iI 0), .int (iI 0), .int (iI 0), .int (iI 0), .int (iI 0), .int (iI 0), .int (iI 0), .int (iI 0), .int (iI 0), .int (iI 0), .null])) :: [(q1, .inl (E.2.1 1, 19200, .inl (fun _ => iI 0))), (q2, .inl (E.2.1 1, 19200, .inl (fun _ => iI 0))), (q3, .inl (E.2.1 0, 256, .inl (fun _ => iI 0))), (q4, .inl (E.2.1 0, 16, .inl (fun _ => iI 0))), (q5, .inl (E.2.1 0, 16, .inl (fun _ => iI 0))), (q6, .inl (E.2.1 0, 16, .inl (fun _ => iI 0)))])
  refine j_aload_n X rfl d_M_init_55 ?_
  refine j_bipush X rfl d_M_init_56 ?_
  refine j_newA X (atype := .int) ac_int rfl 0 rfl (fun _ _ h => h) (a0 := (32, .inl (fun _ => iI 0))) (N' := 32) (fun _ => rfl) rfl rfl rfl hz ⟨Nat.le_of_ble_eq_true rfl, Nat.le_of_ble_eq_true rfl⟩ d_M_init_58 (fun q7 => ?_)
  rw [app0]
  change J E z 7 (0 + 19200 + 19200 + 256 + 16 + 16 + 16 + 32) 60 [(0, .ref a)] [.ref q7, .ref a] (w0 ++ (a, .inr (7, [.int (iI 0), .ref q1, .ref q2, .ref q3, .int (iI 0), .ref q4, .ref q5, .ref q6, .long (iL 0), .int (iI 0), .int (iI 0), .int (iI 0), .int (iI 0), .int (iI 0), .int (iI 0), .int (iI 0), .int (iI 0), .int (iI 0), .int (iI 0), .int (iI 0), .null])) :: [(q1, .inl (E.2.1 1, 19200, .inl (fun _ => iI 0))), (q2, .inl (E.2.1 1, 19200, .inl (fun _ => iI 0))), (q3, .inl (E.2.1 0, 256, .inl (fun _ => iI 0))), (q4, .inl (E.2.1 0, 16, .inl (fun _ => iI 0))), (q5, .inl (E.2.1 0, 16, .inl (fun _ => iI 0))), (q6, .inl (E.2.1 0, 16, .inl (fun _ => iI 0))), (q7, .inl (E.2.1 0, 32, .inl (fun _ => iI 0)))])
  refine j_putF X hnm in_M ft_M ft_M_ok fn_M (at0 _ _ _) rfl 20 (by decide) mf_M_29 rfl rfl (ty := ft_M 20) (by decide +kernel) rfl rfl (Nat.le_of_ble_eq_true rfl) d_M_init_60 ?_
  rw [set0]
  change J E z 7 (0 + 19200 + 19200 + 256 + 16 + 16 + 16 + 32) 63 [(0, .ref a)] [] (w0 ++ (a, .inr (7, [.int (iI 0), .ref q1, .ref q2, .ref q3, .int (iI 0), .ref q4, .ref q5, .ref q6, .long (iL 0), .int (iI 0), .int (iI 0), .int (iI 0), .int (iI 0), .int (iI 0), .int (iI 0), .int (iI 0), .int (iI 0), .int (iI 0), .int (iI 0), .int (iI 0), .ref q7])) :: [(q1, .inl (E.2.1 1, 19200, .inl (fun _ => iI 0))), (q2, .inl (E.2.1 1, 19200, .inl (fun _ => iI 0))), (q3, .inl (E.2.1 0, 256, .inl (fun _ => iI 0))), (q4, .inl (E.2.1 0, 16, .inl (fun _ => iI 0))), (q5, .inl (E.2.1 0, 16, .inl (fun _ => iI 0))), (q6, .inl (E.2.1 0, 16, .inl (fun _ => iI 0))), (q7, .inl (E.2.1 0, 32, .inl (fun _ => iI 0)))])
  exact j_vret X Y (Nat.le_of_ble_eq_true rfl) (Nat.le_of_ble_eq_true rfl) d_M_init_63 ⟨rfl, _, _, _, _, _, _, _, rfl⟩

set_option maxRecDepth 100000 in
set_option maxHeartbeats 4000000 in
theorem c_D_init (l : Launch) (E : eT) (w0 : va_W) (a : Nat) (b : Nat) : Con l E y_D_init ws_D_init 1 1 32 [.ref a, .ref b] (w0 ++ [(a, .inr (2, [.null, .null]))]) (fun v w' => v = none ∧ ∃ q, w' = w0 ++ [(a, .inr (2, [.ref b, .ref q])), (q, .inl (E.2.1 0, 32, .inl (fun j : Nat => if j < 32 then iI (-1) else iI 0)))]) := by
  refine con_ofI (cc := b_D_init) (nL := 3) (ret := none) (by decide) (Nat.le_of_ble_eq_true rfl) (fun z X Y hn hnm => ?_)
  have X : Cx E z b_D_init R_D := X
  have hz := Y.2.1
  change J E z 0 (0) 0 [(0, .ref a), (1, .ref b)] [] (w0 ++ (a, .inr (2, [.null, .null])) :: [])
  refine j_aload_n X rfl d_D_init_0 ?_
  refine j_objI X oj_D oj_i oj_c hz rfl (Nat.le_of_ble_eq_true rfl) d_D_init_1 ?_
  refine j_aload_n X rfl d_D_init_4 ?_
  refine j_bipush X rfl d_D_init_5 ?_
  refine j_newA X (atype := .int) ac_int rfl 0 rfl (fun _ _ h => h) (a0 := (32, .inl (fun _ => iI 0))) (N' := 32) (fun _ => rfl) rfl rfl rfl hz ⟨Nat.le_of_ble_eq_true rfl, Nat.le_of_ble_eq_true rfl⟩ d_D_init_7 (fun q1 => ?_)
  rw [app0]
  change J E z 1 (0 + 32) 9 [(0, .ref a), (1, .ref b)] [.ref q1, .ref a] (w0 ++ (a, .inr (2, [.null, .null])) :: [(q1, .inl (E.2.1 0, 32, .inl (fun _ => iI 0)))])
  refine j_putF X hnm in_D ft_D ft_D_ok fn_D (at0 _ _ _) rfl 1 (by decide) mf_D_9 rfl rfl (ty := ft_D 1) (by decide +kernel) rfl rfl (Nat.le_of_ble_eq_true rfl) d_D_init_9 ?_
  rw [set0]
  change J E z 1 (0 + 32) 12 [(0, .ref a), (1, .ref b)] [] (w0 ++ (a, .inr (2, [.null, .ref q1])) :: [(q1, .inl (E.2.1 0, 32, .inl (fun _ => iI 0)))])
  refine j_aload_n X rfl d_D_init_12 ?_
  refine j_aload_n X rfl d_D_init_13 ?_
  refine j_putF X hnm in_D ft_D ft_D_ok fn_D (at0 _ _ _) rfl 0 (by decide) mf_D_15 rfl rfl (ty := ft_D 0) (by decide +kernel) rfl rfl (Nat.le_of_ble_eq_true rfl) d_D_init_14 ?_
  rw [set0]
  change J E z 1 (0 + 32) 17 [(0, .ref a), (1, .ref b)] [] (w0 ++ (a, .inr (2, [.ref b, .ref q1])) :: [(q1, .inl (E.2.1 0, 32, .inl (fun _ => iI 0)))])
  refine j_iconst X d_D_init_17 ?_
  refine j_istore_n X (zlt hn rfl) d_D_init_18 ?_
  have kyl : ∀ t : Nat, t ≤ 32 → J E z 1 (0 + 32) 19 [(0, .ref a), (1, .ref b), (2, .int (iI (t : Int)))] [] (w0 ++ [(a, .inr (2, [.ref b, .ref q1])), (q1, .inl (E.2.1 0, 32, .inl (fun j : Nat => if j < t then iI (-1) else iI 0)))]) := by
    refine j_loop (fun t : Nat => 32 - t) _ _ (fun t ht ih => ?_)
    refine j_iload_n X rfl d_D_init_19 ?_
    refine j_bipush X rfl d_D_init_20 ?_
    refine j_icmp_ge X (by omega) (by omega) d_D_init_22 (tgt := 38) rfl (fun h22 => ?_) (fun h22 => ?_)
    · have e : t = 32 := by omega
      subst e
      exact j_vret X Y (Nat.le_of_ble_eq_true rfl) (Nat.le_of_ble_eq_true rfl) d_D_init_38 ⟨rfl, _, rfl⟩
    · refine j_aload_n X rfl d_D_init_25 ?_
      refine j_getC X in_D (at0 _ _ _) rfl 1 (by decide) mf_D_9 rfl d_D_init_26 ?_
      refine j_iload_n X rfl d_D_init_29 ?_
      refine j_iconst X d_D_init_30 ?_
      refine j_iastG X (q0 := w0.length + 1) (at1 _ _ _ _) (by omega) (by decide) d_D_init_31 ?_
      rw [set1]
      refine j_iinc X rfl (zlt hn rfl) d_D_init_32 ?_
      refine j_goto X d_D_init_35 (tgt := 19) rfl ?_
      have e : upd (fun j : Nat => if j < t then iI (-1) else iI 0) ((t : Int)).toNat (iI (-1)) = fun j : Nat => if j < t + 1 then iI (-1) else iI 0 := by
        funext j
        unfold upd
        dsimp only
        by_cases q : j = t
        · rw [if_pos (by omega), if_pos (by omega)]
        · rw [if_neg (by omega)]
          by_cases q' : j < t
          · rw [if_pos q', if_pos (by omega)]
          · rw [if_neg q', if_neg (by omega)]
      rw [e]
      exact ih (t + 1) (by omega) (by omega)
  have h := kyl 0 (by omega)
  rw [show (fun j : Nat => if j < 0 then iI (-1) else iI 0) = (fun _ => iI 0) from funext fun j => if_neg (Nat.not_lt_zero j)] at h
  exact h

set_option maxRecDepth 100000 in
set_option maxHeartbeats 4000000 in
theorem c_T_init (l : Launch) (E : eT) (w0 : va_W) (a : Nat)  : Con l E y_T_init ws_T_init 2 5 245 [.ref a] (w0 ++ [(a, .inr (5, [.null, .null, .null, .null, .int (iI 0)]))]) (fun v w' => v = none ∧ ∃ q1 q2 q3 q4 r, w' = w0 ++ [(a, .inr (5, [.ref q1, .ref q2, .ref q3, .ref q4, .int (iI 0)])), (q1, .inl (E.2.1 0, 32, .inl (fun _ => iI 0))), (q2, .inl (E.2.1 0, 31, .inl (fun _ => iI 0))), (q3, .inl (E.2.1 2, 31, .inl (fun _ => iI 0))), (q4, .inr (0, [.ref r])), (r, .inl (E.2.1 0, 150, .inl (fun _ => iI 0)))]) := by
  refine con_ofI (cc := b_T_init) (nL := 1) (ret := none) (by decide) (Nat.le_of_ble_eq_true rfl) (fun z X Y hn hnm => ?_)
  have X : Cx E z b_T_init R_T := X
  have hz := Y.2.1
  change J E z 0 (0) 0 [(0, .ref a)] [] (w0 ++ (a, .inr (5, [.null, .null, .null, .null, .int (iI 0)])) :: [])
  refine j_aload_n X rfl d_T_init_0 ?_
  refine j_objI X oj_T oj_i oj_c hz rfl (Nat.le_of_ble_eq_true rfl) d_T_init_1 ?_
  refine j_aload_n X rfl d_T_init_4 ?_
  refine j_bipush X rfl d_T_init_5 ?_
  refine j_newA X (atype := .int) ac_int rfl 0 rfl (fun _ _ h => h) (a0 := (32, .inl (fun _ => iI 0))) (N' := 32) (fun _ => rfl) rfl rfl rfl hz ⟨Nat.le_of_ble_eq_true rfl, Nat.le_of_ble_eq_true rfl⟩ d_T_init_7 (fun q1 => ?_)
  rw [app0]
  change J E z 1 (0 + 32) 9 [(0, .ref a)] [.ref q1, .ref a] (w0 ++ (a, .inr (5, [.null, .null, .null, .null, .int (iI 0)])) :: [(q1, .inl (E.2.1 0, 32, .inl (fun _ => iI 0)))])
  refine j_putF X hnm in_T ft_T ft_T_ok fn_T (at0 _ _ _) rfl 0 (by decide) mf_T_9 rfl rfl (ty := ft_T 0) (by decide +kernel) rfl rfl (Nat.le_of_ble_eq_true rfl) d_T_init_9 ?_
  rw [set0]
  change J E z 1 (0 + 32) 12 [(0, .ref a)] [] (w0 ++ (a, .inr (5, [.ref q1, .null, .null, .null, .int (iI 0)])) :: [(q1, .inl (E.2.1 0, 32, .inl (fun _ => iI 0)))])
  refine j_aload_n X rfl d_T_init_12 ?_
  refine j_bipush X rfl d_T_init_13 ?_
  refine j_newA X (atype := .int) ac_int rfl 0 rfl (fun _ _ h => h) (a0 := (31, .inl (fun _ => iI 0))) (N' := 31) (fun _ => rfl) rfl rfl rfl hz ⟨Nat.le_of_ble_eq_true rfl, Nat.le_of_ble_eq_true rfl⟩ d_T_init_15 (fun q2 => ?_)
  rw [app0]
  change J E z 2 (0 + 32 + 31) 17 [(0, .ref a)] [.ref q2, .ref a] (w0 ++ (a, .inr (5, [.ref q1, .null, .null, .null, .int (iI 0)])) :: [(q1, .inl (E.2.1 0, 32, .inl (fun _ => iI 0))), (q2, .inl (E.2.1 0, 31, .inl (fun _ => iI 0)))])
  refine j_putF X hnm in_T ft_T ft_T_ok fn_T (at0 _ _ _) rfl 1 (by decide) mf_T_15 rfl rfl (ty := ft_T 1) (by decide +kernel) rfl rfl (Nat.le_of_ble_eq_true rfl) d_T_init_17 ?_
  rw [set0]
  change J E z 2 (0 + 32 + 31) 20 [(0, .ref a)] [] (w0 ++ (a, .inr (5, [.ref q1, .ref q2, .null, .null, .int (iI 0)])) :: [(q1, .inl (E.2.1 0, 32, .inl (fun _ => iI 0))), (q2, .inl (E.2.1 0, 31, .inl (fun _ => iI 0)))])
  refine j_aload_n X rfl d_T_init_20 ?_
  refine j_bipush X rfl d_T_init_21 ?_
  refine j_newA X (atype := .boolean) ac_boolean rfl 2 rfl (fun _ _ h => h) (a0 := (31, .inl (fun _ => iI 0))) (N' := 31) (fun _ => rfl) rfl rfl rfl hz ⟨Nat.le_of_ble_eq_true rfl, Nat.le_of_ble_eq_true rfl⟩ d_T_init_23 (fun q3 => ?_)
  rw [app0]
  change J E z 3 (0 + 32 + 31 + 31) 25 [(0, .ref a)] [.ref q3, .ref a] (w0 ++ (a, .inr (5, [.ref q1, .ref q2, .null, .null, .int (iI 0)])) :: [(q1, .inl (E.2.1 0, 32, .inl (fun _ => iI 0))), (q2, .inl (E.2.1 0, 31, .inl (fun _ => iI 0))), (q3, .inl (E.2.1 2, 31, .inl (fun _ => iI 0)))])
  refine j_putF X hnm in_T ft_T ft_T_ok fn_T (at0 _ _ _) rfl 2 (by decide) mf_T_18 rfl rfl (ty := ft_T 2) (by decide +kernel) rfl rfl (Nat.le_of_ble_eq_true rfl) d_T_init_25 ?_
  rw [set0]
  change J E z 3 (0 + 32 + 31 + 31) 28 [(0, .ref a)] [] (w0 ++ (a, .inr (5, [.ref q1, .ref q2, .ref q3, .null, .int (iI 0)])) :: [(q1, .inl (E.2.1 0, 32, .inl (fun _ => iI 0))), (q2, .inl (E.2.1 0, 31, .inl (fun _ => iI 0))), (q3, .inl (E.2.1 2, 31, .inl (fun _ => iI 0)))])
  refine j_aload_n X rfl d_T_init_28 ?_
  refine j_newC X in_B ft_B ft_B_ok cn_T_22 in2_B in1_B (ci := 0) rfl [.null] bk_B hz ⟨Nat.le_of_ble_eq_true rfl, Nat.le_of_ble_eq_true rfl⟩ d_T_init_29 (fun q4 => ?_)
  change J E z 4 (0 + 32 + 31 + 31 + 1) 32 [(0, .ref a)] [.ref q4, .ref a] ((w0 ++ (a, .inr (5, [.ref q1, .ref q2, .ref q3, .null, .int (iI 0)])) :: [(q1, .inl (E.2.1 0, 32, .inl (fun _ => iI 0))), (q2, .inl (E.2.1 0, 31, .inl (fun _ => iI 0))), (q3, .inl (E.2.1 2, 31, .inl (fun _ => iI 0)))]) ++ [(q4, .inr (0, [.null]))])
  refine j_dup X rfl d_T_init_32 ?_
  refine j_sipush X rfl d_T_init_33 ?_
  refine j_cI X ml_T_24 ii_B in1_B ic_B yo_B_init rfl rfl hz (c_B_init (zl z) E (w0 ++ (a, .inr (5, [.ref q1, .ref q2, .ref q3, .null, .int (iI 0)])) :: [(q1, .inl (E.2.1 0, 32, .inl (fun _ => iI 0))), (q2, .inl (E.2.1 0, 31, .inl (fun _ => iI 0))), (q3, .inl (E.2.1 2, 31, .inl (fun _ => iI 0)))]) _ 600 150 rfl rfl (by decide)) rfl rfl rfl (Nat.le_of_ble_eq_true rfl) ⟨Nat.le_of_ble_eq_true rfl, Nat.le_of_ble_eq_true rfl⟩ d_T_init_36 (fun v' W hW => ?_)
  obtain ⟨rfl, r, rfl⟩ := hW
  rw [app0]
  change J E z 5 (0 + 32 + 31 + 31 + 1 + 150) 39 [(0, .ref a)] [.ref q4, .ref a] (w0 ++ (a, .inr (5, [.ref q1, .ref q2, .ref q3, .null, .int (iI 0)])) :: [(q1, .inl (E.2.1 0, 32, .inl (fun _ => iI 0))), (q2, .inl (E.2.1 0, 31, .inl (fun _ => iI 0))), (q3, .inl (E.2.1 2, 31, .inl (fun _ => iI 0))), (q4, .inr (0, [.ref r])), (r, .inl (E.2.1 0, 150, .inl (fun _ => iI 0)))])
  refine j_putF X hnm in_T ft_T ft_T_ok fn_T (at0 _ _ _) rfl 3 (by decide) mf_T_27 rfl rfl (ty := ft_T 3) (by decide +kernel) rfl rfl (Nat.le_of_ble_eq_true rfl) d_T_init_39 ?_
  rw [set0]
  change J E z 5 (0 + 32 + 31 + 31 + 1 + 150) 42 [(0, .ref a)] [] (w0 ++ (a, .inr (5, [.ref q1, .ref q2, .ref q3, .ref q4, .int (iI 0)])) :: [(q1, .inl (E.2.1 0, 32, .inl (fun _ => iI 0))), (q2, .inl (E.2.1 0, 31, .inl (fun _ => iI 0))), (q3, .inl (E.2.1 2, 31, .inl (fun _ => iI 0))), (q4, .inr (0, [.ref r])), (r, .inl (E.2.1 0, 150, .inl (fun _ => iI 0)))])
  exact j_vret X Y (Nat.le_of_ble_eq_true rfl) (Nat.le_of_ble_eq_true rfl) d_T_init_42 ⟨rfl, _, _, _, _, _, rfl⟩

/-- a track's six cells -/
def blk (E : eT) (a : Nat → Nat) : va_W := [(a 0, .inr (5, [.ref (a 1), .ref (a 2), .ref (a 3), .ref (a 4), .int (iI 0)])), (a 1, .inl (E.2.1 0, 32, .inl (fun _ => iI 0))), (a 2, .inl (E.2.1 0, 31, .inl (fun _ => iI 0))), (a 3, .inl (E.2.1 2, 31, .inl (fun _ => iI 0))), (a 4, .inr (0, [.ref (a 5)])), (a 5, .inl (E.2.1 0, 150, .inl (fun _ => iI 0)))]
def bl (E : eT) (A : Nat → Nat → Nat) (t : Nat) : va_W := (List.range t).flatMap (fun j => blk E (A j))
def trF (A : Nat → Nat → Nat) (t : Nat) : Nat → Option Nat := fun j => if j < t then some (A j 0) else none
def six (b0 b1 b2 b3 b4 b5 : Nat) : Nat → Nat := fun i => if i = 0 then b0 else if i = 1 then b1 else if i = 2 then b2 else if i = 3 then b3 else if i = 4 then b4 else b5
theorem bl_s (E : eT) (A : Nat → Nat → Nat) (t : Nat) (a : Nat → Nat) : bl E (fun j => if j = t then a else A j) (t + 1) = bl E A t ++ blk E a := by
  unfold bl
  rw [List.range_succ, List.flatMap_append]
  congr 1
  · rw [List.flatMap_def, List.flatMap_def]
    congr 1
    apply List.map_congr_left
    intro j hj
    have := List.mem_range.mp hj
    dsimp only
    rw [if_neg (by omega)]
  · rw [List.flatMap_cons, List.flatMap_nil, List.append_nil]
    dsimp only
    rw [if_pos rfl]
theorem trF_s (A : Nat → Nat → Nat) (t : Nat) (a : Nat → Nat) : va_up (trF A t) t (some (a 0)) = trF (fun j => if j = t then a else A j) (t + 1) := by
  funext j
  unfold va_up trF
  dsimp only
  by_cases q : j = t
  · rw [if_pos q, if_pos (by omega), if_pos q]
  · rw [if_neg q, if_neg q]
    by_cases q' : j < t
    · rw [if_pos q', if_pos (by omega)]
    · rw [if_neg q', if_neg (by omega)]

set_option maxRecDepth 100000 in
set_option maxHeartbeats 4000000 in
theorem c_U_init (l : Launch) (E : eT) (w0 : va_W) (a : Nat)  : Con l E y_U_init ws_U_init 3 203 8199 [.ref a] (w0 ++ [(a, .inr (6, [.null, .null, .null, .null, .null, .null]))]) (fun v w' => v = none ∧ ∃ q1 r1 q2 A p0 p1 p2 p3 h0 c0 s0 s1, w' = w0 ++ (a, .inr (6, [.ref q1, .ref q2, .ref p0, .ref h0, .ref c0, .ref s0])) :: (((q1, .inr (0, [.ref r1])) :: (r1, .inl (E.2.1 0, 64, .inl (fun _ => iI 0))) :: (q2, .inl (E.2.1 4, 32, .inr (.inr (.inr (.inr (trF A 32)))))) :: bl E A 32) ++ [(p0, .inr (4, [.ref p1, .ref p2, .ref p3, .int (iI 0)])), (p1, .inl (E.2.1 0, 16, .inl (fun _ => iI 0))), (p2, .inl (E.2.1 0, 16, .inl (fun _ => iI 0))), (p3, .inl (E.2.1 0, 16, .inl (fun _ => iI 0))), (h0, .inr (3, [.ref q2, .long (iL 0), .int (iI 0), .int (iI 0), .int (iI 0)])), (c0, .inr (1, [.ref p0, .ref h0, .ref q1, .int (iI 0), .int (iI 0), .int (iI 0), .int (iI 0), .long (iL 0), .long (iL 0), .int (iI 0), .int (iI 0)])), (s0, .inr (2, [.ref q2, .ref s1])), (s1, .inl (E.2.1 0, 32, .inl (fun j : Nat => if j < 32 then iI (-1) else iI 0)))])) := by
  refine con_ofI (cc := b_U_init) (nL := 2) (ret := none) (by decide) (Nat.le_of_ble_eq_true rfl) (fun z X Y hn hnm => ?_)
  have X : Cx E z b_U_init R_U := X
  have hz := Y.2.1
  change J E z 0 (0) 0 [(0, .ref a)] [] (w0 ++ (a, .inr (6, [.null, .null, .null, .null, .null, .null])) :: [])
  refine j_aload_n X rfl d_U_init_0 ?_
  refine j_objI X oj_U oj_i oj_c hz rfl (Nat.le_of_ble_eq_true rfl) d_U_init_1 ?_
  refine j_aload_n X rfl d_U_init_4 ?_
  refine j_newC X in_B ft_B ft_B_ok cn_U_9 in2_B in1_B (ci := 0) rfl [.null] bk_B hz ⟨Nat.le_of_ble_eq_true rfl, Nat.le_of_ble_eq_true rfl⟩ d_U_init_5 (fun q1 => ?_)
  change J E z 1 (0 + 1) 8 [(0, .ref a)] [.ref q1, .ref a] ((w0 ++ (a, .inr (6, [.null, .null, .null, .null, .null, .null])) :: []) ++ [(q1, .inr (0, [.null]))])
  refine j_dup X rfl d_U_init_8 ?_
  refine j_sipush X rfl d_U_init_9 ?_
  refine j_cI X ml_U_11 ii_B in1_B ic_B yo_B_init rfl rfl hz (c_B_init (zl z) E (w0 ++ (a, .inr (6, [.null, .null, .null, .null, .null, .null])) :: []) _ 256 64 rfl rfl (by decide)) rfl rfl rfl (Nat.le_of_ble_eq_true rfl) ⟨Nat.le_of_ble_eq_true rfl, Nat.le_of_ble_eq_true rfl⟩ d_U_init_12 (fun v' W hW => ?_)
  obtain ⟨rfl, r1, rfl⟩ := hW
  rw [app0]
  change J E z 2 (0 + 1 + 64) 15 [(0, .ref a)] [.ref q1, .ref a] (w0 ++ (a, .inr (6, [.null, .null, .null, .null, .null, .null])) :: [(q1, .inr (0, [.ref r1])), (r1, .inl (E.2.1 0, 64, .inl (fun _ => iI 0)))])
  refine j_putF X hnm in_U ft_U ft_U_ok fn_U (at0 _ _ _) rfl 0 (by decide) mf_U_14 rfl rfl (ty := ft_U 0) (by decide +kernel) rfl rfl (Nat.le_of_ble_eq_true rfl) d_U_init_15 ?_
  rw [set0]
  change J E z 2 (0 + 1 + 64) 18 [(0, .ref a)] [] (w0 ++ (a, .inr (6, [.ref q1, .null, .null, .null, .null, .null])) :: [(q1, .inr (0, [.ref r1])), (r1, .inl (E.2.1 0, 64, .inl (fun _ => iI 0)))])
  refine j_aload_n X rfl d_U_init_18 ?_
  refine j_bipush X rfl d_U_init_19 ?_
  refine j_newQ X cn_U_18 (N' := 32) rfl rfl hz ⟨Nat.le_of_ble_eq_true rfl, Nat.le_of_ble_eq_true rfl⟩ d_U_init_21 (fun q2 => ?_)
  rw [app0]
  change J E z 3 (0 + 1 + 64 + 32) 24 [(0, .ref a)] [.ref q2, .ref a] (w0 ++ (a, .inr (6, [.ref q1, .null, .null, .null, .null, .null])) :: [(q1, .inr (0, [.ref r1])), (r1, .inl (E.2.1 0, 64, .inl (fun _ => iI 0))), (q2, .inl (E.2.1 4, 32, .inr (.inr (.inr (.inr (fun _ => none))))))])
  refine j_putF X hnm in_U ft_U ft_U_ok fn_U (at0 _ _ _) rfl 1 (by decide) mf_U_20 rfl rfl (ty := ft_U 1) (by decide +kernel) rfl rfl (Nat.le_of_ble_eq_true rfl) d_U_init_24 ?_
  rw [set0]
  change J E z 3 (0 + 1 + 64 + 32) 27 [(0, .ref a)] [] (w0 ++ (a, .inr (6, [.ref q1, .ref q2, .null, .null, .null, .null])) :: [(q1, .inr (0, [.ref r1])), (r1, .inl (E.2.1 0, 64, .inl (fun _ => iI 0))), (q2, .inl (E.2.1 4, 32, .inr (.inr (.inr (.inr (fun _ => none))))))])
  refine j_iconst X d_U_init_27 ?_
  refine j_istore_n X (zlt hn rfl) d_U_init_28 ?_
  have fin : ∀ A : Nat → Nat → Nat, J E z 195 (97 + 250 * 32) 54 [(0, .ref a), (1, .int (iI ((32 : Nat) : Int)))] [] (w0 ++ (a, .inr (6, [.ref q1, .ref q2, .null, .null, .null, .null])) :: (q1, .inr (0, [.ref r1])) :: (r1, .inl (E.2.1 0, 64, .inl (fun _ => iI 0))) :: (q2, .inl (E.2.1 4, 32, .inr (.inr (.inr (.inr (trF A 32)))))) :: bl E A 32) := by
    intro A
    rw [show (w0 ++ (a, .inr (6, [.ref q1, .ref q2, .null, .null, .null, .null])) :: (q1, .inr (0, [.ref r1])) :: (r1, .inl (E.2.1 0, 64, .inl (fun _ => iI 0))) :: (q2, .inl (E.2.1 4, 32, .inr (.inr (.inr (.inr (trF A 32)))))) :: bl E A 32) = w0 ++ (a, .inr (6, [.ref q1, .ref q2, .null, .null, .null, .null])) :: (((q1, .inr (0, [.ref r1])) :: (r1, .inl (E.2.1 0, 64, .inl (fun _ => iI 0))) :: (q2, .inl (E.2.1 4, 32, .inr (.inr (.inr (.inr (trF A 32)))))) :: bl E A 32) ++ []) by rw [List.append_nil]]
    change J E z 195 (97 + 250 * 32) 54 [(0, .ref a), (1, .int (iI ((32 : Nat) : Int)))] [] (w0 ++ (a, .inr (6, [.ref q1, .ref q2, .null, .null, .null, .null])) :: (((q1, .inr (0, [.ref r1])) :: (r1, .inl (E.2.1 0, 64, .inl (fun _ => iI 0))) :: (q2, .inl (E.2.1 4, 32, .inr (.inr (.inr (.inr (trF A 32)))))) :: bl E A 32) ++ []))
    refine j_aload_n X rfl d_U_init_54 ?_
    refine j_newC X in_P ft_P ft_P_ok cn_U_25 in2_P in1_P (ci := 4) rfl [.null, .null, .null, .int (iI 0)] bk_P hz ⟨Nat.le_of_ble_eq_true rfl, Nat.le_of_ble_eq_true rfl⟩ d_U_init_55 (fun p0 => ?_)
    change J E z 196 (97 + 250 * 32 + 4) 58 [(0, .ref a), (1, .int (iI ((32 : Nat) : Int)))] [.ref p0, .ref a] ((w0 ++ (a, .inr (6, [.ref q1, .ref q2, .null, .null, .null, .null])) :: (((q1, .inr (0, [.ref r1])) :: (r1, .inl (E.2.1 0, 64, .inl (fun _ => iI 0))) :: (q2, .inl (E.2.1 4, 32, .inr (.inr (.inr (.inr (trF A 32)))))) :: bl E A 32) ++ [])) ++ [(p0, .inr (4, [.null, .null, .null, .int (iI 0)]))])
    refine j_dup X rfl d_U_init_58 ?_
    refine j_cIN X ml_U_27 ii_P in1_P ic_P yo_P_init rfl rfl hz (c_P_init (zl z) E (w0 ++ (a, .inr (6, [.ref q1, .ref q2, .null, .null, .null, .null])) :: (((q1, .inr (0, [.ref r1])) :: (r1, .inl (E.2.1 0, 64, .inl (fun _ => iI 0))) :: (q2, .inl (E.2.1 4, 32, .inr (.inr (.inr (.inr (trF A 32)))))) :: bl E A 32) ++ [])) _) rfl rfl rfl (Nat.le_of_ble_eq_true rfl) ⟨Nat.le_of_ble_eq_true rfl, Nat.le_of_ble_eq_true rfl⟩ d_U_init_59 (fun v' W hW => ?_)
    obtain ⟨rfl, p1, p2, p3, rfl⟩ := hW
    rw [app0]
    rw [List.append_assoc]
    change J E z 199 (97 + 250 * 32 + 4 + 48) 62 [(0, .ref a), (1, .int (iI ((32 : Nat) : Int)))] [.ref p0, .ref a] (w0 ++ (a, .inr (6, [.ref q1, .ref q2, .null, .null, .null, .null])) :: (((q1, .inr (0, [.ref r1])) :: (r1, .inl (E.2.1 0, 64, .inl (fun _ => iI 0))) :: (q2, .inl (E.2.1 4, 32, .inr (.inr (.inr (.inr (trF A 32)))))) :: bl E A 32) ++ [(p0, .inr (4, [.ref p1, .ref p2, .ref p3, .int (iI 0)])), (p1, .inl (E.2.1 0, 16, .inl (fun _ => iI 0))), (p2, .inl (E.2.1 0, 16, .inl (fun _ => iI 0))), (p3, .inl (E.2.1 0, 16, .inl (fun _ => iI 0)))]))
    refine j_putF X hnm in_U ft_U ft_U_ok fn_U (at0 _ _ _) rfl 2 (by decide) mf_U_28 rfl rfl (ty := ft_U 2) (by decide +kernel) rfl rfl (Nat.le_of_ble_eq_true rfl) d_U_init_62 ?_
    rw [set0]
    change J E z 199 (97 + 250 * 32 + 4 + 48) 65 [(0, .ref a), (1, .int (iI ((32 : Nat) : Int)))] [] (w0 ++ (a, .inr (6, [.ref q1, .ref q2, .ref p0, .null, .null, .null])) :: (((q1, .inr (0, [.ref r1])) :: (r1, .inl (E.2.1 0, 64, .inl (fun _ => iI 0))) :: (q2, .inl (E.2.1 4, 32, .inr (.inr (.inr (.inr (trF A 32)))))) :: bl E A 32) ++ [(p0, .inr (4, [.ref p1, .ref p2, .ref p3, .int (iI 0)])), (p1, .inl (E.2.1 0, 16, .inl (fun _ => iI 0))), (p2, .inl (E.2.1 0, 16, .inl (fun _ => iI 0))), (p3, .inl (E.2.1 0, 16, .inl (fun _ => iI 0)))]))
    refine j_aload_n X rfl d_U_init_65 ?_
    refine j_newC X in_H ft_H ft_H_ok cn_U_32 in2_H in1_H (ci := 3) rfl [.null, .long (iL 0), .int (iI 0), .int (iI 0), .int (iI 0)] bk_H hz ⟨Nat.le_of_ble_eq_true rfl, Nat.le_of_ble_eq_true rfl⟩ d_U_init_66 (fun h0 => ?_)
    change J E z 200 (97 + 250 * 32 + 4 + 48 + 5) 69 [(0, .ref a), (1, .int (iI ((32 : Nat) : Int)))] [.ref h0, .ref a] ((w0 ++ (a, .inr (6, [.ref q1, .ref q2, .ref p0, .null, .null, .null])) :: (((q1, .inr (0, [.ref r1])) :: (r1, .inl (E.2.1 0, 64, .inl (fun _ => iI 0))) :: (q2, .inl (E.2.1 4, 32, .inr (.inr (.inr (.inr (trF A 32)))))) :: bl E A 32) ++ [(p0, .inr (4, [.ref p1, .ref p2, .ref p3, .int (iI 0)])), (p1, .inl (E.2.1 0, 16, .inl (fun _ => iI 0))), (p2, .inl (E.2.1 0, 16, .inl (fun _ => iI 0))), (p3, .inl (E.2.1 0, 16, .inl (fun _ => iI 0)))])) ++ [(h0, .inr (3, [.null, .long (iL 0), .int (iI 0), .int (iI 0), .int (iI 0)]))])
    refine j_dup X rfl d_U_init_69 ?_
    refine j_aload_n X rfl d_U_init_70 ?_
    refine j_getC X in_U (at0' _ _ _ _) rfl 1 (by decide) mf_U_20 rfl d_U_init_71 ?_
    refine j_cI X ml_U_34 ii_H in1_H ic_H yo_H_init rfl rfl hz (c_H_init (zl z) E (w0 ++ (a, .inr (6, [.ref q1, .ref q2, .ref p0, .null, .null, .null])) :: (((q1, .inr (0, [.ref r1])) :: (r1, .inl (E.2.1 0, 64, .inl (fun _ => iI 0))) :: (q2, .inl (E.2.1 4, 32, .inr (.inr (.inr (.inr (trF A 32)))))) :: bl E A 32) ++ [(p0, .inr (4, [.ref p1, .ref p2, .ref p3, .int (iI 0)])), (p1, .inl (E.2.1 0, 16, .inl (fun _ => iI 0))), (p2, .inl (E.2.1 0, 16, .inl (fun _ => iI 0))), (p3, .inl (E.2.1 0, 16, .inl (fun _ => iI 0)))])) _ q2) rfl rfl rfl (Nat.le_of_ble_eq_true rfl) ⟨Nat.le_of_ble_eq_true rfl, Nat.le_of_ble_eq_true rfl⟩ d_U_init_74 (fun v' W hW => ?_)
    obtain ⟨rfl, rfl⟩ := hW
    rw [app0]
    rw [List.append_assoc]
    change J E z 200 (97 + 250 * 32 + 4 + 48 + 5) 77 [(0, .ref a), (1, .int (iI ((32 : Nat) : Int)))] [.ref h0, .ref a] (w0 ++ (a, .inr (6, [.ref q1, .ref q2, .ref p0, .null, .null, .null])) :: (((q1, .inr (0, [.ref r1])) :: (r1, .inl (E.2.1 0, 64, .inl (fun _ => iI 0))) :: (q2, .inl (E.2.1 4, 32, .inr (.inr (.inr (.inr (trF A 32)))))) :: bl E A 32) ++ [(p0, .inr (4, [.ref p1, .ref p2, .ref p3, .int (iI 0)])), (p1, .inl (E.2.1 0, 16, .inl (fun _ => iI 0))), (p2, .inl (E.2.1 0, 16, .inl (fun _ => iI 0))), (p3, .inl (E.2.1 0, 16, .inl (fun _ => iI 0))), (h0, .inr (3, [.ref q2, .long (iL 0), .int (iI 0), .int (iI 0), .int (iI 0)]))]))
    refine j_putF X hnm in_U ft_U ft_U_ok fn_U (at0 _ _ _) rfl 3 (by decide) mf_U_37 rfl rfl (ty := ft_U 3) (by decide +kernel) rfl rfl (Nat.le_of_ble_eq_true rfl) d_U_init_77 ?_
    rw [set0]
    change J E z 200 (97 + 250 * 32 + 4 + 48 + 5) 80 [(0, .ref a), (1, .int (iI ((32 : Nat) : Int)))] [] (w0 ++ (a, .inr (6, [.ref q1, .ref q2, .ref p0, .ref h0, .null, .null])) :: (((q1, .inr (0, [.ref r1])) :: (r1, .inl (E.2.1 0, 64, .inl (fun _ => iI 0))) :: (q2, .inl (E.2.1 4, 32, .inr (.inr (.inr (.inr (trF A 32)))))) :: bl E A 32) ++ [(p0, .inr (4, [.ref p1, .ref p2, .ref p3, .int (iI 0)])), (p1, .inl (E.2.1 0, 16, .inl (fun _ => iI 0))), (p2, .inl (E.2.1 0, 16, .inl (fun _ => iI 0))), (p3, .inl (E.2.1 0, 16, .inl (fun _ => iI 0))), (h0, .inr (3, [.ref q2, .long (iL 0), .int (iI 0), .int (iI 0), .int (iI 0)]))]))
    refine j_aload_n X rfl d_U_init_80 ?_
    refine j_newC X in_C ft_C ft_C_ok cn_U_41 in2_C in1_C (ci := 1) rfl [.null, .null, .null, .int (iI 0), .int (iI 0), .int (iI 0), .int (iI 0), .long (iL 0), .long (iL 0), .int (iI 0), .int (iI 0)] bk_C hz ⟨Nat.le_of_ble_eq_true rfl, Nat.le_of_ble_eq_true rfl⟩ d_U_init_81 (fun c0 => ?_)
    change J E z 201 (97 + 250 * 32 + 4 + 48 + 5 + 11) 84 [(0, .ref a), (1, .int (iI ((32 : Nat) : Int)))] [.ref c0, .ref a] ((w0 ++ (a, .inr (6, [.ref q1, .ref q2, .ref p0, .ref h0, .null, .null])) :: (((q1, .inr (0, [.ref r1])) :: (r1, .inl (E.2.1 0, 64, .inl (fun _ => iI 0))) :: (q2, .inl (E.2.1 4, 32, .inr (.inr (.inr (.inr (trF A 32)))))) :: bl E A 32) ++ [(p0, .inr (4, [.ref p1, .ref p2, .ref p3, .int (iI 0)])), (p1, .inl (E.2.1 0, 16, .inl (fun _ => iI 0))), (p2, .inl (E.2.1 0, 16, .inl (fun _ => iI 0))), (p3, .inl (E.2.1 0, 16, .inl (fun _ => iI 0))), (h0, .inr (3, [.ref q2, .long (iL 0), .int (iI 0), .int (iI 0), .int (iI 0)]))])) ++ [(c0, .inr (1, [.null, .null, .null, .int (iI 0), .int (iI 0), .int (iI 0), .int (iI 0), .long (iL 0), .long (iL 0), .int (iI 0), .int (iI 0)]))])
    refine j_dup X rfl d_U_init_84 ?_
    refine j_aload_n X rfl d_U_init_85 ?_
    refine j_getC X in_U (at0' _ _ _ _) rfl 2 (by decide) mf_U_28 rfl d_U_init_86 ?_
    refine j_aload_n X rfl d_U_init_89 ?_
    refine j_getC X in_U (at0' _ _ _ _) rfl 3 (by decide) mf_U_37 rfl d_U_init_90 ?_
    refine j_aload_n X rfl d_U_init_93 ?_
    refine j_getC X in_U (at0' _ _ _ _) rfl 0 (by decide) mf_U_14 rfl d_U_init_94 ?_
    refine j_cI X ml_U_43 ii_C in1_C ic_C yo_C_init rfl rfl hz (c_C_init (zl z) E (w0 ++ (a, .inr (6, [.ref q1, .ref q2, .ref p0, .ref h0, .null, .null])) :: (((q1, .inr (0, [.ref r1])) :: (r1, .inl (E.2.1 0, 64, .inl (fun _ => iI 0))) :: (q2, .inl (E.2.1 4, 32, .inr (.inr (.inr (.inr (trF A 32)))))) :: bl E A 32) ++ [(p0, .inr (4, [.ref p1, .ref p2, .ref p3, .int (iI 0)])), (p1, .inl (E.2.1 0, 16, .inl (fun _ => iI 0))), (p2, .inl (E.2.1 0, 16, .inl (fun _ => iI 0))), (p3, .inl (E.2.1 0, 16, .inl (fun _ => iI 0))), (h0, .inr (3, [.ref q2, .long (iL 0), .int (iI 0), .int (iI 0), .int (iI 0)]))])) _ p0 h0 q1) rfl rfl rfl (Nat.le_of_ble_eq_true rfl) ⟨Nat.le_of_ble_eq_true rfl, Nat.le_of_ble_eq_true rfl⟩ d_U_init_97 (fun v' W hW => ?_)
    obtain ⟨rfl, rfl⟩ := hW
    rw [app0]
    rw [List.append_assoc]
    change J E z 201 (97 + 250 * 32 + 4 + 48 + 5 + 11) 100 [(0, .ref a), (1, .int (iI ((32 : Nat) : Int)))] [.ref c0, .ref a] (w0 ++ (a, .inr (6, [.ref q1, .ref q2, .ref p0, .ref h0, .null, .null])) :: (((q1, .inr (0, [.ref r1])) :: (r1, .inl (E.2.1 0, 64, .inl (fun _ => iI 0))) :: (q2, .inl (E.2.1 4, 32, .inr (.inr (.inr (.inr (trF A 32)))))) :: bl E A 32) ++ [(p0, .inr (4, [.ref p1, .ref p2, .ref p3, .int (iI 0)])), (p1, .inl (E.2.1 0, 16, .inl (fun _ => iI 0))), (p2, .inl (E.2.1 0, 16, .inl (fun _ => iI 0))), (p3, .inl (E.2.1 0, 16, .inl (fun _ => iI 0))), (h0, .inr (3, [.ref q2, .long (iL 0), .int (iI 0), .int (iI 0), .int (iI 0)])), (c0, .inr (1, [.ref p0, .ref h0, .ref q1, .int (iI 0), .int (iI 0), .int (iI 0), .int (iI 0), .long (iL 0), .long (iL 0), .int (iI 0), .int (iI 0)]))]))
    refine j_putF X hnm in_U ft_U ft_U_ok fn_U (at0 _ _ _) rfl 4 (by decide) mf_U_46 rfl rfl (ty := ft_U 4) (by decide +kernel) rfl rfl (Nat.le_of_ble_eq_true rfl) d_U_init_100 ?_
    rw [set0]
    change J E z 201 (97 + 250 * 32 + 4 + 48 + 5 + 11) 103 [(0, .ref a), (1, .int (iI ((32 : Nat) : Int)))] [] (w0 ++ (a, .inr (6, [.ref q1, .ref q2, .ref p0, .ref h0, .ref c0, .null])) :: (((q1, .inr (0, [.ref r1])) :: (r1, .inl (E.2.1 0, 64, .inl (fun _ => iI 0))) :: (q2, .inl (E.2.1 4, 32, .inr (.inr (.inr (.inr (trF A 32)))))) :: bl E A 32) ++ [(p0, .inr (4, [.ref p1, .ref p2, .ref p3, .int (iI 0)])), (p1, .inl (E.2.1 0, 16, .inl (fun _ => iI 0))), (p2, .inl (E.2.1 0, 16, .inl (fun _ => iI 0))), (p3, .inl (E.2.1 0, 16, .inl (fun _ => iI 0))), (h0, .inr (3, [.ref q2, .long (iL 0), .int (iI 0), .int (iI 0), .int (iI 0)])), (c0, .inr (1, [.ref p0, .ref h0, .ref q1, .int (iI 0), .int (iI 0), .int (iI 0), .int (iI 0), .long (iL 0), .long (iL 0), .int (iI 0), .int (iI 0)]))]))
    refine j_aload_n X rfl d_U_init_103 ?_
    refine j_newC X in_D ft_D ft_D_ok cn_U_50 in2_D in1_D (ci := 2) rfl [.null, .null] bk_D hz ⟨Nat.le_of_ble_eq_true rfl, Nat.le_of_ble_eq_true rfl⟩ d_U_init_104 (fun s0 => ?_)
    change J E z 202 (97 + 250 * 32 + 4 + 48 + 5 + 11 + 2) 107 [(0, .ref a), (1, .int (iI ((32 : Nat) : Int)))] [.ref s0, .ref a] ((w0 ++ (a, .inr (6, [.ref q1, .ref q2, .ref p0, .ref h0, .ref c0, .null])) :: (((q1, .inr (0, [.ref r1])) :: (r1, .inl (E.2.1 0, 64, .inl (fun _ => iI 0))) :: (q2, .inl (E.2.1 4, 32, .inr (.inr (.inr (.inr (trF A 32)))))) :: bl E A 32) ++ [(p0, .inr (4, [.ref p1, .ref p2, .ref p3, .int (iI 0)])), (p1, .inl (E.2.1 0, 16, .inl (fun _ => iI 0))), (p2, .inl (E.2.1 0, 16, .inl (fun _ => iI 0))), (p3, .inl (E.2.1 0, 16, .inl (fun _ => iI 0))), (h0, .inr (3, [.ref q2, .long (iL 0), .int (iI 0), .int (iI 0), .int (iI 0)])), (c0, .inr (1, [.ref p0, .ref h0, .ref q1, .int (iI 0), .int (iI 0), .int (iI 0), .int (iI 0), .long (iL 0), .long (iL 0), .int (iI 0), .int (iI 0)]))])) ++ [(s0, .inr (2, [.null, .null]))])
    refine j_dup X rfl d_U_init_107 ?_
    refine j_aload_n X rfl d_U_init_108 ?_
    refine j_getC X in_U (at0' _ _ _ _) rfl 1 (by decide) mf_U_20 rfl d_U_init_109 ?_
    refine j_cI X ml_U_52 ii_D in1_D ic_D yo_D_init rfl rfl hz (c_D_init (zl z) E (w0 ++ (a, .inr (6, [.ref q1, .ref q2, .ref p0, .ref h0, .ref c0, .null])) :: (((q1, .inr (0, [.ref r1])) :: (r1, .inl (E.2.1 0, 64, .inl (fun _ => iI 0))) :: (q2, .inl (E.2.1 4, 32, .inr (.inr (.inr (.inr (trF A 32)))))) :: bl E A 32) ++ [(p0, .inr (4, [.ref p1, .ref p2, .ref p3, .int (iI 0)])), (p1, .inl (E.2.1 0, 16, .inl (fun _ => iI 0))), (p2, .inl (E.2.1 0, 16, .inl (fun _ => iI 0))), (p3, .inl (E.2.1 0, 16, .inl (fun _ => iI 0))), (h0, .inr (3, [.ref q2, .long (iL 0), .int (iI 0), .int (iI 0), .int (iI 0)])), (c0, .inr (1, [.ref p0, .ref h0, .ref q1, .int (iI 0), .int (iI 0), .int (iI 0), .int (iI 0), .long (iL 0), .long (iL 0), .int (iI 0), .int (iI 0)]))])) _ q2) rfl rfl rfl (Nat.le_of_ble_eq_true rfl) ⟨Nat.le_of_ble_eq_true rfl, Nat.le_of_ble_eq_true rfl⟩ d_U_init_112 (fun v' W hW => ?_)
    obtain ⟨rfl, s1, rfl⟩ := hW
    rw [app0]
    rw [List.append_assoc]
    change J E z 203 (97 + 250 * 32 + 4 + 48 + 5 + 11 + 2 + 32) 115 [(0, .ref a), (1, .int (iI ((32 : Nat) : Int)))] [.ref s0, .ref a] (w0 ++ (a, .inr (6, [.ref q1, .ref q2, .ref p0, .ref h0, .ref c0, .null])) :: (((q1, .inr (0, [.ref r1])) :: (r1, .inl (E.2.1 0, 64, .inl (fun _ => iI 0))) :: (q2, .inl (E.2.1 4, 32, .inr (.inr (.inr (.inr (trF A 32)))))) :: bl E A 32) ++ [(p0, .inr (4, [.ref p1, .ref p2, .ref p3, .int (iI 0)])), (p1, .inl (E.2.1 0, 16, .inl (fun _ => iI 0))), (p2, .inl (E.2.1 0, 16, .inl (fun _ => iI 0))), (p3, .inl (E.2.1 0, 16, .inl (fun _ => iI 0))), (h0, .inr (3, [.ref q2, .long (iL 0), .int (iI 0), .int (iI 0), .int (iI 0)])), (c0, .inr (1, [.ref p0, .ref h0, .ref q1, .int (iI 0), .int (iI 0), .int (iI 0), .int (iI 0), .long (iL 0), .long (iL 0), .int (iI 0), .int (iI 0)])), (s0, .inr (2, [.ref q2, .ref s1])), (s1, .inl (E.2.1 0, 32, .inl (fun j : Nat => if j < 32 then iI (-1) else iI 0)))]))
    refine j_putF X hnm in_U ft_U ft_U_ok fn_U (at0 _ _ _) rfl 5 (by decide) mf_U_53 rfl rfl (ty := ft_U 5) (by decide +kernel) rfl rfl (Nat.le_of_ble_eq_true rfl) d_U_init_115 ?_
    rw [set0]
    change J E z 203 (97 + 250 * 32 + 4 + 48 + 5 + 11 + 2 + 32) 118 [(0, .ref a), (1, .int (iI ((32 : Nat) : Int)))] [] (w0 ++ (a, .inr (6, [.ref q1, .ref q2, .ref p0, .ref h0, .ref c0, .ref s0])) :: (((q1, .inr (0, [.ref r1])) :: (r1, .inl (E.2.1 0, 64, .inl (fun _ => iI 0))) :: (q2, .inl (E.2.1 4, 32, .inr (.inr (.inr (.inr (trF A 32)))))) :: bl E A 32) ++ [(p0, .inr (4, [.ref p1, .ref p2, .ref p3, .int (iI 0)])), (p1, .inl (E.2.1 0, 16, .inl (fun _ => iI 0))), (p2, .inl (E.2.1 0, 16, .inl (fun _ => iI 0))), (p3, .inl (E.2.1 0, 16, .inl (fun _ => iI 0))), (h0, .inr (3, [.ref q2, .long (iL 0), .int (iI 0), .int (iI 0), .int (iI 0)])), (c0, .inr (1, [.ref p0, .ref h0, .ref q1, .int (iI 0), .int (iI 0), .int (iI 0), .int (iI 0), .long (iL 0), .long (iL 0), .int (iI 0), .int (iI 0)])), (s0, .inr (2, [.ref q2, .ref s1])), (s1, .inl (E.2.1 0, 32, .inl (fun j : Nat => if j < 32 then iI (-1) else iI 0)))]))
    exact j_vret X Y (Nat.le_of_ble_eq_true rfl) (Nat.le_of_ble_eq_true rfl) d_U_init_118 ⟨rfl, _, _, _, _, _, _, _, _, _, _, _, _, rfl⟩
  have kyl : ∀ q : Nat × (Nat → Nat → Nat), q.1 ≤ 32 → J E z (3 + 6 * q.1) (97 + 250 * q.1) 29 [(0, .ref a), (1, .int (iI (q.1 : Int)))] [] (w0 ++ (a, .inr (6, [.ref q1, .ref q2, .null, .null, .null, .null])) :: (q1, .inr (0, [.ref r1])) :: (r1, .inl (E.2.1 0, 64, .inl (fun _ => iI 0))) :: (q2, .inl (E.2.1 4, 32, .inr (.inr (.inr (.inr (trF q.2 q.1)))))) :: bl E q.2 q.1) := by
    refine j_loop (fun q => 32 - q.1) _ _ (fun q hq ih => ?_)
    obtain ⟨t, A⟩ := q
    dsimp only at hq
    dsimp only
    refine j_iload_n X rfl d_U_init_29 ?_
    refine j_bipush X rfl d_U_init_30 ?_
    refine j_icmp_ge X (by omega) (by omega) d_U_init_32 (tgt := 54) rfl (fun h32 => ?_) (fun h32 => ?_)
    · have e : t = 32 := by omega
      subst e
      exact fin A
    · refine j_aload_n X rfl d_U_init_35 ?_
      refine j_getC X in_U (at0 _ _ _) rfl 1 (by decide) mf_U_20 rfl d_U_init_36 ?_
      refine j_iload_n X rfl d_U_init_39 ?_
      refine j_newC X in_T ft_T ft_T_ok cn_U_18 in2_T in1_T (ci := 5) rfl [.null, .null, .null, .null, .int (iI 0)] bk_T hz ⟨by omega, by omega⟩ d_U_init_40 (fun b0 => ?_)
      refine j_dup X rfl d_U_init_43 ?_
      refine j_cIN X ml_U_24 ii_T in1_T ic_T yo_T_init rfl rfl hz (c_T_init (zl z) E _ _) rfl rfl rfl (Nat.le_of_ble_eq_true rfl) ⟨by omega, by omega⟩ d_U_init_44 (fun v' W hW => ?_)
      obtain ⟨rfl, b1, b2, b3, b4, b5, rfl⟩ := hW
      refine j_astq X (q0 := w0.length + 3) (qk := (w0 ++ (a, .inr (6, [.ref q1, .ref q2, .null, .null, .null, .null])) :: (q1, .inr (0, [.ref r1])) :: (r1, .inl (E.2.1 0, 64, .inl (fun _ => iI 0))) :: (q2, .inl (E.2.1 4, 32, .inr (.inr (.inr (.inr (trF A t)))))) :: bl E A t).length) (f := trF A t) (N := 32) (a := q2) ?_ (at0 _ _ _) (by omega) (by decide) d_U_init_47 ?_
      · rw [List.append_assoc, List.getElem?_append_right (Nat.le_add_right _ _), Nat.add_sub_cancel_left]; rfl
      refine j_iinc X rfl (zlt hn rfl) d_U_init_48 ?_
      refine j_goto X d_U_init_51 (tgt := 29) rfl ?_
      have h := ih (t + 1, fun j => if j = t then six b0 b1 b2 b3 b4 b5 else A j) (by dsimp only; omega) (by dsimp only; omega)
      dsimp only at h
      rw [bl_s, ← trF_s] at h
      rw [List.append_assoc, List.set_append_right _ _ (Nat.le_add_right _ _), Nat.add_sub_cancel_left]
      rw [show 3 + 6 * (t + 1) = 3 + 6 * t + 1 + 5 by omega, show 97 + 250 * (t + 1) = 97 + 250 * t + 5 + 245 by omega] at h
      exact h
  exact kyl (0, fun _ _ => 0) (Nat.zero_le _)
