/-! the model: a command -/

set_option maxRecDepth 100000 in
set_option maxHeartbeats 4000000 in
theorem c_M_perform0 (l : Launch) (E : eT) (σ σ' : St) (k a b : Int) (hk : 0 ≤ k ∧ k < 16) (e22 : σ 22 0 k = 0) (e23 : σ 23 0 k = a) (e24 : σ 24 0 k = b) (hcmd : FCon l E y_M_seek ws_M_seek 2 [.ref (E.2.2.2 18 0), .int (iI a)] (up σ 18 0 19 (k + 1)) none σ') : FCon l E y_M_perform ws_M_perform 6 [.ref (E.2.2.2 18 0), .int (iI k)] σ none σ' := by
  refine con_of (cc := b_M_perform) (nL := 5) (ret := none) (by decide) (Nat.le_of_ble_eq_true rfl) (fun z X Y hn => ?_)
  have X : Cx E z b_M_perform R_M := X
  have hz := Y.2.1
  change J E z 0 0 0 [(0, .ref (E.2.2.2 18 0)), (1, .int (iI k))] [] (cells E σ)
  rw [← Y.1] at hcmd
  refine j_aload_n X rfl d_M_perform_0 ?_
  refine g_M_20 X d_M_perform_1 ?_
  refine j_iload_n X rfl d_M_perform_4 ?_
  refine j_iald X (by first | exact okC1 rfl | exact (okCT rfl (by omega))) (fun _ => rfl) rfl (by omega) d_M_perform_5 ?_
  refine j_topi (congrArg iI e22) ?_
  refine j_istore_n X (zlt hn rfl) d_M_perform_6 ?_
  refine j_aload_n X rfl d_M_perform_7 ?_
  refine g_M_23 X d_M_perform_8 ?_
  refine j_iload_n X rfl d_M_perform_11 ?_
  refine j_iald X (by first | exact okC1 rfl | exact (okCT rfl (by omega))) (fun _ => rfl) rfl (by omega) d_M_perform_12 ?_
  refine j_topi (congrArg iI e23) ?_
  refine j_istore_n X (zlt hn rfl) d_M_perform_13 ?_
  refine j_aload_n X rfl d_M_perform_14 ?_
  refine g_M_26 X d_M_perform_15 ?_
  refine j_iload_n X rfl d_M_perform_18 ?_
  refine j_iald X (by first | exact okC1 rfl | exact (okCT rfl (by omega))) (fun _ => rfl) rfl (by omega) d_M_perform_19 ?_
  refine j_topi (congrArg iI e24) ?_
  refine j_istore X (zlt hn rfl) d_M_perform_20 ?_
  refine j_aload_n X rfl d_M_perform_22 ?_
  refine j_iload_n X rfl d_M_perform_23 ?_
  refine j_iconst X d_M_perform_24 ?_
  refine j_iadd X d_M_perform_25 ?_
  refine p_M_120 X d_M_perform_26 ?_
  refine j_iload_n X rfl d_M_perform_29 ?_
  refine j_if_ne X (by omega) d_M_perform_30 (tgt := 41) rfl (fun h => absurd h (by omega)) (fun _ => ?_)
  refine j_aload_n X rfl d_M_perform_33 ?_
  refine j_iload_n X rfl d_M_perform_34 ?_
  refine v_M_150 X hz (hcmd) rfl rfl rfl (Nat.le_of_ble_eq_true rfl) ⟨Nat.le_refl _, Nat.le_refl _⟩ d_M_perform_35 ?_
  refine j_goto X d_M_perform_38 (tgt := 133) rfl ?_
  exact j_vret X Y (Nat.le_refl _) (Nat.le_refl _) d_M_perform_133 ⟨rfl, rfl⟩

set_option maxRecDepth 100000 in
set_option maxHeartbeats 4000000 in
theorem c_M_perform1 (l : Launch) (E : eT) (σ σ' : St) (k a b : Int) (hk : 0 ≤ k ∧ k < 16) (e22 : σ 22 0 k = 1) (e23 : σ 23 0 k = a) (e24 : σ 24 0 k = b) (hcmd : FCon l E y_M_search ws_M_search 5 [.ref (E.2.2.2 18 0), .int (iI 1), .int (iI a), .int (iI b)] (up σ 18 0 19 (k + 1)) none σ') : FCon l E y_M_perform ws_M_perform 6 [.ref (E.2.2.2 18 0), .int (iI k)] σ none σ' := by
  refine con_of (cc := b_M_perform) (nL := 5) (ret := none) (by decide) (Nat.le_of_ble_eq_true rfl) (fun z X Y hn => ?_)
  have X : Cx E z b_M_perform R_M := X
  have hz := Y.2.1
  change J E z 0 0 0 [(0, .ref (E.2.2.2 18 0)), (1, .int (iI k))] [] (cells E σ)
  rw [← Y.1] at hcmd
  refine j_aload_n X rfl d_M_perform_0 ?_
  refine g_M_20 X d_M_perform_1 ?_
  refine j_iload_n X rfl d_M_perform_4 ?_
  refine j_iald X (by first | exact okC1 rfl | exact (okCT rfl (by omega))) (fun _ => rfl) rfl (by omega) d_M_perform_5 ?_
  refine j_topi (congrArg iI e22) ?_
  refine j_istore_n X (zlt hn rfl) d_M_perform_6 ?_
  refine j_aload_n X rfl d_M_perform_7 ?_
  refine g_M_23 X d_M_perform_8 ?_
  refine j_iload_n X rfl d_M_perform_11 ?_
  refine j_iald X (by first | exact okC1 rfl | exact (okCT rfl (by omega))) (fun _ => rfl) rfl (by omega) d_M_perform_12 ?_
  refine j_topi (congrArg iI e23) ?_
  refine j_istore_n X (zlt hn rfl) d_M_perform_13 ?_
  refine j_aload_n X rfl d_M_perform_14 ?_
  refine g_M_26 X d_M_perform_15 ?_
  refine j_iload_n X rfl d_M_perform_18 ?_
  refine j_iald X (by first | exact okC1 rfl | exact (okCT rfl (by omega))) (fun _ => rfl) rfl (by omega) d_M_perform_19 ?_
  refine j_topi (congrArg iI e24) ?_
  refine j_istore X (zlt hn rfl) d_M_perform_20 ?_
  refine j_aload_n X rfl d_M_perform_22 ?_
  refine j_iload_n X rfl d_M_perform_23 ?_
  refine j_iconst X d_M_perform_24 ?_
  refine j_iadd X d_M_perform_25 ?_
  refine p_M_120 X d_M_perform_26 ?_
  refine j_iload_n X rfl d_M_perform_29 ?_
  refine j_if_ne X (by omega) d_M_perform_30 (tgt := 41) rfl (fun _ => ?_) (fun h => absurd h (by omega))
  refine j_iload_n X rfl d_M_perform_41 ?_
  refine j_iconst X d_M_perform_42 ?_
  refine j_icmp_ge X (by omega) (by omega) d_M_perform_43 (tgt := 57) rfl (fun h => absurd h (by omega)) (fun _ => ?_)
  refine j_aload_n X rfl d_M_perform_46 ?_
  refine j_iload_n X rfl d_M_perform_47 ?_
  refine j_iload_n X rfl d_M_perform_48 ?_
  refine j_iload X rfl d_M_perform_49 ?_
  refine v_M_153 X hz (hcmd) rfl rfl rfl (Nat.le_of_ble_eq_true rfl) ⟨Nat.le_refl _, Nat.le_refl _⟩ d_M_perform_51 ?_
  refine j_goto X d_M_perform_54 (tgt := 133) rfl ?_
  exact j_vret X Y (Nat.le_refl _) (Nat.le_refl _) d_M_perform_133 ⟨rfl, rfl⟩

set_option maxRecDepth 100000 in
set_option maxHeartbeats 4000000 in
theorem c_M_perform2 (l : Launch) (E : eT) (σ σ' : St) (k a b : Int) (hk : 0 ≤ k ∧ k < 16) (e22 : σ 22 0 k = 2) (e23 : σ 23 0 k = a) (e24 : σ 24 0 k = b) (hcmd : FCon l E y_M_search ws_M_search 5 [.ref (E.2.2.2 18 0), .int (iI 2), .int (iI a), .int (iI b)] (up σ 18 0 19 (k + 1)) none σ') : FCon l E y_M_perform ws_M_perform 6 [.ref (E.2.2.2 18 0), .int (iI k)] σ none σ' := by
  refine con_of (cc := b_M_perform) (nL := 5) (ret := none) (by decide) (Nat.le_of_ble_eq_true rfl) (fun z X Y hn => ?_)
  have X : Cx E z b_M_perform R_M := X
  have hz := Y.2.1
  change J E z 0 0 0 [(0, .ref (E.2.2.2 18 0)), (1, .int (iI k))] [] (cells E σ)
  rw [← Y.1] at hcmd
  refine j_aload_n X rfl d_M_perform_0 ?_
  refine g_M_20 X d_M_perform_1 ?_
  refine j_iload_n X rfl d_M_perform_4 ?_
  refine j_iald X (by first | exact okC1 rfl | exact (okCT rfl (by omega))) (fun _ => rfl) rfl (by omega) d_M_perform_5 ?_
  refine j_topi (congrArg iI e22) ?_
  refine j_istore_n X (zlt hn rfl) d_M_perform_6 ?_
  refine j_aload_n X rfl d_M_perform_7 ?_
  refine g_M_23 X d_M_perform_8 ?_
  refine j_iload_n X rfl d_M_perform_11 ?_
  refine j_iald X (by first | exact okC1 rfl | exact (okCT rfl (by omega))) (fun _ => rfl) rfl (by omega) d_M_perform_12 ?_
  refine j_topi (congrArg iI e23) ?_
  refine j_istore_n X (zlt hn rfl) d_M_perform_13 ?_
  refine j_aload_n X rfl d_M_perform_14 ?_
  refine g_M_26 X d_M_perform_15 ?_
  refine j_iload_n X rfl d_M_perform_18 ?_
  refine j_iald X (by first | exact okC1 rfl | exact (okCT rfl (by omega))) (fun _ => rfl) rfl (by omega) d_M_perform_19 ?_
  refine j_topi (congrArg iI e24) ?_
  refine j_istore X (zlt hn rfl) d_M_perform_20 ?_
  refine j_aload_n X rfl d_M_perform_22 ?_
  refine j_iload_n X rfl d_M_perform_23 ?_
  refine j_iconst X d_M_perform_24 ?_
  refine j_iadd X d_M_perform_25 ?_
  refine p_M_120 X d_M_perform_26 ?_
  refine j_iload_n X rfl d_M_perform_29 ?_
  refine j_if_ne X (by omega) d_M_perform_30 (tgt := 41) rfl (fun _ => ?_) (fun h => absurd h (by omega))
  refine j_iload_n X rfl d_M_perform_41 ?_
  refine j_iconst X d_M_perform_42 ?_
  refine j_icmp_ge X (by omega) (by omega) d_M_perform_43 (tgt := 57) rfl (fun h => absurd h (by omega)) (fun _ => ?_)
  refine j_aload_n X rfl d_M_perform_46 ?_
  refine j_iload_n X rfl d_M_perform_47 ?_
  refine j_iload_n X rfl d_M_perform_48 ?_
  refine j_iload X rfl d_M_perform_49 ?_
  refine v_M_153 X hz (hcmd) rfl rfl rfl (Nat.le_of_ble_eq_true rfl) ⟨Nat.le_refl _, Nat.le_refl _⟩ d_M_perform_51 ?_
  refine j_goto X d_M_perform_54 (tgt := 133) rfl ?_
  exact j_vret X Y (Nat.le_refl _) (Nat.le_refl _) d_M_perform_133 ⟨rfl, rfl⟩

set_option maxRecDepth 100000 in
set_option maxHeartbeats 4000000 in
theorem c_M_perform3 (l : Launch) (E : eT) (σ σ' : St) (k a b : Int) (hk : 0 ≤ k ∧ k < 16) (e22 : σ 22 0 k = 3) (e23 : σ 23 0 k = a) (e24 : σ 24 0 k = b) (hcmd : FCon l E y_M_search ws_M_search 5 [.ref (E.2.2.2 18 0), .int (iI 3), .int (iI a), .int (iI b)] (up σ 18 0 19 (k + 1)) none σ') : FCon l E y_M_perform ws_M_perform 6 [.ref (E.2.2.2 18 0), .int (iI k)] σ none σ' := by
  refine con_of (cc := b_M_perform) (nL := 5) (ret := none) (by decide) (Nat.le_of_ble_eq_true rfl) (fun z X Y hn => ?_)
  have X : Cx E z b_M_perform R_M := X
  have hz := Y.2.1
  change J E z 0 0 0 [(0, .ref (E.2.2.2 18 0)), (1, .int (iI k))] [] (cells E σ)
  rw [← Y.1] at hcmd
  refine j_aload_n X rfl d_M_perform_0 ?_
  refine g_M_20 X d_M_perform_1 ?_
  refine j_iload_n X rfl d_M_perform_4 ?_
  refine j_iald X (by first | exact okC1 rfl | exact (okCT rfl (by omega))) (fun _ => rfl) rfl (by omega) d_M_perform_5 ?_
  refine j_topi (congrArg iI e22) ?_
  refine j_istore_n X (zlt hn rfl) d_M_perform_6 ?_
  refine j_aload_n X rfl d_M_perform_7 ?_
  refine g_M_23 X d_M_perform_8 ?_
  refine j_iload_n X rfl d_M_perform_11 ?_
  refine j_iald X (by first | exact okC1 rfl | exact (okCT rfl (by omega))) (fun _ => rfl) rfl (by omega) d_M_perform_12 ?_
  refine j_topi (congrArg iI e23) ?_
  refine j_istore_n X (zlt hn rfl) d_M_perform_13 ?_
  refine j_aload_n X rfl d_M_perform_14 ?_
  refine g_M_26 X d_M_perform_15 ?_
  refine j_iload_n X rfl d_M_perform_18 ?_
  refine j_iald X (by first | exact okC1 rfl | exact (okCT rfl (by omega))) (fun _ => rfl) rfl (by omega) d_M_perform_19 ?_
  refine j_topi (congrArg iI e24) ?_
  refine j_istore X (zlt hn rfl) d_M_perform_20 ?_
  refine j_aload_n X rfl d_M_perform_22 ?_
  refine j_iload_n X rfl d_M_perform_23 ?_
  refine j_iconst X d_M_perform_24 ?_
  refine j_iadd X d_M_perform_25 ?_
  refine p_M_120 X d_M_perform_26 ?_
  refine j_iload_n X rfl d_M_perform_29 ?_
  refine j_if_ne X (by omega) d_M_perform_30 (tgt := 41) rfl (fun _ => ?_) (fun h => absurd h (by omega))
  refine j_iload_n X rfl d_M_perform_41 ?_
  refine j_iconst X d_M_perform_42 ?_
  refine j_icmp_ge X (by omega) (by omega) d_M_perform_43 (tgt := 57) rfl (fun h => absurd h (by omega)) (fun _ => ?_)
  refine j_aload_n X rfl d_M_perform_46 ?_
  refine j_iload_n X rfl d_M_perform_47 ?_
  refine j_iload_n X rfl d_M_perform_48 ?_
  refine j_iload X rfl d_M_perform_49 ?_
  refine v_M_153 X hz (hcmd) rfl rfl rfl (Nat.le_of_ble_eq_true rfl) ⟨Nat.le_refl _, Nat.le_refl _⟩ d_M_perform_51 ?_
  refine j_goto X d_M_perform_54 (tgt := 133) rfl ?_
  exact j_vret X Y (Nat.le_refl _) (Nat.le_refl _) d_M_perform_133 ⟨rfl, rfl⟩

set_option maxRecDepth 100000 in
set_option maxHeartbeats 4000000 in
theorem c_M_perform4 (l : Launch) (E : eT) (σ : St) (k a b : Int) (hk : 0 ≤ k ∧ k < 16) (e22 : σ 22 0 k = 4) (e23 : σ 23 0 k = a) (e24 : σ 24 0 k = b)  : FCon l E y_M_perform ws_M_perform 6 [.ref (E.2.2.2 18 0), .int (iI k)] σ none (up (up σ 18 0 19 (k + 1)) 18 0 19 a) := by
  refine con_of (cc := b_M_perform) (nL := 5) (ret := none) (by decide) (Nat.le_of_ble_eq_true rfl) (fun z X Y hn => ?_)
  have X : Cx E z b_M_perform R_M := X
  have hz := Y.2.1
  change J E z 0 0 0 [(0, .ref (E.2.2.2 18 0)), (1, .int (iI k))] [] (cells E σ)
  refine j_aload_n X rfl d_M_perform_0 ?_
  refine g_M_20 X d_M_perform_1 ?_
  refine j_iload_n X rfl d_M_perform_4 ?_
  refine j_iald X (by first | exact okC1 rfl | exact (okCT rfl (by omega))) (fun _ => rfl) rfl (by omega) d_M_perform_5 ?_
  refine j_topi (congrArg iI e22) ?_
  refine j_istore_n X (zlt hn rfl) d_M_perform_6 ?_
  refine j_aload_n X rfl d_M_perform_7 ?_
  refine g_M_23 X d_M_perform_8 ?_
  refine j_iload_n X rfl d_M_perform_11 ?_
  refine j_iald X (by first | exact okC1 rfl | exact (okCT rfl (by omega))) (fun _ => rfl) rfl (by omega) d_M_perform_12 ?_
  refine j_topi (congrArg iI e23) ?_
  refine j_istore_n X (zlt hn rfl) d_M_perform_13 ?_
  refine j_aload_n X rfl d_M_perform_14 ?_
  refine g_M_26 X d_M_perform_15 ?_
  refine j_iload_n X rfl d_M_perform_18 ?_
  refine j_iald X (by first | exact okC1 rfl | exact (okCT rfl (by omega))) (fun _ => rfl) rfl (by omega) d_M_perform_19 ?_
  refine j_topi (congrArg iI e24) ?_
  refine j_istore X (zlt hn rfl) d_M_perform_20 ?_
  refine j_aload_n X rfl d_M_perform_22 ?_
  refine j_iload_n X rfl d_M_perform_23 ?_
  refine j_iconst X d_M_perform_24 ?_
  refine j_iadd X d_M_perform_25 ?_
  refine p_M_120 X d_M_perform_26 ?_
  refine j_iload_n X rfl d_M_perform_29 ?_
  refine j_if_ne X (by omega) d_M_perform_30 (tgt := 41) rfl (fun _ => ?_) (fun h => absurd h (by omega))
  refine j_iload_n X rfl d_M_perform_41 ?_
  refine j_iconst X d_M_perform_42 ?_
  refine j_icmp_ge X (by omega) (by omega) d_M_perform_43 (tgt := 57) rfl (fun _ => ?_) (fun h => absurd h (by omega))
  refine j_iload_n X rfl d_M_perform_57 ?_
  refine j_iconst X d_M_perform_58 ?_
  refine j_icmp_ne X (by omega) (by omega) d_M_perform_59 (tgt := 70) rfl (fun h => absurd h (by omega)) (fun _ => ?_)
  refine j_aload_n X rfl d_M_perform_62 ?_
  refine j_iload_n X rfl d_M_perform_63 ?_
  refine p_M_120 X d_M_perform_64 ?_
  refine j_goto X d_M_perform_67 (tgt := 133) rfl ?_
  exact j_vret X Y (Nat.le_refl _) (Nat.le_refl _) d_M_perform_133 ⟨rfl, rfl⟩

set_option maxRecDepth 100000 in
set_option maxHeartbeats 4000000 in
theorem c_M_perform5 (l : Launch) (E : eT) (σ σ' : St) (k a b : Int) (hk : 0 ≤ k ∧ k < 16) (e22 : σ 22 0 k = 5) (e23 : σ 23 0 k = a) (e24 : σ 24 0 k = b) (hcmd : FCon l E y_M_readCount ws_M_readCount 5 [.ref (E.2.2.2 18 0), .int (iI a)] (up σ 18 0 19 (k + 1)) none σ') : FCon l E y_M_perform ws_M_perform 6 [.ref (E.2.2.2 18 0), .int (iI k)] σ none σ' := by
  refine con_of (cc := b_M_perform) (nL := 5) (ret := none) (by decide) (Nat.le_of_ble_eq_true rfl) (fun z X Y hn => ?_)
  have X : Cx E z b_M_perform R_M := X
  have hz := Y.2.1
  change J E z 0 0 0 [(0, .ref (E.2.2.2 18 0)), (1, .int (iI k))] [] (cells E σ)
  rw [← Y.1] at hcmd
  refine j_aload_n X rfl d_M_perform_0 ?_
  refine g_M_20 X d_M_perform_1 ?_
  refine j_iload_n X rfl d_M_perform_4 ?_
  refine j_iald X (by first | exact okC1 rfl | exact (okCT rfl (by omega))) (fun _ => rfl) rfl (by omega) d_M_perform_5 ?_
  refine j_topi (congrArg iI e22) ?_
  refine j_istore_n X (zlt hn rfl) d_M_perform_6 ?_
  refine j_aload_n X rfl d_M_perform_7 ?_
  refine g_M_23 X d_M_perform_8 ?_
  refine j_iload_n X rfl d_M_perform_11 ?_
  refine j_iald X (by first | exact okC1 rfl | exact (okCT rfl (by omega))) (fun _ => rfl) rfl (by omega) d_M_perform_12 ?_
  refine j_topi (congrArg iI e23) ?_
  refine j_istore_n X (zlt hn rfl) d_M_perform_13 ?_
  refine j_aload_n X rfl d_M_perform_14 ?_
  refine g_M_26 X d_M_perform_15 ?_
  refine j_iload_n X rfl d_M_perform_18 ?_
  refine j_iald X (by first | exact okC1 rfl | exact (okCT rfl (by omega))) (fun _ => rfl) rfl (by omega) d_M_perform_19 ?_
  refine j_topi (congrArg iI e24) ?_
  refine j_istore X (zlt hn rfl) d_M_perform_20 ?_
  refine j_aload_n X rfl d_M_perform_22 ?_
  refine j_iload_n X rfl d_M_perform_23 ?_
  refine j_iconst X d_M_perform_24 ?_
  refine j_iadd X d_M_perform_25 ?_
  refine p_M_120 X d_M_perform_26 ?_
  refine j_iload_n X rfl d_M_perform_29 ?_
  refine j_if_ne X (by omega) d_M_perform_30 (tgt := 41) rfl (fun _ => ?_) (fun h => absurd h (by omega))
  refine j_iload_n X rfl d_M_perform_41 ?_
  refine j_iconst X d_M_perform_42 ?_
  refine j_icmp_ge X (by omega) (by omega) d_M_perform_43 (tgt := 57) rfl (fun _ => ?_) (fun h => absurd h (by omega))
  refine j_iload_n X rfl d_M_perform_57 ?_
  refine j_iconst X d_M_perform_58 ?_
  refine j_icmp_ne X (by omega) (by omega) d_M_perform_59 (tgt := 70) rfl (fun _ => ?_) (fun h => absurd h (by omega))
  refine j_iload_n X rfl d_M_perform_70 ?_
  refine j_iconst X d_M_perform_71 ?_
  refine j_icmp_ne X (by omega) (by omega) d_M_perform_72 (tgt := 83) rfl (fun h => absurd h (by omega)) (fun _ => ?_)
  refine j_aload_n X rfl d_M_perform_75 ?_
  refine j_iload_n X rfl d_M_perform_76 ?_
  refine v_M_156 X hz (hcmd) rfl rfl rfl (Nat.le_of_ble_eq_true rfl) ⟨Nat.le_refl _, Nat.le_refl _⟩ d_M_perform_77 ?_
  refine j_goto X d_M_perform_80 (tgt := 133) rfl ?_
  exact j_vret X Y (Nat.le_refl _) (Nat.le_refl _) d_M_perform_133 ⟨rfl, rfl⟩

set_option maxRecDepth 100000 in
set_option maxHeartbeats 4000000 in
theorem c_M_perform6 (l : Launch) (E : eT) (σ σ' : St) (k a b : Int) (hk : 0 ≤ k ∧ k < 16) (e22 : σ 22 0 k = 6) (e23 : σ 23 0 k = a) (e24 : σ 24 0 k = b) (hcmd : FCon l E y_M_transfer ws_M_transfer 5 [.ref (E.2.2.2 18 0), .int (iI 6), .int (iI a), .int (iI b)] (up σ 18 0 19 (k + 1)) none σ') : FCon l E y_M_perform ws_M_perform 6 [.ref (E.2.2.2 18 0), .int (iI k)] σ none σ' := by
  refine con_of (cc := b_M_perform) (nL := 5) (ret := none) (by decide) (Nat.le_of_ble_eq_true rfl) (fun z X Y hn => ?_)
  have X : Cx E z b_M_perform R_M := X
  have hz := Y.2.1
  change J E z 0 0 0 [(0, .ref (E.2.2.2 18 0)), (1, .int (iI k))] [] (cells E σ)
  rw [← Y.1] at hcmd
  refine j_aload_n X rfl d_M_perform_0 ?_
  refine g_M_20 X d_M_perform_1 ?_
  refine j_iload_n X rfl d_M_perform_4 ?_
  refine j_iald X (by first | exact okC1 rfl | exact (okCT rfl (by omega))) (fun _ => rfl) rfl (by omega) d_M_perform_5 ?_
  refine j_topi (congrArg iI e22) ?_
  refine j_istore_n X (zlt hn rfl) d_M_perform_6 ?_
  refine j_aload_n X rfl d_M_perform_7 ?_
  refine g_M_23 X d_M_perform_8 ?_
  refine j_iload_n X rfl d_M_perform_11 ?_
  refine j_iald X (by first | exact okC1 rfl | exact (okCT rfl (by omega))) (fun _ => rfl) rfl (by omega) d_M_perform_12 ?_
  refine j_topi (congrArg iI e23) ?_
  refine j_istore_n X (zlt hn rfl) d_M_perform_13 ?_
  refine j_aload_n X rfl d_M_perform_14 ?_
  refine g_M_26 X d_M_perform_15 ?_
  refine j_iload_n X rfl d_M_perform_18 ?_
  refine j_iald X (by first | exact okC1 rfl | exact (okCT rfl (by omega))) (fun _ => rfl) rfl (by omega) d_M_perform_19 ?_
  refine j_topi (congrArg iI e24) ?_
  refine j_istore X (zlt hn rfl) d_M_perform_20 ?_
  refine j_aload_n X rfl d_M_perform_22 ?_
  refine j_iload_n X rfl d_M_perform_23 ?_
  refine j_iconst X d_M_perform_24 ?_
  refine j_iadd X d_M_perform_25 ?_
  refine p_M_120 X d_M_perform_26 ?_
  refine j_iload_n X rfl d_M_perform_29 ?_
  refine j_if_ne X (by omega) d_M_perform_30 (tgt := 41) rfl (fun _ => ?_) (fun h => absurd h (by omega))
  refine j_iload_n X rfl d_M_perform_41 ?_
  refine j_iconst X d_M_perform_42 ?_
  refine j_icmp_ge X (by omega) (by omega) d_M_perform_43 (tgt := 57) rfl (fun _ => ?_) (fun h => absurd h (by omega))
  refine j_iload_n X rfl d_M_perform_57 ?_
  refine j_iconst X d_M_perform_58 ?_
  refine j_icmp_ne X (by omega) (by omega) d_M_perform_59 (tgt := 70) rfl (fun _ => ?_) (fun h => absurd h (by omega))
  refine j_iload_n X rfl d_M_perform_70 ?_
  refine j_iconst X d_M_perform_71 ?_
  refine j_icmp_ne X (by omega) (by omega) d_M_perform_72 (tgt := 83) rfl (fun _ => ?_) (fun h => absurd h (by omega))
  refine j_iload_n X rfl d_M_perform_83 ?_
  refine j_bipush X rfl d_M_perform_84 ?_
  refine j_icmp_ge X (by omega) (by omega) d_M_perform_86 (tgt := 100) rfl (fun h => absurd h (by omega)) (fun _ => ?_)
  refine j_aload_n X rfl d_M_perform_89 ?_
  refine j_iload_n X rfl d_M_perform_90 ?_
  refine j_iload_n X rfl d_M_perform_91 ?_
  refine j_iload X rfl d_M_perform_92 ?_
  refine v_M_159 X hz (hcmd) rfl rfl rfl (Nat.le_of_ble_eq_true rfl) ⟨Nat.le_refl _, Nat.le_refl _⟩ d_M_perform_94 ?_
  refine j_goto X d_M_perform_97 (tgt := 133) rfl ?_
  exact j_vret X Y (Nat.le_refl _) (Nat.le_refl _) d_M_perform_133 ⟨rfl, rfl⟩

set_option maxRecDepth 100000 in
set_option maxHeartbeats 4000000 in
theorem c_M_perform7 (l : Launch) (E : eT) (σ σ' : St) (k a b : Int) (hk : 0 ≤ k ∧ k < 16) (e22 : σ 22 0 k = 7) (e23 : σ 23 0 k = a) (e24 : σ 24 0 k = b) (hcmd : FCon l E y_M_transfer ws_M_transfer 5 [.ref (E.2.2.2 18 0), .int (iI 7), .int (iI a), .int (iI b)] (up σ 18 0 19 (k + 1)) none σ') : FCon l E y_M_perform ws_M_perform 6 [.ref (E.2.2.2 18 0), .int (iI k)] σ none σ' := by
  refine con_of (cc := b_M_perform) (nL := 5) (ret := none) (by decide) (Nat.le_of_ble_eq_true rfl) (fun z X Y hn => ?_)
  have X : Cx E z b_M_perform R_M := X
  have hz := Y.2.1
  change J E z 0 0 0 [(0, .ref (E.2.2.2 18 0)), (1, .int (iI k))] [] (cells E σ)
  rw [← Y.1] at hcmd
  refine j_aload_n X rfl d_M_perform_0 ?_
  refine g_M_20 X d_M_perform_1 ?_
  refine j_iload_n X rfl d_M_perform_4 ?_
  refine j_iald X (by first | exact okC1 rfl | exact (okCT rfl (by omega))) (fun _ => rfl) rfl (by omega) d_M_perform_5 ?_
  refine j_topi (congrArg iI e22) ?_
  refine j_istore_n X (zlt hn rfl) d_M_perform_6 ?_
  refine j_aload_n X rfl d_M_perform_7 ?_
  refine g_M_23 X d_M_perform_8 ?_
  refine j_iload_n X rfl d_M_perform_11 ?_
  refine j_iald X (by first | exact okC1 rfl | exact (okCT rfl (by omega))) (fun _ => rfl) rfl (by omega) d_M_perform_12 ?_
  refine j_topi (congrArg iI e23) ?_
  refine j_istore_n X (zlt hn rfl) d_M_perform_13 ?_
  refine j_aload_n X rfl d_M_perform_14 ?_
  refine g_M_26 X d_M_perform_15 ?_
  refine j_iload_n X rfl d_M_perform_18 ?_
  refine j_iald X (by first | exact okC1 rfl | exact (okCT rfl (by omega))) (fun _ => rfl) rfl (by omega) d_M_perform_19 ?_
  refine j_topi (congrArg iI e24) ?_
  refine j_istore X (zlt hn rfl) d_M_perform_20 ?_
  refine j_aload_n X rfl d_M_perform_22 ?_
  refine j_iload_n X rfl d_M_perform_23 ?_
  refine j_iconst X d_M_perform_24 ?_
  refine j_iadd X d_M_perform_25 ?_
  refine p_M_120 X d_M_perform_26 ?_
  refine j_iload_n X rfl d_M_perform_29 ?_
  refine j_if_ne X (by omega) d_M_perform_30 (tgt := 41) rfl (fun _ => ?_) (fun h => absurd h (by omega))
  refine j_iload_n X rfl d_M_perform_41 ?_
  refine j_iconst X d_M_perform_42 ?_
  refine j_icmp_ge X (by omega) (by omega) d_M_perform_43 (tgt := 57) rfl (fun _ => ?_) (fun h => absurd h (by omega))
  refine j_iload_n X rfl d_M_perform_57 ?_
  refine j_iconst X d_M_perform_58 ?_
  refine j_icmp_ne X (by omega) (by omega) d_M_perform_59 (tgt := 70) rfl (fun _ => ?_) (fun h => absurd h (by omega))
  refine j_iload_n X rfl d_M_perform_70 ?_
  refine j_iconst X d_M_perform_71 ?_
  refine j_icmp_ne X (by omega) (by omega) d_M_perform_72 (tgt := 83) rfl (fun _ => ?_) (fun h => absurd h (by omega))
  refine j_iload_n X rfl d_M_perform_83 ?_
  refine j_bipush X rfl d_M_perform_84 ?_
  refine j_icmp_ge X (by omega) (by omega) d_M_perform_86 (tgt := 100) rfl (fun h => absurd h (by omega)) (fun _ => ?_)
  refine j_aload_n X rfl d_M_perform_89 ?_
  refine j_iload_n X rfl d_M_perform_90 ?_
  refine j_iload_n X rfl d_M_perform_91 ?_
  refine j_iload X rfl d_M_perform_92 ?_
  refine v_M_159 X hz (hcmd) rfl rfl rfl (Nat.le_of_ble_eq_true rfl) ⟨Nat.le_refl _, Nat.le_refl _⟩ d_M_perform_94 ?_
  refine j_goto X d_M_perform_97 (tgt := 133) rfl ?_
  exact j_vret X Y (Nat.le_refl _) (Nat.le_refl _) d_M_perform_133 ⟨rfl, rfl⟩

set_option maxRecDepth 100000 in
set_option maxHeartbeats 4000000 in
theorem c_M_perform8 (l : Launch) (E : eT) (σ σ' : St) (k a b : Int) (hk : 0 ≤ k ∧ k < 16) (e22 : σ 22 0 k = 8) (e23 : σ 23 0 k = a) (e24 : σ 24 0 k = b) (hcmd : FCon l E y_M_transfer ws_M_transfer 5 [.ref (E.2.2.2 18 0), .int (iI 8), .int (iI a), .int (iI b)] (up σ 18 0 19 (k + 1)) none σ') : FCon l E y_M_perform ws_M_perform 6 [.ref (E.2.2.2 18 0), .int (iI k)] σ none σ' := by
  refine con_of (cc := b_M_perform) (nL := 5) (ret := none) (by decide) (Nat.le_of_ble_eq_true rfl) (fun z X Y hn => ?_)
  have X : Cx E z b_M_perform R_M := X
  have hz := Y.2.1
  change J E z 0 0 0 [(0, .ref (E.2.2.2 18 0)), (1, .int (iI k))] [] (cells E σ)
  rw [← Y.1] at hcmd
  refine j_aload_n X rfl d_M_perform_0 ?_
  refine g_M_20 X d_M_perform_1 ?_
  refine j_iload_n X rfl d_M_perform_4 ?_
  refine j_iald X (by first | exact okC1 rfl | exact (okCT rfl (by omega))) (fun _ => rfl) rfl (by omega) d_M_perform_5 ?_
  refine j_topi (congrArg iI e22) ?_
  refine j_istore_n X (zlt hn rfl) d_M_perform_6 ?_
  refine j_aload_n X rfl d_M_perform_7 ?_
  refine g_M_23 X d_M_perform_8 ?_
  refine j_iload_n X rfl d_M_perform_11 ?_
  refine j_iald X (by first | exact okC1 rfl | exact (okCT rfl (by omega))) (fun _ => rfl) rfl (by omega) d_M_perform_12 ?_
  refine j_topi (congrArg iI e23) ?_
  refine j_istore_n X (zlt hn rfl) d_M_perform_13 ?_
  refine j_aload_n X rfl d_M_perform_14 ?_
  refine g_M_26 X d_M_perform_15 ?_
  refine j_iload_n X rfl d_M_perform_18 ?_
  refine j_iald X (by first | exact okC1 rfl | exact (okCT rfl (by omega))) (fun _ => rfl) rfl (by omega) d_M_perform_19 ?_
  refine j_topi (congrArg iI e24) ?_
  refine j_istore X (zlt hn rfl) d_M_perform_20 ?_
  refine j_aload_n X rfl d_M_perform_22 ?_
  refine j_iload_n X rfl d_M_perform_23 ?_
  refine j_iconst X d_M_perform_24 ?_
  refine j_iadd X d_M_perform_25 ?_
  refine p_M_120 X d_M_perform_26 ?_
  refine j_iload_n X rfl d_M_perform_29 ?_
  refine j_if_ne X (by omega) d_M_perform_30 (tgt := 41) rfl (fun _ => ?_) (fun h => absurd h (by omega))
  refine j_iload_n X rfl d_M_perform_41 ?_
  refine j_iconst X d_M_perform_42 ?_
  refine j_icmp_ge X (by omega) (by omega) d_M_perform_43 (tgt := 57) rfl (fun _ => ?_) (fun h => absurd h (by omega))
  refine j_iload_n X rfl d_M_perform_57 ?_
  refine j_iconst X d_M_perform_58 ?_
  refine j_icmp_ne X (by omega) (by omega) d_M_perform_59 (tgt := 70) rfl (fun _ => ?_) (fun h => absurd h (by omega))
  refine j_iload_n X rfl d_M_perform_70 ?_
  refine j_iconst X d_M_perform_71 ?_
  refine j_icmp_ne X (by omega) (by omega) d_M_perform_72 (tgt := 83) rfl (fun _ => ?_) (fun h => absurd h (by omega))
  refine j_iload_n X rfl d_M_perform_83 ?_
  refine j_bipush X rfl d_M_perform_84 ?_
  refine j_icmp_ge X (by omega) (by omega) d_M_perform_86 (tgt := 100) rfl (fun h => absurd h (by omega)) (fun _ => ?_)
  refine j_aload_n X rfl d_M_perform_89 ?_
  refine j_iload_n X rfl d_M_perform_90 ?_
  refine j_iload_n X rfl d_M_perform_91 ?_
  refine j_iload X rfl d_M_perform_92 ?_
  refine v_M_159 X hz (hcmd) rfl rfl rfl (Nat.le_of_ble_eq_true rfl) ⟨Nat.le_refl _, Nat.le_refl _⟩ d_M_perform_94 ?_
  refine j_goto X d_M_perform_97 (tgt := 133) rfl ?_
  exact j_vret X Y (Nat.le_refl _) (Nat.le_refl _) d_M_perform_133 ⟨rfl, rfl⟩

set_option maxRecDepth 100000 in
set_option maxHeartbeats 4000000 in
theorem c_M_perform9 (l : Launch) (E : eT) (σ σ' : St) (k a b : Int) (hk : 0 ≤ k ∧ k < 16) (e22 : σ 22 0 k = 9) (e23 : σ 23 0 k = a) (e24 : σ 24 0 k = b) (hcmd : FCon l E y_M_writeRecord ws_M_writeRecord 5 [.ref (E.2.2.2 18 0), .int (iI a)] (up σ 18 0 19 (k + 1)) none σ') : FCon l E y_M_perform ws_M_perform 6 [.ref (E.2.2.2 18 0), .int (iI k)] σ none σ' := by
  refine con_of (cc := b_M_perform) (nL := 5) (ret := none) (by decide) (Nat.le_of_ble_eq_true rfl) (fun z X Y hn => ?_)
  have X : Cx E z b_M_perform R_M := X
  have hz := Y.2.1
  change J E z 0 0 0 [(0, .ref (E.2.2.2 18 0)), (1, .int (iI k))] [] (cells E σ)
  rw [← Y.1] at hcmd
  refine j_aload_n X rfl d_M_perform_0 ?_
  refine g_M_20 X d_M_perform_1 ?_
  refine j_iload_n X rfl d_M_perform_4 ?_
  refine j_iald X (by first | exact okC1 rfl | exact (okCT rfl (by omega))) (fun _ => rfl) rfl (by omega) d_M_perform_5 ?_
  refine j_topi (congrArg iI e22) ?_
  refine j_istore_n X (zlt hn rfl) d_M_perform_6 ?_
  refine j_aload_n X rfl d_M_perform_7 ?_
  refine g_M_23 X d_M_perform_8 ?_
  refine j_iload_n X rfl d_M_perform_11 ?_
  refine j_iald X (by first | exact okC1 rfl | exact (okCT rfl (by omega))) (fun _ => rfl) rfl (by omega) d_M_perform_12 ?_
  refine j_topi (congrArg iI e23) ?_
  refine j_istore_n X (zlt hn rfl) d_M_perform_13 ?_
  refine j_aload_n X rfl d_M_perform_14 ?_
  refine g_M_26 X d_M_perform_15 ?_
  refine j_iload_n X rfl d_M_perform_18 ?_
  refine j_iald X (by first | exact okC1 rfl | exact (okCT rfl (by omega))) (fun _ => rfl) rfl (by omega) d_M_perform_19 ?_
  refine j_topi (congrArg iI e24) ?_
  refine j_istore X (zlt hn rfl) d_M_perform_20 ?_
  refine j_aload_n X rfl d_M_perform_22 ?_
  refine j_iload_n X rfl d_M_perform_23 ?_
  refine j_iconst X d_M_perform_24 ?_
  refine j_iadd X d_M_perform_25 ?_
  refine p_M_120 X d_M_perform_26 ?_
  refine j_iload_n X rfl d_M_perform_29 ?_
  refine j_if_ne X (by omega) d_M_perform_30 (tgt := 41) rfl (fun _ => ?_) (fun h => absurd h (by omega))
  refine j_iload_n X rfl d_M_perform_41 ?_
  refine j_iconst X d_M_perform_42 ?_
  refine j_icmp_ge X (by omega) (by omega) d_M_perform_43 (tgt := 57) rfl (fun _ => ?_) (fun h => absurd h (by omega))
  refine j_iload_n X rfl d_M_perform_57 ?_
  refine j_iconst X d_M_perform_58 ?_
  refine j_icmp_ne X (by omega) (by omega) d_M_perform_59 (tgt := 70) rfl (fun _ => ?_) (fun h => absurd h (by omega))
  refine j_iload_n X rfl d_M_perform_70 ?_
  refine j_iconst X d_M_perform_71 ?_
  refine j_icmp_ne X (by omega) (by omega) d_M_perform_72 (tgt := 83) rfl (fun _ => ?_) (fun h => absurd h (by omega))
  refine j_iload_n X rfl d_M_perform_83 ?_
  refine j_bipush X rfl d_M_perform_84 ?_
  refine j_icmp_ge X (by omega) (by omega) d_M_perform_86 (tgt := 100) rfl (fun _ => ?_) (fun h => absurd h (by omega))
  refine j_iload_n X rfl d_M_perform_100 ?_
  refine j_bipush X rfl d_M_perform_101 ?_
  refine j_icmp_ne X (by omega) (by omega) d_M_perform_103 (tgt := 114) rfl (fun h => absurd h (by omega)) (fun _ => ?_)
  refine j_aload_n X rfl d_M_perform_106 ?_
  refine j_iload_n X rfl d_M_perform_107 ?_
  refine v_M_162 X hz (hcmd) rfl rfl rfl (Nat.le_of_ble_eq_true rfl) ⟨Nat.le_refl _, Nat.le_refl _⟩ d_M_perform_108 ?_
  refine j_goto X d_M_perform_111 (tgt := 133) rfl ?_
  exact j_vret X Y (Nat.le_refl _) (Nat.le_refl _) d_M_perform_133 ⟨rfl, rfl⟩

set_option maxRecDepth 100000 in
set_option maxHeartbeats 4000000 in
theorem c_M_perform10 (l : Launch) (E : eT) (σ σ' : St) (k a b : Int) (hk : 0 ≤ k ∧ k < 16) (e22 : σ 22 0 k = 10) (e23 : σ 23 0 k = a) (e24 : σ 24 0 k = b) (hcmd : FCon l E y_M_erase ws_M_erase 4 [.ref (E.2.2.2 18 0)] (up σ 18 0 19 (k + 1)) none σ') : FCon l E y_M_perform ws_M_perform 6 [.ref (E.2.2.2 18 0), .int (iI k)] σ none σ' := by
  refine con_of (cc := b_M_perform) (nL := 5) (ret := none) (by decide) (Nat.le_of_ble_eq_true rfl) (fun z X Y hn => ?_)
  have X : Cx E z b_M_perform R_M := X
  have hz := Y.2.1
  change J E z 0 0 0 [(0, .ref (E.2.2.2 18 0)), (1, .int (iI k))] [] (cells E σ)
  rw [← Y.1] at hcmd
  refine j_aload_n X rfl d_M_perform_0 ?_
  refine g_M_20 X d_M_perform_1 ?_
  refine j_iload_n X rfl d_M_perform_4 ?_
  refine j_iald X (by first | exact okC1 rfl | exact (okCT rfl (by omega))) (fun _ => rfl) rfl (by omega) d_M_perform_5 ?_
  refine j_topi (congrArg iI e22) ?_
  refine j_istore_n X (zlt hn rfl) d_M_perform_6 ?_
  refine j_aload_n X rfl d_M_perform_7 ?_
  refine g_M_23 X d_M_perform_8 ?_
  refine j_iload_n X rfl d_M_perform_11 ?_
  refine j_iald X (by first | exact okC1 rfl | exact (okCT rfl (by omega))) (fun _ => rfl) rfl (by omega) d_M_perform_12 ?_
  refine j_topi (congrArg iI e23) ?_
  refine j_istore_n X (zlt hn rfl) d_M_perform_13 ?_
  refine j_aload_n X rfl d_M_perform_14 ?_
  refine g_M_26 X d_M_perform_15 ?_
  refine j_iload_n X rfl d_M_perform_18 ?_
  refine j_iald X (by first | exact okC1 rfl | exact (okCT rfl (by omega))) (fun _ => rfl) rfl (by omega) d_M_perform_19 ?_
  refine j_topi (congrArg iI e24) ?_
  refine j_istore X (zlt hn rfl) d_M_perform_20 ?_
  refine j_aload_n X rfl d_M_perform_22 ?_
  refine j_iload_n X rfl d_M_perform_23 ?_
  refine j_iconst X d_M_perform_24 ?_
  refine j_iadd X d_M_perform_25 ?_
  refine p_M_120 X d_M_perform_26 ?_
  refine j_iload_n X rfl d_M_perform_29 ?_
  refine j_if_ne X (by omega) d_M_perform_30 (tgt := 41) rfl (fun _ => ?_) (fun h => absurd h (by omega))
  refine j_iload_n X rfl d_M_perform_41 ?_
  refine j_iconst X d_M_perform_42 ?_
  refine j_icmp_ge X (by omega) (by omega) d_M_perform_43 (tgt := 57) rfl (fun _ => ?_) (fun h => absurd h (by omega))
  refine j_iload_n X rfl d_M_perform_57 ?_
  refine j_iconst X d_M_perform_58 ?_
  refine j_icmp_ne X (by omega) (by omega) d_M_perform_59 (tgt := 70) rfl (fun _ => ?_) (fun h => absurd h (by omega))
  refine j_iload_n X rfl d_M_perform_70 ?_
  refine j_iconst X d_M_perform_71 ?_
  refine j_icmp_ne X (by omega) (by omega) d_M_perform_72 (tgt := 83) rfl (fun _ => ?_) (fun h => absurd h (by omega))
  refine j_iload_n X rfl d_M_perform_83 ?_
  refine j_bipush X rfl d_M_perform_84 ?_
  refine j_icmp_ge X (by omega) (by omega) d_M_perform_86 (tgt := 100) rfl (fun _ => ?_) (fun h => absurd h (by omega))
  refine j_iload_n X rfl d_M_perform_100 ?_
  refine j_bipush X rfl d_M_perform_101 ?_
  refine j_icmp_ne X (by omega) (by omega) d_M_perform_103 (tgt := 114) rfl (fun _ => ?_) (fun h => absurd h (by omega))
  refine j_iload_n X rfl d_M_perform_114 ?_
  refine j_bipush X rfl d_M_perform_115 ?_
  refine j_icmp_ne X (by omega) (by omega) d_M_perform_117 (tgt := 127) rfl (fun h => absurd h (by omega)) (fun _ => ?_)
  refine j_aload_n X rfl d_M_perform_120 ?_
  refine v_M_165 X hz (hcmd) rfl rfl rfl (Nat.le_of_ble_eq_true rfl) ⟨Nat.le_refl _, Nat.le_refl _⟩ d_M_perform_121 ?_
  refine j_goto X d_M_perform_124 (tgt := 133) rfl ?_
  exact j_vret X Y (Nat.le_refl _) (Nat.le_refl _) d_M_perform_133 ⟨rfl, rfl⟩

set_option maxRecDepth 100000 in
set_option maxHeartbeats 4000000 in
theorem c_M_perform11 (l : Launch) (E : eT) (σ σ' : St) (k a b : Int) (hk : 0 ≤ k ∧ k < 16) (e22 : σ 22 0 k = 11) (e23 : σ 23 0 k = a) (e24 : σ 24 0 k = b) (hcmd : FCon l E y_M_skip ws_M_skip 2 [.ref (E.2.2.2 18 0), .int (iI b)] (up σ 18 0 19 (k + 1)) none σ') : FCon l E y_M_perform ws_M_perform 6 [.ref (E.2.2.2 18 0), .int (iI k)] σ none σ' := by
  refine con_of (cc := b_M_perform) (nL := 5) (ret := none) (by decide) (Nat.le_of_ble_eq_true rfl) (fun z X Y hn => ?_)
  have X : Cx E z b_M_perform R_M := X
  have hz := Y.2.1
  change J E z 0 0 0 [(0, .ref (E.2.2.2 18 0)), (1, .int (iI k))] [] (cells E σ)
  rw [← Y.1] at hcmd
  refine j_aload_n X rfl d_M_perform_0 ?_
  refine g_M_20 X d_M_perform_1 ?_
  refine j_iload_n X rfl d_M_perform_4 ?_
  refine j_iald X (by first | exact okC1 rfl | exact (okCT rfl (by omega))) (fun _ => rfl) rfl (by omega) d_M_perform_5 ?_
  refine j_topi (congrArg iI e22) ?_
  refine j_istore_n X (zlt hn rfl) d_M_perform_6 ?_
  refine j_aload_n X rfl d_M_perform_7 ?_
  refine g_M_23 X d_M_perform_8 ?_
  refine j_iload_n X rfl d_M_perform_11 ?_
  refine j_iald X (by first | exact okC1 rfl | exact (okCT rfl (by omega))) (fun _ => rfl) rfl (by omega) d_M_perform_12 ?_
  refine j_topi (congrArg iI e23) ?_
  refine j_istore_n X (zlt hn rfl) d_M_perform_13 ?_
  refine j_aload_n X rfl d_M_perform_14 ?_
  refine g_M_26 X d_M_perform_15 ?_
  refine j_iload_n X rfl d_M_perform_18 ?_
  refine j_iald X (by first | exact okC1 rfl | exact (okCT rfl (by omega))) (fun _ => rfl) rfl (by omega) d_M_perform_19 ?_
  refine j_topi (congrArg iI e24) ?_
  refine j_istore X (zlt hn rfl) d_M_perform_20 ?_
  refine j_aload_n X rfl d_M_perform_22 ?_
  refine j_iload_n X rfl d_M_perform_23 ?_
  refine j_iconst X d_M_perform_24 ?_
  refine j_iadd X d_M_perform_25 ?_
  refine p_M_120 X d_M_perform_26 ?_
  refine j_iload_n X rfl d_M_perform_29 ?_
  refine j_if_ne X (by omega) d_M_perform_30 (tgt := 41) rfl (fun _ => ?_) (fun h => absurd h (by omega))
  refine j_iload_n X rfl d_M_perform_41 ?_
  refine j_iconst X d_M_perform_42 ?_
  refine j_icmp_ge X (by omega) (by omega) d_M_perform_43 (tgt := 57) rfl (fun _ => ?_) (fun h => absurd h (by omega))
  refine j_iload_n X rfl d_M_perform_57 ?_
  refine j_iconst X d_M_perform_58 ?_
  refine j_icmp_ne X (by omega) (by omega) d_M_perform_59 (tgt := 70) rfl (fun _ => ?_) (fun h => absurd h (by omega))
  refine j_iload_n X rfl d_M_perform_70 ?_
  refine j_iconst X d_M_perform_71 ?_
  refine j_icmp_ne X (by omega) (by omega) d_M_perform_72 (tgt := 83) rfl (fun _ => ?_) (fun h => absurd h (by omega))
  refine j_iload_n X rfl d_M_perform_83 ?_
  refine j_bipush X rfl d_M_perform_84 ?_
  refine j_icmp_ge X (by omega) (by omega) d_M_perform_86 (tgt := 100) rfl (fun _ => ?_) (fun h => absurd h (by omega))
  refine j_iload_n X rfl d_M_perform_100 ?_
  refine j_bipush X rfl d_M_perform_101 ?_
  refine j_icmp_ne X (by omega) (by omega) d_M_perform_103 (tgt := 114) rfl (fun _ => ?_) (fun h => absurd h (by omega))
  refine j_iload_n X rfl d_M_perform_114 ?_
  refine j_bipush X rfl d_M_perform_115 ?_
  refine j_icmp_ne X (by omega) (by omega) d_M_perform_117 (tgt := 127) rfl (fun _ => ?_) (fun h => absurd h (by omega))
  refine j_aload_n X rfl d_M_perform_127 ?_
  refine j_iload X rfl d_M_perform_128 ?_
  refine v_M_168 X hz (hcmd) rfl rfl rfl (Nat.le_of_ble_eq_true rfl) ⟨Nat.le_refl _, Nat.le_refl _⟩ d_M_perform_130 ?_
  exact j_vret X Y (Nat.le_refl _) (Nat.le_refl _) d_M_perform_133 ⟨rfl, rfl⟩

theorem ro_k {μ σ σ1 σ' : St} {s : Int} (h : RO μ s σ1 σ') (hk : KC σ σ1) (he : σ1 18 0 12 = σ 18 0 12) : RO μ s σ σ' := ⟨h.1, h.2.1, h.2.2.1, kc_t hk h.2.2.2.1, h.2.2.2.2.1.trans he, h.2.2.2.2.2⟩
theorem x_M_perform {l : Launch} {E : eT} {μ σ : St} {k : Int} (h : RR μ σ) (hv : σ 18 0 18 = 0) (h80 : 0 ≤ μ 15 0 8) (hk : 0 ≤ k ∧ k < 16) (h9 : μ 15 0 9 = k + 1) (hc : clW μ) (hT : μ 14 0 1 + 3000 ≤ 1000000000) (hp : pfP μ k) : ∃ σ', FCon l E y_M_perform ws_M_perform 6 [.ref (E.2.2.2 18 0), .int (iI k)] σ none σ' ∧ RO (pfS μ k) (pfV μ k) σ σ' := by
  obtain ⟨p0, p2, p4, p5, p6, p9, p11⟩ := hp
  have hg := hc.2.2.2.2.1.2 k hk.1 hk.2
  have h1 : RP μ (up σ 18 0 19 (k + 1)) := ⟨h, h9.symm, hv, h80⟩
  have e23 := (h.1.2.1.2 k hk.1 hk.2).2.1
  have e24 := (h.1.2.1.2 k hk.1 hk.2).2.2
  have e22 := (h.1.2.1.2 k hk.1 hk.2).1
  have ra := hc.1 12 0 k
  rcases (show μ 11 0 k = 0 ∨ μ 11 0 k = 1 ∨ μ 11 0 k = 2 ∨ μ 11 0 k = 3 ∨ μ 11 0 k = 4 ∨ μ 11 0 k = 5 ∨ μ 11 0 k = 6 ∨ μ 11 0 k = 7 ∨ μ 11 0 k = 8 ∨ μ 11 0 k = 9 ∨ μ 11 0 k = 10 ∨ μ 11 0 k = 11 by omega) with hK | hK | hK | hK | hK | hK | hK | hK | hK | hK | hK | hK
  · have eP : pfS μ k = skS μ (μ 12 0 k) := by unfold pfS; rw [hK, if_pos rfl]
    have eV : pfV μ k = 0 := by unfold pfV; rw [hK, if_pos rfl]
    rw [eP, eV]
    obtain ⟨σ', hf, hr⟩ := x_M_seek (l := l) (E := E) h1 hc hT (p0 hK)
    exact ⟨σ', c_M_perform0 l E σ σ' k _ _ hk (e22.trans hK) e23 e24 hf, ro_k hr (kc_18 _ _ _) rfl⟩
  · have eP : pfS μ k = snS μ (μ 12 0 k) := by unfold pfS; rw [hK, if_neg (show ¬ (1 : Int) = 0 by decide), if_pos rfl]
    have eV : pfV μ k = snV μ := by unfold pfV; rw [hK, if_neg (show ¬ (1 : Int) = 0 by decide), if_pos rfl]
    rw [eP, eV]
    obtain ⟨σ', hf, hr⟩ := x_M_search1 (b := μ 13 0 k) (l := l) (E := E) h1 hc hT ra
    exact ⟨σ', c_M_perform1 l E σ σ' k _ _ hk (e22.trans hK) e23 e24 hf, ro_k hr (kc_18 _ _ _) rfl⟩
  · have eP : pfS μ k = kyS μ (μ 12 0 k) (μ 13 0 k) false := by unfold pfS; rw [hK, if_neg (show ¬ (2 : Int) = 0 by decide), if_neg (show ¬ (2 : Int) = 1 by decide), if_pos rfl]
    have eV : pfV μ k = kyV μ := by unfold pfV; rw [hK, if_neg (show ¬ (2 : Int) = 0 by decide), if_neg (show ¬ (2 : Int) = 1 by decide), if_pos rfl]
    rw [eP, eV]
    obtain ⟨σ', hf, hr⟩ := x_M_search23 (l := l) (E := E) h1 hc hT (p2 (Or.inl hK)).1 (p2 (Or.inl hK)).2 false
    exact ⟨σ', c_M_perform2 l E σ σ' k _ _ hk (e22.trans hK) e23 e24 hf, ro_k hr (kc_18 _ _ _) rfl⟩
  · have eP : pfS μ k = kyS μ (μ 12 0 k) (μ 13 0 k) true := by unfold pfS; rw [hK, if_neg (show ¬ (3 : Int) = 0 by decide), if_neg (show ¬ (3 : Int) = 1 by decide), if_neg (show ¬ (3 : Int) = 2 by decide), if_pos rfl]
    have eV : pfV μ k = kyV μ := by unfold pfV; rw [hK, if_neg (show ¬ (3 : Int) = 0 by decide), if_neg (show ¬ (3 : Int) = 1 by decide), if_neg (show ¬ (3 : Int) = 2 by decide), if_pos rfl]
    rw [eP, eV]
    obtain ⟨σ', hf, hr⟩ := x_M_search23 (l := l) (E := E) h1 hc hT (p2 (Or.inr hK)).1 (p2 (Or.inr hK)).2 true
    exact ⟨σ', c_M_perform3 l E σ σ' k _ _ hk (e22.trans hK) e23 e24 hf, ro_k hr (kc_18 _ _ _) rfl⟩
  · have eP : pfS μ k = up μ 15 0 9 (μ 12 0 k) := by unfold pfS; rw [hK, if_neg (show ¬ (4 : Int) = 0 by decide), if_neg (show ¬ (4 : Int) = 1 by decide), if_neg (show ¬ (4 : Int) = 2 by decide), if_neg (show ¬ (4 : Int) = 3 by decide), if_pos rfl]
    have eV : pfV μ k = 0 := by unfold pfV; rw [hK, if_neg (show ¬ (4 : Int) = 0 by decide), if_neg (show ¬ (4 : Int) = 1 by decide), if_neg (show ¬ (4 : Int) = 2 by decide), if_neg (show ¬ (4 : Int) = 3 by decide), if_pos rfl]
    rw [eP, eV]
    exact ⟨_, c_M_perform4 l E σ k _ _ hk (e22.trans hK) e23 e24, h, rfl, hv, kc_t (kc_18 _ _ _) (kc_18 _ _ _), rfl, h80⟩
  · have eP : pfS μ k = rcS μ (μ 12 0 k) := by unfold pfS; rw [hK, if_neg (show ¬ (5 : Int) = 0 by decide), if_neg (show ¬ (5 : Int) = 1 by decide), if_neg (show ¬ (5 : Int) = 2 by decide), if_neg (show ¬ (5 : Int) = 3 by decide), if_neg (show ¬ (5 : Int) = 4 by decide), if_pos rfl]
    have eV : pfV μ k = rcV μ := by unfold pfV; rw [hK, if_neg (show ¬ (5 : Int) = 0 by decide), if_neg (show ¬ (5 : Int) = 1 by decide), if_neg (show ¬ (5 : Int) = 2 by decide), if_neg (show ¬ (5 : Int) = 3 by decide), if_neg (show ¬ (5 : Int) = 4 by decide), if_pos rfl]
    rw [eP, eV]
    obtain ⟨σ', hf, hr⟩ := x_M_readCount (l := l) (E := E) h1 hc hT (p5 hK)
    exact ⟨σ', c_M_perform5 l E σ σ' k _ _ hk (e22.trans hK) e23 e24 hf, ro_k hr (kc_18 _ _ _) rfl⟩
  · have eP : pfS μ k = rpS μ 2 (μ 12 0 k) (μ 13 0 k) := by unfold pfS; rw [hK, if_neg (show ¬ (6 : Int) = 0 by decide), if_neg (show ¬ (6 : Int) = 1 by decide), if_neg (show ¬ (6 : Int) = 2 by decide), if_neg (show ¬ (6 : Int) = 3 by decide), if_neg (show ¬ (6 : Int) = 4 by decide), if_neg (show ¬ (6 : Int) = 5 by decide), if_pos rfl]
    have eV : pfV μ k = rpV μ 2 (μ 13 0 k) := by unfold pfV; rw [hK, if_neg (show ¬ (6 : Int) = 0 by decide), if_neg (show ¬ (6 : Int) = 1 by decide), if_neg (show ¬ (6 : Int) = 2 by decide), if_neg (show ¬ (6 : Int) = 3 by decide), if_neg (show ¬ (6 : Int) = 4 by decide), if_neg (show ¬ (6 : Int) = 5 by decide), if_pos rfl]
    rw [eP, eV]
    obtain ⟨σ', hf, hr⟩ := x_M_tr6 (l := l) (E := E) h1 hc hT (p6 (Or.inl hK)).1 (p6 (Or.inl hK)).2
    exact ⟨σ', c_M_perform6 l E σ σ' k _ _ hk (e22.trans hK) e23 e24 hf, ro_k hr (kc_18 _ _ _) rfl⟩
  · have eP : pfS μ k = rpS μ 3 (μ 12 0 k) (μ 13 0 k) := by unfold pfS; rw [hK, if_neg (show ¬ (7 : Int) = 0 by decide), if_neg (show ¬ (7 : Int) = 1 by decide), if_neg (show ¬ (7 : Int) = 2 by decide), if_neg (show ¬ (7 : Int) = 3 by decide), if_neg (show ¬ (7 : Int) = 4 by decide), if_neg (show ¬ (7 : Int) = 5 by decide), if_neg (show ¬ (7 : Int) = 6 by decide), if_pos rfl]
    have eV : pfV μ k = rpV μ 3 (μ 13 0 k) := by unfold pfV; rw [hK, if_neg (show ¬ (7 : Int) = 0 by decide), if_neg (show ¬ (7 : Int) = 1 by decide), if_neg (show ¬ (7 : Int) = 2 by decide), if_neg (show ¬ (7 : Int) = 3 by decide), if_neg (show ¬ (7 : Int) = 4 by decide), if_neg (show ¬ (7 : Int) = 5 by decide), if_neg (show ¬ (7 : Int) = 6 by decide), if_pos rfl]
    rw [eP, eV]
    obtain ⟨σ', hf, hr⟩ := x_M_tr7 (l := l) (E := E) h1 hc hT (p6 (Or.inr (Or.inl hK))).1 (p6 (Or.inr (Or.inl hK))).2
    exact ⟨σ', c_M_perform7 l E σ σ' k _ _ hk (e22.trans hK) e23 e24 hf, ro_k hr (kc_18 _ _ _) rfl⟩
  · have eP : pfS μ k = wdS μ (μ 12 0 k) (μ 13 0 k) := by unfold pfS; rw [hK, if_neg (show ¬ (8 : Int) = 0 by decide), if_neg (show ¬ (8 : Int) = 1 by decide), if_neg (show ¬ (8 : Int) = 2 by decide), if_neg (show ¬ (8 : Int) = 3 by decide), if_neg (show ¬ (8 : Int) = 4 by decide), if_neg (show ¬ (8 : Int) = 5 by decide), if_neg (show ¬ (8 : Int) = 6 by decide), if_neg (show ¬ (8 : Int) = 7 by decide), if_pos rfl]
    have eV : pfV μ k = wdV μ (μ 13 0 k) := by unfold pfV; rw [hK, if_neg (show ¬ (8 : Int) = 0 by decide), if_neg (show ¬ (8 : Int) = 1 by decide), if_neg (show ¬ (8 : Int) = 2 by decide), if_neg (show ¬ (8 : Int) = 3 by decide), if_neg (show ¬ (8 : Int) = 4 by decide), if_neg (show ¬ (8 : Int) = 5 by decide), if_neg (show ¬ (8 : Int) = 6 by decide), if_neg (show ¬ (8 : Int) = 7 by decide), if_pos rfl]
    rw [eP, eV]
    obtain ⟨σ', hf, hr⟩ := x_M_tr8 (l := l) (E := E) h1 hc hT (p6 (Or.inr (Or.inr hK))).1 (p6 (Or.inr (Or.inr hK))).2
    exact ⟨σ', c_M_perform8 l E σ σ' k _ _ hk (e22.trans hK) e23 e24 hf, ro_k hr (kc_18 _ _ _) rfl⟩
  · have eP : pfS μ k = weS μ (μ 12 0 k) := by unfold pfS; rw [hK, if_neg (show ¬ (9 : Int) = 0 by decide), if_neg (show ¬ (9 : Int) = 1 by decide), if_neg (show ¬ (9 : Int) = 2 by decide), if_neg (show ¬ (9 : Int) = 3 by decide), if_neg (show ¬ (9 : Int) = 4 by decide), if_neg (show ¬ (9 : Int) = 5 by decide), if_neg (show ¬ (9 : Int) = 6 by decide), if_neg (show ¬ (9 : Int) = 7 by decide), if_neg (show ¬ (9 : Int) = 8 by decide), if_pos rfl]
    have eV : pfV μ k = weV μ (μ 12 0 k) := by unfold pfV; rw [hK, if_neg (show ¬ (9 : Int) = 0 by decide), if_neg (show ¬ (9 : Int) = 1 by decide), if_neg (show ¬ (9 : Int) = 2 by decide), if_neg (show ¬ (9 : Int) = 3 by decide), if_neg (show ¬ (9 : Int) = 4 by decide), if_neg (show ¬ (9 : Int) = 5 by decide), if_neg (show ¬ (9 : Int) = 6 by decide), if_neg (show ¬ (9 : Int) = 7 by decide), if_neg (show ¬ (9 : Int) = 8 by decide), if_pos rfl]
    rw [eP, eV]
    obtain ⟨σ', hf, hr⟩ := x_M_writeRecord (l := l) (E := E) h1 hc hT (p9 hK)
    exact ⟨σ', c_M_perform9 l E σ σ' k _ _ hk (e22.trans hK) e23 e24 hf, ro_k hr (kc_18 _ _ _) rfl⟩
  · have eP : pfS μ k = erS μ := by unfold pfS; rw [hK, if_neg (show ¬ (10 : Int) = 0 by decide), if_neg (show ¬ (10 : Int) = 1 by decide), if_neg (show ¬ (10 : Int) = 2 by decide), if_neg (show ¬ (10 : Int) = 3 by decide), if_neg (show ¬ (10 : Int) = 4 by decide), if_neg (show ¬ (10 : Int) = 5 by decide), if_neg (show ¬ (10 : Int) = 6 by decide), if_neg (show ¬ (10 : Int) = 7 by decide), if_neg (show ¬ (10 : Int) = 8 by decide), if_neg (show ¬ (10 : Int) = 9 by decide), if_pos rfl]
    have eV : pfV μ k = 0 := by unfold pfV; rw [hK, if_neg (show ¬ (10 : Int) = 0 by decide), if_neg (show ¬ (10 : Int) = 1 by decide), if_neg (show ¬ (10 : Int) = 2 by decide), if_neg (show ¬ (10 : Int) = 3 by decide), if_neg (show ¬ (10 : Int) = 4 by decide), if_neg (show ¬ (10 : Int) = 5 by decide), if_neg (show ¬ (10 : Int) = 6 by decide), if_neg (show ¬ (10 : Int) = 7 by decide), if_neg (show ¬ (10 : Int) = 8 by decide), if_neg (show ¬ (10 : Int) = 9 by decide), if_pos rfl]
    rw [eP, eV]
    obtain ⟨σ', hf, hr⟩ := x_M_erase (l := l) (E := E) h1 hc hT
    exact ⟨σ', c_M_perform10 l E σ σ' k _ _ hk (e22.trans hK) e23 e24 hf, ro_k hr (kc_18 _ _ _) rfl⟩
  · have eP : pfS μ k = spS μ (μ 13 0 k) := by unfold pfS; rw [hK, if_neg (show ¬ (11 : Int) = 0 by decide), if_neg (show ¬ (11 : Int) = 1 by decide), if_neg (show ¬ (11 : Int) = 2 by decide), if_neg (show ¬ (11 : Int) = 3 by decide), if_neg (show ¬ (11 : Int) = 4 by decide), if_neg (show ¬ (11 : Int) = 5 by decide), if_neg (show ¬ (11 : Int) = 6 by decide), if_neg (show ¬ (11 : Int) = 7 by decide), if_neg (show ¬ (11 : Int) = 8 by decide), if_neg (show ¬ (11 : Int) = 9 by decide), if_neg (show ¬ (11 : Int) = 10 by decide)]
    have eV : pfV μ k = 0 := by unfold pfV; rw [hK, if_neg (show ¬ (11 : Int) = 0 by decide), if_neg (show ¬ (11 : Int) = 1 by decide), if_neg (show ¬ (11 : Int) = 2 by decide), if_neg (show ¬ (11 : Int) = 3 by decide), if_neg (show ¬ (11 : Int) = 4 by decide), if_neg (show ¬ (11 : Int) = 5 by decide), if_neg (show ¬ (11 : Int) = 6 by decide), if_neg (show ¬ (11 : Int) = 7 by decide), if_neg (show ¬ (11 : Int) = 8 by decide), if_neg (show ¬ (11 : Int) = 9 by decide), if_neg (show ¬ (11 : Int) = 10 by decide)]
    rw [eP, eV]
    obtain ⟨σ', hf, hr⟩ := x_M_skip (l := l) (E := E) h1 hc hT (p11 hK)
    exact ⟨σ', c_M_perform11 l E σ σ' k _ _ hk (e22.trans hK) e23 e24 hf, ro_k hr (kc_18 _ _ _) rfl⟩
