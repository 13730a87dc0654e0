/-! Bytes, isWithin, the short methods of Track -/
def rg (σ : St) : Prop := ∀ k t j, inR (σ k t j)
def pbS (σ : St) (t k p : Int) : Int := if p = 3 then σ 5 t (k + 1) else if p = 2 then σ 5 t k + 20 + σ 6 t k else σ 5 t k + 20
def dlS (σ : St) (t k : Int) : Int := σ 5 t (k + 1) - (σ 5 t k + 20 + σ 6 t k)
def ffS (σ : St) (t place : Int) : Nat → Int → Int
  | 0, _ => 1
  | m + 1, k => if σ 4 t 4 < k then 1 else if place ≤ σ 5 t k then k else ffS σ t place m (k + 1)
theorem ffS_succ (σ : St) (t place : Int) (m : Nat) (k : Int) : ffS σ t place (m + 1) k = if σ 4 t 4 < k then 1 else if place ≤ σ 5 t k then k else ffS σ t place m (k + 1) := rfl

set_option maxRecDepth 100000 in
set_option maxHeartbeats 4000000 in
theorem c_B_get_M (l : Launch) (E : eT) (σ : St) (i : Int) (hb : byR (σ 2 0)) (hi : 0 ≤ i ∧ i < 256) : FCon l E y_B_get ws_B_get 0 [.ref (E.2.2.2 1 0), .int (iI i)] σ (some (.int (iI (σ 2 0 i)))) σ := by
  refine con_of (cc := b_B_get) (nL := 3) (ret := (some .int)) (by decide) (Nat.le_of_ble_eq_true rfl) (fun z X Y hn => ?_)
  have X : Cx E z b_B_get R_B := X
  have hz := Y.2.1
  change J E z 0 0 0 [(0, .ref (E.2.2.2 1 0)), (1, .int (iI i))] [] (cells E σ)
  refine j_iload_n X rfl d_B_get_0 ?_
  refine j_iconst X d_B_get_1 ?_
  refine j_irem X (by omega) (by omega) (by omega) (by omega) d_B_get_2 ?_
  refine j_bipush X rfl d_B_get_3 ?_
  refine j_imul X d_B_get_5 ?_
  refine j_istore_n X (zlt hn rfl) d_B_get_6 ?_
  refine j_aload_n X rfl d_B_get_7 ?_
  refine g_B_7_1 X d_B_get_8 ?_
  refine j_iload_n X rfl d_B_get_11 ?_
  refine j_iconst X d_B_get_12 ?_
  refine j_idiv X (by omega) (by omega) (by omega) (by omega) d_B_get_13 ?_
  refine j_wald X (by first | exact okC1 rfl | exact (okCT rfl (by omega))) (fun _ => rfl) rfl (by omega) d_B_get_14 ?_
  refine j_iload_n X rfl d_B_get_15 ?_
  refine j_iushr X d_B_get_16 ?_
  refine j_sipush X rfl d_B_get_17 ?_
  refine j_iand X d_B_get_20 ?_
  refine j_topi (by_get hb i) ?_
  exact j_iret X Y (Nat.le_refl _) (Nat.le_refl _) d_B_get_21 ⟨rfl, rfl⟩

set_option maxRecDepth 100000 in
set_option maxHeartbeats 4000000 in
theorem c_B_set_M (l : Launch) (E : eT) (σ : St) (i v : Int) (hb : byR (σ 2 0)) (hi : 0 ≤ i ∧ i < 256) : FCon l E y_B_set ws_B_set 0 [.ref (E.2.2.2 1 0), .int (iI i), .int (iI v)] σ none (up σ 2 0 i (v % 256)) := by
  refine con_of (cc := b_B_set) (nL := 5) (ret := none) (by decide) (Nat.le_of_ble_eq_true rfl) (fun z X Y hn => ?_)
  have X : Cx E z b_B_set R_B := X
  have hz := Y.2.1
  change J E z 0 0 0 [(0, .ref (E.2.2.2 1 0)), (1, .int (iI i)), (2, .int (iI v))] [] (cells E σ)
  refine j_iload_n X rfl d_B_set_0 ?_
  refine j_iconst X d_B_set_1 ?_
  refine j_irem X (by omega) (by omega) (by omega) (by omega) d_B_set_2 ?_
  refine j_bipush X rfl d_B_set_3 ?_
  refine j_imul X d_B_set_5 ?_
  refine j_istore_n X (zlt hn rfl) d_B_set_6 ?_
  refine j_aload_n X rfl d_B_set_7 ?_
  refine g_B_7_1 X d_B_set_8 ?_
  refine j_iload_n X rfl d_B_set_11 ?_
  refine j_iconst X d_B_set_12 ?_
  refine j_idiv X (by omega) (by omega) (by omega) (by omega) d_B_set_13 ?_
  refine j_wald X (by first | exact okC1 rfl | exact (okCT rfl (by omega))) (fun _ => rfl) rfl (by omega) d_B_set_14 ?_
  refine j_sipush X rfl d_B_set_15 ?_
  refine j_iload_n X rfl d_B_set_18 ?_
  refine j_ishl X d_B_set_19 ?_
  refine j_iconst X d_B_set_20 ?_
  refine j_ixor X d_B_set_21 ?_
  refine j_iand X d_B_set_22 ?_
  refine j_istore X (zlt hn rfl) d_B_set_23 ?_
  refine j_aload_n X rfl d_B_set_25 ?_
  refine g_B_7_1 X d_B_set_26 ?_
  refine j_iload_n X rfl d_B_set_29 ?_
  refine j_iconst X d_B_set_30 ?_
  refine j_idiv X (by omega) (by omega) (by omega) (by omega) d_B_set_31 ?_
  refine j_iload X rfl d_B_set_32 ?_
  refine j_iload_n X rfl d_B_set_34 ?_
  refine j_sipush X rfl d_B_set_35 ?_
  refine j_iand X d_B_set_38 ?_
  refine j_topi (iI_and255 v) ?_
  refine j_iload_n X rfl d_B_set_39 ?_
  refine j_ishl X d_B_set_40 ?_
  refine j_ior X d_B_set_41 ?_
  refine j_wast X (by first | exact okC1 rfl | exact (okCT rfl (by omega))) (fun _ => rfl) rfl (by omega) (by_set hb i v) d_B_set_42 ?_
  exact j_vret X Y (Nat.le_refl _) (Nat.le_refl _) d_B_set_43 ⟨rfl, rfl⟩

set_option maxRecDepth 100000 in
set_option maxHeartbeats 4000000 in
theorem c_B_get_P (l : Launch) (E : eT) (σ : St) (t : Int) (i : Int) (ht : 0 ≤ t ∧ t < 32) (hb : byR (σ 9 t)) (hi : 0 ≤ i ∧ i < 600) : FCon l E y_B_get ws_B_get 0 [.ref (E.2.2.2 8 t), .int (iI i)] σ (some (.int (iI (σ 9 t i)))) σ := by
  refine con_of (cc := b_B_get) (nL := 3) (ret := (some .int)) (by decide) (Nat.le_of_ble_eq_true rfl) (fun z X Y hn => ?_)
  have X : Cx E z b_B_get R_B := X
  have hz := Y.2.1
  change J E z 0 0 0 [(0, .ref (E.2.2.2 8 t)), (1, .int (iI i))] [] (cells E σ)
  refine j_iload_n X rfl d_B_get_0 ?_
  refine j_iconst X d_B_get_1 ?_
  refine j_irem X (by omega) (by omega) (by omega) (by omega) d_B_get_2 ?_
  refine j_bipush X rfl d_B_get_3 ?_
  refine j_imul X d_B_get_5 ?_
  refine j_istore_n X (zlt hn rfl) d_B_get_6 ?_
  refine j_aload_n X rfl d_B_get_7 ?_
  refine g_B_7_8 X (okCT rfl (by omega)) d_B_get_8 ?_
  refine j_iload_n X rfl d_B_get_11 ?_
  refine j_iconst X d_B_get_12 ?_
  refine j_idiv X (by omega) (by omega) (by omega) (by omega) d_B_get_13 ?_
  refine j_wald X (by first | exact okC1 rfl | exact (okCT rfl (by omega))) (fun _ => rfl) rfl (by omega) d_B_get_14 ?_
  refine j_iload_n X rfl d_B_get_15 ?_
  refine j_iushr X d_B_get_16 ?_
  refine j_sipush X rfl d_B_get_17 ?_
  refine j_iand X d_B_get_20 ?_
  refine j_topi (by_get hb i) ?_
  exact j_iret X Y (Nat.le_refl _) (Nat.le_refl _) d_B_get_21 ⟨rfl, rfl⟩

set_option maxRecDepth 100000 in
set_option maxHeartbeats 4000000 in
theorem c_B_set_P (l : Launch) (E : eT) (σ : St) (t : Int) (i v : Int) (ht : 0 ≤ t ∧ t < 32) (hb : byR (σ 9 t)) (hi : 0 ≤ i ∧ i < 600) : FCon l E y_B_set ws_B_set 0 [.ref (E.2.2.2 8 t), .int (iI i), .int (iI v)] σ none (up σ 9 t i (v % 256)) := by
  refine con_of (cc := b_B_set) (nL := 5) (ret := none) (by decide) (Nat.le_of_ble_eq_true rfl) (fun z X Y hn => ?_)
  have X : Cx E z b_B_set R_B := X
  have hz := Y.2.1
  change J E z 0 0 0 [(0, .ref (E.2.2.2 8 t)), (1, .int (iI i)), (2, .int (iI v))] [] (cells E σ)
  refine j_iload_n X rfl d_B_set_0 ?_
  refine j_iconst X d_B_set_1 ?_
  refine j_irem X (by omega) (by omega) (by omega) (by omega) d_B_set_2 ?_
  refine j_bipush X rfl d_B_set_3 ?_
  refine j_imul X d_B_set_5 ?_
  refine j_istore_n X (zlt hn rfl) d_B_set_6 ?_
  refine j_aload_n X rfl d_B_set_7 ?_
  refine g_B_7_8 X (okCT rfl (by omega)) d_B_set_8 ?_
  refine j_iload_n X rfl d_B_set_11 ?_
  refine j_iconst X d_B_set_12 ?_
  refine j_idiv X (by omega) (by omega) (by omega) (by omega) d_B_set_13 ?_
  refine j_wald X (by first | exact okC1 rfl | exact (okCT rfl (by omega))) (fun _ => rfl) rfl (by omega) d_B_set_14 ?_
  refine j_sipush X rfl d_B_set_15 ?_
  refine j_iload_n X rfl d_B_set_18 ?_
  refine j_ishl X d_B_set_19 ?_
  refine j_iconst X d_B_set_20 ?_
  refine j_ixor X d_B_set_21 ?_
  refine j_iand X d_B_set_22 ?_
  refine j_istore X (zlt hn rfl) d_B_set_23 ?_
  refine j_aload_n X rfl d_B_set_25 ?_
  refine g_B_7_8 X (okCT rfl (by omega)) d_B_set_26 ?_
  refine j_iload_n X rfl d_B_set_29 ?_
  refine j_iconst X d_B_set_30 ?_
  refine j_idiv X (by omega) (by omega) (by omega) (by omega) d_B_set_31 ?_
  refine j_iload X rfl d_B_set_32 ?_
  refine j_iload_n X rfl d_B_set_34 ?_
  refine j_sipush X rfl d_B_set_35 ?_
  refine j_iand X d_B_set_38 ?_
  refine j_topi (iI_and255 v) ?_
  refine j_iload_n X rfl d_B_set_39 ?_
  refine j_ishl X d_B_set_40 ?_
  refine j_ior X d_B_set_41 ?_
  refine j_wast X (by first | exact okC1 rfl | exact (okCT rfl (by omega))) (fun _ => rfl) rfl (by omega) (by_set hb i v) d_B_set_42 ?_
  exact j_vret X Y (Nat.le_refl _) (Nat.le_refl _) d_B_set_43 ⟨rfl, rfl⟩

set_option maxRecDepth 100000 in
set_option maxHeartbeats 4000000 in
theorem c_isWithin (l : Launch) (E : eT) (σ : St) (a lo hi : Int) (ha : inR a) (hl : inR lo) (hh : inR hi) : FCon l E y_U_isWithin ws_U_isWithin 0 [.int (iI a), .int (iI lo), .int (iI hi)] σ (some (.int (iI (b2i (decide (lo ≤ a ∧ a ≤ hi)))))) σ := by
  refine con_of (cc := b_U_isWithin) (nL := 3) (ret := (some .boolean)) (by decide) (Nat.le_of_ble_eq_true rfl) (fun z X Y hn => ?_)
  have X : Cx E z b_U_isWithin R_U := X
  have hz := Y.2.1
  change J E z 0 0 0 [(0, .int (iI a)), (1, .int (iI lo)), (2, .int (iI hi))] [] (cells E σ)
  refine j_iload_n X rfl d_U_isWithin_0 ?_
  refine j_iload_n X rfl d_U_isWithin_1 ?_
  refine j_icmp_lt X (by omega) (by omega) d_U_isWithin_2 (tgt := 14) rfl (fun h2 => ?_) (fun h2 => ?_)
  · skip
    refine j_iconst X d_U_isWithin_14 ?_
    exact j_zret X Y (by first | rfl | exact b2i_nar _) (Nat.le_refl _) (Nat.le_refl _) d_U_isWithin_15 ⟨by first | rw [b2i_t (by omega)] | rw [b2i_f (by omega)], rfl⟩
  · skip
    refine j_iload_n X rfl d_U_isWithin_5 ?_
    refine j_iload_n X rfl d_U_isWithin_6 ?_
    refine j_icmp_gt X (by omega) (by omega) d_U_isWithin_7 (tgt := 14) rfl (fun h7 => ?_) (fun h7 => ?_)
    · skip
      refine j_iconst X d_U_isWithin_14 ?_
      exact j_zret X Y (by first | rfl | exact b2i_nar _) (Nat.le_refl _) (Nat.le_refl _) d_U_isWithin_15 ⟨by first | rw [b2i_t (by omega)] | rw [b2i_f (by omega)], rfl⟩
    · skip
      refine j_iconst X d_U_isWithin_10 ?_
      refine j_goto X d_U_isWithin_11 (tgt := 15) rfl ?_
      exact j_zret X Y (by first | rfl | exact b2i_nar _) (Nat.le_refl _) (Nat.le_refl _) d_U_isWithin_15 ⟨by first | rw [b2i_t (by omega)] | rw [b2i_f (by omega)], rfl⟩

set_option maxRecDepth 100000 in
set_option maxHeartbeats 4000000 in
theorem c_T_has (l : Launch) (E : eT) (σ : St) (t k : Int) (ht : 0 ≤ t ∧ t < 32) (hk : inR k) (hr : rg σ) : FCon l E y_T_has ws_T_has 1 [.ref (E.2.2.2 4 t), .int (iI k)] σ (some (.int (iI (b2i (decide (1 ≤ k ∧ k ≤ σ 4 t 4)))))) σ := by
  refine con_of (cc := b_T_has) (nL := 2) (ret := (some .boolean)) (by decide) (Nat.le_of_ble_eq_true rfl) (fun z X Y hn => ?_)
  have X : Cx E z b_T_has R_T := X
  have hz := Y.2.1
  change J E z 0 0 0 [(0, .ref (E.2.2.2 4 t)), (1, .int (iI k))] [] (cells E σ)
  refine j_iload_n X rfl d_T_has_0 ?_
  refine j_iconst X d_T_has_1 ?_
  refine j_aload_n X rfl d_T_has_2 ?_
  refine g_T_31 X (okCT rfl (by omega)) d_T_has_3 ?_
  refine s_T_35 X hz (c_isWithin (zl z) E σ k 1 (σ 4 t 4) hk (by decide) (hr 4 t 4)) rfl rfl rfl (Nat.le_of_ble_eq_true rfl) ⟨Nat.le_refl _, Nat.le_refl _⟩ d_T_has_6 ?_
  exact j_zret X Y (by first | rfl | exact b2i_nar _) (Nat.le_refl _) (Nat.le_refl _) d_T_has_9 ⟨rfl, rfl⟩

set_option maxRecDepth 100000 in
set_option maxHeartbeats 4000000 in
theorem c_T_beginOf (l : Launch) (E : eT) (σ : St) (t k : Int) (ht : 0 ≤ t ∧ t < 32) (hk : 0 ≤ k ∧ k < 32) : FCon l E y_T_beginOf ws_T_beginOf 0 [.ref (E.2.2.2 4 t), .int (iI k)] σ (some (.int (iI (σ 5 t k)))) σ := by
  refine con_of (cc := b_T_beginOf) (nL := 2) (ret := (some .int)) (by decide) (Nat.le_of_ble_eq_true rfl) (fun z X Y hn => ?_)
  have X : Cx E z b_T_beginOf R_T := X
  have hz := Y.2.1
  change J E z 0 0 0 [(0, .ref (E.2.2.2 4 t)), (1, .int (iI k))] [] (cells E σ)
  refine j_aload_n X rfl d_T_beginOf_0 ?_
  refine g_T_9 X (okCT rfl (by omega)) d_T_beginOf_1 ?_
  refine j_iload_n X rfl d_T_beginOf_4 ?_
  refine j_iald X (by first | exact okC1 rfl | exact (okCT rfl (by omega))) (fun _ => rfl) rfl (by omega) d_T_beginOf_5 ?_
  exact j_iret X Y (Nat.le_refl _) (Nat.le_refl _) d_T_beginOf_6 ⟨rfl, rfl⟩

set_option maxRecDepth 100000 in
set_option maxHeartbeats 4000000 in
theorem c_T_keyLength (l : Launch) (E : eT) (σ : St) (t k : Int) (ht : 0 ≤ t ∧ t < 32) (hk : 0 ≤ k ∧ k < 31) : FCon l E y_T_keyLength ws_T_keyLength 0 [.ref (E.2.2.2 4 t), .int (iI k)] σ (some (.int (iI (σ 6 t k)))) σ := by
  refine con_of (cc := b_T_keyLength) (nL := 2) (ret := (some .int)) (by decide) (Nat.le_of_ble_eq_true rfl) (fun z X Y hn => ?_)
  have X : Cx E z b_T_keyLength R_T := X
  have hz := Y.2.1
  change J E z 0 0 0 [(0, .ref (E.2.2.2 4 t)), (1, .int (iI k))] [] (cells E σ)
  refine j_aload_n X rfl d_T_keyLength_0 ?_
  refine g_T_15 X (okCT rfl (by omega)) d_T_keyLength_1 ?_
  refine j_iload_n X rfl d_T_keyLength_4 ?_
  refine j_iald X (by first | exact okC1 rfl | exact (okCT rfl (by omega))) (fun _ => rfl) rfl (by omega) d_T_keyLength_5 ?_
  exact j_iret X Y (Nat.le_refl _) (Nat.le_refl _) d_T_keyLength_6 ⟨rfl, rfl⟩

set_option maxRecDepth 100000 in
set_option maxHeartbeats 4000000 in
theorem c_T_placeBehind (l : Launch) (E : eT) (σ : St) (t k p : Int) (ht : 0 ≤ t ∧ t < 32) (hk : 0 ≤ k ∧ k < 31) (hp : inR p) : FCon l E y_T_placeBehind ws_T_placeBehind 0 [.ref (E.2.2.2 4 t), .int (iI k), .int (iI p)] σ (some (.int (iI (pbS σ t k p)))) σ := by
  refine con_of (cc := b_T_placeBehind) (nL := 4) (ret := (some .int)) (by decide) (Nat.le_of_ble_eq_true rfl) (fun z X Y hn => ?_)
  have X : Cx E z b_T_placeBehind R_T := X
  have hz := Y.2.1
  change J E z 0 0 0 [(0, .ref (E.2.2.2 4 t)), (1, .int (iI k)), (2, .int (iI p))] [] (cells E σ)
  refine j_iload_n X rfl d_T_placeBehind_0 ?_
  refine j_iconst X d_T_placeBehind_1 ?_
  refine j_icmp_ne X (by omega) (by omega) d_T_placeBehind_2 (tgt := 14) rfl (fun h2 => ?_) (fun h2 => ?_)
  · skip
    refine j_aload_n X rfl d_T_placeBehind_14 ?_
    refine g_T_9 X (okCT rfl (by omega)) d_T_placeBehind_15 ?_
    refine j_iload_n X rfl d_T_placeBehind_18 ?_
    refine j_iald X (by first | exact okC1 rfl | exact (okCT rfl (by omega))) (fun _ => rfl) rfl (by omega) d_T_placeBehind_19 ?_
    refine j_bipush X rfl d_T_placeBehind_20 ?_
    refine j_iadd X d_T_placeBehind_22 ?_
    refine j_istore_n X (zlt hn rfl) d_T_placeBehind_23 ?_
    refine j_iload_n X rfl d_T_placeBehind_24 ?_
    refine j_iconst X d_T_placeBehind_25 ?_
    refine j_icmp_ne X (by omega) (by omega) d_T_placeBehind_26 (tgt := 40) rfl (fun h26 => ?_) (fun h26 => ?_)
    · skip
      refine j_iload_n X rfl d_T_placeBehind_40 ?_
      exact j_iret X Y (Nat.le_refl _) (Nat.le_refl _) d_T_placeBehind_41 ⟨by unfold pbS; first | rw [if_pos (by omega)] | rw [if_neg (by omega), if_pos (by omega)] | rw [if_neg (by omega), if_neg (by omega)], rfl⟩
    · skip
      refine j_iload_n X rfl d_T_placeBehind_29 ?_
      refine j_aload_n X rfl d_T_placeBehind_30 ?_
      refine g_T_15 X (okCT rfl (by omega)) d_T_placeBehind_31 ?_
      refine j_iload_n X rfl d_T_placeBehind_34 ?_
      refine j_iald X (by first | exact okC1 rfl | exact (okCT rfl (by omega))) (fun _ => rfl) rfl (by omega) d_T_placeBehind_35 ?_
      refine j_iadd X d_T_placeBehind_36 ?_
      refine j_goto X d_T_placeBehind_37 (tgt := 41) rfl ?_
      exact j_iret X Y (Nat.le_refl _) (Nat.le_refl _) d_T_placeBehind_41 ⟨by unfold pbS; first | rw [if_pos (by omega)] | rw [if_neg (by omega), if_pos (by omega)] | rw [if_neg (by omega), if_neg (by omega)], rfl⟩
  · skip
    refine j_aload_n X rfl d_T_placeBehind_5 ?_
    refine g_T_9 X (okCT rfl (by omega)) d_T_placeBehind_6 ?_
    refine j_iload_n X rfl d_T_placeBehind_9 ?_
    refine j_iconst X d_T_placeBehind_10 ?_
    refine j_iadd X d_T_placeBehind_11 ?_
    refine j_iald X (by first | exact okC1 rfl | exact (okCT rfl (by omega))) (fun _ => rfl) rfl (by omega) d_T_placeBehind_12 ?_
    exact j_iret X Y (Nat.le_refl _) (Nat.le_refl _) d_T_placeBehind_13 ⟨by unfold pbS; first | rw [if_pos (by omega)] | rw [if_neg (by omega), if_pos (by omega)] | rw [if_neg (by omega), if_neg (by omega)], rfl⟩

set_option maxRecDepth 100000 in
set_option maxHeartbeats 4000000 in
theorem c_T_dataLength (l : Launch) (E : eT) (σ : St) (t k : Int) (ht : 0 ≤ t ∧ t < 32) (hk : 0 ≤ k ∧ k < 31) : FCon l E y_T_dataLength ws_T_dataLength 1 [.ref (E.2.2.2 4 t), .int (iI k)] σ (some (.int (iI (dlS σ t k)))) σ := by
  refine con_of (cc := b_T_dataLength) (nL := 2) (ret := (some .int)) (by decide) (Nat.le_of_ble_eq_true rfl) (fun z X Y hn => ?_)
  have X : Cx E z b_T_dataLength R_T := X
  have hz := Y.2.1
  change J E z 0 0 0 [(0, .ref (E.2.2.2 4 t)), (1, .int (iI k))] [] (cells E σ)
  refine j_aload_n X rfl d_T_dataLength_0 ?_
  refine g_T_9 X (okCT rfl (by omega)) d_T_dataLength_1 ?_
  refine j_iload_n X rfl d_T_dataLength_4 ?_
  refine j_iconst X d_T_dataLength_5 ?_
  refine j_iadd X d_T_dataLength_6 ?_
  refine j_iald X (by first | exact okC1 rfl | exact (okCT rfl (by omega))) (fun _ => rfl) rfl (by omega) d_T_dataLength_7 ?_
  refine j_aload_n X rfl d_T_dataLength_8 ?_
  refine j_iload_n X rfl d_T_dataLength_9 ?_
  refine j_iconst X d_T_dataLength_10 ?_
  refine v_T_39 X (okCT rfl (by omega)) hz (c_T_placeBehind (zl z) E σ t k 2 ht hk (by decide)) rfl rfl rfl (Nat.le_of_ble_eq_true rfl) ⟨Nat.le_refl _, Nat.le_refl _⟩ d_T_dataLength_11 ?_
  refine j_isub X d_T_dataLength_14 ?_
  exact j_iret X Y (Nat.le_refl _) (Nat.le_refl _) d_T_dataLength_15 ⟨rfl, rfl⟩

set_option maxRecDepth 100000 in
set_option maxHeartbeats 4000000 in
theorem c_T_isSpoiled (l : Launch) (E : eT) (σ : St) (t k : Int) (ht : 0 ≤ t ∧ t < 32) (hk : 0 ≤ k ∧ k < 31) (hs : σ 7 t k = b2i (decide (σ 7 t k = 1))) : FCon l E y_T_isSpoiled ws_T_isSpoiled 0 [.ref (E.2.2.2 4 t), .int (iI k)] σ (some (.int (iI (b2i (decide (σ 7 t k = 1)))))) σ := by
  refine con_of (cc := b_T_isSpoiled) (nL := 2) (ret := (some .boolean)) (by decide) (Nat.le_of_ble_eq_true rfl) (fun z X Y hn => ?_)
  have X : Cx E z b_T_isSpoiled R_T := X
  have hz := Y.2.1
  change J E z 0 0 0 [(0, .ref (E.2.2.2 4 t)), (1, .int (iI k))] [] (cells E σ)
  refine j_aload_n X rfl d_T_isSpoiled_0 ?_
  refine g_T_18 X (okCT rfl (by omega)) d_T_isSpoiled_1 ?_
  refine j_iload_n X rfl d_T_isSpoiled_4 ?_
  refine j_zald X (by first | exact okC1 rfl | exact (okCT rfl (by omega))) (fun _ => rfl) rfl (by omega) d_T_isSpoiled_5 ?_
  rw [hs]
  exact j_zret X Y (b2i_nar _) (Nat.le_refl _) (Nat.le_refl _) d_T_isSpoiled_6 ⟨rfl, rfl⟩

set_option maxRecDepth 100000 in
set_option maxHeartbeats 4000000 in
theorem c_T_makeSpoiled (l : Launch) (E : eT) (σ : St) (t k : Int) (ht : 0 ≤ t ∧ t < 32) (hk : 0 ≤ k ∧ k < 31) : FCon l E y_T_makeSpoiled ws_T_makeSpoiled 0 [.ref (E.2.2.2 4 t), .int (iI k)] σ none (up σ 7 t k 1) := by
  refine con_of (cc := b_T_makeSpoiled) (nL := 2) (ret := none) (by decide) (Nat.le_of_ble_eq_true rfl) (fun z X Y hn => ?_)
  have X : Cx E z b_T_makeSpoiled R_T := X
  have hz := Y.2.1
  change J E z 0 0 0 [(0, .ref (E.2.2.2 4 t)), (1, .int (iI k))] [] (cells E σ)
  refine j_aload_n X rfl d_T_makeSpoiled_0 ?_
  refine g_T_18 X (okCT rfl (by omega)) d_T_makeSpoiled_1 ?_
  refine j_iload_n X rfl d_T_makeSpoiled_4 ?_
  refine j_iconst X d_T_makeSpoiled_5 ?_
  refine j_zast X (by first | exact okC1 rfl | exact (okCT rfl (by omega))) (fun _ => rfl) rfl (by omega) rfl d_T_makeSpoiled_6 ?_
  exact j_vret X Y (Nat.le_refl _) (Nat.le_refl _) d_T_makeSpoiled_7 ⟨rfl, rfl⟩

set_option maxRecDepth 100000 in
set_option maxHeartbeats 4000000 in
theorem c_T_contentByte (l : Launch) (E : eT) (σ : St) (t k i : Int) (ht : 0 ≤ t ∧ t < 32) (hk : 0 ≤ k ∧ k < 31) (hb : byR (σ 9 t)) (hi : 0 ≤ σ 5 t k + 20 + i ∧ σ 5 t k + 20 + i < 600) : FCon l E y_T_contentByte ws_T_contentByte 1 [.ref (E.2.2.2 4 t), .int (iI k), .int (iI i)] σ (some (.int (iI (σ 9 t (σ 5 t k + 20 + i))))) σ := by
  refine con_of (cc := b_T_contentByte) (nL := 3) (ret := (some .int)) (by decide) (Nat.le_of_ble_eq_true rfl) (fun z X Y hn => ?_)
  have X : Cx E z b_T_contentByte R_T := X
  have hz := Y.2.1
  change J E z 0 0 0 [(0, .ref (E.2.2.2 4 t)), (1, .int (iI k)), (2, .int (iI i))] [] (cells E σ)
  refine j_aload_n X rfl d_T_contentByte_0 ?_
  refine g_T_27 X (okCT rfl (by omega)) d_T_contentByte_1 ?_
  refine j_aload_n X rfl d_T_contentByte_4 ?_
  refine j_iload_n X rfl d_T_contentByte_5 ?_
  refine j_iconst X d_T_contentByte_6 ?_
  refine v_T_39 X (okCT rfl (by omega)) hz (c_T_placeBehind (zl z) E σ t k 1 ht hk (by decide)) rfl rfl rfl (Nat.le_of_ble_eq_true rfl) ⟨Nat.le_refl _, Nat.le_refl _⟩ d_T_contentByte_7 ?_
  refine j_iload_n X rfl d_T_contentByte_10 ?_
  refine j_iadd X d_T_contentByte_11 ?_
  refine v_T_43_8 X (okCT rfl (by omega)) hz (c_B_get_P (zl z) E σ t (σ 5 t k + 20 + i) ht hb hi) rfl rfl rfl (Nat.le_of_ble_eq_true rfl) ⟨Nat.le_refl _, Nat.le_refl _⟩ d_T_contentByte_12 ?_
  exact j_iret X Y (Nat.le_refl _) (Nat.le_refl _) d_T_contentByte_15 ⟨rfl, rfl⟩

set_option maxRecDepth 100000 in
set_option maxHeartbeats 4000000 in
theorem c_T_numberBehind (l : Launch) (E : eT) (σ : St) (t k : Int) (ht : 0 ≤ t ∧ t < 32) (hk : inR k) (hr : rg σ) : FCon l E y_T_numberBehind ws_T_numberBehind 0 [.ref (E.2.2.2 4 t), .int (iI k)] σ (some (.int (iI (if k < σ 4 t 4 then k + 1 else 1)))) σ := by
  refine con_of (cc := b_T_numberBehind) (nL := 2) (ret := (some .int)) (by decide) (Nat.le_of_ble_eq_true rfl) (fun z X Y hn => ?_)
  have X : Cx E z b_T_numberBehind R_T := X
  have hz := Y.2.1
  change J E z 0 0 0 [(0, .ref (E.2.2.2 4 t)), (1, .int (iI k))] [] (cells E σ)
  have h4 := hr 4 t 4
  refine j_iload_n X rfl d_T_numberBehind_0 ?_
  refine j_aload_n X rfl d_T_numberBehind_1 ?_
  refine g_T_31 X (okCT rfl (by omega)) d_T_numberBehind_2 ?_
  refine j_icmp_ge X (by omega) (by omega) d_T_numberBehind_5 (tgt := 14) rfl (fun h5 => ?_) (fun h5 => ?_)
  · skip
    refine j_iconst X d_T_numberBehind_14 ?_
    exact j_iret X Y (Nat.le_refl _) (Nat.le_refl _) d_T_numberBehind_15 ⟨by first | rw [if_pos (by omega)] | rw [if_neg (by omega)], rfl⟩
  · skip
    refine j_iload_n X rfl d_T_numberBehind_8 ?_
    refine j_iconst X d_T_numberBehind_9 ?_
    refine j_iadd X d_T_numberBehind_10 ?_
    refine j_goto X d_T_numberBehind_11 (tgt := 15) rfl ?_
    exact j_iret X Y (Nat.le_refl _) (Nat.le_refl _) d_T_numberBehind_15 ⟨by first | rw [if_pos (by omega)] | rw [if_neg (by omega)], rfl⟩

set_option maxRecDepth 100000 in
set_option maxHeartbeats 4000000 in
theorem c_T_hasRoomBehind (l : Launch) (E : eT) (σ : St) (t k a : Int) (ht : 0 ≤ t ∧ t < 32) (hk : 0 ≤ k ∧ k < 31) (ha : inR (σ 5 t (k + 1) + a)) : FCon l E y_T_hasRoomBehind ws_T_hasRoomBehind 0 [.ref (E.2.2.2 4 t), .int (iI k), .int (iI a)] σ (some (.int (iI (b2i (decide (σ 5 t (k + 1) + a ≤ 600)))))) σ := by
  refine con_of (cc := b_T_hasRoomBehind) (nL := 3) (ret := (some .boolean)) (by decide) (Nat.le_of_ble_eq_true rfl) (fun z X Y hn => ?_)
  have X : Cx E z b_T_hasRoomBehind R_T := X
  have hz := Y.2.1
  change J E z 0 0 0 [(0, .ref (E.2.2.2 4 t)), (1, .int (iI k)), (2, .int (iI a))] [] (cells E σ)
  refine j_aload_n X rfl d_T_hasRoomBehind_0 ?_
  refine g_T_9 X (okCT rfl (by omega)) d_T_hasRoomBehind_1 ?_
  refine j_iload_n X rfl d_T_hasRoomBehind_4 ?_
  refine j_iconst X d_T_hasRoomBehind_5 ?_
  refine j_iadd X d_T_hasRoomBehind_6 ?_
  refine j_iald X (by first | exact okC1 rfl | exact (okCT rfl (by omega))) (fun _ => rfl) rfl (by omega) d_T_hasRoomBehind_7 ?_
  refine j_iload_n X rfl d_T_hasRoomBehind_8 ?_
  refine j_iadd X d_T_hasRoomBehind_9 ?_
  refine j_sipush X rfl d_T_hasRoomBehind_10 ?_
  refine j_icmp_gt X (by omega) (by omega) d_T_hasRoomBehind_13 (tgt := 20) rfl (fun h13 => ?_) (fun h13 => ?_)
  · skip
    refine j_iconst X d_T_hasRoomBehind_20 ?_
    exact j_zret X Y (by first | rfl | exact b2i_nar _) (Nat.le_refl _) (Nat.le_refl _) d_T_hasRoomBehind_21 ⟨by first | rw [b2i_t (by omega)] | rw [b2i_f (by omega)], rfl⟩
  · skip
    refine j_iconst X d_T_hasRoomBehind_16 ?_
    refine j_goto X d_T_hasRoomBehind_17 (tgt := 21) rfl ?_
    exact j_zret X Y (by first | rfl | exact b2i_nar _) (Nat.le_refl _) (Nat.le_refl _) d_T_hasRoomBehind_21 ⟨by first | rw [b2i_t (by omega)] | rw [b2i_f (by omega)], rfl⟩

set_option maxRecDepth 100000 in
set_option maxHeartbeats 4000000 in
theorem c_T_cutBehind (l : Launch) (E : eT) (σ : St) (t k : Int) (ht : 0 ≤ t ∧ t < 32)  : FCon l E y_T_cutBehind ws_T_cutBehind 0 [.ref (E.2.2.2 4 t), .int (iI k)] σ none (up σ 4 t 4 k) := by
  refine con_of (cc := b_T_cutBehind) (nL := 2) (ret := none) (by decide) (Nat.le_of_ble_eq_true rfl) (fun z X Y hn => ?_)
  have X : Cx E z b_T_cutBehind R_T := X
  have hz := Y.2.1
  change J E z 0 0 0 [(0, .ref (E.2.2.2 4 t)), (1, .int (iI k))] [] (cells E σ)
  refine j_aload_n X rfl d_T_cutBehind_0 ?_
  refine j_iload_n X rfl d_T_cutBehind_1 ?_
  refine p_T_31 X (okCT rfl (by omega)) d_T_cutBehind_2 ?_
  exact j_vret X Y (Nat.le_refl _) (Nat.le_refl _) d_T_cutBehind_5 ⟨rfl, rfl⟩

set_option maxRecDepth 100000 in
set_option maxHeartbeats 4000000 in
theorem c_T_firstFrom (l : Launch) (E : eT) (σ : St) (t p : Int) (ht : 0 ≤ t ∧ t < 32) (hp : inR p) (hr : rg σ) (h4 : 0 ≤ σ 4 t 4 ∧ σ 4 t 4 ≤ 30) : FCon l E y_T_firstFrom ws_T_firstFrom 0 [.ref (E.2.2.2 4 t), .int (iI p)] σ (some (.int (iI (ffS σ t p 32 1)))) σ := by
  refine con_of (cc := b_T_firstFrom) (nL := 3) (ret := (some .int)) (by decide) (Nat.le_of_ble_eq_true rfl) (fun z X Y hn => ?_)
  have X : Cx E z b_T_firstFrom R_T := X
  have hz := Y.2.1
  change J E z 0 0 0 [(0, .ref (E.2.2.2 4 t)), (1, .int (iI p))] [] (cells E σ)
  refine j_iconst X d_T_firstFrom_0 ?_
  refine j_istore_n X (zlt hn rfl) d_T_firstFrom_1 ?_
  have key : ∀ i : Int, (1 ≤ i ∧ i ≤ 31 ∧ ffS σ t p 32 1 = ffS σ t p (33 - i).toNat i) → J E z 0 0 2 [(0, .ref (E.2.2.2 4 t)), (1, .int (iI p)), (2, .int (iI i))] [] (cells E σ) := by
    refine j_loop (fun i : Int => (40 - i).toNat) _ _ (fun i hi ih => ?_)
    have h5 := hr 5 t i
    have hf : (33 - i).toNat = (33 - (i + 1)).toNat + 1 := by omega
    obtain ⟨hi1, hi2, hi3⟩ := hi
    rw [hf, ffS_succ σ t p (33 - (i + 1)).toNat i] at hi3
    refine j_iload_n X rfl d_T_firstFrom_2 ?_
    refine j_aload_n X rfl d_T_firstFrom_3 ?_
    refine g_T_31 X (okCT rfl (by omega)) d_T_firstFrom_4 ?_
    refine j_icmp_gt X (by omega) (by omega) d_T_firstFrom_7 (tgt := 28) rfl (fun h7 => ?_) (fun h7 => ?_)
    · skip
      refine j_iconst X d_T_firstFrom_28 ?_
      exact j_iret X Y (Nat.le_refl _) (Nat.le_refl _) d_T_firstFrom_29 ⟨by rw [hi3, if_pos (by omega)], rfl⟩
    · skip
      refine j_aload_n X rfl d_T_firstFrom_10 ?_
      refine g_T_9 X (okCT rfl (by omega)) d_T_firstFrom_11 ?_
      refine j_iload_n X rfl d_T_firstFrom_14 ?_
      refine j_iald X (by first | exact okC1 rfl | exact (okCT rfl (by omega))) (fun _ => rfl) rfl (by omega) d_T_firstFrom_15 ?_
      refine j_iload_n X rfl d_T_firstFrom_16 ?_
      refine j_icmp_lt X (by omega) (by omega) d_T_firstFrom_17 (tgt := 22) rfl (fun h17 => ?_) (fun h17 => ?_)
      · skip
        refine j_iinc X rfl (zlt hn rfl) d_T_firstFrom_22 ?_
        refine j_goto X d_T_firstFrom_25 (tgt := 2) rfl ?_
        exact ih (i + 1) ⟨by omega, by omega, by rw [hi3, if_neg (by omega), if_neg (by omega)]⟩ (by omega)
      · skip
        refine j_iload_n X rfl d_T_firstFrom_20 ?_
        exact j_iret X Y (Nat.le_refl _) (Nat.le_refl _) d_T_firstFrom_21 ⟨by rw [hi3, if_neg (by omega), if_pos (by omega)], rfl⟩
  exact key 1 ⟨by omega, by omega, rfl⟩
