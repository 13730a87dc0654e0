/-! append; the program; the short methods of the head and of the channel -/
def apS (σ : St) (t kl dl : Int) : St := up (up (up σ 4 t 4 (σ 4 t 4 + 1)) 6 t (σ 4 t 4 + 1) kl) 5 t (σ 4 t 4 + 1 + 1) (σ 5 t (σ 4 t 4 + 1) + 20 + kl + dl)
def paS (σ : St) (a b c : Int) : St := up (up (up (up σ 11 0 (σ 10 0 3) a) 12 0 (σ 10 0 3) b) 13 0 (σ 10 0 3) c) 10 0 3 (σ 10 0 3 + 1)
def cbS (σ : St) (p : Int) : St := if ¬ σ 14 0 3 = 0 ∧ σ 14 0 4 < p then gbS σ p else if σ 4 (σ 14 0 2) 4 = 0 then mv0 σ else gbS (mvS σ) p
def prS (σ : St) : St := up (up (up (up (up (up σ 15 0 4 0) 15 0 5 0) 15 0 9 0) 15 0 10 (-1)) 15 0 7 (σ 14 0 1 / 600)) 15 0 8 (σ 14 0 1 / 600)
def beS (σ : St) (k : Int) : St := up (up (up σ 15 0 5 (σ 15 0 5 + 1)) 15 0 9 (k + 1)) 15 0 10 (if 1 ≤ σ 11 0 k ∧ σ 11 0 k ≤ 3 then k + 1 else -1)
def inM (a n : Int) : Prop := (0 ≤ a ∧ a ≤ 255) ∧ a + n ≤ 256
def riM (σ : St) (a : Int) : Prop := inM a 2 ∧ σ 2 0 a ≤ 8 ∧ σ 2 0 (a + 1) ≤ 60 ∧ inM a (2 + σ 2 0 a + σ 2 0 (a + 1))
theorem pb_up {σ : St} {t k p : Int} (s : St) (h5 : ∀ t j, s 5 t j = σ 5 t j) (h6 : ∀ t j, s 6 t j = σ 6 t j) : pbS s t k p = pbS σ t k p := by unfold pbS; rw [h5, h5, h6]
theorem pb_rng {σ : St} {t k p : Int} (h : tkW σ t) (hk : 1 ≤ k ∧ k ≤ σ 4 t 4) : 0 ≤ pbS σ t k p ∧ pbS σ t k p ≤ 600 := by
  have := h.2.2 k hk.1 hk.2
  unfold pbS
  split
  · omega
  · split <;> omega
theorem gtS_t (σ : St) (p : Int) : gtS σ p 14 0 1 = σ 14 0 1 + (p - σ 14 0 1 % 600 + 600) % 600 := up_s ..
theorem gtS_o (σ : St) (p : Int) {k : Nat} {t j : Int} (h : k ≠ 14 ∨ j ≠ 1) : gtS σ p k t j = σ k t j := by
  unfold gtS
  rw [up_eq, if_neg]
  rintro ⟨h1, h2, h3⟩
  rcases h with h | h
  · exact h h1
  · exact h h3
theorem gtS_hd {σ : St} {p B : Int} (h : hdW σ) (hB : σ 14 0 1 + 600 ≤ 1000000000) : hdW (gtS σ p) := by
  refine ⟨?_, ?_⟩
  · rw [gtS_o σ p (Or.inr (by decide))]; exact h.1
  · rw [gtS_t]
    have := h.2
    omega

set_option maxRecDepth 100000 in
set_option maxHeartbeats 4000000 in
theorem c_T_append (l : Launch) (E : eT) (σ : St) (t kl dl : Int) (ht : 0 ≤ t ∧ t < 32) (h4 : 0 ≤ σ 4 t 4 ∧ σ 4 t 4 < 30) : FCon l E y_T_append ws_T_append 0 [.ref (E.2.2.2 4 t), .int (iI kl), .int (iI dl)] σ (some (.int (iI (σ 4 t 4 + 1)))) (apS σ t kl dl) := by
  refine con_of (cc := b_T_append) (nL := 3) (ret := (some .int)) (by decide) (Nat.le_of_ble_eq_true rfl) (fun z X Y hn => ?_)
  have X : Cx E z b_T_append R_T := X
  have hz := Y.2.1
  change J E z 0 0 0 [(0, .ref (E.2.2.2 4 t)), (1, .int (iI kl)), (2, .int (iI dl))] [] (cells E σ)
  refine j_aload_n X rfl d_T_append_0 ?_
  refine j_dup X rfl d_T_append_1 ?_
  refine g_T_31 X (okCT rfl (by omega)) d_T_append_2 ?_
  refine j_iconst X d_T_append_5 ?_
  refine j_iadd X d_T_append_6 ?_
  refine p_T_31 X (okCT rfl (by omega)) d_T_append_7 ?_
  refine j_aload_n X rfl d_T_append_10 ?_
  refine g_T_15 X (okCT rfl (by omega)) d_T_append_11 ?_
  refine j_aload_n X rfl d_T_append_14 ?_
  refine g_T_31 X (okCT rfl (by omega)) d_T_append_15 ?_
  simp only [up_eq, false_and, and_false, and_true, true_and, if_false, if_true, reduceIte, and_self, Nat.reduceEqDiff, Int.reduceEq]
  refine j_iload_n X rfl d_T_append_18 ?_
  refine j_iast X (by first | exact okC1 rfl | exact (okCT rfl (by omega))) (fun _ => rfl) rfl (by omega) d_T_append_19 ?_
  refine j_aload_n X rfl d_T_append_20 ?_
  refine g_T_9 X (okCT rfl (by omega)) d_T_append_21 ?_
  refine j_aload_n X rfl d_T_append_24 ?_
  refine g_T_31 X (okCT rfl (by omega)) d_T_append_25 ?_
  simp only [up_eq, false_and, and_false, and_true, true_and, if_false, if_true, reduceIte, and_self, Nat.reduceEqDiff, Int.reduceEq]
  refine j_iconst X d_T_append_28 ?_
  refine j_iadd X d_T_append_29 ?_
  refine j_aload_n X rfl d_T_append_30 ?_
  refine g_T_9 X (okCT rfl (by omega)) d_T_append_31 ?_
  refine j_aload_n X rfl d_T_append_34 ?_
  refine g_T_31 X (okCT rfl (by omega)) d_T_append_35 ?_
  simp only [up_eq, false_and, and_false, and_true, true_and, if_false, if_true, reduceIte, and_self, Nat.reduceEqDiff, Int.reduceEq]
  refine j_iald X (by first | exact okC1 rfl | exact (okCT rfl (by omega))) (fun _ => rfl) rfl (by omega) d_T_append_38 ?_
  simp only [up_eq, false_and, and_false, and_true, true_and, if_false, if_true, reduceIte, and_self, Nat.reduceEqDiff, Int.reduceEq]
  refine j_bipush X rfl d_T_append_39 ?_
  refine j_iadd X d_T_append_41 ?_
  refine j_iload_n X rfl d_T_append_42 ?_
  refine j_iadd X d_T_append_43 ?_
  refine j_iload_n X rfl d_T_append_44 ?_
  refine j_iadd X d_T_append_45 ?_
  refine j_iast X (by first | exact okC1 rfl | exact (okCT rfl (by omega))) (fun _ => rfl) rfl (by omega) d_T_append_46 ?_
  refine j_aload_n X rfl d_T_append_47 ?_
  refine g_T_31 X (okCT rfl (by omega)) d_T_append_48 ?_
  simp only [up_eq, false_and, and_false, and_true, true_and, if_false, if_true, reduceIte, and_self, Nat.reduceEqDiff, Int.reduceEq]
  exact j_iret X Y (Nat.le_refl _) (Nat.le_refl _) d_T_append_51 ⟨rfl, rfl⟩

set_option maxRecDepth 100000 in
set_option maxHeartbeats 4000000 in
theorem c_P_isFull (l : Launch) (E : eT) (σ : St) (hr : rg σ) : FCon l E y_P_isFull ws_P_isFull 0 [.ref (E.2.2.2 10 0)] σ (some (.int (iI (b2i (decide (σ 10 0 3 = 16)))))) σ := by
  refine con_of (cc := b_P_isFull) (nL := 1) (ret := (some .boolean)) (by decide) (Nat.le_of_ble_eq_true rfl) (fun z X Y hn => ?_)
  have X : Cx E z b_P_isFull R_P := X
  have hz := Y.2.1
  change J E z 0 0 0 [(0, .ref (E.2.2.2 10 0))] [] (cells E σ)
  have h3 := hr 10 0 3
  refine j_aload_n X rfl d_P_isFull_0 ?_
  refine g_P_19 X d_P_isFull_1 ?_
  refine j_bipush X rfl d_P_isFull_4 ?_
  refine j_icmp_ne X (by omega) (by omega) d_P_isFull_6 (tgt := 13) rfl (fun h6 => ?_) (fun h6 => ?_)
  · skip
    refine j_iconst X d_P_isFull_13 ?_
    exact j_zret X Y (by first | rfl | exact b2i_nar _) (Nat.le_refl _) (Nat.le_refl _) d_P_isFull_14 ⟨by first | rw [b2i_t (by omega)] | rw [b2i_f (by omega)], rfl⟩
  · skip
    refine j_iconst X d_P_isFull_9 ?_
    refine j_goto X d_P_isFull_10 (tgt := 14) rfl ?_
    exact j_zret X Y (by first | rfl | exact b2i_nar _) (Nat.le_refl _) (Nat.le_refl _) d_P_isFull_14 ⟨by first | rw [b2i_t (by omega)] | rw [b2i_f (by omega)], rfl⟩

set_option maxRecDepth 100000 in
set_option maxHeartbeats 4000000 in
theorem c_P_clear (l : Launch) (E : eT) (σ : St) : FCon l E y_P_clear ws_P_clear 0 [.ref (E.2.2.2 10 0)] σ none (up σ 10 0 3 0) := by
  refine con_of (cc := b_P_clear) (nL := 1) (ret := none) (by decide) (Nat.le_of_ble_eq_true rfl) (fun z X Y hn => ?_)
  have X : Cx E z b_P_clear R_P := X
  have hz := Y.2.1
  change J E z 0 0 0 [(0, .ref (E.2.2.2 10 0))] [] (cells E σ)
  refine j_aload_n X rfl d_P_clear_0 ?_
  refine j_iconst X d_P_clear_1 ?_
  refine p_P_19 X d_P_clear_2 ?_
  exact j_vret X Y (Nat.le_refl _) (Nat.le_refl _) d_P_clear_5 ⟨rfl, rfl⟩

set_option maxRecDepth 100000 in
set_option maxHeartbeats 4000000 in
theorem c_P_add (l : Launch) (E : eT) (σ : St) (a b c : Int) (h : 0 ≤ σ 10 0 3 ∧ σ 10 0 3 < 16) : FCon l E y_P_add ws_P_add 0 [.ref (E.2.2.2 10 0), .int (iI a), .int (iI b), .int (iI c)] σ none (paS σ a b c) := by
  refine con_of (cc := b_P_add) (nL := 4) (ret := none) (by decide) (Nat.le_of_ble_eq_true rfl) (fun z X Y hn => ?_)
  have X : Cx E z b_P_add R_P := X
  have hz := Y.2.1
  change J E z 0 0 0 [(0, .ref (E.2.2.2 10 0)), (1, .int (iI a)), (2, .int (iI b)), (3, .int (iI c))] [] (cells E σ)
  refine j_aload_n X rfl d_P_add_0 ?_
  refine g_P_9 X d_P_add_1 ?_
  refine j_aload_n X rfl d_P_add_4 ?_
  refine g_P_19 X d_P_add_5 ?_
  refine j_iload_n X rfl d_P_add_8 ?_
  refine j_iast X (by first | exact okC1 rfl | exact (okCT rfl (by omega))) (fun _ => rfl) rfl (by omega) d_P_add_9 ?_
  refine j_aload_n X rfl d_P_add_10 ?_
  refine g_P_13 X d_P_add_11 ?_
  refine j_aload_n X rfl d_P_add_14 ?_
  refine g_P_19 X d_P_add_15 ?_
  simp only [up_eq, false_and, and_false, and_true, true_and, if_false, if_true, reduceIte, and_self, Nat.reduceEqDiff, Int.reduceEq]
  refine j_iload_n X rfl d_P_add_18 ?_
  refine j_iast X (by first | exact okC1 rfl | exact (okCT rfl (by omega))) (fun _ => rfl) rfl (by omega) d_P_add_19 ?_
  refine j_aload_n X rfl d_P_add_20 ?_
  refine g_P_16 X d_P_add_21 ?_
  refine j_aload_n X rfl d_P_add_24 ?_
  refine g_P_19 X d_P_add_25 ?_
  simp only [up_eq, false_and, and_false, and_true, true_and, if_false, if_true, reduceIte, and_self, Nat.reduceEqDiff, Int.reduceEq]
  refine j_iload_n X rfl d_P_add_28 ?_
  refine j_iast X (by first | exact okC1 rfl | exact (okCT rfl (by omega))) (fun _ => rfl) rfl (by omega) d_P_add_29 ?_
  refine j_aload_n X rfl d_P_add_30 ?_
  refine j_dup X rfl d_P_add_31 ?_
  refine g_P_19 X d_P_add_32 ?_
  simp only [up_eq, false_and, and_false, and_true, true_and, if_false, if_true, reduceIte, and_self, Nat.reduceEqDiff, Int.reduceEq]
  refine j_iconst X d_P_add_35 ?_
  refine j_iadd X d_P_add_36 ?_
  refine p_P_19 X d_P_add_37 ?_
  exact j_vret X Y (Nat.le_refl _) (Nat.le_refl _) d_P_add_40 ⟨rfl, rfl⟩

set_option maxRecDepth 100000 in
set_option maxHeartbeats 4000000 in
theorem c_H_moveOnBehind (l : Launch) (E : eT) (σ : St) (p : Int) (hw : hdW σ) (htk : tkW σ (σ 14 0 2)) (hr : rg σ) (hk : 0 ≤ σ 14 0 3 ∧ σ 14 0 3 ≤ σ 4 (σ 14 0 2) 4) (hB : σ 14 0 1 + 600 ≤ 1000000000) (hp : 1 ≤ p ∧ p ≤ 3) : FCon l E y_H_moveOnBehind ws_H_moveOnBehind 2 [.ref (E.2.2.2 14 0), .int (iI p)] σ (some (.int (iI (b2i (decide (¬ σ 4 (σ 14 0 2) 4 = 0)))))) (if σ 4 (σ 14 0 2) 4 = 0 then mv0 σ else gbS (mvS σ) p) := by
  refine con_of (cc := b_H_moveOnBehind) (nL := 2) (ret := (some .boolean)) (by decide) (Nat.le_of_ble_eq_true rfl) (fun z X Y hn => ?_)
  have X : Cx E z b_H_moveOnBehind R_H := X
  have hz := Y.2.1
  change J E z 0 0 0 [(0, .ref (E.2.2.2 14 0)), (1, .int (iI p))] [] (cells E σ)
  have hw1 := hw.1
  have hw2 := hw.2
  have hn4 := htk.1
  refine j_aload_n X rfl d_H_moveOnBehind_0 ?_
  refine v_H_41 X hz (c_H_moveOn (zl z) E σ hw htk hr hk) rfl rfl rfl (Nat.le_of_ble_eq_true rfl) ⟨Nat.le_refl _, Nat.le_refl _⟩ d_H_moveOnBehind_1 ?_
  refine j_ifnz X d_H_moveOnBehind_4 (tgt := 9) rfl (fun h4 => ?_) (fun h4 => ?_)
  · skip
    rw [if_neg h4]
    have hm := mvR_in (σ := σ) (by omega) hk.1
    refine j_aload_n X rfl d_H_moveOnBehind_9 ?_
    refine j_iload_n X rfl d_H_moveOnBehind_10 ?_
    refine v_H_45 X hz (c_H_goBehind (zl z) E (mvS σ) p ⟨by unfold mvS; rw [gtS_o _ _ (Or.inr (by decide))]; exact hw1, (gtS_hd (σ := up σ 14 0 3 (mvR σ)) (B := 0) hw hB).2⟩ hp (by unfold mvS; rw [gtS_o _ _ (Or.inr (by decide))]; rw [up_s]; omega) (by unfold mvS; rw [gtS_o _ _ (Or.inr (by decide)), gtS_o _ _ (Or.inr (by decide)), up_s, pb_up (σ := σ) _ (fun t j => by rw [gtS_o _ _ (Or.inl (by decide)), up_k _ _ _ _ _ _ (by decide)]) (fun t j => by rw [gtS_o _ _ (Or.inl (by decide)), up_k _ _ _ _ _ _ (by decide)])]; exact pb_rng htk hm)) rfl rfl rfl (Nat.le_of_ble_eq_true rfl) ⟨Nat.le_refl _, Nat.le_refl _⟩ d_H_moveOnBehind_11 ?_
    refine j_iconst X d_H_moveOnBehind_14 ?_
    exact j_zret X Y (by first | rfl | exact b2i_nar _) (Nat.le_refl _) (Nat.le_refl _) d_H_moveOnBehind_15 ⟨by rw [b2i_t h4], by rw [if_neg h4]⟩
  · skip
    refine j_iconst X d_H_moveOnBehind_7 ?_
    exact j_zret X Y (by first | rfl | exact b2i_nar _) (Nat.le_refl _) (Nat.le_refl _) d_H_moveOnBehind_8 ⟨by rw [b2i_f h4], by rw [if_pos (by omega), if_pos (by omega)]⟩


set_option maxRecDepth 100000 in
set_option maxHeartbeats 4000000 in
theorem c_C_indexPassed (l : Launch) (E : eT) (σ : St) (hw : hdW σ)  : FCon l E y_C_indexPassed ws_C_indexPassed 1 [.ref (E.2.2.2 15 0)] σ (some (.int (iI (σ 14 0 1 / 600 - σ 15 0 7)))) σ := by
  refine con_of (cc := b_C_indexPassed) (nL := 1) (ret := (some .int)) (by decide) (Nat.le_of_ble_eq_true rfl) (fun z X Y hn => ?_)
  have X : Cx E z b_C_indexPassed R_C := X
  have hz := Y.2.1
  change J E z 0 0 0 [(0, .ref (E.2.2.2 15 0))] [] (cells E σ)
  have hw1 := hw.1
  have hw2 := hw.2
  refine j_aload_n X rfl d_C_indexPassed_0 ?_
  refine g_C_15 X d_C_indexPassed_1 ?_
  refine v_C_23 X hz (c_H_turns (zl z) E σ hw) rfl rfl rfl (Nat.le_of_ble_eq_true rfl) ⟨Nat.le_refl _, Nat.le_refl _⟩ d_C_indexPassed_4 ?_
  refine j_aload_n X rfl d_C_indexPassed_7 ?_
  refine g_C_29 X d_C_indexPassed_8 ?_
  refine j_lsub X d_C_indexPassed_11 ?_
  refine j_l2i X d_C_indexPassed_12 ?_
  exact j_iret X Y (Nat.le_refl _) (Nat.le_refl _) d_C_indexPassed_13 ⟨rfl, rfl⟩

set_option maxRecDepth 100000 in
set_option maxHeartbeats 4000000 in
theorem c_C_prepare (l : Launch) (E : eT) (σ : St) (hw : hdW σ)  : FCon l E y_C_prepare ws_C_prepare 1 [.ref (E.2.2.2 15 0)] σ none (prS σ) := by
  refine con_of (cc := b_C_prepare) (nL := 1) (ret := none) (by decide) (Nat.le_of_ble_eq_true rfl) (fun z X Y hn => ?_)
  have X : Cx E z b_C_prepare R_C := X
  have hz := Y.2.1
  change J E z 0 0 0 [(0, .ref (E.2.2.2 15 0))] [] (cells E σ)
  have hw1 := hw.1
  have hw2 := hw.2
  refine j_aload_n X rfl d_C_prepare_0 ?_
  refine j_iconst X d_C_prepare_1 ?_
  refine p_C_62 X d_C_prepare_2 ?_
  refine j_aload_n X rfl d_C_prepare_5 ?_
  refine j_iconst X d_C_prepare_6 ?_
  refine p_C_65 X d_C_prepare_7 ?_
  refine j_aload_n X rfl d_C_prepare_10 ?_
  refine j_iconst X d_C_prepare_11 ?_
  refine p_C_36 X d_C_prepare_12 ?_
  refine j_aload_n X rfl d_C_prepare_15 ?_
  refine j_iconst X d_C_prepare_16 ?_
  refine p_C_68 X d_C_prepare_17 ?_
  refine j_aload_n X rfl d_C_prepare_20 ?_
  refine j_aload_n X rfl d_C_prepare_21 ?_
  refine g_C_15 X d_C_prepare_22 ?_
  refine v_C_23 X hz (c_H_turns (zl z) E _ hw) rfl rfl rfl (Nat.le_of_ble_eq_true rfl) ⟨Nat.le_refl _, Nat.le_refl _⟩ d_C_prepare_25 ?_
  refine p_C_29 X d_C_prepare_28 ?_
  refine j_aload_n X rfl d_C_prepare_31 ?_
  refine j_aload_n X rfl d_C_prepare_32 ?_
  refine g_C_29 X d_C_prepare_33 ?_
  refine p_C_71 X d_C_prepare_36 ?_
  exact j_vret X Y (Nat.le_refl _) (Nat.le_refl _) d_C_prepare_39 ⟨rfl, rfl⟩

set_option maxRecDepth 100000 in
set_option maxHeartbeats 4000000 in
theorem c_C_isInMemory (l : Launch) (E : eT) (σ : St) (a b : Int) (ha : inR a) (hb : 0 ≤ b ∧ b ≤ 1000) : FCon l E y_C_isInMemory ws_C_isInMemory 1 [.int (iI a), .int (iI b)] σ (some (.int (iI (b2i (@decide (inM a b) (by unfold inM; exact inferInstance)))))) σ := by
  refine con_of (cc := b_C_isInMemory) (nL := 2) (ret := (some .boolean)) (by decide) (Nat.le_of_ble_eq_true rfl) (fun z X Y hn => ?_)
  have X : Cx E z b_C_isInMemory R_C := X
  have hz := Y.2.1
  change J E z 0 0 0 [(0, .int (iI a)), (1, .int (iI b))] [] (cells E σ)
  refine j_iload_n X rfl d_C_isInMemory_0 ?_
  refine j_iconst X d_C_isInMemory_1 ?_
  refine j_sipush X rfl d_C_isInMemory_2 ?_
  refine s_C_82 X hz (c_isWithin (zl z) E σ a 0 255 ha (by decide) (by decide)) rfl rfl rfl (Nat.le_of_ble_eq_true rfl) ⟨Nat.le_refl _, Nat.le_refl _⟩ d_C_isInMemory_5 ?_
  refine j_ifz X d_C_isInMemory_8 (tgt := 24) rfl (fun h8 => ?_) (fun h8 => ?_)
  · skip
    refine j_iconst X d_C_isInMemory_24 ?_
    exact j_zret X Y (by first | rfl | exact b2i_nar _) (Nat.le_refl _) (Nat.le_refl _) d_C_isInMemory_25 ⟨by first | rw [b2i_t (by unfold inM; omega)] | rw [b2i_f (by unfold inM; omega)], rfl⟩
  · skip
    refine j_iload_n X rfl d_C_isInMemory_11 ?_
    refine j_iload_n X rfl d_C_isInMemory_12 ?_
    refine j_iadd X d_C_isInMemory_13 ?_
    refine j_sipush X rfl d_C_isInMemory_14 ?_
    refine j_icmp_gt X (by omega) (by omega) d_C_isInMemory_17 (tgt := 24) rfl (fun h17 => ?_) (fun h17 => ?_)
    · skip
      refine j_iconst X d_C_isInMemory_24 ?_
      exact j_zret X Y (by first | rfl | exact b2i_nar _) (Nat.le_refl _) (Nat.le_refl _) d_C_isInMemory_25 ⟨by first | rw [b2i_t (by unfold inM; omega)] | rw [b2i_f (by unfold inM; omega)], rfl⟩
    · skip
      refine j_iconst X d_C_isInMemory_20 ?_
      refine j_goto X d_C_isInMemory_21 (tgt := 25) rfl ?_
      exact j_zret X Y (by first | rfl | exact b2i_nar _) (Nat.le_refl _) (Nat.le_refl _) d_C_isInMemory_25 ⟨by first | rw [b2i_t (by unfold inM; omega)] | rw [b2i_f (by unfold inM; omega)], rfl⟩
