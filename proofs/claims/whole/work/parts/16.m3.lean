/-! finding a key on a track -/
def hkI (σ : St) (t k key i : Int) : Prop := ∀ j, 0 ≤ j → j < i → σ 9 t (σ 5 t k + 20 + j) = kbS key j
theorem hkI_s {σ : St} {t k key i : Int} (h : hkI σ t k key i) (e : σ 9 t (σ 5 t k + 20 + i) = kbS key i) : hkI σ t k key (i + 1) := fun j h0 h1 => by
  by_cases hj : j = i
  · rw [hj]; exact e
  · exact h j h0 (by omega)
theorem hk_of {σ : St} {t k key : Int} (h : hkI σ t k key 4) : hkS σ t k key := ⟨h 0 (by omega) (by omega), h 1 (by omega) (by omega), h 2 (by omega) (by omega), h 3 (by omega) (by omega)⟩
theorem hk_at {σ : St} {t k key i : Int} (h : hkS σ t k key) (hi : 0 ≤ i ∧ i < 4) : σ 9 t (σ 5 t k + 20 + i) = kbS key i := by
  rcases (show i = 0 ∨ i = 1 ∨ i = 2 ∨ i = 3 by omega) with rfl | rfl | rfl | rfl
  · exact h.1
  · exact h.2.1
  · exact h.2.2.1
  · exact h.2.2.2

set_option maxRecDepth 100000 in
set_option maxHeartbeats 4000000 in
theorem c_T_hasKeyed (l : Launch) (E : eT) (σ : St) (t k key : Int) (ht : 0 ≤ t ∧ t < 32) (hk : 0 ≤ k ∧ k < 31) (h9 : byR (σ 9 t)) (hf : 0 ≤ σ 5 t k) (hfl : σ 5 t k + 20 + 4 ≤ 600) : FCon l E y_T_hasKeyed ws_T_hasKeyed 2 [.ref (E.2.2.2 4 t), .int (iI k), .int (iI key)] σ (some (.int (iI (b2i (@decide (hkS σ t k key) (Classical.propDecidable _)))))) σ := by
  refine con_of (cc := b_T_hasKeyed) (nL := 4) (ret := (some .boolean)) (by decide) (Nat.le_of_ble_eq_true rfl) (fun z X Y hn => ?_)
  have X : Cx E z b_T_hasKeyed R_T := X
  have hz := Y.2.1
  change J E z 0 0 0 [(0, .ref (E.2.2.2 4 t)), (1, .int (iI k)), (2, .int (iI key))] [] (cells E σ)
  refine j_iconst X d_T_hasKeyed_0 ?_
  refine j_istore_n X (zlt hn rfl) d_T_hasKeyed_1 ?_
  have kyl : ∀ i : Int, (0 ≤ i ∧ i ≤ 4 ∧ hkI σ t k key i) → J E z 0 0 2 [(0, .ref (E.2.2.2 4 t)), (1, .int (iI k)), (2, .int (iI key)), (3, .int (iI i))] [] (cells E σ) := by
    refine j_loop (fun i : Int => (4 - i).toNat) _ _ (fun i hi ih => ?_)
    obtain ⟨hi1, hi2, hi3⟩ := hi
    have b9 := h9 (σ 5 t k + 20 + i)
    have bk := kbS_by key i
    refine j_iload_n X rfl d_T_hasKeyed_2 ?_
    refine j_iconst X d_T_hasKeyed_3 ?_
    refine j_icmp_ge X (by omega) (by omega) d_T_hasKeyed_4 (tgt := 29) rfl (fun h4 => ?_) (fun h4 => ?_)
    · skip
      refine j_iconst X d_T_hasKeyed_29 ?_
      exact j_zret X Y (by first | rfl | exact b2i_nar _) (Nat.le_refl _) (Nat.le_refl _) d_T_hasKeyed_30 ⟨by rw [b2i_t (hk_of (by rw [show i = 4 by omega] at hi3; exact hi3))], rfl⟩
    · skip
      refine j_aload_n X rfl d_T_hasKeyed_7 ?_
      refine j_iload_n X rfl d_T_hasKeyed_8 ?_
      refine j_iload_n X rfl d_T_hasKeyed_9 ?_
      refine v_T_63 X (okCT rfl (by omega)) hz (c_T_contentByte (zl z) E σ t k i ht hk h9 (by omega)) rfl rfl rfl (Nat.le_of_ble_eq_true rfl) ⟨Nat.le_refl _, Nat.le_refl _⟩ d_T_hasKeyed_10 ?_
      refine j_iload_n X rfl d_T_hasKeyed_13 ?_
      refine j_iload_n X rfl d_T_hasKeyed_14 ?_
      refine s_T_55 X hz (c_T_keyedByte (zl z) E σ key i (by omega)) rfl rfl rfl (Nat.le_of_ble_eq_true rfl) ⟨Nat.le_refl _, Nat.le_refl _⟩ d_T_hasKeyed_15 ?_
      refine j_icmp_eq X (by omega) (by omega) d_T_hasKeyed_18 (tgt := 23) rfl (fun h18 => ?_) (fun h18 => ?_)
      · skip
        refine j_iinc X rfl (zlt hn rfl) d_T_hasKeyed_23 ?_
        refine j_goto X d_T_hasKeyed_26 (tgt := 2) rfl ?_
        exact ih (i + 1) ⟨by omega, by omega, hkI_s hi3 h18⟩ (by omega)
      · skip
        refine j_iconst X d_T_hasKeyed_21 ?_
        exact j_zret X Y (by first | rfl | exact b2i_nar _) (Nat.le_refl _) (Nat.le_refl _) d_T_hasKeyed_22 ⟨by rw [b2i_f (fun q => h18 (hk_at q (by omega)))], rfl⟩
  exact kyl 0 ⟨by omega, by omega, fun j h0 h1 => by omega⟩

set_option maxRecDepth 100000 in
set_option maxHeartbeats 4000000 in
theorem c_T_numberOf (l : Launch) (E : eT) (σ : St) (t key : Int) (ht : 0 ≤ t ∧ t < 32) (h9 : byR (σ 9 t)) (hr : rg σ) (h4 : 0 ≤ σ 4 t 4 ∧ σ 4 t 4 ≤ 30) (hf : ∀ k, 1 ≤ k → k ≤ σ 4 t 4 → 0 ≤ σ 5 t k ∧ σ 5 t k + 20 + σ 6 t k ≤ 600) : FCon l E y_T_numberOf ws_T_numberOf 3 [.ref (E.2.2.2 4 t), .int (iI key)] σ (some (.int (iI (noS σ t key 32 1)))) σ := by
  refine con_of (cc := b_T_numberOf) (nL := 3) (ret := (some .int)) (by decide) (Nat.le_of_ble_eq_true rfl) (fun z X Y hn => ?_)
  have X : Cx E z b_T_numberOf R_T := X
  have hz := Y.2.1
  change J E z 0 0 0 [(0, .ref (E.2.2.2 4 t)), (1, .int (iI key))] [] (cells E σ)
  obtain ⟨r, hr0⟩ : ∃ r, r = noS σ t key 32 1 := ⟨_, rfl⟩
  rw [← hr0] at Y
  refine j_iconst X d_T_numberOf_0 ?_
  refine j_istore_n X (zlt hn rfl) d_T_numberOf_1 ?_
  have kyl : ∀ i : Int, (1 ≤ i ∧ i ≤ 31 ∧ r = noS σ t key (33 - i).toNat i) → J E z 0 0 2 [(0, .ref (E.2.2.2 4 t)), (1, .int (iI key)), (2, .int (iI i))] [] (cells E σ) := by
    refine j_loop (fun i : Int => (40 - i).toNat) _ _ (fun i hi ih => ?_)
    have h6 := hr 6 t i
    obtain ⟨hi1, hi2, hi3⟩ := hi
    rw [show (33 - i).toNat = (33 - (i + 1)).toNat + 1 by omega, noS_succ] at hi3
    refine j_iload_n X rfl d_T_numberOf_2 ?_
    refine j_aload_n X rfl d_T_numberOf_3 ?_
    refine g_T_31 X (okCT rfl (by omega)) d_T_numberOf_4 ?_
    refine j_icmp_gt X (by omega) (by omega) d_T_numberOf_7 (tgt := 37) rfl (fun h7 => ?_) (fun h7 => ?_)
    · skip
      refine j_iconst X d_T_numberOf_37 ?_
      exact j_iret X Y (Nat.le_refl _) (Nat.le_refl _) d_T_numberOf_38 ⟨by rw [hi3, if_pos (by omega)], rfl⟩
    · skip
      refine j_aload_n X rfl d_T_numberOf_10 ?_
      refine g_T_15 X (okCT rfl (by omega)) d_T_numberOf_11 ?_
      refine j_iload_n X rfl d_T_numberOf_14 ?_
      refine j_iald X (by first | exact okC1 rfl | exact (okCT rfl (by omega))) (fun _ => rfl) rfl (by omega) d_T_numberOf_15 ?_
      refine j_iconst X d_T_numberOf_16 ?_
      refine j_icmp_ne X (by omega) (by omega) d_T_numberOf_17 (tgt := 31) rfl (fun h17 => ?_) (fun h17 => ?_)
      · skip
        refine j_iinc X rfl (zlt hn rfl) d_T_numberOf_31 ?_
        refine j_goto X d_T_numberOf_34 (tgt := 2) rfl ?_
        exact ih (i + 1) ⟨by omega, by omega, by rw [hi3, if_neg (by omega), if_neg]; intro q; first | exact h17 q.1 | exact h26 q.2⟩ (by omega)
      · skip
        refine j_aload_n X rfl d_T_numberOf_20 ?_
        refine j_iload_n X rfl d_T_numberOf_21 ?_
        refine j_iload_n X rfl d_T_numberOf_22 ?_
        have hfi := hf i hi1 (by omega)
        refine v_T_66 X (okCT rfl (by omega)) hz (c_T_hasKeyed (zl z) E σ t i key ht (by omega) h9 (by omega) (by omega)) rfl rfl rfl (Nat.le_of_ble_eq_true rfl) ⟨Nat.le_refl _, Nat.le_refl _⟩ d_T_numberOf_23 ?_
        refine j_ifz X d_T_numberOf_26 (tgt := 31) rfl (fun h26 => ?_) (fun h26 => ?_)
        · skip
          refine j_iinc X rfl (zlt hn rfl) d_T_numberOf_31 ?_
          refine j_goto X d_T_numberOf_34 (tgt := 2) rfl ?_
          exact ih (i + 1) ⟨by omega, by omega, by rw [hi3, if_neg (by omega), if_neg]; intro q; first | exact h17 q.1 | exact h26 q.2⟩ (by omega)
        · skip
          refine j_iload_n X rfl d_T_numberOf_29 ?_
          exact j_iret X Y (Nat.le_refl _) (Nat.le_refl _) d_T_numberOf_30 ⟨by rw [hi3, if_neg (by omega), if_pos ⟨h17, h26⟩], rfl⟩
  exact kyl 1 ⟨by omega, by omega, hr0⟩
