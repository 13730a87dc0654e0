/-! the channel: reading and writing -/
def coP (σ : St) (p : Int) : Prop := (¬ σ 14 0 3 = 0 ∧ σ 14 0 4 < p) ∨ ¬ σ 4 (σ 14 0 2) 4 = 0
def taS (σ : St) (p : Int) : St := up (cbS σ p) 15 0 6 (cbS σ p 15 0 6 + 1)
theorem ta_k (σ : St) (p : Int) {k : Nat} (h : k ≠ 14) (h' : k ≠ 15) (t j : Int) : taS σ p k t j = σ k t j := by unfold taS; rw [up_k _ _ _ _ _ _ h', cb_k _ _ h]
theorem ta_15 (σ : St) (p : Int) {j : Int} (h : j ≠ 6) (t : Int) : taS σ p 15 t j = σ 15 t j := by unfold taS; rw [up_j _ _ _ _ _ _ _ h, cb_k _ _ (by decide)]
theorem ta_2 (σ : St) (p : Int) : taS σ p 14 0 2 = σ 14 0 2 := by unfold taS; rw [up_k _ _ _ _ _ _ (by decide), cb_2]
theorem ta_3 {σ : St} {p : Int} (h : coP σ p) : taS σ p 14 0 3 = cmR σ p := by unfold taS; rw [up_k _ _ _ _ _ _ (by decide), cb_3 h]
theorem ta_hd {σ : St} (h : rW σ) (p : Int) : hdW (taS σ p) := cb_hd h p
theorem spB {x : Int} (h : x = 0 ∨ x = 1) : x = b2i (decide (x = 1)) := by rcases h with rfl | rfl <;> rfl
noncomputable def rpS (σ : St) (p a b : Int) : St := @ite _ (coP σ p) (Classical.propDecidable _) (if p = 3 ∧ σ 7 (σ 14 0 2) (cmR σ p) = 1 then up (taS σ p) 15 0 4 b else rdS (up (taS σ p) 15 0 4 (b - (if p = 2 then σ 6 (σ 14 0 2) (cmR σ p) else dlS σ (σ 14 0 2) (cmR σ p)))) (σ 14 0 2) (pbS σ (σ 14 0 2) (cmR σ p) (p - 1)) a (if (if p = 2 then σ 6 (σ 14 0 2) (cmR σ p) else dlS σ (σ 14 0 2) (cmR σ p)) < b then (if p = 2 then σ 6 (σ 14 0 2) (cmR σ p) else dlS σ (σ 14 0 2) (cmR σ p)) else b)) (mv0 σ)
noncomputable def rpV (σ : St) (p b : Int) : Int := @ite _ (coP σ p) (Classical.propDecidable _) (if p = 3 ∧ σ 7 (σ 14 0 2) (cmR σ p) = 1 then 4 else if b - (if p = 2 then σ 6 (σ 14 0 2) (cmR σ p) else dlS σ (σ 14 0 2) (cmR σ p)) < 0 then 3 else 0) 1
noncomputable def wdS (σ : St) (a b : Int) : St := @ite _ (coP σ 3) (Classical.propDecidable _) (if b - dlS σ (σ 14 0 2) (cmR σ 3) = 0 then up (wrS (up (taS σ 3) 15 0 4 (b - dlS σ (σ 14 0 2) (cmR σ 3))) (σ 14 0 2) (pbS σ (σ 14 0 2) (cmR σ 3) 2) a (pbS σ (σ 14 0 2) (cmR σ 3) 3 - pbS σ (σ 14 0 2) (cmR σ 3) 2)) 7 (σ 14 0 2) (cmR σ 3) 0 else up (taS σ 3) 15 0 4 (b - dlS σ (σ 14 0 2) (cmR σ 3))) (mv0 σ)
noncomputable def wdV (σ : St) (b : Int) : Int := @ite _ (coP σ 3) (Classical.propDecidable _) (if b - dlS σ (σ 14 0 2) (cmR σ 3) = 0 then 0 else 3) 1
theorem dl_up {σ : St} {t k : Int} (s : St) (h5 : ∀ t j, s 5 t j = σ 5 t j) (h6 : ∀ t j, s 6 t j = σ 6 t j) : dlS s t k = dlS σ t k := by unfold dlS; rw [h5, h5, h6]
theorem cbN {σ : St} {p : Int} (h : ¬ coP σ p) : cbS σ p = mv0 σ := by unfold coP at h; unfold cbS; rw [if_neg (by omega), if_pos (by omega)]

set_option maxRecDepth 100000 in
set_option maxHeartbeats 4000000 in
theorem c_C_readCount (l : Launch) (E : eT) (σ : St) (a : Int) (h : rW σ) (ha : 0 ≤ a ∧ a + 4 ≤ 256) : FCon l E y_C_readCount ws_C_readCount 3 [.ref (E.2.2.2 15 0), .int (iI a)] σ (some (.int (iI (rcV σ)))) (rcS σ a) := by
  refine con_of (cc := b_C_readCount) (nL := 2) (ret := (some .int)) (by decide) (Nat.le_of_ble_eq_true rfl) (fun z X Y hn => ?_)
  have X : Cx E z b_C_readCount R_C := X
  have hz := Y.2.1
  change J E z 0 0 0 [(0, .ref (E.2.2.2 15 0)), (1, .int (iI a))] [] (cells E σ)
  have hw := h.1
  have hB := h.2.1
  have hr := h.2.2.1
  have htk := h.2.2.2.1
  have hk := h.2.2.2.2.1
  have h2 := h.2.2.2.2.2.1
  have h9 := h.2.2.2.2.2.2.1
  have h7 := h.2.2.2.2.2.2.2
  have hn4 := htk.1
  have hw1 := hw.1
  have hw2 := hw.2
  have h8 := hr 15 0 8
  have h14 := hr 14 0 4
  refine j_aload_n X rfl d_C_readCount_0 ?_
  refine g_C_15 X d_C_readCount_1 ?_
  refine j_iconst X d_C_readCount_4 ?_
  refine v_C_138 X hz (c_H_moveOnBehind (zl z) E σ 1 hw htk hr hk (by omega) (by decide)) rfl rfl rfl (Nat.le_of_ble_eq_true rfl) ⟨Nat.le_refl _, Nat.le_refl _⟩ d_C_readCount_5 ?_
  refine j_ifnz X d_C_readCount_8 (tgt := 13) rfl (fun h8' => ?_) (fun h8' => ?_)
  · rw [if_neg h8']
    have hm := mvR_in (σ := σ) (by omega) hk.1
    have hmk := htk.2.2 (mvR σ) hm.1 hm.2
    have hq2 : gbS (mvS σ) 1 14 0 2 = σ 14 0 2 := by rw [gb_2, mv_2]
    have hq3 : gbS (mvS σ) 1 14 0 3 = mvR σ := by rw [gb_3, mv_3]
    have hh2 : byR (gbS (mvS σ) 1 2 0) := by rw [show gbS (mvS σ) 1 2 = σ 2 from funext fun t => funext fun j => by rw [gb_k _ _ (by decide), mv_k _ (by decide)]]; exact h2
    have hhd := mb_hd h 1
    have hq8 : gbS (mvS σ) 1 15 0 8 = σ 15 0 8 := by rw [gb_k _ _ (by decide), mv_k _ (by decide)]
    rw [show rcS σ a = rc4 (gbS (mvS σ) 1) a from by unfold rcS; rw [if_neg h8'], show rcV σ = ixS (gbS (mvS σ) 1) from by unfold rcV; rw [if_neg h8']] at Y
    generalize gbS (mvS σ) 1 = τ at *
    refine j_aload_n X rfl d_C_readCount_13 ?_
    refine g_C_19 X d_C_readCount_14 ?_
    refine j_iload_n X rfl d_C_readCount_17 ?_
    refine j_aload_n X rfl d_C_readCount_18 ?_
    refine g_C_15 X d_C_readCount_19 ?_
    refine g_C_163 X d_C_readCount_22 ?_
    refine v_C_166_1 X hz (c_B_set_M (zl z) E τ a (τ 14 0 2) hh2 (by omega)) rfl rfl rfl (Nat.le_of_ble_eq_true rfl) ⟨Nat.le_refl _, Nat.le_refl _⟩ d_C_readCount_25 ?_
    refine j_aload_n X rfl d_C_readCount_28 ?_
    refine g_C_19 X d_C_readCount_29 ?_
    refine j_iload_n X rfl d_C_readCount_32 ?_
    refine j_iconst X d_C_readCount_33 ?_
    refine j_iadd X d_C_readCount_34 ?_
    refine j_aload_n X rfl d_C_readCount_35 ?_
    refine g_C_15 X d_C_readCount_36 ?_
    refine g_C_141 X d_C_readCount_39 ?_
    refine v_C_166_1 X hz (c_B_set_M (zl z) E (up τ 2 0 a (τ 14 0 2 % 256)) (a + 1) (τ 14 0 3) (by_up (f := fun _ => 0) hh2) (by omega)) rfl rfl rfl (Nat.le_of_ble_eq_true rfl) ⟨Nat.le_refl _, Nat.le_refl _⟩ d_C_readCount_42 ?_
    refine j_aload_n X rfl d_C_readCount_45 ?_
    refine g_C_19 X d_C_readCount_46 ?_
    refine j_iload_n X rfl d_C_readCount_49 ?_
    refine j_iconst X d_C_readCount_50 ?_
    refine j_iadd X d_C_readCount_51 ?_
    refine j_aload_n X rfl d_C_readCount_52 ?_
    refine g_C_15 X d_C_readCount_53 ?_
    refine v_C_151 X hz (c_H_track (zl z) E _ hhd) rfl rfl rfl (Nat.le_of_ble_eq_true rfl) ⟨Nat.le_refl _, Nat.le_refl _⟩ d_C_readCount_56 ?_
    refine j_aload_n X rfl d_C_readCount_59 ?_
    refine g_C_15 X d_C_readCount_60 ?_
    refine g_C_141 X d_C_readCount_63 ?_
    refine v_C_170 X (okCT rfl (by omega)) hz (c_T_keyLength (zl z) E (up (up τ 2 0 a (τ 14 0 2 % 256)) 2 0 (a + 1) (τ 14 0 3 % 256)) (τ 14 0 2) (τ 14 0 3) (by omega) (by omega)) rfl rfl rfl (Nat.le_of_ble_eq_true rfl) ⟨Nat.le_refl _, Nat.le_refl _⟩ d_C_readCount_66 ?_
    refine v_C_166_1 X hz (c_B_set_M (zl z) E (up (up τ 2 0 a (τ 14 0 2 % 256)) 2 0 (a + 1) (τ 14 0 3 % 256)) (a + 2) (τ 6 (τ 14 0 2) (τ 14 0 3)) (by_up (f := fun _ => 0) (by_up (f := fun _ => 0) hh2)) (by omega)) rfl rfl rfl (Nat.le_of_ble_eq_true rfl) ⟨Nat.le_refl _, Nat.le_refl _⟩ d_C_readCount_69 ?_
    refine j_aload_n X rfl d_C_readCount_72 ?_
    refine g_C_19 X d_C_readCount_73 ?_
    refine j_iload_n X rfl d_C_readCount_76 ?_
    refine j_iconst X d_C_readCount_77 ?_
    refine j_iadd X d_C_readCount_78 ?_
    refine j_aload_n X rfl d_C_readCount_79 ?_
    refine g_C_15 X d_C_readCount_80 ?_
    refine v_C_151 X hz (c_H_track (zl z) E _ hhd) rfl rfl rfl (Nat.le_of_ble_eq_true rfl) ⟨Nat.le_refl _, Nat.le_refl _⟩ d_C_readCount_83 ?_
    refine j_aload_n X rfl d_C_readCount_86 ?_
    refine g_C_15 X d_C_readCount_87 ?_
    refine g_C_141 X d_C_readCount_90 ?_
    refine v_C_173 X (okCT rfl (by omega)) hz (c_T_dataLength (zl z) E (up (up (up τ 2 0 a (τ 14 0 2 % 256)) 2 0 (a + 1) (τ 14 0 3 % 256)) 2 0 (a + 2) (τ 6 (τ 14 0 2) (τ 14 0 3) % 256)) (τ 14 0 2) (τ 14 0 3) (by omega) (by omega)) rfl rfl rfl (Nat.le_of_ble_eq_true rfl) ⟨Nat.le_refl _, Nat.le_refl _⟩ d_C_readCount_93 ?_
    refine v_C_166_1 X hz (c_B_set_M (zl z) E (up (up (up τ 2 0 a (τ 14 0 2 % 256)) 2 0 (a + 1) (τ 14 0 3 % 256)) 2 0 (a + 2) (τ 6 (τ 14 0 2) (τ 14 0 3) % 256)) (a + 3) (dlS τ (τ 14 0 2) (τ 14 0 3)) (by_up (f := fun _ => 0) (by_up (f := fun _ => 0) (by_up (f := fun _ => 0) hh2))) (by omega)) rfl rfl rfl (Nat.le_of_ble_eq_true rfl) ⟨Nat.le_refl _, Nat.le_refl _⟩ d_C_readCount_96 ?_
    refine j_aload_n X rfl d_C_readCount_99 ?_
    refine v_C_148 X hz (c_C_statusOfIndex (zl z) E (rc4 τ a) hhd (show inR (τ 15 0 8) by omega)) rfl rfl rfl (Nat.le_of_ble_eq_true rfl) ⟨Nat.le_refl _, Nat.le_refl _⟩ d_C_readCount_100 ?_
    exact j_iret X Y (Nat.le_refl _) (Nat.le_refl _) d_C_readCount_103 ⟨rfl, rfl⟩
  · rw [if_pos (by omega)]
    refine j_iconst X d_C_readCount_11 ?_
    exact j_iret X Y (Nat.le_refl _) (Nat.le_refl _) d_C_readCount_12 ⟨by unfold rcV; rw [if_pos (by omega)], by unfold rcS; rw [if_pos (by omega)]⟩

set_option maxRecDepth 100000 in
set_option maxHeartbeats 4000000 in
theorem c_C_readPart (l : Launch) (E : eT) (σ : St) (p a b : Int) (h : rW σ) (hp : p = 2 ∨ p = 3) (ha : 0 ≤ a ∧ a + b ≤ 256) (hb : 0 ≤ b ∧ b ≤ 60) : FCon l E y_C_readPart ws_C_readPart 3 [.ref (E.2.2.2 15 0), .int (iI p), .int (iI a), .int (iI b)] σ (some (.int (iI (rpV σ p b)))) (rpS σ p a b) := by
  refine con_of (cc := b_C_readPart) (nL := 6) (ret := (some .int)) (by decide) (Nat.le_of_ble_eq_true rfl) (fun z X Y hn => ?_)
  have X : Cx E z b_C_readPart R_C := X
  have hz := Y.2.1
  change J E z 0 0 0 [(0, .ref (E.2.2.2 15 0)), (1, .int (iI p)), (2, .int (iI a)), (3, .int (iI b))] [] (cells E σ)
  have hw := h.1
  have hB := h.2.1
  have hr := h.2.2.1
  have htk := h.2.2.2.1
  have hk := h.2.2.2.2.1
  have h2 := h.2.2.2.2.2.1
  have h9 := h.2.2.2.2.2.2.1
  have h7 := h.2.2.2.2.2.2.2
  have hn4 := htk.1
  have hw1 := hw.1
  have hw2 := hw.2
  have h8 := hr 15 0 8
  have h14 := hr 14 0 4
  refine j_aload_n X rfl d_C_readPart_0 ?_
  refine g_C_15 X d_C_readPart_1 ?_
  refine j_iload_n X rfl d_C_readPart_4 ?_
  refine v_C_176 X hz (c_H_comeBehind (zl z) E σ p hw htk hr hk (by omega) (by omega)) rfl rfl rfl (Nat.le_of_ble_eq_true rfl) ⟨Nat.le_refl _, Nat.le_refl _⟩ d_C_readPart_5 ?_
  refine j_ifnz X d_C_readPart_8 (tgt := 13) rfl (fun h8' => ?_) (fun h8' => ?_)
  · skip
    have hco : coP σ p := h8'
    have hm := cm_in (p := p) h h8'
    have hmk := htk.2.2 (cmR σ p) hm.1 hm.2
    refine j_aload_n X rfl d_C_readPart_13 ?_
    refine j_dup X rfl d_C_readPart_14 ?_
    refine g_C_179 X d_C_readPart_15 ?_
    refine j_iconst X d_C_readPart_18 ?_
    refine j_iadd X d_C_readPart_19 ?_
    refine p_C_179 X d_C_readPart_20 ?_
    change J E z 0 0 23 _ _ (cells E (taS σ p))
    obtain ⟨τ, hτ⟩ : ∃ τ, τ = taS σ p := ⟨_, rfl⟩
    obtain ⟨k, hkk⟩ : ∃ k, k = cmR σ p := ⟨_, rfl⟩
    rw [← hkk] at hm hmk
    have q2 : τ 14 0 2 = σ 14 0 2 := by rw [hτ, ta_2]
    have q3 : τ 14 0 3 = k := by rw [hτ, hkk, ta_3 hco]
    have q5 : ∀ t j, τ 5 t j = σ 5 t j := fun t j => by rw [hτ, ta_k _ _ (by decide) (by decide)]
    have q6 : ∀ t j, τ 6 t j = σ 6 t j := fun t j => by rw [hτ, ta_k _ _ (by decide) (by decide)]
    have q7 : ∀ t j, τ 7 t j = σ 7 t j := fun t j => by rw [hτ, ta_k _ _ (by decide) (by decide)]
    have q9 : byR (τ 9 (σ 14 0 2)) := fun j => by rw [hτ, ta_k _ _ (by decide) (by decide)]; exact h9 j
    have qm : byR (τ 2 0) := fun j => by rw [hτ, ta_k _ _ (by decide) (by decide)]; exact h2 j
    have qh : hdW τ := by rw [hτ]; exact ta_hd h p
    have qdl : dlS τ (σ 14 0 2) k = dlS σ (σ 14 0 2) k := dl_up τ q5 q6
    have hdl : 0 ≤ dlS σ (σ 14 0 2) k ∧ dlS σ (σ 14 0 2) k ≤ 60 := by unfold dlS; omega
    rw [← hτ]
    refine j_aload_n X rfl d_C_readPart_23 ?_
    refine g_C_15 X d_C_readPart_24 ?_
    refine v_C_151 X hz (c_H_track (zl z) E τ qh) rfl rfl rfl (Nat.le_of_ble_eq_true rfl) ⟨Nat.le_refl _, Nat.le_refl _⟩ d_C_readPart_27 ?_
    rw [q2]
    refine j_astore X (zlt hn rfl) d_C_readPart_30 ?_
    have rest : (¬ (p = 3 ∧ σ 7 (σ 14 0 2) k = 1)) → J E z 0 0 59 [(0, .ref (E.2.2.2 15 0)), (1, .int (iI p)), (2, .int (iI a)), (3, .int (iI b)), (4, .ref (E.2.2.2 4 (σ 14 0 2)))] [] (cells E τ) := by
      intro hns
      obtain ⟨n, hnn⟩ : ∃ n, n = (if p = 2 then σ 6 (σ 14 0 2) k else dlS σ (σ 14 0 2) k) := ⟨_, rfl⟩
      have hn60 : 0 ≤ n ∧ n ≤ 60 := by rw [hnn]; split <;> omega
      have go : J E z 0 0 91 [(0, .ref (E.2.2.2 15 0)), (1, .int (iI p)), (2, .int (iI a)), (3, .int (iI b)), (4, .ref (E.2.2.2 4 (σ 14 0 2)))] [.int (iI n)] (cells E τ) := by
        have pbq : pbS (up τ 15 0 4 (b - n)) (σ 14 0 2) k (p - 1) = pbS σ (σ 14 0 2) k (p - 1) := pb_up (σ := σ) _ (fun t j => by rw [up_k _ _ _ _ _ _ (by decide), q5]) (fun t j => by rw [up_k _ _ _ _ _ _ (by decide), q6])
        have pbn : pbS σ (σ 14 0 2) k (p - 1) + (if n < b then n else b) ≤ 600 := by
          have hle : (if n < b then n else b) ≤ n := by split <;> omega
          rcases hp with rfl | rfl
          · rw [if_pos rfl] at hnn
            show pbS σ (σ 14 0 2) k 1 + _ ≤ 600
            unfold pbS
            rw [if_neg (by decide), if_neg (by decide)]
            omega
          · rw [if_neg (by decide)] at hnn
            show pbS σ (σ 14 0 2) k 2 + _ ≤ 600
            unfold pbS
            rw [if_neg (by decide), if_pos rfl]
            unfold dlS at hnn
            omega
        refine j_istore X (zlt hn rfl) d_C_readPart_91 ?_
        refine j_aload_n X rfl d_C_readPart_93 ?_
        refine j_iload_n X rfl d_C_readPart_94 ?_
        refine j_iload X rfl d_C_readPart_95 ?_
        refine j_isub X d_C_readPart_97 ?_
        refine p_C_62 X d_C_readPart_98 ?_
        refine j_aload X rfl d_C_readPart_101 ?_
        refine j_aload_n X rfl d_C_readPart_103 ?_
        refine g_C_15 X d_C_readPart_104 ?_
        refine g_C_141 X d_C_readPart_107 ?_
        refine j_topi (y := iI k) (congrArg iI q3) ?_
        refine j_iload_n X rfl d_C_readPart_110 ?_
        refine j_aload_n X rfl d_C_readPart_111 ?_
        refine g_C_19 X d_C_readPart_112 ?_
        refine j_iload_n X rfl d_C_readPart_115 ?_
        refine j_iload_n X rfl d_C_readPart_116 ?_
        refine j_iload X rfl d_C_readPart_117 ?_
        refine j_mmin X mm_C_185 (by omega) (by omega) hz rfl (Nat.le_of_ble_eq_true rfl) ⟨Nat.le_refl _, Nat.le_refl _⟩ d_C_readPart_119 ?_
        refine v_C_190 X (okCT rfl (by omega)) hz (c_T_readPart (zl z) E (up τ 15 0 4 (b - n)) (σ 14 0 2) k p a (if n < b then n else b) hw1 (by omega) (by omega) q9 qm ha.1 (by split <;> omega) (by split <;> omega) (by rw [pbq]; exact (pb_rng htk (by omega)).1) (by rw [pbq]; exact pbn)) rfl rfl rfl (Nat.le_of_ble_eq_true rfl) ⟨Nat.le_refl _, Nat.le_refl _⟩ d_C_readPart_122 ?_
        rw [pbq]
        refine j_aload_n X rfl d_C_readPart_125 ?_
        refine g_C_62 X d_C_readPart_126 ?_
        refine j_topi (y := iI (b - n)) rfl ?_
        refine j_if_ge X (by omega) d_C_readPart_129 (tgt := 136) rfl (fun h129 => ?_) (fun h129 => ?_)
        · skip
          refine j_iconst X d_C_readPart_136 ?_
          exact j_iret X Y (Nat.le_refl _) (Nat.le_refl _) d_C_readPart_137 ⟨by unfold rpV; rw [if_pos hco, ← hkk, if_neg hns, ← hnn]; first | rw [if_pos (by omega)] | rw [if_neg (by omega)], by unfold rpS; rw [if_pos hco, ← hkk, if_neg hns, ← hnn, ← hτ]⟩
        · skip
          refine j_iconst X d_C_readPart_132 ?_
          refine j_goto X d_C_readPart_133 (tgt := 137) rfl ?_
          exact j_iret X Y (Nat.le_refl _) (Nat.le_refl _) d_C_readPart_137 ⟨by unfold rpV; rw [if_pos hco, ← hkk, if_neg hns, ← hnn]; first | rw [if_pos (by omega)] | rw [if_neg (by omega)], by unfold rpS; rw [if_pos hco, ← hkk, if_neg hns, ← hnn, ← hτ]⟩
      refine j_iload_n X rfl d_C_readPart_59 ?_
      refine j_iconst X d_C_readPart_60 ?_
      refine j_icmp_ne X (by omega) (by omega) d_C_readPart_61 (tgt := 79) rfl (fun h61 => ?_) (fun h61 => ?_)
      · skip
        refine j_aload X rfl d_C_readPart_79 ?_
        refine j_aload_n X rfl d_C_readPart_81 ?_
        refine g_C_15 X d_C_readPart_82 ?_
        refine g_C_141 X d_C_readPart_85 ?_
        refine j_topi (y := iI k) (congrArg iI q3) ?_
        refine v_C_173 X (okCT rfl (by omega)) hz (c_T_dataLength (zl z) E τ (σ 14 0 2) k hw1 (by omega)) rfl rfl rfl (Nat.le_of_ble_eq_true rfl) ⟨Nat.le_refl _, Nat.le_refl _⟩ d_C_readPart_88 ?_
        refine j_topi (y := iI n) (by rw [hnn, if_neg (by omega), qdl]) ?_
        exact go
      · skip
        refine j_aload X rfl d_C_readPart_64 ?_
        refine j_aload_n X rfl d_C_readPart_66 ?_
        refine g_C_15 X d_C_readPart_67 ?_
        refine g_C_141 X d_C_readPart_70 ?_
        refine j_topi (y := iI k) (congrArg iI q3) ?_
        refine v_C_170 X (okCT rfl (by omega)) hz (c_T_keyLength (zl z) E τ (σ 14 0 2) k hw1 (by omega)) rfl rfl rfl (Nat.le_of_ble_eq_true rfl) ⟨Nat.le_refl _, Nat.le_refl _⟩ d_C_readPart_73 ?_
        refine j_topi (y := iI n) (by rw [hnn, if_pos (by omega), q6]) ?_
        refine j_goto X d_C_readPart_76 (tgt := 91) rfl ?_
        exact go
    refine j_iload_n X rfl d_C_readPart_32 ?_
    refine j_iconst X d_C_readPart_33 ?_
    refine j_icmp_ne X (by omega) (by omega) d_C_readPart_34 (tgt := 59) rfl (fun h34 => ?_) (fun h34 => ?_)
    · skip
      first | exact rest hns | exact rest (fun q => h34 q.1)
    · skip
      refine j_aload X rfl d_C_readPart_37 ?_
      refine j_aload_n X rfl d_C_readPart_39 ?_
      refine g_C_15 X d_C_readPart_40 ?_
      refine g_C_141 X d_C_readPart_43 ?_
      rw [q3]
      refine v_C_182 X (okCT rfl (by omega)) hz (c_T_isSpoiled (zl z) E τ (σ 14 0 2) k hw1 (by omega) (spB (by rw [q7]; exact h7 k))) rfl rfl rfl (Nat.le_of_ble_eq_true rfl) ⟨Nat.le_refl _, Nat.le_refl _⟩ d_C_readPart_46 ?_
      refine j_ifz X d_C_readPart_49 (tgt := 59) rfl (fun h49 => ?_) (fun h49 => ?_)
      · have hns : ¬ (p = 3 ∧ σ 7 (σ 14 0 2) k = 1) := fun q => h49 (by rw [q7]; exact q.2)
        first | exact rest hns | exact rest (fun q => h34 q.1)
      · have hsp : p = 3 ∧ σ 7 (σ 14 0 2) k = 1 := ⟨h34, by rw [q7] at h49; exact h49⟩
        refine j_aload_n X rfl d_C_readPart_52 ?_
        refine j_iload_n X rfl d_C_readPart_53 ?_
        refine p_C_62 X d_C_readPart_54 ?_
        refine j_iconst X d_C_readPart_57 ?_
        exact j_iret X Y (Nat.le_refl _) (Nat.le_refl _) d_C_readPart_58 ⟨by unfold rpV; rw [if_pos hco, ← hkk, if_pos hsp], by unfold rpS; rw [if_pos hco, ← hkk, if_pos hsp, hτ]⟩
  · rw [cbN h8']
    have hco : ¬ coP σ p := h8'
    refine j_iconst X d_C_readPart_11 ?_
    exact j_iret X Y (Nat.le_refl _) (Nat.le_refl _) d_C_readPart_12 ⟨by unfold rpV; rw [if_neg hco], by unfold rpS; rw [if_neg hco]⟩
