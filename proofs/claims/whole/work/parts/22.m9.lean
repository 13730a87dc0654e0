/-! the channel: writing; what may begin -/
/-- the track behind the head gets a record behind number k: its lengths -/
def wcS (σ : St) (kl dl : Int) : St := apS (up (geS σ) 4 (σ 14 0 2) 4 (σ 14 0 3)) (σ 14 0 2) kl dl
def wc1 (σ : St) (a kl dl : Int) : St := wrS (wcS σ kl dl) (σ 14 0 2) (σ 5 (σ 14 0 2) (σ 14 0 3 + 1) + 20) (a + 2) kl
def wc2 (σ : St) (a kl dl : Int) : St := up (wrS (wc1 σ a kl dl) (σ 14 0 2) (σ 5 (σ 14 0 2) (σ 14 0 3 + 1) + 20 + kl) (a + 2 + kl) dl) 7 (σ 14 0 2) (σ 14 0 3 + 1) 0
def wc3 (σ : St) (a kl dl : Int) : St := up (wc2 σ a kl dl) 15 0 6 (wc2 σ a kl dl 15 0 6 + 1)
def wcD (σ : St) (a kl dl : Int) : St := gbS (up (wc3 σ a kl dl) 14 0 3 (σ 14 0 3 + 1)) 3
def weS (σ : St) (a : Int) : St := if σ 5 (σ 14 0 2) (σ 14 0 3 + 1) + (20 + σ 2 0 a + σ 2 0 (a + 1)) ≤ 600 then wcD σ a (σ 2 0 a) (σ 2 0 (a + 1)) else geS σ
def weV (σ : St) (a : Int) : Int := if σ 5 (σ 14 0 2) (σ 14 0 3 + 1) + (20 + σ 2 0 a + σ 2 0 (a + 1)) ≤ 600 then 0 else 5
theorem ge_k (σ : St) {k : Nat} (h : k ≠ 14) (t j : Int) : geS σ k t j = σ k t j := by unfold geS; exact gtS_o _ _ (Or.inl h)
theorem ge_j (σ : St) {j : Int} (h : j ≠ 1) : geS σ 14 0 j = σ 14 0 j := by unfold geS; exact gtS_o _ _ (Or.inr h)
theorem ge_1 (σ : St) : geS σ 14 0 1 = σ 14 0 1 + (σ 5 (σ 14 0 2) (σ 14 0 3 + 1) - σ 14 0 1 % 600 + 600) % 600 := by unfold geS; rw [gtS_t]; unfold pbS; rw [if_pos rfl]
theorem tk_end {σ : St} {t k : Int} (h : tkW σ t) (hk : 0 ≤ k ∧ k ≤ σ 4 t 4) : 0 ≤ σ 5 t (k + 1) ∧ σ 5 t (k + 1) ≤ 600 ∧ 20 * k ≤ σ 5 t (k + 1) := by
  have key : ∀ m : Nat, (m : Int) ≤ σ 4 t 4 → 0 ≤ σ 5 t ((m : Int) + 1) ∧ σ 5 t ((m : Int) + 1) ≤ 600 ∧ 20 * (m : Int) ≤ σ 5 t ((m : Int) + 1) := by
    intro m
    induction m with
    | zero => intro _; have := h.2.1; simp only [Int.natCast_zero, Int.zero_add]; omega
    | succ m ih =>
      intro hm
      have h1 := ih (by omega)
      have h2 := h.2.2 ((m : Int) + 1) (by omega) (by omega)
      rw [show ((m + 1 : Nat) : Int) = (m : Int) + 1 by omega]
      omega
  have := key k.toNat (by omega)
  rw [Int.toNat_of_nonneg hk.1] at this
  exact this

set_option maxRecDepth 100000 in
set_option maxHeartbeats 4000000 in
theorem c_C_writeData (l : Launch) (E : eT) (σ : St) (a b : Int) (h : rW σ) (ha : 0 ≤ a ∧ a + b ≤ 256) (hb : 0 ≤ b ∧ b ≤ 60) : FCon l E y_C_writeData ws_C_writeData 3 [.ref (E.2.2.2 15 0), .int (iI a), .int (iI b)] σ (some (.int (iI (wdV σ b)))) (wdS σ a b) := by
  refine con_of (cc := b_C_writeData) (nL := 4) (ret := (some .int)) (by decide) (Nat.le_of_ble_eq_true rfl) (fun z X Y hn => ?_)
  have X : Cx E z b_C_writeData R_C := X
  have hz := Y.2.1
  change J E z 0 0 0 [(0, .ref (E.2.2.2 15 0)), (1, .int (iI a)), (2, .int (iI b))] [] (cells E σ)
  have hw := h.1
  have hB := h.2.1
  have hr := h.2.2.1
  have htk := h.2.2.2.1
  have hk := h.2.2.2.2.1
  have h2 := h.2.2.2.2.2.1
  have h9 := h.2.2.2.2.2.2.1
  have h7 := h.2.2.2.2.2.2.2
  have hn4 := htk.1
  have hw1 := hw.1
  have hw2 := hw.2
  have h8 := hr 15 0 8
  have h14 := hr 14 0 4
  refine j_aload_n X rfl d_C_writeData_0 ?_
  refine g_C_15 X d_C_writeData_1 ?_
  refine j_iconst X d_C_writeData_4 ?_
  refine v_C_176 X hz (c_H_comeBehind (zl z) E σ 3 hw htk hr hk (by omega) (by decide)) rfl rfl rfl (Nat.le_of_ble_eq_true rfl) ⟨Nat.le_refl _, Nat.le_refl _⟩ d_C_writeData_5 ?_
  refine j_ifnz X d_C_writeData_8 (tgt := 13) rfl (fun h8' => ?_) (fun h8' => ?_)
  · skip
    have hco : coP σ 3 := h8'
    have hm := cm_in (p := 3) h h8'
    have hmk := htk.2.2 (cmR σ 3) hm.1 hm.2
    refine j_aload_n X rfl d_C_writeData_13 ?_
    refine j_dup X rfl d_C_writeData_14 ?_
    refine g_C_179 X d_C_writeData_15 ?_
    refine j_iconst X d_C_writeData_18 ?_
    refine j_iadd X d_C_writeData_19 ?_
    refine p_C_179 X d_C_writeData_20 ?_
    change J E z 0 0 23 _ _ (cells E (taS σ 3))
    obtain ⟨τ, hτ⟩ : ∃ τ, τ = taS σ 3 := ⟨_, rfl⟩
    obtain ⟨k, hkk⟩ : ∃ k, k = cmR σ 3 := ⟨_, rfl⟩
    rw [← hkk] at hm hmk
    have q2 : τ 14 0 2 = σ 14 0 2 := by rw [hτ, ta_2]
    have q3 : τ 14 0 3 = k := by rw [hτ, hkk, ta_3 hco]
    have q5 : ∀ t j, τ 5 t j = σ 5 t j := fun t j => by rw [hτ, ta_k _ _ (by decide) (by decide)]
    have q6 : ∀ t j, τ 6 t j = σ 6 t j := fun t j => by rw [hτ, ta_k _ _ (by decide) (by decide)]
    have q7 : ∀ t j, τ 7 t j = σ 7 t j := fun t j => by rw [hτ, ta_k _ _ (by decide) (by decide)]
    have q9 : byR (τ 9 (σ 14 0 2)) := fun j => by rw [hτ, ta_k _ _ (by decide) (by decide)]; exact h9 j
    have qm : byR (τ 2 0) := fun j => by rw [hτ, ta_k _ _ (by decide) (by decide)]; exact h2 j
    have qh : hdW τ := by rw [hτ]; exact ta_hd h 3
    have qdl : dlS τ (σ 14 0 2) k = dlS σ (σ 14 0 2) k := dl_up τ q5 q6
    have hdl : 0 ≤ dlS σ (σ 14 0 2) k ∧ dlS σ (σ 14 0 2) k ≤ 60 := by unfold dlS; omega
    rw [← hτ]
    refine j_aload_n X rfl d_C_writeData_23 ?_
    refine g_C_15 X d_C_writeData_24 ?_
    refine v_C_151 X hz (c_H_track (zl z) E τ qh) rfl rfl rfl (Nat.le_of_ble_eq_true rfl) ⟨Nat.le_refl _, Nat.le_refl _⟩ d_C_writeData_27 ?_
    rw [q2]
    refine j_astore_n X (zlt hn rfl) d_C_writeData_30 ?_
    refine j_aload_n X rfl d_C_writeData_31 ?_
    refine j_iload_n X rfl d_C_writeData_32 ?_
    refine j_aload_n X rfl d_C_writeData_33 ?_
    refine j_aload_n X rfl d_C_writeData_34 ?_
    refine g_C_15 X d_C_writeData_35 ?_
    refine g_C_141 X d_C_writeData_38 ?_
    rw [q3]
    refine v_C_173 X (okCT rfl (by omega)) hz (c_T_dataLength (zl z) E τ (σ 14 0 2) k hw1 (by omega)) rfl rfl rfl (Nat.le_of_ble_eq_true rfl) ⟨Nat.le_refl _, Nat.le_refl _⟩ d_C_writeData_41 ?_
    rw [qdl]
    refine j_isub X d_C_writeData_44 ?_
    refine p_C_62 X d_C_writeData_45 ?_
    refine j_aload_n X rfl d_C_writeData_48 ?_
    refine g_C_62 X d_C_writeData_49 ?_
    refine j_topi (y := iI (b - dlS σ (σ 14 0 2) k)) rfl ?_
    refine j_if_eq X (by omega) d_C_writeData_52 (tgt := 57) rfl (fun h52 => ?_) (fun h52 => ?_)
    · skip
      refine j_aload_n X rfl d_C_writeData_57 ?_
      refine j_aload_n X rfl d_C_writeData_58 ?_
      refine g_C_15 X d_C_writeData_59 ?_
      refine g_C_141 X d_C_writeData_62 ?_
      refine j_topi (y := iI k) (congrArg iI q3) ?_
      refine j_aload_n X rfl d_C_writeData_65 ?_
      refine g_C_19 X d_C_writeData_66 ?_
      refine j_iload_n X rfl d_C_writeData_69 ?_
      have pbq : ∀ p, pbS (up τ 15 0 4 (b - dlS σ (σ 14 0 2) k)) (σ 14 0 2) k p = pbS σ (σ 14 0 2) k p := fun p => pb_up (σ := σ) _ (fun t j => by rw [up_k _ _ _ _ _ _ (by decide), q5]) (fun t j => by rw [up_k _ _ _ _ _ _ (by decide), q6])
      have pd : pbS σ (σ 14 0 2) k 3 - pbS σ (σ 14 0 2) k (3 - 1) = dlS σ (σ 14 0 2) k := by show pbS σ (σ 14 0 2) k 3 - pbS σ (σ 14 0 2) k 2 = _; unfold pbS dlS; rw [if_pos rfl, if_neg (by decide), if_pos rfl]
      have p2 := pb_rng (p := 3 - 1) htk hm
      have p3 := pb_rng (p := 3) htk hm
      refine v_C_193 X (okCT rfl (by omega)) hz (c_T_writeData (zl z) E (up τ 15 0 4 (b - dlS σ (σ 14 0 2) k)) (σ 14 0 2) k a hw1 (by omega) q9 qm ha.1 (by rw [pbq, pbq, pd]; omega) (by rw [pbq, pbq, pd]; omega) (by rw [pbq]; omega) (by rw [pbq]; omega)) rfl rfl rfl (Nat.le_of_ble_eq_true rfl) ⟨Nat.le_refl _, Nat.le_refl _⟩ d_C_writeData_70 ?_
      rw [pbq, pbq]
      refine j_iconst X d_C_writeData_73 ?_
      exact j_iret X Y (Nat.le_refl _) (Nat.le_refl _) d_C_writeData_74 ⟨by unfold wdV; rw [if_pos hco, ← hkk, if_pos (by omega)], by unfold wdS; rw [if_pos hco, ← hkk, if_pos (by omega), ← hτ]; rfl⟩
    · skip
      refine j_iconst X d_C_writeData_55 ?_
      exact j_iret X Y (Nat.le_refl _) (Nat.le_refl _) d_C_writeData_56 ⟨by unfold wdV; rw [if_pos hco, ← hkk, if_neg (by omega)], by unfold wdS; rw [if_pos hco, ← hkk, if_neg (by omega), ← hτ]⟩
  · rw [cbN h8']
    have hco : ¬ coP σ 3 := h8'
    refine j_iconst X d_C_writeData_11 ?_
    exact j_iret X Y (Nat.le_refl _) (Nat.le_refl _) d_C_writeData_12 ⟨by unfold wdV; rw [if_neg hco], by unfold wdS; rw [if_neg hco]⟩

set_option maxRecDepth 100000 in
set_option maxHeartbeats 4000000 in
theorem c_C_writeRecord (l : Launch) (E : eT) (σ : St) (a : Int) (h : rW σ) (ha : riM σ a) : FCon l E y_C_writeRecord ws_C_writeRecord 4 [.ref (E.2.2.2 15 0), .int (iI a)] σ (some (.int (iI (weV σ a)))) (weS σ a) := by
  refine con_of (cc := b_C_writeRecord) (nL := 6) (ret := (some .int)) (by decide) (Nat.le_of_ble_eq_true rfl) (fun z X Y hn => ?_)
  have X : Cx E z b_C_writeRecord R_C := X
  have hz := Y.2.1
  change J E z 0 0 0 [(0, .ref (E.2.2.2 15 0)), (1, .int (iI a))] [] (cells E σ)
  have hw := h.1
  have hB := h.2.1
  have hr := h.2.2.1
  have htk := h.2.2.2.1
  have hk := h.2.2.2.2.1
  have h2 := h.2.2.2.2.2.1
  have h9 := h.2.2.2.2.2.2.1
  have h7 := h.2.2.2.2.2.2.2
  have hn4 := htk.1
  have hw1 := hw.1
  have hw2 := hw.2
  have h8 := hr 15 0 8
  have h14 := hr 14 0 4
  obtain ⟨ha1, ha2, ha3, ha4⟩ := ha
  unfold inM at ha1 ha4
  have b0 := h2 a
  have b1 := h2 (a + 1)
  have he := tk_end htk hk
  obtain ⟨t, hte⟩ : ∃ t, t = σ 14 0 2 := ⟨_, rfl⟩
  obtain ⟨r, hre⟩ : ∃ r, r = σ 14 0 3 := ⟨_, rfl⟩
  obtain ⟨kl, hkl⟩ : ∃ kl, kl = σ 2 0 a := ⟨_, rfl⟩
  obtain ⟨dl, hdl⟩ : ∃ dl, dl = σ 2 0 (a + 1) := ⟨_, rfl⟩
  obtain ⟨e, hee⟩ : ∃ e, e = σ 5 t (r + 1) := ⟨_, rfl⟩
  have g2 : geS σ 14 0 2 = t := by rw [ge_j _ (by decide), hte]
  have g3 : geS σ 14 0 3 = r := by rw [ge_j _ (by decide), hre]
  have ghd : hdW (geS σ) := gtS_hd (B := 0) hw (by omega)
  have g5 : geS σ 5 t (r + 1) = e := by rw [ge_k _ (by decide), hee]
  have pe : pbS σ (σ 14 0 2) (σ 14 0 3) 3 = e := by unfold pbS; rw [if_pos rfl, hee, hte, hre]
  rw [← hte, ← hre, ← hee] at he
  rw [← hte] at hw1 htk h9 hn4 hk
  rw [← hre] at hk
  refine j_aload_n X rfl d_C_writeRecord_0 ?_
  refine g_C_19 X d_C_writeRecord_1 ?_
  refine j_iload_n X rfl d_C_writeRecord_4 ?_
  refine v_C_99_1 X hz (c_B_get_M (zl z) E σ a h2 (by omega)) rfl rfl rfl (Nat.le_of_ble_eq_true rfl) ⟨Nat.le_refl _, Nat.le_refl _⟩ d_C_writeRecord_5 ?_
  rw [← hkl]
  refine j_istore_n X (zlt hn rfl) d_C_writeRecord_8 ?_
  refine j_aload_n X rfl d_C_writeRecord_9 ?_
  refine g_C_19 X d_C_writeRecord_10 ?_
  refine j_iload_n X rfl d_C_writeRecord_13 ?_
  refine j_iconst X d_C_writeRecord_14 ?_
  refine j_iadd X d_C_writeRecord_15 ?_
  refine v_C_99_1 X hz (c_B_get_M (zl z) E σ (a + 1) h2 (by omega)) rfl rfl rfl (Nat.le_of_ble_eq_true rfl) ⟨Nat.le_refl _, Nat.le_refl _⟩ d_C_writeRecord_16 ?_
  rw [← hdl]
  refine j_istore_n X (zlt hn rfl) d_C_writeRecord_19 ?_
  refine j_aload_n X rfl d_C_writeRecord_20 ?_
  refine g_C_15 X d_C_writeRecord_21 ?_
  refine v_C_151 X hz (c_H_track (zl z) E σ hw) rfl rfl rfl (Nat.le_of_ble_eq_true rfl) ⟨Nat.le_refl _, Nat.le_refl _⟩ d_C_writeRecord_24 ?_
  rw [← hte]
  refine j_astore X (zlt hn rfl) d_C_writeRecord_27 ?_
  refine j_aload_n X rfl d_C_writeRecord_29 ?_
  refine g_C_15 X d_C_writeRecord_30 ?_
  refine v_C_196 X hz (c_H_goToEnd (zl z) E σ hw (by rw [← hre]; omega) (by rw [pe]; omega)) rfl rfl rfl (Nat.le_of_ble_eq_true rfl) ⟨Nat.le_refl _, Nat.le_refl _⟩ d_C_writeRecord_33 ?_
  change J E z 0 0 36 _ _ (cells E (geS σ))
  refine j_aload X rfl d_C_writeRecord_36 ?_
  refine j_aload_n X rfl d_C_writeRecord_38 ?_
  refine g_C_15 X d_C_writeRecord_39 ?_
  refine g_C_141 X d_C_writeRecord_42 ?_
  rw [g3]
  refine j_bipush X rfl d_C_writeRecord_45 ?_
  refine j_iload_n X rfl d_C_writeRecord_47 ?_
  refine j_iadd X d_C_writeRecord_48 ?_
  refine j_iload_n X rfl d_C_writeRecord_49 ?_
  refine j_iadd X d_C_writeRecord_50 ?_
  refine v_C_199 X (okCT rfl (by omega)) hz (c_T_hasRoomBehind (zl z) E (geS σ) t r (20 + kl + dl) hw1 (by omega) (by rw [g5]; omega)) rfl rfl rfl (Nat.le_of_ble_eq_true rfl) ⟨Nat.le_refl _, Nat.le_refl _⟩ d_C_writeRecord_51 ?_
  rw [g5]
  refine j_ifnz X d_C_writeRecord_54 (tgt := 59) rfl (fun h54 => ?_) (fun h54 => ?_)
  · have hc : σ 5 (σ 14 0 2) (σ 14 0 3 + 1) + (20 + σ 2 0 a + σ 2 0 (a + 1)) ≤ 600 := by rw [← hte, ← hre, ← hkl, ← hdl, ← hee]; exact h54
    refine j_aload X rfl d_C_writeRecord_59 ?_
    refine j_aload_n X rfl d_C_writeRecord_61 ?_
    refine g_C_15 X d_C_writeRecord_62 ?_
    refine g_C_141 X d_C_writeRecord_65 ?_
    rw [g3]
    refine v_C_202 X (okCT rfl (by omega)) hz (c_T_cutBehind (zl z) E (geS σ) t r hw1) rfl rfl rfl (Nat.le_of_ble_eq_true rfl) ⟨Nat.le_refl _, Nat.le_refl _⟩ d_C_writeRecord_68 ?_
    refine j_aload X rfl d_C_writeRecord_71 ?_
    refine j_iload_n X rfl d_C_writeRecord_73 ?_
    refine j_iload_n X rfl d_C_writeRecord_74 ?_
    refine v_C_205 X (okCT rfl (by omega)) hz (c_T_append (zl z) E (up (geS σ) 4 t 4 r) t kl dl hw1 (by rw [up_s]; omega)) rfl rfl rfl (Nat.le_of_ble_eq_true rfl) ⟨Nat.le_refl _, Nat.le_refl _⟩ d_C_writeRecord_75 ?_
    rw [up_s]
    refine j_istore X (zlt hn rfl) d_C_writeRecord_78 ?_
    have ew : apS (up (geS σ) 4 t 4 r) t kl dl = wcS σ kl dl := by unfold wcS; rw [← hte, ← hre]
    rw [ew]
    obtain ⟨τ, hτ⟩ : ∃ τ, τ = wcS σ kl dl := ⟨_, rfl⟩
    have c5 : τ 5 t (r + 1) = e := by rw [hτ]; unfold wcS apS; rw [← hte, ← hre, up_s, up_j _ _ _ _ _ _ _ (by omega), up_k _ _ _ _ _ _ (by decide), up_k _ _ _ _ _ _ (by decide), up_k _ _ _ _ _ _ (by decide), g5]
    have c52 : τ 5 t (r + 1 + 1) = e + 20 + kl + dl := by rw [hτ]; unfold wcS apS; rw [← hte, ← hre, up_s (geS σ), up_s, up_k _ _ _ _ _ _ (by decide), g5]
    have c6 : τ 6 t (r + 1) = kl := by rw [hτ]; unfold wcS apS; rw [← hte, ← hre, up_k _ _ _ _ _ _ (by decide), up_s (geS σ), up_s]
    have ck : ∀ (q : Nat) (t' j : Int), q ≠ 4 → q ≠ 5 → q ≠ 6 → q ≠ 14 → τ q t' j = σ q t' j := fun q t' j h4 h5 h6 h14 => by rw [hτ]; unfold wcS apS; rw [up_k _ _ _ _ _ _ h5, up_k _ _ _ _ _ _ h6, up_k _ _ _ _ _ _ h4, up_k _ _ _ _ _ _ h4, ge_k _ h14]
    have c14 : ∀ j, τ 14 0 j = geS σ 14 0 j := fun j => by rw [hτ]; unfold wcS apS; rw [up_k _ _ _ _ _ _ (by decide), up_k _ _ _ _ _ _ (by decide), up_k _ _ _ _ _ _ (by decide), up_k _ _ _ _ _ _ (by decide)]
    have pb1 : ∀ s : St, (∀ t j, s 5 t j = τ 5 t j) → (∀ t j, s 6 t j = τ 6 t j) → pbS s t (r + 1) 1 = e + 20 ∧ pbS s t (r + 1) 2 = e + 20 + kl ∧ pbS s t (r + 1) 3 = e + 20 + kl + dl := fun s s5 s6 => by
      unfold pbS
      rw [s5, s5, s6, c5, c52, c6, if_neg (by decide), if_neg (by decide), if_neg (by decide), if_pos rfl, if_pos rfl]
      exact ⟨rfl, rfl, rfl⟩
    have q9 : byR (τ 9 t) := fun j => by rw [ck 9 t j (by decide) (by decide) (by decide) (by decide)]; exact h9 j
    have qm : byR (τ 2 0) := fun j => by rw [ck 2 0 j (by decide) (by decide) (by decide) (by decide)]; exact h2 j
    have pt := pb1 τ (fun _ _ => rfl) (fun _ _ => rfl)
    rw [← hτ]
    refine j_aload X rfl d_C_writeRecord_80 ?_
    refine j_iload X rfl d_C_writeRecord_82 ?_
    refine j_iconst X d_C_writeRecord_84 ?_
    refine j_aload_n X rfl d_C_writeRecord_85 ?_
    refine g_C_19 X d_C_writeRecord_86 ?_
    refine j_iload_n X rfl d_C_writeRecord_89 ?_
    refine j_iconst X d_C_writeRecord_90 ?_
    refine j_iadd X d_C_writeRecord_91 ?_
    refine v_C_208 X (okCT rfl (by omega)) hz (c_T_writePart (zl z) E τ t (r + 1) 2 (a + 2) hw1 (by omega) (by decide) (by decide) q9 qm (by omega) (by show a + 2 + (pbS τ t (r + 1) 2 - pbS τ t (r + 1) 1) ≤ 256; omega) (by show 0 ≤ pbS τ t (r + 1) 2 - pbS τ t (r + 1) 1; omega) (by show 0 ≤ pbS τ t (r + 1) 1; omega) (by omega)) rfl rfl rfl (Nat.le_of_ble_eq_true rfl) ⟨Nat.le_refl _, Nat.le_refl _⟩ d_C_writeRecord_92 ?_
    refine j_aload X rfl d_C_writeRecord_95 ?_
    refine j_iload X rfl d_C_writeRecord_97 ?_
    refine j_aload_n X rfl d_C_writeRecord_99 ?_
    refine g_C_19 X d_C_writeRecord_100 ?_
    refine j_iload_n X rfl d_C_writeRecord_103 ?_
    refine j_iconst X d_C_writeRecord_104 ?_
    refine j_iadd X d_C_writeRecord_105 ?_
    refine j_iload_n X rfl d_C_writeRecord_106 ?_
    refine j_iadd X d_C_writeRecord_107 ?_
    rw [show wrS τ t (pbS τ t (r + 1) (2 - 1)) (a + 2) (pbS τ t (r + 1) 2 - pbS τ t (r + 1) (2 - 1)) = wc1 σ a kl dl from by
      show wrS τ t (pbS τ t (r + 1) 1) (a + 2) (pbS τ t (r + 1) 2 - pbS τ t (r + 1) 1) = _
      unfold wc1
      rw [pt.1, pt.2.1, ← hτ, ← hte, ← hre, ← hee, show e + 20 + kl - (e + 20) = kl by omega]]
    obtain ⟨ζ, hζ⟩ : ∃ ζ, ζ = wc1 σ a kl dl := ⟨_, rfl⟩
    have zk : ∀ (q : Nat) (t' j : Int), q ≠ 9 → ζ q t' j = τ q t' j := fun q t' j h9' => by rw [hζ, hτ]; unfold wc1; rw [wr_k _ _ _ _ _ h9']
    have z9 : byR (ζ 9 t) := by rw [hζ]; unfold wc1; rw [← hte, ← hτ]; exact wr_by q9 qm
    have zm : byR (ζ 2 0) := fun j => by rw [zk 2 0 j (by decide)]; exact qm j
    have pz := pb1 ζ (fun t j => zk 5 t j (by decide)) (fun t j => zk 6 t j (by decide))
    rw [← hζ]
    refine v_C_193 X (okCT rfl (by omega)) hz (c_T_writeData (zl z) E ζ t (r + 1) (a + 2 + kl) hw1 (by omega) z9 zm (by omega) (by show a + 2 + kl + (pbS ζ t (r + 1) 3 - pbS ζ t (r + 1) 2) ≤ 256; omega) (by show 0 ≤ pbS ζ t (r + 1) 3 - pbS ζ t (r + 1) 2; omega) (by show 0 ≤ pbS ζ t (r + 1) 2; omega) (by omega)) rfl rfl rfl (Nat.le_of_ble_eq_true rfl) ⟨Nat.le_refl _, Nat.le_refl _⟩ d_C_writeRecord_108 ?_
    rw [show up (wrS ζ t (pbS ζ t (r + 1) (3 - 1)) (a + 2 + kl) (pbS ζ t (r + 1) 3 - pbS ζ t (r + 1) (3 - 1))) 7 t (r + 1) 0 = wc2 σ a kl dl from by
      show up (wrS ζ t (pbS ζ t (r + 1) 2) (a + 2 + kl) (pbS ζ t (r + 1) 3 - pbS ζ t (r + 1) 2)) 7 t (r + 1) 0 = _
      unfold wc2
      rw [pz.2.1, pz.2.2, ← hζ, ← hte, ← hre, ← hee, show e + 20 + kl + dl - (e + 20 + kl) = dl by omega]]
    refine j_aload_n X rfl d_C_writeRecord_111 ?_
    refine j_dup X rfl d_C_writeRecord_112 ?_
    refine g_C_179 X d_C_writeRecord_113 ?_
    refine j_iconst X d_C_writeRecord_116 ?_
    refine j_iadd X d_C_writeRecord_117 ?_
    refine p_C_179 X d_C_writeRecord_118 ?_
    change J E z 0 0 121 _ _ (cells E (wc3 σ a kl dl))
    refine j_aload_n X rfl d_C_writeRecord_121 ?_
    refine g_C_15 X d_C_writeRecord_122 ?_
    refine j_iload X rfl d_C_writeRecord_125 ?_
    have w3k : ∀ (q : Nat) (t' j : Int), q ≠ 7 → q ≠ 9 → q ≠ 15 → wc3 σ a kl dl q t' j = τ q t' j := fun q t' j h7' h9' h15 => by unfold wc3; rw [up_k _ _ _ _ _ _ h15]; unfold wc2; rw [up_k _ _ _ _ _ _ h7', wr_k _ _ _ _ _ h9', ← hζ, zk _ _ _ h9']
    have p3 := pb1 (wc3 σ a kl dl) (fun t j => w3k 5 t j (by decide) (by decide) (by decide)) (fun t j => w3k 6 t j (by decide) (by decide) (by decide))
    have w14 : ∀ j, wc3 σ a kl dl 14 0 j = geS σ 14 0 j := fun j => by rw [w3k 14 0 j (by decide) (by decide) (by decide), c14]
    have hd3 : hdW (wc3 σ a kl dl) := ⟨by rw [w14]; exact ghd.1, by rw [w14]; exact ghd.2⟩
    refine v_C_212 X hz (c_H_orientToNew (zl z) E (wc3 σ a kl dl) (r + 1) hd3 (by omega) (by rw [w14, g2, p3.2.2]; omega)) rfl rfl rfl (Nat.le_of_ble_eq_true rfl) ⟨Nat.le_refl _, Nat.le_refl _⟩ d_C_writeRecord_127 ?_
    refine j_iconst X d_C_writeRecord_130 ?_
    exact j_iret X Y (Nat.le_refl _) (Nat.le_refl _) d_C_writeRecord_131 ⟨by unfold weV; rw [if_pos hc], by unfold weS wcD; rw [if_pos hc, ← hre, ← hkl, ← hdl]⟩
  · have hc : ¬ σ 5 (σ 14 0 2) (σ 14 0 3 + 1) + (20 + σ 2 0 a + σ 2 0 (a + 1)) ≤ 600 := by rw [← hte, ← hre, ← hkl, ← hdl, ← hee]; exact h54
    refine j_iconst X d_C_writeRecord_57 ?_
    exact j_iret X Y (Nat.le_refl _) (Nat.le_refl _) d_C_writeRecord_58 ⟨by unfold weV; rw [if_neg hc], by unfold weS; rw [if_neg hc]⟩

set_option maxRecDepth 100000 in
set_option maxHeartbeats 4000000 in
theorem c_C_canBegin (l : Launch) (E : eT) (σ : St) (k : Int) (hk : 0 ≤ k ∧ k < 16) (hr : rg σ) (h2 : byR (σ 2 0)) (hkd : 0 ≤ σ 11 0 k ∧ σ 11 0 k ≤ 11) : FCon l E y_C_canBegin ws_C_canBegin 3 [.ref (E.2.2.2 15 0), .int (iI k)] σ (some (.int (iI (b2i (@decide (cbP σ k) (Classical.propDecidable _)))))) σ := by
  refine con_of (cc := b_C_canBegin) (nL := 4) (ret := (some .boolean)) (by decide) (Nat.le_of_ble_eq_true rfl) (fun z X Y hn => ?_)
  have X : Cx E z b_C_canBegin R_C := X
  have hz := Y.2.1
  change J E z 0 0 0 [(0, .ref (E.2.2.2 15 0)), (1, .int (iI k))] [] (cells E σ)
  have ra := hr 12 0 k
  have rb := hr 13 0 k
  have rn := hr 15 0 10
  refine j_aload_n X rfl d_C_canBegin_0 ?_
  refine g_C_9 X d_C_canBegin_1 ?_
  refine g_C_86 X d_C_canBegin_4 ?_
  refine j_iload_n X rfl d_C_canBegin_7 ?_
  refine j_iald X (by first | exact okC1 rfl | exact (okCT rfl (by omega))) (fun _ => rfl) rfl (by omega) d_C_canBegin_8 ?_
  refine j_istore_n X (zlt hn rfl) d_C_canBegin_9 ?_
  refine j_aload_n X rfl d_C_canBegin_10 ?_
  refine g_C_9 X d_C_canBegin_11 ?_
  refine g_C_89 X d_C_canBegin_14 ?_
  refine j_iload_n X rfl d_C_canBegin_17 ?_
  refine j_iald X (by first | exact okC1 rfl | exact (okCT rfl (by omega))) (fun _ => rfl) rfl (by omega) d_C_canBegin_18 ?_
  refine j_istore_n X (zlt hn rfl) d_C_canBegin_19 ?_
  refine j_aload_n X rfl d_C_canBegin_20 ?_
  refine g_C_9 X d_C_canBegin_21 ?_
  refine g_C_78 X d_C_canBegin_24 ?_
  refine j_iload_n X rfl d_C_canBegin_27 ?_
  refine j_iald X (by first | exact okC1 rfl | exact (okCT rfl (by omega))) (fun _ => rfl) rfl (by omega) d_C_canBegin_28 ?_
  rcases (show σ 11 0 k = 0 ∨ σ 11 0 k = 1 ∨ σ 11 0 k = 2 ∨ σ 11 0 k = 3 ∨ σ 11 0 k = 4 ∨ σ 11 0 k = 5 ∨ σ 11 0 k = 6 ∨ σ 11 0 k = 7 ∨ σ 11 0 k = 8 ∨ σ 11 0 k = 9 ∨ σ 11 0 k = 10 ∨ σ 11 0 k = 11 by omega) with hK | hK | hK | hK | hK | hK | hK | hK | hK | hK | hK | hK
  · rw [hK]
    have hI := cb0 hK
    refine j_tableIn X (by decide) d_C_canBegin_29 (by decide) (by decide) rfl (tgt := 92) rfl ?_
    refine j_iload_n X rfl d_C_canBegin_92 ?_
    refine j_iconst X d_C_canBegin_93 ?_
    refine j_bipush X rfl d_C_canBegin_94 ?_
    refine s_C_82 X hz (c_isWithin (zl z) E σ (σ 12 0 k) 0 31 ra (by decide) (by decide)) rfl rfl rfl (Nat.le_of_ble_eq_true rfl) ⟨Nat.le_refl _, Nat.le_refl _⟩ d_C_canBegin_96 ?_
    exact j_zret X Y (by first | rfl | exact b2i_nar _) (Nat.le_refl _) (Nat.le_refl _) d_C_canBegin_99 ⟨vbi hI.symm, rfl⟩
  · rw [hK]
    have hI : cbP σ k := cb1 (Or.inl hK)
    refine j_tableIn X (by decide) d_C_canBegin_29 (by decide) (by decide) rfl (tgt := 192) rfl ?_
    refine j_iconst X d_C_canBegin_192 ?_
    exact j_zret X Y (by first | rfl | exact b2i_nar _) (Nat.le_refl _) (Nat.le_refl _) d_C_canBegin_193 ⟨vb1 hI, rfl⟩
  · rw [hK]
    have hI := cb2 (Or.inl hK)
    refine j_tableIn X (by decide) d_C_canBegin_29 (by decide) (by decide) rfl (tgt := 100) rfl ?_
    refine j_iload_n X rfl d_C_canBegin_100 ?_
    refine j_iconst X d_C_canBegin_101 ?_
    refine j_bipush X rfl d_C_canBegin_102 ?_
    refine s_C_82 X hz (c_isWithin (zl z) E σ (σ 13 0 k) 0 8 rb (by decide) (by decide)) rfl rfl rfl (Nat.le_of_ble_eq_true rfl) ⟨Nat.le_refl _, Nat.le_refl _⟩ d_C_canBegin_104 ?_
    refine j_ifz X d_C_canBegin_107 (tgt := 122) rfl (fun h107 => ?_) (fun h107 => ?_)
    · skip
      refine j_iconst X d_C_canBegin_122 ?_
      exact j_zret X Y (by first | rfl | exact b2i_nar _) (Nat.le_refl _) (Nat.le_refl _) d_C_canBegin_123 ⟨by first | exact vb1 (hI.mpr ⟨h107, h115⟩) | exact vb0 (fun q => h107 (hI.mp q).1) | exact vb0 (fun q => h115 (hI.mp q).2), rfl⟩
    · skip
      refine j_iload_n X rfl d_C_canBegin_110 ?_
      refine j_iload_n X rfl d_C_canBegin_111 ?_
      refine s_C_92 X hz (c_C_isInMemory (zl z) E σ (σ 12 0 k) (σ 13 0 k) ra (by omega)) rfl rfl rfl (Nat.le_of_ble_eq_true rfl) ⟨Nat.le_refl _, Nat.le_refl _⟩ d_C_canBegin_112 ?_
      refine j_ifz X d_C_canBegin_115 (tgt := 122) rfl (fun h115 => ?_) (fun h115 => ?_)
      · skip
        refine j_iconst X d_C_canBegin_122 ?_
        exact j_zret X Y (by first | rfl | exact b2i_nar _) (Nat.le_refl _) (Nat.le_refl _) d_C_canBegin_123 ⟨by first | exact vb1 (hI.mpr ⟨h107, h115⟩) | exact vb0 (fun q => h107 (hI.mp q).1) | exact vb0 (fun q => h115 (hI.mp q).2), rfl⟩
      · skip
        refine j_iconst X d_C_canBegin_118 ?_
        refine j_goto X d_C_canBegin_119 (tgt := 123) rfl ?_
        exact j_zret X Y (by first | rfl | exact b2i_nar _) (Nat.le_refl _) (Nat.le_refl _) d_C_canBegin_123 ⟨by first | exact vb1 (hI.mpr ⟨h107, h115⟩) | exact vb0 (fun q => h107 (hI.mp q).1) | exact vb0 (fun q => h115 (hI.mp q).2), rfl⟩
  · rw [hK]
    have hI := cb2 (Or.inr hK)
    refine j_tableIn X (by decide) d_C_canBegin_29 (by decide) (by decide) rfl (tgt := 100) rfl ?_
    refine j_iload_n X rfl d_C_canBegin_100 ?_
    refine j_iconst X d_C_canBegin_101 ?_
    refine j_bipush X rfl d_C_canBegin_102 ?_
    refine s_C_82 X hz (c_isWithin (zl z) E σ (σ 13 0 k) 0 8 rb (by decide) (by decide)) rfl rfl rfl (Nat.le_of_ble_eq_true rfl) ⟨Nat.le_refl _, Nat.le_refl _⟩ d_C_canBegin_104 ?_
    refine j_ifz X d_C_canBegin_107 (tgt := 122) rfl (fun h107 => ?_) (fun h107 => ?_)
    · skip
      refine j_iconst X d_C_canBegin_122 ?_
      exact j_zret X Y (by first | rfl | exact b2i_nar _) (Nat.le_refl _) (Nat.le_refl _) d_C_canBegin_123 ⟨by first | exact vb1 (hI.mpr ⟨h107, h115⟩) | exact vb0 (fun q => h107 (hI.mp q).1) | exact vb0 (fun q => h115 (hI.mp q).2), rfl⟩
    · skip
      refine j_iload_n X rfl d_C_canBegin_110 ?_
      refine j_iload_n X rfl d_C_canBegin_111 ?_
      refine s_C_92 X hz (c_C_isInMemory (zl z) E σ (σ 12 0 k) (σ 13 0 k) ra (by omega)) rfl rfl rfl (Nat.le_of_ble_eq_true rfl) ⟨Nat.le_refl _, Nat.le_refl _⟩ d_C_canBegin_112 ?_
      refine j_ifz X d_C_canBegin_115 (tgt := 122) rfl (fun h115 => ?_) (fun h115 => ?_)
      · skip
        refine j_iconst X d_C_canBegin_122 ?_
        exact j_zret X Y (by first | rfl | exact b2i_nar _) (Nat.le_refl _) (Nat.le_refl _) d_C_canBegin_123 ⟨by first | exact vb1 (hI.mpr ⟨h107, h115⟩) | exact vb0 (fun q => h107 (hI.mp q).1) | exact vb0 (fun q => h115 (hI.mp q).2), rfl⟩
      · skip
        refine j_iconst X d_C_canBegin_118 ?_
        refine j_goto X d_C_canBegin_119 (tgt := 123) rfl ?_
        exact j_zret X Y (by first | rfl | exact b2i_nar _) (Nat.le_refl _) (Nat.le_refl _) d_C_canBegin_123 ⟨by first | exact vb1 (hI.mpr ⟨h107, h115⟩) | exact vb0 (fun q => h107 (hI.mp q).1) | exact vb0 (fun q => h115 (hI.mp q).2), rfl⟩
  · rw [hK]
    have hI := cb4 hK
    refine j_tableIn X (by decide) d_C_canBegin_29 (by decide) (by decide) rfl (tgt := 124) rfl ?_
    refine j_iload_n X rfl d_C_canBegin_124 ?_
    refine j_aload_n X rfl d_C_canBegin_125 ?_
    refine g_C_68 X d_C_canBegin_126 ?_
    refine j_icmp_ne X (by omega) (by omega) d_C_canBegin_129 (tgt := 145) rfl (fun h129 => ?_) (fun h129 => ?_)
    · skip
      refine j_iconst X d_C_canBegin_145 ?_
      exact j_zret X Y (by first | rfl | exact b2i_nar _) (Nat.le_refl _) (Nat.le_refl _) d_C_canBegin_146 ⟨by first | exact vb1 (hI.mpr ⟨h129, h138⟩) | exact vb0 (fun q => h129 (hI.mp q).1) | exact vb0 (fun q => h138 (hI.mp q).2), rfl⟩
    · skip
      refine j_iload_n X rfl d_C_canBegin_132 ?_
      refine j_iconst X d_C_canBegin_133 ?_
      refine j_iload_n X rfl d_C_canBegin_134 ?_
      refine s_C_82 X hz (c_isWithin (zl z) E σ (σ 12 0 k) 0 k ra (by decide) (by omega)) rfl rfl rfl (Nat.le_of_ble_eq_true rfl) ⟨Nat.le_refl _, Nat.le_refl _⟩ d_C_canBegin_135 ?_
      refine j_ifz X d_C_canBegin_138 (tgt := 145) rfl (fun h138 => ?_) (fun h138 => ?_)
      · skip
        refine j_iconst X d_C_canBegin_145 ?_
        exact j_zret X Y (by first | rfl | exact b2i_nar _) (Nat.le_refl _) (Nat.le_refl _) d_C_canBegin_146 ⟨by first | exact vb1 (hI.mpr ⟨h129, h138⟩) | exact vb0 (fun q => h129 (hI.mp q).1) | exact vb0 (fun q => h138 (hI.mp q).2), rfl⟩
      · skip
        refine j_iconst X d_C_canBegin_141 ?_
        refine j_goto X d_C_canBegin_142 (tgt := 146) rfl ?_
        exact j_zret X Y (by first | rfl | exact b2i_nar _) (Nat.le_refl _) (Nat.le_refl _) d_C_canBegin_146 ⟨by first | exact vb1 (hI.mpr ⟨h129, h138⟩) | exact vb0 (fun q => h129 (hI.mp q).1) | exact vb0 (fun q => h138 (hI.mp q).2), rfl⟩
  · rw [hK]
    have hI := cb5 hK
    refine j_tableIn X (by decide) d_C_canBegin_29 (by decide) (by decide) rfl (tgt := 147) rfl ?_
    refine j_iload_n X rfl d_C_canBegin_147 ?_
    refine j_iconst X d_C_canBegin_148 ?_
    refine s_C_92 X hz (c_C_isInMemory (zl z) E σ (σ 12 0 k) 4 ra (by decide)) rfl rfl rfl (Nat.le_of_ble_eq_true rfl) ⟨Nat.le_refl _, Nat.le_refl _⟩ d_C_canBegin_149 ?_
    exact j_zret X Y (by first | rfl | exact b2i_nar _) (Nat.le_refl _) (Nat.le_refl _) d_C_canBegin_152 ⟨vbi hI.symm, rfl⟩
  · rw [hK]
    have hI := cb6 (Or.inl hK)
    refine j_tableIn X (by decide) d_C_canBegin_29 (by decide) (by decide) rfl (tgt := 153) rfl ?_
    refine j_iload_n X rfl d_C_canBegin_153 ?_
    refine j_iconst X d_C_canBegin_154 ?_
    refine j_bipush X rfl d_C_canBegin_155 ?_
    refine s_C_82 X hz (c_isWithin (zl z) E σ (σ 13 0 k) 0 60 rb (by decide) (by decide)) rfl rfl rfl (Nat.le_of_ble_eq_true rfl) ⟨Nat.le_refl _, Nat.le_refl _⟩ d_C_canBegin_157 ?_
    refine j_ifz X d_C_canBegin_160 (tgt := 175) rfl (fun h160 => ?_) (fun h160 => ?_)
    · skip
      refine j_iconst X d_C_canBegin_175 ?_
      exact j_zret X Y (by first | rfl | exact b2i_nar _) (Nat.le_refl _) (Nat.le_refl _) d_C_canBegin_176 ⟨by first | exact vb1 (hI.mpr ⟨h160, h168⟩) | exact vb0 (fun q => h160 (hI.mp q).1) | exact vb0 (fun q => h168 (hI.mp q).2), rfl⟩
    · skip
      refine j_iload_n X rfl d_C_canBegin_163 ?_
      refine j_iload_n X rfl d_C_canBegin_164 ?_
      refine s_C_92 X hz (c_C_isInMemory (zl z) E σ (σ 12 0 k) (σ 13 0 k) ra (by omega)) rfl rfl rfl (Nat.le_of_ble_eq_true rfl) ⟨Nat.le_refl _, Nat.le_refl _⟩ d_C_canBegin_165 ?_
      refine j_ifz X d_C_canBegin_168 (tgt := 175) rfl (fun h168 => ?_) (fun h168 => ?_)
      · skip
        refine j_iconst X d_C_canBegin_175 ?_
        exact j_zret X Y (by first | rfl | exact b2i_nar _) (Nat.le_refl _) (Nat.le_refl _) d_C_canBegin_176 ⟨by first | exact vb1 (hI.mpr ⟨h160, h168⟩) | exact vb0 (fun q => h160 (hI.mp q).1) | exact vb0 (fun q => h168 (hI.mp q).2), rfl⟩
      · skip
        refine j_iconst X d_C_canBegin_171 ?_
        refine j_goto X d_C_canBegin_172 (tgt := 176) rfl ?_
        exact j_zret X Y (by first | rfl | exact b2i_nar _) (Nat.le_refl _) (Nat.le_refl _) d_C_canBegin_176 ⟨by first | exact vb1 (hI.mpr ⟨h160, h168⟩) | exact vb0 (fun q => h160 (hI.mp q).1) | exact vb0 (fun q => h168 (hI.mp q).2), rfl⟩
  · rw [hK]
    have hI := cb6 (Or.inr (Or.inl hK))
    refine j_tableIn X (by decide) d_C_canBegin_29 (by decide) (by decide) rfl (tgt := 153) rfl ?_
    refine j_iload_n X rfl d_C_canBegin_153 ?_
    refine j_iconst X d_C_canBegin_154 ?_
    refine j_bipush X rfl d_C_canBegin_155 ?_
    refine s_C_82 X hz (c_isWithin (zl z) E σ (σ 13 0 k) 0 60 rb (by decide) (by decide)) rfl rfl rfl (Nat.le_of_ble_eq_true rfl) ⟨Nat.le_refl _, Nat.le_refl _⟩ d_C_canBegin_157 ?_
    refine j_ifz X d_C_canBegin_160 (tgt := 175) rfl (fun h160 => ?_) (fun h160 => ?_)
    · skip
      refine j_iconst X d_C_canBegin_175 ?_
      exact j_zret X Y (by first | rfl | exact b2i_nar _) (Nat.le_refl _) (Nat.le_refl _) d_C_canBegin_176 ⟨by first | exact vb1 (hI.mpr ⟨h160, h168⟩) | exact vb0 (fun q => h160 (hI.mp q).1) | exact vb0 (fun q => h168 (hI.mp q).2), rfl⟩
    · skip
      refine j_iload_n X rfl d_C_canBegin_163 ?_
      refine j_iload_n X rfl d_C_canBegin_164 ?_
      refine s_C_92 X hz (c_C_isInMemory (zl z) E σ (σ 12 0 k) (σ 13 0 k) ra (by omega)) rfl rfl rfl (Nat.le_of_ble_eq_true rfl) ⟨Nat.le_refl _, Nat.le_refl _⟩ d_C_canBegin_165 ?_
      refine j_ifz X d_C_canBegin_168 (tgt := 175) rfl (fun h168 => ?_) (fun h168 => ?_)
      · skip
        refine j_iconst X d_C_canBegin_175 ?_
        exact j_zret X Y (by first | rfl | exact b2i_nar _) (Nat.le_refl _) (Nat.le_refl _) d_C_canBegin_176 ⟨by first | exact vb1 (hI.mpr ⟨h160, h168⟩) | exact vb0 (fun q => h160 (hI.mp q).1) | exact vb0 (fun q => h168 (hI.mp q).2), rfl⟩
      · skip
        refine j_iconst X d_C_canBegin_171 ?_
        refine j_goto X d_C_canBegin_172 (tgt := 176) rfl ?_
        exact j_zret X Y (by first | rfl | exact b2i_nar _) (Nat.le_refl _) (Nat.le_refl _) d_C_canBegin_176 ⟨by first | exact vb1 (hI.mpr ⟨h160, h168⟩) | exact vb0 (fun q => h160 (hI.mp q).1) | exact vb0 (fun q => h168 (hI.mp q).2), rfl⟩
  · rw [hK]
    have hI := cb6 (Or.inr (Or.inr hK))
    refine j_tableIn X (by decide) d_C_canBegin_29 (by decide) (by decide) rfl (tgt := 153) rfl ?_
    refine j_iload_n X rfl d_C_canBegin_153 ?_
    refine j_iconst X d_C_canBegin_154 ?_
    refine j_bipush X rfl d_C_canBegin_155 ?_
    refine s_C_82 X hz (c_isWithin (zl z) E σ (σ 13 0 k) 0 60 rb (by decide) (by decide)) rfl rfl rfl (Nat.le_of_ble_eq_true rfl) ⟨Nat.le_refl _, Nat.le_refl _⟩ d_C_canBegin_157 ?_
    refine j_ifz X d_C_canBegin_160 (tgt := 175) rfl (fun h160 => ?_) (fun h160 => ?_)
    · skip
      refine j_iconst X d_C_canBegin_175 ?_
      exact j_zret X Y (by first | rfl | exact b2i_nar _) (Nat.le_refl _) (Nat.le_refl _) d_C_canBegin_176 ⟨by first | exact vb1 (hI.mpr ⟨h160, h168⟩) | exact vb0 (fun q => h160 (hI.mp q).1) | exact vb0 (fun q => h168 (hI.mp q).2), rfl⟩
    · skip
      refine j_iload_n X rfl d_C_canBegin_163 ?_
      refine j_iload_n X rfl d_C_canBegin_164 ?_
      refine s_C_92 X hz (c_C_isInMemory (zl z) E σ (σ 12 0 k) (σ 13 0 k) ra (by omega)) rfl rfl rfl (Nat.le_of_ble_eq_true rfl) ⟨Nat.le_refl _, Nat.le_refl _⟩ d_C_canBegin_165 ?_
      refine j_ifz X d_C_canBegin_168 (tgt := 175) rfl (fun h168 => ?_) (fun h168 => ?_)
      · skip
        refine j_iconst X d_C_canBegin_175 ?_
        exact j_zret X Y (by first | rfl | exact b2i_nar _) (Nat.le_refl _) (Nat.le_refl _) d_C_canBegin_176 ⟨by first | exact vb1 (hI.mpr ⟨h160, h168⟩) | exact vb0 (fun q => h160 (hI.mp q).1) | exact vb0 (fun q => h168 (hI.mp q).2), rfl⟩
      · skip
        refine j_iconst X d_C_canBegin_171 ?_
        refine j_goto X d_C_canBegin_172 (tgt := 176) rfl ?_
        exact j_zret X Y (by first | rfl | exact b2i_nar _) (Nat.le_refl _) (Nat.le_refl _) d_C_canBegin_176 ⟨by first | exact vb1 (hI.mpr ⟨h160, h168⟩) | exact vb0 (fun q => h160 (hI.mp q).1) | exact vb0 (fun q => h168 (hI.mp q).2), rfl⟩
  · rw [hK]
    have hI := cb9 hK
    refine j_tableIn X (by decide) d_C_canBegin_29 (by decide) (by decide) rfl (tgt := 177) rfl ?_
    refine j_aload_n X rfl d_C_canBegin_177 ?_
    refine j_iload_n X rfl d_C_canBegin_178 ?_
    refine v_C_96 X hz (c_C_isRecordInMemory (zl z) E σ (σ 12 0 k) ra h2) rfl rfl rfl (Nat.le_of_ble_eq_true rfl) ⟨Nat.le_refl _, Nat.le_refl _⟩ d_C_canBegin_179 ?_
    exact j_zret X Y (by first | rfl | exact b2i_nar _) (Nat.le_refl _) (Nat.le_refl _) d_C_canBegin_182 ⟨vbi hI.symm, rfl⟩
  · rw [hK]
    have hI : cbP σ k := cb1 (Or.inr hK)
    refine j_tableIn X (by decide) d_C_canBegin_29 (by decide) (by decide) rfl (tgt := 192) rfl ?_
    refine j_iconst X d_C_canBegin_192 ?_
    exact j_zret X Y (by first | rfl | exact b2i_nar _) (Nat.le_refl _) (Nat.le_refl _) d_C_canBegin_193 ⟨vb1 hI, rfl⟩
  · rw [hK]
    have hI := cb11 hK
    refine j_tableIn X (by decide) d_C_canBegin_29 (by decide) (by decide) rfl (tgt := 183) rfl ?_
    refine j_iload_n X rfl d_C_canBegin_183 ?_
    refine j_iconst X d_C_canBegin_184 ?_
    refine j_sipush X rfl d_C_canBegin_185 ?_
    refine s_C_82 X hz (c_isWithin (zl z) E σ (σ 13 0 k) 0 600 rb (by decide) (by decide)) rfl rfl rfl (Nat.le_of_ble_eq_true rfl) ⟨Nat.le_refl _, Nat.le_refl _⟩ d_C_canBegin_188 ?_
    exact j_zret X Y (by first | rfl | exact b2i_nar _) (Nat.le_refl _) (Nat.le_refl _) d_C_canBegin_191 ⟨vbi hI.symm, rfl⟩

set_option maxRecDepth 100000 in
set_option maxHeartbeats 4000000 in
theorem c_C_refusal (l : Launch) (E : eT) (σ : St) (k : Int) (hk : 0 ≤ k ∧ k < 16) (hr : rg σ) (h2 : byR (σ 2 0)) (hkd : 0 ≤ σ 11 0 k ∧ σ 11 0 k ≤ 11) : FCon l E y_C_refusal ws_C_refusal 4 [.ref (E.2.2.2 15 0), .int (iI k)] σ (some (.int (iI (if σ 15 0 5 = 400 then 6 else @ite _ (cbP σ k) (Classical.propDecidable _) 0 2)))) σ := by
  refine con_of (cc := b_C_refusal) (nL := 2) (ret := (some .int)) (by decide) (Nat.le_of_ble_eq_true rfl) (fun z X Y hn => ?_)
  have X : Cx E z b_C_refusal R_C := X
  have hz := Y.2.1
  change J E z 0 0 0 [(0, .ref (E.2.2.2 15 0)), (1, .int (iI k))] [] (cells E σ)
  have r5 := hr 15 0 5
  refine j_aload_n X rfl d_C_refusal_0 ?_
  refine g_C_65 X d_C_refusal_1 ?_
  refine j_sipush X rfl d_C_refusal_4 ?_
  refine j_icmp_ne X (by omega) (by omega) d_C_refusal_7 (tgt := 13) rfl (fun h7 => ?_) (fun h7 => ?_)
  · skip
    refine j_aload_n X rfl d_C_refusal_13 ?_
    refine j_iload_n X rfl d_C_refusal_14 ?_
    refine v_C_74 X hz (c_C_canBegin (zl z) E σ k hk hr h2 hkd) rfl rfl rfl (Nat.le_of_ble_eq_true rfl) ⟨Nat.le_refl _, Nat.le_refl _⟩ d_C_refusal_15 ?_
    refine j_ifz X d_C_refusal_18 (tgt := 25) rfl (fun h18 => ?_) (fun h18 => ?_)
    · skip
      refine j_iconst X d_C_refusal_25 ?_
      exact j_iret X Y (Nat.le_refl _) (Nat.le_refl _) d_C_refusal_26 ⟨by first | rw [if_neg h7, if_pos h18] | rw [if_neg h7, if_neg h18], rfl⟩
    · skip
      refine j_iconst X d_C_refusal_21 ?_
      refine j_goto X d_C_refusal_22 (tgt := 26) rfl ?_
      exact j_iret X Y (Nat.le_refl _) (Nat.le_refl _) d_C_refusal_26 ⟨by first | rw [if_neg h7, if_pos h18] | rw [if_neg h7, if_neg h18], rfl⟩
  · skip
    refine j_bipush X rfl d_C_refusal_10 ?_
    exact j_iret X Y (Nat.le_refl _) (Nat.le_refl _) d_C_refusal_12 ⟨by rw [if_pos h7], rfl⟩
