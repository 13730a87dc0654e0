/-! the public methods -/
theorem thL_in {σ : St} {a key n : Int} : ∀ (m : Nat) (i : Int), ¬ thL σ a key n m i = -1 → (0 ≤ thL σ a key n m i ∧ thL σ a key n m i < 32) ∧ 0 < noS σ (thL σ a key n m i) key 32 1 := by
  intro m
  induction m with
  | zero => intro i h; exact absurd rfl h
  | succ m ih =>
    intro i h
    rw [thL_s] at h ⊢
    by_cases h1 : i < n
    · rw [if_pos h1] at h ⊢
      by_cases h2 : ¬ tnO σ a key n i = -1 ∧ 0 < noS σ (tnO σ a key n i) key 32 1
      · rw [if_pos h2] at h ⊢
        exact ⟨tnO_in h2.1, h2.2⟩
      · rw [if_neg h2] at h ⊢
        exact ih (i + 1) h
    · rw [if_neg h1] at h
      exact absurd rfl h
theorem twL_in {σ : St} {a key n len : Int} : ∀ (m : Nat) (i : Int), ¬ twL σ a key n len m i = -1 → (0 ≤ twL σ a key n len m i ∧ twL σ a key n len m i < 32) ∧ σ 5 (twL σ a key n len m i) (σ 4 (twL σ a key n len m i) 4 + 1) + len ≤ 600 := by
  intro m
  induction m with
  | zero => intro i h; exact absurd rfl h
  | succ m ih =>
    intro i h
    rw [twL_s] at h ⊢
    by_cases h1 : i < n
    · rw [if_pos h1] at h ⊢
      by_cases h2 : ¬ tnO σ a key n i = -1 ∧ σ 5 (tnO σ a key n i) (σ 4 (tnO σ a key n i) 4 + 1) + len ≤ 600
      · rw [if_pos h2] at h ⊢
        exact ⟨tnO_in h2.1, h2.2⟩
      · rw [if_neg h2] at h ⊢
        exact ih (i + 1) h
    · rw [if_neg h1] at h
      exact absurd rfl h
theorem thL_R {σ : St} {a key n : Int} (m : Nat) (i : Int) : -1 ≤ thL σ a key n m i ∧ thL σ a key n m i < 32 := by
  by_cases h : thL σ a key n m i = -1
  · omega
  · have := (thL_in m i h).1; omega
theorem twL_R {σ : St} {a key n len : Int} (m : Nat) (i : Int) : -1 ≤ twL σ a key n len m i ∧ twL σ a key n len m i < 32 := by
  by_cases h : twL σ a key n len m i = -1
  · omega
  · have := (twL_in m i h).1; omega
theorem noS_pos {σ : St} {t key : Int} : ∀ (m : Nat) (k : Int), 1 ≤ k → 0 < noS σ t key m k → (k ≤ noS σ t key m k ∧ noS σ t key m k ≤ σ 4 t 4) ∧ σ 6 t (noS σ t key m k) = 4 ∧ hkS σ t (noS σ t key m k) key := by
  intro m
  induction m with
  | zero => intro k _ h; exact absurd h (Int.lt_irrefl 0)
  | succ m ih =>
    intro k hk h
    rw [noS_succ] at h ⊢
    by_cases h1 : σ 4 t 4 < k
    · rw [if_pos h1] at h
      exact absurd h (Int.lt_irrefl 0)
    · rw [if_neg h1] at h ⊢
      by_cases h2 : σ 6 t k = 4 ∧ hkS σ t k key
      · rw [if_pos h2] at h ⊢
        exact ⟨by omega, h2⟩
      · rw [if_neg h2] at h ⊢
        have := ih (k + 1) (by omega) h
        exact ⟨by omega, this.2⟩

set_option maxRecDepth 100000 in
set_option maxHeartbeats 4000000 in
theorem c_U_needArgument (l : Launch) (E : eT) (σ : St) : FCon l E y_U_needArgument ws_U_needArgument 0 [.int (iI 1)] σ none σ := by
  refine con_of (cc := b_U_needArgument) (nL := 1) (ret := none) (by decide) (Nat.le_of_ble_eq_true rfl) (fun z X Y hn => ?_)
  have X : Cx E z b_U_needArgument R_U := X
  have hz := Y.2.1
  change J E z 0 0 0 [(0, .int (iI 1))] [] (cells E σ)
  refine j_iload_n X rfl d_U_needArgument_0 ?_
  refine j_if_ne X (by omega) d_U_needArgument_1 (tgt := 12) rfl (fun h1 => ?_) (fun h1 => ?_)
  · skip
    exact j_vret X Y (Nat.le_refl _) (Nat.le_refl _) d_U_needArgument_12 ⟨rfl, rfl⟩
  · exact absurd h1 (by omega)

set_option maxRecDepth 100000 in
set_option maxHeartbeats 4000000 in
theorem c_U_needState (l : Launch) (E : eT) (σ : St) : FCon l E y_U_needState ws_U_needState 0 [.int (iI 1)] σ none σ := by
  refine con_of (cc := b_U_needState) (nL := 1) (ret := none) (by decide) (Nat.le_of_ble_eq_true rfl) (fun z X Y hn => ?_)
  have X : Cx E z b_U_needState R_U := X
  have hz := Y.2.1
  change J E z 0 0 0 [(0, .int (iI 1))] [] (cells E σ)
  refine j_iload_n X rfl d_U_needState_0 ?_
  refine j_if_ne X (by omega) d_U_needState_1 (tgt := 12) rfl (fun h1 => ?_) (fun h1 => ?_)
  · skip
    exact j_vret X Y (Nat.le_refl _) (Nat.le_refl _) d_U_needState_12 ⟨rfl, rfl⟩
  · exact absurd h1 (by omega)

set_option maxRecDepth 100000 in
set_option maxHeartbeats 4000000 in
theorem c_U_needSet (l : Launch) (E : eT) (σ : St) (a : Int) (ha : 0 ≤ a ∧ a ≤ 5) : FCon l E y_U_needSet ws_U_needSet 1 [.int (iI a)] σ none σ := by
  refine con_of (cc := b_U_needSet) (nL := 1) (ret := none) (by decide) (Nat.le_of_ble_eq_true rfl) (fun z X Y hn => ?_)
  have X : Cx E z b_U_needSet R_U := X
  have hz := Y.2.1
  change J E z 0 0 0 [(0, .int (iI a))] [] (cells E σ)
  refine j_iload_n X rfl d_U_needSet_0 ?_
  refine j_iconst X d_U_needSet_1 ?_
  refine j_iconst X d_U_needSet_2 ?_
  refine s_U_57 X hz (c_isWithin (zl z) E σ a 0 5 (by omega) (by omega) (by omega)) rfl rfl rfl (Nat.le_of_ble_eq_true rfl) ⟨Nat.le_refl _, Nat.le_refl _⟩ d_U_needSet_3 ?_
  refine j_topi (congrArg iI (b2i_t (by omega))) ?_
  refine s_U_61 X hz (c_U_needArgument (zl z) E σ) rfl rfl rfl (Nat.le_of_ble_eq_true rfl) ⟨Nat.le_refl _, Nat.le_refl _⟩ d_U_needSet_6 ?_
  exact j_vret X Y (Nat.le_refl _) (Nat.le_refl _) d_U_needSet_9 ⟨rfl, rfl⟩

set_option maxRecDepth 100000 in
set_option maxHeartbeats 4000000 in
theorem x_U_needSet (l : Launch) (hl0 : l.stackTraces = false) (E : eT) (σ : St) (a : Int) (hi : inR a) (ha : ¬ (0 ≤ a ∧ a ≤ 5)) : TCon l E y_U_needSet ws_U_needSet 7 1 6 [.int (iI a)] (cells E σ) iaX (cells E σ) := by
  refine tcon_of (cc := b_U_needSet) (nL := 1) (ret := none) (by decide) (Nat.le_of_ble_eq_true rfl) (fun z X Y hn => ?_)
  have X : Cx E z b_U_needSet R_U := X
  have hz := Y.2.1
  have hs : (zl z).stackTraces = false := by rw [Y.1]; exact hl0
  change J E z 0 0 0 [(0, .int (iI a))] [] (cells E σ)
  refine j_iload_n X rfl d_U_needSet_0 ?_
  refine j_iconst X d_U_needSet_1 ?_
  refine j_iconst X d_U_needSet_2 ?_
  refine s_U_57 X hz (c_isWithin (zl z) E σ a 0 5 (by omega) (by omega) (by omega)) rfl rfl rfl (Nat.le_of_ble_eq_true rfl) ⟨Nat.zero_le _, Nat.zero_le _⟩ d_U_needSet_3 ?_
  refine j_topi (congrArg iI (b2i_f (by omega))) ?_
  exact j_out X Y ⟨Nat.le_refl _, Nat.le_refl _⟩ (fun H locs ls hP hD hS hLs => t_cS X mc_U_61 yo_U_needArgument rfl rfl hz (x_U_needArgument _ hs E _) rfl rfl rfl (Nat.le_of_ble_eq_true rfl) ⟨Nat.le_refl _, Nat.le_refl _⟩ d_U_needSet_6 hP hD hS hLs)

set_option maxRecDepth 100000 in
set_option maxHeartbeats 4000000 in
theorem c_U_needRecord (l : Launch) (E : eT) (σ : St) (t k : Int) (ht : 0 ≤ t ∧ t ≤ 31) (hk : inR k) (hr : rg σ) (hh : 1 ≤ k ∧ k ≤ σ 4 t 4) : FCon l E y_U_needRecord ws_U_needRecord 2 [.ref (E.2.2.2 0 0), .int (iI t), .int (iI k)] σ none σ := by
  refine con_of (cc := b_U_needRecord) (nL := 3) (ret := none) (by decide) (Nat.le_of_ble_eq_true rfl) (fun z X Y hn => ?_)
  have X : Cx E z b_U_needRecord R_U := X
  have hz := Y.2.1
  change J E z 0 0 0 [(0, .ref (E.2.2.2 0 0)), (1, .int (iI t)), (2, .int (iI k))] [] (cells E σ)
  refine j_iload_n X rfl d_U_needRecord_0 ?_
  refine j_iconst X d_U_needRecord_1 ?_
  refine j_bipush X rfl d_U_needRecord_2 ?_
  refine s_U_57 X hz (c_isWithin (zl z) E σ t 0 31 (by omega) (by omega) (by omega)) rfl rfl rfl (Nat.le_of_ble_eq_true rfl) ⟨Nat.le_refl _, Nat.le_refl _⟩ d_U_needRecord_4 ?_
  refine j_topi (congrArg iI (b2i_t (by omega))) ?_
  refine s_U_61 X hz (c_U_needArgument (zl z) E σ) rfl rfl rfl (Nat.le_of_ble_eq_true rfl) ⟨Nat.le_refl _, Nat.le_refl _⟩ d_U_needRecord_7 ?_
  refine j_aload_n X rfl d_U_needRecord_10 ?_
  refine g_U_20 X d_U_needRecord_11 ?_
  refine j_iload_n X rfl d_U_needRecord_14 ?_
  refine j_aald X (by omega) d_U_needRecord_15 ?_
  refine j_iload_n X rfl d_U_needRecord_16 ?_
  refine v_U_120 X (okCT rfl (by omega)) hz (c_T_has (zl z) E σ t k (by omega) hk hr) rfl rfl rfl (Nat.le_of_ble_eq_true rfl) ⟨Nat.le_refl _, Nat.le_refl _⟩ d_U_needRecord_17 ?_
  refine j_topi (congrArg iI (b2i_t (by omega))) ?_
  refine s_U_61 X hz (c_U_needArgument (zl z) E σ) rfl rfl rfl (Nat.le_of_ble_eq_true rfl) ⟨Nat.le_refl _, Nat.le_refl _⟩ d_U_needRecord_20 ?_
  exact j_vret X Y (Nat.le_refl _) (Nat.le_refl _) d_U_needRecord_23 ⟨rfl, rfl⟩

set_option maxRecDepth 100000 in
set_option maxHeartbeats 4000000 in
theorem x_U_needRecord1 (l : Launch) (hl0 : l.stackTraces = false) (E : eT) (σ : St) (t k : Int) (hi : inR t) (ht : ¬ (0 ≤ t ∧ t ≤ 31)) : TCon l E y_U_needRecord ws_U_needRecord 7 1 6 [.ref (E.2.2.2 0 0), .int (iI t), .int (iI k)] (cells E σ) iaX (cells E σ) := by
  refine tcon_of (cc := b_U_needRecord) (nL := 3) (ret := none) (by decide) (Nat.le_of_ble_eq_true rfl) (fun z X Y hn => ?_)
  have X : Cx E z b_U_needRecord R_U := X
  have hz := Y.2.1
  have hs : (zl z).stackTraces = false := by rw [Y.1]; exact hl0
  change J E z 0 0 0 [(0, .ref (E.2.2.2 0 0)), (1, .int (iI t)), (2, .int (iI k))] [] (cells E σ)
  refine j_iload_n X rfl d_U_needRecord_0 ?_
  refine j_iconst X d_U_needRecord_1 ?_
  refine j_bipush X rfl d_U_needRecord_2 ?_
  refine s_U_57 X hz (c_isWithin (zl z) E σ t 0 31 (by omega) (by omega) (by omega)) rfl rfl rfl (Nat.le_of_ble_eq_true rfl) ⟨Nat.zero_le _, Nat.zero_le _⟩ d_U_needRecord_4 ?_
  refine j_topi (congrArg iI (b2i_f (by omega))) ?_
  exact j_out X Y ⟨Nat.le_refl _, Nat.le_refl _⟩ (fun H locs ls hP hD hS hLs => t_cS X mc_U_61 yo_U_needArgument rfl rfl hz (x_U_needArgument _ hs E _) rfl rfl rfl (Nat.le_of_ble_eq_true rfl) ⟨Nat.le_refl _, Nat.le_refl _⟩ d_U_needRecord_7 hP hD hS hLs)

set_option maxRecDepth 100000 in
set_option maxHeartbeats 4000000 in
theorem x_U_needRecord2 (l : Launch) (hl0 : l.stackTraces = false) (E : eT) (σ : St) (t k : Int) (ht : 0 ≤ t ∧ t ≤ 31) (hk : inR k) (hr : rg σ) (hh : ¬ (1 ≤ k ∧ k ≤ σ 4 t 4)) : TCon l E y_U_needRecord ws_U_needRecord 7 1 6 [.ref (E.2.2.2 0 0), .int (iI t), .int (iI k)] (cells E σ) iaX (cells E σ) := by
  refine tcon_of (cc := b_U_needRecord) (nL := 3) (ret := none) (by decide) (Nat.le_of_ble_eq_true rfl) (fun z X Y hn => ?_)
  have X : Cx E z b_U_needRecord R_U := X
  have hz := Y.2.1
  have hs : (zl z).stackTraces = false := by rw [Y.1]; exact hl0
  change J E z 0 0 0 [(0, .ref (E.2.2.2 0 0)), (1, .int (iI t)), (2, .int (iI k))] [] (cells E σ)
  refine j_iload_n X rfl d_U_needRecord_0 ?_
  refine j_iconst X d_U_needRecord_1 ?_
  refine j_bipush X rfl d_U_needRecord_2 ?_
  refine s_U_57 X hz (c_isWithin (zl z) E σ t 0 31 (by omega) (by omega) (by omega)) rfl rfl rfl (Nat.le_of_ble_eq_true rfl) ⟨Nat.zero_le _, Nat.zero_le _⟩ d_U_needRecord_4 ?_
  refine j_topi (congrArg iI (b2i_t (by omega))) ?_
  refine s_U_61 X hz (c_U_needArgument (zl z) E σ) rfl rfl rfl (Nat.le_of_ble_eq_true rfl) ⟨Nat.zero_le _, Nat.zero_le _⟩ d_U_needRecord_7 ?_
  refine j_aload_n X rfl d_U_needRecord_10 ?_
  refine g_U_20 X d_U_needRecord_11 ?_
  refine j_iload_n X rfl d_U_needRecord_14 ?_
  refine j_aald X (by omega) d_U_needRecord_15 ?_
  refine j_iload_n X rfl d_U_needRecord_16 ?_
  refine v_U_120 X (okCT rfl (by omega)) hz (c_T_has (zl z) E σ t k (by omega) hk hr) rfl rfl rfl (Nat.le_of_ble_eq_true rfl) ⟨Nat.zero_le _, Nat.zero_le _⟩ d_U_needRecord_17 ?_
  refine j_topi (congrArg iI (b2i_f (by omega))) ?_
  exact j_out X Y ⟨Nat.le_refl _, Nat.le_refl _⟩ (fun H locs ls hP hD hS hLs => t_cS X mc_U_61 yo_U_needArgument rfl rfl hz (x_U_needArgument _ hs E _) rfl rfl rfl (Nat.le_of_ble_eq_true rfl) ⟨Nat.le_refl _, Nat.le_refl _⟩ d_U_needRecord_20 hP hD hS hLs)

set_option maxRecDepth 100000 in
set_option maxHeartbeats 4000000 in
theorem c_U_command_c (l : Launch) (E : eT) (σ : St) (b c : Int) : FCon l E y_U_command ws_U_command 2 [.ref (E.2.2.2 0 0), .int (iI (-1)), .int (iI b), .int (iI c)] σ (some (.int (iI 0))) (up σ 10 0 3 0) := by
  refine con_of (cc := b_U_command) (nL := 4) (ret := (some .int)) (by decide) (Nat.le_of_ble_eq_true rfl) (fun z X Y hn => ?_)
  have X : Cx E z b_U_command R_U := X
  have hz := Y.2.1
  change J E z 0 0 0 [(0, .ref (E.2.2.2 0 0)), (1, .int (iI (-1))), (2, .int (iI b)), (3, .int (iI c))] [] (cells E σ)
  refine j_iload_n X rfl d_U_command_0 ?_
  refine j_iconst X d_U_command_1 ?_
  refine j_bipush X rfl d_U_command_2 ?_
  refine s_U_57 X hz (c_isWithin (zl z) E σ (-1) (-1) 11 (by omega) (by omega) (by omega)) rfl rfl rfl (Nat.le_of_ble_eq_true rfl) ⟨Nat.le_refl _, Nat.le_refl _⟩ d_U_command_4 ?_
  refine j_topi (congrArg iI (b2i_t (by decide))) ?_
  refine s_U_61 X hz (c_U_needArgument (zl z) E σ) rfl rfl rfl (Nat.le_of_ble_eq_true rfl) ⟨Nat.le_refl _, Nat.le_refl _⟩ d_U_command_7 ?_
  refine j_iload_n X rfl d_U_command_10 ?_
  refine j_iconst X d_U_command_11 ?_
  refine j_icmp_ne X (by omega) (by omega) d_U_command_12 (tgt := 25) rfl (fun h12 => ?_) (fun h12 => ?_)
  · exact absurd h12 (by omega)
  · skip
    refine j_aload_n X rfl d_U_command_15 ?_
    refine g_U_28 X d_U_command_16 ?_
    refine v_U_65 X hz (c_P_clear (zl z) E σ) rfl rfl rfl (Nat.le_of_ble_eq_true rfl) ⟨Nat.le_refl _, Nat.le_refl _⟩ d_U_command_19 ?_
    refine j_goto X d_U_command_22 (tgt := 53) rfl ?_
    refine j_aload_n X rfl d_U_command_53 ?_
    refine g_U_28 X d_U_command_54 ?_
    refine g_U_79 X d_U_command_57 ?_
    exact j_iret X Y (Nat.le_refl _) (Nat.le_refl _) d_U_command_60 ⟨rfl, rfl⟩

set_option maxRecDepth 100000 in
set_option maxHeartbeats 4000000 in
theorem c_U_command_a (l : Launch) (E : eT) (σ : St) (a b c : Int) (hr : rg σ) (ha : 0 ≤ a ∧ a ≤ 11) (h3 : 0 ≤ σ 10 0 3 ∧ σ 10 0 3 < 16) : FCon l E y_U_command ws_U_command 2 [.ref (E.2.2.2 0 0), .int (iI a), .int (iI b), .int (iI c)] σ (some (.int (iI (σ 10 0 3 + 1)))) (paS σ a b c) := by
  refine con_of (cc := b_U_command) (nL := 4) (ret := (some .int)) (by decide) (Nat.le_of_ble_eq_true rfl) (fun z X Y hn => ?_)
  have X : Cx E z b_U_command R_U := X
  have hz := Y.2.1
  change J E z 0 0 0 [(0, .ref (E.2.2.2 0 0)), (1, .int (iI a)), (2, .int (iI b)), (3, .int (iI c))] [] (cells E σ)
  refine j_iload_n X rfl d_U_command_0 ?_
  refine j_iconst X d_U_command_1 ?_
  refine j_bipush X rfl d_U_command_2 ?_
  refine s_U_57 X hz (c_isWithin (zl z) E σ a (-1) 11 (by omega) (by omega) (by omega)) rfl rfl rfl (Nat.le_of_ble_eq_true rfl) ⟨Nat.le_refl _, Nat.le_refl _⟩ d_U_command_4 ?_
  refine j_topi (congrArg iI (b2i_t (by omega))) ?_
  refine s_U_61 X hz (c_U_needArgument (zl z) E σ) rfl rfl rfl (Nat.le_of_ble_eq_true rfl) ⟨Nat.le_refl _, Nat.le_refl _⟩ d_U_command_7 ?_
  refine j_iload_n X rfl d_U_command_10 ?_
  refine j_iconst X d_U_command_11 ?_
  refine j_icmp_ne X (by omega) (by omega) d_U_command_12 (tgt := 25) rfl (fun h12 => ?_) (fun h12 => ?_)
  · skip
    refine j_aload_n X rfl d_U_command_25 ?_
    refine g_U_28 X d_U_command_26 ?_
    refine v_U_68 X hz (c_P_isFull (zl z) E σ hr) rfl rfl rfl (Nat.le_of_ble_eq_true rfl) ⟨Nat.le_refl _, Nat.le_refl _⟩ d_U_command_29 ?_
    refine j_ifnz X d_U_command_32 (tgt := 39) rfl (fun h32 => ?_) (fun h32 => ?_)
    · exact absurd h32 (by omega)
    · skip
      refine j_iconst X d_U_command_35 ?_
      refine j_goto X d_U_command_36 (tgt := 40) rfl ?_
      refine s_U_72 X hz (c_U_needState (zl z) E σ) rfl rfl rfl (Nat.le_of_ble_eq_true rfl) ⟨Nat.le_refl _, Nat.le_refl _⟩ d_U_command_40 ?_
      refine j_aload_n X rfl d_U_command_43 ?_
      refine g_U_28 X d_U_command_44 ?_
      refine j_iload_n X rfl d_U_command_47 ?_
      refine j_iload_n X rfl d_U_command_48 ?_
      refine j_iload_n X rfl d_U_command_49 ?_
      refine v_U_75 X hz (c_P_add (zl z) E σ a b c h3) rfl rfl rfl (Nat.le_of_ble_eq_true rfl) ⟨Nat.le_refl _, Nat.le_refl _⟩ d_U_command_50 ?_
      refine j_aload_n X rfl d_U_command_53 ?_
      refine g_U_28 X d_U_command_54 ?_
      refine g_U_79 X d_U_command_57 ?_
      exact j_iret X Y (Nat.le_refl _) (Nat.le_refl _) d_U_command_60 ⟨rfl, rfl⟩
  · exact absurd h12 (by omega)

set_option maxRecDepth 100000 in
set_option maxHeartbeats 4000000 in
theorem x_U_command1 (l : Launch) (hl0 : l.stackTraces = false) (E : eT) (σ : St) (a b c : Int) (hi : inR a) (ha : ¬ (-1 ≤ a ∧ a ≤ 11)) : TCon l E y_U_command ws_U_command 8 1 6 [.ref (E.2.2.2 0 0), .int (iI a), .int (iI b), .int (iI c)] (cells E σ) iaX (cells E σ) := by
  refine tcon_of (cc := b_U_command) (nL := 4) (ret := (some .int)) (by decide) (Nat.le_of_ble_eq_true rfl) (fun z X Y hn => ?_)
  have X : Cx E z b_U_command R_U := X
  have hz := Y.2.1
  have hs : (zl z).stackTraces = false := by rw [Y.1]; exact hl0
  change J E z 0 0 0 [(0, .ref (E.2.2.2 0 0)), (1, .int (iI a)), (2, .int (iI b)), (3, .int (iI c))] [] (cells E σ)
  refine j_iload_n X rfl d_U_command_0 ?_
  refine j_iconst X d_U_command_1 ?_
  refine j_bipush X rfl d_U_command_2 ?_
  refine s_U_57 X hz (c_isWithin (zl z) E σ a (-1) 11 (by omega) (by omega) (by omega)) rfl rfl rfl (Nat.le_of_ble_eq_true rfl) ⟨Nat.zero_le _, Nat.zero_le _⟩ d_U_command_4 ?_
  refine j_topi (congrArg iI (b2i_f (by omega))) ?_
  exact j_out X Y ⟨Nat.le_refl _, Nat.le_refl _⟩ (fun H locs ls hP hD hS hLs => t_cS X mc_U_61 yo_U_needArgument rfl rfl hz (x_U_needArgument _ hs E _) rfl rfl rfl (Nat.le_of_ble_eq_true rfl) ⟨Nat.le_refl _, Nat.le_refl _⟩ d_U_command_7 hP hD hS hLs)

set_option maxRecDepth 100000 in
set_option maxHeartbeats 4000000 in
theorem x_U_command2 (l : Launch) (hl0 : l.stackTraces = false) (E : eT) (σ : St) (a b c : Int) (hr : rg σ) (ha : 0 ≤ a ∧ a ≤ 11) (h3 : σ 10 0 3 = 16) : TCon l E y_U_command ws_U_command 8 1 6 [.ref (E.2.2.2 0 0), .int (iI a), .int (iI b), .int (iI c)] (cells E σ) isX (cells E σ) := by
  refine tcon_of (cc := b_U_command) (nL := 4) (ret := (some .int)) (by decide) (Nat.le_of_ble_eq_true rfl) (fun z X Y hn => ?_)
  have X : Cx E z b_U_command R_U := X
  have hz := Y.2.1
  have hs : (zl z).stackTraces = false := by rw [Y.1]; exact hl0
  change J E z 0 0 0 [(0, .ref (E.2.2.2 0 0)), (1, .int (iI a)), (2, .int (iI b)), (3, .int (iI c))] [] (cells E σ)
  refine j_iload_n X rfl d_U_command_0 ?_
  refine j_iconst X d_U_command_1 ?_
  refine j_bipush X rfl d_U_command_2 ?_
  refine s_U_57 X hz (c_isWithin (zl z) E σ a (-1) 11 (by omega) (by omega) (by omega)) rfl rfl rfl (Nat.le_of_ble_eq_true rfl) ⟨Nat.zero_le _, Nat.zero_le _⟩ d_U_command_4 ?_
  refine j_topi (congrArg iI (b2i_t (by omega))) ?_
  refine s_U_61 X hz (c_U_needArgument (zl z) E σ) rfl rfl rfl (Nat.le_of_ble_eq_true rfl) ⟨Nat.zero_le _, Nat.zero_le _⟩ d_U_command_7 ?_
  refine j_iload_n X rfl d_U_command_10 ?_
  refine j_iconst X d_U_command_11 ?_
  refine j_icmp_ne X (by omega) (by omega) d_U_command_12 (tgt := 25) rfl (fun h12 => ?_) (fun h12 => ?_)
  · skip
    refine j_aload_n X rfl d_U_command_25 ?_
    refine g_U_28 X d_U_command_26 ?_
    refine v_U_68 X hz (c_P_isFull (zl z) E σ hr) rfl rfl rfl (Nat.le_of_ble_eq_true rfl) ⟨Nat.zero_le _, Nat.zero_le _⟩ d_U_command_29 ?_
    refine j_ifnz X d_U_command_32 (tgt := 39) rfl (fun h32 => ?_) (fun h32 => ?_)
    · skip
      refine j_iconst X d_U_command_39 ?_
      exact j_out X Y ⟨Nat.le_refl _, Nat.le_refl _⟩ (fun H locs ls hP hD hS hLs => t_cS X mc_U_72 yo_U_needState rfl rfl hz (x_U_needState _ hs E _) rfl rfl rfl (Nat.le_of_ble_eq_true rfl) ⟨Nat.le_refl _, Nat.le_refl _⟩ d_U_command_40 hP hD hS hLs)
    · exact absurd h32 (by omega)
  · exact absurd h12 (by omega)

set_option maxRecDepth 100000 in
set_option maxHeartbeats 4000000 in
theorem c_U_poke (l : Launch) (E : eT) (σ : St) (a v : Int) (hb : byR (σ 2 0)) (ha : 0 ≤ a ∧ a ≤ 255) : FCon l E y_U_poke ws_U_poke 2 [.ref (E.2.2.2 0 0), .int (iI a), .int (iI v)] σ none (up σ 2 0 a (v % 256)) := by
  refine con_of (cc := b_U_poke) (nL := 3) (ret := none) (by decide) (Nat.le_of_ble_eq_true rfl) (fun z X Y hn => ?_)
  have X : Cx E z b_U_poke R_U := X
  have hz := Y.2.1
  change J E z 0 0 0 [(0, .ref (E.2.2.2 0 0)), (1, .int (iI a)), (2, .int (iI v))] [] (cells E σ)
  refine j_iload_n X rfl d_U_poke_0 ?_
  refine j_iconst X d_U_poke_1 ?_
  refine j_sipush X rfl d_U_poke_2 ?_
  refine s_U_57 X hz (c_isWithin (zl z) E σ a 0 255 (by omega) (by omega) (by omega)) rfl rfl rfl (Nat.le_of_ble_eq_true rfl) ⟨Nat.le_refl _, Nat.le_refl _⟩ d_U_poke_5 ?_
  refine j_topi (congrArg iI (b2i_t (by omega))) ?_
  refine s_U_61 X hz (c_U_needArgument (zl z) E σ) rfl rfl rfl (Nat.le_of_ble_eq_true rfl) ⟨Nat.le_refl _, Nat.le_refl _⟩ d_U_poke_8 ?_
  refine j_aload_n X rfl d_U_poke_11 ?_
  refine g_U_14 X d_U_poke_12 ?_
  refine j_iload_n X rfl d_U_poke_15 ?_
  refine j_iload_n X rfl d_U_poke_16 ?_
  refine v_U_83_1 X hz (c_B_set_M (zl z) E σ a v hb (by omega)) rfl rfl rfl (Nat.le_of_ble_eq_true rfl) ⟨Nat.le_refl _, Nat.le_refl _⟩ d_U_poke_17 ?_
  exact j_vret X Y (Nat.le_refl _) (Nat.le_refl _) d_U_poke_20 ⟨rfl, rfl⟩

set_option maxRecDepth 100000 in
set_option maxHeartbeats 4000000 in
theorem x_U_poke (l : Launch) (hl0 : l.stackTraces = false) (E : eT) (σ : St) (a v : Int) (hi : inR a) (ha : ¬ (0 ≤ a ∧ a ≤ 255)) : TCon l E y_U_poke ws_U_poke 8 1 6 [.ref (E.2.2.2 0 0), .int (iI a), .int (iI v)] (cells E σ) iaX (cells E σ) := by
  refine tcon_of (cc := b_U_poke) (nL := 3) (ret := none) (by decide) (Nat.le_of_ble_eq_true rfl) (fun z X Y hn => ?_)
  have X : Cx E z b_U_poke R_U := X
  have hz := Y.2.1
  have hs : (zl z).stackTraces = false := by rw [Y.1]; exact hl0
  change J E z 0 0 0 [(0, .ref (E.2.2.2 0 0)), (1, .int (iI a)), (2, .int (iI v))] [] (cells E σ)
  refine j_iload_n X rfl d_U_poke_0 ?_
  refine j_iconst X d_U_poke_1 ?_
  refine j_sipush X rfl d_U_poke_2 ?_
  refine s_U_57 X hz (c_isWithin (zl z) E σ a 0 255 (by omega) (by omega) (by omega)) rfl rfl rfl (Nat.le_of_ble_eq_true rfl) ⟨Nat.zero_le _, Nat.zero_le _⟩ d_U_poke_5 ?_
  refine j_topi (congrArg iI (b2i_f (by omega))) ?_
  exact j_out X Y ⟨Nat.le_refl _, Nat.le_refl _⟩ (fun H locs ls hP hD hS hLs => t_cS X mc_U_61 yo_U_needArgument rfl rfl hz (x_U_needArgument _ hs E _) rfl rfl rfl (Nat.le_of_ble_eq_true rfl) ⟨Nat.le_refl _, Nat.le_refl _⟩ d_U_poke_8 hP hD hS hLs)

set_option maxRecDepth 100000 in
set_option maxHeartbeats 4000000 in
theorem c_U_peek (l : Launch) (E : eT) (σ : St) (a : Int) (hb : byR (σ 2 0)) (ha : 0 ≤ a ∧ a ≤ 255) : FCon l E y_U_peek ws_U_peek 2 [.ref (E.2.2.2 0 0), .int (iI a)] σ (some (.int (iI (σ 2 0 a)))) σ := by
  refine con_of (cc := b_U_peek) (nL := 2) (ret := (some .int)) (by decide) (Nat.le_of_ble_eq_true rfl) (fun z X Y hn => ?_)
  have X : Cx E z b_U_peek R_U := X
  have hz := Y.2.1
  change J E z 0 0 0 [(0, .ref (E.2.2.2 0 0)), (1, .int (iI a))] [] (cells E σ)
  refine j_iload_n X rfl d_U_peek_0 ?_
  refine j_iconst X d_U_peek_1 ?_
  refine j_sipush X rfl d_U_peek_2 ?_
  refine s_U_57 X hz (c_isWithin (zl z) E σ a 0 255 (by omega) (by omega) (by omega)) rfl rfl rfl (Nat.le_of_ble_eq_true rfl) ⟨Nat.le_refl _, Nat.le_refl _⟩ d_U_peek_5 ?_
  refine j_topi (congrArg iI (b2i_t (by omega))) ?_
  refine s_U_61 X hz (c_U_needArgument (zl z) E σ) rfl rfl rfl (Nat.le_of_ble_eq_true rfl) ⟨Nat.le_refl _, Nat.le_refl _⟩ d_U_peek_8 ?_
  refine j_aload_n X rfl d_U_peek_11 ?_
  refine g_U_14 X d_U_peek_12 ?_
  refine j_iload_n X rfl d_U_peek_15 ?_
  refine v_U_87_1 X hz (c_B_get_M (zl z) E σ a hb (by omega)) rfl rfl rfl (Nat.le_of_ble_eq_true rfl) ⟨Nat.le_refl _, Nat.le_refl _⟩ d_U_peek_16 ?_
  exact j_iret X Y (Nat.le_refl _) (Nat.le_refl _) d_U_peek_19 ⟨rfl, rfl⟩

set_option maxRecDepth 100000 in
set_option maxHeartbeats 4000000 in
theorem x_U_peek (l : Launch) (hl0 : l.stackTraces = false) (E : eT) (σ : St) (a : Int) (hi : inR a) (ha : ¬ (0 ≤ a ∧ a ≤ 255)) : TCon l E y_U_peek ws_U_peek 8 1 6 [.ref (E.2.2.2 0 0), .int (iI a)] (cells E σ) iaX (cells E σ) := by
  refine tcon_of (cc := b_U_peek) (nL := 2) (ret := (some .int)) (by decide) (Nat.le_of_ble_eq_true rfl) (fun z X Y hn => ?_)
  have X : Cx E z b_U_peek R_U := X
  have hz := Y.2.1
  have hs : (zl z).stackTraces = false := by rw [Y.1]; exact hl0
  change J E z 0 0 0 [(0, .ref (E.2.2.2 0 0)), (1, .int (iI a))] [] (cells E σ)
  refine j_iload_n X rfl d_U_peek_0 ?_
  refine j_iconst X d_U_peek_1 ?_
  refine j_sipush X rfl d_U_peek_2 ?_
  refine s_U_57 X hz (c_isWithin (zl z) E σ a 0 255 (by omega) (by omega) (by omega)) rfl rfl rfl (Nat.le_of_ble_eq_true rfl) ⟨Nat.zero_le _, Nat.zero_le _⟩ d_U_peek_5 ?_
  refine j_topi (congrArg iI (b2i_f (by omega))) ?_
  exact j_out X Y ⟨Nat.le_refl _, Nat.le_refl _⟩ (fun H locs ls hP hD hS hLs => t_cS X mc_U_61 yo_U_needArgument rfl rfl hz (x_U_needArgument _ hs E _) rfl rfl rfl (Nat.le_of_ble_eq_true rfl) ⟨Nat.le_refl _, Nat.le_refl _⟩ d_U_peek_8 hP hD hS hLs)

set_option maxRecDepth 100000 in
set_option maxHeartbeats 4000000 in
theorem c_U_look0 (l : Launch) (E : eT) (σ : St) (hw : hdW σ) : FCon l E y_U_look ws_U_look 2 [.ref (E.2.2.2 0 0), .int (iI 0)] σ (some (.int (iI (σ 15 0 3)))) σ := by
  refine con_of (cc := b_U_look) (nL := 2) (ret := (some .int)) (by decide) (Nat.le_of_ble_eq_true rfl) (fun z X Y hn => ?_)
  have X : Cx E z b_U_look R_U := X
  have hz := Y.2.1
  change J E z 0 0 0 [(0, .ref (E.2.2.2 0 0)), (1, .int (iI 0))] [] (cells E σ)
  refine j_iload_n X rfl d_U_look_0 ?_
  refine j_iconst X d_U_look_1 ?_
  refine j_iconst X d_U_look_2 ?_
  refine s_U_57 X hz (c_isWithin (zl z) E σ 0 0 5 (by omega) (by omega) (by omega)) rfl rfl rfl (Nat.le_of_ble_eq_true rfl) ⟨Nat.le_refl _, Nat.le_refl _⟩ d_U_look_3 ?_
  refine j_topi (congrArg iI (b2i_t (by decide))) ?_
  refine s_U_61 X hz (c_U_needArgument (zl z) E σ) rfl rfl rfl (Nat.le_of_ble_eq_true rfl) ⟨Nat.le_refl _, Nat.le_refl _⟩ d_U_look_6 ?_
  refine j_iload_n X rfl d_U_look_9 ?_
  refine j_tableIn X (by decide) d_U_look_10 (by decide) (by decide) rfl (tgt := 44) rfl ?_
  refine j_aload_n X rfl d_U_look_44 ?_
  refine g_U_46 X d_U_look_45 ?_
  refine g_U_95 X d_U_look_48 ?_
  exact j_iret X Y (Nat.le_refl _) (Nat.le_refl _) d_U_look_51 ⟨rfl, rfl⟩

set_option maxRecDepth 100000 in
set_option maxHeartbeats 4000000 in
theorem c_U_look1 (l : Launch) (E : eT) (σ : St) (hw : hdW σ) : FCon l E y_U_look ws_U_look 2 [.ref (E.2.2.2 0 0), .int (iI 1)] σ (some (.int (iI (σ 15 0 4)))) σ := by
  refine con_of (cc := b_U_look) (nL := 2) (ret := (some .int)) (by decide) (Nat.le_of_ble_eq_true rfl) (fun z X Y hn => ?_)
  have X : Cx E z b_U_look R_U := X
  have hz := Y.2.1
  change J E z 0 0 0 [(0, .ref (E.2.2.2 0 0)), (1, .int (iI 1))] [] (cells E σ)
  refine j_iload_n X rfl d_U_look_0 ?_
  refine j_iconst X d_U_look_1 ?_
  refine j_iconst X d_U_look_2 ?_
  refine s_U_57 X hz (c_isWithin (zl z) E σ 1 0 5 (by omega) (by omega) (by omega)) rfl rfl rfl (Nat.le_of_ble_eq_true rfl) ⟨Nat.le_refl _, Nat.le_refl _⟩ d_U_look_3 ?_
  refine j_topi (congrArg iI (b2i_t (by decide))) ?_
  refine s_U_61 X hz (c_U_needArgument (zl z) E σ) rfl rfl rfl (Nat.le_of_ble_eq_true rfl) ⟨Nat.le_refl _, Nat.le_refl _⟩ d_U_look_6 ?_
  refine j_iload_n X rfl d_U_look_9 ?_
  refine j_tableIn X (by decide) d_U_look_10 (by decide) (by decide) rfl (tgt := 52) rfl ?_
  refine j_aload_n X rfl d_U_look_52 ?_
  refine g_U_46 X d_U_look_53 ?_
  refine g_U_98 X d_U_look_56 ?_
  exact j_iret X Y (Nat.le_refl _) (Nat.le_refl _) d_U_look_59 ⟨rfl, rfl⟩

set_option maxRecDepth 100000 in
set_option maxHeartbeats 4000000 in
theorem c_U_look2 (l : Launch) (E : eT) (σ : St) (hw : hdW σ) : FCon l E y_U_look ws_U_look 2 [.ref (E.2.2.2 0 0), .int (iI 2)] σ (some (.int (iI (σ 15 0 5)))) σ := by
  refine con_of (cc := b_U_look) (nL := 2) (ret := (some .int)) (by decide) (Nat.le_of_ble_eq_true rfl) (fun z X Y hn => ?_)
  have X : Cx E z b_U_look R_U := X
  have hz := Y.2.1
  change J E z 0 0 0 [(0, .ref (E.2.2.2 0 0)), (1, .int (iI 2))] [] (cells E σ)
  refine j_iload_n X rfl d_U_look_0 ?_
  refine j_iconst X d_U_look_1 ?_
  refine j_iconst X d_U_look_2 ?_
  refine s_U_57 X hz (c_isWithin (zl z) E σ 2 0 5 (by omega) (by omega) (by omega)) rfl rfl rfl (Nat.le_of_ble_eq_true rfl) ⟨Nat.le_refl _, Nat.le_refl _⟩ d_U_look_3 ?_
  refine j_topi (congrArg iI (b2i_t (by decide))) ?_
  refine s_U_61 X hz (c_U_needArgument (zl z) E σ) rfl rfl rfl (Nat.le_of_ble_eq_true rfl) ⟨Nat.le_refl _, Nat.le_refl _⟩ d_U_look_6 ?_
  refine j_iload_n X rfl d_U_look_9 ?_
  refine j_tableIn X (by decide) d_U_look_10 (by decide) (by decide) rfl (tgt := 60) rfl ?_
  refine j_aload_n X rfl d_U_look_60 ?_
  refine g_U_46 X d_U_look_61 ?_
  refine g_U_101 X d_U_look_64 ?_
  exact j_iret X Y (Nat.le_refl _) (Nat.le_refl _) d_U_look_67 ⟨rfl, rfl⟩

set_option maxRecDepth 100000 in
set_option maxHeartbeats 4000000 in
theorem c_U_look3 (l : Launch) (E : eT) (σ : St) (hw : hdW σ) : FCon l E y_U_look ws_U_look 2 [.ref (E.2.2.2 0 0), .int (iI 3)] σ (some (.int (iI (σ 14 0 1 / 600 - σ 15 0 7)))) σ := by
  refine con_of (cc := b_U_look) (nL := 2) (ret := (some .int)) (by decide) (Nat.le_of_ble_eq_true rfl) (fun z X Y hn => ?_)
  have X : Cx E z b_U_look R_U := X
  have hz := Y.2.1
  change J E z 0 0 0 [(0, .ref (E.2.2.2 0 0)), (1, .int (iI 3))] [] (cells E σ)
  refine j_iload_n X rfl d_U_look_0 ?_
  refine j_iconst X d_U_look_1 ?_
  refine j_iconst X d_U_look_2 ?_
  refine s_U_57 X hz (c_isWithin (zl z) E σ 3 0 5 (by omega) (by omega) (by omega)) rfl rfl rfl (Nat.le_of_ble_eq_true rfl) ⟨Nat.le_refl _, Nat.le_refl _⟩ d_U_look_3 ?_
  refine j_topi (congrArg iI (b2i_t (by decide))) ?_
  refine s_U_61 X hz (c_U_needArgument (zl z) E σ) rfl rfl rfl (Nat.le_of_ble_eq_true rfl) ⟨Nat.le_refl _, Nat.le_refl _⟩ d_U_look_6 ?_
  refine j_iload_n X rfl d_U_look_9 ?_
  refine j_tableIn X (by decide) d_U_look_10 (by decide) (by decide) rfl (tgt := 68) rfl ?_
  refine j_aload_n X rfl d_U_look_68 ?_
  refine g_U_46 X d_U_look_69 ?_
  refine v_U_104 X hz (c_C_indexPassed (zl z) E σ hw) rfl rfl rfl (Nat.le_of_ble_eq_true rfl) ⟨Nat.le_refl _, Nat.le_refl _⟩ d_U_look_72 ?_
  exact j_iret X Y (Nat.le_refl _) (Nat.le_refl _) d_U_look_75 ⟨rfl, rfl⟩

set_option maxRecDepth 100000 in
set_option maxHeartbeats 4000000 in
theorem c_U_look4 (l : Launch) (E : eT) (σ : St) (hw : hdW σ) : FCon l E y_U_look ws_U_look 2 [.ref (E.2.2.2 0 0), .int (iI 4)] σ (some (.int (iI (σ 14 0 2)))) σ := by
  refine con_of (cc := b_U_look) (nL := 2) (ret := (some .int)) (by decide) (Nat.le_of_ble_eq_true rfl) (fun z X Y hn => ?_)
  have X : Cx E z b_U_look R_U := X
  have hz := Y.2.1
  change J E z 0 0 0 [(0, .ref (E.2.2.2 0 0)), (1, .int (iI 4))] [] (cells E σ)
  refine j_iload_n X rfl d_U_look_0 ?_
  refine j_iconst X d_U_look_1 ?_
  refine j_iconst X d_U_look_2 ?_
  refine s_U_57 X hz (c_isWithin (zl z) E σ 4 0 5 (by omega) (by omega) (by omega)) rfl rfl rfl (Nat.le_of_ble_eq_true rfl) ⟨Nat.le_refl _, Nat.le_refl _⟩ d_U_look_3 ?_
  refine j_topi (congrArg iI (b2i_t (by decide))) ?_
  refine s_U_61 X hz (c_U_needArgument (zl z) E σ) rfl rfl rfl (Nat.le_of_ble_eq_true rfl) ⟨Nat.le_refl _, Nat.le_refl _⟩ d_U_look_6 ?_
  refine j_iload_n X rfl d_U_look_9 ?_
  refine j_tableIn X (by decide) d_U_look_10 (by decide) (by decide) rfl (tgt := 76) rfl ?_
  refine j_aload_n X rfl d_U_look_76 ?_
  refine g_U_37 X d_U_look_77 ?_
  refine g_U_107 X d_U_look_80 ?_
  exact j_iret X Y (Nat.le_refl _) (Nat.le_refl _) d_U_look_83 ⟨rfl, rfl⟩

set_option maxRecDepth 100000 in
set_option maxHeartbeats 4000000 in
theorem c_U_look5 (l : Launch) (E : eT) (σ : St) (hw : hdW σ) : FCon l E y_U_look ws_U_look 2 [.ref (E.2.2.2 0 0), .int (iI 5)] σ (some (.int (iI (σ 15 0 6)))) σ := by
  refine con_of (cc := b_U_look) (nL := 2) (ret := (some .int)) (by decide) (Nat.le_of_ble_eq_true rfl) (fun z X Y hn => ?_)
  have X : Cx E z b_U_look R_U := X
  have hz := Y.2.1
  change J E z 0 0 0 [(0, .ref (E.2.2.2 0 0)), (1, .int (iI 5))] [] (cells E σ)
  refine j_iload_n X rfl d_U_look_0 ?_
  refine j_iconst X d_U_look_1 ?_
  refine j_iconst X d_U_look_2 ?_
  refine s_U_57 X hz (c_isWithin (zl z) E σ 5 0 5 (by omega) (by omega) (by omega)) rfl rfl rfl (Nat.le_of_ble_eq_true rfl) ⟨Nat.le_refl _, Nat.le_refl _⟩ d_U_look_3 ?_
  refine j_topi (congrArg iI (b2i_t (by decide))) ?_
  refine s_U_61 X hz (c_U_needArgument (zl z) E σ) rfl rfl rfl (Nat.le_of_ble_eq_true rfl) ⟨Nat.le_refl _, Nat.le_refl _⟩ d_U_look_6 ?_
  refine j_iload_n X rfl d_U_look_9 ?_
  refine j_tableOut X (by decide) d_U_look_10 (by decide) (tgt := 84) rfl ?_
  refine j_aload_n X rfl d_U_look_84 ?_
  refine g_U_46 X d_U_look_85 ?_
  refine g_U_110 X d_U_look_88 ?_
  exact j_iret X Y (Nat.le_refl _) (Nat.le_refl _) d_U_look_91 ⟨rfl, rfl⟩

set_option maxRecDepth 100000 in
set_option maxHeartbeats 4000000 in
theorem x_U_look (l : Launch) (hl0 : l.stackTraces = false) (E : eT) (σ : St) (a : Int) (hi : inR a) (ha : ¬ (0 ≤ a ∧ a ≤ 5)) : TCon l E y_U_look ws_U_look 8 1 6 [.ref (E.2.2.2 0 0), .int (iI a)] (cells E σ) iaX (cells E σ) := by
  refine tcon_of (cc := b_U_look) (nL := 2) (ret := (some .int)) (by decide) (Nat.le_of_ble_eq_true rfl) (fun z X Y hn => ?_)
  have X : Cx E z b_U_look R_U := X
  have hz := Y.2.1
  have hs : (zl z).stackTraces = false := by rw [Y.1]; exact hl0
  change J E z 0 0 0 [(0, .ref (E.2.2.2 0 0)), (1, .int (iI a))] [] (cells E σ)
  refine j_iload_n X rfl d_U_look_0 ?_
  refine j_iconst X d_U_look_1 ?_
  refine j_iconst X d_U_look_2 ?_
  refine s_U_57 X hz (c_isWithin (zl z) E σ a 0 5 (by omega) (by omega) (by omega)) rfl rfl rfl (Nat.le_of_ble_eq_true rfl) ⟨Nat.zero_le _, Nat.zero_le _⟩ d_U_look_3 ?_
  refine j_topi (congrArg iI (b2i_f (by omega))) ?_
  exact j_out X Y ⟨Nat.le_refl _, Nat.le_refl _⟩ (fun H locs ls hP hD hS hLs => t_cS X mc_U_61 yo_U_needArgument rfl rfl hz (x_U_needArgument _ hs E _) rfl rfl rfl (Nat.le_of_ble_eq_true rfl) ⟨Nat.le_refl _, Nat.le_refl _⟩ d_U_look_6 hP hD hS hLs)

set_option maxRecDepth 100000 in
set_option maxHeartbeats 4000000 in
theorem c_U_record0 (l : Launch) (E : eT) (σ : St) (t w : Int) (ht : 0 ≤ t ∧ t ≤ 31) : FCon l E y_U_record ws_U_record 2 [.ref (E.2.2.2 0 0), .int (iI t), .int (iI 0), .int (iI w)] σ (some (.int (iI (σ 4 t 4)))) σ := by
  refine con_of (cc := b_U_record) (nL := 5) (ret := (some .int)) (by decide) (Nat.le_of_ble_eq_true rfl) (fun z X Y hn => ?_)
  have X : Cx E z b_U_record R_U := X
  have hz := Y.2.1
  change J E z 0 0 0 [(0, .ref (E.2.2.2 0 0)), (1, .int (iI t)), (2, .int (iI 0)), (3, .int (iI w))] [] (cells E σ)
  refine j_iload_n X rfl d_U_record_0 ?_
  refine j_iconst X d_U_record_1 ?_
  refine j_bipush X rfl d_U_record_2 ?_
  refine s_U_57 X hz (c_isWithin (zl z) E σ t 0 31 (by omega) (by omega) (by omega)) rfl rfl rfl (Nat.le_of_ble_eq_true rfl) ⟨Nat.le_refl _, Nat.le_refl _⟩ d_U_record_4 ?_
  refine j_topi (congrArg iI (b2i_t (by omega))) ?_
  refine s_U_61 X hz (c_U_needArgument (zl z) E σ) rfl rfl rfl (Nat.le_of_ble_eq_true rfl) ⟨Nat.le_refl _, Nat.le_refl _⟩ d_U_record_7 ?_
  refine j_aload_n X rfl d_U_record_10 ?_
  refine g_U_20 X d_U_record_11 ?_
  refine j_iload_n X rfl d_U_record_14 ?_
  refine j_aald X (by omega) d_U_record_15 ?_
  refine j_astore X (zlt hn rfl) d_U_record_16 ?_
  refine j_iload_n X rfl d_U_record_18 ?_
  refine j_if_ne X (by omega) d_U_record_19 (tgt := 28) rfl (fun h19 => ?_) (fun h19 => ?_)
  · exact absurd h19 (by omega)
  · skip
    refine j_aload X rfl d_U_record_22 ?_
    refine g_U_117 X (okCT rfl (by omega)) d_U_record_24 ?_
    exact j_iret X Y (Nat.le_refl _) (Nat.le_refl _) d_U_record_27 ⟨rfl, rfl⟩

set_option maxRecDepth 100000 in
set_option maxHeartbeats 4000000 in
theorem c_U_record1 (l : Launch) (E : eT) (σ : St) (t k : Int) (ht : 0 ≤ t ∧ t ≤ 31) (hk : inR k) (hr : rg σ) (hh : 1 ≤ k ∧ k ≤ σ 4 t 4) (h4 : σ 4 t 4 ≤ 30) (h7 : σ 7 t k = b2i (decide (σ 7 t k = 1))) : FCon l E y_U_record ws_U_record 2 [.ref (E.2.2.2 0 0), .int (iI t), .int (iI k), .int (iI 0)] σ (some (.int (iI (σ 5 t k)))) σ := by
  refine con_of (cc := b_U_record) (nL := 5) (ret := (some .int)) (by decide) (Nat.le_of_ble_eq_true rfl) (fun z X Y hn => ?_)
  have X : Cx E z b_U_record R_U := X
  have hz := Y.2.1
  change J E z 0 0 0 [(0, .ref (E.2.2.2 0 0)), (1, .int (iI t)), (2, .int (iI k)), (3, .int (iI 0))] [] (cells E σ)
  refine j_iload_n X rfl d_U_record_0 ?_
  refine j_iconst X d_U_record_1 ?_
  refine j_bipush X rfl d_U_record_2 ?_
  refine s_U_57 X hz (c_isWithin (zl z) E σ t 0 31 (by omega) (by omega) (by omega)) rfl rfl rfl (Nat.le_of_ble_eq_true rfl) ⟨Nat.le_refl _, Nat.le_refl _⟩ d_U_record_4 ?_
  refine j_topi (congrArg iI (b2i_t (by omega))) ?_
  refine s_U_61 X hz (c_U_needArgument (zl z) E σ) rfl rfl rfl (Nat.le_of_ble_eq_true rfl) ⟨Nat.le_refl _, Nat.le_refl _⟩ d_U_record_7 ?_
  refine j_aload_n X rfl d_U_record_10 ?_
  refine g_U_20 X d_U_record_11 ?_
  refine j_iload_n X rfl d_U_record_14 ?_
  refine j_aald X (by omega) d_U_record_15 ?_
  refine j_astore X (zlt hn rfl) d_U_record_16 ?_
  refine j_iload_n X rfl d_U_record_18 ?_
  refine j_if_ne X (by omega) d_U_record_19 (tgt := 28) rfl (fun h19 => ?_) (fun h19 => ?_)
  · skip
    refine j_aload X rfl d_U_record_28 ?_
    refine j_iload_n X rfl d_U_record_30 ?_
    refine v_U_120 X (okCT rfl (by omega)) hz (c_T_has (zl z) E σ t k (by omega) hk hr) rfl rfl rfl (Nat.le_of_ble_eq_true rfl) ⟨Nat.le_refl _, Nat.le_refl _⟩ d_U_record_31 ?_
    refine j_ifz X d_U_record_34 (tgt := 50) rfl (fun h34 => ?_) (fun h34 => ?_)
    · exact absurd h34 (by omega)
    · skip
      refine j_iload_n X rfl d_U_record_37 ?_
      refine j_iconst X d_U_record_38 ?_
      refine j_iconst X d_U_record_39 ?_
      refine s_U_57 X hz (c_isWithin (zl z) E σ 0 0 3 (by omega) (by omega) (by omega)) rfl rfl rfl (Nat.le_of_ble_eq_true rfl) ⟨Nat.le_refl _, Nat.le_refl _⟩ d_U_record_40 ?_
      refine j_ifz X d_U_record_43 (tgt := 50) rfl (fun h43 => ?_) (fun h43 => ?_)
      · exact absurd h43 (by omega)
      · skip
        refine j_iconst X d_U_record_46 ?_
        refine j_goto X d_U_record_47 (tgt := 51) rfl ?_
        refine s_U_61 X hz (c_U_needArgument (zl z) E σ) rfl rfl rfl (Nat.le_of_ble_eq_true rfl) ⟨Nat.le_refl _, Nat.le_refl _⟩ d_U_record_51 ?_
        refine j_iload_n X rfl d_U_record_54 ?_
        refine j_tableIn X (by decide) d_U_record_55 (by decide) (by decide) rfl (tgt := 80) rfl ?_
        refine j_aload X rfl d_U_record_80 ?_
        refine j_iload_n X rfl d_U_record_82 ?_
        refine v_U_124 X (okCT rfl (by omega)) hz (c_T_beginOf (zl z) E σ t k (by omega) (by omega)) rfl rfl rfl (Nat.le_of_ble_eq_true rfl) ⟨Nat.le_refl _, Nat.le_refl _⟩ d_U_record_83 ?_
        exact j_iret X Y (Nat.le_refl _) (Nat.le_refl _) d_U_record_86 ⟨rfl, rfl⟩
  · exact absurd h19 (by omega)

set_option maxRecDepth 100000 in
set_option maxHeartbeats 4000000 in
theorem c_U_record2 (l : Launch) (E : eT) (σ : St) (t k : Int) (ht : 0 ≤ t ∧ t ≤ 31) (hk : inR k) (hr : rg σ) (hh : 1 ≤ k ∧ k ≤ σ 4 t 4) (h4 : σ 4 t 4 ≤ 30) (h7 : σ 7 t k = b2i (decide (σ 7 t k = 1))) : FCon l E y_U_record ws_U_record 2 [.ref (E.2.2.2 0 0), .int (iI t), .int (iI k), .int (iI 1)] σ (some (.int (iI (σ 6 t k)))) σ := by
  refine con_of (cc := b_U_record) (nL := 5) (ret := (some .int)) (by decide) (Nat.le_of_ble_eq_true rfl) (fun z X Y hn => ?_)
  have X : Cx E z b_U_record R_U := X
  have hz := Y.2.1
  change J E z 0 0 0 [(0, .ref (E.2.2.2 0 0)), (1, .int (iI t)), (2, .int (iI k)), (3, .int (iI 1))] [] (cells E σ)
  refine j_iload_n X rfl d_U_record_0 ?_
  refine j_iconst X d_U_record_1 ?_
  refine j_bipush X rfl d_U_record_2 ?_
  refine s_U_57 X hz (c_isWithin (zl z) E σ t 0 31 (by omega) (by omega) (by omega)) rfl rfl rfl (Nat.le_of_ble_eq_true rfl) ⟨Nat.le_refl _, Nat.le_refl _⟩ d_U_record_4 ?_
  refine j_topi (congrArg iI (b2i_t (by omega))) ?_
  refine s_U_61 X hz (c_U_needArgument (zl z) E σ) rfl rfl rfl (Nat.le_of_ble_eq_true rfl) ⟨Nat.le_refl _, Nat.le_refl _⟩ d_U_record_7 ?_
  refine j_aload_n X rfl d_U_record_10 ?_
  refine g_U_20 X d_U_record_11 ?_
  refine j_iload_n X rfl d_U_record_14 ?_
  refine j_aald X (by omega) d_U_record_15 ?_
  refine j_astore X (zlt hn rfl) d_U_record_16 ?_
  refine j_iload_n X rfl d_U_record_18 ?_
  refine j_if_ne X (by omega) d_U_record_19 (tgt := 28) rfl (fun h19 => ?_) (fun h19 => ?_)
  · skip
    refine j_aload X rfl d_U_record_28 ?_
    refine j_iload_n X rfl d_U_record_30 ?_
    refine v_U_120 X (okCT rfl (by omega)) hz (c_T_has (zl z) E σ t k (by omega) hk hr) rfl rfl rfl (Nat.le_of_ble_eq_true rfl) ⟨Nat.le_refl _, Nat.le_refl _⟩ d_U_record_31 ?_
    refine j_ifz X d_U_record_34 (tgt := 50) rfl (fun h34 => ?_) (fun h34 => ?_)
    · exact absurd h34 (by omega)
    · skip
      refine j_iload_n X rfl d_U_record_37 ?_
      refine j_iconst X d_U_record_38 ?_
      refine j_iconst X d_U_record_39 ?_
      refine s_U_57 X hz (c_isWithin (zl z) E σ 1 0 3 (by omega) (by omega) (by omega)) rfl rfl rfl (Nat.le_of_ble_eq_true rfl) ⟨Nat.le_refl _, Nat.le_refl _⟩ d_U_record_40 ?_
      refine j_ifz X d_U_record_43 (tgt := 50) rfl (fun h43 => ?_) (fun h43 => ?_)
      · exact absurd h43 (by omega)
      · skip
        refine j_iconst X d_U_record_46 ?_
        refine j_goto X d_U_record_47 (tgt := 51) rfl ?_
        refine s_U_61 X hz (c_U_needArgument (zl z) E σ) rfl rfl rfl (Nat.le_of_ble_eq_true rfl) ⟨Nat.le_refl _, Nat.le_refl _⟩ d_U_record_51 ?_
        refine j_iload_n X rfl d_U_record_54 ?_
        refine j_tableIn X (by decide) d_U_record_55 (by decide) (by decide) rfl (tgt := 87) rfl ?_
        refine j_aload X rfl d_U_record_87 ?_
        refine j_iload_n X rfl d_U_record_89 ?_
        refine v_U_127 X (okCT rfl (by omega)) hz (c_T_keyLength (zl z) E σ t k (by omega) (by omega)) rfl rfl rfl (Nat.le_of_ble_eq_true rfl) ⟨Nat.le_refl _, Nat.le_refl _⟩ d_U_record_90 ?_
        exact j_iret X Y (Nat.le_refl _) (Nat.le_refl _) d_U_record_93 ⟨rfl, rfl⟩
  · exact absurd h19 (by omega)

set_option maxRecDepth 100000 in
set_option maxHeartbeats 4000000 in
theorem c_U_record3 (l : Launch) (E : eT) (σ : St) (t k : Int) (ht : 0 ≤ t ∧ t ≤ 31) (hk : inR k) (hr : rg σ) (hh : 1 ≤ k ∧ k ≤ σ 4 t 4) (h4 : σ 4 t 4 ≤ 30) (h7 : σ 7 t k = b2i (decide (σ 7 t k = 1))) : FCon l E y_U_record ws_U_record 2 [.ref (E.2.2.2 0 0), .int (iI t), .int (iI k), .int (iI 2)] σ (some (.int (iI (dlS σ t k)))) σ := by
  refine con_of (cc := b_U_record) (nL := 5) (ret := (some .int)) (by decide) (Nat.le_of_ble_eq_true rfl) (fun z X Y hn => ?_)
  have X : Cx E z b_U_record R_U := X
  have hz := Y.2.1
  change J E z 0 0 0 [(0, .ref (E.2.2.2 0 0)), (1, .int (iI t)), (2, .int (iI k)), (3, .int (iI 2))] [] (cells E σ)
  refine j_iload_n X rfl d_U_record_0 ?_
  refine j_iconst X d_U_record_1 ?_
  refine j_bipush X rfl d_U_record_2 ?_
  refine s_U_57 X hz (c_isWithin (zl z) E σ t 0 31 (by omega) (by omega) (by omega)) rfl rfl rfl (Nat.le_of_ble_eq_true rfl) ⟨Nat.le_refl _, Nat.le_refl _⟩ d_U_record_4 ?_
  refine j_topi (congrArg iI (b2i_t (by omega))) ?_
  refine s_U_61 X hz (c_U_needArgument (zl z) E σ) rfl rfl rfl (Nat.le_of_ble_eq_true rfl) ⟨Nat.le_refl _, Nat.le_refl _⟩ d_U_record_7 ?_
  refine j_aload_n X rfl d_U_record_10 ?_
  refine g_U_20 X d_U_record_11 ?_
  refine j_iload_n X rfl d_U_record_14 ?_
  refine j_aald X (by omega) d_U_record_15 ?_
  refine j_astore X (zlt hn rfl) d_U_record_16 ?_
  refine j_iload_n X rfl d_U_record_18 ?_
  refine j_if_ne X (by omega) d_U_record_19 (tgt := 28) rfl (fun h19 => ?_) (fun h19 => ?_)
  · skip
    refine j_aload X rfl d_U_record_28 ?_
    refine j_iload_n X rfl d_U_record_30 ?_
    refine v_U_120 X (okCT rfl (by omega)) hz (c_T_has (zl z) E σ t k (by omega) hk hr) rfl rfl rfl (Nat.le_of_ble_eq_true rfl) ⟨Nat.le_refl _, Nat.le_refl _⟩ d_U_record_31 ?_
    refine j_ifz X d_U_record_34 (tgt := 50) rfl (fun h34 => ?_) (fun h34 => ?_)
    · exact absurd h34 (by omega)
    · skip
      refine j_iload_n X rfl d_U_record_37 ?_
      refine j_iconst X d_U_record_38 ?_
      refine j_iconst X d_U_record_39 ?_
      refine s_U_57 X hz (c_isWithin (zl z) E σ 2 0 3 (by omega) (by omega) (by omega)) rfl rfl rfl (Nat.le_of_ble_eq_true rfl) ⟨Nat.le_refl _, Nat.le_refl _⟩ d_U_record_40 ?_
      refine j_ifz X d_U_record_43 (tgt := 50) rfl (fun h43 => ?_) (fun h43 => ?_)
      · exact absurd h43 (by omega)
      · skip
        refine j_iconst X d_U_record_46 ?_
        refine j_goto X d_U_record_47 (tgt := 51) rfl ?_
        refine s_U_61 X hz (c_U_needArgument (zl z) E σ) rfl rfl rfl (Nat.le_of_ble_eq_true rfl) ⟨Nat.le_refl _, Nat.le_refl _⟩ d_U_record_51 ?_
        refine j_iload_n X rfl d_U_record_54 ?_
        refine j_tableIn X (by decide) d_U_record_55 (by decide) (by decide) rfl (tgt := 94) rfl ?_
        refine j_aload X rfl d_U_record_94 ?_
        refine j_iload_n X rfl d_U_record_96 ?_
        refine v_U_130 X (okCT rfl (by omega)) hz (c_T_dataLength (zl z) E σ t k (by omega) (by omega)) rfl rfl rfl (Nat.le_of_ble_eq_true rfl) ⟨Nat.le_refl _, Nat.le_refl _⟩ d_U_record_97 ?_
        exact j_iret X Y (Nat.le_refl _) (Nat.le_refl _) d_U_record_100 ⟨rfl, rfl⟩
  · exact absurd h19 (by omega)

set_option maxRecDepth 100000 in
set_option maxHeartbeats 4000000 in
theorem c_U_record4 (l : Launch) (E : eT) (σ : St) (t k : Int) (ht : 0 ≤ t ∧ t ≤ 31) (hk : inR k) (hr : rg σ) (hh : 1 ≤ k ∧ k ≤ σ 4 t 4) (h4 : σ 4 t 4 ≤ 30) (h7 : σ 7 t k = b2i (decide (σ 7 t k = 1))) : FCon l E y_U_record ws_U_record 2 [.ref (E.2.2.2 0 0), .int (iI t), .int (iI k), .int (iI 3)] σ (some (.int (iI (b2i (decide (σ 7 t k = 1)))))) σ := by
  refine con_of (cc := b_U_record) (nL := 5) (ret := (some .int)) (by decide) (Nat.le_of_ble_eq_true rfl) (fun z X Y hn => ?_)
  have X : Cx E z b_U_record R_U := X
  have hz := Y.2.1
  change J E z 0 0 0 [(0, .ref (E.2.2.2 0 0)), (1, .int (iI t)), (2, .int (iI k)), (3, .int (iI 3))] [] (cells E σ)
  refine j_iload_n X rfl d_U_record_0 ?_
  refine j_iconst X d_U_record_1 ?_
  refine j_bipush X rfl d_U_record_2 ?_
  refine s_U_57 X hz (c_isWithin (zl z) E σ t 0 31 (by omega) (by omega) (by omega)) rfl rfl rfl (Nat.le_of_ble_eq_true rfl) ⟨Nat.le_refl _, Nat.le_refl _⟩ d_U_record_4 ?_
  refine j_topi (congrArg iI (b2i_t (by omega))) ?_
  refine s_U_61 X hz (c_U_needArgument (zl z) E σ) rfl rfl rfl (Nat.le_of_ble_eq_true rfl) ⟨Nat.le_refl _, Nat.le_refl _⟩ d_U_record_7 ?_
  refine j_aload_n X rfl d_U_record_10 ?_
  refine g_U_20 X d_U_record_11 ?_
  refine j_iload_n X rfl d_U_record_14 ?_
  refine j_aald X (by omega) d_U_record_15 ?_
  refine j_astore X (zlt hn rfl) d_U_record_16 ?_
  refine j_iload_n X rfl d_U_record_18 ?_
  refine j_if_ne X (by omega) d_U_record_19 (tgt := 28) rfl (fun h19 => ?_) (fun h19 => ?_)
  · skip
    refine j_aload X rfl d_U_record_28 ?_
    refine j_iload_n X rfl d_U_record_30 ?_
    refine v_U_120 X (okCT rfl (by omega)) hz (c_T_has (zl z) E σ t k (by omega) hk hr) rfl rfl rfl (Nat.le_of_ble_eq_true rfl) ⟨Nat.le_refl _, Nat.le_refl _⟩ d_U_record_31 ?_
    refine j_ifz X d_U_record_34 (tgt := 50) rfl (fun h34 => ?_) (fun h34 => ?_)
    · exact absurd h34 (by omega)
    · skip
      refine j_iload_n X rfl d_U_record_37 ?_
      refine j_iconst X d_U_record_38 ?_
      refine j_iconst X d_U_record_39 ?_
      refine s_U_57 X hz (c_isWithin (zl z) E σ 3 0 3 (by omega) (by omega) (by omega)) rfl rfl rfl (Nat.le_of_ble_eq_true rfl) ⟨Nat.le_refl _, Nat.le_refl _⟩ d_U_record_40 ?_
      refine j_ifz X d_U_record_43 (tgt := 50) rfl (fun h43 => ?_) (fun h43 => ?_)
      · exact absurd h43 (by omega)
      · skip
        refine j_iconst X d_U_record_46 ?_
        refine j_goto X d_U_record_47 (tgt := 51) rfl ?_
        refine s_U_61 X hz (c_U_needArgument (zl z) E σ) rfl rfl rfl (Nat.le_of_ble_eq_true rfl) ⟨Nat.le_refl _, Nat.le_refl _⟩ d_U_record_51 ?_
        refine j_iload_n X rfl d_U_record_54 ?_
        refine j_tableOut X (by decide) d_U_record_55 (by decide) (tgt := 101) rfl ?_
        refine j_aload X rfl d_U_record_101 ?_
        refine j_iload_n X rfl d_U_record_103 ?_
        refine v_U_133 X (okCT rfl (by omega)) hz (c_T_isSpoiled (zl z) E σ t k (by omega) (by omega) h7) rfl rfl rfl (Nat.le_of_ble_eq_true rfl) ⟨Nat.le_refl _, Nat.le_refl _⟩ d_U_record_104 ?_
        refine j_ifz X d_U_record_107 (tgt := 114) rfl (fun h107 => ?_) (fun h107 => ?_)
        · skip
          refine j_iconst X d_U_record_114 ?_
          exact j_iret X Y (Nat.le_refl _) (Nat.le_refl _) d_U_record_115 ⟨by first | rw [b2i_t ‹_›] | rw [b2i_f ‹_›], rfl⟩
        · skip
          refine j_iconst X d_U_record_110 ?_
          refine j_goto X d_U_record_111 (tgt := 115) rfl ?_
          exact j_iret X Y (Nat.le_refl _) (Nat.le_refl _) d_U_record_115 ⟨by first | rw [b2i_t ‹_›] | rw [b2i_f ‹_›], rfl⟩
  · exact absurd h19 (by omega)

set_option maxRecDepth 100000 in
set_option maxHeartbeats 4000000 in
theorem x_U_record1 (l : Launch) (hl0 : l.stackTraces = false) (E : eT) (σ : St) (t k w : Int) (hi : inR t) (ht : ¬ (0 ≤ t ∧ t ≤ 31)) : TCon l E y_U_record ws_U_record 8 1 6 [.ref (E.2.2.2 0 0), .int (iI t), .int (iI k), .int (iI w)] (cells E σ) iaX (cells E σ) := by
  refine tcon_of (cc := b_U_record) (nL := 5) (ret := (some .int)) (by decide) (Nat.le_of_ble_eq_true rfl) (fun z X Y hn => ?_)
  have X : Cx E z b_U_record R_U := X
  have hz := Y.2.1
  have hs : (zl z).stackTraces = false := by rw [Y.1]; exact hl0
  change J E z 0 0 0 [(0, .ref (E.2.2.2 0 0)), (1, .int (iI t)), (2, .int (iI k)), (3, .int (iI w))] [] (cells E σ)
  refine j_iload_n X rfl d_U_record_0 ?_
  refine j_iconst X d_U_record_1 ?_
  refine j_bipush X rfl d_U_record_2 ?_
  refine s_U_57 X hz (c_isWithin (zl z) E σ t 0 31 (by omega) (by omega) (by omega)) rfl rfl rfl (Nat.le_of_ble_eq_true rfl) ⟨Nat.zero_le _, Nat.zero_le _⟩ d_U_record_4 ?_
  refine j_topi (congrArg iI (b2i_f (by omega))) ?_
  exact j_out X Y ⟨Nat.le_refl _, Nat.le_refl _⟩ (fun H locs ls hP hD hS hLs => t_cS X mc_U_61 yo_U_needArgument rfl rfl hz (x_U_needArgument _ hs E _) rfl rfl rfl (Nat.le_of_ble_eq_true rfl) ⟨Nat.le_refl _, Nat.le_refl _⟩ d_U_record_7 hP hD hS hLs)

set_option maxRecDepth 100000 in
set_option maxHeartbeats 4000000 in
theorem x_U_record2 (l : Launch) (hl0 : l.stackTraces = false) (E : eT) (σ : St) (t k w : Int) (ht : 0 ≤ t ∧ t ≤ 31) (hk : inR k) (hw : inR w) (hr : rg σ) (h0 : ¬ k = 0) (hh : ¬ ((1 ≤ k ∧ k ≤ σ 4 t 4) ∧ (0 ≤ w ∧ w ≤ 3))) : TCon l E y_U_record ws_U_record 8 1 6 [.ref (E.2.2.2 0 0), .int (iI t), .int (iI k), .int (iI w)] (cells E σ) iaX (cells E σ) := by
  refine tcon_of (cc := b_U_record) (nL := 5) (ret := (some .int)) (by decide) (Nat.le_of_ble_eq_true rfl) (fun z X Y hn => ?_)
  have X : Cx E z b_U_record R_U := X
  have hz := Y.2.1
  have hs : (zl z).stackTraces = false := by rw [Y.1]; exact hl0
  change J E z 0 0 0 [(0, .ref (E.2.2.2 0 0)), (1, .int (iI t)), (2, .int (iI k)), (3, .int (iI w))] [] (cells E σ)
  refine j_iload_n X rfl d_U_record_0 ?_
  refine j_iconst X d_U_record_1 ?_
  refine j_bipush X rfl d_U_record_2 ?_
  refine s_U_57 X hz (c_isWithin (zl z) E σ t 0 31 (by omega) (by omega) (by omega)) rfl rfl rfl (Nat.le_of_ble_eq_true rfl) ⟨Nat.zero_le _, Nat.zero_le _⟩ d_U_record_4 ?_
  refine j_topi (congrArg iI (b2i_t (by omega))) ?_
  refine s_U_61 X hz (c_U_needArgument (zl z) E σ) rfl rfl rfl (Nat.le_of_ble_eq_true rfl) ⟨Nat.zero_le _, Nat.zero_le _⟩ d_U_record_7 ?_
  refine j_aload_n X rfl d_U_record_10 ?_
  refine g_U_20 X d_U_record_11 ?_
  refine j_iload_n X rfl d_U_record_14 ?_
  refine j_aald X (by omega) d_U_record_15 ?_
  refine j_astore X (zlt hn rfl) d_U_record_16 ?_
  refine j_iload_n X rfl d_U_record_18 ?_
  refine j_if_ne X (by omega) d_U_record_19 (tgt := 28) rfl (fun h19 => ?_) (fun h19 => ?_)
  · skip
    refine j_aload X rfl d_U_record_28 ?_
    refine j_iload_n X rfl d_U_record_30 ?_
    refine v_U_120 X (okCT rfl (by omega)) hz (c_T_has (zl z) E σ t k (by omega) hk hr) rfl rfl rfl (Nat.le_of_ble_eq_true rfl) ⟨Nat.zero_le _, Nat.zero_le _⟩ d_U_record_31 ?_
    refine j_ifz X d_U_record_34 (tgt := 50) rfl (fun h34 => ?_) (fun h34 => ?_)
    · skip
      refine j_iconst X d_U_record_50 ?_
      exact j_out X Y ⟨Nat.le_refl _, Nat.le_refl _⟩ (fun H locs ls hP hD hS hLs => t_cS X mc_U_61 yo_U_needArgument rfl rfl hz (x_U_needArgument _ hs E _) rfl rfl rfl (Nat.le_of_ble_eq_true rfl) ⟨Nat.le_refl _, Nat.le_refl _⟩ d_U_record_51 hP hD hS hLs)
    · skip
      refine j_iload_n X rfl d_U_record_37 ?_
      refine j_iconst X d_U_record_38 ?_
      refine j_iconst X d_U_record_39 ?_
      refine s_U_57 X hz (c_isWithin (zl z) E σ w 0 3 (by omega) (by omega) (by omega)) rfl rfl rfl (Nat.le_of_ble_eq_true rfl) ⟨Nat.zero_le _, Nat.zero_le _⟩ d_U_record_40 ?_
      refine j_ifz X d_U_record_43 (tgt := 50) rfl (fun h43 => ?_) (fun h43 => ?_)
      · skip
        refine j_iconst X d_U_record_50 ?_
        exact j_out X Y ⟨Nat.le_refl _, Nat.le_refl _⟩ (fun H locs ls hP hD hS hLs => t_cS X mc_U_61 yo_U_needArgument rfl rfl hz (x_U_needArgument _ hs E _) rfl rfl rfl (Nat.le_of_ble_eq_true rfl) ⟨Nat.le_refl _, Nat.le_refl _⟩ d_U_record_51 hP hD hS hLs)
      · skip
        exact absurd ⟨h34, h43⟩ hh
  · exact absurd h19 (by omega)

set_option maxRecDepth 100000 in
set_option maxHeartbeats 4000000 in
theorem c_U_byteOf (l : Launch) (E : eT) (σ : St) (t k i : Int) (h : clW σ) (ht : 0 ≤ t ∧ t ≤ 31) (hk : inR k) (hi : inR i) (hh : 1 ≤ k ∧ k ≤ σ 4 t 4) (hw : 0 ≤ i ∧ i ≤ σ 6 t k + dlS σ t k - 1) : FCon l E y_U_byteOf ws_U_byteOf 3 [.ref (E.2.2.2 0 0), .int (iI t), .int (iI k), .int (iI i)] σ (some (.int (iI (σ 9 t (σ 5 t k + 20 + i))))) σ := by
  refine con_of (cc := b_U_byteOf) (nL := 5) (ret := (some .int)) (by decide) (Nat.le_of_ble_eq_true rfl) (fun z X Y hn => ?_)
  have X : Cx E z b_U_byteOf R_U := X
  have hz := Y.2.1
  change J E z 0 0 0 [(0, .ref (E.2.2.2 0 0)), (1, .int (iI t)), (2, .int (iI k)), (3, .int (iI i))] [] (cells E σ)
  have hr := h.1
  have h4 := cw_n4 h (show 0 ≤ t ∧ t < 32 by omega)
  have hq := (h.2.1 t (by omega) (by omega)).1.2.2 k hh.1 hh.2
  have hd : dlS σ t k = σ 5 t (k + 1) - (σ 5 t k + 20 + σ 6 t k) := rfl
  refine j_aload_n X rfl d_U_byteOf_0 ?_
  refine j_iload_n X rfl d_U_byteOf_1 ?_
  refine j_iload_n X rfl d_U_byteOf_2 ?_
  refine v_U_136 X hz (c_U_needRecord (zl z) E σ t k ht hk hr hh) rfl rfl rfl (Nat.le_of_ble_eq_true rfl) ⟨Nat.le_refl _, Nat.le_refl _⟩ d_U_byteOf_3 ?_
  refine j_aload_n X rfl d_U_byteOf_6 ?_
  refine g_U_20 X d_U_byteOf_7 ?_
  refine j_iload_n X rfl d_U_byteOf_10 ?_
  refine j_aald X (by omega) d_U_byteOf_11 ?_
  refine j_astore X (zlt hn rfl) d_U_byteOf_12 ?_
  refine j_iload_n X rfl d_U_byteOf_14 ?_
  refine j_iconst X d_U_byteOf_15 ?_
  refine j_aload X rfl d_U_byteOf_16 ?_
  refine j_iload_n X rfl d_U_byteOf_18 ?_
  refine v_U_127 X (okCT rfl (by omega)) hz (c_T_keyLength (zl z) E σ t k (by omega) (by omega)) rfl rfl rfl (Nat.le_of_ble_eq_true rfl) ⟨Nat.le_refl _, Nat.le_refl _⟩ d_U_byteOf_19 ?_
  refine j_aload X rfl d_U_byteOf_22 ?_
  refine j_iload_n X rfl d_U_byteOf_24 ?_
  refine v_U_130 X (okCT rfl (by omega)) hz (c_T_dataLength (zl z) E σ t k (by omega) (by omega)) rfl rfl rfl (Nat.le_of_ble_eq_true rfl) ⟨Nat.le_refl _, Nat.le_refl _⟩ d_U_byteOf_25 ?_
  refine j_iadd X d_U_byteOf_28 ?_
  refine j_iconst X d_U_byteOf_29 ?_
  refine j_isub X d_U_byteOf_30 ?_
  refine s_U_57 X hz (c_isWithin (zl z) E σ i 0 (σ 6 t k + dlS σ t k - 1) (by omega) (by omega) (by omega)) rfl rfl rfl (Nat.le_of_ble_eq_true rfl) ⟨Nat.le_refl _, Nat.le_refl _⟩ d_U_byteOf_31 ?_
  refine j_topi (congrArg iI (b2i_t (by omega))) ?_
  refine s_U_61 X hz (c_U_needArgument (zl z) E σ) rfl rfl rfl (Nat.le_of_ble_eq_true rfl) ⟨Nat.le_refl _, Nat.le_refl _⟩ d_U_byteOf_34 ?_
  refine j_aload X rfl d_U_byteOf_37 ?_
  refine j_iload_n X rfl d_U_byteOf_39 ?_
  refine j_iload_n X rfl d_U_byteOf_40 ?_
  refine v_U_139 X (okCT rfl (by omega)) hz (c_T_contentByte (zl z) E σ t k i (by omega) (by omega) (h.2.1 t (by omega) (by omega)).2.1 (by omega)) rfl rfl rfl (Nat.le_of_ble_eq_true rfl) ⟨Nat.le_refl _, Nat.le_refl _⟩ d_U_byteOf_41 ?_
  exact j_iret X Y (Nat.le_refl _) (Nat.le_refl _) d_U_byteOf_44 ⟨rfl, rfl⟩

set_option maxRecDepth 100000 in
set_option maxHeartbeats 4000000 in
theorem x_U_byteOf1 (l : Launch) (hl0 : l.stackTraces = false) (E : eT) (σ : St) (t k i : Int) (hi : inR t) (ht : ¬ (0 ≤ t ∧ t ≤ 31)) : TCon l E y_U_byteOf ws_U_byteOf 8 1 6 [.ref (E.2.2.2 0 0), .int (iI t), .int (iI k), .int (iI i)] (cells E σ) iaX (cells E σ) := by
  refine tcon_of (cc := b_U_byteOf) (nL := 5) (ret := (some .int)) (by decide) (Nat.le_of_ble_eq_true rfl) (fun z X Y hn => ?_)
  have X : Cx E z b_U_byteOf R_U := X
  have hz := Y.2.1
  have hs : (zl z).stackTraces = false := by rw [Y.1]; exact hl0
  change J E z 0 0 0 [(0, .ref (E.2.2.2 0 0)), (1, .int (iI t)), (2, .int (iI k)), (3, .int (iI i))] [] (cells E σ)
  refine j_aload_n X rfl d_U_byteOf_0 ?_
  refine j_iload_n X rfl d_U_byteOf_1 ?_
  refine j_iload_n X rfl d_U_byteOf_2 ?_
  exact j_out X Y ⟨Nat.le_refl _, Nat.le_refl _⟩ (fun H locs ls hP hD hS hLs => t_cV X mc_U_136 yo_U_needRecord rfl (cl_get (okC1 rfl)) rfl hz (x_U_needRecord1 _ hs E σ t k hi ht) rfl rfl rfl (Nat.le_of_ble_eq_true rfl) ⟨Nat.le_refl _, Nat.le_refl _⟩ d_U_byteOf_3 hP hD hS hLs)

set_option maxRecDepth 100000 in
set_option maxHeartbeats 4000000 in
theorem x_U_byteOf2 (l : Launch) (hl0 : l.stackTraces = false) (E : eT) (σ : St) (t k i : Int) (ht : 0 ≤ t ∧ t ≤ 31) (hk : inR k) (hr : rg σ) (hh : ¬ (1 ≤ k ∧ k ≤ σ 4 t 4)) : TCon l E y_U_byteOf ws_U_byteOf 8 1 6 [.ref (E.2.2.2 0 0), .int (iI t), .int (iI k), .int (iI i)] (cells E σ) iaX (cells E σ) := by
  refine tcon_of (cc := b_U_byteOf) (nL := 5) (ret := (some .int)) (by decide) (Nat.le_of_ble_eq_true rfl) (fun z X Y hn => ?_)
  have X : Cx E z b_U_byteOf R_U := X
  have hz := Y.2.1
  have hs : (zl z).stackTraces = false := by rw [Y.1]; exact hl0
  change J E z 0 0 0 [(0, .ref (E.2.2.2 0 0)), (1, .int (iI t)), (2, .int (iI k)), (3, .int (iI i))] [] (cells E σ)
  refine j_aload_n X rfl d_U_byteOf_0 ?_
  refine j_iload_n X rfl d_U_byteOf_1 ?_
  refine j_iload_n X rfl d_U_byteOf_2 ?_
  exact j_out X Y ⟨Nat.le_refl _, Nat.le_refl _⟩ (fun H locs ls hP hD hS hLs => t_cV X mc_U_136 yo_U_needRecord rfl (cl_get (okC1 rfl)) rfl hz (x_U_needRecord2 _ hs E σ t k ht hk hr hh) rfl rfl rfl (Nat.le_of_ble_eq_true rfl) ⟨Nat.le_refl _, Nat.le_refl _⟩ d_U_byteOf_3 hP hD hS hLs)

set_option maxRecDepth 100000 in
set_option maxHeartbeats 4000000 in
theorem x_U_byteOf3 (l : Launch) (hl0 : l.stackTraces = false) (E : eT) (σ : St) (t k i : Int) (h : clW σ) (ht : 0 ≤ t ∧ t ≤ 31) (hk : inR k) (hi : inR i) (hh : 1 ≤ k ∧ k ≤ σ 4 t 4) (hw : ¬ (0 ≤ i ∧ i ≤ σ 6 t k + dlS σ t k - 1)) : TCon l E y_U_byteOf ws_U_byteOf 8 1 6 [.ref (E.2.2.2 0 0), .int (iI t), .int (iI k), .int (iI i)] (cells E σ) iaX (cells E σ) := by
  refine tcon_of (cc := b_U_byteOf) (nL := 5) (ret := (some .int)) (by decide) (Nat.le_of_ble_eq_true rfl) (fun z X Y hn => ?_)
  have X : Cx E z b_U_byteOf R_U := X
  have hz := Y.2.1
  have hs : (zl z).stackTraces = false := by rw [Y.1]; exact hl0
  change J E z 0 0 0 [(0, .ref (E.2.2.2 0 0)), (1, .int (iI t)), (2, .int (iI k)), (3, .int (iI i))] [] (cells E σ)
  have hr := h.1
  have h4 := cw_n4 h (show 0 ≤ t ∧ t < 32 by omega)
  have hq := (h.2.1 t (by omega) (by omega)).1.2.2 k hh.1 hh.2
  have hd : dlS σ t k = σ 5 t (k + 1) - (σ 5 t k + 20 + σ 6 t k) := rfl
  refine j_aload_n X rfl d_U_byteOf_0 ?_
  refine j_iload_n X rfl d_U_byteOf_1 ?_
  refine j_iload_n X rfl d_U_byteOf_2 ?_
  refine v_U_136 X hz (c_U_needRecord (zl z) E σ t k ht hk hr hh) rfl rfl rfl (Nat.le_of_ble_eq_true rfl) ⟨Nat.zero_le _, Nat.zero_le _⟩ d_U_byteOf_3 ?_
  refine j_aload_n X rfl d_U_byteOf_6 ?_
  refine g_U_20 X d_U_byteOf_7 ?_
  refine j_iload_n X rfl d_U_byteOf_10 ?_
  refine j_aald X (by omega) d_U_byteOf_11 ?_
  refine j_astore X (zlt hn rfl) d_U_byteOf_12 ?_
  refine j_iload_n X rfl d_U_byteOf_14 ?_
  refine j_iconst X d_U_byteOf_15 ?_
  refine j_aload X rfl d_U_byteOf_16 ?_
  refine j_iload_n X rfl d_U_byteOf_18 ?_
  refine v_U_127 X (okCT rfl (by omega)) hz (c_T_keyLength (zl z) E σ t k (by omega) (by omega)) rfl rfl rfl (Nat.le_of_ble_eq_true rfl) ⟨Nat.zero_le _, Nat.zero_le _⟩ d_U_byteOf_19 ?_
  refine j_aload X rfl d_U_byteOf_22 ?_
  refine j_iload_n X rfl d_U_byteOf_24 ?_
  refine v_U_130 X (okCT rfl (by omega)) hz (c_T_dataLength (zl z) E σ t k (by omega) (by omega)) rfl rfl rfl (Nat.le_of_ble_eq_true rfl) ⟨Nat.zero_le _, Nat.zero_le _⟩ d_U_byteOf_25 ?_
  refine j_iadd X d_U_byteOf_28 ?_
  refine j_iconst X d_U_byteOf_29 ?_
  refine j_isub X d_U_byteOf_30 ?_
  refine s_U_57 X hz (c_isWithin (zl z) E σ i 0 (σ 6 t k + dlS σ t k - 1) (by omega) (by omega) (by omega)) rfl rfl rfl (Nat.le_of_ble_eq_true rfl) ⟨Nat.zero_le _, Nat.zero_le _⟩ d_U_byteOf_31 ?_
  refine j_topi (congrArg iI (b2i_f (by omega))) ?_
  exact j_out X Y ⟨Nat.le_refl _, Nat.le_refl _⟩ (fun H locs ls hP hD hS hLs => t_cS X mc_U_61 yo_U_needArgument rfl rfl hz (x_U_needArgument _ hs E _) rfl rfl rfl (Nat.le_of_ble_eq_true rfl) ⟨Nat.le_refl _, Nat.le_refl _⟩ d_U_byteOf_34 hP hD hS hLs)

set_option maxRecDepth 100000 in
set_option maxHeartbeats 4000000 in
theorem c_U_spoil (l : Launch) (E : eT) (σ : St) (t k : Int) (ht : 0 ≤ t ∧ t ≤ 31) (hk : inR k) (hr : rg σ) (hh : 1 ≤ k ∧ k ≤ σ 4 t 4) (h4 : σ 4 t 4 ≤ 30) : FCon l E y_U_spoil ws_U_spoil 3 [.ref (E.2.2.2 0 0), .int (iI t), .int (iI k)] σ none (up σ 7 t k 1) := by
  refine con_of (cc := b_U_spoil) (nL := 3) (ret := none) (by decide) (Nat.le_of_ble_eq_true rfl) (fun z X Y hn => ?_)
  have X : Cx E z b_U_spoil R_U := X
  have hz := Y.2.1
  change J E z 0 0 0 [(0, .ref (E.2.2.2 0 0)), (1, .int (iI t)), (2, .int (iI k))] [] (cells E σ)
  refine j_aload_n X rfl d_U_spoil_0 ?_
  refine j_iload_n X rfl d_U_spoil_1 ?_
  refine j_iload_n X rfl d_U_spoil_2 ?_
  refine v_U_136 X hz (c_U_needRecord (zl z) E σ t k ht hk hr hh) rfl rfl rfl (Nat.le_of_ble_eq_true rfl) ⟨Nat.le_refl _, Nat.le_refl _⟩ d_U_spoil_3 ?_
  refine j_aload_n X rfl d_U_spoil_6 ?_
  refine g_U_20 X d_U_spoil_7 ?_
  refine j_iload_n X rfl d_U_spoil_10 ?_
  refine j_aald X (by omega) d_U_spoil_11 ?_
  refine j_iload_n X rfl d_U_spoil_12 ?_
  refine v_U_143 X (okCT rfl (by omega)) hz (c_T_makeSpoiled (zl z) E σ t k (by omega) (by omega)) rfl rfl rfl (Nat.le_of_ble_eq_true rfl) ⟨Nat.le_refl _, Nat.le_refl _⟩ d_U_spoil_13 ?_
  exact j_vret X Y (Nat.le_refl _) (Nat.le_refl _) d_U_spoil_16 ⟨rfl, rfl⟩

set_option maxRecDepth 100000 in
set_option maxHeartbeats 4000000 in
theorem x_U_spoil1 (l : Launch) (hl0 : l.stackTraces = false) (E : eT) (σ : St) (t k : Int) (hi : inR t) (ht : ¬ (0 ≤ t ∧ t ≤ 31)) : TCon l E y_U_spoil ws_U_spoil 8 1 6 [.ref (E.2.2.2 0 0), .int (iI t), .int (iI k)] (cells E σ) iaX (cells E σ) := by
  refine tcon_of (cc := b_U_spoil) (nL := 3) (ret := none) (by decide) (Nat.le_of_ble_eq_true rfl) (fun z X Y hn => ?_)
  have X : Cx E z b_U_spoil R_U := X
  have hz := Y.2.1
  have hs : (zl z).stackTraces = false := by rw [Y.1]; exact hl0
  change J E z 0 0 0 [(0, .ref (E.2.2.2 0 0)), (1, .int (iI t)), (2, .int (iI k))] [] (cells E σ)
  refine j_aload_n X rfl d_U_spoil_0 ?_
  refine j_iload_n X rfl d_U_spoil_1 ?_
  refine j_iload_n X rfl d_U_spoil_2 ?_
  exact j_out X Y ⟨Nat.le_refl _, Nat.le_refl _⟩ (fun H locs ls hP hD hS hLs => t_cV X mc_U_136 yo_U_needRecord rfl (cl_get (okC1 rfl)) rfl hz (x_U_needRecord1 _ hs E σ t k hi ht) rfl rfl rfl (Nat.le_of_ble_eq_true rfl) ⟨Nat.le_refl _, Nat.le_refl _⟩ d_U_spoil_3 hP hD hS hLs)

set_option maxRecDepth 100000 in
set_option maxHeartbeats 4000000 in
theorem x_U_spoil2 (l : Launch) (hl0 : l.stackTraces = false) (E : eT) (σ : St) (t k : Int) (ht : 0 ≤ t ∧ t ≤ 31) (hk : inR k) (hr : rg σ) (hh : ¬ (1 ≤ k ∧ k ≤ σ 4 t 4)) : TCon l E y_U_spoil ws_U_spoil 8 1 6 [.ref (E.2.2.2 0 0), .int (iI t), .int (iI k)] (cells E σ) iaX (cells E σ) := by
  refine tcon_of (cc := b_U_spoil) (nL := 3) (ret := none) (by decide) (Nat.le_of_ble_eq_true rfl) (fun z X Y hn => ?_)
  have X : Cx E z b_U_spoil R_U := X
  have hz := Y.2.1
  have hs : (zl z).stackTraces = false := by rw [Y.1]; exact hl0
  change J E z 0 0 0 [(0, .ref (E.2.2.2 0 0)), (1, .int (iI t)), (2, .int (iI k))] [] (cells E σ)
  refine j_aload_n X rfl d_U_spoil_0 ?_
  refine j_iload_n X rfl d_U_spoil_1 ?_
  refine j_iload_n X rfl d_U_spoil_2 ?_
  exact j_out X Y ⟨Nat.le_refl _, Nat.le_refl _⟩ (fun H locs ls hP hD hS hLs => t_cV X mc_U_136 yo_U_needRecord rfl (cl_get (okC1 rfl)) rfl hz (x_U_needRecord2 _ hs E σ t k ht hk hr hh) rfl rfl rfl (Nat.le_of_ble_eq_true rfl) ⟨Nat.le_refl _, Nat.le_refl _⟩ d_U_spoil_3 hP hD hS hLs)

set_option maxRecDepth 100000 in
set_option maxHeartbeats 4000000 in
theorem c_U_allocate (l : Launch) (E : eT) (σ : St) (a w : Int) (hr : rg σ) (ha : 0 ≤ a ∧ a ≤ 5) (hw : 1 ≤ w ∧ w ≤ 32) (h1 : ¬ 0 < cnO (σ 17 0) a 32) (h2 : w ≤ cnO (σ 17 0) (-1) 32 ∧ exL (σ 17 0) w 32 0 0 0 ≤ 4) : FCon l E y_U_allocate ws_U_allocate 3 [.ref (E.2.2.2 0 0), .int (iI a), .int (iI w)] σ (some (.int (iI (exL (σ 17 0) w 32 0 0 0)))) (tkL a w 32 0 0 σ) := by
  refine con_of (cc := b_U_allocate) (nL := 3) (ret := (some .int)) (by decide) (Nat.le_of_ble_eq_true rfl) (fun z X Y hn => ?_)
  have X : Cx E z b_U_allocate R_U := X
  have hz := Y.2.1
  change J E z 0 0 0 [(0, .ref (E.2.2.2 0 0)), (1, .int (iI a)), (2, .int (iI w))] [] (cells E σ)
  refine j_iload_n X rfl d_U_allocate_0 ?_
  refine s_U_146 X hz (c_U_needSet (zl z) E σ a ha) rfl rfl rfl (Nat.le_of_ble_eq_true rfl) ⟨Nat.le_refl _, Nat.le_refl _⟩ d_U_allocate_1 ?_
  refine j_iload_n X rfl d_U_allocate_4 ?_
  refine j_iconst X d_U_allocate_5 ?_
  refine j_bipush X rfl d_U_allocate_6 ?_
  refine s_U_57 X hz (c_isWithin (zl z) E σ w 1 32 (by omega) (by omega) (by omega)) rfl rfl rfl (Nat.le_of_ble_eq_true rfl) ⟨Nat.le_refl _, Nat.le_refl _⟩ d_U_allocate_8 ?_
  refine j_topi (congrArg iI (b2i_t (by omega))) ?_
  refine s_U_61 X hz (c_U_needArgument (zl z) E σ) rfl rfl rfl (Nat.le_of_ble_eq_true rfl) ⟨Nat.le_refl _, Nat.le_refl _⟩ d_U_allocate_11 ?_
  refine j_aload_n X rfl d_U_allocate_14 ?_
  refine g_U_53 X d_U_allocate_15 ?_
  refine j_iload_n X rfl d_U_allocate_18 ?_
  refine v_U_149 X hz (c_D_isAllocated (zl z) E σ a hr (by omega)) rfl rfl rfl (Nat.le_of_ble_eq_true rfl) ⟨Nat.le_refl _, Nat.le_refl _⟩ d_U_allocate_19 ?_
  refine j_ifnz X d_U_allocate_22 (tgt := 40) rfl (fun h22 => ?_) (fun h22 => ?_)
  · exact absurd h22 (by omega)
  · skip
    refine j_aload_n X rfl d_U_allocate_25 ?_
    refine g_U_53 X d_U_allocate_26 ?_
    refine j_iload_n X rfl d_U_allocate_29 ?_
    refine v_U_152 X hz (c_D_canTake (zl z) E σ w hr (by omega)) rfl rfl rfl (Nat.le_of_ble_eq_true rfl) ⟨Nat.le_refl _, Nat.le_refl _⟩ d_U_allocate_30 ?_
    refine j_ifz X d_U_allocate_33 (tgt := 40) rfl (fun h33 => ?_) (fun h33 => ?_)
    · exact absurd h33 (by omega)
    · skip
      refine j_iconst X d_U_allocate_36 ?_
      refine j_goto X d_U_allocate_37 (tgt := 41) rfl ?_
      refine s_U_72 X hz (c_U_needState (zl z) E σ) rfl rfl rfl (Nat.le_of_ble_eq_true rfl) ⟨Nat.le_refl _, Nat.le_refl _⟩ d_U_allocate_41 ?_
      refine j_aload_n X rfl d_U_allocate_44 ?_
      refine g_U_53 X d_U_allocate_45 ?_
      refine j_iload_n X rfl d_U_allocate_48 ?_
      refine j_iload_n X rfl d_U_allocate_49 ?_
      refine v_U_155 X hz (c_D_take (zl z) E σ a w hr (by omega) (by omega)) rfl rfl rfl (Nat.le_of_ble_eq_true rfl) ⟨Nat.le_refl _, Nat.le_refl _⟩ d_U_allocate_50 ?_
      exact j_iret X Y (Nat.le_refl _) (Nat.le_refl _) d_U_allocate_53 ⟨rfl, rfl⟩

set_option maxRecDepth 100000 in
set_option maxHeartbeats 4000000 in
theorem x_U_allocate1 (l : Launch) (hl0 : l.stackTraces = false) (E : eT) (σ : St) (a w : Int) (hi : inR a) (ha : ¬ (0 ≤ a ∧ a ≤ 5)) : TCon l E y_U_allocate ws_U_allocate 8 1 6 [.ref (E.2.2.2 0 0), .int (iI a), .int (iI w)] (cells E σ) iaX (cells E σ) := by
  refine tcon_of (cc := b_U_allocate) (nL := 3) (ret := (some .int)) (by decide) (Nat.le_of_ble_eq_true rfl) (fun z X Y hn => ?_)
  have X : Cx E z b_U_allocate R_U := X
  have hz := Y.2.1
  have hs : (zl z).stackTraces = false := by rw [Y.1]; exact hl0
  change J E z 0 0 0 [(0, .ref (E.2.2.2 0 0)), (1, .int (iI a)), (2, .int (iI w))] [] (cells E σ)
  refine j_iload_n X rfl d_U_allocate_0 ?_
  exact j_out X Y ⟨Nat.le_refl _, Nat.le_refl _⟩ (fun H locs ls hP hD hS hLs => t_cS X mc_U_146 yo_U_needSet rfl rfl hz (x_U_needSet _ hs E σ a hi ha) rfl rfl rfl (Nat.le_of_ble_eq_true rfl) ⟨Nat.le_refl _, Nat.le_refl _⟩ d_U_allocate_1 hP hD hS hLs)

set_option maxRecDepth 100000 in
set_option maxHeartbeats 4000000 in
theorem x_U_allocate2 (l : Launch) (hl0 : l.stackTraces = false) (E : eT) (σ : St) (a w : Int) (ha : 0 ≤ a ∧ a ≤ 5) (hi : inR w) (hw : ¬ (1 ≤ w ∧ w ≤ 32)) : TCon l E y_U_allocate ws_U_allocate 8 1 6 [.ref (E.2.2.2 0 0), .int (iI a), .int (iI w)] (cells E σ) iaX (cells E σ) := by
  refine tcon_of (cc := b_U_allocate) (nL := 3) (ret := (some .int)) (by decide) (Nat.le_of_ble_eq_true rfl) (fun z X Y hn => ?_)
  have X : Cx E z b_U_allocate R_U := X
  have hz := Y.2.1
  have hs : (zl z).stackTraces = false := by rw [Y.1]; exact hl0
  change J E z 0 0 0 [(0, .ref (E.2.2.2 0 0)), (1, .int (iI a)), (2, .int (iI w))] [] (cells E σ)
  refine j_iload_n X rfl d_U_allocate_0 ?_
  refine s_U_146 X hz (c_U_needSet (zl z) E σ a ha) rfl rfl rfl (Nat.le_of_ble_eq_true rfl) ⟨Nat.zero_le _, Nat.zero_le _⟩ d_U_allocate_1 ?_
  refine j_iload_n X rfl d_U_allocate_4 ?_
  refine j_iconst X d_U_allocate_5 ?_
  refine j_bipush X rfl d_U_allocate_6 ?_
  refine s_U_57 X hz (c_isWithin (zl z) E σ w 1 32 (by omega) (by omega) (by omega)) rfl rfl rfl (Nat.le_of_ble_eq_true rfl) ⟨Nat.zero_le _, Nat.zero_le _⟩ d_U_allocate_8 ?_
  refine j_topi (congrArg iI (b2i_f (by omega))) ?_
  exact j_out X Y ⟨Nat.le_refl _, Nat.le_refl _⟩ (fun H locs ls hP hD hS hLs => t_cS X mc_U_61 yo_U_needArgument rfl rfl hz (x_U_needArgument _ hs E _) rfl rfl rfl (Nat.le_of_ble_eq_true rfl) ⟨Nat.le_refl _, Nat.le_refl _⟩ d_U_allocate_11 hP hD hS hLs)

set_option maxRecDepth 100000 in
set_option maxHeartbeats 4000000 in
theorem x_U_allocate3 (l : Launch) (hl0 : l.stackTraces = false) (E : eT) (σ : St) (a w : Int) (hr : rg σ) (ha : 0 ≤ a ∧ a ≤ 5) (hw : 1 ≤ w ∧ w ≤ 32) (h1 : 0 < cnO (σ 17 0) a 32 ∨ ¬ (w ≤ cnO (σ 17 0) (-1) 32 ∧ exL (σ 17 0) w 32 0 0 0 ≤ 4)) : TCon l E y_U_allocate ws_U_allocate 8 1 6 [.ref (E.2.2.2 0 0), .int (iI a), .int (iI w)] (cells E σ) isX (cells E σ) := by
  refine tcon_of (cc := b_U_allocate) (nL := 3) (ret := (some .int)) (by decide) (Nat.le_of_ble_eq_true rfl) (fun z X Y hn => ?_)
  have X : Cx E z b_U_allocate R_U := X
  have hz := Y.2.1
  have hs : (zl z).stackTraces = false := by rw [Y.1]; exact hl0
  change J E z 0 0 0 [(0, .ref (E.2.2.2 0 0)), (1, .int (iI a)), (2, .int (iI w))] [] (cells E σ)
  refine j_iload_n X rfl d_U_allocate_0 ?_
  refine s_U_146 X hz (c_U_needSet (zl z) E σ a ha) rfl rfl rfl (Nat.le_of_ble_eq_true rfl) ⟨Nat.zero_le _, Nat.zero_le _⟩ d_U_allocate_1 ?_
  refine j_iload_n X rfl d_U_allocate_4 ?_
  refine j_iconst X d_U_allocate_5 ?_
  refine j_bipush X rfl d_U_allocate_6 ?_
  refine s_U_57 X hz (c_isWithin (zl z) E σ w 1 32 (by omega) (by omega) (by omega)) rfl rfl rfl (Nat.le_of_ble_eq_true rfl) ⟨Nat.zero_le _, Nat.zero_le _⟩ d_U_allocate_8 ?_
  refine j_topi (congrArg iI (b2i_t (by omega))) ?_
  refine s_U_61 X hz (c_U_needArgument (zl z) E σ) rfl rfl rfl (Nat.le_of_ble_eq_true rfl) ⟨Nat.zero_le _, Nat.zero_le _⟩ d_U_allocate_11 ?_
  refine j_aload_n X rfl d_U_allocate_14 ?_
  refine g_U_53 X d_U_allocate_15 ?_
  refine j_iload_n X rfl d_U_allocate_18 ?_
  refine v_U_149 X hz (c_D_isAllocated (zl z) E σ a hr (by omega)) rfl rfl rfl (Nat.le_of_ble_eq_true rfl) ⟨Nat.zero_le _, Nat.zero_le _⟩ d_U_allocate_19 ?_
  refine j_ifnz X d_U_allocate_22 (tgt := 40) rfl (fun h22 => ?_) (fun h22 => ?_)
  · skip
    refine j_iconst X d_U_allocate_40 ?_
    exact j_out X Y ⟨Nat.le_refl _, Nat.le_refl _⟩ (fun H locs ls hP hD hS hLs => t_cS X mc_U_72 yo_U_needState rfl rfl hz (x_U_needState _ hs E _) rfl rfl rfl (Nat.le_of_ble_eq_true rfl) ⟨Nat.le_refl _, Nat.le_refl _⟩ d_U_allocate_41 hP hD hS hLs)
  · skip
    refine j_aload_n X rfl d_U_allocate_25 ?_
    refine g_U_53 X d_U_allocate_26 ?_
    refine j_iload_n X rfl d_U_allocate_29 ?_
    refine v_U_152 X hz (c_D_canTake (zl z) E σ w hr (by omega)) rfl rfl rfl (Nat.le_of_ble_eq_true rfl) ⟨Nat.zero_le _, Nat.zero_le _⟩ d_U_allocate_30 ?_
    refine j_ifz X d_U_allocate_33 (tgt := 40) rfl (fun h33 => ?_) (fun h33 => ?_)
    · skip
      refine j_iconst X d_U_allocate_40 ?_
      exact j_out X Y ⟨Nat.le_refl _, Nat.le_refl _⟩ (fun H locs ls hP hD hS hLs => t_cS X mc_U_72 yo_U_needState rfl rfl hz (x_U_needState _ hs E _) rfl rfl rfl (Nat.le_of_ble_eq_true rfl) ⟨Nat.le_refl _, Nat.le_refl _⟩ d_U_allocate_41 hP hD hS hLs)
    · skip
      exact absurd h1 (fun q => q.elim h22 (fun r => r h33))

set_option maxRecDepth 100000 in
set_option maxHeartbeats 4000000 in
theorem c_U_scratch (l : Launch) (E : eT) (σ : St) (a : Int) (hr : rg σ) (ha : 0 ≤ a ∧ a ≤ 5) (h1 : 0 < cnO (σ 17 0) a 32) : FCon l E y_U_scratch ws_U_scratch 3 [.ref (E.2.2.2 0 0), .int (iI a)] σ none (gvS σ a 32) := by
  refine con_of (cc := b_U_scratch) (nL := 2) (ret := none) (by decide) (Nat.le_of_ble_eq_true rfl) (fun z X Y hn => ?_)
  have X : Cx E z b_U_scratch R_U := X
  have hz := Y.2.1
  change J E z 0 0 0 [(0, .ref (E.2.2.2 0 0)), (1, .int (iI a))] [] (cells E σ)
  refine j_iload_n X rfl d_U_scratch_0 ?_
  refine s_U_146 X hz (c_U_needSet (zl z) E σ a ha) rfl rfl rfl (Nat.le_of_ble_eq_true rfl) ⟨Nat.le_refl _, Nat.le_refl _⟩ d_U_scratch_1 ?_
  refine j_aload_n X rfl d_U_scratch_4 ?_
  refine g_U_53 X d_U_scratch_5 ?_
  refine j_iload_n X rfl d_U_scratch_8 ?_
  refine v_U_149 X hz (c_D_isAllocated (zl z) E σ a hr (by omega)) rfl rfl rfl (Nat.le_of_ble_eq_true rfl) ⟨Nat.le_refl _, Nat.le_refl _⟩ d_U_scratch_9 ?_
  refine j_topi (congrArg iI (b2i_t h1)) ?_
  refine s_U_72 X hz (c_U_needState (zl z) E σ) rfl rfl rfl (Nat.le_of_ble_eq_true rfl) ⟨Nat.le_refl _, Nat.le_refl _⟩ d_U_scratch_12 ?_
  refine j_aload_n X rfl d_U_scratch_15 ?_
  refine g_U_53 X d_U_scratch_16 ?_
  refine j_iload_n X rfl d_U_scratch_19 ?_
  refine v_U_158 X hz (c_D_giveBack (zl z) E σ a hr (by omega)) rfl rfl rfl (Nat.le_of_ble_eq_true rfl) ⟨Nat.le_refl _, Nat.le_refl _⟩ d_U_scratch_20 ?_
  exact j_vret X Y (Nat.le_refl _) (Nat.le_refl _) d_U_scratch_23 ⟨rfl, rfl⟩

set_option maxRecDepth 100000 in
set_option maxHeartbeats 4000000 in
theorem x_U_scratch1 (l : Launch) (hl0 : l.stackTraces = false) (E : eT) (σ : St) (a : Int) (hi : inR a) (ha : ¬ (0 ≤ a ∧ a ≤ 5)) : TCon l E y_U_scratch ws_U_scratch 8 1 6 [.ref (E.2.2.2 0 0), .int (iI a)] (cells E σ) iaX (cells E σ) := by
  refine tcon_of (cc := b_U_scratch) (nL := 2) (ret := none) (by decide) (Nat.le_of_ble_eq_true rfl) (fun z X Y hn => ?_)
  have X : Cx E z b_U_scratch R_U := X
  have hz := Y.2.1
  have hs : (zl z).stackTraces = false := by rw [Y.1]; exact hl0
  change J E z 0 0 0 [(0, .ref (E.2.2.2 0 0)), (1, .int (iI a))] [] (cells E σ)
  refine j_iload_n X rfl d_U_scratch_0 ?_
  exact j_out X Y ⟨Nat.le_refl _, Nat.le_refl _⟩ (fun H locs ls hP hD hS hLs => t_cS X mc_U_146 yo_U_needSet rfl rfl hz (x_U_needSet _ hs E σ a hi ha) rfl rfl rfl (Nat.le_of_ble_eq_true rfl) ⟨Nat.le_refl _, Nat.le_refl _⟩ d_U_scratch_1 hP hD hS hLs)

set_option maxRecDepth 100000 in
set_option maxHeartbeats 4000000 in
theorem x_U_scratch2 (l : Launch) (hl0 : l.stackTraces = false) (E : eT) (σ : St) (a : Int) (hr : rg σ) (ha : 0 ≤ a ∧ a ≤ 5) (h1 : ¬ 0 < cnO (σ 17 0) a 32) : TCon l E y_U_scratch ws_U_scratch 8 1 6 [.ref (E.2.2.2 0 0), .int (iI a)] (cells E σ) isX (cells E σ) := by
  refine tcon_of (cc := b_U_scratch) (nL := 2) (ret := none) (by decide) (Nat.le_of_ble_eq_true rfl) (fun z X Y hn => ?_)
  have X : Cx E z b_U_scratch R_U := X
  have hz := Y.2.1
  have hs : (zl z).stackTraces = false := by rw [Y.1]; exact hl0
  change J E z 0 0 0 [(0, .ref (E.2.2.2 0 0)), (1, .int (iI a))] [] (cells E σ)
  refine j_iload_n X rfl d_U_scratch_0 ?_
  refine s_U_146 X hz (c_U_needSet (zl z) E σ a ha) rfl rfl rfl (Nat.le_of_ble_eq_true rfl) ⟨Nat.zero_le _, Nat.zero_le _⟩ d_U_scratch_1 ?_
  refine j_aload_n X rfl d_U_scratch_4 ?_
  refine g_U_53 X d_U_scratch_5 ?_
  refine j_iload_n X rfl d_U_scratch_8 ?_
  refine v_U_149 X hz (c_D_isAllocated (zl z) E σ a hr (by omega)) rfl rfl rfl (Nat.le_of_ble_eq_true rfl) ⟨Nat.zero_le _, Nat.zero_le _⟩ d_U_scratch_9 ?_
  refine j_topi (congrArg iI (b2i_f h1)) ?_
  exact j_out X Y ⟨Nat.le_refl _, Nat.le_refl _⟩ (fun H locs ls hP hD hS hLs => t_cS X mc_U_72 yo_U_needState rfl rfl hz (x_U_needState _ hs E _) rfl rfl rfl (Nat.le_of_ble_eq_true rfl) ⟨Nat.le_refl _, Nat.le_refl _⟩ d_U_scratch_12 hP hD hS hLs)

set_option maxRecDepth 100000 in
set_option maxHeartbeats 4000000 in
theorem c_U_trackOf0 (l : Launch) (E : eT) (σ : St) (a : Int) (hr : rg σ) (ha : 0 ≤ a ∧ a ≤ 5) : FCon l E y_U_trackOf ws_U_trackOf 2 [.ref (E.2.2.2 0 0), .int (iI a), .int (iI (-1))] σ (some (.int (iI (cnO (σ 17 0) a 32)))) σ := by
  refine con_of (cc := b_U_trackOf) (nL := 4) (ret := (some .int)) (by decide) (Nat.le_of_ble_eq_true rfl) (fun z X Y hn => ?_)
  have X : Cx E z b_U_trackOf R_U := X
  have hz := Y.2.1
  change J E z 0 0 0 [(0, .ref (E.2.2.2 0 0)), (1, .int (iI a)), (2, .int (iI (-1)))] [] (cells E σ)
  have hc := cnO_in (σ 17 0) a 32
  refine j_iload_n X rfl d_U_trackOf_0 ?_
  refine s_U_146 X hz (c_U_needSet (zl z) E σ a ha) rfl rfl rfl (Nat.le_of_ble_eq_true rfl) ⟨Nat.le_refl _, Nat.le_refl _⟩ d_U_trackOf_1 ?_
  refine j_aload_n X rfl d_U_trackOf_4 ?_
  refine g_U_53 X d_U_trackOf_5 ?_
  refine j_iload_n X rfl d_U_trackOf_8 ?_
  refine v_U_161 X hz (c_D_size (zl z) E σ a hr (by omega)) rfl rfl rfl (Nat.le_of_ble_eq_true rfl) ⟨Nat.le_refl _, Nat.le_refl _⟩ d_U_trackOf_9 ?_
  refine j_istore_n X (zlt hn rfl) d_U_trackOf_12 ?_
  refine j_iload_n X rfl d_U_trackOf_13 ?_
  refine j_iconst X d_U_trackOf_14 ?_
  refine j_icmp_ne X (by omega) (by omega) d_U_trackOf_15 (tgt := 20) rfl (fun h15 => ?_) (fun h15 => ?_)
  · exact absurd h15 (by omega)
  · skip
    refine j_iload_n X rfl d_U_trackOf_18 ?_
    exact j_iret X Y (Nat.le_refl _) (Nat.le_refl _) d_U_trackOf_19 ⟨rfl, rfl⟩

set_option maxRecDepth 100000 in
set_option maxHeartbeats 4000000 in
theorem c_U_trackOf1 (l : Launch) (E : eT) (σ : St) (a j : Int) (hr : rg σ) (ha : 0 ≤ a ∧ a ≤ 5) (hi : inR j) (hj : 0 ≤ j ∧ j ≤ cnO (σ 17 0) a 32 - 1) : FCon l E y_U_trackOf ws_U_trackOf 2 [.ref (E.2.2.2 0 0), .int (iI a), .int (iI j)] σ (some (.int (iI (taO (σ 17 0) a j 32 0)))) σ := by
  refine con_of (cc := b_U_trackOf) (nL := 4) (ret := (some .int)) (by decide) (Nat.le_of_ble_eq_true rfl) (fun z X Y hn => ?_)
  have X : Cx E z b_U_trackOf R_U := X
  have hz := Y.2.1
  change J E z 0 0 0 [(0, .ref (E.2.2.2 0 0)), (1, .int (iI a)), (2, .int (iI j))] [] (cells E σ)
  have hc := cnO_in (σ 17 0) a 32
  refine j_iload_n X rfl d_U_trackOf_0 ?_
  refine s_U_146 X hz (c_U_needSet (zl z) E σ a ha) rfl rfl rfl (Nat.le_of_ble_eq_true rfl) ⟨Nat.le_refl _, Nat.le_refl _⟩ d_U_trackOf_1 ?_
  refine j_aload_n X rfl d_U_trackOf_4 ?_
  refine g_U_53 X d_U_trackOf_5 ?_
  refine j_iload_n X rfl d_U_trackOf_8 ?_
  refine v_U_161 X hz (c_D_size (zl z) E σ a hr (by omega)) rfl rfl rfl (Nat.le_of_ble_eq_true rfl) ⟨Nat.le_refl _, Nat.le_refl _⟩ d_U_trackOf_9 ?_
  refine j_istore_n X (zlt hn rfl) d_U_trackOf_12 ?_
  refine j_iload_n X rfl d_U_trackOf_13 ?_
  refine j_iconst X d_U_trackOf_14 ?_
  refine j_icmp_ne X (by omega) (by omega) d_U_trackOf_15 (tgt := 20) rfl (fun h15 => ?_) (fun h15 => ?_)
  · skip
    refine j_iload_n X rfl d_U_trackOf_20 ?_
    refine j_iconst X d_U_trackOf_21 ?_
    refine j_iload_n X rfl d_U_trackOf_22 ?_
    refine j_iconst X d_U_trackOf_23 ?_
    refine j_isub X d_U_trackOf_24 ?_
    refine s_U_57 X hz (c_isWithin (zl z) E σ j 0 (cnO (σ 17 0) a 32 - 1) (by omega) (by omega) (by omega)) rfl rfl rfl (Nat.le_of_ble_eq_true rfl) ⟨Nat.le_refl _, Nat.le_refl _⟩ d_U_trackOf_25 ?_
    refine j_topi (congrArg iI (b2i_t (by omega))) ?_
    refine s_U_61 X hz (c_U_needArgument (zl z) E σ) rfl rfl rfl (Nat.le_of_ble_eq_true rfl) ⟨Nat.le_refl _, Nat.le_refl _⟩ d_U_trackOf_28 ?_
    refine j_aload_n X rfl d_U_trackOf_31 ?_
    refine g_U_53 X d_U_trackOf_32 ?_
    refine j_iload_n X rfl d_U_trackOf_35 ?_
    refine j_iload_n X rfl d_U_trackOf_36 ?_
    refine v_U_163 X hz (c_D_trackAt (zl z) E σ a j hr (by omega) (by omega)) rfl rfl rfl (Nat.le_of_ble_eq_true rfl) ⟨Nat.le_refl _, Nat.le_refl _⟩ d_U_trackOf_37 ?_
    exact j_iret X Y (Nat.le_refl _) (Nat.le_refl _) d_U_trackOf_40 ⟨rfl, rfl⟩
  · exact absurd h15 (by omega)

set_option maxRecDepth 100000 in
set_option maxHeartbeats 4000000 in
theorem x_U_trackOf1 (l : Launch) (hl0 : l.stackTraces = false) (E : eT) (σ : St) (a j : Int) (hi : inR a) (ha : ¬ (0 ≤ a ∧ a ≤ 5)) : TCon l E y_U_trackOf ws_U_trackOf 8 1 6 [.ref (E.2.2.2 0 0), .int (iI a), .int (iI j)] (cells E σ) iaX (cells E σ) := by
  refine tcon_of (cc := b_U_trackOf) (nL := 4) (ret := (some .int)) (by decide) (Nat.le_of_ble_eq_true rfl) (fun z X Y hn => ?_)
  have X : Cx E z b_U_trackOf R_U := X
  have hz := Y.2.1
  have hs : (zl z).stackTraces = false := by rw [Y.1]; exact hl0
  change J E z 0 0 0 [(0, .ref (E.2.2.2 0 0)), (1, .int (iI a)), (2, .int (iI j))] [] (cells E σ)
  refine j_iload_n X rfl d_U_trackOf_0 ?_
  exact j_out X Y ⟨Nat.le_refl _, Nat.le_refl _⟩ (fun H locs ls hP hD hS hLs => t_cS X mc_U_146 yo_U_needSet rfl rfl hz (x_U_needSet _ hs E σ a hi ha) rfl rfl rfl (Nat.le_of_ble_eq_true rfl) ⟨Nat.le_refl _, Nat.le_refl _⟩ d_U_trackOf_1 hP hD hS hLs)

set_option maxRecDepth 100000 in
set_option maxHeartbeats 4000000 in
theorem x_U_trackOf2 (l : Launch) (hl0 : l.stackTraces = false) (E : eT) (σ : St) (a j : Int) (hr : rg σ) (ha : 0 ≤ a ∧ a ≤ 5) (hi : inR j) (hm : ¬ j = -1) (hj : ¬ (0 ≤ j ∧ j ≤ cnO (σ 17 0) a 32 - 1)) : TCon l E y_U_trackOf ws_U_trackOf 8 1 6 [.ref (E.2.2.2 0 0), .int (iI a), .int (iI j)] (cells E σ) iaX (cells E σ) := by
  refine tcon_of (cc := b_U_trackOf) (nL := 4) (ret := (some .int)) (by decide) (Nat.le_of_ble_eq_true rfl) (fun z X Y hn => ?_)
  have X : Cx E z b_U_trackOf R_U := X
  have hz := Y.2.1
  have hs : (zl z).stackTraces = false := by rw [Y.1]; exact hl0
  change J E z 0 0 0 [(0, .ref (E.2.2.2 0 0)), (1, .int (iI a)), (2, .int (iI j))] [] (cells E σ)
  have hc := cnO_in (σ 17 0) a 32
  refine j_iload_n X rfl d_U_trackOf_0 ?_
  refine s_U_146 X hz (c_U_needSet (zl z) E σ a ha) rfl rfl rfl (Nat.le_of_ble_eq_true rfl) ⟨Nat.zero_le _, Nat.zero_le _⟩ d_U_trackOf_1 ?_
  refine j_aload_n X rfl d_U_trackOf_4 ?_
  refine g_U_53 X d_U_trackOf_5 ?_
  refine j_iload_n X rfl d_U_trackOf_8 ?_
  refine v_U_161 X hz (c_D_size (zl z) E σ a hr (by omega)) rfl rfl rfl (Nat.le_of_ble_eq_true rfl) ⟨Nat.zero_le _, Nat.zero_le _⟩ d_U_trackOf_9 ?_
  refine j_istore_n X (zlt hn rfl) d_U_trackOf_12 ?_
  refine j_iload_n X rfl d_U_trackOf_13 ?_
  refine j_iconst X d_U_trackOf_14 ?_
  refine j_icmp_ne X (by omega) (by omega) d_U_trackOf_15 (tgt := 20) rfl (fun h15 => ?_) (fun h15 => ?_)
  · skip
    refine j_iload_n X rfl d_U_trackOf_20 ?_
    refine j_iconst X d_U_trackOf_21 ?_
    refine j_iload_n X rfl d_U_trackOf_22 ?_
    refine j_iconst X d_U_trackOf_23 ?_
    refine j_isub X d_U_trackOf_24 ?_
    refine s_U_57 X hz (c_isWithin (zl z) E σ j 0 (cnO (σ 17 0) a 32 - 1) (by omega) (by omega) (by omega)) rfl rfl rfl (Nat.le_of_ble_eq_true rfl) ⟨Nat.zero_le _, Nat.zero_le _⟩ d_U_trackOf_25 ?_
    refine j_topi (congrArg iI (b2i_f (by omega))) ?_
    exact j_out X Y ⟨Nat.le_refl _, Nat.le_refl _⟩ (fun H locs ls hP hD hS hLs => t_cS X mc_U_61 yo_U_needArgument rfl rfl hz (x_U_needArgument _ hs E _) rfl rfl rfl (Nat.le_of_ble_eq_true rfl) ⟨Nat.le_refl _, Nat.le_refl _⟩ d_U_trackOf_28 hP hD hS hLs)
  · exact absurd h15 (by omega)

set_option maxRecDepth 100000 in
set_option maxHeartbeats 4000000 in
theorem c_U_free (l : Launch) (E : eT) (σ : St) (hr : rg σ) : FCon l E y_U_free ws_U_free 1 [.ref (E.2.2.2 0 0)] σ (some (.int (iI (cnO (σ 17 0) (-1) 32)))) σ := by
  refine con_of (cc := b_U_free) (nL := 1) (ret := (some .int)) (by decide) (Nat.le_of_ble_eq_true rfl) (fun z X Y hn => ?_)
  have X : Cx E z b_U_free R_U := X
  have hz := Y.2.1
  change J E z 0 0 0 [(0, .ref (E.2.2.2 0 0))] [] (cells E σ)
  refine j_aload_n X rfl d_U_free_0 ?_
  refine g_U_53 X d_U_free_1 ?_
  refine j_iconst X d_U_free_4 ?_
  refine v_U_161 X hz (c_D_size (zl z) E σ (-1) hr (by decide)) rfl rfl rfl (Nat.le_of_ble_eq_true rfl) ⟨Nat.le_refl _, Nat.le_refl _⟩ d_U_free_5 ?_
  exact j_iret X Y (Nat.le_refl _) (Nat.le_refl _) d_U_free_8 ⟨rfl, rfl⟩
