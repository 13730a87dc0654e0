/-! the model: keyed records -/
theorem sh_and (n : Nat) (hn : n ≤ 24) (x : Int32) : (x >>> (nI n &&& 31)) &&& 255 = (x.toUInt32 >>> ((nI n).toUInt32 &&& Int32.toUInt32 31)).toInt32 &&& 255 := by
  apply b_ext
  intro i hi
  rw [b_and, b_and, b_255, b_sshr n (by omega) x hi, b_ushr n (by omega) x i]
  by_cases h : i < 8
  · rw [if_pos (by omega)]
  · rw [decide_eq_false h, Bool.and_false, Bool.and_false]
noncomputable def ksS (key i : Int) : Int := (iI key >>> (iI (24 - 8 * i) &&& 31)).toInt
theorem ks_iI (key i : Int) : iI key >>> (iI (24 - 8 * i) &&& 31) = iI (ksS key i) := (Int32.ofInt_toInt _).symm
theorem ks_mod {i : Int} (key : Int) (hi : 0 ≤ i ∧ i < 4) : ksS key i % 256 = kbS key i := by
  have h1 : iI (ksS key i) &&& iI 255 = iI (kbS key i) := by
    rw [← ks_iI]
    have h : i = 0 ∨ i = 1 ∨ i = 2 ∨ i = 3 := by omega
    have c0 : iI 255 = (255 : Int32) := by decide +kernel
    rcases h with rfl | rfl | rfl | rfl
    · have q := kb_get key (i := 0) (by decide)
      rw [show iI ((3 - 0) * 8) = nI 24 by decide +kernel, c0] at q
      rw [show iI (24 - 8 * 0) = nI 24 by decide +kernel, c0, sh_and 24 (by decide)]
      exact q
    · have q := kb_get key (i := 1) (by decide)
      rw [show iI ((3 - 1) * 8) = nI 16 by decide +kernel, c0] at q
      rw [show iI (24 - 8 * 1) = nI 16 by decide +kernel, c0, sh_and 16 (by decide)]
      exact q
    · have q := kb_get key (i := 2) (by decide)
      rw [show iI ((3 - 2) * 8) = nI 8 by decide +kernel, c0] at q
      rw [show iI (24 - 8 * 2) = nI 8 by decide +kernel, c0, sh_and 8 (by decide)]
      exact q
    · have q := kb_get key (i := 3) (by decide)
      rw [show iI ((3 - 3) * 8) = nI 0 by decide +kernel, c0] at q
      rw [show iI (24 - 8 * 3) = nI 0 by decide +kernel, c0, sh_and 0 (by decide)]
      exact q
  rw [iI_and255] at h1
  have h2 := kbS_by key i
  exact (iI_eq (by omega) (by omega)).mp h1
theorem thL_no {μ : St} {a key n i : Int} (h : ¬ i < n) (m : Nat) : thL μ a key n m i = -1 := by
  cases m with
  | zero => rfl
  | succ m => rw [thL_s, if_neg h]
theorem twL_no {μ : St} {a key n len i : Int} (h : ¬ i < n) (m : Nat) : twL μ a key n len m i = -1 := by
  cases m with
  | zero => rfl
  | succ m => rw [twL_s, if_neg h]

set_option maxRecDepth 100000 in
set_option maxHeartbeats 4000000 in
theorem c_M_isKey (l : Launch) (E : eT) (μ σ : St) (t k key : Int) (ht : 0 ≤ t ∧ t < 32) (hw : tkW μ t) (hR : RT μ σ t) (hk : 1 ≤ k ∧ k ≤ μ 4 t 4) : FCon l E y_M_isKey ws_M_isKey 1 [.ref (E.2.2.2 18 0), .int (iI t), .int (iI (μ 5 t k)), .int (iI key)] σ (some (.int (iI (b2i (@decide (μ 6 t k = 4 ∧ hkS μ t k key) (Classical.propDecidable _)))))) σ := by
  refine con_of (cc := b_M_isKey) (nL := 6) (ret := (some .boolean)) (by decide) (Nat.le_of_ble_eq_true rfl) (fun z X Y hn => ?_)
  have X : Cx E z b_M_isKey R_M := X
  have hz := Y.2.1
  change J E z 0 0 0 [(0, .ref (E.2.2.2 18 0)), (1, .int (iI t)), (2, .int (iI (μ 5 t k))), (3, .int (iI key))] [] (cells E σ)
  obtain ⟨c1, c2, d1, d2, d3, d4, d5⟩ := rt_rec hw hR hk
  refine j_aload_n X rfl d_M_isKey_0 ?_
  refine j_iload_n X rfl d_M_isKey_1 ?_
  refine j_iload_n X rfl d_M_isKey_2 ?_
  refine v_M_36 X hz (c_M_keyOf (zl z) E σ t (μ 5 t k) ht d1) rfl rfl rfl (Nat.le_of_ble_eq_true rfl) ⟨Nat.le_refl _, Nat.le_refl _⟩ d_M_isKey_3 ?_
  refine j_topi (congrArg iI c1) ?_
  refine j_iconst X d_M_isKey_6 ?_
  refine j_icmp_ne X (by omega) (by omega) d_M_isKey_7 (tgt := 14) rfl (fun h7 => ?_) (fun h7 => ?_)
  · skip
    refine j_iconst X d_M_isKey_14 ?_
    refine j_istore X (zlt hn rfl) d_M_isKey_15 ?_
    refine j_iconst X d_M_isKey_17 ?_
    refine j_istore X (zlt hn rfl) d_M_isKey_18 ?_
    have kyl : ∀ q : Int × Int, ((0 ≤ q.1 ∧ q.1 ≤ 4) ∧ (q.2 = 0 ∨ q.2 = 1) ∧ (q.2 = 1 → μ 6 t k = 4 ∧ ∀ j, 0 ≤ j → j < q.1 → μ 9 t (μ 5 t k + 20 + j) = kbS key j) ∧ (q.2 = 0 → ¬ (μ 6 t k = 4 ∧ hkS μ t k key))) → J E z 0 0 20 [(0, .ref (E.2.2.2 18 0)), (1, .int (iI t)), (2, .int (iI (μ 5 t k))), (3, .int (iI key)), (4, .int (iI q.2)), (5, .int (iI q.1))] [] (cells E σ) := by
      refine j_loop (fun q => (4 - q.1).toNat) _ _ (fun q hq ih => ?_)
      obtain ⟨i, b⟩ := q
      obtain ⟨hqi, hqb, hqP, hqN⟩ := hq
      dsimp only at hqi hqb hqP hqN
      dsimp only
      refine j_iload X rfl d_M_isKey_20 ?_
      refine j_iconst X d_M_isKey_22 ?_
      refine j_icmp_ge X (by omega) (by omega) d_M_isKey_23 (tgt := 69) rfl (fun h23 => ?_) (fun h23 => ?_)
      · skip
        rcases hqb with rfl | rfl
        · skip
          refine j_iload X rfl d_M_isKey_69 ?_
          exact j_zret X Y (by first | rfl | exact b2i_nar _) (Nat.le_refl _) (Nat.le_refl _) d_M_isKey_71 ⟨by rw [b2i_f (hqN rfl)], rfl⟩
        · have P := hqP rfl
          refine j_iload X rfl d_M_isKey_69 ?_
          exact j_zret X Y (by first | rfl | exact b2i_nar _) (Nat.le_refl _) (Nat.le_refl _) d_M_isKey_71 ⟨by rw [b2i_t ⟨P.1, P.2 0 (by omega) (by omega), P.2 1 (by omega) (by omega), P.2 2 (by omega) (by omega), P.2 3 (by omega) (by omega)⟩], rfl⟩
      · skip
        refine j_iload X rfl d_M_isKey_26 ?_
        refine j_if_eq X (by omega) d_M_isKey_28 (tgt := 69) rfl (fun h28 => ?_) (fun h28 => ?_)
        · skip
          subst h28
          refine j_iload X rfl d_M_isKey_69 ?_
          exact j_zret X Y (by first | rfl | exact b2i_nar _) (Nat.le_refl _) (Nat.le_refl _) d_M_isKey_71 ⟨by rw [b2i_f (hqN rfl)], rfl⟩
        · skip
          have hb1 : b = 1 := by omega
          subst hb1
          have P := hqP rfl
          have e9 := (hR.2.2.2 k hk.1 hk.2).2.2.2 i (by omega) (by omega)
          have b9 : 0 ≤ μ 9 t (μ 5 t k + 20 + i) ∧ μ 9 t (μ 5 t k + 20 + i) < 256 := by rw [← e9]; omega
          have kb := kbS_by key i
          refine j_aload_n X rfl d_M_isKey_31 ?_
          refine j_iload_n X rfl d_M_isKey_32 ?_
          refine j_iload_n X rfl d_M_isKey_33 ?_
          refine j_iload X rfl d_M_isKey_34 ?_
          refine v_M_103 X hz (c_M_byteAt (zl z) E σ t (μ 5 t k) i ht (by omega)) rfl rfl rfl (Nat.le_of_ble_eq_true rfl) ⟨Nat.le_refl _, Nat.le_refl _⟩ d_M_isKey_36 ?_
          refine j_topi (congrArg iI e9) ?_
          refine j_iload_n X rfl d_M_isKey_39 ?_
          refine j_bipush X rfl d_M_isKey_40 ?_
          refine j_bipush X rfl d_M_isKey_42 ?_
          refine j_iload X rfl d_M_isKey_44 ?_
          refine j_imul X d_M_isKey_46 ?_
          refine j_isub X d_M_isKey_47 ?_
          refine j_ishr X d_M_isKey_48 ?_
          refine j_topi (ks_iI key i) ?_
          refine j_sipush X rfl d_M_isKey_49 ?_
          refine j_iand X d_M_isKey_52 ?_
          refine j_topi ((iI_and255 _).trans (congrArg iI (ks_mod key (by omega)))) ?_
          refine j_icmp_ne X (by omega) (by omega) d_M_isKey_53 (tgt := 60) rfl (fun h53 => ?_) (fun h53 => ?_)
          · skip
            refine j_iconst X d_M_isKey_60 ?_
            refine j_istore X (zlt hn rfl) d_M_isKey_61 ?_
            refine j_iinc X rfl (zlt hn rfl) d_M_isKey_63 ?_
            refine j_goto X d_M_isKey_66 (tgt := 20) rfl ?_
            exact ih (i + 1, 0) ⟨by dsimp only; omega, Or.inl rfl, fun e => absurd (show (0 : Int) = 1 from e) (by decide), fun _ q => h53 (hk_at q.2 (by omega))⟩ (by dsimp only; omega)
          · skip
            refine j_iconst X d_M_isKey_56 ?_
            refine j_goto X d_M_isKey_57 (tgt := 61) rfl ?_
            refine j_istore X (zlt hn rfl) d_M_isKey_61 ?_
            refine j_iinc X rfl (zlt hn rfl) d_M_isKey_63 ?_
            refine j_goto X d_M_isKey_66 (tgt := 20) rfl ?_
            exact ih (i + 1, 1) ⟨by dsimp only; omega, Or.inr rfl, fun _ => ⟨P.1, fun j j0 j1 => by by_cases e : j = i; (· rw [e]; exact h53); (· exact P.2 j j0 (by dsimp only at j1; omega))⟩, fun e => absurd (show (1 : Int) = 0 from e) (by decide)⟩ (by dsimp only; omega)
    first | exact kyl (0, 0) ⟨by dsimp only; omega, Or.inl rfl, fun e => absurd e (by decide), fun _ q => h7 q.1⟩ | exact kyl (0, 1) ⟨by dsimp only; omega, Or.inr rfl, fun _ => ⟨h7, fun j j0 j1 => absurd j1 (by dsimp only; omega)⟩, fun e => absurd e (by decide)⟩
  · skip
    refine j_iconst X d_M_isKey_10 ?_
    refine j_goto X d_M_isKey_11 (tgt := 15) rfl ?_
    refine j_istore X (zlt hn rfl) d_M_isKey_15 ?_
    refine j_iconst X d_M_isKey_17 ?_
    refine j_istore X (zlt hn rfl) d_M_isKey_18 ?_
    have kyl : ∀ q : Int × Int, ((0 ≤ q.1 ∧ q.1 ≤ 4) ∧ (q.2 = 0 ∨ q.2 = 1) ∧ (q.2 = 1 → μ 6 t k = 4 ∧ ∀ j, 0 ≤ j → j < q.1 → μ 9 t (μ 5 t k + 20 + j) = kbS key j) ∧ (q.2 = 0 → ¬ (μ 6 t k = 4 ∧ hkS μ t k key))) → J E z 0 0 20 [(0, .ref (E.2.2.2 18 0)), (1, .int (iI t)), (2, .int (iI (μ 5 t k))), (3, .int (iI key)), (4, .int (iI q.2)), (5, .int (iI q.1))] [] (cells E σ) := by
      refine j_loop (fun q => (4 - q.1).toNat) _ _ (fun q hq ih => ?_)
      obtain ⟨i, b⟩ := q
      obtain ⟨hqi, hqb, hqP, hqN⟩ := hq
      dsimp only at hqi hqb hqP hqN
      dsimp only
      refine j_iload X rfl d_M_isKey_20 ?_
      refine j_iconst X d_M_isKey_22 ?_
      refine j_icmp_ge X (by omega) (by omega) d_M_isKey_23 (tgt := 69) rfl (fun h23 => ?_) (fun h23 => ?_)
      · skip
        rcases hqb with rfl | rfl
        · skip
          refine j_iload X rfl d_M_isKey_69 ?_
          exact j_zret X Y (by first | rfl | exact b2i_nar _) (Nat.le_refl _) (Nat.le_refl _) d_M_isKey_71 ⟨by rw [b2i_f (hqN rfl)], rfl⟩
        · have P := hqP rfl
          refine j_iload X rfl d_M_isKey_69 ?_
          exact j_zret X Y (by first | rfl | exact b2i_nar _) (Nat.le_refl _) (Nat.le_refl _) d_M_isKey_71 ⟨by rw [b2i_t ⟨P.1, P.2 0 (by omega) (by omega), P.2 1 (by omega) (by omega), P.2 2 (by omega) (by omega), P.2 3 (by omega) (by omega)⟩], rfl⟩
      · skip
        refine j_iload X rfl d_M_isKey_26 ?_
        refine j_if_eq X (by omega) d_M_isKey_28 (tgt := 69) rfl (fun h28 => ?_) (fun h28 => ?_)
        · skip
          subst h28
          refine j_iload X rfl d_M_isKey_69 ?_
          exact j_zret X Y (by first | rfl | exact b2i_nar _) (Nat.le_refl _) (Nat.le_refl _) d_M_isKey_71 ⟨by rw [b2i_f (hqN rfl)], rfl⟩
        · skip
          have hb1 : b = 1 := by omega
          subst hb1
          have P := hqP rfl
          have e9 := (hR.2.2.2 k hk.1 hk.2).2.2.2 i (by omega) (by omega)
          have b9 : 0 ≤ μ 9 t (μ 5 t k + 20 + i) ∧ μ 9 t (μ 5 t k + 20 + i) < 256 := by rw [← e9]; omega
          have kb := kbS_by key i
          refine j_aload_n X rfl d_M_isKey_31 ?_
          refine j_iload_n X rfl d_M_isKey_32 ?_
          refine j_iload_n X rfl d_M_isKey_33 ?_
          refine j_iload X rfl d_M_isKey_34 ?_
          refine v_M_103 X hz (c_M_byteAt (zl z) E σ t (μ 5 t k) i ht (by omega)) rfl rfl rfl (Nat.le_of_ble_eq_true rfl) ⟨Nat.le_refl _, Nat.le_refl _⟩ d_M_isKey_36 ?_
          refine j_topi (congrArg iI e9) ?_
          refine j_iload_n X rfl d_M_isKey_39 ?_
          refine j_bipush X rfl d_M_isKey_40 ?_
          refine j_bipush X rfl d_M_isKey_42 ?_
          refine j_iload X rfl d_M_isKey_44 ?_
          refine j_imul X d_M_isKey_46 ?_
          refine j_isub X d_M_isKey_47 ?_
          refine j_ishr X d_M_isKey_48 ?_
          refine j_topi (ks_iI key i) ?_
          refine j_sipush X rfl d_M_isKey_49 ?_
          refine j_iand X d_M_isKey_52 ?_
          refine j_topi ((iI_and255 _).trans (congrArg iI (ks_mod key (by omega)))) ?_
          refine j_icmp_ne X (by omega) (by omega) d_M_isKey_53 (tgt := 60) rfl (fun h53 => ?_) (fun h53 => ?_)
          · skip
            refine j_iconst X d_M_isKey_60 ?_
            refine j_istore X (zlt hn rfl) d_M_isKey_61 ?_
            refine j_iinc X rfl (zlt hn rfl) d_M_isKey_63 ?_
            refine j_goto X d_M_isKey_66 (tgt := 20) rfl ?_
            exact ih (i + 1, 0) ⟨by dsimp only; omega, Or.inl rfl, fun e => absurd (show (0 : Int) = 1 from e) (by decide), fun _ q => h53 (hk_at q.2 (by omega))⟩ (by dsimp only; omega)
          · skip
            refine j_iconst X d_M_isKey_56 ?_
            refine j_goto X d_M_isKey_57 (tgt := 61) rfl ?_
            refine j_istore X (zlt hn rfl) d_M_isKey_61 ?_
            refine j_iinc X rfl (zlt hn rfl) d_M_isKey_63 ?_
            refine j_goto X d_M_isKey_66 (tgt := 20) rfl ?_
            exact ih (i + 1, 1) ⟨by dsimp only; omega, Or.inr rfl, fun _ => ⟨P.1, fun j j0 j1 => by by_cases e : j = i; (· rw [e]; exact h53); (· exact P.2 j j0 (by dsimp only at j1; omega))⟩, fun e => absurd (show (1 : Int) = 0 from e) (by decide)⟩ (by dsimp only; omega)
    first | exact kyl (0, 0) ⟨by dsimp only; omega, Or.inl rfl, fun e => absurd e (by decide), fun _ q => h7 q.1⟩ | exact kyl (0, 1) ⟨by dsimp only; omega, Or.inr rfl, fun _ => ⟨h7, fun j j0 j1 => absurd j1 (by dsimp only; omega)⟩, fun e => absurd e (by decide)⟩

set_option maxRecDepth 100000 in
set_option maxHeartbeats 4000000 in
theorem c_M_tryOf (l : Launch) (E : eT) (μ σ : St) (a key i : Int) (ho : ∀ t, 0 ≤ t → t < 32 → σ 25 0 t = μ 17 0 t + 1) (hf : ∀ t, -1 ≤ μ 17 0 t ∧ μ 17 0 t ≤ 5) (ra : 0 ≤ a ∧ a ≤ 5) (rk : inR key) (hN : 0 < cnO (μ 17 0) a 32) (hi : 0 ≤ i ∧ i < 4) : FCon l E y_M_tryOf ws_M_tryOf 1 [.ref (E.2.2.2 18 0), .int (iI a), .int (iI key), .int (iI i)] σ (some (.int (iI (if i < cnO (μ 17 0) a 32 then tnO μ a key (cnO (μ 17 0) a 32) i else -1)))) σ := by
  refine con_of (cc := b_M_tryOf) (nL := 6) (ret := (some .int)) (by decide) (Nat.le_of_ble_eq_true rfl) (fun z X Y hn => ?_)
  have X : Cx E z b_M_tryOf R_M := X
  have hz := Y.2.1
  change J E z 0 0 0 [(0, .ref (E.2.2.2 18 0)), (1, .int (iI a)), (2, .int (iI key)), (3, .int (iI i))] [] (cells E σ)
  have hc := cnO_in (μ 17 0) a 32
  obtain ⟨n, hnn⟩ : ∃ n, n = cnO (μ 17 0) a 32 := ⟨_, rfl⟩
  rw [← hnn] at Y hc hN
  have m0 := Int.emod_nonneg (key % 4294967296) (show n ≠ 0 by omega)
  have m1 := Int.emod_lt_of_pos (key % 4294967296) hN
  have m2 := Int.emod_nonneg (key % 4294967296 % n + i) (show n ≠ 0 by omega)
  have m3 := Int.emod_lt_of_pos (key % 4294967296 % n + i) hN
  refine j_aload_n X rfl d_M_tryOf_0 ?_
  refine j_iload_n X rfl d_M_tryOf_1 ?_
  refine v_M_198 X hz (c_M_tracksOf (zl z) E σ (μ 17 0) a ho hf ra) rfl rfl rfl (Nat.le_of_ble_eq_true rfl) ⟨Nat.le_refl _, Nat.le_refl _⟩ d_M_tryOf_2 ?_
  rw [← hnn]
  refine j_istore X (zlt hn rfl) d_M_tryOf_5 ?_
  refine j_iload_n X rfl d_M_tryOf_7 ?_
  refine j_i2l X (by omega) d_M_tryOf_8 ?_
  refine j_ldc2 (a := 4294967295) X kl_M_204 rfl d_M_tryOf_9 ?_
  refine j_land X d_M_tryOf_12 ?_
  refine j_topl (iL_u32 key) ?_
  refine j_iload X rfl d_M_tryOf_13 ?_
  refine j_i2l X (by omega) d_M_tryOf_15 ?_
  refine j_lrem X (by omega) (by omega) (by omega) (by omega) d_M_tryOf_16 ?_
  refine j_l2i X d_M_tryOf_17 ?_
  refine j_istore X (zlt hn rfl) d_M_tryOf_18 ?_
  refine j_iload_n X rfl d_M_tryOf_20 ?_
  refine j_iload X rfl d_M_tryOf_21 ?_
  refine j_icmp_ge X (by omega) (by omega) d_M_tryOf_23 (tgt := 46) rfl (fun h23 => ?_) (fun h23 => ?_)
  · skip
    refine j_iconst X d_M_tryOf_46 ?_
    exact j_iret X Y (Nat.le_refl _) (Nat.le_refl _) d_M_tryOf_47 ⟨by rw [if_neg (by omega)], rfl⟩
  · skip
    refine j_iload_n X rfl d_M_tryOf_26 ?_
    refine j_iconst X d_M_tryOf_27 ?_
    refine j_icmp_ge X (by omega) (by omega) d_M_tryOf_28 (tgt := 46) rfl (fun h28 => ?_) (fun h28 => ?_)
    · exact absurd h28 (by omega)
    · skip
      refine j_aload_n X rfl d_M_tryOf_31 ?_
      refine j_iload_n X rfl d_M_tryOf_32 ?_
      refine j_iload X rfl d_M_tryOf_33 ?_
      refine j_iload_n X rfl d_M_tryOf_35 ?_
      refine j_iadd X d_M_tryOf_36 ?_
      refine j_iload X rfl d_M_tryOf_37 ?_
      refine j_irem X (by omega) (by omega) (by omega) (by omega) d_M_tryOf_39 ?_
      refine v_M_201 X hz (c_M_trackAt (zl z) E σ (μ 17 0) a ((key % 4294967296 % n + i) % n) ho hf ra (by omega)) rfl rfl rfl (Nat.le_of_ble_eq_true rfl) ⟨Nat.le_refl _, Nat.le_refl _⟩ d_M_tryOf_40 ?_
      refine j_goto X d_M_tryOf_43 (tgt := 47) rfl ?_
      exact j_iret X Y (Nat.le_refl _) (Nat.le_refl _) d_M_tryOf_47 ⟨by rw [if_pos (by omega)]; unfold tnO; rw [if_neg (by omega), Int.emod_add_emod], rfl⟩

noncomputable def fdV (μ : St) (a key : Int) : Int := if thL μ a key (cnO (μ 17 0) a 32) 4 0 = -1 then -1 else 600 * thL μ a key (cnO (μ 17 0) a 32) 4 0 + μ 5 (thL μ a key (cnO (μ 17 0) a 32) 4 0) (noS μ (thL μ a key (cnO (μ 17 0) a 32) 4 0) key 32 1)
def rmV (μ : St) (a key len : Int) : Int := if twL μ a key (cnO (μ 17 0) a 32) (24 + len) 4 0 = -1 then -1 else 600 * twL μ a key (cnO (μ 17 0) a 32) (24 + len) 4 0 + μ 5 (twL μ a key (cnO (μ 17 0) a 32) (24 + len) 4 0) (μ 4 (twL μ a key (cnO (μ 17 0) a 32) (24 + len) 4 0) 4 + 1)

set_option maxRecDepth 100000 in
set_option maxHeartbeats 4000000 in
theorem c_M_find (l : Launch) (E : eT) (μ σ : St) (a key : Int) (hW : ∀ t, 0 ≤ t → t < 32 → tkW μ t) (hT : ∀ t, 0 ≤ t → t < 32 → RT μ σ t) (ho : ∀ t, 0 ≤ t → t < 32 → σ 25 0 t = μ 17 0 t + 1) (hf : ∀ t, -1 ≤ μ 17 0 t ∧ μ 17 0 t ≤ 5) (ra : 0 ≤ a ∧ a ≤ 5) (rk : inR key) (hN : 0 < cnO (μ 17 0) a 32) : FCon l E y_M_find ws_M_find 2 [.ref (E.2.2.2 18 0), .int (iI a), .int (iI key)] σ (some (.int (iI (fdV μ a key)))) σ := by
  refine con_of (cc := b_M_find) (nL := 6) (ret := (some .int)) (by decide) (Nat.le_of_ble_eq_true rfl) (fun z X Y hn => ?_)
  have X : Cx E z b_M_find R_M := X
  have hz := Y.2.1
  change J E z 0 0 0 [(0, .ref (E.2.2.2 18 0)), (1, .int (iI a)), (2, .int (iI key))] [] (cells E σ)
  unfold fdV at Y
  have hc := cnO_in (μ 17 0) a 32
  obtain ⟨n, hnn⟩ : ∃ n, n = cnO (μ 17 0) a 32 := ⟨_, rfl⟩
  rw [← hnn] at Y hc hN
  obtain ⟨T, hT0⟩ : ∃ T, T = thL μ a key n 4 0 := ⟨_, rfl⟩
  rw [← hT0] at Y
  refine j_iconst X d_M_find_0 ?_
  refine j_istore_n X (zlt hn rfl) d_M_find_1 ?_
  have kyl : ∀ i : Int, ((0 ≤ i ∧ i ≤ 4) ∧ T = thL μ a key n (4 - i).toNat i) → J E z 0 0 2 [(0, .ref (E.2.2.2 18 0)), (1, .int (iI a)), (2, .int (iI key)), (3, .int (iI i))] [] (cells E σ) := by
    refine j_loop (fun i : Int => (4 - i).toNat) _ _ (fun i hi ih => ?_)
    have i2 := hi.2
    refine j_iload_n X rfl d_M_find_2 ?_
    refine j_iconst X d_M_find_3 ?_
    refine j_icmp_ge X (by omega) (by omega) d_M_find_4 (tgt := 76) rfl (fun h4 => ?_) (fun h4 => ?_)
    · skip
      refine j_iconst X d_M_find_76 ?_
      exact j_iret X Y (Nat.le_refl _) (Nat.le_refl _) d_M_find_77 ⟨by have e2 : T = -1 := (by rw [i2, show (4 - i).toNat = 0 by omega]; rfl); rw [if_pos e2], rfl⟩
    · skip
      refine j_aload_n X rfl d_M_find_7 ?_
      refine j_iload_n X rfl d_M_find_8 ?_
      refine j_iload_n X rfl d_M_find_9 ?_
      refine j_iload_n X rfl d_M_find_10 ?_
      refine v_M_206 X hz (c_M_tryOf (zl z) E μ σ a key i ho hf ra rk (by rw [← hnn]; exact hN) (by omega)) rfl rfl rfl (Nat.le_of_ble_eq_true rfl) ⟨Nat.le_refl _, Nat.le_refl _⟩ d_M_find_11 ?_
      rw [← hnn]
      obtain ⟨t, htt⟩ : ∃ t, t = (if i < n then tnO μ a key n i else -1) := ⟨_, rfl⟩
      rw [← htt]
      have tR := tnO_R (σ := μ) (a := a) (key := key) (n := n) (i := i)
      have tB : -1 ≤ t ∧ t < 32 := by rw [htt]; split <;> omega
      have tE : ¬ t = -1 → i < n ∧ t = tnO μ a key n i := by intro q; rw [htt] at q ⊢; split at q; (· next e => exact ⟨e, if_pos e⟩); (· exact absurd rfl q)
      refine j_istore X (zlt hn rfl) d_M_find_14 ?_
      refine j_iconst X d_M_find_16 ?_
      refine j_istore X (zlt hn rfl) d_M_find_17 ?_
      have kyl2 : ∀ k : Int, (1 ≤ k ∧ (0 ≤ t → k ≤ μ 4 t 4 + 1) ∧ noS μ t key 32 1 = noS μ t key (33 - k).toNat k) → J E z 0 0 19 [(0, .ref (E.2.2.2 18 0)), (1, .int (iI a)), (2, .int (iI key)), (3, .int (iI i)), (4, .int (iI t)), (5, .int (iI (if 0 ≤ t then μ 5 t k else 0)))] [] (cells E σ) := by
        refine j_loop (fun k : Int => (μ 4 t 4 + 1 - k).toNat) _ _ (fun k hk ih2 => ?_)
        obtain ⟨hk1, hk2, hq3⟩ := hk
        refine j_iload X rfl d_M_find_19 ?_
        refine j_if_lt X (by omega) d_M_find_21 (tgt := 70) rfl (fun h21 => ?_) (fun h21 => ?_)
        · skip
          refine j_iinc X rfl (zlt hn rfl) d_M_find_70 ?_
          refine j_goto X d_M_find_73 (tgt := 2) rfl ?_
          exact j_drop 4 (ih (i + 1) ⟨by omega, by rw [i2, show (4 - i).toNat = (4 - (i + 1)).toNat + 1 by omega, thL_s]; by_cases q : i < n; (· rw [if_pos q, if_neg (fun q' => q'.1 (by rw [if_pos q] at htt; omega))]); (· rw [if_neg q, thL_no (by omega)])⟩ (by omega))
        · skip
          refine j_aload_n X rfl d_M_find_24 ?_
          refine j_iload X rfl d_M_find_25 ?_
          refine j_iload X rfl d_M_find_27 ?_
          rw [if_pos (show 0 ≤ t by omega)]
          have hw := hW t (by omega) (by omega)
          have hR := hT t (by omega) (by omega)
          have hw1 := hw.1
          have he := tk_end hw (k := k - 1) (by omega)
          rw [show k - 1 + 1 = k by omega] at he
          have q1 := fun (h : k ≤ μ 4 t 4) => hR.2.1 k (by omega) h
          have q2 := fun (h : k ≤ μ 4 t 4) => rt_rec hw hR (k := k) ⟨by omega, h⟩
          have q3 := rt_end hw hR
          have q4 : μ 5 t k < 600 → inR (σ 19 0 (600 * t + μ 5 t k)) := fun q => by have := hR.1 (μ 5 t k) (by omega) q; omega
          have q5 : (μ 5 t k < 600 ∧ σ 19 0 (600 * t + μ 5 t k) = 1) ↔ k ≤ μ 4 t 4 := ⟨fun q => by apply Int.not_lt.mp; intro q'; rw [show μ 4 t 4 + 1 = k by omega] at q3; exact q3 q, fun q => ⟨by have := (q2 q).2.2.1; omega, q1 q⟩⟩
          refine v_M_43 X hz (c_M_isBegin (zl z) E σ t (μ 5 t k) q4 (by omega) (by omega)) rfl rfl rfl (Nat.le_of_ble_eq_true rfl) ⟨Nat.le_refl _, Nat.le_refl _⟩ d_M_find_29 ?_
          refine j_ifz X d_M_find_32 (tgt := 70) rfl (fun h32 => ?_) (fun h32 => ?_)
          · skip
            refine j_iinc X rfl (zlt hn rfl) d_M_find_70 ?_
            refine j_goto X d_M_find_73 (tgt := 2) rfl ?_
            exact j_drop 4 (ih (i + 1) ⟨by omega, by rw [i2, show (4 - i).toNat = (4 - (i + 1)).toNat + 1 by omega, thL_s, if_pos (tE (by omega)).1, ← (tE (by omega)).2, hq3, if_neg (fun q => by have := q.2; rw [show (33 - k).toNat = (33 - (k + 1)).toNat + 1 by omega, noS_succ, if_pos (by omega)] at this; omega)]⟩ (by omega))
          · skip
            refine j_aload_n X rfl d_M_find_35 ?_
            refine j_iload X rfl d_M_find_36 ?_
            refine j_iload X rfl d_M_find_38 ?_
            refine j_iload_n X rfl d_M_find_40 ?_
            have hkk : 1 ≤ k ∧ k ≤ μ 4 t 4 := ⟨hk1, q5.mp h32⟩
            obtain ⟨c1, c2, d1, d2, d3, d4, d5⟩ := q2 hkk.2
            refine v_M_209 X hz (c_M_isKey (zl z) E μ σ t k key (by omega) hw hR hkk) rfl rfl rfl (Nat.le_of_ble_eq_true rfl) ⟨Nat.le_refl _, Nat.le_refl _⟩ d_M_find_41 ?_
            refine j_ifz X d_M_find_44 (tgt := 57) rfl (fun h44 => ?_) (fun h44 => ?_)
            · skip
              refine j_aload_n X rfl d_M_find_57 ?_
              refine j_iload X rfl d_M_find_58 ?_
              refine j_iload X rfl d_M_find_60 ?_
              refine v_M_47 X hz (c_M_endOf (zl z) E σ t (μ 5 t k) (by omega) d1) rfl rfl rfl (Nat.le_of_ble_eq_true rfl) ⟨Nat.le_refl _, Nat.le_refl _⟩ d_M_find_62 ?_
              refine j_topi (congrArg iI (show μ 5 t k + 20 + σ 20 0 (600 * t + μ 5 t k + 1) + σ 20 0 (600 * t + μ 5 t k + 2) = (if 0 ≤ t then μ 5 t (k + 1) else 0) by rw [if_pos (show 0 ≤ t by omega)]; omega)) ?_
              refine j_istore X (zlt hn rfl) d_M_find_65 ?_
              refine j_goto X d_M_find_67 (tgt := 19) rfl ?_
              exact ih2 (k + 1) ⟨by omega, by omega, by rw [hq3, show (33 - k).toNat = (33 - (k + 1)).toNat + 1 by omega, noS_succ, if_neg (by omega), if_neg h44]⟩ (by omega)
            · skip
              refine j_sipush X rfl d_M_find_47 ?_
              refine j_iload X rfl d_M_find_50 ?_
              refine j_imul X d_M_find_52 ?_
              refine j_iload X rfl d_M_find_53 ?_
              refine j_iadd X d_M_find_55 ?_
              exact j_iret X Y (Nat.le_refl _) (Nat.le_refl _) d_M_find_56 ⟨by have e1 : noS μ t key 32 1 = k := (by rw [hq3, show (33 - k).toNat = (33 - (k + 1)).toNat + 1 by omega, noS_succ, if_neg (by omega), if_pos h44]); have e2 : T = t := (by rw [i2, show (4 - i).toNat = (4 - (i + 1)).toNat + 1 by omega, thL_s, if_pos (tE (by omega)).1, ← (tE (by omega)).2, if_pos ⟨by omega, by omega⟩]); rw [e2, if_neg (by omega), e1], rfl⟩
      have := kyl2 1 ⟨by omega, fun q => by have := (hW t q (by omega)).1; omega, rfl⟩; have e5 : (if 0 ≤ t then μ 5 t 1 else 0) = 0 := by split; (· next q => exact (hW t q (by omega)).2.1); (· rfl)
      rw [e5] at this; exact this
  exact kyl 0 ⟨by omega, hT0⟩

set_option maxRecDepth 100000 in
set_option maxHeartbeats 4000000 in
theorem c_M_room (l : Launch) (E : eT) (μ σ : St) (a key len : Int) (hW : ∀ t, 0 ≤ t → t < 32 → tkW μ t) (hT : ∀ t, 0 ≤ t → t < 32 → RT μ σ t) (ho : ∀ t, 0 ≤ t → t < 32 → σ 25 0 t = μ 17 0 t + 1) (hf : ∀ t, -1 ≤ μ 17 0 t ∧ μ 17 0 t ≤ 5) (ra : 0 ≤ a ∧ a ≤ 5) (rk : inR key) (hN : 0 < cnO (μ 17 0) a 32) (hl : 0 ≤ len ∧ len ≤ 60) : FCon l E y_M_room ws_M_room 2 [.ref (E.2.2.2 18 0), .int (iI a), .int (iI key), .int (iI len)] σ (some (.int (iI (rmV μ a key len)))) σ := by
  refine con_of (cc := b_M_room) (nL := 7) (ret := (some .int)) (by decide) (Nat.le_of_ble_eq_true rfl) (fun z X Y hn => ?_)
  have X : Cx E z b_M_room R_M := X
  have hz := Y.2.1
  change J E z 0 0 0 [(0, .ref (E.2.2.2 18 0)), (1, .int (iI a)), (2, .int (iI key)), (3, .int (iI len))] [] (cells E σ)
  unfold rmV at Y
  have hc := cnO_in (μ 17 0) a 32
  obtain ⟨n, hnn⟩ : ∃ n, n = cnO (μ 17 0) a 32 := ⟨_, rfl⟩
  rw [← hnn] at Y hc hN
  obtain ⟨T, hT0⟩ : ∃ T, T = twL μ a key n (24 + len) 4 0 := ⟨_, rfl⟩
  rw [← hT0] at Y
  refine j_iconst X d_M_room_0 ?_
  refine j_istore X (zlt hn rfl) d_M_room_1 ?_
  have kyl : ∀ i : Int, ((0 ≤ i ∧ i ≤ 4) ∧ T = twL μ a key n (24 + len) (4 - i).toNat i) → J E z 0 0 3 [(0, .ref (E.2.2.2 18 0)), (1, .int (iI a)), (2, .int (iI key)), (3, .int (iI len)), (4, .int (iI i))] [] (cells E σ) := by
    refine j_loop (fun i : Int => (4 - i).toNat) _ _ (fun i hi ih => ?_)
    have i2 := hi.2
    refine j_iload X rfl d_M_room_3 ?_
    refine j_iconst X d_M_room_5 ?_
    refine j_icmp_ge X (by omega) (by omega) d_M_room_6 (tgt := 85) rfl (fun h6 => ?_) (fun h6 => ?_)
    · skip
      refine j_iconst X d_M_room_85 ?_
      exact j_iret X Y (Nat.le_refl _) (Nat.le_refl _) d_M_room_86 ⟨by have e2 : T = -1 := (by rw [i2, show (4 - i).toNat = 0 by omega]; rfl); rw [if_pos e2], rfl⟩
    · skip
      refine j_aload_n X rfl d_M_room_9 ?_
      refine j_iload_n X rfl d_M_room_10 ?_
      refine j_iload_n X rfl d_M_room_11 ?_
      refine j_iload X rfl d_M_room_12 ?_
      refine v_M_206 X hz (c_M_tryOf (zl z) E μ σ a key i ho hf ra rk (by rw [← hnn]; exact hN) (by omega)) rfl rfl rfl (Nat.le_of_ble_eq_true rfl) ⟨Nat.le_refl _, Nat.le_refl _⟩ d_M_room_14 ?_
      rw [← hnn]
      obtain ⟨t, htt⟩ : ∃ t, t = (if i < n then tnO μ a key n i else -1) := ⟨_, rfl⟩
      rw [← htt]
      have tR := tnO_R (σ := μ) (a := a) (key := key) (n := n) (i := i)
      have tB : -1 ≤ t ∧ t < 32 := by rw [htt]; split <;> omega
      have tE : ¬ t = -1 → i < n ∧ t = tnO μ a key n i := by intro q; rw [htt] at q ⊢; split at q; (· next e => exact ⟨e, if_pos e⟩); (· exact absurd rfl q)
      refine j_istore X (zlt hn rfl) d_M_room_17 ?_
      refine j_iload X rfl d_M_room_19 ?_
      refine j_if_ge X (by omega) d_M_room_21 (tgt := 27) rfl (fun h21 => ?_) (fun h21 => ?_)
      · skip
        refine j_iconst X d_M_room_27 ?_
        refine j_istore X (zlt hn rfl) d_M_room_28 ?_
        have kyl2 : ∀ k : Int, (1 ≤ k ∧ k ≤ μ 4 t 4 + 1) → J E z 0 0 30 [(0, .ref (E.2.2.2 18 0)), (1, .int (iI a)), (2, .int (iI key)), (3, .int (iI len)), (4, .int (iI i)), (5, .int (iI t)), (6, .int (iI (μ 5 t k)))] [] (cells E σ) := by
          refine j_loop (fun k : Int => (μ 4 t 4 + 1 - k).toNat) _ _ (fun k hk ih2 => ?_)
          obtain ⟨hk1, hk2⟩ := hk
          refine j_aload_n X rfl d_M_room_30 ?_
          refine j_iload X rfl d_M_room_31 ?_
          refine j_iload X rfl d_M_room_33 ?_
          have hw := hW t (by omega) (by omega)
          have hR := hT t (by omega) (by omega)
          have hw1 := hw.1
          have he := tk_end hw (k := k - 1) (by omega)
          rw [show k - 1 + 1 = k by omega] at he
          have q1 := fun (h : k ≤ μ 4 t 4) => hR.2.1 k (by omega) h
          have q2 := fun (h : k ≤ μ 4 t 4) => rt_rec hw hR (k := k) ⟨by omega, h⟩
          have q3 := rt_end hw hR
          have q4 : μ 5 t k < 600 → inR (σ 19 0 (600 * t + μ 5 t k)) := fun q => by have := hR.1 (μ 5 t k) (by omega) q; omega
          have q5 : (μ 5 t k < 600 ∧ σ 19 0 (600 * t + μ 5 t k) = 1) ↔ k ≤ μ 4 t 4 := ⟨fun q => by apply Int.not_lt.mp; intro q'; rw [show μ 4 t 4 + 1 = k by omega] at q3; exact q3 q, fun q => ⟨by have := (q2 q).2.2.1; omega, q1 q⟩⟩
          refine v_M_43 X hz (c_M_isBegin (zl z) E σ t (μ 5 t k) q4 (by omega) (by omega)) rfl rfl rfl (Nat.le_of_ble_eq_true rfl) ⟨Nat.le_refl _, Nat.le_refl _⟩ d_M_room_35 ?_
          refine j_ifz X d_M_room_38 (tgt := 54) rfl (fun h38 => ?_) (fun h38 => ?_)
          · skip
            have ek : k = μ 4 t 4 + 1 := by have : ¬ k ≤ μ 4 t 4 := (fun q => h38 (q5.mpr q)); omega
            refine j_iload X rfl d_M_room_54 ?_
            refine j_bipush X rfl d_M_room_56 ?_
            refine j_iadd X d_M_room_58 ?_
            refine j_iconst X d_M_room_59 ?_
            refine j_iadd X d_M_room_60 ?_
            refine j_iload_n X rfl d_M_room_61 ?_
            refine j_iadd X d_M_room_62 ?_
            refine j_sipush X rfl d_M_room_63 ?_
            refine j_icmp_gt X (by omega) (by omega) d_M_room_66 (tgt := 79) rfl (fun h66 => ?_) (fun h66 => ?_)
            · skip
              refine j_iinc X rfl (zlt hn rfl) d_M_room_79 ?_
              refine j_goto X d_M_room_82 (tgt := 3) rfl ?_
              exact j_drop 5 (ih (i + 1) ⟨by omega, by rw [i2, show (4 - i).toNat = (4 - (i + 1)).toNat + 1 by omega, twL_s, if_pos (tE (by omega)).1, ← (tE (by omega)).2, if_neg (fun q => by have := q.2; rw [← ek] at this; omega)]⟩ (by omega))
            · skip
              refine j_sipush X rfl d_M_room_69 ?_
              refine j_iload X rfl d_M_room_72 ?_
              refine j_imul X d_M_room_74 ?_
              refine j_iload X rfl d_M_room_75 ?_
              refine j_iadd X d_M_room_77 ?_
              exact j_iret X Y (Nat.le_refl _) (Nat.le_refl _) d_M_room_78 ⟨by have e2 : T = t := (by rw [i2, show (4 - i).toNat = (4 - (i + 1)).toNat + 1 by omega, twL_s, if_pos (tE (by omega)).1, ← (tE (by omega)).2, if_pos ⟨by omega, by rw [← ek]; omega⟩]); rw [e2, if_neg (by omega), ← ek], rfl⟩
          · skip
            refine j_aload_n X rfl d_M_room_41 ?_
            refine j_iload X rfl d_M_room_42 ?_
            refine j_iload X rfl d_M_room_44 ?_
            have hkk : 1 ≤ k ∧ k ≤ μ 4 t 4 := ⟨hk1, q5.mp h38⟩
            obtain ⟨c1, c2, d1, d2, d3, d4, d5⟩ := q2 hkk.2
            refine v_M_47 X hz (c_M_endOf (zl z) E σ t (μ 5 t k) (by omega) d1) rfl rfl rfl (Nat.le_of_ble_eq_true rfl) ⟨Nat.le_refl _, Nat.le_refl _⟩ d_M_room_46 ?_
            refine j_topi (congrArg iI (show μ 5 t k + 20 + σ 20 0 (600 * t + μ 5 t k + 1) + σ 20 0 (600 * t + μ 5 t k + 2) = μ 5 t (k + 1) by omega)) ?_
            refine j_istore X (zlt hn rfl) d_M_room_49 ?_
            refine j_goto X d_M_room_51 (tgt := 30) rfl ?_
            exact ih2 (k + 1) (by omega) (by omega)
        have := kyl2 1 (by have := (hW t (by omega) (by omega)).1; omega); rw [(hW t (by omega) (by omega)).2.1] at this; exact this
      · skip
        refine j_goto X d_M_room_24 (tgt := 79) rfl ?_
        refine j_iinc X rfl (zlt hn rfl) d_M_room_79 ?_
        refine j_goto X d_M_room_82 (tgt := 3) rfl ?_
        exact j_drop 5 (ih (i + 1) ⟨by omega, by rw [i2, show (4 - i).toNat = (4 - (i + 1)).toNat + 1 by omega, twL_s]; by_cases q : i < n; (· rw [if_pos q, if_neg (fun q' => q'.1 (by rw [if_pos q] at htt; omega))]); (· rw [if_neg q, twL_no (by omega)])⟩ (by omega))
  exact kyl 0 ⟨by omega, hT0⟩
