/-! the model: how the head moves -/
theorem ag_8 (σ : St) (p : Int) : agS σ p 18 0 8 = σ 18 0 8 + (p - σ 18 0 8 % 600 + 600) % 600 := rfl
theorem ag_pl {σ : St} {p : Int} (h : 0 ≤ p ∧ p < 600) : agS σ p 18 0 8 % 600 = p := by rw [ag_8]; omega
theorem ag_2 {σ : St} : agS (avS (agS (avS σ 1) 0) 1) 0 = avS σ ((σ 18 0 8 / 600 + 2) * 600 - σ 18 0 8) := by
  simp only [agS, av_8, av_av]
  congr 1
  omega
theorem ff_spec {σ : St} {t x : Int} : ∀ (m : Nat) (k : Int), 1 ≤ k → σ 4 t 4 + 1 - k < m → (∀ j, 1 ≤ j → j < k → ¬ x ≤ σ 5 t j) →
    (x ≤ σ 5 t (ffS σ t x m k) ∧ (1 ≤ ffS σ t x m k ∧ ffS σ t x m k ≤ σ 4 t 4) ∧ ∀ j, 1 ≤ j → j < ffS σ t x m k → ¬ x ≤ σ 5 t j) ∨ (ffS σ t x m k = 1 ∧ ∀ j, 1 ≤ j → j ≤ σ 4 t 4 → ¬ x ≤ σ 5 t j) := by
  intro m
  induction m with
  | zero => intro k hk hm h; exact Or.inr ⟨rfl, fun j h1 h2 => h j h1 (by omega)⟩
  | succ m ih =>
    intro k hk hm h
    rw [ffS_succ]
    by_cases h1 : σ 4 t 4 < k
    · rw [if_pos h1]
      exact Or.inr ⟨rfl, fun j q1 q2 => h j q1 (by omega)⟩
    · rw [if_neg h1]
      by_cases h2 : x ≤ σ 5 t k
      · rw [if_pos h2]
        exact Or.inl ⟨h2, by omega, h⟩
      · rw [if_neg h2]
        refine ih (k + 1) (by omega) (by omega) (fun j q1 q2 => ?_)
        by_cases q3 : j = k
        · rw [q3]; exact h2
        · exact h j q1 (by omega)
/-- till the first record that comes, no record begins -/
theorem ff_none {μ σ : St} {t x : Int} (hw : tkW μ t) (h : RT μ σ t) (hn : 1 ≤ μ 4 t 4) (hx : 0 ≤ x ∧ x < 600) {d : Int} (hd : 0 ≤ d ∧ d < (μ 5 t (ffS μ t x 32 1) - x + 600) % 600) : ¬ σ 19 0 (600 * t + (x + d) % 600) = 1 := by
  intro hb
  obtain ⟨k, hk, e⟩ := h.2.2.1 ((x + d) % 600) (by omega) (by omega) hb
  have hn4 := hw.1
  rcases ff_spec (σ := μ) (t := t) (x := x) 32 1 (Int.le_refl 1) (by omega) (fun j h1 h2 => by omega) with ⟨q1, q2, q3⟩ | ⟨q1, q2⟩
  · have a := hw.2.2 _ q2.1 q2.2
    have hy : (x + d) % 600 = x + d := by omega
    rw [hy] at e
    have hkf : k < ffS μ t x 32 1 := by
      apply Int.not_le.mp
      intro q
      rcases Int.lt_or_eq_of_le q with q | q
      · have := tk_lt hw q2.1 q (by omega)
        omega
      · rw [q] at hd
        omega
    exact q3 k hk.1 hkf (by omega)
  · rw [q1, hw.2.1] at hd
    have h5 := q2 1 (Int.le_refl 1) (by omega)
    rw [hw.2.1] at h5
    have hy : (x + d) % 600 = x + d := by omega
    rw [hy] at e
    exact q2 k hk.1 hk.2 (by omega)

set_option maxRecDepth 100000 in
set_option maxHeartbeats 4000000 in
theorem c_M_orient1 (l : Launch) (E : eT) (σ : St) (t b kl dl : Int) (h8 : 0 ≤ σ 18 0 8 ∧ σ 18 0 8 + 3000 ≤ 1500000000) (e9 : σ 18 0 9 = t) (ht : 0 ≤ t ∧ t < 32) (e10 : σ 18 0 10 = b) (e1 : σ 20 0 (600 * t + b + 1) = kl) (e2 : σ 20 0 (600 * t + b + 2) = dl) (hb : 0 ≤ b ∧ b ≤ 580) (hkl : 0 ≤ kl ∧ kl ≤ 8) (hdl : 0 ≤ dl ∧ dl ≤ 60) (he : b + 20 + kl + dl ≤ 600) : FCon l E y_M_orient ws_M_orient 3 [.ref (E.2.2.2 18 0), .int (iI 1)] σ none (agS (up σ 18 0 11 1) (b + 20)) := by
  refine con_of (cc := b_M_orient) (nL := 2) (ret := none) (by decide) (Nat.le_of_ble_eq_true rfl) (fun z X Y hn => ?_)
  have X : Cx E z b_M_orient R_M := X
  have hz := Y.2.1
  change J E z 0 0 0 [(0, .ref (E.2.2.2 18 0)), (1, .int (iI 1))] [] (cells E σ)
  refine j_aload_n X rfl d_M_orient_0 ?_
  refine j_iload_n X rfl d_M_orient_1 ?_
  refine p_M_94 X d_M_orient_2 ?_
  refine j_aload_n X rfl d_M_orient_5 ?_
  refine j_iload_n X rfl d_M_orient_6 ?_
  refine j_iconst X d_M_orient_7 ?_
  refine j_icmp_ne X (by omega) (by omega) d_M_orient_8 (tgt := 21) rfl (fun h8 => ?_) (fun h8 => ?_)
  · exact absurd h8 (by omega)
  · skip
    refine j_aload_n X rfl d_M_orient_11 ?_
    refine g_M_97 X d_M_orient_12 ?_
    refine j_topi (congrArg iI e10) ?_
    refine j_bipush X rfl d_M_orient_15 ?_
    refine j_iadd X d_M_orient_17 ?_
    refine j_goto X d_M_orient_18 (tgt := 61) rfl ?_
    refine v_M_87 X hz (c_M_goTo (zl z) E (up σ 18 0 11 1) (b + 20) (by show 0 ≤ σ 18 0 8 ∧ σ 18 0 8 + 600 ≤ 1500000000; omega) (by omega)) rfl rfl rfl (Nat.le_of_ble_eq_true rfl) ⟨Nat.le_refl _, Nat.le_refl _⟩ d_M_orient_61 ?_
    exact j_vret X Y (Nat.le_refl _) (Nat.le_refl _) d_M_orient_64 ⟨rfl, rfl⟩

set_option maxRecDepth 100000 in
set_option maxHeartbeats 4000000 in
theorem c_M_orient2 (l : Launch) (E : eT) (σ : St) (t b kl dl : Int) (h8 : 0 ≤ σ 18 0 8 ∧ σ 18 0 8 + 3000 ≤ 1500000000) (e9 : σ 18 0 9 = t) (ht : 0 ≤ t ∧ t < 32) (e10 : σ 18 0 10 = b) (e1 : σ 20 0 (600 * t + b + 1) = kl) (e2 : σ 20 0 (600 * t + b + 2) = dl) (hb : 0 ≤ b ∧ b ≤ 580) (hkl : 0 ≤ kl ∧ kl ≤ 8) (hdl : 0 ≤ dl ∧ dl ≤ 60) (he : b + 20 + kl + dl ≤ 600) : FCon l E y_M_orient ws_M_orient 3 [.ref (E.2.2.2 18 0), .int (iI 2)] σ none (agS (up σ 18 0 11 2) (b + 20 + kl)) := by
  refine con_of (cc := b_M_orient) (nL := 2) (ret := none) (by decide) (Nat.le_of_ble_eq_true rfl) (fun z X Y hn => ?_)
  have X : Cx E z b_M_orient R_M := X
  have hz := Y.2.1
  change J E z 0 0 0 [(0, .ref (E.2.2.2 18 0)), (1, .int (iI 2))] [] (cells E σ)
  refine j_aload_n X rfl d_M_orient_0 ?_
  refine j_iload_n X rfl d_M_orient_1 ?_
  refine p_M_94 X d_M_orient_2 ?_
  refine j_aload_n X rfl d_M_orient_5 ?_
  refine j_iload_n X rfl d_M_orient_6 ?_
  refine j_iconst X d_M_orient_7 ?_
  refine j_icmp_ne X (by omega) (by omega) d_M_orient_8 (tgt := 21) rfl (fun h8 => ?_) (fun h8 => ?_)
  · skip
    refine j_iload_n X rfl d_M_orient_21 ?_
    refine j_iconst X d_M_orient_22 ?_
    refine j_icmp_ne X (by omega) (by omega) d_M_orient_23 (tgt := 49) rfl (fun h23 => ?_) (fun h23 => ?_)
    · exact absurd h23 (by omega)
    · skip
      refine j_aload_n X rfl d_M_orient_26 ?_
      refine g_M_97 X d_M_orient_27 ?_
      refine j_topi (congrArg iI e10) ?_
      refine j_bipush X rfl d_M_orient_30 ?_
      refine j_iadd X d_M_orient_32 ?_
      refine j_aload_n X rfl d_M_orient_33 ?_
      refine j_aload_n X rfl d_M_orient_34 ?_
      refine g_M_80 X d_M_orient_35 ?_
      refine j_topi (congrArg iI e9) ?_
      refine j_aload_n X rfl d_M_orient_38 ?_
      refine g_M_97 X d_M_orient_39 ?_
      refine j_topi (congrArg iI e10) ?_
      refine v_M_36 X hz (c_M_keyOf (zl z) E (up σ 18 0 11 2) t b ht hb) rfl rfl rfl (Nat.le_of_ble_eq_true rfl) ⟨Nat.le_refl _, Nat.le_refl _⟩ d_M_orient_42 ?_
      refine j_topi (congrArg iI (show (up σ 18 0 11 2) 20 0 (600 * t + b + 1) = kl from e1)) ?_
      refine j_iadd X d_M_orient_45 ?_
      refine j_goto X d_M_orient_46 (tgt := 61) rfl ?_
      refine v_M_87 X hz (c_M_goTo (zl z) E (up σ 18 0 11 2) (b + 20 + kl) (by show 0 ≤ σ 18 0 8 ∧ σ 18 0 8 + 600 ≤ 1500000000; omega) (by omega)) rfl rfl rfl (Nat.le_of_ble_eq_true rfl) ⟨Nat.le_refl _, Nat.le_refl _⟩ d_M_orient_61 ?_
      exact j_vret X Y (Nat.le_refl _) (Nat.le_refl _) d_M_orient_64 ⟨rfl, rfl⟩
  · exact absurd h8 (by omega)

set_option maxRecDepth 100000 in
set_option maxHeartbeats 4000000 in
theorem c_M_orient3 (l : Launch) (E : eT) (σ : St) (t b kl dl : Int) (h8 : 0 ≤ σ 18 0 8 ∧ σ 18 0 8 + 3000 ≤ 1500000000) (e9 : σ 18 0 9 = t) (ht : 0 ≤ t ∧ t < 32) (e10 : σ 18 0 10 = b) (e1 : σ 20 0 (600 * t + b + 1) = kl) (e2 : σ 20 0 (600 * t + b + 2) = dl) (hb : 0 ≤ b ∧ b ≤ 580) (hkl : 0 ≤ kl ∧ kl ≤ 8) (hdl : 0 ≤ dl ∧ dl ≤ 60) (he : b + 20 + kl + dl ≤ 600) : FCon l E y_M_orient ws_M_orient 3 [.ref (E.2.2.2 18 0), .int (iI 3)] σ none (agS (up σ 18 0 11 3) (b + 20 + kl + dl)) := by
  refine con_of (cc := b_M_orient) (nL := 2) (ret := none) (by decide) (Nat.le_of_ble_eq_true rfl) (fun z X Y hn => ?_)
  have X : Cx E z b_M_orient R_M := X
  have hz := Y.2.1
  change J E z 0 0 0 [(0, .ref (E.2.2.2 18 0)), (1, .int (iI 3))] [] (cells E σ)
  refine j_aload_n X rfl d_M_orient_0 ?_
  refine j_iload_n X rfl d_M_orient_1 ?_
  refine p_M_94 X d_M_orient_2 ?_
  refine j_aload_n X rfl d_M_orient_5 ?_
  refine j_iload_n X rfl d_M_orient_6 ?_
  refine j_iconst X d_M_orient_7 ?_
  refine j_icmp_ne X (by omega) (by omega) d_M_orient_8 (tgt := 21) rfl (fun h8 => ?_) (fun h8 => ?_)
  · skip
    refine j_iload_n X rfl d_M_orient_21 ?_
    refine j_iconst X d_M_orient_22 ?_
    refine j_icmp_ne X (by omega) (by omega) d_M_orient_23 (tgt := 49) rfl (fun h23 => ?_) (fun h23 => ?_)
    · skip
      refine j_aload_n X rfl d_M_orient_49 ?_
      refine j_aload_n X rfl d_M_orient_50 ?_
      refine g_M_80 X d_M_orient_51 ?_
      refine j_topi (congrArg iI e9) ?_
      refine j_aload_n X rfl d_M_orient_54 ?_
      refine g_M_97 X d_M_orient_55 ?_
      refine j_topi (congrArg iI e10) ?_
      refine v_M_47 X hz (c_M_endOf (zl z) E (up σ 18 0 11 3) t b ht hb) rfl rfl rfl (Nat.le_of_ble_eq_true rfl) ⟨Nat.le_refl _, Nat.le_refl _⟩ d_M_orient_58 ?_
      refine j_topi (congrArg iI (show b + 20 + (up σ 18 0 11 3) 20 0 (600 * t + b + 1) + (up σ 18 0 11 3) 20 0 (600 * t + b + 2) = b + 20 + kl + dl by rw [show (up σ 18 0 11 3) 20 0 (600 * t + b + 1) = kl from e1, show (up σ 18 0 11 3) 20 0 (600 * t + b + 2) = dl from e2])) ?_
      refine v_M_87 X hz (c_M_goTo (zl z) E (up σ 18 0 11 3) (b + 20 + kl + dl) (by show 0 ≤ σ 18 0 8 ∧ σ 18 0 8 + 600 ≤ 1500000000; omega) (by omega)) rfl rfl rfl (Nat.le_of_ble_eq_true rfl) ⟨Nat.le_refl _, Nat.le_refl _⟩ d_M_orient_61 ?_
      exact j_vret X Y (Nat.le_refl _) (Nat.le_refl _) d_M_orient_64 ⟨rfl, rfl⟩
    · exact absurd h23 (by omega)
  · exact absurd h8 (by omega)

set_option maxRecDepth 100000 in
set_option maxHeartbeats 4000000 in
theorem c_M_movesOn0 (l : Launch) (E : eT) (σ : St) (t : Int) (h8 : 0 ≤ σ 18 0 8 ∧ σ 18 0 8 + 3000 ≤ 1500000000) (e9 : σ 18 0 9 = t) (ht : 0 ≤ t ∧ t < 32) (hmany : smS (σ 19 0) (600 * t) 600 = 0) : FCon l E y_M_movesOn ws_M_movesOn 3 [.ref (E.2.2.2 18 0)] σ (some (.int (iI 0))) (up (avS σ ((σ 18 0 8 / 600 + 2) * 600 - σ 18 0 8)) 18 0 18 1) := by
  refine con_of (cc := b_M_movesOn) (nL := 2) (ret := (some .boolean)) (by decide) (Nat.le_of_ble_eq_true rfl) (fun z X Y hn => ?_)
  have X : Cx E z b_M_movesOn R_M := X
  have hz := Y.2.1
  change J E z 0 0 0 [(0, .ref (E.2.2.2 18 0))] [] (cells E σ)
  refine j_aload_n X rfl d_M_movesOn_0 ?_
  refine j_aload_n X rfl d_M_movesOn_1 ?_
  refine g_M_80 X d_M_movesOn_2 ?_
  refine j_topi (congrArg iI e9) ?_
  refine v_M_83 X hz (c_M_many (zl z) E σ t ht) rfl rfl rfl (Nat.le_of_ble_eq_true rfl) ⟨Nat.le_refl _, Nat.le_refl _⟩ d_M_movesOn_5 ?_
  refine j_topi (congrArg iI hmany) ?_
  refine j_if_ne X (by omega) d_M_movesOn_8 (tgt := 40) rfl (fun h8 => ?_) (fun h8 => ?_)
  · exact absurd h8 (by omega)
  · skip
    refine j_iconst X d_M_movesOn_11 ?_
    refine j_istore_n X (zlt hn rfl) d_M_movesOn_12 ?_
    refine j_iload_n X rfl d_M_movesOn_13 ?_
    refine j_iconst X d_M_movesOn_14 ?_
    refine j_icmp_ge X (by omega) (by omega) d_M_movesOn_15 (tgt := 33) rfl (fun h => absurd h (by omega)) (fun h15 => ?_)
    refine j_aload_n X rfl d_M_movesOn_18 ?_
    refine v_M_77 X hz (c_M_tick (zl z) E σ (by first | omega | (rw [ag_8, av_8]; omega))) rfl rfl rfl (Nat.le_of_ble_eq_true rfl) ⟨Nat.le_refl _, Nat.le_refl _⟩ d_M_movesOn_19 ?_
    refine j_aload_n X rfl d_M_movesOn_22 ?_
    refine j_iconst X d_M_movesOn_23 ?_
    refine v_M_87 X hz (c_M_goTo (zl z) E (avS σ 1) 0 (by first | (rw [av_8, ag_8, av_8]; omega) | (rw [av_8]; omega)) (by omega)) rfl rfl rfl (Nat.le_of_ble_eq_true rfl) ⟨Nat.le_refl _, Nat.le_refl _⟩ d_M_movesOn_24 ?_
    refine j_iinc X rfl (zlt hn rfl) d_M_movesOn_27 ?_
    refine j_goto X d_M_movesOn_30 (tgt := 13) rfl ?_
    refine j_iload_n X rfl d_M_movesOn_13 ?_
    refine j_iconst X d_M_movesOn_14 ?_
    refine j_icmp_ge X (by omega) (by omega) d_M_movesOn_15 (tgt := 33) rfl (fun h => absurd h (by omega)) (fun h15 => ?_)
    refine j_aload_n X rfl d_M_movesOn_18 ?_
    refine v_M_77 X hz (c_M_tick (zl z) E (agS (avS σ 1) 0) (by first | omega | (rw [ag_8, av_8]; omega))) rfl rfl rfl (Nat.le_of_ble_eq_true rfl) ⟨Nat.le_refl _, Nat.le_refl _⟩ d_M_movesOn_19 ?_
    refine j_aload_n X rfl d_M_movesOn_22 ?_
    refine j_iconst X d_M_movesOn_23 ?_
    refine v_M_87 X hz (c_M_goTo (zl z) E (avS (agS (avS σ 1) 0) 1) 0 (by first | (rw [av_8, ag_8, av_8]; omega) | (rw [av_8]; omega)) (by omega)) rfl rfl rfl (Nat.le_of_ble_eq_true rfl) ⟨Nat.le_refl _, Nat.le_refl _⟩ d_M_movesOn_24 ?_
    refine j_iinc X rfl (zlt hn rfl) d_M_movesOn_27 ?_
    refine j_goto X d_M_movesOn_30 (tgt := 13) rfl ?_
    refine j_iload_n X rfl d_M_movesOn_13 ?_
    refine j_iconst X d_M_movesOn_14 ?_
    refine j_icmp_ge X (by omega) (by omega) d_M_movesOn_15 (tgt := 33) rfl (fun h15 => ?_) (fun h => absurd h (by omega))
    refine j_aload_n X rfl d_M_movesOn_33 ?_
    refine j_iconst X d_M_movesOn_34 ?_
    refine p_M_91 X d_M_movesOn_35 ?_
    refine j_iconst X d_M_movesOn_38 ?_
    exact j_zret X Y (by first | rfl | exact b2i_nar _) (Nat.le_refl _) (Nat.le_refl _) d_M_movesOn_39 ⟨rfl, by rw [ag_2]⟩

set_option maxRecDepth 100000 in
set_option maxHeartbeats 4000000 in
theorem c_M_movesOn1 (l : Launch) (E : eT) (σ : St) (t b kl dl s n : Int) (h8 : 0 ≤ σ 18 0 8 ∧ σ 18 0 8 + 3000 ≤ 1500000000) (e9 : σ 18 0 9 = t) (ht : 0 ≤ t ∧ t < 32) (hmany : smS (σ 19 0) (600 * t) 600 = n) (hn0 : 1 ≤ n ∧ n ≤ 30) (e11 : σ 18 0 11 = s) (hs : 1 ≤ s ∧ s ≤ 3) (e10 : σ 18 0 10 = b) (e1 : σ 20 0 (600 * t + b + 1) = kl) (e2 : σ 20 0 (600 * t + b + 2) = dl) (hb : 0 ≤ b ∧ b ≤ 580) (hkl : 0 ≤ kl ∧ kl ≤ 8) (hdl : 0 ≤ dl ∧ dl ≤ 60) (he : b + 20 + kl + dl ≤ 600) (hi : b + 20 + kl + dl < 600 → inR (σ 19 0 (600 * t + (b + 20 + kl + dl)))) (hq : b + 20 + kl + dl < 600 ∧ σ 19 0 (600 * t + (b + 20 + kl + dl)) = 1) : FCon l E y_M_movesOn ws_M_movesOn 3 [.ref (E.2.2.2 18 0)] σ (some (.int (iI 1))) (up (agS σ (b + 20 + kl + dl)) 18 0 10 (b + 20 + kl + dl)) := by
  refine con_of (cc := b_M_movesOn) (nL := 2) (ret := (some .boolean)) (by decide) (Nat.le_of_ble_eq_true rfl) (fun z X Y hn => ?_)
  have X : Cx E z b_M_movesOn R_M := X
  have hz := Y.2.1
  change J E z 0 0 0 [(0, .ref (E.2.2.2 18 0))] [] (cells E σ)
  refine j_aload_n X rfl d_M_movesOn_0 ?_
  refine j_aload_n X rfl d_M_movesOn_1 ?_
  refine g_M_80 X d_M_movesOn_2 ?_
  refine j_topi (congrArg iI e9) ?_
  refine v_M_83 X hz (c_M_many (zl z) E σ t ht) rfl rfl rfl (Nat.le_of_ble_eq_true rfl) ⟨Nat.le_refl _, Nat.le_refl _⟩ d_M_movesOn_5 ?_
  refine j_topi (congrArg iI hmany) ?_
  refine j_if_ne X (by omega) d_M_movesOn_8 (tgt := 40) rfl (fun h8 => ?_) (fun h8 => ?_)
  · skip
    refine j_aload_n X rfl d_M_movesOn_40 ?_
    refine g_M_94 X d_M_movesOn_41 ?_
    refine j_topi (congrArg iI e11) ?_
    refine j_if_le X (by omega) d_M_movesOn_44 (tgt := 84) rfl (fun h44 => ?_) (fun h44 => ?_)
    · exact absurd h44 (by omega)
    · skip
      refine j_aload_n X rfl d_M_movesOn_47 ?_
      refine j_aload_n X rfl d_M_movesOn_48 ?_
      refine g_M_80 X d_M_movesOn_49 ?_
      refine j_topi (congrArg iI e9) ?_
      refine j_aload_n X rfl d_M_movesOn_52 ?_
      refine g_M_97 X d_M_movesOn_53 ?_
      refine j_topi (congrArg iI e10) ?_
      refine v_M_47 X hz (c_M_endOf (zl z) E σ t b ht hb) rfl rfl rfl (Nat.le_of_ble_eq_true rfl) ⟨Nat.le_refl _, Nat.le_refl _⟩ d_M_movesOn_56 ?_
      refine j_topi (congrArg iI (show b + 20 + σ 20 0 (600 * t + b + 1) + σ 20 0 (600 * t + b + 2) = b + 20 + kl + dl by rw [e1, e2])) ?_
      refine j_istore_n X (zlt hn rfl) d_M_movesOn_59 ?_
      refine j_aload_n X rfl d_M_movesOn_60 ?_
      refine j_aload_n X rfl d_M_movesOn_61 ?_
      refine j_aload_n X rfl d_M_movesOn_62 ?_
      refine g_M_80 X d_M_movesOn_63 ?_
      refine j_topi (congrArg iI e9) ?_
      refine j_iload_n X rfl d_M_movesOn_66 ?_
      refine v_M_43 X hz (c_M_isBegin (zl z) E σ t (b + 20 + kl + dl) hi ht (by omega)) rfl rfl rfl (Nat.le_of_ble_eq_true rfl) ⟨Nat.le_refl _, Nat.le_refl _⟩ d_M_movesOn_67 ?_
      refine j_ifz X d_M_movesOn_70 (tgt := 77) rfl (fun h => absurd hq h) (fun h => ?_)
      refine j_iload_n X rfl d_M_movesOn_73 ?_
      refine j_goto X d_M_movesOn_74 (tgt := 78) rfl ?_
      refine v_M_87 X hz (c_M_goTo (zl z) E σ (b + 20 + kl + dl) (by omega) (by omega)) rfl rfl rfl (Nat.le_of_ble_eq_true rfl) ⟨Nat.le_refl _, Nat.le_refl _⟩ d_M_movesOn_78 ?_
      refine j_goto X d_M_movesOn_81 (tgt := 106) rfl ?_
      refine j_aload_n X rfl d_M_movesOn_106 ?_
      refine j_aload_n X rfl d_M_movesOn_107 ?_
      refine v_M_67 X hz (c_M_place (zl z) E (agS σ (b + 20 + kl + dl)) (by rw [ag_8]; omega)) rfl rfl rfl (Nat.le_of_ble_eq_true rfl) ⟨Nat.le_refl _, Nat.le_refl _⟩ d_M_movesOn_108 ?_
      refine j_topi (congrArg iI (ag_pl (by omega))) ?_
      refine p_M_97 X d_M_movesOn_111 ?_
      refine j_iconst X d_M_movesOn_114 ?_
      exact j_zret X Y (by first | rfl | exact b2i_nar _) (Nat.le_refl _) (Nat.le_refl _) d_M_movesOn_115 ⟨rfl, rfl⟩
  · exact absurd h8 (by omega)

set_option maxRecDepth 100000 in
set_option maxHeartbeats 4000000 in
theorem c_M_movesOn2 (l : Launch) (E : eT) (σ : St) (t b kl dl s n : Int) (h8 : 0 ≤ σ 18 0 8 ∧ σ 18 0 8 + 3000 ≤ 1500000000) (e9 : σ 18 0 9 = t) (ht : 0 ≤ t ∧ t < 32) (hmany : smS (σ 19 0) (600 * t) 600 = n) (hn0 : 1 ≤ n ∧ n ≤ 30) (e11 : σ 18 0 11 = s) (hs : 1 ≤ s ∧ s ≤ 3) (e10 : σ 18 0 10 = b) (e1 : σ 20 0 (600 * t + b + 1) = kl) (e2 : σ 20 0 (600 * t + b + 2) = dl) (hb : 0 ≤ b ∧ b ≤ 580) (hkl : 0 ≤ kl ∧ kl ≤ 8) (hdl : 0 ≤ dl ∧ dl ≤ 60) (he : b + 20 + kl + dl ≤ 600) (hi : b + 20 + kl + dl < 600 → inR (σ 19 0 (600 * t + (b + 20 + kl + dl)))) (hq : ¬ (b + 20 + kl + dl < 600 ∧ σ 19 0 (600 * t + (b + 20 + kl + dl)) = 1)) : FCon l E y_M_movesOn ws_M_movesOn 3 [.ref (E.2.2.2 18 0)] σ (some (.int (iI 1))) (up (agS σ 0) 18 0 10 0) := by
  refine con_of (cc := b_M_movesOn) (nL := 2) (ret := (some .boolean)) (by decide) (Nat.le_of_ble_eq_true rfl) (fun z X Y hn => ?_)
  have X : Cx E z b_M_movesOn R_M := X
  have hz := Y.2.1
  change J E z 0 0 0 [(0, .ref (E.2.2.2 18 0))] [] (cells E σ)
  refine j_aload_n X rfl d_M_movesOn_0 ?_
  refine j_aload_n X rfl d_M_movesOn_1 ?_
  refine g_M_80 X d_M_movesOn_2 ?_
  refine j_topi (congrArg iI e9) ?_
  refine v_M_83 X hz (c_M_many (zl z) E σ t ht) rfl rfl rfl (Nat.le_of_ble_eq_true rfl) ⟨Nat.le_refl _, Nat.le_refl _⟩ d_M_movesOn_5 ?_
  refine j_topi (congrArg iI hmany) ?_
  refine j_if_ne X (by omega) d_M_movesOn_8 (tgt := 40) rfl (fun h8 => ?_) (fun h8 => ?_)
  · skip
    refine j_aload_n X rfl d_M_movesOn_40 ?_
    refine g_M_94 X d_M_movesOn_41 ?_
    refine j_topi (congrArg iI e11) ?_
    refine j_if_le X (by omega) d_M_movesOn_44 (tgt := 84) rfl (fun h44 => ?_) (fun h44 => ?_)
    · exact absurd h44 (by omega)
    · skip
      refine j_aload_n X rfl d_M_movesOn_47 ?_
      refine j_aload_n X rfl d_M_movesOn_48 ?_
      refine g_M_80 X d_M_movesOn_49 ?_
      refine j_topi (congrArg iI e9) ?_
      refine j_aload_n X rfl d_M_movesOn_52 ?_
      refine g_M_97 X d_M_movesOn_53 ?_
      refine j_topi (congrArg iI e10) ?_
      refine v_M_47 X hz (c_M_endOf (zl z) E σ t b ht hb) rfl rfl rfl (Nat.le_of_ble_eq_true rfl) ⟨Nat.le_refl _, Nat.le_refl _⟩ d_M_movesOn_56 ?_
      refine j_topi (congrArg iI (show b + 20 + σ 20 0 (600 * t + b + 1) + σ 20 0 (600 * t + b + 2) = b + 20 + kl + dl by rw [e1, e2])) ?_
      refine j_istore_n X (zlt hn rfl) d_M_movesOn_59 ?_
      refine j_aload_n X rfl d_M_movesOn_60 ?_
      refine j_aload_n X rfl d_M_movesOn_61 ?_
      refine j_aload_n X rfl d_M_movesOn_62 ?_
      refine g_M_80 X d_M_movesOn_63 ?_
      refine j_topi (congrArg iI e9) ?_
      refine j_iload_n X rfl d_M_movesOn_66 ?_
      refine v_M_43 X hz (c_M_isBegin (zl z) E σ t (b + 20 + kl + dl) hi ht (by omega)) rfl rfl rfl (Nat.le_of_ble_eq_true rfl) ⟨Nat.le_refl _, Nat.le_refl _⟩ d_M_movesOn_67 ?_
      refine j_ifz X d_M_movesOn_70 (tgt := 77) rfl (fun h => ?_) (fun h => absurd h hq)
      refine j_iconst X d_M_movesOn_77 ?_
      refine v_M_87 X hz (c_M_goTo (zl z) E σ 0 (by omega) (by omega)) rfl rfl rfl (Nat.le_of_ble_eq_true rfl) ⟨Nat.le_refl _, Nat.le_refl _⟩ d_M_movesOn_78 ?_
      refine j_goto X d_M_movesOn_81 (tgt := 106) rfl ?_
      refine j_aload_n X rfl d_M_movesOn_106 ?_
      refine j_aload_n X rfl d_M_movesOn_107 ?_
      refine v_M_67 X hz (c_M_place (zl z) E (agS σ 0) (by rw [ag_8]; omega)) rfl rfl rfl (Nat.le_of_ble_eq_true rfl) ⟨Nat.le_refl _, Nat.le_refl _⟩ d_M_movesOn_108 ?_
      refine j_topi (congrArg iI (ag_pl (by omega))) ?_
      refine p_M_97 X d_M_movesOn_111 ?_
      refine j_iconst X d_M_movesOn_114 ?_
      exact j_zret X Y (by first | rfl | exact b2i_nar _) (Nat.le_refl _) (Nat.le_refl _) d_M_movesOn_115 ⟨rfl, rfl⟩
  · exact absurd h8 (by omega)

set_option maxRecDepth 100000 in
set_option maxHeartbeats 4000000 in
theorem c_M_movesOn3 (l : Launch) (E : eT) (σ : St) (t q n : Int) (h8 : 0 ≤ σ 18 0 8 ∧ σ 18 0 8 + 3000 ≤ 1500000000) (e9 : σ 18 0 9 = t) (ht : 0 ≤ t ∧ t < 32) (hmany : smS (σ 19 0) (600 * t) 600 = n) (hn0 : 1 ≤ n ∧ n ≤ 30) (e11 : σ 18 0 11 = 0) (hq0 : 0 ≤ q ∧ q < 600) (hq : σ 19 0 (600 * t + q) = 1) (hi : ∀ p, 0 ≤ p → p < 600 → inR (σ 19 0 (600 * t + p))) (hx : ∀ d, 0 ≤ d → d < (q - σ 18 0 8 % 600 + 600) % 600 → ¬ σ 19 0 (600 * t + (σ 18 0 8 % 600 + d) % 600) = 1) : FCon l E y_M_movesOn ws_M_movesOn 3 [.ref (E.2.2.2 18 0)] σ (some (.int (iI 1))) (up (agS σ q) 18 0 10 q) := by
  refine con_of (cc := b_M_movesOn) (nL := 2) (ret := (some .boolean)) (by decide) (Nat.le_of_ble_eq_true rfl) (fun z X Y hn => ?_)
  have X : Cx E z b_M_movesOn R_M := X
  have hz := Y.2.1
  change J E z 0 0 0 [(0, .ref (E.2.2.2 18 0))] [] (cells E σ)
  refine j_aload_n X rfl d_M_movesOn_0 ?_
  refine j_aload_n X rfl d_M_movesOn_1 ?_
  refine g_M_80 X d_M_movesOn_2 ?_
  refine j_topi (congrArg iI e9) ?_
  refine v_M_83 X hz (c_M_many (zl z) E σ t ht) rfl rfl rfl (Nat.le_of_ble_eq_true rfl) ⟨Nat.le_refl _, Nat.le_refl _⟩ d_M_movesOn_5 ?_
  refine j_topi (congrArg iI hmany) ?_
  refine j_if_ne X (by omega) d_M_movesOn_8 (tgt := 40) rfl (fun h8 => ?_) (fun h8 => ?_)
  · skip
    refine j_aload_n X rfl d_M_movesOn_40 ?_
    refine g_M_94 X d_M_movesOn_41 ?_
    refine j_topi (congrArg iI e11) ?_
    refine j_if_le X (by omega) d_M_movesOn_44 (tgt := 84) rfl (fun h44 => ?_) (fun h44 => ?_)
    · skip
      have kyl : ∀ d : Int, (0 ≤ d ∧ d ≤ (q - σ 18 0 8 % 600 + 600) % 600) → J E z 0 0 84 [(0, .ref (E.2.2.2 18 0))] [] (cells E (avS σ d)) := by
        refine j_loop (fun d : Int => ((q - σ 18 0 8 % 600 + 600) % 600 - d).toNat) _ _ (fun d hd ih => ?_)
        have hpl : avS σ d 18 0 8 % 600 = (σ 18 0 8 % 600 + d) % 600 := by rw [av_8]; omega
        refine j_aload_n X rfl d_M_movesOn_84 ?_
        refine j_aload_n X rfl d_M_movesOn_85 ?_
        refine g_M_80 X d_M_movesOn_86 ?_
        refine j_topi (congrArg iI e9) ?_
        refine j_aload_n X rfl d_M_movesOn_89 ?_
        refine v_M_67 X hz (c_M_place (zl z) E (avS σ d) (by rw [av_8]; omega)) rfl rfl rfl (Nat.le_of_ble_eq_true rfl) ⟨Nat.le_refl _, Nat.le_refl _⟩ d_M_movesOn_90 ?_
        refine j_topi (congrArg iI hpl) ?_
        refine v_M_43 X hz (c_M_isBegin (zl z) E (avS σ d) t ((σ 18 0 8 % 600 + d) % 600) (fun h => hi _ (by omega) h) ht (by omega)) rfl rfl rfl (Nat.le_of_ble_eq_true rfl) ⟨Nat.le_refl _, Nat.le_refl _⟩ d_M_movesOn_93 ?_
        by_cases hdd : d = (q - σ 18 0 8 % 600 + 600) % 600
        · have hy : (σ 18 0 8 % 600 + d) % 600 = q := by omega
          refine j_ifnz X d_M_movesOn_96 (tgt := 106) rfl (fun h => ?_) (fun h => absurd ⟨by omega, by rw [hy]; exact hq⟩ h)
          rw [show avS σ d = agS σ q by unfold agS; rw [hdd]]
          refine j_aload_n X rfl d_M_movesOn_106 ?_
          refine j_aload_n X rfl d_M_movesOn_107 ?_
          refine v_M_67 X hz (c_M_place (zl z) E (agS σ q) (by rw [ag_8]; omega)) rfl rfl rfl (Nat.le_of_ble_eq_true rfl) ⟨Nat.le_refl _, Nat.le_refl _⟩ d_M_movesOn_108 ?_
          refine j_topi (congrArg iI (ag_pl (by omega))) ?_
          refine p_M_97 X d_M_movesOn_111 ?_
          refine j_iconst X d_M_movesOn_114 ?_
          exact j_zret X Y (by first | rfl | exact b2i_nar _) (Nat.le_refl _) (Nat.le_refl _) d_M_movesOn_115 ⟨rfl, rfl⟩
        · refine j_ifnz X d_M_movesOn_96 (tgt := 106) rfl (fun h => absurd h.2 (hx d hd.1 (by omega))) (fun h => ?_)
          refine j_aload_n X rfl d_M_movesOn_99 ?_
          refine v_M_77 X hz (c_M_tick (zl z) E (avS σ d) (by rw [av_8]; omega)) rfl rfl rfl (Nat.le_of_ble_eq_true rfl) ⟨Nat.le_refl _, Nat.le_refl _⟩ d_M_movesOn_100 ?_
          refine j_goto X d_M_movesOn_103 (tgt := 84) rfl ?_
          rw [av_av]; exact ih (d + 1) (by omega) (by omega)
      have := kyl 0 (by omega); rw [av_0] at this; exact this
    · exact absurd h44 (by omega)
  · exact absurd h8 (by omega)

set_option maxRecDepth 100000 in
set_option maxHeartbeats 4000000 in
theorem c_M_goesOn0 (l : Launch) (E : eT) (σ : St) (h8 : 0 ≤ σ 18 0 8 ∧ σ 18 0 8 + 3000 ≤ 1500000000) (e11 : σ 18 0 11 = 0) : FCon l E y_M_goesOn ws_M_goesOn 3 [.ref (E.2.2.2 18 0)] σ (some (.int (iI 0))) (agS σ 0) := by
  refine con_of (cc := b_M_goesOn) (nL := 2) (ret := (some .int)) (by decide) (Nat.le_of_ble_eq_true rfl) (fun z X Y hn => ?_)
  have X : Cx E z b_M_goesOn R_M := X
  have hz := Y.2.1
  change J E z 0 0 0 [(0, .ref (E.2.2.2 18 0))] [] (cells E σ)
  refine j_aload_n X rfl d_M_goesOn_0 ?_
  refine g_M_94 X d_M_goesOn_1 ?_
  refine j_topi (congrArg iI e11) ?_
  refine j_if_le X (by omega) d_M_goesOn_4 (tgt := 22) rfl (fun h4 => ?_) (fun h4 => ?_)
  · skip
    refine j_iconst X d_M_goesOn_22 ?_
    refine j_istore_n X (zlt hn rfl) d_M_goesOn_23 ?_
    refine j_aload_n X rfl d_M_goesOn_24 ?_
    refine j_iload_n X rfl d_M_goesOn_25 ?_
    refine v_M_87 X hz (c_M_goTo (zl z) E σ 0 (by omega) (by omega)) rfl rfl rfl (Nat.le_of_ble_eq_true rfl) ⟨Nat.le_refl _, Nat.le_refl _⟩ d_M_goesOn_26 ?_
    refine j_iload_n X rfl d_M_goesOn_29 ?_
    exact j_iret X Y (Nat.le_refl _) (Nat.le_refl _) d_M_goesOn_30 ⟨rfl, rfl⟩
  · exact absurd h4 (by omega)

set_option maxRecDepth 100000 in
set_option maxHeartbeats 4000000 in
theorem c_M_goesOn1 (l : Launch) (E : eT) (σ : St) (t b kl dl s : Int) (h8 : 0 ≤ σ 18 0 8 ∧ σ 18 0 8 + 3000 ≤ 1500000000) (e9 : σ 18 0 9 = t) (ht : 0 ≤ t ∧ t < 32) (e11 : σ 18 0 11 = s) (hs : 1 ≤ s ∧ s ≤ 3) (e10 : σ 18 0 10 = b) (e1 : σ 20 0 (600 * t + b + 1) = kl) (e2 : σ 20 0 (600 * t + b + 2) = dl) (hb : 0 ≤ b ∧ b ≤ 580) (hkl : 0 ≤ kl ∧ kl ≤ 8) (hdl : 0 ≤ dl ∧ dl ≤ 60) (he : b + 20 + kl + dl ≤ 600) : FCon l E y_M_goesOn ws_M_goesOn 3 [.ref (E.2.2.2 18 0)] σ (some (.int (iI (b + 20 + kl + dl)))) (agS σ (b + 20 + kl + dl)) := by
  refine con_of (cc := b_M_goesOn) (nL := 2) (ret := (some .int)) (by decide) (Nat.le_of_ble_eq_true rfl) (fun z X Y hn => ?_)
  have X : Cx E z b_M_goesOn R_M := X
  have hz := Y.2.1
  change J E z 0 0 0 [(0, .ref (E.2.2.2 18 0))] [] (cells E σ)
  refine j_aload_n X rfl d_M_goesOn_0 ?_
  refine g_M_94 X d_M_goesOn_1 ?_
  refine j_topi (congrArg iI e11) ?_
  refine j_if_le X (by omega) d_M_goesOn_4 (tgt := 22) rfl (fun h4 => ?_) (fun h4 => ?_)
  · exact absurd h4 (by omega)
  · skip
    refine j_aload_n X rfl d_M_goesOn_7 ?_
    refine j_aload_n X rfl d_M_goesOn_8 ?_
    refine g_M_80 X d_M_goesOn_9 ?_
    refine j_topi (congrArg iI e9) ?_
    refine j_aload_n X rfl d_M_goesOn_12 ?_
    refine g_M_97 X d_M_goesOn_13 ?_
    refine j_topi (congrArg iI e10) ?_
    refine v_M_47 X hz (c_M_endOf (zl z) E σ t b ht hb) rfl rfl rfl (Nat.le_of_ble_eq_true rfl) ⟨Nat.le_refl _, Nat.le_refl _⟩ d_M_goesOn_16 ?_
    refine j_topi (congrArg iI (show b + 20 + σ 20 0 (600 * t + b + 1) + σ 20 0 (600 * t + b + 2) = b + 20 + kl + dl by rw [e1, e2])) ?_
    refine j_goto X d_M_goesOn_19 (tgt := 23) rfl ?_
    refine j_istore_n X (zlt hn rfl) d_M_goesOn_23 ?_
    refine j_aload_n X rfl d_M_goesOn_24 ?_
    refine j_iload_n X rfl d_M_goesOn_25 ?_
    refine v_M_87 X hz (c_M_goTo (zl z) E σ (b + 20 + kl + dl) (by omega) (by omega)) rfl rfl rfl (Nat.le_of_ble_eq_true rfl) ⟨Nat.le_refl _, Nat.le_refl _⟩ d_M_goesOn_26 ?_
    refine j_iload_n X rfl d_M_goesOn_29 ?_
    exact j_iret X Y (Nat.le_refl _) (Nat.le_refl _) d_M_goesOn_30 ⟨rfl, rfl⟩

set_option maxRecDepth 100000 in
set_option maxHeartbeats 4000000 in
theorem c_M_seekp (l : Launch) (E : eT) (σ : St) (a t : Int) (h8 : 0 ≤ σ 18 0 8 ∧ σ 18 0 8 + 3000 ≤ 1500000000) (e9 : σ 18 0 9 = t) (ht : 0 ≤ t ∧ t < 32) (ha : 0 ≤ a ∧ a < 32) (hc : t < a) : FCon l E y_M_seek ws_M_seek 2 [.ref (E.2.2.2 18 0), .int (iI a)] σ none (up (up (up (avS σ (10 + 3 * (a - t))) 18 0 9 a) 18 0 11 0) 18 0 16 0) := by
  refine con_of (cc := b_M_seek) (nL := 4) (ret := none) (by decide) (Nat.le_of_ble_eq_true rfl) (fun z X Y hn => ?_)
  have X : Cx E z b_M_seek R_M := X
  have hz := Y.2.1
  change J E z 0 0 0 [(0, .ref (E.2.2.2 18 0)), (1, .int (iI a))] [] (cells E σ)
  refine j_iload_n X rfl d_M_seek_0 ?_
  refine j_aload_n X rfl d_M_seek_1 ?_
  refine g_M_80 X d_M_seek_2 ?_
  refine j_topi (congrArg iI e9) ?_
  refine j_icmp_le X (by omega) (by omega) d_M_seek_5 (tgt := 17) rfl (fun h5 => ?_) (fun h5 => ?_)
  · exact absurd h5 (by omega)
  · skip
    refine j_iload_n X rfl d_M_seek_8 ?_
    refine j_aload_n X rfl d_M_seek_9 ?_
    refine g_M_80 X d_M_seek_10 ?_
    refine j_topi (congrArg iI e9) ?_
    refine j_isub X d_M_seek_13 ?_
    refine j_goto X d_M_seek_14 (tgt := 23) rfl ?_
    refine j_istore_n X (zlt hn rfl) d_M_seek_23 ?_
    refine j_iconst X d_M_seek_24 ?_
    refine j_istore_n X (zlt hn rfl) d_M_seek_25 ?_
    have kyl : ∀ i : Int, (0 ≤ i ∧ i ≤ 10 + 3 * (a - t)) → J E z 0 0 26 [(0, .ref (E.2.2.2 18 0)), (1, .int (iI a)), (2, .int (iI (a - t))), (3, .int (iI i))] [] (cells E (avS σ i)) := by
      refine j_loop (fun i : Int => (10 + 3 * (a - t) - i).toNat) _ _ (fun i hi ih => ?_)
      refine j_iload_n X rfl d_M_seek_26 ?_
      refine j_bipush X rfl d_M_seek_27 ?_
      refine j_iconst X d_M_seek_29 ?_
      refine j_iload_n X rfl d_M_seek_30 ?_
      refine j_imul X d_M_seek_31 ?_
      refine j_iadd X d_M_seek_32 ?_
      refine j_icmp_ge X (by omega) (by omega) d_M_seek_33 (tgt := 46) rfl (fun h33 => ?_) (fun h33 => ?_)
      · skip
        refine j_aload_n X rfl d_M_seek_46 ?_
        refine j_iload_n X rfl d_M_seek_47 ?_
        refine p_M_80 X d_M_seek_48 ?_
        refine j_aload_n X rfl d_M_seek_51 ?_
        refine j_iconst X d_M_seek_52 ?_
        refine p_M_94 X d_M_seek_53 ?_
        refine j_aload_n X rfl d_M_seek_56 ?_
        refine j_iconst X d_M_seek_57 ?_
        refine p_M_74 X d_M_seek_58 ?_
        exact j_vret X Y (Nat.le_refl _) (Nat.le_refl _) d_M_seek_61 ⟨rfl, by rw [show i = 10 + 3 * (a - t) by omega]⟩
      · skip
        refine j_aload_n X rfl d_M_seek_36 ?_
        refine v_M_77 X hz (c_M_tick (zl z) E (avS σ i) (by rw [av_8]; omega)) rfl rfl rfl (Nat.le_of_ble_eq_true rfl) ⟨Nat.le_refl _, Nat.le_refl _⟩ d_M_seek_37 ?_
        refine j_iinc X rfl (zlt hn rfl) d_M_seek_40 ?_
        refine j_goto X d_M_seek_43 (tgt := 26) rfl ?_
        rw [av_av]; exact ih (i + 1) (by omega) (by omega)
    have := kyl 0 (by omega); rw [av_0] at this; exact this

set_option maxRecDepth 100000 in
set_option maxHeartbeats 4000000 in
theorem c_M_seekm (l : Launch) (E : eT) (σ : St) (a t : Int) (h8 : 0 ≤ σ 18 0 8 ∧ σ 18 0 8 + 3000 ≤ 1500000000) (e9 : σ 18 0 9 = t) (ht : 0 ≤ t ∧ t < 32) (ha : 0 ≤ a ∧ a < 32) (hc : a ≤ t) : FCon l E y_M_seek ws_M_seek 2 [.ref (E.2.2.2 18 0), .int (iI a)] σ none (up (up (up (avS σ (10 + 3 * (t - a))) 18 0 9 a) 18 0 11 0) 18 0 16 0) := by
  refine con_of (cc := b_M_seek) (nL := 4) (ret := none) (by decide) (Nat.le_of_ble_eq_true rfl) (fun z X Y hn => ?_)
  have X : Cx E z b_M_seek R_M := X
  have hz := Y.2.1
  change J E z 0 0 0 [(0, .ref (E.2.2.2 18 0)), (1, .int (iI a))] [] (cells E σ)
  refine j_iload_n X rfl d_M_seek_0 ?_
  refine j_aload_n X rfl d_M_seek_1 ?_
  refine g_M_80 X d_M_seek_2 ?_
  refine j_topi (congrArg iI e9) ?_
  refine j_icmp_le X (by omega) (by omega) d_M_seek_5 (tgt := 17) rfl (fun h5 => ?_) (fun h5 => ?_)
  · skip
    refine j_aload_n X rfl d_M_seek_17 ?_
    refine g_M_80 X d_M_seek_18 ?_
    refine j_topi (congrArg iI e9) ?_
    refine j_iload_n X rfl d_M_seek_21 ?_
    refine j_isub X d_M_seek_22 ?_
    refine j_istore_n X (zlt hn rfl) d_M_seek_23 ?_
    refine j_iconst X d_M_seek_24 ?_
    refine j_istore_n X (zlt hn rfl) d_M_seek_25 ?_
    have kyl : ∀ i : Int, (0 ≤ i ∧ i ≤ 10 + 3 * (t - a)) → J E z 0 0 26 [(0, .ref (E.2.2.2 18 0)), (1, .int (iI a)), (2, .int (iI (t - a))), (3, .int (iI i))] [] (cells E (avS σ i)) := by
      refine j_loop (fun i : Int => (10 + 3 * (t - a) - i).toNat) _ _ (fun i hi ih => ?_)
      refine j_iload_n X rfl d_M_seek_26 ?_
      refine j_bipush X rfl d_M_seek_27 ?_
      refine j_iconst X d_M_seek_29 ?_
      refine j_iload_n X rfl d_M_seek_30 ?_
      refine j_imul X d_M_seek_31 ?_
      refine j_iadd X d_M_seek_32 ?_
      refine j_icmp_ge X (by omega) (by omega) d_M_seek_33 (tgt := 46) rfl (fun h33 => ?_) (fun h33 => ?_)
      · skip
        refine j_aload_n X rfl d_M_seek_46 ?_
        refine j_iload_n X rfl d_M_seek_47 ?_
        refine p_M_80 X d_M_seek_48 ?_
        refine j_aload_n X rfl d_M_seek_51 ?_
        refine j_iconst X d_M_seek_52 ?_
        refine p_M_94 X d_M_seek_53 ?_
        refine j_aload_n X rfl d_M_seek_56 ?_
        refine j_iconst X d_M_seek_57 ?_
        refine p_M_74 X d_M_seek_58 ?_
        exact j_vret X Y (Nat.le_refl _) (Nat.le_refl _) d_M_seek_61 ⟨rfl, by rw [show i = 10 + 3 * (t - a) by omega]⟩
      · skip
        refine j_aload_n X rfl d_M_seek_36 ?_
        refine v_M_77 X hz (c_M_tick (zl z) E (avS σ i) (by rw [av_8]; omega)) rfl rfl rfl (Nat.le_of_ble_eq_true rfl) ⟨Nat.le_refl _, Nat.le_refl _⟩ d_M_seek_37 ?_
        refine j_iinc X rfl (zlt hn rfl) d_M_seek_40 ?_
        refine j_goto X d_M_seek_43 (tgt := 26) rfl ?_
        rw [av_av]; exact ih (i + 1) (by omega) (by omega)
    have := kyl 0 (by omega); rw [av_0] at this; exact this
  · exact absurd h5 (by omega)

set_option maxRecDepth 100000 in
set_option maxHeartbeats 4000000 in
theorem c_M_skip (l : Launch) (E : eT) (σ : St) (b : Int) (h8 : 0 ≤ σ 18 0 8 ∧ σ 18 0 8 + 3000 ≤ 1500000000) (hb : 0 ≤ b ∧ b ≤ 600) : FCon l E y_M_skip ws_M_skip 2 [.ref (E.2.2.2 18 0), .int (iI b)] σ none (up (avS σ b) 18 0 11 (if 0 < b then 0 else σ 18 0 11)) := by
  refine con_of (cc := b_M_skip) (nL := 3) (ret := none) (by decide) (Nat.le_of_ble_eq_true rfl) (fun z X Y hn => ?_)
  have X : Cx E z b_M_skip R_M := X
  have hz := Y.2.1
  change J E z 0 0 0 [(0, .ref (E.2.2.2 18 0)), (1, .int (iI b))] [] (cells E σ)
  refine j_iconst X d_M_skip_0 ?_
  refine j_istore_n X (zlt hn rfl) d_M_skip_1 ?_
  have kyl : ∀ i : Int, (0 ≤ i ∧ i ≤ b) → J E z 0 0 2 [(0, .ref (E.2.2.2 18 0)), (1, .int (iI b)), (2, .int (iI i))] [] (cells E (avS σ i)) := by
    refine j_loop (fun i : Int => (b - i).toNat) _ _ (fun i hi ih => ?_)
    refine j_iload_n X rfl d_M_skip_2 ?_
    refine j_iload_n X rfl d_M_skip_3 ?_
    refine j_icmp_ge X (by omega) (by omega) d_M_skip_4 (tgt := 17) rfl (fun h4 => ?_) (fun h4 => ?_)
    · skip
      refine j_aload_n X rfl d_M_skip_17 ?_
      refine j_iload_n X rfl d_M_skip_18 ?_
      refine j_if_le X (by omega) d_M_skip_19 (tgt := 26) rfl (fun h19 => ?_) (fun h19 => ?_)
      · skip
        refine j_aload_n X rfl d_M_skip_26 ?_
        refine g_M_94 X d_M_skip_27 ?_
        refine p_M_94 X d_M_skip_30 ?_
        exact j_vret X Y (Nat.le_refl _) (Nat.le_refl _) d_M_skip_33 (by have e : i = b := (by omega); subst e; first | (rw [if_pos h19]; exact ⟨rfl, rfl⟩) | (rw [if_neg (Int.not_lt.mpr h19)]; exact ⟨rfl, rfl⟩))
      · skip
        refine j_iconst X d_M_skip_22 ?_
        refine j_goto X d_M_skip_23 (tgt := 30) rfl ?_
        refine p_M_94 X d_M_skip_30 ?_
        exact j_vret X Y (Nat.le_refl _) (Nat.le_refl _) d_M_skip_33 (by have e : i = b := (by omega); subst e; first | (rw [if_pos h19]; exact ⟨rfl, rfl⟩) | (rw [if_neg (Int.not_lt.mpr h19)]; exact ⟨rfl, rfl⟩))
    · skip
      refine j_aload_n X rfl d_M_skip_7 ?_
      refine v_M_77 X hz (c_M_tick (zl z) E (avS σ i) (by rw [av_8]; omega)) rfl rfl rfl (Nat.le_of_ble_eq_true rfl) ⟨Nat.le_refl _, Nat.le_refl _⟩ d_M_skip_8 ?_
      refine j_iinc X rfl (zlt hn rfl) d_M_skip_11 ?_
      refine j_goto X d_M_skip_14 (tgt := 2) rfl ?_
      rw [av_av]; exact ih (i + 1) (by omega) (by omega)
  have := kyl 0 (by omega); rw [av_0] at this; exact this

set_option maxRecDepth 100000 in
set_option maxHeartbeats 4000000 in
theorem c_M_erase0 (l : Launch) (E : eT) (σ : St) (t : Int) (h8 : 0 ≤ σ 18 0 8 ∧ σ 18 0 8 + 3000 ≤ 1500000000) (e9 : σ 18 0 9 = t) (ht : 0 ≤ t ∧ t < 32) (e11 : σ 18 0 11 = 0) : FCon l E y_M_erase ws_M_erase 4 [.ref (E.2.2.2 18 0)] σ none (up (avS (clS (agS σ 0) t 0 600) 5) 18 0 11 0) := by
  refine con_of (cc := b_M_erase) (nL := 2) (ret := none) (by decide) (Nat.le_of_ble_eq_true rfl) (fun z X Y hn => ?_)
  have X : Cx E z b_M_erase R_M := X
  have hz := Y.2.1
  change J E z 0 0 0 [(0, .ref (E.2.2.2 18 0))] [] (cells E σ)
  refine j_aload_n X rfl d_M_erase_0 ?_
  refine j_aload_n X rfl d_M_erase_1 ?_
  refine g_M_80 X d_M_erase_2 ?_
  refine j_topi (congrArg iI e9) ?_
  refine j_aload_n X rfl d_M_erase_5 ?_
  refine v_M_140 X hz (c_M_goesOn0 (zl z) E σ h8 e11) rfl rfl rfl (Nat.le_of_ble_eq_true rfl) ⟨Nat.le_refl _, Nat.le_refl _⟩ d_M_erase_6 ?_
  refine v_M_143 X hz (c_M_clear (zl z) E (agS σ 0) t 0 ht (by omega)) rfl rfl rfl (Nat.le_of_ble_eq_true rfl) ⟨Nat.le_refl _, Nat.le_refl _⟩ d_M_erase_9 ?_
  refine j_iconst X d_M_erase_12 ?_
  refine j_istore_n X (zlt hn rfl) d_M_erase_13 ?_
  have kyl : ∀ i : Int, (0 ≤ i ∧ i ≤ 5) → J E z 0 0 14 [(0, .ref (E.2.2.2 18 0)), (1, .int (iI i))] [] (cells E (avS (clS (agS σ 0) t 0 600) i)) := by
    refine j_loop (fun i : Int => (5 - i).toNat) _ _ (fun i hi ih => ?_)
    refine j_iload_n X rfl d_M_erase_14 ?_
    refine j_iconst X d_M_erase_15 ?_
    refine j_icmp_ge X (by omega) (by omega) d_M_erase_16 (tgt := 29) rfl (fun h16 => ?_) (fun h16 => ?_)
    · skip
      refine j_aload_n X rfl d_M_erase_29 ?_
      refine j_iconst X d_M_erase_30 ?_
      refine p_M_94 X d_M_erase_31 ?_
      exact j_vret X Y (Nat.le_refl _) (Nat.le_refl _) d_M_erase_34 ⟨rfl, by rw [show i = 5 by omega]⟩
    · skip
      refine j_aload_n X rfl d_M_erase_19 ?_
      refine v_M_77 X hz (c_M_tick (zl z) E (avS (clS (agS σ 0) t 0 600) i) (by rw [av_8]; show 0 ≤ agS σ 0 18 0 8 + i ∧ agS σ 0 18 0 8 + i < 1500000000; rw [ag_8]; omega)) rfl rfl rfl (Nat.le_of_ble_eq_true rfl) ⟨Nat.le_refl _, Nat.le_refl _⟩ d_M_erase_20 ?_
      refine j_iinc X rfl (zlt hn rfl) d_M_erase_23 ?_
      refine j_goto X d_M_erase_26 (tgt := 14) rfl ?_
      rw [av_av]; exact ih (i + 1) (by omega) (by omega)
  have := kyl 0 (by omega); rw [av_0] at this; exact this

set_option maxRecDepth 100000 in
set_option maxHeartbeats 4000000 in
theorem c_M_erase1 (l : Launch) (E : eT) (σ : St) (t : Int) (b kl dl s : Int) (h8 : 0 ≤ σ 18 0 8 ∧ σ 18 0 8 + 3000 ≤ 1500000000) (e9 : σ 18 0 9 = t) (ht : 0 ≤ t ∧ t < 32) (e11 : σ 18 0 11 = s) (hs : 1 ≤ s ∧ s ≤ 3) (e10 : σ 18 0 10 = b) (e1 : σ 20 0 (600 * t + b + 1) = kl) (e2 : σ 20 0 (600 * t + b + 2) = dl) (hb : 0 ≤ b ∧ b ≤ 580) (hkl : 0 ≤ kl ∧ kl ≤ 8) (hdl : 0 ≤ dl ∧ dl ≤ 60) (he : b + 20 + kl + dl ≤ 600) : FCon l E y_M_erase ws_M_erase 4 [.ref (E.2.2.2 18 0)] σ none (up (avS (clS (agS σ (b + 20 + kl + dl)) t (b + 20 + kl + dl) 600) 5) 18 0 11 0) := by
  refine con_of (cc := b_M_erase) (nL := 2) (ret := none) (by decide) (Nat.le_of_ble_eq_true rfl) (fun z X Y hn => ?_)
  have X : Cx E z b_M_erase R_M := X
  have hz := Y.2.1
  change J E z 0 0 0 [(0, .ref (E.2.2.2 18 0))] [] (cells E σ)
  refine j_aload_n X rfl d_M_erase_0 ?_
  refine j_aload_n X rfl d_M_erase_1 ?_
  refine g_M_80 X d_M_erase_2 ?_
  refine j_topi (congrArg iI e9) ?_
  refine j_aload_n X rfl d_M_erase_5 ?_
  refine v_M_140 X hz (c_M_goesOn1 (zl z) E σ t b kl dl s h8 e9 ht e11 hs e10 e1 e2 hb hkl hdl he) rfl rfl rfl (Nat.le_of_ble_eq_true rfl) ⟨Nat.le_refl _, Nat.le_refl _⟩ d_M_erase_6 ?_
  refine v_M_143 X hz (c_M_clear (zl z) E (agS σ (b + 20 + kl + dl)) t (b + 20 + kl + dl) ht (by omega)) rfl rfl rfl (Nat.le_of_ble_eq_true rfl) ⟨Nat.le_refl _, Nat.le_refl _⟩ d_M_erase_9 ?_
  refine j_iconst X d_M_erase_12 ?_
  refine j_istore_n X (zlt hn rfl) d_M_erase_13 ?_
  have kyl : ∀ i : Int, (0 ≤ i ∧ i ≤ 5) → J E z 0 0 14 [(0, .ref (E.2.2.2 18 0)), (1, .int (iI i))] [] (cells E (avS (clS (agS σ (b + 20 + kl + dl)) t (b + 20 + kl + dl) 600) i)) := by
    refine j_loop (fun i : Int => (5 - i).toNat) _ _ (fun i hi ih => ?_)
    refine j_iload_n X rfl d_M_erase_14 ?_
    refine j_iconst X d_M_erase_15 ?_
    refine j_icmp_ge X (by omega) (by omega) d_M_erase_16 (tgt := 29) rfl (fun h16 => ?_) (fun h16 => ?_)
    · skip
      refine j_aload_n X rfl d_M_erase_29 ?_
      refine j_iconst X d_M_erase_30 ?_
      refine p_M_94 X d_M_erase_31 ?_
      exact j_vret X Y (Nat.le_refl _) (Nat.le_refl _) d_M_erase_34 ⟨rfl, by rw [show i = 5 by omega]⟩
    · skip
      refine j_aload_n X rfl d_M_erase_19 ?_
      refine v_M_77 X hz (c_M_tick (zl z) E (avS (clS (agS σ (b + 20 + kl + dl)) t (b + 20 + kl + dl) 600) i) (by rw [av_8]; show 0 ≤ agS σ (b + 20 + kl + dl) 18 0 8 + i ∧ agS σ (b + 20 + kl + dl) 18 0 8 + i < 1500000000; rw [ag_8]; omega)) rfl rfl rfl (Nat.le_of_ble_eq_true rfl) ⟨Nat.le_refl _, Nat.le_refl _⟩ d_M_erase_20 ?_
      refine j_iinc X rfl (zlt hn rfl) d_M_erase_23 ?_
      refine j_goto X d_M_erase_26 (tgt := 14) rfl ?_
      rw [av_av]; exact ih (i + 1) (by omega) (by omega)
  have := kyl 0 (by omega); rw [av_0] at this; exact this

set_option maxRecDepth 100000 in
set_option maxHeartbeats 4000000 in
theorem c_M_compare (l : Launch) (E : eT) (σ : St) (t b kl a n : Int) (f g : Int → Int) (e9 : σ 18 0 9 = t) (ht : 0 ≤ t ∧ t < 32) (e10 : σ 18 0 10 = b) (e1 : σ 20 0 (600 * t + b + 1) = kl) (hb : 0 ≤ b ∧ b ≤ 580) (hkl : 0 ≤ kl ∧ kl ≤ 8) (he : b + 20 + kl ≤ 600) (hn0 : 0 ≤ n ∧ n ≤ 8) (ha : 0 ≤ a ∧ a + n ≤ 256) (hf : ∀ i, 0 ≤ i → i < kl → σ 20 0 (600 * t + b + 20 + i) % 256 = f i) (hg : ∀ i, 0 ≤ i → i < n → σ 21 0 (a + i) = g i) (bg : ∀ i, 0 ≤ i → i < n → 0 ≤ g i ∧ g i < 256) : FCon l E y_M_compare ws_M_compare 1 [.ref (E.2.2.2 18 0), .int (iI a), .int (iI n)] σ (some (.int (iI (cmpS f g kl n 9 0)))) σ := by
  refine con_of (cc := b_M_compare) (nL := 6) (ret := (some .int)) (by decide) (Nat.le_of_ble_eq_true rfl) (fun z X Y hn => ?_)
  have X : Cx E z b_M_compare R_M := X
  have hz := Y.2.1
  change J E z 0 0 0 [(0, .ref (E.2.2.2 18 0)), (1, .int (iI a)), (2, .int (iI n))] [] (cells E σ)
  obtain ⟨r, hr⟩ : ∃ r, r = cmpS f g kl n 9 0 := ⟨_, rfl⟩
  rw [← hr] at Y
  refine j_aload_n X rfl d_M_compare_0 ?_
  refine j_aload_n X rfl d_M_compare_1 ?_
  refine g_M_80 X d_M_compare_2 ?_
  refine j_topi (congrArg iI e9) ?_
  refine j_aload_n X rfl d_M_compare_5 ?_
  refine g_M_97 X d_M_compare_6 ?_
  refine j_topi (congrArg iI e10) ?_
  refine v_M_36 X hz (c_M_keyOf (zl z) E σ t b ht hb) rfl rfl rfl (Nat.le_of_ble_eq_true rfl) ⟨Nat.le_refl _, Nat.le_refl _⟩ d_M_compare_9 ?_
  refine j_topi (congrArg iI e1) ?_
  refine j_istore_n X (zlt hn rfl) d_M_compare_12 ?_
  refine j_iconst X d_M_compare_13 ?_
  refine j_istore X (zlt hn rfl) d_M_compare_14 ?_
  have kyl : ∀ i : Int, ((0 ≤ i ∧ i ≤ 8) ∧ r = cmpS f g kl n (9 - i).toNat i) → J E z 0 0 16 [(0, .ref (E.2.2.2 18 0)), (1, .int (iI a)), (2, .int (iI n)), (3, .int (iI kl)), (4, .int (iI i))] [] (cells E σ) := by
    refine j_loop (fun i : Int => (9 - i).toNat) _ _ (fun i hi ih => ?_)
    have ec := hi.2
    rw [show (9 - i).toNat = (9 - (i + 1)).toNat + 1 by omega, cmpS_succ] at ec
    refine j_iload X rfl d_M_compare_16 ?_
    refine j_iload_n X rfl d_M_compare_18 ?_
    refine j_icmp_ge X (by omega) (by omega) d_M_compare_19 (tgt := 68) rfl (fun h19 => ?_) (fun h19 => ?_)
    · skip
      refine j_iload_n X rfl d_M_compare_68 ?_
      refine j_iload_n X rfl d_M_compare_69 ?_
      refine j_isub X d_M_compare_70 ?_
      exact j_iret X Y (Nat.le_refl _) (Nat.le_refl _) d_M_compare_71 ⟨by rw [ec, if_neg (by omega)], rfl⟩
    · skip
      refine j_iload X rfl d_M_compare_22 ?_
      refine j_iload_n X rfl d_M_compare_24 ?_
      refine j_icmp_ge X (by omega) (by omega) d_M_compare_25 (tgt := 68) rfl (fun h25 => ?_) (fun h25 => ?_)
      · skip
        refine j_iload_n X rfl d_M_compare_68 ?_
        refine j_iload_n X rfl d_M_compare_69 ?_
        refine j_isub X d_M_compare_70 ?_
        exact j_iret X Y (Nat.le_refl _) (Nat.le_refl _) d_M_compare_71 ⟨by rw [ec, if_neg (by omega)], rfl⟩
      · skip
        refine j_aload_n X rfl d_M_compare_28 ?_
        refine j_aload_n X rfl d_M_compare_29 ?_
        refine g_M_80 X d_M_compare_30 ?_
        refine j_topi (congrArg iI e9) ?_
        refine j_aload_n X rfl d_M_compare_33 ?_
        refine g_M_97 X d_M_compare_34 ?_
        refine j_topi (congrArg iI e10) ?_
        refine j_iload X rfl d_M_compare_37 ?_
        have f1 := hf i (by omega) h19
        have g1 := hg i (by omega) h25
        have g2 := bg i (by omega) h25
        have f2 : 0 ≤ f i ∧ f i < 256 := by rw [← f1]; omega
        refine v_M_103 X hz (c_M_byteAt (zl z) E σ t b i ht (by omega)) rfl rfl rfl (Nat.le_of_ble_eq_true rfl) ⟨Nat.le_refl _, Nat.le_refl _⟩ d_M_compare_39 ?_
        refine j_topi (congrArg iI f1) ?_
        refine j_aload_n X rfl d_M_compare_42 ?_
        refine g_M_16 X d_M_compare_43 ?_
        refine j_iload_n X rfl d_M_compare_46 ?_
        refine j_iload X rfl d_M_compare_47 ?_
        refine j_iadd X d_M_compare_49 ?_
        refine j_iald X (by first | exact okC1 rfl | exact (okCT rfl (by omega))) (fun _ => rfl) rfl (by omega) d_M_compare_50 ?_
        refine j_topi (congrArg iI g1) ?_
        refine j_isub X d_M_compare_51 ?_
        refine j_istore X (zlt hn rfl) d_M_compare_52 ?_
        refine j_iload X rfl d_M_compare_54 ?_
        refine j_if_eq X (by omega) d_M_compare_56 (tgt := 62) rfl (fun h56 => ?_) (fun h56 => ?_)
        · skip
          refine j_iinc X rfl (zlt hn rfl) d_M_compare_62 ?_
          refine j_goto X d_M_compare_65 (tgt := 16) rfl ?_
          exact j_drop 5 (ih (i + 1) ⟨by omega, by rw [ec, if_pos ⟨h19, h25⟩, if_pos (by omega)]⟩ (by omega))
        · skip
          refine j_iload X rfl d_M_compare_59 ?_
          exact j_iret X Y (Nat.le_refl _) (Nat.le_refl _) d_M_compare_61 ⟨by rw [ec, if_pos ⟨h19, h25⟩, if_neg h56], rfl⟩
  exact kyl 0 ⟨by omega, hr⟩
