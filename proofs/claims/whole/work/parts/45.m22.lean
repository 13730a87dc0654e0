/-! the model's start -/
/-- at rest -/
def RW (μ σ : St) : Prop := RG μ σ ∧ σ 18 0 12 = μ 15 0 3 ∧ μ 14 0 3 = 0
theorem rr_be {ν τ : St} {k : Int} (h : RR ν τ) : RR (beS ν k) (up (up τ 18 0 12 k) 18 0 14 (ν 15 0 5 + 1)) := by
  obtain ⟨⟨h1, h2, ⟨a1, a2, a3, a4, a5, a6⟩, h4, h5⟩, h16, hs⟩ := h
  exact ⟨⟨h1, h2, ⟨a1, a2, a3, rfl, a5, a6⟩, h4, h5⟩, h16, hs⟩
theorem rb_be {ν : St} {k : Int} (hk : 0 ≤ k ∧ k < 16) : RB (beS ν k) k := by
  refine Or.inr ⟨hk, ?_⟩
  show (1 ≤ ν 11 0 k ∧ ν 11 0 k ≤ 3) ∧ (if 1 ≤ ν 11 0 k ∧ ν 11 0 k ≤ 3 then k + 1 else -1) = k + 1 ∨ ¬ (1 ≤ ν 11 0 k ∧ ν 11 0 k ≤ 3) ∧ (if 1 ≤ ν 11 0 k ∧ ν 11 0 k ≤ 3 then k + 1 else -1) = -1
  by_cases q : 1 ≤ ν 11 0 k ∧ ν 11 0 k ≤ 3
  · exact Or.inl ⟨q, if_pos q⟩
  · exact Or.inr ⟨q, if_neg q⟩
theorem rb_of {ν ν' : St} {k : Int} (h : RB ν k) (h11 : ∀ j, ν' 11 0 j = ν 11 0 j) (h10 : ν' 15 0 10 = ν 15 0 10) : RB ν' k := by
  unfold RB
  rw [h11, h10]
  exact h
theorem rr_st {ν τ : St} (h : RR ν τ) (k s : Int) : RR ν (up (up τ 18 0 12 k) 18 0 18 s) := h
theorem rr_pr {μ σ : St} (h : RW μ σ) : RR (prS μ) (up (up (up (up (up (up (up σ 18 0 0 0) 18 0 18 0) 18 0 11 0) 18 0 13 0) 18 0 14 0) 18 0 15 0) 18 0 16 0) := by
  obtain ⟨⟨h1, h2, ⟨a1, a2, a3, a4, a5, a6⟩, h4, h5⟩, he, h3⟩ := h
  refine ⟨⟨h1, h2, ⟨a1, a2, rfl, rfl, a5, ?_⟩, h4, h5⟩, ?_, fun _ => rfl, fun q => absurd h3 q⟩
  · show (0 : Int) = μ 14 0 1 / 600 - μ 14 0 1 / 600
    omega
  · show (0 : Int) = μ 14 0 1 / 600 - μ 14 0 1 / 600
    omega

set_option maxRecDepth 100000 in
set_option maxHeartbeats 4000000 in
theorem x_M_start (l : Launch) (E : eT) (μ σ : St) (T Q : Int) (hR : RW μ σ) (h : IV μ T Q) (hT : T + 1000000 ≤ 1000000000) (hQ : Q + 1000 ≤ 1000000000) (hQ0 : 0 ≤ Q) : Con l E y_M_start ws_M_start 7 0 0 [.ref (E.2.2.2 18 0)] (cells E σ) (fun v w => ∃ σ', (v = some (.int (iI (rnL 401 (prS μ) 0 0).1)) ∧ w = cells E σ') ∧ RW (rnE (rnL 401 (prS μ) 0 0)) σ' ∧ KC σ σ') := by
  refine con_of (cc := b_M_start) (nL := 3) (ret := (some .int)) (by decide) (Nat.le_of_ble_eq_true rfl) (fun z X Y hn => ?_)
  have X : Cx E z b_M_start R_M := X
  have hz := Y.2.1
  change J E z 0 0 0 [(0, .ref (E.2.2.2 18 0))] [] (cells E σ)
  obtain ⟨r, hr⟩ : ∃ r, r = rnL 401 (prS μ) 0 0 := ⟨_, rfl⟩
  rw [← hr] at Y
  have hP := iv_pr h (by omega)
  have hR0 := rr_pr hR
  refine j_aload_n X rfl d_M_start_0 ?_
  refine j_iconst X d_M_start_1 ?_
  refine p_M_32 X d_M_start_2 ?_
  refine j_aload_n X rfl d_M_start_5 ?_
  refine j_iconst X d_M_start_6 ?_
  refine p_M_91 X d_M_start_7 ?_
  refine j_aload_n X rfl d_M_start_10 ?_
  refine j_iconst X d_M_start_11 ?_
  refine p_M_94 X d_M_start_12 ?_
  refine j_aload_n X rfl d_M_start_15 ?_
  refine j_iconst X d_M_start_16 ?_
  refine p_M_126 X d_M_start_17 ?_
  refine j_aload_n X rfl d_M_start_20 ?_
  refine j_iconst X d_M_start_21 ?_
  refine p_M_171 X d_M_start_22 ?_
  refine j_aload_n X rfl d_M_start_25 ?_
  refine j_iconst X d_M_start_26 ?_
  refine p_M_71 X d_M_start_27 ?_
  refine j_aload_n X rfl d_M_start_30 ?_
  refine j_iconst X d_M_start_31 ?_
  refine p_M_74 X d_M_start_32 ?_
  refine j_iconst X d_M_start_35 ?_
  refine j_istore_n X (zlt hn rfl) d_M_start_36 ?_
  refine j_iconst X d_M_start_37 ?_
  refine j_istore_n X (zlt hn rfl) d_M_start_38 ?_
  have kyl : ∀ q : Nat × St × St × Int × Int × Int × Int, (r = rnL q.1 q.2.1 q.2.2.2.2.2.2 q.2.2.2.2.2.1 ∧ RR q.2.1 q.2.2.1 ∧ q.2.2.1 18 0 18 = q.2.2.2.2.2.1 ∧ (q.2.2.2.2.2.1 = 0 → q.2.1 15 0 9 = q.2.2.2.1 ∧ q.2.1 15 0 5 + q.1 = 401) ∧ (¬ q.2.2.2.2.2.1 = 0 → q.2.2.1 18 0 12 = q.2.2.2.2.2.2) ∧ RB q.2.1 q.2.2.2.2.1 ∧ 0 ≤ q.2.1 15 0 8 ∧ IV q.2.1 (T + 1800 * (401 - (q.1 : Int))) (Q + (401 - (q.1 : Int))) ∧ q.1 ≤ 401 ∧ (0 ≤ q.2.1 15 0 5 ∧ q.2.1 15 0 5 ≤ 400) ∧ (0 ≤ q.2.2.2.2.2.1 ∧ q.2.2.2.2.2.1 ≤ 6) ∧ (0 ≤ q.2.2.2.1 ∧ q.2.2.2.1 ≤ 17) ∧ KC σ q.2.2.1) → J E z 0 0 39 [(0, .ref (E.2.2.2 18 0)), (1, .int (iI q.2.2.2.1)), (2, .int (iI q.2.2.2.2.1))] [] (cells E q.2.2.1) := by
    refine j_loop (fun q => q.1) _ _ (fun q hq ih => ?_)
    obtain ⟨m, ν, τ, k, last, s, b⟩ := q
    obtain ⟨hrn, hRR, e18, hz0, hz1, hB, h80, hI, hm, h5, hs, hk, hK⟩ := hq
    dsimp only at hrn hRR e18 hz0 hz1 hB h80 hI hm h5 hs hk hK
    dsimp only
    have r10 := hI.1.2.2.2.2.1.1
    have e4 := hRR.1.2.1.1
    have e14 := hRR.1.2.2.1.2.2.2.1
    have fin : r = (s, b, ν) → J E z 0 0 120 [(0, .ref (E.2.2.2 18 0)), (1, .int (iI k)), (2, .int (iI last))] [] (cells E τ) := by
      intro hf
      subst hf
      refine j_aload_n X rfl d_M_start_120 ?_
      refine g_M_91 X d_M_start_121 ?_
      refine j_topi (congrArg iI e18) ?_
      refine j_if_ne X (by omega) d_M_start_124 (tgt := 135) rfl (fun h124 => ?_) (fun h124 => ?_)
      · skip
        refine j_aload_n X rfl d_M_start_135 ?_
        refine j_iconst X d_M_start_136 ?_
        refine p_M_94 X d_M_start_137 ?_
        refine j_aload_n X rfl d_M_start_140 ?_
        refine g_M_91 X d_M_start_141 ?_
        refine j_topi (congrArg iI e18) ?_
        exact j_iret X Y (Nat.le_refl _) (Nat.le_refl _) d_M_start_144 ⟨_, ⟨rfl, rfl⟩, ⟨hRR.1, by show τ 18 0 12 = (if s = 0 then ν 10 0 3 else b); rw [if_neg h124]; exact hz1 h124, rfl⟩, kc_t hK (kc_18 _ _ _)⟩
      · skip
        refine j_aload_n X rfl d_M_start_127 ?_
        refine j_aload_n X rfl d_M_start_128 ?_
        refine g_M_50 X d_M_start_129 ?_
        refine j_topi (congrArg iI e4) ?_
        refine p_M_174 X d_M_start_132 ?_
        refine j_aload_n X rfl d_M_start_135 ?_
        refine j_iconst X d_M_start_136 ?_
        refine p_M_94 X d_M_start_137 ?_
        refine j_aload_n X rfl d_M_start_140 ?_
        refine g_M_91 X d_M_start_141 ?_
        refine j_topi (congrArg iI e18) ?_
        exact j_iret X Y (Nat.le_refl _) (Nat.le_refl _) d_M_start_144 ⟨_, ⟨rfl, rfl⟩, ⟨hRR.1, by show ν 10 0 3 = (if s = 0 then ν 10 0 3 else b); rw [if_pos h124], rfl⟩, kc_t hK (kc_t (kc_18 _ _ _) (kc_18 _ _ _))⟩
    refine j_iload_n X rfl d_M_start_39 ?_
    refine j_aload_n X rfl d_M_start_40 ?_
    refine g_M_50 X d_M_start_41 ?_
    refine j_topi (congrArg iI e4) ?_
    refine j_icmp_ge X (by omega) (by omega) d_M_start_44 (tgt := 120) rfl (fun h44 => ?_) (fun h44 => ?_)
    · skip
      exact fin (by cases m with | zero => exact hrn | succ m => rw [hrn, rnL_s, if_neg (fun q => by have := (hz0 q.2).1; omega)])
    · skip
      refine j_aload_n X rfl d_M_start_47 ?_
      refine g_M_91 X d_M_start_48 ?_
      refine j_topi (congrArg iI e18) ?_
      refine j_if_ne X (by omega) d_M_start_51 (tgt := 120) rfl (fun h51 => ?_) (fun h51 => ?_)
      · skip
        exact fin (by cases m with | zero => exact hrn | succ m => rw [hrn, rnL_s, if_neg (by omega)])
      · skip
        obtain ⟨m, rfl⟩ : ∃ m', m = m' + 1 := ⟨m - 1, by have := (hz0 h51).2; omega⟩
        have e9 := (hz0 h51).1
        have e5 := (hz0 h51).2
        have hk16 : 0 ≤ k ∧ k < 16 := by omega
        have ihS := iv_st hI (by omega) (by omega) (by omega) h5 (by omega)
        have ihV := st_V hI.1 (show ν 15 0 9 < 16 by omega)
        have hrn' : r = rnL m (stS ν) k (stV ν) := by rw [hrn, rnL_s, if_pos (by omega), e9]
        have k9 : 0 ≤ stS ν 15 0 9 ∧ stS ν 15 0 9 ≤ 17 := ⟨ihS.1.1.2.2.2.2.2.1, ihS.1.2.2.2⟩
        have nxt : ∀ (τ' : St) (k' last' : Int), RR (stS ν) τ' → τ' 18 0 18 = stV ν → τ' 18 0 12 = k → (stV ν = 0 → stS ν 15 0 9 = k' ∧ stS ν 15 0 5 + m = 401) → RB (stS ν) last' → 0 ≤ stS ν 15 0 8 → KC σ τ' → (0 ≤ k' ∧ k' ≤ 17) → J E z 0 0 39 [(0, .ref (E.2.2.2 18 0)), (1, .int (iI k')), (2, .int (iI last'))] [] (cells E τ') := by
          intro τ' k' last' g1 g2 g3 g4 g5 g6 g7 g8
          exact ih (m, stS ν, τ', k', last', stV ν, k) ⟨hrn', g1, g2, g4, fun _ => g3, g5, g6, iv_le ihS.1 (by dsimp only; omega) (by dsimp only; omega), by dsimp only; omega, ihS.2, ihV, g8, g7⟩ (by dsimp only; omega)
        subst e9
        refine j_aload_n X rfl d_M_start_54 ?_
        refine j_iload_n X rfl d_M_start_55 ?_
        refine p_M_174 X d_M_start_56 ?_
        refine j_aload_n X rfl d_M_start_59 ?_
        refine g_M_171 X d_M_start_60 ?_
        refine j_topi (congrArg iI e14) ?_
        refine j_sipush X rfl d_M_start_63 ?_
        refine j_icmp_ne X (by omega) (by omega) d_M_start_66 (tgt := 78) rfl (fun h66 => ?_) (fun h66 => ?_)
        · skip
          refine j_aload_n X rfl d_M_start_78 ?_
          refine j_iload_n X rfl d_M_start_79 ?_
          refine j_iload_n X rfl d_M_start_80 ?_
          refine v_M_177 X hz (x_M_isSo (l := zl z) (E := E) (μ := ν) (σ := up τ 18 0 12 (ν 15 0 9)) hRR.1 hI.1 hk16 hB) rfl rfl rfl (Nat.le_of_ble_eq_true rfl) ⟨Nat.le_refl _, Nat.le_refl _⟩ d_M_start_81 ?_
          by_cases hc : cbP ν (ν 15 0 9)
          · rw [b2i_t hc]
            refine j_if_ne X (by omega) d_M_start_84 (tgt := 95) rfl (fun _ => ?_) (fun h => absurd h (by omega))
            refine j_aload_n X rfl d_M_start_95 ?_
            refine j_dup X rfl d_M_start_96 ?_
            refine g_M_171 X d_M_start_97 ?_
            refine j_topi (congrArg iI e14) ?_
            refine j_iconst X d_M_start_100 ?_
            refine j_iadd X d_M_start_101 ?_
            refine p_M_171 X d_M_start_102 ?_
            refine j_iload_n X rfl d_M_start_105 ?_
            refine j_istore_n X (zlt hn rfl) d_M_start_106 ?_
            refine j_aload_n X rfl d_M_start_107 ?_
            refine j_iload_n X rfl d_M_start_108 ?_
            have e1 : stV ν = pfV (beS ν (ν 15 0 9)) (ν 15 0 9) := by unfold stV; rw [if_neg h66, if_pos hc]
            have e2 : stS ν = pfS (beS ν (ν 15 0 9)) (ν 15 0 9) := by unfold stS; rw [if_neg h66, if_pos hc]
            have hBe := iv_be hI hk16 h5
            have hkd : 0 ≤ beS ν (ν 15 0 9) 11 0 (ν 15 0 9) ∧ beS ν (ν 15 0 9) 11 0 (ν 15 0 9) ≤ 11 := hI.1.2.2.2.2.1.2 _ hk16.1 hk16.2
            obtain ⟨τ', hf, hro⟩ := x_M_perform (l := zl z) (E := E) (k := ν 15 0 9) (rr_be (k := ν 15 0 9) hRR) (show τ 18 0 18 = 0 by rw [e18]; exact h51) (show 0 ≤ ν 15 0 8 from h80) hk16 rfl hBe.1 (by have := hBe.2.1; omega) (cb_pf hc)
            refine v_M_180 X hz (hf) rfl rfl rfl (Nat.le_of_ble_eq_true rfl) ⟨Nat.le_refl _, Nat.le_refl _⟩ d_M_start_109 ?_
            rw [← e1, ← e2] at hro
            refine j_aload_n X rfl d_M_start_112 ?_
            refine g_M_120 X d_M_start_113 ?_
            refine j_topi (congrArg iI hro.2.1) ?_
            refine j_istore_n X (zlt hn rfl) d_M_start_116 ?_
            refine j_goto X d_M_start_117 (tgt := 39) rfl ?_
            exact nxt τ' _ _ hro.1 hro.2.2.1 hro.2.2.2.2.1 (fun _ => ⟨rfl, by rw [e2, pf_15 hkd (by decide) (by decide) (by decide) (by decide)]; show ν 15 0 5 + 1 + m = 401; omega⟩) (by rw [e2]; exact rb_of (rb_be hk16) (fun j => pf_k hkd (by decide) (by decide) (by decide) (by decide) (by decide) (by decide) (by decide) (by decide) 0 j) (pf_15 hkd (by decide) (by decide) (by decide) (by decide))) hro.2.2.2.2.2 (kc_t hK (kc_t (kc_t (kc_18 _ _ _) (kc_18 _ _ _)) hro.2.2.2.1)) k9
          · rw [b2i_f hc]
            refine j_if_ne X (by omega) d_M_start_84 (tgt := 95) rfl (fun h => absurd h (by omega)) (fun _ => ?_)
            refine j_aload_n X rfl d_M_start_87 ?_
            refine j_iconst X d_M_start_88 ?_
            refine p_M_91 X d_M_start_89 ?_
            refine j_goto X d_M_start_92 (tgt := 39) rfl ?_
            have e1 : stV ν = 2 := by unfold stV; rw [if_neg h66, if_neg hc]
            have e2 : stS ν = ν := by unfold stS; rw [if_neg h66, if_neg hc]
            exact nxt _ _ last (by rw [e2]; exact hRR) e1.symm rfl (fun e => absurd e (by rw [e1]; decide)) (by rw [e2]; exact hB) (by rw [e2]; exact h80) (kc_t hK (kc_t (kc_18 _ _ _) (kc_18 _ _ _))) hk
        · skip
          refine j_aload_n X rfl d_M_start_69 ?_
          refine j_bipush X rfl d_M_start_70 ?_
          refine p_M_91 X d_M_start_72 ?_
          refine j_goto X d_M_start_75 (tgt := 39) rfl ?_
          have e1 : stV ν = 6 := by unfold stV; rw [if_pos h66]
          have e2 : stS ν = ν := by unfold stS; rw [if_pos h66]
          exact nxt _ _ last (by rw [e2]; exact hRR) e1.symm rfl (fun e => absurd e (by rw [e1]; decide)) (by rw [e2]; exact hB) (by rw [e2]; exact h80) (kc_t hK (kc_t (kc_18 _ _ _) (kc_18 _ _ _))) hk
  exact kyl (401, prS μ, (up (up (up (up (up (up (up σ 18 0 0 0) 18 0 18 0) 18 0 11 0) 18 0 13 0) 18 0 14 0) 18 0 15 0) 18 0 16 0), 0, -1, 0, 0) ⟨hr, hR0, rfl, fun _ => ⟨rfl, rfl⟩, fun q => absurd rfl q, Or.inl ⟨rfl, rfl⟩, show 0 ≤ μ 14 0 1 / 600 by have := h.1.2.2.2.1.2.1; omega, iv_le hP (by dsimp only; omega) (by dsimp only; omega), Nat.le_refl _, ⟨Int.le_refl 0, show (0 : Int) ≤ 400 by decide⟩, ⟨Int.le_refl 0, show (0 : Int) ≤ 6 by decide⟩, ⟨Int.le_refl 0, show (0 : Int) ≤ 17 by decide⟩, kc_t (kc_18 _ _ _) (kc_t (kc_18 _ _ _) (kc_t (kc_18 _ _ _) (kc_t (kc_18 _ _ _) (kc_t (kc_18 _ _ _) (kc_t (kc_18 _ _ _) (kc_18 _ _ _))))))⟩
