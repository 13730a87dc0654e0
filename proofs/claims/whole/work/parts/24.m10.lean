/-! a command is done; a program is run -/
def pfP (σ : St) (k : Int) : Prop := (σ 11 0 k = 0 → 0 ≤ σ 12 0 k ∧ σ 12 0 k ≤ 31) ∧ (σ 11 0 k = 2 ∨ σ 11 0 k = 3 → (0 ≤ σ 13 0 k ∧ σ 13 0 k ≤ 8) ∧ inM (σ 12 0 k) (σ 13 0 k)) ∧ (σ 11 0 k = 4 → 0 ≤ σ 12 0 k ∧ σ 12 0 k ≤ k) ∧ (σ 11 0 k = 5 → inM (σ 12 0 k) 4) ∧ (σ 11 0 k = 6 ∨ σ 11 0 k = 7 ∨ σ 11 0 k = 8 → (0 ≤ σ 13 0 k ∧ σ 13 0 k ≤ 60) ∧ inM (σ 12 0 k) (σ 13 0 k)) ∧ (σ 11 0 k = 9 → riM σ (σ 12 0 k)) ∧ (σ 11 0 k = 11 → 0 ≤ σ 13 0 k ∧ σ 13 0 k ≤ 600)
noncomputable def pfS (σ : St) (k : Int) : St := if σ 11 0 k = 0 then skS σ (σ 12 0 k) else if σ 11 0 k = 1 then snS σ (σ 12 0 k) else if σ 11 0 k = 2 then kyS σ (σ 12 0 k) (σ 13 0 k) false else if σ 11 0 k = 3 then kyS σ (σ 12 0 k) (σ 13 0 k) true else if σ 11 0 k = 4 then up σ 15 0 9 (σ 12 0 k) else if σ 11 0 k = 5 then rcS σ (σ 12 0 k) else if σ 11 0 k = 6 then rpS σ 2 (σ 12 0 k) (σ 13 0 k) else if σ 11 0 k = 7 then rpS σ 3 (σ 12 0 k) (σ 13 0 k) else if σ 11 0 k = 8 then wdS σ (σ 12 0 k) (σ 13 0 k) else if σ 11 0 k = 9 then weS σ (σ 12 0 k) else if σ 11 0 k = 10 then erS σ else spS σ (σ 13 0 k)
noncomputable def pfV (σ : St) (k : Int) : Int := if σ 11 0 k = 0 then 0 else if σ 11 0 k = 1 then snV σ else if σ 11 0 k = 2 then kyV σ else if σ 11 0 k = 3 then kyV σ else if σ 11 0 k = 4 then 0 else if σ 11 0 k = 5 then rcV σ else if σ 11 0 k = 6 then rpV σ 2 (σ 13 0 k) else if σ 11 0 k = 7 then rpV σ 3 (σ 13 0 k) else if σ 11 0 k = 8 then wdV σ (σ 13 0 k) else if σ 11 0 k = 9 then weV σ (σ 12 0 k) else if σ 11 0 k = 10 then 0 else 0
theorem cb_pf {σ : St} {k : Int} (h : cbP σ k) : pfP (beS σ k) k := by
  refine ⟨fun q => ?_, fun q => ?_, fun q => ?_, fun q => ?_, fun q => ?_, fun q => ?_, fun q => ?_⟩
  · exact (cb0 (σ := σ) q).mp h
  · exact (cb2 (σ := σ) q).mp h
  · exact ((cb4 (σ := σ) q).mp h).2
  · exact (cb5 (σ := σ) q).mp h
  · exact (cb6 (σ := σ) q).mp h
  · exact (cb9 (σ := σ) q).mp h
  · exact (cb11 (σ := σ) q).mp h

set_option maxRecDepth 100000 in
set_option maxHeartbeats 4000000 in
theorem c_C_perform (l : Launch) (E : eT) (σ : St) (k : Int) (h : clW σ) (hT : σ 14 0 1 + 3000 ≤ 1000000000) (hk : 0 ≤ k ∧ k < 16) (hp : pfP σ k) : FCon l E y_C_perform ws_C_perform 5 [.ref (E.2.2.2 15 0), .int (iI k)] σ (some (.int (iI (pfV σ k)))) (pfS σ k) := by
  refine con_of (cc := b_C_perform) (nL := 4) (ret := (some .int)) (by decide) (Nat.le_of_ble_eq_true rfl) (fun z X Y hn => ?_)
  have X : Cx E z b_C_perform R_C := X
  have hz := Y.2.1
  change J E z 0 0 0 [(0, .ref (E.2.2.2 15 0)), (1, .int (iI k))] [] (cells E σ)
  have hR := cw_rW h hT
  have hkd := h.2.2.2.2.1.2 k hk.1 hk.2
  have ra := h.1 12 0 k
  have rb := h.1 13 0 k
  obtain ⟨p0, p2, p4, p5, p6, p9, p11⟩ := hp
  refine j_aload_n X rfl d_C_perform_0 ?_
  refine g_C_9 X d_C_perform_1 ?_
  refine g_C_86 X d_C_perform_4 ?_
  refine j_iload_n X rfl d_C_perform_7 ?_
  refine j_iald X (by first | exact okC1 rfl | exact (okCT rfl (by omega))) (fun _ => rfl) rfl (by omega) d_C_perform_8 ?_
  refine j_istore_n X (zlt hn rfl) d_C_perform_9 ?_
  refine j_aload_n X rfl d_C_perform_10 ?_
  refine g_C_9 X d_C_perform_11 ?_
  refine g_C_89 X d_C_perform_14 ?_
  refine j_iload_n X rfl d_C_perform_17 ?_
  refine j_iald X (by first | exact okC1 rfl | exact (okCT rfl (by omega))) (fun _ => rfl) rfl (by omega) d_C_perform_18 ?_
  refine j_istore_n X (zlt hn rfl) d_C_perform_19 ?_
  refine j_aload_n X rfl d_C_perform_20 ?_
  refine g_C_9 X d_C_perform_21 ?_
  refine g_C_78 X d_C_perform_24 ?_
  refine j_iload_n X rfl d_C_perform_27 ?_
  refine j_iald X (by first | exact okC1 rfl | exact (okCT rfl (by omega))) (fun _ => rfl) rfl (by omega) d_C_perform_28 ?_
  rcases (show σ 11 0 k = 0 ∨ σ 11 0 k = 1 ∨ σ 11 0 k = 2 ∨ σ 11 0 k = 3 ∨ σ 11 0 k = 4 ∨ σ 11 0 k = 5 ∨ σ 11 0 k = 6 ∨ σ 11 0 k = 7 ∨ σ 11 0 k = 8 ∨ σ 11 0 k = 9 ∨ σ 11 0 k = 10 ∨ σ 11 0 k = 11 by omega) with hK | hK | hK | hK | hK | hK | hK | hK | hK | hK | hK | hK
  · rw [hK]
    have eS : pfS σ k = skS σ (σ 12 0 k) := by unfold pfS; rw [hK, if_pos rfl]
    have eV : pfV σ k = 0 := by unfold pfV; rw [hK, if_pos rfl]
    refine j_tableIn X (by decide) d_C_perform_29 (by decide) (by decide) rfl (tgt := 88) rfl ?_
    refine j_aload_n X rfl d_C_perform_88 ?_
    refine j_iload_n X rfl d_C_perform_89 ?_
    refine v_C_104 X hz (c_C_seek (zl z) E σ (σ 12 0 k) hR.1 (by have := p0 hK; omega) (by omega)) rfl rfl rfl (Nat.le_of_ble_eq_true rfl) ⟨Nat.le_refl _, Nat.le_refl _⟩ d_C_perform_90 ?_
    exact j_iret X Y (Nat.le_refl _) (Nat.le_refl _) d_C_perform_93 ⟨by rw [eV], by rw [eS]⟩
  · rw [hK]
    have eS : pfS σ k = snS σ (σ 12 0 k) := by unfold pfS; rw [hK, if_neg (show ¬ (1 : Int) = 0 by decide), if_pos rfl]
    have eV : pfV σ k = snV σ := by unfold pfV; rw [hK, if_neg (show ¬ (1 : Int) = 0 by decide), if_pos rfl]
    refine j_tableIn X (by decide) d_C_perform_29 (by decide) (by decide) rfl (tgt := 94) rfl ?_
    refine j_aload_n X rfl d_C_perform_94 ?_
    refine j_iload_n X rfl d_C_perform_95 ?_
    refine v_C_107 X hz (c_C_searchNumber (zl z) E σ (σ 12 0 k) hR ra) rfl rfl rfl (Nat.le_of_ble_eq_true rfl) ⟨Nat.le_refl _, Nat.le_refl _⟩ d_C_perform_96 ?_
    exact j_iret X Y (Nat.le_refl _) (Nat.le_refl _) d_C_perform_99 ⟨by rw [eV], by rw [eS]⟩
  · rw [hK]
    have eS : pfS σ k = kyS σ (σ 12 0 k) (σ 13 0 k) false := by unfold pfS; rw [hK, if_neg (show ¬ (2 : Int) = 0 by decide), if_neg (show ¬ (2 : Int) = 1 by decide), if_pos rfl]
    have eV : pfV σ k = kyV σ := by unfold pfV; rw [hK, if_neg (show ¬ (2 : Int) = 0 by decide), if_neg (show ¬ (2 : Int) = 1 by decide), if_pos rfl]
    have hq := p2 (Or.inl hK)
    have hq2 := hq.2
    unfold inM at hq2
    refine j_tableIn X (by decide) d_C_perform_29 (by decide) (by decide) rfl (tgt := 100) rfl ?_
    refine j_aload_n X rfl d_C_perform_100 ?_
    refine j_iload_n X rfl d_C_perform_101 ?_
    refine j_iload_n X rfl d_C_perform_102 ?_
    refine j_iconst X d_C_perform_103 ?_
    refine v_C_110 X hz (c_C_searchKey (zl z) E σ (σ 12 0 k) (σ 13 0 k) false hR (by omega) hq.1) rfl rfl rfl (Nat.le_of_ble_eq_true rfl) ⟨Nat.le_refl _, Nat.le_refl _⟩ d_C_perform_104 ?_
    exact j_iret X Y (Nat.le_refl _) (Nat.le_refl _) d_C_perform_107 ⟨by rw [eV], by rw [eS]⟩
  · rw [hK]
    have eS : pfS σ k = kyS σ (σ 12 0 k) (σ 13 0 k) true := by unfold pfS; rw [hK, if_neg (show ¬ (3 : Int) = 0 by decide), if_neg (show ¬ (3 : Int) = 1 by decide), if_neg (show ¬ (3 : Int) = 2 by decide), if_pos rfl]
    have eV : pfV σ k = kyV σ := by unfold pfV; rw [hK, if_neg (show ¬ (3 : Int) = 0 by decide), if_neg (show ¬ (3 : Int) = 1 by decide), if_neg (show ¬ (3 : Int) = 2 by decide), if_pos rfl]
    have hq := p2 (Or.inr hK)
    have hq2 := hq.2
    unfold inM at hq2
    refine j_tableIn X (by decide) d_C_perform_29 (by decide) (by decide) rfl (tgt := 108) rfl ?_
    refine j_aload_n X rfl d_C_perform_108 ?_
    refine j_iload_n X rfl d_C_perform_109 ?_
    refine j_iload_n X rfl d_C_perform_110 ?_
    refine j_iconst X d_C_perform_111 ?_
    refine v_C_110 X hz (c_C_searchKey (zl z) E σ (σ 12 0 k) (σ 13 0 k) true hR (by omega) hq.1) rfl rfl rfl (Nat.le_of_ble_eq_true rfl) ⟨Nat.le_refl _, Nat.le_refl _⟩ d_C_perform_112 ?_
    exact j_iret X Y (Nat.le_refl _) (Nat.le_refl _) d_C_perform_115 ⟨by rw [eV], by rw [eS]⟩
  · rw [hK]
    have eS : pfS σ k = up σ 15 0 9 (σ 12 0 k) := by unfold pfS; rw [hK, if_neg (show ¬ (4 : Int) = 0 by decide), if_neg (show ¬ (4 : Int) = 1 by decide), if_neg (show ¬ (4 : Int) = 2 by decide), if_neg (show ¬ (4 : Int) = 3 by decide), if_pos rfl]
    have eV : pfV σ k = 0 := by unfold pfV; rw [hK, if_neg (show ¬ (4 : Int) = 0 by decide), if_neg (show ¬ (4 : Int) = 1 by decide), if_neg (show ¬ (4 : Int) = 2 by decide), if_neg (show ¬ (4 : Int) = 3 by decide), if_pos rfl]
    refine j_tableIn X (by decide) d_C_perform_29 (by decide) (by decide) rfl (tgt := 116) rfl ?_
    refine j_aload_n X rfl d_C_perform_116 ?_
    refine j_iload_n X rfl d_C_perform_117 ?_
    refine p_C_36 X d_C_perform_118 ?_
    refine j_iconst X d_C_perform_121 ?_
    exact j_iret X Y (Nat.le_refl _) (Nat.le_refl _) d_C_perform_122 ⟨by rw [eV], by rw [eS]⟩
  · rw [hK]
    have eS : pfS σ k = rcS σ (σ 12 0 k) := by unfold pfS; rw [hK, if_neg (show ¬ (5 : Int) = 0 by decide), if_neg (show ¬ (5 : Int) = 1 by decide), if_neg (show ¬ (5 : Int) = 2 by decide), if_neg (show ¬ (5 : Int) = 3 by decide), if_neg (show ¬ (5 : Int) = 4 by decide), if_pos rfl]
    have eV : pfV σ k = rcV σ := by unfold pfV; rw [hK, if_neg (show ¬ (5 : Int) = 0 by decide), if_neg (show ¬ (5 : Int) = 1 by decide), if_neg (show ¬ (5 : Int) = 2 by decide), if_neg (show ¬ (5 : Int) = 3 by decide), if_neg (show ¬ (5 : Int) = 4 by decide), if_pos rfl]
    have hq2 := p5 hK
    unfold inM at hq2
    refine j_tableIn X (by decide) d_C_perform_29 (by decide) (by decide) rfl (tgt := 123) rfl ?_
    refine j_aload_n X rfl d_C_perform_123 ?_
    refine j_iload_n X rfl d_C_perform_124 ?_
    refine v_C_114 X hz (c_C_readCount (zl z) E σ (σ 12 0 k) hR (by omega)) rfl rfl rfl (Nat.le_of_ble_eq_true rfl) ⟨Nat.le_refl _, Nat.le_refl _⟩ d_C_perform_125 ?_
    exact j_iret X Y (Nat.le_refl _) (Nat.le_refl _) d_C_perform_128 ⟨by rw [eV], by rw [eS]⟩
  · rw [hK]
    have eS : pfS σ k = rpS σ 2 (σ 12 0 k) (σ 13 0 k) := by unfold pfS; rw [hK, if_neg (show ¬ (6 : Int) = 0 by decide), if_neg (show ¬ (6 : Int) = 1 by decide), if_neg (show ¬ (6 : Int) = 2 by decide), if_neg (show ¬ (6 : Int) = 3 by decide), if_neg (show ¬ (6 : Int) = 4 by decide), if_neg (show ¬ (6 : Int) = 5 by decide), if_pos rfl]
    have eV : pfV σ k = rpV σ 2 (σ 13 0 k) := by unfold pfV; rw [hK, if_neg (show ¬ (6 : Int) = 0 by decide), if_neg (show ¬ (6 : Int) = 1 by decide), if_neg (show ¬ (6 : Int) = 2 by decide), if_neg (show ¬ (6 : Int) = 3 by decide), if_neg (show ¬ (6 : Int) = 4 by decide), if_neg (show ¬ (6 : Int) = 5 by decide), if_pos rfl]
    have hq := p6 (Or.inl hK)
    have hq2 := hq.2
    unfold inM at hq2
    refine j_tableIn X (by decide) d_C_perform_29 (by decide) (by decide) rfl (tgt := 129) rfl ?_
    refine j_aload_n X rfl d_C_perform_129 ?_
    refine j_iconst X d_C_perform_130 ?_
    refine j_iload_n X rfl d_C_perform_131 ?_
    refine j_iload_n X rfl d_C_perform_132 ?_
    refine v_C_117 X hz (c_C_readPart (zl z) E σ 2 (σ 12 0 k) (σ 13 0 k) hR (Or.inl rfl) (by omega) hq.1) rfl rfl rfl (Nat.le_of_ble_eq_true rfl) ⟨Nat.le_refl _, Nat.le_refl _⟩ d_C_perform_133 ?_
    exact j_iret X Y (Nat.le_refl _) (Nat.le_refl _) d_C_perform_136 ⟨by rw [eV], by rw [eS]⟩
  · rw [hK]
    have eS : pfS σ k = rpS σ 3 (σ 12 0 k) (σ 13 0 k) := by unfold pfS; rw [hK, if_neg (show ¬ (7 : Int) = 0 by decide), if_neg (show ¬ (7 : Int) = 1 by decide), if_neg (show ¬ (7 : Int) = 2 by decide), if_neg (show ¬ (7 : Int) = 3 by decide), if_neg (show ¬ (7 : Int) = 4 by decide), if_neg (show ¬ (7 : Int) = 5 by decide), if_neg (show ¬ (7 : Int) = 6 by decide), if_pos rfl]
    have eV : pfV σ k = rpV σ 3 (σ 13 0 k) := by unfold pfV; rw [hK, if_neg (show ¬ (7 : Int) = 0 by decide), if_neg (show ¬ (7 : Int) = 1 by decide), if_neg (show ¬ (7 : Int) = 2 by decide), if_neg (show ¬ (7 : Int) = 3 by decide), if_neg (show ¬ (7 : Int) = 4 by decide), if_neg (show ¬ (7 : Int) = 5 by decide), if_neg (show ¬ (7 : Int) = 6 by decide), if_pos rfl]
    have hq := p6 (Or.inr (Or.inl hK))
    have hq2 := hq.2
    unfold inM at hq2
    refine j_tableIn X (by decide) d_C_perform_29 (by decide) (by decide) rfl (tgt := 137) rfl ?_
    refine j_aload_n X rfl d_C_perform_137 ?_
    refine j_iconst X d_C_perform_138 ?_
    refine j_iload_n X rfl d_C_perform_139 ?_
    refine j_iload_n X rfl d_C_perform_140 ?_
    refine v_C_117 X hz (c_C_readPart (zl z) E σ 3 (σ 12 0 k) (σ 13 0 k) hR (Or.inr rfl) (by omega) hq.1) rfl rfl rfl (Nat.le_of_ble_eq_true rfl) ⟨Nat.le_refl _, Nat.le_refl _⟩ d_C_perform_141 ?_
    exact j_iret X Y (Nat.le_refl _) (Nat.le_refl _) d_C_perform_144 ⟨by rw [eV], by rw [eS]⟩
  · rw [hK]
    have eS : pfS σ k = wdS σ (σ 12 0 k) (σ 13 0 k) := by unfold pfS; rw [hK, if_neg (show ¬ (8 : Int) = 0 by decide), if_neg (show ¬ (8 : Int) = 1 by decide), if_neg (show ¬ (8 : Int) = 2 by decide), if_neg (show ¬ (8 : Int) = 3 by decide), if_neg (show ¬ (8 : Int) = 4 by decide), if_neg (show ¬ (8 : Int) = 5 by decide), if_neg (show ¬ (8 : Int) = 6 by decide), if_neg (show ¬ (8 : Int) = 7 by decide), if_pos rfl]
    have eV : pfV σ k = wdV σ (σ 13 0 k) := by unfold pfV; rw [hK, if_neg (show ¬ (8 : Int) = 0 by decide), if_neg (show ¬ (8 : Int) = 1 by decide), if_neg (show ¬ (8 : Int) = 2 by decide), if_neg (show ¬ (8 : Int) = 3 by decide), if_neg (show ¬ (8 : Int) = 4 by decide), if_neg (show ¬ (8 : Int) = 5 by decide), if_neg (show ¬ (8 : Int) = 6 by decide), if_neg (show ¬ (8 : Int) = 7 by decide), if_pos rfl]
    have hq := p6 (Or.inr (Or.inr hK))
    have hq2 := hq.2
    unfold inM at hq2
    refine j_tableIn X (by decide) d_C_perform_29 (by decide) (by decide) rfl (tgt := 145) rfl ?_
    refine j_aload_n X rfl d_C_perform_145 ?_
    refine j_iload_n X rfl d_C_perform_146 ?_
    refine j_iload_n X rfl d_C_perform_147 ?_
    refine v_C_121 X hz (c_C_writeData (zl z) E σ (σ 12 0 k) (σ 13 0 k) hR (by omega) hq.1) rfl rfl rfl (Nat.le_of_ble_eq_true rfl) ⟨Nat.le_refl _, Nat.le_refl _⟩ d_C_perform_148 ?_
    exact j_iret X Y (Nat.le_refl _) (Nat.le_refl _) d_C_perform_151 ⟨by rw [eV], by rw [eS]⟩
  · rw [hK]
    have eS : pfS σ k = weS σ (σ 12 0 k) := by unfold pfS; rw [hK, if_neg (show ¬ (9 : Int) = 0 by decide), if_neg (show ¬ (9 : Int) = 1 by decide), if_neg (show ¬ (9 : Int) = 2 by decide), if_neg (show ¬ (9 : Int) = 3 by decide), if_neg (show ¬ (9 : Int) = 4 by decide), if_neg (show ¬ (9 : Int) = 5 by decide), if_neg (show ¬ (9 : Int) = 6 by decide), if_neg (show ¬ (9 : Int) = 7 by decide), if_neg (show ¬ (9 : Int) = 8 by decide), if_pos rfl]
    have eV : pfV σ k = weV σ (σ 12 0 k) := by unfold pfV; rw [hK, if_neg (show ¬ (9 : Int) = 0 by decide), if_neg (show ¬ (9 : Int) = 1 by decide), if_neg (show ¬ (9 : Int) = 2 by decide), if_neg (show ¬ (9 : Int) = 3 by decide), if_neg (show ¬ (9 : Int) = 4 by decide), if_neg (show ¬ (9 : Int) = 5 by decide), if_neg (show ¬ (9 : Int) = 6 by decide), if_neg (show ¬ (9 : Int) = 7 by decide), if_neg (show ¬ (9 : Int) = 8 by decide), if_pos rfl]
    refine j_tableIn X (by decide) d_C_perform_29 (by decide) (by decide) rfl (tgt := 152) rfl ?_
    refine j_aload_n X rfl d_C_perform_152 ?_
    refine j_iload_n X rfl d_C_perform_153 ?_
    refine v_C_125 X hz (c_C_writeRecord (zl z) E σ (σ 12 0 k) hR (p9 hK)) rfl rfl rfl (Nat.le_of_ble_eq_true rfl) ⟨Nat.le_refl _, Nat.le_refl _⟩ d_C_perform_154 ?_
    exact j_iret X Y (Nat.le_refl _) (Nat.le_refl _) d_C_perform_157 ⟨by rw [eV], by rw [eS]⟩
  · rw [hK]
    have eS : pfS σ k = erS σ := by unfold pfS; rw [hK, if_neg (show ¬ (10 : Int) = 0 by decide), if_neg (show ¬ (10 : Int) = 1 by decide), if_neg (show ¬ (10 : Int) = 2 by decide), if_neg (show ¬ (10 : Int) = 3 by decide), if_neg (show ¬ (10 : Int) = 4 by decide), if_neg (show ¬ (10 : Int) = 5 by decide), if_neg (show ¬ (10 : Int) = 6 by decide), if_neg (show ¬ (10 : Int) = 7 by decide), if_neg (show ¬ (10 : Int) = 8 by decide), if_neg (show ¬ (10 : Int) = 9 by decide), if_pos rfl]
    have eV : pfV σ k = 0 := by unfold pfV; rw [hK, if_neg (show ¬ (10 : Int) = 0 by decide), if_neg (show ¬ (10 : Int) = 1 by decide), if_neg (show ¬ (10 : Int) = 2 by decide), if_neg (show ¬ (10 : Int) = 3 by decide), if_neg (show ¬ (10 : Int) = 4 by decide), if_neg (show ¬ (10 : Int) = 5 by decide), if_neg (show ¬ (10 : Int) = 6 by decide), if_neg (show ¬ (10 : Int) = 7 by decide), if_neg (show ¬ (10 : Int) = 8 by decide), if_neg (show ¬ (10 : Int) = 9 by decide), if_pos rfl]
    refine j_tableIn X (by decide) d_C_perform_29 (by decide) (by decide) rfl (tgt := 158) rfl ?_
    refine j_aload_n X rfl d_C_perform_158 ?_
    have hn4 := hR.2.2.2.1.1
    have he := tk_end hR.2.2.2.1 hR.2.2.2.2.1
    have hk3 := hR.2.2.2.2.1
    refine v_C_128 X hz (c_C_erase (zl z) E σ hR.1 (by omega) (by unfold pbS; rw [if_pos rfl]; omega) (by omega)) rfl rfl rfl (Nat.le_of_ble_eq_true rfl) ⟨Nat.le_refl _, Nat.le_refl _⟩ d_C_perform_159 ?_
    exact j_iret X Y (Nat.le_refl _) (Nat.le_refl _) d_C_perform_162 ⟨by rw [eV], by rw [eS]⟩
  · rw [hK]
    have eS : pfS σ k = spS σ (σ 13 0 k) := by unfold pfS; rw [hK, if_neg (show ¬ (11 : Int) = 0 by decide), if_neg (show ¬ (11 : Int) = 1 by decide), if_neg (show ¬ (11 : Int) = 2 by decide), if_neg (show ¬ (11 : Int) = 3 by decide), if_neg (show ¬ (11 : Int) = 4 by decide), if_neg (show ¬ (11 : Int) = 5 by decide), if_neg (show ¬ (11 : Int) = 6 by decide), if_neg (show ¬ (11 : Int) = 7 by decide), if_neg (show ¬ (11 : Int) = 8 by decide), if_neg (show ¬ (11 : Int) = 9 by decide), if_neg (show ¬ (11 : Int) = 10 by decide)]
    have eV : pfV σ k = 0 := by unfold pfV; rw [hK, if_neg (show ¬ (11 : Int) = 0 by decide), if_neg (show ¬ (11 : Int) = 1 by decide), if_neg (show ¬ (11 : Int) = 2 by decide), if_neg (show ¬ (11 : Int) = 3 by decide), if_neg (show ¬ (11 : Int) = 4 by decide), if_neg (show ¬ (11 : Int) = 5 by decide), if_neg (show ¬ (11 : Int) = 6 by decide), if_neg (show ¬ (11 : Int) = 7 by decide), if_neg (show ¬ (11 : Int) = 8 by decide), if_neg (show ¬ (11 : Int) = 9 by decide), if_neg (show ¬ (11 : Int) = 10 by decide)]
    refine j_tableOut X (by decide) d_C_perform_29 (by decide) (tgt := 163) rfl ?_
    refine j_aload_n X rfl d_C_perform_163 ?_
    refine j_iload_n X rfl d_C_perform_164 ?_
    refine v_C_132 X hz (c_C_skip (zl z) E σ (σ 13 0 k) rb) rfl rfl rfl (Nat.le_of_ble_eq_true rfl) ⟨Nat.le_refl _, Nat.le_refl _⟩ d_C_perform_165 ?_
    exact j_iret X Y (Nat.le_refl _) (Nat.le_refl _) d_C_perform_168 ⟨by rw [eV], by rw [eS]⟩


def nxW (σ : St) : Prop := σ 15 0 9 ≤ 17
def IV (σ : St) (T Q : Int) : Prop := clW σ ∧ σ 14 0 1 ≤ T ∧ (0 ≤ σ 15 0 6 ∧ σ 15 0 6 ≤ Q) ∧ σ 15 0 9 ≤ 17
theorem iv_m0 {σ : St} {T Q : Int} (h : IV σ T Q) (hT : T + 3000 ≤ 1000000000) (hQ : 0 ≤ Q) : IV (mv0 σ) (T + 1800) (Q + 1) := by
  obtain ⟨h1, h2, h3, h4⟩ := h
  have h0 := h1.2.2.2.1.2.1
  refine ⟨cw_m0 h1 (by omega), by rw [m0_1]; omega, ?_, h4⟩
  show 0 ≤ σ 15 0 6 ∧ σ 15 0 6 ≤ Q + 1
  omega
theorem iv_mb {σ : St} {T Q : Int} (h : IV σ T Q) (hT : T + 3000 ≤ 1000000000) (hn : ¬ σ 4 (σ 14 0 2) 4 = 0) {p : Int} (hp : inR p) : IV (gbS (mvS σ) p) (T + 1200) Q := by
  obtain ⟨h1, h2, h3, h4⟩ := h
  have h0 := h1.2.2.2.1.2.1
  refine ⟨cw_gb (cw_mv h1 (by omega) hn) (by rw [mv_1]; omega) hp, by rw [gb_1, mv_1]; omega, ?_, ?_⟩
  · rw [gb_k _ _ (by decide), mv_k _ (by decide)]; exact h3
  · rw [gb_k _ _ (by decide), mv_k _ (by decide)]; exact h4
theorem iv_pn {σ : St} {T Q : Int} (h : IV σ T Q) (h9 : σ 15 0 9 ≤ 16) (b : Bool) : IV (pnS σ b) T Q := by
  obtain ⟨h1, h2, h3, h4⟩ := h
  refine ⟨cw_pn h1 (by omega) b, by rw [pn_o _ _ (Or.inl (by decide))]; exact h2, by rw [pn_o _ _ (Or.inr (by decide))]; exact h3, ?_⟩
  unfold pnS
  split
  · rw [up_s]; omega
  · exact h4
theorem iv_le {σ : St} {T T' Q Q' : Int} (h : IV σ T Q) (hT : T ≤ T') (hQ : Q ≤ Q') : IV σ T' Q' := ⟨h.1, by have := h.2.1; omega, by have := h.2.2.1; omega, h.2.2.2⟩
theorem iv_ta {σ : St} {T Q : Int} (h : IV σ T Q) (hT : T + 3000 ≤ 1000000000) (hQ : Q + 1 ≤ 1000000000) {p : Int} (hp : inR p) : IV (taS σ p) (T + 1800) (Q + 1) := by
  obtain ⟨h1, h2, h3, h4⟩ := h
  have h6 : cbS σ p 15 0 6 = σ 15 0 6 := cb_k _ _ (by decide) _ _
  refine ⟨cw_c (cw_cb h1 (by omega) hp) (by decide) (by rw [h6]; omega), ?_, ?_, ?_⟩
  · show cbS σ p 14 0 1 ≤ T + 1800
    have := cb_1 (cw_rW h1 (by omega)) p
    omega
  · show 0 ≤ up (cbS σ p) 15 0 6 (cbS σ p 15 0 6 + 1) 15 0 6 ∧ up (cbS σ p) 15 0 6 (cbS σ p 15 0 6 + 1) 15 0 6 ≤ Q + 1
    rw [up_s, h6]; omega
  · show cbS σ p 15 0 9 ≤ 17
    rw [cb_k _ _ (by decide)]; exact h4
theorem iv_c {σ : St} {T Q j v : Int} (h : IV σ T Q) (hj : j ≠ 6) (hj' : j ≠ 9) (hv : inR v) : IV (up σ 15 0 j v) T Q := ⟨cw_c h.1 hj' hv, h.2.1, by rw [up_j _ _ _ _ _ _ _ (Ne.symm hj)]; exact h.2.2.1, by rw [up_j _ _ _ _ _ _ _ (Ne.symm hj')]; exact h.2.2.2⟩
theorem iv_rd {σ : St} {T Q t f a n : Int} (h : IV σ T Q) (ht : 0 ≤ t ∧ t < 32) : IV (rdS σ t f a n) T Q := ⟨cw_rd h.1 ht, by rw [rd_k _ _ _ _ _ (by decide)]; exact h.2.1, by rw [rd_k _ _ _ _ _ (by decide)]; exact h.2.2.1, by rw [rd_k _ _ _ _ _ (by decide)]; exact h.2.2.2⟩
theorem iv_wr {σ : St} {T Q t f a n : Int} (h : IV σ T Q) (ht : 0 ≤ t ∧ t < 32) : IV (wrS σ t f a n) T Q := ⟨cw_wr h.1 ht, by rw [wr_k _ _ _ _ _ (by decide)]; exact h.2.1, by rw [wr_k _ _ _ _ _ (by decide)]; exact h.2.2.1, by rw [wr_k _ _ _ _ _ (by decide)]; exact h.2.2.2⟩
theorem iv_m1 {σ : St} {T Q a v : Int} (h : IV σ T Q) : IV (up σ 2 0 a (v % 256)) T Q := ⟨cw_m1 h.1, h.2.1, h.2.2.1, h.2.2.2⟩
theorem iv_s {σ : St} {T Q t k v : Int} (h : IV σ T Q) (hv : v = 0 ∨ v = 1) : IV (up σ 7 t k v) T Q := ⟨cw_s h.1 hv, h.2.1, h.2.2.1, h.2.2.2⟩
theorem iv_ge {σ : St} {T Q : Int} (h : IV σ T Q) (hT : T + 3000 ≤ 1000000000) : IV (geS σ) (T + 600) Q := by
  have h0 := h.1.2.2.2.1.2.1
  have h2 := h.2.1
  exact ⟨cw_gt h.1 (by omega) _, by rw [ge_1]; omega, by rw [ge_k _ (by decide)]; exact h.2.2.1, by rw [ge_k _ (by decide)]; exact h.2.2.2⟩
theorem iv_we {σ : St} {T Q a : Int} (h : IV σ T Q) (hT : T + 3000 ≤ 1000000000) (hQ : Q + 1 ≤ 1000000000) (hQ0 : 0 ≤ Q) (ha : riM σ a) : IV (weS σ a) (T + 1800) (Q + 1) := by
  unfold weS
  split
  · next hc =>
    obtain ⟨ha1, ha2, ha3, ha4⟩ := ha
    have b0 := h.1.2.2.1 a
    have b1 := h.1.2.2.1 (a + 1)
    have hw := h.1.2.2.2.1
    have hw3 := hw.2.2
    have hn4 := cw_n4 h.1 hw.1
    have hG := iv_ge h hT
    have hC : IV (up (geS σ) 4 (σ 14 0 2) 4 (σ 14 0 3)) (T + 600) Q := ⟨cw_cut hG.1 (by rw [ge_k _ (by decide)]; omega) hw.1 (fun _ => by rw [ge_j _ (by decide)]; omega), hG.2.1, hG.2.2.1, hG.2.2.2⟩
    have hA : IV (wcS σ (σ 2 0 a) (σ 2 0 (a + 1))) (T + 600) Q := by
      refine ⟨cw_ap hC.1 hw.1 ⟨b0.1, ha2⟩ ⟨b1.1, ha3⟩ ?_, hC.2.1, hC.2.2.1, hC.2.2.2⟩
      rw [up_s, up_k _ _ _ _ _ _ (by decide), ge_k _ (by decide)]
      omega
    have h1 : IV (wc1 σ a (σ 2 0 a) (σ 2 0 (a + 1))) (T + 600) Q := iv_wr hA hw.1
    have h2 : IV (wc2 σ a (σ 2 0 a) (σ 2 0 (a + 1))) (T + 600) Q := iv_s (iv_wr h1 hw.1) (Or.inl rfl)
    have h3 : IV (wc3 σ a (σ 2 0 a) (σ 2 0 (a + 1))) (T + 600) (Q + 1) := by
      have q := h2.2.2.1
      refine ⟨cw_c h2.1 (by decide) (by omega), h2.2.1, ?_, h2.2.2.2⟩
      unfold wc3
      rw [up_s]
      omega
    have e2 : wc3 σ a (σ 2 0 a) (σ 2 0 (a + 1)) 14 0 2 = σ 14 0 2 := by
      show wc1 σ a (σ 2 0 a) (σ 2 0 (a + 1)) 14 0 2 = _
      exact ge_j σ (j := 2) (by decide)
    have e4 : wc3 σ a (σ 2 0 a) (σ 2 0 (a + 1)) 4 (σ 14 0 2) 4 = σ 14 0 3 + 1 := by
      show wcS σ (σ 2 0 a) (σ 2 0 (a + 1)) 4 (σ 14 0 2) 4 = _
      unfold wcS
      rw [ap_4, if_pos rfl, up_s]
    have hR : clW (up (wc3 σ a (σ 2 0 a) (σ 2 0 (a + 1))) 14 0 3 (σ 14 0 3 + 1)) := cw_r h3.1 (by rw [e2, e4]; omega) (by omega)
    have t3 := h3.2.1
    have t0 := h3.1.2.2.2.1.2.1
    refine ⟨cw_gb hR (by show wc3 σ a (σ 2 0 a) (σ 2 0 (a + 1)) 14 0 1 + 600 ≤ _; omega) (by decide), ?_, ?_, ?_⟩
    · unfold wcD
      rw [gb_1, up_j _ _ _ _ _ _ _ (by decide)]
      omega
    · unfold wcD
      rw [gb_k _ _ (by decide), up_k _ _ _ _ _ _ (by decide)]
      exact h3.2.2.1
    · unfold wcD
      rw [gb_k _ _ (by decide), up_k _ _ _ _ _ _ (by decide)]
      exact h3.2.2.2
  · exact iv_le (iv_ge h hT) (by omega) (by omega)
theorem iv_pf {σ : St} {T Q k : Int} (h : IV σ T Q) (hT : T + 3000 ≤ 1000000000) (hQ : Q + 1 ≤ 1000000000) (hQ0 : 0 ≤ Q) (hk : 0 ≤ k ∧ k < 16) (hp : pfP σ k) (h9 : σ 15 0 9 ≤ 16) : IV (pfS σ k) (T + 1800) (Q + 1) := by
  have hkd := h.1.2.2.2.2.1.2 k hk.1 hk.2
  have ho := h.1.2.2.2.1.1
  have ht0 := h.1.2.2.2.1.2.1
  have ht := h.2.1
  have h6 := h.2.2.1
  have hn := cw_n4 h.1 ho
  have hR := cw_rW h.1 (by omega)
  obtain ⟨p0, p2, p4, p5, p6, p9, p11⟩ := hp
  rcases (show σ 11 0 k = 0 ∨ σ 11 0 k = 1 ∨ σ 11 0 k = 2 ∨ σ 11 0 k = 3 ∨ σ 11 0 k = 4 ∨ σ 11 0 k = 5 ∨ σ 11 0 k = 6 ∨ σ 11 0 k = 7 ∨ σ 11 0 k = 8 ∨ σ 11 0 k = 9 ∨ σ 11 0 k = 10 ∨ σ 11 0 k = 11 by omega) with hK | hK | hK | hK | hK | hK | hK | hK | hK | hK | hK | hK
  · have eS : pfS σ k = skS σ (σ 12 0 k) := by unfold pfS; rw [hK, if_pos rfl]
    rw [eS]
    have ha := p0 hK
    have hs : clW (seS σ (σ 12 0 k)) := cw_ov (cw_t h.1 (by split <;> omega) (by split <;> omega)) (by omega)
    have e1 : seS σ (σ 12 0 k) 14 0 1 = σ 14 0 1 + (10 + 3 * (if 0 ≤ σ 12 0 k - σ 14 0 2 then σ 12 0 k - σ 14 0 2 else -(σ 12 0 k - σ 14 0 2))) := rfl
    have e2 : σ 14 0 1 ≤ seS σ (σ 12 0 k) 14 0 1 ∧ seS σ (σ 12 0 k) 14 0 1 ≤ σ 14 0 1 + 200 := by rw [e1]; split <;> omega
    exact ⟨cw_c hs (by decide) (by omega), by show seS σ (σ 12 0 k) 14 0 1 ≤ _; omega, by show 0 ≤ σ 15 0 6 ∧ σ 15 0 6 ≤ Q + 1; omega, h.2.2.2⟩
  · have eS : pfS σ k = snS σ (σ 12 0 k) := by unfold pfS; rw [hK, if_neg (show ¬ (1 : Int) = 0 by decide), if_pos rfl]
    rw [eS]
    unfold snS
    split
    · exact iv_m0 h hT hQ0
    · next hne => exact iv_le (iv_pn (iv_mb h hT hne (by decide)) (by rw [gb_k _ _ (by decide), mv_k _ (by decide)]; exact h9) _) (by omega) (by omega)
  · have eS : pfS σ k = kyS σ (σ 12 0 k) (σ 13 0 k) false := by unfold pfS; rw [hK, if_neg (show ¬ (2 : Int) = 0 by decide), if_neg (show ¬ (2 : Int) = 1 by decide), if_pos rfl]
    rw [eS]
    unfold kyS
    split
    · exact iv_m0 h hT hQ0
    · next hne => exact iv_le (iv_pn (iv_mb h hT hne (by decide)) (by rw [gb_k _ _ (by decide), mv_k _ (by decide)]; exact h9) _) (by omega) (by omega)
  · have eS : pfS σ k = kyS σ (σ 12 0 k) (σ 13 0 k) true := by unfold pfS; rw [hK, if_neg (show ¬ (3 : Int) = 0 by decide), if_neg (show ¬ (3 : Int) = 1 by decide), if_neg (show ¬ (3 : Int) = 2 by decide), if_pos rfl]
    rw [eS]
    unfold kyS
    split
    · exact iv_m0 h hT hQ0
    · next hne => exact iv_le (iv_pn (iv_mb h hT hne (by decide)) (by rw [gb_k _ _ (by decide), mv_k _ (by decide)]; exact h9) _) (by omega) (by omega)
  · have eS : pfS σ k = up σ 15 0 9 (σ 12 0 k) := by unfold pfS; rw [hK, if_neg (show ¬ (4 : Int) = 0 by decide), if_neg (show ¬ (4 : Int) = 1 by decide), if_neg (show ¬ (4 : Int) = 2 by decide), if_neg (show ¬ (4 : Int) = 3 by decide), if_pos rfl]
    rw [eS]
    have ha := p4 hK
    exact ⟨cw_c9 h.1 ha.1 (by omega), by show σ 14 0 1 ≤ _; omega, by show 0 ≤ σ 15 0 6 ∧ σ 15 0 6 ≤ Q + 1; omega, by rw [up_s]; omega⟩
  · have eS : pfS σ k = rcS σ (σ 12 0 k) := by unfold pfS; rw [hK, if_neg (show ¬ (5 : Int) = 0 by decide), if_neg (show ¬ (5 : Int) = 1 by decide), if_neg (show ¬ (5 : Int) = 2 by decide), if_neg (show ¬ (5 : Int) = 3 by decide), if_neg (show ¬ (5 : Int) = 4 by decide), if_pos rfl]
    rw [eS]
    unfold rcS
    split
    · exact iv_m0 h hT hQ0
    · next hne => exact iv_le (iv_m1 (iv_m1 (iv_m1 (iv_m1 (iv_mb h hT hne (by decide)))))) (by omega) (by omega)
  · have eS : pfS σ k = rpS σ 2 (σ 12 0 k) (σ 13 0 k) := by unfold pfS; rw [hK, if_neg (show ¬ (6 : Int) = 0 by decide), if_neg (show ¬ (6 : Int) = 1 by decide), if_neg (show ¬ (6 : Int) = 2 by decide), if_neg (show ¬ (6 : Int) = 3 by decide), if_neg (show ¬ (6 : Int) = 4 by decide), if_neg (show ¬ (6 : Int) = 5 by decide), if_pos rfl]
    rw [eS]
    have hq := p6 (Or.inl hK)
    unfold rpS
    split
    · next hco =>
      have hm := cm_in hR hco
      have hmk := hR.2.2.2.1.2.2 _ hm.1 hm.2
      split
      · exact iv_c (iv_ta h hT hQ (by decide)) (by decide) (by decide) (by omega)
      · exact iv_rd (iv_c (iv_ta h hT hQ (by decide)) (by decide) (by decide) (by unfold dlS; split <;> omega)) ho
    · exact iv_m0 h hT hQ0
  · have eS : pfS σ k = rpS σ 3 (σ 12 0 k) (σ 13 0 k) := by unfold pfS; rw [hK, if_neg (show ¬ (7 : Int) = 0 by decide), if_neg (show ¬ (7 : Int) = 1 by decide), if_neg (show ¬ (7 : Int) = 2 by decide), if_neg (show ¬ (7 : Int) = 3 by decide), if_neg (show ¬ (7 : Int) = 4 by decide), if_neg (show ¬ (7 : Int) = 5 by decide), if_neg (show ¬ (7 : Int) = 6 by decide), if_pos rfl]
    rw [eS]
    have hq := p6 (Or.inr (Or.inl hK))
    unfold rpS
    split
    · next hco =>
      have hm := cm_in hR hco
      have hmk := hR.2.2.2.1.2.2 _ hm.1 hm.2
      split
      · exact iv_c (iv_ta h hT hQ (by decide)) (by decide) (by decide) (by omega)
      · exact iv_rd (iv_c (iv_ta h hT hQ (by decide)) (by decide) (by decide) (by unfold dlS; split <;> omega)) ho
    · exact iv_m0 h hT hQ0
  · have eS : pfS σ k = wdS σ (σ 12 0 k) (σ 13 0 k) := by unfold pfS; rw [hK, if_neg (show ¬ (8 : Int) = 0 by decide), if_neg (show ¬ (8 : Int) = 1 by decide), if_neg (show ¬ (8 : Int) = 2 by decide), if_neg (show ¬ (8 : Int) = 3 by decide), if_neg (show ¬ (8 : Int) = 4 by decide), if_neg (show ¬ (8 : Int) = 5 by decide), if_neg (show ¬ (8 : Int) = 6 by decide), if_neg (show ¬ (8 : Int) = 7 by decide), if_pos rfl]
    rw [eS]
    have hq := p6 (Or.inr (Or.inr hK))
    unfold wdS
    split
    · next hco =>
      have hm := cm_in hR hco
      have hmk := hR.2.2.2.1.2.2 _ hm.1 hm.2
      have hd : inR (σ 13 0 k - dlS σ (σ 14 0 2) (cmR σ 3)) := by unfold dlS; omega
      split
      · exact iv_s (iv_wr (iv_c (iv_ta h hT hQ (by decide)) (by decide) (by decide) hd) ho) (Or.inl rfl)
      · exact iv_c (iv_ta h hT hQ (by decide)) (by decide) (by decide) hd
    · exact iv_m0 h hT hQ0
  · have eS : pfS σ k = weS σ (σ 12 0 k) := by unfold pfS; rw [hK, if_neg (show ¬ (9 : Int) = 0 by decide), if_neg (show ¬ (9 : Int) = 1 by decide), if_neg (show ¬ (9 : Int) = 2 by decide), if_neg (show ¬ (9 : Int) = 3 by decide), if_neg (show ¬ (9 : Int) = 4 by decide), if_neg (show ¬ (9 : Int) = 5 by decide), if_neg (show ¬ (9 : Int) = 6 by decide), if_neg (show ¬ (9 : Int) = 7 by decide), if_neg (show ¬ (9 : Int) = 8 by decide), if_pos rfl]
    rw [eS]
    exact iv_we h hT hQ hQ0 (p9 hK)
  · have eS : pfS σ k = erS σ := by unfold pfS; rw [hK, if_neg (show ¬ (10 : Int) = 0 by decide), if_neg (show ¬ (10 : Int) = 1 by decide), if_neg (show ¬ (10 : Int) = 2 by decide), if_neg (show ¬ (10 : Int) = 3 by decide), if_neg (show ¬ (10 : Int) = 4 by decide), if_neg (show ¬ (10 : Int) = 5 by decide), if_neg (show ¬ (10 : Int) = 6 by decide), if_neg (show ¬ (10 : Int) = 7 by decide), if_neg (show ¬ (10 : Int) = 8 by decide), if_neg (show ¬ (10 : Int) = 9 by decide), if_pos rfl]
    rw [eS]
    have hG := iv_ge h hT
    have g0 := hG.1.2.2.2.1.2.1
    have g1 := hG.2.1
    have h3 := h.1.2.2.2.1.2.2
    have hC := cw_cut hG.1 (t := σ 14 0 2) (k := σ 14 0 3) (by rw [ge_k _ (by decide)]; omega) ho (fun _ => by rw [ge_j _ (by decide)]; omega)
    have hD : clW (up (up (geS σ) 4 (σ 14 0 2) 4 (σ 14 0 3)) 14 0 1 (geS σ 14 0 1 + 5)) := cw_t hC (by omega) (by omega)
    refine ⟨cw_r hD ⟨Int.le_refl 0, ?_⟩ (by decide), ?_, ?_, ?_⟩
    · exact (cw_n4 hD hD.2.2.2.1.1).1
    · show geS σ 14 0 1 + 5 ≤ _
      omega
    · have := hG.2.2.1
      show 0 ≤ geS σ 15 0 6 ∧ geS σ 15 0 6 ≤ _
      omega
    · exact hG.2.2.2
  · have eS : pfS σ k = spS σ (σ 13 0 k) := by unfold pfS; rw [hK, if_neg (show ¬ (11 : Int) = 0 by decide), if_neg (show ¬ (11 : Int) = 1 by decide), if_neg (show ¬ (11 : Int) = 2 by decide), if_neg (show ¬ (11 : Int) = 3 by decide), if_neg (show ¬ (11 : Int) = 4 by decide), if_neg (show ¬ (11 : Int) = 5 by decide), if_neg (show ¬ (11 : Int) = 6 by decide), if_neg (show ¬ (11 : Int) = 7 by decide), if_neg (show ¬ (11 : Int) = 8 by decide), if_neg (show ¬ (11 : Int) = 9 by decide), if_neg (show ¬ (11 : Int) = 10 by decide)]
    rw [eS]
    have hb := p11 hK
    have hA : IV (up σ 14 0 1 (σ 14 0 1 + σ 13 0 k)) (T + 1800) (Q + 1) := ⟨cw_t h.1 (by omega) (by omega), by rw [up_s]; omega, by show 0 ≤ σ 15 0 6 ∧ σ 15 0 6 ≤ Q + 1; omega, h.2.2.2⟩
    unfold spS
    split
    · exact hA
    · exact ⟨cw_r hA.1 ⟨Int.le_refl 0, hn.1⟩ (by decide), hA.2.1, hA.2.2.1, hA.2.2.2⟩
