/-! the program is run -/
theorem pf_e0 {σ : St} {k : Int} (hK : σ 11 0 k = 0) : pfS σ k = skS σ (σ 12 0 k) ∧ pfV σ k = 0 := ⟨by unfold pfS; rw [hK, if_pos rfl], by unfold pfV; rw [hK, if_pos rfl]⟩
theorem pf_e1 {σ : St} {k : Int} (hK : σ 11 0 k = 1) : pfS σ k = snS σ (σ 12 0 k) ∧ pfV σ k = snV σ := ⟨by unfold pfS; rw [hK, if_neg (show ¬ (1 : Int) = 0 by decide), if_pos rfl], by unfold pfV; rw [hK, if_neg (show ¬ (1 : Int) = 0 by decide), if_pos rfl]⟩
theorem pf_e2 {σ : St} {k : Int} (hK : σ 11 0 k = 2) : pfS σ k = kyS σ (σ 12 0 k) (σ 13 0 k) false ∧ pfV σ k = kyV σ := ⟨by unfold pfS; rw [hK, if_neg (show ¬ (2 : Int) = 0 by decide), if_neg (show ¬ (2 : Int) = 1 by decide), if_pos rfl], by unfold pfV; rw [hK, if_neg (show ¬ (2 : Int) = 0 by decide), if_neg (show ¬ (2 : Int) = 1 by decide), if_pos rfl]⟩
theorem pf_e3 {σ : St} {k : Int} (hK : σ 11 0 k = 3) : pfS σ k = kyS σ (σ 12 0 k) (σ 13 0 k) true ∧ pfV σ k = kyV σ := ⟨by unfold pfS; rw [hK, if_neg (show ¬ (3 : Int) = 0 by decide), if_neg (show ¬ (3 : Int) = 1 by decide), if_neg (show ¬ (3 : Int) = 2 by decide), if_pos rfl], by unfold pfV; rw [hK, if_neg (show ¬ (3 : Int) = 0 by decide), if_neg (show ¬ (3 : Int) = 1 by decide), if_neg (show ¬ (3 : Int) = 2 by decide), if_pos rfl]⟩
theorem pf_e4 {σ : St} {k : Int} (hK : σ 11 0 k = 4) : pfS σ k = up σ 15 0 9 (σ 12 0 k) ∧ pfV σ k = 0 := ⟨by unfold pfS; rw [hK, if_neg (show ¬ (4 : Int) = 0 by decide), if_neg (show ¬ (4 : Int) = 1 by decide), if_neg (show ¬ (4 : Int) = 2 by decide), if_neg (show ¬ (4 : Int) = 3 by decide), if_pos rfl], by unfold pfV; rw [hK, if_neg (show ¬ (4 : Int) = 0 by decide), if_neg (show ¬ (4 : Int) = 1 by decide), if_neg (show ¬ (4 : Int) = 2 by decide), if_neg (show ¬ (4 : Int) = 3 by decide), if_pos rfl]⟩
theorem pf_e5 {σ : St} {k : Int} (hK : σ 11 0 k = 5) : pfS σ k = rcS σ (σ 12 0 k) ∧ pfV σ k = rcV σ := ⟨by unfold pfS; rw [hK, if_neg (show ¬ (5 : Int) = 0 by decide), if_neg (show ¬ (5 : Int) = 1 by decide), if_neg (show ¬ (5 : Int) = 2 by decide), if_neg (show ¬ (5 : Int) = 3 by decide), if_neg (show ¬ (5 : Int) = 4 by decide), if_pos rfl], by unfold pfV; rw [hK, if_neg (show ¬ (5 : Int) = 0 by decide), if_neg (show ¬ (5 : Int) = 1 by decide), if_neg (show ¬ (5 : Int) = 2 by decide), if_neg (show ¬ (5 : Int) = 3 by decide), if_neg (show ¬ (5 : Int) = 4 by decide), if_pos rfl]⟩
theorem pf_e6 {σ : St} {k : Int} (hK : σ 11 0 k = 6) : pfS σ k = rpS σ 2 (σ 12 0 k) (σ 13 0 k) ∧ pfV σ k = rpV σ 2 (σ 13 0 k) := ⟨by unfold pfS; rw [hK, if_neg (show ¬ (6 : Int) = 0 by decide), if_neg (show ¬ (6 : Int) = 1 by decide), if_neg (show ¬ (6 : Int) = 2 by decide), if_neg (show ¬ (6 : Int) = 3 by decide), if_neg (show ¬ (6 : Int) = 4 by decide), if_neg (show ¬ (6 : Int) = 5 by decide), if_pos rfl], by unfold pfV; rw [hK, if_neg (show ¬ (6 : Int) = 0 by decide), if_neg (show ¬ (6 : Int) = 1 by decide), if_neg (show ¬ (6 : Int) = 2 by decide), if_neg (show ¬ (6 : Int) = 3 by decide), if_neg (show ¬ (6 : Int) = 4 by decide), if_neg (show ¬ (6 : Int) = 5 by decide), if_pos rfl]⟩
theorem pf_e7 {σ : St} {k : Int} (hK : σ 11 0 k = 7) : pfS σ k = rpS σ 3 (σ 12 0 k) (σ 13 0 k) ∧ pfV σ k = rpV σ 3 (σ 13 0 k) := ⟨by unfold pfS; rw [hK, if_neg (show ¬ (7 : Int) = 0 by decide), if_neg (show ¬ (7 : Int) = 1 by decide), if_neg (show ¬ (7 : Int) = 2 by decide), if_neg (show ¬ (7 : Int) = 3 by decide), if_neg (show ¬ (7 : Int) = 4 by decide), if_neg (show ¬ (7 : Int) = 5 by decide), if_neg (show ¬ (7 : Int) = 6 by decide), if_pos rfl], by unfold pfV; rw [hK, if_neg (show ¬ (7 : Int) = 0 by decide), if_neg (show ¬ (7 : Int) = 1 by decide), if_neg (show ¬ (7 : Int) = 2 by decide), if_neg (show ¬ (7 : Int) = 3 by decide), if_neg (show ¬ (7 : Int) = 4 by decide), if_neg (show ¬ (7 : Int) = 5 by decide), if_neg (show ¬ (7 : Int) = 6 by decide), if_pos rfl]⟩
theorem pf_e8 {σ : St} {k : Int} (hK : σ 11 0 k = 8) : pfS σ k = wdS σ (σ 12 0 k) (σ 13 0 k) ∧ pfV σ k = wdV σ (σ 13 0 k) := ⟨by unfold pfS; rw [hK, if_neg (show ¬ (8 : Int) = 0 by decide), if_neg (show ¬ (8 : Int) = 1 by decide), if_neg (show ¬ (8 : Int) = 2 by decide), if_neg (show ¬ (8 : Int) = 3 by decide), if_neg (show ¬ (8 : Int) = 4 by decide), if_neg (show ¬ (8 : Int) = 5 by decide), if_neg (show ¬ (8 : Int) = 6 by decide), if_neg (show ¬ (8 : Int) = 7 by decide), if_pos rfl], by unfold pfV; rw [hK, if_neg (show ¬ (8 : Int) = 0 by decide), if_neg (show ¬ (8 : Int) = 1 by decide), if_neg (show ¬ (8 : Int) = 2 by decide), if_neg (show ¬ (8 : Int) = 3 by decide), if_neg (show ¬ (8 : Int) = 4 by decide), if_neg (show ¬ (8 : Int) = 5 by decide), if_neg (show ¬ (8 : Int) = 6 by decide), if_neg (show ¬ (8 : Int) = 7 by decide), if_pos rfl]⟩
theorem pf_e9 {σ : St} {k : Int} (hK : σ 11 0 k = 9) : pfS σ k = weS σ (σ 12 0 k) ∧ pfV σ k = weV σ (σ 12 0 k) := ⟨by unfold pfS; rw [hK, if_neg (show ¬ (9 : Int) = 0 by decide), if_neg (show ¬ (9 : Int) = 1 by decide), if_neg (show ¬ (9 : Int) = 2 by decide), if_neg (show ¬ (9 : Int) = 3 by decide), if_neg (show ¬ (9 : Int) = 4 by decide), if_neg (show ¬ (9 : Int) = 5 by decide), if_neg (show ¬ (9 : Int) = 6 by decide), if_neg (show ¬ (9 : Int) = 7 by decide), if_neg (show ¬ (9 : Int) = 8 by decide), if_pos rfl], by unfold pfV; rw [hK, if_neg (show ¬ (9 : Int) = 0 by decide), if_neg (show ¬ (9 : Int) = 1 by decide), if_neg (show ¬ (9 : Int) = 2 by decide), if_neg (show ¬ (9 : Int) = 3 by decide), if_neg (show ¬ (9 : Int) = 4 by decide), if_neg (show ¬ (9 : Int) = 5 by decide), if_neg (show ¬ (9 : Int) = 6 by decide), if_neg (show ¬ (9 : Int) = 7 by decide), if_neg (show ¬ (9 : Int) = 8 by decide), if_pos rfl]⟩
theorem pf_e10 {σ : St} {k : Int} (hK : σ 11 0 k = 10) : pfS σ k = erS σ ∧ pfV σ k = 0 := ⟨by unfold pfS; rw [hK, if_neg (show ¬ (10 : Int) = 0 by decide), if_neg (show ¬ (10 : Int) = 1 by decide), if_neg (show ¬ (10 : Int) = 2 by decide), if_neg (show ¬ (10 : Int) = 3 by decide), if_neg (show ¬ (10 : Int) = 4 by decide), if_neg (show ¬ (10 : Int) = 5 by decide), if_neg (show ¬ (10 : Int) = 6 by decide), if_neg (show ¬ (10 : Int) = 7 by decide), if_neg (show ¬ (10 : Int) = 8 by decide), if_neg (show ¬ (10 : Int) = 9 by decide), if_pos rfl], by unfold pfV; rw [hK, if_neg (show ¬ (10 : Int) = 0 by decide), if_neg (show ¬ (10 : Int) = 1 by decide), if_neg (show ¬ (10 : Int) = 2 by decide), if_neg (show ¬ (10 : Int) = 3 by decide), if_neg (show ¬ (10 : Int) = 4 by decide), if_neg (show ¬ (10 : Int) = 5 by decide), if_neg (show ¬ (10 : Int) = 6 by decide), if_neg (show ¬ (10 : Int) = 7 by decide), if_neg (show ¬ (10 : Int) = 8 by decide), if_neg (show ¬ (10 : Int) = 9 by decide), if_pos rfl]⟩
theorem pf_e11 {σ : St} {k : Int} (hK : σ 11 0 k = 11) : pfS σ k = spS σ (σ 13 0 k) ∧ pfV σ k = 0 := ⟨by unfold pfS; rw [hK, if_neg (show ¬ (11 : Int) = 0 by decide), if_neg (show ¬ (11 : Int) = 1 by decide), if_neg (show ¬ (11 : Int) = 2 by decide), if_neg (show ¬ (11 : Int) = 3 by decide), if_neg (show ¬ (11 : Int) = 4 by decide), if_neg (show ¬ (11 : Int) = 5 by decide), if_neg (show ¬ (11 : Int) = 6 by decide), if_neg (show ¬ (11 : Int) = 7 by decide), if_neg (show ¬ (11 : Int) = 8 by decide), if_neg (show ¬ (11 : Int) = 9 by decide), if_neg (show ¬ (11 : Int) = 10 by decide)], by unfold pfV; rw [hK, if_neg (show ¬ (11 : Int) = 0 by decide), if_neg (show ¬ (11 : Int) = 1 by decide), if_neg (show ¬ (11 : Int) = 2 by decide), if_neg (show ¬ (11 : Int) = 3 by decide), if_neg (show ¬ (11 : Int) = 4 by decide), if_neg (show ¬ (11 : Int) = 5 by decide), if_neg (show ¬ (11 : Int) = 6 by decide), if_neg (show ¬ (11 : Int) = 7 by decide), if_neg (show ¬ (11 : Int) = 8 by decide), if_neg (show ¬ (11 : Int) = 9 by decide), if_neg (show ¬ (11 : Int) = 10 by decide)]⟩
theorem pf_k {σ : St} {k : Int} (hkd : 0 ≤ σ 11 0 k ∧ σ 11 0 k ≤ 11) {n : Nat} (h2 : n ≠ 2) (h4 : n ≠ 4) (h5 : n ≠ 5) (h6 : n ≠ 6) (h7 : n ≠ 7) (h9 : n ≠ 9) (h14 : n ≠ 14) (h15 : n ≠ 15) (t j : Int) : pfS σ k n t j = σ n t j := by
  rcases (show σ 11 0 k = 0 ∨ σ 11 0 k = 1 ∨ σ 11 0 k = 2 ∨ σ 11 0 k = 3 ∨ σ 11 0 k = 4 ∨ σ 11 0 k = 5 ∨ σ 11 0 k = 6 ∨ σ 11 0 k = 7 ∨ σ 11 0 k = 8 ∨ σ 11 0 k = 9 ∨ σ 11 0 k = 10 ∨ σ 11 0 k = 11 by omega) with hK | hK | hK | hK | hK | hK | hK | hK | hK | hK | hK | hK
  · rw [(pf_e0 hK).1]
    unfold skS seS
    rw [up_k _ _ _ _ _ _ h15, up_k _ _ _ _ _ _ h14, up_k _ _ _ _ _ _ h14, up_k _ _ _ _ _ _ h14]
  · rw [(pf_e1 hK).1]
    unfold snS
    split
    · exact m0_o _ (Or.inl h14)
    · rw [pn_o _ _ (Or.inl h15), gb_k _ _ h14, mv_k _ h14]
  · rw [(pf_e2 hK).1]
    unfold kyS
    split
    · exact m0_o _ (Or.inl h14)
    · rw [pn_o _ _ (Or.inl h15), gb_k _ _ h14, mv_k _ h14]
  · rw [(pf_e3 hK).1]
    unfold kyS
    split
    · exact m0_o _ (Or.inl h14)
    · rw [pn_o _ _ (Or.inl h15), gb_k _ _ h14, mv_k _ h14]
  · rw [(pf_e4 hK).1]
    rw [up_k _ _ _ _ _ _ h15]
  · rw [(pf_e5 hK).1]
    unfold rcS
    split
    · exact m0_o _ (Or.inl h14)
    · unfold rc4
      rw [up_k _ _ _ _ _ _ h2, up_k _ _ _ _ _ _ h2, up_k _ _ _ _ _ _ h2, up_k _ _ _ _ _ _ h2, gb_k _ _ h14, mv_k _ h14]
  · rw [(pf_e6 hK).1]
    unfold rpS
    split
    · split
      · rw [up_k _ _ _ _ _ _ h15, ta_k _ _ h14 h15]
      · rw [rd_k _ _ _ _ _ h2, up_k _ _ _ _ _ _ h15, ta_k _ _ h14 h15]
    · exact m0_o _ (Or.inl h14)
  · rw [(pf_e7 hK).1]
    unfold rpS
    split
    · split
      · rw [up_k _ _ _ _ _ _ h15, ta_k _ _ h14 h15]
      · rw [rd_k _ _ _ _ _ h2, up_k _ _ _ _ _ _ h15, ta_k _ _ h14 h15]
    · exact m0_o _ (Or.inl h14)
  · rw [(pf_e8 hK).1]
    unfold wdS
    split
    · split
      · rw [up_k _ _ _ _ _ _ h7, wr_k _ _ _ _ _ h9, up_k _ _ _ _ _ _ h15, ta_k _ _ h14 h15]
      · rw [up_k _ _ _ _ _ _ h15, ta_k _ _ h14 h15]
    · exact m0_o _ (Or.inl h14)
  · rw [(pf_e9 hK).1]
    unfold weS
    split
    · unfold wcD
      rw [gb_k _ _ h14, up_k _ _ _ _ _ _ h14]
      unfold wc3
      rw [up_k _ _ _ _ _ _ h15]
      unfold wc2
      rw [up_k _ _ _ _ _ _ h7, wr_k _ _ _ _ _ h9]
      unfold wc1
      rw [wr_k _ _ _ _ _ h9]
      unfold wcS apS
      rw [up_k _ _ _ _ _ _ h5, up_k _ _ _ _ _ _ h6, up_k _ _ _ _ _ _ h4, up_k _ _ _ _ _ _ h4, ge_k _ h14]
    · exact ge_k _ h14 _ _
  · rw [(pf_e10 hK).1]
    unfold erS
    rw [up_k _ _ _ _ _ _ h14, up_k _ _ _ _ _ _ h14, up_k _ _ _ _ _ _ h4, ge_k _ h14]
  · rw [(pf_e11 hK).1]
    unfold spS
    split
    · rw [up_k _ _ _ _ _ _ h14]
    · rw [up_k _ _ _ _ _ _ h14, up_k _ _ _ _ _ _ h14]
theorem pf_15 {σ : St} {k : Int} (hkd : 0 ≤ σ 11 0 k ∧ σ 11 0 k ≤ 11) {j : Int} (h4 : j ≠ 4) (h6 : j ≠ 6) (h8 : j ≠ 8) (h9 : j ≠ 9) : pfS σ k 15 0 j = σ 15 0 j := by
  rcases (show σ 11 0 k = 0 ∨ σ 11 0 k = 1 ∨ σ 11 0 k = 2 ∨ σ 11 0 k = 3 ∨ σ 11 0 k = 4 ∨ σ 11 0 k = 5 ∨ σ 11 0 k = 6 ∨ σ 11 0 k = 7 ∨ σ 11 0 k = 8 ∨ σ 11 0 k = 9 ∨ σ 11 0 k = 10 ∨ σ 11 0 k = 11 by omega) with hK | hK | hK | hK | hK | hK | hK | hK | hK | hK | hK | hK
  · rw [(pf_e0 hK).1]
    unfold skS seS
    rw [up_j _ _ _ _ _ _ _ h8, up_k _ _ _ _ _ _ (by decide), up_k _ _ _ _ _ _ (by decide), up_k _ _ _ _ _ _ (by decide)]
  · rw [(pf_e1 hK).1]
    unfold snS
    split
    · exact m0_o _ (Or.inl (by decide))
    · rw [pn_o _ _ (Or.inr h9), gb_k _ _ (by decide), mv_k _ (by decide)]
  · rw [(pf_e2 hK).1]
    unfold kyS
    split
    · exact m0_o _ (Or.inl (by decide))
    · rw [pn_o _ _ (Or.inr h9), gb_k _ _ (by decide), mv_k _ (by decide)]
  · rw [(pf_e3 hK).1]
    unfold kyS
    split
    · exact m0_o _ (Or.inl (by decide))
    · rw [pn_o _ _ (Or.inr h9), gb_k _ _ (by decide), mv_k _ (by decide)]
  · rw [(pf_e4 hK).1]
    rw [up_j _ _ _ _ _ _ _ h9]
  · rw [(pf_e5 hK).1]
    unfold rcS
    split
    · exact m0_o _ (Or.inl (by decide))
    · unfold rc4
      rw [up_k _ _ _ _ _ _ (by decide), up_k _ _ _ _ _ _ (by decide), up_k _ _ _ _ _ _ (by decide), up_k _ _ _ _ _ _ (by decide), gb_k _ _ (by decide), mv_k _ (by decide)]
  · rw [(pf_e6 hK).1]
    unfold rpS
    split
    · split
      · rw [up_j _ _ _ _ _ _ _ h4, ta_15 _ _ h6]
      · rw [rd_k _ _ _ _ _ (by decide), up_j _ _ _ _ _ _ _ h4, ta_15 _ _ h6]
    · exact m0_o _ (Or.inl (by decide))
  · rw [(pf_e7 hK).1]
    unfold rpS
    split
    · split
      · rw [up_j _ _ _ _ _ _ _ h4, ta_15 _ _ h6]
      · rw [rd_k _ _ _ _ _ (by decide), up_j _ _ _ _ _ _ _ h4, ta_15 _ _ h6]
    · exact m0_o _ (Or.inl (by decide))
  · rw [(pf_e8 hK).1]
    unfold wdS
    split
    · split
      · rw [up_k _ _ _ _ _ _ (by decide), wr_k _ _ _ _ _ (by decide), up_j _ _ _ _ _ _ _ h4, ta_15 _ _ h6]
      · rw [up_j _ _ _ _ _ _ _ h4, ta_15 _ _ h6]
    · exact m0_o _ (Or.inl (by decide))
  · rw [(pf_e9 hK).1]
    unfold weS
    split
    · unfold wcD
      rw [gb_k _ _ (by decide), up_k _ _ _ _ _ _ (by decide)]
      unfold wc3
      rw [up_j _ _ _ _ _ _ _ h6]
      unfold wc2
      rw [up_k _ _ _ _ _ _ (by decide), wr_k _ _ _ _ _ (by decide)]
      unfold wc1
      rw [wr_k _ _ _ _ _ (by decide)]
      unfold wcS apS
      rw [up_k _ _ _ _ _ _ (by decide), up_k _ _ _ _ _ _ (by decide), up_k _ _ _ _ _ _ (by decide), up_k _ _ _ _ _ _ (by decide), ge_k _ (by decide)]
    · exact ge_k _ (by decide) _ _
  · rw [(pf_e10 hK).1]
    unfold erS
    rw [up_k _ _ _ _ _ _ (by decide), up_k _ _ _ _ _ _ (by decide), up_k _ _ _ _ _ _ (by decide), ge_k _ (by decide)]
  · rw [(pf_e11 hK).1]
    unfold spS
    split
    · rw [up_k _ _ _ _ _ _ (by decide)]
    · rw [up_k _ _ _ _ _ _ (by decide), up_k _ _ _ _ _ _ (by decide)]
noncomputable def stV (σ : St) : Int := if σ 15 0 5 = 400 then 6 else @ite _ (cbP σ (σ 15 0 9)) (Classical.propDecidable _) (pfV (beS σ (σ 15 0 9)) (σ 15 0 9)) 2
noncomputable def stS (σ : St) : St := if σ 15 0 5 = 400 then σ else @ite _ (cbP σ (σ 15 0 9)) (Classical.propDecidable _) (pfS (beS σ (σ 15 0 9)) (σ 15 0 9)) σ
noncomputable def rnL : Nat → St → Int → Int → Int × Int × St
  | 0, σ, b, s => (s, b, σ)
  | m + 1, σ, b, s => if σ 15 0 9 < σ 10 0 3 ∧ s = 0 then rnL m (stS σ) (σ 15 0 9) (stV σ) else (s, b, σ)
theorem rnL_s (m : Nat) (σ : St) (b s : Int) : rnL (m + 1) σ b s = if σ 15 0 9 < σ 10 0 3 ∧ s = 0 then rnL m (stS σ) (σ 15 0 9) (stV σ) else (s, b, σ) := rfl
def rnE (q : Int × Int × St) : St := up (up q.2.2 15 0 3 (if q.1 = 0 then q.2.2 10 0 3 else q.2.1)) 14 0 3 0
theorem iv_be {σ : St} {T Q k : Int} (h : IV σ T Q) (hk : 0 ≤ k ∧ k < 16) (h5 : 0 ≤ σ 15 0 5 ∧ σ 15 0 5 ≤ 400) : IV (beS σ k) T Q := by
  have h1 := cw_c (j := 5) (v := σ 15 0 5 + 1) h.1 (by decide) (by omega)
  have h2 : clW (up (up σ 15 0 5 (σ 15 0 5 + 1)) 15 0 9 (k + 1)) := cw_c9 h1 (by omega) (by omega)
  refine ⟨cw_c h2 (by decide) (by split <;> omega), h.2.1, h.2.2.1, ?_⟩
  show k + 1 ≤ 17
  omega
theorem pf_V {σ : St} {k : Int} (hkd : 0 ≤ σ 11 0 k ∧ σ 11 0 k ≤ 11) : 0 ≤ pfV σ k ∧ pfV σ k ≤ 6 := by
  have ix : ∀ s : St, 0 ≤ ixS s ∧ ixS s ≤ 1 := fun s => by unfold ixS; split <;> omega
  rcases (show σ 11 0 k = 0 ∨ σ 11 0 k = 1 ∨ σ 11 0 k = 2 ∨ σ 11 0 k = 3 ∨ σ 11 0 k = 4 ∨ σ 11 0 k = 5 ∨ σ 11 0 k = 6 ∨ σ 11 0 k = 7 ∨ σ 11 0 k = 8 ∨ σ 11 0 k = 9 ∨ σ 11 0 k = 10 ∨ σ 11 0 k = 11 by omega) with hK | hK | hK | hK | hK | hK | hK | hK | hK | hK | hK | hK
  · rw [(pf_e0 hK).2]
    decide
  · rw [(pf_e1 hK).2]
    unfold snV
    have := ix (gbS (mvS σ) 1)
    split <;> omega
  · rw [(pf_e2 hK).2]
    unfold kyV
    have := ix (gbS (mvS σ) 2)
    split <;> omega
  · rw [(pf_e3 hK).2]
    unfold kyV
    have := ix (gbS (mvS σ) 2)
    split <;> omega
  · rw [(pf_e4 hK).2]
    decide
  · rw [(pf_e5 hK).2]
    unfold rcV
    have := ix (gbS (mvS σ) 1)
    split <;> omega
  · rw [(pf_e6 hK).2]
    unfold rpV
    (repeat' split) <;> decide
  · rw [(pf_e7 hK).2]
    unfold rpV
    (repeat' split) <;> decide
  · rw [(pf_e8 hK).2]
    unfold wdV
    split
    · split <;> decide
    · decide
  · rw [(pf_e9 hK).2]
    unfold weV
    split <;> decide
  · rw [(pf_e10 hK).2]
    decide
  · rw [(pf_e11 hK).2]
    decide
theorem st_V {σ : St} (h : clW σ) (h9 : σ 15 0 9 < 16) : 0 ≤ stV σ ∧ stV σ ≤ 6 := by
  unfold stV
  split
  · decide
  · split
    · exact pf_V (σ := beS σ (σ 15 0 9)) (h.2.2.2.2.1.2 _ h.2.2.2.2.2.1 h9)
    · decide
theorem iv_st {σ : St} {T Q : Int} (h : IV σ T Q) (hT : T + 3000 ≤ 1000000000) (hQ : Q + 1 ≤ 1000000000) (hQ0 : 0 ≤ Q) (h5 : 0 ≤ σ 15 0 5 ∧ σ 15 0 5 ≤ 400) (h9 : σ 15 0 9 < 16) : IV (stS σ) (T + 1800) (Q + 1) ∧ (0 ≤ stS σ 15 0 5 ∧ stS σ 15 0 5 ≤ 400) := by
  have h90 := h.1.2.2.2.2.2.1
  have hkd := h.1.2.2.2.2.1.2 _ h90 h9
  unfold stS
  split
  · exact ⟨iv_le h (by omega) (by omega), h5⟩
  · next hne =>
    split
    · next hc =>
      refine ⟨iv_pf (iv_be h ⟨h90, h9⟩ h5) hT hQ hQ0 ⟨h90, h9⟩ (cb_pf hc) (by show σ 15 0 9 + 1 ≤ 16; omega), ?_⟩
      rw [pf_15 (σ := beS σ (σ 15 0 9)) hkd (by decide) (by decide) (by decide) (by decide)]
      show 0 ≤ σ 15 0 5 + 1 ∧ σ 15 0 5 + 1 ≤ 400
      omega
    · exact ⟨iv_le h (by omega) (by omega), h5⟩
theorem iv_pr {σ : St} {T Q : Int} (h : IV σ T Q) (hT : T + 3000 ≤ 1000000000) : IV (prS σ) T Q := by
  have h0 := h.1.2.2.2.1.2.1
  have h2 := h.2.1
  refine ⟨cw_c (cw_c (cw_c (cw_c9 (cw_c (cw_c h.1 (by decide) (by decide)) (by decide) (by decide)) (by decide) (by decide)) (by decide) (by decide)) (by decide) (by omega)) (by decide) (by omega), h2, h.2.2.1, ?_⟩
  show (0 : Int) ≤ 17
  decide

set_option maxRecDepth 100000 in
set_option maxHeartbeats 4000000 in
theorem c_C_run (l : Launch) (E : eT) (σ : St) (T Q : Int) (h : IV σ T Q) (hT : T + 1000000 ≤ 1000000000) (hQ : Q + 1000 ≤ 1000000000) (hQ0 : 0 ≤ Q) : FCon l E y_C_run ws_C_run 6 [.ref (E.2.2.2 15 0)] σ (some (.int (iI (rnL 401 (prS σ) 0 0).1))) (rnE (rnL 401 (prS σ) 0 0)) := by
  refine con_of (cc := b_C_run) (nL := 4) (ret := (some .int)) (by decide) (Nat.le_of_ble_eq_true rfl) (fun z X Y hn => ?_)
  have X : Cx E z b_C_run R_C := X
  have hz := Y.2.1
  change J E z 0 0 0 [(0, .ref (E.2.2.2 15 0))] [] (cells E σ)
  obtain ⟨r, hr⟩ : ∃ r, r = rnL 401 (prS σ) 0 0 := ⟨_, rfl⟩
  rw [← hr] at Y
  have hP := iv_pr h (by omega)
  refine j_aload_n X rfl d_C_run_0 ?_
  refine v_C_33 X hz (c_C_prepare (zl z) E σ ⟨h.1.2.2.2.1.1, h.1.2.2.2.1.2.1, by have := h.2.1; omega⟩) rfl rfl rfl (Nat.le_of_ble_eq_true rfl) ⟨Nat.le_refl _, Nat.le_refl _⟩ d_C_run_1 ?_
  refine j_iconst X d_C_run_4 ?_
  refine j_istore_n X (zlt hn rfl) d_C_run_5 ?_
  refine j_iconst X d_C_run_6 ?_
  refine j_istore_n X (zlt hn rfl) d_C_run_7 ?_
  refine j_iconst X d_C_run_8 ?_
  refine j_istore_n X (zlt hn rfl) d_C_run_9 ?_
  have kyl : ∀ q : Int × Int × Int × St, (0 ≤ q.1 ∧ q.1 ≤ 401 ∧ r = rnL (401 - q.1).toNat q.2.2.2 q.2.1 q.2.2.1 ∧ IV q.2.2.2 (T + 1800 * q.1) (Q + q.1) ∧ (0 ≤ q.2.2.2 15 0 5 ∧ q.2.2.2 15 0 5 ≤ 400) ∧ (0 ≤ q.2.1 ∧ q.2.1 ≤ 20) ∧ (0 ≤ q.2.2.1 ∧ q.2.2.1 ≤ 6)) → J E z 0 0 10 [(0, .ref (E.2.2.2 15 0)), (1, .int (iI q.2.2.1)), (2, .int (iI q.2.1)), (3, .int (iI q.1))] [] (cells E q.2.2.2) := by
    refine j_loop (fun q => (401 - q.1).toNat) _ _ (fun q hq ih => ?_)
    obtain ⟨i, b, s, τ⟩ := q
    obtain ⟨i0, i1, hrn, hI, h5, hb, hs⟩ := hq
    dsimp only at i0 i1 hrn hI h5 hb hs
    dsimp only
    have r9 := hI.2.2.2
    have r90 := hI.1.2.2.2.2.2.1
    have r10 := hI.1.2.2.2.2.1.1
    have rr3 := hI.1.1 15 0 3
    have fin : r = (s, b, τ) → J E z 0 0 67 [(0, .ref (E.2.2.2 15 0)), (1, .int (iI s)), (2, .int (iI b)), (3, .int (iI i))] [] (cells E τ) := by
      intro hf
      subst hf
      refine j_aload_n X rfl d_C_run_67 ?_
      refine j_iload_n X rfl d_C_run_68 ?_
      refine j_if_ne X (by omega) d_C_run_69 (tgt := 82) rfl (fun h69 => ?_) (fun h69 => ?_)
      · skip
        refine j_iload_n X rfl d_C_run_82 ?_
        refine p_C_56 X d_C_run_83 ?_
        refine j_aload_n X rfl d_C_run_86 ?_
        refine g_C_15 X d_C_run_87 ?_
        refine v_C_59 X hz (c_H_disorient (zl z) E _) rfl rfl rfl (Nat.le_of_ble_eq_true rfl) ⟨Nat.le_refl _, Nat.le_refl _⟩ d_C_run_90 ?_
        refine j_iload_n X rfl d_C_run_93 ?_
        exact j_iret X Y (Nat.le_refl _) (Nat.le_refl _) d_C_run_94 ⟨rfl, by unfold rnE; dsimp only; first | rw [if_pos h69] | rw [if_neg h69]⟩
      · skip
        refine j_aload_n X rfl d_C_run_72 ?_
        refine g_C_9 X d_C_run_73 ?_
        refine g_C_40 X d_C_run_76 ?_
        refine j_goto X d_C_run_79 (tgt := 83) rfl ?_
        refine p_C_56 X d_C_run_83 ?_
        refine j_aload_n X rfl d_C_run_86 ?_
        refine g_C_15 X d_C_run_87 ?_
        refine v_C_59 X hz (c_H_disorient (zl z) E _) rfl rfl rfl (Nat.le_of_ble_eq_true rfl) ⟨Nat.le_refl _, Nat.le_refl _⟩ d_C_run_90 ?_
        refine j_iload_n X rfl d_C_run_93 ?_
        exact j_iret X Y (Nat.le_refl _) (Nat.le_refl _) d_C_run_94 ⟨rfl, by unfold rnE; dsimp only; first | rw [if_pos h69] | rw [if_neg h69]⟩
    refine j_iload_n X rfl d_C_run_10 ?_
    refine j_sipush X rfl d_C_run_11 ?_
    refine j_icmp_gt X (by omega) (by omega) d_C_run_14 (tgt := 67) rfl (fun h14 => ?_) (fun h14 => ?_)
    · skip
      exact fin (by first | (rw [hrn, show (401 - i).toNat = 0 by omega]; rfl) | (rw [hrn, show (401 - i).toNat = (401 - (i + 1)).toNat + 1 by omega, rnL_s, if_neg (by omega)]))
    · skip
      refine j_aload_n X rfl d_C_run_17 ?_
      refine g_C_36 X d_C_run_18 ?_
      refine j_aload_n X rfl d_C_run_21 ?_
      refine g_C_9 X d_C_run_22 ?_
      refine g_C_40 X d_C_run_25 ?_
      refine j_icmp_ge X (by omega) (by omega) d_C_run_28 (tgt := 67) rfl (fun h28 => ?_) (fun h28 => ?_)
      · skip
        exact fin (by first | (rw [hrn, show (401 - i).toNat = 0 by omega]; rfl) | (rw [hrn, show (401 - i).toNat = (401 - (i + 1)).toNat + 1 by omega, rnL_s, if_neg (by omega)]))
      · skip
        refine j_iload_n X rfl d_C_run_31 ?_
        refine j_if_ne X (by omega) d_C_run_32 (tgt := 67) rfl (fun h32 => ?_) (fun h32 => ?_)
        · skip
          exact fin (by first | (rw [hrn, show (401 - i).toNat = 0 by omega]; rfl) | (rw [hrn, show (401 - i).toNat = (401 - (i + 1)).toNat + 1 by omega, rnL_s, if_neg (by omega)]))
        · skip
          refine j_aload_n X rfl d_C_run_35 ?_
          refine g_C_36 X d_C_run_36 ?_
          refine j_istore_n X (zlt hn rfl) d_C_run_39 ?_
          refine j_aload_n X rfl d_C_run_40 ?_
          refine j_iload_n X rfl d_C_run_41 ?_
          refine v_C_45 X hz (c_C_refusal (zl z) E τ (τ 15 0 9) (by omega) hI.1.1 hI.1.2.2.1 (hI.1.2.2.2.2.1.2 _ r90 (by omega))) rfl rfl rfl (Nat.le_of_ble_eq_true rfl) ⟨Nat.le_refl _, Nat.le_refl _⟩ d_C_run_42 ?_
          have ihS := iv_st hI (by omega) (by omega) (by omega) h5 (by omega)
          have ihV := st_V hI.1 (show τ 15 0 9 < 16 by omega)
          have nxt : J E z 0 0 61 [(0, .ref (E.2.2.2 15 0)), (1, .int (iI (stV τ))), (2, .int (iI (τ 15 0 9))), (3, .int (iI i))] [] (cells E (stS τ)) := by
            refine j_iinc X rfl (zlt hn rfl) d_C_run_61 ?_
            refine j_goto X d_C_run_64 (tgt := 10) rfl ?_
            exact ih (i + 1, τ 15 0 9, stV τ, stS τ) ⟨by dsimp only; omega, by dsimp only; omega, by dsimp only; rw [hrn, show (401 - i).toNat = (401 - (i + 1)).toNat + 1 by omega, rnL_s, if_pos (by omega)], iv_le ihS.1 (by dsimp only; omega) (by dsimp only; omega), ihS.2, by dsimp only; omega, ihV⟩ (by dsimp only; omega)
          by_cases hb4 : τ 15 0 5 = 400
          · have e1 : stV τ = 6 := by unfold stV; rw [if_pos hb4]
            have e2 : stS τ = τ := by unfold stS; rw [if_pos hb4]
            rw [e1, e2] at nxt
            rw [if_pos hb4]
            refine j_istore_n X (zlt hn rfl) d_C_run_45 ?_
            refine j_iload_n X rfl d_C_run_46 ?_
            exact j_if_ne X (by decide) d_C_run_47 (tgt := 61) rfl (fun h47 => nxt) (fun h47 => absurd h47 (by decide))
          · rw [if_neg hb4]
            by_cases hc : cbP τ (τ 15 0 9)
            · have e1 : stV τ = pfV (beS τ (τ 15 0 9)) (τ 15 0 9) := by unfold stV; rw [if_neg hb4, if_pos hc]
              have e2 : stS τ = pfS (beS τ (τ 15 0 9)) (τ 15 0 9) := by unfold stS; rw [if_neg hb4, if_pos hc]
              rw [e1, e2] at nxt
              rw [if_pos hc]
              have hBe := iv_be hI ⟨r90, by omega⟩ h5
              refine j_istore_n X (zlt hn rfl) d_C_run_45 ?_
              refine j_iload_n X rfl d_C_run_46 ?_
              refine j_if_ne X (by decide) d_C_run_47 (tgt := 61) rfl (fun h47 => absurd rfl h47) (fun h47 => ?_)
              refine j_aload_n X rfl d_C_run_50 ?_
              refine j_iload_n X rfl d_C_run_51 ?_
              refine v_C_49 X hz (c_C_begin (zl z) E τ (τ 15 0 9) (by omega) hI.1.1) rfl rfl rfl (Nat.le_of_ble_eq_true rfl) ⟨Nat.le_refl _, Nat.le_refl _⟩ d_C_run_52 ?_
              refine j_aload_n X rfl d_C_run_55 ?_
              refine j_iload_n X rfl d_C_run_56 ?_
              refine v_C_53 X hz (c_C_perform (zl z) E (beS τ (τ 15 0 9)) (τ 15 0 9) hBe.1 (by have := hBe.2.1; omega) (by omega) (cb_pf hc)) rfl rfl rfl (Nat.le_of_ble_eq_true rfl) ⟨Nat.le_refl _, Nat.le_refl _⟩ d_C_run_57 ?_
              refine j_istore_n X (zlt hn rfl) d_C_run_60 ?_
              exact nxt
            · have e1 : stV τ = 2 := by unfold stV; rw [if_neg hb4, if_neg hc]
              have e2 : stS τ = τ := by unfold stS; rw [if_neg hb4, if_neg hc]
              rw [e1, e2] at nxt
              rw [if_neg hc]
              refine j_istore_n X (zlt hn rfl) d_C_run_45 ?_
              refine j_iload_n X rfl d_C_run_46 ?_
              exact j_if_ne X (by decide) d_C_run_47 (tgt := 61) rfl (fun h47 => nxt) (fun h47 => absurd h47 (by decide))
  exact kyl (0, 0, 0, prS σ) ⟨Int.le_refl 0, show (0 : Int) ≤ 401 by decide, hr, by dsimp only; rw [Int.mul_zero, Int.add_zero, Int.add_zero]; exact hP, ⟨Int.le_refl 0, show (0 : Int) ≤ 400 by decide⟩, ⟨Int.le_refl 0, show (0 : Int) ≤ 20 by decide⟩, ⟨Int.le_refl 0, show (0 : Int) ≤ 6 by decide⟩⟩

set_option maxRecDepth 100000 in
set_option maxHeartbeats 4000000 in
theorem c_U_start (l : Launch) (E : eT) (σ : St) (T Q : Int) (h : IV σ T Q) (hT : T + 1000000 ≤ 1000000000) (hQ : Q + 1000 ≤ 1000000000) (hQ0 : 0 ≤ Q) : FCon l E y_U_start ws_U_start 7 [.ref (E.2.2.2 0 0)] σ (some (.int (iI (rnL 401 (prS σ) 0 0).1))) (rnE (rnL 401 (prS σ) 0 0)) := by
  refine con_of (cc := b_U_start) (nL := 1) (ret := (some .int)) (by decide) (Nat.le_of_ble_eq_true rfl) (fun z X Y hn => ?_)
  have X : Cx E z b_U_start R_U := X
  have hz := Y.2.1
  change J E z 0 0 0 [(0, .ref (E.2.2.2 0 0))] [] (cells E σ)
  refine j_aload_n X rfl d_U_start_0 ?_
  refine g_U_46 X d_U_start_1 ?_
  refine v_U_91 X hz (c_C_run (zl z) E σ T Q h hT hQ hQ0) rfl rfl rfl (Nat.le_of_ble_eq_true rfl) ⟨Nat.le_refl _, Nat.le_refl _⟩ d_U_start_4 ?_
  exact j_iret X Y (Nat.le_refl _) (Nat.le_refl _) d_U_start_7 ⟨rfl, rfl⟩

set_option maxRecDepth 100000 in
set_option maxHeartbeats 4000000 in
theorem c_U_clock (l : Launch) (E : eT) (σ : St) : FCon l E y_U_clock ws_U_clock 0 [.ref (E.2.2.2 0 0)] σ (some (.long (iL (σ 14 0 1)))) σ := by
  refine con_of (cc := b_U_clock) (nL := 1) (ret := (some .long)) (by decide) (Nat.le_of_ble_eq_true rfl) (fun z X Y hn => ?_)
  have X : Cx E z b_U_clock R_U := X
  have hz := Y.2.1
  change J E z 0 0 0 [(0, .ref (E.2.2.2 0 0))] [] (cells E σ)
  refine j_aload_n X rfl d_U_clock_0 ?_
  refine g_U_37 X d_U_clock_1 ?_
  refine g_U_113 X d_U_clock_4 ?_
  exact j_lret X Y (Nat.le_refl _) (Nat.le_refl _) d_U_clock_7 ⟨rfl, rfl⟩

