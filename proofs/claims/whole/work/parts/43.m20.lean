/-! the model: what may begin -/
theorem b2i_c {P Q : Prop} {i : Decidable P} {j : Decidable Q} (h : P ↔ Q) : b2i (@decide P i) = b2i (@decide Q j) := by
  by_cases p : P
  · rw [b2i_t p, b2i_t (h.mp p)]
  · rw [b2i_f p, b2i_f (fun q => p (h.mpr q))]
/-- the number that a BACK may follow, and the last command begun -/
def RB (μ : St) (last : Int) : Prop := (last = -1 ∧ μ 15 0 10 = -1) ∨ ((0 ≤ last ∧ last < 16) ∧ ((1 ≤ μ 11 0 last ∧ μ 11 0 last ≤ 3) ∧ μ 15 0 10 = last + 1 ∨ ¬ (1 ≤ μ 11 0 last ∧ μ 11 0 last ≤ 3) ∧ μ 15 0 10 = -1))
theorem x_M_isSo {l : Launch} {E : eT} {μ σ : St} {k last : Int} (h : RG μ σ) (hc : clW μ) (hk : 0 ≤ k ∧ k < 16) (hB : RB μ last) : FCon l E y_M_isSo ws_M_isSo 2 [.ref (E.2.2.2 18 0), .int (iI k), .int (iI last)] σ (some (.int (iI (b2i (@decide (cbP μ k) (Classical.propDecidable _)))))) σ := by
  have hg := hc.2.2.2.2.1.2 k hk.1 hk.2
  have e23 := (h.2.1.2 k hk.1 hk.2).2.1
  have e24 := (h.2.1.2 k hk.1 hk.2).2.2
  have e22 := (h.2.1.2 k hk.1 hk.2).1
  have ra := hc.1 12 0 k
  have rb := hc.1 13 0 k
  have rl : inR last := by unfold RB at hB; omega
  rcases (show μ 11 0 k = 0 ∨ μ 11 0 k = 1 ∨ μ 11 0 k = 2 ∨ μ 11 0 k = 3 ∨ μ 11 0 k = 4 ∨ μ 11 0 k = 5 ∨ μ 11 0 k = 6 ∨ μ 11 0 k = 7 ∨ μ 11 0 k = 8 ∨ μ 11 0 k = 9 ∨ μ 11 0 k = 10 ∨ μ 11 0 k = 11 by omega) with hK | hK | hK | hK | hK | hK | hK | hK | hK | hK | hK | hK
  · have := c_M_isSo0 l E σ k last _ _ hk (e22.trans hK) e23 e24 ra rb rl
    rw [b2i_c (Q := cbP μ k) (j := Classical.propDecidable _) (by unfold cbP riM inM; omega)] at this
    exact this
  · have := c_M_isSo1 l E σ k last _ _ hk (e22.trans hK) e23 e24 ra rb rl
    rw [b2i_t (show cbP μ k by unfold cbP; omega)]
    exact this
  · have := c_M_isSo2 l E σ k last _ _ hk (e22.trans hK) e23 e24 ra rb rl
    rw [b2i_c (Q := cbP μ k) (j := Classical.propDecidable _) (by unfold cbP riM inM; omega)] at this
    exact this
  · have := c_M_isSo3 l E σ k last _ _ hk (e22.trans hK) e23 e24 ra rb rl
    rw [b2i_c (Q := cbP μ k) (j := Classical.propDecidable _) (by unfold cbP riM inM; omega)] at this
    exact this
  · have := c_M_isSo4 l E σ k last _ _ hk (e22.trans hK) e23 e24 ra rb rl (fun i h0 h1 => by rw [(h.2.1.2 i h0 h1).1]; exact hc.1 11 0 i)
    have e := fun (h0 : 0 ≤ last) (h1 : last < 16) => (h.2.1.2 last h0 h1).1
    unfold RB at hB
    rw [b2i_c (Q := cbP μ k) (j := Classical.propDecidable _) (by unfold cbP riM inM; omega)] at this
    exact this
  · have := c_M_isSo5 l E σ k last _ _ hk (e22.trans hK) e23 e24 ra rb rl
    rw [b2i_c (Q := cbP μ k) (j := Classical.propDecidable _) (by unfold cbP riM inM; omega)] at this
    exact this
  · have := c_M_isSo6 l E σ k last _ _ hk (e22.trans hK) e23 e24 ra rb rl
    rw [b2i_c (Q := cbP μ k) (j := Classical.propDecidable _) (by unfold cbP riM inM; omega)] at this
    exact this
  · have := c_M_isSo7 l E σ k last _ _ hk (e22.trans hK) e23 e24 ra rb rl
    rw [b2i_c (Q := cbP μ k) (j := Classical.propDecidable _) (by unfold cbP riM inM; omega)] at this
    exact this
  · have := c_M_isSo8 l E σ k last _ _ hk (e22.trans hK) e23 e24 ra rb rl
    rw [b2i_c (Q := cbP μ k) (j := Classical.propDecidable _) (by unfold cbP riM inM; omega)] at this
    exact this
  · have := c_M_isSo9 l E σ k last _ _ hk (e22.trans hK) e23 e24 ra rb rl (fun i h0 h1 => by rw [h.1 i h0 h1]; exact hc.2.2.1 i)
    have e := fun (h0 : 0 ≤ μ 12 0 k) (h1 : μ 12 0 k < 256) => h.1 (μ 12 0 k) h0 h1
    have e' := fun (h0 : 0 ≤ μ 12 0 k + 1) (h1 : μ 12 0 k + 1 < 256) => h.1 (μ 12 0 k + 1) h0 h1
    rw [b2i_c (Q := cbP μ k) (j := Classical.propDecidable _) (by unfold cbP riM inM; omega)] at this
    exact this
  · have := c_M_isSo10 l E σ k last _ _ hk (e22.trans hK) e23 e24 ra rb rl
    rw [b2i_t (show cbP μ k by unfold cbP; omega)]
    exact this
  · have := c_M_isSo11 l E σ k last _ _ hk (e22.trans hK) e23 e24 ra rb rl
    rw [b2i_c (Q := cbP μ k) (j := Classical.propDecidable _) (by unfold cbP riM inM; omega)] at this
    exact this
