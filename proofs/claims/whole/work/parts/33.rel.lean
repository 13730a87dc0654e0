/-! how the model stands to the class -/
def RT (μ σ : St) (t : Int) : Prop :=
  (∀ p, 0 ≤ p → p < 600 → σ 19 0 (600 * t + p) = 0 ∨ σ 19 0 (600 * t + p) = 1) ∧
  (∀ k, 1 ≤ k → k ≤ μ 4 t 4 → σ 19 0 (600 * t + μ 5 t k) = 1) ∧
  (∀ p, 0 ≤ p → p < 600 → σ 19 0 (600 * t + p) = 1 → ∃ k, (1 ≤ k ∧ k ≤ μ 4 t 4) ∧ μ 5 t k = p) ∧
  ∀ k, 1 ≤ k → k ≤ μ 4 t 4 → σ 20 0 (600 * t + μ 5 t k + 1) = μ 6 t k ∧ σ 20 0 (600 * t + μ 5 t k + 2) = dlS μ t k ∧ σ 20 0 (600 * t + μ 5 t k + 3) = μ 7 t k ∧ ∀ i, 0 ≤ i → i < μ 6 t k + dlS μ t k → σ 20 0 (600 * t + μ 5 t k + 20 + i) % 256 = μ 9 t (μ 5 t k + 20 + i)
theorem tk_mono {σ : St} {t : Int} (h : tkW σ t) {i : Int} (hi : 1 ≤ i) : ∀ m : Nat, i + m + 1 ≤ σ 4 t 4 + 1 → σ 5 t i + 20 ≤ σ 5 t (i + m + 1) := by
  intro m
  induction m with
  | zero =>
    intro hm
    have := h.2.2 i hi (by omega)
    rw [show i + ((0 : Nat) : Int) + 1 = i + 1 by omega]
    omega
  | succ m ih =>
    intro hm
    have h1 := ih (by omega)
    have h2 := h.2.2 (i + m + 1) (by omega) (by omega)
    rw [show i + ((m + 1 : Nat) : Int) + 1 = i + m + 1 + 1 by omega]
    omega
theorem tk_lt {σ : St} {t i j : Int} (h : tkW σ t) (hi : 1 ≤ i) (hij : i < j) (hj : j ≤ σ 4 t 4 + 1) : σ 5 t i + 20 ≤ σ 5 t j := by
  have := tk_mono h hi (j - i - 1).toNat (by omega)
  rw [show i + ((j - i - 1).toNat : Int) + 1 = j by omega] at this
  exact this
theorem tk_at {σ : St} {t k : Int} (h : tkW σ t) (hk : 1 ≤ k ∧ k ≤ σ 4 t 4) : (0 ≤ σ 5 t k ∧ σ 5 t k ≤ 580) ∧ (0 ≤ σ 6 t k ∧ σ 6 t k ≤ 8) ∧ (0 ≤ dlS σ t k ∧ dlS σ t k ≤ 60) ∧ σ 5 t k + 20 + σ 6 t k + dlS σ t k = σ 5 t (k + 1) ∧ σ 5 t (k + 1) ≤ 600 := by
  have := h.2.2 k hk.1 hk.2
  unfold dlS
  omega
theorem rt_sum {μ σ : St} {t : Int} (hw : tkW μ t) (h : RT μ σ t) : ∀ P : Nat, P ≤ 600 → (0 ≤ smS (σ 19 0) (600 * t) P ∧ smS (σ 19 0) (600 * t) P ≤ μ 4 t 4) ∧ (∀ k, 1 ≤ k → k ≤ smS (σ 19 0) (600 * t) P → μ 5 t k < P) ∧ ∀ k, smS (σ 19 0) (600 * t) P < k → k ≤ μ 4 t 4 → (P : Int) ≤ μ 5 t k := by
  intro P
  induction P with
  | zero =>
    intro _
    refine ⟨⟨Int.le_refl 0, hw.1.1⟩, fun k h1 h2 => ?_, fun k h1 h2 => ?_⟩
    · have : k ≤ 0 := h2
      omega
    · have h3 : 0 < k := h1
      have := hw.2.2 k (by omega) h2
      omega
  | succ P ih =>
    intro hP
    obtain ⟨h1, h2, h3⟩ := ih (by omega)
    show (0 ≤ smS (σ 19 0) (600 * t) P + σ 19 0 (600 * t + P) ∧ smS (σ 19 0) (600 * t) P + σ 19 0 (600 * t + P) ≤ μ 4 t 4) ∧ (∀ k, 1 ≤ k → k ≤ smS (σ 19 0) (600 * t) P + σ 19 0 (600 * t + P) → μ 5 t k < ((P + 1 : Nat) : Int)) ∧ ∀ k, smS (σ 19 0) (600 * t) P + σ 19 0 (600 * t + P) < k → k ≤ μ 4 t 4 → ((P + 1 : Nat) : Int) ≤ μ 5 t k
    generalize smS (σ 19 0) (600 * t) P = c at h1 h2 h3 ⊢
    rcases h.1 P (by omega) (by omega) with e | e
    · rw [e]
      refine ⟨by omega, fun k q1 q2 => ?_, fun k q1 q2 => ?_⟩
      · have := h2 k q1 (by omega); omega
      · have q3 := h3 k (by omega) q2
        have q4 := h.2.1 k (by omega) q2
        by_cases q5 : μ 5 t k = P
        · rw [q5, e] at q4; omega
        · omega
    · rw [e]
      obtain ⟨k0, hk0, e0⟩ := h.2.2.1 P (by omega) (by omega) e
      have hc : c < k0 := by
        apply Int.not_le.mp
        intro q
        have := h2 k0 hk0.1 q
        omega
      have hc1 : k0 = c + 1 := by
        apply Decidable.byContradiction
        intro q
        have q1 := h3 (c + 1) (by omega) (by omega)
        have q2 := tk_lt hw (i := c + 1) (j := k0) (by omega) (by omega) (by omega)
        omega
      refine ⟨by omega, fun k q1 q2 => ?_, fun k q1 q2 => ?_⟩
      · by_cases q3 : k = k0
        · rw [q3, e0]; omega
        · have := h2 k q1 (by omega); omega
      · have := tk_lt hw (i := k0) (j := k) (by omega) (by omega) (by omega)
        omega
theorem rt_many {μ σ : St} {t : Int} (hw : tkW μ t) (h : RT μ σ t) : smS (σ 19 0) (600 * t) 600 = μ 4 t 4 := by
  obtain ⟨h1, h2, h3⟩ := rt_sum hw h 600 (by omega)
  generalize smS (σ 19 0) (600 * t) 600 = c at *
  by_cases q : c < μ 4 t 4
  · have q1 := h3 (μ 4 t 4) q (Int.le_refl _)
    have q2 := hw.2.2 (μ 4 t 4) (by omega) (Int.le_refl _)
    omega
  · omega
theorem rt_num {μ σ : St} {t k : Int} (hw : tkW μ t) (h : RT μ σ t) (hk : 1 ≤ k ∧ k ≤ μ 4 t 4) : smS (σ 19 0) (600 * t) (μ 5 t k + 1).toNat = k := by
  have q0 := hw.2.2 k hk.1 hk.2
  obtain ⟨h1, h2, h3⟩ := rt_sum hw h (μ 5 t k + 1).toNat (by omega)
  generalize smS (σ 19 0) (600 * t) (μ 5 t k + 1).toNat = c at *
  rcases Int.lt_trichotomy c k with q | q | q
  · have := h3 k q hk.2
    omega
  · exact q
  · have q1 := h2 c (by omega) (Int.le_refl _)
    have q2 := tk_lt hw hk.1 q (by omega)
    omega
/-- the place behind the last record holds none -/
theorem rt_end {μ σ : St} {t : Int} (hw : tkW μ t) (h : RT μ σ t) : ¬ (μ 5 t (μ 4 t 4 + 1) < 600 ∧ σ 19 0 (600 * t + μ 5 t (μ 4 t 4 + 1)) = 1) := by
  rintro ⟨h1, h2⟩
  have h0 := tk_end hw ⟨hw.1.1, Int.le_refl _⟩
  obtain ⟨k, hk, e⟩ := h.2.2.1 _ h0.1 h1 h2
  have := tk_lt hw hk.1 (show k < μ 4 t 4 + 1 by omega) (Int.le_refl _)
  omega
def RG (μ σ : St) : Prop := (∀ i, 0 ≤ i → i < 256 → σ 21 0 i = μ 2 0 i) ∧ (σ 18 0 4 = μ 10 0 3 ∧ ∀ i, 0 ≤ i → i < 16 → σ 22 0 i = μ 11 0 i ∧ σ 23 0 i = μ 12 0 i ∧ σ 24 0 i = μ 13 0 i) ∧
  (σ 18 0 8 = μ 14 0 1 ∧ σ 18 0 9 = μ 14 0 2 ∧ σ 18 0 13 = μ 15 0 4 ∧ σ 18 0 14 = μ 15 0 5 ∧ σ 18 0 17 = μ 15 0 6 ∧ σ 18 0 15 = μ 14 0 1 / 600 - μ 15 0 7) ∧
  (∀ t, 0 ≤ t → t < 32 → σ 25 0 t = μ 17 0 t + 1) ∧ ∀ t, 0 ≤ t → t < 32 → RT μ σ t
/-- in a run -/
def RS (μ σ : St) : Prop := (μ 14 0 3 = 0 → σ 18 0 11 = 0) ∧ (¬ μ 14 0 3 = 0 → σ 18 0 11 = μ 14 0 4 ∧ (1 ≤ μ 14 0 4 ∧ μ 14 0 4 ≤ 3) ∧ σ 18 0 10 = μ 5 (μ 14 0 2) (μ 14 0 3))
def RR (μ σ : St) : Prop := RG μ σ ∧ σ 18 0 16 = μ 14 0 1 / 600 - μ 15 0 8 ∧ RS μ σ
theorem rg_av {μ σ : St} (h : RG μ σ) (d : Int) : RG (up μ 14 0 1 (μ 14 0 1 + d)) (avS σ d) := by
  obtain ⟨h1, h2, ⟨a1, a2, a3, a4, a5, a6⟩, h4, h5⟩ := h
  refine ⟨h1, h2, ⟨?_, a2, a3, a4, a5, ?_⟩, h4, h5⟩
  · show σ 18 0 8 + d = μ 14 0 1 + d
    rw [a1]
  · show σ 18 0 15 + ((σ 18 0 8 + d) / 600 - σ 18 0 8 / 600) = (μ 14 0 1 + d) / 600 - μ 15 0 7
    rw [a1, a6]; omega
theorem rr_av {μ σ : St} (h : RR μ σ) (d : Int) : RR (up μ 14 0 1 (μ 14 0 1 + d)) (avS σ d) := by
  refine ⟨rg_av h.1 d, ?_, h.2.2⟩
  show σ 18 0 16 + ((σ 18 0 8 + d) / 600 - σ 18 0 8 / 600) = (μ 14 0 1 + d) / 600 - μ 15 0 8
  rw [h.1.2.2.1.1, h.2.1]; omega
theorem rr_ag {μ σ : St} (h : RR μ σ) (p : Int) : RR (gtS μ p) (agS σ p) := by
  have := rr_av h ((p - μ 14 0 1 % 600 + 600) % 600)
  unfold gtS agS
  rw [h.1.2.2.1.1]
  exact this
