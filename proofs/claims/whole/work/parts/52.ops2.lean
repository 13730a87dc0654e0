/-! start, allocate, store, fetch in both -/
theorem st_k {σ : St} (hg : 0 ≤ σ 11 0 (σ 15 0 9) ∧ σ 11 0 (σ 15 0 9) ≤ 11) {k : Nat} (hk : 18 ≤ k) : stS σ k = σ k := by
  unfold stS
  split
  · rfl
  · split
    · funext t j
      rw [pf_k (σ := beS σ (σ 15 0 9)) hg (by omega) (by omega) (by omega) (by omega) (by omega) (by omega) (by omega) (by omega)]
      unfold beS
      rw [up_k _ _ _ _ _ _ (by omega), up_k _ _ _ _ _ _ (by omega), up_k _ _ _ _ _ _ (by omega)]
    · rfl
theorem st_7 {σ : St} (hg : 0 ≤ σ 11 0 (σ 15 0 9) ∧ σ 11 0 (σ 15 0 9) ≤ 11) : stS σ 15 0 7 = σ 15 0 7 := by
  unfold stS
  split
  · rfl
  · split
    · exact pf_15 (σ := beS σ (σ 15 0 9)) hg (by decide) (by decide) (by decide) (by decide)
    · rfl
theorem rn_inv : ∀ (m : Nat) (μ : St) (b s T Q : Int), IV μ T Q → T + 1800 * m + 3000 ≤ 1000000000 → Q + m + 1 ≤ 1000000000 → 0 ≤ Q → (0 ≤ μ 15 0 5 ∧ μ 15 0 5 ≤ 400) → (0 ≤ s ∧ s ≤ 6) → (0 ≤ b ∧ b ≤ 20) →
    IV (rnL m μ b s).2.2 (T + 1800 * m) (Q + m) ∧ (∀ k, 18 ≤ k → (rnL m μ b s).2.2 k = μ k) ∧ (rnL m μ b s).2.2 15 0 7 = μ 15 0 7 ∧ (0 ≤ (rnL m μ b s).1 ∧ (rnL m μ b s).1 ≤ 6) ∧ (0 ≤ (rnL m μ b s).2.1 ∧ (rnL m μ b s).2.1 ≤ 20) := by
  intro m
  induction m with
  | zero =>
    intro μ b s T Q hI hT hQ hQ0 h5 hs hb
    exact ⟨iv_le hI (by omega) (by omega), fun _ _ => rfl, rfl, hs, hb⟩
  | succ m ih =>
    intro μ b s T Q hI hT hQ hQ0 h5 hs hb
    rw [rnL_s]
    have h10 := hI.1.2.2.2.2.1
    have h10a := h10.1
    have h90 := hI.1.2.2.2.2.2.1
    have h9 := hI.2.2.2
    split
    · next hc =>
      have hg := h10.2 (μ 15 0 9) h90 (by omega)
      obtain ⟨g1, g2⟩ := iv_st hI (by omega) (by omega) hQ0 h5 (by omega)
      obtain ⟨q1, q2, q3, q4, q5⟩ := ih (stS μ) (μ 15 0 9) (stV μ) (T + 1800) (Q + 1) g1 (by omega) (by omega) (by omega) g2 (st_V hI.1 (by omega)) (by omega)
      exact ⟨iv_le q1 (by omega) (by omega), fun k hk => (q2 k hk).trans (st_k hg hk), q3.trans (st_7 hg), q4, q5⟩
    · exact ⟨iv_le hI (by omega) (by omega), fun _ _ => rfl, rfl, hs, hb⟩
section OPY
variable {l : Launch} {E : eT} {w : St} {T Q : Int}
theorem o_start (hL : LI w T Q) (hT : T + 1000000 ≤ 1000000000) (hQ : Q + 1000 ≤ 1000000000) (hQ0 : 0 ≤ Q) : ∃ (v : Int) (w1 : St), FCon l E y_U_start ws_U_start 7 [.ref (E.2.2.2 0 0)] w (some (.int (iI v))) w1 ∧ inR v ∧ ∃ o, Con l E y_M_start ws_M_start 7 0 0 [.ref (E.2.2.2 18 0)] (cells E w1) o ∧ ∀ v' W, o v' W → v' = some (.int (iI v)) ∧ ∃ w', W = cells E w' ∧ LI w' (T + 1000000) (Q + 1000) := by
  obtain ⟨hI, hR, hs⟩ := id hL
  have ht0 := hI.1.2.2.2.1.2.1
  have ht1 := hI.2.1
  obtain ⟨q1, q2, q3, q4, q5⟩ := rn_inv 401 (prS w) 0 0 T Q (iv_pr hI (by omega)) (by omega) (by omega) hQ0 ⟨Int.le_refl 0, show (0 : Int) ≤ 400 by decide⟩ (by omega) (by omega)
  have hF := c_U_start l E w T Q hI hT hQ hQ0
  have hM := fun σ hs => x_M_start l E w σ T Q hs hI hT hQ hQ0
  generalize rnL 401 (prS w) 0 0 = r at q1 q2 q3 q4 q5 hF hM
  have k18 : ∀ k, 18 ≤ k → rnE r k = w k := by
    intro k hk
    funext t j
    unfold rnE
    rw [up_k _ _ _ _ _ _ (by omega), up_k _ _ _ _ _ _ (by omega), q2 k hk]
    unfold prS
    rw [up_k _ _ _ _ _ _ (by omega), up_k _ _ _ _ _ _ (by omega), up_k _ _ _ _ _ _ (by omega), up_k _ _ _ _ _ _ (by omega), up_k _ _ _ _ _ _ (by omega), up_k _ _ _ _ _ _ (by omega)]
  have h10 := q1.1.2.2.2.2.1.1
  have hE : IV (rnE r) (T + 1000000) (Q + 1000) := by
    have g1 : IV (up r.2.2 15 0 3 (if r.1 = 0 then r.2.2 10 0 3 else r.2.1)) (T + 1800 * (401 : Nat)) (Q + (401 : Nat)) := iv_c q1 (by decide) (by decide) (by split <;> omega)
    exact iv_le (T := T + 1800 * (401 : Nat)) (Q := Q + (401 : Nat)) ⟨cw_r g1.1 ⟨Int.le_refl 0, (cw_n4 g1.1 g1.1.2.2.2.1.1).1⟩ (by decide), g1.2⟩ (by omega) (by omega)
  have h7 : 0 ≤ rnE r 15 0 7 := by
    show 0 ≤ r.2.2 15 0 7
    rw [q3]
    show 0 ≤ w 14 0 1 / 600
    omega
  refine ⟨r.1, rnE r, hF, by omega, ?_⟩
  have g := hM (rnE r) (rw_si hR (fun k h1 h2 => k18 k h1))
  refine ⟨_, g, fun v' W h => ?_⟩
  obtain ⟨σ', ⟨e1, e2⟩, hr', hk'⟩ := h
  obtain ⟨w', e3, hl'⟩ := li_fin E hE hr' hk' h7
  exact ⟨e1, w', by rw [e2, e3], hl'⟩
theorem o_free (hL : LI w T Q) : ∃ v : Int, FCon l E y_U_free ws_U_free 1 [.ref (E.2.2.2 0 0)] w (some (.int (iI v))) w ∧ inR v ∧ FCon l E y_M_free ws_M_free 0 [.ref (E.2.2.2 18 0)] w (some (.int (iI v))) (up w 18 0 0 0) ∧ NX E T Q (up w 18 0 0 0) := by
  obtain ⟨hI, hR, hs⟩ := id hL
  have hc := cnO_in (w 17 0) (-1) 32
  exact ⟨_, c_U_free l E w hI.1.1, by omega, c_M_free l E w (w 17 0) hR.1.2.2.2.1 hI.1.2.2.2.2.2.2, li_fin E hI hR (kc_18 _ _ _) hs⟩
theorem o_clock (hL : LI w T Q) : FCon l E y_U_clock ws_U_clock 0 [.ref (E.2.2.2 0 0)] w (some (.long (iL (w 14 0 1)))) w ∧ FCon l E y_M_clock ws_M_clock 0 [.ref (E.2.2.2 18 0)] w (some (.long (iL (w 14 0 1)))) (up w 18 0 0 0) ∧ NX E T Q (up w 18 0 0 0) := by
  obtain ⟨hI, hR, hs⟩ := id hL
  have h := c_M_clock l E w
  rw [hR.1.2.2.1.1] at h
  exact ⟨c_U_clock l E w, h, li_fin E hI hR (kc_18 _ _ _) hs⟩
theorem cw_o {σ : St} (h : clW σ) {t a : Int} (ha : -1 ≤ a ∧ a ≤ 5) : clW (up σ 17 0 t a) := by
  refine ⟨rg_up h.1 (by omega), h.2.1, h.2.2.1, h.2.2.2.1, h.2.2.2.2.1, h.2.2.2.2.2.1, fun t' => ?_⟩
  show -1 ≤ (if t' = t then a else σ 17 0 t') ∧ (if t' = t then a else σ 17 0 t') ≤ 5
  have := h.2.2.2.2.2.2 t'
  split <;> omega
theorem tk_all {a n : Int} (ha : 0 ≤ a ∧ a ≤ 5) : ∀ (m : Nat) (t c : Int) (μ σ : St), 0 ≤ t → t + m ≤ 32 → IV μ T Q → RW μ σ → IV (tkL a n m t c μ) T Q ∧ RW (tkL a n m t c μ) (tkM a n m t c σ) ∧ (∀ k, 18 ≤ k → tkL a n m t c μ k = μ k) ∧ tkL a n m t c μ 15 = μ 15 ∧ KC σ (tkM a n m t c σ) ∧ tkM a n m t c σ 18 = σ 18 := by
  intro m
  induction m with
  | zero =>
    intro t c μ σ _ _ hI hR
    exact ⟨hI, hR, fun _ _ => rfl, rfl, kc_r _, rfl⟩
  | succ m ih =>
    intro t c μ σ h0 h1 hI hR
    rw [tkL_s, tkM_s]
    by_cases hc : c < n
    · rw [if_pos hc, if_pos hc]
      have ho := hR.1.2.2.2.1 t h0 (by omega)
      have hf := hI.1.2.2.2.2.2.2 t
      by_cases hq : μ 17 0 t = -1
      · rw [if_pos hq, if_pos (by omega)]
        have ht : 0 ≤ t ∧ t < 32 := ⟨h0, by omega⟩
        have hw := (hI.1.2.1 t h0 (by omega)).1
        have e1 : (up μ 17 0 t a) 5 t (0 + 1) = 0 := hw.2.1
        have hI1 : IV (up (up μ 17 0 t a) 4 t 4 0) T Q := by
          refine ⟨cw_cut (cw_o hI.1 (by omega)) ⟨Int.le_refl 0, hw.1.1⟩ ht (fun _ => ?_), hI.2⟩
          show μ 14 0 3 ≤ 0
          rw [hR.2.2]
          exact Int.le_refl 0
        have g := rt_cut (μ := up μ 17 0 t a) (σ := up σ 25 0 t (a + 1)) (o := t) (r := 0) (fun t' q0 q1 => (hI.1.2.1 t' q0 q1).1) hR.1.2.2.2.2 ht ⟨Int.le_refl 0, hw.1.1⟩
        rw [e1] at g
        have hR1 : RW (up (up μ 17 0 t a) 4 t 4 0) (clS (up σ 25 0 t (a + 1)) t 0 600) := by
          refine ⟨⟨hR.1.1, hR.1.2.1, hR.1.2.2.1, fun t' q0 q1 => ?_, g⟩, hR.2⟩
          show (if t' = t then a + 1 else σ 25 0 t') = (if t' = t then a else μ 17 0 t') + 1
          have := hR.1.2.2.2.1 t' q0 q1
          split
          · rfl
          · exact this
        obtain ⟨q1, q2, q3, q4, q5, q6⟩ := ih (t + 1) (c + 1) _ _ (by omega) (by omega) hI1 hR1
        refine ⟨q1, q2, fun k hk => (q3 k hk).trans ?_, q4.trans ?_, kc_t (kc_t (kc_u _ _ _ _ (by decide)) (kc_cl _ _ _ _)) q5, q6.trans ?_⟩
        · funext t' j
          rw [up_k _ _ _ _ _ _ (by omega), up_k _ _ _ _ _ _ (by omega)]
        · funext t' j
          rw [up_k _ _ _ _ _ _ (by decide), up_k _ _ _ _ _ _ (by decide)]
        · funext t' j
          unfold clS
          rw [upF_eq, if_neg (fun q => absurd q.1 (by decide)), up_k _ _ _ _ _ _ (by decide)]
      · rw [if_neg hq, if_neg (by omega)]
        exact ih (t + 1) c μ σ (by omega) (by omega) hI hR
    · rw [if_neg hc, if_neg hc]
      exact ⟨hI, hR, fun _ _ => rfl, rfl, kc_r _, rfl⟩
theorem o_allocate (hl0 : l.stackTraces = false) (hL : LI w T Q) {a n : Int} (ra : inR a) (rn : inR n) : OpI l E y_U_allocate ws_U_allocate y_M_allocate ws_M_allocate True [.int (iI a), .int (iI n)] w T Q := by
  obtain ⟨hI, hR, hs⟩ := id hL
  have hc := hI.1
  have ho := hR.1.2.2.2.1
  have hf := hc.2.2.2.2.2.2
  by_cases h1 : 0 ≤ a ∧ a ≤ 5
  · by_cases h2 : 1 ≤ n ∧ n ≤ 32
    · by_cases h3 : 0 < cnO (w 17 0) a 32
      · exact pi_x hL (x_U_allocate3 l hl0 E w a n hc.1 h1 h2 (Or.inl h3)) (c_M_allocateX2 l E w (w 17 0) a n ho hf h1 h2 h3) rfl (Or.inr ⟨trivial, rfl, rfl⟩)
      · by_cases h4 : n ≤ cnO (w 17 0) (-1) 32
        · by_cases h5 : exL (w 17 0) n 32 0 0 0 ≤ 4
          · have hx := exL_in (w 17 0) n 32 0 0 0
            obtain ⟨-, -, k18, k15, -, -⟩ := tk_all (T := T) (Q := Q) (n := n) h1 32 0 0 w w (Int.le_refl 0) (by decide) hI hR
            have hR0 : RW w (up (tkL a n 32 0 0 w) 26 0 0 (exL (w 17 0) n 32 0 0 0)) := rw_si hR (fun k q0 q1 => funext fun t => funext fun j => by rw [up_k _ _ _ _ _ _ (by omega), k18 k q0])
            have hR' : RW w (up (up (tkL a n 32 0 0 w) 26 0 0 (exL (w 17 0) n 32 0 0 0)) 18 0 0 0) := hR0
            obtain ⟨q1, q2, q3, q4, q5, q6⟩ := tk_all (T := T) (Q := Q) (n := n) h1 32 0 0 w _ (Int.le_refl 0) (by decide) hI hR'
            refine pi_s (c_U_allocate l E w a n hc.1 h1 h2 h3 ⟨h4, h5⟩) (c_M_allocate l E (up (tkL a n 32 0 0 w) 26 0 0 (exL (w 17 0) n 32 0 0 0)) (w 17 0) a n (fun t q0 q1 => by rw [up_k _ _ _ _ _ _ (by decide), k18 25 (by decide)]; exact ho t q0 q1) hf h1 h2 h3 h4 h5) rfl rfl (by omega) ?_ q1 q2 (kc_t (kc_18 _ _ _) q5) (by rw [k15]; exact hs)
            rw [q6]; rfl
          · exact pi_x hL (x_U_allocate3 l hl0 E w a n hc.1 h1 h2 (Or.inr (fun q => h5 q.2))) (c_M_allocateX4 l E w (w 17 0) a n ho hf h1 h2 h3 h4 h5) rfl (Or.inr ⟨trivial, rfl, rfl⟩)
        · exact pi_x hL (x_U_allocate3 l hl0 E w a n hc.1 h1 h2 (Or.inr (fun q => h4 q.1))) (c_M_allocateX3 l E w (w 17 0) a n ho hf h1 h2 h3 h4) rfl (Or.inr ⟨trivial, rfl, rfl⟩)
    · exact pi_x hL (x_U_allocate2 l hl0 E w a n h1 rn h2) (c_M_allocateX1 l E w a n ra rn (fun q => h2 q.2)) rfl (Or.inl ⟨rfl, rfl⟩)
  · exact pi_x hL (x_U_allocate1 l hl0 E w a n ra h1) (c_M_allocateX1 l E w a n ra rn (fun q => h1 q.1)) rfl (Or.inl ⟨rfl, rfl⟩)
end OPY
