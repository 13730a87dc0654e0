/-! a command of the model stands to the class's as before -/
def RP (μ σ : St) : Prop := RR μ σ ∧ σ 18 0 19 = μ 15 0 9 ∧ σ 18 0 18 = 0 ∧ 0 ≤ μ 15 0 8
def RO (μ : St) (s : Int) (σ σ' : St) : Prop := RR μ σ' ∧ σ' 18 0 19 = μ 15 0 9 ∧ σ' 18 0 18 = s ∧ KC σ σ' ∧ σ' 18 0 12 = σ 18 0 12 ∧ 0 ≤ μ 15 0 8
theorem x_M_seek {l : Launch} {E : eT} {μ σ : St} (h : RP μ σ) (hc : clW μ) (hT : μ 14 0 1 + 3000 ≤ 1000000000) {a : Int} (ha : 0 ≤ a ∧ a ≤ 31) : ∃ σ', FCon l E y_M_seek ws_M_seek 2 [.ref (E.2.2.2 18 0), .int (iI a)] σ none σ' ∧ RO (skS μ a) 0 σ σ' := by
  obtain ⟨⟨hG, h16, hs⟩, hx, hv, h80⟩ := h
  have h8 := rr_c8 hG hc hT
  have ho := hc.2.2.2.1.1
  have e9 := hG.2.2.1.2.1
  have key : ∀ D : Int, D = 10 + 3 * (if 0 ≤ a - μ 14 0 2 then a - μ 14 0 2 else -(a - μ 14 0 2)) → RO (skS μ a) 0 σ (up (up (up (avS σ D) 18 0 9 a) 18 0 11 0) 18 0 16 0) := by
    intro D hD
    obtain ⟨g1, g2, ⟨a1, a2, a3, a4, a5, a6⟩, g4, g5⟩ := rg_av hG D
    rw [hD] at a1 a6
    refine ⟨⟨⟨g1, g2, ⟨?_, rfl, a3, a4, a5, ?_⟩, g4, g5⟩, ?_, fun _ => rfl, fun q => absurd rfl q⟩, hx, hv, kc_t (kc_av _ _) (kc_t (kc_18 _ _ _) (kc_t (kc_18 _ _ _) (kc_18 _ _ _))), rfl, ?_⟩
    · rw [hD]; exact a1
    · rw [hD]; exact a6
    · show (0 : Int) = (seS μ a 14 0 1) / 600 - (seS μ a 14 0 1 / 600)
      omega
    · show 0 ≤ (seS μ a 14 0 1) / 600
      have e : seS μ a 14 0 1 = μ 14 0 1 + (10 + 3 * (if 0 ≤ a - μ 14 0 2 then a - μ 14 0 2 else -(a - μ 14 0 2))) := rfl
      have := hc.2.2.2.1.2.1
      rw [e]
      split <;> omega
  by_cases hlt : μ 14 0 2 < a
  · exact ⟨_, c_M_seekp l E σ a (μ 14 0 2) h8 e9 ho (by omega) hlt, key _ (by rw [if_pos (by omega)])⟩
  · refine ⟨_, c_M_seekm l E σ a (μ 14 0 2) h8 e9 ho (by omega) (by omega), key _ ?_⟩
    split <;> omega
theorem x_M_skip {l : Launch} {E : eT} {μ σ : St} (h : RP μ σ) (hc : clW μ) (hT : μ 14 0 1 + 3000 ≤ 1000000000) {b : Int} (hb : 0 ≤ b ∧ b ≤ 600) : ∃ σ', FCon l E y_M_skip ws_M_skip 2 [.ref (E.2.2.2 18 0), .int (iI b)] σ none σ' ∧ RO (spS μ b) 0 σ σ' := by
  obtain ⟨hr, hx, hv, h80⟩ := h
  have h1 := rr_av hr b
  refine ⟨_, c_M_skip l E σ b (rr_c8 hr.1 hc hT) hb, ?_⟩
  by_cases h0 : b = 0
  · rw [if_neg (by omega)]
    unfold spS
    rw [if_pos h0]
    exact ⟨h1, hx, hv, kc_t (kc_av _ _) (kc_18 _ _ _), rfl, h80⟩
  · rw [if_pos (by omega)]
    unfold spS
    rw [if_neg h0]
    exact ⟨⟨h1.1, h1.2.1, fun _ => rfl, fun q => absurd rfl q⟩, hx, hv, kc_t (kc_av _ _) (kc_18 _ _ _), rfl, h80⟩
theorem rq_of {μ σ : St} (h : RR μ σ) : RQ μ σ := ⟨h.1, h.2.1⟩
/-- the move and the orientation behind it -/
theorem x_M_mb {l : Launch} {E : eT} {μ σ : St} (h : RR μ σ) (hc : clW μ) (hT : μ 14 0 1 + 3000 ≤ 1000000000) (hn : ¬ μ 4 (μ 14 0 2) 4 = 0) {p : Int} (hp : p = 1 ∨ p = 2 ∨ p = 3) :
    FCon l E y_M_orient ws_M_orient 3 [.ref (E.2.2.2 18 0), .int (iI p)] (moS σ (μ 5 (μ 14 0 2) (mvR μ))) none (orS (moS σ (μ 5 (μ 14 0 2) (mvR μ))) p (pbS μ (μ 14 0 2) (mvR μ) p)) ∧ RR (gbS (mvS μ) p) (orS (moS σ (μ 5 (μ 14 0 2) (mvR μ))) p (pbS μ (μ 14 0 2) (mvR μ) p)) := by
  have ho := hc.2.2.2.1.1
  have h4 := cw_n4 hc ho
  have hmv := mvR_in (σ := μ) (by omega) hc.2.2.2.1.2.2.1
  have h1 := rr_mv (rq_of h) 0
  refine ⟨?_, rr_gb h1 (by omega) (by show ¬ mvR μ = 0; omega) rfl⟩
  have h8 := rr_c8 h.1 hc hT
  have hw := (hc.2.1 _ ho.1 ho.2).1
  obtain ⟨c1, c2, d1, d2, d3, d4, d5⟩ := rt_rec hw (h.1.2.2.2.2 _ ho.1 ho.2) hmv
  have e8 : moS σ (μ 5 (μ 14 0 2) (mvR μ)) 18 0 8 = σ 18 0 8 + (μ 5 (μ 14 0 2) (mvR μ) - σ 18 0 8 % 600 + 600) % 600 := rfl
  have h8' : 0 ≤ moS σ (μ 5 (μ 14 0 2) (mvR μ)) 18 0 8 ∧ moS σ (μ 5 (μ 14 0 2) (mvR μ)) 18 0 8 + 3000 ≤ 1500000000 := by
    have := h.1.2.2.1.1
    rw [e8]; omega
  rcases hp with rfl | rfl | rfl
  · exact c_M_orient1 l E _ (μ 14 0 2) (μ 5 (μ 14 0 2) (mvR μ)) _ _ h8' h.1.2.2.1.2.1 ho rfl c1 c2 d1 d2 d3 (by omega)
  · exact c_M_orient2 l E _ (μ 14 0 2) (μ 5 (μ 14 0 2) (mvR μ)) _ _ h8' h.1.2.2.1.2.1 ho rfl c1 c2 d1 d2 d3 (by omega)
  · have := c_M_orient3 l E (moS σ (μ 5 (μ 14 0 2) (mvR μ))) (μ 14 0 2) (μ 5 (μ 14 0 2) (mvR μ)) _ _ h8' h.1.2.2.1.2.1 ho rfl c1 c2 d1 d2 d3 (by omega)
    rw [d4] at this
    exact this
theorem gb_tm {μ : St} (hc : clW μ) (hT : μ 14 0 1 + 3000 ≤ 1000000000) (p : Int) : 0 ≤ gbS (mvS μ) p 14 0 1 ∧ gbS (mvS μ) p 14 0 1 ≤ 1000000000 := by
  have h0 := hc.2.2.2.1.2.1
  have e : gbS (mvS μ) p 14 0 1 = mvS μ 14 0 1 + (pbS (mvS μ) (mvS μ 14 0 2) (mvS μ 14 0 3) p - mvS μ 14 0 1 % 600 + 600) % 600 := rfl
  have e1 : mvS μ 14 0 1 = μ 14 0 1 + (μ 5 (μ 14 0 2) (mvR μ) - μ 14 0 1 % 600 + 600) % 600 := rfl
  rw [e, e1]
  omega
theorem gb_rs {μ ρ : St} {p : Int} (h : RR (gbS (mvS μ) p) ρ) (hc : clW μ) (hT : μ 14 0 1 + 3000 ≤ 1000000000) (h80 : 0 ≤ μ 15 0 8) : inR (ρ 18 0 16) := by
  have e1 : gbS (mvS μ) p 15 0 8 = μ 15 0 8 := rfl
  have e2 := gb_tm hc hT p
  have r8 := hc.1 15 0 8
  rw [h.2.1, e1]
  omega
theorem ix_eq {μ σ : St} (h : RR μ σ) : ixS μ = if 3 ≤ σ 18 0 16 then 1 else 0 := by unfold ixS; rw [h.2.1]
/-- how a search ends -/
theorem x_se {μ σ ρ : St} {s : Int} {c : Prop} [Decidable c] (h : RR μ ρ) (hx : ρ 18 0 19 = μ 15 0 9) (hv : ρ 18 0 18 = 0) (hk : KC σ ρ) (he : ρ 18 0 12 = σ 18 0 12) (hs : ρ 18 0 16 = s) (h80 : 0 ≤ μ 15 0 8) : RO (pnS μ (decide c)) (ixS μ) σ (up (if 3 ≤ s then up ρ 18 0 18 1 else ρ) 18 0 19 (ρ 18 0 19 + (if c then 1 else 0))) := by
  rw [ix_eq h, hs]
  have e9 : ∀ b : Bool, pnS μ b 15 0 9 = μ 15 0 9 + (if b = true then 1 else 0) := by
    intro b
    cases b
    · show μ 15 0 9 = _; simp
    · show μ 15 0 9 + 1 = _; simp
  have hp8 : 0 ≤ pnS μ (decide c) 15 0 8 := by
    unfold pnS
    split
    · exact h80
    · exact h80
  have hp : RR (pnS μ (decide c)) ρ := by
    unfold pnS
    split
    · exact h
    · exact h
  by_cases h3 : 3 ≤ s
  · rw [if_pos h3, if_pos h3]
    refine ⟨hp, ?_, rfl, kc_t hk (kc_t (kc_18 _ _ _) (kc_18 _ _ _)), he, hp8⟩
    rw [e9, ← hx]
    by_cases hc : c
    · rw [if_pos hc, if_pos (decide_eq_true hc)]; rfl
    · rw [if_neg hc, if_neg (fun q => hc (of_decide_eq_true q))]; rfl
  · rw [if_neg h3, if_neg h3]
    refine ⟨hp, ?_, hv, kc_t hk (kc_18 _ _ _), he, hp8⟩
    rw [e9, ← hx]
    by_cases hc : c
    · rw [if_pos hc, if_pos (decide_eq_true hc)]; rfl
    · rw [if_neg hc, if_neg (fun q => hc (of_decide_eq_true q))]; rfl
theorem x_M_search1 {l : Launch} {E : eT} {μ σ : St} (h : RP μ σ) (hc : clW μ) (hT : μ 14 0 1 + 3000 ≤ 1000000000) {a b : Int} (ra : inR a) : ∃ σ', FCon l E y_M_search ws_M_search 5 [.ref (E.2.2.2 18 0), .int (iI 1), .int (iI a), .int (iI b)] σ none σ' ∧ RO (snS μ a) (snV μ) σ σ' := by
  obtain ⟨hr, hx, hv, h80⟩ := h
  have ho := hc.2.2.2.1.1
  have hw := (hc.2.1 _ ho.1 ho.2).1
  by_cases hn : μ 4 (μ 14 0 2) 4 = 0
  · refine ⟨_, c_M_search0 l E σ _ 1 a b (x_M_movesOn0 hr hc hT hn), ?_⟩
    unfold snS snV
    rw [if_pos hn, if_pos hn]
    exact ⟨rr_0 hr, hx, rfl, kc_t (kc_av _ _) (kc_18 _ _ _), rfl, h80⟩
  · obtain ⟨h1, h2⟩ := x_M_mb (l := l) (E := E) hr hc hT hn (p := 1) (Or.inl rfl)
    have h4 := cw_n4 hc ho
    have hmv := mvR_in (σ := μ) (by omega) hc.2.2.2.1.2.2.1
    obtain ⟨c1, c2, d1, d2, d3, d4, d5⟩ := rt_rec hw (hr.1.2.2.2.2 _ ho.1 ho.2) hmv
    have rs := gb_rs (p := 1) h2 hc hT h80
    refine ⟨_, c_M_search1 l E σ _ _ a b (μ 14 0 2) (μ 5 (μ 14 0 2) (mvR μ)) (mvR μ) _ (x_M_movesOn hr hc hT hn) h1 hr.1.2.2.1.2.1 ho rfl (by omega) (rt_num hw (hr.1.2.2.2.2 _ ho.1 ho.2) hmv) (by omega) ra rfl rs, ?_⟩
    unfold snS snV
    rw [if_neg hn, if_neg hn]
    exact x_se h2 hx hv (kc_t (kc_mo _ _) (kc_or _ _ _)) rfl rfl h80
theorem x_cmp {l : Launch} {E : eT} {μ σ ρ : St} {t k a b : Int} (hw : tkW μ t) (h : RT μ σ t) (hm : ∀ i, 0 ≤ i → i < 256 → σ 21 0 i = μ 2 0 i) (hb2 : byR (μ 2 0)) (ht : 0 ≤ t ∧ t < 32) (hk : 1 ≤ k ∧ k ≤ μ 4 t 4) (hb : 0 ≤ b ∧ b ≤ 8) (ha : inM a b) (e9 : ρ 18 0 9 = t) (e10 : ρ 18 0 10 = μ 5 t k) (e20 : ρ 20 = σ 20) (e21 : ρ 21 = σ 21) : FCon l E y_M_compare ws_M_compare 1 [.ref (E.2.2.2 18 0), .int (iI a), .int (iI b)] ρ (some (.int (iI (koS μ t k a b)))) ρ := by
  obtain ⟨c1, c2, d1, d2, d3, d4, d5⟩ := rt_rec hw h hk
  obtain ⟨-, -, -, q4⟩ := h.2.2.2 k hk.1 hk.2
  unfold inM at ha
  refine c_M_compare l E ρ t (μ 5 t k) (μ 6 t k) a b (fun i => μ 9 t (μ 5 t k + 20 + i)) (fun i => μ 2 0 (a + i)) e9 ht e10 (by rw [e20]; exact c1) d1 d2 (by omega) hb (by omega) (fun i h0 h1 => ?_) (fun i h0 h1 => ?_) (fun i h0 h1 => hb2 _)
  · rw [e20]; exact q4 i h0 (by omega)
  · rw [e21]; exact hm _ (by omega) (by omega)
theorem ko_in {μ : St} {t k a b : Int} (h9 : byR (μ 9 t)) (h2 : byR (μ 2 0)) (hk : 0 ≤ μ 6 t k ∧ μ 6 t k ≤ 8) (hb : 0 ≤ b ∧ b ≤ 8) : inR (koS μ t k a b) := by
  have key : ∀ (m : Nat) (i : Int), -300 ≤ cmpS (fun i => μ 9 t (μ 5 t k + 20 + i)) (fun i => μ 2 0 (a + i)) (μ 6 t k) b m i ∧ cmpS (fun i => μ 9 t (μ 5 t k + 20 + i)) (fun i => μ 2 0 (a + i)) (μ 6 t k) b m i ≤ 300 := by
    intro m
    induction m with
    | zero => intro i; show -300 ≤ μ 6 t k - b ∧ μ 6 t k - b ≤ 300; omega
    | succ m ih =>
      intro i
      rw [cmpS_succ]
      split
      · split
        · exact ih (i + 1)
        · have q1 := h9 (μ 5 t k + 20 + i)
          have q2 := h2 (a + i)
          omega
      · omega
  have := key 9 0
  unfold koS
  omega
theorem x_M_search23 {l : Launch} {E : eT} {μ σ : St} (h : RP μ σ) (hc : clW μ) (hT : μ 14 0 1 + 3000 ≤ 1000000000) {a b : Int} (hb : 0 ≤ b ∧ b ≤ 8) (ha : inM a b) (c : Bool) : ∃ σ', FCon l E y_M_search ws_M_search 5 [.ref (E.2.2.2 18 0), .int (iI (if c = true then 3 else 2)), .int (iI a), .int (iI b)] σ none σ' ∧ RO (kyS μ a b c) (kyV μ) σ σ' := by
  obtain ⟨hr, hx, hv, h80⟩ := h
  have ho := hc.2.2.2.1.1
  have hw := (hc.2.1 _ ho.1 ho.2).1
  by_cases hn : μ 4 (μ 14 0 2) 4 = 0
  · refine ⟨_, c_M_search0 l E σ _ _ a b (x_M_movesOn0 hr hc hT hn), ?_⟩
    unfold kyS kyV
    rw [if_pos hn, if_pos hn]
    exact ⟨rr_0 hr, hx, rfl, kc_t (kc_av _ _) (kc_18 _ _ _), rfl, h80⟩
  · obtain ⟨h1, h2⟩ := x_M_mb (l := l) (E := E) hr hc hT hn (p := 2) (Or.inr (Or.inl rfl))
    have h4 := cw_n4 hc ho
    have hmv := mvR_in (σ := μ) (by omega) hc.2.2.2.1.2.2.1
    have hcp := x_cmp (l := l) (E := E) (ρ := orS (moS σ (μ 5 (μ 14 0 2) (mvR μ))) 2 (pbS μ (μ 14 0 2) (mvR μ) 2)) hw (hr.1.2.2.2.2 _ ho.1 ho.2) hr.1.1 hc.2.2.1 ho hmv hb ha hr.1.2.2.1.2.1 rfl rfl rfl
    have d2 := (rt_rec hw (hr.1.2.2.2.2 _ ho.1 ho.2) hmv).2.2.2.1
    have rk := ko_in (a := a) (hc.2.1 _ ho.1 ho.2).2.1 hc.2.2.1 d2 hb
    have rs := gb_rs (p := 2) h2 hc hT h80
    unfold kyS kyV
    rw [if_neg hn, if_neg hn]
    cases c with
    | false =>
      refine ⟨_, c_M_search2 l E σ _ _ a b _ _ (x_M_movesOn hr hc hT hn) h1 hcp rk rfl rs, ?_⟩
      have := x_se (c := koS μ (μ 14 0 2) (mvR μ) a b = 0) h2 hx hv (kc_t (kc_mo _ _) (kc_or _ _ _)) rfl rfl h80
      rw [show (decide (koS μ (μ 14 0 2) (mvR μ) a b = 0 ∨ (false = true ∧ 0 < koS μ (μ 14 0 2) (mvR μ) a b))) = decide (koS μ (μ 14 0 2) (mvR μ) a b = 0) from decide_eq_decide.mpr ⟨fun q => q.elim (fun r => r) (fun r => absurd r.1 (by decide)), Or.inl⟩]
      exact this
    | true =>
      refine ⟨_, c_M_search3 l E σ _ _ a b _ _ (x_M_movesOn hr hc hT hn) h1 hcp rk rfl rs, ?_⟩
      have := x_se (c := 0 ≤ koS μ (μ 14 0 2) (mvR μ) a b) h2 hx hv (kc_t (kc_mo _ _) (kc_or _ _ _)) rfl rfl h80
      rw [show (decide (koS μ (μ 14 0 2) (mvR μ) a b = 0 ∨ (true = true ∧ 0 < koS μ (μ 14 0 2) (mvR μ) a b))) = decide (0 ≤ koS μ (μ 14 0 2) (mvR μ) a b) from decide_eq_decide.mpr ⟨fun q => q.elim (fun r => by omega) (fun r => by omega), fun q => by rcases Int.lt_or_eq_of_le q with r | r; exact Or.inr ⟨rfl, r⟩; exact Or.inl r.symm⟩]
      exact this
