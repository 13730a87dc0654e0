/-! counts and reads -/
theorem rr_m {μ σ : St} (h : RR μ σ) {a v w : Int} (hv : v = w) : RR (up μ 2 0 a w) (up σ 21 0 a v) := by
  obtain ⟨⟨g1, g2, g3, g4, g5⟩, h2, h3⟩ := h
  refine ⟨⟨fun i h0 h1 => ?_, g2, g3, g4, g5⟩, h2, h3⟩
  rw [up_eq, up_eq, hv]
  by_cases e : i = a
  · rw [if_pos ⟨rfl, rfl, e⟩, if_pos ⟨rfl, rfl, e⟩]
  · rw [if_neg (fun q => e q.2.2), if_neg (fun q => e q.2.2)]
    exact g1 i h0 h1
theorem x_M_readCount {l : Launch} {E : eT} {μ σ : St} (h : RP μ σ) (hc : clW μ) (hT : μ 14 0 1 + 3000 ≤ 1000000000) {a : Int} (ha : inM a 4) : ∃ σ', FCon l E y_M_readCount ws_M_readCount 5 [.ref (E.2.2.2 18 0), .int (iI a)] σ none σ' ∧ RO (rcS μ a) (rcV μ) σ σ' := by
  obtain ⟨hr, hx, hv, h80⟩ := h
  have ho := hc.2.2.2.1.1
  have hw := (hc.2.1 _ ho.1 ho.2).1
  by_cases hn : μ 4 (μ 14 0 2) 4 = 0
  · refine ⟨_, c_M_readCount0 l E σ _ a (x_M_movesOn0 hr hc hT hn), ?_⟩
    unfold rcS rcV
    rw [if_pos hn, if_pos hn]
    exact ⟨rr_0 hr, hx, rfl, kc_t (kc_av _ _) (kc_18 _ _ _), rfl, h80⟩
  · obtain ⟨h1, h2⟩ := x_M_mb (l := l) (E := E) hr hc hT hn (p := 1) (Or.inl rfl)
    have h4 := cw_n4 hc ho
    have hmv := mvR_in (σ := μ) (by omega) hc.2.2.2.1.2.2.1
    obtain ⟨c1, c2, d1, d2, d3, d4, d5⟩ := rt_rec hw (hr.1.2.2.2.2 _ ho.1 ho.2) hmv
    unfold inM at ha
    refine ⟨_, c_M_readCount l E σ _ _ a (μ 14 0 2) (μ 5 (μ 14 0 2) (mvR μ)) (mvR μ) _ _ _ (x_M_movesOn hr hc hT hn) h1 (by omega) hr.1.2.2.1.2.1 ho rfl (by omega) (rt_num hw (hr.1.2.2.2.2 _ ho.1 ho.2) hmv) c1 c2 rfl (gb_rs h2 hc hT h80), ?_⟩
    unfold rcS rcV
    rw [if_neg hn, if_neg hn, ix_eq h2]
    have hm : RR (rc4 (gbS (mvS μ) 1) a) (up (up (up (up (orS (moS σ (μ 5 (μ 14 0 2) (mvR μ))) 1 (pbS μ (μ 14 0 2) (mvR μ) 1)) 21 0 a (μ 14 0 2)) 21 0 (a + 1) (mvR μ)) 21 0 (a + 2) (μ 6 (μ 14 0 2) (mvR μ))) 21 0 (a + 3) (dlS μ (μ 14 0 2) (mvR μ))) := by
      refine rr_m (rr_m (rr_m (rr_m h2 ?_) ?_) ?_) ?_
      · show μ 14 0 2 = μ 14 0 2 % 256; omega
      · show mvR μ = mvR μ % 256; omega
      · show μ 6 (μ 14 0 2) (mvR μ) = μ 6 (μ 14 0 2) (mvR μ) % 256; omega
      · show dlS μ (μ 14 0 2) (mvR μ) = dlS μ (μ 14 0 2) (mvR μ) % 256; omega
    have hk : ∀ v1 v2 v3 v4 : Int, KC σ (up (up (up (up (orS (moS σ (μ 5 (μ 14 0 2) (mvR μ))) 1 (pbS μ (μ 14 0 2) (mvR μ) 1)) 21 0 a v1) 21 0 (a + 1) v2) 21 0 (a + 2) v3) 21 0 (a + 3) v4) := fun v1 v2 v3 v4 => kc_t (kc_t (kc_mo _ _) (kc_or _ _ _)) (kc_t (kc_u _ _ _ _ (by decide)) (kc_t (kc_u _ _ _ _ (by decide)) (kc_t (kc_u _ _ _ _ (by decide)) (kc_u _ _ _ _ (by decide)))))
    by_cases h3 : 3 ≤ orS (moS σ (μ 5 (μ 14 0 2) (mvR μ))) 1 (pbS μ (μ 14 0 2) (mvR μ) 1) 18 0 16
    · rw [if_pos h3, if_pos h3]
      exact ⟨hm, hx, rfl, kc_t (hk _ _ _ _) (kc_18 _ _ _), rfl, h80⟩
    · rw [if_neg h3, if_neg h3]
      exact ⟨hm, hx, hv, hk _ _ _ _, rfl, h80⟩
theorem rr_tr {μ σ : St} (h : RR μ σ) (r : Int) : RR (up (up μ 15 0 6 (μ 15 0 6 + 1)) 15 0 4 r) (trS σ r) := by
  obtain ⟨⟨g1, g2, ⟨a1, a2, a3, a4, a5, a6⟩, g4, g5⟩, h2, h3⟩ := h
  refine ⟨⟨g1, g2, ⟨a1, a2, rfl, a4, ?_, a6⟩, g4, g5⟩, h2, h3⟩
  show σ 18 0 17 + 1 = μ 15 0 6 + 1
  rw [a5]
theorem rr_rd {μ σ : St} (h : RR μ σ) {t fr a n : Int} {f : Int → Int} (hf : ∀ i, 0 ≤ i → i < n → f i = μ 9 t (fr + i)) : RR (rdS μ t fr a n) (fiS σ 21 a f n) := by
  obtain ⟨⟨g1, g2, g3, g4, g5⟩, h2, h3⟩ := h
  refine ⟨⟨fun i h0 h1 => ?_, g2, g3, g4, g5⟩, h2, h3⟩
  rw [fi_k]
  show _ = (if a ≤ i ∧ i < a + n then μ 9 t (fr + (i - a)) else μ 2 0 i)
  by_cases e : a ≤ i ∧ i < a + n
  · rw [if_pos e, if_pos e]
    exact hf _ (by omega) (by omega)
  · rw [if_neg e, if_neg e]
    exact g1 i h0 h1
/-- the head comes to a part's end -/
theorem x_come {l : Launch} {E : eT} {μ σ : St} (h : RP μ σ) (hc : clW μ) (hT : μ 14 0 1 + 3000 ≤ 1000000000) {p : Int} (hp : p = 2 ∨ p = 3) (hco : coP μ p) : ∃ ρ : St, RR (cbS μ p) ρ ∧ ρ 18 0 19 = cbS μ p 15 0 9 ∧ KC σ ρ ∧ ρ 18 0 12 = σ 18 0 12 ∧ 0 ≤ cbS μ p 15 0 8 ∧
    (ρ 18 0 9 = μ 14 0 2 ∧ ρ 18 0 10 = μ 5 (μ 14 0 2) (cmR μ p) ∧ ρ 20 = σ 20 ∧ ρ 21 = σ 21) ∧ (1 ≤ cmR μ p ∧ cmR μ p ≤ μ 4 (μ 14 0 2) 4) ∧ (cbS μ p 9 = μ 9 ∧ cbS μ p 14 0 2 = μ 14 0 2 ∧ cbS μ p 5 = μ 5 ∧ cbS μ p 4 = μ 4 ∧ cbS μ p 6 = μ 6 ∧ cbS μ p 7 = μ 7 ∧ cbS μ p 2 = μ 2) ∧
    ((¬ μ 14 0 3 = 0 ∧ μ 14 0 4 < p) ∧ FCon l E y_M_orient ws_M_orient 3 [.ref (E.2.2.2 18 0), .int (iI p)] σ none ρ ∨ ¬ (¬ μ 14 0 3 = 0 ∧ μ 14 0 4 < p) ∧ ∃ τ, FCon l E y_M_movesOn ws_M_movesOn 3 [.ref (E.2.2.2 18 0)] σ (some (.int (iI 1))) τ ∧ FCon l E y_M_orient ws_M_orient 3 [.ref (E.2.2.2 18 0), .int (iI p)] τ none ρ) := by
  obtain ⟨hr, hx, hv, h80⟩ := h
  have ho := hc.2.2.2.1.1
  have h3 := hc.2.2.2.1.2.2
  have h4 := cw_n4 hc ho
  by_cases hh : ¬ μ 14 0 3 = 0 ∧ μ 14 0 4 < p
  · have e1 : cbS μ p = gbS μ p := by unfold cbS; rw [if_pos hh]
    have e2 : cmR μ p = μ 14 0 3 := by unfold cmR; rw [if_pos hh]
    obtain ⟨s1, s2, s3⟩ := hr.2.2.2 hh.1
    have hor := x_M_orient (l := l) (E := E) hr.1 hc hT (k := μ 14 0 3) (by omega) s3 (p := p) (by omega)
    rw [e1, e2]
    exact ⟨orS σ p (pbS μ (μ 14 0 2) (μ 14 0 3) p), rr_gb (rq_of hr) (by omega) hh.1 s3, hx, kc_or _ _ _, rfl, h80, ⟨hr.1.2.2.1.2.1, s3, rfl, rfl⟩, by omega, ⟨rfl, rfl, rfl, rfl, rfl, rfl, rfl⟩, Or.inl ⟨hh, hor⟩⟩
  · have hn : ¬ μ 4 (μ 14 0 2) 4 = 0 := by
      rcases hco with q | q
      · exact absurd q hh
      · exact q
    have e1 : cbS μ p = gbS (mvS μ) p := by unfold cbS; rw [if_neg hh, if_neg hn]
    have e2 : cmR μ p = mvR μ := by unfold cmR; rw [if_neg hh]
    have hmv := mvR_in (σ := μ) (by omega) h3.1
    obtain ⟨h1, h2⟩ := x_M_mb (l := l) (E := E) hr hc hT hn (p := p) (by omega)
    rw [e1, e2]
    exact ⟨_, h2, hx, kc_t (kc_mo _ _) (kc_or _ _ _), rfl, h80, ⟨hr.1.2.2.1.2.1, rfl, rfl, rfl⟩, hmv, ⟨rfl, rfl, rfl, rfl, rfl, rfl, rfl⟩, Or.inr ⟨hh, _, x_M_movesOn hr hc hT hn, h1⟩⟩
theorem tr_fin {μ' σ ρ : St} (hr : RR μ' ρ) (hx : ρ 18 0 19 = μ' 15 0 9) (hk : KC σ ρ) (he : ρ 18 0 12 = σ 18 0 12) (h80 : 0 ≤ μ' 15 0 8) {t fr a n r : Int} {f : Int → Int} (hf : ∀ i, 0 ≤ i → i < n → f i = μ' 9 t (fr + i)) (s : Int) : RO (rdS (up (up μ' 15 0 6 (μ' 15 0 6 + 1)) 15 0 4 r) t fr a n) s σ (up (fiS (trS ρ r) 21 a f n) 18 0 18 s) :=
  ⟨rr_rd (rr_tr hr r) hf, hx, rfl, kc_t hk (kc_t (kc_t (kc_18 _ _ _) (kc_18 _ _ _)) (kc_t (kc_fi _ _ _ _ (by decide)) (kc_18 _ _ _))), he, h80⟩
theorem tr_sp {μ' σ ρ : St} (hr : RR μ' ρ) (hx : ρ 18 0 19 = μ' 15 0 9) (hk : KC σ ρ) (he : ρ 18 0 12 = σ 18 0 12) (h80 : 0 ≤ μ' 15 0 8) (r b s : Int) : RO (up (up μ' 15 0 6 (μ' 15 0 6 + 1)) 15 0 4 b) s σ (up (up (trS ρ r) 18 0 13 b) 18 0 18 s) := by
  have h1 := rr_tr hr b
  exact ⟨h1, hx, rfl, kc_t hk (kc_t (kc_t (kc_18 _ _ _) (kc_18 _ _ _)) (kc_t (kc_18 _ _ _) (kc_18 _ _ _))), he, h80⟩
theorem tr_n {μ' σ ρ : St} (hr : RR μ' ρ) (hx : ρ 18 0 19 = μ' 15 0 9) (hk : KC σ ρ) (he : ρ 18 0 12 = σ 18 0 12) (h80 : 0 ≤ μ' 15 0 8) (b s : Int) : RO (up (up μ' 15 0 6 (μ' 15 0 6 + 1)) 15 0 4 b) s σ (up (trS ρ b) 18 0 18 s) := by
  have h1 := rr_tr hr b
  exact ⟨h1, hx, rfl, kc_t hk (kc_t (kc_t (kc_18 _ _ _) (kc_18 _ _ _)) (kc_18 _ _ _)), he, h80⟩
/-- no record: the transfer fails -/
theorem co_no {μ σ : St} {p : Int} (hr : RR μ σ) (hp : p = 2 ∨ p = 3) (hco : ¬ coP μ p) : μ 4 (μ 14 0 2) 4 = 0 ∧ inR (σ 18 0 11) ∧ (p = 2 → ¬ σ 18 0 11 = 1) ∧ (p = 3 → ¬ σ 18 0 11 = 1 ∧ ¬ σ 18 0 11 = 2) := by
  have hn : μ 4 (μ 14 0 2) 4 = 0 := Decidable.byContradiction (fun q => hco (Or.inr q))
  have hh : ¬ (¬ μ 14 0 3 = 0 ∧ μ 14 0 4 < p) := fun q => hco (Or.inl q)
  by_cases h0 : μ 14 0 3 = 0
  · rw [hr.2.2.1 h0]
    refine ⟨hn, by decide, fun _ => by decide, fun _ => by decide⟩
  · obtain ⟨s1, s2, s3⟩ := hr.2.2.2 h0
    have : ¬ μ 14 0 4 < p := fun q => hh ⟨h0, q⟩
    rw [s1]
    refine ⟨hn, by omega, fun _ => by omega, fun _ => by omega⟩
theorem sd_here {μ σ : St} {p : Int} (hr : RR μ σ) (hh : ¬ μ 14 0 3 = 0 ∧ μ 14 0 4 < p) : inR (σ 18 0 11) ∧ (p = 2 → σ 18 0 11 = 1) ∧ (p = 3 → σ 18 0 11 = 1 ∨ σ 18 0 11 = 2) := by
  obtain ⟨s1, s2, s3⟩ := hr.2.2.2 hh.1
  rw [s1]
  have := hh.2
  refine ⟨by omega, fun _ => by omega, fun _ => by omega⟩
theorem sd_away {μ σ : St} {p : Int} (hr : RR μ σ) (hh : ¬ (¬ μ 14 0 3 = 0 ∧ μ 14 0 4 < p)) : inR (σ 18 0 11) ∧ (p = 2 → ¬ σ 18 0 11 = 1) ∧ (p = 3 → ¬ σ 18 0 11 = 1 ∧ ¬ σ 18 0 11 = 2) := by
  by_cases h0 : μ 14 0 3 = 0
  · rw [hr.2.2.1 h0]
    exact ⟨by decide, fun _ => by decide, fun _ => by decide⟩
  · obtain ⟨s1, s2, s3⟩ := hr.2.2.2 h0
    have : ¬ μ 14 0 4 < p := fun q => hh ⟨h0, q⟩
    rw [s1]
    refine ⟨by omega, fun _ => by omega, fun _ => by omega⟩
theorem x_M_tr6 {l : Launch} {E : eT} {μ σ : St} (h : RP μ σ) (hc : clW μ) (hT : μ 14 0 1 + 3000 ≤ 1000000000) {a b : Int} (hb : 0 ≤ b ∧ b ≤ 60) (ha : inM a b) : ∃ σ', FCon l E y_M_transfer ws_M_transfer 5 [.ref (E.2.2.2 18 0), .int (iI 6), .int (iI a), .int (iI b)] σ none σ' ∧ RO (rpS μ 2 a b) (rpV μ 2 b) σ σ' := by
  have hr := h.1
  unfold inM at ha
  by_cases hco : coP μ 2
  · obtain ⟨ρ, r1, r2, r3, r4, r5, ⟨f1, f2, f3, f4⟩, hk, ⟨e9, eo, -⟩, hw⟩ := x_come (l := l) (E := E) h hc hT (Or.inl rfl) hco
    have ho := hc.2.2.2.1.1
    have hwk := (hc.2.1 _ ho.1 ho.2).1
    have hRT := hr.1.2.2.2.2 _ ho.1 ho.2
    obtain ⟨c1, c2, d1, d2, d3, d4, d5⟩ := rt_rec hwk hRT hk
    obtain ⟨-, -, -, q4⟩ := hRT.2.2.2 _ hk.1 hk.2
    have hf : ∀ i, 0 ≤ i → i < μ 6 (μ 14 0 2) (cmR μ 2) → ρ 20 0 (600 * μ 14 0 2 + μ 5 (μ 14 0 2) (cmR μ 2) + 20 + (0 + i)) % 256 = μ 9 (μ 14 0 2) (μ 5 (μ 14 0 2) (cmR μ 2) + 20 + i) := fun i h0 h1 => by
      rw [f3, Int.zero_add]; exact q4 i h0 (by omega)
    have eS : rpS μ 2 a b = rdS (up (up (cbS μ 2) 15 0 6 (cbS μ 2 15 0 6 + 1)) 15 0 4 (b - μ 6 (μ 14 0 2) (cmR μ 2))) (μ 14 0 2) (μ 5 (μ 14 0 2) (cmR μ 2) + 20) a (if μ 6 (μ 14 0 2) (cmR μ 2) < b then μ 6 (μ 14 0 2) (cmR μ 2) else b) := by
      unfold rpS
      rw [if_pos hco, if_neg (fun q => absurd q.1 (by decide))]
      rfl
    have eV : rpV μ 2 b = if b - μ 6 (μ 14 0 2) (cmR μ 2) < 0 then 3 else 0 := by
      unfold rpV
      rw [if_pos hco, if_neg (fun q => absurd q.1 (by decide)), if_pos rfl]
    rw [eS, eV]
    have fin := tr_fin (σ := σ) r1 r2 r3 r4 r5 (t := μ 14 0 2) (fr := μ 5 (μ 14 0 2) (cmR μ 2) + 20) (a := a) (n := if μ 6 (μ 14 0 2) (cmR μ 2) < b then μ 6 (μ 14 0 2) (cmR μ 2) else b) (r := b - μ 6 (μ 14 0 2) (cmR μ 2)) (f := fun i => μ 9 (μ 14 0 2) (μ 5 (μ 14 0 2) (cmR μ 2) + 20 + i)) (fun i h0 h1 => by rw [e9]) (if b - μ 6 (μ 14 0 2) (cmR μ 2) < 0 then 3 else 0)
    rcases hw with ⟨hh, hor⟩ | ⟨hh, τ, hmv, hor⟩
    · obtain ⟨s1, s2, -⟩ := sd_here hr hh
      exact ⟨_, c_M_transfer6h l E σ ρ a b (μ 14 0 2) _ _ (dlS μ (μ 14 0 2) (cmR μ 2)) _ (fun i => μ 9 (μ 14 0 2) (μ 5 (μ 14 0 2) (cmR μ 2) + 20 + i)) rfl s1 (s2 rfl) hor f1 ho f2 (by omega) (by rw [f3]; exact c1) (by rw [f3]; exact c2) d2 d3 (by omega) (by omega) hb hf, fin⟩
    · obtain ⟨s1, s2, -⟩ := sd_away hr hh
      exact ⟨_, c_M_transfer6m l E σ τ ρ a b (μ 14 0 2) _ _ (dlS μ (μ 14 0 2) (cmR μ 2)) _ (fun i => μ 9 (μ 14 0 2) (μ 5 (μ 14 0 2) (cmR μ 2) + 20 + i)) rfl s1 (s2 rfl) hmv hor f1 ho f2 (by omega) (by rw [f3]; exact c1) (by rw [f3]; exact c2) d2 d3 (by omega) (by omega) hb hf, fin⟩
  · obtain ⟨hn, s1, s2, s3⟩ := co_no hr (Or.inl rfl) hco
    refine ⟨_, c_M_transfer6z l E σ _ a b _ rfl s1 (s2 rfl) (x_M_movesOn0 hr hc hT hn), ?_⟩
    have e1 : rpS μ 2 a b = mv0 μ := by unfold rpS; rw [if_neg hco]
    have e2 : rpV μ 2 b = 1 := by unfold rpV; rw [if_neg hco]
    rw [e1, e2]
    exact ⟨rr_0 hr, h.2.1, rfl, kc_t (kc_av _ _) (kc_18 _ _ _), rfl, h.2.2.2⟩
