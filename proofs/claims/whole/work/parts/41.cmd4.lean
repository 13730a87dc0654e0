/-! erase, and a new record -/
/-- behind the walk to the record's end and the cut there -/
theorem rq_cut {μ σ : St} (h : RR μ σ) (hc : clW μ) : RQ (up (geS μ) 4 (μ 14 0 2) 4 (μ 14 0 3)) (clS (agS σ (μ 5 (μ 14 0 2) (μ 14 0 3 + 1))) (μ 14 0 2) (μ 5 (μ 14 0 2) (μ 14 0 3 + 1)) 600) := by
  have ho := hc.2.2.2.1.1
  have h1 := rq_ag (rq_of h) (μ 5 (μ 14 0 2) (μ 14 0 3 + 1))
  have g := rt_cut (μ := geS μ) (r := μ 14 0 3) (o := μ 14 0 2) (fun t h0 h2 => (hc.2.1 t h0 h2).1) h1.1.2.2.2.2 ho hc.2.2.2.1.2.2
  exact ⟨⟨h1.1.1, h1.1.2.1, h1.1.2.2.1, h1.1.2.2.2.1, g⟩, h1.2⟩
theorem x_M_goesOn {l : Launch} {E : eT} {μ σ : St} (h : RR μ σ) (hc : clW μ) (hT : μ 14 0 1 + 3000 ≤ 1000000000) : FCon l E y_M_goesOn ws_M_goesOn 3 [.ref (E.2.2.2 18 0)] σ (some (.int (iI (μ 5 (μ 14 0 2) (μ 14 0 3 + 1))))) (agS σ (μ 5 (μ 14 0 2) (μ 14 0 3 + 1))) := by
  have h8 := rr_c8 h.1 hc hT
  have ho := hc.2.2.2.1.1
  have hw := (hc.2.1 _ ho.1 ho.2).1
  by_cases h0 : μ 14 0 3 = 0
  · have e : μ 5 (μ 14 0 2) (μ 14 0 3 + 1) = 0 := by rw [h0]; exact hw.2.1
    rw [e]
    exact c_M_goesOn0 l E σ h8 (h.2.2.1 h0)
  · obtain ⟨s1, s2, s3⟩ := h.2.2.2 h0
    have h3 := hc.2.2.2.1.2.2
    obtain ⟨c1, c2, d1, d2, d3, d4, d5⟩ := rt_rec hw (h.1.2.2.2.2 _ ho.1 ho.2) (k := μ 14 0 3) (by omega)
    have := c_M_goesOn1 l E σ (μ 14 0 2) _ _ _ _ h8 h.1.2.2.1.2.1 ho s1 s2 s3 c1 c2 d1 d2 d3 (by omega)
    rw [d4] at this
    exact this
theorem x_M_erase {l : Launch} {E : eT} {μ σ : St} (h : RP μ σ) (hc : clW μ) (hT : μ 14 0 1 + 3000 ≤ 1000000000) : ∃ σ', FCon l E y_M_erase ws_M_erase 4 [.ref (E.2.2.2 18 0)] σ none σ' ∧ RO (erS μ) 0 σ σ' := by
  obtain ⟨hr, hx, hv, h80⟩ := h
  have h8 := rr_c8 hr.1 hc hT
  have ho := hc.2.2.2.1.1
  have hw := (hc.2.1 _ ho.1 ho.2).1
  have h1 := rq_av (rq_cut hr hc) 5
  have fin : RO (erS μ) 0 σ (up (avS (clS (agS σ (μ 5 (μ 14 0 2) (μ 14 0 3 + 1))) (μ 14 0 2) (μ 5 (μ 14 0 2) (μ 14 0 3 + 1)) 600) 5) 18 0 11 0) :=
    ⟨⟨h1.1, h1.2, fun _ => rfl, fun q => absurd rfl q⟩, hx, hv, kc_t (kc_ag _ _) (kc_t (kc_cl _ _ _ _) (kc_t (kc_av _ _) (kc_18 _ _ _))), rfl, h80⟩
  refine ⟨_, ?_, fin⟩
  by_cases h0 : μ 14 0 3 = 0
  · have e : μ 5 (μ 14 0 2) (μ 14 0 3 + 1) = 0 := by rw [h0]; exact hw.2.1
    rw [e]
    exact c_M_erase0 l E σ (μ 14 0 2) h8 hr.1.2.2.1.2.1 ho (hr.2.2.1 h0)
  · obtain ⟨s1, s2, s3⟩ := hr.2.2.2 h0
    have h3 := hc.2.2.2.1.2.2
    obtain ⟨c1, c2, d1, d2, d3, d4, d5⟩ := rt_rec hw (hr.1.2.2.2.2 _ ho.1 ho.2) (k := μ 14 0 3) (by omega)
    have := c_M_erase1 l E σ (μ 14 0 2) _ _ _ _ h8 hr.1.2.2.1.2.1 ho s1 s2 s3 c1 c2 d1 d2 d3 (by omega)
    rw [d4] at this
    exact this
theorem wr_wr {τ : St} {o F a n1 n2 : Int} (h1 : 0 ≤ n1) (h2 : 0 ≤ n2) : wrS (wrS τ o F a n1) o (F + n1) (a + n1) n2 = byS τ o F (fun i => τ 2 0 (a + i)) (n1 + n2) := by
  apply st_ext
  intro k t j
  by_cases h9 : k = 9 ∧ t = o
  · obtain ⟨rfl, rfl⟩ := h9
    rw [by_9s]
    have e1 : wrS (wrS τ t F a n1) t (F + n1) (a + n1) n2 9 t j = if F + n1 ≤ j ∧ j < F + n1 + n2 then wrS τ t F a n1 2 0 (a + n1 + (j - (F + n1))) else wrS τ t F a n1 9 t j := by
      show upF _ 9 t _ 9 t j = _
      rw [upF_eq, if_pos ⟨rfl, rfl⟩]
    have e2 : wrS τ t F a n1 9 t j = if F ≤ j ∧ j < F + n1 then τ 2 0 (a + (j - F)) else τ 9 t j := by
      show upF _ 9 t _ 9 t j = _
      rw [upF_eq, if_pos ⟨rfl, rfl⟩]
    have e3 : wrS τ t F a n1 2 0 (a + n1 + (j - (F + n1))) = τ 2 0 (a + (j - F)) := by
      show τ 2 0 (a + n1 + (j - (F + n1))) = _
      congr 1; omega
    rw [e1, e2, e3]
    by_cases q1 : F + n1 ≤ j ∧ j < F + n1 + n2
    · rw [if_pos q1, if_pos (by omega)]
    · rw [if_neg q1]
      by_cases q2 : F ≤ j ∧ j < F + n1
      · rw [if_pos q2, if_pos (by omega)]
      · rw [if_neg q2, if_neg (by omega)]
  · have e1 : wrS (wrS τ o F a n1) o (F + n1) (a + n1) n2 k t j = τ k t j := by
      show upF (upF _ 9 o _) 9 o _ k t j = _
      rw [upF_eq, if_neg h9, upF_eq, if_neg h9]
    rw [e1]
    unfold byS
    rw [upF_eq, if_neg h9]
theorem x_M_writeRecord {l : Launch} {E : eT} {μ σ : St} (h : RP μ σ) (hc : clW μ) (hT : μ 14 0 1 + 3000 ≤ 1000000000) {a : Int} (ha : riM μ a) : ∃ σ', FCon l E y_M_writeRecord ws_M_writeRecord 5 [.ref (E.2.2.2 18 0), .int (iI a)] σ none σ' ∧ RO (weS μ a) (weV μ a) σ σ' := by
  obtain ⟨hr, hx, hv, h80⟩ := h
  have ho := hc.2.2.2.1.1
  have hw := (hc.2.1 _ ho.1 ho.2).1
  have h3 := hc.2.2.2.1.2.2
  have he := tk_end hw h3
  obtain ⟨i1, i2, i3, i4⟩ := ha
  unfold inM at i1 i4
  have b0 := hc.2.2.1 a
  have b1 := hc.2.2.1 (a + 1)
  have hgo := x_M_goesOn (l := l) (E := E) hr hc hT
  have m0 : agS σ (μ 5 (μ 14 0 2) (μ 14 0 3 + 1)) 21 0 a = μ 2 0 a := hr.1.1 a (by omega) (by omega)
  have m1 : agS σ (μ 5 (μ 14 0 2) (μ 14 0 3 + 1)) 21 0 (a + 1) = μ 2 0 (a + 1) := hr.1.1 (a + 1) (by omega) (by omega)
  have h8 := rr_c8 hr.1 hc hT
  by_cases hf : μ 5 (μ 14 0 2) (μ 14 0 3 + 1) + (20 + μ 2 0 a + μ 2 0 (a + 1)) ≤ 600
  · have eS : weS μ a = wcD μ a (μ 2 0 a) (μ 2 0 (a + 1)) := by unfold weS; rw [if_pos hf]
    have eV : weV μ a = 0 := by unfold weV; rw [if_pos hf]
    rw [eS, eV]
    have q1 := rq_cut hr hc
    generalize hP : μ 5 (μ 14 0 2) (μ 14 0 3 + 1) = P at *
    generalize hkl : μ 2 0 a = kl at *
    generalize hdl : μ 2 0 (a + 1) = dl at *
    have n4 : up (geS μ) 4 (μ 14 0 2) 4 (μ 14 0 3) 4 (μ 14 0 2) 4 = μ 14 0 3 := up_s ..
    have n5 : up (geS μ) 4 (μ 14 0 2) 4 (μ 14 0 3) 5 (μ 14 0 2) (up (geS μ) 4 (μ 14 0 2) 4 (μ 14 0 3) 4 (μ 14 0 2) 4 + 1) = P := by rw [n4]; exact hP
    have g := rt_new (μ := up (geS μ) 4 (μ 14 0 2) 4 (μ 14 0 3)) (o := μ 14 0 2) (kl := kl) (dl := dl) (f := fun i => ((μ 2 0 (a + 2 + i)).bmod 256).bmod 256) (g := fun i => μ 2 0 (a + 2 + i)) (fun t h0 h1 => ?_) q1.1.2.2.2.2 ho (by omega) (by omega) (by rw [n5]; omega) (fun i _ _ => bm_mod (hc.2.2.1 _))
    · rw [n5, n4] at g
      have hwc : wc2 μ a kl dl = up (byS (apS (up (geS μ) 4 (μ 14 0 2) 4 (μ 14 0 3)) (μ 14 0 2) kl dl) (μ 14 0 2) (P + 20) (fun i => μ 2 0 (a + 2 + i)) (kl + dl)) 7 (μ 14 0 2) (μ 14 0 3 + 1) 0 := by
        unfold wc2 wc1 wcS
        rw [hP, wr_wr (by omega) (by omega)]
        rfl
      have e5 : wc2 μ a kl dl 5 (μ 14 0 2) (μ 14 0 3 + 1) = P := by
        rw [hwc]
        show apS (up (geS μ) 4 (μ 14 0 2) 4 (μ 14 0 3)) (μ 14 0 2) kl dl 5 (μ 14 0 2) (μ 14 0 3 + 1) = P
        rw [ap_5, n4, if_neg (by omega)]
        exact hP
      have e5' : wc2 μ a kl dl 5 (μ 14 0 2) (μ 14 0 3 + 1 + 1) = P + 20 + kl + dl := by
        rw [hwc]
        show apS (up (geS μ) 4 (μ 14 0 2) 4 (μ 14 0 3)) (μ 14 0 2) kl dl 5 (μ 14 0 2) (μ 14 0 3 + 1 + 1) = _
        rw [ap_5, n4, if_pos ⟨rfl, rfl⟩]
        show μ 5 (μ 14 0 2) (μ 14 0 3 + 1) + 20 + kl + dl = _
        rw [hP]
      have e6 : wc2 μ a kl dl 6 (μ 14 0 2) (μ 14 0 3 + 1) = kl := by
        rw [hwc]
        show apS (up (geS μ) 4 (μ 14 0 2) 4 (μ 14 0 3)) (μ 14 0 2) kl dl 6 (μ 14 0 2) (μ 14 0 3 + 1) = _
        rw [ap_6, n4, if_pos ⟨rfl, rfl⟩]
      have e4 : wc2 μ a kl dl 4 (μ 14 0 2) 4 = μ 14 0 3 + 1 := by
        rw [hwc]
        show apS (up (geS μ) 4 (μ 14 0 2) 4 (μ 14 0 3)) (μ 14 0 2) kl dl 4 (μ 14 0 2) 4 = _
        rw [ap_4, n4, if_pos rfl]
      have ed : dlS (wc2 μ a kl dl) (μ 14 0 2) (μ 14 0 3 + 1) = dl := by
        unfold dlS
        rw [e5, e5', e6]; omega
      rw [← hwc] at g
      have k2 : KC σ (fiS (laS (clS (agS σ P) (μ 14 0 2) P 600) (μ 14 0 2) P kl dl) 20 (600 * μ 14 0 2 + P + 20) (fun i => ((μ 2 0 (a + 2 + i)).bmod 256).bmod 256) (kl + dl)) := kc_t (kc_ag _ _) (kc_t (kc_cl _ _ _ _) (kc_t (kc_la _ _ _ _ _) (kc_fi _ _ _ _ (by decide))))
      have q2 : RQ (wc2 μ a kl dl) (fiS (laS (clS (agS σ P) (μ 14 0 2) P 600) (μ 14 0 2) P kl dl) 20 (600 * μ 14 0 2 + P + 20) (fun i => ((μ 2 0 (a + 2 + i)).bmod 256).bmod 256) (kl + dl)) := ⟨⟨q1.1.1, q1.1.2.1, q1.1.2.2.1, q1.1.2.2.2.1, g⟩, q1.2⟩
      have s8 : fiS (laS (clS (agS σ P) (μ 14 0 2) P 600) (μ 14 0 2) P kl dl) 20 (600 * μ 14 0 2 + P + 20) (fun i => ((μ 2 0 (a + 2 + i)).bmod 256).bmod 256) (kl + dl) 18 0 8 = σ 18 0 8 + (P - σ 18 0 8 % 600 + 600) % 600 := rfl
      have s12 : fiS (laS (clS (agS σ P) (μ 14 0 2) P 600) (μ 14 0 2) P kl dl) 20 (600 * μ 14 0 2 + P + 20) (fun i => ((μ 2 0 (a + 2 + i)).bmod 256).bmod 256) (kl + dl) 18 0 12 = σ 18 0 12 := rfl
      have s18 : fiS (laS (clS (agS σ P) (μ 14 0 2) P 600) (μ 14 0 2) P kl dl) 20 (600 * μ 14 0 2 + P + 20) (fun i => ((μ 2 0 (a + 2 + i)).bmod 256).bmod 256) (kl + dl) 18 0 18 = 0 := hv
      have s19 : fiS (laS (clS (agS σ P) (μ 14 0 2) P 600) (μ 14 0 2) P kl dl) 20 (600 * μ 14 0 2 + P + 20) (fun i => ((μ 2 0 (a + 2 + i)).bmod 256).bmod 256) (kl + dl) 18 0 19 = μ 15 0 9 := hx
      have wR := fun (ρ : St) => c_M_writeRecord1 l E σ (agS σ P) a P (μ 14 0 2) kl dl hgo (by omega) (by omega) m0 m1 (by omega) (by omega) ρ (fun i => ((μ 2 0 (a + 2 + i)).bmod 256).bmod 256) (by omega) (by omega) hr.1.2.2.1.2.1 ho (fun i j0 j1 => by
        show ((σ 21 0 (a + 2 + i)).bmod 256).bmod 256 = _
        rw [hr.1.1 _ (by omega) (by omega)])
      generalize fiS (laS (clS (agS σ P) (μ 14 0 2) P 600) (μ 14 0 2) P kl dl) 20 (600 * μ 14 0 2 + P + 20) (fun i => ((μ 2 0 (a + 2 + i)).bmod 256).bmod 256) (kl + dl) = S at *
      obtain ⟨a1, a2, -, -⟩ := (q2.1.2.2.2.2 _ ho.1 ho.2).2.2.2 (μ 14 0 3 + 1) (by omega) (by rw [e4]; exact Int.le_refl _)
      rw [e5, e6] at a1
      rw [e5, ed] at a2
      have hor := c_M_orient3 l E (up S 18 0 10 P) (μ 14 0 2) P kl dl (by show 0 ≤ S 18 0 8 ∧ S 18 0 8 + 3000 ≤ 1500000000; have := hr.1.2.2.1.1; rw [s8]; omega) q2.1.2.2.1.2.1 ho rfl a1 a2 (by omega) (by omega) (by omega) (by omega)
      refine ⟨_, wR _ hor, ?_⟩
      have q3 : RQ (up (wc3 μ a kl dl) 14 0 3 (μ 14 0 3 + 1)) (up (up S 18 0 10 P) 18 0 17 (S 18 0 17 + 1)) := by
        obtain ⟨⟨g1, g2, ⟨p1, p2, p3, p4, p5, p6⟩, g4, g5⟩, g6⟩ := q2
        refine ⟨⟨g1, g2, ⟨p1, p2, p3, p4, ?_, p6⟩, g4, g5⟩, g6⟩
        show S 18 0 17 + 1 = wc2 μ a kl dl 15 0 6 + 1
        rw [p5]
      have q4 := rr_gb q3 (p := 3) (by omega) (by show ¬ μ 14 0 3 + 1 = 0; omega) e5.symm
      have ep : pbS (up (wc3 μ a kl dl) 14 0 3 (μ 14 0 3 + 1)) (up (wc3 μ a kl dl) 14 0 3 (μ 14 0 3 + 1) 14 0 2) (up (wc3 μ a kl dl) 14 0 3 (μ 14 0 3 + 1) 14 0 3) 3 = P + 20 + kl + dl := e5'
      rw [ep] at q4
      exact ⟨⟨q4.1, q4.2.1, q4.2.2⟩, s19, s18, kc_t k2 (kc_t (kc_18 _ _ _) (kc_t (kc_18 _ _ _) (kc_t (kc_ag _ _) (kc_18 _ _ _)))), s12, h80⟩
    · exact ((cw_cut hc h3 ho (fun _ => Int.le_refl _)).2.1 t h0 h1).1
  · have eS : weS μ a = geS μ := by unfold weS; rw [if_neg hf]
    have eV : weV μ a = 5 := by unfold weV; rw [if_neg hf]
    rw [eS, eV]
    refine ⟨_, c_M_writeRecord0 l E σ _ a _ (μ 14 0 2) _ _ hgo (by omega) (by omega) m0 m1 (by omega) (by omega) (by omega), ?_⟩
    have h1 := rr_ag hr (μ 5 (μ 14 0 2) (μ 14 0 3 + 1))
    exact ⟨h1, hx, rfl, kc_t (kc_ag _ _) (kc_18 _ _ _), rfl, h80⟩
