/-! data: read, write; erase; a new record -/
theorem x_M_tr7 {l : Launch} {E : eT} {μ σ : St} (h : RP μ σ) (hc : clW μ) (hT : μ 14 0 1 + 3000 ≤ 1000000000) {a b : Int} (hb : 0 ≤ b ∧ b ≤ 60) (ha : inM a b) : ∃ σ', FCon l E y_M_transfer ws_M_transfer 5 [.ref (E.2.2.2 18 0), .int (iI 7), .int (iI a), .int (iI b)] σ none σ' ∧ RO (rpS μ 3 a b) (rpV μ 3 b) σ σ' := by
  have hr := h.1
  unfold inM at ha
  by_cases hco : coP μ 3
  · obtain ⟨ρ, r1, r2, r3, r4, r5, ⟨f1, f2, f3, f4⟩, hk, ⟨e9, eo, -⟩, hw⟩ := x_come (l := l) (E := E) h hc hT (Or.inr rfl) hco
    have ho := hc.2.2.2.1.1
    have hwk := (hc.2.1 _ ho.1 ho.2).1
    have h7 := (hc.2.1 _ ho.1 ho.2).2.2 (cmR μ 3)
    have hRT := hr.1.2.2.2.2 _ ho.1 ho.2
    obtain ⟨c1, c2, d1, d2, d3, d4, d5⟩ := rt_rec hwk hRT hk
    obtain ⟨-, -, q3, q4⟩ := hRT.2.2.2 _ hk.1 hk.2
    have e3 : ρ 20 0 (600 * μ 14 0 2 + μ 5 (μ 14 0 2) (cmR μ 3) + 3) = μ 7 (μ 14 0 2) (cmR μ 3) := by rw [f3]; exact q3
    have hf : ∀ i, 0 ≤ i → i < dlS μ (μ 14 0 2) (cmR μ 3) → ρ 20 0 (600 * μ 14 0 2 + μ 5 (μ 14 0 2) (cmR μ 3) + 20 + (μ 6 (μ 14 0 2) (cmR μ 3) + i)) % 256 = μ 9 (μ 14 0 2) (μ 5 (μ 14 0 2) (cmR μ 3) + 20 + μ 6 (μ 14 0 2) (cmR μ 3) + i) := fun i h0 h1 => by
      rw [f3, q4 _ (by omega) (by omega), Int.add_assoc (μ 5 (μ 14 0 2) (cmR μ 3) + 20)]
    by_cases hsp : μ 7 (μ 14 0 2) (cmR μ 3) = 1
    · have eS : rpS μ 3 a b = up (up (cbS μ 3) 15 0 6 (cbS μ 3 15 0 6 + 1)) 15 0 4 b := by
        unfold rpS
        rw [if_pos hco, if_pos ⟨rfl, hsp⟩]
        rfl
      have eV : rpV μ 3 b = 4 := by
        unfold rpV
        rw [if_pos hco, if_pos ⟨rfl, hsp⟩]
      rw [eS, eV]
      have fin := tr_sp (σ := σ) r1 r2 r3 r4 r5 (b - dlS μ (μ 14 0 2) (cmR μ 3)) b 4
      rcases hw with ⟨hh, hor⟩ | ⟨hh, τ, hmv, hor⟩
      · obtain ⟨s1, -, s2⟩ := sd_here hr hh
        exact ⟨_, c_M_transfer7hs l E σ ρ a b (μ 14 0 2) _ _ (dlS μ (μ 14 0 2) (cmR μ 3)) _ rfl s1 (s2 rfl) hor f1 ho f2 (by omega) (by rw [f3]; exact c1) (by rw [f3]; exact c2) d2 d3 (by omega) (by omega) hb (by rw [e3]; omega) (by rw [e3]; exact hsp), fin⟩
      · obtain ⟨s1, -, s2⟩ := sd_away hr hh
        exact ⟨_, c_M_transfer7ms l E σ τ ρ a b (μ 14 0 2) _ _ (dlS μ (μ 14 0 2) (cmR μ 3)) _ rfl s1 (s2 rfl) hmv hor f1 ho f2 (by omega) (by rw [f3]; exact c1) (by rw [f3]; exact c2) d2 d3 (by omega) (by omega) hb (by rw [e3]; omega) (by rw [e3]; exact hsp), fin⟩
    · have eS : rpS μ 3 a b = rdS (up (up (cbS μ 3) 15 0 6 (cbS μ 3 15 0 6 + 1)) 15 0 4 (b - dlS μ (μ 14 0 2) (cmR μ 3))) (μ 14 0 2) (μ 5 (μ 14 0 2) (cmR μ 3) + 20 + μ 6 (μ 14 0 2) (cmR μ 3)) a (if dlS μ (μ 14 0 2) (cmR μ 3) < b then dlS μ (μ 14 0 2) (cmR μ 3) else b) := by
        unfold rpS
        rw [if_pos hco, if_neg (fun q => hsp q.2)]
        rfl
      have eV : rpV μ 3 b = if b - dlS μ (μ 14 0 2) (cmR μ 3) < 0 then 3 else 0 := by
        unfold rpV
        rw [if_pos hco, if_neg (fun q => hsp q.2), if_neg (show ¬ (3 : Int) = 2 by decide)]
      rw [eS, eV]
      have fin := tr_fin (σ := σ) r1 r2 r3 r4 r5 (t := μ 14 0 2) (fr := μ 5 (μ 14 0 2) (cmR μ 3) + 20 + μ 6 (μ 14 0 2) (cmR μ 3)) (a := a) (n := if dlS μ (μ 14 0 2) (cmR μ 3) < b then dlS μ (μ 14 0 2) (cmR μ 3) else b) (r := b - dlS μ (μ 14 0 2) (cmR μ 3)) (f := fun i => μ 9 (μ 14 0 2) (μ 5 (μ 14 0 2) (cmR μ 3) + 20 + μ 6 (μ 14 0 2) (cmR μ 3) + i)) (fun i h0 h1 => by rw [e9]) (if b - dlS μ (μ 14 0 2) (cmR μ 3) < 0 then 3 else 0)
      rcases hw with ⟨hh, hor⟩ | ⟨hh, τ, hmv, hor⟩
      · obtain ⟨s1, -, s2⟩ := sd_here hr hh
        exact ⟨_, c_M_transfer7h l E σ ρ a b (μ 14 0 2) _ _ (dlS μ (μ 14 0 2) (cmR μ 3)) _ (fun i => μ 9 (μ 14 0 2) (μ 5 (μ 14 0 2) (cmR μ 3) + 20 + μ 6 (μ 14 0 2) (cmR μ 3) + i)) rfl s1 (s2 rfl) hor f1 ho f2 (by omega) (by rw [f3]; exact c1) (by rw [f3]; exact c2) d2 d3 (by omega) (by omega) hb hf (by rw [e3]; omega) (by rw [e3]; exact hsp), fin⟩
      · obtain ⟨s1, -, s2⟩ := sd_away hr hh
        exact ⟨_, c_M_transfer7m l E σ τ ρ a b (μ 14 0 2) _ _ (dlS μ (μ 14 0 2) (cmR μ 3)) _ (fun i => μ 9 (μ 14 0 2) (μ 5 (μ 14 0 2) (cmR μ 3) + 20 + μ 6 (μ 14 0 2) (cmR μ 3) + i)) rfl s1 (s2 rfl) hmv hor f1 ho f2 (by omega) (by rw [f3]; exact c1) (by rw [f3]; exact c2) d2 d3 (by omega) (by omega) hb hf (by rw [e3]; omega) (by rw [e3]; exact hsp), fin⟩
  · obtain ⟨hn, s1, s2, s3⟩ := co_no hr (Or.inr rfl) hco
    refine ⟨_, c_M_transfer7z l E σ _ 7 a b _ (by decide) (by decide) rfl s1 (s3 rfl) (x_M_movesOn0 hr hc hT hn), ?_⟩
    have e1 : rpS μ 3 a b = mv0 μ := by unfold rpS; rw [if_neg hco]
    have e2 : rpV μ 3 b = 1 := by unfold rpV; rw [if_neg hco]
    rw [e1, e2]
    exact ⟨rr_0 hr, h.2.1, rfl, kc_t (kc_av _ _) (kc_18 _ _ _), rfl, h.2.2.2⟩
theorem up_by {M : St} {o F N t' κ v : Int} {g : Int → Int} : up (byS M o F g N) 7 t' κ v = byS (up M 7 t' κ v) o F g N := by
  apply st_ext
  intro k t j
  rw [up_eq]
  unfold byS
  rw [upF_eq, upF_eq]
  by_cases h9 : k = 9 ∧ t = o
  · rw [if_neg (fun q => by have := q.1; omega), if_pos h9, if_pos h9]; rfl
  · rw [if_neg h9, if_neg h9, up_eq]
theorem x_M_tr8 {l : Launch} {E : eT} {μ σ : St} (h : RP μ σ) (hc : clW μ) (hT : μ 14 0 1 + 3000 ≤ 1000000000) {a b : Int} (hb : 0 ≤ b ∧ b ≤ 60) (ha : inM a b) : ∃ σ', FCon l E y_M_transfer ws_M_transfer 5 [.ref (E.2.2.2 18 0), .int (iI 8), .int (iI a), .int (iI b)] σ none σ' ∧ RO (wdS μ a b) (wdV μ b) σ σ' := by
  have hr := h.1
  unfold inM at ha
  by_cases hco : coP μ 3
  · obtain ⟨ρ, r1, r2, r3, r4, r5, ⟨f1, f2, f3, f4⟩, hk, ⟨e9, eo, e5, e4, e6, e7, e22⟩, hw⟩ := x_come (l := l) (E := E) h hc hT (Or.inr rfl) hco
    have ho := hc.2.2.2.1.1
    have hwk := (hc.2.1 _ ho.1 ho.2).1
    have hRT := hr.1.2.2.2.2 _ ho.1 ho.2
    obtain ⟨c1, c2, d1, d2, d3, d4, d5⟩ := rt_rec hwk hRT hk
    by_cases hbn : b = dlS μ (μ 14 0 2) (cmR μ 3)
    · have eS : wdS μ a b = up (wrS (up (up (cbS μ 3) 15 0 6 (cbS μ 3 15 0 6 + 1)) 15 0 4 (b - dlS μ (μ 14 0 2) (cmR μ 3))) (μ 14 0 2) (μ 5 (μ 14 0 2) (cmR μ 3) + 20 + μ 6 (μ 14 0 2) (cmR μ 3)) a (dlS μ (μ 14 0 2) (cmR μ 3))) 7 (μ 14 0 2) (cmR μ 3) 0 := by
        unfold wdS
        rw [if_pos hco, if_pos (by omega)]
        rfl
      have eV : wdV μ b = 0 := by
        unfold wdV
        rw [if_pos hco, if_pos (by omega)]
      rw [eS, eV]
      have t1 := rr_tr r1 (b - dlS μ (μ 14 0 2) (cmR μ 3))
      have hm : ∀ i, 0 ≤ i → i < b → ρ 21 0 (a + i) = μ 2 0 (a + i) := fun i h0 h1 => by rw [f4]; exact hr.1.1 _ (by omega) (by omega)
      have hwA : ∀ t, 0 ≤ t → t < 32 → tkW (up (up (cbS μ 3) 15 0 6 (cbS μ 3 15 0 6 + 1)) 15 0 4 (b - dlS μ (μ 14 0 2) (cmR μ 3))) t := fun t h0 h1 => tk_of (hc.2.1 t h0 h1).1 (congrFun (congrFun e4 t) 4) (fun j => congrFun (congrFun e5 t) j) (fun j => congrFun (congrFun e6 t) j)
      have q5 : up (up (cbS μ 3) 15 0 6 (cbS μ 3 15 0 6 + 1)) 15 0 4 (b - dlS μ (μ 14 0 2) (cmR μ 3)) 5 = μ 5 := e5
      have q4 : up (up (cbS μ 3) 15 0 6 (cbS μ 3 15 0 6 + 1)) 15 0 4 (b - dlS μ (μ 14 0 2) (cmR μ 3)) 4 = μ 4 := e4
      have q2 : up (up (cbS μ 3) 15 0 6 (cbS μ 3 15 0 6 + 1)) 15 0 4 (b - dlS μ (μ 14 0 2) (cmR μ 3)) 2 = μ 2 := e22
      have q9 : ρ 18 0 19 = up (up (cbS μ 3) 15 0 6 (cbS μ 3 15 0 6 + 1)) 15 0 4 (b - dlS μ (μ 14 0 2) (cmR μ 3)) 15 0 9 := r2
      have q8 : 0 ≤ up (up (cbS μ 3) 15 0 6 (cbS μ 3 15 0 6 + 1)) 15 0 4 (b - dlS μ (μ 14 0 2) (cmR μ 3)) 15 0 8 := r5
      have fin : RO (up (wrS (up (up (cbS μ 3) 15 0 6 (cbS μ 3 15 0 6 + 1)) 15 0 4 (b - dlS μ (μ 14 0 2) (cmR μ 3))) (μ 14 0 2) (μ 5 (μ 14 0 2) (cmR μ 3) + 20 + μ 6 (μ 14 0 2) (cmR μ 3)) a (dlS μ (μ 14 0 2) (cmR μ 3))) 7 (μ 14 0 2) (cmR μ 3) 0) 0 σ (up (fiS (up (trS ρ (b - dlS μ (μ 14 0 2) (cmR μ 3))) 20 0 (600 * μ 14 0 2 + μ 5 (μ 14 0 2) (cmR μ 3) + 3) (Int.bmod (Int.bmod 0 256) 256)) 20 (600 * μ 14 0 2 + μ 5 (μ 14 0 2) (cmR μ 3) + 20 + μ 6 (μ 14 0 2) (cmR μ 3)) (fun i => ((ρ 21 0 (a + i)).bmod 256).bmod 256) (dlS μ (μ 14 0 2) (cmR μ 3))) 18 0 18 0) := by
        clear eS
        generalize up (up (cbS μ 3) 15 0 6 (cbS μ 3 15 0 6 + 1)) 15 0 4 (b - dlS μ (μ 14 0 2) (cmR μ 3)) = M at *
        have g1 := rt_sp (v := 0) hwA t1.1.2.2.2.2 ho (show 1 ≤ cmR μ 3 ∧ cmR μ 3 ≤ M 4 (μ 14 0 2) 4 by rw [q4]; exact hk)
        have g2 := rt_by (μ := up M 7 (μ 14 0 2) (cmR μ 3) 0) (F := μ 5 (μ 14 0 2) (cmR μ 3) + 20 + μ 6 (μ 14 0 2) (cmR μ 3)) (N := dlS μ (μ 14 0 2) (cmR μ 3)) (f := fun i => ((ρ 21 0 (a + i)).bmod 256).bmod 256) (g := fun i => M 2 0 (a + i)) hwA g1 ho (κ := cmR μ 3) (show 1 ≤ cmR μ 3 ∧ cmR μ 3 ≤ M 4 (μ 14 0 2) 4 by rw [q4]; exact hk) (show M 5 (μ 14 0 2) (cmR μ 3) + 20 ≤ _ by rw [q5]; omega) (show _ ≤ M 5 (μ 14 0 2) (cmR μ 3 + 1) by rw [q5]; omega) (fun i h0 h1 => by
          show ((ρ 21 0 (a + i)).bmod 256).bmod 256 % 256 = M 2 0 (a + i)
          rw [hm i h0 (by omega), q2]
          exact bm_mod (hc.2.2.1 _))
        rw [q5, ← up_by, show 600 * μ 14 0 2 + (μ 5 (μ 14 0 2) (cmR μ 3) + 20 + μ 6 (μ 14 0 2) (cmR μ 3)) = 600 * μ 14 0 2 + μ 5 (μ 14 0 2) (cmR μ 3) + 20 + μ 6 (μ 14 0 2) (cmR μ 3) by omega] at g2
        exact ⟨⟨⟨t1.1.1, t1.1.2.1, t1.1.2.2.1, t1.1.2.2.2.1, g2⟩, t1.2.1, t1.2.2⟩, q9, rfl, kc_t r3 (kc_t (kc_t (kc_18 _ _ _) (kc_18 _ _ _)) (kc_t (kc_u _ _ _ _ (by decide)) (kc_t (kc_fi _ _ _ _ (by decide)) (kc_18 _ _ _)))), r4, q8⟩
      rcases hw with ⟨hh, hor⟩ | ⟨hh, τ, hmv, hor⟩
      · obtain ⟨s1, -, s2⟩ := sd_here hr hh
        exact ⟨_, c_M_transfer8he l E σ ρ a b (μ 14 0 2) _ _ (dlS μ (μ 14 0 2) (cmR μ 3)) _ (fun i => ((ρ 21 0 (a + i)).bmod 256).bmod 256) rfl s1 (s2 rfl) hor f1 ho f2 (by omega) (by rw [f3]; exact c1) (by rw [f3]; exact c2) d2 d3 (by omega) (by omega) hb hbn (fun i _ _ => rfl), fin⟩
      · obtain ⟨s1, -, s2⟩ := sd_away hr hh
        exact ⟨_, c_M_transfer8me l E σ τ ρ a b (μ 14 0 2) _ _ (dlS μ (μ 14 0 2) (cmR μ 3)) _ (fun i => ((ρ 21 0 (a + i)).bmod 256).bmod 256) rfl s1 (s2 rfl) hmv hor f1 ho f2 (by omega) (by rw [f3]; exact c1) (by rw [f3]; exact c2) d2 d3 (by omega) (by omega) hb hbn (fun i _ _ => rfl), fin⟩
    · have eS : wdS μ a b = up (up (cbS μ 3) 15 0 6 (cbS μ 3 15 0 6 + 1)) 15 0 4 (b - dlS μ (μ 14 0 2) (cmR μ 3)) := by
        unfold wdS
        rw [if_pos hco, if_neg (by omega)]
        rfl
      have eV : wdV μ b = 3 := by
        unfold wdV
        rw [if_pos hco, if_neg (by omega)]
      rw [eS, eV]
      have fin := tr_n (σ := σ) r1 r2 r3 r4 r5 (b - dlS μ (μ 14 0 2) (cmR μ 3)) 3
      rcases hw with ⟨hh, hor⟩ | ⟨hh, τ, hmv, hor⟩
      · obtain ⟨s1, -, s2⟩ := sd_here hr hh
        exact ⟨_, c_M_transfer8hn l E σ ρ a b (μ 14 0 2) _ _ (dlS μ (μ 14 0 2) (cmR μ 3)) _ rfl s1 (s2 rfl) hor f1 ho f2 (by omega) (by rw [f3]; exact c1) (by rw [f3]; exact c2) d2 d3 (by omega) (by omega) hb hbn, fin⟩
      · obtain ⟨s1, -, s2⟩ := sd_away hr hh
        exact ⟨_, c_M_transfer8mn l E σ τ ρ a b (μ 14 0 2) _ _ (dlS μ (μ 14 0 2) (cmR μ 3)) _ rfl s1 (s2 rfl) hmv hor f1 ho f2 (by omega) (by rw [f3]; exact c1) (by rw [f3]; exact c2) d2 d3 (by omega) (by omega) hb hbn, fin⟩
  · obtain ⟨hn, s1, s2, s3⟩ := co_no hr (Or.inr rfl) hco
    refine ⟨_, c_M_transfer7z l E σ _ 8 a b _ (by decide) (by decide) rfl s1 (s3 rfl) (x_M_movesOn0 hr hc hT hn), ?_⟩
    have e1 : wdS μ a b = mv0 μ := by unfold wdS; rw [if_neg hco]
    have e2 : wdV μ b = 1 := by unfold wdV; rw [if_neg hco]
    rw [e1, e2]
    exact ⟨rr_0 hr, h.2.1, rfl, kc_t (kc_av _ _) (kc_18 _ _ _), rfl, h.2.2.2⟩
