/-! the model: searches and counts; what it leaves alone -/
def KC (σ σ' : St) : Prop := ∀ k : Nat, k < 18 ∨ 26 ≤ k → σ' k = σ k
theorem kc_r (σ : St) : KC σ σ := fun _ _ => rfl
theorem kc_t {a b c : St} (h1 : KC a b) (h2 : KC b c) : KC a c := fun k hk => (h2 k hk).trans (h1 k hk)
theorem kc_F (σ : St) {k : Nat} (t : Int) (f : Int → Int) (hk : 18 ≤ k ∧ k < 26) : KC σ (upF σ k t f) := fun k' h => funext fun t' => funext fun j => by
  rw [upF_eq, if_neg (fun q => by omega)]
theorem kc_u (σ : St) {k : Nat} (t j v : Int) (hk : 18 ≤ k ∧ k < 26) : KC σ (up σ k t j v) := kc_F σ t _ hk
theorem kc_18 (σ : St) (j v : Int) : KC σ (up σ 18 0 j v) := kc_u σ 0 j v (by decide)
theorem kc_av (σ : St) (d : Int) : KC σ (avS σ d) := kc_t (kc_18 _ _ _) (kc_t (kc_18 _ _ _) (kc_18 _ _ _))
theorem kc_ag (σ : St) (p : Int) : KC σ (agS σ p) := kc_av σ _
theorem kc_cl (σ : St) (t p q : Int) : KC σ (clS σ t p q) := kc_F σ 0 _ (by decide)
theorem kc_la (σ : St) (t p kl dl : Int) : KC σ (laS σ t p kl dl) := kc_t (kc_u _ _ _ _ (by decide)) (kc_t (kc_u _ _ _ _ (by decide)) (kc_t (kc_u _ _ _ _ (by decide)) (kc_u _ _ _ _ (by decide))))
/-- as RR, but for where the head stands on the track -/
def RQ (μ σ : St) : Prop := RG μ σ ∧ σ 18 0 16 = μ 14 0 1 / 600 - μ 15 0 8
theorem rq_av {μ σ : St} (h : RQ μ σ) (d : Int) : RQ (up μ 14 0 1 (μ 14 0 1 + d)) (avS σ d) := by
  refine ⟨rg_av h.1 d, ?_⟩
  show σ 18 0 16 + ((σ 18 0 8 + d) / 600 - σ 18 0 8 / 600) = (μ 14 0 1 + d) / 600 - μ 15 0 8
  rw [h.1.2.2.1.1, h.2]; omega
theorem rq_ag {μ σ : St} (h : RQ μ σ) (p : Int) : RQ (gtS μ p) (agS σ p) := by
  have := rq_av h ((p - μ 14 0 1 % 600 + 600) % 600)
  unfold gtS agS
  rw [h.1.2.2.1.1]
  exact this
/-- the model's state behind a move to the place q -/
def moS (σ : St) (q : Int) : St := up (agS σ q) 18 0 10 q
/-- and behind the orientation to the part p, which ends at the place q' -/
def orS (σ : St) (p q' : Int) : St := agS (up σ 18 0 11 p) q'
theorem kc_mo (σ : St) (q : Int) : KC σ (moS σ q) := kc_t (kc_ag _ _) (kc_18 _ _ _)
theorem kc_or (σ : St) (p q : Int) : KC σ (orS σ p q) := kc_t (kc_18 _ _ _) (kc_ag _ _)
theorem rr_mv {μ σ : St} (h : RQ μ σ) (q : Int) : RQ (mvS μ) (moS σ (μ 5 (μ 14 0 2) (mvR μ))) := rq_ag (μ := up μ 14 0 3 (mvR μ)) h _
theorem rr_gb {μ σ : St} (h : RQ μ σ) {p : Int} (hp : 1 ≤ p ∧ p ≤ 3) (h3 : ¬ μ 14 0 3 = 0) (h10 : σ 18 0 10 = μ 5 (μ 14 0 2) (μ 14 0 3)) : RR (gbS μ p) (orS σ p (pbS μ (μ 14 0 2) (μ 14 0 3) p)) := by
  have h1 : RQ (up μ 14 0 4 p) (up σ 18 0 11 p) := h
  have h2 := rq_ag h1 (pbS μ (μ 14 0 2) (μ 14 0 3) p)
  exact ⟨h2.1, h2.2, fun q => absurd q h3, fun _ => ⟨rfl, hp, h10⟩⟩
theorem rr_0 {μ σ : St} (h : RR μ σ) : RR (mv0 μ) (avS σ ((σ 18 0 8 / 600 + 2) * 600 - σ 18 0 8)) := by
  have h1 := rr_av h ((σ 18 0 8 / 600 + 2) * 600 - σ 18 0 8)
  have e : μ 14 0 1 + ((σ 18 0 8 / 600 + 2) * 600 - σ 18 0 8) = (μ 14 0 1 / 600 + 2) * 600 := by rw [h.1.2.2.1.1]; omega
  rw [e] at h1
  exact h1
theorem rr_c8 {μ σ : St} (h : RG μ σ) (hc : clW μ) (hT : μ 14 0 1 + 3000 ≤ 1000000000) : 0 ≤ σ 18 0 8 ∧ σ 18 0 8 + 3000 ≤ 1500000000 := by
  have := hc.2.2.2.1.2.1
  rw [h.2.2.1.1]; omega
/-- what is known of a record of the model -/
theorem rt_rec {μ σ : St} {t k : Int} (hw : tkW μ t) (h : RT μ σ t) (hk : 1 ≤ k ∧ k ≤ μ 4 t 4) : σ 20 0 (600 * t + μ 5 t k + 1) = μ 6 t k ∧ σ 20 0 (600 * t + μ 5 t k + 2) = dlS μ t k ∧ (0 ≤ μ 5 t k ∧ μ 5 t k ≤ 580) ∧ (0 ≤ μ 6 t k ∧ μ 6 t k ≤ 8) ∧ (0 ≤ dlS μ t k ∧ dlS μ t k ≤ 60) ∧ μ 5 t k + 20 + μ 6 t k + dlS μ t k = μ 5 t (k + 1) ∧ μ 5 t (k + 1) ≤ 600 := by
  obtain ⟨a1, a2, a3, a4⟩ := h.2.2.2 k hk.1 hk.2
  obtain ⟨b1, b2, b3, b4, b5⟩ := tk_at hw hk
  exact ⟨a1, a2, b1, b2, b3, b4, b5⟩
theorem x_M_movesOn {l : Launch} {E : eT} {μ σ : St} (h : RR μ σ) (hc : clW μ) (hT : μ 14 0 1 + 3000 ≤ 1000000000) (hn : ¬ μ 4 (μ 14 0 2) 4 = 0) : FCon l E y_M_movesOn ws_M_movesOn 3 [.ref (E.2.2.2 18 0)] σ (some (.int (iI 1))) (moS σ (μ 5 (μ 14 0 2) (mvR μ))) := by
  obtain ⟨hG, h16, hs0, hs1⟩ := h
  have h8 := rr_c8 hG hc hT
  have ho := hc.2.2.2.1.1
  have hw := (hc.2.1 _ ho.1 ho.2).1
  have hR := hG.2.2.2.2 _ ho.1 ho.2
  have e9 := hG.2.2.1.2.1
  have hm := rt_many hw hR
  have h4 := hw.1
  have h3 := hc.2.2.2.1.2.2
  have hi : ∀ p, 0 ≤ p → p < 600 → inR (σ 19 0 (600 * μ 14 0 2 + p)) := fun p q1 q2 => by rcases hR.1 p q1 q2 with q | q <;> rw [q] <;> decide
  have hmv := mvR_in (σ := μ) (by omega) h3.1
  obtain ⟨a1, a2, b1, b2, b3, b4, b5⟩ := rt_rec hw hR hmv
  by_cases hr : μ 14 0 3 = 0
  · have e : mvR μ = ffS μ (μ 14 0 2) (μ 14 0 1 % 600) 32 1 := by unfold mvR; rw [if_pos hr]
    refine c_M_movesOn3 l E σ (μ 14 0 2) _ (μ 4 (μ 14 0 2) 4) h8 e9 ho hm (by omega) (hs0 hr) (by omega) (hR.2.1 _ hmv.1 hmv.2) hi (fun d q1 q2 => ?_)
    rw [hG.2.2.1.1] at q2 ⊢
    rw [e] at q2
    exact ff_none hw hR (by omega) (by omega) ⟨q1, q2⟩
  · obtain ⟨s1, s2, s3⟩ := hs1 hr
    obtain ⟨c1, c2, d1, d2, d3, d4, d5⟩ := rt_rec hw hR (k := μ 14 0 3) (by omega)
    by_cases hlt : μ 14 0 3 < μ 4 (μ 14 0 2) 4
    · have e : mvR μ = μ 14 0 3 + 1 := by unfold mvR; rw [if_neg hr, if_pos hlt]
      have ex := tk_at hw (k := μ 14 0 3 + 1) (by omega)
      have := c_M_movesOn1 l E σ (μ 14 0 2) (μ 5 (μ 14 0 2) (μ 14 0 3)) (μ 6 (μ 14 0 2) (μ 14 0 3)) (dlS μ (μ 14 0 2) (μ 14 0 3)) (μ 14 0 4) (μ 4 (μ 14 0 2) 4) h8 e9 ho hm (by omega) s1 s2 s3 c1 c2 d1 d2 d3 (by omega) (fun q => by rw [d4] at q ⊢; exact hi _ (by omega) q) (by rw [d4]; exact ⟨by omega, hR.2.1 _ (by omega) (by omega)⟩)
      rw [d4, ← e] at this
      exact this
    · have e : mvR μ = 1 := by unfold mvR; rw [if_neg hr, if_neg hlt]
      have e3 : μ 14 0 3 = μ 4 (μ 14 0 2) 4 := by omega
      have := c_M_movesOn2 l E σ (μ 14 0 2) (μ 5 (μ 14 0 2) (μ 14 0 3)) (μ 6 (μ 14 0 2) (μ 14 0 3)) (dlS μ (μ 14 0 2) (μ 14 0 3)) (μ 14 0 4) (μ 4 (μ 14 0 2) 4) h8 e9 ho hm (by omega) s1 s2 s3 c1 c2 d1 d2 d3 (by omega) (fun q => by rw [d4] at q ⊢; exact hi _ (by omega) q) (by rw [d4, e3]; exact rt_end hw hR)
      rw [e, hw.2.1]
      exact this
theorem x_M_movesOn0 {l : Launch} {E : eT} {μ σ : St} (h : RR μ σ) (hc : clW μ) (hT : μ 14 0 1 + 3000 ≤ 1000000000) (hn : μ 4 (μ 14 0 2) 4 = 0) : FCon l E y_M_movesOn ws_M_movesOn 3 [.ref (E.2.2.2 18 0)] σ (some (.int (iI 0))) (up (avS σ ((σ 18 0 8 / 600 + 2) * 600 - σ 18 0 8)) 18 0 18 1) := by
  have ho := hc.2.2.2.1.1
  have hm := rt_many (hc.2.1 _ ho.1 ho.2).1 (h.1.2.2.2.2 _ ho.1 ho.2)
  exact c_M_movesOn0 l E σ (μ 14 0 2) (rr_c8 h.1 hc hT) h.1.2.2.1.2.1 ho (hm.trans hn)
/-- the head stands at record k: oriented to the part p -/
theorem x_M_orient {l : Launch} {E : eT} {μ σ : St} (h : RG μ σ) (hc : clW μ) (hT : μ 14 0 1 + 3000 ≤ 1000000000) {k : Int} (hk : 1 ≤ k ∧ k ≤ μ 4 (μ 14 0 2) 4) (h10 : σ 18 0 10 = μ 5 (μ 14 0 2) k) {p : Int} (hp : p = 1 ∨ p = 2 ∨ p = 3) : FCon l E y_M_orient ws_M_orient 3 [.ref (E.2.2.2 18 0), .int (iI p)] σ none (orS σ p (pbS μ (μ 14 0 2) k p)) := by
  have h8 := rr_c8 h hc hT
  have ho := hc.2.2.2.1.1
  have hw := (hc.2.1 _ ho.1 ho.2).1
  obtain ⟨c1, c2, d1, d2, d3, d4, d5⟩ := rt_rec hw (h.2.2.2.2 _ ho.1 ho.2) hk
  rcases hp with rfl | rfl | rfl
  · exact c_M_orient1 l E σ (μ 14 0 2) _ _ _ h8 h.2.2.1.2.1 ho h10 c1 c2 d1 d2 d3 (by omega)
  · exact c_M_orient2 l E σ (μ 14 0 2) _ _ _ h8 h.2.2.1.2.1 ho h10 c1 c2 d1 d2 d3 (by omega)
  · have := c_M_orient3 l E σ (μ 14 0 2) _ _ _ h8 h.2.2.1.2.1 ho h10 c1 c2 d1 d2 d3 (by omega)
    rw [d4] at this
    exact this

set_option maxRecDepth 100000 in
set_option maxHeartbeats 4000000 in
theorem c_M_search0 (l : Launch) (E : eT) (σ τ : St) (w a b : Int) (hmv : FCon l E y_M_movesOn ws_M_movesOn 3 [.ref (E.2.2.2 18 0)] σ (some (.int (iI 0))) τ) : FCon l E y_M_search ws_M_search 5 [.ref (E.2.2.2 18 0), .int (iI w), .int (iI a), .int (iI b)] σ none τ := by
  refine con_of (cc := b_M_search) (nL := 5) (ret := none) (by decide) (Nat.le_of_ble_eq_true rfl) (fun z X Y hn => ?_)
  have X : Cx E z b_M_search R_M := X
  have hz := Y.2.1
  change J E z 0 0 0 [(0, .ref (E.2.2.2 18 0)), (1, .int (iI w)), (2, .int (iI a)), (3, .int (iI b))] [] (cells E σ)
  rw [← Y.1] at hmv
  refine j_aload_n X rfl d_M_search_0 ?_
  refine v_M_107 X hz (hmv) rfl rfl rfl (Nat.le_of_ble_eq_true rfl) ⟨Nat.le_refl _, Nat.le_refl _⟩ d_M_search_1 ?_
  refine j_if_ne X (by omega) d_M_search_4 (tgt := 8) rfl (fun h => absurd h (by omega)) (fun _ => ?_)
  exact j_vret X Y (Nat.le_refl _) (Nat.le_refl _) d_M_search_7 ⟨rfl, rfl⟩

set_option maxRecDepth 100000 in
set_option maxHeartbeats 4000000 in
theorem c_M_search1 (l : Launch) (E : eT) (σ τ ρ : St) (a b t q r s : Int) (hmv : FCon l E y_M_movesOn ws_M_movesOn 3 [.ref (E.2.2.2 18 0)] σ (some (.int (iI 1))) τ) (hor : FCon l E y_M_orient ws_M_orient 3 [.ref (E.2.2.2 18 0), .int (iI 1)] τ none ρ) (e9 : ρ 18 0 9 = t) (ht : 0 ≤ t ∧ t < 32) (e10 : ρ 18 0 10 = q) (hq : 0 ≤ q ∧ q < 600) (hr : smS (ρ 19 0) (600 * t) (q + 1).toNat = r) (rr : inR r) (ra : inR a) (e16 : ρ 18 0 16 = s) (rs : inR s) : FCon l E y_M_search ws_M_search 5 [.ref (E.2.2.2 18 0), .int (iI 1), .int (iI a), .int (iI b)] σ none (up (if 3 ≤ s then up ρ 18 0 18 1 else ρ) 18 0 19 (ρ 18 0 19 + (if r = a then 1 else 0))) := by
  refine con_of (cc := b_M_search) (nL := 5) (ret := none) (by decide) (Nat.le_of_ble_eq_true rfl) (fun z X Y hn => ?_)
  have X : Cx E z b_M_search R_M := X
  have hz := Y.2.1
  change J E z 0 0 0 [(0, .ref (E.2.2.2 18 0)), (1, .int (iI 1)), (2, .int (iI a)), (3, .int (iI b))] [] (cells E σ)
  rw [← Y.1] at hmv hor
  refine j_aload_n X rfl d_M_search_0 ?_
  refine v_M_107 X hz (hmv) rfl rfl rfl (Nat.le_of_ble_eq_true rfl) ⟨Nat.le_refl _, Nat.le_refl _⟩ d_M_search_1 ?_
  refine j_if_ne X (by omega) d_M_search_4 (tgt := 8) rfl (fun _ => ?_) (fun h => absurd h (by omega))
  refine j_aload_n X rfl d_M_search_8 ?_
  refine j_iload_n X rfl d_M_search_9 ?_
  refine j_iconst X d_M_search_10 ?_
  refine j_icmp_ne X (by omega) (by omega) d_M_search_11 (tgt := 18) rfl (fun h11 => ?_) (fun h11 => ?_)
  · exact absurd h11 (by omega)
  · skip
    refine j_iconst X d_M_search_14 ?_
    refine j_goto X d_M_search_15 (tgt := 19) rfl ?_
    refine v_M_111 X hz (hor) rfl rfl rfl (Nat.le_of_ble_eq_true rfl) ⟨Nat.le_refl _, Nat.le_refl _⟩ d_M_search_19 ?_
    refine j_iload_n X rfl d_M_search_22 ?_
    refine j_iconst X d_M_search_23 ?_
    refine j_icmp_ne X (by omega) (by omega) d_M_search_24 (tgt := 51) rfl (fun h24 => ?_) (fun h24 => ?_)
    · exact absurd h24 (by omega)
    · skip
      refine j_aload_n X rfl d_M_search_27 ?_
      refine j_aload_n X rfl d_M_search_28 ?_
      refine g_M_80 X d_M_search_29 ?_
      refine j_topi (congrArg iI e9) ?_
      refine j_aload_n X rfl d_M_search_32 ?_
      refine g_M_97 X d_M_search_33 ?_
      refine j_topi (congrArg iI e10) ?_
      refine v_M_114 X hz (c_M_numberOf (zl z) E ρ t q ht hq) rfl rfl rfl (Nat.le_of_ble_eq_true rfl) ⟨Nat.le_refl _, Nat.le_refl _⟩ d_M_search_36 ?_
      refine j_topi (congrArg iI hr) ?_
      refine j_iload_n X rfl d_M_search_39 ?_
      refine j_icmp_ne X (by omega) (by omega) d_M_search_40 (tgt := 47) rfl (fun h40 => ?_) (fun h40 => ?_)
      · skip
        refine j_iconst X d_M_search_47 ?_
        refine j_goto X d_M_search_48 (tgt := 87) rfl ?_
        refine j_istore X (zlt hn rfl) d_M_search_87 ?_
        refine j_aload_n X rfl d_M_search_89 ?_
        refine g_M_74 X d_M_search_90 ?_
        refine j_topi (congrArg iI e16) ?_
        refine j_iconst X d_M_search_93 ?_
        refine j_icmp_lt X (by omega) (by omega) d_M_search_94 (tgt := 102) rfl (fun h94 => ?_) (fun h94 => ?_)
        · skip
          refine j_aload_n X rfl d_M_search_102 ?_
          refine j_dup X rfl d_M_search_103 ?_
          refine g_M_120 X d_M_search_104 ?_
          refine j_iload X rfl d_M_search_107 ?_
          refine j_if_eq X (by omega) d_M_search_109 (tgt := 116) rfl (fun _ => ?_) (fun h => absurd h (by omega))
          refine j_iconst X d_M_search_116 ?_
          refine j_iadd X d_M_search_117 ?_
          refine p_M_120 X d_M_search_118 ?_
          exact j_vret X Y (Nat.le_refl _) (Nat.le_refl _) d_M_search_121 ⟨rfl, by rw [if_neg (by omega), if_neg (by omega)] <;> rfl⟩
        · skip
          refine j_aload_n X rfl d_M_search_97 ?_
          refine j_iconst X d_M_search_98 ?_
          refine p_M_91 X d_M_search_99 ?_
          refine j_aload_n X rfl d_M_search_102 ?_
          refine j_dup X rfl d_M_search_103 ?_
          refine g_M_120 X d_M_search_104 ?_
          refine j_iload X rfl d_M_search_107 ?_
          refine j_if_eq X (by omega) d_M_search_109 (tgt := 116) rfl (fun _ => ?_) (fun h => absurd h (by omega))
          refine j_iconst X d_M_search_116 ?_
          refine j_iadd X d_M_search_117 ?_
          refine p_M_120 X d_M_search_118 ?_
          exact j_vret X Y (Nat.le_refl _) (Nat.le_refl _) d_M_search_121 ⟨rfl, by rw [if_pos (by omega), if_neg (by omega)] <;> rfl⟩
      · skip
        refine j_iconst X d_M_search_43 ?_
        refine j_goto X d_M_search_44 (tgt := 87) rfl ?_
        refine j_istore X (zlt hn rfl) d_M_search_87 ?_
        refine j_aload_n X rfl d_M_search_89 ?_
        refine g_M_74 X d_M_search_90 ?_
        refine j_topi (congrArg iI e16) ?_
        refine j_iconst X d_M_search_93 ?_
        refine j_icmp_lt X (by omega) (by omega) d_M_search_94 (tgt := 102) rfl (fun h94 => ?_) (fun h94 => ?_)
        · skip
          refine j_aload_n X rfl d_M_search_102 ?_
          refine j_dup X rfl d_M_search_103 ?_
          refine g_M_120 X d_M_search_104 ?_
          refine j_iload X rfl d_M_search_107 ?_
          refine j_if_eq X (by omega) d_M_search_109 (tgt := 116) rfl (fun h => absurd h (by omega)) (fun _ => ?_)
          refine j_iconst X d_M_search_112 ?_
          refine j_goto X d_M_search_113 (tgt := 117) rfl ?_
          refine j_iadd X d_M_search_117 ?_
          refine p_M_120 X d_M_search_118 ?_
          exact j_vret X Y (Nat.le_refl _) (Nat.le_refl _) d_M_search_121 ⟨rfl, by rw [if_neg (by omega), if_pos (by omega)] <;> rfl⟩
        · skip
          refine j_aload_n X rfl d_M_search_97 ?_
          refine j_iconst X d_M_search_98 ?_
          refine p_M_91 X d_M_search_99 ?_
          refine j_aload_n X rfl d_M_search_102 ?_
          refine j_dup X rfl d_M_search_103 ?_
          refine g_M_120 X d_M_search_104 ?_
          refine j_iload X rfl d_M_search_107 ?_
          refine j_if_eq X (by omega) d_M_search_109 (tgt := 116) rfl (fun h => absurd h (by omega)) (fun _ => ?_)
          refine j_iconst X d_M_search_112 ?_
          refine j_goto X d_M_search_113 (tgt := 117) rfl ?_
          refine j_iadd X d_M_search_117 ?_
          refine p_M_120 X d_M_search_118 ?_
          exact j_vret X Y (Nat.le_refl _) (Nat.le_refl _) d_M_search_121 ⟨rfl, by rw [if_pos (by omega), if_pos (by omega)] <;> rfl⟩

set_option maxRecDepth 100000 in
set_option maxHeartbeats 4000000 in
theorem c_M_search2 (l : Launch) (E : eT) (σ τ ρ : St) (a b v s : Int) (hmv : FCon l E y_M_movesOn ws_M_movesOn 3 [.ref (E.2.2.2 18 0)] σ (some (.int (iI 1))) τ) (hor : FCon l E y_M_orient ws_M_orient 3 [.ref (E.2.2.2 18 0), .int (iI 2)] τ none ρ) (hcp : FCon l E y_M_compare ws_M_compare 1 [.ref (E.2.2.2 18 0), .int (iI a), .int (iI b)] ρ (some (.int (iI v))) ρ) (rv : inR v) (e16 : ρ 18 0 16 = s) (rs : inR s) : FCon l E y_M_search ws_M_search 5 [.ref (E.2.2.2 18 0), .int (iI 2), .int (iI a), .int (iI b)] σ none (up (if 3 ≤ s then up ρ 18 0 18 1 else ρ) 18 0 19 (ρ 18 0 19 + (if v = 0 then 1 else 0))) := by
  refine con_of (cc := b_M_search) (nL := 5) (ret := none) (by decide) (Nat.le_of_ble_eq_true rfl) (fun z X Y hn => ?_)
  have X : Cx E z b_M_search R_M := X
  have hz := Y.2.1
  change J E z 0 0 0 [(0, .ref (E.2.2.2 18 0)), (1, .int (iI 2)), (2, .int (iI a)), (3, .int (iI b))] [] (cells E σ)
  rw [← Y.1] at hmv hor hcp
  refine j_aload_n X rfl d_M_search_0 ?_
  refine v_M_107 X hz (hmv) rfl rfl rfl (Nat.le_of_ble_eq_true rfl) ⟨Nat.le_refl _, Nat.le_refl _⟩ d_M_search_1 ?_
  refine j_if_ne X (by omega) d_M_search_4 (tgt := 8) rfl (fun _ => ?_) (fun h => absurd h (by omega))
  refine j_aload_n X rfl d_M_search_8 ?_
  refine j_iload_n X rfl d_M_search_9 ?_
  refine j_iconst X d_M_search_10 ?_
  refine j_icmp_ne X (by omega) (by omega) d_M_search_11 (tgt := 18) rfl (fun h11 => ?_) (fun h11 => ?_)
  · skip
    refine j_iconst X d_M_search_18 ?_
    refine v_M_111 X hz (hor) rfl rfl rfl (Nat.le_of_ble_eq_true rfl) ⟨Nat.le_refl _, Nat.le_refl _⟩ d_M_search_19 ?_
    refine j_iload_n X rfl d_M_search_22 ?_
    refine j_iconst X d_M_search_23 ?_
    refine j_icmp_ne X (by omega) (by omega) d_M_search_24 (tgt := 51) rfl (fun h24 => ?_) (fun h24 => ?_)
    · skip
      refine j_iload_n X rfl d_M_search_51 ?_
      refine j_iconst X d_M_search_52 ?_
      refine j_icmp_ne X (by omega) (by omega) d_M_search_53 (tgt := 73) rfl (fun h53 => ?_) (fun h53 => ?_)
      · exact absurd h53 (by omega)
      · skip
        refine j_aload_n X rfl d_M_search_56 ?_
        refine j_iload_n X rfl d_M_search_57 ?_
        refine j_iload_n X rfl d_M_search_58 ?_
        refine v_M_117 X hz (hcp) rfl rfl rfl (Nat.le_of_ble_eq_true rfl) ⟨Nat.le_refl _, Nat.le_refl _⟩ d_M_search_59 ?_
        refine j_if_ne X (by omega) d_M_search_62 (tgt := 69) rfl (fun h62 => ?_) (fun h62 => ?_)
        · skip
          refine j_iconst X d_M_search_69 ?_
          refine j_goto X d_M_search_70 (tgt := 87) rfl ?_
          refine j_istore X (zlt hn rfl) d_M_search_87 ?_
          refine j_aload_n X rfl d_M_search_89 ?_
          refine g_M_74 X d_M_search_90 ?_
          refine j_topi (congrArg iI e16) ?_
          refine j_iconst X d_M_search_93 ?_
          refine j_icmp_lt X (by omega) (by omega) d_M_search_94 (tgt := 102) rfl (fun h94 => ?_) (fun h94 => ?_)
          · skip
            refine j_aload_n X rfl d_M_search_102 ?_
            refine j_dup X rfl d_M_search_103 ?_
            refine g_M_120 X d_M_search_104 ?_
            refine j_iload X rfl d_M_search_107 ?_
            refine j_if_eq X (by omega) d_M_search_109 (tgt := 116) rfl (fun _ => ?_) (fun h => absurd h (by omega))
            refine j_iconst X d_M_search_116 ?_
            refine j_iadd X d_M_search_117 ?_
            refine p_M_120 X d_M_search_118 ?_
            exact j_vret X Y (Nat.le_refl _) (Nat.le_refl _) d_M_search_121 ⟨rfl, by rw [if_neg (by omega), if_neg (by omega)] <;> rfl⟩
          · skip
            refine j_aload_n X rfl d_M_search_97 ?_
            refine j_iconst X d_M_search_98 ?_
            refine p_M_91 X d_M_search_99 ?_
            refine j_aload_n X rfl d_M_search_102 ?_
            refine j_dup X rfl d_M_search_103 ?_
            refine g_M_120 X d_M_search_104 ?_
            refine j_iload X rfl d_M_search_107 ?_
            refine j_if_eq X (by omega) d_M_search_109 (tgt := 116) rfl (fun _ => ?_) (fun h => absurd h (by omega))
            refine j_iconst X d_M_search_116 ?_
            refine j_iadd X d_M_search_117 ?_
            refine p_M_120 X d_M_search_118 ?_
            exact j_vret X Y (Nat.le_refl _) (Nat.le_refl _) d_M_search_121 ⟨rfl, by rw [if_pos (by omega), if_neg (by omega)] <;> rfl⟩
        · skip
          refine j_iconst X d_M_search_65 ?_
          refine j_goto X d_M_search_66 (tgt := 87) rfl ?_
          refine j_istore X (zlt hn rfl) d_M_search_87 ?_
          refine j_aload_n X rfl d_M_search_89 ?_
          refine g_M_74 X d_M_search_90 ?_
          refine j_topi (congrArg iI e16) ?_
          refine j_iconst X d_M_search_93 ?_
          refine j_icmp_lt X (by omega) (by omega) d_M_search_94 (tgt := 102) rfl (fun h94 => ?_) (fun h94 => ?_)
          · skip
            refine j_aload_n X rfl d_M_search_102 ?_
            refine j_dup X rfl d_M_search_103 ?_
            refine g_M_120 X d_M_search_104 ?_
            refine j_iload X rfl d_M_search_107 ?_
            refine j_if_eq X (by omega) d_M_search_109 (tgt := 116) rfl (fun h => absurd h (by omega)) (fun _ => ?_)
            refine j_iconst X d_M_search_112 ?_
            refine j_goto X d_M_search_113 (tgt := 117) rfl ?_
            refine j_iadd X d_M_search_117 ?_
            refine p_M_120 X d_M_search_118 ?_
            exact j_vret X Y (Nat.le_refl _) (Nat.le_refl _) d_M_search_121 ⟨rfl, by rw [if_neg (by omega), if_pos (by omega)] <;> rfl⟩
          · skip
            refine j_aload_n X rfl d_M_search_97 ?_
            refine j_iconst X d_M_search_98 ?_
            refine p_M_91 X d_M_search_99 ?_
            refine j_aload_n X rfl d_M_search_102 ?_
            refine j_dup X rfl d_M_search_103 ?_
            refine g_M_120 X d_M_search_104 ?_
            refine j_iload X rfl d_M_search_107 ?_
            refine j_if_eq X (by omega) d_M_search_109 (tgt := 116) rfl (fun h => absurd h (by omega)) (fun _ => ?_)
            refine j_iconst X d_M_search_112 ?_
            refine j_goto X d_M_search_113 (tgt := 117) rfl ?_
            refine j_iadd X d_M_search_117 ?_
            refine p_M_120 X d_M_search_118 ?_
            exact j_vret X Y (Nat.le_refl _) (Nat.le_refl _) d_M_search_121 ⟨rfl, by rw [if_pos (by omega), if_pos (by omega)] <;> rfl⟩
    · exact absurd h24 (by omega)
  · exact absurd h11 (by omega)

set_option maxRecDepth 100000 in
set_option maxHeartbeats 4000000 in
theorem c_M_search3 (l : Launch) (E : eT) (σ τ ρ : St) (a b v s : Int) (hmv : FCon l E y_M_movesOn ws_M_movesOn 3 [.ref (E.2.2.2 18 0)] σ (some (.int (iI 1))) τ) (hor : FCon l E y_M_orient ws_M_orient 3 [.ref (E.2.2.2 18 0), .int (iI 2)] τ none ρ) (hcp : FCon l E y_M_compare ws_M_compare 1 [.ref (E.2.2.2 18 0), .int (iI a), .int (iI b)] ρ (some (.int (iI v))) ρ) (rv : inR v) (e16 : ρ 18 0 16 = s) (rs : inR s) : FCon l E y_M_search ws_M_search 5 [.ref (E.2.2.2 18 0), .int (iI 3), .int (iI a), .int (iI b)] σ none (up (if 3 ≤ s then up ρ 18 0 18 1 else ρ) 18 0 19 (ρ 18 0 19 + (if 0 ≤ v then 1 else 0))) := by
  refine con_of (cc := b_M_search) (nL := 5) (ret := none) (by decide) (Nat.le_of_ble_eq_true rfl) (fun z X Y hn => ?_)
  have X : Cx E z b_M_search R_M := X
  have hz := Y.2.1
  change J E z 0 0 0 [(0, .ref (E.2.2.2 18 0)), (1, .int (iI 3)), (2, .int (iI a)), (3, .int (iI b))] [] (cells E σ)
  rw [← Y.1] at hmv hor hcp
  refine j_aload_n X rfl d_M_search_0 ?_
  refine v_M_107 X hz (hmv) rfl rfl rfl (Nat.le_of_ble_eq_true rfl) ⟨Nat.le_refl _, Nat.le_refl _⟩ d_M_search_1 ?_
  refine j_if_ne X (by omega) d_M_search_4 (tgt := 8) rfl (fun _ => ?_) (fun h => absurd h (by omega))
  refine j_aload_n X rfl d_M_search_8 ?_
  refine j_iload_n X rfl d_M_search_9 ?_
  refine j_iconst X d_M_search_10 ?_
  refine j_icmp_ne X (by omega) (by omega) d_M_search_11 (tgt := 18) rfl (fun h11 => ?_) (fun h11 => ?_)
  · skip
    refine j_iconst X d_M_search_18 ?_
    refine v_M_111 X hz (hor) rfl rfl rfl (Nat.le_of_ble_eq_true rfl) ⟨Nat.le_refl _, Nat.le_refl _⟩ d_M_search_19 ?_
    refine j_iload_n X rfl d_M_search_22 ?_
    refine j_iconst X d_M_search_23 ?_
    refine j_icmp_ne X (by omega) (by omega) d_M_search_24 (tgt := 51) rfl (fun h24 => ?_) (fun h24 => ?_)
    · skip
      refine j_iload_n X rfl d_M_search_51 ?_
      refine j_iconst X d_M_search_52 ?_
      refine j_icmp_ne X (by omega) (by omega) d_M_search_53 (tgt := 73) rfl (fun h53 => ?_) (fun h53 => ?_)
      · skip
        refine j_aload_n X rfl d_M_search_73 ?_
        refine j_iload_n X rfl d_M_search_74 ?_
        refine j_iload_n X rfl d_M_search_75 ?_
        refine v_M_117 X hz (hcp) rfl rfl rfl (Nat.le_of_ble_eq_true rfl) ⟨Nat.le_refl _, Nat.le_refl _⟩ d_M_search_76 ?_
        refine j_if_lt X (by omega) d_M_search_79 (tgt := 86) rfl (fun h79 => ?_) (fun h79 => ?_)
        · skip
          refine j_iconst X d_M_search_86 ?_
          refine j_istore X (zlt hn rfl) d_M_search_87 ?_
          refine j_aload_n X rfl d_M_search_89 ?_
          refine g_M_74 X d_M_search_90 ?_
          refine j_topi (congrArg iI e16) ?_
          refine j_iconst X d_M_search_93 ?_
          refine j_icmp_lt X (by omega) (by omega) d_M_search_94 (tgt := 102) rfl (fun h94 => ?_) (fun h94 => ?_)
          · skip
            refine j_aload_n X rfl d_M_search_102 ?_
            refine j_dup X rfl d_M_search_103 ?_
            refine g_M_120 X d_M_search_104 ?_
            refine j_iload X rfl d_M_search_107 ?_
            refine j_if_eq X (by omega) d_M_search_109 (tgt := 116) rfl (fun _ => ?_) (fun h => absurd h (by omega))
            refine j_iconst X d_M_search_116 ?_
            refine j_iadd X d_M_search_117 ?_
            refine p_M_120 X d_M_search_118 ?_
            exact j_vret X Y (Nat.le_refl _) (Nat.le_refl _) d_M_search_121 ⟨rfl, by rw [if_neg (by omega), if_neg (by omega)] <;> rfl⟩
          · skip
            refine j_aload_n X rfl d_M_search_97 ?_
            refine j_iconst X d_M_search_98 ?_
            refine p_M_91 X d_M_search_99 ?_
            refine j_aload_n X rfl d_M_search_102 ?_
            refine j_dup X rfl d_M_search_103 ?_
            refine g_M_120 X d_M_search_104 ?_
            refine j_iload X rfl d_M_search_107 ?_
            refine j_if_eq X (by omega) d_M_search_109 (tgt := 116) rfl (fun _ => ?_) (fun h => absurd h (by omega))
            refine j_iconst X d_M_search_116 ?_
            refine j_iadd X d_M_search_117 ?_
            refine p_M_120 X d_M_search_118 ?_
            exact j_vret X Y (Nat.le_refl _) (Nat.le_refl _) d_M_search_121 ⟨rfl, by rw [if_pos (by omega), if_neg (by omega)] <;> rfl⟩
        · skip
          refine j_iconst X d_M_search_82 ?_
          refine j_goto X d_M_search_83 (tgt := 87) rfl ?_
          refine j_istore X (zlt hn rfl) d_M_search_87 ?_
          refine j_aload_n X rfl d_M_search_89 ?_
          refine g_M_74 X d_M_search_90 ?_
          refine j_topi (congrArg iI e16) ?_
          refine j_iconst X d_M_search_93 ?_
          refine j_icmp_lt X (by omega) (by omega) d_M_search_94 (tgt := 102) rfl (fun h94 => ?_) (fun h94 => ?_)
          · skip
            refine j_aload_n X rfl d_M_search_102 ?_
            refine j_dup X rfl d_M_search_103 ?_
            refine g_M_120 X d_M_search_104 ?_
            refine j_iload X rfl d_M_search_107 ?_
            refine j_if_eq X (by omega) d_M_search_109 (tgt := 116) rfl (fun h => absurd h (by omega)) (fun _ => ?_)
            refine j_iconst X d_M_search_112 ?_
            refine j_goto X d_M_search_113 (tgt := 117) rfl ?_
            refine j_iadd X d_M_search_117 ?_
            refine p_M_120 X d_M_search_118 ?_
            exact j_vret X Y (Nat.le_refl _) (Nat.le_refl _) d_M_search_121 ⟨rfl, by rw [if_neg (by omega), if_pos (by omega)] <;> rfl⟩
          · skip
            refine j_aload_n X rfl d_M_search_97 ?_
            refine j_iconst X d_M_search_98 ?_
            refine p_M_91 X d_M_search_99 ?_
            refine j_aload_n X rfl d_M_search_102 ?_
            refine j_dup X rfl d_M_search_103 ?_
            refine g_M_120 X d_M_search_104 ?_
            refine j_iload X rfl d_M_search_107 ?_
            refine j_if_eq X (by omega) d_M_search_109 (tgt := 116) rfl (fun h => absurd h (by omega)) (fun _ => ?_)
            refine j_iconst X d_M_search_112 ?_
            refine j_goto X d_M_search_113 (tgt := 117) rfl ?_
            refine j_iadd X d_M_search_117 ?_
            refine p_M_120 X d_M_search_118 ?_
            exact j_vret X Y (Nat.le_refl _) (Nat.le_refl _) d_M_search_121 ⟨rfl, by rw [if_pos (by omega), if_pos (by omega)] <;> rfl⟩
      · exact absurd h53 (by omega)
    · exact absurd h24 (by omega)
  · exact absurd h11 (by omega)

set_option maxRecDepth 100000 in
set_option maxHeartbeats 4000000 in
theorem c_M_readCount0 (l : Launch) (E : eT) (σ τ : St) (a : Int) (hmv : FCon l E y_M_movesOn ws_M_movesOn 3 [.ref (E.2.2.2 18 0)] σ (some (.int (iI 0))) τ) : FCon l E y_M_readCount ws_M_readCount 5 [.ref (E.2.2.2 18 0), .int (iI a)] σ none τ := by
  refine con_of (cc := b_M_readCount) (nL := 2) (ret := none) (by decide) (Nat.le_of_ble_eq_true rfl) (fun z X Y hn => ?_)
  have X : Cx E z b_M_readCount R_M := X
  have hz := Y.2.1
  change J E z 0 0 0 [(0, .ref (E.2.2.2 18 0)), (1, .int (iI a))] [] (cells E σ)
  rw [← Y.1] at hmv
  refine j_aload_n X rfl d_M_readCount_0 ?_
  refine v_M_107 X hz (hmv) rfl rfl rfl (Nat.le_of_ble_eq_true rfl) ⟨Nat.le_refl _, Nat.le_refl _⟩ d_M_readCount_1 ?_
  refine j_if_ne X (by omega) d_M_readCount_4 (tgt := 8) rfl (fun h => absurd h (by omega)) (fun _ => ?_)
  exact j_vret X Y (Nat.le_refl _) (Nat.le_refl _) d_M_readCount_7 ⟨rfl, rfl⟩

set_option maxRecDepth 100000 in
set_option maxHeartbeats 4000000 in
theorem c_M_readCount (l : Launch) (E : eT) (σ τ ρ : St) (a t q r kl dl s : Int) (hmv : FCon l E y_M_movesOn ws_M_movesOn 3 [.ref (E.2.2.2 18 0)] σ (some (.int (iI 1))) τ) (hor : FCon l E y_M_orient ws_M_orient 3 [.ref (E.2.2.2 18 0), .int (iI 1)] τ none ρ) (ha : 0 ≤ a ∧ a + 4 ≤ 256) (e9 : ρ 18 0 9 = t) (ht : 0 ≤ t ∧ t < 32) (e10 : ρ 18 0 10 = q) (hq : 0 ≤ q ∧ q ≤ 580) (hr : smS (ρ 19 0) (600 * t) (q + 1).toNat = r) (e1 : ρ 20 0 (600 * t + q + 1) = kl) (e2 : ρ 20 0 (600 * t + q + 2) = dl) (e16 : ρ 18 0 16 = s) (rs : inR s) : FCon l E y_M_readCount ws_M_readCount 5 [.ref (E.2.2.2 18 0), .int (iI a)] σ none (if 3 ≤ s then up (up (up (up (up ρ 21 0 a t) 21 0 (a + 1) r) 21 0 (a + 2) kl) 21 0 (a + 3) dl) 18 0 18 1 else (up (up (up (up ρ 21 0 a t) 21 0 (a + 1) r) 21 0 (a + 2) kl) 21 0 (a + 3) dl)) := by
  refine con_of (cc := b_M_readCount) (nL := 2) (ret := none) (by decide) (Nat.le_of_ble_eq_true rfl) (fun z X Y hn => ?_)
  have X : Cx E z b_M_readCount R_M := X
  have hz := Y.2.1
  change J E z 0 0 0 [(0, .ref (E.2.2.2 18 0)), (1, .int (iI a))] [] (cells E σ)
  rw [← Y.1] at hmv hor
  refine j_aload_n X rfl d_M_readCount_0 ?_
  refine v_M_107 X hz (hmv) rfl rfl rfl (Nat.le_of_ble_eq_true rfl) ⟨Nat.le_refl _, Nat.le_refl _⟩ d_M_readCount_1 ?_
  refine j_if_ne X (by omega) d_M_readCount_4 (tgt := 8) rfl (fun _ => ?_) (fun h => absurd h (by omega))
  refine j_aload_n X rfl d_M_readCount_8 ?_
  refine j_iconst X d_M_readCount_9 ?_
  refine v_M_111 X hz (hor) rfl rfl rfl (Nat.le_of_ble_eq_true rfl) ⟨Nat.le_refl _, Nat.le_refl _⟩ d_M_readCount_10 ?_
  refine j_aload_n X rfl d_M_readCount_13 ?_
  refine g_M_16 X d_M_readCount_14 ?_
  refine j_iload_n X rfl d_M_readCount_17 ?_
  refine j_aload_n X rfl d_M_readCount_18 ?_
  refine g_M_80 X d_M_readCount_19 ?_
  refine j_topi (congrArg iI e9) ?_
  refine j_iast X (by first | exact okC1 rfl | exact (okCT rfl (by omega))) (fun _ => rfl) rfl (by omega) d_M_readCount_22 ?_
  refine j_aload_n X rfl d_M_readCount_23 ?_
  refine g_M_16 X d_M_readCount_24 ?_
  refine j_iload_n X rfl d_M_readCount_27 ?_
  refine j_iconst X d_M_readCount_28 ?_
  refine j_iadd X d_M_readCount_29 ?_
  refine j_aload_n X rfl d_M_readCount_30 ?_
  refine j_aload_n X rfl d_M_readCount_31 ?_
  refine g_M_80 X d_M_readCount_32 ?_
  refine j_topi (congrArg iI e9) ?_
  refine j_aload_n X rfl d_M_readCount_35 ?_
  refine g_M_97 X d_M_readCount_36 ?_
  refine j_topi (congrArg iI e10) ?_
  refine v_M_114 X hz (c_M_numberOf (zl z) E (up ρ 21 0 a t) t q ht (by omega)) rfl rfl rfl (Nat.le_of_ble_eq_true rfl) ⟨Nat.le_refl _, Nat.le_refl _⟩ d_M_readCount_39 ?_
  refine j_topi (congrArg iI hr) ?_
  refine j_iast X (by first | exact okC1 rfl | exact (okCT rfl (by omega))) (fun _ => rfl) rfl (by omega) d_M_readCount_42 ?_
  refine j_aload_n X rfl d_M_readCount_43 ?_
  refine g_M_16 X d_M_readCount_44 ?_
  refine j_iload_n X rfl d_M_readCount_47 ?_
  refine j_iconst X d_M_readCount_48 ?_
  refine j_iadd X d_M_readCount_49 ?_
  refine j_aload_n X rfl d_M_readCount_50 ?_
  refine j_aload_n X rfl d_M_readCount_51 ?_
  refine g_M_80 X d_M_readCount_52 ?_
  refine j_topi (congrArg iI e9) ?_
  refine j_aload_n X rfl d_M_readCount_55 ?_
  refine g_M_97 X d_M_readCount_56 ?_
  refine j_topi (congrArg iI e10) ?_
  refine v_M_36 X hz (c_M_keyOf (zl z) E (up (up ρ 21 0 a t) 21 0 (a + 1) r) t q ht hq) rfl rfl rfl (Nat.le_of_ble_eq_true rfl) ⟨Nat.le_refl _, Nat.le_refl _⟩ d_M_readCount_59 ?_
  refine j_topi (congrArg iI e1) ?_
  refine j_iast X (by first | exact okC1 rfl | exact (okCT rfl (by omega))) (fun _ => rfl) rfl (by omega) d_M_readCount_62 ?_
  refine j_aload_n X rfl d_M_readCount_63 ?_
  refine g_M_16 X d_M_readCount_64 ?_
  refine j_iload_n X rfl d_M_readCount_67 ?_
  refine j_iconst X d_M_readCount_68 ?_
  refine j_iadd X d_M_readCount_69 ?_
  refine j_aload_n X rfl d_M_readCount_70 ?_
  refine j_aload_n X rfl d_M_readCount_71 ?_
  refine g_M_80 X d_M_readCount_72 ?_
  refine j_topi (congrArg iI e9) ?_
  refine j_aload_n X rfl d_M_readCount_75 ?_
  refine g_M_97 X d_M_readCount_76 ?_
  refine j_topi (congrArg iI e10) ?_
  refine v_M_40 X hz (c_M_dataOf (zl z) E (up (up (up ρ 21 0 a t) 21 0 (a + 1) r) 21 0 (a + 2) kl) t q ht hq) rfl rfl rfl (Nat.le_of_ble_eq_true rfl) ⟨Nat.le_refl _, Nat.le_refl _⟩ d_M_readCount_79 ?_
  refine j_topi (congrArg iI e2) ?_
  refine j_iast X (by first | exact okC1 rfl | exact (okCT rfl (by omega))) (fun _ => rfl) rfl (by omega) d_M_readCount_82 ?_
  refine j_aload_n X rfl d_M_readCount_83 ?_
  refine g_M_74 X d_M_readCount_84 ?_
  refine j_topi (congrArg iI e16) ?_
  refine j_iconst X d_M_readCount_87 ?_
  refine j_icmp_lt X (by omega) (by omega) d_M_readCount_88 (tgt := 96) rfl (fun h88 => ?_) (fun h88 => ?_)
  · skip
    exact j_vret X Y (Nat.le_refl _) (Nat.le_refl _) d_M_readCount_96 ⟨rfl, by rw [if_neg (by omega)]⟩
  · skip
    refine j_aload_n X rfl d_M_readCount_91 ?_
    refine j_iconst X d_M_readCount_92 ?_
    refine p_M_91 X d_M_readCount_93 ?_
    exact j_vret X Y (Nat.le_refl _) (Nat.le_refl _) d_M_readCount_96 ⟨rfl, by rw [if_pos (by omega)]⟩
