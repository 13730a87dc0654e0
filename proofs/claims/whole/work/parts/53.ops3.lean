/-! store and fetch in both -/
theorem bm_any (v : Int) : (v.bmod 256).bmod 256 % 256 = v % 256 := by
  rw [Int.bmod_def, Int.bmod_def]; split <;> split <;> omega
theorem nw_by {M : St} {t F key n : Int} (hn : 0 ≤ n) : wrS (wkS M t F key 4) t (F + 4) 0 n = byS M t F (fun i => if i < 4 then kbS key i else M 2 0 (i - 4)) (4 + n) := by
  apply st_ext
  intro k t' j
  by_cases h9 : k = 9 ∧ t' = t
  · obtain ⟨rfl, rfl⟩ := h9
    rw [by_9s, wr_9, wk_9, wk_k _ _ _ _ _ (by decide)]
    by_cases q1 : F + 4 ≤ j ∧ j < F + 4 + n
    · rw [if_pos q1, if_pos (by omega), if_neg (by omega)]
      congr 1; omega
    · rw [if_neg q1]
      by_cases q2 : F ≤ j ∧ j < F + 4
      · rw [if_pos q2, if_pos (by omega), if_pos (by omega)]
      · rw [if_neg q2, if_neg (by omega)]
  · unfold wrS wkS byS
    rw [upF_eq, if_neg h9, upF_eq, if_neg h9, upF_eq, if_neg h9]
/-- the key's bytes stand there already -/
theorem ow_by {M : St} {t F key n : Int} (hn : 0 ≤ n) (hk : ∀ i, 0 ≤ i → i < 4 → M 9 t (F + i) = kbS key i) : wrS M t (F + 4) 0 n = byS M t F (fun i => if i < 4 then kbS key i else M 2 0 (i - 4)) (4 + n) := by
  apply st_ext
  intro k t' j
  by_cases h9 : k = 9 ∧ t' = t
  · obtain ⟨rfl, rfl⟩ := h9
    rw [by_9s, wr_9]
    by_cases q1 : F + 4 ≤ j ∧ j < F + 4 + n
    · rw [if_pos q1, if_pos (by omega), if_neg (by omega)]
      congr 1; omega
    · rw [if_neg q1]
      by_cases q2 : F ≤ j ∧ j < F + 4
      · rw [if_pos (by omega), if_pos (by omega), ← hk (j - F) (by omega) (by omega)]
        congr 1; omega
      · rw [if_neg (by omega)]
  · unfold wrS byS
    rw [upF_eq, upF_eq, if_neg h9, if_neg h9]
/-- what the model lays: the key's bytes, then memory's -/
noncomputable def kmF (m : Int → Int) (key i : Int) : Int := if i < 4 then ((ksS key i).bmod 256).bmod 256 else ((m (i - 4)).bmod 256).bmod 256
theorem km_mod {m M : Int → Int} {key n : Int} (hm : ∀ i, 0 ≤ i → i < 256 → m i = M i) (hM : byR M) (hn : n ≤ 60) : ∀ i, 0 ≤ i → i < 4 + n → kmF m key i % 256 = (if i < 4 then kbS key i else M (i - 4)) := by
  intro i h0 h1
  unfold kmF
  by_cases q : i < 4
  · rw [if_pos q, if_pos q, bm_any, ks_mod key ⟨h0, q⟩]
  · rw [if_neg q, if_neg q, bm_any, hm _ (by omega) (by omega)]
    have := hM (i - 4)
    omega
theorem la_same {σ : St} {t p n : Int} (hn : 0 ≤ n ∧ n ≤ 60) (e0 : σ 19 0 (600 * t + p) = 1) (e1 : σ 20 0 (600 * t + p + 1) = 4) (e2 : σ 20 0 (600 * t + p + 2) = n) : laS σ t p 4 n = up σ 20 0 (600 * t + p + 3) 0 := by
  unfold laS
  rw [show Int.bmod 1 256 = 1 from by decide, up_id e0, bm8 (by decide), up_id e1, bm8 (by omega), up_id e2]
  rfl
section OPZ
variable {l : Launch} {E : eT} {w : St} {T Q : Int}
theorem o_store (hl0 : l.stackTraces = false) (hL : LI w T Q) {a key n : Int} (ra : inR a) (rk : inR key) (rn : inR n) : OpI l E y_U_store ws_U_store y_M_store ws_M_store True [.int (iI a), .int (iI key), .int (iI n)] w T Q := by
  obtain ⟨hI, hR, hs⟩ := id hL
  have hc := hI.1
  have ho := hR.1.2.2.2.1
  have hf := hc.2.2.2.2.2.2
  have hW : ∀ t, 0 ≤ t → t < 32 → tkW w t := fun t h0 h1 => (hc.2.1 t h0 h1).1
  by_cases h1 : 0 ≤ a ∧ a ≤ 5
  · by_cases h2 : 0 ≤ n ∧ n ≤ 60
    · by_cases h3 : 0 < cnO (w 17 0) a 32
      · by_cases h4 : thL w a key (cnO (w 17 0) a 32) 4 0 = -1
        · have e5 : fdV w a key = -1 := if_pos h4
          by_cases h6 : twL w a key (cnO (w 17 0) a 32) (24 + n) 4 0 = -1
          · have e7 : rmV w a key n = -1 := if_pos h6
            have g1 := c_M_find l E w w a key hW hR.1.2.2.2.2 ho hf h1 rk h3
            have g2 := c_M_room l E w w a key n hW hR.1.2.2.2.2 ho hf h1 rk h3 h2
            rw [e5] at g1
            rw [e7] at g2
            exact pi_x hL (x_U_store4 l hl0 E w a key n hc h1 rk h2 h3 h4 h6) (c_M_storeX3 l E w (w 17 0) a key n ho hf h1 h2 h3 g1 g2) rfl (Or.inr ⟨trivial, rfl, rfl⟩)
          · obtain ⟨ht, hr⟩ := twL_in 4 0 h6
            have hU := c_U_store_n l E w a key n hc h1 rk h2 h3 h4 h6
            have e7 : rmV w a key n = 600 * twL w a key (cnO (w 17 0) a 32) (24 + n) 4 0 + w 5 (twL w a key (cnO (w 17 0) a 32) (24 + n) 4 0) (w 4 (twL w a key (cnO (w 17 0) a 32) (24 + n) 4 0) 4 + 1) := if_neg h6
            have g1 := fun σ hT ho => c_M_find l E w σ a key hW hT ho hf h1 rk h3
            have g2 := fun σ hT ho => c_M_room l E w σ a key n hW hT ho hf h1 rk h3 h2
            rw [e5] at g1
            rw [e7] at g2
            generalize twL w a key (cnO (w 17 0) a 32) (24 + n) 4 0 = t at *
            have hw := hW t ht.1 ht.2
            have he := tk_end hw ⟨hw.1.1, Int.le_refl _⟩
            have g := rt_new (μ := w) (σ := up (up (nwS w t key n) 26 0 0 t) 18 0 0 0) (kl := 4) (dl := n) hW hR.1.2.2.2.2 ht (by decide) h2 (by omega) (km_mod (key := key) hR.1.1 hc.2.2.1 h2.2)
            have e8 : nwS w t key n = up (byS (apS w t 4 n) t (w 5 t (w 4 t 4 + 1) + 20) (fun i => if i < 4 then kbS key i else w 2 0 (i - 4)) (4 + n)) 7 t (w 4 t 4 + 1) 0 := by
              unfold nwS
              rw [nw_by h2.1]
              rfl
            rw [← e8] at g
            have hI' : IV (nwS w t key n) T Q := by
              refine ⟨cw_s (cw_wr (cw_wk (cw_ap hc ht (by decide) h2 (by omega)) ht) ht) (Or.inl rfl), hI.2⟩
            refine pi_s hU (c_M_store_n l E (up (nwS w t key n) 26 0 0 t) (w 17 0) a key n ho hf h1 h2 t (w 5 t (w 4 t 4 + 1)) ht (by omega) (kmF (w 21 0) key) h3 (g1 _ hR.1.2.2.2.2 ho) (g2 _ hR.1.2.2.2.2 ho) (fun i q0 q1 => ?_) (fun i q0 q1 => ?_)) rfl rfl (by omega) rfl hI' ⟨⟨hR.1.1, hR.1.2.1, hR.1.2.2.1, ho, g⟩, hR.2⟩ (kc_t (kc_18 _ _ _) (kc_t (kc_la _ _ _ _ _) (kc_fi _ _ _ _ (by decide)))) hs
            · unfold kmF; rw [if_pos q1]
            · unfold kmF; rw [if_neg (by omega), show 4 + i - 4 = i by omega]; rfl
        · obtain ⟨ht, hp⟩ := thL_in 4 0 h4
          obtain ⟨⟨k1, k2⟩, k6, hk⟩ := noS_pos 32 1 (by decide) hp
          have e5 : fdV w a key = 600 * thL w a key (cnO (w 17 0) a 32) 4 0 + w 5 (thL w a key (cnO (w 17 0) a 32) 4 0) (noS w (thL w a key (cnO (w 17 0) a 32) 4 0) key 32 1) := if_neg h4
          have hUo := c_U_store_o l E w a key n hc h1 rk h2 h3 h4
          have hUx := x_U_store5 l hl0 E w a key n hc h1 rk h2 h3 h4
          have g1 := fun σ hT ho => c_M_find l E w σ a key hW hT ho hf h1 rk h3
          rw [e5] at g1
          generalize thL w a key (cnO (w 17 0) a 32) 4 0 = t at *
          generalize noS w t key 32 1 = k at *
          have hw := hW t ht.1 ht.2
          have hT := hR.1.2.2.2.2 t ht.1 ht.2
          obtain ⟨c1, c2, d1, d2, d3, d4, d5⟩ := rt_rec hw hT ⟨k1, k2⟩
          by_cases h6 : dlS w t k = n
          · have e19 := hT.2.1 k k1 k2
            have e8 : up (wrS w t (pbS w t k 2) 0 n) 7 t k 0 = byS (up w 7 t k 0) t (w 5 t k + 20) (fun i => if i < 4 then kbS key i else w 2 0 (i - 4)) (4 + n) := by
              have e9 : pbS w t k 2 = w 5 t k + 20 + 4 := by rw [← k6]; rfl
              rw [e9, ow_by h2.1 (fun i q0 q1 => hk_at hk ⟨q0, q1⟩), up_by]
            have la := la_same (σ := up (up (up (wrS w t (pbS w t k 2) 0 n) 7 t k 0) 26 0 0 t) 18 0 0 0) (t := t) (p := w 5 t k) h2 e19 (c1.trans k6) (c2.trans h6)
            have g := rt_by (μ := up w 7 t k 0) (σ := up (up (up (up (wrS w t (pbS w t k 2) 0 n) 7 t k 0) 26 0 0 t) 18 0 0 0) 20 0 (600 * t + w 5 t k + 3) 0) (o := t) (κ := k) (F := w 5 t k + 20) (N := 4 + n) (f := kmF (w 21 0) key) (g := fun i => if i < 4 then kbS key i else w 2 0 (i - 4)) hW (rt_sp (μ := w) hW hR.1.2.2.2.2 ht ⟨k1, k2⟩) ht ⟨k1, k2⟩ (Int.le_refl _) (by show w 5 t k + 20 + (4 + n) ≤ w 5 t (k + 1); omega) (km_mod hR.1.1 hc.2.2.1 h2.2)
            rw [← la, ← e8, show 600 * t + (w 5 t k + 20) = 600 * t + w 5 t k + 20 by omega] at g
            refine pi_s (hUo h6) (c_M_store_o l E (up (up (wrS w t (pbS w t k 2) 0 n) 7 t k 0) 26 0 0 t) (w 17 0) a key n ho hf h1 h2 t (w 5 t k) ht (by omega) (kmF (w 21 0) key) h3 (g1 _ hR.1.2.2.2.2 ho) (c2.trans h6) (fun i q0 q1 => ?_) (fun i q0 q1 => ?_)) rfl rfl (by omega) rfl (iv_s (iv_wr hI ht) (Or.inl rfl)) ⟨⟨hR.1.1, hR.1.2.1, hR.1.2.2.1, ho, g⟩, hR.2⟩ (kc_t (kc_18 _ _ _) (kc_t (kc_la _ _ _ _ _) (kc_fi _ _ _ _ (by decide)))) hs
            · unfold kmF; rw [if_pos q1]
            · unfold kmF; rw [if_neg (by omega), show 4 + i - 4 = i by omega]; rfl
          · exact pi_x hL (hUx h6) (c_M_storeX4 l E w (w 17 0) a key n ho hf h1 h2 t (w 5 t k) (dlS w t k) ht (by omega) (by omega) h3 (g1 _ hR.1.2.2.2.2 ho) c2 h6) rfl (Or.inr ⟨trivial, rfl, rfl⟩)
      · exact pi_x hL (x_U_store3 l hl0 E w a key n hc h1 rk h2 h3) (c_M_storeX2 l E w (w 17 0) a key n ho hf h1 h2 h3) rfl (Or.inr ⟨trivial, rfl, rfl⟩)
    · exact pi_x hL (x_U_store2 l hl0 E w a key n h1 rn h2) (c_M_storeX1 l E w a key n ra rn (fun q => h2 q.2)) rfl (Or.inl ⟨rfl, rfl⟩)
  · exact pi_x hL (x_U_store1 l hl0 E w a key n ra h1) (c_M_storeX1 l E w a key n ra rn (fun q => h1 q.1)) rfl (Or.inl ⟨rfl, rfl⟩)
theorem o_fetch (hl0 : l.stackTraces = false) (hL : LI w T Q) {a key : Int} (ra : inR a) (rk : inR key) : OpI l E y_U_fetch ws_U_fetch y_M_fetch ws_M_fetch True [.int (iI a), .int (iI key)] w T Q := by
  obtain ⟨hI, hR, hs⟩ := id hL
  have hc := hI.1
  have ho := hR.1.2.2.2.1
  have hf := hc.2.2.2.2.2.2
  have hW : ∀ t, 0 ≤ t → t < 32 → tkW w t := fun t h0 h1 => (hc.2.1 t h0 h1).1
  by_cases h1 : 0 ≤ a ∧ a ≤ 5
  · by_cases h3 : 0 < cnO (w 17 0) a 32
    · have g1 := fun σ hT ho => c_M_find l E w σ a key hW hT ho hf h1 rk h3
      by_cases h4 : thL w a key (cnO (w 17 0) a 32) 4 0 = -1
      · have e5 : fdV w a key = -1 := if_pos h4
        rw [e5] at g1
        exact pi_r hL (c_U_fetch_n l E w a key hc h1 rk h3 h4) (c_M_fetch_n l E (up w 26 0 0 (-1)) (w 17 0) a key ho hf h1 h3 (g1 _ hR.1.2.2.2.2 ho)) rfl rfl (by decide) rfl
      · obtain ⟨ht, hp⟩ := thL_in 4 0 h4
        obtain ⟨⟨k1, k2⟩, k6, hk⟩ := noS_pos 32 1 (by decide) hp
        have e5 : fdV w a key = 600 * thL w a key (cnO (w 17 0) a 32) 4 0 + w 5 (thL w a key (cnO (w 17 0) a 32) 4 0) (noS w (thL w a key (cnO (w 17 0) a 32) 4 0) key 32 1) := if_neg h4
        rw [e5] at g1
        have hUs := c_U_fetch_s l E w a key hc h1 rk h3 h4
        have hUr := c_U_fetch_r l E w a key hc h1 rk h3 h4
        generalize thL w a key (cnO (w 17 0) a 32) 4 0 = t at *
        generalize noS w t key 32 1 = k at *
        have hw := hW t ht.1 ht.2
        have hT := hR.1.2.2.2.2 t ht.1 ht.2
        obtain ⟨c1, c2, d1, d2, d3, d4, d5⟩ := rt_rec hw hT ⟨k1, k2⟩
        obtain ⟨-, -, s3, s4⟩ := hT.2.2.2 k k1 k2
        by_cases h7 : w 7 t k = 1
        · exact pi_r hL (hUs h7) (c_M_fetch_s l E (up w 26 0 0 (-2)) (w 17 0) a key ho hf h1 t (w 5 t k) ht (by omega) h3 (g1 _ hR.1.2.2.2.2 ho) (s3.trans h7)) rfl rfl (by decide) rfl
        · have h70 : w 7 t k = 0 := by
            have := (hc.2.1 t ht.1 ht.2).2.2 k
            omega
          have e9 : pbS w t k 2 = w 5 t k + 20 + 4 := by rw [← k6]; rfl
          have hU := hUr h7
          rw [e9] at hU
          refine pi_s hU (c_M_fetch_r l E (up (rdS w t (w 5 t k + 20 + 4) 0 (dlS w t k)) 26 0 0 (dlS w t k)) (w 17 0) a key ho hf h1 t (w 5 t k) ht (by omega) (dlS w t k) (fun i => w 9 t (w 5 t k + 20 + 4 + i)) d3 (by omega) h3 (g1 _ hR.1.2.2.2.2 ho) (s3.trans h70) c2 (fun i q0 q1 => ?_)) rfl rfl (by omega) rfl (iv_rd hI ht) ⟨⟨fun i q0 q1 => ?_, hR.1.2⟩, hR.2⟩ (kc_t (kc_18 _ _ _) (kc_fi _ _ _ _ (by decide))) hs
          · have := s4 (4 + i) (by omega) (by omega)
            rw [show w 5 t k + 20 + 4 + i = w 5 t k + 20 + (4 + i) by omega]
            exact this
          · rw [rd_2, fi_k]
            show (if 0 ≤ i ∧ i < 0 + dlS w t k then w 9 t (w 5 t k + 20 + 4 + (i - 0)) else w 21 0 i) = _
            rw [hR.1.1 i q0 q1]
    · exact pi_x hL (x_U_fetch2 l hl0 E w a key hc h1 rk h3) (c_M_fetchX2 l E w (w 17 0) a key ho hf h1 h3) rfl (Or.inr ⟨trivial, rfl, rfl⟩)
  · exact pi_x hL (x_U_fetch1 l hl0 E w a key ra h1) (c_M_fetchX1 l E w a key ra h1) rfl (Or.inl ⟨rfl, rfl⟩)
end OPZ
