/-! the model: data sets -/
theorem cnO_m (f : Int → Int) (a : Int) (n : Nat) : ∀ m : Nat, cnO f a n ≤ cnO f a (n + m) := by
  intro m
  induction m with
  | zero => exact Int.le_refl _
  | succ m ih =>
    show cnO f a n ≤ cnO f a (n + m) + (if f ((n + m : Nat) : Int) = a then 1 else 0)
    split <;> omega
theorem cnO_le (f : Int → Int) (a : Int) {t : Int} (h : t ≤ 32) : cnO f a t.toNat ≤ cnO f a 32 := by
  have := cnO_m f a t.toNat (32 - t.toNat)
  rw [show t.toNat + (32 - t.toNat) = 32 by omega] at this
  exact this
theorem cnO_z (f : Int → Int) (a : Int) : ∀ n : Nat, (∀ i : Int, 0 ≤ i → i < n → ¬ f i = a) → cnO f a n = 0 := by
  intro n
  induction n with
  | zero => intro _; rfl
  | succ n ih =>
    intro h
    show cnO f a n + (if f (n : Int) = a then 1 else 0) = 0
    rw [ih (fun i h0 h1 => h i h0 (by omega)), if_neg (h n (by omega) (by omega))]
    rfl
theorem exL_p (f : Int → Int) (w : Int) (hw : 1 ≤ w) : ∀ (m : Nat) (t e : Int), 0 ≤ t → (∀ i, 0 ≤ i → i < t → ¬ f i = -1) → 0 < cnO f (-1) (t + m).toNat → e + 1 ≤ exL f w m t 0 e := by
  intro m
  induction m with
  | zero =>
    intro t e h0 h1 h2
    rw [cnO_z f (-1) _ (fun i q0 q1 => h1 i q0 (by omega))] at h2
    omega
  | succ m ih =>
    intro t e h0 h1 h2
    rw [exL_s, if_pos (by omega)]
    by_cases q : f t = -1
    · rw [if_pos q]
      have hc : t = 0 ∨ ¬ f (t - 1) = -1 := by
        by_cases q0 : t = 0
        · exact Or.inl q0
        · exact Or.inr (h1 (t - 1) (by omega) (by omega))
      rw [if_pos hc]
      exact (exL_in f w m (t + 1) (0 + 1) (e + 1)).1
    · rw [if_neg q]
      refine ih (t + 1) e (by omega) (fun i q0 q1 => ?_) (by rw [show t + 1 + (m : Int) = t + ((m + 1 : Nat) : Int) by omega]; exact h2)
      by_cases q2 : i = t
      · rw [q2]; exact q
      · exact h1 i q0 (by omega)
/-- the model takes free tracks -/
def tkM (a w : Int) : Nat → Int → Int → St → St
  | 0, _, _, σ => σ
  | m + 1, t, c, σ => if c < w then (if σ 25 0 t ≤ 0 then tkM a w m (t + 1) (c + 1) (clS (up σ 25 0 t (a + 1)) t 0 600) else tkM a w m (t + 1) c σ) else σ
theorem tkM_s (a w : Int) (m : Nat) (t c : Int) (σ : St) : tkM a w (m + 1) t c σ = if c < w then (if σ 25 0 t ≤ 0 then tkM a w m (t + 1) (c + 1) (clS (up σ 25 0 t (a + 1)) t 0 600) else tkM a w m (t + 1) c σ) else σ := rfl
def gvM (σ : St) (a n : Int) : St := upF σ 25 0 (fun t => if (0 ≤ t ∧ t < n) ∧ σ 25 0 t = a + 1 then 0 else σ 25 0 t)
theorem gm_25 (σ : St) (a n t : Int) : gvM σ a n 25 0 t = if (0 ≤ t ∧ t < n) ∧ σ 25 0 t = a + 1 then 0 else σ 25 0 t := by unfold gvM; rw [upF_eq, if_pos ⟨rfl, rfl⟩]
theorem gm_at (σ : St) (a n : Int) : gvM σ a n 25 0 n = σ 25 0 n := by rw [gm_25, if_neg (by omega)]
theorem gm_0 (σ : St) (a : Int) : gvM σ a 0 = σ := by
  apply st_ext
  intro k t j
  unfold gvM
  rw [upF_eq]
  split
  · next h => rw [if_neg (by omega), h.1, h.2]
  · rfl
theorem gm_s1 {σ : St} {a i : Int} (h : σ 25 0 i = a + 1) (hi : 0 ≤ i) : up (gvM σ a i) 25 0 i 0 = gvM σ a (i + 1) := by
  apply st_ext
  intro k t j
  rw [up_eq]
  by_cases hk : k = 25 ∧ t = 0
  · obtain ⟨rfl, rfl⟩ := hk
    rw [gm_25, gm_25]
    by_cases hj : j = i
    · rw [if_pos ⟨rfl, rfl, hj⟩, if_pos ⟨by omega, by rw [hj]; exact h⟩]
    · rw [if_neg (fun q => hj q.2.2)]
      by_cases h1 : (0 ≤ j ∧ j < i) ∧ σ 25 0 j = a + 1
      · rw [if_pos h1, if_pos ⟨by omega, h1.2⟩]
      · rw [if_neg h1, if_neg (fun q => h1 ⟨by omega, q.2⟩)]
  · rw [if_neg (fun q => hk ⟨q.1, q.2.1⟩)]
    unfold gvM
    rw [upF_eq, upF_eq, if_neg hk, if_neg hk]
theorem gm_s0 {σ : St} {a i : Int} (h : ¬ σ 25 0 i = a + 1) (hi : 0 ≤ i) : gvM σ a i = gvM σ a (i + 1) := by
  apply st_ext
  intro k t j
  by_cases hk : k = 25 ∧ t = 0
  · obtain ⟨rfl, rfl⟩ := hk
    rw [gm_25, gm_25]
    by_cases h1 : (0 ≤ j ∧ j < i) ∧ σ 25 0 j = a + 1
    · rw [if_pos h1, if_pos ⟨by omega, h1.2⟩]
    · rw [if_neg h1, if_neg (fun q => h1 ⟨by
        have : ¬ j = i := fun e => h (by rw [← e]; exact q.2)
        omega, q.2⟩)]
  · unfold gvM
    rw [upF_eq, upF_eq, if_neg hk, if_neg hk]

set_option maxRecDepth 100000 in
set_option maxHeartbeats 4000000 in
theorem c_M_tracksOf (l : Launch) (E : eT) (σ : St) (f : Int → Int) (a : Int) (ho : ∀ t, 0 ≤ t → t < 32 → σ 25 0 t = f t + 1) (hf : ∀ t, -1 ≤ f t ∧ f t ≤ 5) (ra : 0 ≤ a ∧ a ≤ 5) : FCon l E y_M_tracksOf ws_M_tracksOf 0 [.ref (E.2.2.2 18 0), .int (iI a)] σ (some (.int (iI (cnO f a 32)))) σ := by
  refine con_of (cc := b_M_tracksOf) (nL := 4) (ret := (some .int)) (by decide) (Nat.le_of_ble_eq_true rfl) (fun z X Y hn => ?_)
  have X : Cx E z b_M_tracksOf R_M := X
  have hz := Y.2.1
  change J E z 0 0 0 [(0, .ref (E.2.2.2 18 0)), (1, .int (iI a))] [] (cells E σ)
  refine j_iconst X d_M_tracksOf_0 ?_
  refine j_istore_n X (zlt hn rfl) d_M_tracksOf_1 ?_
  refine j_iconst X d_M_tracksOf_2 ?_
  refine j_istore_n X (zlt hn rfl) d_M_tracksOf_3 ?_
  have kyl : ∀ t : Int, (0 ≤ t ∧ t ≤ 32) → J E z 0 0 4 [(0, .ref (E.2.2.2 18 0)), (1, .int (iI a)), (2, .int (iI (cnO f a t.toNat))), (3, .int (iI t))] [] (cells E σ) := by
    refine j_loop (fun t : Int => (32 - t).toNat) _ _ (fun t ht ih => ?_)
    refine j_iload_n X rfl d_M_tracksOf_4 ?_
    refine j_bipush X rfl d_M_tracksOf_5 ?_
    refine j_icmp_ge X (by omega) (by omega) d_M_tracksOf_7 (tgt := 36) rfl (fun h7 => ?_) (fun h7 => ?_)
    · skip
      refine j_iload_n X rfl d_M_tracksOf_36 ?_
      exact j_iret X Y (Nat.le_refl _) (Nat.le_refl _) d_M_tracksOf_37 ⟨by rw [show t = 32 by omega]; rfl, rfl⟩
    · skip
      refine j_iload_n X rfl d_M_tracksOf_10 ?_
      refine j_aload_n X rfl d_M_tracksOf_11 ?_
      refine g_M_29 X d_M_tracksOf_12 ?_
      refine j_iload_n X rfl d_M_tracksOf_15 ?_
      refine j_iald X (by first | exact okC1 rfl | exact (okCT rfl (by omega))) (fun _ => rfl) rfl (by omega) d_M_tracksOf_16 ?_
      have e0 := ho t (by omega) (by omega)
      have f0 := hf t
      refine j_topi (congrArg iI e0) ?_
      refine j_iload_n X rfl d_M_tracksOf_17 ?_
      refine j_iconst X d_M_tracksOf_18 ?_
      refine j_iadd X d_M_tracksOf_19 ?_
      refine j_icmp_ne X (by omega) (by omega) d_M_tracksOf_20 (tgt := 27) rfl (fun h20 => ?_) (fun h20 => ?_)
      · skip
        refine j_iconst X d_M_tracksOf_27 ?_
        refine j_iadd X d_M_tracksOf_28 ?_
        refine j_istore_n X (zlt hn rfl) d_M_tracksOf_29 ?_
        refine j_iinc X rfl (zlt hn rfl) d_M_tracksOf_30 ?_
        refine j_goto X d_M_tracksOf_33 (tgt := 4) rfl ?_
        have := ih (t + 1) (by omega) (by omega); rw [cnO_s _ _ ht.1, if_neg (by omega)] at this; exact this
      · skip
        refine j_iconst X d_M_tracksOf_23 ?_
        refine j_goto X d_M_tracksOf_24 (tgt := 28) rfl ?_
        refine j_iadd X d_M_tracksOf_28 ?_
        refine j_istore_n X (zlt hn rfl) d_M_tracksOf_29 ?_
        refine j_iinc X rfl (zlt hn rfl) d_M_tracksOf_30 ?_
        refine j_goto X d_M_tracksOf_33 (tgt := 4) rfl ?_
        have := ih (t + 1) (by omega) (by omega); rw [cnO_s _ _ ht.1, if_pos (by omega)] at this; exact this
  exact kyl 0 (by omega)

set_option maxRecDepth 100000 in
set_option maxHeartbeats 4000000 in
theorem c_M_free (l : Launch) (E : eT) (σ : St) (f : Int → Int) (ho : ∀ t, 0 ≤ t → t < 32 → σ 25 0 t = f t + 1) (hf : ∀ t, -1 ≤ f t ∧ f t ≤ 5) : FCon l E y_M_free ws_M_free 0 [.ref (E.2.2.2 18 0)] σ (some (.int (iI (cnO f (-1) 32)))) (up σ 18 0 0 0) := by
  refine con_of (cc := b_M_free) (nL := 3) (ret := (some .int)) (by decide) (Nat.le_of_ble_eq_true rfl) (fun z X Y hn => ?_)
  have X : Cx E z b_M_free R_M := X
  have hz := Y.2.1
  change J E z 0 0 0 [(0, .ref (E.2.2.2 18 0))] [] (cells E σ)
  refine j_aload_n X rfl d_M_free_0 ?_
  refine j_iconst X d_M_free_1 ?_
  refine p_M_32 X d_M_free_2 ?_
  refine j_iconst X d_M_free_5 ?_
  refine j_istore_n X (zlt hn rfl) d_M_free_6 ?_
  refine j_iconst X d_M_free_7 ?_
  refine j_istore_n X (zlt hn rfl) d_M_free_8 ?_
  have kyl : ∀ t : Int, (0 ≤ t ∧ t ≤ 32) → J E z 0 0 9 [(0, .ref (E.2.2.2 18 0)), (1, .int (iI (cnO f (-1) t.toNat))), (2, .int (iI t))] [] (cells E (up σ 18 0 0 0)) := by
    refine j_loop (fun t : Int => (32 - t).toNat) _ _ (fun t ht ih => ?_)
    refine j_iload_n X rfl d_M_free_9 ?_
    refine j_bipush X rfl d_M_free_10 ?_
    refine j_icmp_ge X (by omega) (by omega) d_M_free_12 (tgt := 38) rfl (fun h12 => ?_) (fun h12 => ?_)
    · skip
      refine j_iload_n X rfl d_M_free_38 ?_
      exact j_iret X Y (Nat.le_refl _) (Nat.le_refl _) d_M_free_39 ⟨by rw [show t = 32 by omega]; rfl, rfl⟩
    · skip
      refine j_iload_n X rfl d_M_free_15 ?_
      refine j_aload_n X rfl d_M_free_16 ?_
      refine g_M_29 X d_M_free_17 ?_
      refine j_iload_n X rfl d_M_free_20 ?_
      refine j_iald X (by first | exact okC1 rfl | exact (okCT rfl (by omega))) (fun _ => rfl) rfl (by omega) d_M_free_21 ?_
      have e0 := ho t (by omega) (by omega)
      have f0 := hf t
      refine j_topi (congrArg iI e0) ?_
      refine j_if_ne X (by omega) d_M_free_22 (tgt := 29) rfl (fun h22 => ?_) (fun h22 => ?_)
      · skip
        refine j_iconst X d_M_free_29 ?_
        refine j_iadd X d_M_free_30 ?_
        refine j_istore_n X (zlt hn rfl) d_M_free_31 ?_
        refine j_iinc X rfl (zlt hn rfl) d_M_free_32 ?_
        refine j_goto X d_M_free_35 (tgt := 9) rfl ?_
        have := ih (t + 1) (by omega) (by omega); rw [cnO_s _ _ ht.1, if_neg (by omega)] at this; exact this
      · skip
        refine j_iconst X d_M_free_25 ?_
        refine j_goto X d_M_free_26 (tgt := 30) rfl ?_
        refine j_iadd X d_M_free_30 ?_
        refine j_istore_n X (zlt hn rfl) d_M_free_31 ?_
        refine j_iinc X rfl (zlt hn rfl) d_M_free_32 ?_
        refine j_goto X d_M_free_35 (tgt := 9) rfl ?_
        have := ih (t + 1) (by omega) (by omega); rw [cnO_s _ _ ht.1, if_pos (by omega)] at this; exact this
  exact kyl 0 (by omega)

set_option maxRecDepth 100000 in
set_option maxHeartbeats 4000000 in
theorem c_M_trackAt (l : Launch) (E : eT) (σ : St) (f : Int → Int) (a j : Int) (ho : ∀ t, 0 ≤ t → t < 32 → σ 25 0 t = f t + 1) (hf : ∀ t, -1 ≤ f t ∧ f t ≤ 5) (ra : 0 ≤ a ∧ a ≤ 5) (hj : 0 ≤ j ∧ j ≤ 32) : FCon l E y_M_trackAt ws_M_trackAt 0 [.ref (E.2.2.2 18 0), .int (iI a), .int (iI j)] σ (some (.int (iI (taO f a j 32 0)))) σ := by
  refine con_of (cc := b_M_trackAt) (nL := 5) (ret := (some .int)) (by decide) (Nat.le_of_ble_eq_true rfl) (fun z X Y hn => ?_)
  have X : Cx E z b_M_trackAt R_M := X
  have hz := Y.2.1
  change J E z 0 0 0 [(0, .ref (E.2.2.2 18 0)), (1, .int (iI a)), (2, .int (iI j))] [] (cells E σ)
  obtain ⟨r, hr⟩ : ∃ r, r = taO f a j 32 0 := ⟨_, rfl⟩
  rw [← hr] at Y
  refine j_iload_n X rfl d_M_trackAt_0 ?_
  refine j_istore_n X (zlt hn rfl) d_M_trackAt_1 ?_
  refine j_iconst X d_M_trackAt_2 ?_
  refine j_istore X (zlt hn rfl) d_M_trackAt_3 ?_
  have kyl : ∀ t : Int, ((0 ≤ t ∧ t ≤ 32) ∧ cnO f a t.toNat ≤ j ∧ r = taO f a j (32 - t).toNat t) → J E z 0 0 5 [(0, .ref (E.2.2.2 18 0)), (1, .int (iI a)), (2, .int (iI j)), (3, .int (iI (j - cnO f a t.toNat))), (4, .int (iI t))] [] (cells E σ) := by
    refine j_loop (fun t : Int => (32 - t).toNat) _ _ (fun t ht ih => ?_)
    have hc := cnO_in f a t.toNat
    refine j_iload X rfl d_M_trackAt_5 ?_
    refine j_bipush X rfl d_M_trackAt_7 ?_
    refine j_icmp_ge X (by omega) (by omega) d_M_trackAt_9 (tgt := 44) rfl (fun h9 => ?_) (fun h9 => ?_)
    · skip
      refine j_iconst X d_M_trackAt_44 ?_
      exact j_iret X Y (Nat.le_refl _) (Nat.le_refl _) d_M_trackAt_45 ⟨by rw [ht.2.2, show (32 - t).toNat = 0 by omega]; rfl, rfl⟩
    · skip
      refine j_aload_n X rfl d_M_trackAt_12 ?_
      refine g_M_29 X d_M_trackAt_13 ?_
      refine j_iload X rfl d_M_trackAt_16 ?_
      refine j_iald X (by first | exact okC1 rfl | exact (okCT rfl (by omega))) (fun _ => rfl) rfl (by omega) d_M_trackAt_18 ?_
      have e0 := ho t (by omega) (by omega)
      have f0 := hf t
      refine j_topi (congrArg iI e0) ?_
      refine j_iload_n X rfl d_M_trackAt_19 ?_
      refine j_iconst X d_M_trackAt_20 ?_
      refine j_iadd X d_M_trackAt_21 ?_
      refine j_icmp_eq X (by omega) (by omega) d_M_trackAt_22 (tgt := 28) rfl (fun h22 => ?_) (fun h22 => ?_)
      · skip
        refine j_iload_n X rfl d_M_trackAt_28 ?_
        refine j_if_ne X (by omega) d_M_trackAt_29 (tgt := 35) rfl (fun h29 => ?_) (fun h29 => ?_)
        · skip
          refine j_iinc X rfl (zlt hn rfl) d_M_trackAt_35 ?_
          refine j_iinc X rfl (zlt hn rfl) d_M_trackAt_38 ?_
          refine j_goto X d_M_trackAt_41 (tgt := 5) rfl ?_
          have := ih (t + 1) ⟨by omega, by rw [cnO_s _ _ (by omega), if_pos (by omega)]; omega, by rw [ht.2.2, show (32 - t).toNat = (32 - (t + 1)).toNat + 1 by omega, taO_s, if_neg (by omega)]⟩ (by omega); rw [cnO_s _ _ (by omega), if_pos (by omega), show j - (cnO f a t.toNat + 1) = j - cnO f a t.toNat + -1 by omega] at this; exact this
        · skip
          refine j_iload X rfl d_M_trackAt_32 ?_
          exact j_iret X Y (Nat.le_refl _) (Nat.le_refl _) d_M_trackAt_34 ⟨by rw [ht.2.2, show (32 - t).toNat = (32 - (t + 1)).toNat + 1 by omega, taO_s, if_pos (by omega)], rfl⟩
      · skip
        refine j_goto X d_M_trackAt_25 (tgt := 38) rfl ?_
        refine j_iinc X rfl (zlt hn rfl) d_M_trackAt_38 ?_
        refine j_goto X d_M_trackAt_41 (tgt := 5) rfl ?_
        have := ih (t + 1) ⟨by omega, by rw [cnO_s _ _ (by omega), if_neg (by omega)]; omega, by rw [ht.2.2, show (32 - t).toNat = (32 - (t + 1)).toNat + 1 by omega, taO_s, if_neg (by omega)]⟩ (by omega); rw [cnO_s _ _ (by omega), if_neg (by omega), show j - (cnO f a t.toNat + 0) = j - cnO f a t.toNat by omega] at this; exact this
  have := kyl 0 ⟨by omega, hj.1, hr⟩; rw [show j - cnO f a (0 : Int).toNat = j from Int.sub_zero j] at this; exact this

set_option maxRecDepth 100000 in
set_option maxHeartbeats 4000000 in
theorem c_M_extents (l : Launch) (E : eT) (σ : St) (f : Int → Int) (w : Int) (ho : ∀ t, 0 ≤ t → t < 32 → σ 25 0 t = f t + 1) (hf : ∀ t, -1 ≤ f t ∧ f t ≤ 5) (hw : 1 ≤ w ∧ w ≤ 32) : FCon l E y_M_extents ws_M_extents 0 [.ref (E.2.2.2 18 0), .int (iI w)] σ (some (.int (iI (if w ≤ cnO f (-1) 32 then exL f w 32 0 0 0 else 0)))) σ := by
  refine con_of (cc := b_M_extents) (nL := 6) (ret := (some .int)) (by decide) (Nat.le_of_ble_eq_true rfl) (fun z X Y hn => ?_)
  have X : Cx E z b_M_extents R_M := X
  have hz := Y.2.1
  change J E z 0 0 0 [(0, .ref (E.2.2.2 18 0)), (1, .int (iI w))] [] (cells E σ)
  obtain ⟨r, hr⟩ : ∃ r, r = exL f w 32 0 0 0 := ⟨_, rfl⟩
  rw [← hr] at Y
  refine j_iload_n X rfl d_M_extents_0 ?_
  refine j_istore_n X (zlt hn rfl) d_M_extents_1 ?_
  refine j_iconst X d_M_extents_2 ?_
  refine j_istore_n X (zlt hn rfl) d_M_extents_3 ?_
  refine j_bipush X rfl d_M_extents_4 ?_
  refine j_istore X (zlt hn rfl) d_M_extents_6 ?_
  refine j_iconst X d_M_extents_8 ?_
  refine j_istore X (zlt hn rfl) d_M_extents_9 ?_
  have kyl : ∀ q : Int × Int × Int × Int, ((0 ≤ q.1 ∧ q.1 ≤ 32) ∧ (0 ≤ q.2.1 ∧ q.2.1 ≤ w) ∧ q.2.1 = cnO f (-1) q.1.toNat ∧ (0 ≤ q.2.2.1 ∧ q.2.2.1 ≤ q.1) ∧ (-2 ≤ q.2.2.2 ∧ q.2.2.2 < q.1) ∧ (q.2.2.2 + 1 = q.1 ↔ (¬ q.1 = 0 ∧ f (q.1 - 1) = -1)) ∧ r = exL f w (32 - q.1).toNat q.1 q.2.1 q.2.2.1) → J E z 0 0 11 [(0, .ref (E.2.2.2 18 0)), (1, .int (iI w)), (2, .int (iI (w - q.2.1))), (3, .int (iI q.2.2.1)), (4, .int (iI q.2.2.2)), (5, .int (iI q.1))] [] (cells E σ) := by
    refine j_loop (fun q => (32 - q.1).toNat) _ _ (fun q hq ih => ?_)
    obtain ⟨t, c, e, b⟩ := q
    obtain ⟨hq0, hq1, hqc, hq2, hqb, hq3, hq4⟩ := hq
    dsimp only at hq0 hq1 hqc hq2 hqb hq3 hq4
    dsimp only
    have g0 := hf (t - 1)
    refine j_iload X rfl d_M_extents_11 ?_
    refine j_bipush X rfl d_M_extents_13 ?_
    refine j_icmp_ge X (by omega) (by omega) d_M_extents_15 (tgt := 65) rfl (fun h15 => ?_) (fun h15 => ?_)
    · skip
      refine j_iload_n X rfl d_M_extents_65 ?_
      refine j_if_le X (by omega) d_M_extents_66 (tgt := 73) rfl (fun h66 => ?_) (fun h66 => ?_)
      · skip
        refine j_iload_n X rfl d_M_extents_73 ?_
        exact j_iret X Y (Nat.le_refl _) (Nat.le_refl _) d_M_extents_74 ⟨by rw [if_pos (by have := cnO_le f (-1) hq0.2; omega)]; rw [hq4, show (32 - t).toNat = 0 by omega]; rfl, rfl⟩
      · skip
        refine j_iconst X d_M_extents_69 ?_
        refine j_goto X d_M_extents_70 (tgt := 74) rfl ?_
        exact j_iret X Y (Nat.le_refl _) (Nat.le_refl _) d_M_extents_74 ⟨by rw [if_neg (by rw [show (32 : Nat) = t.toNat by omega]; omega)], rfl⟩
    · skip
      refine j_iload_n X rfl d_M_extents_18 ?_
      refine j_if_le X (by omega) d_M_extents_19 (tgt := 65) rfl (fun h19 => ?_) (fun h19 => ?_)
      · skip
        refine j_iload_n X rfl d_M_extents_65 ?_
        refine j_if_le X (by omega) d_M_extents_66 (tgt := 73) rfl (fun h66 => ?_) (fun h66 => ?_)
        · skip
          refine j_iload_n X rfl d_M_extents_73 ?_
          exact j_iret X Y (Nat.le_refl _) (Nat.le_refl _) d_M_extents_74 ⟨by rw [if_pos (by have := cnO_le f (-1) hq0.2; omega)]; rw [hq4, show (32 - t).toNat = (32 - (t + 1)).toNat + 1 by omega, exL_s, if_neg (by omega)], rfl⟩
        · exact absurd h66 (by omega)
      · skip
        refine j_aload_n X rfl d_M_extents_22 ?_
        refine g_M_29 X d_M_extents_23 ?_
        refine j_iload X rfl d_M_extents_26 ?_
        refine j_iald X (by first | exact okC1 rfl | exact (okCT rfl (by omega))) (fun _ => rfl) rfl (by omega) d_M_extents_28 ?_
        have e0 := ho t (by omega) (by omega)
        have f0 := hf t
        refine j_topi (congrArg iI e0) ?_
        refine j_if_le X (by omega) d_M_extents_29 (tgt := 35) rfl (fun h29 => ?_) (fun h29 => ?_)
        · skip
          refine j_iload_n X rfl d_M_extents_35 ?_
          refine j_iload X rfl d_M_extents_36 ?_
          refine j_iload X rfl d_M_extents_38 ?_
          refine j_iconst X d_M_extents_40 ?_
          refine j_iadd X d_M_extents_41 ?_
          refine j_icmp_ne X (by omega) (by omega) d_M_extents_42 (tgt := 49) rfl (fun h42 => ?_) (fun h42 => ?_)
          · skip
            refine j_iconst X d_M_extents_49 ?_
            refine j_iadd X d_M_extents_50 ?_
            refine j_istore_n X (zlt hn rfl) d_M_extents_51 ?_
            refine j_iload X rfl d_M_extents_52 ?_
            refine j_istore X (zlt hn rfl) d_M_extents_54 ?_
            refine j_iinc X rfl (zlt hn rfl) d_M_extents_56 ?_
            refine j_iinc X rfl (zlt hn rfl) d_M_extents_59 ?_
            refine j_goto X d_M_extents_62 (tgt := 11) rfl ?_
            have := ih (t + 1, c + 1, e + 1, t) ⟨by dsimp only; omega, by dsimp only; omega, by dsimp only; rw [cnO_s _ _ (by omega), if_pos (by omega)]; omega, by dsimp only; omega, by dsimp only; omega, by dsimp only; rw [show t + 1 - 1 = t by omega]; omega, by dsimp only; rw [hq4, show (32 - t).toNat = (32 - (t + 1)).toNat + 1 by omega, exL_s, if_pos (by omega), if_pos (by omega), if_pos (by omega)]⟩ (by dsimp only; omega); dsimp only at this; rw [show w - (c + 1) = w - c + -1 by omega] at this; exact this
          · skip
            refine j_iconst X d_M_extents_45 ?_
            refine j_goto X d_M_extents_46 (tgt := 50) rfl ?_
            refine j_iadd X d_M_extents_50 ?_
            refine j_istore_n X (zlt hn rfl) d_M_extents_51 ?_
            refine j_iload X rfl d_M_extents_52 ?_
            refine j_istore X (zlt hn rfl) d_M_extents_54 ?_
            refine j_iinc X rfl (zlt hn rfl) d_M_extents_56 ?_
            refine j_iinc X rfl (zlt hn rfl) d_M_extents_59 ?_
            refine j_goto X d_M_extents_62 (tgt := 11) rfl ?_
            have := ih (t + 1, c + 1, e + 0, t) ⟨by dsimp only; omega, by dsimp only; omega, by dsimp only; rw [cnO_s _ _ (by omega), if_pos (by omega)]; omega, by dsimp only; omega, by dsimp only; omega, by dsimp only; rw [show t + 1 - 1 = t by omega]; omega, by dsimp only; rw [hq4, show (32 - t).toNat = (32 - (t + 1)).toNat + 1 by omega, exL_s, if_pos (by omega), if_pos (by omega), if_neg (by omega), Int.add_zero]⟩ (by dsimp only; omega); dsimp only at this; rw [show w - (c + 1) = w - c + -1 by omega] at this; exact this
        · skip
          refine j_goto X d_M_extents_32 (tgt := 59) rfl ?_
          refine j_iinc X rfl (zlt hn rfl) d_M_extents_59 ?_
          refine j_goto X d_M_extents_62 (tgt := 11) rfl ?_
          exact ih (t + 1, c, e, b) ⟨by dsimp only; omega, by dsimp only; omega, by dsimp only; rw [cnO_s _ _ (by omega), if_neg (by omega)]; omega, by dsimp only; omega, by dsimp only; omega, by dsimp only; rw [show t + 1 - 1 = t by omega]; omega, by dsimp only; rw [hq4, show (32 - t).toNat = (32 - (t + 1)).toNat + 1 by omega, exL_s, if_pos (by omega), if_neg (by omega)]⟩ (by dsimp only; omega)
  have := kyl (0, 0, 0, -2) ⟨by dsimp only; omega, by dsimp only; omega, rfl, by dsimp only; omega, by dsimp only; omega, by dsimp only; omega, hr⟩; dsimp only at this; rw [Int.sub_zero] at this; exact this

set_option maxRecDepth 100000 in
set_option maxHeartbeats 4000000 in
theorem c_M_trackOf0 (l : Launch) (E : eT) (σ : St) (f : Int → Int) (a : Int) (ho : ∀ t, 0 ≤ t → t < 32 → σ 25 0 t = f t + 1) (hf : ∀ t, -1 ≤ f t ∧ f t ≤ 5) (ra : 0 ≤ a ∧ a ≤ 5) : FCon l E y_M_trackOf ws_M_trackOf 1 [.ref (E.2.2.2 18 0), .int (iI a), .int (iI (-1))] σ (some (.int (iI (cnO f a 32)))) (up σ 18 0 0 0) := by
  refine con_of (cc := b_M_trackOf) (nL := 4) (ret := (some .int)) (by decide) (Nat.le_of_ble_eq_true rfl) (fun z X Y hn => ?_)
  have X : Cx E z b_M_trackOf R_M := X
  have hz := Y.2.1
  change J E z 0 0 0 [(0, .ref (E.2.2.2 18 0)), (1, .int (iI a)), (2, .int (iI (-1)))] [] (cells E σ)
  have hc := cnO_in f a 32
  refine j_iload_n X rfl d_M_trackOf_0 ?_
  refine s_M_192 X hz (c_M_isSet (zl z) E σ a (by omega)) rfl rfl rfl (Nat.le_of_ble_eq_true rfl) ⟨Nat.le_refl _, Nat.le_refl _⟩ d_M_trackOf_1 ?_
  refine j_ifnz X d_M_trackOf_4 (tgt := 11) rfl (fun h4 => ?_) (fun h4 => ?_)
  · skip
    refine j_iconst X d_M_trackOf_11 ?_
    refine j_istore_n X (zlt hn rfl) d_M_trackOf_12 ?_
    refine j_aload_n X rfl d_M_trackOf_13 ?_
    refine j_iload_n X rfl d_M_trackOf_14 ?_
    refine j_if_ne X (by omega) d_M_trackOf_15 (tgt := 32) rfl (fun h15 => ?_) (fun h15 => ?_)
    · exact absurd h15 (by omega)
    · skip
      refine j_iload_n X rfl d_M_trackOf_18 ?_
      refine j_iconst X d_M_trackOf_19 ?_
      refine j_icmp_lt X (by omega) (by omega) d_M_trackOf_20 (tgt := 32) rfl (fun h20 => ?_) (fun h20 => ?_)
      · exact absurd h20 (by omega)
      · skip
        refine j_iload_n X rfl d_M_trackOf_23 ?_
        refine j_aload_n X rfl d_M_trackOf_24 ?_
        refine j_iload_n X rfl d_M_trackOf_25 ?_
        refine v_M_198 X hz (c_M_tracksOf (zl z) E σ f a ho hf (by omega)) rfl rfl rfl (Nat.le_of_ble_eq_true rfl) ⟨Nat.le_refl _, Nat.le_refl _⟩ d_M_trackOf_26 ?_
        refine j_icmp_lt X (by omega) (by omega) d_M_trackOf_29 (tgt := 36) rfl (fun h29 => ?_) (fun h29 => ?_)
        · skip
          refine j_iconst X d_M_trackOf_36 ?_
          refine j_iconst X d_M_trackOf_37 ?_
          refine v_M_53 X hz (c_M_throwing (zl z) E σ _ _ (by decide) (by decide)) rfl rfl rfl (Nat.le_of_ble_eq_true rfl) ⟨Nat.le_refl _, Nat.le_refl _⟩ d_M_trackOf_38 ?_
          refine j_ifz X d_M_trackOf_41 (tgt := 46) rfl (fun _ => ?_) (fun h => absurd h (by decide))
          refine j_iload_n X rfl d_M_trackOf_46 ?_
          refine j_if_ge X (by omega) d_M_trackOf_47 (tgt := 58) rfl (fun h47 => ?_) (fun h47 => ?_)
          · exact absurd h47 (by omega)
          · skip
            refine j_aload_n X rfl d_M_trackOf_50 ?_
            refine j_iload_n X rfl d_M_trackOf_51 ?_
            refine v_M_198 X hz (c_M_tracksOf (zl z) E (up σ 18 0 0 0) f a ho hf (by omega)) rfl rfl rfl (Nat.le_of_ble_eq_true rfl) ⟨Nat.le_refl _, Nat.le_refl _⟩ d_M_trackOf_52 ?_
            refine j_goto X d_M_trackOf_55 (tgt := 64) rfl ?_
            exact j_iret X Y (Nat.le_refl _) (Nat.le_refl _) d_M_trackOf_64 ⟨rfl, rfl⟩
        · exact absurd h29 (by omega)
  · exact absurd h4 (by omega)

set_option maxRecDepth 100000 in
set_option maxHeartbeats 4000000 in
theorem c_M_trackOf1 (l : Launch) (E : eT) (σ : St) (f : Int → Int) (a j : Int) (ho : ∀ t, 0 ≤ t → t < 32 → σ 25 0 t = f t + 1) (hf : ∀ t, -1 ≤ f t ∧ f t ≤ 5) (ra : 0 ≤ a ∧ a ≤ 5) (hj : 0 ≤ j ∧ j ≤ cnO f a 32 - 1) : FCon l E y_M_trackOf ws_M_trackOf 1 [.ref (E.2.2.2 18 0), .int (iI a), .int (iI j)] σ (some (.int (iI (taO f a j 32 0)))) (up σ 18 0 0 0) := by
  refine con_of (cc := b_M_trackOf) (nL := 4) (ret := (some .int)) (by decide) (Nat.le_of_ble_eq_true rfl) (fun z X Y hn => ?_)
  have X : Cx E z b_M_trackOf R_M := X
  have hz := Y.2.1
  change J E z 0 0 0 [(0, .ref (E.2.2.2 18 0)), (1, .int (iI a)), (2, .int (iI j))] [] (cells E σ)
  have hc := cnO_in f a 32
  refine j_iload_n X rfl d_M_trackOf_0 ?_
  refine s_M_192 X hz (c_M_isSet (zl z) E σ a (by omega)) rfl rfl rfl (Nat.le_of_ble_eq_true rfl) ⟨Nat.le_refl _, Nat.le_refl _⟩ d_M_trackOf_1 ?_
  refine j_ifnz X d_M_trackOf_4 (tgt := 11) rfl (fun h4 => ?_) (fun h4 => ?_)
  · skip
    refine j_iconst X d_M_trackOf_11 ?_
    refine j_istore_n X (zlt hn rfl) d_M_trackOf_12 ?_
    refine j_aload_n X rfl d_M_trackOf_13 ?_
    refine j_iload_n X rfl d_M_trackOf_14 ?_
    refine j_if_ne X (by omega) d_M_trackOf_15 (tgt := 32) rfl (fun h15 => ?_) (fun h15 => ?_)
    · exact absurd h15 (by omega)
    · skip
      refine j_iload_n X rfl d_M_trackOf_18 ?_
      refine j_iconst X d_M_trackOf_19 ?_
      refine j_icmp_lt X (by omega) (by omega) d_M_trackOf_20 (tgt := 32) rfl (fun h20 => ?_) (fun h20 => ?_)
      · exact absurd h20 (by omega)
      · skip
        refine j_iload_n X rfl d_M_trackOf_23 ?_
        refine j_aload_n X rfl d_M_trackOf_24 ?_
        refine j_iload_n X rfl d_M_trackOf_25 ?_
        refine v_M_198 X hz (c_M_tracksOf (zl z) E σ f a ho hf (by omega)) rfl rfl rfl (Nat.le_of_ble_eq_true rfl) ⟨Nat.le_refl _, Nat.le_refl _⟩ d_M_trackOf_26 ?_
        refine j_icmp_lt X (by omega) (by omega) d_M_trackOf_29 (tgt := 36) rfl (fun h29 => ?_) (fun h29 => ?_)
        · skip
          refine j_iconst X d_M_trackOf_36 ?_
          refine j_iconst X d_M_trackOf_37 ?_
          refine v_M_53 X hz (c_M_throwing (zl z) E σ _ _ (by decide) (by decide)) rfl rfl rfl (Nat.le_of_ble_eq_true rfl) ⟨Nat.le_refl _, Nat.le_refl _⟩ d_M_trackOf_38 ?_
          refine j_ifz X d_M_trackOf_41 (tgt := 46) rfl (fun _ => ?_) (fun h => absurd h (by decide))
          refine j_iload_n X rfl d_M_trackOf_46 ?_
          refine j_if_ge X (by omega) d_M_trackOf_47 (tgt := 58) rfl (fun h47 => ?_) (fun h47 => ?_)
          · skip
            refine j_aload_n X rfl d_M_trackOf_58 ?_
            refine j_iload_n X rfl d_M_trackOf_59 ?_
            refine j_iload_n X rfl d_M_trackOf_60 ?_
            refine v_M_201 X hz (c_M_trackAt (zl z) E (up σ 18 0 0 0) f a j ho hf (by omega) (by omega)) rfl rfl rfl (Nat.le_of_ble_eq_true rfl) ⟨Nat.le_refl _, Nat.le_refl _⟩ d_M_trackOf_61 ?_
            exact j_iret X Y (Nat.le_refl _) (Nat.le_refl _) d_M_trackOf_64 ⟨rfl, rfl⟩
          · exact absurd h47 (by omega)
        · exact absurd h29 (by omega)
  · exact absurd h4 (by omega)

set_option maxRecDepth 100000 in
set_option maxHeartbeats 4000000 in
theorem c_M_trackOfX1 (l : Launch) (E : eT) (σ : St) (a j : Int) (ra : inR a) (ha : ¬ (0 ≤ a ∧ a ≤ 5)) : FCon l E y_M_trackOf ws_M_trackOf 1 [.ref (E.2.2.2 18 0), .int (iI a), .int (iI j)] σ (some (.int (iI 0))) (up σ 18 0 0 1) := by
  refine con_of (cc := b_M_trackOf) (nL := 4) (ret := (some .int)) (by decide) (Nat.le_of_ble_eq_true rfl) (fun z X Y hn => ?_)
  have X : Cx E z b_M_trackOf R_M := X
  have hz := Y.2.1
  change J E z 0 0 0 [(0, .ref (E.2.2.2 18 0)), (1, .int (iI a)), (2, .int (iI j))] [] (cells E σ)
  refine j_iload_n X rfl d_M_trackOf_0 ?_
  refine s_M_192 X hz (c_M_isSet (zl z) E σ a (by omega)) rfl rfl rfl (Nat.le_of_ble_eq_true rfl) ⟨Nat.le_refl _, Nat.le_refl _⟩ d_M_trackOf_1 ?_
  refine j_ifnz X d_M_trackOf_4 (tgt := 11) rfl (fun h4 => ?_) (fun h4 => ?_)
  · exact absurd h4 (by omega)
  · skip
    refine j_iconst X d_M_trackOf_7 ?_
    refine j_goto X d_M_trackOf_8 (tgt := 12) rfl ?_
    refine j_istore_n X (zlt hn rfl) d_M_trackOf_12 ?_
    refine j_aload_n X rfl d_M_trackOf_13 ?_
    refine j_iload_n X rfl d_M_trackOf_14 ?_
    refine j_if_ne X (by omega) d_M_trackOf_15 (tgt := 32) rfl (fun h15 => ?_) (fun h15 => ?_)
    · skip
      refine j_iconst X d_M_trackOf_32 ?_
      refine j_goto X d_M_trackOf_33 (tgt := 37) rfl ?_
      refine j_iconst X d_M_trackOf_37 ?_
      refine v_M_53 X hz (c_M_throwing (zl z) E σ _ _ (by decide) (by decide)) rfl rfl rfl (Nat.le_of_ble_eq_true rfl) ⟨Nat.le_refl _, Nat.le_refl _⟩ d_M_trackOf_38 ?_
      refine j_ifz X d_M_trackOf_41 (tgt := 46) rfl (fun h => absurd (by decide) h) (fun _ => ?_)
      refine j_iconst X d_M_trackOf_44 ?_
      exact j_iret X Y (Nat.le_refl _) (Nat.le_refl _) d_M_trackOf_45 ⟨rfl, rfl⟩
    · exact absurd h15 (by omega)

set_option maxRecDepth 100000 in
set_option maxHeartbeats 4000000 in
theorem c_M_trackOfX2 (l : Launch) (E : eT) (σ : St) (f : Int → Int) (a j : Int) (ho : ∀ t, 0 ≤ t → t < 32 → σ 25 0 t = f t + 1) (hf : ∀ t, -1 ≤ f t ∧ f t ≤ 5) (ra : 0 ≤ a ∧ a ≤ 5) (rj : inR j) (hm : ¬ j = -1) (hj : ¬ (0 ≤ j ∧ j ≤ cnO f a 32 - 1)) : FCon l E y_M_trackOf ws_M_trackOf 1 [.ref (E.2.2.2 18 0), .int (iI a), .int (iI j)] σ (some (.int (iI 0))) (up σ 18 0 0 1) := by
  refine con_of (cc := b_M_trackOf) (nL := 4) (ret := (some .int)) (by decide) (Nat.le_of_ble_eq_true rfl) (fun z X Y hn => ?_)
  have X : Cx E z b_M_trackOf R_M := X
  have hz := Y.2.1
  change J E z 0 0 0 [(0, .ref (E.2.2.2 18 0)), (1, .int (iI a)), (2, .int (iI j))] [] (cells E σ)
  have hc := cnO_in f a 32
  refine j_iload_n X rfl d_M_trackOf_0 ?_
  refine s_M_192 X hz (c_M_isSet (zl z) E σ a (by omega)) rfl rfl rfl (Nat.le_of_ble_eq_true rfl) ⟨Nat.le_refl _, Nat.le_refl _⟩ d_M_trackOf_1 ?_
  refine j_ifnz X d_M_trackOf_4 (tgt := 11) rfl (fun h4 => ?_) (fun h4 => ?_)
  · skip
    refine j_iconst X d_M_trackOf_11 ?_
    refine j_istore_n X (zlt hn rfl) d_M_trackOf_12 ?_
    refine j_aload_n X rfl d_M_trackOf_13 ?_
    refine j_iload_n X rfl d_M_trackOf_14 ?_
    refine j_if_ne X (by omega) d_M_trackOf_15 (tgt := 32) rfl (fun h15 => ?_) (fun h15 => ?_)
    · exact absurd h15 (by omega)
    · skip
      refine j_iload_n X rfl d_M_trackOf_18 ?_
      refine j_iconst X d_M_trackOf_19 ?_
      refine j_icmp_lt X (by omega) (by omega) d_M_trackOf_20 (tgt := 32) rfl (fun h20 => ?_) (fun h20 => ?_)
      · skip
        refine j_iconst X d_M_trackOf_32 ?_
        refine j_goto X d_M_trackOf_33 (tgt := 37) rfl ?_
        refine j_iconst X d_M_trackOf_37 ?_
        refine v_M_53 X hz (c_M_throwing (zl z) E σ _ _ (by decide) (by decide)) rfl rfl rfl (Nat.le_of_ble_eq_true rfl) ⟨Nat.le_refl _, Nat.le_refl _⟩ d_M_trackOf_38 ?_
        refine j_ifz X d_M_trackOf_41 (tgt := 46) rfl (fun h => absurd (by decide) h) (fun _ => ?_)
        refine j_iconst X d_M_trackOf_44 ?_
        exact j_iret X Y (Nat.le_refl _) (Nat.le_refl _) d_M_trackOf_45 ⟨rfl, rfl⟩
      · skip
        refine j_iload_n X rfl d_M_trackOf_23 ?_
        refine j_aload_n X rfl d_M_trackOf_24 ?_
        refine j_iload_n X rfl d_M_trackOf_25 ?_
        refine v_M_198 X hz (c_M_tracksOf (zl z) E σ f a ho hf (by omega)) rfl rfl rfl (Nat.le_of_ble_eq_true rfl) ⟨Nat.le_refl _, Nat.le_refl _⟩ d_M_trackOf_26 ?_
        refine j_icmp_lt X (by omega) (by omega) d_M_trackOf_29 (tgt := 36) rfl (fun h29 => ?_) (fun h29 => ?_)
        · exact absurd h29 (by omega)
        · skip
          refine j_iconst X d_M_trackOf_32 ?_
          refine j_goto X d_M_trackOf_33 (tgt := 37) rfl ?_
          refine j_iconst X d_M_trackOf_37 ?_
          refine v_M_53 X hz (c_M_throwing (zl z) E σ _ _ (by decide) (by decide)) rfl rfl rfl (Nat.le_of_ble_eq_true rfl) ⟨Nat.le_refl _, Nat.le_refl _⟩ d_M_trackOf_38 ?_
          refine j_ifz X d_M_trackOf_41 (tgt := 46) rfl (fun h => absurd (by decide) h) (fun _ => ?_)
          refine j_iconst X d_M_trackOf_44 ?_
          exact j_iret X Y (Nat.le_refl _) (Nat.le_refl _) d_M_trackOf_45 ⟨rfl, rfl⟩
  · exact absurd h4 (by omega)

set_option maxRecDepth 100000 in
set_option maxHeartbeats 4000000 in
theorem c_M_scratchX1 (l : Launch) (E : eT) (σ : St) (a : Int) (ra : inR a) (ha : ¬ (0 ≤ a ∧ a ≤ 5)) : FCon l E y_M_scratch ws_M_scratch 1 [.ref (E.2.2.2 18 0), .int (iI a)] σ none (up σ 18 0 0 1) := by
  refine con_of (cc := b_M_scratch) (nL := 4) (ret := none) (by decide) (Nat.le_of_ble_eq_true rfl) (fun z X Y hn => ?_)
  have X : Cx E z b_M_scratch R_M := X
  have hz := Y.2.1
  change J E z 0 0 0 [(0, .ref (E.2.2.2 18 0)), (1, .int (iI a))] [] (cells E σ)
  refine j_iload_n X rfl d_M_scratch_0 ?_
  refine s_M_192 X hz (c_M_isSet (zl z) E σ a (by omega)) rfl rfl rfl (Nat.le_of_ble_eq_true rfl) ⟨Nat.le_refl _, Nat.le_refl _⟩ d_M_scratch_1 ?_
  refine j_ifnz X d_M_scratch_4 (tgt := 11) rfl (fun h4 => ?_) (fun h4 => ?_)
  · exact absurd h4 (by omega)
  · skip
    refine j_iconst X d_M_scratch_7 ?_
    refine j_goto X d_M_scratch_8 (tgt := 12) rfl ?_
    refine j_istore_n X (zlt hn rfl) d_M_scratch_12 ?_
    refine j_aload_n X rfl d_M_scratch_13 ?_
    refine j_iload_n X rfl d_M_scratch_14 ?_
    refine j_iload_n X rfl d_M_scratch_15 ?_
    refine j_if_ne X (by omega) d_M_scratch_16 (tgt := 31) rfl (fun h16 => ?_) (fun h16 => ?_)
    · skip
      refine j_iconst X d_M_scratch_31 ?_
      refine v_M_53 X hz (c_M_throwing (zl z) E σ _ _ (by decide) (by decide)) rfl rfl rfl (Nat.le_of_ble_eq_true rfl) ⟨Nat.le_refl _, Nat.le_refl _⟩ d_M_scratch_32 ?_
      refine j_ifz X d_M_scratch_35 (tgt := 39) rfl (fun h => absurd (by decide) h) (fun _ => ?_)
      exact j_vret X Y (Nat.le_refl _) (Nat.le_refl _) d_M_scratch_38 ⟨rfl, rfl⟩
    · exact absurd h16 (by omega)

set_option maxRecDepth 100000 in
set_option maxHeartbeats 4000000 in
theorem c_M_scratchX2 (l : Launch) (E : eT) (σ : St) (f : Int → Int) (a : Int) (ho : ∀ t, 0 ≤ t → t < 32 → σ 25 0 t = f t + 1) (hf : ∀ t, -1 ≤ f t ∧ f t ≤ 5) (ra : 0 ≤ a ∧ a ≤ 5) (h0 : ¬ 0 < cnO f a 32) : FCon l E y_M_scratch ws_M_scratch 1 [.ref (E.2.2.2 18 0), .int (iI a)] σ none (up σ 18 0 0 2) := by
  refine con_of (cc := b_M_scratch) (nL := 4) (ret := none) (by decide) (Nat.le_of_ble_eq_true rfl) (fun z X Y hn => ?_)
  have X : Cx E z b_M_scratch R_M := X
  have hz := Y.2.1
  change J E z 0 0 0 [(0, .ref (E.2.2.2 18 0)), (1, .int (iI a))] [] (cells E σ)
  have hc := cnO_in f a 32
  refine j_iload_n X rfl d_M_scratch_0 ?_
  refine s_M_192 X hz (c_M_isSet (zl z) E σ a (by omega)) rfl rfl rfl (Nat.le_of_ble_eq_true rfl) ⟨Nat.le_refl _, Nat.le_refl _⟩ d_M_scratch_1 ?_
  refine j_ifnz X d_M_scratch_4 (tgt := 11) rfl (fun h4 => ?_) (fun h4 => ?_)
  · skip
    refine j_iconst X d_M_scratch_11 ?_
    refine j_istore_n X (zlt hn rfl) d_M_scratch_12 ?_
    refine j_aload_n X rfl d_M_scratch_13 ?_
    refine j_iload_n X rfl d_M_scratch_14 ?_
    refine j_iload_n X rfl d_M_scratch_15 ?_
    refine j_if_ne X (by omega) d_M_scratch_16 (tgt := 31) rfl (fun h16 => ?_) (fun h16 => ?_)
    · exact absurd h16 (by omega)
    · skip
      refine j_aload_n X rfl d_M_scratch_19 ?_
      refine j_iload_n X rfl d_M_scratch_20 ?_
      refine v_M_198 X hz (c_M_tracksOf (zl z) E σ f a ho hf (by omega)) rfl rfl rfl (Nat.le_of_ble_eq_true rfl) ⟨Nat.le_refl _, Nat.le_refl _⟩ d_M_scratch_21 ?_
      refine j_if_ne X (by omega) d_M_scratch_24 (tgt := 31) rfl (fun h24 => ?_) (fun h24 => ?_)
      · exact absurd h24 (by omega)
      · skip
        refine j_iconst X d_M_scratch_27 ?_
        refine j_goto X d_M_scratch_28 (tgt := 32) rfl ?_
        refine v_M_53 X hz (c_M_throwing (zl z) E σ _ _ (by decide) (by decide)) rfl rfl rfl (Nat.le_of_ble_eq_true rfl) ⟨Nat.le_refl _, Nat.le_refl _⟩ d_M_scratch_32 ?_
        refine j_ifz X d_M_scratch_35 (tgt := 39) rfl (fun h => absurd (by decide) h) (fun _ => ?_)
        exact j_vret X Y (Nat.le_refl _) (Nat.le_refl _) d_M_scratch_38 ⟨rfl, rfl⟩
  · exact absurd h4 (by omega)

set_option maxRecDepth 100000 in
set_option maxHeartbeats 4000000 in
theorem c_M_scratch (l : Launch) (E : eT) (σ : St) (f : Int → Int) (a : Int) (ho : ∀ t, 0 ≤ t → t < 32 → σ 25 0 t = f t + 1) (hf : ∀ t, -1 ≤ f t ∧ f t ≤ 5) (ra : 0 ≤ a ∧ a ≤ 5) (h0 : 0 < cnO f a 32) : FCon l E y_M_scratch ws_M_scratch 1 [.ref (E.2.2.2 18 0), .int (iI a)] σ none (gvM (up σ 18 0 0 0) a 32) := by
  refine con_of (cc := b_M_scratch) (nL := 4) (ret := none) (by decide) (Nat.le_of_ble_eq_true rfl) (fun z X Y hn => ?_)
  have X : Cx E z b_M_scratch R_M := X
  have hz := Y.2.1
  change J E z 0 0 0 [(0, .ref (E.2.2.2 18 0)), (1, .int (iI a))] [] (cells E σ)
  have hc := cnO_in f a 32
  refine j_iload_n X rfl d_M_scratch_0 ?_
  refine s_M_192 X hz (c_M_isSet (zl z) E σ a (by omega)) rfl rfl rfl (Nat.le_of_ble_eq_true rfl) ⟨Nat.le_refl _, Nat.le_refl _⟩ d_M_scratch_1 ?_
  refine j_ifnz X d_M_scratch_4 (tgt := 11) rfl (fun h4 => ?_) (fun h4 => ?_)
  · skip
    refine j_iconst X d_M_scratch_11 ?_
    refine j_istore_n X (zlt hn rfl) d_M_scratch_12 ?_
    refine j_aload_n X rfl d_M_scratch_13 ?_
    refine j_iload_n X rfl d_M_scratch_14 ?_
    refine j_iload_n X rfl d_M_scratch_15 ?_
    refine j_if_ne X (by omega) d_M_scratch_16 (tgt := 31) rfl (fun h16 => ?_) (fun h16 => ?_)
    · exact absurd h16 (by omega)
    · skip
      refine j_aload_n X rfl d_M_scratch_19 ?_
      refine j_iload_n X rfl d_M_scratch_20 ?_
      refine v_M_198 X hz (c_M_tracksOf (zl z) E σ f a ho hf (by omega)) rfl rfl rfl (Nat.le_of_ble_eq_true rfl) ⟨Nat.le_refl _, Nat.le_refl _⟩ d_M_scratch_21 ?_
      refine j_if_ne X (by omega) d_M_scratch_24 (tgt := 31) rfl (fun h24 => ?_) (fun h24 => ?_)
      · skip
        refine j_iconst X d_M_scratch_31 ?_
        refine v_M_53 X hz (c_M_throwing (zl z) E σ _ _ (by decide) (by decide)) rfl rfl rfl (Nat.le_of_ble_eq_true rfl) ⟨Nat.le_refl _, Nat.le_refl _⟩ d_M_scratch_32 ?_
        refine j_ifz X d_M_scratch_35 (tgt := 39) rfl (fun _ => ?_) (fun h => absurd h (by decide))
        refine j_iconst X d_M_scratch_39 ?_
        refine j_istore_n X (zlt hn rfl) d_M_scratch_40 ?_
        have kyl : ∀ t : Int, (0 ≤ t ∧ t ≤ 32) → J E z 0 0 41 [(0, .ref (E.2.2.2 18 0)), (1, .int (iI a)), (2, .int (iI 0)), (3, .int (iI t))] [] (cells E (gvM (up σ 18 0 0 0) a t)) := by
          refine j_loop (fun t : Int => (32 - t).toNat) _ _ (fun t ht ih => ?_)
          refine j_iload_n X rfl d_M_scratch_41 ?_
          refine j_bipush X rfl d_M_scratch_42 ?_
          refine j_icmp_ge X (by omega) (by omega) d_M_scratch_44 (tgt := 81) rfl (fun h44 => ?_) (fun h44 => ?_)
          · skip
            exact j_vret X Y (Nat.le_refl _) (Nat.le_refl _) d_M_scratch_81 ⟨rfl, by rw [show t = 32 by omega]⟩
          · skip
            refine j_aload_n X rfl d_M_scratch_47 ?_
            refine g_M_29 X d_M_scratch_48 ?_
            refine j_iload_n X rfl d_M_scratch_51 ?_
            refine j_aload_n X rfl d_M_scratch_52 ?_
            refine g_M_29 X d_M_scratch_53 ?_
            refine j_iload_n X rfl d_M_scratch_56 ?_
            refine j_iald X (by first | exact okC1 rfl | exact (okCT rfl (by omega))) (fun _ => rfl) rfl (by omega) d_M_scratch_57 ?_
            refine j_topi (congrArg iI (gm_at (up σ 18 0 0 0) a t)) ?_
            have e0 := ho t (by omega) (by omega)
            have f0 := hf t
            refine j_topi (congrArg iI e0) ?_
            refine j_iload_n X rfl d_M_scratch_58 ?_
            refine j_iconst X d_M_scratch_59 ?_
            refine j_iadd X d_M_scratch_60 ?_
            refine j_icmp_ne X (by omega) (by omega) d_M_scratch_61 (tgt := 68) rfl (fun h61 => ?_) (fun h61 => ?_)
            · skip
              refine j_aload_n X rfl d_M_scratch_68 ?_
              refine g_M_29 X d_M_scratch_69 ?_
              refine j_iload_n X rfl d_M_scratch_72 ?_
              refine j_iald X (by first | exact okC1 rfl | exact (okCT rfl (by omega))) (fun _ => rfl) rfl (by omega) d_M_scratch_73 ?_
              refine j_iast X (by first | exact okC1 rfl | exact (okCT rfl (by omega))) (fun _ => rfl) rfl (by omega) d_M_scratch_74 ?_
              refine j_iinc X rfl (zlt hn rfl) d_M_scratch_75 ?_
              refine j_goto X d_M_scratch_78 (tgt := 41) rfl ?_
              rw [up_id rfl, gm_s0 (σ := (up σ 18 0 0 0)) (show ¬ σ 25 0 t = a + 1 by omega) ht.1]; exact ih (t + 1) (by omega) (by omega)
            · skip
              refine j_iconst X d_M_scratch_64 ?_
              refine j_goto X d_M_scratch_65 (tgt := 74) rfl ?_
              refine j_iast X (by first | exact okC1 rfl | exact (okCT rfl (by omega))) (fun _ => rfl) rfl (by omega) d_M_scratch_74 ?_
              refine j_iinc X rfl (zlt hn rfl) d_M_scratch_75 ?_
              refine j_goto X d_M_scratch_78 (tgt := 41) rfl ?_
              rw [gm_s1 (σ := (up σ 18 0 0 0)) (show σ 25 0 t = a + 1 by omega) ht.1]; exact ih (t + 1) (by omega) (by omega)
        have := kyl 0 (by omega); rw [gm_0] at this; exact this
      · exact absurd h24 (by omega)
  · exact absurd h4 (by omega)

set_option maxRecDepth 100000 in
set_option maxHeartbeats 4000000 in
theorem c_M_allocateX1 (l : Launch) (E : eT) (σ : St) (a w : Int) (ra : inR a) (rw' : inR w) (ha : ¬ ((0 ≤ a ∧ a ≤ 5) ∧ (1 ≤ w ∧ w ≤ 32))) : FCon l E y_M_allocate ws_M_allocate 1 [.ref (E.2.2.2 18 0), .int (iI a), .int (iI w)] σ (some (.int (iI 0))) (up σ 18 0 0 1) := by
  refine con_of (cc := b_M_allocate) (nL := 7) (ret := (some .int)) (by decide) (Nat.le_of_ble_eq_true rfl) (fun z X Y hn => ?_)
  have X : Cx E z b_M_allocate R_M := X
  have hz := Y.2.1
  change J E z 0 0 0 [(0, .ref (E.2.2.2 18 0)), (1, .int (iI a)), (2, .int (iI w))] [] (cells E σ)
  refine j_iload_n X rfl d_M_allocate_0 ?_
  refine s_M_192 X hz (c_M_isSet (zl z) E σ a (by omega)) rfl rfl rfl (Nat.le_of_ble_eq_true rfl) ⟨Nat.le_refl _, Nat.le_refl _⟩ d_M_allocate_1 ?_
  refine j_ifz X d_M_allocate_4 (tgt := 18) rfl (fun h4 => ?_) (fun h4 => ?_)
  · skip
    refine j_iconst X d_M_allocate_18 ?_
    refine j_goto X d_M_allocate_19 (tgt := 23) rfl ?_
    refine j_istore_n X (zlt hn rfl) d_M_allocate_23 ?_
    refine j_iload_n X rfl d_M_allocate_24 ?_
    refine j_if_eq X (by omega) d_M_allocate_25 (tgt := 32) rfl (fun h25 => ?_) (fun h25 => ?_)
    · exact absurd h25 (by omega)
    · skip
      refine j_iconst X d_M_allocate_28 ?_
      refine j_goto X d_M_allocate_29 (tgt := 37) rfl ?_
      refine j_istore X (zlt hn rfl) d_M_allocate_37 ?_
      refine j_aload_n X rfl d_M_allocate_39 ?_
      refine j_iload_n X rfl d_M_allocate_40 ?_
      refine j_iload_n X rfl d_M_allocate_41 ?_
      refine j_if_ne X (by omega) d_M_allocate_42 (tgt := 69) rfl (fun h42 => ?_) (fun h42 => ?_)
      · skip
        refine j_iconst X d_M_allocate_69 ?_
        refine v_M_53 X hz (c_M_throwing (zl z) E σ _ _ (by decide) (by decide)) rfl rfl rfl (Nat.le_of_ble_eq_true rfl) ⟨Nat.le_refl _, Nat.le_refl _⟩ d_M_allocate_70 ?_
        refine j_ifz X d_M_allocate_73 (tgt := 78) rfl (fun h => absurd (by decide) h) (fun _ => ?_)
        refine j_iconst X d_M_allocate_76 ?_
        exact j_iret X Y (Nat.le_refl _) (Nat.le_refl _) d_M_allocate_77 ⟨rfl, rfl⟩
      · exact absurd h42 (by omega)
  · skip
    refine j_iload_n X rfl d_M_allocate_7 ?_
    refine j_iconst X d_M_allocate_8 ?_
    refine j_icmp_lt X (by omega) (by omega) d_M_allocate_9 (tgt := 18) rfl (fun h9 => ?_) (fun h9 => ?_)
    · skip
      refine j_iconst X d_M_allocate_18 ?_
      refine j_goto X d_M_allocate_19 (tgt := 23) rfl ?_
      refine j_istore_n X (zlt hn rfl) d_M_allocate_23 ?_
      refine j_iload_n X rfl d_M_allocate_24 ?_
      refine j_if_eq X (by omega) d_M_allocate_25 (tgt := 32) rfl (fun h25 => ?_) (fun h25 => ?_)
      · exact absurd h25 (by omega)
      · skip
        refine j_iconst X d_M_allocate_28 ?_
        refine j_goto X d_M_allocate_29 (tgt := 37) rfl ?_
        refine j_istore X (zlt hn rfl) d_M_allocate_37 ?_
        refine j_aload_n X rfl d_M_allocate_39 ?_
        refine j_iload_n X rfl d_M_allocate_40 ?_
        refine j_iload_n X rfl d_M_allocate_41 ?_
        refine j_if_ne X (by omega) d_M_allocate_42 (tgt := 69) rfl (fun h42 => ?_) (fun h42 => ?_)
        · skip
          refine j_iconst X d_M_allocate_69 ?_
          refine v_M_53 X hz (c_M_throwing (zl z) E σ _ _ (by decide) (by decide)) rfl rfl rfl (Nat.le_of_ble_eq_true rfl) ⟨Nat.le_refl _, Nat.le_refl _⟩ d_M_allocate_70 ?_
          refine j_ifz X d_M_allocate_73 (tgt := 78) rfl (fun h => absurd (by decide) h) (fun _ => ?_)
          refine j_iconst X d_M_allocate_76 ?_
          exact j_iret X Y (Nat.le_refl _) (Nat.le_refl _) d_M_allocate_77 ⟨rfl, rfl⟩
        · exact absurd h42 (by omega)
    · skip
      refine j_iload_n X rfl d_M_allocate_12 ?_
      refine j_bipush X rfl d_M_allocate_13 ?_
      refine j_icmp_le X (by omega) (by omega) d_M_allocate_15 (tgt := 22) rfl (fun h15 => ?_) (fun h15 => ?_)
      · exact absurd h15 (by omega)
      · skip
        refine j_iconst X d_M_allocate_18 ?_
        refine j_goto X d_M_allocate_19 (tgt := 23) rfl ?_
        refine j_istore_n X (zlt hn rfl) d_M_allocate_23 ?_
        refine j_iload_n X rfl d_M_allocate_24 ?_
        refine j_if_eq X (by omega) d_M_allocate_25 (tgt := 32) rfl (fun h25 => ?_) (fun h25 => ?_)
        · exact absurd h25 (by omega)
        · skip
          refine j_iconst X d_M_allocate_28 ?_
          refine j_goto X d_M_allocate_29 (tgt := 37) rfl ?_
          refine j_istore X (zlt hn rfl) d_M_allocate_37 ?_
          refine j_aload_n X rfl d_M_allocate_39 ?_
          refine j_iload_n X rfl d_M_allocate_40 ?_
          refine j_iload_n X rfl d_M_allocate_41 ?_
          refine j_if_ne X (by omega) d_M_allocate_42 (tgt := 69) rfl (fun h42 => ?_) (fun h42 => ?_)
          · skip
            refine j_iconst X d_M_allocate_69 ?_
            refine v_M_53 X hz (c_M_throwing (zl z) E σ _ _ (by decide) (by decide)) rfl rfl rfl (Nat.le_of_ble_eq_true rfl) ⟨Nat.le_refl _, Nat.le_refl _⟩ d_M_allocate_70 ?_
            refine j_ifz X d_M_allocate_73 (tgt := 78) rfl (fun h => absurd (by decide) h) (fun _ => ?_)
            refine j_iconst X d_M_allocate_76 ?_
            exact j_iret X Y (Nat.le_refl _) (Nat.le_refl _) d_M_allocate_77 ⟨rfl, rfl⟩
          · exact absurd h42 (by omega)

set_option maxRecDepth 100000 in
set_option maxHeartbeats 4000000 in
theorem c_M_allocateX2 (l : Launch) (E : eT) (σ : St) (f : Int → Int) (a w : Int) (ho : ∀ t, 0 ≤ t → t < 32 → σ 25 0 t = f t + 1) (hf : ∀ t, -1 ≤ f t ∧ f t ≤ 5) (ra : 0 ≤ a ∧ a ≤ 5) (hw : 1 ≤ w ∧ w ≤ 32) (h1 : 0 < cnO f a 32) : FCon l E y_M_allocate ws_M_allocate 1 [.ref (E.2.2.2 18 0), .int (iI a), .int (iI w)] σ (some (.int (iI 0))) (up σ 18 0 0 2) := by
  refine con_of (cc := b_M_allocate) (nL := 7) (ret := (some .int)) (by decide) (Nat.le_of_ble_eq_true rfl) (fun z X Y hn => ?_)
  have X : Cx E z b_M_allocate R_M := X
  have hz := Y.2.1
  change J E z 0 0 0 [(0, .ref (E.2.2.2 18 0)), (1, .int (iI a)), (2, .int (iI w))] [] (cells E σ)
  have hc := cnO_in f a 32
  have hx := exL_in f w 32 0 0 0
  refine j_iload_n X rfl d_M_allocate_0 ?_
  refine s_M_192 X hz (c_M_isSet (zl z) E σ a (by omega)) rfl rfl rfl (Nat.le_of_ble_eq_true rfl) ⟨Nat.le_refl _, Nat.le_refl _⟩ d_M_allocate_1 ?_
  refine j_ifz X d_M_allocate_4 (tgt := 18) rfl (fun h4 => ?_) (fun h4 => ?_)
  · exact absurd h4 (by omega)
  · skip
    refine j_iload_n X rfl d_M_allocate_7 ?_
    refine j_iconst X d_M_allocate_8 ?_
    refine j_icmp_lt X (by omega) (by omega) d_M_allocate_9 (tgt := 18) rfl (fun h9 => ?_) (fun h9 => ?_)
    · exact absurd h9 (by omega)
    · skip
      refine j_iload_n X rfl d_M_allocate_12 ?_
      refine j_bipush X rfl d_M_allocate_13 ?_
      refine j_icmp_le X (by omega) (by omega) d_M_allocate_15 (tgt := 22) rfl (fun h15 => ?_) (fun h15 => ?_)
      · skip
        refine j_iconst X d_M_allocate_22 ?_
        refine j_istore_n X (zlt hn rfl) d_M_allocate_23 ?_
        refine j_iload_n X rfl d_M_allocate_24 ?_
        refine j_if_eq X (by omega) d_M_allocate_25 (tgt := 32) rfl (fun h25 => ?_) (fun h25 => ?_)
        · skip
          refine j_aload_n X rfl d_M_allocate_32 ?_
          refine j_iload_n X rfl d_M_allocate_33 ?_
          refine v_M_195 X hz (c_M_extents (zl z) E σ f w ho hf hw) rfl rfl rfl (Nat.le_of_ble_eq_true rfl) ⟨Nat.le_refl _, Nat.le_refl _⟩ d_M_allocate_34 ?_
          generalize (if w ≤ cnO f (-1) 32 then exL f w 32 0 0 0 else 0) = r
          refine j_istore X (zlt hn rfl) d_M_allocate_37 ?_
          refine j_aload_n X rfl d_M_allocate_39 ?_
          refine j_iload_n X rfl d_M_allocate_40 ?_
          refine j_iload_n X rfl d_M_allocate_41 ?_
          refine j_if_ne X (by omega) d_M_allocate_42 (tgt := 69) rfl (fun h42 => ?_) (fun h42 => ?_)
          · exact absurd h42 (by omega)
          · skip
            refine j_aload_n X rfl d_M_allocate_45 ?_
            refine j_iload_n X rfl d_M_allocate_46 ?_
            refine v_M_198 X hz (c_M_tracksOf (zl z) E σ f a ho hf (by omega)) rfl rfl rfl (Nat.le_of_ble_eq_true rfl) ⟨Nat.le_refl _, Nat.le_refl _⟩ d_M_allocate_47 ?_
            refine j_if_gt X (by omega) d_M_allocate_50 (tgt := 65) rfl (fun h50 => ?_) (fun h50 => ?_)
            · skip
              refine j_iconst X d_M_allocate_65 ?_
              refine j_goto X d_M_allocate_66 (tgt := 70) rfl ?_
              refine v_M_53 X hz (c_M_throwing (zl z) E σ _ _ (by decide) (by decide)) rfl rfl rfl (Nat.le_of_ble_eq_true rfl) ⟨Nat.le_refl _, Nat.le_refl _⟩ d_M_allocate_70 ?_
              refine j_ifz X d_M_allocate_73 (tgt := 78) rfl (fun h => absurd (by decide) h) (fun _ => ?_)
              refine j_iconst X d_M_allocate_76 ?_
              exact j_iret X Y (Nat.le_refl _) (Nat.le_refl _) d_M_allocate_77 ⟨rfl, rfl⟩
            · exact absurd h50 (by omega)
        · exact absurd h25 (by omega)
      · exact absurd h15 (by omega)

set_option maxRecDepth 100000 in
set_option maxHeartbeats 4000000 in
theorem c_M_allocateX3 (l : Launch) (E : eT) (σ : St) (f : Int → Int) (a w : Int) (ho : ∀ t, 0 ≤ t → t < 32 → σ 25 0 t = f t + 1) (hf : ∀ t, -1 ≤ f t ∧ f t ≤ 5) (ra : 0 ≤ a ∧ a ≤ 5) (hw : 1 ≤ w ∧ w ≤ 32) (h1 : ¬ 0 < cnO f a 32) (h2 : ¬ w ≤ cnO f (-1) 32) : FCon l E y_M_allocate ws_M_allocate 1 [.ref (E.2.2.2 18 0), .int (iI a), .int (iI w)] σ (some (.int (iI 0))) (up σ 18 0 0 2) := by
  refine con_of (cc := b_M_allocate) (nL := 7) (ret := (some .int)) (by decide) (Nat.le_of_ble_eq_true rfl) (fun z X Y hn => ?_)
  have X : Cx E z b_M_allocate R_M := X
  have hz := Y.2.1
  change J E z 0 0 0 [(0, .ref (E.2.2.2 18 0)), (1, .int (iI a)), (2, .int (iI w))] [] (cells E σ)
  have hc := cnO_in f a 32
  have hx := exL_in f w 32 0 0 0
  refine j_iload_n X rfl d_M_allocate_0 ?_
  refine s_M_192 X hz (c_M_isSet (zl z) E σ a (by omega)) rfl rfl rfl (Nat.le_of_ble_eq_true rfl) ⟨Nat.le_refl _, Nat.le_refl _⟩ d_M_allocate_1 ?_
  refine j_ifz X d_M_allocate_4 (tgt := 18) rfl (fun h4 => ?_) (fun h4 => ?_)
  · exact absurd h4 (by omega)
  · skip
    refine j_iload_n X rfl d_M_allocate_7 ?_
    refine j_iconst X d_M_allocate_8 ?_
    refine j_icmp_lt X (by omega) (by omega) d_M_allocate_9 (tgt := 18) rfl (fun h9 => ?_) (fun h9 => ?_)
    · exact absurd h9 (by omega)
    · skip
      refine j_iload_n X rfl d_M_allocate_12 ?_
      refine j_bipush X rfl d_M_allocate_13 ?_
      refine j_icmp_le X (by omega) (by omega) d_M_allocate_15 (tgt := 22) rfl (fun h15 => ?_) (fun h15 => ?_)
      · skip
        refine j_iconst X d_M_allocate_22 ?_
        refine j_istore_n X (zlt hn rfl) d_M_allocate_23 ?_
        refine j_iload_n X rfl d_M_allocate_24 ?_
        refine j_if_eq X (by omega) d_M_allocate_25 (tgt := 32) rfl (fun h25 => ?_) (fun h25 => ?_)
        · skip
          refine j_aload_n X rfl d_M_allocate_32 ?_
          refine j_iload_n X rfl d_M_allocate_33 ?_
          refine v_M_195 X hz (c_M_extents (zl z) E σ f w ho hf hw) rfl rfl rfl (Nat.le_of_ble_eq_true rfl) ⟨Nat.le_refl _, Nat.le_refl _⟩ d_M_allocate_34 ?_
          rw [if_neg h2]
          refine j_istore X (zlt hn rfl) d_M_allocate_37 ?_
          refine j_aload_n X rfl d_M_allocate_39 ?_
          refine j_iload_n X rfl d_M_allocate_40 ?_
          refine j_iload_n X rfl d_M_allocate_41 ?_
          refine j_if_ne X (by omega) d_M_allocate_42 (tgt := 69) rfl (fun h42 => ?_) (fun h42 => ?_)
          · exact absurd h42 (by omega)
          · skip
            refine j_aload_n X rfl d_M_allocate_45 ?_
            refine j_iload_n X rfl d_M_allocate_46 ?_
            refine v_M_198 X hz (c_M_tracksOf (zl z) E σ f a ho hf (by omega)) rfl rfl rfl (Nat.le_of_ble_eq_true rfl) ⟨Nat.le_refl _, Nat.le_refl _⟩ d_M_allocate_47 ?_
            refine j_if_gt X (by omega) d_M_allocate_50 (tgt := 65) rfl (fun h50 => ?_) (fun h50 => ?_)
            · exact absurd h50 (by omega)
            · skip
              refine j_iload X rfl d_M_allocate_53 ?_
              refine j_iconst X d_M_allocate_55 ?_
              refine j_icmp_lt X (by omega) (by omega) d_M_allocate_56 (tgt := 65) rfl (fun h56 => ?_) (fun h56 => ?_)
              · skip
                refine j_iconst X d_M_allocate_65 ?_
                refine j_goto X d_M_allocate_66 (tgt := 70) rfl ?_
                refine v_M_53 X hz (c_M_throwing (zl z) E σ _ _ (by decide) (by decide)) rfl rfl rfl (Nat.le_of_ble_eq_true rfl) ⟨Nat.le_refl _, Nat.le_refl _⟩ d_M_allocate_70 ?_
                refine j_ifz X d_M_allocate_73 (tgt := 78) rfl (fun h => absurd (by decide) h) (fun _ => ?_)
                refine j_iconst X d_M_allocate_76 ?_
                exact j_iret X Y (Nat.le_refl _) (Nat.le_refl _) d_M_allocate_77 ⟨rfl, rfl⟩
              · exact absurd h56 (by omega)
        · exact absurd h25 (by omega)
      · exact absurd h15 (by omega)

set_option maxRecDepth 100000 in
set_option maxHeartbeats 4000000 in
theorem c_M_allocateX4 (l : Launch) (E : eT) (σ : St) (f : Int → Int) (a w : Int) (ho : ∀ t, 0 ≤ t → t < 32 → σ 25 0 t = f t + 1) (hf : ∀ t, -1 ≤ f t ∧ f t ≤ 5) (ra : 0 ≤ a ∧ a ≤ 5) (hw : 1 ≤ w ∧ w ≤ 32) (h1 : ¬ 0 < cnO f a 32) (h2 : w ≤ cnO f (-1) 32) (h3 : ¬ exL f w 32 0 0 0 ≤ 4) : FCon l E y_M_allocate ws_M_allocate 1 [.ref (E.2.2.2 18 0), .int (iI a), .int (iI w)] σ (some (.int (iI 0))) (up σ 18 0 0 2) := by
  refine con_of (cc := b_M_allocate) (nL := 7) (ret := (some .int)) (by decide) (Nat.le_of_ble_eq_true rfl) (fun z X Y hn => ?_)
  have X : Cx E z b_M_allocate R_M := X
  have hz := Y.2.1
  change J E z 0 0 0 [(0, .ref (E.2.2.2 18 0)), (1, .int (iI a)), (2, .int (iI w))] [] (cells E σ)
  have hc := cnO_in f a 32
  have hx := exL_in f w 32 0 0 0
  refine j_iload_n X rfl d_M_allocate_0 ?_
  refine s_M_192 X hz (c_M_isSet (zl z) E σ a (by omega)) rfl rfl rfl (Nat.le_of_ble_eq_true rfl) ⟨Nat.le_refl _, Nat.le_refl _⟩ d_M_allocate_1 ?_
  refine j_ifz X d_M_allocate_4 (tgt := 18) rfl (fun h4 => ?_) (fun h4 => ?_)
  · exact absurd h4 (by omega)
  · skip
    refine j_iload_n X rfl d_M_allocate_7 ?_
    refine j_iconst X d_M_allocate_8 ?_
    refine j_icmp_lt X (by omega) (by omega) d_M_allocate_9 (tgt := 18) rfl (fun h9 => ?_) (fun h9 => ?_)
    · exact absurd h9 (by omega)
    · skip
      refine j_iload_n X rfl d_M_allocate_12 ?_
      refine j_bipush X rfl d_M_allocate_13 ?_
      refine j_icmp_le X (by omega) (by omega) d_M_allocate_15 (tgt := 22) rfl (fun h15 => ?_) (fun h15 => ?_)
      · skip
        refine j_iconst X d_M_allocate_22 ?_
        refine j_istore_n X (zlt hn rfl) d_M_allocate_23 ?_
        refine j_iload_n X rfl d_M_allocate_24 ?_
        refine j_if_eq X (by omega) d_M_allocate_25 (tgt := 32) rfl (fun h25 => ?_) (fun h25 => ?_)
        · skip
          refine j_aload_n X rfl d_M_allocate_32 ?_
          refine j_iload_n X rfl d_M_allocate_33 ?_
          refine v_M_195 X hz (c_M_extents (zl z) E σ f w ho hf hw) rfl rfl rfl (Nat.le_of_ble_eq_true rfl) ⟨Nat.le_refl _, Nat.le_refl _⟩ d_M_allocate_34 ?_
          rw [if_pos h2]
          refine j_istore X (zlt hn rfl) d_M_allocate_37 ?_
          refine j_aload_n X rfl d_M_allocate_39 ?_
          refine j_iload_n X rfl d_M_allocate_40 ?_
          refine j_iload_n X rfl d_M_allocate_41 ?_
          refine j_if_ne X (by omega) d_M_allocate_42 (tgt := 69) rfl (fun h42 => ?_) (fun h42 => ?_)
          · exact absurd h42 (by omega)
          · skip
            refine j_aload_n X rfl d_M_allocate_45 ?_
            refine j_iload_n X rfl d_M_allocate_46 ?_
            refine v_M_198 X hz (c_M_tracksOf (zl z) E σ f a ho hf (by omega)) rfl rfl rfl (Nat.le_of_ble_eq_true rfl) ⟨Nat.le_refl _, Nat.le_refl _⟩ d_M_allocate_47 ?_
            refine j_if_gt X (by omega) d_M_allocate_50 (tgt := 65) rfl (fun h50 => ?_) (fun h50 => ?_)
            · exact absurd h50 (by omega)
            · skip
              refine j_iload X rfl d_M_allocate_53 ?_
              refine j_iconst X d_M_allocate_55 ?_
              refine j_icmp_lt X (by omega) (by omega) d_M_allocate_56 (tgt := 65) rfl (fun h56 => ?_) (fun h56 => ?_)
              · exact absurd h56 (by omega)
              · skip
                refine j_iload X rfl d_M_allocate_59 ?_
                refine j_iconst X d_M_allocate_61 ?_
                refine j_icmp_le X (by omega) (by omega) d_M_allocate_62 (tgt := 69) rfl (fun h62 => ?_) (fun h62 => ?_)
                · exact absurd h62 (by omega)
                · skip
                  refine j_iconst X d_M_allocate_65 ?_
                  refine j_goto X d_M_allocate_66 (tgt := 70) rfl ?_
                  refine v_M_53 X hz (c_M_throwing (zl z) E σ _ _ (by decide) (by decide)) rfl rfl rfl (Nat.le_of_ble_eq_true rfl) ⟨Nat.le_refl _, Nat.le_refl _⟩ d_M_allocate_70 ?_
                  refine j_ifz X d_M_allocate_73 (tgt := 78) rfl (fun h => absurd (by decide) h) (fun _ => ?_)
                  refine j_iconst X d_M_allocate_76 ?_
                  exact j_iret X Y (Nat.le_refl _) (Nat.le_refl _) d_M_allocate_77 ⟨rfl, rfl⟩
        · exact absurd h25 (by omega)
      · exact absurd h15 (by omega)

set_option maxRecDepth 100000 in
set_option maxHeartbeats 4000000 in
theorem c_M_allocate (l : Launch) (E : eT) (σ : St) (f : Int → Int) (a w : Int) (ho : ∀ t, 0 ≤ t → t < 32 → σ 25 0 t = f t + 1) (hf : ∀ t, -1 ≤ f t ∧ f t ≤ 5) (ra : 0 ≤ a ∧ a ≤ 5) (hw : 1 ≤ w ∧ w ≤ 32) (h1 : ¬ 0 < cnO f a 32) (h2 : w ≤ cnO f (-1) 32) (h3 : exL f w 32 0 0 0 ≤ 4) : FCon l E y_M_allocate ws_M_allocate 1 [.ref (E.2.2.2 18 0), .int (iI a), .int (iI w)] σ (some (.int (iI (exL f w 32 0 0 0)))) (tkM a w 32 0 0 (up σ 18 0 0 0)) := by
  refine con_of (cc := b_M_allocate) (nL := 7) (ret := (some .int)) (by decide) (Nat.le_of_ble_eq_true rfl) (fun z X Y hn => ?_)
  have X : Cx E z b_M_allocate R_M := X
  have hz := Y.2.1
  change J E z 0 0 0 [(0, .ref (E.2.2.2 18 0)), (1, .int (iI a)), (2, .int (iI w))] [] (cells E σ)
  have hc := cnO_in f a 32
  have hx := exL_in f w 32 0 0 0
  have hp := exL_p f w hw.1 32 0 0 (by omega) (fun i q0 q1 => absurd q1 (by omega)) (by show 0 < cnO f (-1) 32; omega)
  obtain ⟨R, hr⟩ : ∃ R, R = tkM a w 32 0 0 (up σ 18 0 0 0) := ⟨_, rfl⟩
  rw [← hr] at Y
  refine j_iload_n X rfl d_M_allocate_0 ?_
  refine s_M_192 X hz (c_M_isSet (zl z) E σ a (by omega)) rfl rfl rfl (Nat.le_of_ble_eq_true rfl) ⟨Nat.le_refl _, Nat.le_refl _⟩ d_M_allocate_1 ?_
  refine j_ifz X d_M_allocate_4 (tgt := 18) rfl (fun h4 => ?_) (fun h4 => ?_)
  · exact absurd h4 (by omega)
  · skip
    refine j_iload_n X rfl d_M_allocate_7 ?_
    refine j_iconst X d_M_allocate_8 ?_
    refine j_icmp_lt X (by omega) (by omega) d_M_allocate_9 (tgt := 18) rfl (fun h9 => ?_) (fun h9 => ?_)
    · exact absurd h9 (by omega)
    · skip
      refine j_iload_n X rfl d_M_allocate_12 ?_
      refine j_bipush X rfl d_M_allocate_13 ?_
      refine j_icmp_le X (by omega) (by omega) d_M_allocate_15 (tgt := 22) rfl (fun h15 => ?_) (fun h15 => ?_)
      · skip
        refine j_iconst X d_M_allocate_22 ?_
        refine j_istore_n X (zlt hn rfl) d_M_allocate_23 ?_
        refine j_iload_n X rfl d_M_allocate_24 ?_
        refine j_if_eq X (by omega) d_M_allocate_25 (tgt := 32) rfl (fun h25 => ?_) (fun h25 => ?_)
        · skip
          refine j_aload_n X rfl d_M_allocate_32 ?_
          refine j_iload_n X rfl d_M_allocate_33 ?_
          refine v_M_195 X hz (c_M_extents (zl z) E σ f w ho hf hw) rfl rfl rfl (Nat.le_of_ble_eq_true rfl) ⟨Nat.le_refl _, Nat.le_refl _⟩ d_M_allocate_34 ?_
          rw [if_pos h2]
          refine j_istore X (zlt hn rfl) d_M_allocate_37 ?_
          refine j_aload_n X rfl d_M_allocate_39 ?_
          refine j_iload_n X rfl d_M_allocate_40 ?_
          refine j_iload_n X rfl d_M_allocate_41 ?_
          refine j_if_ne X (by omega) d_M_allocate_42 (tgt := 69) rfl (fun h42 => ?_) (fun h42 => ?_)
          · exact absurd h42 (by omega)
          · skip
            refine j_aload_n X rfl d_M_allocate_45 ?_
            refine j_iload_n X rfl d_M_allocate_46 ?_
            refine v_M_198 X hz (c_M_tracksOf (zl z) E σ f a ho hf (by omega)) rfl rfl rfl (Nat.le_of_ble_eq_true rfl) ⟨Nat.le_refl _, Nat.le_refl _⟩ d_M_allocate_47 ?_
            refine j_if_gt X (by omega) d_M_allocate_50 (tgt := 65) rfl (fun h50 => ?_) (fun h50 => ?_)
            · exact absurd h50 (by omega)
            · skip
              refine j_iload X rfl d_M_allocate_53 ?_
              refine j_iconst X d_M_allocate_55 ?_
              refine j_icmp_lt X (by omega) (by omega) d_M_allocate_56 (tgt := 65) rfl (fun h56 => ?_) (fun h56 => ?_)
              · exact absurd h56 (by omega)
              · skip
                refine j_iload X rfl d_M_allocate_59 ?_
                refine j_iconst X d_M_allocate_61 ?_
                refine j_icmp_le X (by omega) (by omega) d_M_allocate_62 (tgt := 69) rfl (fun h62 => ?_) (fun h62 => ?_)
                · skip
                  refine j_iconst X d_M_allocate_69 ?_
                  refine v_M_53 X hz (c_M_throwing (zl z) E σ _ _ (by decide) (by decide)) rfl rfl rfl (Nat.le_of_ble_eq_true rfl) ⟨Nat.le_refl _, Nat.le_refl _⟩ d_M_allocate_70 ?_
                  refine j_ifz X d_M_allocate_73 (tgt := 78) rfl (fun _ => ?_) (fun h => absurd h (by decide))
                  refine j_iload_n X rfl d_M_allocate_78 ?_
                  refine j_istore X (zlt hn rfl) d_M_allocate_79 ?_
                  refine j_iconst X d_M_allocate_81 ?_
                  refine j_istore X (zlt hn rfl) d_M_allocate_82 ?_
                  have kyl : ∀ q : Int × Int × St, ((0 ≤ q.1 ∧ q.1 ≤ 32) ∧ (0 ≤ q.2.1 ∧ q.2.1 ≤ w) ∧ (∀ i, 0 ≤ i → i < 32 → 0 ≤ q.2.2 25 0 i ∧ q.2.2 25 0 i ≤ 6) ∧ R = tkM a w (32 - q.1).toNat q.1 q.2.1 q.2.2) → J E z 0 0 84 [(0, .ref (E.2.2.2 18 0)), (1, .int (iI a)), (2, .int (iI w)), (3, .int (iI 0)), (4, .int (iI (exL f w 32 0 0 0))), (5, .int (iI (w - q.2.1))), (6, .int (iI q.1))] [] (cells E q.2.2) := by
                    refine j_loop (fun q => (32 - q.1).toNat) _ _ (fun q hq ih => ?_)
                    obtain ⟨t, c, τ⟩ := q
                    obtain ⟨hq0, hq1, hqv, hqR⟩ := hq
                    dsimp only at hq0 hq1 hqv hqR
                    dsimp only
                    refine j_iload X rfl d_M_allocate_84 ?_
                    refine j_bipush X rfl d_M_allocate_86 ?_
                    refine j_icmp_ge X (by omega) (by omega) d_M_allocate_88 (tgt := 135) rfl (fun h88 => ?_) (fun h88 => ?_)
                    · skip
                      refine j_iload X rfl d_M_allocate_135 ?_
                      exact j_iret X Y (Nat.le_refl _) (Nat.le_refl _) d_M_allocate_137 ⟨rfl, by rw [hqR, show (32 - t).toNat = 0 by omega]; rfl⟩
                    · skip
                      refine j_iload X rfl d_M_allocate_91 ?_
                      refine j_if_le X (by omega) d_M_allocate_93 (tgt := 135) rfl (fun h93 => ?_) (fun h93 => ?_)
                      · skip
                        refine j_iload X rfl d_M_allocate_135 ?_
                        exact j_iret X Y (Nat.le_refl _) (Nat.le_refl _) d_M_allocate_137 ⟨rfl, by rw [hqR, show (32 - t).toNat = (32 - (t + 1)).toNat + 1 by omega, tkM_s, if_neg (by omega)]⟩
                      · skip
                        refine j_aload_n X rfl d_M_allocate_96 ?_
                        refine g_M_29 X d_M_allocate_97 ?_
                        refine j_iload X rfl d_M_allocate_100 ?_
                        refine j_iald X (by first | exact okC1 rfl | exact (okCT rfl (by omega))) (fun _ => rfl) rfl (by omega) d_M_allocate_102 ?_
                        have v0 := hqv t (by omega) (by omega)
                        refine j_if_le X (by omega) d_M_allocate_103 (tgt := 109) rfl (fun h103 => ?_) (fun h103 => ?_)
                        · skip
                          refine j_aload_n X rfl d_M_allocate_109 ?_
                          refine g_M_29 X d_M_allocate_110 ?_
                          refine j_iload X rfl d_M_allocate_113 ?_
                          refine j_iload_n X rfl d_M_allocate_115 ?_
                          refine j_iconst X d_M_allocate_116 ?_
                          refine j_iadd X d_M_allocate_117 ?_
                          refine j_iast X (by first | exact okC1 rfl | exact (okCT rfl (by omega))) (fun _ => rfl) rfl (by omega) d_M_allocate_118 ?_
                          refine j_aload_n X rfl d_M_allocate_119 ?_
                          refine j_iload X rfl d_M_allocate_120 ?_
                          refine j_iconst X d_M_allocate_122 ?_
                          refine v_M_143 X hz (c_M_clear (zl z) E (up τ 25 0 t (a + 1)) t 0 (by omega) (by omega)) rfl rfl rfl (Nat.le_of_ble_eq_true rfl) ⟨Nat.le_refl _, Nat.le_refl _⟩ d_M_allocate_123 ?_
                          refine j_iinc X rfl (zlt hn rfl) d_M_allocate_126 ?_
                          refine j_iinc X rfl (zlt hn rfl) d_M_allocate_129 ?_
                          refine j_goto X d_M_allocate_132 (tgt := 84) rfl ?_
                          have := ih (t + 1, c + 1, clS (up τ 25 0 t (a + 1)) t 0 600) ⟨by dsimp only; omega, by dsimp only; omega, fun i h0 h1 => by have := hqv i h0 h1; show 0 ≤ up τ 25 0 t (a + 1) 25 0 i ∧ up τ 25 0 t (a + 1) 25 0 i ≤ 6; rw [up_eq]; split <;> omega, by dsimp only; rw [hqR, show (32 - t).toNat = (32 - (t + 1)).toNat + 1 by omega, tkM_s, if_pos (by omega), if_pos (by omega)]⟩ (by dsimp only; omega); dsimp only at this; rw [show w - (c + 1) = w - c + -1 by omega] at this; exact this
                        · skip
                          refine j_goto X d_M_allocate_106 (tgt := 129) rfl ?_
                          refine j_iinc X rfl (zlt hn rfl) d_M_allocate_129 ?_
                          refine j_goto X d_M_allocate_132 (tgt := 84) rfl ?_
                          exact ih (t + 1, c, τ) ⟨by dsimp only; omega, by dsimp only; omega, hqv, by dsimp only; rw [hqR, show (32 - t).toNat = (32 - (t + 1)).toNat + 1 by omega, tkM_s, if_pos (by omega), if_neg (by omega)]⟩ (by dsimp only; omega)
                  have := kyl (0, 0, (up σ 18 0 0 0)) ⟨by dsimp only; omega, by dsimp only; omega, fun i h0 h1 => by have := ho i h0 h1; have := hf i; show 0 ≤ σ 25 0 i ∧ σ 25 0 i ≤ 6; omega, hr⟩; dsimp only at this; rw [Int.sub_zero] at this; exact this
                · exact absurd h62 (by omega)
        · exact absurd h25 (by omega)
      · exact absurd h15 (by omega)
