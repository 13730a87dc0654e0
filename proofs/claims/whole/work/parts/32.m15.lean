/-! the model: its small methods -/
theorem up_id {σ : St} {k : Nat} {t j v : Int} (h : σ k t j = v) : up σ k t j v = σ := by
  apply st_ext
  intro k' t' j'
  rw [up_eq]
  split
  · next q => rw [q.1, q.2.1, q.2.2, h]
  · rfl
def thS (p q : Int) : Int := if p = 0 then (if q = 0 then 0 else 2) else 1
theorem th_1 {p q : Int} (h : ¬ p = 0) : thS p q = 1 := by unfold thS; rw [if_neg h]
theorem th_2 {p q : Int} (h : p = 0) (h' : ¬ q = 0) : thS p q = 2 := by unfold thS; rw [if_pos h, if_neg h']
theorem th_0 {p q : Int} (h : p = 0) (h' : q = 0) : thS p q = 0 := by unfold thS; rw [if_pos h, if_pos h']
/-- the clock goes on by d -/
def avS (σ : St) (d : Int) : St := up (up (up σ 18 0 8 (σ 18 0 8 + d)) 18 0 15 (σ 18 0 15 + ((σ 18 0 8 + d) / 600 - σ 18 0 8 / 600))) 18 0 16 (σ 18 0 16 + ((σ 18 0 8 + d) / 600 - σ 18 0 8 / 600))
theorem av_8 (σ : St) (d : Int) : avS σ d 18 0 8 = σ 18 0 8 + d := rfl
theorem av_15 (σ : St) (d : Int) : avS σ d 18 0 15 = σ 18 0 15 + ((σ 18 0 8 + d) / 600 - σ 18 0 8 / 600) := rfl
theorem av_16 (σ : St) (d : Int) : avS σ d 18 0 16 = σ 18 0 16 + ((σ 18 0 8 + d) / 600 - σ 18 0 8 / 600) := rfl
theorem av_eq (σ : St) (d : Int) (k : Nat) (t j : Int) : avS σ d k t j = if k = 18 ∧ t = 0 ∧ j = 16 then σ 18 0 16 + ((σ 18 0 8 + d) / 600 - σ 18 0 8 / 600) else if k = 18 ∧ t = 0 ∧ j = 15 then σ 18 0 15 + ((σ 18 0 8 + d) / 600 - σ 18 0 8 / 600) else if k = 18 ∧ t = 0 ∧ j = 8 then σ 18 0 8 + d else σ k t j := by
  unfold avS
  rw [up_eq, up_eq, up_eq]
theorem av_0 (σ : St) : avS σ 0 = σ := by
  apply st_ext
  intro k t j
  rw [av_eq]
  split
  · next q => rw [q.1, q.2.1, q.2.2, Int.add_zero]; omega
  · split
    · next q => rw [q.1, q.2.1, q.2.2, Int.add_zero]; omega
    · split
      · next q => rw [q.1, q.2.1, q.2.2, Int.add_zero]
      · rfl
theorem av_av (σ : St) (d e : Int) : avS (avS σ d) e = avS σ (d + e) := by
  apply st_ext
  intro k t j
  rw [av_eq (avS σ d), av_8, av_15, av_16, av_eq σ (d + e)]
  split
  · rw [show σ 18 0 8 + d + e = σ 18 0 8 + (d + e) by omega]; omega
  · split
    · rw [show σ 18 0 8 + d + e = σ 18 0 8 + (d + e) by omega]; omega
    · split
      · omega
      · next h1 h2 h3 => rw [av_eq, if_neg h1, if_neg h2, if_neg h3]
theorem av_t0 {σ : St} (h0 : 0 ≤ σ 18 0 8) (h : 0 < (σ 18 0 8 + 1) % 600) : up σ 18 0 8 (σ 18 0 8 + 1) = avS σ 1 := by
  have e : (σ 18 0 8 + 1) / 600 - σ 18 0 8 / 600 = 0 := by omega
  unfold avS
  rw [e, Int.add_zero, Int.add_zero, up_id (σ := up σ 18 0 8 (σ 18 0 8 + 1)) (j := 15) (by rw [up_j _ _ _ _ _ _ _ (by decide)]), up_id (σ := up σ 18 0 8 (σ 18 0 8 + 1)) (j := 16) (by rw [up_j _ _ _ _ _ _ _ (by decide)])]
theorem av_t1 {σ : St} (h0 : 0 ≤ σ 18 0 8) (h : (σ 18 0 8 + 1) % 600 ≤ 0) : up (up (up σ 18 0 8 (σ 18 0 8 + 1)) 18 0 15 (σ 18 0 15 + 1)) 18 0 16 (σ 18 0 16 + 1) = avS σ 1 := by
  have e : (σ 18 0 8 + 1) / 600 - σ 18 0 8 / 600 = 1 := by omega
  unfold avS
  rw [e]
/-- the clock goes to the place p of the track -/
def agS (σ : St) (p : Int) : St := avS σ ((p - σ 18 0 8 % 600 + 600) % 600)
def smS (f : Int → Int) (a : Int) : Nat → Int
  | 0 => 0
  | n + 1 => smS f a n + f (a + n)
theorem smS_s (f : Int → Int) (a : Int) {p : Int} (h : 0 ≤ p) : smS f a (p + 1).toNat = smS f a p.toNat + f (a + p) := by
  rw [show (p + 1).toNat = p.toNat + 1 by omega]
  show smS f a p.toNat + f (a + ((p.toNat : Nat) : Int)) = _
  rw [Int.toNat_of_nonneg h]
def clS (σ : St) (t p q : Int) : St := upF σ 19 0 (fun j => if 600 * t + p ≤ j ∧ j < 600 * t + q then 0 else σ 19 0 j)
theorem cl_19 (σ : St) (t p q j : Int) : clS σ t p q 19 0 j = if 600 * t + p ≤ j ∧ j < 600 * t + q then 0 else σ 19 0 j := by unfold clS; rw [upF_eq, if_pos ⟨rfl, rfl⟩]
theorem cl_0 (σ : St) (t p : Int) : clS σ t p p = σ := by
  apply st_ext
  intro k t' j
  unfold clS
  rw [upF_eq]
  split
  · next h => rw [if_neg (by omega), h.1, h.2]
  · rfl
theorem cl_s {σ : St} {t p q : Int} (h : p ≤ q) : up (clS σ t p q) 19 0 (600 * t + q) (Int.bmod 0 256) = clS σ t p (q + 1) := by
  apply st_ext
  intro k t' j
  rw [up_eq]
  by_cases hk : k = 19 ∧ t' = 0
  · obtain ⟨rfl, rfl⟩ := hk
    rw [cl_19, cl_19]
    by_cases hj : j = 600 * t + q
    · rw [if_pos ⟨rfl, rfl, hj⟩, if_pos (by omega)]; rfl
    · rw [if_neg (fun q => hj q.2.2)]
      by_cases h1 : 600 * t + p ≤ j ∧ j < 600 * t + q
      · rw [if_pos h1, if_pos (by omega)]
      · rw [if_neg h1, if_neg (by omega)]
  · rw [if_neg (fun q => hk ⟨q.1, q.2.1⟩)]
    unfold clS
    rw [upF_eq, upF_eq, if_neg hk, if_neg hk]
def laS (σ : St) (t p kl dl : Int) : St := up (up (up (up σ 19 0 (600 * t + p) (Int.bmod 1 256)) 20 0 (600 * t + p + 1) ((kl.bmod 256).bmod 256)) 20 0 (600 * t + p + 2) ((dl.bmod 256).bmod 256)) 20 0 (600 * t + p + 3) (Int.bmod 0 256)

set_option maxRecDepth 100000 in
set_option maxHeartbeats 4000000 in
theorem c_M_thrown (l : Launch) (E : eT) (σ : St) : FCon l E y_M_thrown ws_M_thrown 0 [.ref (E.2.2.2 18 0)] σ (some (.int (iI (σ 18 0 0)))) σ := by
  refine con_of (cc := b_M_thrown) (nL := 1) (ret := (some .int)) (by decide) (Nat.le_of_ble_eq_true rfl) (fun z X Y hn => ?_)
  have X : Cx E z b_M_thrown R_M := X
  have hz := Y.2.1
  change J E z 0 0 0 [(0, .ref (E.2.2.2 18 0))] [] (cells E σ)
  refine j_aload_n X rfl d_M_thrown_0 ?_
  refine g_M_32 X d_M_thrown_1 ?_
  exact j_iret X Y (Nat.le_refl _) (Nat.le_refl _) d_M_thrown_4 ⟨rfl, rfl⟩

set_option maxRecDepth 100000 in
set_option maxHeartbeats 4000000 in
theorem c_M_throwing (l : Launch) (E : eT) (σ : St) (p q : Int) (hp : inR p) (hq : inR q) : FCon l E y_M_throwing ws_M_throwing 0 [.ref (E.2.2.2 18 0), .int (iI p), .int (iI q)] σ (some (.int (iI (b2i (decide (0 < thS p q)))))) (up σ 18 0 0 (thS p q)) := by
  refine con_of (cc := b_M_throwing) (nL := 3) (ret := (some .boolean)) (by decide) (Nat.le_of_ble_eq_true rfl) (fun z X Y hn => ?_)
  have X : Cx E z b_M_throwing R_M := X
  have hz := Y.2.1
  change J E z 0 0 0 [(0, .ref (E.2.2.2 18 0)), (1, .int (iI p)), (2, .int (iI q))] [] (cells E σ)
  refine j_aload_n X rfl d_M_throwing_0 ?_
  refine j_iload_n X rfl d_M_throwing_1 ?_
  refine j_if_eq X (by omega) d_M_throwing_2 (tgt := 9) rfl (fun h2 => ?_) (fun h2 => ?_)
  · skip
    refine j_iload_n X rfl d_M_throwing_9 ?_
    refine j_if_eq X (by omega) d_M_throwing_10 (tgt := 17) rfl (fun h10 => ?_) (fun h10 => ?_)
    · skip
      refine j_iconst X d_M_throwing_17 ?_
      refine p_M_32 X d_M_throwing_18 ?_
      refine j_aload_n X rfl d_M_throwing_21 ?_
      refine g_M_32 X d_M_throwing_22 ?_
      simp only [up_eq, false_and, and_false, and_true, true_and, if_false, if_true, reduceIte, and_self, Nat.reduceEqDiff, Int.reduceEq]
      refine j_if_le X (by omega) d_M_throwing_25 (tgt := 32) rfl (fun h25 => ?_) (fun h25 => ?_)
      · skip
        refine j_iconst X d_M_throwing_32 ?_
        exact j_zret X Y (by first | rfl | exact b2i_nar _) (Nat.le_refl _) (Nat.le_refl _) d_M_throwing_33 (by first | exact absurd h25 (by decide) | (rw [th_1 h2]; exact ⟨rfl, rfl⟩) | (rw [th_2 h2 h10]; exact ⟨rfl, rfl⟩) | (rw [th_0 h2 h10]; exact ⟨rfl, rfl⟩))
      · skip
        refine j_iconst X d_M_throwing_28 ?_
        refine j_goto X d_M_throwing_29 (tgt := 33) rfl ?_
        exact j_zret X Y (by first | rfl | exact b2i_nar _) (Nat.le_refl _) (Nat.le_refl _) d_M_throwing_33 (by first | exact absurd h25 (by decide) | (rw [th_1 h2]; exact ⟨rfl, rfl⟩) | (rw [th_2 h2 h10]; exact ⟨rfl, rfl⟩) | (rw [th_0 h2 h10]; exact ⟨rfl, rfl⟩))
    · skip
      refine j_iconst X d_M_throwing_13 ?_
      refine j_goto X d_M_throwing_14 (tgt := 18) rfl ?_
      refine p_M_32 X d_M_throwing_18 ?_
      refine j_aload_n X rfl d_M_throwing_21 ?_
      refine g_M_32 X d_M_throwing_22 ?_
      simp only [up_eq, false_and, and_false, and_true, true_and, if_false, if_true, reduceIte, and_self, Nat.reduceEqDiff, Int.reduceEq]
      refine j_if_le X (by omega) d_M_throwing_25 (tgt := 32) rfl (fun h25 => ?_) (fun h25 => ?_)
      · skip
        refine j_iconst X d_M_throwing_32 ?_
        exact j_zret X Y (by first | rfl | exact b2i_nar _) (Nat.le_refl _) (Nat.le_refl _) d_M_throwing_33 (by first | exact absurd h25 (by decide) | (rw [th_1 h2]; exact ⟨rfl, rfl⟩) | (rw [th_2 h2 h10]; exact ⟨rfl, rfl⟩) | (rw [th_0 h2 h10]; exact ⟨rfl, rfl⟩))
      · skip
        refine j_iconst X d_M_throwing_28 ?_
        refine j_goto X d_M_throwing_29 (tgt := 33) rfl ?_
        exact j_zret X Y (by first | rfl | exact b2i_nar _) (Nat.le_refl _) (Nat.le_refl _) d_M_throwing_33 (by first | exact absurd h25 (by decide) | (rw [th_1 h2]; exact ⟨rfl, rfl⟩) | (rw [th_2 h2 h10]; exact ⟨rfl, rfl⟩) | (rw [th_0 h2 h10]; exact ⟨rfl, rfl⟩))
  · skip
    refine j_iconst X d_M_throwing_5 ?_
    refine j_goto X d_M_throwing_6 (tgt := 18) rfl ?_
    refine p_M_32 X d_M_throwing_18 ?_
    refine j_aload_n X rfl d_M_throwing_21 ?_
    refine g_M_32 X d_M_throwing_22 ?_
    simp only [up_eq, false_and, and_false, and_true, true_and, if_false, if_true, reduceIte, and_self, Nat.reduceEqDiff, Int.reduceEq]
    refine j_if_le X (by omega) d_M_throwing_25 (tgt := 32) rfl (fun h25 => ?_) (fun h25 => ?_)
    · skip
      refine j_iconst X d_M_throwing_32 ?_
      exact j_zret X Y (by first | rfl | exact b2i_nar _) (Nat.le_refl _) (Nat.le_refl _) d_M_throwing_33 (by first | exact absurd h25 (by decide) | (rw [th_1 h2]; exact ⟨rfl, rfl⟩) | (rw [th_2 h2 h10]; exact ⟨rfl, rfl⟩) | (rw [th_0 h2 h10]; exact ⟨rfl, rfl⟩))
    · skip
      refine j_iconst X d_M_throwing_28 ?_
      refine j_goto X d_M_throwing_29 (tgt := 33) rfl ?_
      exact j_zret X Y (by first | rfl | exact b2i_nar _) (Nat.le_refl _) (Nat.le_refl _) d_M_throwing_33 (by first | exact absurd h25 (by decide) | (rw [th_1 h2]; exact ⟨rfl, rfl⟩) | (rw [th_2 h2 h10]; exact ⟨rfl, rfl⟩) | (rw [th_0 h2 h10]; exact ⟨rfl, rfl⟩))

set_option maxRecDepth 100000 in
set_option maxHeartbeats 4000000 in
theorem c_M_isBegin (l : Launch) (E : eT) (σ : St) (t p : Int) (hr : p < 600 → inR (σ 19 0 (600 * t + p))) (ht : 0 ≤ t ∧ t < 32) (hp : 0 ≤ p ∧ p ≤ 600) : FCon l E y_M_isBegin ws_M_isBegin 0 [.ref (E.2.2.2 18 0), .int (iI t), .int (iI p)] σ (some (.int (iI (b2i (decide (p < 600 ∧ σ 19 0 (600 * t + p) = 1)))))) σ := by
  refine con_of (cc := b_M_isBegin) (nL := 3) (ret := (some .boolean)) (by decide) (Nat.le_of_ble_eq_true rfl) (fun z X Y hn => ?_)
  have X : Cx E z b_M_isBegin R_M := X
  have hz := Y.2.1
  change J E z 0 0 0 [(0, .ref (E.2.2.2 18 0)), (1, .int (iI t)), (2, .int (iI p))] [] (cells E σ)
  refine j_iload_n X rfl d_M_isBegin_0 ?_
  refine j_sipush X rfl d_M_isBegin_1 ?_
  refine j_icmp_ge X (by omega) (by omega) d_M_isBegin_4 (tgt := 27) rfl (fun h4 => ?_) (fun h4 => ?_)
  · skip
    refine j_iconst X d_M_isBegin_27 ?_
    exact j_zret X Y (by first | rfl | exact b2i_nar _) (Nat.le_refl _) (Nat.le_refl _) d_M_isBegin_28 ⟨by first | rw [b2i_t (by omega)] | rw [b2i_f (by omega)], rfl⟩
  · skip
    refine j_aload_n X rfl d_M_isBegin_7 ?_
    have r1 := hr h4
    refine g_M_7 X d_M_isBegin_8 ?_
    refine j_sipush X rfl d_M_isBegin_11 ?_
    refine j_iload_n X rfl d_M_isBegin_14 ?_
    refine j_imul X d_M_isBegin_15 ?_
    refine j_iload_n X rfl d_M_isBegin_16 ?_
    refine j_iadd X d_M_isBegin_17 ?_
    refine j_bald X (by first | exact okC1 rfl | exact (okCT rfl (by omega))) (fun _ => rfl) rfl (by omega) d_M_isBegin_18 ?_
    refine j_iconst X d_M_isBegin_19 ?_
    refine j_icmp_ne X (by omega) (by omega) d_M_isBegin_20 (tgt := 27) rfl (fun h20 => ?_) (fun h20 => ?_)
    · skip
      refine j_iconst X d_M_isBegin_27 ?_
      exact j_zret X Y (by first | rfl | exact b2i_nar _) (Nat.le_refl _) (Nat.le_refl _) d_M_isBegin_28 ⟨by first | rw [b2i_t (by omega)] | rw [b2i_f (by omega)], rfl⟩
    · skip
      refine j_iconst X d_M_isBegin_23 ?_
      refine j_goto X d_M_isBegin_24 (tgt := 28) rfl ?_
      exact j_zret X Y (by first | rfl | exact b2i_nar _) (Nat.le_refl _) (Nat.le_refl _) d_M_isBegin_28 ⟨by first | rw [b2i_t (by omega)] | rw [b2i_f (by omega)], rfl⟩

set_option maxRecDepth 100000 in
set_option maxHeartbeats 4000000 in
theorem c_M_keyOf (l : Launch) (E : eT) (σ : St) (t p : Int) (ht : 0 ≤ t ∧ t < 32) (hp : 0 ≤ p ∧ p ≤ 580) : FCon l E y_M_keyOf ws_M_keyOf 0 [.ref (E.2.2.2 18 0), .int (iI t), .int (iI p)] σ (some (.int (iI (σ 20 0 (600 * t + p + 1))))) σ := by
  refine con_of (cc := b_M_keyOf) (nL := 3) (ret := (some .int)) (by decide) (Nat.le_of_ble_eq_true rfl) (fun z X Y hn => ?_)
  have X : Cx E z b_M_keyOf R_M := X
  have hz := Y.2.1
  change J E z 0 0 0 [(0, .ref (E.2.2.2 18 0)), (1, .int (iI t)), (2, .int (iI p))] [] (cells E σ)
  refine j_aload_n X rfl d_M_keyOf_0 ?_
  refine g_M_13 X d_M_keyOf_1 ?_
  refine j_sipush X rfl d_M_keyOf_4 ?_
  refine j_iload_n X rfl d_M_keyOf_7 ?_
  refine j_imul X d_M_keyOf_8 ?_
  refine j_iload_n X rfl d_M_keyOf_9 ?_
  refine j_iadd X d_M_keyOf_10 ?_
  refine j_iconst X d_M_keyOf_11 ?_
  refine j_iadd X d_M_keyOf_12 ?_
  refine j_bald X (by first | exact okC1 rfl | exact (okCT rfl (by omega))) (fun _ => rfl) rfl (by omega) d_M_keyOf_13 ?_
  exact j_iret X Y (Nat.le_refl _) (Nat.le_refl _) d_M_keyOf_14 ⟨rfl, rfl⟩

set_option maxRecDepth 100000 in
set_option maxHeartbeats 4000000 in
theorem c_M_dataOf (l : Launch) (E : eT) (σ : St) (t p : Int) (ht : 0 ≤ t ∧ t < 32) (hp : 0 ≤ p ∧ p ≤ 580) : FCon l E y_M_dataOf ws_M_dataOf 0 [.ref (E.2.2.2 18 0), .int (iI t), .int (iI p)] σ (some (.int (iI (σ 20 0 (600 * t + p + 2))))) σ := by
  refine con_of (cc := b_M_dataOf) (nL := 3) (ret := (some .int)) (by decide) (Nat.le_of_ble_eq_true rfl) (fun z X Y hn => ?_)
  have X : Cx E z b_M_dataOf R_M := X
  have hz := Y.2.1
  change J E z 0 0 0 [(0, .ref (E.2.2.2 18 0)), (1, .int (iI t)), (2, .int (iI p))] [] (cells E σ)
  refine j_aload_n X rfl d_M_dataOf_0 ?_
  refine g_M_13 X d_M_dataOf_1 ?_
  refine j_sipush X rfl d_M_dataOf_4 ?_
  refine j_iload_n X rfl d_M_dataOf_7 ?_
  refine j_imul X d_M_dataOf_8 ?_
  refine j_iload_n X rfl d_M_dataOf_9 ?_
  refine j_iadd X d_M_dataOf_10 ?_
  refine j_iconst X d_M_dataOf_11 ?_
  refine j_iadd X d_M_dataOf_12 ?_
  refine j_bald X (by first | exact okC1 rfl | exact (okCT rfl (by omega))) (fun _ => rfl) rfl (by omega) d_M_dataOf_13 ?_
  exact j_iret X Y (Nat.le_refl _) (Nat.le_refl _) d_M_dataOf_14 ⟨rfl, rfl⟩

set_option maxRecDepth 100000 in
set_option maxHeartbeats 4000000 in
theorem c_M_endOf (l : Launch) (E : eT) (σ : St) (t p : Int) (ht : 0 ≤ t ∧ t < 32) (hp : 0 ≤ p ∧ p ≤ 580) : FCon l E y_M_endOf ws_M_endOf 1 [.ref (E.2.2.2 18 0), .int (iI t), .int (iI p)] σ (some (.int (iI (p + 20 + σ 20 0 (600 * t + p + 1) + σ 20 0 (600 * t + p + 2))))) σ := by
  refine con_of (cc := b_M_endOf) (nL := 3) (ret := (some .int)) (by decide) (Nat.le_of_ble_eq_true rfl) (fun z X Y hn => ?_)
  have X : Cx E z b_M_endOf R_M := X
  have hz := Y.2.1
  change J E z 0 0 0 [(0, .ref (E.2.2.2 18 0)), (1, .int (iI t)), (2, .int (iI p))] [] (cells E σ)
  refine j_iload_n X rfl d_M_endOf_0 ?_
  refine j_bipush X rfl d_M_endOf_1 ?_
  refine j_iadd X d_M_endOf_3 ?_
  refine j_aload_n X rfl d_M_endOf_4 ?_
  refine j_iload_n X rfl d_M_endOf_5 ?_
  refine j_iload_n X rfl d_M_endOf_6 ?_
  refine v_M_36 X hz (c_M_keyOf (zl z) E σ t p ht hp) rfl rfl rfl (Nat.le_of_ble_eq_true rfl) ⟨Nat.le_refl _, Nat.le_refl _⟩ d_M_endOf_7 ?_
  refine j_iadd X d_M_endOf_10 ?_
  refine j_aload_n X rfl d_M_endOf_11 ?_
  refine j_iload_n X rfl d_M_endOf_12 ?_
  refine j_iload_n X rfl d_M_endOf_13 ?_
  refine v_M_40 X hz (c_M_dataOf (zl z) E σ t p ht hp) rfl rfl rfl (Nat.le_of_ble_eq_true rfl) ⟨Nat.le_refl _, Nat.le_refl _⟩ d_M_endOf_14 ?_
  refine j_iadd X d_M_endOf_17 ?_
  exact j_iret X Y (Nat.le_refl _) (Nat.le_refl _) d_M_endOf_18 ⟨rfl, rfl⟩

set_option maxRecDepth 100000 in
set_option maxHeartbeats 4000000 in
theorem c_M_isSpoiled (l : Launch) (E : eT) (σ : St) (t p : Int) (r1 : inR (σ 20 0 (600 * t + p + 3))) (ht : 0 ≤ t ∧ t < 32) (hp : 0 ≤ p ∧ p ≤ 580) : FCon l E y_M_isSpoiled ws_M_isSpoiled 0 [.ref (E.2.2.2 18 0), .int (iI t), .int (iI p)] σ (some (.int (iI (b2i (decide (σ 20 0 (600 * t + p + 3) = 1)))))) σ := by
  refine con_of (cc := b_M_isSpoiled) (nL := 3) (ret := (some .boolean)) (by decide) (Nat.le_of_ble_eq_true rfl) (fun z X Y hn => ?_)
  have X : Cx E z b_M_isSpoiled R_M := X
  have hz := Y.2.1
  change J E z 0 0 0 [(0, .ref (E.2.2.2 18 0)), (1, .int (iI t)), (2, .int (iI p))] [] (cells E σ)
  refine j_aload_n X rfl d_M_isSpoiled_0 ?_
  refine g_M_13 X d_M_isSpoiled_1 ?_
  refine j_sipush X rfl d_M_isSpoiled_4 ?_
  refine j_iload_n X rfl d_M_isSpoiled_7 ?_
  refine j_imul X d_M_isSpoiled_8 ?_
  refine j_iload_n X rfl d_M_isSpoiled_9 ?_
  refine j_iadd X d_M_isSpoiled_10 ?_
  refine j_iconst X d_M_isSpoiled_11 ?_
  refine j_iadd X d_M_isSpoiled_12 ?_
  refine j_bald X (by first | exact okC1 rfl | exact (okCT rfl (by omega))) (fun _ => rfl) rfl (by omega) d_M_isSpoiled_13 ?_
  refine j_iconst X d_M_isSpoiled_14 ?_
  refine j_icmp_ne X (by omega) (by omega) d_M_isSpoiled_15 (tgt := 22) rfl (fun h15 => ?_) (fun h15 => ?_)
  · skip
    refine j_iconst X d_M_isSpoiled_22 ?_
    exact j_zret X Y (by first | rfl | exact b2i_nar _) (Nat.le_refl _) (Nat.le_refl _) d_M_isSpoiled_23 ⟨by first | rw [b2i_t (by omega)] | rw [b2i_f (by omega)], rfl⟩
  · skip
    refine j_iconst X d_M_isSpoiled_18 ?_
    refine j_goto X d_M_isSpoiled_19 (tgt := 23) rfl ?_
    exact j_zret X Y (by first | rfl | exact b2i_nar _) (Nat.le_refl _) (Nat.le_refl _) d_M_isSpoiled_23 ⟨by first | rw [b2i_t (by omega)] | rw [b2i_f (by omega)], rfl⟩

set_option maxRecDepth 100000 in
set_option maxHeartbeats 4000000 in
theorem c_M_byteAt (l : Launch) (E : eT) (σ : St) (t p i : Int) (ht : 0 ≤ t ∧ t < 32) (hp : 0 ≤ p + 20 + i ∧ p + 20 + i < 600) : FCon l E y_M_byteAt ws_M_byteAt 0 [.ref (E.2.2.2 18 0), .int (iI t), .int (iI p), .int (iI i)] σ (some (.int (iI (σ 20 0 (600 * t + p + 20 + i) % 256)))) σ := by
  refine con_of (cc := b_M_byteAt) (nL := 4) (ret := (some .int)) (by decide) (Nat.le_of_ble_eq_true rfl) (fun z X Y hn => ?_)
  have X : Cx E z b_M_byteAt R_M := X
  have hz := Y.2.1
  change J E z 0 0 0 [(0, .ref (E.2.2.2 18 0)), (1, .int (iI t)), (2, .int (iI p)), (3, .int (iI i))] [] (cells E σ)
  refine j_aload_n X rfl d_M_byteAt_0 ?_
  refine g_M_13 X d_M_byteAt_1 ?_
  refine j_sipush X rfl d_M_byteAt_4 ?_
  refine j_iload_n X rfl d_M_byteAt_7 ?_
  refine j_imul X d_M_byteAt_8 ?_
  refine j_iload_n X rfl d_M_byteAt_9 ?_
  refine j_iadd X d_M_byteAt_10 ?_
  refine j_bipush X rfl d_M_byteAt_11 ?_
  refine j_iadd X d_M_byteAt_13 ?_
  refine j_iload_n X rfl d_M_byteAt_14 ?_
  refine j_iadd X d_M_byteAt_15 ?_
  refine j_bald X (by first | exact okC1 rfl | exact (okCT rfl (by omega))) (fun _ => rfl) rfl (by omega) d_M_byteAt_16 ?_
  refine j_sipush X rfl d_M_byteAt_17 ?_
  refine j_iand X d_M_byteAt_20 ?_
  refine j_topi (iI_and255 _) ?_
  exact j_iret X Y (Nat.le_refl _) (Nat.le_refl _) d_M_byteAt_21 ⟨rfl, rfl⟩

set_option maxRecDepth 100000 in
set_option maxHeartbeats 4000000 in
theorem c_M_setByte (l : Launch) (E : eT) (σ : St) (t p i v : Int) (ht : 0 ≤ t ∧ t < 32) (hp : 0 ≤ p + 20 + i ∧ p + 20 + i < 600) : FCon l E y_M_setByte ws_M_setByte 0 [.ref (E.2.2.2 18 0), .int (iI t), .int (iI p), .int (iI i), .int (iI v)] σ none (up σ 20 0 (600 * t + p + 20 + i) ((v.bmod 256).bmod 256)) := by
  refine con_of (cc := b_M_setByte) (nL := 5) (ret := none) (by decide) (Nat.le_of_ble_eq_true rfl) (fun z X Y hn => ?_)
  have X : Cx E z b_M_setByte R_M := X
  have hz := Y.2.1
  change J E z 0 0 0 [(0, .ref (E.2.2.2 18 0)), (1, .int (iI t)), (2, .int (iI p)), (3, .int (iI i)), (4, .int (iI v))] [] (cells E σ)
  refine j_aload_n X rfl d_M_setByte_0 ?_
  refine g_M_13 X d_M_setByte_1 ?_
  refine j_sipush X rfl d_M_setByte_4 ?_
  refine j_iload_n X rfl d_M_setByte_7 ?_
  refine j_imul X d_M_setByte_8 ?_
  refine j_iload_n X rfl d_M_setByte_9 ?_
  refine j_iadd X d_M_setByte_10 ?_
  refine j_bipush X rfl d_M_setByte_11 ?_
  refine j_iadd X d_M_setByte_13 ?_
  refine j_iload_n X rfl d_M_setByte_14 ?_
  refine j_iadd X d_M_setByte_15 ?_
  refine j_iload X rfl d_M_setByte_16 ?_
  refine j_i2b X d_M_setByte_18 ?_
  refine j_bast X (by first | exact okC1 rfl | exact (okCT rfl (by omega))) (fun _ => rfl) rfl (by omega) d_M_setByte_19 ?_
  exact j_vret X Y (Nat.le_refl _) (Nat.le_refl _) d_M_setByte_20 ⟨rfl, rfl⟩

set_option maxRecDepth 100000 in
set_option maxHeartbeats 4000000 in
theorem c_M_spoilAt (l : Launch) (E : eT) (σ : St) (t p v : Int) (ht : 0 ≤ t ∧ t < 32) (hp : 0 ≤ p ∧ p ≤ 580) : FCon l E y_M_spoilAt ws_M_spoilAt 0 [.ref (E.2.2.2 18 0), .int (iI t), .int (iI p), .int (iI v)] σ none (up σ 20 0 (600 * t + p + 3) ((v.bmod 256).bmod 256)) := by
  refine con_of (cc := b_M_spoilAt) (nL := 4) (ret := none) (by decide) (Nat.le_of_ble_eq_true rfl) (fun z X Y hn => ?_)
  have X : Cx E z b_M_spoilAt R_M := X
  have hz := Y.2.1
  change J E z 0 0 0 [(0, .ref (E.2.2.2 18 0)), (1, .int (iI t)), (2, .int (iI p)), (3, .int (iI v))] [] (cells E σ)
  refine j_aload_n X rfl d_M_spoilAt_0 ?_
  refine g_M_13 X d_M_spoilAt_1 ?_
  refine j_sipush X rfl d_M_spoilAt_4 ?_
  refine j_iload_n X rfl d_M_spoilAt_7 ?_
  refine j_imul X d_M_spoilAt_8 ?_
  refine j_iload_n X rfl d_M_spoilAt_9 ?_
  refine j_iadd X d_M_spoilAt_10 ?_
  refine j_iconst X d_M_spoilAt_11 ?_
  refine j_iadd X d_M_spoilAt_12 ?_
  refine j_iload_n X rfl d_M_spoilAt_13 ?_
  refine j_i2b X d_M_spoilAt_14 ?_
  refine j_bast X (by first | exact okC1 rfl | exact (okCT rfl (by omega))) (fun _ => rfl) rfl (by omega) d_M_spoilAt_15 ?_
  exact j_vret X Y (Nat.le_refl _) (Nat.le_refl _) d_M_spoilAt_16 ⟨rfl, rfl⟩

set_option maxRecDepth 100000 in
set_option maxHeartbeats 4000000 in
theorem c_M_place (l : Launch) (E : eT) (σ : St) (h8 : 0 ≤ σ 18 0 8 ∧ σ 18 0 8 ≤ 1500000000) : FCon l E y_M_place ws_M_place 0 [.ref (E.2.2.2 18 0)] σ (some (.int (iI (σ 18 0 8 % 600)))) σ := by
  refine con_of (cc := b_M_place) (nL := 1) (ret := (some .int)) (by decide) (Nat.le_of_ble_eq_true rfl) (fun z X Y hn => ?_)
  have X : Cx E z b_M_place R_M := X
  have hz := Y.2.1
  change J E z 0 0 0 [(0, .ref (E.2.2.2 18 0))] [] (cells E σ)
  refine j_aload_n X rfl d_M_place_0 ?_
  refine g_M_61 X d_M_place_1 ?_
  refine j_ldc2 (a := 600) X kl_M_65 rfl d_M_place_4 ?_
  refine j_lrem X (by omega) (by omega) (by omega) (by omega) d_M_place_7 ?_
  refine j_l2i X d_M_place_8 ?_
  exact j_iret X Y (Nat.le_refl _) (Nat.le_refl _) d_M_place_9 ⟨rfl, rfl⟩

set_option maxRecDepth 100000 in
set_option maxHeartbeats 4000000 in
theorem c_M_tick (l : Launch) (E : eT) (σ : St) (h8 : 0 ≤ σ 18 0 8 ∧ σ 18 0 8 < 1500000000) : FCon l E y_M_tick ws_M_tick 1 [.ref (E.2.2.2 18 0)] σ none (avS σ 1) := by
  refine con_of (cc := b_M_tick) (nL := 1) (ret := none) (by decide) (Nat.le_of_ble_eq_true rfl) (fun z X Y hn => ?_)
  have X : Cx E z b_M_tick R_M := X
  have hz := Y.2.1
  change J E z 0 0 0 [(0, .ref (E.2.2.2 18 0))] [] (cells E σ)
  refine j_aload_n X rfl d_M_tick_0 ?_
  refine j_dup X rfl d_M_tick_1 ?_
  refine g_M_61 X d_M_tick_2 ?_
  refine j_lconst X d_M_tick_5 ?_
  refine j_ladd X d_M_tick_6 ?_
  refine p_M_61 X d_M_tick_7 ?_
  refine j_aload_n X rfl d_M_tick_10 ?_
  refine v_M_67 X hz (c_M_place (zl z) E (up σ 18 0 8 (σ 18 0 8 + 1)) (by rw [up_s]; omega)) rfl rfl rfl (Nat.le_of_ble_eq_true rfl) ⟨Nat.le_refl _, Nat.le_refl _⟩ d_M_tick_11 ?_
  rw [up_s]
  refine j_if_le X (by omega) d_M_tick_14 (tgt := 18) rfl (fun h14 => ?_) (fun h14 => ?_)
  · skip
    refine j_aload_n X rfl d_M_tick_18 ?_
    refine j_dup X rfl d_M_tick_19 ?_
    refine g_M_71 X d_M_tick_20 ?_
    refine j_iconst X d_M_tick_23 ?_
    refine j_iadd X d_M_tick_24 ?_
    refine p_M_71 X d_M_tick_25 ?_
    refine j_aload_n X rfl d_M_tick_28 ?_
    refine j_dup X rfl d_M_tick_29 ?_
    refine g_M_74 X d_M_tick_30 ?_
    refine j_iconst X d_M_tick_33 ?_
    refine j_iadd X d_M_tick_34 ?_
    refine p_M_74 X d_M_tick_35 ?_
    exact j_vret X Y (Nat.le_refl _) (Nat.le_refl _) d_M_tick_38 ⟨rfl, by rw [← av_t1 h8.1 h14]; rfl⟩
  · skip
    exact j_vret X Y (Nat.le_refl _) (Nat.le_refl _) d_M_tick_17 ⟨rfl, by rw [av_t0 h8.1 h14]⟩

set_option maxRecDepth 100000 in
set_option maxHeartbeats 4000000 in
theorem c_M_goTo (l : Launch) (E : eT) (σ : St) (p : Int) (h8 : 0 ≤ σ 18 0 8 ∧ σ 18 0 8 + 600 ≤ 1500000000) (hp : 0 ≤ p ∧ p ≤ 600) : FCon l E y_M_goTo ws_M_goTo 2 [.ref (E.2.2.2 18 0), .int (iI p)] σ none (agS σ p) := by
  refine con_of (cc := b_M_goTo) (nL := 2) (ret := none) (by decide) (Nat.le_of_ble_eq_true rfl) (fun z X Y hn => ?_)
  have X : Cx E z b_M_goTo R_M := X
  have hz := Y.2.1
  change J E z 0 0 0 [(0, .ref (E.2.2.2 18 0)), (1, .int (iI p))] [] (cells E σ)
  have kyl : ∀ d : Int, (0 ≤ d ∧ d ≤ (p - σ 18 0 8 % 600 + 600) % 600) → J E z 0 0 0 [(0, .ref (E.2.2.2 18 0)), (1, .int (iI p))] [] (cells E (avS σ d)) := by
    refine j_loop (fun d : Int => ((p - σ 18 0 8 % 600 + 600) % 600 - d).toNat) _ _ (fun d hd ih => ?_)
    refine j_aload_n X rfl d_M_goTo_0 ?_
    refine v_M_67 X hz (c_M_place (zl z) E (avS σ d) (by rw [av_8]; omega)) rfl rfl rfl (Nat.le_of_ble_eq_true rfl) ⟨Nat.le_refl _, Nat.le_refl _⟩ d_M_goTo_1 ?_
    rw [av_8]
    refine j_iload_n X rfl d_M_goTo_4 ?_
    refine j_sipush X rfl d_M_goTo_5 ?_
    refine j_irem X (by omega) (by omega) (by omega) (by omega) d_M_goTo_8 ?_
    refine j_icmp_eq X (by omega) (by omega) d_M_goTo_9 (tgt := 19) rfl (fun h9 => ?_) (fun h9 => ?_)
    · skip
      exact j_vret X Y (Nat.le_refl _) (Nat.le_refl _) d_M_goTo_19 ⟨rfl, by unfold agS; rw [show d = (p - σ 18 0 8 % 600 + 600) % 600 by omega]⟩
    · skip
      refine j_aload_n X rfl d_M_goTo_12 ?_
      refine v_M_77 X hz (c_M_tick (zl z) E (avS σ d) (by rw [av_8]; omega)) rfl rfl rfl (Nat.le_of_ble_eq_true rfl) ⟨Nat.le_refl _, Nat.le_refl _⟩ d_M_goTo_13 ?_
      refine j_goto X d_M_goTo_16 (tgt := 0) rfl ?_
      rw [av_av]; exact ih (d + 1) (by omega) (by omega)
  have := kyl 0 (by omega); rw [av_0] at this; exact this

set_option maxRecDepth 100000 in
set_option maxHeartbeats 4000000 in
theorem c_M_isPlace (l : Launch) (E : eT) (σ : St) (a : Int) (ha : inR a) : FCon l E y_M_isPlace ws_M_isPlace 0 [.int (iI a)] σ (some (.int (iI (b2i (decide (0 ≤ a ∧ a < 256)))))) σ := by
  refine con_of (cc := b_M_isPlace) (nL := 1) (ret := (some .boolean)) (by decide) (Nat.le_of_ble_eq_true rfl) (fun z X Y hn => ?_)
  have X : Cx E z b_M_isPlace R_M := X
  have hz := Y.2.1
  change J E z 0 0 0 [(0, .int (iI a))] [] (cells E σ)
  refine j_iload_n X rfl d_M_isPlace_0 ?_
  refine j_if_lt X (by omega) d_M_isPlace_1 (tgt := 15) rfl (fun h1 => ?_) (fun h1 => ?_)
  · skip
    refine j_iconst X d_M_isPlace_15 ?_
    exact j_zret X Y (by first | rfl | exact b2i_nar _) (Nat.le_refl _) (Nat.le_refl _) d_M_isPlace_16 ⟨by first | rw [b2i_t (by omega)] | rw [b2i_f (by omega)], rfl⟩
  · skip
    refine j_iload_n X rfl d_M_isPlace_4 ?_
    refine j_sipush X rfl d_M_isPlace_5 ?_
    refine j_icmp_ge X (by omega) (by omega) d_M_isPlace_8 (tgt := 15) rfl (fun h8 => ?_) (fun h8 => ?_)
    · skip
      refine j_iconst X d_M_isPlace_15 ?_
      exact j_zret X Y (by first | rfl | exact b2i_nar _) (Nat.le_refl _) (Nat.le_refl _) d_M_isPlace_16 ⟨by first | rw [b2i_t (by omega)] | rw [b2i_f (by omega)], rfl⟩
    · skip
      refine j_iconst X d_M_isPlace_11 ?_
      refine j_goto X d_M_isPlace_12 (tgt := 16) rfl ?_
      exact j_zret X Y (by first | rfl | exact b2i_nar _) (Nat.le_refl _) (Nat.le_refl _) d_M_isPlace_16 ⟨by first | rw [b2i_t (by omega)] | rw [b2i_f (by omega)], rfl⟩

set_option maxRecDepth 100000 in
set_option maxHeartbeats 4000000 in
theorem c_M_isTrack (l : Launch) (E : eT) (σ : St) (a : Int) (ha : inR a) : FCon l E y_M_isTrack ws_M_isTrack 0 [.int (iI a)] σ (some (.int (iI (b2i (decide (0 ≤ a ∧ a < 32)))))) σ := by
  refine con_of (cc := b_M_isTrack) (nL := 1) (ret := (some .boolean)) (by decide) (Nat.le_of_ble_eq_true rfl) (fun z X Y hn => ?_)
  have X : Cx E z b_M_isTrack R_M := X
  have hz := Y.2.1
  change J E z 0 0 0 [(0, .int (iI a))] [] (cells E σ)
  refine j_iload_n X rfl d_M_isTrack_0 ?_
  refine j_if_lt X (by omega) d_M_isTrack_1 (tgt := 14) rfl (fun h1 => ?_) (fun h1 => ?_)
  · skip
    refine j_iconst X d_M_isTrack_14 ?_
    exact j_zret X Y (by first | rfl | exact b2i_nar _) (Nat.le_refl _) (Nat.le_refl _) d_M_isTrack_15 ⟨by first | rw [b2i_t (by omega)] | rw [b2i_f (by omega)], rfl⟩
  · skip
    refine j_iload_n X rfl d_M_isTrack_4 ?_
    refine j_bipush X rfl d_M_isTrack_5 ?_
    refine j_icmp_ge X (by omega) (by omega) d_M_isTrack_7 (tgt := 14) rfl (fun h7 => ?_) (fun h7 => ?_)
    · skip
      refine j_iconst X d_M_isTrack_14 ?_
      exact j_zret X Y (by first | rfl | exact b2i_nar _) (Nat.le_refl _) (Nat.le_refl _) d_M_isTrack_15 ⟨by first | rw [b2i_t (by omega)] | rw [b2i_f (by omega)], rfl⟩
    · skip
      refine j_iconst X d_M_isTrack_10 ?_
      refine j_goto X d_M_isTrack_11 (tgt := 15) rfl ?_
      exact j_zret X Y (by first | rfl | exact b2i_nar _) (Nat.le_refl _) (Nat.le_refl _) d_M_isTrack_15 ⟨by first | rw [b2i_t (by omega)] | rw [b2i_f (by omega)], rfl⟩

set_option maxRecDepth 100000 in
set_option maxHeartbeats 4000000 in
theorem c_M_isSet (l : Launch) (E : eT) (σ : St) (a : Int) (ha : inR a) : FCon l E y_M_isSet ws_M_isSet 0 [.int (iI a)] σ (some (.int (iI (b2i (decide (0 ≤ a ∧ a < 6)))))) σ := by
  refine con_of (cc := b_M_isSet) (nL := 1) (ret := (some .boolean)) (by decide) (Nat.le_of_ble_eq_true rfl) (fun z X Y hn => ?_)
  have X : Cx E z b_M_isSet R_M := X
  have hz := Y.2.1
  change J E z 0 0 0 [(0, .int (iI a))] [] (cells E σ)
  refine j_iload_n X rfl d_M_isSet_0 ?_
  refine j_if_lt X (by omega) d_M_isSet_1 (tgt := 14) rfl (fun h1 => ?_) (fun h1 => ?_)
  · skip
    refine j_iconst X d_M_isSet_14 ?_
    exact j_zret X Y (by first | rfl | exact b2i_nar _) (Nat.le_refl _) (Nat.le_refl _) d_M_isSet_15 ⟨by first | rw [b2i_t (by omega)] | rw [b2i_f (by omega)], rfl⟩
  · skip
    refine j_iload_n X rfl d_M_isSet_4 ?_
    refine j_bipush X rfl d_M_isSet_5 ?_
    refine j_icmp_ge X (by omega) (by omega) d_M_isSet_7 (tgt := 14) rfl (fun h7 => ?_) (fun h7 => ?_)
    · skip
      refine j_iconst X d_M_isSet_14 ?_
      exact j_zret X Y (by first | rfl | exact b2i_nar _) (Nat.le_refl _) (Nat.le_refl _) d_M_isSet_15 ⟨by first | rw [b2i_t (by omega)] | rw [b2i_f (by omega)], rfl⟩
    · skip
      refine j_iconst X d_M_isSet_10 ?_
      refine j_goto X d_M_isSet_11 (tgt := 15) rfl ?_
      exact j_zret X Y (by first | rfl | exact b2i_nar _) (Nat.le_refl _) (Nat.le_refl _) d_M_isSet_15 ⟨by first | rw [b2i_t (by omega)] | rw [b2i_f (by omega)], rfl⟩

set_option maxRecDepth 100000 in
set_option maxHeartbeats 4000000 in
theorem c_M_isRow (l : Launch) (E : eT) (σ : St) (a n : Int) (ha : inR a) (hn0 : 0 ≤ n ∧ n ≤ 1000) : FCon l E y_M_isRow ws_M_isRow 1 [.ref (E.2.2.2 18 0), .int (iI a), .int (iI n)] σ (some (.int (iI (b2i (decide ((0 ≤ a ∧ a < 256) ∧ a + n ≤ 256)))))) σ := by
  refine con_of (cc := b_M_isRow) (nL := 3) (ret := (some .boolean)) (by decide) (Nat.le_of_ble_eq_true rfl) (fun z X Y hn => ?_)
  have X : Cx E z b_M_isRow R_M := X
  have hz := Y.2.1
  change J E z 0 0 0 [(0, .ref (E.2.2.2 18 0)), (1, .int (iI a)), (2, .int (iI n))] [] (cells E σ)
  refine j_iload_n X rfl d_M_isRow_0 ?_
  refine s_M_57 X hz (c_M_isPlace (zl z) E σ a ha) rfl rfl rfl (Nat.le_of_ble_eq_true rfl) ⟨Nat.le_refl _, Nat.le_refl _⟩ d_M_isRow_1 ?_
  refine j_ifz X d_M_isRow_4 (tgt := 20) rfl (fun h4 => ?_) (fun h4 => ?_)
  · skip
    refine j_iconst X d_M_isRow_20 ?_
    exact j_zret X Y (by first | rfl | exact b2i_nar _) (Nat.le_refl _) (Nat.le_refl _) d_M_isRow_21 ⟨by first | rw [b2i_t (by omega)] | rw [b2i_f (by omega)], rfl⟩
  · skip
    refine j_iload_n X rfl d_M_isRow_7 ?_
    refine j_iload_n X rfl d_M_isRow_8 ?_
    refine j_iadd X d_M_isRow_9 ?_
    refine j_sipush X rfl d_M_isRow_10 ?_
    refine j_icmp_gt X (by omega) (by omega) d_M_isRow_13 (tgt := 20) rfl (fun h13 => ?_) (fun h13 => ?_)
    · skip
      refine j_iconst X d_M_isRow_20 ?_
      exact j_zret X Y (by first | rfl | exact b2i_nar _) (Nat.le_refl _) (Nat.le_refl _) d_M_isRow_21 ⟨by first | rw [b2i_t (by omega)] | rw [b2i_f (by omega)], rfl⟩
    · skip
      refine j_iconst X d_M_isRow_16 ?_
      refine j_goto X d_M_isRow_17 (tgt := 21) rfl ?_
      exact j_zret X Y (by first | rfl | exact b2i_nar _) (Nat.le_refl _) (Nat.le_refl _) d_M_isRow_21 ⟨by first | rw [b2i_t (by omega)] | rw [b2i_f (by omega)], rfl⟩

set_option maxRecDepth 100000 in
set_option maxHeartbeats 4000000 in
theorem c_M_many (l : Launch) (E : eT) (σ : St) (t : Int) (ht : 0 ≤ t ∧ t < 32) : FCon l E y_M_many ws_M_many 0 [.ref (E.2.2.2 18 0), .int (iI t)] σ (some (.int (iI (smS (σ 19 0) (600 * t) 600)))) σ := by
  refine con_of (cc := b_M_many) (nL := 4) (ret := (some .int)) (by decide) (Nat.le_of_ble_eq_true rfl) (fun z X Y hn => ?_)
  have X : Cx E z b_M_many R_M := X
  have hz := Y.2.1
  change J E z 0 0 0 [(0, .ref (E.2.2.2 18 0)), (1, .int (iI t))] [] (cells E σ)
  refine j_iconst X d_M_many_0 ?_
  refine j_istore_n X (zlt hn rfl) d_M_many_1 ?_
  refine j_iconst X d_M_many_2 ?_
  refine j_istore_n X (zlt hn rfl) d_M_many_3 ?_
  have kyl : ∀ p : Int, (0 ≤ p ∧ p ≤ 600) → J E z 0 0 4 [(0, .ref (E.2.2.2 18 0)), (1, .int (iI t)), (2, .int (iI (smS (σ 19 0) (600 * t) p.toNat))), (3, .int (iI p))] [] (cells E σ) := by
    refine j_loop (fun p : Int => (600 - p).toNat) _ _ (fun p hp ih => ?_)
    refine j_iload_n X rfl d_M_many_4 ?_
    refine j_sipush X rfl d_M_many_5 ?_
    refine j_icmp_ge X (by omega) (by omega) d_M_many_8 (tgt := 32) rfl (fun h8 => ?_) (fun h8 => ?_)
    · skip
      refine j_iload_n X rfl d_M_many_32 ?_
      exact j_iret X Y (Nat.le_refl _) (Nat.le_refl _) d_M_many_33 ⟨by rw [show p = 600 by omega]; rfl, rfl⟩
    · skip
      refine j_iload_n X rfl d_M_many_11 ?_
      refine j_aload_n X rfl d_M_many_12 ?_
      refine g_M_7 X d_M_many_13 ?_
      refine j_sipush X rfl d_M_many_16 ?_
      refine j_iload_n X rfl d_M_many_19 ?_
      refine j_imul X d_M_many_20 ?_
      refine j_iload_n X rfl d_M_many_21 ?_
      refine j_iadd X d_M_many_22 ?_
      refine j_bald X (by first | exact okC1 rfl | exact (okCT rfl (by omega))) (fun _ => rfl) rfl (by omega) d_M_many_23 ?_
      refine j_iadd X d_M_many_24 ?_
      refine j_istore_n X (zlt hn rfl) d_M_many_25 ?_
      refine j_iinc X rfl (zlt hn rfl) d_M_many_26 ?_
      refine j_goto X d_M_many_29 (tgt := 4) rfl ?_
      have := ih (p + 1) (by omega) (by omega); rw [smS_s _ _ hp.1] at this; exact this
  exact kyl 0 (by omega)

set_option maxRecDepth 100000 in
set_option maxHeartbeats 4000000 in
theorem c_M_numberOf (l : Launch) (E : eT) (σ : St) (t q : Int) (ht : 0 ≤ t ∧ t < 32) (hq : 0 ≤ q ∧ q < 600) : FCon l E y_M_numberOf ws_M_numberOf 0 [.ref (E.2.2.2 18 0), .int (iI t), .int (iI q)] σ (some (.int (iI (smS (σ 19 0) (600 * t) (q + 1).toNat)))) σ := by
  refine con_of (cc := b_M_numberOf) (nL := 5) (ret := (some .int)) (by decide) (Nat.le_of_ble_eq_true rfl) (fun z X Y hn => ?_)
  have X : Cx E z b_M_numberOf R_M := X
  have hz := Y.2.1
  change J E z 0 0 0 [(0, .ref (E.2.2.2 18 0)), (1, .int (iI t)), (2, .int (iI q))] [] (cells E σ)
  refine j_iconst X d_M_numberOf_0 ?_
  refine j_istore_n X (zlt hn rfl) d_M_numberOf_1 ?_
  refine j_iconst X d_M_numberOf_2 ?_
  refine j_istore X (zlt hn rfl) d_M_numberOf_3 ?_
  have kyl : ∀ p : Int, (0 ≤ p ∧ p ≤ q + 1) → J E z 0 0 5 [(0, .ref (E.2.2.2 18 0)), (1, .int (iI t)), (2, .int (iI q)), (3, .int (iI (smS (σ 19 0) (600 * t) p.toNat))), (4, .int (iI p))] [] (cells E σ) := by
    refine j_loop (fun p : Int => (q + 1 - p).toNat) _ _ (fun p hp ih => ?_)
    refine j_iload X rfl d_M_numberOf_5 ?_
    refine j_iload_n X rfl d_M_numberOf_7 ?_
    refine j_icmp_gt X (by omega) (by omega) d_M_numberOf_8 (tgt := 33) rfl (fun h8 => ?_) (fun h8 => ?_)
    · skip
      refine j_iload_n X rfl d_M_numberOf_33 ?_
      exact j_iret X Y (Nat.le_refl _) (Nat.le_refl _) d_M_numberOf_34 ⟨by rw [show p = q + 1 by omega], rfl⟩
    · skip
      refine j_iload_n X rfl d_M_numberOf_11 ?_
      refine j_aload_n X rfl d_M_numberOf_12 ?_
      refine g_M_7 X d_M_numberOf_13 ?_
      refine j_sipush X rfl d_M_numberOf_16 ?_
      refine j_iload_n X rfl d_M_numberOf_19 ?_
      refine j_imul X d_M_numberOf_20 ?_
      refine j_iload X rfl d_M_numberOf_21 ?_
      refine j_iadd X d_M_numberOf_23 ?_
      refine j_bald X (by first | exact okC1 rfl | exact (okCT rfl (by omega))) (fun _ => rfl) rfl (by omega) d_M_numberOf_24 ?_
      refine j_iadd X d_M_numberOf_25 ?_
      refine j_istore_n X (zlt hn rfl) d_M_numberOf_26 ?_
      refine j_iinc X rfl (zlt hn rfl) d_M_numberOf_27 ?_
      refine j_goto X d_M_numberOf_30 (tgt := 5) rfl ?_
      have := ih (p + 1) (by omega) (by omega); rw [smS_s _ _ hp.1] at this; exact this
  exact kyl 0 (by omega)

set_option maxRecDepth 100000 in
set_option maxHeartbeats 4000000 in
theorem c_M_clear (l : Launch) (E : eT) (σ : St) (t p : Int) (ht : 0 ≤ t ∧ t < 32) (hp : 0 ≤ p ∧ p ≤ 600) : FCon l E y_M_clear ws_M_clear 0 [.ref (E.2.2.2 18 0), .int (iI t), .int (iI p)] σ none (clS σ t p 600) := by
  refine con_of (cc := b_M_clear) (nL := 4) (ret := none) (by decide) (Nat.le_of_ble_eq_true rfl) (fun z X Y hn => ?_)
  have X : Cx E z b_M_clear R_M := X
  have hz := Y.2.1
  change J E z 0 0 0 [(0, .ref (E.2.2.2 18 0)), (1, .int (iI t)), (2, .int (iI p))] [] (cells E σ)
  refine j_iload_n X rfl d_M_clear_0 ?_
  refine j_istore_n X (zlt hn rfl) d_M_clear_1 ?_
  have kyl : ∀ q : Int, (p ≤ q ∧ q ≤ 600) → J E z 0 0 2 [(0, .ref (E.2.2.2 18 0)), (1, .int (iI t)), (2, .int (iI p)), (3, .int (iI q))] [] (cells E (clS σ t p q)) := by
    refine j_loop (fun q : Int => (600 - q).toNat) _ _ (fun q hq ih => ?_)
    refine j_iload_n X rfl d_M_clear_2 ?_
    refine j_sipush X rfl d_M_clear_3 ?_
    refine j_icmp_ge X (by omega) (by omega) d_M_clear_6 (tgt := 28) rfl (fun h6 => ?_) (fun h6 => ?_)
    · skip
      exact j_vret X Y (Nat.le_refl _) (Nat.le_refl _) d_M_clear_28 ⟨rfl, by rw [show q = 600 by omega]⟩
    · skip
      refine j_aload_n X rfl d_M_clear_9 ?_
      refine g_M_7 X d_M_clear_10 ?_
      refine j_sipush X rfl d_M_clear_13 ?_
      refine j_iload_n X rfl d_M_clear_16 ?_
      refine j_imul X d_M_clear_17 ?_
      refine j_iload_n X rfl d_M_clear_18 ?_
      refine j_iadd X d_M_clear_19 ?_
      refine j_iconst X d_M_clear_20 ?_
      refine j_bast X (by first | exact okC1 rfl | exact (okCT rfl (by omega))) (fun _ => rfl) rfl (by omega) d_M_clear_21 ?_
      refine j_iinc X rfl (zlt hn rfl) d_M_clear_22 ?_
      refine j_goto X d_M_clear_25 (tgt := 2) rfl ?_
      rw [cl_s hq.1]; exact ih (q + 1) (by omega) (by omega)
  have := kyl p (by omega); rw [cl_0] at this; exact this

set_option maxRecDepth 100000 in
set_option maxHeartbeats 4000000 in
theorem c_M_lay (l : Launch) (E : eT) (σ : St) (t p kl dl : Int) (ht : 0 ≤ t ∧ t < 32) (hp : 0 ≤ p ∧ p ≤ 580) : FCon l E y_M_lay ws_M_lay 0 [.ref (E.2.2.2 18 0), .int (iI t), .int (iI p), .int (iI kl), .int (iI dl)] σ none (laS σ t p kl dl) := by
  refine con_of (cc := b_M_lay) (nL := 5) (ret := none) (by decide) (Nat.le_of_ble_eq_true rfl) (fun z X Y hn => ?_)
  have X : Cx E z b_M_lay R_M := X
  have hz := Y.2.1
  change J E z 0 0 0 [(0, .ref (E.2.2.2 18 0)), (1, .int (iI t)), (2, .int (iI p)), (3, .int (iI kl)), (4, .int (iI dl))] [] (cells E σ)
  refine j_aload_n X rfl d_M_lay_0 ?_
  refine g_M_7 X d_M_lay_1 ?_
  refine j_sipush X rfl d_M_lay_4 ?_
  refine j_iload_n X rfl d_M_lay_7 ?_
  refine j_imul X d_M_lay_8 ?_
  refine j_iload_n X rfl d_M_lay_9 ?_
  refine j_iadd X d_M_lay_10 ?_
  refine j_iconst X d_M_lay_11 ?_
  refine j_bast X (by first | exact okC1 rfl | exact (okCT rfl (by omega))) (fun _ => rfl) rfl (by omega) d_M_lay_12 ?_
  refine j_aload_n X rfl d_M_lay_13 ?_
  refine g_M_13 X d_M_lay_14 ?_
  refine j_sipush X rfl d_M_lay_17 ?_
  refine j_iload_n X rfl d_M_lay_20 ?_
  refine j_imul X d_M_lay_21 ?_
  refine j_iload_n X rfl d_M_lay_22 ?_
  refine j_iadd X d_M_lay_23 ?_
  refine j_iconst X d_M_lay_24 ?_
  refine j_iadd X d_M_lay_25 ?_
  refine j_iload_n X rfl d_M_lay_26 ?_
  refine j_i2b X d_M_lay_27 ?_
  refine j_bast X (by first | exact okC1 rfl | exact (okCT rfl (by omega))) (fun _ => rfl) rfl (by omega) d_M_lay_28 ?_
  refine j_aload_n X rfl d_M_lay_29 ?_
  refine g_M_13 X d_M_lay_30 ?_
  refine j_sipush X rfl d_M_lay_33 ?_
  refine j_iload_n X rfl d_M_lay_36 ?_
  refine j_imul X d_M_lay_37 ?_
  refine j_iload_n X rfl d_M_lay_38 ?_
  refine j_iadd X d_M_lay_39 ?_
  refine j_iconst X d_M_lay_40 ?_
  refine j_iadd X d_M_lay_41 ?_
  refine j_iload X rfl d_M_lay_42 ?_
  refine j_i2b X d_M_lay_44 ?_
  refine j_bast X (by first | exact okC1 rfl | exact (okCT rfl (by omega))) (fun _ => rfl) rfl (by omega) d_M_lay_45 ?_
  refine j_aload_n X rfl d_M_lay_46 ?_
  refine g_M_13 X d_M_lay_47 ?_
  refine j_sipush X rfl d_M_lay_50 ?_
  refine j_iload_n X rfl d_M_lay_53 ?_
  refine j_imul X d_M_lay_54 ?_
  refine j_iload_n X rfl d_M_lay_55 ?_
  refine j_iadd X d_M_lay_56 ?_
  refine j_iconst X d_M_lay_57 ?_
  refine j_iadd X d_M_lay_58 ?_
  refine j_iconst X d_M_lay_59 ?_
  refine j_bast X (by first | exact okC1 rfl | exact (okCT rfl (by omega))) (fun _ => rfl) rfl (by omega) d_M_lay_60 ?_
  exact j_vret X Y (Nat.le_refl _) (Nat.le_refl _) d_M_lay_61 ⟨rfl, rfl⟩
