/-! the copying, comparing and finding methods of Track -/
/-- n bytes of track t from place f on come to the memory from a on -/
def rdS (σ : St) (t f a n : Int) : St := upF σ 2 0 (fun j => if a ≤ j ∧ j < a + n then σ 9 t (f + (j - a)) else σ 2 0 j)
/-- n bytes of the memory from a on come to track t from place f on -/
def wrS (σ : St) (t f a n : Int) : St := upF σ 9 t (fun p => if f ≤ p ∧ p < f + n then σ 2 0 (a + (p - f)) else σ 9 t p)
def kbS (key i : Int) : Int := if i = 0 then key / 16777216 % 256 else if i = 1 then key / 65536 % 256 else if i = 2 then key / 256 % 256 else key % 256
def wkS (σ : St) (t f key n : Int) : St := upF σ 9 t (fun p => if f ≤ p ∧ p < f + n then kbS key (p - f) else σ 9 t p)
theorem kbS_by (key i : Int) : 0 ≤ kbS key i ∧ kbS key i < 256 := by
  unfold kbS
  split
  · omega
  · split
    · omega
    · split <;> omega
theorem rd_9 (σ : St) (t f a n : Int) (t' p : Int) : rdS σ t f a n 9 t' p = σ 9 t' p := by unfold rdS; rw [upF_eq, if_neg (fun q => by cases q.1)]
theorem rd_k (σ : St) (t f a n : Int) {k : Nat} (hk : k ≠ 2) (t' p : Int) : rdS σ t f a n k t' p = σ k t' p := by unfold rdS; rw [upF_eq, if_neg (fun q => hk q.1)]
theorem rd_2 (σ : St) (t f a n j : Int) : rdS σ t f a n 2 0 j = if a ≤ j ∧ j < a + n then σ 9 t (f + (j - a)) else σ 2 0 j := by unfold rdS; rw [upF_eq, if_pos ⟨rfl, rfl⟩]
theorem wr_k (σ : St) (t f a n : Int) {k : Nat} (hk : k ≠ 9) (t' p : Int) : wrS σ t f a n k t' p = σ k t' p := by unfold wrS; rw [upF_eq, if_neg (fun q => hk q.1)]
theorem wr_9 (σ : St) (t f a n p : Int) : wrS σ t f a n 9 t p = if f ≤ p ∧ p < f + n then σ 2 0 (a + (p - f)) else σ 9 t p := by unfold wrS; rw [upF_eq, if_pos ⟨rfl, rfl⟩]
theorem wk_k (σ : St) (t f key n : Int) {k : Nat} (hk : k ≠ 9) (t' p : Int) : wkS σ t f key n k t' p = σ k t' p := by unfold wkS; rw [upF_eq, if_neg (fun q => hk q.1)]
theorem wk_9 (σ : St) (t f key n p : Int) : wkS σ t f key n 9 t p = if f ≤ p ∧ p < f + n then kbS key (p - f) else σ 9 t p := by unfold wkS; rw [upF_eq, if_pos ⟨rfl, rfl⟩]
theorem rd_by {σ : St} {t f a n : Int} (h9 : byR (σ 9 t)) (h2 : byR (σ 2 0)) : byR (rdS σ t f a n 2 0) := by
  intro j
  rw [rd_2]
  split
  · exact h9 _
  · exact h2 _
theorem wr_by {σ : St} {t f a n : Int} (h9 : byR (σ 9 t)) (h2 : byR (σ 2 0)) : byR (wrS σ t f a n 9 t) := by
  intro j
  rw [wr_9]
  split
  · exact h2 _
  · exact h9 _
theorem wk_by {σ : St} {t f key n : Int} (h9 : byR (σ 9 t)) : byR (wkS σ t f key n 9 t) := by
  intro j
  rw [wk_9]
  split
  · exact kbS_by _ _
  · exact h9 _
theorem rd_0 (σ : St) (t f a : Int) : rdS σ t f a 0 = σ := by
  apply st_ext
  intro k t' j
  unfold rdS
  rw [upF_eq]
  split
  · next h => rw [if_neg (by omega), h.1, h.2]
  · rfl
theorem wr_0 (σ : St) (t f a : Int) : wrS σ t f a 0 = σ := by
  apply st_ext
  intro k t' j
  unfold wrS
  rw [upF_eq]
  split
  · next h => rw [if_neg (by omega), h.1, h.2]
  · rfl
theorem wk_0 (σ : St) (t f key : Int) : wkS σ t f key 0 = σ := by
  apply st_ext
  intro k t' j
  unfold wkS
  rw [upF_eq]
  split
  · next h => rw [if_neg (by omega), h.1, h.2]
  · rfl
theorem rd_step {σ : St} {t f a i : Int} (h9 : byR (σ 9 t)) (hi : 0 ≤ i) : up (rdS σ t f a i) 2 0 (a + i) (σ 9 t (f + i) % 256) = rdS σ t f a (i + 1) := by
  apply st_ext
  intro k t' j
  rw [up_eq]
  by_cases h : k = 2 ∧ t' = 0
  · obtain ⟨rfl, rfl⟩ := h
    rw [rd_2, rd_2]
    have hb := h9 (f + i)
    by_cases hj : j = a + i
    · rw [if_pos ⟨rfl, rfl, hj⟩, if_pos (by omega), hj, Int.emod_eq_of_lt hb.1 hb.2]
      congr 1
      omega
    · rw [if_neg (fun q => hj q.2.2)]
      by_cases h1 : a ≤ j ∧ j < a + i
      · rw [if_pos h1, if_pos (by omega)]
      · rw [if_neg h1, if_neg (by omega)]
  · rw [if_neg (fun q => h ⟨q.1, q.2.1⟩)]
    unfold rdS
    rw [upF_eq, upF_eq, if_neg h, if_neg h]
theorem wr_step {σ : St} {t f a i : Int} (h2 : byR (σ 2 0)) (hi : 0 ≤ i) : up (wrS σ t f a i) 9 t (f + i) (σ 2 0 (a + i) % 256) = wrS σ t f a (i + 1) := by
  apply st_ext
  intro k t' j
  rw [up_eq]
  by_cases h : k = 9 ∧ t' = t
  · obtain ⟨rfl, rfl⟩ := h
    rw [wr_9, wr_9]
    have hb := h2 (a + i)
    by_cases hj : j = f + i
    · rw [if_pos ⟨rfl, rfl, hj⟩, if_pos (by omega), hj, Int.emod_eq_of_lt hb.1 hb.2]
      congr 1
      omega
    · rw [if_neg (fun q => hj q.2.2)]
      by_cases h1 : f ≤ j ∧ j < f + i
      · rw [if_pos h1, if_pos (by omega)]
      · rw [if_neg h1, if_neg (by omega)]
  · rw [if_neg (fun q => h ⟨q.1, q.2.1⟩)]
    unfold wrS
    rw [upF_eq, upF_eq, if_neg h, if_neg h]
theorem wk_step {σ : St} {t f key i : Int} (hi : 0 ≤ i) : up (wkS σ t f key i) 9 t (f + i) (kbS key i % 256) = wkS σ t f key (i + 1) := by
  apply st_ext
  intro k t' j
  rw [up_eq]
  by_cases h : k = 9 ∧ t' = t
  · obtain ⟨rfl, rfl⟩ := h
    rw [wk_9, wk_9]
    have hb := kbS_by key i
    by_cases hj : j = f + i
    · rw [if_pos ⟨rfl, rfl, hj⟩, if_pos (by omega), hj, Int.emod_eq_of_lt hb.1 hb.2]
      congr 1
      omega
    · rw [if_neg (fun q => hj q.2.2)]
      by_cases h1 : f ≤ j ∧ j < f + i
      · rw [if_pos h1, if_pos (by omega)]
      · rw [if_neg h1, if_neg (by omega)]
  · rw [if_neg (fun q => h ⟨q.1, q.2.1⟩)]
    unfold wkS
    rw [upF_eq, upF_eq, if_neg h, if_neg h]
def cmpS (f g : Int → Int) (a b : Int) : Nat → Int → Int
  | 0, _ => a - b
  | m + 1, i => if i < a ∧ i < b then (if f i - g i = 0 then cmpS f g a b m (i + 1) else f i - g i) else a - b
theorem cmpS_succ (f g : Int → Int) (a b : Int) (m : Nat) (i : Int) : cmpS f g a b (m + 1) i = if i < a ∧ i < b then (if f i - g i = 0 then cmpS f g a b m (i + 1) else f i - g i) else a - b := rfl
def hkS (σ : St) (t k key : Int) : Prop := σ 9 t (σ 5 t k + 20 + 0) = kbS key 0 ∧ σ 9 t (σ 5 t k + 20 + 1) = kbS key 1 ∧ σ 9 t (σ 5 t k + 20 + 2) = kbS key 2 ∧ σ 9 t (σ 5 t k + 20 + 3) = kbS key 3
noncomputable def hkD (σ : St) (t k key : Int) : Decidable (hkS σ t k key) := Classical.propDecidable _
/-- the first record with this key, or 0 -/
noncomputable def noS (σ : St) (t key : Int) : Nat → Int → Int
  | 0, _ => 0
  | m + 1, k => if σ 4 t 4 < k then 0 else @ite _ (σ 6 t k = 4 ∧ hkS σ t k key) (Classical.propDecidable _) k (noS σ t key m (k + 1))
theorem noS_succ (σ : St) (t key : Int) (m : Nat) (k : Int) : noS σ t key (m + 1) k = if σ 4 t 4 < k then 0 else @ite _ (σ 6 t k = 4 ∧ hkS σ t k key) (Classical.propDecidable _) k (noS σ t key m (k + 1)) := rfl
theorem kb_get {i : Int} (key : Int) (hi : 0 ≤ i ∧ i < 4) : ((iI key).toUInt32 >>> ((iI ((3 - i) * 8)).toUInt32 &&& Int32.toUInt32 31)).toInt32 &&& iI 255 = iI (kbS key i) := by
  unfold kbS
  have h : i = 0 ∨ i = 1 ∨ i = 2 ∨ i = 3 := by omega
  rcases h with rfl | rfl | rfl | rfl
  · rw [pk_and _ 8 (by decide), pk_ushr _ _ 24 (by decide), iI_tn, if_pos rfl]
    show Int32.ofNat _ = _
    rw [iI_nat]
    congr 1
    omega
  · rw [pk_and _ 8 (by decide), pk_ushr _ _ 16 (by decide), iI_tn, if_neg (by decide), if_pos rfl]
    show Int32.ofNat _ = _
    rw [iI_nat]
    congr 1
    omega
  · rw [pk_and _ 8 (by decide), pk_ushr _ _ 8 (by decide), iI_tn, if_neg (by decide), if_neg (by decide), if_pos rfl]
    show Int32.ofNat _ = _
    rw [iI_nat]
    congr 1
    omega
  · rw [pk_and _ 8 (by decide), pk_ushr _ _ 0 (by decide), iI_tn, if_neg (by decide), if_neg (by decide), if_neg (by decide)]
    show Int32.ofNat _ = _
    rw [iI_nat]
    congr 1
    omega

set_option maxRecDepth 100000 in
set_option maxHeartbeats 4000000 in
theorem c_T_readPart (l : Launch) (E : eT) (σ : St) (t k p a len : Int) (ht : 0 ≤ t ∧ t < 32) (hk : 0 ≤ k ∧ k < 31) (hp : inR (p - 1)) (h9 : byR (σ 9 t)) (h2 : byR (σ 2 0)) (ha : 0 ≤ a) (hl : 0 ≤ len) (hal : a + len ≤ 256) (hf : 0 ≤ pbS σ t k (p - 1)) (hfl : pbS σ t k (p - 1) + len ≤ 600) : FCon l E y_T_readPart ws_T_readPart 1 [.ref (E.2.2.2 4 t), .int (iI k), .int (iI p), .ref (E.2.2.2 1 0), .int (iI a), .int (iI len)] σ none (rdS σ t (pbS σ t k (p - 1)) a len) := by
  refine con_of (cc := b_T_readPart) (nL := 8) (ret := none) (by decide) (Nat.le_of_ble_eq_true rfl) (fun z X Y hn => ?_)
  have X : Cx E z b_T_readPart R_T := X
  have hz := Y.2.1
  change J E z 0 0 0 [(0, .ref (E.2.2.2 4 t)), (1, .int (iI k)), (2, .int (iI p)), (3, .ref (E.2.2.2 1 0)), (4, .int (iI a)), (5, .int (iI len))] [] (cells E σ)
  refine j_aload_n X rfl d_T_readPart_0 ?_
  refine j_iload_n X rfl d_T_readPart_1 ?_
  refine j_iload_n X rfl d_T_readPart_2 ?_
  refine j_iconst X d_T_readPart_3 ?_
  refine j_isub X d_T_readPart_4 ?_
  refine v_T_39 X (okCT rfl (by omega)) hz (c_T_placeBehind (zl z) E σ t k (p - 1) ht hk hp) rfl rfl rfl (Nat.le_of_ble_eq_true rfl) ⟨Nat.le_refl _, Nat.le_refl _⟩ d_T_readPart_5 ?_
  refine j_istore X (zlt hn rfl) d_T_readPart_8 ?_
  refine j_iconst X d_T_readPart_10 ?_
  refine j_istore X (zlt hn rfl) d_T_readPart_11 ?_
  have key : ∀ i : Int, (0 ≤ i ∧ i ≤ len) → J E z 0 0 13 [(0, .ref (E.2.2.2 4 t)), (1, .int (iI k)), (2, .int (iI p)), (3, .ref (E.2.2.2 1 0)), (4, .int (iI a)), (5, .int (iI len)), (6, .int (iI (pbS σ t k (p - 1)))), (7, .int (iI i))] [] (cells E (rdS σ t (pbS σ t k (p - 1)) a i)) := by
    refine j_loop (fun i : Int => (len - i).toNat) _ _ (fun i hi ih => ?_)
    refine j_iload X rfl d_T_readPart_13 ?_
    refine j_iload X rfl d_T_readPart_15 ?_
    refine j_icmp_ge X (by omega) (by omega) d_T_readPart_17 (tgt := 47) rfl (fun h17 => ?_) (fun h17 => ?_)
    · skip
      exact j_vret X Y (Nat.le_refl _) (Nat.le_refl _) d_T_readPart_47 ⟨rfl, by rw [show i = len by omega]⟩
    · skip
      refine j_aload_n X rfl d_T_readPart_20 ?_
      refine j_iload X rfl d_T_readPart_21 ?_
      refine j_iload X rfl d_T_readPart_23 ?_
      refine j_iadd X d_T_readPart_25 ?_
      refine j_aload_n X rfl d_T_readPart_26 ?_
      refine g_T_27 X (okCT rfl (by omega)) d_T_readPart_27 ?_
      refine j_iload X rfl d_T_readPart_30 ?_
      refine j_iload X rfl d_T_readPart_32 ?_
      refine j_iadd X d_T_readPart_34 ?_
      refine v_T_43_8 X (okCT rfl (by omega)) hz (c_B_get_P (zl z) E (rdS σ t (pbS σ t k (p - 1)) a i) t (pbS σ t k (p - 1) + i) ht (fun j => by rw [rd_9]; exact h9 j) (by omega)) rfl rfl rfl (Nat.le_of_ble_eq_true rfl) ⟨Nat.le_refl _, Nat.le_refl _⟩ d_T_readPart_35 ?_
      refine v_T_47_1 X hz (c_B_set_M (zl z) E (rdS σ t (pbS σ t k (p - 1)) a i) (a + i) _ (rd_by h9 h2) (by omega)) rfl rfl rfl (Nat.le_of_ble_eq_true rfl) ⟨Nat.le_refl _, Nat.le_refl _⟩ d_T_readPart_38 ?_
      rw [rd_9, rd_step h9 (by omega)]
      refine j_iinc X rfl (zlt hn rfl) d_T_readPart_41 ?_
      refine j_goto X d_T_readPart_44 (tgt := 13) rfl ?_
      exact ih (i + 1) (by omega) (by omega)
  exact (rd_0 σ t (pbS σ t k (p - 1)) a) ▸ key 0 (by omega)

set_option maxRecDepth 100000 in
set_option maxHeartbeats 4000000 in
theorem c_T_writePart (l : Launch) (E : eT) (σ : St) (t k p a : Int) (ht : 0 ≤ t ∧ t < 32) (hk : 0 ≤ k ∧ k < 31) (hp : inR (p - 1)) (hp2 : inR p) (h9 : byR (σ 9 t)) (h2 : byR (σ 2 0)) (ha : 0 ≤ a) (hal : a + (pbS σ t k p - pbS σ t k (p - 1)) ≤ 256) (hl : 0 ≤ pbS σ t k p - pbS σ t k (p - 1)) (hf : 0 ≤ pbS σ t k (p - 1)) (hfl : pbS σ t k p ≤ 600) : FCon l E y_T_writePart ws_T_writePart 1 [.ref (E.2.2.2 4 t), .int (iI k), .int (iI p), .ref (E.2.2.2 1 0), .int (iI a)] σ none (wrS σ t (pbS σ t k (p - 1)) a (pbS σ t k p - pbS σ t k (p - 1))) := by
  refine con_of (cc := b_T_writePart) (nL := 8) (ret := none) (by decide) (Nat.le_of_ble_eq_true rfl) (fun z X Y hn => ?_)
  have X : Cx E z b_T_writePart R_T := X
  have hz := Y.2.1
  change J E z 0 0 0 [(0, .ref (E.2.2.2 4 t)), (1, .int (iI k)), (2, .int (iI p)), (3, .ref (E.2.2.2 1 0)), (4, .int (iI a))] [] (cells E σ)
  refine j_aload_n X rfl d_T_writePart_0 ?_
  refine j_iload_n X rfl d_T_writePart_1 ?_
  refine j_iload_n X rfl d_T_writePart_2 ?_
  refine j_iconst X d_T_writePart_3 ?_
  refine j_isub X d_T_writePart_4 ?_
  refine v_T_39 X (okCT rfl (by omega)) hz (c_T_placeBehind (zl z) E σ t k (p - 1) ht hk hp) rfl rfl rfl (Nat.le_of_ble_eq_true rfl) ⟨Nat.le_refl _, Nat.le_refl _⟩ d_T_writePart_5 ?_
  refine j_istore X (zlt hn rfl) d_T_writePart_8 ?_
  refine j_aload_n X rfl d_T_writePart_10 ?_
  refine j_iload_n X rfl d_T_writePart_11 ?_
  refine j_iload_n X rfl d_T_writePart_12 ?_
  refine v_T_39 X (okCT rfl (by omega)) hz (c_T_placeBehind (zl z) E σ t k p ht hk hp2) rfl rfl rfl (Nat.le_of_ble_eq_true rfl) ⟨Nat.le_refl _, Nat.le_refl _⟩ d_T_writePart_13 ?_
  refine j_iload X rfl d_T_writePart_16 ?_
  refine j_isub X d_T_writePart_18 ?_
  refine j_istore X (zlt hn rfl) d_T_writePart_19 ?_
  refine j_iconst X d_T_writePart_21 ?_
  refine j_istore X (zlt hn rfl) d_T_writePart_22 ?_
  have key : ∀ i : Int, (0 ≤ i ∧ i ≤ pbS σ t k p - pbS σ t k (p - 1)) → J E z 0 0 24 [(0, .ref (E.2.2.2 4 t)), (1, .int (iI k)), (2, .int (iI p)), (3, .ref (E.2.2.2 1 0)), (4, .int (iI a)), (5, .int (iI (pbS σ t k (p - 1)))), (6, .int (iI (pbS σ t k p - pbS σ t k (p - 1)))), (7, .int (iI i))] [] (cells E (wrS σ t (pbS σ t k (p - 1)) a i)) := by
    refine j_loop (fun i : Int => (pbS σ t k p - pbS σ t k (p - 1) - i).toNat) _ _ (fun i hi ih => ?_)
    refine j_iload X rfl d_T_writePart_24 ?_
    refine j_iload X rfl d_T_writePart_26 ?_
    refine j_icmp_ge X (by omega) (by omega) d_T_writePart_28 (tgt := 58) rfl (fun h28 => ?_) (fun h28 => ?_)
    · skip
      exact j_vret X Y (Nat.le_refl _) (Nat.le_refl _) d_T_writePart_58 ⟨rfl, by rw [show i = pbS σ t k p - pbS σ t k (p - 1) by omega]⟩
    · skip
      refine j_aload_n X rfl d_T_writePart_31 ?_
      refine g_T_27 X (okCT rfl (by omega)) d_T_writePart_32 ?_
      refine j_iload X rfl d_T_writePart_35 ?_
      refine j_iload X rfl d_T_writePart_37 ?_
      refine j_iadd X d_T_writePart_39 ?_
      refine j_aload_n X rfl d_T_writePart_40 ?_
      refine j_iload X rfl d_T_writePart_41 ?_
      refine j_iload X rfl d_T_writePart_43 ?_
      refine j_iadd X d_T_writePart_45 ?_
      refine v_T_43_1 X hz (c_B_get_M (zl z) E (wrS σ t (pbS σ t k (p - 1)) a i) (a + i) (fun j => by rw [wr_k _ _ _ _ _ (by decide)]; exact h2 j) (by omega)) rfl rfl rfl (Nat.le_of_ble_eq_true rfl) ⟨Nat.le_refl _, Nat.le_refl _⟩ d_T_writePart_46 ?_
      refine v_T_47_8 X (okCT rfl (by omega)) hz (c_B_set_P (zl z) E (wrS σ t (pbS σ t k (p - 1)) a i) t (pbS σ t k (p - 1) + i) _ ht (wr_by h9 h2) (by omega)) rfl rfl rfl (Nat.le_of_ble_eq_true rfl) ⟨Nat.le_refl _, Nat.le_refl _⟩ d_T_writePart_49 ?_
      rw [wr_k _ _ _ _ _ (by decide), wr_step h2 (by omega)]
      refine j_iinc X rfl (zlt hn rfl) d_T_writePart_52 ?_
      refine j_goto X d_T_writePart_55 (tgt := 24) rfl ?_
      exact ih (i + 1) (by omega) (by omega)
  exact (wr_0 σ t (pbS σ t k (p - 1)) a) ▸ key 0 (by omega)

set_option maxRecDepth 100000 in
set_option maxHeartbeats 4000000 in
theorem c_T_writeData (l : Launch) (E : eT) (σ : St) (t k a : Int) (ht : 0 ≤ t ∧ t < 32) (hk : 0 ≤ k ∧ k < 31) (h9 : byR (σ 9 t)) (h2 : byR (σ 2 0)) (ha : 0 ≤ a) (hal : a + (pbS σ t k 3 - pbS σ t k (3 - 1)) ≤ 256) (hl : 0 ≤ pbS σ t k 3 - pbS σ t k (3 - 1)) (hf : 0 ≤ pbS σ t k (3 - 1)) (hfl : pbS σ t k 3 ≤ 600) : FCon l E y_T_writeData ws_T_writeData 2 [.ref (E.2.2.2 4 t), .int (iI k), .ref (E.2.2.2 1 0), .int (iI a)] σ none (up (wrS σ t (pbS σ t k (3 - 1)) a (pbS σ t k 3 - pbS σ t k (3 - 1))) 7 t k 0) := by
  refine con_of (cc := b_T_writeData) (nL := 4) (ret := none) (by decide) (Nat.le_of_ble_eq_true rfl) (fun z X Y hn => ?_)
  have X : Cx E z b_T_writeData R_T := X
  have hz := Y.2.1
  change J E z 0 0 0 [(0, .ref (E.2.2.2 4 t)), (1, .int (iI k)), (2, .ref (E.2.2.2 1 0)), (3, .int (iI a))] [] (cells E σ)
  refine j_aload_n X rfl d_T_writeData_0 ?_
  refine j_iload_n X rfl d_T_writeData_1 ?_
  refine j_iconst X d_T_writeData_2 ?_
  refine j_aload_n X rfl d_T_writeData_3 ?_
  refine j_iload_n X rfl d_T_writeData_4 ?_
  refine v_T_51 X (okCT rfl (by omega)) hz (c_T_writePart (zl z) E σ t k 3 a ht hk (by decide) (by decide) h9 h2 ha hal hl hf hfl) rfl rfl rfl (Nat.le_of_ble_eq_true rfl) ⟨Nat.le_refl _, Nat.le_refl _⟩ d_T_writeData_5 ?_
  refine j_aload_n X rfl d_T_writeData_8 ?_
  refine g_T_18 X (okCT rfl (by omega)) d_T_writeData_9 ?_
  refine j_iload_n X rfl d_T_writeData_12 ?_
  refine j_iconst X d_T_writeData_13 ?_
  refine j_zast X (by first | exact okC1 rfl | exact (okCT rfl (by omega))) (fun _ => rfl) rfl (by omega) rfl d_T_writeData_14 ?_
  exact j_vret X Y (Nat.le_refl _) (Nat.le_refl _) d_T_writeData_15 ⟨rfl, rfl⟩

set_option maxRecDepth 100000 in
set_option maxHeartbeats 4000000 in
theorem c_T_keyedByte (l : Launch) (E : eT) (σ : St) (key i : Int) (hi : 0 ≤ i ∧ i < 4) : FCon l E y_T_keyedByte ws_T_keyedByte 0 [.int (iI key), .int (iI i)] σ (some (.int (iI (kbS key i)))) σ := by
  refine con_of (cc := b_T_keyedByte) (nL := 2) (ret := (some .int)) (by decide) (Nat.le_of_ble_eq_true rfl) (fun z X Y hn => ?_)
  have X : Cx E z b_T_keyedByte R_T := X
  have hz := Y.2.1
  change J E z 0 0 0 [(0, .int (iI key)), (1, .int (iI i))] [] (cells E σ)
  refine j_iload_n X rfl d_T_keyedByte_0 ?_
  refine j_iconst X d_T_keyedByte_1 ?_
  refine j_iload_n X rfl d_T_keyedByte_2 ?_
  refine j_isub X d_T_keyedByte_3 ?_
  refine j_bipush X rfl d_T_keyedByte_4 ?_
  refine j_imul X d_T_keyedByte_6 ?_
  refine j_iushr X d_T_keyedByte_7 ?_
  refine j_sipush X rfl d_T_keyedByte_8 ?_
  refine j_iand X d_T_keyedByte_11 ?_
  refine j_topi (kb_get key hi) ?_
  exact j_iret X Y (Nat.le_refl _) (Nat.le_refl _) d_T_keyedByte_12 ⟨rfl, rfl⟩

set_option maxRecDepth 100000 in
set_option maxHeartbeats 4000000 in
theorem c_T_writeKey (l : Launch) (E : eT) (σ : St) (t k key : Int) (ht : 0 ≤ t ∧ t < 32) (hk : 0 ≤ k ∧ k < 31) (h9 : byR (σ 9 t)) (hf : 0 ≤ pbS σ t k 1) (hfl : pbS σ t k 1 + 4 ≤ 600) : FCon l E y_T_writeKey ws_T_writeKey 1 [.ref (E.2.2.2 4 t), .int (iI k), .int (iI key)] σ none (wkS σ t (pbS σ t k 1) key 4) := by
  refine con_of (cc := b_T_writeKey) (nL := 5) (ret := none) (by decide) (Nat.le_of_ble_eq_true rfl) (fun z X Y hn => ?_)
  have X : Cx E z b_T_writeKey R_T := X
  have hz := Y.2.1
  change J E z 0 0 0 [(0, .ref (E.2.2.2 4 t)), (1, .int (iI k)), (2, .int (iI key))] [] (cells E σ)
  refine j_aload_n X rfl d_T_writeKey_0 ?_
  refine j_iload_n X rfl d_T_writeKey_1 ?_
  refine j_iconst X d_T_writeKey_2 ?_
  refine v_T_39 X (okCT rfl (by omega)) hz (c_T_placeBehind (zl z) E σ t k 1 ht hk (by decide)) rfl rfl rfl (Nat.le_of_ble_eq_true rfl) ⟨Nat.le_refl _, Nat.le_refl _⟩ d_T_writeKey_3 ?_
  refine j_istore_n X (zlt hn rfl) d_T_writeKey_6 ?_
  refine j_iconst X d_T_writeKey_7 ?_
  refine j_istore X (zlt hn rfl) d_T_writeKey_8 ?_
  have kyl : ∀ i : Int, (0 ≤ i ∧ i ≤ 4) → J E z 0 0 10 [(0, .ref (E.2.2.2 4 t)), (1, .int (iI k)), (2, .int (iI key)), (3, .int (iI (pbS σ t k 1))), (4, .int (iI i))] [] (cells E (wkS σ t (pbS σ t k 1) key i)) := by
    refine j_loop (fun i : Int => (4 - i).toNat) _ _ (fun i hi ih => ?_)
    refine j_iload X rfl d_T_writeKey_10 ?_
    refine j_iconst X d_T_writeKey_12 ?_
    refine j_icmp_ge X (by omega) (by omega) d_T_writeKey_13 (tgt := 39) rfl (fun h13 => ?_) (fun h13 => ?_)
    · skip
      exact j_vret X Y (Nat.le_refl _) (Nat.le_refl _) d_T_writeKey_39 ⟨rfl, by rw [show i = 4 by omega]⟩
    · skip
      refine j_aload_n X rfl d_T_writeKey_16 ?_
      refine g_T_27 X (okCT rfl (by omega)) d_T_writeKey_17 ?_
      refine j_iload_n X rfl d_T_writeKey_20 ?_
      refine j_iload X rfl d_T_writeKey_21 ?_
      refine j_iadd X d_T_writeKey_23 ?_
      refine j_iload_n X rfl d_T_writeKey_24 ?_
      refine j_iload X rfl d_T_writeKey_25 ?_
      refine s_T_55 X hz (c_T_keyedByte (zl z) E (wkS σ t (pbS σ t k 1) key i) key i (by omega)) rfl rfl rfl (Nat.le_of_ble_eq_true rfl) ⟨Nat.le_refl _, Nat.le_refl _⟩ d_T_writeKey_27 ?_
      refine v_T_47_8 X (okCT rfl (by omega)) hz (c_B_set_P (zl z) E (wkS σ t (pbS σ t k 1) key i) t (pbS σ t k 1 + i) _ ht (wk_by h9) (by omega)) rfl rfl rfl (Nat.le_of_ble_eq_true rfl) ⟨Nat.le_refl _, Nat.le_refl _⟩ d_T_writeKey_30 ?_
      rw [wk_step (by omega)]
      refine j_iinc X rfl (zlt hn rfl) d_T_writeKey_33 ?_
      refine j_goto X d_T_writeKey_36 (tgt := 10) rfl ?_
      exact ih (i + 1) (by omega) (by omega)
  exact (wk_0 σ t (pbS σ t k 1) _) ▸ kyl 0 (by omega)

set_option maxRecDepth 100000 in
set_option maxHeartbeats 4000000 in
theorem c_T_compareKey (l : Launch) (E : eT) (σ : St) (t k a len : Int) (ht : 0 ≤ t ∧ t < 32) (hk : 0 ≤ k ∧ k < 31) (h9 : byR (σ 9 t)) (h2 : byR (σ 2 0)) (hkl : 0 ≤ σ 6 t k ∧ σ 6 t k ≤ 8) (hl : 0 ≤ len ∧ len ≤ 8) (ha : 0 ≤ a) (hal : a + len ≤ 256) (hf : 0 ≤ σ 5 t k) (hfl : σ 5 t k + 20 + σ 6 t k ≤ 600) : FCon l E y_T_compareKey ws_T_compareKey 2 [.ref (E.2.2.2 4 t), .int (iI k), .ref (E.2.2.2 1 0), .int (iI a), .int (iI len)] σ (some (.int (iI (cmpS (fun i => σ 9 t (σ 5 t k + 20 + i)) (fun i => σ 2 0 (a + i)) (σ 6 t k) len 9 0)))) σ := by
  refine con_of (cc := b_T_compareKey) (nL := 8) (ret := (some .int)) (by decide) (Nat.le_of_ble_eq_true rfl) (fun z X Y hn => ?_)
  have X : Cx E z b_T_compareKey R_T := X
  have hz := Y.2.1
  change J E z 0 0 0 [(0, .ref (E.2.2.2 4 t)), (1, .int (iI k)), (2, .ref (E.2.2.2 1 0)), (3, .int (iI a)), (4, .int (iI len))] [] (cells E σ)
  obtain ⟨r, hr⟩ : ∃ r, r = cmpS (fun i => σ 9 t (σ 5 t k + 20 + i)) (fun i => σ 2 0 (a + i)) (σ 6 t k) len 9 0 := ⟨_, rfl⟩
  rw [← hr] at Y
  refine j_aload_n X rfl d_T_compareKey_0 ?_
  refine g_T_15 X (okCT rfl (by omega)) d_T_compareKey_1 ?_
  refine j_iload_n X rfl d_T_compareKey_4 ?_
  refine j_iald X (by first | exact okC1 rfl | exact (okCT rfl (by omega))) (fun _ => rfl) rfl (by omega) d_T_compareKey_5 ?_
  refine j_iload X rfl d_T_compareKey_6 ?_
  refine j_mmin X mm_T_58 (by omega) (by omega) hz rfl (Nat.le_of_ble_eq_true rfl) ⟨Nat.le_refl _, Nat.le_refl _⟩ d_T_compareKey_8 ?_
  refine j_istore X (zlt hn rfl) d_T_compareKey_11 ?_
  refine j_iconst X d_T_compareKey_13 ?_
  refine j_istore X (zlt hn rfl) d_T_compareKey_14 ?_
  have key : ∀ i : Int, (0 ≤ i ∧ i ≤ 8 ∧ r = cmpS (fun i => σ 9 t (σ 5 t k + 20 + i)) (fun i => σ 2 0 (a + i)) (σ 6 t k) len (9 - i).toNat i) → J E z 0 0 16 [(0, .ref (E.2.2.2 4 t)), (1, .int (iI k)), (2, .ref (E.2.2.2 1 0)), (3, .int (iI a)), (4, .int (iI len)), (5, .int (iI (if len < σ 6 t k then len else σ 6 t k))), (6, .int (iI i))] [] (cells E σ) := by
    refine j_loop (fun i : Int => (9 - i).toNat) _ _ (fun i hi ih => ?_)
    obtain ⟨hi1, hi2, hi3⟩ := hi
    have b9 := h9 (σ 5 t k + 20 + i)
    have b2 := h2 (a + i)
    rw [show (9 - i).toNat = (9 - (i + 1)).toNat + 1 by omega, cmpS_succ] at hi3
    refine j_iload X rfl d_T_compareKey_16 ?_
    refine j_iload X rfl d_T_compareKey_18 ?_
    refine j_icmp_ge X (by omega) (by omega) d_T_compareKey_20 (tgt := 55) rfl (fun h20 => ?_) (fun h20 => ?_)
    · skip
      refine j_aload_n X rfl d_T_compareKey_55 ?_
      refine g_T_15 X (okCT rfl (by omega)) d_T_compareKey_56 ?_
      refine j_iload_n X rfl d_T_compareKey_59 ?_
      refine j_iald X (by first | exact okC1 rfl | exact (okCT rfl (by omega))) (fun _ => rfl) rfl (by omega) d_T_compareKey_60 ?_
      refine j_iload X rfl d_T_compareKey_61 ?_
      refine j_isub X d_T_compareKey_63 ?_
      exact j_iret X Y (Nat.le_refl _) (Nat.le_refl _) d_T_compareKey_64 ⟨by rw [hi3, if_neg (by omega)], rfl⟩
    · skip
      refine j_aload_n X rfl d_T_compareKey_23 ?_
      refine j_iload_n X rfl d_T_compareKey_24 ?_
      refine j_iload X rfl d_T_compareKey_25 ?_
      refine v_T_63 X (okCT rfl (by omega)) hz (c_T_contentByte (zl z) E σ t k i ht hk h9 (by omega)) rfl rfl rfl (Nat.le_of_ble_eq_true rfl) ⟨Nat.le_refl _, Nat.le_refl _⟩ d_T_compareKey_27 ?_
      refine j_aload_n X rfl d_T_compareKey_30 ?_
      refine j_iload_n X rfl d_T_compareKey_31 ?_
      refine j_iload X rfl d_T_compareKey_32 ?_
      refine j_iadd X d_T_compareKey_34 ?_
      refine v_T_43_1 X hz (c_B_get_M (zl z) E σ (a + i) h2 (by omega)) rfl rfl rfl (Nat.le_of_ble_eq_true rfl) ⟨Nat.le_refl _, Nat.le_refl _⟩ d_T_compareKey_35 ?_
      refine j_isub X d_T_compareKey_38 ?_
      refine j_istore X (zlt hn rfl) d_T_compareKey_39 ?_
      refine j_iload X rfl d_T_compareKey_41 ?_
      refine j_if_eq X (by omega) d_T_compareKey_43 (tgt := 49) rfl (fun h43 => ?_) (fun h43 => ?_)
      · skip
        refine j_iinc X rfl (zlt hn rfl) d_T_compareKey_49 ?_
        refine j_goto X d_T_compareKey_52 (tgt := 16) rfl ?_
        exact j_drop 7 (ih (i + 1) ⟨by omega, by omega, by rw [hi3, if_pos (by omega), if_pos (by omega)]⟩ (by omega))
      · skip
        refine j_iload X rfl d_T_compareKey_46 ?_
        exact j_iret X Y (Nat.le_refl _) (Nat.le_refl _) d_T_compareKey_48 ⟨by rw [hi3, if_pos (by omega), if_neg (by omega)], rfl⟩
  exact j_loc (fun q hq => hq) (key 0 ⟨by omega, by omega, hr⟩)
