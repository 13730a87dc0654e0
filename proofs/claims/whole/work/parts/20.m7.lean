/-! the channel's commands -/

theorem gb_k (σ : St) (p : Int) {k : Nat} (h : k ≠ 14) (t j : Int) : gbS σ p k t j = σ k t j := by unfold gbS; rw [gtS_o _ _ (Or.inl h), up_k _ _ _ _ _ _ h]
theorem gb_2 (σ : St) (p : Int) : gbS σ p 14 0 2 = σ 14 0 2 := by unfold gbS; rw [gtS_o _ _ (Or.inr (by decide)), up_j _ _ _ _ _ _ _ (by decide)]
theorem gb_3 (σ : St) (p : Int) : gbS σ p 14 0 3 = σ 14 0 3 := by unfold gbS; rw [gtS_o _ _ (Or.inr (by decide)), up_j _ _ _ _ _ _ _ (by decide)]
theorem gb_4 (σ : St) (p : Int) : gbS σ p 14 0 4 = p := by unfold gbS; rw [gtS_o _ _ (Or.inr (by decide)), up_s]
theorem gb_1 (σ : St) (p : Int) : gbS σ p 14 0 1 = σ 14 0 1 + (pbS σ (σ 14 0 2) (σ 14 0 3) p - σ 14 0 1 % 600 + 600) % 600 := by unfold gbS; rw [gtS_t, up_j _ _ _ _ _ _ _ (by decide)]
theorem mv_k (σ : St) {k : Nat} (h : k ≠ 14) (t j : Int) : mvS σ k t j = σ k t j := by unfold mvS; rw [gtS_o _ _ (Or.inl h), up_k _ _ _ _ _ _ h]
theorem mv_2 (σ : St) : mvS σ 14 0 2 = σ 14 0 2 := by unfold mvS; rw [gtS_o _ _ (Or.inr (by decide)), up_j _ _ _ _ _ _ _ (by decide)]
theorem mv_3 (σ : St) : mvS σ 14 0 3 = mvR σ := by unfold mvS; rw [gtS_o _ _ (Or.inr (by decide)), up_s]
theorem mv_4 (σ : St) : mvS σ 14 0 4 = σ 14 0 4 := by unfold mvS; rw [gtS_o _ _ (Or.inr (by decide)), up_j _ _ _ _ _ _ _ (by decide)]
theorem mv_1 (σ : St) : mvS σ 14 0 1 = σ 14 0 1 + (σ 5 (σ 14 0 2) (mvR σ) - σ 14 0 1 % 600 + 600) % 600 := by unfold mvS; rw [gtS_t, up_j _ _ _ _ _ _ _ (by decide)]
theorem m0_o (σ : St) {k : Nat} {t j : Int} (h : k ≠ 14 ∨ j ≠ 1) : mv0 σ k t j = σ k t j := by
  unfold mv0
  rw [up_eq, if_neg]
  rintro ⟨h1, h2, h3⟩
  rcases h with h | h
  · exact h h1
  · exact h h3
theorem m0_1 (σ : St) : mv0 σ 14 0 1 = (σ 14 0 1 / 600 + 2) * 600 := up_s ..
/-- what the channel needs of the state at a command -/
def rW (σ : St) : Prop := hdW σ ∧ σ 14 0 1 + 3000 ≤ 1000000000 ∧ rg σ ∧ tkW σ (σ 14 0 2) ∧ (0 ≤ σ 14 0 3 ∧ σ 14 0 3 ≤ σ 4 (σ 14 0 2) 4) ∧ byR (σ 2 0) ∧ byR (σ 9 (σ 14 0 2)) ∧ ∀ k, σ 7 (σ 14 0 2) k = 0 ∨ σ 7 (σ 14 0 2) k = 1
theorem mb_hd {σ : St} (h : rW σ) (p : Int) : hdW (gbS (mvS σ) p) := by
  obtain ⟨h1, h2, -⟩ := h
  refine ⟨by rw [gb_2, mv_2]; exact h1.1, ?_⟩
  have := h1.2
  rw [gb_1, mv_1]
  omega
def cmR (σ : St) (p : Int) : Int := if ¬ σ 14 0 3 = 0 ∧ σ 14 0 4 < p then σ 14 0 3 else mvR σ
theorem cm_in {σ : St} {p : Int} (h : rW σ) (hc : (¬ σ 14 0 3 = 0 ∧ σ 14 0 4 < p) ∨ ¬ σ 4 (σ 14 0 2) 4 = 0) : 1 ≤ cmR σ p ∧ cmR σ p ≤ σ 4 (σ 14 0 2) 4 := by
  obtain ⟨-, -, -, h4, h5, -⟩ := h
  have h6 := h4.1
  unfold cmR
  split
  · omega
  · exact mvR_in (by omega) h5.1
theorem cb_k (σ : St) (p : Int) {k : Nat} (h : k ≠ 14) (t j : Int) : cbS σ p k t j = σ k t j := by
  unfold cbS
  split
  · exact gb_k _ _ h _ _
  · split
    · exact m0_o _ (Or.inl h)
    · rw [gb_k _ _ h, mv_k _ h]
theorem cb_2 (σ : St) (p : Int) : cbS σ p 14 0 2 = σ 14 0 2 := by
  unfold cbS
  split
  · exact gb_2 _ _
  · split
    · exact m0_o _ (Or.inr (by decide))
    · rw [gb_2, mv_2]
theorem cb_3 {σ : St} {p : Int} (hc : (¬ σ 14 0 3 = 0 ∧ σ 14 0 4 < p) ∨ ¬ σ 4 (σ 14 0 2) 4 = 0) : cbS σ p 14 0 3 = cmR σ p := by
  unfold cbS cmR
  split
  · exact gb_3 _ _
  · rw [if_neg (by omega), gb_3, mv_3]
theorem cb_1 {σ : St} (h : rW σ) (p : Int) : σ 14 0 1 ≤ cbS σ p 14 0 1 ∧ cbS σ p 14 0 1 ≤ σ 14 0 1 + 1800 := by
  have := h.1.2
  unfold cbS
  split
  · rw [gb_1]; omega
  · split
    · rw [m0_1]; omega
    · rw [gb_1, mv_1]; omega
theorem cb_hd {σ : St} (h : rW σ) (p : Int) : hdW (cbS σ p) := by
  have h1 := cb_1 h p
  have h2 := h.2.1
  have h3 := h.1.2
  exact ⟨by rw [cb_2]; exact h.1.1, by omega, by omega⟩
theorem tk_of {σ τ : St} {t : Int} (h : tkW σ t) (h4 : τ 4 t 4 = σ 4 t 4) (h5 : ∀ j, τ 5 t j = σ 5 t j) (h6 : ∀ j, τ 6 t j = σ 6 t j) : tkW τ t := by
  obtain ⟨a, b, c⟩ := h
  refine ⟨by rw [h4]; exact a, by rw [h5]; exact b, fun k k1 k2 => ?_⟩
  rw [h5, h6, h5]
  rw [h4] at k2
  exact c k k1 k2
theorem pn_o (σ : St) (b : Bool) {k : Nat} {t j : Int} (h : k ≠ 15 ∨ j ≠ 9) : pnS σ b k t j = σ k t j := by
  unfold pnS
  split
  · rw [up_eq, if_neg]
    rintro ⟨h1, h2, h3⟩
    rcases h with h | h
    · exact h h1
    · exact h h3
  · rfl
def snS (σ : St) (a : Int) : St := if σ 4 (σ 14 0 2) 4 = 0 then mv0 σ else pnS (gbS (mvS σ) 1) (decide (mvR σ = a))
def snV (σ : St) : Int := if σ 4 (σ 14 0 2) 4 = 0 then 1 else ixS (gbS (mvS σ) 1)
/-- how the record's key stands to the b bytes of the memory from a on -/
def koS (σ : St) (t k a b : Int) : Int := cmpS (fun i => σ 9 t (σ 5 t k + 20 + i)) (fun i => σ 2 0 (a + i)) (σ 6 t k) b 9 0
def kyS (σ : St) (a b : Int) (c : Bool) : St := if σ 4 (σ 14 0 2) 4 = 0 then mv0 σ else pnS (gbS (mvS σ) 2) (decide (koS σ (σ 14 0 2) (mvR σ) a b = 0 ∨ (c = true ∧ 0 < koS σ (σ 14 0 2) (mvR σ) a b)))
def kyV (σ : St) : Int := if σ 4 (σ 14 0 2) 4 = 0 then 1 else ixS (gbS (mvS σ) 2)
theorem ix_pn (σ : St) (b : Bool) : ixS (pnS σ b) = ixS σ := by unfold ixS; rw [pn_o _ _ (Or.inl (by decide)), pn_o _ _ (Or.inr (by decide))]
theorem pn_hd {σ : St} (h : hdW σ) (b : Bool) : hdW (pnS σ b) := ⟨by rw [pn_o _ _ (Or.inl (by decide))]; exact h.1, by rw [pn_o _ _ (Or.inl (by decide))]; exact h.2⟩
def rc4 (σ : St) (a : Int) : St := up (up (up (up σ 2 0 a (σ 14 0 2 % 256)) 2 0 (a + 1) (σ 14 0 3 % 256)) 2 0 (a + 2) (σ 6 (σ 14 0 2) (σ 14 0 3) % 256)) 2 0 (a + 3) (dlS σ (σ 14 0 2) (σ 14 0 3) % 256)
def rcS (σ : St) (a : Int) : St := if σ 4 (σ 14 0 2) 4 = 0 then mv0 σ else rc4 (gbS (mvS σ) 1) a
def rcV (σ : St) : Int := if σ 4 (σ 14 0 2) 4 = 0 then 1 else ixS (gbS (mvS σ) 1)
theorem by_up {f : Int → Int} {σ : St} {a v : Int} (h : byR (σ 2 0)) : byR (up σ 2 0 a (v % 256) 2 0) := by
  intro j
  rw [up_eq]
  split
  · omega
  · exact h j

set_option maxRecDepth 100000 in
set_option maxHeartbeats 4000000 in
theorem c_C_searchNumber (l : Launch) (E : eT) (σ : St) (a : Int) (h : rW σ) (ha : inR a) : FCon l E y_C_searchNumber ws_C_searchNumber 3 [.ref (E.2.2.2 15 0), .int (iI a)] σ (some (.int (iI (snV σ)))) (snS σ a) := by
  refine con_of (cc := b_C_searchNumber) (nL := 2) (ret := (some .int)) (by decide) (Nat.le_of_ble_eq_true rfl) (fun z X Y hn => ?_)
  have X : Cx E z b_C_searchNumber R_C := X
  have hz := Y.2.1
  change J E z 0 0 0 [(0, .ref (E.2.2.2 15 0)), (1, .int (iI a))] [] (cells E σ)
  have hw := h.1
  have hB := h.2.1
  have hr := h.2.2.1
  have htk := h.2.2.2.1
  have hk := h.2.2.2.2.1
  have h2 := h.2.2.2.2.2.1
  have h9 := h.2.2.2.2.2.2.1
  have h7 := h.2.2.2.2.2.2.2
  have hn4 := htk.1
  have hw1 := hw.1
  have hw2 := hw.2
  have h8 := hr 15 0 8
  have h14 := hr 14 0 4
  refine j_aload_n X rfl d_C_searchNumber_0 ?_
  refine g_C_15 X d_C_searchNumber_1 ?_
  refine j_iconst X d_C_searchNumber_4 ?_
  refine v_C_138 X hz (c_H_moveOnBehind (zl z) E σ 1 hw htk hr hk (by omega) (by decide)) rfl rfl rfl (Nat.le_of_ble_eq_true rfl) ⟨Nat.le_refl _, Nat.le_refl _⟩ d_C_searchNumber_5 ?_
  refine j_ifnz X d_C_searchNumber_8 (tgt := 13) rfl (fun h8' => ?_) (fun h8' => ?_)
  · rw [if_neg h8']
    have hm := mvR_in (σ := σ) (by omega) hk.1
    refine j_aload_n X rfl d_C_searchNumber_13 ?_
    refine j_aload_n X rfl d_C_searchNumber_14 ?_
    refine g_C_15 X d_C_searchNumber_15 ?_
    refine g_C_141 X d_C_searchNumber_18 ?_
    refine j_topi (y := iI (mvR σ)) (by rw [gb_3, mv_3]) ?_
    refine j_iload_n X rfl d_C_searchNumber_21 ?_
    refine j_icmp_ne X (by omega) ha d_C_searchNumber_22 (tgt := 29) rfl (fun h22 => ?_) (fun h22 => ?_)
    · refine j_iconst X d_C_searchNumber_29 ?_
      refine v_C_144 X hz (c_C_passOverNextIf (zl z) E (gbS (mvS σ) 1) false) rfl rfl rfl (Nat.le_of_ble_eq_true rfl) ⟨Nat.le_refl _, Nat.le_refl _⟩ d_C_searchNumber_30 ?_
      refine j_aload_n X rfl d_C_searchNumber_33 ?_
      refine v_C_148 X hz (c_C_statusOfIndex (zl z) E (pnS (gbS (mvS σ) 1) false) (pn_hd (mb_hd h 1) _) (by rw [pn_o _ _ (Or.inr (by decide)), gb_k _ _ (by decide), mv_k _ (by decide)]; exact h8)) rfl rfl rfl (Nat.le_of_ble_eq_true rfl) ⟨Nat.le_refl _, Nat.le_refl _⟩ d_C_searchNumber_34 ?_
      exact j_iret X Y (Nat.le_refl _) (Nat.le_refl _) d_C_searchNumber_37 ⟨by unfold snV; rw [if_neg h8', ix_pn], by unfold snS; rw [if_neg h8', decide_eq_false h22]⟩
    · refine j_iconst X d_C_searchNumber_25 ?_
      refine j_goto X d_C_searchNumber_26 (tgt := 30) rfl ?_
      refine v_C_144 X hz (c_C_passOverNextIf (zl z) E (gbS (mvS σ) 1) true) rfl rfl rfl (Nat.le_of_ble_eq_true rfl) ⟨Nat.le_refl _, Nat.le_refl _⟩ d_C_searchNumber_30 ?_
      refine j_aload_n X rfl d_C_searchNumber_33 ?_
      refine v_C_148 X hz (c_C_statusOfIndex (zl z) E (pnS (gbS (mvS σ) 1) true) (pn_hd (mb_hd h 1) _) (by rw [pn_o _ _ (Or.inr (by decide)), gb_k _ _ (by decide), mv_k _ (by decide)]; exact h8)) rfl rfl rfl (Nat.le_of_ble_eq_true rfl) ⟨Nat.le_refl _, Nat.le_refl _⟩ d_C_searchNumber_34 ?_
      exact j_iret X Y (Nat.le_refl _) (Nat.le_refl _) d_C_searchNumber_37 ⟨by unfold snV; rw [if_neg h8', ix_pn], by unfold snS; rw [if_neg h8', decide_eq_true h22]⟩
  · rw [if_pos (by omega)]
    refine j_iconst X d_C_searchNumber_11 ?_
    exact j_iret X Y (Nat.le_refl _) (Nat.le_refl _) d_C_searchNumber_12 ⟨by unfold snV; rw [if_pos (by omega)], by unfold snS; rw [if_pos (by omega)]⟩

theorem cmp_R {f g : Int → Int} {a b : Int} (hf : byR f) (hg : byR g) (ha : 0 ≤ a ∧ a ≤ 8) (hb : 0 ≤ b ∧ b ≤ 8) : ∀ (m : Nat) (i : Int), -256 ≤ cmpS f g a b m i ∧ cmpS f g a b m i ≤ 256 := by
  intro m
  induction m with
  | zero => intro i; show -256 ≤ a - b ∧ a - b ≤ 256; omega
  | succ m ih =>
    intro i
    rw [cmpS_succ]
    have h1 := hf i
    have h2 := hg i
    split
    · split
      · exact ih _
      · omega
    · omega
theorem ko_R {σ : St} {t k a b : Int} (h9 : byR (σ 9 t)) (h2 : byR (σ 2 0)) (hk : 0 ≤ σ 6 t k ∧ σ 6 t k ≤ 8) (hb : 0 ≤ b ∧ b ≤ 8) : inR (koS σ t k a b) := by
  have := cmp_R (f := fun i => σ 9 t (σ 5 t k + 20 + i)) (g := fun i => σ 2 0 (a + i)) (fun i => h9 _) (fun i => h2 _) hk hb 9 0
  unfold koS
  omega

set_option maxRecDepth 100000 in
set_option maxHeartbeats 4000000 in
theorem c_C_searchKey (l : Launch) (E : eT) (σ : St) (a b : Int) (c : Bool) (h : rW σ) (ha : 0 ≤ a ∧ a + b ≤ 256) (hb : 0 ≤ b ∧ b ≤ 8) : FCon l E y_C_searchKey ws_C_searchKey 3 [.ref (E.2.2.2 15 0), .int (iI a), .int (iI b), .int (iI (b2i c))] σ (some (.int (iI (kyV σ)))) (kyS σ a b c) := by
  refine con_of (cc := b_C_searchKey) (nL := 5) (ret := (some .int)) (by decide) (Nat.le_of_ble_eq_true rfl) (fun z X Y hn => ?_)
  have X : Cx E z b_C_searchKey R_C := X
  have hz := Y.2.1
  change J E z 0 0 0 [(0, .ref (E.2.2.2 15 0)), (1, .int (iI a)), (2, .int (iI b)), (3, .int (iI (b2i c)))] [] (cells E σ)
  have hw := h.1
  have hB := h.2.1
  have hr := h.2.2.1
  have htk := h.2.2.2.1
  have hk := h.2.2.2.2.1
  have h2 := h.2.2.2.2.2.1
  have h9 := h.2.2.2.2.2.2.1
  have h7 := h.2.2.2.2.2.2.2
  have hn4 := htk.1
  have hw1 := hw.1
  have hw2 := hw.2
  have h8 := hr 15 0 8
  have h14 := hr 14 0 4
  refine j_aload_n X rfl d_C_searchKey_0 ?_
  refine g_C_15 X d_C_searchKey_1 ?_
  refine j_iconst X d_C_searchKey_4 ?_
  refine v_C_138 X hz (c_H_moveOnBehind (zl z) E σ 2 hw htk hr hk (by omega) (by decide)) rfl rfl rfl (Nat.le_of_ble_eq_true rfl) ⟨Nat.le_refl _, Nat.le_refl _⟩ d_C_searchKey_5 ?_
  refine j_ifnz X d_C_searchKey_8 (tgt := 13) rfl (fun h8' => ?_) (fun h8' => ?_)
  · rw [if_neg h8']
    have hm := mvR_in (σ := σ) (by omega) hk.1
    have hmk := htk.2.2 (mvR σ) hm.1 hm.2
    refine j_aload_n X rfl d_C_searchKey_13 ?_
    refine g_C_15 X d_C_searchKey_14 ?_
    refine v_C_151 X hz (c_H_track (zl z) E (gbS (mvS σ) 2) (mb_hd h 2)) rfl rfl rfl (Nat.le_of_ble_eq_true rfl) ⟨Nat.le_refl _, Nat.le_refl _⟩ d_C_searchKey_17 ?_
    rw [gb_2, mv_2]
    refine j_aload_n X rfl d_C_searchKey_20 ?_
    refine g_C_15 X d_C_searchKey_21 ?_
    refine g_C_141 X d_C_searchKey_24 ?_
    refine j_topi (y := iI (mvR σ)) (by rw [gb_3, mv_3]) ?_
    refine j_aload_n X rfl d_C_searchKey_27 ?_
    refine g_C_19 X d_C_searchKey_28 ?_
    refine j_iload_n X rfl d_C_searchKey_31 ?_
    refine j_iload_n X rfl d_C_searchKey_32 ?_
    refine v_C_155 X (okCT rfl (by omega)) hz (c_T_compareKey (zl z) E (gbS (mvS σ) 2) (σ 14 0 2) (mvR σ) a b hw1 (by omega) (by rw [show gbS (mvS σ) 2 9 = σ 9 from funext fun t => funext fun j => by rw [gb_k _ _ (by decide), mv_k _ (by decide)]]; exact h9) (by rw [show gbS (mvS σ) 2 2 = σ 2 from funext fun t => funext fun j => by rw [gb_k _ _ (by decide), mv_k _ (by decide)]]; exact h2) (by rw [gb_k _ _ (by decide), mv_k _ (by decide)]; omega) hb ha.1 ha.2 (by rw [gb_k _ _ (by decide), mv_k _ (by decide)]; omega) (by rw [gb_k _ _ (by decide), gb_k _ _ (by decide), mv_k _ (by decide), mv_k _ (by decide)]; omega)) rfl rfl rfl (Nat.le_of_ble_eq_true rfl) ⟨Nat.le_refl _, Nat.le_refl _⟩ d_C_searchKey_33 ?_
    rw [show cmpS (fun i => gbS (mvS σ) 2 9 (σ 14 0 2) (gbS (mvS σ) 2 5 (σ 14 0 2) (mvR σ) + 20 + i)) (fun i => gbS (mvS σ) 2 2 0 (a + i)) (gbS (mvS σ) 2 6 (σ 14 0 2) (mvR σ)) b 9 0 = koS σ (σ 14 0 2) (mvR σ) a b from by simp only [gb_k _ _ (show (9 : Nat) ≠ 14 by decide), gb_k _ _ (show (5 : Nat) ≠ 14 by decide), gb_k _ _ (show (2 : Nat) ≠ 14 by decide), gb_k _ _ (show (6 : Nat) ≠ 14 by decide), mv_k _ (show (9 : Nat) ≠ 14 by decide), mv_k _ (show (5 : Nat) ≠ 14 by decide), mv_k _ (show (2 : Nat) ≠ 14 by decide), mv_k _ (show (6 : Nat) ≠ 14 by decide)]; rfl]
    have hod : inR (koS σ (σ 14 0 2) (mvR σ) a b) := ko_R h9 h2 (by omega) hb
    have fin : ∀ q : Bool, (q = decide (koS σ (σ 14 0 2) (mvR σ) a b = 0 ∨ (c = true ∧ 0 < koS σ (σ 14 0 2) (mvR σ) a b))) → J E z 0 0 58 [(0, .ref (E.2.2.2 15 0)), (1, .int (iI a)), (2, .int (iI b)), (3, .int (iI (b2i c)))] [.int (iI (b2i q)), .ref (E.2.2.2 15 0)] (cells E (gbS (mvS σ) 2)) := by
      intro q hq
      refine v_C_144 X hz (c_C_passOverNextIf (zl z) E (gbS (mvS σ) 2) q) rfl rfl rfl (Nat.le_of_ble_eq_true rfl) ⟨Nat.le_refl _, Nat.le_refl _⟩ d_C_searchKey_58 ?_
      refine j_aload_n X rfl d_C_searchKey_61 ?_
      refine v_C_148 X hz (c_C_statusOfIndex (zl z) E (pnS (gbS (mvS σ) 2) q) (pn_hd (mb_hd h 2) _) (by rw [pn_o _ _ (Or.inr (by decide)), gb_k _ _ (by decide), mv_k _ (by decide)]; exact h8)) rfl rfl rfl (Nat.le_of_ble_eq_true rfl) ⟨Nat.le_refl _, Nat.le_refl _⟩ d_C_searchKey_62 ?_
      exact j_iret X Y (Nat.le_refl _) (Nat.le_refl _) d_C_searchKey_65 ⟨by unfold kyV; rw [if_neg h8', ix_pn], by unfold kyS; rw [if_neg h8', hq]⟩
    refine j_istore X (zlt hn rfl) d_C_searchKey_36 ?_
    refine j_aload_n X rfl d_C_searchKey_38 ?_
    refine j_iload X rfl d_C_searchKey_39 ?_
    refine j_if_eq X (by omega) d_C_searchKey_41 (tgt := 53) rfl (fun h41 => ?_) (fun h41 => ?_)
    · skip
      refine j_iconst X d_C_searchKey_53 ?_
      refine j_goto X d_C_searchKey_54 (tgt := 58) rfl ?_
      first | exact j_drop 4 (fin true (by symm; rw [decide_eq_true_iff]; first | exact Or.inl (by omega) | exact Or.inr ⟨rfl, by omega⟩)) | exact j_drop 4 (fin false (by symm; rw [decide_eq_false_iff_not]; rintro (q | q) <;> omega))
    · skip
      refine j_iload_n X rfl d_C_searchKey_44 ?_
      cases c with
      | false =>
        refine j_if_eq X (by decide) d_C_searchKey_45 (tgt := 57) rfl (fun h45 => ?_) (fun h45 => absurd rfl h45)
        refine j_iconst X d_C_searchKey_57 ?_
        exact j_drop 4 (fin false (by symm; rw [decide_eq_false_iff_not]; rintro (q | q); exact h41 q; exact absurd q.1 (by decide)))
      | true =>
        refine j_if_eq X (by decide) d_C_searchKey_45 (tgt := 57) rfl (fun h45 => absurd h45 (by decide)) (fun h45 => ?_)
        refine j_iload X rfl d_C_searchKey_48 ?_
        refine j_if_le X (by omega) d_C_searchKey_50 (tgt := 57) rfl (fun h50 => ?_) (fun h50 => ?_)
        · skip
          refine j_iconst X d_C_searchKey_57 ?_
          first | exact j_drop 4 (fin true (by symm; rw [decide_eq_true_iff]; first | exact Or.inl (by omega) | exact Or.inr ⟨rfl, by omega⟩)) | exact j_drop 4 (fin false (by symm; rw [decide_eq_false_iff_not]; rintro (q | q) <;> omega))
        · skip
          refine j_iconst X d_C_searchKey_53 ?_
          refine j_goto X d_C_searchKey_54 (tgt := 58) rfl ?_
          first | exact j_drop 4 (fin true (by symm; rw [decide_eq_true_iff]; first | exact Or.inl (by omega) | exact Or.inr ⟨rfl, by omega⟩)) | exact j_drop 4 (fin false (by symm; rw [decide_eq_false_iff_not]; rintro (q | q) <;> omega))
  · rw [if_pos (by omega)]
    refine j_iconst X d_C_searchKey_11 ?_
    exact j_iret X Y (Nat.le_refl _) (Nat.le_refl _) d_C_searchKey_12 ⟨by unfold kyV; rw [if_pos (by omega)], by unfold kyS; rw [if_pos (by omega)]⟩
