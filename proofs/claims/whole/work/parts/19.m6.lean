/-! the channel: what may begin, and the commands that move alone -/

theorem b2i_iff {P Q : Prop} {i : Decidable P} {j : Decidable Q} (h : P ↔ Q) : b2i (decide P) = b2i (decide Q) := by
  by_cases p : P
  · rw [b2i_t p, b2i_t (h.mp p)]
  · rw [b2i_f p, b2i_f (fun q => p (h.mpr q))]
theorem vb1 {P : Prop} {i : Decidable P} (h : P) : some (Value.int (iI 1)) = some (Value.int (iI (b2i (decide P)))) := by rw [b2i_t h]
theorem vb0 {P : Prop} {i : Decidable P} (h : ¬ P) : some (Value.int (iI 0)) = some (Value.int (iI (b2i (decide P)))) := by rw [b2i_f h]
theorem vbi {P Q : Prop} {i : Decidable P} {j : Decidable Q} (h : P ↔ Q) : some (Value.int (iI (b2i (decide P)))) = some (Value.int (iI (b2i (decide Q)))) := by rw [b2i_iff h]
theorem cmpI_R (a b : Int) : inR (cmpI a b) := by
  unfold cmpI
  split
  · decide
  · split <;> decide
theorem cmpI_lt (a b : Int) : cmpI a b < 0 ↔ a < b := by
  unfold cmpI
  split
  · omega
  · split <;> omega
theorem cmpI_ge (a b : Int) : 0 ≤ cmpI a b ↔ b ≤ a := by
  unfold cmpI
  split
  · omega
  · split <;> omega
theorem cmpI_eq0 (a b : Int) : cmpI a b = 0 ↔ a = b := by
  unfold cmpI
  split
  · omega
  · split <;> omega
def pnS (σ : St) (b : Bool) : St := if b = true then up σ 15 0 9 (σ 15 0 9 + 1) else σ
def ixS (σ : St) : Int := if 3 ≤ σ 14 0 1 / 600 - σ 15 0 8 then 1 else 0
def skS (σ : St) (a : Int) : St := up (seS σ a) 15 0 8 (seS σ a 14 0 1 / 600)
def spS (σ : St) (b : Int) : St := if b = 0 then up σ 14 0 1 (σ 14 0 1 + b) else up (up σ 14 0 1 (σ 14 0 1 + b)) 14 0 3 0
def geS (σ : St) : St := gtS σ (pbS σ (σ 14 0 2) (σ 14 0 3) 3)
def erS (σ : St) : St := up (up (up (geS σ) 4 (σ 14 0 2) 4 (σ 14 0 3)) 14 0 1 (geS σ 14 0 1 + 5)) 14 0 3 0
def cbP (σ : St) (k : Int) : Prop :=
  (σ 11 0 k = 0 ∧ 0 ≤ σ 12 0 k ∧ σ 12 0 k ≤ 31) ∨ (σ 11 0 k = 1) ∨ ((σ 11 0 k = 2 ∨ σ 11 0 k = 3) ∧ (0 ≤ σ 13 0 k ∧ σ 13 0 k ≤ 8) ∧ inM (σ 12 0 k) (σ 13 0 k)) ∨ (σ 11 0 k = 4 ∧ k = σ 15 0 10 ∧ 0 ≤ σ 12 0 k ∧ σ 12 0 k ≤ k) ∨ (σ 11 0 k = 5 ∧ inM (σ 12 0 k) 4) ∨ ((σ 11 0 k = 6 ∨ σ 11 0 k = 7 ∨ σ 11 0 k = 8) ∧ (0 ≤ σ 13 0 k ∧ σ 13 0 k ≤ 60) ∧ inM (σ 12 0 k) (σ 13 0 k)) ∨ (σ 11 0 k = 9 ∧ riM σ (σ 12 0 k)) ∨ (σ 11 0 k = 10) ∨ (σ 11 0 k = 11 ∧ 0 ≤ σ 13 0 k ∧ σ 13 0 k ≤ 600)
theorem cb0 {σ : St} {k : Int} (h : σ 11 0 k = 0) : cbP σ k ↔ 0 ≤ σ 12 0 k ∧ σ 12 0 k ≤ 31 := by simp [cbP, h]
theorem cb1 {σ : St} {k : Int} (h : σ 11 0 k = 1 ∨ σ 11 0 k = 10) : cbP σ k := by rcases h with h | h <;> simp [cbP, h]
theorem cb2 {σ : St} {k : Int} (h : σ 11 0 k = 2 ∨ σ 11 0 k = 3) : cbP σ k ↔ (0 ≤ σ 13 0 k ∧ σ 13 0 k ≤ 8) ∧ inM (σ 12 0 k) (σ 13 0 k) := by rcases h with h | h <;> simp [cbP, h]
theorem cb4 {σ : St} {k : Int} (h : σ 11 0 k = 4) : cbP σ k ↔ k = σ 15 0 10 ∧ 0 ≤ σ 12 0 k ∧ σ 12 0 k ≤ k := by simp [cbP, h]
theorem cb5 {σ : St} {k : Int} (h : σ 11 0 k = 5) : cbP σ k ↔ inM (σ 12 0 k) 4 := by simp [cbP, h]
theorem cb6 {σ : St} {k : Int} (h : σ 11 0 k = 6 ∨ σ 11 0 k = 7 ∨ σ 11 0 k = 8) : cbP σ k ↔ (0 ≤ σ 13 0 k ∧ σ 13 0 k ≤ 60) ∧ inM (σ 12 0 k) (σ 13 0 k) := by rcases h with h | h | h <;> simp [cbP, h]
theorem cb9 {σ : St} {k : Int} (h : σ 11 0 k = 9) : cbP σ k ↔ riM σ (σ 12 0 k) := by simp [cbP, h]
theorem cb11 {σ : St} {k : Int} (h : σ 11 0 k = 11) : cbP σ k ↔ 0 ≤ σ 13 0 k ∧ σ 13 0 k ≤ 600 := by simp [cbP, h]

set_option maxRecDepth 100000 in
set_option maxHeartbeats 4000000 in
theorem c_H_comeBehind (l : Launch) (E : eT) (σ : St) (p : Int) (hw : hdW σ) (htk : tkW σ (σ 14 0 2)) (hr : rg σ) (hk : 0 ≤ σ 14 0 3 ∧ σ 14 0 3 ≤ σ 4 (σ 14 0 2) 4) (hB : σ 14 0 1 + 600 ≤ 1000000000) (hp : 1 ≤ p ∧ p ≤ 3) : FCon l E y_H_comeBehind ws_H_comeBehind 2 [.ref (E.2.2.2 14 0), .int (iI p)] σ (some (.int (iI (b2i (decide ((¬ σ 14 0 3 = 0 ∧ σ 14 0 4 < p) ∨ ¬ σ 4 (σ 14 0 2) 4 = 0)))))) (cbS σ p) := by
  refine con_of (cc := b_H_comeBehind) (nL := 3) (ret := (some .boolean)) (by decide) (Nat.le_of_ble_eq_true rfl) (fun z X Y hn => ?_)
  have X : Cx E z b_H_comeBehind R_H := X
  have hz := Y.2.1
  change J E z 0 0 0 [(0, .ref (E.2.2.2 14 0)), (1, .int (iI p))] [] (cells E σ)
  have hw1 := hw.1
  have hw2 := hw.2
  have hn4 := htk.1
  have h14 := hr 14 0 4
  have yes : (¬ σ 14 0 3 = 0 ∧ σ 14 0 4 < p) → J E z 0 0 20 [(0, .ref (E.2.2.2 14 0)), (1, .int (iI p))] [.int (iI 1)] (cells E σ) := by
    intro hq
    refine j_istore_n X (zlt hn rfl) d_H_comeBehind_20 ?_
    refine j_iload_n X rfl d_H_comeBehind_21 ?_
    refine j_if_ne X (by decide) d_H_comeBehind_22 (tgt := 34) rfl (fun h22 => ?_) (fun h22 => absurd h22 (by decide))
    refine j_aload_n X rfl d_H_comeBehind_34 ?_
    refine j_iload_n X rfl d_H_comeBehind_35 ?_
    refine v_H_45 X hz (c_H_goBehind (zl z) E σ p hw hp (by omega) (pb_rng htk (by omega))) rfl rfl rfl (Nat.le_of_ble_eq_true rfl) ⟨Nat.le_refl _, Nat.le_refl _⟩ d_H_comeBehind_36 ?_
    refine j_iconst X d_H_comeBehind_39 ?_
    exact j_zret X Y rfl (Nat.le_refl _) (Nat.le_refl _) d_H_comeBehind_40 ⟨by rw [b2i_t (Or.inl hq)], by unfold cbS; rw [if_pos hq]⟩
  have no : (¬ (¬ σ 14 0 3 = 0 ∧ σ 14 0 4 < p)) → J E z 0 0 20 [(0, .ref (E.2.2.2 14 0)), (1, .int (iI p))] [.int (iI 0)] (cells E σ) := by
    intro hq
    refine j_istore_n X (zlt hn rfl) d_H_comeBehind_20 ?_
    refine j_iload_n X rfl d_H_comeBehind_21 ?_
    refine j_if_ne X (by decide) d_H_comeBehind_22 (tgt := 34) rfl (fun h22 => absurd rfl h22) (fun h22 => ?_)
    refine j_aload_n X rfl d_H_comeBehind_25 ?_
    refine v_H_41 X hz (c_H_moveOn (zl z) E σ hw htk hr hk) rfl rfl rfl (Nat.le_of_ble_eq_true rfl) ⟨Nat.le_refl _, Nat.le_refl _⟩ d_H_comeBehind_26 ?_
    refine j_ifnz X d_H_comeBehind_29 (tgt := 34) rfl (fun h29 => ?_) (fun h29 => ?_)
    · rw [if_neg h29]
      have hm := mvR_in (σ := σ) (by omega) hk.1
      refine j_aload_n X rfl d_H_comeBehind_34 ?_
      refine j_iload_n X rfl d_H_comeBehind_35 ?_
      refine v_H_45 X hz (c_H_goBehind (zl z) E (mvS σ) p ⟨by unfold mvS; rw [gtS_o _ _ (Or.inr (by decide))]; exact hw1, (gtS_hd (σ := up σ 14 0 3 (mvR σ)) (B := 0) hw hB).2⟩ hp (by unfold mvS; rw [gtS_o _ _ (Or.inr (by decide))]; rw [up_s]; omega) (by unfold mvS; rw [gtS_o _ _ (Or.inr (by decide)), gtS_o _ _ (Or.inr (by decide)), up_s, pb_up (σ := σ) _ (fun t j => by rw [gtS_o _ _ (Or.inl (by decide)), up_k _ _ _ _ _ _ (by decide)]) (fun t j => by rw [gtS_o _ _ (Or.inl (by decide)), up_k _ _ _ _ _ _ (by decide)])]; exact pb_rng htk hm)) rfl rfl rfl (Nat.le_of_ble_eq_true rfl) ⟨Nat.le_refl _, Nat.le_refl _⟩ d_H_comeBehind_36 ?_
      refine j_iconst X d_H_comeBehind_39 ?_
      exact j_zret X Y rfl (Nat.le_refl _) (Nat.le_refl _) d_H_comeBehind_40 ⟨by rw [b2i_t (Or.inr h29)], by unfold cbS; rw [if_neg hq, if_neg h29]⟩
    · have h30 : σ 4 (σ 14 0 2) 4 = 0 := by omega
      refine j_iconst X d_H_comeBehind_32 ?_
      exact j_zret X Y rfl (Nat.le_refl _) (Nat.le_refl _) d_H_comeBehind_33 ⟨by rw [b2i_f (by omega)], by unfold cbS; rw [if_neg hq, if_pos h30, if_pos h30]⟩
  refine j_aload_n X rfl d_H_comeBehind_0 ?_
  refine g_H_25 X d_H_comeBehind_1 ?_
  refine j_if_eq X (by omega) d_H_comeBehind_4 (tgt := 19) rfl (fun h4 => ?_) (fun h4 => ?_)
  · skip
    refine j_iconst X d_H_comeBehind_19 ?_
    first | exact yes (by omega) | exact no (by omega)
  · skip
    refine j_aload_n X rfl d_H_comeBehind_7 ?_
    refine g_H_48 X d_H_comeBehind_8 ?_
    refine j_iload_n X rfl d_H_comeBehind_11 ?_
    refine j_icmp_ge X (by omega) (by omega) d_H_comeBehind_12 (tgt := 19) rfl (fun h12 => ?_) (fun h12 => ?_)
    · skip
      refine j_iconst X d_H_comeBehind_19 ?_
      first | exact yes (by omega) | exact no (by omega)
    · skip
      refine j_iconst X d_H_comeBehind_15 ?_
      refine j_goto X d_H_comeBehind_16 (tgt := 20) rfl ?_
      first | exact yes (by omega) | exact no (by omega)

set_option maxRecDepth 100000 in
set_option maxHeartbeats 4000000 in
theorem c_C_passOverNextIf (l : Launch) (E : eT) (σ : St) (b : Bool) : FCon l E y_C_passOverNextIf ws_C_passOverNextIf 0 [.ref (E.2.2.2 15 0), .int (iI (b2i b))] σ none (pnS σ b) := by
  refine con_of (cc := b_C_passOverNextIf) (nL := 2) (ret := none) (by decide) (Nat.le_of_ble_eq_true rfl) (fun z X Y hn => ?_)
  have X : Cx E z b_C_passOverNextIf R_C := X
  have hz := Y.2.1
  change J E z 0 0 0 [(0, .ref (E.2.2.2 15 0)), (1, .int (iI (b2i b)))] [] (cells E σ)
  refine j_iload_n X rfl d_C_passOverNextIf_0 ?_
  cases b with
  | false =>
    refine j_if_eq X (by decide) d_C_passOverNextIf_1 (tgt := 14) rfl (fun h => ?_) (fun h => absurd rfl h)
    exact j_vret X Y (Nat.le_refl _) (Nat.le_refl _) d_C_passOverNextIf_14 ⟨rfl, rfl⟩
  | true =>
    refine j_if_eq X (by decide) d_C_passOverNextIf_1 (tgt := 14) rfl (fun h => absurd h (by decide)) (fun h => ?_)
    refine j_aload_n X rfl d_C_passOverNextIf_4 ?_
    refine j_dup X rfl d_C_passOverNextIf_5 ?_
    refine g_C_36 X d_C_passOverNextIf_6 ?_
    refine j_iconst X d_C_passOverNextIf_9 ?_
    refine j_iadd X d_C_passOverNextIf_10 ?_
    refine p_C_36 X d_C_passOverNextIf_11 ?_
    exact j_vret X Y (Nat.le_refl _) (Nat.le_refl _) d_C_passOverNextIf_14 ⟨rfl, rfl⟩

set_option maxRecDepth 100000 in
set_option maxHeartbeats 4000000 in
theorem c_C_statusOfIndex (l : Launch) (E : eT) (σ : St) (hw : hdW σ) (h8 : inR (σ 15 0 8)) : FCon l E y_C_statusOfIndex ws_C_statusOfIndex 1 [.ref (E.2.2.2 15 0)] σ (some (.int (iI (ixS σ)))) σ := by
  refine con_of (cc := b_C_statusOfIndex) (nL := 1) (ret := (some .int)) (by decide) (Nat.le_of_ble_eq_true rfl) (fun z X Y hn => ?_)
  have X : Cx E z b_C_statusOfIndex R_C := X
  have hz := Y.2.1
  change J E z 0 0 0 [(0, .ref (E.2.2.2 15 0))] [] (cells E σ)
  have hw1 := hw.1
  have hw2 := hw.2
  refine j_aload_n X rfl d_C_statusOfIndex_0 ?_
  refine g_C_15 X d_C_statusOfIndex_1 ?_
  refine v_C_23 X hz (c_H_turns (zl z) E σ hw) rfl rfl rfl (Nat.le_of_ble_eq_true rfl) ⟨Nat.le_refl _, Nat.le_refl _⟩ d_C_statusOfIndex_4 ?_
  refine j_aload_n X rfl d_C_statusOfIndex_7 ?_
  refine g_C_71 X d_C_statusOfIndex_8 ?_
  refine j_lsub X d_C_statusOfIndex_11 ?_
  refine j_ldc2 (a := 3) X kl_C_161 rfl d_C_statusOfIndex_12 ?_
  refine j_lcmp X (by omega) (by omega) d_C_statusOfIndex_15 ?_
  refine j_if_lt X (cmpI_R _ _) d_C_statusOfIndex_16 (tgt := 23) rfl (fun h16 => ?_) (fun h16 => ?_)
  · have h17 : ¬ 3 ≤ σ 14 0 1 / 600 - σ 15 0 8 := by have := (cmpI_lt _ _).mp h16; omega
    refine j_iconst X d_C_statusOfIndex_23 ?_
    exact j_iret X Y (Nat.le_refl _) (Nat.le_refl _) d_C_statusOfIndex_24 ⟨by unfold ixS; first | rw [if_pos h17] | rw [if_neg h17], rfl⟩
  · have h17 : 3 ≤ σ 14 0 1 / 600 - σ 15 0 8 := (cmpI_ge _ _).mp h16
    refine j_iconst X d_C_statusOfIndex_19 ?_
    refine j_goto X d_C_statusOfIndex_20 (tgt := 24) rfl ?_
    exact j_iret X Y (Nat.le_refl _) (Nat.le_refl _) d_C_statusOfIndex_24 ⟨by unfold ixS; first | rw [if_pos h17] | rw [if_neg h17], rfl⟩

set_option maxRecDepth 100000 in
set_option maxHeartbeats 4000000 in
theorem c_C_seek (l : Launch) (E : eT) (σ : St) (a : Int) (hw : hdW σ) (ha : 0 ≤ a ∧ a < 32) (hB : σ 14 0 1 + 600 ≤ 1000000000) : FCon l E y_C_seek ws_C_seek 2 [.ref (E.2.2.2 15 0), .int (iI a)] σ (some (.int (iI 0))) (skS σ a) := by
  refine con_of (cc := b_C_seek) (nL := 2) (ret := (some .int)) (by decide) (Nat.le_of_ble_eq_true rfl) (fun z X Y hn => ?_)
  have X : Cx E z b_C_seek R_C := X
  have hz := Y.2.1
  change J E z 0 0 0 [(0, .ref (E.2.2.2 15 0)), (1, .int (iI a))] [] (cells E σ)
  have hw1 := hw.1
  have hw2 := hw.2
  refine j_aload_n X rfl d_C_seek_0 ?_
  refine g_C_15 X d_C_seek_1 ?_
  refine j_iload_n X rfl d_C_seek_4 ?_
  refine v_C_135 X hz (c_H_moveTo (zl z) E σ a hw ha) rfl rfl rfl (Nat.le_of_ble_eq_true rfl) ⟨Nat.le_refl _, Nat.le_refl _⟩ d_C_seek_5 ?_
  refine j_aload_n X rfl d_C_seek_8 ?_
  refine j_aload_n X rfl d_C_seek_9 ?_
  refine g_C_15 X d_C_seek_10 ?_
  refine v_C_23 X hz (c_H_turns (zl z) E (seS σ a) ⟨ha, by show 0 ≤ σ 14 0 1 + (10 + 3 * _) ∧ σ 14 0 1 + (10 + 3 * _) ≤ 1000000000; split <;> omega⟩) rfl rfl rfl (Nat.le_of_ble_eq_true rfl) ⟨Nat.le_refl _, Nat.le_refl _⟩ d_C_seek_13 ?_
  refine p_C_71 X d_C_seek_16 ?_
  refine j_iconst X d_C_seek_19 ?_
  exact j_iret X Y (Nat.le_refl _) (Nat.le_refl _) d_C_seek_20 ⟨rfl, rfl⟩

set_option maxRecDepth 100000 in
set_option maxHeartbeats 4000000 in
theorem c_C_skip (l : Launch) (E : eT) (σ : St) (b : Int) (hb : inR b) : FCon l E y_C_skip ws_C_skip 1 [.ref (E.2.2.2 15 0), .int (iI b)] σ (some (.int (iI 0))) (spS σ b) := by
  refine con_of (cc := b_C_skip) (nL := 2) (ret := (some .int)) (by decide) (Nat.le_of_ble_eq_true rfl) (fun z X Y hn => ?_)
  have X : Cx E z b_C_skip R_C := X
  have hz := Y.2.1
  change J E z 0 0 0 [(0, .ref (E.2.2.2 15 0)), (1, .int (iI b))] [] (cells E σ)
  refine j_aload_n X rfl d_C_skip_0 ?_
  refine g_C_15 X d_C_skip_1 ?_
  refine j_iload_n X rfl d_C_skip_4 ?_
  refine v_C_215 X hz (c_H_goOn (zl z) E σ b hb) rfl rfl rfl (Nat.le_of_ble_eq_true rfl) ⟨Nat.le_refl _, Nat.le_refl _⟩ d_C_skip_5 ?_
  refine j_iload_n X rfl d_C_skip_8 ?_
  refine j_if_eq X (by omega) d_C_skip_9 (tgt := 19) rfl (fun h9 => ?_) (fun h9 => ?_)
  · skip
    refine j_iconst X d_C_skip_19 ?_
    exact j_iret X Y (Nat.le_refl _) (Nat.le_refl _) d_C_skip_20 ⟨rfl, by unfold spS; first | rw [if_pos h9] | rw [if_neg h9]⟩
  · skip
    refine j_aload_n X rfl d_C_skip_12 ?_
    refine g_C_15 X d_C_skip_13 ?_
    refine v_C_59 X hz (c_H_disorient (zl z) E _) rfl rfl rfl (Nat.le_of_ble_eq_true rfl) ⟨Nat.le_refl _, Nat.le_refl _⟩ d_C_skip_16 ?_
    refine j_iconst X d_C_skip_19 ?_
    exact j_iret X Y (Nat.le_refl _) (Nat.le_refl _) d_C_skip_20 ⟨rfl, by unfold spS; first | rw [if_pos h9] | rw [if_neg h9]⟩

set_option maxRecDepth 100000 in
set_option maxHeartbeats 4000000 in
theorem c_C_erase (l : Launch) (E : eT) (σ : St) (hw : hdW σ) (hk : 0 ≤ σ 14 0 3 ∧ σ 14 0 3 < 31) (hb : 0 ≤ pbS σ (σ 14 0 2) (σ 14 0 3) 3 ∧ pbS σ (σ 14 0 2) (σ 14 0 3) 3 ≤ 600) (hB : σ 14 0 1 + 600 ≤ 1000000000) : FCon l E y_C_erase ws_C_erase 2 [.ref (E.2.2.2 15 0)] σ (some (.int (iI 0))) (erS σ) := by
  refine con_of (cc := b_C_erase) (nL := 1) (ret := (some .int)) (by decide) (Nat.le_of_ble_eq_true rfl) (fun z X Y hn => ?_)
  have X : Cx E z b_C_erase R_C := X
  have hz := Y.2.1
  change J E z 0 0 0 [(0, .ref (E.2.2.2 15 0))] [] (cells E σ)
  have hw1 := hw.1
  have hw2 := hw.2
  refine j_aload_n X rfl d_C_erase_0 ?_
  refine g_C_15 X d_C_erase_1 ?_
  refine v_C_196 X hz (c_H_goToEnd (zl z) E σ hw hk hb) rfl rfl rfl (Nat.le_of_ble_eq_true rfl) ⟨Nat.le_refl _, Nat.le_refl _⟩ d_C_erase_4 ?_
  refine j_aload_n X rfl d_C_erase_7 ?_
  refine g_C_15 X d_C_erase_8 ?_
  refine v_C_151 X hz (c_H_track (zl z) E (geS σ) (gtS_hd (B := 0) hw hB)) rfl rfl rfl (Nat.le_of_ble_eq_true rfl) ⟨Nat.le_refl _, Nat.le_refl _⟩ d_C_erase_11 ?_
  refine j_aload_n X rfl d_C_erase_14 ?_
  refine g_C_15 X d_C_erase_15 ?_
  refine g_C_141 X d_C_erase_18 ?_
  refine v_C_202 X (okCT rfl (by omega)) hz (c_T_cutBehind (zl z) E (geS σ) (σ 14 0 2) (σ 14 0 3) hw1) rfl rfl rfl (Nat.le_of_ble_eq_true rfl) ⟨Nat.le_refl _, Nat.le_refl _⟩ d_C_erase_21 ?_
  refine j_aload_n X rfl d_C_erase_24 ?_
  refine g_C_15 X d_C_erase_25 ?_
  refine j_iconst X d_C_erase_28 ?_
  refine v_C_215 X hz (c_H_goOn (zl z) E _ 5 (by decide)) rfl rfl rfl (Nat.le_of_ble_eq_true rfl) ⟨Nat.le_refl _, Nat.le_refl _⟩ d_C_erase_29 ?_
  refine j_aload_n X rfl d_C_erase_32 ?_
  refine g_C_15 X d_C_erase_33 ?_
  refine v_C_59 X hz (c_H_disorient (zl z) E _) rfl rfl rfl (Nat.le_of_ble_eq_true rfl) ⟨Nat.le_refl _, Nat.le_refl _⟩ d_C_erase_36 ?_
  refine j_iconst X d_C_erase_39 ?_
  exact j_iret X Y (Nat.le_refl _) (Nat.le_refl _) d_C_erase_40 ⟨rfl, rfl⟩

set_option maxRecDepth 100000 in
set_option maxHeartbeats 4000000 in
theorem c_C_begin (l : Launch) (E : eT) (σ : St) (k : Int) (hk : 0 ≤ k ∧ k < 16) (hr : rg σ) : FCon l E y_C_begin ws_C_begin 1 [.ref (E.2.2.2 15 0), .int (iI k)] σ none (beS σ k) := by
  refine con_of (cc := b_C_begin) (nL := 3) (ret := none) (by decide) (Nat.le_of_ble_eq_true rfl) (fun z X Y hn => ?_)
  have X : Cx E z b_C_begin R_C := X
  have hz := Y.2.1
  change J E z 0 0 0 [(0, .ref (E.2.2.2 15 0)), (1, .int (iI k))] [] (cells E σ)
  refine j_aload_n X rfl d_C_begin_0 ?_
  refine g_C_9 X d_C_begin_1 ?_
  refine g_C_78 X d_C_begin_4 ?_
  refine j_iload_n X rfl d_C_begin_7 ?_
  refine j_iald X (by first | exact okC1 rfl | exact (okCT rfl (by omega))) (fun _ => rfl) rfl (by omega) d_C_begin_8 ?_
  refine j_iconst X d_C_begin_9 ?_
  refine j_iconst X d_C_begin_10 ?_
  refine s_C_82 X hz (c_isWithin (zl z) E σ (σ 11 0 k) 1 3 (hr 11 0 k) (by decide) (by decide)) rfl rfl rfl (Nat.le_of_ble_eq_true rfl) ⟨Nat.le_refl _, Nat.le_refl _⟩ d_C_begin_11 ?_
  refine j_istore_n X (zlt hn rfl) d_C_begin_14 ?_
  refine j_aload_n X rfl d_C_begin_15 ?_
  refine j_dup X rfl d_C_begin_16 ?_
  refine g_C_65 X d_C_begin_17 ?_
  refine j_iconst X d_C_begin_20 ?_
  refine j_iadd X d_C_begin_21 ?_
  refine p_C_65 X d_C_begin_22 ?_
  refine j_aload_n X rfl d_C_begin_25 ?_
  refine j_iload_n X rfl d_C_begin_26 ?_
  refine j_iconst X d_C_begin_27 ?_
  refine j_iadd X d_C_begin_28 ?_
  refine p_C_36 X d_C_begin_29 ?_
  refine j_aload_n X rfl d_C_begin_32 ?_
  refine j_iload_n X rfl d_C_begin_33 ?_
  refine j_ifz X d_C_begin_34 (tgt := 44) rfl (fun h34 => ?_) (fun h34 => ?_)
  · skip
    refine j_iconst X d_C_begin_44 ?_
    refine p_C_68 X d_C_begin_45 ?_
    exact j_vret X Y (Nat.le_refl _) (Nat.le_refl _) d_C_begin_48 ⟨rfl, by unfold beS; first | rw [if_pos h34]; rfl | rw [if_neg h34]⟩
  · skip
    refine j_aload_n X rfl d_C_begin_37 ?_
    refine g_C_36 X d_C_begin_38 ?_
    refine j_goto X d_C_begin_41 (tgt := 45) rfl ?_
    refine p_C_68 X d_C_begin_45 ?_
    exact j_vret X Y (Nat.le_refl _) (Nat.le_refl _) d_C_begin_48 ⟨rfl, by unfold beS; first | rw [if_pos h34]; rfl | rw [if_neg h34]⟩

set_option maxRecDepth 100000 in
set_option maxHeartbeats 4000000 in
theorem c_C_isRecordInMemory (l : Launch) (E : eT) (σ : St) (a : Int) (ha : inR a) (h2 : byR (σ 2 0))  : FCon l E y_C_isRecordInMemory ws_C_isRecordInMemory 2 [.ref (E.2.2.2 15 0), .int (iI a)] σ (some (.int (iI (b2i (@decide (riM σ a) (Classical.propDecidable _)))))) σ := by
  refine con_of (cc := b_C_isRecordInMemory) (nL := 4) (ret := (some .boolean)) (by decide) (Nat.le_of_ble_eq_true rfl) (fun z X Y hn => ?_)
  have X : Cx E z b_C_isRecordInMemory R_C := X
  have hz := Y.2.1
  change J E z 0 0 0 [(0, .ref (E.2.2.2 15 0)), (1, .int (iI a))] [] (cells E σ)
  have b0 := h2 a
  have b1 := h2 (a + 1)
  refine j_iload_n X rfl d_C_isRecordInMemory_0 ?_
  refine j_iconst X d_C_isRecordInMemory_1 ?_
  refine s_C_92 X hz (c_C_isInMemory (zl z) E σ a 2 ha (by decide)) rfl rfl rfl (Nat.le_of_ble_eq_true rfl) ⟨Nat.le_refl _, Nat.le_refl _⟩ d_C_isRecordInMemory_2 ?_
  refine j_ifnz X d_C_isRecordInMemory_5 (tgt := 10) rfl (fun h5 => ?_) (fun h5 => ?_)
  · skip
    refine j_aload_n X rfl d_C_isRecordInMemory_10 ?_
    refine g_C_19 X d_C_isRecordInMemory_11 ?_
    refine j_iload_n X rfl d_C_isRecordInMemory_14 ?_
    unfold inM at h5
    refine v_C_99_1 X hz (c_B_get_M (zl z) E σ a h2 (by omega)) rfl rfl rfl (Nat.le_of_ble_eq_true rfl) ⟨Nat.le_refl _, Nat.le_refl _⟩ d_C_isRecordInMemory_15 ?_
    refine j_istore_n X (zlt hn rfl) d_C_isRecordInMemory_18 ?_
    refine j_aload_n X rfl d_C_isRecordInMemory_19 ?_
    refine g_C_19 X d_C_isRecordInMemory_20 ?_
    refine j_iload_n X rfl d_C_isRecordInMemory_23 ?_
    refine j_iconst X d_C_isRecordInMemory_24 ?_
    refine j_iadd X d_C_isRecordInMemory_25 ?_
    refine v_C_99_1 X hz (c_B_get_M (zl z) E σ (a + 1) h2 (by omega)) rfl rfl rfl (Nat.le_of_ble_eq_true rfl) ⟨Nat.le_refl _, Nat.le_refl _⟩ d_C_isRecordInMemory_26 ?_
    refine j_istore_n X (zlt hn rfl) d_C_isRecordInMemory_29 ?_
    refine j_iload_n X rfl d_C_isRecordInMemory_30 ?_
    refine j_bipush X rfl d_C_isRecordInMemory_31 ?_
    refine j_icmp_gt X (by omega) (by omega) d_C_isRecordInMemory_33 (tgt := 58) rfl (fun h33 => ?_) (fun h33 => ?_)
    · skip
      refine j_iconst X d_C_isRecordInMemory_58 ?_
      exact j_zret X Y (by first | rfl | exact b2i_nar _) (Nat.le_refl _) (Nat.le_refl _) d_C_isRecordInMemory_59 ⟨by first | exact vb1 ⟨h5, by omega, by omega, h51⟩ | exact vb0 (fun q => h51 q.2.2.2) | exact vb0 (fun q => by have := q.2.1; have := q.2.2.1; omega), rfl⟩
    · skip
      refine j_iload_n X rfl d_C_isRecordInMemory_36 ?_
      refine j_bipush X rfl d_C_isRecordInMemory_37 ?_
      refine j_icmp_gt X (by omega) (by omega) d_C_isRecordInMemory_39 (tgt := 58) rfl (fun h39 => ?_) (fun h39 => ?_)
      · skip
        refine j_iconst X d_C_isRecordInMemory_58 ?_
        exact j_zret X Y (by first | rfl | exact b2i_nar _) (Nat.le_refl _) (Nat.le_refl _) d_C_isRecordInMemory_59 ⟨by first | exact vb1 ⟨h5, by omega, by omega, h51⟩ | exact vb0 (fun q => h51 q.2.2.2) | exact vb0 (fun q => by have := q.2.1; have := q.2.2.1; omega), rfl⟩
      · skip
        refine j_iload_n X rfl d_C_isRecordInMemory_42 ?_
        refine j_iconst X d_C_isRecordInMemory_43 ?_
        refine j_iload_n X rfl d_C_isRecordInMemory_44 ?_
        refine j_iadd X d_C_isRecordInMemory_45 ?_
        refine j_iload_n X rfl d_C_isRecordInMemory_46 ?_
        refine j_iadd X d_C_isRecordInMemory_47 ?_
        refine s_C_92 X hz (c_C_isInMemory (zl z) E σ a (2 + σ 2 0 a + σ 2 0 (a + 1)) ha (by omega)) rfl rfl rfl (Nat.le_of_ble_eq_true rfl) ⟨Nat.le_refl _, Nat.le_refl _⟩ d_C_isRecordInMemory_48 ?_
        refine j_ifz X d_C_isRecordInMemory_51 (tgt := 58) rfl (fun h51 => ?_) (fun h51 => ?_)
        · skip
          refine j_iconst X d_C_isRecordInMemory_58 ?_
          exact j_zret X Y (by first | rfl | exact b2i_nar _) (Nat.le_refl _) (Nat.le_refl _) d_C_isRecordInMemory_59 ⟨by first | exact vb1 ⟨h5, by omega, by omega, h51⟩ | exact vb0 (fun q => h51 q.2.2.2) | exact vb0 (fun q => by have := q.2.1; have := q.2.2.1; omega), rfl⟩
        · skip
          refine j_iconst X d_C_isRecordInMemory_54 ?_
          refine j_goto X d_C_isRecordInMemory_55 (tgt := 59) rfl ?_
          exact j_zret X Y (by first | rfl | exact b2i_nar _) (Nat.le_refl _) (Nat.le_refl _) d_C_isRecordInMemory_59 ⟨by first | exact vb1 ⟨h5, by omega, by omega, h51⟩ | exact vb0 (fun q => h51 q.2.2.2) | exact vb0 (fun q => by have := q.2.1; have := q.2.2.1; omega), rfl⟩
  · skip
    refine j_iconst X d_C_isRecordInMemory_8 ?_
    exact j_zret X Y (by first | rfl | exact b2i_nar _) (Nat.le_refl _) (Nat.le_refl _) d_C_isRecordInMemory_9 ⟨by rw [b2i_f (fun q => h5 q.1)], rfl⟩
