/-! the head -/
def gtS (σ : St) (p : Int) : St := up σ 14 0 1 (σ 14 0 1 + (p - σ 14 0 1 % 600 + 600) % 600)
def gbS (σ : St) (p : Int) : St := gtS (up σ 14 0 4 p) (pbS σ (σ 14 0 2) (σ 14 0 3) p)
def mvR (σ : St) : Int := if σ 14 0 3 = 0 then ffS σ (σ 14 0 2) (σ 14 0 1 % 600) 32 1 else if σ 14 0 3 < σ 4 (σ 14 0 2) 4 then σ 14 0 3 + 1 else 1
def mvS (σ : St) : St := gtS (up σ 14 0 3 (mvR σ)) (σ 5 (σ 14 0 2) (mvR σ))
def mv0 (σ : St) : St := up σ 14 0 1 ((σ 14 0 1 / 600 + 2) * 600)
def seS (σ : St) (a : Int) : St := up (up (up σ 14 0 1 (σ 14 0 1 + (10 + 3 * (if 0 ≤ a - σ 14 0 2 then a - σ 14 0 2 else -(a - σ 14 0 2))))) 14 0 2 a) 14 0 3 0
/-- the head stands well -/
def hdW (σ : St) : Prop := (0 ≤ σ 14 0 2 ∧ σ 14 0 2 < 32) ∧ 0 ≤ σ 14 0 1 ∧ σ 14 0 1 ≤ 1000000000
/-- a track's records stand well -/
def tkW (σ : St) (t : Int) : Prop := (0 ≤ σ 4 t 4 ∧ σ 4 t 4 ≤ 30) ∧ σ 5 t 1 = 0 ∧ ∀ k, 1 ≤ k → k ≤ σ 4 t 4 → 0 ≤ σ 5 t k ∧ 0 ≤ σ 6 t k ∧ σ 6 t k ≤ 8 ∧ σ 5 t k + 20 + σ 6 t k ≤ σ 5 t (k + 1) ∧ σ 5 t (k + 1) ≤ σ 5 t k + 20 + σ 6 t k + 60 ∧ σ 5 t (k + 1) ≤ 600
theorem ffS_in {σ : St} {t p : Int} (h : 1 ≤ σ 4 t 4) : ∀ (m : Nat) (k : Int), 1 ≤ k → 1 ≤ ffS σ t p m k ∧ ffS σ t p m k ≤ σ 4 t 4 := by
  intro m
  induction m with
  | zero => intro k hk; exact ⟨Int.le_refl 1, h⟩
  | succ m ih =>
    intro k hk
    rw [ffS_succ]
    split
    · omega
    · split
      · omega
      · exact ih (k + 1) (by omega)
theorem mvR_in {σ : St} (h : 1 ≤ σ 4 (σ 14 0 2) 4) (h0 : 0 ≤ σ 14 0 3) : 1 ≤ mvR σ ∧ mvR σ ≤ σ 4 (σ 14 0 2) 4 := by
  unfold mvR
  split
  · exact ffS_in h 32 1 (by omega)
  · split <;> omega

set_option maxRecDepth 100000 in
set_option maxHeartbeats 4000000 in
theorem c_H_track (l : Launch) (E : eT) (σ : St) (hw : hdW σ)  : FCon l E y_H_track ws_H_track 0 [.ref (E.2.2.2 14 0)] σ (some (.ref (E.2.2.2 4 (σ 14 0 2)))) σ := by
  refine con_of (cc := b_H_track) (nL := 1) (ret := (some (.object "TrackUnit$Track"))) (by decide) (Nat.le_of_ble_eq_true rfl) (fun z X Y hn => ?_)
  have X : Cx E z b_H_track R_H := X
  have hz := Y.2.1
  change J E z 0 0 0 [(0, .ref (E.2.2.2 14 0))] [] (cells E σ)
  have hw1 := hw.1
  have hw2 := hw.2
  refine j_aload_n X rfl d_H_track_0 ?_
  refine g_H_9 X d_H_track_1 ?_
  refine j_aload_n X rfl d_H_track_4 ?_
  refine g_H_15 X d_H_track_5 ?_
  refine j_aald X (by omega) d_H_track_8 ?_
  exact j_aret X Y (Nat.le_refl _) (Nat.le_refl _) d_H_track_9 ⟨rfl, rfl⟩

set_option maxRecDepth 100000 in
set_option maxHeartbeats 4000000 in
theorem c_H_turns (l : Launch) (E : eT) (σ : St) (hw : hdW σ)  : FCon l E y_H_turns ws_H_turns 0 [.ref (E.2.2.2 14 0)] σ (some (.long (iL (σ 14 0 1 / 600)))) σ := by
  refine con_of (cc := b_H_turns) (nL := 1) (ret := (some .long)) (by decide) (Nat.le_of_ble_eq_true rfl) (fun z X Y hn => ?_)
  have X : Cx E z b_H_turns R_H := X
  have hz := Y.2.1
  change J E z 0 0 0 [(0, .ref (E.2.2.2 14 0))] [] (cells E σ)
  have hw1 := hw.1
  have hw2 := hw.2
  refine j_aload_n X rfl d_H_turns_0 ?_
  refine g_H_19 X d_H_turns_1 ?_
  refine j_ldc2 (a := 600) X kl_H_23 rfl d_H_turns_4 ?_
  refine j_ldiv X (by omega) (by omega) (by omega) (by omega) d_H_turns_7 ?_
  exact j_lret X Y (Nat.le_refl _) (Nat.le_refl _) d_H_turns_8 ⟨rfl, rfl⟩

set_option maxRecDepth 100000 in
set_option maxHeartbeats 4000000 in
theorem c_H_goOn (l : Launch) (E : eT) (σ : St) (a : Int) (ha : inR a) : FCon l E y_H_goOn ws_H_goOn 0 [.ref (E.2.2.2 14 0), .int (iI a)] σ none (up σ 14 0 1 (σ 14 0 1 + a)) := by
  refine con_of (cc := b_H_goOn) (nL := 2) (ret := none) (by decide) (Nat.le_of_ble_eq_true rfl) (fun z X Y hn => ?_)
  have X : Cx E z b_H_goOn R_H := X
  have hz := Y.2.1
  change J E z 0 0 0 [(0, .ref (E.2.2.2 14 0)), (1, .int (iI a))] [] (cells E σ)
  refine j_aload_n X rfl d_H_goOn_0 ?_
  refine j_dup X rfl d_H_goOn_1 ?_
  refine g_H_19 X d_H_goOn_2 ?_
  refine j_iload_n X rfl d_H_goOn_5 ?_
  refine j_i2l X (by omega) d_H_goOn_6 ?_
  refine j_ladd X d_H_goOn_7 ?_
  refine p_H_19 X d_H_goOn_8 ?_
  exact j_vret X Y (Nat.le_refl _) (Nat.le_refl _) d_H_goOn_11 ⟨rfl, rfl⟩

set_option maxRecDepth 100000 in
set_option maxHeartbeats 4000000 in
theorem c_H_disorient (l : Launch) (E : eT) (σ : St) : FCon l E y_H_disorient ws_H_disorient 0 [.ref (E.2.2.2 14 0)] σ none (up σ 14 0 3 0) := by
  refine con_of (cc := b_H_disorient) (nL := 1) (ret := none) (by decide) (Nat.le_of_ble_eq_true rfl) (fun z X Y hn => ?_)
  have X : Cx E z b_H_disorient R_H := X
  have hz := Y.2.1
  change J E z 0 0 0 [(0, .ref (E.2.2.2 14 0))] [] (cells E σ)
  refine j_aload_n X rfl d_H_disorient_0 ?_
  refine j_iconst X d_H_disorient_1 ?_
  refine p_H_25 X d_H_disorient_2 ?_
  exact j_vret X Y (Nat.le_refl _) (Nat.le_refl _) d_H_disorient_5 ⟨rfl, rfl⟩

set_option maxRecDepth 100000 in
set_option maxHeartbeats 4000000 in
theorem c_H_moveTo (l : Launch) (E : eT) (σ : St) (a : Int) (hw : hdW σ) (ha : 0 ≤ a ∧ a < 32) : FCon l E y_H_moveTo ws_H_moveTo 1 [.ref (E.2.2.2 14 0), .int (iI a)] σ none (seS σ a) := by
  refine con_of (cc := b_H_moveTo) (nL := 2) (ret := none) (by decide) (Nat.le_of_ble_eq_true rfl) (fun z X Y hn => ?_)
  have X : Cx E z b_H_moveTo R_H := X
  have hz := Y.2.1
  change J E z 0 0 0 [(0, .ref (E.2.2.2 14 0)), (1, .int (iI a))] [] (cells E σ)
  have hw1 := hw.1
  have hw2 := hw.2
  refine j_aload_n X rfl d_H_moveTo_0 ?_
  refine j_bipush X rfl d_H_moveTo_1 ?_
  refine j_iconst X d_H_moveTo_3 ?_
  refine j_iload_n X rfl d_H_moveTo_4 ?_
  refine j_aload_n X rfl d_H_moveTo_5 ?_
  refine g_H_15 X d_H_moveTo_6 ?_
  refine j_isub X d_H_moveTo_9 ?_
  refine j_mabs X mm_H_28 (by omega) hz rfl (Nat.le_of_ble_eq_true rfl) ⟨Nat.le_refl _, Nat.le_refl _⟩ d_H_moveTo_10 ?_
  refine j_imul X d_H_moveTo_13 ?_
  refine j_iadd X d_H_moveTo_14 ?_
  refine v_H_34 X hz (c_H_goOn (zl z) E σ (10 + 3 * (if 0 ≤ a - σ 14 0 2 then a - σ 14 0 2 else -(a - σ 14 0 2))) (by split <;> omega)) rfl rfl rfl (Nat.le_of_ble_eq_true rfl) ⟨Nat.le_refl _, Nat.le_refl _⟩ d_H_moveTo_15 ?_
  refine j_aload_n X rfl d_H_moveTo_18 ?_
  refine j_iload_n X rfl d_H_moveTo_19 ?_
  refine p_H_15 X d_H_moveTo_20 ?_
  refine j_aload_n X rfl d_H_moveTo_23 ?_
  refine v_H_38 X hz (c_H_disorient (zl z) E _) rfl rfl rfl (Nat.le_of_ble_eq_true rfl) ⟨Nat.le_refl _, Nat.le_refl _⟩ d_H_moveTo_24 ?_
  exact j_vret X Y (Nat.le_refl _) (Nat.le_refl _) d_H_moveTo_27 ⟨rfl, rfl⟩

set_option maxRecDepth 100000 in
set_option maxHeartbeats 4000000 in
theorem c_H_goTo (l : Launch) (E : eT) (σ : St) (p : Int) (hw : hdW σ) (hp : 0 ≤ p ∧ p ≤ 600) : FCon l E y_H_goTo ws_H_goTo 0 [.ref (E.2.2.2 14 0), .int (iI p)] σ none (gtS σ p) := by
  refine con_of (cc := b_H_goTo) (nL := 3) (ret := none) (by decide) (Nat.le_of_ble_eq_true rfl) (fun z X Y hn => ?_)
  have X : Cx E z b_H_goTo R_H := X
  have hz := Y.2.1
  change J E z 0 0 0 [(0, .ref (E.2.2.2 14 0)), (1, .int (iI p))] [] (cells E σ)
  have hw1 := hw.1
  have hw2 := hw.2
  refine j_aload_n X rfl d_H_goTo_0 ?_
  refine g_H_19 X d_H_goTo_1 ?_
  refine j_ldc2 (a := 600) X kl_H_23 rfl d_H_goTo_4 ?_
  refine j_lrem X (by omega) (by omega) (by omega) (by omega) d_H_goTo_7 ?_
  refine j_l2i X d_H_goTo_8 ?_
  refine j_istore_n X (zlt hn rfl) d_H_goTo_9 ?_
  refine j_aload_n X rfl d_H_goTo_10 ?_
  refine j_dup X rfl d_H_goTo_11 ?_
  refine g_H_19 X d_H_goTo_12 ?_
  refine j_iload_n X rfl d_H_goTo_15 ?_
  refine j_iload_n X rfl d_H_goTo_16 ?_
  refine j_isub X d_H_goTo_17 ?_
  refine j_sipush X rfl d_H_goTo_18 ?_
  refine j_iadd X d_H_goTo_21 ?_
  refine j_sipush X rfl d_H_goTo_22 ?_
  refine j_irem X (by omega) (by omega) (by omega) (by omega) d_H_goTo_25 ?_
  refine j_i2l X (by omega) d_H_goTo_26 ?_
  refine j_ladd X d_H_goTo_27 ?_
  refine p_H_19 X d_H_goTo_28 ?_
  exact j_vret X Y (Nat.le_refl _) (Nat.le_refl _) d_H_goTo_31 ⟨rfl, rfl⟩

set_option maxRecDepth 100000 in
set_option maxHeartbeats 4000000 in
theorem c_H_goBehind (l : Launch) (E : eT) (σ : St) (p : Int) (hw : hdW σ) (hp : 1 ≤ p ∧ p ≤ 3) (hk : 0 ≤ σ 14 0 3 ∧ σ 14 0 3 < 31) (hb : 0 ≤ pbS σ (σ 14 0 2) (σ 14 0 3) p ∧ pbS σ (σ 14 0 2) (σ 14 0 3) p ≤ 600) : FCon l E y_H_goBehind ws_H_goBehind 1 [.ref (E.2.2.2 14 0), .int (iI p)] σ none (gbS σ p) := by
  refine con_of (cc := b_H_goBehind) (nL := 2) (ret := none) (by decide) (Nat.le_of_ble_eq_true rfl) (fun z X Y hn => ?_)
  have X : Cx E z b_H_goBehind R_H := X
  have hz := Y.2.1
  change J E z 0 0 0 [(0, .ref (E.2.2.2 14 0)), (1, .int (iI p))] [] (cells E σ)
  have hw1 := hw.1
  have hw2 := hw.2
  refine j_aload_n X rfl d_H_goBehind_0 ?_
  refine j_iload_n X rfl d_H_goBehind_1 ?_
  refine p_H_48 X d_H_goBehind_2 ?_
  refine j_aload_n X rfl d_H_goBehind_5 ?_
  refine j_aload_n X rfl d_H_goBehind_6 ?_
  refine g_H_9 X d_H_goBehind_7 ?_
  refine j_aload_n X rfl d_H_goBehind_10 ?_
  refine g_H_15 X d_H_goBehind_11 ?_
  refine j_topi (y := iI (σ 14 0 2)) rfl ?_
  refine j_aald X (by omega) d_H_goBehind_14 ?_
  refine j_aload_n X rfl d_H_goBehind_15 ?_
  refine g_H_25 X d_H_goBehind_16 ?_
  refine j_topi (y := iI (σ 14 0 3)) rfl ?_
  refine j_iload_n X rfl d_H_goBehind_19 ?_
  refine v_H_51 X (okCT rfl (by omega)) hz (c_T_placeBehind (zl z) E (up σ 14 0 4 p) (σ 14 0 2) (σ 14 0 3) p hw1 hk (by omega)) rfl rfl rfl (Nat.le_of_ble_eq_true rfl) ⟨Nat.le_refl _, Nat.le_refl _⟩ d_H_goBehind_20 ?_
  refine v_H_57 X hz (c_H_goTo (zl z) E (up σ 14 0 4 p) (pbS σ (σ 14 0 2) (σ 14 0 3) p) hw hb) rfl rfl rfl (Nat.le_of_ble_eq_true rfl) ⟨Nat.le_refl _, Nat.le_refl _⟩ d_H_goBehind_23 ?_
  exact j_vret X Y (Nat.le_refl _) (Nat.le_refl _) d_H_goBehind_26 ⟨rfl, rfl⟩

set_option maxRecDepth 100000 in
set_option maxHeartbeats 4000000 in
theorem c_H_goToEnd (l : Launch) (E : eT) (σ : St) (hw : hdW σ) (hk : 0 ≤ σ 14 0 3 ∧ σ 14 0 3 < 31) (hb : 0 ≤ pbS σ (σ 14 0 2) (σ 14 0 3) 3 ∧ pbS σ (σ 14 0 2) (σ 14 0 3) 3 ≤ 600) : FCon l E y_H_goToEnd ws_H_goToEnd 1 [.ref (E.2.2.2 14 0)] σ none (gtS σ (pbS σ (σ 14 0 2) (σ 14 0 3) 3)) := by
  refine con_of (cc := b_H_goToEnd) (nL := 1) (ret := none) (by decide) (Nat.le_of_ble_eq_true rfl) (fun z X Y hn => ?_)
  have X : Cx E z b_H_goToEnd R_H := X
  have hz := Y.2.1
  change J E z 0 0 0 [(0, .ref (E.2.2.2 14 0))] [] (cells E σ)
  have hw1 := hw.1
  have hw2 := hw.2
  refine j_aload_n X rfl d_H_goToEnd_0 ?_
  refine j_aload_n X rfl d_H_goToEnd_1 ?_
  refine g_H_9 X d_H_goToEnd_2 ?_
  refine j_aload_n X rfl d_H_goToEnd_5 ?_
  refine g_H_15 X d_H_goToEnd_6 ?_
  refine j_aald X (by omega) d_H_goToEnd_9 ?_
  refine j_aload_n X rfl d_H_goToEnd_10 ?_
  refine g_H_25 X d_H_goToEnd_11 ?_
  refine j_iconst X d_H_goToEnd_14 ?_
  refine v_H_51 X (okCT rfl (by omega)) hz (c_T_placeBehind (zl z) E σ (σ 14 0 2) (σ 14 0 3) 3 hw1 hk (by decide)) rfl rfl rfl (Nat.le_of_ble_eq_true rfl) ⟨Nat.le_refl _, Nat.le_refl _⟩ d_H_goToEnd_15 ?_
  refine v_H_57 X hz (c_H_goTo (zl z) E σ (pbS σ (σ 14 0 2) (σ 14 0 3) 3) hw hb) rfl rfl rfl (Nat.le_of_ble_eq_true rfl) ⟨Nat.le_refl _, Nat.le_refl _⟩ d_H_goToEnd_18 ?_
  exact j_vret X Y (Nat.le_refl _) (Nat.le_refl _) d_H_goToEnd_21 ⟨rfl, rfl⟩

set_option maxRecDepth 100000 in
set_option maxHeartbeats 4000000 in
theorem c_H_orientToNew (l : Launch) (E : eT) (σ : St) (k : Int) (hw : hdW σ) (hk : 0 ≤ k ∧ k < 31) (hb : 0 ≤ pbS σ (σ 14 0 2) k 3 ∧ pbS σ (σ 14 0 2) k 3 ≤ 600) : FCon l E y_H_orientToNew ws_H_orientToNew 2 [.ref (E.2.2.2 14 0), .int (iI k)] σ none (gbS (up σ 14 0 3 k) 3) := by
  refine con_of (cc := b_H_orientToNew) (nL := 2) (ret := none) (by decide) (Nat.le_of_ble_eq_true rfl) (fun z X Y hn => ?_)
  have X : Cx E z b_H_orientToNew R_H := X
  have hz := Y.2.1
  change J E z 0 0 0 [(0, .ref (E.2.2.2 14 0)), (1, .int (iI k))] [] (cells E σ)
  have hw1 := hw.1
  have hw2 := hw.2
  refine j_aload_n X rfl d_H_orientToNew_0 ?_
  refine j_iload_n X rfl d_H_orientToNew_1 ?_
  refine p_H_25 X d_H_orientToNew_2 ?_
  refine j_aload_n X rfl d_H_orientToNew_5 ?_
  refine j_iconst X d_H_orientToNew_6 ?_
  refine v_H_45 X hz (c_H_goBehind (zl z) E (up σ 14 0 3 k) 3 hw (by omega) hk hb) rfl rfl rfl (Nat.le_of_ble_eq_true rfl) ⟨Nat.le_refl _, Nat.le_refl _⟩ d_H_orientToNew_7 ?_
  exact j_vret X Y (Nat.le_refl _) (Nat.le_refl _) d_H_orientToNew_10 ⟨rfl, rfl⟩

set_option maxRecDepth 100000 in
set_option maxHeartbeats 4000000 in
theorem c_H_moveOn (l : Launch) (E : eT) (σ : St) (hw : hdW σ) (htk : tkW σ (σ 14 0 2)) (hr : rg σ) (hk : 0 ≤ σ 14 0 3 ∧ σ 14 0 3 ≤ σ 4 (σ 14 0 2) 4)  : FCon l E y_H_moveOn ws_H_moveOn 1 [.ref (E.2.2.2 14 0)] σ (some (.int (iI (b2i (decide (¬ σ 4 (σ 14 0 2) 4 = 0)))))) (if σ 4 (σ 14 0 2) 4 = 0 then mv0 σ else mvS σ) := by
  refine con_of (cc := b_H_moveOn) (nL := 3) (ret := (some .boolean)) (by decide) (Nat.le_of_ble_eq_true rfl) (fun z X Y hn => ?_)
  have X : Cx E z b_H_moveOn R_H := X
  have hz := Y.2.1
  change J E z 0 0 0 [(0, .ref (E.2.2.2 14 0))] [] (cells E σ)
  have hw1 := hw.1
  have hw2 := hw.2
  have hn4 := htk.1
  refine j_aload_n X rfl d_H_moveOn_0 ?_
  refine g_H_9 X d_H_moveOn_1 ?_
  refine j_aload_n X rfl d_H_moveOn_4 ?_
  refine g_H_15 X d_H_moveOn_5 ?_
  refine j_aald X (by omega) d_H_moveOn_8 ?_
  refine j_astore_n X (zlt hn rfl) d_H_moveOn_9 ?_
  refine j_aload_n X rfl d_H_moveOn_10 ?_
  refine g_H_60 X (okCT rfl (by omega)) d_H_moveOn_11 ?_
  refine j_if_ne X (by omega) d_H_moveOn_14 (tgt := 35) rfl (fun h14 => ?_) (fun h14 => ?_)
  · skip
    refine j_aload_n X rfl d_H_moveOn_35 ?_
    refine g_H_19 X d_H_moveOn_36 ?_
    refine j_ldc2 (a := 600) X kl_H_23 rfl d_H_moveOn_39 ?_
    refine j_lrem X (by omega) (by omega) (by omega) (by omega) d_H_moveOn_42 ?_
    refine j_l2i X d_H_moveOn_43 ?_
    refine j_istore_n X (zlt hn rfl) d_H_moveOn_44 ?_
    refine j_aload_n X rfl d_H_moveOn_45 ?_
    refine j_aload_n X rfl d_H_moveOn_46 ?_
    refine g_H_25 X d_H_moveOn_47 ?_
    refine j_if_ne X (by omega) d_H_moveOn_50 (tgt := 61) rfl (fun h50 => ?_) (fun h50 => ?_)
    · skip
      refine j_aload_n X rfl d_H_moveOn_61 ?_
      refine j_aload_n X rfl d_H_moveOn_62 ?_
      refine g_H_25 X d_H_moveOn_63 ?_
      refine v_H_72 X (okCT rfl (by omega)) hz (c_T_numberBehind (zl z) E σ (σ 14 0 2) (σ 14 0 3) hw1 (by omega) hr) rfl rfl rfl (Nat.le_of_ble_eq_true rfl) ⟨Nat.le_refl _, Nat.le_refl _⟩ d_H_moveOn_66 ?_
      refine j_topi (y := iI (mvR σ)) (by unfold mvR; rw [if_neg h50]) ?_
      refine p_H_25 X d_H_moveOn_69 ?_
      refine j_aload_n X rfl d_H_moveOn_72 ?_
      refine j_aload_n X rfl d_H_moveOn_73 ?_
      refine j_aload_n X rfl d_H_moveOn_74 ?_
      refine g_H_25 X d_H_moveOn_75 ?_
      refine j_topi (y := iI (mvR σ)) rfl ?_
      have hm := mvR_in (σ := σ) (by omega) hk.1
      have hmk := htk.2.2 (mvR σ) hm.1 hm.2
      refine v_H_75 X (okCT rfl (by omega)) hz (c_T_beginOf (zl z) E (up σ 14 0 3 (mvR σ)) (σ 14 0 2) (mvR σ) hw1 (by omega)) rfl rfl rfl (Nat.le_of_ble_eq_true rfl) ⟨Nat.le_refl _, Nat.le_refl _⟩ d_H_moveOn_78 ?_
      refine v_H_57 X hz (c_H_goTo (zl z) E (up σ 14 0 3 (mvR σ)) (σ 5 (σ 14 0 2) (mvR σ)) hw (by omega)) rfl rfl rfl (Nat.le_of_ble_eq_true rfl) ⟨Nat.le_refl _, Nat.le_refl _⟩ d_H_moveOn_81 ?_
      refine j_iconst X d_H_moveOn_84 ?_
      exact j_zret X Y (by first | rfl | exact b2i_nar _) (Nat.le_refl _) (Nat.le_refl _) d_H_moveOn_85 ⟨by rw [b2i_t (by omega)], by rw [if_neg h14]; rfl⟩
    · skip
      refine j_aload_n X rfl d_H_moveOn_53 ?_
      refine j_iload_n X rfl d_H_moveOn_54 ?_
      refine v_H_69 X (okCT rfl (by omega)) hz (c_T_firstFrom (zl z) E σ (σ 14 0 2) (σ 14 0 1 % 600) hw1 (by omega) hr hn4) rfl rfl rfl (Nat.le_of_ble_eq_true rfl) ⟨Nat.le_refl _, Nat.le_refl _⟩ d_H_moveOn_55 ?_
      refine j_topi (y := iI (mvR σ)) (by unfold mvR; rw [if_pos h50]) ?_
      refine j_goto X d_H_moveOn_58 (tgt := 69) rfl ?_
      refine p_H_25 X d_H_moveOn_69 ?_
      refine j_aload_n X rfl d_H_moveOn_72 ?_
      refine j_aload_n X rfl d_H_moveOn_73 ?_
      refine j_aload_n X rfl d_H_moveOn_74 ?_
      refine g_H_25 X d_H_moveOn_75 ?_
      refine j_topi (y := iI (mvR σ)) rfl ?_
      have hm := mvR_in (σ := σ) (by omega) hk.1
      have hmk := htk.2.2 (mvR σ) hm.1 hm.2
      refine v_H_75 X (okCT rfl (by omega)) hz (c_T_beginOf (zl z) E (up σ 14 0 3 (mvR σ)) (σ 14 0 2) (mvR σ) hw1 (by omega)) rfl rfl rfl (Nat.le_of_ble_eq_true rfl) ⟨Nat.le_refl _, Nat.le_refl _⟩ d_H_moveOn_78 ?_
      refine v_H_57 X hz (c_H_goTo (zl z) E (up σ 14 0 3 (mvR σ)) (σ 5 (σ 14 0 2) (mvR σ)) hw (by omega)) rfl rfl rfl (Nat.le_of_ble_eq_true rfl) ⟨Nat.le_refl _, Nat.le_refl _⟩ d_H_moveOn_81 ?_
      refine j_iconst X d_H_moveOn_84 ?_
      exact j_zret X Y (by first | rfl | exact b2i_nar _) (Nat.le_refl _) (Nat.le_refl _) d_H_moveOn_85 ⟨by rw [b2i_t (by omega)], by rw [if_neg h14]; rfl⟩
  · skip
    refine j_aload_n X rfl d_H_moveOn_17 ?_
    refine j_aload_n X rfl d_H_moveOn_18 ?_
    refine v_H_63 X hz (c_H_turns (zl z) E σ hw) rfl rfl rfl (Nat.le_of_ble_eq_true rfl) ⟨Nat.le_refl _, Nat.le_refl _⟩ d_H_moveOn_19 ?_
    refine j_ldc2 (a := 2) X kl_H_67 rfl d_H_moveOn_22 ?_
    refine j_ladd X d_H_moveOn_25 ?_
    refine j_ldc2 (a := 600) X kl_H_23 rfl d_H_moveOn_26 ?_
    refine j_lmul X d_H_moveOn_29 ?_
    refine p_H_19 X d_H_moveOn_30 ?_
    refine j_iconst X d_H_moveOn_33 ?_
    exact j_zret X Y (by first | rfl | exact b2i_nar _) (Nat.le_refl _) (Nat.le_refl _) d_H_moveOn_34 ⟨by rw [b2i_f (by omega)], by rw [if_pos h14]; rfl⟩
