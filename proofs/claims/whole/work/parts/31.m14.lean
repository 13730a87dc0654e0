/-! store and fetch -/
theorem ap_pb {σ : St} {t kl dl : Int} : pbS (apS σ t kl dl) t (σ 4 t 4 + 1) 1 = σ 5 t (σ 4 t 4 + 1) + 20 ∧ pbS (apS σ t kl dl) t (σ 4 t 4 + 1) 2 = σ 5 t (σ 4 t 4 + 1) + 20 + kl ∧ pbS (apS σ t kl dl) t (σ 4 t 4 + 1) 3 = σ 5 t (σ 4 t 4 + 1) + 20 + kl + dl := by
  have e5 : apS σ t kl dl 5 t (σ 4 t 4 + 1) = σ 5 t (σ 4 t 4 + 1) := by rw [ap_5, if_neg (by omega)]
  have e6 : apS σ t kl dl 6 t (σ 4 t 4 + 1) = kl := by rw [ap_6, if_pos ⟨rfl, rfl⟩]
  have e5' : apS σ t kl dl 5 t (σ 4 t 4 + 1 + 1) = σ 5 t (σ 4 t 4 + 1) + 20 + kl + dl := by rw [ap_5, if_pos ⟨rfl, rfl⟩]
  unfold pbS
  rw [if_neg (by decide), if_neg (by decide), if_neg (by decide), if_pos rfl, if_pos rfl, e5, e6, e5']
  exact ⟨rfl, rfl, rfl⟩
theorem wk_pb {σ : St} {t f key n t' k p : Int} : pbS (wkS σ t f key n) t' k p = pbS σ t' k p := rfl
/-- a new record with a key of four bytes -/
def nwS (σ : St) (t key len : Int) : St := up (wrS (wkS (apS σ t 4 len) t (σ 5 t (σ 4 t 4 + 1) + 20) key 4) t (σ 5 t (σ 4 t 4 + 1) + 20 + 4) 0 len) 7 t (σ 4 t 4 + 1) 0

set_option maxRecDepth 100000 in
set_option maxHeartbeats 4000000 in
theorem c_U_storeNew (l : Launch) (E : eT) (σ : St) (a key len : Int) (h : clW σ) (ha : inR a) (hk : inR key) (hl : 0 ≤ len ∧ len ≤ 60) (hw : ¬ (twL σ a key (cnO (σ 17 0) a 32) (24 + len) 4 0) = -1) : FCon l E y_U_storeNew ws_U_storeNew 3 [.ref (E.2.2.2 0 0), .int (iI a), .int (iI key), .int (iI len)] σ (some (.int (iI (twL σ a key (cnO (σ 17 0) a 32) (24 + len) 4 0)))) (nwS σ (twL σ a key (cnO (σ 17 0) a 32) (24 + len) 4 0) key len) := by
  refine con_of (cc := b_U_storeNew) (nL := 7) (ret := (some .int)) (by decide) (Nat.le_of_ble_eq_true rfl) (fun z X Y hn => ?_)
  have X : Cx E z b_U_storeNew R_U := X
  have hz := Y.2.1
  change J E z 0 0 0 [(0, .ref (E.2.2.2 0 0)), (1, .int (iI a)), (2, .int (iI key)), (3, .int (iI len))] [] (cells E σ)
  have hr := h.1
  have hi := twL_in (σ := σ) (a := a) (key := key) (n := cnO (σ 17 0) a 32) (len := 24 + len) 4 0 hw
  generalize et : twL σ a key (cnO (σ 17 0) a 32) (24 + len) 4 0 = t at hi hw ⊢
  have h4 := cw_n4 h hi.1
  have he := tk_end (h.2.1 t hi.1.1 hi.1.2).1 ⟨h4.1, Int.le_refl _⟩
  obtain ⟨pb1, pb2, pb3⟩ := ap_pb (σ := σ) (t := t) (kl := 4) (dl := len)
  have b9 : byR (apS σ t 4 len 9 t) := (h.2.1 t hi.1.1 hi.1.2).2.1
  refine j_aload_n X rfl d_U_storeNew_0 ?_
  refine g_U_53 X d_U_storeNew_1 ?_
  refine j_iload_n X rfl d_U_storeNew_4 ?_
  refine j_iload_n X rfl d_U_storeNew_5 ?_
  refine j_bipush X rfl d_U_storeNew_6 ?_
  refine j_iload_n X rfl d_U_storeNew_8 ?_
  refine j_iadd X d_U_storeNew_9 ?_
  refine v_U_184 X hz (c_D_trackWithRoom (zl z) E σ a key (24 + len) h ha hk (by omega)) rfl rfl rfl (Nat.le_of_ble_eq_true rfl) ⟨Nat.le_refl _, Nat.le_refl _⟩ d_U_storeNew_10 ?_
  rw [et]
  refine j_istore X (zlt hn rfl) d_U_storeNew_13 ?_
  refine j_iload X rfl d_U_storeNew_15 ?_
  refine j_iconst X d_U_storeNew_17 ?_
  refine j_icmp_eq X (by omega) (by omega) d_U_storeNew_18 (tgt := 25) rfl (fun h18 => ?_) (fun h18 => ?_)
  · exact absurd h18 (by omega)
  · skip
    refine j_iconst X d_U_storeNew_21 ?_
    refine j_goto X d_U_storeNew_22 (tgt := 26) rfl ?_
    refine s_U_72 X hz (c_U_needState (zl z) E σ) rfl rfl rfl (Nat.le_of_ble_eq_true rfl) ⟨Nat.le_refl _, Nat.le_refl _⟩ d_U_storeNew_26 ?_
    refine j_aload_n X rfl d_U_storeNew_29 ?_
    refine g_U_20 X d_U_storeNew_30 ?_
    refine j_iload X rfl d_U_storeNew_33 ?_
    refine j_aald X (by omega) d_U_storeNew_35 ?_
    refine j_astore X (zlt hn rfl) d_U_storeNew_36 ?_
    refine j_aload X rfl d_U_storeNew_38 ?_
    refine j_iconst X d_U_storeNew_40 ?_
    refine j_iload_n X rfl d_U_storeNew_41 ?_
    refine v_U_187 X (okCT rfl (by omega)) hz (c_T_append (zl z) E σ t 4 len (by omega) (by omega)) rfl rfl rfl (Nat.le_of_ble_eq_true rfl) ⟨Nat.le_refl _, Nat.le_refl _⟩ d_U_storeNew_42 ?_
    refine j_istore X (zlt hn rfl) d_U_storeNew_45 ?_
    refine j_aload X rfl d_U_storeNew_47 ?_
    refine j_iload X rfl d_U_storeNew_49 ?_
    refine j_iload_n X rfl d_U_storeNew_51 ?_
    refine v_U_190 X (okCT rfl (by omega)) hz (c_T_writeKey (zl z) E (apS σ t 4 len) t (σ 4 t 4 + 1) key (by omega) (by omega) b9 (by rw [pb1]; omega) (by rw [pb1]; omega)) rfl rfl rfl (Nat.le_of_ble_eq_true rfl) ⟨Nat.le_refl _, Nat.le_refl _⟩ d_U_storeNew_52 ?_
    rw [pb1]
    refine j_aload X rfl d_U_storeNew_55 ?_
    refine j_iload X rfl d_U_storeNew_57 ?_
    refine j_aload_n X rfl d_U_storeNew_59 ?_
    refine g_U_14 X d_U_storeNew_60 ?_
    refine j_iconst X d_U_storeNew_63 ?_
    refine v_U_176 X (okCT rfl (by omega)) hz (c_T_writeData (zl z) E (wkS (apS σ t 4 len) t (σ 5 t (σ 4 t 4 + 1) + 20) key 4) t (σ 4 t 4 + 1) 0 (by omega) (by omega) (wk_by b9) h.2.2.1 (by omega) (by show (0 : Int) + (pbS (apS σ t 4 len) t (σ 4 t 4 + 1) 3 - pbS (apS σ t 4 len) t (σ 4 t 4 + 1) 2) ≤ 256; rw [pb2, pb3]; omega) (by show 0 ≤ pbS (apS σ t 4 len) t (σ 4 t 4 + 1) 3 - pbS (apS σ t 4 len) t (σ 4 t 4 + 1) 2; rw [pb2, pb3]; omega) (by show 0 ≤ pbS (apS σ t 4 len) t (σ 4 t 4 + 1) 2; rw [pb2]; omega) (by show pbS (apS σ t 4 len) t (σ 4 t 4 + 1) 3 ≤ 600; rw [pb3]; omega)) rfl rfl rfl (Nat.le_of_ble_eq_true rfl) ⟨Nat.le_refl _, Nat.le_refl _⟩ d_U_storeNew_64 ?_
    refine j_iload X rfl d_U_storeNew_67 ?_
    exact j_iret X Y (Nat.le_refl _) (Nat.le_refl _) d_U_storeNew_69 ⟨by rw [et], by rw [et]; unfold nwS; show cells E (up (wrS _ t (pbS (apS σ t 4 len) t (σ 4 t 4 + 1) 2) 0 (pbS (apS σ t 4 len) t (σ 4 t 4 + 1) 3 - pbS (apS σ t 4 len) t (σ 4 t 4 + 1) 2)) 7 t (σ 4 t 4 + 1) 0) = _; rw [pb2, pb3, show σ 5 t (σ 4 t 4 + 1) + 20 + 4 + len - (σ 5 t (σ 4 t 4 + 1) + 20 + 4) = len by omega]⟩

set_option maxRecDepth 100000 in
set_option maxHeartbeats 4000000 in
theorem x_U_storeNew (l : Launch) (hl0 : l.stackTraces = false) (E : eT) (σ : St) (a key len : Int) (h : clW σ) (ha : inR a) (hk : inR key) (hl : 0 ≤ len ∧ len ≤ 60) (hw : (twL σ a key (cnO (σ 17 0) a 32) (24 + len) 4 0) = -1) : TCon l E y_U_storeNew ws_U_storeNew 7 1 6 [.ref (E.2.2.2 0 0), .int (iI a), .int (iI key), .int (iI len)] (cells E σ) isX (cells E σ) := by
  refine tcon_of (cc := b_U_storeNew) (nL := 7) (ret := (some .int)) (by decide) (Nat.le_of_ble_eq_true rfl) (fun z X Y hn => ?_)
  have X : Cx E z b_U_storeNew R_U := X
  have hz := Y.2.1
  have hs : (zl z).stackTraces = false := by rw [Y.1]; exact hl0
  change J E z 0 0 0 [(0, .ref (E.2.2.2 0 0)), (1, .int (iI a)), (2, .int (iI key)), (3, .int (iI len))] [] (cells E σ)
  have hr := h.1
  refine j_aload_n X rfl d_U_storeNew_0 ?_
  refine g_U_53 X d_U_storeNew_1 ?_
  refine j_iload_n X rfl d_U_storeNew_4 ?_
  refine j_iload_n X rfl d_U_storeNew_5 ?_
  refine j_bipush X rfl d_U_storeNew_6 ?_
  refine j_iload_n X rfl d_U_storeNew_8 ?_
  refine j_iadd X d_U_storeNew_9 ?_
  refine v_U_184 X hz (c_D_trackWithRoom (zl z) E σ a key (24 + len) h ha hk (by omega)) rfl rfl rfl (Nat.le_of_ble_eq_true rfl) ⟨Nat.zero_le _, Nat.zero_le _⟩ d_U_storeNew_10 ?_
  rw [hw]
  refine j_istore X (zlt hn rfl) d_U_storeNew_13 ?_
  refine j_iload X rfl d_U_storeNew_15 ?_
  refine j_iconst X d_U_storeNew_17 ?_
  refine j_icmp_eq X (by omega) (by omega) d_U_storeNew_18 (tgt := 25) rfl (fun h18 => ?_) (fun h18 => ?_)
  · skip
    refine j_iconst X d_U_storeNew_25 ?_
    exact j_out X Y ⟨Nat.le_refl _, Nat.le_refl _⟩ (fun H locs ls hP hD hS hLs => t_cS X mc_U_72 yo_U_needState rfl rfl hz (x_U_needState _ hs E _) rfl rfl rfl (Nat.le_of_ble_eq_true rfl) ⟨Nat.le_refl _, Nat.le_refl _⟩ d_U_storeNew_26 hP hD hS hLs)
  · exact absurd h18 (by omega)

set_option maxRecDepth 100000 in
set_option maxHeartbeats 4000000 in
theorem x_U_store1 (l : Launch) (hl0 : l.stackTraces = false) (E : eT) (σ : St) (a key len : Int) (hi : inR a) (ha : ¬ (0 ≤ a ∧ a ≤ 5)) : TCon l E y_U_store ws_U_store 8 1 6 [.ref (E.2.2.2 0 0), .int (iI a), .int (iI key), .int (iI len)] (cells E σ) iaX (cells E σ) := by
  refine tcon_of (cc := b_U_store) (nL := 7) (ret := (some .int)) (by decide) (Nat.le_of_ble_eq_true rfl) (fun z X Y hn => ?_)
  have X : Cx E z b_U_store R_U := X
  have hz := Y.2.1
  have hs : (zl z).stackTraces = false := by rw [Y.1]; exact hl0
  change J E z 0 0 0 [(0, .ref (E.2.2.2 0 0)), (1, .int (iI a)), (2, .int (iI key)), (3, .int (iI len))] [] (cells E σ)
  refine j_iload_n X rfl d_U_store_0 ?_
  exact j_out X Y ⟨Nat.le_refl _, Nat.le_refl _⟩ (fun H locs ls hP hD hS hLs => t_cS X mc_U_146 yo_U_needSet rfl rfl hz (x_U_needSet _ hs E σ a hi ha) rfl rfl rfl (Nat.le_of_ble_eq_true rfl) ⟨Nat.le_refl _, Nat.le_refl _⟩ d_U_store_1 hP hD hS hLs)

set_option maxRecDepth 100000 in
set_option maxHeartbeats 4000000 in
theorem x_U_store2 (l : Launch) (hl0 : l.stackTraces = false) (E : eT) (σ : St) (a key len : Int) (ha : 0 ≤ a ∧ a ≤ 5) (hi : inR len) (hl : ¬ (0 ≤ len ∧ len ≤ 60)) : TCon l E y_U_store ws_U_store 8 1 6 [.ref (E.2.2.2 0 0), .int (iI a), .int (iI key), .int (iI len)] (cells E σ) iaX (cells E σ) := by
  refine tcon_of (cc := b_U_store) (nL := 7) (ret := (some .int)) (by decide) (Nat.le_of_ble_eq_true rfl) (fun z X Y hn => ?_)
  have X : Cx E z b_U_store R_U := X
  have hz := Y.2.1
  have hs : (zl z).stackTraces = false := by rw [Y.1]; exact hl0
  change J E z 0 0 0 [(0, .ref (E.2.2.2 0 0)), (1, .int (iI a)), (2, .int (iI key)), (3, .int (iI len))] [] (cells E σ)
  refine j_iload_n X rfl d_U_store_0 ?_
  refine s_U_146 X hz (c_U_needSet (zl z) E σ a ha) rfl rfl rfl (Nat.le_of_ble_eq_true rfl) ⟨Nat.zero_le _, Nat.zero_le _⟩ d_U_store_1 ?_
  refine j_iload_n X rfl d_U_store_4 ?_
  refine j_iconst X d_U_store_5 ?_
  refine j_bipush X rfl d_U_store_6 ?_
  refine s_U_57 X hz (c_isWithin (zl z) E σ len 0 60 (by omega) (by omega) (by omega)) rfl rfl rfl (Nat.le_of_ble_eq_true rfl) ⟨Nat.zero_le _, Nat.zero_le _⟩ d_U_store_8 ?_
  refine j_topi (congrArg iI (b2i_f (by omega))) ?_
  exact j_out X Y ⟨Nat.le_refl _, Nat.le_refl _⟩ (fun H locs ls hP hD hS hLs => t_cS X mc_U_61 yo_U_needArgument rfl rfl hz (x_U_needArgument _ hs E _) rfl rfl rfl (Nat.le_of_ble_eq_true rfl) ⟨Nat.le_refl _, Nat.le_refl _⟩ d_U_store_11 hP hD hS hLs)

set_option maxRecDepth 100000 in
set_option maxHeartbeats 4000000 in
theorem x_U_store3 (l : Launch) (hl0 : l.stackTraces = false) (E : eT) (σ : St) (a key len : Int) (h : clW σ) (ha : 0 ≤ a ∧ a ≤ 5) (hk : inR key) (hl : 0 ≤ len ∧ len ≤ 60) (h1 : ¬ 0 < cnO (σ 17 0) a 32) : TCon l E y_U_store ws_U_store 8 1 6 [.ref (E.2.2.2 0 0), .int (iI a), .int (iI key), .int (iI len)] (cells E σ) isX (cells E σ) := by
  refine tcon_of (cc := b_U_store) (nL := 7) (ret := (some .int)) (by decide) (Nat.le_of_ble_eq_true rfl) (fun z X Y hn => ?_)
  have X : Cx E z b_U_store R_U := X
  have hz := Y.2.1
  have hs : (zl z).stackTraces = false := by rw [Y.1]; exact hl0
  change J E z 0 0 0 [(0, .ref (E.2.2.2 0 0)), (1, .int (iI a)), (2, .int (iI key)), (3, .int (iI len))] [] (cells E σ)
  have hr := h.1
  refine j_iload_n X rfl d_U_store_0 ?_
  refine s_U_146 X hz (c_U_needSet (zl z) E σ a ha) rfl rfl rfl (Nat.le_of_ble_eq_true rfl) ⟨Nat.zero_le _, Nat.zero_le _⟩ d_U_store_1 ?_
  refine j_iload_n X rfl d_U_store_4 ?_
  refine j_iconst X d_U_store_5 ?_
  refine j_bipush X rfl d_U_store_6 ?_
  refine s_U_57 X hz (c_isWithin (zl z) E σ len 0 60 (by omega) (by omega) (by omega)) rfl rfl rfl (Nat.le_of_ble_eq_true rfl) ⟨Nat.zero_le _, Nat.zero_le _⟩ d_U_store_8 ?_
  refine j_topi (congrArg iI (b2i_t (by omega))) ?_
  refine s_U_61 X hz (c_U_needArgument (zl z) E σ) rfl rfl rfl (Nat.le_of_ble_eq_true rfl) ⟨Nat.zero_le _, Nat.zero_le _⟩ d_U_store_11 ?_
  refine j_aload_n X rfl d_U_store_14 ?_
  refine g_U_53 X d_U_store_15 ?_
  refine j_iload_n X rfl d_U_store_18 ?_
  refine v_U_149 X hz (c_D_isAllocated (zl z) E σ a hr (by omega)) rfl rfl rfl (Nat.le_of_ble_eq_true rfl) ⟨Nat.zero_le _, Nat.zero_le _⟩ d_U_store_19 ?_
  refine j_topi (congrArg iI (b2i_f h1)) ?_
  exact j_out X Y ⟨Nat.le_refl _, Nat.le_refl _⟩ (fun H locs ls hP hD hS hLs => t_cS X mc_U_72 yo_U_needState rfl rfl hz (x_U_needState _ hs E _) rfl rfl rfl (Nat.le_of_ble_eq_true rfl) ⟨Nat.le_refl _, Nat.le_refl _⟩ d_U_store_22 hP hD hS hLs)

set_option maxRecDepth 100000 in
set_option maxHeartbeats 4000000 in
theorem x_U_store4 (l : Launch) (hl0 : l.stackTraces = false) (E : eT) (σ : St) (a key len : Int) (h : clW σ) (ha : 0 ≤ a ∧ a ≤ 5) (hk : inR key) (hl : 0 ≤ len ∧ len ≤ 60) (h1 : 0 < cnO (σ 17 0) a 32) (h2 : (thL σ a key (cnO (σ 17 0) a 32) 4 0) = -1) (hw : (twL σ a key (cnO (σ 17 0) a 32) (24 + len) 4 0) = -1) : TCon l E y_U_store ws_U_store 8 1 6 [.ref (E.2.2.2 0 0), .int (iI a), .int (iI key), .int (iI len)] (cells E σ) isX (cells E σ) := by
  refine tcon_of (cc := b_U_store) (nL := 7) (ret := (some .int)) (by decide) (Nat.le_of_ble_eq_true rfl) (fun z X Y hn => ?_)
  have X : Cx E z b_U_store R_U := X
  have hz := Y.2.1
  have hs : (zl z).stackTraces = false := by rw [Y.1]; exact hl0
  change J E z 0 0 0 [(0, .ref (E.2.2.2 0 0)), (1, .int (iI a)), (2, .int (iI key)), (3, .int (iI len))] [] (cells E σ)
  have hr := h.1
  refine j_iload_n X rfl d_U_store_0 ?_
  refine s_U_146 X hz (c_U_needSet (zl z) E σ a ha) rfl rfl rfl (Nat.le_of_ble_eq_true rfl) ⟨Nat.zero_le _, Nat.zero_le _⟩ d_U_store_1 ?_
  refine j_iload_n X rfl d_U_store_4 ?_
  refine j_iconst X d_U_store_5 ?_
  refine j_bipush X rfl d_U_store_6 ?_
  refine s_U_57 X hz (c_isWithin (zl z) E σ len 0 60 (by omega) (by omega) (by omega)) rfl rfl rfl (Nat.le_of_ble_eq_true rfl) ⟨Nat.zero_le _, Nat.zero_le _⟩ d_U_store_8 ?_
  refine j_topi (congrArg iI (b2i_t (by omega))) ?_
  refine s_U_61 X hz (c_U_needArgument (zl z) E σ) rfl rfl rfl (Nat.le_of_ble_eq_true rfl) ⟨Nat.zero_le _, Nat.zero_le _⟩ d_U_store_11 ?_
  refine j_aload_n X rfl d_U_store_14 ?_
  refine g_U_53 X d_U_store_15 ?_
  refine j_iload_n X rfl d_U_store_18 ?_
  refine v_U_149 X hz (c_D_isAllocated (zl z) E σ a hr (by omega)) rfl rfl rfl (Nat.le_of_ble_eq_true rfl) ⟨Nat.zero_le _, Nat.zero_le _⟩ d_U_store_19 ?_
  refine j_topi (congrArg iI (b2i_t h1)) ?_
  refine s_U_72 X hz (c_U_needState (zl z) E σ) rfl rfl rfl (Nat.le_of_ble_eq_true rfl) ⟨Nat.zero_le _, Nat.zero_le _⟩ d_U_store_22 ?_
  refine j_aload_n X rfl d_U_store_25 ?_
  refine g_U_53 X d_U_store_26 ?_
  refine j_iload_n X rfl d_U_store_29 ?_
  refine j_iload_n X rfl d_U_store_30 ?_
  refine v_U_166 X hz (c_D_trackHolding (zl z) E σ a key h (by omega) hk) rfl rfl rfl (Nat.le_of_ble_eq_true rfl) ⟨Nat.zero_le _, Nat.zero_le _⟩ d_U_store_31 ?_
  rw [h2]
  refine j_istore X (zlt hn rfl) d_U_store_34 ?_
  refine j_iload X rfl d_U_store_36 ?_
  refine j_iconst X d_U_store_38 ?_
  refine j_icmp_ne X (by omega) (by omega) d_U_store_39 (tgt := 50) rfl (fun h39 => ?_) (fun h39 => ?_)
  · exact absurd h39 (by omega)
  · skip
    refine j_aload_n X rfl d_U_store_42 ?_
    refine j_iload_n X rfl d_U_store_43 ?_
    refine j_iload_n X rfl d_U_store_44 ?_
    refine j_iload_n X rfl d_U_store_45 ?_
    exact j_out X Y ⟨Nat.le_refl _, Nat.le_refl _⟩ (fun H locs ls hP hD hS hLs => t_cV X mc_U_169 yo_U_storeNew rfl (cl_get (okC1 rfl)) rfl hz (x_U_storeNew _ hs E σ a key len h (by omega) hk hl hw) rfl rfl rfl (Nat.le_of_ble_eq_true rfl) ⟨Nat.le_refl _, Nat.le_refl _⟩ d_U_store_46 hP hD hS hLs)

set_option maxRecDepth 100000 in
set_option maxHeartbeats 4000000 in
theorem x_U_store5 (l : Launch) (hl0 : l.stackTraces = false) (E : eT) (σ : St) (a key len : Int) (h : clW σ) (ha : 0 ≤ a ∧ a ≤ 5) (hk : inR key) (hl : 0 ≤ len ∧ len ≤ 60) (h1 : 0 < cnO (σ 17 0) a 32) (h2 : ¬ (thL σ a key (cnO (σ 17 0) a 32) 4 0) = -1) (h3 : ¬ dlS σ (thL σ a key (cnO (σ 17 0) a 32) 4 0) (noS σ (thL σ a key (cnO (σ 17 0) a 32) 4 0) key 32 1) = len) : TCon l E y_U_store ws_U_store 8 1 6 [.ref (E.2.2.2 0 0), .int (iI a), .int (iI key), .int (iI len)] (cells E σ) isX (cells E σ) := by
  refine tcon_of (cc := b_U_store) (nL := 7) (ret := (some .int)) (by decide) (Nat.le_of_ble_eq_true rfl) (fun z X Y hn => ?_)
  have X : Cx E z b_U_store R_U := X
  have hz := Y.2.1
  have hs : (zl z).stackTraces = false := by rw [Y.1]; exact hl0
  change J E z 0 0 0 [(0, .ref (E.2.2.2 0 0)), (1, .int (iI a)), (2, .int (iI key)), (3, .int (iI len))] [] (cells E σ)
  have hr := h.1
  have hi := thL_in (σ := σ) (a := a) (key := key) (n := cnO (σ 17 0) a 32) 4 0 h2
  generalize et : thL σ a key (cnO (σ 17 0) a 32) 4 0 = t at *
  have h4 := cw_n4 h hi.1
  have hb := (h.2.1 t hi.1.1 hi.1.2).2.1
  have hq := noS_pos 32 1 (Int.le_refl 1) hi.2
  have htk := (h.2.1 t hi.1.1 hi.1.2).1.2.2
  generalize ek : noS σ t key 32 1 = k at *
  have hk2 := htk k hq.1.1 hq.1.2
  have h64 := hq.2.1
  have hd : dlS σ t k = σ 5 t (k + 1) - (σ 5 t k + 20 + σ 6 t k) := rfl
  have hp2 : pbS σ t k 2 = σ 5 t k + 20 + σ 6 t k := rfl
  have hp3 : pbS σ t k 3 = σ 5 t (k + 1) := rfl
  refine j_iload_n X rfl d_U_store_0 ?_
  refine s_U_146 X hz (c_U_needSet (zl z) E σ a ha) rfl rfl rfl (Nat.le_of_ble_eq_true rfl) ⟨Nat.zero_le _, Nat.zero_le _⟩ d_U_store_1 ?_
  refine j_iload_n X rfl d_U_store_4 ?_
  refine j_iconst X d_U_store_5 ?_
  refine j_bipush X rfl d_U_store_6 ?_
  refine s_U_57 X hz (c_isWithin (zl z) E σ len 0 60 (by omega) (by omega) (by omega)) rfl rfl rfl (Nat.le_of_ble_eq_true rfl) ⟨Nat.zero_le _, Nat.zero_le _⟩ d_U_store_8 ?_
  refine j_topi (congrArg iI (b2i_t (by omega))) ?_
  refine s_U_61 X hz (c_U_needArgument (zl z) E σ) rfl rfl rfl (Nat.le_of_ble_eq_true rfl) ⟨Nat.zero_le _, Nat.zero_le _⟩ d_U_store_11 ?_
  refine j_aload_n X rfl d_U_store_14 ?_
  refine g_U_53 X d_U_store_15 ?_
  refine j_iload_n X rfl d_U_store_18 ?_
  refine v_U_149 X hz (c_D_isAllocated (zl z) E σ a hr (by omega)) rfl rfl rfl (Nat.le_of_ble_eq_true rfl) ⟨Nat.zero_le _, Nat.zero_le _⟩ d_U_store_19 ?_
  refine j_topi (congrArg iI (b2i_t h1)) ?_
  refine s_U_72 X hz (c_U_needState (zl z) E σ) rfl rfl rfl (Nat.le_of_ble_eq_true rfl) ⟨Nat.zero_le _, Nat.zero_le _⟩ d_U_store_22 ?_
  refine j_aload_n X rfl d_U_store_25 ?_
  refine g_U_53 X d_U_store_26 ?_
  refine j_iload_n X rfl d_U_store_29 ?_
  refine j_iload_n X rfl d_U_store_30 ?_
  refine v_U_166 X hz (c_D_trackHolding (zl z) E σ a key h (by omega) hk) rfl rfl rfl (Nat.le_of_ble_eq_true rfl) ⟨Nat.zero_le _, Nat.zero_le _⟩ d_U_store_31 ?_
  rw [et]
  refine j_istore X (zlt hn rfl) d_U_store_34 ?_
  refine j_iload X rfl d_U_store_36 ?_
  refine j_iconst X d_U_store_38 ?_
  refine j_icmp_ne X (by omega) (by omega) d_U_store_39 (tgt := 50) rfl (fun h39 => ?_) (fun h39 => ?_)
  · skip
    refine j_aload_n X rfl d_U_store_50 ?_
    refine g_U_20 X d_U_store_51 ?_
    refine j_iload X rfl d_U_store_54 ?_
    refine j_aald X (by omega) d_U_store_56 ?_
    refine j_astore X (zlt hn rfl) d_U_store_57 ?_
    refine j_aload X rfl d_U_store_59 ?_
    refine j_iload_n X rfl d_U_store_61 ?_
    refine v_U_173 X (okCT rfl (by omega)) hz (c_T_numberOf (zl z) E σ t key (by omega) hb hr h4 (fun k q1 q2 => by have := htk k q1 q2; omega)) rfl rfl rfl (Nat.le_of_ble_eq_true rfl) ⟨Nat.zero_le _, Nat.zero_le _⟩ d_U_store_62 ?_
    rw [ek]
    refine j_istore X (zlt hn rfl) d_U_store_65 ?_
    refine j_aload X rfl d_U_store_67 ?_
    refine j_iload X rfl d_U_store_69 ?_
    refine v_U_130 X (okCT rfl (by omega)) hz (c_T_dataLength (zl z) E σ t k (by omega) (by omega)) rfl rfl rfl (Nat.le_of_ble_eq_true rfl) ⟨Nat.zero_le _, Nat.zero_le _⟩ d_U_store_71 ?_
    refine j_iload_n X rfl d_U_store_74 ?_
    refine j_icmp_ne X (by omega) (by omega) d_U_store_75 (tgt := 82) rfl (fun h75 => ?_) (fun h75 => ?_)
    · skip
      refine j_iconst X d_U_store_82 ?_
      exact j_out X Y ⟨Nat.le_refl _, Nat.le_refl _⟩ (fun H locs ls hP hD hS hLs => t_cS X mc_U_72 yo_U_needState rfl rfl hz (x_U_needState _ hs E _) rfl rfl rfl (Nat.le_of_ble_eq_true rfl) ⟨Nat.le_refl _, Nat.le_refl _⟩ d_U_store_83 hP hD hS hLs)
    · exact absurd h75 (by omega)
  · exact absurd h39 (by omega)

set_option maxRecDepth 100000 in
set_option maxHeartbeats 4000000 in
theorem c_U_store_n (l : Launch) (E : eT) (σ : St) (a key len : Int) (h : clW σ) (ha : 0 ≤ a ∧ a ≤ 5) (hk : inR key) (hl : 0 ≤ len ∧ len ≤ 60) (h1 : 0 < cnO (σ 17 0) a 32) (h2 : (thL σ a key (cnO (σ 17 0) a 32) 4 0) = -1) (hw : ¬ (twL σ a key (cnO (σ 17 0) a 32) (24 + len) 4 0) = -1) : FCon l E y_U_store ws_U_store 5 [.ref (E.2.2.2 0 0), .int (iI a), .int (iI key), .int (iI len)] σ (some (.int (iI (twL σ a key (cnO (σ 17 0) a 32) (24 + len) 4 0)))) (nwS σ (twL σ a key (cnO (σ 17 0) a 32) (24 + len) 4 0) key len) := by
  refine con_of (cc := b_U_store) (nL := 7) (ret := (some .int)) (by decide) (Nat.le_of_ble_eq_true rfl) (fun z X Y hn => ?_)
  have X : Cx E z b_U_store R_U := X
  have hz := Y.2.1
  change J E z 0 0 0 [(0, .ref (E.2.2.2 0 0)), (1, .int (iI a)), (2, .int (iI key)), (3, .int (iI len))] [] (cells E σ)
  have hr := h.1
  refine j_iload_n X rfl d_U_store_0 ?_
  refine s_U_146 X hz (c_U_needSet (zl z) E σ a ha) rfl rfl rfl (Nat.le_of_ble_eq_true rfl) ⟨Nat.le_refl _, Nat.le_refl _⟩ d_U_store_1 ?_
  refine j_iload_n X rfl d_U_store_4 ?_
  refine j_iconst X d_U_store_5 ?_
  refine j_bipush X rfl d_U_store_6 ?_
  refine s_U_57 X hz (c_isWithin (zl z) E σ len 0 60 (by omega) (by omega) (by omega)) rfl rfl rfl (Nat.le_of_ble_eq_true rfl) ⟨Nat.le_refl _, Nat.le_refl _⟩ d_U_store_8 ?_
  refine j_topi (congrArg iI (b2i_t (by omega))) ?_
  refine s_U_61 X hz (c_U_needArgument (zl z) E σ) rfl rfl rfl (Nat.le_of_ble_eq_true rfl) ⟨Nat.le_refl _, Nat.le_refl _⟩ d_U_store_11 ?_
  refine j_aload_n X rfl d_U_store_14 ?_
  refine g_U_53 X d_U_store_15 ?_
  refine j_iload_n X rfl d_U_store_18 ?_
  refine v_U_149 X hz (c_D_isAllocated (zl z) E σ a hr (by omega)) rfl rfl rfl (Nat.le_of_ble_eq_true rfl) ⟨Nat.le_refl _, Nat.le_refl _⟩ d_U_store_19 ?_
  refine j_topi (congrArg iI (b2i_t h1)) ?_
  refine s_U_72 X hz (c_U_needState (zl z) E σ) rfl rfl rfl (Nat.le_of_ble_eq_true rfl) ⟨Nat.le_refl _, Nat.le_refl _⟩ d_U_store_22 ?_
  refine j_aload_n X rfl d_U_store_25 ?_
  refine g_U_53 X d_U_store_26 ?_
  refine j_iload_n X rfl d_U_store_29 ?_
  refine j_iload_n X rfl d_U_store_30 ?_
  refine v_U_166 X hz (c_D_trackHolding (zl z) E σ a key h (by omega) hk) rfl rfl rfl (Nat.le_of_ble_eq_true rfl) ⟨Nat.le_refl _, Nat.le_refl _⟩ d_U_store_31 ?_
  rw [h2]
  refine j_istore X (zlt hn rfl) d_U_store_34 ?_
  refine j_iload X rfl d_U_store_36 ?_
  refine j_iconst X d_U_store_38 ?_
  refine j_icmp_ne X (by omega) (by omega) d_U_store_39 (tgt := 50) rfl (fun h39 => ?_) (fun h39 => ?_)
  · exact absurd h39 (by omega)
  · skip
    refine j_aload_n X rfl d_U_store_42 ?_
    refine j_iload_n X rfl d_U_store_43 ?_
    refine j_iload_n X rfl d_U_store_44 ?_
    refine j_iload_n X rfl d_U_store_45 ?_
    refine v_U_169 X hz (c_U_storeNew (zl z) E σ a key len h (by omega) hk hl hw) rfl rfl rfl (Nat.le_of_ble_eq_true rfl) ⟨Nat.le_refl _, Nat.le_refl _⟩ d_U_store_46 ?_
    exact j_iret X Y (Nat.le_refl _) (Nat.le_refl _) d_U_store_49 ⟨rfl, rfl⟩

set_option maxRecDepth 100000 in
set_option maxHeartbeats 4000000 in
theorem c_U_store_o (l : Launch) (E : eT) (σ : St) (a key len : Int) (h : clW σ) (ha : 0 ≤ a ∧ a ≤ 5) (hk : inR key) (hl : 0 ≤ len ∧ len ≤ 60) (h1 : 0 < cnO (σ 17 0) a 32) (h2 : ¬ (thL σ a key (cnO (σ 17 0) a 32) 4 0) = -1) (h3 : dlS σ (thL σ a key (cnO (σ 17 0) a 32) 4 0) (noS σ (thL σ a key (cnO (σ 17 0) a 32) 4 0) key 32 1) = len) : FCon l E y_U_store ws_U_store 5 [.ref (E.2.2.2 0 0), .int (iI a), .int (iI key), .int (iI len)] σ (some (.int (iI (thL σ a key (cnO (σ 17 0) a 32) 4 0)))) (up (wrS σ (thL σ a key (cnO (σ 17 0) a 32) 4 0) (pbS σ (thL σ a key (cnO (σ 17 0) a 32) 4 0) (noS σ (thL σ a key (cnO (σ 17 0) a 32) 4 0) key 32 1) 2) 0 len) 7 (thL σ a key (cnO (σ 17 0) a 32) 4 0) (noS σ (thL σ a key (cnO (σ 17 0) a 32) 4 0) key 32 1) 0) := by
  refine con_of (cc := b_U_store) (nL := 7) (ret := (some .int)) (by decide) (Nat.le_of_ble_eq_true rfl) (fun z X Y hn => ?_)
  have X : Cx E z b_U_store R_U := X
  have hz := Y.2.1
  change J E z 0 0 0 [(0, .ref (E.2.2.2 0 0)), (1, .int (iI a)), (2, .int (iI key)), (3, .int (iI len))] [] (cells E σ)
  have hr := h.1
  have hi := thL_in (σ := σ) (a := a) (key := key) (n := cnO (σ 17 0) a 32) 4 0 h2
  generalize et : thL σ a key (cnO (σ 17 0) a 32) 4 0 = t at *
  have h4 := cw_n4 h hi.1
  have hb := (h.2.1 t hi.1.1 hi.1.2).2.1
  have hq := noS_pos 32 1 (Int.le_refl 1) hi.2
  have htk := (h.2.1 t hi.1.1 hi.1.2).1.2.2
  generalize ek : noS σ t key 32 1 = k at *
  have hk2 := htk k hq.1.1 hq.1.2
  have h64 := hq.2.1
  have hd : dlS σ t k = σ 5 t (k + 1) - (σ 5 t k + 20 + σ 6 t k) := rfl
  have hp2 : pbS σ t k 2 = σ 5 t k + 20 + σ 6 t k := rfl
  have hp3 : pbS σ t k 3 = σ 5 t (k + 1) := rfl
  refine j_iload_n X rfl d_U_store_0 ?_
  refine s_U_146 X hz (c_U_needSet (zl z) E σ a ha) rfl rfl rfl (Nat.le_of_ble_eq_true rfl) ⟨Nat.le_refl _, Nat.le_refl _⟩ d_U_store_1 ?_
  refine j_iload_n X rfl d_U_store_4 ?_
  refine j_iconst X d_U_store_5 ?_
  refine j_bipush X rfl d_U_store_6 ?_
  refine s_U_57 X hz (c_isWithin (zl z) E σ len 0 60 (by omega) (by omega) (by omega)) rfl rfl rfl (Nat.le_of_ble_eq_true rfl) ⟨Nat.le_refl _, Nat.le_refl _⟩ d_U_store_8 ?_
  refine j_topi (congrArg iI (b2i_t (by omega))) ?_
  refine s_U_61 X hz (c_U_needArgument (zl z) E σ) rfl rfl rfl (Nat.le_of_ble_eq_true rfl) ⟨Nat.le_refl _, Nat.le_refl _⟩ d_U_store_11 ?_
  refine j_aload_n X rfl d_U_store_14 ?_
  refine g_U_53 X d_U_store_15 ?_
  refine j_iload_n X rfl d_U_store_18 ?_
  refine v_U_149 X hz (c_D_isAllocated (zl z) E σ a hr (by omega)) rfl rfl rfl (Nat.le_of_ble_eq_true rfl) ⟨Nat.le_refl _, Nat.le_refl _⟩ d_U_store_19 ?_
  refine j_topi (congrArg iI (b2i_t h1)) ?_
  refine s_U_72 X hz (c_U_needState (zl z) E σ) rfl rfl rfl (Nat.le_of_ble_eq_true rfl) ⟨Nat.le_refl _, Nat.le_refl _⟩ d_U_store_22 ?_
  refine j_aload_n X rfl d_U_store_25 ?_
  refine g_U_53 X d_U_store_26 ?_
  refine j_iload_n X rfl d_U_store_29 ?_
  refine j_iload_n X rfl d_U_store_30 ?_
  refine v_U_166 X hz (c_D_trackHolding (zl z) E σ a key h (by omega) hk) rfl rfl rfl (Nat.le_of_ble_eq_true rfl) ⟨Nat.le_refl _, Nat.le_refl _⟩ d_U_store_31 ?_
  rw [et]
  refine j_istore X (zlt hn rfl) d_U_store_34 ?_
  refine j_iload X rfl d_U_store_36 ?_
  refine j_iconst X d_U_store_38 ?_
  refine j_icmp_ne X (by omega) (by omega) d_U_store_39 (tgt := 50) rfl (fun h39 => ?_) (fun h39 => ?_)
  · skip
    refine j_aload_n X rfl d_U_store_50 ?_
    refine g_U_20 X d_U_store_51 ?_
    refine j_iload X rfl d_U_store_54 ?_
    refine j_aald X (by omega) d_U_store_56 ?_
    refine j_astore X (zlt hn rfl) d_U_store_57 ?_
    refine j_aload X rfl d_U_store_59 ?_
    refine j_iload_n X rfl d_U_store_61 ?_
    refine v_U_173 X (okCT rfl (by omega)) hz (c_T_numberOf (zl z) E σ t key (by omega) hb hr h4 (fun k q1 q2 => by have := htk k q1 q2; omega)) rfl rfl rfl (Nat.le_of_ble_eq_true rfl) ⟨Nat.le_refl _, Nat.le_refl _⟩ d_U_store_62 ?_
    rw [ek]
    refine j_istore X (zlt hn rfl) d_U_store_65 ?_
    refine j_aload X rfl d_U_store_67 ?_
    refine j_iload X rfl d_U_store_69 ?_
    refine v_U_130 X (okCT rfl (by omega)) hz (c_T_dataLength (zl z) E σ t k (by omega) (by omega)) rfl rfl rfl (Nat.le_of_ble_eq_true rfl) ⟨Nat.le_refl _, Nat.le_refl _⟩ d_U_store_71 ?_
    refine j_iload_n X rfl d_U_store_74 ?_
    refine j_icmp_ne X (by omega) (by omega) d_U_store_75 (tgt := 82) rfl (fun h75 => ?_) (fun h75 => ?_)
    · exact absurd h75 (by omega)
    · skip
      refine j_iconst X d_U_store_78 ?_
      refine j_goto X d_U_store_79 (tgt := 83) rfl ?_
      refine s_U_72 X hz (c_U_needState (zl z) E σ) rfl rfl rfl (Nat.le_of_ble_eq_true rfl) ⟨Nat.le_refl _, Nat.le_refl _⟩ d_U_store_83 ?_
      refine j_aload X rfl d_U_store_86 ?_
      refine j_iload X rfl d_U_store_88 ?_
      refine j_aload_n X rfl d_U_store_90 ?_
      refine g_U_14 X d_U_store_91 ?_
      refine j_iconst X d_U_store_94 ?_
      refine v_U_176 X (okCT rfl (by omega)) hz (c_T_writeData (zl z) E σ t k 0 (by omega) (by omega) hb h.2.2.1 (by omega) (by show (0 : Int) + (pbS σ t k 3 - pbS σ t k 2) ≤ 256; omega) (by show 0 ≤ pbS σ t k 3 - pbS σ t k 2; omega) (by show 0 ≤ pbS σ t k 2; omega) (by omega)) rfl rfl rfl (Nat.le_of_ble_eq_true rfl) ⟨Nat.le_refl _, Nat.le_refl _⟩ d_U_store_95 ?_
      refine j_iload X rfl d_U_store_98 ?_
      exact j_iret X Y (Nat.le_refl _) (Nat.le_refl _) d_U_store_100 ⟨rfl, by show cells E (up (wrS σ t (pbS σ t k 2) 0 (pbS σ t k 3 - pbS σ t k 2)) 7 t k 0) = _; rw [show pbS σ t k 3 - pbS σ t k 2 = len by omega]⟩
  · exact absurd h39 (by omega)

set_option maxRecDepth 100000 in
set_option maxHeartbeats 4000000 in
theorem x_U_fetch1 (l : Launch) (hl0 : l.stackTraces = false) (E : eT) (σ : St) (a key : Int) (hi : inR a) (ha : ¬ (0 ≤ a ∧ a ≤ 5)) : TCon l E y_U_fetch ws_U_fetch 8 1 6 [.ref (E.2.2.2 0 0), .int (iI a), .int (iI key)] (cells E σ) iaX (cells E σ) := by
  refine tcon_of (cc := b_U_fetch) (nL := 7) (ret := (some .int)) (by decide) (Nat.le_of_ble_eq_true rfl) (fun z X Y hn => ?_)
  have X : Cx E z b_U_fetch R_U := X
  have hz := Y.2.1
  have hs : (zl z).stackTraces = false := by rw [Y.1]; exact hl0
  change J E z 0 0 0 [(0, .ref (E.2.2.2 0 0)), (1, .int (iI a)), (2, .int (iI key))] [] (cells E σ)
  refine j_iload_n X rfl d_U_fetch_0 ?_
  exact j_out X Y ⟨Nat.le_refl _, Nat.le_refl _⟩ (fun H locs ls hP hD hS hLs => t_cS X mc_U_146 yo_U_needSet rfl rfl hz (x_U_needSet _ hs E σ a hi ha) rfl rfl rfl (Nat.le_of_ble_eq_true rfl) ⟨Nat.le_refl _, Nat.le_refl _⟩ d_U_fetch_1 hP hD hS hLs)

set_option maxRecDepth 100000 in
set_option maxHeartbeats 4000000 in
theorem x_U_fetch2 (l : Launch) (hl0 : l.stackTraces = false) (E : eT) (σ : St) (a key : Int) (h : clW σ) (ha : 0 ≤ a ∧ a ≤ 5) (hk : inR key) (h1 : ¬ 0 < cnO (σ 17 0) a 32) : TCon l E y_U_fetch ws_U_fetch 8 1 6 [.ref (E.2.2.2 0 0), .int (iI a), .int (iI key)] (cells E σ) isX (cells E σ) := by
  refine tcon_of (cc := b_U_fetch) (nL := 7) (ret := (some .int)) (by decide) (Nat.le_of_ble_eq_true rfl) (fun z X Y hn => ?_)
  have X : Cx E z b_U_fetch R_U := X
  have hz := Y.2.1
  have hs : (zl z).stackTraces = false := by rw [Y.1]; exact hl0
  change J E z 0 0 0 [(0, .ref (E.2.2.2 0 0)), (1, .int (iI a)), (2, .int (iI key))] [] (cells E σ)
  have hr := h.1
  refine j_iload_n X rfl d_U_fetch_0 ?_
  refine s_U_146 X hz (c_U_needSet (zl z) E σ a ha) rfl rfl rfl (Nat.le_of_ble_eq_true rfl) ⟨Nat.zero_le _, Nat.zero_le _⟩ d_U_fetch_1 ?_
  refine j_aload_n X rfl d_U_fetch_4 ?_
  refine g_U_53 X d_U_fetch_5 ?_
  refine j_iload_n X rfl d_U_fetch_8 ?_
  refine v_U_149 X hz (c_D_isAllocated (zl z) E σ a hr (by omega)) rfl rfl rfl (Nat.le_of_ble_eq_true rfl) ⟨Nat.zero_le _, Nat.zero_le _⟩ d_U_fetch_9 ?_
  refine j_topi (congrArg iI (b2i_f h1)) ?_
  exact j_out X Y ⟨Nat.le_refl _, Nat.le_refl _⟩ (fun H locs ls hP hD hS hLs => t_cS X mc_U_72 yo_U_needState rfl rfl hz (x_U_needState _ hs E _) rfl rfl rfl (Nat.le_of_ble_eq_true rfl) ⟨Nat.le_refl _, Nat.le_refl _⟩ d_U_fetch_12 hP hD hS hLs)

set_option maxRecDepth 100000 in
set_option maxHeartbeats 4000000 in
theorem c_U_fetch_n (l : Launch) (E : eT) (σ : St) (a key : Int) (h : clW σ) (ha : 0 ≤ a ∧ a ≤ 5) (hk : inR key) (h1 : 0 < cnO (σ 17 0) a 32) (h2 : (thL σ a key (cnO (σ 17 0) a 32) 4 0) = -1) : FCon l E y_U_fetch ws_U_fetch 5 [.ref (E.2.2.2 0 0), .int (iI a), .int (iI key)] σ (some (.int (iI (-1)))) σ := by
  refine con_of (cc := b_U_fetch) (nL := 7) (ret := (some .int)) (by decide) (Nat.le_of_ble_eq_true rfl) (fun z X Y hn => ?_)
  have X : Cx E z b_U_fetch R_U := X
  have hz := Y.2.1
  change J E z 0 0 0 [(0, .ref (E.2.2.2 0 0)), (1, .int (iI a)), (2, .int (iI key))] [] (cells E σ)
  have hr := h.1
  refine j_iload_n X rfl d_U_fetch_0 ?_
  refine s_U_146 X hz (c_U_needSet (zl z) E σ a ha) rfl rfl rfl (Nat.le_of_ble_eq_true rfl) ⟨Nat.le_refl _, Nat.le_refl _⟩ d_U_fetch_1 ?_
  refine j_aload_n X rfl d_U_fetch_4 ?_
  refine g_U_53 X d_U_fetch_5 ?_
  refine j_iload_n X rfl d_U_fetch_8 ?_
  refine v_U_149 X hz (c_D_isAllocated (zl z) E σ a hr (by omega)) rfl rfl rfl (Nat.le_of_ble_eq_true rfl) ⟨Nat.le_refl _, Nat.le_refl _⟩ d_U_fetch_9 ?_
  refine j_topi (congrArg iI (b2i_t h1)) ?_
  refine s_U_72 X hz (c_U_needState (zl z) E σ) rfl rfl rfl (Nat.le_of_ble_eq_true rfl) ⟨Nat.le_refl _, Nat.le_refl _⟩ d_U_fetch_12 ?_
  refine j_aload_n X rfl d_U_fetch_15 ?_
  refine g_U_53 X d_U_fetch_16 ?_
  refine j_iload_n X rfl d_U_fetch_19 ?_
  refine j_iload_n X rfl d_U_fetch_20 ?_
  refine v_U_166 X hz (c_D_trackHolding (zl z) E σ a key h (by omega) hk) rfl rfl rfl (Nat.le_of_ble_eq_true rfl) ⟨Nat.le_refl _, Nat.le_refl _⟩ d_U_fetch_21 ?_
  rw [h2]
  refine j_istore_n X (zlt hn rfl) d_U_fetch_24 ?_
  refine j_iload_n X rfl d_U_fetch_25 ?_
  refine j_iconst X d_U_fetch_26 ?_
  refine j_icmp_ne X (by omega) (by omega) d_U_fetch_27 (tgt := 32) rfl (fun h27 => ?_) (fun h27 => ?_)
  · exact absurd h27 (by omega)
  · skip
    refine j_iconst X d_U_fetch_30 ?_
    exact j_iret X Y (Nat.le_refl _) (Nat.le_refl _) d_U_fetch_31 ⟨rfl, rfl⟩

set_option maxRecDepth 100000 in
set_option maxHeartbeats 4000000 in
theorem c_U_fetch_s (l : Launch) (E : eT) (σ : St) (a key : Int) (h : clW σ) (ha : 0 ≤ a ∧ a ≤ 5) (hk : inR key) (h1 : 0 < cnO (σ 17 0) a 32) (h2 : ¬ (thL σ a key (cnO (σ 17 0) a 32) 4 0) = -1) (h3 : σ 7 (thL σ a key (cnO (σ 17 0) a 32) 4 0) (noS σ (thL σ a key (cnO (σ 17 0) a 32) 4 0) key 32 1) = 1) : FCon l E y_U_fetch ws_U_fetch 5 [.ref (E.2.2.2 0 0), .int (iI a), .int (iI key)] σ (some (.int (iI (-2)))) σ := by
  refine con_of (cc := b_U_fetch) (nL := 7) (ret := (some .int)) (by decide) (Nat.le_of_ble_eq_true rfl) (fun z X Y hn => ?_)
  have X : Cx E z b_U_fetch R_U := X
  have hz := Y.2.1
  change J E z 0 0 0 [(0, .ref (E.2.2.2 0 0)), (1, .int (iI a)), (2, .int (iI key))] [] (cells E σ)
  have hr := h.1
  have hi := thL_in (σ := σ) (a := a) (key := key) (n := cnO (σ 17 0) a 32) 4 0 h2
  generalize et : thL σ a key (cnO (σ 17 0) a 32) 4 0 = t at *
  have h4 := cw_n4 h hi.1
  have hb := (h.2.1 t hi.1.1 hi.1.2).2.1
  have hq := noS_pos 32 1 (Int.le_refl 1) hi.2
  have htk := (h.2.1 t hi.1.1 hi.1.2).1.2.2
  generalize ek : noS σ t key 32 1 = k at *
  have hk2 := htk k hq.1.1 hq.1.2
  have h64 := hq.2.1
  have hd : dlS σ t k = σ 5 t (k + 1) - (σ 5 t k + 20 + σ 6 t k) := rfl
  have hp2 : pbS σ t k 2 = σ 5 t k + 20 + σ 6 t k := rfl
  have hp3 : pbS σ t k 3 = σ 5 t (k + 1) := rfl
  have h7 : σ 7 t k = b2i (decide (σ 7 t k = 1)) := by rcases (h.2.1 t hi.1.1 hi.1.2).2.2 k with q | q <;> rw [q] <;> rfl
  refine j_iload_n X rfl d_U_fetch_0 ?_
  refine s_U_146 X hz (c_U_needSet (zl z) E σ a ha) rfl rfl rfl (Nat.le_of_ble_eq_true rfl) ⟨Nat.le_refl _, Nat.le_refl _⟩ d_U_fetch_1 ?_
  refine j_aload_n X rfl d_U_fetch_4 ?_
  refine g_U_53 X d_U_fetch_5 ?_
  refine j_iload_n X rfl d_U_fetch_8 ?_
  refine v_U_149 X hz (c_D_isAllocated (zl z) E σ a hr (by omega)) rfl rfl rfl (Nat.le_of_ble_eq_true rfl) ⟨Nat.le_refl _, Nat.le_refl _⟩ d_U_fetch_9 ?_
  refine j_topi (congrArg iI (b2i_t h1)) ?_
  refine s_U_72 X hz (c_U_needState (zl z) E σ) rfl rfl rfl (Nat.le_of_ble_eq_true rfl) ⟨Nat.le_refl _, Nat.le_refl _⟩ d_U_fetch_12 ?_
  refine j_aload_n X rfl d_U_fetch_15 ?_
  refine g_U_53 X d_U_fetch_16 ?_
  refine j_iload_n X rfl d_U_fetch_19 ?_
  refine j_iload_n X rfl d_U_fetch_20 ?_
  refine v_U_166 X hz (c_D_trackHolding (zl z) E σ a key h (by omega) hk) rfl rfl rfl (Nat.le_of_ble_eq_true rfl) ⟨Nat.le_refl _, Nat.le_refl _⟩ d_U_fetch_21 ?_
  rw [et]
  refine j_istore_n X (zlt hn rfl) d_U_fetch_24 ?_
  refine j_iload_n X rfl d_U_fetch_25 ?_
  refine j_iconst X d_U_fetch_26 ?_
  refine j_icmp_ne X (by omega) (by omega) d_U_fetch_27 (tgt := 32) rfl (fun h27 => ?_) (fun h27 => ?_)
  · skip
    refine j_aload_n X rfl d_U_fetch_32 ?_
    refine g_U_20 X d_U_fetch_33 ?_
    refine j_iload_n X rfl d_U_fetch_36 ?_
    refine j_aald X (by omega) d_U_fetch_37 ?_
    refine j_astore X (zlt hn rfl) d_U_fetch_38 ?_
    refine j_aload X rfl d_U_fetch_40 ?_
    refine j_iload_n X rfl d_U_fetch_42 ?_
    refine v_U_173 X (okCT rfl (by omega)) hz (c_T_numberOf (zl z) E σ t key (by omega) hb hr h4 (fun k q1 q2 => by have := htk k q1 q2; omega)) rfl rfl rfl (Nat.le_of_ble_eq_true rfl) ⟨Nat.le_refl _, Nat.le_refl _⟩ d_U_fetch_43 ?_
    rw [ek]
    refine j_istore X (zlt hn rfl) d_U_fetch_46 ?_
    refine j_aload X rfl d_U_fetch_48 ?_
    refine j_iload X rfl d_U_fetch_50 ?_
    refine v_U_133 X (okCT rfl (by omega)) hz (c_T_isSpoiled (zl z) E σ t k (by omega) (by omega) h7) rfl rfl rfl (Nat.le_of_ble_eq_true rfl) ⟨Nat.le_refl _, Nat.le_refl _⟩ d_U_fetch_52 ?_
    refine j_ifz X d_U_fetch_55 (tgt := 61) rfl (fun h55 => ?_) (fun h55 => ?_)
    · exact absurd h55 (by omega)
    · skip
      refine j_bipush X rfl d_U_fetch_58 ?_
      exact j_iret X Y (Nat.le_refl _) (Nat.le_refl _) d_U_fetch_60 ⟨rfl, rfl⟩
  · exact absurd h27 (by omega)

set_option maxRecDepth 100000 in
set_option maxHeartbeats 4000000 in
theorem c_U_fetch_r (l : Launch) (E : eT) (σ : St) (a key : Int) (h : clW σ) (ha : 0 ≤ a ∧ a ≤ 5) (hk : inR key) (h1 : 0 < cnO (σ 17 0) a 32) (h2 : ¬ (thL σ a key (cnO (σ 17 0) a 32) 4 0) = -1) (h3 : ¬ σ 7 (thL σ a key (cnO (σ 17 0) a 32) 4 0) (noS σ (thL σ a key (cnO (σ 17 0) a 32) 4 0) key 32 1) = 1) : FCon l E y_U_fetch ws_U_fetch 5 [.ref (E.2.2.2 0 0), .int (iI a), .int (iI key)] σ (some (.int (iI (dlS σ (thL σ a key (cnO (σ 17 0) a 32) 4 0) (noS σ (thL σ a key (cnO (σ 17 0) a 32) 4 0) key 32 1))))) (rdS σ (thL σ a key (cnO (σ 17 0) a 32) 4 0) (pbS σ (thL σ a key (cnO (σ 17 0) a 32) 4 0) (noS σ (thL σ a key (cnO (σ 17 0) a 32) 4 0) key 32 1) 2) 0 (dlS σ (thL σ a key (cnO (σ 17 0) a 32) 4 0) (noS σ (thL σ a key (cnO (σ 17 0) a 32) 4 0) key 32 1))) := by
  refine con_of (cc := b_U_fetch) (nL := 7) (ret := (some .int)) (by decide) (Nat.le_of_ble_eq_true rfl) (fun z X Y hn => ?_)
  have X : Cx E z b_U_fetch R_U := X
  have hz := Y.2.1
  change J E z 0 0 0 [(0, .ref (E.2.2.2 0 0)), (1, .int (iI a)), (2, .int (iI key))] [] (cells E σ)
  have hr := h.1
  have hi := thL_in (σ := σ) (a := a) (key := key) (n := cnO (σ 17 0) a 32) 4 0 h2
  generalize et : thL σ a key (cnO (σ 17 0) a 32) 4 0 = t at *
  have h4 := cw_n4 h hi.1
  have hb := (h.2.1 t hi.1.1 hi.1.2).2.1
  have hq := noS_pos 32 1 (Int.le_refl 1) hi.2
  have htk := (h.2.1 t hi.1.1 hi.1.2).1.2.2
  generalize ek : noS σ t key 32 1 = k at *
  have hk2 := htk k hq.1.1 hq.1.2
  have h64 := hq.2.1
  have hd : dlS σ t k = σ 5 t (k + 1) - (σ 5 t k + 20 + σ 6 t k) := rfl
  have hp2 : pbS σ t k 2 = σ 5 t k + 20 + σ 6 t k := rfl
  have hp3 : pbS σ t k 3 = σ 5 t (k + 1) := rfl
  have h7 : σ 7 t k = b2i (decide (σ 7 t k = 1)) := by rcases (h.2.1 t hi.1.1 hi.1.2).2.2 k with q | q <;> rw [q] <;> rfl
  refine j_iload_n X rfl d_U_fetch_0 ?_
  refine s_U_146 X hz (c_U_needSet (zl z) E σ a ha) rfl rfl rfl (Nat.le_of_ble_eq_true rfl) ⟨Nat.le_refl _, Nat.le_refl _⟩ d_U_fetch_1 ?_
  refine j_aload_n X rfl d_U_fetch_4 ?_
  refine g_U_53 X d_U_fetch_5 ?_
  refine j_iload_n X rfl d_U_fetch_8 ?_
  refine v_U_149 X hz (c_D_isAllocated (zl z) E σ a hr (by omega)) rfl rfl rfl (Nat.le_of_ble_eq_true rfl) ⟨Nat.le_refl _, Nat.le_refl _⟩ d_U_fetch_9 ?_
  refine j_topi (congrArg iI (b2i_t h1)) ?_
  refine s_U_72 X hz (c_U_needState (zl z) E σ) rfl rfl rfl (Nat.le_of_ble_eq_true rfl) ⟨Nat.le_refl _, Nat.le_refl _⟩ d_U_fetch_12 ?_
  refine j_aload_n X rfl d_U_fetch_15 ?_
  refine g_U_53 X d_U_fetch_16 ?_
  refine j_iload_n X rfl d_U_fetch_19 ?_
  refine j_iload_n X rfl d_U_fetch_20 ?_
  refine v_U_166 X hz (c_D_trackHolding (zl z) E σ a key h (by omega) hk) rfl rfl rfl (Nat.le_of_ble_eq_true rfl) ⟨Nat.le_refl _, Nat.le_refl _⟩ d_U_fetch_21 ?_
  rw [et]
  refine j_istore_n X (zlt hn rfl) d_U_fetch_24 ?_
  refine j_iload_n X rfl d_U_fetch_25 ?_
  refine j_iconst X d_U_fetch_26 ?_
  refine j_icmp_ne X (by omega) (by omega) d_U_fetch_27 (tgt := 32) rfl (fun h27 => ?_) (fun h27 => ?_)
  · skip
    refine j_aload_n X rfl d_U_fetch_32 ?_
    refine g_U_20 X d_U_fetch_33 ?_
    refine j_iload_n X rfl d_U_fetch_36 ?_
    refine j_aald X (by omega) d_U_fetch_37 ?_
    refine j_astore X (zlt hn rfl) d_U_fetch_38 ?_
    refine j_aload X rfl d_U_fetch_40 ?_
    refine j_iload_n X rfl d_U_fetch_42 ?_
    refine v_U_173 X (okCT rfl (by omega)) hz (c_T_numberOf (zl z) E σ t key (by omega) hb hr h4 (fun k q1 q2 => by have := htk k q1 q2; omega)) rfl rfl rfl (Nat.le_of_ble_eq_true rfl) ⟨Nat.le_refl _, Nat.le_refl _⟩ d_U_fetch_43 ?_
    rw [ek]
    refine j_istore X (zlt hn rfl) d_U_fetch_46 ?_
    refine j_aload X rfl d_U_fetch_48 ?_
    refine j_iload X rfl d_U_fetch_50 ?_
    refine v_U_133 X (okCT rfl (by omega)) hz (c_T_isSpoiled (zl z) E σ t k (by omega) (by omega) h7) rfl rfl rfl (Nat.le_of_ble_eq_true rfl) ⟨Nat.le_refl _, Nat.le_refl _⟩ d_U_fetch_52 ?_
    refine j_ifz X d_U_fetch_55 (tgt := 61) rfl (fun h55 => ?_) (fun h55 => ?_)
    · skip
      refine j_aload X rfl d_U_fetch_61 ?_
      refine j_iload X rfl d_U_fetch_63 ?_
      refine v_U_130 X (okCT rfl (by omega)) hz (c_T_dataLength (zl z) E σ t k (by omega) (by omega)) rfl rfl rfl (Nat.le_of_ble_eq_true rfl) ⟨Nat.le_refl _, Nat.le_refl _⟩ d_U_fetch_65 ?_
      refine j_istore X (zlt hn rfl) d_U_fetch_68 ?_
      refine j_aload X rfl d_U_fetch_70 ?_
      refine j_iload X rfl d_U_fetch_72 ?_
      refine j_iconst X d_U_fetch_74 ?_
      refine j_aload_n X rfl d_U_fetch_75 ?_
      refine g_U_14 X d_U_fetch_76 ?_
      refine j_iconst X d_U_fetch_79 ?_
      refine j_iload X rfl d_U_fetch_80 ?_
      refine v_U_180 X (okCT rfl (by omega)) hz (c_T_readPart (zl z) E σ t k 3 0 (dlS σ t k) (by omega) (by omega) (by omega) hb h.2.2.1 (by omega) (by omega) (by omega) (by show 0 ≤ pbS σ t k 2; omega) (by show pbS σ t k 2 + dlS σ t k ≤ 600; omega)) rfl rfl rfl (Nat.le_of_ble_eq_true rfl) ⟨Nat.le_refl _, Nat.le_refl _⟩ d_U_fetch_82 ?_
      refine j_iload X rfl d_U_fetch_85 ?_
      exact j_iret X Y (Nat.le_refl _) (Nat.le_refl _) d_U_fetch_87 ⟨rfl, rfl⟩
    · exact absurd h55 (by omega)
  · exact absurd h27 (by omega)
