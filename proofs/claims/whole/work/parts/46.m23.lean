/-! the model: what it tells of records -/

set_option maxRecDepth 100000 in
set_option maxHeartbeats 4000000 in
theorem c_M_look0 (l : Launch) (E : eT) (σ : St) : FCon l E y_M_look ws_M_look 1 [.ref (E.2.2.2 18 0), .int (iI 0)] σ (some (.int (iI (σ 18 0 12)))) (up σ 18 0 0 0) := by
  refine con_of (cc := b_M_look) (nL := 2) (ret := (some .int)) (by decide) (Nat.le_of_ble_eq_true rfl) (fun z X Y hn => ?_)
  have X : Cx E z b_M_look R_M := X
  have hz := Y.2.1
  change J E z 0 0 0 [(0, .ref (E.2.2.2 18 0)), (1, .int (iI 0))] [] (cells E σ)
  refine j_aload_n X rfl d_M_look_0 ?_
  refine j_iload_n X rfl d_M_look_1 ?_
  refine j_if_lt X (by omega) d_M_look_2 (tgt := 10) rfl (fun h2 => ?_) (fun h2 => ?_)
  · exact absurd h2 (by omega)
  · skip
    refine j_iload_n X rfl d_M_look_5 ?_
    refine j_iconst X d_M_look_6 ?_
    refine j_icmp_le X (by omega) (by omega) d_M_look_7 (tgt := 14) rfl (fun h7 => ?_) (fun h7 => ?_)
    · skip
      refine j_iconst X d_M_look_14 ?_
      refine j_iconst X d_M_look_15 ?_
      refine v_M_53 X hz (c_M_throwing (zl z) E σ _ _ (by decide) (by decide)) rfl rfl rfl (Nat.le_of_ble_eq_true rfl) ⟨Nat.le_refl _, Nat.le_refl _⟩ d_M_look_16 ?_
      refine j_ifz X d_M_look_19 (tgt := 24) rfl (fun _ => ?_) (fun h => absurd h (by decide))
      refine j_iload_n X rfl d_M_look_24 ?_
      refine j_if_ne X (by omega) d_M_look_25 (tgt := 35) rfl (fun h25 => ?_) (fun h25 => ?_)
      · exact absurd h25 (by omega)
      · skip
        refine j_aload_n X rfl d_M_look_28 ?_
        refine g_M_174 X d_M_look_29 ?_
        refine j_goto X d_M_look_32 (tgt := 87) rfl ?_
        exact j_iret X Y (Nat.le_refl _) (Nat.le_refl _) d_M_look_87 ⟨rfl, rfl⟩
    · exact absurd h7 (by omega)

set_option maxRecDepth 100000 in
set_option maxHeartbeats 4000000 in
theorem c_M_look1 (l : Launch) (E : eT) (σ : St) : FCon l E y_M_look ws_M_look 1 [.ref (E.2.2.2 18 0), .int (iI 1)] σ (some (.int (iI (σ 18 0 13)))) (up σ 18 0 0 0) := by
  refine con_of (cc := b_M_look) (nL := 2) (ret := (some .int)) (by decide) (Nat.le_of_ble_eq_true rfl) (fun z X Y hn => ?_)
  have X : Cx E z b_M_look R_M := X
  have hz := Y.2.1
  change J E z 0 0 0 [(0, .ref (E.2.2.2 18 0)), (1, .int (iI 1))] [] (cells E σ)
  refine j_aload_n X rfl d_M_look_0 ?_
  refine j_iload_n X rfl d_M_look_1 ?_
  refine j_if_lt X (by omega) d_M_look_2 (tgt := 10) rfl (fun h2 => ?_) (fun h2 => ?_)
  · exact absurd h2 (by omega)
  · skip
    refine j_iload_n X rfl d_M_look_5 ?_
    refine j_iconst X d_M_look_6 ?_
    refine j_icmp_le X (by omega) (by omega) d_M_look_7 (tgt := 14) rfl (fun h7 => ?_) (fun h7 => ?_)
    · skip
      refine j_iconst X d_M_look_14 ?_
      refine j_iconst X d_M_look_15 ?_
      refine v_M_53 X hz (c_M_throwing (zl z) E σ _ _ (by decide) (by decide)) rfl rfl rfl (Nat.le_of_ble_eq_true rfl) ⟨Nat.le_refl _, Nat.le_refl _⟩ d_M_look_16 ?_
      refine j_ifz X d_M_look_19 (tgt := 24) rfl (fun _ => ?_) (fun h => absurd h (by decide))
      refine j_iload_n X rfl d_M_look_24 ?_
      refine j_if_ne X (by omega) d_M_look_25 (tgt := 35) rfl (fun h25 => ?_) (fun h25 => ?_)
      · skip
        refine j_iload_n X rfl d_M_look_35 ?_
        refine j_iconst X d_M_look_36 ?_
        refine j_icmp_ne X (by omega) (by omega) d_M_look_37 (tgt := 47) rfl (fun h37 => ?_) (fun h37 => ?_)
        · exact absurd h37 (by omega)
        · skip
          refine j_aload_n X rfl d_M_look_40 ?_
          refine g_M_126 X d_M_look_41 ?_
          refine j_goto X d_M_look_44 (tgt := 87) rfl ?_
          exact j_iret X Y (Nat.le_refl _) (Nat.le_refl _) d_M_look_87 ⟨rfl, rfl⟩
      · exact absurd h25 (by omega)
    · exact absurd h7 (by omega)

set_option maxRecDepth 100000 in
set_option maxHeartbeats 4000000 in
theorem c_M_look2 (l : Launch) (E : eT) (σ : St) : FCon l E y_M_look ws_M_look 1 [.ref (E.2.2.2 18 0), .int (iI 2)] σ (some (.int (iI (σ 18 0 14)))) (up σ 18 0 0 0) := by
  refine con_of (cc := b_M_look) (nL := 2) (ret := (some .int)) (by decide) (Nat.le_of_ble_eq_true rfl) (fun z X Y hn => ?_)
  have X : Cx E z b_M_look R_M := X
  have hz := Y.2.1
  change J E z 0 0 0 [(0, .ref (E.2.2.2 18 0)), (1, .int (iI 2))] [] (cells E σ)
  refine j_aload_n X rfl d_M_look_0 ?_
  refine j_iload_n X rfl d_M_look_1 ?_
  refine j_if_lt X (by omega) d_M_look_2 (tgt := 10) rfl (fun h2 => ?_) (fun h2 => ?_)
  · exact absurd h2 (by omega)
  · skip
    refine j_iload_n X rfl d_M_look_5 ?_
    refine j_iconst X d_M_look_6 ?_
    refine j_icmp_le X (by omega) (by omega) d_M_look_7 (tgt := 14) rfl (fun h7 => ?_) (fun h7 => ?_)
    · skip
      refine j_iconst X d_M_look_14 ?_
      refine j_iconst X d_M_look_15 ?_
      refine v_M_53 X hz (c_M_throwing (zl z) E σ _ _ (by decide) (by decide)) rfl rfl rfl (Nat.le_of_ble_eq_true rfl) ⟨Nat.le_refl _, Nat.le_refl _⟩ d_M_look_16 ?_
      refine j_ifz X d_M_look_19 (tgt := 24) rfl (fun _ => ?_) (fun h => absurd h (by decide))
      refine j_iload_n X rfl d_M_look_24 ?_
      refine j_if_ne X (by omega) d_M_look_25 (tgt := 35) rfl (fun h25 => ?_) (fun h25 => ?_)
      · skip
        refine j_iload_n X rfl d_M_look_35 ?_
        refine j_iconst X d_M_look_36 ?_
        refine j_icmp_ne X (by omega) (by omega) d_M_look_37 (tgt := 47) rfl (fun h37 => ?_) (fun h37 => ?_)
        · skip
          refine j_iload_n X rfl d_M_look_47 ?_
          refine j_iconst X d_M_look_48 ?_
          refine j_icmp_ne X (by omega) (by omega) d_M_look_49 (tgt := 59) rfl (fun h49 => ?_) (fun h49 => ?_)
          · exact absurd h49 (by omega)
          · skip
            refine j_aload_n X rfl d_M_look_52 ?_
            refine g_M_171 X d_M_look_53 ?_
            refine j_goto X d_M_look_56 (tgt := 87) rfl ?_
            exact j_iret X Y (Nat.le_refl _) (Nat.le_refl _) d_M_look_87 ⟨rfl, rfl⟩
        · exact absurd h37 (by omega)
      · exact absurd h25 (by omega)
    · exact absurd h7 (by omega)

set_option maxRecDepth 100000 in
set_option maxHeartbeats 4000000 in
theorem c_M_look3 (l : Launch) (E : eT) (σ : St) : FCon l E y_M_look ws_M_look 1 [.ref (E.2.2.2 18 0), .int (iI 3)] σ (some (.int (iI (σ 18 0 15)))) (up σ 18 0 0 0) := by
  refine con_of (cc := b_M_look) (nL := 2) (ret := (some .int)) (by decide) (Nat.le_of_ble_eq_true rfl) (fun z X Y hn => ?_)
  have X : Cx E z b_M_look R_M := X
  have hz := Y.2.1
  change J E z 0 0 0 [(0, .ref (E.2.2.2 18 0)), (1, .int (iI 3))] [] (cells E σ)
  refine j_aload_n X rfl d_M_look_0 ?_
  refine j_iload_n X rfl d_M_look_1 ?_
  refine j_if_lt X (by omega) d_M_look_2 (tgt := 10) rfl (fun h2 => ?_) (fun h2 => ?_)
  · exact absurd h2 (by omega)
  · skip
    refine j_iload_n X rfl d_M_look_5 ?_
    refine j_iconst X d_M_look_6 ?_
    refine j_icmp_le X (by omega) (by omega) d_M_look_7 (tgt := 14) rfl (fun h7 => ?_) (fun h7 => ?_)
    · skip
      refine j_iconst X d_M_look_14 ?_
      refine j_iconst X d_M_look_15 ?_
      refine v_M_53 X hz (c_M_throwing (zl z) E σ _ _ (by decide) (by decide)) rfl rfl rfl (Nat.le_of_ble_eq_true rfl) ⟨Nat.le_refl _, Nat.le_refl _⟩ d_M_look_16 ?_
      refine j_ifz X d_M_look_19 (tgt := 24) rfl (fun _ => ?_) (fun h => absurd h (by decide))
      refine j_iload_n X rfl d_M_look_24 ?_
      refine j_if_ne X (by omega) d_M_look_25 (tgt := 35) rfl (fun h25 => ?_) (fun h25 => ?_)
      · skip
        refine j_iload_n X rfl d_M_look_35 ?_
        refine j_iconst X d_M_look_36 ?_
        refine j_icmp_ne X (by omega) (by omega) d_M_look_37 (tgt := 47) rfl (fun h37 => ?_) (fun h37 => ?_)
        · skip
          refine j_iload_n X rfl d_M_look_47 ?_
          refine j_iconst X d_M_look_48 ?_
          refine j_icmp_ne X (by omega) (by omega) d_M_look_49 (tgt := 59) rfl (fun h49 => ?_) (fun h49 => ?_)
          · skip
            refine j_iload_n X rfl d_M_look_59 ?_
            refine j_iconst X d_M_look_60 ?_
            refine j_icmp_ne X (by omega) (by omega) d_M_look_61 (tgt := 71) rfl (fun h61 => ?_) (fun h61 => ?_)
            · exact absurd h61 (by omega)
            · skip
              refine j_aload_n X rfl d_M_look_64 ?_
              refine g_M_71 X d_M_look_65 ?_
              refine j_goto X d_M_look_68 (tgt := 87) rfl ?_
              exact j_iret X Y (Nat.le_refl _) (Nat.le_refl _) d_M_look_87 ⟨rfl, rfl⟩
          · exact absurd h49 (by omega)
        · exact absurd h37 (by omega)
      · exact absurd h25 (by omega)
    · exact absurd h7 (by omega)

set_option maxRecDepth 100000 in
set_option maxHeartbeats 4000000 in
theorem c_M_look4 (l : Launch) (E : eT) (σ : St) : FCon l E y_M_look ws_M_look 1 [.ref (E.2.2.2 18 0), .int (iI 4)] σ (some (.int (iI (σ 18 0 9)))) (up σ 18 0 0 0) := by
  refine con_of (cc := b_M_look) (nL := 2) (ret := (some .int)) (by decide) (Nat.le_of_ble_eq_true rfl) (fun z X Y hn => ?_)
  have X : Cx E z b_M_look R_M := X
  have hz := Y.2.1
  change J E z 0 0 0 [(0, .ref (E.2.2.2 18 0)), (1, .int (iI 4))] [] (cells E σ)
  refine j_aload_n X rfl d_M_look_0 ?_
  refine j_iload_n X rfl d_M_look_1 ?_
  refine j_if_lt X (by omega) d_M_look_2 (tgt := 10) rfl (fun h2 => ?_) (fun h2 => ?_)
  · exact absurd h2 (by omega)
  · skip
    refine j_iload_n X rfl d_M_look_5 ?_
    refine j_iconst X d_M_look_6 ?_
    refine j_icmp_le X (by omega) (by omega) d_M_look_7 (tgt := 14) rfl (fun h7 => ?_) (fun h7 => ?_)
    · skip
      refine j_iconst X d_M_look_14 ?_
      refine j_iconst X d_M_look_15 ?_
      refine v_M_53 X hz (c_M_throwing (zl z) E σ _ _ (by decide) (by decide)) rfl rfl rfl (Nat.le_of_ble_eq_true rfl) ⟨Nat.le_refl _, Nat.le_refl _⟩ d_M_look_16 ?_
      refine j_ifz X d_M_look_19 (tgt := 24) rfl (fun _ => ?_) (fun h => absurd h (by decide))
      refine j_iload_n X rfl d_M_look_24 ?_
      refine j_if_ne X (by omega) d_M_look_25 (tgt := 35) rfl (fun h25 => ?_) (fun h25 => ?_)
      · skip
        refine j_iload_n X rfl d_M_look_35 ?_
        refine j_iconst X d_M_look_36 ?_
        refine j_icmp_ne X (by omega) (by omega) d_M_look_37 (tgt := 47) rfl (fun h37 => ?_) (fun h37 => ?_)
        · skip
          refine j_iload_n X rfl d_M_look_47 ?_
          refine j_iconst X d_M_look_48 ?_
          refine j_icmp_ne X (by omega) (by omega) d_M_look_49 (tgt := 59) rfl (fun h49 => ?_) (fun h49 => ?_)
          · skip
            refine j_iload_n X rfl d_M_look_59 ?_
            refine j_iconst X d_M_look_60 ?_
            refine j_icmp_ne X (by omega) (by omega) d_M_look_61 (tgt := 71) rfl (fun h61 => ?_) (fun h61 => ?_)
            · skip
              refine j_iload_n X rfl d_M_look_71 ?_
              refine j_iconst X d_M_look_72 ?_
              refine j_icmp_ne X (by omega) (by omega) d_M_look_73 (tgt := 83) rfl (fun h73 => ?_) (fun h73 => ?_)
              · exact absurd h73 (by omega)
              · skip
                refine j_aload_n X rfl d_M_look_76 ?_
                refine g_M_80 X d_M_look_77 ?_
                refine j_goto X d_M_look_80 (tgt := 87) rfl ?_
                exact j_iret X Y (Nat.le_refl _) (Nat.le_refl _) d_M_look_87 ⟨rfl, rfl⟩
            · exact absurd h61 (by omega)
          · exact absurd h49 (by omega)
        · exact absurd h37 (by omega)
      · exact absurd h25 (by omega)
    · exact absurd h7 (by omega)

set_option maxRecDepth 100000 in
set_option maxHeartbeats 4000000 in
theorem c_M_look5 (l : Launch) (E : eT) (σ : St) : FCon l E y_M_look ws_M_look 1 [.ref (E.2.2.2 18 0), .int (iI 5)] σ (some (.int (iI (σ 18 0 17)))) (up σ 18 0 0 0) := by
  refine con_of (cc := b_M_look) (nL := 2) (ret := (some .int)) (by decide) (Nat.le_of_ble_eq_true rfl) (fun z X Y hn => ?_)
  have X : Cx E z b_M_look R_M := X
  have hz := Y.2.1
  change J E z 0 0 0 [(0, .ref (E.2.2.2 18 0)), (1, .int (iI 5))] [] (cells E σ)
  refine j_aload_n X rfl d_M_look_0 ?_
  refine j_iload_n X rfl d_M_look_1 ?_
  refine j_if_lt X (by omega) d_M_look_2 (tgt := 10) rfl (fun h2 => ?_) (fun h2 => ?_)
  · exact absurd h2 (by omega)
  · skip
    refine j_iload_n X rfl d_M_look_5 ?_
    refine j_iconst X d_M_look_6 ?_
    refine j_icmp_le X (by omega) (by omega) d_M_look_7 (tgt := 14) rfl (fun h7 => ?_) (fun h7 => ?_)
    · skip
      refine j_iconst X d_M_look_14 ?_
      refine j_iconst X d_M_look_15 ?_
      refine v_M_53 X hz (c_M_throwing (zl z) E σ _ _ (by decide) (by decide)) rfl rfl rfl (Nat.le_of_ble_eq_true rfl) ⟨Nat.le_refl _, Nat.le_refl _⟩ d_M_look_16 ?_
      refine j_ifz X d_M_look_19 (tgt := 24) rfl (fun _ => ?_) (fun h => absurd h (by decide))
      refine j_iload_n X rfl d_M_look_24 ?_
      refine j_if_ne X (by omega) d_M_look_25 (tgt := 35) rfl (fun h25 => ?_) (fun h25 => ?_)
      · skip
        refine j_iload_n X rfl d_M_look_35 ?_
        refine j_iconst X d_M_look_36 ?_
        refine j_icmp_ne X (by omega) (by omega) d_M_look_37 (tgt := 47) rfl (fun h37 => ?_) (fun h37 => ?_)
        · skip
          refine j_iload_n X rfl d_M_look_47 ?_
          refine j_iconst X d_M_look_48 ?_
          refine j_icmp_ne X (by omega) (by omega) d_M_look_49 (tgt := 59) rfl (fun h49 => ?_) (fun h49 => ?_)
          · skip
            refine j_iload_n X rfl d_M_look_59 ?_
            refine j_iconst X d_M_look_60 ?_
            refine j_icmp_ne X (by omega) (by omega) d_M_look_61 (tgt := 71) rfl (fun h61 => ?_) (fun h61 => ?_)
            · skip
              refine j_iload_n X rfl d_M_look_71 ?_
              refine j_iconst X d_M_look_72 ?_
              refine j_icmp_ne X (by omega) (by omega) d_M_look_73 (tgt := 83) rfl (fun h73 => ?_) (fun h73 => ?_)
              · skip
                refine j_aload_n X rfl d_M_look_83 ?_
                refine g_M_123 X d_M_look_84 ?_
                exact j_iret X Y (Nat.le_refl _) (Nat.le_refl _) d_M_look_87 ⟨rfl, rfl⟩
              · exact absurd h73 (by omega)
            · exact absurd h61 (by omega)
          · exact absurd h49 (by omega)
        · exact absurd h37 (by omega)
      · exact absurd h25 (by omega)
    · exact absurd h7 (by omega)

set_option maxRecDepth 100000 in
set_option maxHeartbeats 4000000 in
theorem c_M_lookX (l : Launch) (E : eT) (σ : St) (a : Int) (ra : inR a) (ha : ¬ (0 ≤ a ∧ a ≤ 5)) : FCon l E y_M_look ws_M_look 1 [.ref (E.2.2.2 18 0), .int (iI a)] σ (some (.int (iI 0))) (up σ 18 0 0 1) := by
  refine con_of (cc := b_M_look) (nL := 2) (ret := (some .int)) (by decide) (Nat.le_of_ble_eq_true rfl) (fun z X Y hn => ?_)
  have X : Cx E z b_M_look R_M := X
  have hz := Y.2.1
  change J E z 0 0 0 [(0, .ref (E.2.2.2 18 0)), (1, .int (iI a))] [] (cells E σ)
  refine j_aload_n X rfl d_M_look_0 ?_
  refine j_iload_n X rfl d_M_look_1 ?_
  refine j_if_lt X (by omega) d_M_look_2 (tgt := 10) rfl (fun h2 => ?_) (fun h2 => ?_)
  · skip
    refine j_iconst X d_M_look_10 ?_
    refine j_goto X d_M_look_11 (tgt := 15) rfl ?_
    refine j_iconst X d_M_look_15 ?_
    refine v_M_53 X hz (c_M_throwing (zl z) E σ _ _ (by decide) (by decide)) rfl rfl rfl (Nat.le_of_ble_eq_true rfl) ⟨Nat.le_refl _, Nat.le_refl _⟩ d_M_look_16 ?_
    refine j_ifz X d_M_look_19 (tgt := 24) rfl (fun h => absurd (by decide) h) (fun _ => ?_)
    refine j_iconst X d_M_look_22 ?_
    exact j_iret X Y (Nat.le_refl _) (Nat.le_refl _) d_M_look_23 ⟨rfl, rfl⟩
  · skip
    refine j_iload_n X rfl d_M_look_5 ?_
    refine j_iconst X d_M_look_6 ?_
    refine j_icmp_le X (by omega) (by omega) d_M_look_7 (tgt := 14) rfl (fun h7 => ?_) (fun h7 => ?_)
    · exact absurd h7 (by omega)
    · skip
      refine j_iconst X d_M_look_10 ?_
      refine j_goto X d_M_look_11 (tgt := 15) rfl ?_
      refine j_iconst X d_M_look_15 ?_
      refine v_M_53 X hz (c_M_throwing (zl z) E σ _ _ (by decide) (by decide)) rfl rfl rfl (Nat.le_of_ble_eq_true rfl) ⟨Nat.le_refl _, Nat.le_refl _⟩ d_M_look_16 ?_
      refine j_ifz X d_M_look_19 (tgt := 24) rfl (fun h => absurd (by decide) h) (fun _ => ?_)
      refine j_iconst X d_M_look_22 ?_
      exact j_iret X Y (Nat.le_refl _) (Nat.le_refl _) d_M_look_23 ⟨rfl, rfl⟩

set_option maxRecDepth 100000 in
set_option maxHeartbeats 4000000 in
theorem c_M_isRecord (l : Launch) (E : eT) (σ : St) (t k n : Int) (rt : inR t) (rk : inR k) (rn : inR n) (hm : 0 ≤ t ∧ t < 32 → smS (σ 19 0) (600 * t) 600 = n) : FCon l E y_M_isRecord ws_M_isRecord 1 [.ref (E.2.2.2 18 0), .int (iI t), .int (iI k)] σ (some (.int (iI (b2i (decide ((0 ≤ t ∧ t < 32) ∧ 1 ≤ k ∧ k ≤ n)))))) σ := by
  refine con_of (cc := b_M_isRecord) (nL := 3) (ret := (some .boolean)) (by decide) (Nat.le_of_ble_eq_true rfl) (fun z X Y hn => ?_)
  have X : Cx E z b_M_isRecord R_M := X
  have hz := Y.2.1
  change J E z 0 0 0 [(0, .ref (E.2.2.2 18 0)), (1, .int (iI t)), (2, .int (iI k))] [] (cells E σ)
  refine j_iload_n X rfl d_M_isRecord_0 ?_
  refine s_M_183 X hz (c_M_isTrack (zl z) E σ t rt) rfl rfl rfl (Nat.le_of_ble_eq_true rfl) ⟨Nat.le_refl _, Nat.le_refl _⟩ d_M_isRecord_1 ?_
  refine j_ifz X d_M_isRecord_4 (tgt := 25) rfl (fun h4 => ?_) (fun h4 => ?_)
  · skip
    refine j_iconst X d_M_isRecord_25 ?_
    exact j_zret X Y (by first | rfl | exact b2i_nar _) (Nat.le_refl _) (Nat.le_refl _) d_M_isRecord_26 ⟨by first | rw [b2i_t (by omega)] | rw [b2i_f (by omega)], rfl⟩
  · skip
    refine j_iload_n X rfl d_M_isRecord_7 ?_
    refine j_iconst X d_M_isRecord_8 ?_
    refine j_icmp_lt X (by omega) (by omega) d_M_isRecord_9 (tgt := 25) rfl (fun h9 => ?_) (fun h9 => ?_)
    · skip
      refine j_iconst X d_M_isRecord_25 ?_
      exact j_zret X Y (by first | rfl | exact b2i_nar _) (Nat.le_refl _) (Nat.le_refl _) d_M_isRecord_26 ⟨by first | rw [b2i_t (by omega)] | rw [b2i_f (by omega)], rfl⟩
    · skip
      refine j_iload_n X rfl d_M_isRecord_12 ?_
      refine j_aload_n X rfl d_M_isRecord_13 ?_
      refine j_iload_n X rfl d_M_isRecord_14 ?_
      refine v_M_83 X hz (c_M_many (zl z) E σ t h4) rfl rfl rfl (Nat.le_of_ble_eq_true rfl) ⟨Nat.le_refl _, Nat.le_refl _⟩ d_M_isRecord_15 ?_
      refine j_topi (congrArg iI (hm h4)) ?_
      refine j_icmp_gt X (by omega) (by omega) d_M_isRecord_18 (tgt := 25) rfl (fun h18 => ?_) (fun h18 => ?_)
      · skip
        refine j_iconst X d_M_isRecord_25 ?_
        exact j_zret X Y (by first | rfl | exact b2i_nar _) (Nat.le_refl _) (Nat.le_refl _) d_M_isRecord_26 ⟨by first | rw [b2i_t (by omega)] | rw [b2i_f (by omega)], rfl⟩
      · skip
        refine j_iconst X d_M_isRecord_21 ?_
        refine j_goto X d_M_isRecord_22 (tgt := 26) rfl ?_
        exact j_zret X Y (by first | rfl | exact b2i_nar _) (Nat.le_refl _) (Nat.le_refl _) d_M_isRecord_26 ⟨by first | rw [b2i_t (by omega)] | rw [b2i_f (by omega)], rfl⟩

set_option maxRecDepth 100000 in
set_option maxHeartbeats 4000000 in
theorem c_M_placeOf (l : Launch) (E : eT) (μ σ : St) (t k : Int) (ht : 0 ≤ t ∧ t < 32) (hw : tkW μ t) (hR : RT μ σ t) (hk : 1 ≤ k ∧ k ≤ μ 4 t 4) : FCon l E y_M_placeOf ws_M_placeOf 2 [.ref (E.2.2.2 18 0), .int (iI t), .int (iI k)] σ (some (.int (iI (μ 5 t k)))) σ := by
  refine con_of (cc := b_M_placeOf) (nL := 5) (ret := (some .int)) (by decide) (Nat.le_of_ble_eq_true rfl) (fun z X Y hn => ?_)
  have X : Cx E z b_M_placeOf R_M := X
  have hz := Y.2.1
  change J E z 0 0 0 [(0, .ref (E.2.2.2 18 0)), (1, .int (iI t)), (2, .int (iI k))] [] (cells E σ)
  have hw1 := hw.1
  refine j_iconst X d_M_placeOf_0 ?_
  refine j_istore_n X (zlt hn rfl) d_M_placeOf_1 ?_
  refine j_iconst X d_M_placeOf_2 ?_
  refine j_istore X (zlt hn rfl) d_M_placeOf_3 ?_
  have kyl : ∀ n : Int, (1 ≤ n ∧ n ≤ k) → J E z 0 0 5 [(0, .ref (E.2.2.2 18 0)), (1, .int (iI t)), (2, .int (iI k)), (3, .int (iI (μ 5 t n))), (4, .int (iI n))] [] (cells E σ) := by
    refine j_loop (fun n : Int => (k - n).toNat) _ _ (fun n hn' ih => ?_)
    have hw1 := hw.1
    obtain ⟨c1, c2, d1, d2, d3, d4, d5⟩ := rt_rec hw hR (k := n) (by omega)
    have q1 := hR.2.1 n hn'.1 (by omega)
    refine j_iload X rfl d_M_placeOf_5 ?_
    refine j_iload_n X rfl d_M_placeOf_7 ?_
    refine j_icmp_ge X (by omega) (by omega) d_M_placeOf_8 (tgt := 35) rfl (fun h8 => ?_) (fun h8 => ?_)
    · skip
      refine j_iload_n X rfl d_M_placeOf_35 ?_
      exact j_iret X Y (Nat.le_refl _) (Nat.le_refl _) d_M_placeOf_36 ⟨by rw [show n = k by omega], rfl⟩
    · skip
      refine j_aload_n X rfl d_M_placeOf_11 ?_
      refine j_iload_n X rfl d_M_placeOf_12 ?_
      refine j_iload_n X rfl d_M_placeOf_13 ?_
      refine v_M_43 X hz (c_M_isBegin (zl z) E σ t (μ 5 t n) (fun _ => by rw [q1]; decide) ht (by omega)) rfl rfl rfl (Nat.le_of_ble_eq_true rfl) ⟨Nat.le_refl _, Nat.le_refl _⟩ d_M_placeOf_14 ?_
      refine j_ifnz X d_M_placeOf_17 (tgt := 22) rfl (fun h17 => ?_) (fun h17 => ?_)
      · skip
        refine j_aload_n X rfl d_M_placeOf_22 ?_
        refine j_iload_n X rfl d_M_placeOf_23 ?_
        refine j_iload_n X rfl d_M_placeOf_24 ?_
        refine v_M_47 X hz (c_M_endOf (zl z) E σ t (μ 5 t n) ht (by omega)) rfl rfl rfl (Nat.le_of_ble_eq_true rfl) ⟨Nat.le_refl _, Nat.le_refl _⟩ d_M_placeOf_25 ?_
        refine j_topi (congrArg iI (show μ 5 t n + 20 + σ 20 0 (600 * t + μ 5 t n + 1) + σ 20 0 (600 * t + μ 5 t n + 2) = μ 5 t (n + 1) by omega)) ?_
        refine j_istore_n X (zlt hn rfl) d_M_placeOf_28 ?_
        refine j_iinc X rfl (zlt hn rfl) d_M_placeOf_29 ?_
        refine j_goto X d_M_placeOf_32 (tgt := 5) rfl ?_
        exact ih (n + 1) (by omega) (by omega)
      · exact absurd h17 (by omega)
  have := kyl 1 (by omega); rw [hw.2.1] at this; exact this

set_option maxRecDepth 100000 in
set_option maxHeartbeats 4000000 in
theorem c_M_record0 (l : Launch) (E : eT) (μ σ : St) (t w : Int) (ht : 0 ≤ t ∧ t < 32) (hw : tkW μ t) (hR : RT μ σ t) : FCon l E y_M_record ws_M_record 2 [.ref (E.2.2.2 18 0), .int (iI t), .int (iI 0), .int (iI w)] σ (some (.int (iI (μ 4 t 4)))) (up σ 18 0 0 0) := by
  refine con_of (cc := b_M_record) (nL := 6) (ret := (some .int)) (by decide) (Nat.le_of_ble_eq_true rfl) (fun z X Y hn => ?_)
  have X : Cx E z b_M_record R_M := X
  have hz := Y.2.1
  change J E z 0 0 0 [(0, .ref (E.2.2.2 18 0)), (1, .int (iI t)), (2, .int (iI 0)), (3, .int (iI w))] [] (cells E σ)
  refine j_iload_n X rfl d_M_record_0 ?_
  refine s_M_183 X hz (c_M_isTrack (zl z) E σ t (by omega)) rfl rfl rfl (Nat.le_of_ble_eq_true rfl) ⟨Nat.le_refl _, Nat.le_refl _⟩ d_M_record_1 ?_
  refine j_ifz X d_M_record_4 (tgt := 15) rfl (fun h4 => ?_) (fun h4 => ?_)
  · exact absurd h4 (by omega)
  · skip
    refine j_iload_n X rfl d_M_record_7 ?_
    refine j_if_ne X (by omega) d_M_record_8 (tgt := 15) rfl (fun h8 => ?_) (fun h8 => ?_)
    · exact absurd h8 (by omega)
    · skip
      refine j_iconst X d_M_record_11 ?_
      refine j_goto X d_M_record_12 (tgt := 16) rfl ?_
      refine j_istore X (zlt hn rfl) d_M_record_16 ?_
      refine j_aload_n X rfl d_M_record_18 ?_
      refine j_iload X rfl d_M_record_19 ?_
      refine j_if_ne X (by omega) d_M_record_21 (tgt := 46) rfl (fun h21 => ?_) (fun h21 => ?_)
      · skip
        refine j_iconst X d_M_record_46 ?_
        refine j_iconst X d_M_record_47 ?_
        refine v_M_53 X hz (c_M_throwing (zl z) E σ _ _ (by decide) (by decide)) rfl rfl rfl (Nat.le_of_ble_eq_true rfl) ⟨Nat.le_refl _, Nat.le_refl _⟩ d_M_record_48 ?_
        refine j_ifz X d_M_record_51 (tgt := 56) rfl (fun _ => ?_) (fun h => absurd h (by decide))
        refine j_iload X rfl d_M_record_56 ?_
        refine j_if_eq X (by omega) d_M_record_58 (tgt := 67) rfl (fun h58 => ?_) (fun h58 => ?_)
        · exact absurd h58 (by omega)
        · skip
          refine j_aload_n X rfl d_M_record_61 ?_
          refine j_iload_n X rfl d_M_record_62 ?_
          refine v_M_83 X hz (c_M_many (zl z) E (up σ 18 0 0 0) t ht) rfl rfl rfl (Nat.le_of_ble_eq_true rfl) ⟨Nat.le_refl _, Nat.le_refl _⟩ d_M_record_63 ?_
          refine j_topi (congrArg iI (rt_many hw hR)) ?_
          exact j_iret X Y (Nat.le_refl _) (Nat.le_refl _) d_M_record_66 ⟨rfl, rfl⟩
      · exact absurd h21 (by omega)

set_option maxRecDepth 100000 in
set_option maxHeartbeats 4000000 in
theorem c_M_recordX1 (l : Launch) (E : eT) (μ σ : St) (t k w : Int) (rt : inR t) (rk : inR k) (r4 : inR (μ 4 t 4)) (ht : ¬ (0 ≤ t ∧ t < 32)) : FCon l E y_M_record ws_M_record 2 [.ref (E.2.2.2 18 0), .int (iI t), .int (iI k), .int (iI w)] σ (some (.int (iI 0))) (up σ 18 0 0 1) := by
  refine con_of (cc := b_M_record) (nL := 6) (ret := (some .int)) (by decide) (Nat.le_of_ble_eq_true rfl) (fun z X Y hn => ?_)
  have X : Cx E z b_M_record R_M := X
  have hz := Y.2.1
  change J E z 0 0 0 [(0, .ref (E.2.2.2 18 0)), (1, .int (iI t)), (2, .int (iI k)), (3, .int (iI w))] [] (cells E σ)
  refine j_iload_n X rfl d_M_record_0 ?_
  refine s_M_183 X hz (c_M_isTrack (zl z) E σ t (by omega)) rfl rfl rfl (Nat.le_of_ble_eq_true rfl) ⟨Nat.le_refl _, Nat.le_refl _⟩ d_M_record_1 ?_
  refine j_ifz X d_M_record_4 (tgt := 15) rfl (fun h4 => ?_) (fun h4 => ?_)
  · skip
    refine j_iconst X d_M_record_15 ?_
    refine j_istore X (zlt hn rfl) d_M_record_16 ?_
    refine j_aload_n X rfl d_M_record_18 ?_
    refine j_iload X rfl d_M_record_19 ?_
    refine j_if_ne X (by omega) d_M_record_21 (tgt := 46) rfl (fun h21 => ?_) (fun h21 => ?_)
    · exact absurd h21 (by omega)
    · skip
      refine j_aload_n X rfl d_M_record_24 ?_
      refine j_iload_n X rfl d_M_record_25 ?_
      refine j_iload_n X rfl d_M_record_26 ?_
      refine v_M_186 X hz (c_M_isRecord (zl z) E σ t k (μ 4 t 4) (by omega) (by omega) r4 (fun q => absurd q ht)) rfl rfl rfl (Nat.le_of_ble_eq_true rfl) ⟨Nat.le_refl _, Nat.le_refl _⟩ d_M_record_27 ?_
      refine j_ifz X d_M_record_30 (tgt := 42) rfl (fun h30 => ?_) (fun h30 => ?_)
      · skip
        refine j_iconst X d_M_record_42 ?_
        refine j_goto X d_M_record_43 (tgt := 47) rfl ?_
        refine j_iconst X d_M_record_47 ?_
        refine v_M_53 X hz (c_M_throwing (zl z) E σ _ _ (by decide) (by decide)) rfl rfl rfl (Nat.le_of_ble_eq_true rfl) ⟨Nat.le_refl _, Nat.le_refl _⟩ d_M_record_48 ?_
        refine j_ifz X d_M_record_51 (tgt := 56) rfl (fun h => absurd (by decide) h) (fun _ => ?_)
        refine j_iconst X d_M_record_54 ?_
        exact j_iret X Y (Nat.le_refl _) (Nat.le_refl _) d_M_record_55 ⟨rfl, rfl⟩
      · exact absurd h30 (by omega)
  · exact absurd h4 (by omega)

set_option maxRecDepth 100000 in
set_option maxHeartbeats 4000000 in
theorem c_M_recordX2 (l : Launch) (E : eT) (μ σ : St) (t k w : Int) (rk : inR k) (rw' : inR w) (ht : 0 ≤ t ∧ t < 32) (hw : tkW μ t) (hR : RT μ σ t) (h0 : ¬ k = 0) (hh : ¬ ((1 ≤ k ∧ k ≤ μ 4 t 4) ∧ (0 ≤ w ∧ w ≤ 3))) : FCon l E y_M_record ws_M_record 2 [.ref (E.2.2.2 18 0), .int (iI t), .int (iI k), .int (iI w)] σ (some (.int (iI 0))) (up σ 18 0 0 1) := by
  refine con_of (cc := b_M_record) (nL := 6) (ret := (some .int)) (by decide) (Nat.le_of_ble_eq_true rfl) (fun z X Y hn => ?_)
  have X : Cx E z b_M_record R_M := X
  have hz := Y.2.1
  change J E z 0 0 0 [(0, .ref (E.2.2.2 18 0)), (1, .int (iI t)), (2, .int (iI k)), (3, .int (iI w))] [] (cells E σ)
  have r4 : inR (μ 4 t 4) := by have := hw.1; omega
  refine j_iload_n X rfl d_M_record_0 ?_
  refine s_M_183 X hz (c_M_isTrack (zl z) E σ t (by omega)) rfl rfl rfl (Nat.le_of_ble_eq_true rfl) ⟨Nat.le_refl _, Nat.le_refl _⟩ d_M_record_1 ?_
  refine j_ifz X d_M_record_4 (tgt := 15) rfl (fun h4 => ?_) (fun h4 => ?_)
  · exact absurd h4 (by omega)
  · skip
    refine j_iload_n X rfl d_M_record_7 ?_
    refine j_if_ne X (by omega) d_M_record_8 (tgt := 15) rfl (fun h8 => ?_) (fun h8 => ?_)
    · skip
      refine j_iconst X d_M_record_15 ?_
      refine j_istore X (zlt hn rfl) d_M_record_16 ?_
      refine j_aload_n X rfl d_M_record_18 ?_
      refine j_iload X rfl d_M_record_19 ?_
      refine j_if_ne X (by omega) d_M_record_21 (tgt := 46) rfl (fun h21 => ?_) (fun h21 => ?_)
      · exact absurd h21 (by omega)
      · skip
        refine j_aload_n X rfl d_M_record_24 ?_
        refine j_iload_n X rfl d_M_record_25 ?_
        refine j_iload_n X rfl d_M_record_26 ?_
        refine v_M_186 X hz (c_M_isRecord (zl z) E σ t k (μ 4 t 4) (by omega) (by omega) r4 (fun _ => rt_many hw hR)) rfl rfl rfl (Nat.le_of_ble_eq_true rfl) ⟨Nat.le_refl _, Nat.le_refl _⟩ d_M_record_27 ?_
        refine j_ifz X d_M_record_30 (tgt := 42) rfl (fun h30 => ?_) (fun h30 => ?_)
        · skip
          refine j_iconst X d_M_record_42 ?_
          refine j_goto X d_M_record_43 (tgt := 47) rfl ?_
          refine j_iconst X d_M_record_47 ?_
          refine v_M_53 X hz (c_M_throwing (zl z) E σ _ _ (by decide) (by decide)) rfl rfl rfl (Nat.le_of_ble_eq_true rfl) ⟨Nat.le_refl _, Nat.le_refl _⟩ d_M_record_48 ?_
          refine j_ifz X d_M_record_51 (tgt := 56) rfl (fun h => absurd (by decide) h) (fun _ => ?_)
          refine j_iconst X d_M_record_54 ?_
          exact j_iret X Y (Nat.le_refl _) (Nat.le_refl _) d_M_record_55 ⟨rfl, rfl⟩
        · skip
          refine j_iload_n X rfl d_M_record_33 ?_
          refine j_if_lt X (by omega) d_M_record_34 (tgt := 42) rfl (fun h34 => ?_) (fun h34 => ?_)
          · skip
            refine j_iconst X d_M_record_42 ?_
            refine j_goto X d_M_record_43 (tgt := 47) rfl ?_
            refine j_iconst X d_M_record_47 ?_
            refine v_M_53 X hz (c_M_throwing (zl z) E σ _ _ (by decide) (by decide)) rfl rfl rfl (Nat.le_of_ble_eq_true rfl) ⟨Nat.le_refl _, Nat.le_refl _⟩ d_M_record_48 ?_
            refine j_ifz X d_M_record_51 (tgt := 56) rfl (fun h => absurd (by decide) h) (fun _ => ?_)
            refine j_iconst X d_M_record_54 ?_
            exact j_iret X Y (Nat.le_refl _) (Nat.le_refl _) d_M_record_55 ⟨rfl, rfl⟩
          · skip
            refine j_iload_n X rfl d_M_record_37 ?_
            refine j_iconst X d_M_record_38 ?_
            refine j_icmp_le X (by omega) (by omega) d_M_record_39 (tgt := 46) rfl (fun h39 => ?_) (fun h39 => ?_)
            · exact absurd h39 (by omega)
            · skip
              refine j_iconst X d_M_record_42 ?_
              refine j_goto X d_M_record_43 (tgt := 47) rfl ?_
              refine j_iconst X d_M_record_47 ?_
              refine v_M_53 X hz (c_M_throwing (zl z) E σ _ _ (by decide) (by decide)) rfl rfl rfl (Nat.le_of_ble_eq_true rfl) ⟨Nat.le_refl _, Nat.le_refl _⟩ d_M_record_48 ?_
              refine j_ifz X d_M_record_51 (tgt := 56) rfl (fun h => absurd (by decide) h) (fun _ => ?_)
              refine j_iconst X d_M_record_54 ?_
              exact j_iret X Y (Nat.le_refl _) (Nat.le_refl _) d_M_record_55 ⟨rfl, rfl⟩
    · exact absurd h8 (by omega)

set_option maxRecDepth 100000 in
set_option maxHeartbeats 4000000 in
theorem c_M_record1 (l : Launch) (E : eT) (μ σ : St) (t k : Int) (ht : 0 ≤ t ∧ t < 32) (hw : tkW μ t) (hR : RT μ σ t) (hk : 1 ≤ k ∧ k ≤ μ 4 t 4) : FCon l E y_M_record ws_M_record 3 [.ref (E.2.2.2 18 0), .int (iI t), .int (iI k), .int (iI 0)] σ (some (.int (iI (μ 5 t k)))) (up σ 18 0 0 0) := by
  refine con_of (cc := b_M_record) (nL := 6) (ret := (some .int)) (by decide) (Nat.le_of_ble_eq_true rfl) (fun z X Y hn => ?_)
  have X : Cx E z b_M_record R_M := X
  have hz := Y.2.1
  change J E z 0 0 0 [(0, .ref (E.2.2.2 18 0)), (1, .int (iI t)), (2, .int (iI k)), (3, .int (iI 0))] [] (cells E σ)
  have r4 : inR (μ 4 t 4) := by have := hw.1; omega
  have hw1 := hw.1
  obtain ⟨c1, c2, d1, d2, d3, d4, d5⟩ := rt_rec hw hR hk
  refine j_iload_n X rfl d_M_record_0 ?_
  refine s_M_183 X hz (c_M_isTrack (zl z) E σ t (by omega)) rfl rfl rfl (Nat.le_of_ble_eq_true rfl) ⟨Nat.le_refl _, Nat.le_refl _⟩ d_M_record_1 ?_
  refine j_ifz X d_M_record_4 (tgt := 15) rfl (fun h4 => ?_) (fun h4 => ?_)
  · exact absurd h4 (by omega)
  · skip
    refine j_iload_n X rfl d_M_record_7 ?_
    refine j_if_ne X (by omega) d_M_record_8 (tgt := 15) rfl (fun h8 => ?_) (fun h8 => ?_)
    · skip
      refine j_iconst X d_M_record_15 ?_
      refine j_istore X (zlt hn rfl) d_M_record_16 ?_
      refine j_aload_n X rfl d_M_record_18 ?_
      refine j_iload X rfl d_M_record_19 ?_
      refine j_if_ne X (by omega) d_M_record_21 (tgt := 46) rfl (fun h21 => ?_) (fun h21 => ?_)
      · exact absurd h21 (by omega)
      · skip
        refine j_aload_n X rfl d_M_record_24 ?_
        refine j_iload_n X rfl d_M_record_25 ?_
        refine j_iload_n X rfl d_M_record_26 ?_
        refine v_M_186 X hz (c_M_isRecord (zl z) E σ t k (μ 4 t 4) (by omega) (by omega) r4 (fun _ => rt_many hw hR)) rfl rfl rfl (Nat.le_of_ble_eq_true rfl) ⟨Nat.le_refl _, Nat.le_refl _⟩ d_M_record_27 ?_
        refine j_ifz X d_M_record_30 (tgt := 42) rfl (fun h30 => ?_) (fun h30 => ?_)
        · exact absurd h30 (by omega)
        · skip
          refine j_iload_n X rfl d_M_record_33 ?_
          refine j_if_lt X (by omega) d_M_record_34 (tgt := 42) rfl (fun h34 => ?_) (fun h34 => ?_)
          · exact absurd h34 (by omega)
          · skip
            refine j_iload_n X rfl d_M_record_37 ?_
            refine j_iconst X d_M_record_38 ?_
            refine j_icmp_le X (by omega) (by omega) d_M_record_39 (tgt := 46) rfl (fun h39 => ?_) (fun h39 => ?_)
            · skip
              refine j_iconst X d_M_record_46 ?_
              refine j_iconst X d_M_record_47 ?_
              refine v_M_53 X hz (c_M_throwing (zl z) E σ _ _ (by decide) (by decide)) rfl rfl rfl (Nat.le_of_ble_eq_true rfl) ⟨Nat.le_refl _, Nat.le_refl _⟩ d_M_record_48 ?_
              refine j_ifz X d_M_record_51 (tgt := 56) rfl (fun _ => ?_) (fun h => absurd h (by decide))
              refine j_iload X rfl d_M_record_56 ?_
              refine j_if_eq X (by omega) d_M_record_58 (tgt := 67) rfl (fun h58 => ?_) (fun h58 => ?_)
              · skip
                refine j_aload_n X rfl d_M_record_67 ?_
                refine j_iload_n X rfl d_M_record_68 ?_
                refine j_iload_n X rfl d_M_record_69 ?_
                refine v_M_189 X hz (c_M_placeOf (zl z) E μ (up σ 18 0 0 0) t k ht hw hR hk) rfl rfl rfl (Nat.le_of_ble_eq_true rfl) ⟨Nat.le_refl _, Nat.le_refl _⟩ d_M_record_70 ?_
                refine j_istore X (zlt hn rfl) d_M_record_73 ?_
                refine j_iload_n X rfl d_M_record_75 ?_
                refine j_if_ne X (by omega) d_M_record_76 (tgt := 84) rfl (fun h76 => ?_) (fun h76 => ?_)
                · exact absurd h76 (by omega)
                · skip
                  refine j_iload X rfl d_M_record_79 ?_
                  refine j_goto X d_M_record_81 (tgt := 129) rfl ?_
                  exact j_iret X Y (Nat.le_refl _) (Nat.le_refl _) d_M_record_129 ⟨rfl, rfl⟩
              · exact absurd h58 (by omega)
            · exact absurd h39 (by omega)
    · exact absurd h8 (by omega)

set_option maxRecDepth 100000 in
set_option maxHeartbeats 4000000 in
theorem c_M_record2 (l : Launch) (E : eT) (μ σ : St) (t k : Int) (ht : 0 ≤ t ∧ t < 32) (hw : tkW μ t) (hR : RT μ σ t) (hk : 1 ≤ k ∧ k ≤ μ 4 t 4) : FCon l E y_M_record ws_M_record 3 [.ref (E.2.2.2 18 0), .int (iI t), .int (iI k), .int (iI 1)] σ (some (.int (iI (μ 6 t k)))) (up σ 18 0 0 0) := by
  refine con_of (cc := b_M_record) (nL := 6) (ret := (some .int)) (by decide) (Nat.le_of_ble_eq_true rfl) (fun z X Y hn => ?_)
  have X : Cx E z b_M_record R_M := X
  have hz := Y.2.1
  change J E z 0 0 0 [(0, .ref (E.2.2.2 18 0)), (1, .int (iI t)), (2, .int (iI k)), (3, .int (iI 1))] [] (cells E σ)
  have r4 : inR (μ 4 t 4) := by have := hw.1; omega
  have hw1 := hw.1
  obtain ⟨c1, c2, d1, d2, d3, d4, d5⟩ := rt_rec hw hR hk
  refine j_iload_n X rfl d_M_record_0 ?_
  refine s_M_183 X hz (c_M_isTrack (zl z) E σ t (by omega)) rfl rfl rfl (Nat.le_of_ble_eq_true rfl) ⟨Nat.le_refl _, Nat.le_refl _⟩ d_M_record_1 ?_
  refine j_ifz X d_M_record_4 (tgt := 15) rfl (fun h4 => ?_) (fun h4 => ?_)
  · exact absurd h4 (by omega)
  · skip
    refine j_iload_n X rfl d_M_record_7 ?_
    refine j_if_ne X (by omega) d_M_record_8 (tgt := 15) rfl (fun h8 => ?_) (fun h8 => ?_)
    · skip
      refine j_iconst X d_M_record_15 ?_
      refine j_istore X (zlt hn rfl) d_M_record_16 ?_
      refine j_aload_n X rfl d_M_record_18 ?_
      refine j_iload X rfl d_M_record_19 ?_
      refine j_if_ne X (by omega) d_M_record_21 (tgt := 46) rfl (fun h21 => ?_) (fun h21 => ?_)
      · exact absurd h21 (by omega)
      · skip
        refine j_aload_n X rfl d_M_record_24 ?_
        refine j_iload_n X rfl d_M_record_25 ?_
        refine j_iload_n X rfl d_M_record_26 ?_
        refine v_M_186 X hz (c_M_isRecord (zl z) E σ t k (μ 4 t 4) (by omega) (by omega) r4 (fun _ => rt_many hw hR)) rfl rfl rfl (Nat.le_of_ble_eq_true rfl) ⟨Nat.le_refl _, Nat.le_refl _⟩ d_M_record_27 ?_
        refine j_ifz X d_M_record_30 (tgt := 42) rfl (fun h30 => ?_) (fun h30 => ?_)
        · exact absurd h30 (by omega)
        · skip
          refine j_iload_n X rfl d_M_record_33 ?_
          refine j_if_lt X (by omega) d_M_record_34 (tgt := 42) rfl (fun h34 => ?_) (fun h34 => ?_)
          · exact absurd h34 (by omega)
          · skip
            refine j_iload_n X rfl d_M_record_37 ?_
            refine j_iconst X d_M_record_38 ?_
            refine j_icmp_le X (by omega) (by omega) d_M_record_39 (tgt := 46) rfl (fun h39 => ?_) (fun h39 => ?_)
            · skip
              refine j_iconst X d_M_record_46 ?_
              refine j_iconst X d_M_record_47 ?_
              refine v_M_53 X hz (c_M_throwing (zl z) E σ _ _ (by decide) (by decide)) rfl rfl rfl (Nat.le_of_ble_eq_true rfl) ⟨Nat.le_refl _, Nat.le_refl _⟩ d_M_record_48 ?_
              refine j_ifz X d_M_record_51 (tgt := 56) rfl (fun _ => ?_) (fun h => absurd h (by decide))
              refine j_iload X rfl d_M_record_56 ?_
              refine j_if_eq X (by omega) d_M_record_58 (tgt := 67) rfl (fun h58 => ?_) (fun h58 => ?_)
              · skip
                refine j_aload_n X rfl d_M_record_67 ?_
                refine j_iload_n X rfl d_M_record_68 ?_
                refine j_iload_n X rfl d_M_record_69 ?_
                refine v_M_189 X hz (c_M_placeOf (zl z) E μ (up σ 18 0 0 0) t k ht hw hR hk) rfl rfl rfl (Nat.le_of_ble_eq_true rfl) ⟨Nat.le_refl _, Nat.le_refl _⟩ d_M_record_70 ?_
                refine j_istore X (zlt hn rfl) d_M_record_73 ?_
                refine j_iload_n X rfl d_M_record_75 ?_
                refine j_if_ne X (by omega) d_M_record_76 (tgt := 84) rfl (fun h76 => ?_) (fun h76 => ?_)
                · skip
                  refine j_iload_n X rfl d_M_record_84 ?_
                  refine j_iconst X d_M_record_85 ?_
                  refine j_icmp_ne X (by omega) (by omega) d_M_record_86 (tgt := 99) rfl (fun h86 => ?_) (fun h86 => ?_)
                  · exact absurd h86 (by omega)
                  · skip
                    refine j_aload_n X rfl d_M_record_89 ?_
                    refine j_iload_n X rfl d_M_record_90 ?_
                    refine j_iload X rfl d_M_record_91 ?_
                    refine v_M_36 X hz (c_M_keyOf (zl z) E (up σ 18 0 0 0) t (μ 5 t k) ht d1) rfl rfl rfl (Nat.le_of_ble_eq_true rfl) ⟨Nat.le_refl _, Nat.le_refl _⟩ d_M_record_93 ?_
                    refine j_topi (congrArg iI c1) ?_
                    refine j_goto X d_M_record_96 (tgt := 129) rfl ?_
                    exact j_iret X Y (Nat.le_refl _) (Nat.le_refl _) d_M_record_129 ⟨rfl, rfl⟩
                · exact absurd h76 (by omega)
              · exact absurd h58 (by omega)
            · exact absurd h39 (by omega)
    · exact absurd h8 (by omega)

set_option maxRecDepth 100000 in
set_option maxHeartbeats 4000000 in
theorem c_M_record3 (l : Launch) (E : eT) (μ σ : St) (t k : Int) (ht : 0 ≤ t ∧ t < 32) (hw : tkW μ t) (hR : RT μ σ t) (hk : 1 ≤ k ∧ k ≤ μ 4 t 4) : FCon l E y_M_record ws_M_record 3 [.ref (E.2.2.2 18 0), .int (iI t), .int (iI k), .int (iI 2)] σ (some (.int (iI (dlS μ t k)))) (up σ 18 0 0 0) := by
  refine con_of (cc := b_M_record) (nL := 6) (ret := (some .int)) (by decide) (Nat.le_of_ble_eq_true rfl) (fun z X Y hn => ?_)
  have X : Cx E z b_M_record R_M := X
  have hz := Y.2.1
  change J E z 0 0 0 [(0, .ref (E.2.2.2 18 0)), (1, .int (iI t)), (2, .int (iI k)), (3, .int (iI 2))] [] (cells E σ)
  have r4 : inR (μ 4 t 4) := by have := hw.1; omega
  have hw1 := hw.1
  obtain ⟨c1, c2, d1, d2, d3, d4, d5⟩ := rt_rec hw hR hk
  refine j_iload_n X rfl d_M_record_0 ?_
  refine s_M_183 X hz (c_M_isTrack (zl z) E σ t (by omega)) rfl rfl rfl (Nat.le_of_ble_eq_true rfl) ⟨Nat.le_refl _, Nat.le_refl _⟩ d_M_record_1 ?_
  refine j_ifz X d_M_record_4 (tgt := 15) rfl (fun h4 => ?_) (fun h4 => ?_)
  · exact absurd h4 (by omega)
  · skip
    refine j_iload_n X rfl d_M_record_7 ?_
    refine j_if_ne X (by omega) d_M_record_8 (tgt := 15) rfl (fun h8 => ?_) (fun h8 => ?_)
    · skip
      refine j_iconst X d_M_record_15 ?_
      refine j_istore X (zlt hn rfl) d_M_record_16 ?_
      refine j_aload_n X rfl d_M_record_18 ?_
      refine j_iload X rfl d_M_record_19 ?_
      refine j_if_ne X (by omega) d_M_record_21 (tgt := 46) rfl (fun h21 => ?_) (fun h21 => ?_)
      · exact absurd h21 (by omega)
      · skip
        refine j_aload_n X rfl d_M_record_24 ?_
        refine j_iload_n X rfl d_M_record_25 ?_
        refine j_iload_n X rfl d_M_record_26 ?_
        refine v_M_186 X hz (c_M_isRecord (zl z) E σ t k (μ 4 t 4) (by omega) (by omega) r4 (fun _ => rt_many hw hR)) rfl rfl rfl (Nat.le_of_ble_eq_true rfl) ⟨Nat.le_refl _, Nat.le_refl _⟩ d_M_record_27 ?_
        refine j_ifz X d_M_record_30 (tgt := 42) rfl (fun h30 => ?_) (fun h30 => ?_)
        · exact absurd h30 (by omega)
        · skip
          refine j_iload_n X rfl d_M_record_33 ?_
          refine j_if_lt X (by omega) d_M_record_34 (tgt := 42) rfl (fun h34 => ?_) (fun h34 => ?_)
          · exact absurd h34 (by omega)
          · skip
            refine j_iload_n X rfl d_M_record_37 ?_
            refine j_iconst X d_M_record_38 ?_
            refine j_icmp_le X (by omega) (by omega) d_M_record_39 (tgt := 46) rfl (fun h39 => ?_) (fun h39 => ?_)
            · skip
              refine j_iconst X d_M_record_46 ?_
              refine j_iconst X d_M_record_47 ?_
              refine v_M_53 X hz (c_M_throwing (zl z) E σ _ _ (by decide) (by decide)) rfl rfl rfl (Nat.le_of_ble_eq_true rfl) ⟨Nat.le_refl _, Nat.le_refl _⟩ d_M_record_48 ?_
              refine j_ifz X d_M_record_51 (tgt := 56) rfl (fun _ => ?_) (fun h => absurd h (by decide))
              refine j_iload X rfl d_M_record_56 ?_
              refine j_if_eq X (by omega) d_M_record_58 (tgt := 67) rfl (fun h58 => ?_) (fun h58 => ?_)
              · skip
                refine j_aload_n X rfl d_M_record_67 ?_
                refine j_iload_n X rfl d_M_record_68 ?_
                refine j_iload_n X rfl d_M_record_69 ?_
                refine v_M_189 X hz (c_M_placeOf (zl z) E μ (up σ 18 0 0 0) t k ht hw hR hk) rfl rfl rfl (Nat.le_of_ble_eq_true rfl) ⟨Nat.le_refl _, Nat.le_refl _⟩ d_M_record_70 ?_
                refine j_istore X (zlt hn rfl) d_M_record_73 ?_
                refine j_iload_n X rfl d_M_record_75 ?_
                refine j_if_ne X (by omega) d_M_record_76 (tgt := 84) rfl (fun h76 => ?_) (fun h76 => ?_)
                · skip
                  refine j_iload_n X rfl d_M_record_84 ?_
                  refine j_iconst X d_M_record_85 ?_
                  refine j_icmp_ne X (by omega) (by omega) d_M_record_86 (tgt := 99) rfl (fun h86 => ?_) (fun h86 => ?_)
                  · skip
                    refine j_iload_n X rfl d_M_record_99 ?_
                    refine j_iconst X d_M_record_100 ?_
                    refine j_icmp_ne X (by omega) (by omega) d_M_record_101 (tgt := 114) rfl (fun h101 => ?_) (fun h101 => ?_)
                    · exact absurd h101 (by omega)
                    · skip
                      refine j_aload_n X rfl d_M_record_104 ?_
                      refine j_iload_n X rfl d_M_record_105 ?_
                      refine j_iload X rfl d_M_record_106 ?_
                      refine v_M_40 X hz (c_M_dataOf (zl z) E (up σ 18 0 0 0) t (μ 5 t k) ht d1) rfl rfl rfl (Nat.le_of_ble_eq_true rfl) ⟨Nat.le_refl _, Nat.le_refl _⟩ d_M_record_108 ?_
                      refine j_topi (congrArg iI c2) ?_
                      refine j_goto X d_M_record_111 (tgt := 129) rfl ?_
                      exact j_iret X Y (Nat.le_refl _) (Nat.le_refl _) d_M_record_129 ⟨rfl, rfl⟩
                  · exact absurd h86 (by omega)
                · exact absurd h76 (by omega)
              · exact absurd h58 (by omega)
            · exact absurd h39 (by omega)
    · exact absurd h8 (by omega)

set_option maxRecDepth 100000 in
set_option maxHeartbeats 4000000 in
theorem c_M_record4 (l : Launch) (E : eT) (μ σ : St) (t k : Int) (ht : 0 ≤ t ∧ t < 32) (hw : tkW μ t) (hR : RT μ σ t) (hk : 1 ≤ k ∧ k ≤ μ 4 t 4) (h7 : μ 7 t k = 0 ∨ μ 7 t k = 1) : FCon l E y_M_record ws_M_record 3 [.ref (E.2.2.2 18 0), .int (iI t), .int (iI k), .int (iI 3)] σ (some (.int (iI (b2i (decide (μ 7 t k = 1)))))) (up σ 18 0 0 0) := by
  refine con_of (cc := b_M_record) (nL := 6) (ret := (some .int)) (by decide) (Nat.le_of_ble_eq_true rfl) (fun z X Y hn => ?_)
  have X : Cx E z b_M_record R_M := X
  have hz := Y.2.1
  change J E z 0 0 0 [(0, .ref (E.2.2.2 18 0)), (1, .int (iI t)), (2, .int (iI k)), (3, .int (iI 3))] [] (cells E σ)
  have r4 : inR (μ 4 t 4) := by have := hw.1; omega
  have hw1 := hw.1
  obtain ⟨c1, c2, d1, d2, d3, d4, d5⟩ := rt_rec hw hR hk
  have e7 := (hR.2.2.2 k hk.1 hk.2).2.2.1
  refine j_iload_n X rfl d_M_record_0 ?_
  refine s_M_183 X hz (c_M_isTrack (zl z) E σ t (by omega)) rfl rfl rfl (Nat.le_of_ble_eq_true rfl) ⟨Nat.le_refl _, Nat.le_refl _⟩ d_M_record_1 ?_
  refine j_ifz X d_M_record_4 (tgt := 15) rfl (fun h4 => ?_) (fun h4 => ?_)
  · exact absurd h4 (by omega)
  · skip
    refine j_iload_n X rfl d_M_record_7 ?_
    refine j_if_ne X (by omega) d_M_record_8 (tgt := 15) rfl (fun h8 => ?_) (fun h8 => ?_)
    · skip
      refine j_iconst X d_M_record_15 ?_
      refine j_istore X (zlt hn rfl) d_M_record_16 ?_
      refine j_aload_n X rfl d_M_record_18 ?_
      refine j_iload X rfl d_M_record_19 ?_
      refine j_if_ne X (by omega) d_M_record_21 (tgt := 46) rfl (fun h21 => ?_) (fun h21 => ?_)
      · exact absurd h21 (by omega)
      · skip
        refine j_aload_n X rfl d_M_record_24 ?_
        refine j_iload_n X rfl d_M_record_25 ?_
        refine j_iload_n X rfl d_M_record_26 ?_
        refine v_M_186 X hz (c_M_isRecord (zl z) E σ t k (μ 4 t 4) (by omega) (by omega) r4 (fun _ => rt_many hw hR)) rfl rfl rfl (Nat.le_of_ble_eq_true rfl) ⟨Nat.le_refl _, Nat.le_refl _⟩ d_M_record_27 ?_
        refine j_ifz X d_M_record_30 (tgt := 42) rfl (fun h30 => ?_) (fun h30 => ?_)
        · exact absurd h30 (by omega)
        · skip
          refine j_iload_n X rfl d_M_record_33 ?_
          refine j_if_lt X (by omega) d_M_record_34 (tgt := 42) rfl (fun h34 => ?_) (fun h34 => ?_)
          · exact absurd h34 (by omega)
          · skip
            refine j_iload_n X rfl d_M_record_37 ?_
            refine j_iconst X d_M_record_38 ?_
            refine j_icmp_le X (by omega) (by omega) d_M_record_39 (tgt := 46) rfl (fun h39 => ?_) (fun h39 => ?_)
            · skip
              refine j_iconst X d_M_record_46 ?_
              refine j_iconst X d_M_record_47 ?_
              refine v_M_53 X hz (c_M_throwing (zl z) E σ _ _ (by decide) (by decide)) rfl rfl rfl (Nat.le_of_ble_eq_true rfl) ⟨Nat.le_refl _, Nat.le_refl _⟩ d_M_record_48 ?_
              refine j_ifz X d_M_record_51 (tgt := 56) rfl (fun _ => ?_) (fun h => absurd h (by decide))
              refine j_iload X rfl d_M_record_56 ?_
              refine j_if_eq X (by omega) d_M_record_58 (tgt := 67) rfl (fun h58 => ?_) (fun h58 => ?_)
              · skip
                refine j_aload_n X rfl d_M_record_67 ?_
                refine j_iload_n X rfl d_M_record_68 ?_
                refine j_iload_n X rfl d_M_record_69 ?_
                refine v_M_189 X hz (c_M_placeOf (zl z) E μ (up σ 18 0 0 0) t k ht hw hR hk) rfl rfl rfl (Nat.le_of_ble_eq_true rfl) ⟨Nat.le_refl _, Nat.le_refl _⟩ d_M_record_70 ?_
                refine j_istore X (zlt hn rfl) d_M_record_73 ?_
                refine j_iload_n X rfl d_M_record_75 ?_
                refine j_if_ne X (by omega) d_M_record_76 (tgt := 84) rfl (fun h76 => ?_) (fun h76 => ?_)
                · skip
                  refine j_iload_n X rfl d_M_record_84 ?_
                  refine j_iconst X d_M_record_85 ?_
                  refine j_icmp_ne X (by omega) (by omega) d_M_record_86 (tgt := 99) rfl (fun h86 => ?_) (fun h86 => ?_)
                  · skip
                    refine j_iload_n X rfl d_M_record_99 ?_
                    refine j_iconst X d_M_record_100 ?_
                    refine j_icmp_ne X (by omega) (by omega) d_M_record_101 (tgt := 114) rfl (fun h101 => ?_) (fun h101 => ?_)
                    · skip
                      refine j_aload_n X rfl d_M_record_114 ?_
                      refine j_iload_n X rfl d_M_record_115 ?_
                      refine j_iload X rfl d_M_record_116 ?_
                      refine v_M_129 X hz (c_M_isSpoiled (zl z) E (up σ 18 0 0 0) t (μ 5 t k) (show inR (σ 20 0 (600 * t + μ 5 t k + 3)) by omega) ht d1) rfl rfl rfl (Nat.le_of_ble_eq_true rfl) ⟨Nat.le_refl _, Nat.le_refl _⟩ d_M_record_118 ?_
                      refine j_ifz X d_M_record_121 (tgt := 128) rfl (fun h121 => ?_) (fun h121 => ?_)
                      · skip
                        refine j_iconst X d_M_record_128 ?_
                        exact j_iret X Y (Nat.le_refl _) (Nat.le_refl _) d_M_record_129 ⟨by first | rw [b2i_t (show μ 7 t k = 1 from e7.symm.trans h121)] | rw [b2i_f (fun q => h121 (e7.trans q))], rfl⟩
                      · skip
                        refine j_iconst X d_M_record_124 ?_
                        refine j_goto X d_M_record_125 (tgt := 129) rfl ?_
                        exact j_iret X Y (Nat.le_refl _) (Nat.le_refl _) d_M_record_129 ⟨by first | rw [b2i_t (show μ 7 t k = 1 from e7.symm.trans h121)] | rw [b2i_f (fun q => h121 (e7.trans q))], rfl⟩
                    · exact absurd h101 (by omega)
                  · exact absurd h86 (by omega)
                · exact absurd h76 (by omega)
              · exact absurd h58 (by omega)
            · exact absurd h39 (by omega)
    · exact absurd h8 (by omega)

set_option maxRecDepth 100000 in
set_option maxHeartbeats 4000000 in
theorem c_M_byteOf (l : Launch) (E : eT) (μ σ : St) (t k i : Int) (ht : 0 ≤ t ∧ t < 32) (hw : tkW μ t) (hR : RT μ σ t) (hk : 1 ≤ k ∧ k ≤ μ 4 t 4) (hi : 0 ≤ i ∧ i ≤ μ 6 t k + dlS μ t k - 1) : FCon l E y_M_byteOf ws_M_byteOf 3 [.ref (E.2.2.2 18 0), .int (iI t), .int (iI k), .int (iI i)] σ (some (.int (iI (μ 9 t (μ 5 t k + 20 + i))))) (up σ 18 0 0 0) := by
  refine con_of (cc := b_M_byteOf) (nL := 6) (ret := (some .int)) (by decide) (Nat.le_of_ble_eq_true rfl) (fun z X Y hn => ?_)
  have X : Cx E z b_M_byteOf R_M := X
  have hz := Y.2.1
  change J E z 0 0 0 [(0, .ref (E.2.2.2 18 0)), (1, .int (iI t)), (2, .int (iI k)), (3, .int (iI i))] [] (cells E σ)
  have r4 : inR (μ 4 t 4) := by have := hw.1; omega
  have hw1 := hw.1
  obtain ⟨c1, c2, d1, d2, d3, d4, d5⟩ := rt_rec hw hR hk
  have e9 := (hR.2.2.2 k hk.1 hk.2).2.2.2 i hi.1 (by omega)
  refine j_aload_n X rfl d_M_byteOf_0 ?_
  refine j_iload_n X rfl d_M_byteOf_1 ?_
  refine j_iload_n X rfl d_M_byteOf_2 ?_
  refine v_M_186 X hz (c_M_isRecord (zl z) E σ t k (μ 4 t 4) (by omega) (by omega) r4 (fun _ => rt_many hw hR)) rfl rfl rfl (Nat.le_of_ble_eq_true rfl) ⟨Nat.le_refl _, Nat.le_refl _⟩ d_M_byteOf_3 ?_
  rw [b2i_t ⟨ht, hk⟩]
  refine j_istore X (zlt hn rfl) d_M_byteOf_6 ?_
  refine j_iload X rfl d_M_byteOf_8 ?_
  refine j_if_eq X (by omega) d_M_byteOf_10 (tgt := 22) rfl (fun h10 => ?_) (fun h10 => ?_)
  · exact absurd h10 (by omega)
  · skip
    refine j_aload_n X rfl d_M_byteOf_13 ?_
    refine j_iload_n X rfl d_M_byteOf_14 ?_
    refine j_iload_n X rfl d_M_byteOf_15 ?_
    refine v_M_189 X hz (c_M_placeOf (zl z) E μ σ t k ht hw hR hk) rfl rfl rfl (Nat.le_of_ble_eq_true rfl) ⟨Nat.le_refl _, Nat.le_refl _⟩ d_M_byteOf_16 ?_
    refine j_goto X d_M_byteOf_19 (tgt := 23) rfl ?_
    refine j_istore X (zlt hn rfl) d_M_byteOf_23 ?_
    refine j_aload_n X rfl d_M_byteOf_25 ?_
    refine j_iload X rfl d_M_byteOf_26 ?_
    refine j_if_eq X (by omega) d_M_byteOf_28 (tgt := 52) rfl (fun h28 => ?_) (fun h28 => ?_)
    · exact absurd h28 (by omega)
    · skip
      refine j_iload_n X rfl d_M_byteOf_31 ?_
      refine j_if_lt X (by omega) d_M_byteOf_32 (tgt := 52) rfl (fun h32 => ?_) (fun h32 => ?_)
      · exact absurd h32 (by omega)
      · skip
        refine j_iload_n X rfl d_M_byteOf_35 ?_
        refine j_aload_n X rfl d_M_byteOf_36 ?_
        refine j_iload_n X rfl d_M_byteOf_37 ?_
        refine j_iload X rfl d_M_byteOf_38 ?_
        refine v_M_47 X hz (c_M_endOf (zl z) E σ t (μ 5 t k) ht d1) rfl rfl rfl (Nat.le_of_ble_eq_true rfl) ⟨Nat.le_refl _, Nat.le_refl _⟩ d_M_byteOf_40 ?_
        refine j_topi (congrArg iI (show μ 5 t k + 20 + σ 20 0 (600 * t + μ 5 t k + 1) + σ 20 0 (600 * t + μ 5 t k + 2) = μ 5 t (k + 1) by omega)) ?_
        refine j_iload X rfl d_M_byteOf_43 ?_
        refine j_isub X d_M_byteOf_45 ?_
        refine j_bipush X rfl d_M_byteOf_46 ?_
        refine j_isub X d_M_byteOf_48 ?_
        refine j_icmp_lt X (by omega) (by omega) d_M_byteOf_49 (tgt := 56) rfl (fun h49 => ?_) (fun h49 => ?_)
        · skip
          refine j_iconst X d_M_byteOf_56 ?_
          refine j_iconst X d_M_byteOf_57 ?_
          refine v_M_53 X hz (c_M_throwing (zl z) E σ _ _ (by decide) (by decide)) rfl rfl rfl (Nat.le_of_ble_eq_true rfl) ⟨Nat.le_refl _, Nat.le_refl _⟩ d_M_byteOf_58 ?_
          refine j_ifz X d_M_byteOf_61 (tgt := 66) rfl (fun _ => ?_) (fun h => absurd h (by decide))
          refine j_aload_n X rfl d_M_byteOf_66 ?_
          refine j_iload_n X rfl d_M_byteOf_67 ?_
          refine j_iload X rfl d_M_byteOf_68 ?_
          refine j_iload_n X rfl d_M_byteOf_70 ?_
          refine v_M_103 X hz (c_M_byteAt (zl z) E (up σ 18 0 0 0) t (μ 5 t k) i ht (by omega)) rfl rfl rfl (Nat.le_of_ble_eq_true rfl) ⟨Nat.le_refl _, Nat.le_refl _⟩ d_M_byteOf_71 ?_
          refine j_topi (congrArg iI e9) ?_
          exact j_iret X Y (Nat.le_refl _) (Nat.le_refl _) d_M_byteOf_74 ⟨rfl, rfl⟩
        · exact absurd h49 (by omega)

set_option maxRecDepth 100000 in
set_option maxHeartbeats 4000000 in
theorem c_M_byteOfX1 (l : Launch) (E : eT) (μ σ : St) (t k i : Int) (rt : inR t) (rk : inR k) (r4 : inR (μ 4 t 4)) (hm : 0 ≤ t ∧ t < 32 → smS (σ 19 0) (600 * t) 600 = μ 4 t 4) (hh : ¬ ((0 ≤ t ∧ t < 32) ∧ 1 ≤ k ∧ k ≤ μ 4 t 4)) : FCon l E y_M_byteOf ws_M_byteOf 3 [.ref (E.2.2.2 18 0), .int (iI t), .int (iI k), .int (iI i)] σ (some (.int (iI 0))) (up σ 18 0 0 1) := by
  refine con_of (cc := b_M_byteOf) (nL := 6) (ret := (some .int)) (by decide) (Nat.le_of_ble_eq_true rfl) (fun z X Y hn => ?_)
  have X : Cx E z b_M_byteOf R_M := X
  have hz := Y.2.1
  change J E z 0 0 0 [(0, .ref (E.2.2.2 18 0)), (1, .int (iI t)), (2, .int (iI k)), (3, .int (iI i))] [] (cells E σ)
  refine j_aload_n X rfl d_M_byteOf_0 ?_
  refine j_iload_n X rfl d_M_byteOf_1 ?_
  refine j_iload_n X rfl d_M_byteOf_2 ?_
  refine v_M_186 X hz (c_M_isRecord (zl z) E σ t k (μ 4 t 4) (by omega) (by omega) r4 hm) rfl rfl rfl (Nat.le_of_ble_eq_true rfl) ⟨Nat.le_refl _, Nat.le_refl _⟩ d_M_byteOf_3 ?_
  rw [b2i_f hh]
  refine j_istore X (zlt hn rfl) d_M_byteOf_6 ?_
  refine j_iload X rfl d_M_byteOf_8 ?_
  refine j_if_eq X (by omega) d_M_byteOf_10 (tgt := 22) rfl (fun h10 => ?_) (fun h10 => ?_)
  · skip
    refine j_iconst X d_M_byteOf_22 ?_
    refine j_istore X (zlt hn rfl) d_M_byteOf_23 ?_
    refine j_aload_n X rfl d_M_byteOf_25 ?_
    refine j_iload X rfl d_M_byteOf_26 ?_
    refine j_if_eq X (by omega) d_M_byteOf_28 (tgt := 52) rfl (fun h28 => ?_) (fun h28 => ?_)
    · skip
      refine j_iconst X d_M_byteOf_52 ?_
      refine j_goto X d_M_byteOf_53 (tgt := 57) rfl ?_
      refine j_iconst X d_M_byteOf_57 ?_
      refine v_M_53 X hz (c_M_throwing (zl z) E σ _ _ (by decide) (by decide)) rfl rfl rfl (Nat.le_of_ble_eq_true rfl) ⟨Nat.le_refl _, Nat.le_refl _⟩ d_M_byteOf_58 ?_
      refine j_ifz X d_M_byteOf_61 (tgt := 66) rfl (fun h => absurd (by decide) h) (fun _ => ?_)
      refine j_iconst X d_M_byteOf_64 ?_
      exact j_iret X Y (Nat.le_refl _) (Nat.le_refl _) d_M_byteOf_65 ⟨rfl, rfl⟩
    · exact absurd h28 (by omega)
  · exact absurd h10 (by omega)

set_option maxRecDepth 100000 in
set_option maxHeartbeats 4000000 in
theorem c_M_byteOfX2 (l : Launch) (E : eT) (μ σ : St) (t k i : Int) (ht : 0 ≤ t ∧ t < 32) (hw : tkW μ t) (hR : RT μ σ t) (hk : 1 ≤ k ∧ k ≤ μ 4 t 4) (ri : inR i) (hi : ¬ (0 ≤ i ∧ i ≤ μ 6 t k + dlS μ t k - 1)) : FCon l E y_M_byteOf ws_M_byteOf 3 [.ref (E.2.2.2 18 0), .int (iI t), .int (iI k), .int (iI i)] σ (some (.int (iI 0))) (up σ 18 0 0 1) := by
  refine con_of (cc := b_M_byteOf) (nL := 6) (ret := (some .int)) (by decide) (Nat.le_of_ble_eq_true rfl) (fun z X Y hn => ?_)
  have X : Cx E z b_M_byteOf R_M := X
  have hz := Y.2.1
  change J E z 0 0 0 [(0, .ref (E.2.2.2 18 0)), (1, .int (iI t)), (2, .int (iI k)), (3, .int (iI i))] [] (cells E σ)
  have r4 : inR (μ 4 t 4) := by have := hw.1; omega
  have hw1 := hw.1
  obtain ⟨c1, c2, d1, d2, d3, d4, d5⟩ := rt_rec hw hR hk
  refine j_aload_n X rfl d_M_byteOf_0 ?_
  refine j_iload_n X rfl d_M_byteOf_1 ?_
  refine j_iload_n X rfl d_M_byteOf_2 ?_
  refine v_M_186 X hz (c_M_isRecord (zl z) E σ t k (μ 4 t 4) (by omega) (by omega) r4 (fun _ => rt_many hw hR)) rfl rfl rfl (Nat.le_of_ble_eq_true rfl) ⟨Nat.le_refl _, Nat.le_refl _⟩ d_M_byteOf_3 ?_
  rw [b2i_t ⟨ht, hk⟩]
  refine j_istore X (zlt hn rfl) d_M_byteOf_6 ?_
  refine j_iload X rfl d_M_byteOf_8 ?_
  refine j_if_eq X (by omega) d_M_byteOf_10 (tgt := 22) rfl (fun h10 => ?_) (fun h10 => ?_)
  · exact absurd h10 (by omega)
  · skip
    refine j_aload_n X rfl d_M_byteOf_13 ?_
    refine j_iload_n X rfl d_M_byteOf_14 ?_
    refine j_iload_n X rfl d_M_byteOf_15 ?_
    refine v_M_189 X hz (c_M_placeOf (zl z) E μ σ t k ht hw hR hk) rfl rfl rfl (Nat.le_of_ble_eq_true rfl) ⟨Nat.le_refl _, Nat.le_refl _⟩ d_M_byteOf_16 ?_
    refine j_goto X d_M_byteOf_19 (tgt := 23) rfl ?_
    refine j_istore X (zlt hn rfl) d_M_byteOf_23 ?_
    refine j_aload_n X rfl d_M_byteOf_25 ?_
    refine j_iload X rfl d_M_byteOf_26 ?_
    refine j_if_eq X (by omega) d_M_byteOf_28 (tgt := 52) rfl (fun h28 => ?_) (fun h28 => ?_)
    · exact absurd h28 (by omega)
    · skip
      refine j_iload_n X rfl d_M_byteOf_31 ?_
      refine j_if_lt X (by omega) d_M_byteOf_32 (tgt := 52) rfl (fun h32 => ?_) (fun h32 => ?_)
      · skip
        refine j_iconst X d_M_byteOf_52 ?_
        refine j_goto X d_M_byteOf_53 (tgt := 57) rfl ?_
        refine j_iconst X d_M_byteOf_57 ?_
        refine v_M_53 X hz (c_M_throwing (zl z) E σ _ _ (by decide) (by decide)) rfl rfl rfl (Nat.le_of_ble_eq_true rfl) ⟨Nat.le_refl _, Nat.le_refl _⟩ d_M_byteOf_58 ?_
        refine j_ifz X d_M_byteOf_61 (tgt := 66) rfl (fun h => absurd (by decide) h) (fun _ => ?_)
        refine j_iconst X d_M_byteOf_64 ?_
        exact j_iret X Y (Nat.le_refl _) (Nat.le_refl _) d_M_byteOf_65 ⟨rfl, rfl⟩
      · skip
        refine j_iload_n X rfl d_M_byteOf_35 ?_
        refine j_aload_n X rfl d_M_byteOf_36 ?_
        refine j_iload_n X rfl d_M_byteOf_37 ?_
        refine j_iload X rfl d_M_byteOf_38 ?_
        refine v_M_47 X hz (c_M_endOf (zl z) E σ t (μ 5 t k) ht d1) rfl rfl rfl (Nat.le_of_ble_eq_true rfl) ⟨Nat.le_refl _, Nat.le_refl _⟩ d_M_byteOf_40 ?_
        refine j_topi (congrArg iI (show μ 5 t k + 20 + σ 20 0 (600 * t + μ 5 t k + 1) + σ 20 0 (600 * t + μ 5 t k + 2) = μ 5 t (k + 1) by omega)) ?_
        refine j_iload X rfl d_M_byteOf_43 ?_
        refine j_isub X d_M_byteOf_45 ?_
        refine j_bipush X rfl d_M_byteOf_46 ?_
        refine j_isub X d_M_byteOf_48 ?_
        refine j_icmp_lt X (by omega) (by omega) d_M_byteOf_49 (tgt := 56) rfl (fun h49 => ?_) (fun h49 => ?_)
        · exact absurd h49 (by omega)
        · skip
          refine j_iconst X d_M_byteOf_52 ?_
          refine j_goto X d_M_byteOf_53 (tgt := 57) rfl ?_
          refine j_iconst X d_M_byteOf_57 ?_
          refine v_M_53 X hz (c_M_throwing (zl z) E σ _ _ (by decide) (by decide)) rfl rfl rfl (Nat.le_of_ble_eq_true rfl) ⟨Nat.le_refl _, Nat.le_refl _⟩ d_M_byteOf_58 ?_
          refine j_ifz X d_M_byteOf_61 (tgt := 66) rfl (fun h => absurd (by decide) h) (fun _ => ?_)
          refine j_iconst X d_M_byteOf_64 ?_
          exact j_iret X Y (Nat.le_refl _) (Nat.le_refl _) d_M_byteOf_65 ⟨rfl, rfl⟩

set_option maxRecDepth 100000 in
set_option maxHeartbeats 4000000 in
theorem c_M_spoil (l : Launch) (E : eT) (μ σ : St) (t k : Int) (ht : 0 ≤ t ∧ t < 32) (hw : tkW μ t) (hR : RT μ σ t) (hk : 1 ≤ k ∧ k ≤ μ 4 t 4) : FCon l E y_M_spoil ws_M_spoil 3 [.ref (E.2.2.2 18 0), .int (iI t), .int (iI k)] σ none (up (up σ 18 0 0 0) 20 0 (600 * t + μ 5 t k + 3) 1) := by
  refine con_of (cc := b_M_spoil) (nL := 3) (ret := none) (by decide) (Nat.le_of_ble_eq_true rfl) (fun z X Y hn => ?_)
  have X : Cx E z b_M_spoil R_M := X
  have hz := Y.2.1
  change J E z 0 0 0 [(0, .ref (E.2.2.2 18 0)), (1, .int (iI t)), (2, .int (iI k))] [] (cells E σ)
  have r4 : inR (μ 4 t 4) := by have := hw.1; omega
  have hw1 := hw.1
  obtain ⟨c1, c2, d1, d2, d3, d4, d5⟩ := rt_rec hw hR hk
  refine j_aload_n X rfl d_M_spoil_0 ?_
  refine j_aload_n X rfl d_M_spoil_1 ?_
  refine j_iload_n X rfl d_M_spoil_2 ?_
  refine j_iload_n X rfl d_M_spoil_3 ?_
  refine v_M_186 X hz (c_M_isRecord (zl z) E σ t k (μ 4 t 4) (by omega) (by omega) r4 (fun _ => rt_many hw hR)) rfl rfl rfl (Nat.le_of_ble_eq_true rfl) ⟨Nat.le_refl _, Nat.le_refl _⟩ d_M_spoil_4 ?_
  refine j_ifnz X d_M_spoil_7 (tgt := 14) rfl (fun h7 => ?_) (fun h7 => ?_)
  · skip
    refine j_iconst X d_M_spoil_14 ?_
    refine j_iconst X d_M_spoil_15 ?_
    refine v_M_53 X hz (c_M_throwing (zl z) E σ _ _ (by decide) (by decide)) rfl rfl rfl (Nat.le_of_ble_eq_true rfl) ⟨Nat.le_refl _, Nat.le_refl _⟩ d_M_spoil_16 ?_
    refine j_ifz X d_M_spoil_19 (tgt := 23) rfl (fun _ => ?_) (fun h => absurd h (by decide))
    refine j_aload_n X rfl d_M_spoil_23 ?_
    refine j_iload_n X rfl d_M_spoil_24 ?_
    refine j_aload_n X rfl d_M_spoil_25 ?_
    refine j_iload_n X rfl d_M_spoil_26 ?_
    refine j_iload_n X rfl d_M_spoil_27 ?_
    refine v_M_189 X hz (c_M_placeOf (zl z) E μ (up σ 18 0 0 0) t k ht hw hR hk) rfl rfl rfl (Nat.le_of_ble_eq_true rfl) ⟨Nat.le_refl _, Nat.le_refl _⟩ d_M_spoil_28 ?_
    refine j_iconst X d_M_spoil_31 ?_
    refine v_M_132 X hz (c_M_spoilAt (zl z) E (up σ 18 0 0 0) t (μ 5 t k) 1 ht d1) rfl rfl rfl (Nat.le_of_ble_eq_true rfl) ⟨Nat.le_refl _, Nat.le_refl _⟩ d_M_spoil_32 ?_
    exact j_vret X Y (Nat.le_refl _) (Nat.le_refl _) d_M_spoil_35 ⟨rfl, rfl⟩
  · exact absurd h7 (by omega)

set_option maxRecDepth 100000 in
set_option maxHeartbeats 4000000 in
theorem c_M_spoilX (l : Launch) (E : eT) (μ σ : St) (t k : Int) (rt : inR t) (rk : inR k) (r4 : inR (μ 4 t 4)) (hm : 0 ≤ t ∧ t < 32 → smS (σ 19 0) (600 * t) 600 = μ 4 t 4) (hh : ¬ ((0 ≤ t ∧ t < 32) ∧ 1 ≤ k ∧ k ≤ μ 4 t 4)) : FCon l E y_M_spoil ws_M_spoil 3 [.ref (E.2.2.2 18 0), .int (iI t), .int (iI k)] σ none (up σ 18 0 0 1) := by
  refine con_of (cc := b_M_spoil) (nL := 3) (ret := none) (by decide) (Nat.le_of_ble_eq_true rfl) (fun z X Y hn => ?_)
  have X : Cx E z b_M_spoil R_M := X
  have hz := Y.2.1
  change J E z 0 0 0 [(0, .ref (E.2.2.2 18 0)), (1, .int (iI t)), (2, .int (iI k))] [] (cells E σ)
  refine j_aload_n X rfl d_M_spoil_0 ?_
  refine j_aload_n X rfl d_M_spoil_1 ?_
  refine j_iload_n X rfl d_M_spoil_2 ?_
  refine j_iload_n X rfl d_M_spoil_3 ?_
  refine v_M_186 X hz (c_M_isRecord (zl z) E σ t k (μ 4 t 4) (by omega) (by omega) r4 hm) rfl rfl rfl (Nat.le_of_ble_eq_true rfl) ⟨Nat.le_refl _, Nat.le_refl _⟩ d_M_spoil_4 ?_
  refine j_ifnz X d_M_spoil_7 (tgt := 14) rfl (fun h7 => ?_) (fun h7 => ?_)
  · exact absurd h7 (by omega)
  · skip
    refine j_iconst X d_M_spoil_10 ?_
    refine j_goto X d_M_spoil_11 (tgt := 15) rfl ?_
    refine j_iconst X d_M_spoil_15 ?_
    refine v_M_53 X hz (c_M_throwing (zl z) E σ _ _ (by decide) (by decide)) rfl rfl rfl (Nat.le_of_ble_eq_true rfl) ⟨Nat.le_refl _, Nat.le_refl _⟩ d_M_spoil_16 ?_
    refine j_ifz X d_M_spoil_19 (tgt := 23) rfl (fun h => absurd (by decide) h) (fun _ => ?_)
    exact j_vret X Y (Nat.le_refl _) (Nat.le_refl _) d_M_spoil_22 ⟨rfl, rfl⟩
