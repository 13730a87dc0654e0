/-! the model: the small public methods -/

set_option maxRecDepth 100000 in
set_option maxHeartbeats 4000000 in
theorem c_M_command1 (l : Launch) (E : eT) (σ : St) (a b c n : Int) (ra : inR a) (ha : ¬ (-1 ≤ a ∧ a ≤ 11)) (e4 : σ 18 0 4 = n) (hn0 : 0 ≤ n ∧ n ≤ 16) : FCon l E y_M_command ws_M_command 1 [.ref (E.2.2.2 18 0), .int (iI a), .int (iI b), .int (iI c)] σ (some (.int (iI 0))) (up σ 18 0 0 1) := by
  refine con_of (cc := b_M_command) (nL := 5) (ret := (some .int)) (by decide) (Nat.le_of_ble_eq_true rfl) (fun z X Y hn => ?_)
  have X : Cx E z b_M_command R_M := X
  have hz := Y.2.1
  change J E z 0 0 0 [(0, .ref (E.2.2.2 18 0)), (1, .int (iI a)), (2, .int (iI b)), (3, .int (iI c))] [] (cells E σ)
  refine j_iload_n X rfl d_M_command_0 ?_
  refine j_iconst X d_M_command_1 ?_
  refine j_icmp_lt X (by omega) (by omega) d_M_command_2 (tgt := 11) rfl (fun h2 => ?_) (fun h2 => ?_)
  · skip
    refine j_iconst X d_M_command_11 ?_
    refine j_goto X d_M_command_12 (tgt := 16) rfl ?_
    refine j_istore X (zlt hn rfl) d_M_command_16 ?_
    refine j_aload_n X rfl d_M_command_18 ?_
    refine j_iload X rfl d_M_command_19 ?_
    refine j_iload_n X rfl d_M_command_21 ?_
    refine j_if_lt X (by omega) d_M_command_22 (tgt := 38) rfl (fun h22 => ?_) (fun h22 => ?_)
    · skip
      refine j_iconst X d_M_command_38 ?_
      refine v_M_53 X hz (c_M_throwing (zl z) E σ _ _ (by decide) (by decide)) rfl rfl rfl (Nat.le_of_ble_eq_true rfl) ⟨Nat.le_refl _, Nat.le_refl _⟩ d_M_command_39 ?_
      refine j_ifz X d_M_command_42 (tgt := 47) rfl (fun h => absurd (by decide) h) (fun _ => ?_)
      refine j_iconst X d_M_command_45 ?_
      exact j_iret X Y (Nat.le_refl _) (Nat.le_refl _) d_M_command_46 ⟨rfl, rfl⟩
    · skip
      refine j_aload_n X rfl d_M_command_25 ?_
      refine g_M_50 X d_M_command_26 ?_
      refine j_topi (congrArg iI e4) ?_
      refine j_bipush X rfl d_M_command_29 ?_
      refine j_icmp_ne X (by omega) (by omega) d_M_command_31 (tgt := 38) rfl (fun h31 => ?_) (fun h31 => ?_)
      · skip
        refine j_iconst X d_M_command_38 ?_
        refine v_M_53 X hz (c_M_throwing (zl z) E σ _ _ (by decide) (by decide)) rfl rfl rfl (Nat.le_of_ble_eq_true rfl) ⟨Nat.le_refl _, Nat.le_refl _⟩ d_M_command_39 ?_
        refine j_ifz X d_M_command_42 (tgt := 47) rfl (fun h => absurd (by decide) h) (fun _ => ?_)
        refine j_iconst X d_M_command_45 ?_
        exact j_iret X Y (Nat.le_refl _) (Nat.le_refl _) d_M_command_46 ⟨rfl, rfl⟩
      · skip
        refine j_iconst X d_M_command_34 ?_
        refine j_goto X d_M_command_35 (tgt := 39) rfl ?_
        refine v_M_53 X hz (c_M_throwing (zl z) E σ _ _ (by decide) (by decide)) rfl rfl rfl (Nat.le_of_ble_eq_true rfl) ⟨Nat.le_refl _, Nat.le_refl _⟩ d_M_command_39 ?_
        refine j_ifz X d_M_command_42 (tgt := 47) rfl (fun h => absurd (by decide) h) (fun _ => ?_)
        refine j_iconst X d_M_command_45 ?_
        exact j_iret X Y (Nat.le_refl _) (Nat.le_refl _) d_M_command_46 ⟨rfl, rfl⟩
  · skip
    refine j_iload_n X rfl d_M_command_5 ?_
    refine j_bipush X rfl d_M_command_6 ?_
    refine j_icmp_le X (by omega) (by omega) d_M_command_8 (tgt := 15) rfl (fun h8 => ?_) (fun h8 => ?_)
    · skip
      exact absurd ⟨by omega, by omega⟩ ha
    · skip
      refine j_iconst X d_M_command_11 ?_
      refine j_goto X d_M_command_12 (tgt := 16) rfl ?_
      refine j_istore X (zlt hn rfl) d_M_command_16 ?_
      refine j_aload_n X rfl d_M_command_18 ?_
      refine j_iload X rfl d_M_command_19 ?_
      refine j_iload_n X rfl d_M_command_21 ?_
      refine j_if_lt X (by omega) d_M_command_22 (tgt := 38) rfl (fun h22 => ?_) (fun h22 => ?_)
      · skip
        refine j_iconst X d_M_command_38 ?_
        refine v_M_53 X hz (c_M_throwing (zl z) E σ _ _ (by decide) (by decide)) rfl rfl rfl (Nat.le_of_ble_eq_true rfl) ⟨Nat.le_refl _, Nat.le_refl _⟩ d_M_command_39 ?_
        refine j_ifz X d_M_command_42 (tgt := 47) rfl (fun h => absurd (by decide) h) (fun _ => ?_)
        refine j_iconst X d_M_command_45 ?_
        exact j_iret X Y (Nat.le_refl _) (Nat.le_refl _) d_M_command_46 ⟨rfl, rfl⟩
      · skip
        refine j_aload_n X rfl d_M_command_25 ?_
        refine g_M_50 X d_M_command_26 ?_
        refine j_topi (congrArg iI e4) ?_
        refine j_bipush X rfl d_M_command_29 ?_
        refine j_icmp_ne X (by omega) (by omega) d_M_command_31 (tgt := 38) rfl (fun h31 => ?_) (fun h31 => ?_)
        · skip
          refine j_iconst X d_M_command_38 ?_
          refine v_M_53 X hz (c_M_throwing (zl z) E σ _ _ (by decide) (by decide)) rfl rfl rfl (Nat.le_of_ble_eq_true rfl) ⟨Nat.le_refl _, Nat.le_refl _⟩ d_M_command_39 ?_
          refine j_ifz X d_M_command_42 (tgt := 47) rfl (fun h => absurd (by decide) h) (fun _ => ?_)
          refine j_iconst X d_M_command_45 ?_
          exact j_iret X Y (Nat.le_refl _) (Nat.le_refl _) d_M_command_46 ⟨rfl, rfl⟩
        · skip
          refine j_iconst X d_M_command_34 ?_
          refine j_goto X d_M_command_35 (tgt := 39) rfl ?_
          refine v_M_53 X hz (c_M_throwing (zl z) E σ _ _ (by decide) (by decide)) rfl rfl rfl (Nat.le_of_ble_eq_true rfl) ⟨Nat.le_refl _, Nat.le_refl _⟩ d_M_command_39 ?_
          refine j_ifz X d_M_command_42 (tgt := 47) rfl (fun h => absurd (by decide) h) (fun _ => ?_)
          refine j_iconst X d_M_command_45 ?_
          exact j_iret X Y (Nat.le_refl _) (Nat.le_refl _) d_M_command_46 ⟨rfl, rfl⟩

set_option maxRecDepth 100000 in
set_option maxHeartbeats 4000000 in
theorem c_M_command2 (l : Launch) (E : eT) (σ : St) (a b c : Int) (ha : 0 ≤ a ∧ a ≤ 11) (e4 : σ 18 0 4 = 16) : FCon l E y_M_command ws_M_command 1 [.ref (E.2.2.2 18 0), .int (iI a), .int (iI b), .int (iI c)] σ (some (.int (iI 0))) (up σ 18 0 0 2) := by
  refine con_of (cc := b_M_command) (nL := 5) (ret := (some .int)) (by decide) (Nat.le_of_ble_eq_true rfl) (fun z X Y hn => ?_)
  have X : Cx E z b_M_command R_M := X
  have hz := Y.2.1
  change J E z 0 0 0 [(0, .ref (E.2.2.2 18 0)), (1, .int (iI a)), (2, .int (iI b)), (3, .int (iI c))] [] (cells E σ)
  refine j_iload_n X rfl d_M_command_0 ?_
  refine j_iconst X d_M_command_1 ?_
  refine j_icmp_lt X (by omega) (by omega) d_M_command_2 (tgt := 11) rfl (fun h2 => ?_) (fun h2 => ?_)
  · exact absurd h2 (by omega)
  · skip
    refine j_iload_n X rfl d_M_command_5 ?_
    refine j_bipush X rfl d_M_command_6 ?_
    refine j_icmp_le X (by omega) (by omega) d_M_command_8 (tgt := 15) rfl (fun h8 => ?_) (fun h8 => ?_)
    · skip
      refine j_iconst X d_M_command_15 ?_
      refine j_istore X (zlt hn rfl) d_M_command_16 ?_
      refine j_aload_n X rfl d_M_command_18 ?_
      refine j_iload X rfl d_M_command_19 ?_
      refine j_iload_n X rfl d_M_command_21 ?_
      refine j_if_lt X (by omega) d_M_command_22 (tgt := 38) rfl (fun h22 => ?_) (fun h22 => ?_)
      · exact absurd h22 (by omega)
      · skip
        refine j_aload_n X rfl d_M_command_25 ?_
        refine g_M_50 X d_M_command_26 ?_
        refine j_topi (congrArg iI e4) ?_
        refine j_bipush X rfl d_M_command_29 ?_
        refine j_icmp_ne X (by omega) (by omega) d_M_command_31 (tgt := 38) rfl (fun h31 => ?_) (fun h31 => ?_)
        · exact absurd h31 (by omega)
        · skip
          refine j_iconst X d_M_command_34 ?_
          refine j_goto X d_M_command_35 (tgt := 39) rfl ?_
          refine v_M_53 X hz (c_M_throwing (zl z) E σ _ _ (by decide) (by decide)) rfl rfl rfl (Nat.le_of_ble_eq_true rfl) ⟨Nat.le_refl _, Nat.le_refl _⟩ d_M_command_39 ?_
          refine j_ifz X d_M_command_42 (tgt := 47) rfl (fun h => absurd (by decide) h) (fun _ => ?_)
          refine j_iconst X d_M_command_45 ?_
          exact j_iret X Y (Nat.le_refl _) (Nat.le_refl _) d_M_command_46 ⟨rfl, rfl⟩
    · exact absurd h8 (by omega)

set_option maxRecDepth 100000 in
set_option maxHeartbeats 4000000 in
theorem c_M_command_c (l : Launch) (E : eT) (σ : St) (b c : Int) : FCon l E y_M_command ws_M_command 1 [.ref (E.2.2.2 18 0), .int (iI (-1)), .int (iI b), .int (iI c)] σ (some (.int (iI 0))) (up (up σ 18 0 0 0) 18 0 4 0) := by
  refine con_of (cc := b_M_command) (nL := 5) (ret := (some .int)) (by decide) (Nat.le_of_ble_eq_true rfl) (fun z X Y hn => ?_)
  have X : Cx E z b_M_command R_M := X
  have hz := Y.2.1
  change J E z 0 0 0 [(0, .ref (E.2.2.2 18 0)), (1, .int (iI (-1))), (2, .int (iI b)), (3, .int (iI c))] [] (cells E σ)
  refine j_iload_n X rfl d_M_command_0 ?_
  refine j_iconst X d_M_command_1 ?_
  refine j_icmp_lt X (by omega) (by omega) d_M_command_2 (tgt := 11) rfl (fun h2 => ?_) (fun h2 => ?_)
  · exact absurd h2 (by omega)
  · skip
    refine j_iload_n X rfl d_M_command_5 ?_
    refine j_bipush X rfl d_M_command_6 ?_
    refine j_icmp_le X (by omega) (by omega) d_M_command_8 (tgt := 15) rfl (fun h8 => ?_) (fun h8 => ?_)
    · skip
      refine j_iconst X d_M_command_15 ?_
      refine j_istore X (zlt hn rfl) d_M_command_16 ?_
      refine j_aload_n X rfl d_M_command_18 ?_
      refine j_iload X rfl d_M_command_19 ?_
      refine j_iload_n X rfl d_M_command_21 ?_
      refine j_if_lt X (by omega) d_M_command_22 (tgt := 38) rfl (fun h22 => ?_) (fun h22 => ?_)
      · skip
        refine j_iconst X d_M_command_38 ?_
        refine v_M_53 X hz (c_M_throwing (zl z) E σ _ _ (by decide) (by decide)) rfl rfl rfl (Nat.le_of_ble_eq_true rfl) ⟨Nat.le_refl _, Nat.le_refl _⟩ d_M_command_39 ?_
        refine j_ifz X d_M_command_42 (tgt := 47) rfl (fun _ => ?_) (fun h => absurd h (by decide))
        refine j_iload_n X rfl d_M_command_47 ?_
        refine j_if_ge X (by omega) d_M_command_48 (tgt := 58) rfl (fun h48 => ?_) (fun h48 => ?_)
        · exact absurd h48 (by omega)
        · skip
          refine j_aload_n X rfl d_M_command_51 ?_
          refine j_iconst X d_M_command_52 ?_
          refine p_M_50 X d_M_command_53 ?_
          refine j_iconst X d_M_command_56 ?_
          exact j_iret X Y (Nat.le_refl _) (Nat.le_refl _) d_M_command_57 ⟨rfl, rfl⟩
      · exact absurd h22 (by omega)
    · exact absurd h8 (by omega)

set_option maxRecDepth 100000 in
set_option maxHeartbeats 4000000 in
theorem c_M_command_a (l : Launch) (E : eT) (σ : St) (a b c n : Int) (ha : 0 ≤ a ∧ a ≤ 11) (e4 : σ 18 0 4 = n) (hn0 : 0 ≤ n ∧ n < 16) : FCon l E y_M_command ws_M_command 1 [.ref (E.2.2.2 18 0), .int (iI a), .int (iI b), .int (iI c)] σ (some (.int (iI (n + 1)))) (up (up (up (up (up σ 18 0 0 0) 22 0 n a) 23 0 n b) 24 0 n c) 18 0 4 (n + 1)) := by
  refine con_of (cc := b_M_command) (nL := 5) (ret := (some .int)) (by decide) (Nat.le_of_ble_eq_true rfl) (fun z X Y hn => ?_)
  have X : Cx E z b_M_command R_M := X
  have hz := Y.2.1
  change J E z 0 0 0 [(0, .ref (E.2.2.2 18 0)), (1, .int (iI a)), (2, .int (iI b)), (3, .int (iI c))] [] (cells E σ)
  refine j_iload_n X rfl d_M_command_0 ?_
  refine j_iconst X d_M_command_1 ?_
  refine j_icmp_lt X (by omega) (by omega) d_M_command_2 (tgt := 11) rfl (fun h2 => ?_) (fun h2 => ?_)
  · exact absurd h2 (by omega)
  · skip
    refine j_iload_n X rfl d_M_command_5 ?_
    refine j_bipush X rfl d_M_command_6 ?_
    refine j_icmp_le X (by omega) (by omega) d_M_command_8 (tgt := 15) rfl (fun h8 => ?_) (fun h8 => ?_)
    · skip
      refine j_iconst X d_M_command_15 ?_
      refine j_istore X (zlt hn rfl) d_M_command_16 ?_
      refine j_aload_n X rfl d_M_command_18 ?_
      refine j_iload X rfl d_M_command_19 ?_
      refine j_iload_n X rfl d_M_command_21 ?_
      refine j_if_lt X (by omega) d_M_command_22 (tgt := 38) rfl (fun h22 => ?_) (fun h22 => ?_)
      · exact absurd h22 (by omega)
      · skip
        refine j_aload_n X rfl d_M_command_25 ?_
        refine g_M_50 X d_M_command_26 ?_
        refine j_topi (congrArg iI e4) ?_
        refine j_bipush X rfl d_M_command_29 ?_
        refine j_icmp_ne X (by omega) (by omega) d_M_command_31 (tgt := 38) rfl (fun h31 => ?_) (fun h31 => ?_)
        · skip
          refine j_iconst X d_M_command_38 ?_
          refine v_M_53 X hz (c_M_throwing (zl z) E σ _ _ (by decide) (by decide)) rfl rfl rfl (Nat.le_of_ble_eq_true rfl) ⟨Nat.le_refl _, Nat.le_refl _⟩ d_M_command_39 ?_
          refine j_ifz X d_M_command_42 (tgt := 47) rfl (fun _ => ?_) (fun h => absurd h (by decide))
          refine j_iload_n X rfl d_M_command_47 ?_
          refine j_if_ge X (by omega) d_M_command_48 (tgt := 58) rfl (fun h48 => ?_) (fun h48 => ?_)
          · skip
            refine j_aload_n X rfl d_M_command_58 ?_
            refine g_M_20 X d_M_command_59 ?_
            refine j_aload_n X rfl d_M_command_62 ?_
            refine g_M_50 X d_M_command_63 ?_
            refine j_topi (congrArg iI e4) ?_
            refine j_iload_n X rfl d_M_command_66 ?_
            refine j_iast X (by first | exact okC1 rfl | exact (okCT rfl (by omega))) (fun _ => rfl) rfl (by omega) d_M_command_67 ?_
            refine j_aload_n X rfl d_M_command_68 ?_
            refine g_M_23 X d_M_command_69 ?_
            refine j_aload_n X rfl d_M_command_72 ?_
            refine g_M_50 X d_M_command_73 ?_
            refine j_topi (congrArg iI e4) ?_
            refine j_iload_n X rfl d_M_command_76 ?_
            refine j_iast X (by first | exact okC1 rfl | exact (okCT rfl (by omega))) (fun _ => rfl) rfl (by omega) d_M_command_77 ?_
            refine j_aload_n X rfl d_M_command_78 ?_
            refine g_M_26 X d_M_command_79 ?_
            refine j_aload_n X rfl d_M_command_82 ?_
            refine g_M_50 X d_M_command_83 ?_
            refine j_topi (congrArg iI e4) ?_
            refine j_iload_n X rfl d_M_command_86 ?_
            refine j_iast X (by first | exact okC1 rfl | exact (okCT rfl (by omega))) (fun _ => rfl) rfl (by omega) d_M_command_87 ?_
            refine j_aload_n X rfl d_M_command_88 ?_
            refine j_dup X rfl d_M_command_89 ?_
            refine g_M_50 X d_M_command_90 ?_
            refine j_topi (congrArg iI e4) ?_
            refine j_iconst X d_M_command_93 ?_
            refine j_iadd X d_M_command_94 ?_
            refine p_M_50 X d_M_command_95 ?_
            refine j_aload_n X rfl d_M_command_98 ?_
            refine g_M_50 X d_M_command_99 ?_
            exact j_iret X Y (Nat.le_refl _) (Nat.le_refl _) d_M_command_102 ⟨rfl, rfl⟩
          · exact absurd h48 (by omega)
        · exact absurd h31 (by omega)
    · exact absurd h8 (by omega)

set_option maxRecDepth 100000 in
set_option maxHeartbeats 4000000 in
theorem c_M_poke (l : Launch) (E : eT) (σ : St) (a v : Int) (ha : 0 ≤ a ∧ a < 256) : FCon l E y_M_poke ws_M_poke 1 [.ref (E.2.2.2 18 0), .int (iI a), .int (iI v)] σ none (up (up σ 18 0 0 0) 21 0 a (v % 256)) := by
  refine con_of (cc := b_M_poke) (nL := 3) (ret := none) (by decide) (Nat.le_of_ble_eq_true rfl) (fun z X Y hn => ?_)
  have X : Cx E z b_M_poke R_M := X
  have hz := Y.2.1
  change J E z 0 0 0 [(0, .ref (E.2.2.2 18 0)), (1, .int (iI a)), (2, .int (iI v))] [] (cells E σ)
  refine j_aload_n X rfl d_M_poke_0 ?_
  refine j_iload_n X rfl d_M_poke_1 ?_
  refine s_M_57 X hz (c_M_isPlace (zl z) E σ a (by omega)) rfl rfl rfl (Nat.le_of_ble_eq_true rfl) ⟨Nat.le_refl _, Nat.le_refl _⟩ d_M_poke_2 ?_
  refine j_ifnz X d_M_poke_5 (tgt := 12) rfl (fun h5 => ?_) (fun h5 => ?_)
  · skip
    refine j_iconst X d_M_poke_12 ?_
    refine j_iconst X d_M_poke_13 ?_
    refine v_M_53 X hz (c_M_throwing (zl z) E σ _ _ (by decide) (by decide)) rfl rfl rfl (Nat.le_of_ble_eq_true rfl) ⟨Nat.le_refl _, Nat.le_refl _⟩ d_M_poke_14 ?_
    refine j_ifz X d_M_poke_17 (tgt := 21) rfl (fun _ => ?_) (fun h => absurd h (by decide))
    refine j_aload_n X rfl d_M_poke_21 ?_
    refine g_M_16 X d_M_poke_22 ?_
    refine j_iload_n X rfl d_M_poke_25 ?_
    refine j_iload_n X rfl d_M_poke_26 ?_
    refine j_sipush X rfl d_M_poke_27 ?_
    refine j_iand X d_M_poke_30 ?_
    refine j_topi (iI_and255 _) ?_
    refine j_iast X (by first | exact okC1 rfl | exact (okCT rfl (by omega))) (fun _ => rfl) rfl (by omega) d_M_poke_31 ?_
    exact j_vret X Y (Nat.le_refl _) (Nat.le_refl _) d_M_poke_32 ⟨rfl, rfl⟩
  · exact absurd h5 (by omega)

set_option maxRecDepth 100000 in
set_option maxHeartbeats 4000000 in
theorem c_M_pokeX (l : Launch) (E : eT) (σ : St) (a v : Int) (ra : inR a) (ha : ¬ (0 ≤ a ∧ a < 256)) : FCon l E y_M_poke ws_M_poke 1 [.ref (E.2.2.2 18 0), .int (iI a), .int (iI v)] σ none (up σ 18 0 0 1) := by
  refine con_of (cc := b_M_poke) (nL := 3) (ret := none) (by decide) (Nat.le_of_ble_eq_true rfl) (fun z X Y hn => ?_)
  have X : Cx E z b_M_poke R_M := X
  have hz := Y.2.1
  change J E z 0 0 0 [(0, .ref (E.2.2.2 18 0)), (1, .int (iI a)), (2, .int (iI v))] [] (cells E σ)
  refine j_aload_n X rfl d_M_poke_0 ?_
  refine j_iload_n X rfl d_M_poke_1 ?_
  refine s_M_57 X hz (c_M_isPlace (zl z) E σ a (by omega)) rfl rfl rfl (Nat.le_of_ble_eq_true rfl) ⟨Nat.le_refl _, Nat.le_refl _⟩ d_M_poke_2 ?_
  refine j_ifnz X d_M_poke_5 (tgt := 12) rfl (fun h5 => ?_) (fun h5 => ?_)
  · exact absurd h5 (by omega)
  · skip
    refine j_iconst X d_M_poke_8 ?_
    refine j_goto X d_M_poke_9 (tgt := 13) rfl ?_
    refine j_iconst X d_M_poke_13 ?_
    refine v_M_53 X hz (c_M_throwing (zl z) E σ _ _ (by decide) (by decide)) rfl rfl rfl (Nat.le_of_ble_eq_true rfl) ⟨Nat.le_refl _, Nat.le_refl _⟩ d_M_poke_14 ?_
    refine j_ifz X d_M_poke_17 (tgt := 21) rfl (fun h => absurd (by decide) h) (fun _ => ?_)
    exact j_vret X Y (Nat.le_refl _) (Nat.le_refl _) d_M_poke_20 ⟨rfl, rfl⟩

set_option maxRecDepth 100000 in
set_option maxHeartbeats 4000000 in
theorem c_M_peek (l : Launch) (E : eT) (σ : St) (a : Int) (ha : 0 ≤ a ∧ a < 256) : FCon l E y_M_peek ws_M_peek 1 [.ref (E.2.2.2 18 0), .int (iI a)] σ (some (.int (iI (σ 21 0 a)))) (up σ 18 0 0 0) := by
  refine con_of (cc := b_M_peek) (nL := 2) (ret := (some .int)) (by decide) (Nat.le_of_ble_eq_true rfl) (fun z X Y hn => ?_)
  have X : Cx E z b_M_peek R_M := X
  have hz := Y.2.1
  change J E z 0 0 0 [(0, .ref (E.2.2.2 18 0)), (1, .int (iI a))] [] (cells E σ)
  refine j_aload_n X rfl d_M_peek_0 ?_
  refine j_iload_n X rfl d_M_peek_1 ?_
  refine s_M_57 X hz (c_M_isPlace (zl z) E σ a (by omega)) rfl rfl rfl (Nat.le_of_ble_eq_true rfl) ⟨Nat.le_refl _, Nat.le_refl _⟩ d_M_peek_2 ?_
  refine j_ifnz X d_M_peek_5 (tgt := 12) rfl (fun h5 => ?_) (fun h5 => ?_)
  · skip
    refine j_iconst X d_M_peek_12 ?_
    refine j_iconst X d_M_peek_13 ?_
    refine v_M_53 X hz (c_M_throwing (zl z) E σ _ _ (by decide) (by decide)) rfl rfl rfl (Nat.le_of_ble_eq_true rfl) ⟨Nat.le_refl _, Nat.le_refl _⟩ d_M_peek_14 ?_
    refine j_ifz X d_M_peek_17 (tgt := 24) rfl (fun _ => ?_) (fun h => absurd h (by decide))
    refine j_aload_n X rfl d_M_peek_24 ?_
    refine g_M_16 X d_M_peek_25 ?_
    refine j_iload_n X rfl d_M_peek_28 ?_
    refine j_iald X (by first | exact okC1 rfl | exact (okCT rfl (by omega))) (fun _ => rfl) rfl (by omega) d_M_peek_29 ?_
    exact j_iret X Y (Nat.le_refl _) (Nat.le_refl _) d_M_peek_30 ⟨rfl, rfl⟩
  · exact absurd h5 (by omega)

set_option maxRecDepth 100000 in
set_option maxHeartbeats 4000000 in
theorem c_M_peekX (l : Launch) (E : eT) (σ : St) (a : Int) (ra : inR a) (ha : ¬ (0 ≤ a ∧ a < 256)) : FCon l E y_M_peek ws_M_peek 1 [.ref (E.2.2.2 18 0), .int (iI a)] σ (some (.int (iI 0))) (up σ 18 0 0 1) := by
  refine con_of (cc := b_M_peek) (nL := 2) (ret := (some .int)) (by decide) (Nat.le_of_ble_eq_true rfl) (fun z X Y hn => ?_)
  have X : Cx E z b_M_peek R_M := X
  have hz := Y.2.1
  change J E z 0 0 0 [(0, .ref (E.2.2.2 18 0)), (1, .int (iI a))] [] (cells E σ)
  refine j_aload_n X rfl d_M_peek_0 ?_
  refine j_iload_n X rfl d_M_peek_1 ?_
  refine s_M_57 X hz (c_M_isPlace (zl z) E σ a (by omega)) rfl rfl rfl (Nat.le_of_ble_eq_true rfl) ⟨Nat.le_refl _, Nat.le_refl _⟩ d_M_peek_2 ?_
  refine j_ifnz X d_M_peek_5 (tgt := 12) rfl (fun h5 => ?_) (fun h5 => ?_)
  · exact absurd h5 (by omega)
  · skip
    refine j_iconst X d_M_peek_8 ?_
    refine j_goto X d_M_peek_9 (tgt := 13) rfl ?_
    refine j_iconst X d_M_peek_13 ?_
    refine v_M_53 X hz (c_M_throwing (zl z) E σ _ _ (by decide) (by decide)) rfl rfl rfl (Nat.le_of_ble_eq_true rfl) ⟨Nat.le_refl _, Nat.le_refl _⟩ d_M_peek_14 ?_
    refine j_ifz X d_M_peek_17 (tgt := 24) rfl (fun h => absurd (by decide) h) (fun _ => ?_)
    refine j_iconst X d_M_peek_20 ?_
    refine j_goto X d_M_peek_21 (tgt := 30) rfl ?_
    exact j_iret X Y (Nat.le_refl _) (Nat.le_refl _) d_M_peek_30 ⟨rfl, rfl⟩

set_option maxRecDepth 100000 in
set_option maxHeartbeats 4000000 in
theorem c_M_clock (l : Launch) (E : eT) (σ : St) : FCon l E y_M_clock ws_M_clock 0 [.ref (E.2.2.2 18 0)] σ (some (.long (iL (σ 18 0 8)))) (up σ 18 0 0 0) := by
  refine con_of (cc := b_M_clock) (nL := 1) (ret := (some .long)) (by decide) (Nat.le_of_ble_eq_true rfl) (fun z X Y hn => ?_)
  have X : Cx E z b_M_clock R_M := X
  have hz := Y.2.1
  change J E z 0 0 0 [(0, .ref (E.2.2.2 18 0))] [] (cells E σ)
  refine j_aload_n X rfl d_M_clock_0 ?_
  refine j_iconst X d_M_clock_1 ?_
  refine p_M_32 X d_M_clock_2 ?_
  refine j_aload_n X rfl d_M_clock_5 ?_
  refine g_M_61 X d_M_clock_6 ?_
  exact j_lret X Y (Nat.le_refl _) (Nat.le_refl _) d_M_clock_9 ⟨rfl, rfl⟩
