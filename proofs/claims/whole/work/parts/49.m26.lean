/-! the model: store and fetch -/

set_option maxRecDepth 100000 in
set_option maxHeartbeats 4000000 in
theorem c_M_storeX1 (l : Launch) (E : eT) (σ : St) (a key n : Int) (ra : inR a) (rn : inR n) (hb : ¬ ((0 ≤ a ∧ a ≤ 5) ∧ 0 ≤ n ∧ n ≤ 60)) : FCon l E y_M_store ws_M_store 3 [.ref (E.2.2.2 18 0), .int (iI a), .int (iI key), .int (iI n)] σ (some (.int (iI 0))) (up σ 18 0 0 1) := by
  refine con_of (cc := b_M_store) (nL := 12) (ret := (some .int)) (by decide) (Nat.le_of_ble_eq_true rfl) (fun z X Y hn => ?_)
  have X : Cx E z b_M_store R_M := X
  have hz := Y.2.1
  change J E z 0 0 0 [(0, .ref (E.2.2.2 18 0)), (1, .int (iI a)), (2, .int (iI key)), (3, .int (iI n))] [] (cells E σ)
  refine j_iload_n X rfl d_M_store_0 ?_
  refine s_M_192 X hz (c_M_isSet (zl z) E σ a (by omega)) rfl rfl rfl (Nat.le_of_ble_eq_true rfl) ⟨Nat.le_refl _, Nat.le_refl _⟩ d_M_store_1 ?_
  refine j_ifz X d_M_store_4 (tgt := 17) rfl (fun h4 => ?_) (fun h4 => ?_)
  · skip
    refine j_iconst X d_M_store_17 ?_
    refine j_goto X d_M_store_18 (tgt := 22) rfl ?_
    refine j_istore X (zlt hn rfl) d_M_store_22 ?_
    refine j_iload X rfl d_M_store_24 ?_
    refine j_if_ne X (by omega) d_M_store_26 (tgt := 41) rfl (fun h26 => ?_) (fun h26 => ?_)
    · skip
      refine j_iconst X d_M_store_41 ?_
      refine j_istore X (zlt hn rfl) d_M_store_42 ?_
      refine j_iload X rfl d_M_store_44 ?_
      refine j_if_ne X (by omega) d_M_store_46 (tgt := 54) rfl (fun h46 => ?_) (fun h46 => ?_)
      · skip
        refine j_iconst X d_M_store_54 ?_
        refine j_goto X d_M_store_55 (tgt := 64) rfl ?_
        refine j_istore X (zlt hn rfl) d_M_store_64 ?_
        refine j_iload X rfl d_M_store_66 ?_
        refine j_if_lt X (by omega) d_M_store_68 (tgt := 76) rfl (fun h68 => ?_) (fun h68 => ?_)
        · skip
          refine j_iload X rfl d_M_store_76 ?_
          refine j_if_ne X (by omega) d_M_store_78 (tgt := 86) rfl (fun h78 => ?_) (fun h78 => ?_)
          · skip
            refine j_iconst X d_M_store_86 ?_
            refine j_goto X d_M_store_87 (tgt := 97) rfl ?_
            refine j_istore X (zlt hn rfl) d_M_store_97 ?_
            refine j_iload X rfl d_M_store_99 ?_
            refine j_if_lt X (by omega) d_M_store_101 (tgt := 128) rfl (fun h101 => ?_) (fun h101 => ?_)
            · skip
              refine j_iconst X d_M_store_128 ?_
              refine j_istore X (zlt hn rfl) d_M_store_129 ?_
              refine j_aload_n X rfl d_M_store_131 ?_
              refine j_iload X rfl d_M_store_132 ?_
              refine j_iload X rfl d_M_store_134 ?_
              refine j_if_ne X (by omega) d_M_store_136 (tgt := 149) rfl (fun h136 => ?_) (fun h136 => ?_)
              · exact absurd h136 (by omega)
              · skip
                refine j_iload X rfl d_M_store_139 ?_
                refine j_if_ne X (by omega) d_M_store_141 (tgt := 149) rfl (fun h141 => ?_) (fun h141 => ?_)
                · exact absurd h141 (by omega)
                · skip
                  refine j_iload X rfl d_M_store_144 ?_
                  refine j_if_ge X (by omega) d_M_store_146 (tgt := 153) rfl (fun h146 => ?_) (fun h146 => ?_)
                  · exact absurd h146 (by omega)
                  · skip
                    refine j_iconst X d_M_store_149 ?_
                    refine j_goto X d_M_store_150 (tgt := 154) rfl ?_
                    refine v_M_53 X hz (c_M_throwing (zl z) E σ _ _ (by decide) (by decide)) rfl rfl rfl (Nat.le_of_ble_eq_true rfl) ⟨Nat.le_refl _, Nat.le_refl _⟩ d_M_store_154 ?_
                    refine j_ifz X d_M_store_157 (tgt := 162) rfl (fun h => absurd (by decide) h) (fun _ => ?_)
                    refine j_iconst X d_M_store_160 ?_
                    exact j_iret X Y (Nat.le_refl _) (Nat.le_refl _) d_M_store_161 ⟨rfl, rfl⟩
            · exact absurd h101 (by omega)
          · exact absurd h78 (by omega)
        · exact absurd h68 (by omega)
      · exact absurd h46 (by omega)
    · exact absurd h26 (by omega)
  · skip
    refine j_iload_n X rfl d_M_store_7 ?_
    refine j_if_lt X (by omega) d_M_store_8 (tgt := 17) rfl (fun h8 => ?_) (fun h8 => ?_)
    · skip
      refine j_iconst X d_M_store_17 ?_
      refine j_goto X d_M_store_18 (tgt := 22) rfl ?_
      refine j_istore X (zlt hn rfl) d_M_store_22 ?_
      refine j_iload X rfl d_M_store_24 ?_
      refine j_if_ne X (by omega) d_M_store_26 (tgt := 41) rfl (fun h26 => ?_) (fun h26 => ?_)
      · skip
        refine j_iconst X d_M_store_41 ?_
        refine j_istore X (zlt hn rfl) d_M_store_42 ?_
        refine j_iload X rfl d_M_store_44 ?_
        refine j_if_ne X (by omega) d_M_store_46 (tgt := 54) rfl (fun h46 => ?_) (fun h46 => ?_)
        · skip
          refine j_iconst X d_M_store_54 ?_
          refine j_goto X d_M_store_55 (tgt := 64) rfl ?_
          refine j_istore X (zlt hn rfl) d_M_store_64 ?_
          refine j_iload X rfl d_M_store_66 ?_
          refine j_if_lt X (by omega) d_M_store_68 (tgt := 76) rfl (fun h68 => ?_) (fun h68 => ?_)
          · skip
            refine j_iload X rfl d_M_store_76 ?_
            refine j_if_ne X (by omega) d_M_store_78 (tgt := 86) rfl (fun h78 => ?_) (fun h78 => ?_)
            · skip
              refine j_iconst X d_M_store_86 ?_
              refine j_goto X d_M_store_87 (tgt := 97) rfl ?_
              refine j_istore X (zlt hn rfl) d_M_store_97 ?_
              refine j_iload X rfl d_M_store_99 ?_
              refine j_if_lt X (by omega) d_M_store_101 (tgt := 128) rfl (fun h101 => ?_) (fun h101 => ?_)
              · skip
                refine j_iconst X d_M_store_128 ?_
                refine j_istore X (zlt hn rfl) d_M_store_129 ?_
                refine j_aload_n X rfl d_M_store_131 ?_
                refine j_iload X rfl d_M_store_132 ?_
                refine j_iload X rfl d_M_store_134 ?_
                refine j_if_ne X (by omega) d_M_store_136 (tgt := 149) rfl (fun h136 => ?_) (fun h136 => ?_)
                · exact absurd h136 (by omega)
                · skip
                  refine j_iload X rfl d_M_store_139 ?_
                  refine j_if_ne X (by omega) d_M_store_141 (tgt := 149) rfl (fun h141 => ?_) (fun h141 => ?_)
                  · exact absurd h141 (by omega)
                  · skip
                    refine j_iload X rfl d_M_store_144 ?_
                    refine j_if_ge X (by omega) d_M_store_146 (tgt := 153) rfl (fun h146 => ?_) (fun h146 => ?_)
                    · exact absurd h146 (by omega)
                    · skip
                      refine j_iconst X d_M_store_149 ?_
                      refine j_goto X d_M_store_150 (tgt := 154) rfl ?_
                      refine v_M_53 X hz (c_M_throwing (zl z) E σ _ _ (by decide) (by decide)) rfl rfl rfl (Nat.le_of_ble_eq_true rfl) ⟨Nat.le_refl _, Nat.le_refl _⟩ d_M_store_154 ?_
                      refine j_ifz X d_M_store_157 (tgt := 162) rfl (fun h => absurd (by decide) h) (fun _ => ?_)
                      refine j_iconst X d_M_store_160 ?_
                      exact j_iret X Y (Nat.le_refl _) (Nat.le_refl _) d_M_store_161 ⟨rfl, rfl⟩
              · exact absurd h101 (by omega)
            · exact absurd h78 (by omega)
          · exact absurd h68 (by omega)
        · exact absurd h46 (by omega)
      · exact absurd h26 (by omega)
    · skip
      refine j_iload_n X rfl d_M_store_11 ?_
      refine j_bipush X rfl d_M_store_12 ?_
      refine j_icmp_le X (by omega) (by omega) d_M_store_14 (tgt := 21) rfl (fun h14 => ?_) (fun h14 => ?_)
      · exact absurd h14 (by omega)
      · skip
        refine j_iconst X d_M_store_17 ?_
        refine j_goto X d_M_store_18 (tgt := 22) rfl ?_
        refine j_istore X (zlt hn rfl) d_M_store_22 ?_
        refine j_iload X rfl d_M_store_24 ?_
        refine j_if_ne X (by omega) d_M_store_26 (tgt := 41) rfl (fun h26 => ?_) (fun h26 => ?_)
        · skip
          refine j_iconst X d_M_store_41 ?_
          refine j_istore X (zlt hn rfl) d_M_store_42 ?_
          refine j_iload X rfl d_M_store_44 ?_
          refine j_if_ne X (by omega) d_M_store_46 (tgt := 54) rfl (fun h46 => ?_) (fun h46 => ?_)
          · skip
            refine j_iconst X d_M_store_54 ?_
            refine j_goto X d_M_store_55 (tgt := 64) rfl ?_
            refine j_istore X (zlt hn rfl) d_M_store_64 ?_
            refine j_iload X rfl d_M_store_66 ?_
            refine j_if_lt X (by omega) d_M_store_68 (tgt := 76) rfl (fun h68 => ?_) (fun h68 => ?_)
            · skip
              refine j_iload X rfl d_M_store_76 ?_
              refine j_if_ne X (by omega) d_M_store_78 (tgt := 86) rfl (fun h78 => ?_) (fun h78 => ?_)
              · skip
                refine j_iconst X d_M_store_86 ?_
                refine j_goto X d_M_store_87 (tgt := 97) rfl ?_
                refine j_istore X (zlt hn rfl) d_M_store_97 ?_
                refine j_iload X rfl d_M_store_99 ?_
                refine j_if_lt X (by omega) d_M_store_101 (tgt := 128) rfl (fun h101 => ?_) (fun h101 => ?_)
                · skip
                  refine j_iconst X d_M_store_128 ?_
                  refine j_istore X (zlt hn rfl) d_M_store_129 ?_
                  refine j_aload_n X rfl d_M_store_131 ?_
                  refine j_iload X rfl d_M_store_132 ?_
                  refine j_iload X rfl d_M_store_134 ?_
                  refine j_if_ne X (by omega) d_M_store_136 (tgt := 149) rfl (fun h136 => ?_) (fun h136 => ?_)
                  · exact absurd h136 (by omega)
                  · skip
                    refine j_iload X rfl d_M_store_139 ?_
                    refine j_if_ne X (by omega) d_M_store_141 (tgt := 149) rfl (fun h141 => ?_) (fun h141 => ?_)
                    · exact absurd h141 (by omega)
                    · skip
                      refine j_iload X rfl d_M_store_144 ?_
                      refine j_if_ge X (by omega) d_M_store_146 (tgt := 153) rfl (fun h146 => ?_) (fun h146 => ?_)
                      · exact absurd h146 (by omega)
                      · skip
                        refine j_iconst X d_M_store_149 ?_
                        refine j_goto X d_M_store_150 (tgt := 154) rfl ?_
                        refine v_M_53 X hz (c_M_throwing (zl z) E σ _ _ (by decide) (by decide)) rfl rfl rfl (Nat.le_of_ble_eq_true rfl) ⟨Nat.le_refl _, Nat.le_refl _⟩ d_M_store_154 ?_
                        refine j_ifz X d_M_store_157 (tgt := 162) rfl (fun h => absurd (by decide) h) (fun _ => ?_)
                        refine j_iconst X d_M_store_160 ?_
                        exact j_iret X Y (Nat.le_refl _) (Nat.le_refl _) d_M_store_161 ⟨rfl, rfl⟩
                · exact absurd h101 (by omega)
              · exact absurd h78 (by omega)
            · exact absurd h68 (by omega)
          · exact absurd h46 (by omega)
        · exact absurd h26 (by omega)

set_option maxRecDepth 100000 in
set_option maxHeartbeats 4000000 in
theorem c_M_storeX2 (l : Launch) (E : eT) (σ : St) (f : Int → Int) (a key n : Int) (ho : ∀ t, 0 ≤ t → t < 32 → σ 25 0 t = f t + 1) (hf : ∀ t, -1 ≤ f t ∧ f t ≤ 5) (ra : 0 ≤ a ∧ a ≤ 5) (hn0 : 0 ≤ n ∧ n ≤ 60) (h1 : ¬ 0 < cnO f a 32) : FCon l E y_M_store ws_M_store 3 [.ref (E.2.2.2 18 0), .int (iI a), .int (iI key), .int (iI n)] σ (some (.int (iI 0))) (up σ 18 0 0 2) := by
  refine con_of (cc := b_M_store) (nL := 12) (ret := (some .int)) (by decide) (Nat.le_of_ble_eq_true rfl) (fun z X Y hn => ?_)
  have X : Cx E z b_M_store R_M := X
  have hz := Y.2.1
  change J E z 0 0 0 [(0, .ref (E.2.2.2 18 0)), (1, .int (iI a)), (2, .int (iI key)), (3, .int (iI n))] [] (cells E σ)
  have hc := cnO_in f a 32
  refine j_iload_n X rfl d_M_store_0 ?_
  refine s_M_192 X hz (c_M_isSet (zl z) E σ a (by omega)) rfl rfl rfl (Nat.le_of_ble_eq_true rfl) ⟨Nat.le_refl _, Nat.le_refl _⟩ d_M_store_1 ?_
  refine j_ifz X d_M_store_4 (tgt := 17) rfl (fun h4 => ?_) (fun h4 => ?_)
  · exact absurd h4 (by omega)
  · skip
    refine j_iload_n X rfl d_M_store_7 ?_
    refine j_if_lt X (by omega) d_M_store_8 (tgt := 17) rfl (fun h8 => ?_) (fun h8 => ?_)
    · exact absurd h8 (by omega)
    · skip
      refine j_iload_n X rfl d_M_store_11 ?_
      refine j_bipush X rfl d_M_store_12 ?_
      refine j_icmp_le X (by omega) (by omega) d_M_store_14 (tgt := 21) rfl (fun h14 => ?_) (fun h14 => ?_)
      · skip
        refine j_iconst X d_M_store_21 ?_
        refine j_istore X (zlt hn rfl) d_M_store_22 ?_
        refine j_iload X rfl d_M_store_24 ?_
        refine j_if_ne X (by omega) d_M_store_26 (tgt := 41) rfl (fun h26 => ?_) (fun h26 => ?_)
        · exact absurd h26 (by omega)
        · skip
          refine j_aload_n X rfl d_M_store_29 ?_
          refine j_iload_n X rfl d_M_store_30 ?_
          refine v_M_198 X hz (c_M_tracksOf (zl z) E σ f a ho hf ra) rfl rfl rfl (Nat.le_of_ble_eq_true rfl) ⟨Nat.le_refl _, Nat.le_refl _⟩ d_M_store_31 ?_
          refine j_if_ne X (by omega) d_M_store_34 (tgt := 41) rfl (fun h34 => ?_) (fun h34 => ?_)
          · exact absurd h34 (by omega)
          · skip
            refine j_iconst X d_M_store_37 ?_
            refine j_goto X d_M_store_38 (tgt := 42) rfl ?_
            refine j_istore X (zlt hn rfl) d_M_store_42 ?_
            refine j_iload X rfl d_M_store_44 ?_
            refine j_if_ne X (by omega) d_M_store_46 (tgt := 54) rfl (fun h46 => ?_) (fun h46 => ?_)
            · exact absurd h46 (by omega)
            · skip
              refine j_iload X rfl d_M_store_49 ?_
              refine j_if_eq X (by omega) d_M_store_51 (tgt := 58) rfl (fun h51 => ?_) (fun h51 => ?_)
              · exact absurd h51 (by omega)
              · skip
                refine j_iconst X d_M_store_54 ?_
                refine j_goto X d_M_store_55 (tgt := 64) rfl ?_
                refine j_istore X (zlt hn rfl) d_M_store_64 ?_
                refine j_iload X rfl d_M_store_66 ?_
                refine j_if_lt X (by omega) d_M_store_68 (tgt := 76) rfl (fun h68 => ?_) (fun h68 => ?_)
                · skip
                  refine j_iload X rfl d_M_store_76 ?_
                  refine j_if_ne X (by omega) d_M_store_78 (tgt := 86) rfl (fun h78 => ?_) (fun h78 => ?_)
                  · exact absurd h78 (by omega)
                  · skip
                    refine j_iload X rfl d_M_store_81 ?_
                    refine j_if_eq X (by omega) d_M_store_83 (tgt := 90) rfl (fun h83 => ?_) (fun h83 => ?_)
                    · exact absurd h83 (by omega)
                    · skip
                      refine j_iconst X d_M_store_86 ?_
                      refine j_goto X d_M_store_87 (tgt := 97) rfl ?_
                      refine j_istore X (zlt hn rfl) d_M_store_97 ?_
                      refine j_iload X rfl d_M_store_99 ?_
                      refine j_if_lt X (by omega) d_M_store_101 (tgt := 128) rfl (fun h101 => ?_) (fun h101 => ?_)
                      · skip
                        refine j_iconst X d_M_store_128 ?_
                        refine j_istore X (zlt hn rfl) d_M_store_129 ?_
                        refine j_aload_n X rfl d_M_store_131 ?_
                        refine j_iload X rfl d_M_store_132 ?_
                        refine j_iload X rfl d_M_store_134 ?_
                        refine j_if_ne X (by omega) d_M_store_136 (tgt := 149) rfl (fun h136 => ?_) (fun h136 => ?_)
                        · skip
                          refine j_iconst X d_M_store_149 ?_
                          refine j_goto X d_M_store_150 (tgt := 154) rfl ?_
                          refine v_M_53 X hz (c_M_throwing (zl z) E σ _ _ (by decide) (by decide)) rfl rfl rfl (Nat.le_of_ble_eq_true rfl) ⟨Nat.le_refl _, Nat.le_refl _⟩ d_M_store_154 ?_
                          refine j_ifz X d_M_store_157 (tgt := 162) rfl (fun h => absurd (by decide) h) (fun _ => ?_)
                          refine j_iconst X d_M_store_160 ?_
                          exact j_iret X Y (Nat.le_refl _) (Nat.le_refl _) d_M_store_161 ⟨rfl, rfl⟩
                        · exact absurd h136 (by omega)
                      · exact absurd h101 (by omega)
                · exact absurd h68 (by omega)
      · exact absurd h14 (by omega)

set_option maxRecDepth 100000 in
set_option maxHeartbeats 4000000 in
theorem c_M_storeX3 (l : Launch) (E : eT) (σ : St) (f : Int → Int) (a key n : Int) (ho : ∀ t, 0 ≤ t → t < 32 → σ 25 0 t = f t + 1) (hf : ∀ t, -1 ≤ f t ∧ f t ≤ 5) (ra : 0 ≤ a ∧ a ≤ 5) (hn0 : 0 ≤ n ∧ n ≤ 60) (h1 : 0 < cnO f a 32) (hfi : FCon l E y_M_find ws_M_find 2 [.ref (E.2.2.2 18 0), .int (iI a), .int (iI key)] σ (some (.int (iI (-1)))) σ) (hro : FCon l E y_M_room ws_M_room 2 [.ref (E.2.2.2 18 0), .int (iI a), .int (iI key), .int (iI n)] σ (some (.int (iI (-1)))) σ) : FCon l E y_M_store ws_M_store 3 [.ref (E.2.2.2 18 0), .int (iI a), .int (iI key), .int (iI n)] σ (some (.int (iI 0))) (up σ 18 0 0 2) := by
  refine con_of (cc := b_M_store) (nL := 12) (ret := (some .int)) (by decide) (Nat.le_of_ble_eq_true rfl) (fun z X Y hn => ?_)
  have X : Cx E z b_M_store R_M := X
  have hz := Y.2.1
  change J E z 0 0 0 [(0, .ref (E.2.2.2 18 0)), (1, .int (iI a)), (2, .int (iI key)), (3, .int (iI n))] [] (cells E σ)
  have hc := cnO_in f a 32
  rw [← Y.1] at hfi hro
  refine j_iload_n X rfl d_M_store_0 ?_
  refine s_M_192 X hz (c_M_isSet (zl z) E σ a (by omega)) rfl rfl rfl (Nat.le_of_ble_eq_true rfl) ⟨Nat.le_refl _, Nat.le_refl _⟩ d_M_store_1 ?_
  refine j_ifz X d_M_store_4 (tgt := 17) rfl (fun h4 => ?_) (fun h4 => ?_)
  · exact absurd h4 (by omega)
  · skip
    refine j_iload_n X rfl d_M_store_7 ?_
    refine j_if_lt X (by omega) d_M_store_8 (tgt := 17) rfl (fun h8 => ?_) (fun h8 => ?_)
    · exact absurd h8 (by omega)
    · skip
      refine j_iload_n X rfl d_M_store_11 ?_
      refine j_bipush X rfl d_M_store_12 ?_
      refine j_icmp_le X (by omega) (by omega) d_M_store_14 (tgt := 21) rfl (fun h14 => ?_) (fun h14 => ?_)
      · skip
        refine j_iconst X d_M_store_21 ?_
        refine j_istore X (zlt hn rfl) d_M_store_22 ?_
        refine j_iload X rfl d_M_store_24 ?_
        refine j_if_ne X (by omega) d_M_store_26 (tgt := 41) rfl (fun h26 => ?_) (fun h26 => ?_)
        · exact absurd h26 (by omega)
        · skip
          refine j_aload_n X rfl d_M_store_29 ?_
          refine j_iload_n X rfl d_M_store_30 ?_
          refine v_M_198 X hz (c_M_tracksOf (zl z) E σ f a ho hf ra) rfl rfl rfl (Nat.le_of_ble_eq_true rfl) ⟨Nat.le_refl _, Nat.le_refl _⟩ d_M_store_31 ?_
          refine j_if_ne X (by omega) d_M_store_34 (tgt := 41) rfl (fun h34 => ?_) (fun h34 => ?_)
          · skip
            refine j_iconst X d_M_store_41 ?_
            refine j_istore X (zlt hn rfl) d_M_store_42 ?_
            refine j_iload X rfl d_M_store_44 ?_
            refine j_if_ne X (by omega) d_M_store_46 (tgt := 54) rfl (fun h46 => ?_) (fun h46 => ?_)
            · exact absurd h46 (by omega)
            · skip
              refine j_iload X rfl d_M_store_49 ?_
              refine j_if_eq X (by omega) d_M_store_51 (tgt := 58) rfl (fun h51 => ?_) (fun h51 => ?_)
              · skip
                refine j_aload_n X rfl d_M_store_58 ?_
                refine j_iload_n X rfl d_M_store_59 ?_
                refine j_iload_n X rfl d_M_store_60 ?_
                refine v_M_213 X hz (hfi) rfl rfl rfl (Nat.le_of_ble_eq_true rfl) ⟨Nat.le_refl _, Nat.le_refl _⟩ d_M_store_61 ?_
                refine j_istore X (zlt hn rfl) d_M_store_64 ?_
                refine j_iload X rfl d_M_store_66 ?_
                refine j_if_lt X (by omega) d_M_store_68 (tgt := 76) rfl (fun h68 => ?_) (fun h68 => ?_)
                · skip
                  refine j_iload X rfl d_M_store_76 ?_
                  refine j_if_ne X (by omega) d_M_store_78 (tgt := 86) rfl (fun h78 => ?_) (fun h78 => ?_)
                  · exact absurd h78 (by omega)
                  · skip
                    refine j_iload X rfl d_M_store_81 ?_
                    refine j_if_eq X (by omega) d_M_store_83 (tgt := 90) rfl (fun h83 => ?_) (fun h83 => ?_)
                    · skip
                      refine j_aload_n X rfl d_M_store_90 ?_
                      refine j_iload_n X rfl d_M_store_91 ?_
                      refine j_iload_n X rfl d_M_store_92 ?_
                      refine j_iload_n X rfl d_M_store_93 ?_
                      refine v_M_216 X hz (hro) rfl rfl rfl (Nat.le_of_ble_eq_true rfl) ⟨Nat.le_refl _, Nat.le_refl _⟩ d_M_store_94 ?_
                      refine j_istore X (zlt hn rfl) d_M_store_97 ?_
                      refine j_iload X rfl d_M_store_99 ?_
                      refine j_if_lt X (by omega) d_M_store_101 (tgt := 128) rfl (fun h101 => ?_) (fun h101 => ?_)
                      · skip
                        refine j_iconst X d_M_store_128 ?_
                        refine j_istore X (zlt hn rfl) d_M_store_129 ?_
                        refine j_aload_n X rfl d_M_store_131 ?_
                        refine j_iload X rfl d_M_store_132 ?_
                        refine j_iload X rfl d_M_store_134 ?_
                        refine j_if_ne X (by omega) d_M_store_136 (tgt := 149) rfl (fun h136 => ?_) (fun h136 => ?_)
                        · exact absurd h136 (by omega)
                        · skip
                          refine j_iload X rfl d_M_store_139 ?_
                          refine j_if_ne X (by omega) d_M_store_141 (tgt := 149) rfl (fun h141 => ?_) (fun h141 => ?_)
                          · exact absurd h141 (by omega)
                          · skip
                            refine j_iload X rfl d_M_store_144 ?_
                            refine j_if_ge X (by omega) d_M_store_146 (tgt := 153) rfl (fun h146 => ?_) (fun h146 => ?_)
                            · exact absurd h146 (by omega)
                            · skip
                              refine j_iconst X d_M_store_149 ?_
                              refine j_goto X d_M_store_150 (tgt := 154) rfl ?_
                              refine v_M_53 X hz (c_M_throwing (zl z) E σ _ _ (by decide) (by decide)) rfl rfl rfl (Nat.le_of_ble_eq_true rfl) ⟨Nat.le_refl _, Nat.le_refl _⟩ d_M_store_154 ?_
                              refine j_ifz X d_M_store_157 (tgt := 162) rfl (fun h => absurd (by decide) h) (fun _ => ?_)
                              refine j_iconst X d_M_store_160 ?_
                              exact j_iret X Y (Nat.le_refl _) (Nat.le_refl _) d_M_store_161 ⟨rfl, rfl⟩
                      · exact absurd h101 (by omega)
                    · exact absurd h83 (by omega)
                · exact absurd h68 (by omega)
              · exact absurd h51 (by omega)
          · exact absurd h34 (by omega)
      · exact absurd h14 (by omega)

set_option maxRecDepth 100000 in
set_option maxHeartbeats 4000000 in
theorem c_M_storeX4 (l : Launch) (E : eT) (σ : St) (f : Int → Int) (a key n : Int) (ho : ∀ t, 0 ≤ t → t < 32 → σ 25 0 t = f t + 1) (hf : ∀ t, -1 ≤ f t ∧ f t ≤ 5) (ra : 0 ≤ a ∧ a ≤ 5) (hn0 : 0 ≤ n ∧ n ≤ 60) (t p d : Int) (ht : 0 ≤ t ∧ t < 32) (hp : 0 ≤ p ∧ p ≤ 576) (rd : inR d) (h1 : 0 < cnO f a 32) (hfi : FCon l E y_M_find ws_M_find 2 [.ref (E.2.2.2 18 0), .int (iI a), .int (iI key)] σ (some (.int (iI (600 * t + p)))) σ) (e2 : σ 20 0 (600 * t + p + 2) = d) (hd : ¬ d = n) : FCon l E y_M_store ws_M_store 3 [.ref (E.2.2.2 18 0), .int (iI a), .int (iI key), .int (iI n)] σ (some (.int (iI 0))) (up σ 18 0 0 2) := by
  refine con_of (cc := b_M_store) (nL := 12) (ret := (some .int)) (by decide) (Nat.le_of_ble_eq_true rfl) (fun z X Y hn => ?_)
  have X : Cx E z b_M_store R_M := X
  have hz := Y.2.1
  change J E z 0 0 0 [(0, .ref (E.2.2.2 18 0)), (1, .int (iI a)), (2, .int (iI key)), (3, .int (iI n))] [] (cells E σ)
  have hc := cnO_in f a 32
  rw [← Y.1] at hfi
  refine j_iload_n X rfl d_M_store_0 ?_
  refine s_M_192 X hz (c_M_isSet (zl z) E σ a (by omega)) rfl rfl rfl (Nat.le_of_ble_eq_true rfl) ⟨Nat.le_refl _, Nat.le_refl _⟩ d_M_store_1 ?_
  refine j_ifz X d_M_store_4 (tgt := 17) rfl (fun h4 => ?_) (fun h4 => ?_)
  · exact absurd h4 (by omega)
  · skip
    refine j_iload_n X rfl d_M_store_7 ?_
    refine j_if_lt X (by omega) d_M_store_8 (tgt := 17) rfl (fun h8 => ?_) (fun h8 => ?_)
    · exact absurd h8 (by omega)
    · skip
      refine j_iload_n X rfl d_M_store_11 ?_
      refine j_bipush X rfl d_M_store_12 ?_
      refine j_icmp_le X (by omega) (by omega) d_M_store_14 (tgt := 21) rfl (fun h14 => ?_) (fun h14 => ?_)
      · skip
        refine j_iconst X d_M_store_21 ?_
        refine j_istore X (zlt hn rfl) d_M_store_22 ?_
        refine j_iload X rfl d_M_store_24 ?_
        refine j_if_ne X (by omega) d_M_store_26 (tgt := 41) rfl (fun h26 => ?_) (fun h26 => ?_)
        · exact absurd h26 (by omega)
        · skip
          refine j_aload_n X rfl d_M_store_29 ?_
          refine j_iload_n X rfl d_M_store_30 ?_
          refine v_M_198 X hz (c_M_tracksOf (zl z) E σ f a ho hf ra) rfl rfl rfl (Nat.le_of_ble_eq_true rfl) ⟨Nat.le_refl _, Nat.le_refl _⟩ d_M_store_31 ?_
          refine j_if_ne X (by omega) d_M_store_34 (tgt := 41) rfl (fun h34 => ?_) (fun h34 => ?_)
          · skip
            refine j_iconst X d_M_store_41 ?_
            refine j_istore X (zlt hn rfl) d_M_store_42 ?_
            refine j_iload X rfl d_M_store_44 ?_
            refine j_if_ne X (by omega) d_M_store_46 (tgt := 54) rfl (fun h46 => ?_) (fun h46 => ?_)
            · exact absurd h46 (by omega)
            · skip
              refine j_iload X rfl d_M_store_49 ?_
              refine j_if_eq X (by omega) d_M_store_51 (tgt := 58) rfl (fun h51 => ?_) (fun h51 => ?_)
              · skip
                refine j_aload_n X rfl d_M_store_58 ?_
                refine j_iload_n X rfl d_M_store_59 ?_
                refine j_iload_n X rfl d_M_store_60 ?_
                refine v_M_213 X hz (hfi) rfl rfl rfl (Nat.le_of_ble_eq_true rfl) ⟨Nat.le_refl _, Nat.le_refl _⟩ d_M_store_61 ?_
                refine j_istore X (zlt hn rfl) d_M_store_64 ?_
                refine j_iload X rfl d_M_store_66 ?_
                refine j_if_lt X (by omega) d_M_store_68 (tgt := 76) rfl (fun h68 => ?_) (fun h68 => ?_)
                · exact absurd h68 (by omega)
                · skip
                  refine j_iload X rfl d_M_store_71 ?_
                  refine j_goto X d_M_store_73 (tgt := 97) rfl ?_
                  refine j_istore X (zlt hn rfl) d_M_store_97 ?_
                  refine j_iload X rfl d_M_store_99 ?_
                  refine j_if_lt X (by omega) d_M_store_101 (tgt := 128) rfl (fun h101 => ?_) (fun h101 => ?_)
                  · exact absurd h101 (by omega)
                  · skip
                    refine j_aload_n X rfl d_M_store_104 ?_
                    refine j_iload X rfl d_M_store_105 ?_
                    refine j_sipush X rfl d_M_store_107 ?_
                    refine j_idiv X (by omega) (by omega) (by omega) (by omega) d_M_store_110 ?_
                    refine j_topi (congrArg iI (show (600 * t + p) / 600 = t by omega)) ?_
                    refine j_iload X rfl d_M_store_111 ?_
                    refine j_sipush X rfl d_M_store_113 ?_
                    refine j_irem X (by omega) (by omega) (by omega) (by omega) d_M_store_116 ?_
                    refine j_topi (congrArg iI (show (600 * t + p) % 600 = p by omega)) ?_
                    refine v_M_40 X hz (c_M_dataOf (zl z) E σ t p ht (by omega)) rfl rfl rfl (Nat.le_of_ble_eq_true rfl) ⟨Nat.le_refl _, Nat.le_refl _⟩ d_M_store_117 ?_
                    refine j_topi (congrArg iI e2) ?_
                    refine j_iload_n X rfl d_M_store_120 ?_
                    refine j_icmp_eq X (by omega) (by omega) d_M_store_121 (tgt := 128) rfl (fun h121 => ?_) (fun h121 => ?_)
                    · exact absurd h121 (by omega)
                    · skip
                      refine j_iconst X d_M_store_124 ?_
                      refine j_goto X d_M_store_125 (tgt := 129) rfl ?_
                      refine j_istore X (zlt hn rfl) d_M_store_129 ?_
                      refine j_aload_n X rfl d_M_store_131 ?_
                      refine j_iload X rfl d_M_store_132 ?_
                      refine j_iload X rfl d_M_store_134 ?_
                      refine j_if_ne X (by omega) d_M_store_136 (tgt := 149) rfl (fun h136 => ?_) (fun h136 => ?_)
                      · exact absurd h136 (by omega)
                      · skip
                        refine j_iload X rfl d_M_store_139 ?_
                        refine j_if_ne X (by omega) d_M_store_141 (tgt := 149) rfl (fun h141 => ?_) (fun h141 => ?_)
                        · skip
                          refine j_iconst X d_M_store_149 ?_
                          refine j_goto X d_M_store_150 (tgt := 154) rfl ?_
                          refine v_M_53 X hz (c_M_throwing (zl z) E σ _ _ (by decide) (by decide)) rfl rfl rfl (Nat.le_of_ble_eq_true rfl) ⟨Nat.le_refl _, Nat.le_refl _⟩ d_M_store_154 ?_
                          refine j_ifz X d_M_store_157 (tgt := 162) rfl (fun h => absurd (by decide) h) (fun _ => ?_)
                          refine j_iconst X d_M_store_160 ?_
                          exact j_iret X Y (Nat.le_refl _) (Nat.le_refl _) d_M_store_161 ⟨rfl, rfl⟩
                        · exact absurd h141 (by omega)
              · exact absurd h51 (by omega)
          · exact absurd h34 (by omega)
      · exact absurd h14 (by omega)

set_option maxRecDepth 100000 in
set_option maxHeartbeats 8000000 in
theorem c_M_store_n (l : Launch) (E : eT) (σ : St) (f : Int → Int) (a key n : Int) (ho : ∀ t, 0 ≤ t → t < 32 → σ 25 0 t = f t + 1) (hf : ∀ t, -1 ≤ f t ∧ f t ≤ 5) (ra : 0 ≤ a ∧ a ≤ 5) (hn0 : 0 ≤ n ∧ n ≤ 60) (t p : Int) (ht : 0 ≤ t ∧ t < 32) (hp : 0 ≤ p ∧ p + 24 + n ≤ 600) (g : Int → Int) (h1 : 0 < cnO f a 32) (hfi : FCon l E y_M_find ws_M_find 2 [.ref (E.2.2.2 18 0), .int (iI a), .int (iI key)] σ (some (.int (iI (-1)))) σ) (hro : FCon l E y_M_room ws_M_room 2 [.ref (E.2.2.2 18 0), .int (iI a), .int (iI key), .int (iI n)] σ (some (.int (iI (600 * t + p)))) σ) (hg1 : ∀ i, 0 ≤ i → i < 4 → ((ksS key i).bmod 256).bmod 256 = g i) (hg2 : ∀ i, 0 ≤ i → i < n → ((σ 21 0 i).bmod 256).bmod 256 = g (4 + i)) : FCon l E y_M_store ws_M_store 3 [.ref (E.2.2.2 18 0), .int (iI a), .int (iI key), .int (iI n)] σ (some (.int (iI t))) (fiS (laS (up σ 18 0 0 0) t p 4 n) 20 (600 * t + p + 20) g (4 + n)) := by
  refine con_of (cc := b_M_store) (nL := 12) (ret := (some .int)) (by decide) (Nat.le_of_ble_eq_true rfl) (fun z X Y hn => ?_)
  have X : Cx E z b_M_store R_M := X
  have hz := Y.2.1
  change J E z 0 0 0 [(0, .ref (E.2.2.2 18 0)), (1, .int (iI a)), (2, .int (iI key)), (3, .int (iI n))] [] (cells E σ)
  have hc := cnO_in f a 32
  rw [← Y.1] at hfi hro
  refine j_iload_n X rfl d_M_store_0 ?_
  refine s_M_192 X hz (c_M_isSet (zl z) E σ a (by omega)) rfl rfl rfl (Nat.le_of_ble_eq_true rfl) ⟨Nat.le_refl _, Nat.le_refl _⟩ d_M_store_1 ?_
  refine j_ifz X d_M_store_4 (tgt := 17) rfl (fun h4 => ?_) (fun h4 => ?_)
  · exact absurd h4 (by omega)
  · skip
    refine j_iload_n X rfl d_M_store_7 ?_
    refine j_if_lt X (by omega) d_M_store_8 (tgt := 17) rfl (fun h8 => ?_) (fun h8 => ?_)
    · exact absurd h8 (by omega)
    · skip
      refine j_iload_n X rfl d_M_store_11 ?_
      refine j_bipush X rfl d_M_store_12 ?_
      refine j_icmp_le X (by omega) (by omega) d_M_store_14 (tgt := 21) rfl (fun h14 => ?_) (fun h14 => ?_)
      · skip
        refine j_iconst X d_M_store_21 ?_
        refine j_istore X (zlt hn rfl) d_M_store_22 ?_
        refine j_iload X rfl d_M_store_24 ?_
        refine j_if_ne X (by omega) d_M_store_26 (tgt := 41) rfl (fun h26 => ?_) (fun h26 => ?_)
        · exact absurd h26 (by omega)
        · skip
          refine j_aload_n X rfl d_M_store_29 ?_
          refine j_iload_n X rfl d_M_store_30 ?_
          refine v_M_198 X hz (c_M_tracksOf (zl z) E σ f a ho hf ra) rfl rfl rfl (Nat.le_of_ble_eq_true rfl) ⟨Nat.le_refl _, Nat.le_refl _⟩ d_M_store_31 ?_
          refine j_if_ne X (by omega) d_M_store_34 (tgt := 41) rfl (fun h34 => ?_) (fun h34 => ?_)
          · skip
            refine j_iconst X d_M_store_41 ?_
            refine j_istore X (zlt hn rfl) d_M_store_42 ?_
            change J E z 0 0 44 [(0, .ref (E.2.2.2 18 0)), (1, .int (iI a)), (2, .int (iI key)), (3, .int (iI n)), (4, .int (iI 0)), (5, .int (iI 0))] [] (cells E σ)
            refine j_iload X rfl d_M_store_44 ?_
            refine j_if_ne X (by omega) d_M_store_46 (tgt := 54) rfl (fun h46 => ?_) (fun h46 => ?_)
            · exact absurd h46 (by omega)
            · skip
              refine j_iload X rfl d_M_store_49 ?_
              refine j_if_eq X (by omega) d_M_store_51 (tgt := 58) rfl (fun h51 => ?_) (fun h51 => ?_)
              · skip
                refine j_aload_n X rfl d_M_store_58 ?_
                refine j_iload_n X rfl d_M_store_59 ?_
                refine j_iload_n X rfl d_M_store_60 ?_
                refine v_M_213 X hz (hfi) rfl rfl rfl (Nat.le_of_ble_eq_true rfl) ⟨Nat.le_refl _, Nat.le_refl _⟩ d_M_store_61 ?_
                refine j_istore X (zlt hn rfl) d_M_store_64 ?_
                change J E z 0 0 66 [(0, .ref (E.2.2.2 18 0)), (1, .int (iI a)), (2, .int (iI key)), (3, .int (iI n)), (4, .int (iI 0)), (5, .int (iI 0)), (6, .int (iI (-1)))] [] (cells E σ)
                refine j_iload X rfl d_M_store_66 ?_
                refine j_if_lt X (by omega) d_M_store_68 (tgt := 76) rfl (fun h68 => ?_) (fun h68 => ?_)
                · skip
                  refine j_iload X rfl d_M_store_76 ?_
                  refine j_if_ne X (by omega) d_M_store_78 (tgt := 86) rfl (fun h78 => ?_) (fun h78 => ?_)
                  · exact absurd h78 (by omega)
                  · skip
                    refine j_iload X rfl d_M_store_81 ?_
                    refine j_if_eq X (by omega) d_M_store_83 (tgt := 90) rfl (fun h83 => ?_) (fun h83 => ?_)
                    · skip
                      refine j_aload_n X rfl d_M_store_90 ?_
                      refine j_iload_n X rfl d_M_store_91 ?_
                      refine j_iload_n X rfl d_M_store_92 ?_
                      refine j_iload_n X rfl d_M_store_93 ?_
                      refine v_M_216 X hz (hro) rfl rfl rfl (Nat.le_of_ble_eq_true rfl) ⟨Nat.le_refl _, Nat.le_refl _⟩ d_M_store_94 ?_
                      refine j_istore X (zlt hn rfl) d_M_store_97 ?_
                      change J E z 0 0 99 [(0, .ref (E.2.2.2 18 0)), (1, .int (iI a)), (2, .int (iI key)), (3, .int (iI n)), (4, .int (iI 0)), (5, .int (iI 0)), (6, .int (iI (-1))), (7, .int (iI (600 * t + p)))] [] (cells E σ)
                      refine j_iload X rfl d_M_store_99 ?_
                      refine j_if_lt X (by omega) d_M_store_101 (tgt := 128) rfl (fun h101 => ?_) (fun h101 => ?_)
                      · skip
                        refine j_iconst X d_M_store_128 ?_
                        refine j_istore X (zlt hn rfl) d_M_store_129 ?_
                        change J E z 0 0 131 [(0, .ref (E.2.2.2 18 0)), (1, .int (iI a)), (2, .int (iI key)), (3, .int (iI n)), (4, .int (iI 0)), (5, .int (iI 0)), (6, .int (iI (-1))), (7, .int (iI (600 * t + p))), (8, .int (iI 0))] [] (cells E σ)
                        refine j_aload_n X rfl d_M_store_131 ?_
                        refine j_iload X rfl d_M_store_132 ?_
                        refine j_iload X rfl d_M_store_134 ?_
                        refine j_if_ne X (by omega) d_M_store_136 (tgt := 149) rfl (fun h136 => ?_) (fun h136 => ?_)
                        · exact absurd h136 (by omega)
                        · skip
                          refine j_iload X rfl d_M_store_139 ?_
                          refine j_if_ne X (by omega) d_M_store_141 (tgt := 149) rfl (fun h141 => ?_) (fun h141 => ?_)
                          · exact absurd h141 (by omega)
                          · skip
                            refine j_iload X rfl d_M_store_144 ?_
                            refine j_if_ge X (by omega) d_M_store_146 (tgt := 153) rfl (fun h146 => ?_) (fun h146 => ?_)
                            · skip
                              refine j_iconst X d_M_store_153 ?_
                              refine v_M_53 X hz (c_M_throwing (zl z) E σ _ _ (by decide) (by decide)) rfl rfl rfl (Nat.le_of_ble_eq_true rfl) ⟨Nat.le_refl _, Nat.le_refl _⟩ d_M_store_154 ?_
                              refine j_ifz X d_M_store_157 (tgt := 162) rfl (fun _ => ?_) (fun h => absurd h (by decide))
                              refine j_iload X rfl d_M_store_162 ?_
                              refine j_sipush X rfl d_M_store_164 ?_
                              refine j_idiv X (by omega) (by omega) (by omega) (by omega) d_M_store_167 ?_
                              refine j_topi (congrArg iI (show (600 * t + p) / 600 = t by omega)) ?_
                              refine j_istore X (zlt hn rfl) d_M_store_168 ?_
                              refine j_iload X rfl d_M_store_170 ?_
                              refine j_sipush X rfl d_M_store_172 ?_
                              refine j_irem X (by omega) (by omega) (by omega) (by omega) d_M_store_175 ?_
                              refine j_topi (congrArg iI (show (600 * t + p) % 600 = p by omega)) ?_
                              refine j_istore X (zlt hn rfl) d_M_store_176 ?_
                              change J E z 0 0 178 [(0, .ref (E.2.2.2 18 0)), (1, .int (iI a)), (2, .int (iI key)), (3, .int (iI n)), (4, .int (iI 0)), (5, .int (iI 0)), (6, .int (iI (-1))), (7, .int (iI (600 * t + p))), (8, .int (iI 0)), (9, .int (iI t)), (10, .int (iI p))] [] (cells E (up σ 18 0 0 0))
                              refine j_aload_n X rfl d_M_store_178 ?_
                              refine j_iload X rfl d_M_store_179 ?_
                              refine j_iload X rfl d_M_store_181 ?_
                              refine j_iconst X d_M_store_183 ?_
                              refine j_iload_n X rfl d_M_store_184 ?_
                              refine v_M_147 X hz (c_M_lay (zl z) E (up σ 18 0 0 0) t p 4 n ht (by omega)) rfl rfl rfl (Nat.le_of_ble_eq_true rfl) ⟨Nat.le_refl _, Nat.le_refl _⟩ d_M_store_185 ?_
                              refine j_iconst X d_M_store_188 ?_
                              refine j_istore X (zlt hn rfl) d_M_store_189 ?_
                              have kyl : ∀ i : Int, (0 ≤ i ∧ i ≤ 4) → J E z 0 0 191 [(0, .ref (E.2.2.2 18 0)), (1, .int (iI a)), (2, .int (iI key)), (3, .int (iI n)), (4, .int (iI 0)), (5, .int (iI 0)), (6, .int (iI (-1))), (7, .int (iI (600 * t + p))), (8, .int (iI 0)), (9, .int (iI t)), (10, .int (iI p)), (11, .int (iI i))] [] (cells E (fiS (laS (up σ 18 0 0 0) t p 4 n) 20 (600 * t + p + 20) g i)) := by
                                refine j_loop (fun i : Int => (4 - i).toNat) _ _ (fun i hi ih => ?_)
                                refine j_iload X rfl d_M_store_191 ?_
                                refine j_iconst X d_M_store_193 ?_
                                refine j_icmp_ge X (by omega) (by omega) d_M_store_194 (tgt := 223) rfl (fun h194 => ?_) (fun h194 => ?_)
                                · skip
                                  have ei : i = 4 := by omega
                                  subst ei
                                  refine j_iconst X d_M_store_223 ?_
                                  refine j_istore X (zlt hn rfl) d_M_store_224 ?_
                                  have kyl2 : ∀ i : Int, (0 ≤ i ∧ i ≤ n) → J E z 0 0 226 [(0, .ref (E.2.2.2 18 0)), (1, .int (iI a)), (2, .int (iI key)), (3, .int (iI n)), (4, .int (iI 0)), (5, .int (iI 0)), (6, .int (iI (-1))), (7, .int (iI (600 * t + p))), (8, .int (iI 0)), (9, .int (iI t)), (10, .int (iI p)), (11, .int (iI i))] [] (cells E (fiS (laS (up σ 18 0 0 0) t p 4 n) 20 (600 * t + p + 20) g (4 + i))) := by
                                    refine j_loop (fun i : Int => (n - i).toNat) _ _ (fun i hi2 ih2 => ?_)
                                    refine j_iload X rfl d_M_store_226 ?_
                                    refine j_iload_n X rfl d_M_store_228 ?_
                                    refine j_icmp_ge X (by omega) (by omega) d_M_store_229 (tgt := 257) rfl (fun h229 => ?_) (fun h229 => ?_)
                                    · skip
                                      refine j_iload X rfl d_M_store_257 ?_
                                      exact j_iret X Y (Nat.le_refl _) (Nat.le_refl _) d_M_store_259 ⟨rfl, by rw [show i = n by omega]⟩
                                    · skip
                                      refine j_aload_n X rfl d_M_store_232 ?_
                                      refine j_iload X rfl d_M_store_233 ?_
                                      refine j_iload X rfl d_M_store_235 ?_
                                      refine j_iconst X d_M_store_237 ?_
                                      refine j_iload X rfl d_M_store_238 ?_
                                      refine j_iadd X d_M_store_240 ?_
                                      refine j_aload_n X rfl d_M_store_241 ?_
                                      refine g_M_16 X d_M_store_242 ?_
                                      refine j_iload X rfl d_M_store_245 ?_
                                      refine j_iald X (by first | exact okC1 rfl | exact (okCT rfl (by omega))) (fun _ => rfl) rfl (by omega) d_M_store_247 ?_
                                      refine j_topi (congrArg iI (show (fiS (laS (up σ 18 0 0 0) t p 4 n) 20 (600 * t + p + 20) g (4 + i)) 21 0 i = σ 21 0 i from rfl)) ?_
                                      refine v_M_136 X hz (c_M_setByte (zl z) E (fiS (laS (up σ 18 0 0 0) t p 4 n) 20 (600 * t + p + 20) g (4 + i)) t p (4 + i) (σ 21 0 i) ht (by omega)) rfl rfl rfl (Nat.le_of_ble_eq_true rfl) ⟨Nat.le_refl _, Nat.le_refl _⟩ d_M_store_248 ?_
                                      refine j_iinc X rfl (zlt hn rfl) d_M_store_251 ?_
                                      refine j_goto X d_M_store_254 (tgt := 226) rfl ?_
                                      rw [fi_s (k := 20) (by omega) (hg2 i hi2.1 (by omega)), Int.add_assoc 4 i 1]; exact ih2 (i + 1) (by omega) (by omega)
                                  have := kyl2 0 (by omega); rw [show (4 : Int) + 0 = 4 from rfl] at this; exact this
                                · skip
                                  refine j_aload_n X rfl d_M_store_197 ?_
                                  refine j_iload X rfl d_M_store_198 ?_
                                  refine j_iload X rfl d_M_store_200 ?_
                                  refine j_iload X rfl d_M_store_202 ?_
                                  refine j_iload_n X rfl d_M_store_204 ?_
                                  refine j_bipush X rfl d_M_store_205 ?_
                                  refine j_bipush X rfl d_M_store_207 ?_
                                  refine j_iload X rfl d_M_store_209 ?_
                                  refine j_imul X d_M_store_211 ?_
                                  refine j_isub X d_M_store_212 ?_
                                  refine j_ishr X d_M_store_213 ?_
                                  refine j_topi (ks_iI key i) ?_
                                  refine v_M_136 X hz (c_M_setByte (zl z) E (fiS (laS (up σ 18 0 0 0) t p 4 n) 20 (600 * t + p + 20) g i) t p i (ksS key i) ht (by omega)) rfl rfl rfl (Nat.le_of_ble_eq_true rfl) ⟨Nat.le_refl _, Nat.le_refl _⟩ d_M_store_214 ?_
                                  refine j_iinc X rfl (zlt hn rfl) d_M_store_217 ?_
                                  refine j_goto X d_M_store_220 (tgt := 191) rfl ?_
                                  rw [fi_s (k := 20) hi.1 (hg1 i hi.1 (by omega))]; exact ih (i + 1) (by omega) (by omega)
                              have := kyl 0 (by omega); rw [fi_0] at this; exact this
                            · exact absurd h146 (by omega)
                      · exact absurd h101 (by omega)
                    · exact absurd h83 (by omega)
                · exact absurd h68 (by omega)
              · exact absurd h51 (by omega)
          · exact absurd h34 (by omega)
      · exact absurd h14 (by omega)

set_option maxRecDepth 100000 in
set_option maxHeartbeats 8000000 in
theorem c_M_store_o (l : Launch) (E : eT) (σ : St) (f : Int → Int) (a key n : Int) (ho : ∀ t, 0 ≤ t → t < 32 → σ 25 0 t = f t + 1) (hf : ∀ t, -1 ≤ f t ∧ f t ≤ 5) (ra : 0 ≤ a ∧ a ≤ 5) (hn0 : 0 ≤ n ∧ n ≤ 60) (t p : Int) (ht : 0 ≤ t ∧ t < 32) (hp : 0 ≤ p ∧ p + 24 + n ≤ 600) (g : Int → Int) (h1 : 0 < cnO f a 32) (hfi : FCon l E y_M_find ws_M_find 2 [.ref (E.2.2.2 18 0), .int (iI a), .int (iI key)] σ (some (.int (iI (600 * t + p)))) σ) (e2 : σ 20 0 (600 * t + p + 2) = n) (hg1 : ∀ i, 0 ≤ i → i < 4 → ((ksS key i).bmod 256).bmod 256 = g i) (hg2 : ∀ i, 0 ≤ i → i < n → ((σ 21 0 i).bmod 256).bmod 256 = g (4 + i)) : FCon l E y_M_store ws_M_store 3 [.ref (E.2.2.2 18 0), .int (iI a), .int (iI key), .int (iI n)] σ (some (.int (iI t))) (fiS (laS (up σ 18 0 0 0) t p 4 n) 20 (600 * t + p + 20) g (4 + n)) := by
  refine con_of (cc := b_M_store) (nL := 12) (ret := (some .int)) (by decide) (Nat.le_of_ble_eq_true rfl) (fun z X Y hn => ?_)
  have X : Cx E z b_M_store R_M := X
  have hz := Y.2.1
  change J E z 0 0 0 [(0, .ref (E.2.2.2 18 0)), (1, .int (iI a)), (2, .int (iI key)), (3, .int (iI n))] [] (cells E σ)
  have hc := cnO_in f a 32
  rw [← Y.1] at hfi
  refine j_iload_n X rfl d_M_store_0 ?_
  refine s_M_192 X hz (c_M_isSet (zl z) E σ a (by omega)) rfl rfl rfl (Nat.le_of_ble_eq_true rfl) ⟨Nat.le_refl _, Nat.le_refl _⟩ d_M_store_1 ?_
  refine j_ifz X d_M_store_4 (tgt := 17) rfl (fun h4 => ?_) (fun h4 => ?_)
  · exact absurd h4 (by omega)
  · skip
    refine j_iload_n X rfl d_M_store_7 ?_
    refine j_if_lt X (by omega) d_M_store_8 (tgt := 17) rfl (fun h8 => ?_) (fun h8 => ?_)
    · exact absurd h8 (by omega)
    · skip
      refine j_iload_n X rfl d_M_store_11 ?_
      refine j_bipush X rfl d_M_store_12 ?_
      refine j_icmp_le X (by omega) (by omega) d_M_store_14 (tgt := 21) rfl (fun h14 => ?_) (fun h14 => ?_)
      · skip
        refine j_iconst X d_M_store_21 ?_
        refine j_istore X (zlt hn rfl) d_M_store_22 ?_
        refine j_iload X rfl d_M_store_24 ?_
        refine j_if_ne X (by omega) d_M_store_26 (tgt := 41) rfl (fun h26 => ?_) (fun h26 => ?_)
        · exact absurd h26 (by omega)
        · skip
          refine j_aload_n X rfl d_M_store_29 ?_
          refine j_iload_n X rfl d_M_store_30 ?_
          refine v_M_198 X hz (c_M_tracksOf (zl z) E σ f a ho hf ra) rfl rfl rfl (Nat.le_of_ble_eq_true rfl) ⟨Nat.le_refl _, Nat.le_refl _⟩ d_M_store_31 ?_
          refine j_if_ne X (by omega) d_M_store_34 (tgt := 41) rfl (fun h34 => ?_) (fun h34 => ?_)
          · skip
            refine j_iconst X d_M_store_41 ?_
            refine j_istore X (zlt hn rfl) d_M_store_42 ?_
            change J E z 0 0 44 [(0, .ref (E.2.2.2 18 0)), (1, .int (iI a)), (2, .int (iI key)), (3, .int (iI n)), (4, .int (iI 0)), (5, .int (iI 0))] [] (cells E σ)
            refine j_iload X rfl d_M_store_44 ?_
            refine j_if_ne X (by omega) d_M_store_46 (tgt := 54) rfl (fun h46 => ?_) (fun h46 => ?_)
            · exact absurd h46 (by omega)
            · skip
              refine j_iload X rfl d_M_store_49 ?_
              refine j_if_eq X (by omega) d_M_store_51 (tgt := 58) rfl (fun h51 => ?_) (fun h51 => ?_)
              · skip
                refine j_aload_n X rfl d_M_store_58 ?_
                refine j_iload_n X rfl d_M_store_59 ?_
                refine j_iload_n X rfl d_M_store_60 ?_
                refine v_M_213 X hz (hfi) rfl rfl rfl (Nat.le_of_ble_eq_true rfl) ⟨Nat.le_refl _, Nat.le_refl _⟩ d_M_store_61 ?_
                refine j_istore X (zlt hn rfl) d_M_store_64 ?_
                change J E z 0 0 66 [(0, .ref (E.2.2.2 18 0)), (1, .int (iI a)), (2, .int (iI key)), (3, .int (iI n)), (4, .int (iI 0)), (5, .int (iI 0)), (6, .int (iI (600 * t + p)))] [] (cells E σ)
                refine j_iload X rfl d_M_store_66 ?_
                refine j_if_lt X (by omega) d_M_store_68 (tgt := 76) rfl (fun h68 => ?_) (fun h68 => ?_)
                · exact absurd h68 (by omega)
                · skip
                  refine j_iload X rfl d_M_store_71 ?_
                  refine j_goto X d_M_store_73 (tgt := 97) rfl ?_
                  refine j_istore X (zlt hn rfl) d_M_store_97 ?_
                  change J E z 0 0 99 [(0, .ref (E.2.2.2 18 0)), (1, .int (iI a)), (2, .int (iI key)), (3, .int (iI n)), (4, .int (iI 0)), (5, .int (iI 0)), (6, .int (iI (600 * t + p))), (7, .int (iI (600 * t + p)))] [] (cells E σ)
                  refine j_iload X rfl d_M_store_99 ?_
                  refine j_if_lt X (by omega) d_M_store_101 (tgt := 128) rfl (fun h101 => ?_) (fun h101 => ?_)
                  · exact absurd h101 (by omega)
                  · skip
                    refine j_aload_n X rfl d_M_store_104 ?_
                    refine j_iload X rfl d_M_store_105 ?_
                    refine j_sipush X rfl d_M_store_107 ?_
                    refine j_idiv X (by omega) (by omega) (by omega) (by omega) d_M_store_110 ?_
                    refine j_topi (congrArg iI (show (600 * t + p) / 600 = t by omega)) ?_
                    refine j_iload X rfl d_M_store_111 ?_
                    refine j_sipush X rfl d_M_store_113 ?_
                    refine j_irem X (by omega) (by omega) (by omega) (by omega) d_M_store_116 ?_
                    refine j_topi (congrArg iI (show (600 * t + p) % 600 = p by omega)) ?_
                    refine v_M_40 X hz (c_M_dataOf (zl z) E σ t p ht (by omega)) rfl rfl rfl (Nat.le_of_ble_eq_true rfl) ⟨Nat.le_refl _, Nat.le_refl _⟩ d_M_store_117 ?_
                    refine j_topi (congrArg iI e2) ?_
                    refine j_iload_n X rfl d_M_store_120 ?_
                    refine j_icmp_eq X (by omega) (by omega) d_M_store_121 (tgt := 128) rfl (fun h121 => ?_) (fun h121 => ?_)
                    · skip
                      refine j_iconst X d_M_store_128 ?_
                      refine j_istore X (zlt hn rfl) d_M_store_129 ?_
                      change J E z 0 0 131 [(0, .ref (E.2.2.2 18 0)), (1, .int (iI a)), (2, .int (iI key)), (3, .int (iI n)), (4, .int (iI 0)), (5, .int (iI 0)), (6, .int (iI (600 * t + p))), (7, .int (iI (600 * t + p))), (8, .int (iI 0))] [] (cells E σ)
                      refine j_aload_n X rfl d_M_store_131 ?_
                      refine j_iload X rfl d_M_store_132 ?_
                      refine j_iload X rfl d_M_store_134 ?_
                      refine j_if_ne X (by omega) d_M_store_136 (tgt := 149) rfl (fun h136 => ?_) (fun h136 => ?_)
                      · exact absurd h136 (by omega)
                      · skip
                        refine j_iload X rfl d_M_store_139 ?_
                        refine j_if_ne X (by omega) d_M_store_141 (tgt := 149) rfl (fun h141 => ?_) (fun h141 => ?_)
                        · exact absurd h141 (by omega)
                        · skip
                          refine j_iload X rfl d_M_store_144 ?_
                          refine j_if_ge X (by omega) d_M_store_146 (tgt := 153) rfl (fun h146 => ?_) (fun h146 => ?_)
                          · skip
                            refine j_iconst X d_M_store_153 ?_
                            refine v_M_53 X hz (c_M_throwing (zl z) E σ _ _ (by decide) (by decide)) rfl rfl rfl (Nat.le_of_ble_eq_true rfl) ⟨Nat.le_refl _, Nat.le_refl _⟩ d_M_store_154 ?_
                            refine j_ifz X d_M_store_157 (tgt := 162) rfl (fun _ => ?_) (fun h => absurd h (by decide))
                            refine j_iload X rfl d_M_store_162 ?_
                            refine j_sipush X rfl d_M_store_164 ?_
                            refine j_idiv X (by omega) (by omega) (by omega) (by omega) d_M_store_167 ?_
                            refine j_topi (congrArg iI (show (600 * t + p) / 600 = t by omega)) ?_
                            refine j_istore X (zlt hn rfl) d_M_store_168 ?_
                            refine j_iload X rfl d_M_store_170 ?_
                            refine j_sipush X rfl d_M_store_172 ?_
                            refine j_irem X (by omega) (by omega) (by omega) (by omega) d_M_store_175 ?_
                            refine j_topi (congrArg iI (show (600 * t + p) % 600 = p by omega)) ?_
                            refine j_istore X (zlt hn rfl) d_M_store_176 ?_
                            change J E z 0 0 178 [(0, .ref (E.2.2.2 18 0)), (1, .int (iI a)), (2, .int (iI key)), (3, .int (iI n)), (4, .int (iI 0)), (5, .int (iI 0)), (6, .int (iI (600 * t + p))), (7, .int (iI (600 * t + p))), (8, .int (iI 0)), (9, .int (iI t)), (10, .int (iI p))] [] (cells E (up σ 18 0 0 0))
                            refine j_aload_n X rfl d_M_store_178 ?_
                            refine j_iload X rfl d_M_store_179 ?_
                            refine j_iload X rfl d_M_store_181 ?_
                            refine j_iconst X d_M_store_183 ?_
                            refine j_iload_n X rfl d_M_store_184 ?_
                            refine v_M_147 X hz (c_M_lay (zl z) E (up σ 18 0 0 0) t p 4 n ht (by omega)) rfl rfl rfl (Nat.le_of_ble_eq_true rfl) ⟨Nat.le_refl _, Nat.le_refl _⟩ d_M_store_185 ?_
                            refine j_iconst X d_M_store_188 ?_
                            refine j_istore X (zlt hn rfl) d_M_store_189 ?_
                            have kyl : ∀ i : Int, (0 ≤ i ∧ i ≤ 4) → J E z 0 0 191 [(0, .ref (E.2.2.2 18 0)), (1, .int (iI a)), (2, .int (iI key)), (3, .int (iI n)), (4, .int (iI 0)), (5, .int (iI 0)), (6, .int (iI (600 * t + p))), (7, .int (iI (600 * t + p))), (8, .int (iI 0)), (9, .int (iI t)), (10, .int (iI p)), (11, .int (iI i))] [] (cells E (fiS (laS (up σ 18 0 0 0) t p 4 n) 20 (600 * t + p + 20) g i)) := by
                              refine j_loop (fun i : Int => (4 - i).toNat) _ _ (fun i hi ih => ?_)
                              refine j_iload X rfl d_M_store_191 ?_
                              refine j_iconst X d_M_store_193 ?_
                              refine j_icmp_ge X (by omega) (by omega) d_M_store_194 (tgt := 223) rfl (fun h194 => ?_) (fun h194 => ?_)
                              · skip
                                have ei : i = 4 := by omega
                                subst ei
                                refine j_iconst X d_M_store_223 ?_
                                refine j_istore X (zlt hn rfl) d_M_store_224 ?_
                                have kyl2 : ∀ i : Int, (0 ≤ i ∧ i ≤ n) → J E z 0 0 226 [(0, .ref (E.2.2.2 18 0)), (1, .int (iI a)), (2, .int (iI key)), (3, .int (iI n)), (4, .int (iI 0)), (5, .int (iI 0)), (6, .int (iI (600 * t + p))), (7, .int (iI (600 * t + p))), (8, .int (iI 0)), (9, .int (iI t)), (10, .int (iI p)), (11, .int (iI i))] [] (cells E (fiS (laS (up σ 18 0 0 0) t p 4 n) 20 (600 * t + p + 20) g (4 + i))) := by
                                  refine j_loop (fun i : Int => (n - i).toNat) _ _ (fun i hi2 ih2 => ?_)
                                  refine j_iload X rfl d_M_store_226 ?_
                                  refine j_iload_n X rfl d_M_store_228 ?_
                                  refine j_icmp_ge X (by omega) (by omega) d_M_store_229 (tgt := 257) rfl (fun h229 => ?_) (fun h229 => ?_)
                                  · skip
                                    refine j_iload X rfl d_M_store_257 ?_
                                    exact j_iret X Y (Nat.le_refl _) (Nat.le_refl _) d_M_store_259 ⟨rfl, by rw [show i = n by omega]⟩
                                  · skip
                                    refine j_aload_n X rfl d_M_store_232 ?_
                                    refine j_iload X rfl d_M_store_233 ?_
                                    refine j_iload X rfl d_M_store_235 ?_
                                    refine j_iconst X d_M_store_237 ?_
                                    refine j_iload X rfl d_M_store_238 ?_
                                    refine j_iadd X d_M_store_240 ?_
                                    refine j_aload_n X rfl d_M_store_241 ?_
                                    refine g_M_16 X d_M_store_242 ?_
                                    refine j_iload X rfl d_M_store_245 ?_
                                    refine j_iald X (by first | exact okC1 rfl | exact (okCT rfl (by omega))) (fun _ => rfl) rfl (by omega) d_M_store_247 ?_
                                    refine j_topi (congrArg iI (show (fiS (laS (up σ 18 0 0 0) t p 4 n) 20 (600 * t + p + 20) g (4 + i)) 21 0 i = σ 21 0 i from rfl)) ?_
                                    refine v_M_136 X hz (c_M_setByte (zl z) E (fiS (laS (up σ 18 0 0 0) t p 4 n) 20 (600 * t + p + 20) g (4 + i)) t p (4 + i) (σ 21 0 i) ht (by omega)) rfl rfl rfl (Nat.le_of_ble_eq_true rfl) ⟨Nat.le_refl _, Nat.le_refl _⟩ d_M_store_248 ?_
                                    refine j_iinc X rfl (zlt hn rfl) d_M_store_251 ?_
                                    refine j_goto X d_M_store_254 (tgt := 226) rfl ?_
                                    rw [fi_s (k := 20) (by omega) (hg2 i hi2.1 (by omega)), Int.add_assoc 4 i 1]; exact ih2 (i + 1) (by omega) (by omega)
                                have := kyl2 0 (by omega); rw [show (4 : Int) + 0 = 4 from rfl] at this; exact this
                              · skip
                                refine j_aload_n X rfl d_M_store_197 ?_
                                refine j_iload X rfl d_M_store_198 ?_
                                refine j_iload X rfl d_M_store_200 ?_
                                refine j_iload X rfl d_M_store_202 ?_
                                refine j_iload_n X rfl d_M_store_204 ?_
                                refine j_bipush X rfl d_M_store_205 ?_
                                refine j_bipush X rfl d_M_store_207 ?_
                                refine j_iload X rfl d_M_store_209 ?_
                                refine j_imul X d_M_store_211 ?_
                                refine j_isub X d_M_store_212 ?_
                                refine j_ishr X d_M_store_213 ?_
                                refine j_topi (ks_iI key i) ?_
                                refine v_M_136 X hz (c_M_setByte (zl z) E (fiS (laS (up σ 18 0 0 0) t p 4 n) 20 (600 * t + p + 20) g i) t p i (ksS key i) ht (by omega)) rfl rfl rfl (Nat.le_of_ble_eq_true rfl) ⟨Nat.le_refl _, Nat.le_refl _⟩ d_M_store_214 ?_
                                refine j_iinc X rfl (zlt hn rfl) d_M_store_217 ?_
                                refine j_goto X d_M_store_220 (tgt := 191) rfl ?_
                                rw [fi_s (k := 20) hi.1 (hg1 i hi.1 (by omega))]; exact ih (i + 1) (by omega) (by omega)
                            have := kyl 0 (by omega); rw [fi_0] at this; exact this
                          · exact absurd h146 (by omega)
                    · exact absurd h121 (by omega)
              · exact absurd h51 (by omega)
          · exact absurd h34 (by omega)
      · exact absurd h14 (by omega)

set_option maxRecDepth 100000 in
set_option maxHeartbeats 4000000 in
theorem c_M_fetchX1 (l : Launch) (E : eT) (σ : St) (a key : Int) (ra : inR a) (hb : ¬ (0 ≤ a ∧ a ≤ 5)) : FCon l E y_M_fetch ws_M_fetch 3 [.ref (E.2.2.2 18 0), .int (iI a), .int (iI key)] σ (some (.int (iI 0))) (up σ 18 0 0 1) := by
  refine con_of (cc := b_M_fetch) (nL := 9) (ret := (some .int)) (by decide) (Nat.le_of_ble_eq_true rfl) (fun z X Y hn => ?_)
  have X : Cx E z b_M_fetch R_M := X
  have hz := Y.2.1
  change J E z 0 0 0 [(0, .ref (E.2.2.2 18 0)), (1, .int (iI a)), (2, .int (iI key))] [] (cells E σ)
  refine j_iload_n X rfl d_M_fetch_0 ?_
  refine s_M_192 X hz (c_M_isSet (zl z) E σ a (by omega)) rfl rfl rfl (Nat.le_of_ble_eq_true rfl) ⟨Nat.le_refl _, Nat.le_refl _⟩ d_M_fetch_1 ?_
  refine j_ifnz X d_M_fetch_4 (tgt := 11) rfl (fun h4 => ?_) (fun h4 => ?_)
  · exact absurd h4 (by omega)
  · skip
    refine j_iconst X d_M_fetch_7 ?_
    refine j_goto X d_M_fetch_8 (tgt := 12) rfl ?_
    refine j_istore_n X (zlt hn rfl) d_M_fetch_12 ?_
    refine j_aload_n X rfl d_M_fetch_13 ?_
    refine j_iload_n X rfl d_M_fetch_14 ?_
    refine j_iload_n X rfl d_M_fetch_15 ?_
    refine j_if_ne X (by omega) d_M_fetch_16 (tgt := 31) rfl (fun h16 => ?_) (fun h16 => ?_)
    · skip
      refine j_iconst X d_M_fetch_31 ?_
      refine v_M_53 X hz (c_M_throwing (zl z) E σ _ _ (by decide) (by decide)) rfl rfl rfl (Nat.le_of_ble_eq_true rfl) ⟨Nat.le_refl _, Nat.le_refl _⟩ d_M_fetch_32 ?_
      refine j_ifz X d_M_fetch_35 (tgt := 40) rfl (fun h => absurd (by decide) h) (fun _ => ?_)
      refine j_iconst X d_M_fetch_38 ?_
      exact j_iret X Y (Nat.le_refl _) (Nat.le_refl _) d_M_fetch_39 ⟨rfl, rfl⟩
    · exact absurd h16 (by omega)

set_option maxRecDepth 100000 in
set_option maxHeartbeats 4000000 in
theorem c_M_fetchX2 (l : Launch) (E : eT) (σ : St) (f : Int → Int) (a key : Int) (ho : ∀ t, 0 ≤ t → t < 32 → σ 25 0 t = f t + 1) (hf : ∀ t, -1 ≤ f t ∧ f t ≤ 5) (ra : 0 ≤ a ∧ a ≤ 5) (h1 : ¬ 0 < cnO f a 32) : FCon l E y_M_fetch ws_M_fetch 3 [.ref (E.2.2.2 18 0), .int (iI a), .int (iI key)] σ (some (.int (iI 0))) (up σ 18 0 0 2) := by
  refine con_of (cc := b_M_fetch) (nL := 9) (ret := (some .int)) (by decide) (Nat.le_of_ble_eq_true rfl) (fun z X Y hn => ?_)
  have X : Cx E z b_M_fetch R_M := X
  have hz := Y.2.1
  change J E z 0 0 0 [(0, .ref (E.2.2.2 18 0)), (1, .int (iI a)), (2, .int (iI key))] [] (cells E σ)
  have hc := cnO_in f a 32
  refine j_iload_n X rfl d_M_fetch_0 ?_
  refine s_M_192 X hz (c_M_isSet (zl z) E σ a (by omega)) rfl rfl rfl (Nat.le_of_ble_eq_true rfl) ⟨Nat.le_refl _, Nat.le_refl _⟩ d_M_fetch_1 ?_
  refine j_ifnz X d_M_fetch_4 (tgt := 11) rfl (fun h4 => ?_) (fun h4 => ?_)
  · skip
    refine j_iconst X d_M_fetch_11 ?_
    refine j_istore_n X (zlt hn rfl) d_M_fetch_12 ?_
    refine j_aload_n X rfl d_M_fetch_13 ?_
    refine j_iload_n X rfl d_M_fetch_14 ?_
    refine j_iload_n X rfl d_M_fetch_15 ?_
    refine j_if_ne X (by omega) d_M_fetch_16 (tgt := 31) rfl (fun h16 => ?_) (fun h16 => ?_)
    · exact absurd h16 (by omega)
    · skip
      refine j_aload_n X rfl d_M_fetch_19 ?_
      refine j_iload_n X rfl d_M_fetch_20 ?_
      refine v_M_198 X hz (c_M_tracksOf (zl z) E σ f a ho hf ra) rfl rfl rfl (Nat.le_of_ble_eq_true rfl) ⟨Nat.le_refl _, Nat.le_refl _⟩ d_M_fetch_21 ?_
      refine j_if_ne X (by omega) d_M_fetch_24 (tgt := 31) rfl (fun h24 => ?_) (fun h24 => ?_)
      · exact absurd h24 (by omega)
      · skip
        refine j_iconst X d_M_fetch_27 ?_
        refine j_goto X d_M_fetch_28 (tgt := 32) rfl ?_
        refine v_M_53 X hz (c_M_throwing (zl z) E σ _ _ (by decide) (by decide)) rfl rfl rfl (Nat.le_of_ble_eq_true rfl) ⟨Nat.le_refl _, Nat.le_refl _⟩ d_M_fetch_32 ?_
        refine j_ifz X d_M_fetch_35 (tgt := 40) rfl (fun h => absurd (by decide) h) (fun _ => ?_)
        refine j_iconst X d_M_fetch_38 ?_
        exact j_iret X Y (Nat.le_refl _) (Nat.le_refl _) d_M_fetch_39 ⟨rfl, rfl⟩
  · exact absurd h4 (by omega)

set_option maxRecDepth 100000 in
set_option maxHeartbeats 4000000 in
theorem c_M_fetch_n (l : Launch) (E : eT) (σ : St) (f : Int → Int) (a key : Int) (ho : ∀ t, 0 ≤ t → t < 32 → σ 25 0 t = f t + 1) (hf : ∀ t, -1 ≤ f t ∧ f t ≤ 5) (ra : 0 ≤ a ∧ a ≤ 5) (h1 : 0 < cnO f a 32) (hfi : FCon l E y_M_find ws_M_find 2 [.ref (E.2.2.2 18 0), .int (iI a), .int (iI key)] (up σ 18 0 0 0) (some (.int (iI (-1)))) (up σ 18 0 0 0)) : FCon l E y_M_fetch ws_M_fetch 3 [.ref (E.2.2.2 18 0), .int (iI a), .int (iI key)] σ (some (.int (iI (-1)))) (up σ 18 0 0 0) := by
  refine con_of (cc := b_M_fetch) (nL := 9) (ret := (some .int)) (by decide) (Nat.le_of_ble_eq_true rfl) (fun z X Y hn => ?_)
  have X : Cx E z b_M_fetch R_M := X
  have hz := Y.2.1
  change J E z 0 0 0 [(0, .ref (E.2.2.2 18 0)), (1, .int (iI a)), (2, .int (iI key))] [] (cells E σ)
  have hc := cnO_in f a 32
  rw [← Y.1] at hfi
  refine j_iload_n X rfl d_M_fetch_0 ?_
  refine s_M_192 X hz (c_M_isSet (zl z) E σ a (by omega)) rfl rfl rfl (Nat.le_of_ble_eq_true rfl) ⟨Nat.le_refl _, Nat.le_refl _⟩ d_M_fetch_1 ?_
  refine j_ifnz X d_M_fetch_4 (tgt := 11) rfl (fun h4 => ?_) (fun h4 => ?_)
  · skip
    refine j_iconst X d_M_fetch_11 ?_
    refine j_istore_n X (zlt hn rfl) d_M_fetch_12 ?_
    refine j_aload_n X rfl d_M_fetch_13 ?_
    refine j_iload_n X rfl d_M_fetch_14 ?_
    refine j_iload_n X rfl d_M_fetch_15 ?_
    refine j_if_ne X (by omega) d_M_fetch_16 (tgt := 31) rfl (fun h16 => ?_) (fun h16 => ?_)
    · exact absurd h16 (by omega)
    · skip
      refine j_aload_n X rfl d_M_fetch_19 ?_
      refine j_iload_n X rfl d_M_fetch_20 ?_
      refine v_M_198 X hz (c_M_tracksOf (zl z) E σ f a ho hf ra) rfl rfl rfl (Nat.le_of_ble_eq_true rfl) ⟨Nat.le_refl _, Nat.le_refl _⟩ d_M_fetch_21 ?_
      refine j_if_ne X (by omega) d_M_fetch_24 (tgt := 31) rfl (fun h24 => ?_) (fun h24 => ?_)
      · skip
        refine j_iconst X d_M_fetch_31 ?_
        refine v_M_53 X hz (c_M_throwing (zl z) E σ _ _ (by decide) (by decide)) rfl rfl rfl (Nat.le_of_ble_eq_true rfl) ⟨Nat.le_refl _, Nat.le_refl _⟩ d_M_fetch_32 ?_
        refine j_ifz X d_M_fetch_35 (tgt := 40) rfl (fun _ => ?_) (fun h => absurd h (by decide))
        refine j_aload_n X rfl d_M_fetch_40 ?_
        refine j_iload_n X rfl d_M_fetch_41 ?_
        refine j_iload_n X rfl d_M_fetch_42 ?_
        refine v_M_213 X hz (hfi) rfl rfl rfl (Nat.le_of_ble_eq_true rfl) ⟨Nat.le_refl _, Nat.le_refl _⟩ d_M_fetch_43 ?_
        refine j_istore X (zlt hn rfl) d_M_fetch_46 ?_
        refine j_iload X rfl d_M_fetch_48 ?_
        refine j_if_ge X (by omega) d_M_fetch_50 (tgt := 55) rfl (fun h50 => ?_) (fun h50 => ?_)
        · exact absurd h50 (by omega)
        · skip
          refine j_iconst X d_M_fetch_53 ?_
          exact j_iret X Y (Nat.le_refl _) (Nat.le_refl _) d_M_fetch_54 ⟨rfl, rfl⟩
      · exact absurd h24 (by omega)
  · exact absurd h4 (by omega)

set_option maxRecDepth 100000 in
set_option maxHeartbeats 4000000 in
theorem c_M_fetch_s (l : Launch) (E : eT) (σ : St) (f : Int → Int) (a key : Int) (ho : ∀ t, 0 ≤ t → t < 32 → σ 25 0 t = f t + 1) (hf : ∀ t, -1 ≤ f t ∧ f t ≤ 5) (ra : 0 ≤ a ∧ a ≤ 5) (t p : Int) (ht : 0 ≤ t ∧ t < 32) (hp : 0 ≤ p ∧ p ≤ 576) (h1 : 0 < cnO f a 32) (hfi : FCon l E y_M_find ws_M_find 2 [.ref (E.2.2.2 18 0), .int (iI a), .int (iI key)] (up σ 18 0 0 0) (some (.int (iI (600 * t + p)))) (up σ 18 0 0 0)) (e3 : σ 20 0 (600 * t + p + 3) = 1) : FCon l E y_M_fetch ws_M_fetch 3 [.ref (E.2.2.2 18 0), .int (iI a), .int (iI key)] σ (some (.int (iI (-2)))) (up σ 18 0 0 0) := by
  refine con_of (cc := b_M_fetch) (nL := 9) (ret := (some .int)) (by decide) (Nat.le_of_ble_eq_true rfl) (fun z X Y hn => ?_)
  have X : Cx E z b_M_fetch R_M := X
  have hz := Y.2.1
  change J E z 0 0 0 [(0, .ref (E.2.2.2 18 0)), (1, .int (iI a)), (2, .int (iI key))] [] (cells E σ)
  have hc := cnO_in f a 32
  rw [← Y.1] at hfi
  refine j_iload_n X rfl d_M_fetch_0 ?_
  refine s_M_192 X hz (c_M_isSet (zl z) E σ a (by omega)) rfl rfl rfl (Nat.le_of_ble_eq_true rfl) ⟨Nat.le_refl _, Nat.le_refl _⟩ d_M_fetch_1 ?_
  refine j_ifnz X d_M_fetch_4 (tgt := 11) rfl (fun h4 => ?_) (fun h4 => ?_)
  · skip
    refine j_iconst X d_M_fetch_11 ?_
    refine j_istore_n X (zlt hn rfl) d_M_fetch_12 ?_
    refine j_aload_n X rfl d_M_fetch_13 ?_
    refine j_iload_n X rfl d_M_fetch_14 ?_
    refine j_iload_n X rfl d_M_fetch_15 ?_
    refine j_if_ne X (by omega) d_M_fetch_16 (tgt := 31) rfl (fun h16 => ?_) (fun h16 => ?_)
    · exact absurd h16 (by omega)
    · skip
      refine j_aload_n X rfl d_M_fetch_19 ?_
      refine j_iload_n X rfl d_M_fetch_20 ?_
      refine v_M_198 X hz (c_M_tracksOf (zl z) E σ f a ho hf ra) rfl rfl rfl (Nat.le_of_ble_eq_true rfl) ⟨Nat.le_refl _, Nat.le_refl _⟩ d_M_fetch_21 ?_
      refine j_if_ne X (by omega) d_M_fetch_24 (tgt := 31) rfl (fun h24 => ?_) (fun h24 => ?_)
      · skip
        refine j_iconst X d_M_fetch_31 ?_
        refine v_M_53 X hz (c_M_throwing (zl z) E σ _ _ (by decide) (by decide)) rfl rfl rfl (Nat.le_of_ble_eq_true rfl) ⟨Nat.le_refl _, Nat.le_refl _⟩ d_M_fetch_32 ?_
        refine j_ifz X d_M_fetch_35 (tgt := 40) rfl (fun _ => ?_) (fun h => absurd h (by decide))
        refine j_aload_n X rfl d_M_fetch_40 ?_
        refine j_iload_n X rfl d_M_fetch_41 ?_
        refine j_iload_n X rfl d_M_fetch_42 ?_
        refine v_M_213 X hz (hfi) rfl rfl rfl (Nat.le_of_ble_eq_true rfl) ⟨Nat.le_refl _, Nat.le_refl _⟩ d_M_fetch_43 ?_
        refine j_istore X (zlt hn rfl) d_M_fetch_46 ?_
        refine j_iload X rfl d_M_fetch_48 ?_
        refine j_if_ge X (by omega) d_M_fetch_50 (tgt := 55) rfl (fun h50 => ?_) (fun h50 => ?_)
        · skip
          refine j_iload X rfl d_M_fetch_55 ?_
          refine j_sipush X rfl d_M_fetch_57 ?_
          refine j_idiv X (by omega) (by omega) (by omega) (by omega) d_M_fetch_60 ?_
          refine j_topi (congrArg iI (show (600 * t + p) / 600 = t by omega)) ?_
          refine j_istore X (zlt hn rfl) d_M_fetch_61 ?_
          refine j_iload X rfl d_M_fetch_63 ?_
          refine j_sipush X rfl d_M_fetch_65 ?_
          refine j_irem X (by omega) (by omega) (by omega) (by omega) d_M_fetch_68 ?_
          refine j_topi (congrArg iI (show (600 * t + p) % 600 = p by omega)) ?_
          refine j_istore X (zlt hn rfl) d_M_fetch_69 ?_
          refine j_aload_n X rfl d_M_fetch_71 ?_
          refine j_iload X rfl d_M_fetch_72 ?_
          refine j_iload X rfl d_M_fetch_74 ?_
          refine v_M_129 X hz (c_M_isSpoiled (zl z) E (up σ 18 0 0 0) t p (show inR (σ 20 0 (600 * t + p + 3)) by omega) ht (by omega)) rfl rfl rfl (Nat.le_of_ble_eq_true rfl) ⟨Nat.le_refl _, Nat.le_refl _⟩ d_M_fetch_76 ?_
          rw [b2i_t (show up σ 18 0 0 0 20 0 (600 * t + p + 3) = 1 from e3)]
          refine j_if_eq X (by omega) d_M_fetch_79 (tgt := 85) rfl (fun h => absurd h (by omega)) (fun _ => ?_)
          refine j_bipush X rfl d_M_fetch_82 ?_
          exact j_iret X Y (Nat.le_refl _) (Nat.le_refl _) d_M_fetch_84 ⟨rfl, rfl⟩
        · exact absurd h50 (by omega)
      · exact absurd h24 (by omega)
  · exact absurd h4 (by omega)

set_option maxRecDepth 100000 in
set_option maxHeartbeats 4000000 in
theorem c_M_fetch_r (l : Launch) (E : eT) (σ : St) (f : Int → Int) (a key : Int) (ho : ∀ t, 0 ≤ t → t < 32 → σ 25 0 t = f t + 1) (hf : ∀ t, -1 ≤ f t ∧ f t ≤ 5) (ra : 0 ≤ a ∧ a ≤ 5) (t p : Int) (ht : 0 ≤ t ∧ t < 32) (hp : 0 ≤ p ∧ p ≤ 576) (n : Int) (g : Int → Int) (hn0 : 0 ≤ n ∧ n ≤ 60) (hpn : p + 24 + n ≤ 600) (h1 : 0 < cnO f a 32) (hfi : FCon l E y_M_find ws_M_find 2 [.ref (E.2.2.2 18 0), .int (iI a), .int (iI key)] (up σ 18 0 0 0) (some (.int (iI (600 * t + p)))) (up σ 18 0 0 0)) (e3 : σ 20 0 (600 * t + p + 3) = 0) (e2 : σ 20 0 (600 * t + p + 2) = n) (hg : ∀ i, 0 ≤ i → i < n → σ 20 0 (600 * t + p + 20 + (4 + i)) % 256 = g i) : FCon l E y_M_fetch ws_M_fetch 3 [.ref (E.2.2.2 18 0), .int (iI a), .int (iI key)] σ (some (.int (iI n))) (fiS (up σ 18 0 0 0) 21 0 g n) := by
  refine con_of (cc := b_M_fetch) (nL := 9) (ret := (some .int)) (by decide) (Nat.le_of_ble_eq_true rfl) (fun z X Y hn => ?_)
  have X : Cx E z b_M_fetch R_M := X
  have hz := Y.2.1
  change J E z 0 0 0 [(0, .ref (E.2.2.2 18 0)), (1, .int (iI a)), (2, .int (iI key))] [] (cells E σ)
  have hc := cnO_in f a 32
  rw [← Y.1] at hfi
  refine j_iload_n X rfl d_M_fetch_0 ?_
  refine s_M_192 X hz (c_M_isSet (zl z) E σ a (by omega)) rfl rfl rfl (Nat.le_of_ble_eq_true rfl) ⟨Nat.le_refl _, Nat.le_refl _⟩ d_M_fetch_1 ?_
  refine j_ifnz X d_M_fetch_4 (tgt := 11) rfl (fun h4 => ?_) (fun h4 => ?_)
  · skip
    refine j_iconst X d_M_fetch_11 ?_
    refine j_istore_n X (zlt hn rfl) d_M_fetch_12 ?_
    refine j_aload_n X rfl d_M_fetch_13 ?_
    refine j_iload_n X rfl d_M_fetch_14 ?_
    refine j_iload_n X rfl d_M_fetch_15 ?_
    refine j_if_ne X (by omega) d_M_fetch_16 (tgt := 31) rfl (fun h16 => ?_) (fun h16 => ?_)
    · exact absurd h16 (by omega)
    · skip
      refine j_aload_n X rfl d_M_fetch_19 ?_
      refine j_iload_n X rfl d_M_fetch_20 ?_
      refine v_M_198 X hz (c_M_tracksOf (zl z) E σ f a ho hf ra) rfl rfl rfl (Nat.le_of_ble_eq_true rfl) ⟨Nat.le_refl _, Nat.le_refl _⟩ d_M_fetch_21 ?_
      refine j_if_ne X (by omega) d_M_fetch_24 (tgt := 31) rfl (fun h24 => ?_) (fun h24 => ?_)
      · skip
        refine j_iconst X d_M_fetch_31 ?_
        refine v_M_53 X hz (c_M_throwing (zl z) E σ _ _ (by decide) (by decide)) rfl rfl rfl (Nat.le_of_ble_eq_true rfl) ⟨Nat.le_refl _, Nat.le_refl _⟩ d_M_fetch_32 ?_
        refine j_ifz X d_M_fetch_35 (tgt := 40) rfl (fun _ => ?_) (fun h => absurd h (by decide))
        refine j_aload_n X rfl d_M_fetch_40 ?_
        refine j_iload_n X rfl d_M_fetch_41 ?_
        refine j_iload_n X rfl d_M_fetch_42 ?_
        refine v_M_213 X hz (hfi) rfl rfl rfl (Nat.le_of_ble_eq_true rfl) ⟨Nat.le_refl _, Nat.le_refl _⟩ d_M_fetch_43 ?_
        refine j_istore X (zlt hn rfl) d_M_fetch_46 ?_
        refine j_iload X rfl d_M_fetch_48 ?_
        refine j_if_ge X (by omega) d_M_fetch_50 (tgt := 55) rfl (fun h50 => ?_) (fun h50 => ?_)
        · skip
          refine j_iload X rfl d_M_fetch_55 ?_
          refine j_sipush X rfl d_M_fetch_57 ?_
          refine j_idiv X (by omega) (by omega) (by omega) (by omega) d_M_fetch_60 ?_
          refine j_topi (congrArg iI (show (600 * t + p) / 600 = t by omega)) ?_
          refine j_istore X (zlt hn rfl) d_M_fetch_61 ?_
          refine j_iload X rfl d_M_fetch_63 ?_
          refine j_sipush X rfl d_M_fetch_65 ?_
          refine j_irem X (by omega) (by omega) (by omega) (by omega) d_M_fetch_68 ?_
          refine j_topi (congrArg iI (show (600 * t + p) % 600 = p by omega)) ?_
          refine j_istore X (zlt hn rfl) d_M_fetch_69 ?_
          refine j_aload_n X rfl d_M_fetch_71 ?_
          refine j_iload X rfl d_M_fetch_72 ?_
          refine j_iload X rfl d_M_fetch_74 ?_
          refine v_M_129 X hz (c_M_isSpoiled (zl z) E (up σ 18 0 0 0) t p (show inR (σ 20 0 (600 * t + p + 3)) by omega) ht (by omega)) rfl rfl rfl (Nat.le_of_ble_eq_true rfl) ⟨Nat.le_refl _, Nat.le_refl _⟩ d_M_fetch_76 ?_
          rw [b2i_f (show ¬ up σ 18 0 0 0 20 0 (600 * t + p + 3) = 1 from fun q => by have q' : σ 20 0 (600 * t + p + 3) = 1 := q; omega)]
          refine j_if_eq X (by omega) d_M_fetch_79 (tgt := 85) rfl (fun _ => ?_) (fun h => absurd h (by omega))
          refine j_aload_n X rfl d_M_fetch_85 ?_
          refine j_iload X rfl d_M_fetch_86 ?_
          refine j_iload X rfl d_M_fetch_88 ?_
          refine v_M_40 X hz (c_M_dataOf (zl z) E (up σ 18 0 0 0) t p ht (by omega)) rfl rfl rfl (Nat.le_of_ble_eq_true rfl) ⟨Nat.le_refl _, Nat.le_refl _⟩ d_M_fetch_90 ?_
          refine j_topi (congrArg iI e2) ?_
          refine j_istore X (zlt hn rfl) d_M_fetch_93 ?_
          refine j_iconst X d_M_fetch_95 ?_
          refine j_istore X (zlt hn rfl) d_M_fetch_96 ?_
          have kyl : ∀ i : Int, (0 ≤ i ∧ i ≤ n) → J E z 0 0 98 [(0, .ref (E.2.2.2 18 0)), (1, .int (iI a)), (2, .int (iI key)), (3, .int (iI 0)), (4, .int (iI (600 * t + p))), (5, .int (iI t)), (6, .int (iI p)), (7, .int (iI n)), (8, .int (iI i))] [] (cells E (fiS (up σ 18 0 0 0) 21 0 g i)) := by
            refine j_loop (fun i : Int => (n - i).toNat) _ _ (fun i hi ih => ?_)
            refine j_iload X rfl d_M_fetch_98 ?_
            refine j_iload X rfl d_M_fetch_100 ?_
            refine j_icmp_ge X (by omega) (by omega) d_M_fetch_102 (tgt := 130) rfl (fun h102 => ?_) (fun h102 => ?_)
            · skip
              refine j_iload X rfl d_M_fetch_130 ?_
              exact j_iret X Y (Nat.le_refl _) (Nat.le_refl _) d_M_fetch_132 ⟨rfl, by rw [show i = n by omega]⟩
            · skip
              refine j_aload_n X rfl d_M_fetch_105 ?_
              refine g_M_16 X d_M_fetch_106 ?_
              refine j_iload X rfl d_M_fetch_109 ?_
              refine j_aload_n X rfl d_M_fetch_111 ?_
              refine j_iload X rfl d_M_fetch_112 ?_
              refine j_iload X rfl d_M_fetch_114 ?_
              refine j_iconst X d_M_fetch_116 ?_
              refine j_iload X rfl d_M_fetch_117 ?_
              refine j_iadd X d_M_fetch_119 ?_
              refine v_M_103 X hz (c_M_byteAt (zl z) E (fiS (up σ 18 0 0 0) 21 0 g i) t p (4 + i) ht (by omega)) rfl rfl rfl (Nat.le_of_ble_eq_true rfl) ⟨Nat.le_refl _, Nat.le_refl _⟩ d_M_fetch_120 ?_
              refine j_topi (congrArg iI (hg i hi.1 (by omega))) ?_
              refine j_iast X (by first | exact okC1 rfl | exact (okCT rfl (by omega))) (fun _ => rfl) rfl (by omega) d_M_fetch_123 ?_
              refine j_iinc X rfl (zlt hn rfl) d_M_fetch_124 ?_
              refine j_goto X d_M_fetch_127 (tgt := 98) rfl ?_
              have e := fi_s (σ := (up σ 18 0 0 0)) (k := 21) (a := 0) (f := g) hi.1 rfl; rw [Int.zero_add] at e; rw [e]; exact ih (i + 1) (by omega) (by omega)
          have := kyl 0 (by omega); rw [fi_0] at this; exact this
        · exact absurd h50 (by omega)
      · exact absurd h24 (by omega)
  · exact absurd h4 (by omega)
