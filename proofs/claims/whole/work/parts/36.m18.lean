/-! the model: transfers, writing, what may begin -/
def fiS (σ : St) (k : Nat) (a : Int) (f : Int → Int) (n : Int) : St := upF σ k 0 (fun j => if a ≤ j ∧ j < a + n then f (j - a) else σ k 0 j)
theorem fi_k (σ : St) (k : Nat) (a : Int) (f : Int → Int) (n j : Int) : fiS σ k a f n k 0 j = if a ≤ j ∧ j < a + n then f (j - a) else σ k 0 j := by unfold fiS; rw [upF_eq, if_pos ⟨rfl, rfl⟩]
theorem fi_0 (σ : St) (k : Nat) (a : Int) (f : Int → Int) : fiS σ k a f 0 = σ := by
  apply st_ext
  intro k' t j
  unfold fiS
  rw [upF_eq]
  split
  · next h => rw [if_neg (by omega), h.1, h.2]
  · rfl
theorem fi_s {σ : St} {k : Nat} {a : Int} {f : Int → Int} {i v : Int} (hi : 0 ≤ i) (hv : v = f i) : up (fiS σ k a f i) k 0 (a + i) v = fiS σ k a f (i + 1) := by
  apply st_ext
  intro k' t j
  rw [up_eq]
  by_cases hk : k' = k ∧ t = 0
  · obtain ⟨rfl, rfl⟩ := hk
    rw [fi_k, fi_k]
    by_cases hj : j = a + i
    · rw [if_pos ⟨rfl, rfl, hj⟩, if_pos (by omega), hv, hj, show a + i - a = i by omega]
    · rw [if_neg (fun q => hj q.2.2)]
      by_cases h1 : a ≤ j ∧ j < a + i
      · rw [if_pos h1, if_pos (by omega)]
      · rw [if_neg h1, if_neg (by omega)]
  · rw [if_neg (fun q => hk ⟨q.1, q.2.1⟩)]
    unfold fiS
    rw [upF_eq, upF_eq, if_neg hk, if_neg hk]
theorem kc_fi (σ : St) {k : Nat} (a : Int) (f : Int → Int) (n : Int) (hk : 18 ≤ k ∧ k < 26) : KC σ (fiS σ k a f n) := kc_F σ 0 _ hk
/-- residual and count behind a transfer -/
def trS (ρ : St) (r : Int) : St := up (up ρ 18 0 17 (ρ 18 0 17 + 1)) 18 0 13 r

set_option maxRecDepth 100000 in
set_option maxHeartbeats 4000000 in
theorem c_M_transfer6h (l : Launch) (E : eT) (σ ρ : St) (a b t q kl dl sd : Int) (f : Int → Int) (e11 : σ 18 0 11 = sd) (rsd : inR sd) (hsd : sd = 1) (hor : FCon l E y_M_orient ws_M_orient 3 [.ref (E.2.2.2 18 0), .int (iI 2)] σ none ρ) (e9 : ρ 18 0 9 = t) (ht : 0 ≤ t ∧ t < 32) (e10 : ρ 18 0 10 = q) (hq : 0 ≤ q ∧ q ≤ 580) (e1 : ρ 20 0 (600 * t + q + 1) = kl) (e2 : ρ 20 0 (600 * t + q + 2) = dl) (hkl : 0 ≤ kl ∧ kl ≤ 8) (hdl : 0 ≤ dl ∧ dl ≤ 60) (he : q + 20 + kl + dl ≤ 600) (ha : 0 ≤ a ∧ a + b ≤ 256) (hb : 0 ≤ b ∧ b ≤ 60) (hf : ∀ i, 0 ≤ i → i < kl → ρ 20 0 (600 * t + q + 20 + (0 + i)) % 256 = f i) : FCon l E y_M_transfer ws_M_transfer 5 [.ref (E.2.2.2 18 0), .int (iI 6), .int (iI a), .int (iI b)] σ none (up (fiS (trS ρ (b - kl)) 21 a f (if kl < b then kl else b)) 18 0 18 (if b - kl < 0 then 3 else 0)) := by
  refine con_of (cc := b_M_transfer) (nL := 9) (ret := none) (by decide) (Nat.le_of_ble_eq_true rfl) (fun z X Y hn => ?_)
  have X : Cx E z b_M_transfer R_M := X
  have hz := Y.2.1
  change J E z 0 0 0 [(0, .ref (E.2.2.2 18 0)), (1, .int (iI 6)), (2, .int (iI a)), (3, .int (iI b))] [] (cells E σ)
  rw [← Y.1] at hor
  refine j_iload_n X rfl d_M_transfer_0 ?_
  refine j_bipush X rfl d_M_transfer_1 ?_
  refine j_icmp_ne X (by omega) (by omega) d_M_transfer_3 (tgt := 10) rfl (fun h3 => ?_) (fun h3 => ?_)
  · exact absurd h3 (by omega)
  · skip
    refine j_iconst X d_M_transfer_6 ?_
    refine j_goto X d_M_transfer_7 (tgt := 11) rfl ?_
    refine j_istore X (zlt hn rfl) d_M_transfer_11 ?_
    refine j_iload X rfl d_M_transfer_13 ?_
    refine j_if_eq X (by omega) d_M_transfer_15 (tgt := 34) rfl (fun h15 => ?_) (fun h15 => ?_)
    · exact absurd h15 (by omega)
    · skip
      refine j_aload_n X rfl d_M_transfer_18 ?_
      refine g_M_94 X d_M_transfer_19 ?_
      refine j_topi (congrArg iI e11) ?_
      refine j_iconst X d_M_transfer_22 ?_
      refine j_icmp_ne X (by omega) (by omega) d_M_transfer_23 (tgt := 30) rfl (fun h23 => ?_) (fun h23 => ?_)
      · exact absurd h23 (by omega)
      · skip
        refine j_iconst X d_M_transfer_26 ?_
        refine j_goto X d_M_transfer_27 (tgt := 55) rfl ?_
        refine j_istore X (zlt hn rfl) d_M_transfer_55 ?_
        refine j_iload X rfl d_M_transfer_57 ?_
        refine j_if_ne X (by omega) d_M_transfer_59 (tgt := 70) rfl (fun h59 => ?_) (fun h59 => ?_)
        · skip
          refine j_aload_n X rfl d_M_transfer_70 ?_
          refine j_iload X rfl d_M_transfer_71 ?_
          refine j_if_eq X (by omega) d_M_transfer_73 (tgt := 80) rfl (fun h73 => ?_) (fun h73 => ?_)
          · exact absurd h73 (by omega)
          · skip
            refine j_iconst X d_M_transfer_76 ?_
            refine j_goto X d_M_transfer_77 (tgt := 81) rfl ?_
            refine v_M_111 X hz (hor) rfl rfl rfl (Nat.le_of_ble_eq_true rfl) ⟨Nat.le_refl _, Nat.le_refl _⟩ d_M_transfer_81 ?_
            refine j_aload_n X rfl d_M_transfer_84 ?_
            refine j_dup X rfl d_M_transfer_85 ?_
            refine g_M_123 X d_M_transfer_86 ?_
            refine j_iconst X d_M_transfer_89 ?_
            refine j_iadd X d_M_transfer_90 ?_
            refine p_M_123 X d_M_transfer_91 ?_
            refine j_iload X rfl d_M_transfer_94 ?_
            refine j_if_eq X (by omega) d_M_transfer_96 (tgt := 114) rfl (fun h96 => ?_) (fun h96 => ?_)
            · exact absurd h96 (by omega)
            · skip
              refine j_aload_n X rfl d_M_transfer_99 ?_
              refine j_aload_n X rfl d_M_transfer_100 ?_
              refine g_M_80 X d_M_transfer_101 ?_
              refine j_topi (congrArg iI e9) ?_
              refine j_aload_n X rfl d_M_transfer_104 ?_
              refine g_M_97 X d_M_transfer_105 ?_
              refine j_topi (congrArg iI e10) ?_
              refine v_M_36 X hz (c_M_keyOf (zl z) E (up ρ 18 0 17 (ρ 18 0 17 + 1)) t q ht hq) rfl rfl rfl (Nat.le_of_ble_eq_true rfl) ⟨Nat.le_refl _, Nat.le_refl _⟩ d_M_transfer_108 ?_
              refine j_topi (congrArg iI e1) ?_
              refine j_goto X d_M_transfer_111 (tgt := 126) rfl ?_
              refine j_istore X (zlt hn rfl) d_M_transfer_126 ?_
              refine j_iload X rfl d_M_transfer_128 ?_
              refine j_if_eq X (by omega) d_M_transfer_130 (tgt := 137) rfl (fun h130 => ?_) (fun h130 => ?_)
              · exact absurd h130 (by omega)
              · skip
                refine j_iconst X d_M_transfer_133 ?_
                refine j_goto X d_M_transfer_134 (tgt := 149) rfl ?_
                refine j_istore X (zlt hn rfl) d_M_transfer_149 ?_
                refine j_aload_n X rfl d_M_transfer_151 ?_
                refine j_iload_n X rfl d_M_transfer_152 ?_
                refine j_iload X rfl d_M_transfer_153 ?_
                refine j_isub X d_M_transfer_155 ?_
                refine p_M_126 X d_M_transfer_156 ?_
                refine j_iload_n X rfl d_M_transfer_159 ?_
                refine j_bipush X rfl d_M_transfer_160 ?_
                refine j_icmp_ne X (by omega) (by omega) d_M_transfer_162 (tgt := 191) rfl (fun h162 => ?_) (fun h162 => ?_)
                · skip
                  refine j_iload_n X rfl d_M_transfer_191 ?_
                  refine j_bipush X rfl d_M_transfer_192 ?_
                  refine j_icmp_ne X (by omega) (by omega) d_M_transfer_194 (tgt := 280) rfl (fun h194 => ?_) (fun h194 => ?_)
                  · skip
                    refine j_iconst X d_M_transfer_280 ?_
                    refine j_istore X (zlt hn rfl) d_M_transfer_281 ?_
                    have kyl : ∀ i : Int, (0 ≤ i ∧ i ≤ kl ∧ i ≤ b) → J E z 0 0 283 [(0, .ref (E.2.2.2 18 0)), (1, .int (iI 6)), (2, .int (iI a)), (3, .int (iI b)), (4, .int (iI 1)), (5, .int (iI 1)), (6, .int (iI kl)), (7, .int (iI 0)), (8, .int (iI i))] [] (cells E (fiS (trS ρ (b - kl)) 21 a f i)) := by
                      refine j_loop (fun i : Int => (b - i).toNat) _ _ (fun i hi ih => ?_)
                      refine j_iload X rfl d_M_transfer_283 ?_
                      refine j_iload X rfl d_M_transfer_285 ?_
                      refine j_icmp_ge X (by omega) (by omega) d_M_transfer_287 (tgt := 328) rfl (fun h287 => ?_) (fun h287 => ?_)
                      · skip
                        refine j_aload_n X rfl d_M_transfer_328 ?_
                        refine j_aload_n X rfl d_M_transfer_329 ?_
                        refine g_M_126 X d_M_transfer_330 ?_
                        refine j_topi (congrArg iI (show fiS (trS ρ (b - kl)) 21 a f i 18 0 13 = b - kl from rfl)) ?_
                        refine j_if_ge X (by omega) d_M_transfer_333 (tgt := 340) rfl (fun h333 => ?_) (fun h333 => ?_)
                        · skip
                          refine j_iconst X d_M_transfer_340 ?_
                          refine p_M_91 X d_M_transfer_341 ?_
                          exact j_vret X Y (Nat.le_refl _) (Nat.le_refl _) d_M_transfer_344 ⟨rfl, by rw [if_neg (show ¬ b - kl < 0 by omega), show i = (if kl < b then kl else b) by split <;> omega]⟩
                        · skip
                          refine j_iconst X d_M_transfer_336 ?_
                          refine j_goto X d_M_transfer_337 (tgt := 341) rfl ?_
                          refine p_M_91 X d_M_transfer_341 ?_
                          exact j_vret X Y (Nat.le_refl _) (Nat.le_refl _) d_M_transfer_344 ⟨rfl, by rw [if_pos (show b - kl < 0 by omega), show i = (if kl < b then kl else b) by split <;> omega]⟩
                      · skip
                        refine j_iload X rfl d_M_transfer_290 ?_
                        refine j_iload_n X rfl d_M_transfer_292 ?_
                        refine j_icmp_ge X (by omega) (by omega) d_M_transfer_293 (tgt := 328) rfl (fun h293 => ?_) (fun h293 => ?_)
                        · skip
                          refine j_aload_n X rfl d_M_transfer_328 ?_
                          refine j_aload_n X rfl d_M_transfer_329 ?_
                          refine g_M_126 X d_M_transfer_330 ?_
                          refine j_topi (congrArg iI (show fiS (trS ρ (b - kl)) 21 a f i 18 0 13 = b - kl from rfl)) ?_
                          refine j_if_ge X (by omega) d_M_transfer_333 (tgt := 340) rfl (fun h333 => ?_) (fun h333 => ?_)
                          · skip
                            refine j_iconst X d_M_transfer_340 ?_
                            refine p_M_91 X d_M_transfer_341 ?_
                            exact j_vret X Y (Nat.le_refl _) (Nat.le_refl _) d_M_transfer_344 ⟨rfl, by rw [if_neg (show ¬ b - kl < 0 by omega), show i = (if kl < b then kl else b) by split <;> omega]⟩
                          · skip
                            refine j_iconst X d_M_transfer_336 ?_
                            refine j_goto X d_M_transfer_337 (tgt := 341) rfl ?_
                            refine p_M_91 X d_M_transfer_341 ?_
                            exact j_vret X Y (Nat.le_refl _) (Nat.le_refl _) d_M_transfer_344 ⟨rfl, by rw [if_pos (show b - kl < 0 by omega), show i = (if kl < b then kl else b) by split <;> omega]⟩
                        · skip
                          refine j_aload_n X rfl d_M_transfer_296 ?_
                          refine g_M_16 X d_M_transfer_297 ?_
                          refine j_iload_n X rfl d_M_transfer_300 ?_
                          refine j_iload X rfl d_M_transfer_301 ?_
                          refine j_iadd X d_M_transfer_303 ?_
                          refine j_aload_n X rfl d_M_transfer_304 ?_
                          refine j_aload_n X rfl d_M_transfer_305 ?_
                          refine g_M_80 X d_M_transfer_306 ?_
                          refine j_topi (congrArg iI e9) ?_
                          refine j_aload_n X rfl d_M_transfer_309 ?_
                          refine g_M_97 X d_M_transfer_310 ?_
                          refine j_topi (congrArg iI e10) ?_
                          refine j_iload X rfl d_M_transfer_313 ?_
                          refine j_iload X rfl d_M_transfer_315 ?_
                          refine j_iadd X d_M_transfer_317 ?_
                          refine v_M_103 X hz (c_M_byteAt (zl z) E (fiS (trS ρ (b - kl)) 21 a f i) t q (0 + i) ht (by omega)) rfl rfl rfl (Nat.le_of_ble_eq_true rfl) ⟨Nat.le_refl _, Nat.le_refl _⟩ d_M_transfer_318 ?_
                          refine j_topi (congrArg iI (hf i hi.1 h287)) ?_
                          refine j_iast X (by first | exact okC1 rfl | exact (okCT rfl (by omega))) (fun _ => rfl) rfl (by omega) d_M_transfer_321 ?_
                          refine j_iinc X rfl (zlt hn rfl) d_M_transfer_322 ?_
                          refine j_goto X d_M_transfer_325 (tgt := 283) rfl ?_
                          rw [fi_s (v := f i) hi.1 rfl]; exact ih (i + 1) (by omega) (by omega)
                    have := kyl 0 (by omega); rw [fi_0] at this; exact this
                  · exact absurd h194 (by omega)
                · exact absurd h162 (by omega)
        · exact absurd h59 (by omega)

set_option maxRecDepth 100000 in
set_option maxHeartbeats 4000000 in
theorem c_M_transfer7hs (l : Launch) (E : eT) (σ ρ : St) (a b t q kl dl sd : Int) (e11 : σ 18 0 11 = sd) (rsd : inR sd) (hsd : sd = 1 ∨ sd = 2) (hor : FCon l E y_M_orient ws_M_orient 3 [.ref (E.2.2.2 18 0), .int (iI 3)] σ none ρ) (e9 : ρ 18 0 9 = t) (ht : 0 ≤ t ∧ t < 32) (e10 : ρ 18 0 10 = q) (hq : 0 ≤ q ∧ q ≤ 580) (e1 : ρ 20 0 (600 * t + q + 1) = kl) (e2 : ρ 20 0 (600 * t + q + 2) = dl) (hkl : 0 ≤ kl ∧ kl ≤ 8) (hdl : 0 ≤ dl ∧ dl ≤ 60) (he : q + 20 + kl + dl ≤ 600) (ha : 0 ≤ a ∧ a + b ≤ 256) (hb : 0 ≤ b ∧ b ≤ 60) (r3 : inR (ρ 20 0 (600 * t + q + 3))) (hsp : ρ 20 0 (600 * t + q + 3) = 1) : FCon l E y_M_transfer ws_M_transfer 5 [.ref (E.2.2.2 18 0), .int (iI 7), .int (iI a), .int (iI b)] σ none (up (up (trS ρ (b - dl)) 18 0 13 b) 18 0 18 4) := by
  refine con_of (cc := b_M_transfer) (nL := 9) (ret := none) (by decide) (Nat.le_of_ble_eq_true rfl) (fun z X Y hn => ?_)
  have X : Cx E z b_M_transfer R_M := X
  have hz := Y.2.1
  change J E z 0 0 0 [(0, .ref (E.2.2.2 18 0)), (1, .int (iI 7)), (2, .int (iI a)), (3, .int (iI b))] [] (cells E σ)
  rw [← Y.1] at hor
  refine j_iload_n X rfl d_M_transfer_0 ?_
  refine j_bipush X rfl d_M_transfer_1 ?_
  refine j_icmp_ne X (by omega) (by omega) d_M_transfer_3 (tgt := 10) rfl (fun h3 => ?_) (fun h3 => ?_)
  · skip
    refine j_iconst X d_M_transfer_10 ?_
    refine j_istore X (zlt hn rfl) d_M_transfer_11 ?_
    refine j_iload X rfl d_M_transfer_13 ?_
    refine j_if_eq X (by omega) d_M_transfer_15 (tgt := 34) rfl (fun h15 => ?_) (fun h15 => ?_)
    · skip
      refine j_aload_n X rfl d_M_transfer_34 ?_
      refine g_M_94 X d_M_transfer_35 ?_
      refine j_topi (congrArg iI e11) ?_
      refine j_iconst X d_M_transfer_38 ?_
      refine j_icmp_eq X (by omega) (by omega) d_M_transfer_39 (tgt := 50) rfl (fun h39 => ?_) (fun h39 => ?_)
      · skip
        refine j_iconst X d_M_transfer_50 ?_
        refine j_goto X d_M_transfer_51 (tgt := 55) rfl ?_
        refine j_istore X (zlt hn rfl) d_M_transfer_55 ?_
        refine j_iload X rfl d_M_transfer_57 ?_
        refine j_if_ne X (by omega) d_M_transfer_59 (tgt := 70) rfl (fun h59 => ?_) (fun h59 => ?_)
        · skip
          refine j_aload_n X rfl d_M_transfer_70 ?_
          refine j_iload X rfl d_M_transfer_71 ?_
          refine j_if_eq X (by omega) d_M_transfer_73 (tgt := 80) rfl (fun h73 => ?_) (fun h73 => ?_)
          · skip
            refine j_iconst X d_M_transfer_80 ?_
            refine v_M_111 X hz (hor) rfl rfl rfl (Nat.le_of_ble_eq_true rfl) ⟨Nat.le_refl _, Nat.le_refl _⟩ d_M_transfer_81 ?_
            refine j_aload_n X rfl d_M_transfer_84 ?_
            refine j_dup X rfl d_M_transfer_85 ?_
            refine g_M_123 X d_M_transfer_86 ?_
            refine j_iconst X d_M_transfer_89 ?_
            refine j_iadd X d_M_transfer_90 ?_
            refine p_M_123 X d_M_transfer_91 ?_
            refine j_iload X rfl d_M_transfer_94 ?_
            refine j_if_eq X (by omega) d_M_transfer_96 (tgt := 114) rfl (fun h96 => ?_) (fun h96 => ?_)
            · skip
              refine j_aload_n X rfl d_M_transfer_114 ?_
              refine j_aload_n X rfl d_M_transfer_115 ?_
              refine g_M_80 X d_M_transfer_116 ?_
              refine j_topi (congrArg iI e9) ?_
              refine j_aload_n X rfl d_M_transfer_119 ?_
              refine g_M_97 X d_M_transfer_120 ?_
              refine j_topi (congrArg iI e10) ?_
              refine v_M_40 X hz (c_M_dataOf (zl z) E (up ρ 18 0 17 (ρ 18 0 17 + 1)) t q ht hq) rfl rfl rfl (Nat.le_of_ble_eq_true rfl) ⟨Nat.le_refl _, Nat.le_refl _⟩ d_M_transfer_123 ?_
              refine j_topi (congrArg iI e2) ?_
              refine j_istore X (zlt hn rfl) d_M_transfer_126 ?_
              refine j_iload X rfl d_M_transfer_128 ?_
              refine j_if_eq X (by omega) d_M_transfer_130 (tgt := 137) rfl (fun h130 => ?_) (fun h130 => ?_)
              · skip
                refine j_aload_n X rfl d_M_transfer_137 ?_
                refine j_aload_n X rfl d_M_transfer_138 ?_
                refine g_M_80 X d_M_transfer_139 ?_
                refine j_topi (congrArg iI e9) ?_
                refine j_aload_n X rfl d_M_transfer_142 ?_
                refine g_M_97 X d_M_transfer_143 ?_
                refine j_topi (congrArg iI e10) ?_
                refine v_M_36 X hz (c_M_keyOf (zl z) E (up ρ 18 0 17 (ρ 18 0 17 + 1)) t q ht hq) rfl rfl rfl (Nat.le_of_ble_eq_true rfl) ⟨Nat.le_refl _, Nat.le_refl _⟩ d_M_transfer_146 ?_
                refine j_topi (congrArg iI e1) ?_
                refine j_istore X (zlt hn rfl) d_M_transfer_149 ?_
                refine j_aload_n X rfl d_M_transfer_151 ?_
                refine j_iload_n X rfl d_M_transfer_152 ?_
                refine j_iload X rfl d_M_transfer_153 ?_
                refine j_isub X d_M_transfer_155 ?_
                refine p_M_126 X d_M_transfer_156 ?_
                refine j_iload_n X rfl d_M_transfer_159 ?_
                refine j_bipush X rfl d_M_transfer_160 ?_
                refine j_icmp_ne X (by omega) (by omega) d_M_transfer_162 (tgt := 191) rfl (fun h162 => ?_) (fun h162 => ?_)
                · exact absurd h162 (by omega)
                · skip
                  refine j_aload_n X rfl d_M_transfer_165 ?_
                  refine j_aload_n X rfl d_M_transfer_166 ?_
                  refine g_M_80 X d_M_transfer_167 ?_
                  refine j_topi (congrArg iI e9) ?_
                  refine j_aload_n X rfl d_M_transfer_170 ?_
                  refine g_M_97 X d_M_transfer_171 ?_
                  refine j_topi (congrArg iI e10) ?_
                  refine v_M_129 X hz (c_M_isSpoiled (zl z) E (trS ρ (b - dl)) t q r3 ht hq) rfl rfl rfl (Nat.le_of_ble_eq_true rfl) ⟨Nat.le_refl _, Nat.le_refl _⟩ d_M_transfer_174 ?_
                  refine j_ifz X d_M_transfer_177 (tgt := 191) rfl (fun h => absurd hsp h) (fun _ => ?_)
                  refine j_aload_n X rfl d_M_transfer_180 ?_
                  refine j_iload_n X rfl d_M_transfer_181 ?_
                  refine p_M_126 X d_M_transfer_182 ?_
                  refine j_aload_n X rfl d_M_transfer_185 ?_
                  refine j_iconst X d_M_transfer_186 ?_
                  refine p_M_91 X d_M_transfer_187 ?_
                  exact j_vret X Y (Nat.le_refl _) (Nat.le_refl _) d_M_transfer_190 ⟨rfl, rfl⟩
              · exact absurd h130 (by omega)
            · exact absurd h96 (by omega)
          · exact absurd h73 (by omega)
        · exact absurd h59 (by omega)
      · skip
        refine j_aload_n X rfl d_M_transfer_42 ?_
        refine g_M_94 X d_M_transfer_43 ?_
        refine j_topi (congrArg iI e11) ?_
        refine j_iconst X d_M_transfer_46 ?_
        refine j_icmp_ne X (by omega) (by omega) d_M_transfer_47 (tgt := 54) rfl (fun h47 => ?_) (fun h47 => ?_)
        · exact absurd h47 (by omega)
        · skip
          refine j_iconst X d_M_transfer_50 ?_
          refine j_goto X d_M_transfer_51 (tgt := 55) rfl ?_
          refine j_istore X (zlt hn rfl) d_M_transfer_55 ?_
          refine j_iload X rfl d_M_transfer_57 ?_
          refine j_if_ne X (by omega) d_M_transfer_59 (tgt := 70) rfl (fun h59 => ?_) (fun h59 => ?_)
          · skip
            refine j_aload_n X rfl d_M_transfer_70 ?_
            refine j_iload X rfl d_M_transfer_71 ?_
            refine j_if_eq X (by omega) d_M_transfer_73 (tgt := 80) rfl (fun h73 => ?_) (fun h73 => ?_)
            · skip
              refine j_iconst X d_M_transfer_80 ?_
              refine v_M_111 X hz (hor) rfl rfl rfl (Nat.le_of_ble_eq_true rfl) ⟨Nat.le_refl _, Nat.le_refl _⟩ d_M_transfer_81 ?_
              refine j_aload_n X rfl d_M_transfer_84 ?_
              refine j_dup X rfl d_M_transfer_85 ?_
              refine g_M_123 X d_M_transfer_86 ?_
              refine j_iconst X d_M_transfer_89 ?_
              refine j_iadd X d_M_transfer_90 ?_
              refine p_M_123 X d_M_transfer_91 ?_
              refine j_iload X rfl d_M_transfer_94 ?_
              refine j_if_eq X (by omega) d_M_transfer_96 (tgt := 114) rfl (fun h96 => ?_) (fun h96 => ?_)
              · skip
                refine j_aload_n X rfl d_M_transfer_114 ?_
                refine j_aload_n X rfl d_M_transfer_115 ?_
                refine g_M_80 X d_M_transfer_116 ?_
                refine j_topi (congrArg iI e9) ?_
                refine j_aload_n X rfl d_M_transfer_119 ?_
                refine g_M_97 X d_M_transfer_120 ?_
                refine j_topi (congrArg iI e10) ?_
                refine v_M_40 X hz (c_M_dataOf (zl z) E (up ρ 18 0 17 (ρ 18 0 17 + 1)) t q ht hq) rfl rfl rfl (Nat.le_of_ble_eq_true rfl) ⟨Nat.le_refl _, Nat.le_refl _⟩ d_M_transfer_123 ?_
                refine j_topi (congrArg iI e2) ?_
                refine j_istore X (zlt hn rfl) d_M_transfer_126 ?_
                refine j_iload X rfl d_M_transfer_128 ?_
                refine j_if_eq X (by omega) d_M_transfer_130 (tgt := 137) rfl (fun h130 => ?_) (fun h130 => ?_)
                · skip
                  refine j_aload_n X rfl d_M_transfer_137 ?_
                  refine j_aload_n X rfl d_M_transfer_138 ?_
                  refine g_M_80 X d_M_transfer_139 ?_
                  refine j_topi (congrArg iI e9) ?_
                  refine j_aload_n X rfl d_M_transfer_142 ?_
                  refine g_M_97 X d_M_transfer_143 ?_
                  refine j_topi (congrArg iI e10) ?_
                  refine v_M_36 X hz (c_M_keyOf (zl z) E (up ρ 18 0 17 (ρ 18 0 17 + 1)) t q ht hq) rfl rfl rfl (Nat.le_of_ble_eq_true rfl) ⟨Nat.le_refl _, Nat.le_refl _⟩ d_M_transfer_146 ?_
                  refine j_topi (congrArg iI e1) ?_
                  refine j_istore X (zlt hn rfl) d_M_transfer_149 ?_
                  refine j_aload_n X rfl d_M_transfer_151 ?_
                  refine j_iload_n X rfl d_M_transfer_152 ?_
                  refine j_iload X rfl d_M_transfer_153 ?_
                  refine j_isub X d_M_transfer_155 ?_
                  refine p_M_126 X d_M_transfer_156 ?_
                  refine j_iload_n X rfl d_M_transfer_159 ?_
                  refine j_bipush X rfl d_M_transfer_160 ?_
                  refine j_icmp_ne X (by omega) (by omega) d_M_transfer_162 (tgt := 191) rfl (fun h162 => ?_) (fun h162 => ?_)
                  · exact absurd h162 (by omega)
                  · skip
                    refine j_aload_n X rfl d_M_transfer_165 ?_
                    refine j_aload_n X rfl d_M_transfer_166 ?_
                    refine g_M_80 X d_M_transfer_167 ?_
                    refine j_topi (congrArg iI e9) ?_
                    refine j_aload_n X rfl d_M_transfer_170 ?_
                    refine g_M_97 X d_M_transfer_171 ?_
                    refine j_topi (congrArg iI e10) ?_
                    refine v_M_129 X hz (c_M_isSpoiled (zl z) E (trS ρ (b - dl)) t q r3 ht hq) rfl rfl rfl (Nat.le_of_ble_eq_true rfl) ⟨Nat.le_refl _, Nat.le_refl _⟩ d_M_transfer_174 ?_
                    refine j_ifz X d_M_transfer_177 (tgt := 191) rfl (fun h => absurd hsp h) (fun _ => ?_)
                    refine j_aload_n X rfl d_M_transfer_180 ?_
                    refine j_iload_n X rfl d_M_transfer_181 ?_
                    refine p_M_126 X d_M_transfer_182 ?_
                    refine j_aload_n X rfl d_M_transfer_185 ?_
                    refine j_iconst X d_M_transfer_186 ?_
                    refine p_M_91 X d_M_transfer_187 ?_
                    exact j_vret X Y (Nat.le_refl _) (Nat.le_refl _) d_M_transfer_190 ⟨rfl, rfl⟩
                · exact absurd h130 (by omega)
              · exact absurd h96 (by omega)
            · exact absurd h73 (by omega)
          · exact absurd h59 (by omega)
    · exact absurd h15 (by omega)
  · exact absurd h3 (by omega)

set_option maxRecDepth 100000 in
set_option maxHeartbeats 4000000 in
theorem c_M_transfer7h (l : Launch) (E : eT) (σ ρ : St) (a b t q kl dl sd : Int) (f : Int → Int) (e11 : σ 18 0 11 = sd) (rsd : inR sd) (hsd : sd = 1 ∨ sd = 2) (hor : FCon l E y_M_orient ws_M_orient 3 [.ref (E.2.2.2 18 0), .int (iI 3)] σ none ρ) (e9 : ρ 18 0 9 = t) (ht : 0 ≤ t ∧ t < 32) (e10 : ρ 18 0 10 = q) (hq : 0 ≤ q ∧ q ≤ 580) (e1 : ρ 20 0 (600 * t + q + 1) = kl) (e2 : ρ 20 0 (600 * t + q + 2) = dl) (hkl : 0 ≤ kl ∧ kl ≤ 8) (hdl : 0 ≤ dl ∧ dl ≤ 60) (he : q + 20 + kl + dl ≤ 600) (ha : 0 ≤ a ∧ a + b ≤ 256) (hb : 0 ≤ b ∧ b ≤ 60) (hf : ∀ i, 0 ≤ i → i < dl → ρ 20 0 (600 * t + q + 20 + (kl + i)) % 256 = f i) (r3 : inR (ρ 20 0 (600 * t + q + 3))) (hsp : ¬ ρ 20 0 (600 * t + q + 3) = 1) : FCon l E y_M_transfer ws_M_transfer 5 [.ref (E.2.2.2 18 0), .int (iI 7), .int (iI a), .int (iI b)] σ none (up (fiS (trS ρ (b - dl)) 21 a f (if dl < b then dl else b)) 18 0 18 (if b - dl < 0 then 3 else 0)) := by
  refine con_of (cc := b_M_transfer) (nL := 9) (ret := none) (by decide) (Nat.le_of_ble_eq_true rfl) (fun z X Y hn => ?_)
  have X : Cx E z b_M_transfer R_M := X
  have hz := Y.2.1
  change J E z 0 0 0 [(0, .ref (E.2.2.2 18 0)), (1, .int (iI 7)), (2, .int (iI a)), (3, .int (iI b))] [] (cells E σ)
  rw [← Y.1] at hor
  refine j_iload_n X rfl d_M_transfer_0 ?_
  refine j_bipush X rfl d_M_transfer_1 ?_
  refine j_icmp_ne X (by omega) (by omega) d_M_transfer_3 (tgt := 10) rfl (fun h3 => ?_) (fun h3 => ?_)
  · skip
    refine j_iconst X d_M_transfer_10 ?_
    refine j_istore X (zlt hn rfl) d_M_transfer_11 ?_
    refine j_iload X rfl d_M_transfer_13 ?_
    refine j_if_eq X (by omega) d_M_transfer_15 (tgt := 34) rfl (fun h15 => ?_) (fun h15 => ?_)
    · skip
      refine j_aload_n X rfl d_M_transfer_34 ?_
      refine g_M_94 X d_M_transfer_35 ?_
      refine j_topi (congrArg iI e11) ?_
      refine j_iconst X d_M_transfer_38 ?_
      refine j_icmp_eq X (by omega) (by omega) d_M_transfer_39 (tgt := 50) rfl (fun h39 => ?_) (fun h39 => ?_)
      · skip
        refine j_iconst X d_M_transfer_50 ?_
        refine j_goto X d_M_transfer_51 (tgt := 55) rfl ?_
        refine j_istore X (zlt hn rfl) d_M_transfer_55 ?_
        refine j_iload X rfl d_M_transfer_57 ?_
        refine j_if_ne X (by omega) d_M_transfer_59 (tgt := 70) rfl (fun h59 => ?_) (fun h59 => ?_)
        · skip
          refine j_aload_n X rfl d_M_transfer_70 ?_
          refine j_iload X rfl d_M_transfer_71 ?_
          refine j_if_eq X (by omega) d_M_transfer_73 (tgt := 80) rfl (fun h73 => ?_) (fun h73 => ?_)
          · skip
            refine j_iconst X d_M_transfer_80 ?_
            refine v_M_111 X hz (hor) rfl rfl rfl (Nat.le_of_ble_eq_true rfl) ⟨Nat.le_refl _, Nat.le_refl _⟩ d_M_transfer_81 ?_
            refine j_aload_n X rfl d_M_transfer_84 ?_
            refine j_dup X rfl d_M_transfer_85 ?_
            refine g_M_123 X d_M_transfer_86 ?_
            refine j_iconst X d_M_transfer_89 ?_
            refine j_iadd X d_M_transfer_90 ?_
            refine p_M_123 X d_M_transfer_91 ?_
            refine j_iload X rfl d_M_transfer_94 ?_
            refine j_if_eq X (by omega) d_M_transfer_96 (tgt := 114) rfl (fun h96 => ?_) (fun h96 => ?_)
            · skip
              refine j_aload_n X rfl d_M_transfer_114 ?_
              refine j_aload_n X rfl d_M_transfer_115 ?_
              refine g_M_80 X d_M_transfer_116 ?_
              refine j_topi (congrArg iI e9) ?_
              refine j_aload_n X rfl d_M_transfer_119 ?_
              refine g_M_97 X d_M_transfer_120 ?_
              refine j_topi (congrArg iI e10) ?_
              refine v_M_40 X hz (c_M_dataOf (zl z) E (up ρ 18 0 17 (ρ 18 0 17 + 1)) t q ht hq) rfl rfl rfl (Nat.le_of_ble_eq_true rfl) ⟨Nat.le_refl _, Nat.le_refl _⟩ d_M_transfer_123 ?_
              refine j_topi (congrArg iI e2) ?_
              refine j_istore X (zlt hn rfl) d_M_transfer_126 ?_
              refine j_iload X rfl d_M_transfer_128 ?_
              refine j_if_eq X (by omega) d_M_transfer_130 (tgt := 137) rfl (fun h130 => ?_) (fun h130 => ?_)
              · skip
                refine j_aload_n X rfl d_M_transfer_137 ?_
                refine j_aload_n X rfl d_M_transfer_138 ?_
                refine g_M_80 X d_M_transfer_139 ?_
                refine j_topi (congrArg iI e9) ?_
                refine j_aload_n X rfl d_M_transfer_142 ?_
                refine g_M_97 X d_M_transfer_143 ?_
                refine j_topi (congrArg iI e10) ?_
                refine v_M_36 X hz (c_M_keyOf (zl z) E (up ρ 18 0 17 (ρ 18 0 17 + 1)) t q ht hq) rfl rfl rfl (Nat.le_of_ble_eq_true rfl) ⟨Nat.le_refl _, Nat.le_refl _⟩ d_M_transfer_146 ?_
                refine j_topi (congrArg iI e1) ?_
                refine j_istore X (zlt hn rfl) d_M_transfer_149 ?_
                refine j_aload_n X rfl d_M_transfer_151 ?_
                refine j_iload_n X rfl d_M_transfer_152 ?_
                refine j_iload X rfl d_M_transfer_153 ?_
                refine j_isub X d_M_transfer_155 ?_
                refine p_M_126 X d_M_transfer_156 ?_
                refine j_iload_n X rfl d_M_transfer_159 ?_
                refine j_bipush X rfl d_M_transfer_160 ?_
                refine j_icmp_ne X (by omega) (by omega) d_M_transfer_162 (tgt := 191) rfl (fun h162 => ?_) (fun h162 => ?_)
                · exact absurd h162 (by omega)
                · skip
                  refine j_aload_n X rfl d_M_transfer_165 ?_
                  refine j_aload_n X rfl d_M_transfer_166 ?_
                  refine g_M_80 X d_M_transfer_167 ?_
                  refine j_topi (congrArg iI e9) ?_
                  refine j_aload_n X rfl d_M_transfer_170 ?_
                  refine g_M_97 X d_M_transfer_171 ?_
                  refine j_topi (congrArg iI e10) ?_
                  refine v_M_129 X hz (c_M_isSpoiled (zl z) E (trS ρ (b - dl)) t q r3 ht hq) rfl rfl rfl (Nat.le_of_ble_eq_true rfl) ⟨Nat.le_refl _, Nat.le_refl _⟩ d_M_transfer_174 ?_
                  refine j_ifz X d_M_transfer_177 (tgt := 191) rfl (fun _ => ?_) (fun h => absurd h hsp)
                  refine j_iload_n X rfl d_M_transfer_191 ?_
                  refine j_bipush X rfl d_M_transfer_192 ?_
                  refine j_icmp_ne X (by omega) (by omega) d_M_transfer_194 (tgt := 280) rfl (fun h194 => ?_) (fun h194 => ?_)
                  · skip
                    refine j_iconst X d_M_transfer_280 ?_
                    refine j_istore X (zlt hn rfl) d_M_transfer_281 ?_
                    have kyl : ∀ i : Int, (0 ≤ i ∧ i ≤ dl ∧ i ≤ b) → J E z 0 0 283 [(0, .ref (E.2.2.2 18 0)), (1, .int (iI 7)), (2, .int (iI a)), (3, .int (iI b)), (4, .int (iI 0)), (5, .int (iI 1)), (6, .int (iI dl)), (7, .int (iI kl)), (8, .int (iI i))] [] (cells E (fiS (trS ρ (b - dl)) 21 a f i)) := by
                      refine j_loop (fun i : Int => (b - i).toNat) _ _ (fun i hi ih => ?_)
                      refine j_iload X rfl d_M_transfer_283 ?_
                      refine j_iload X rfl d_M_transfer_285 ?_
                      refine j_icmp_ge X (by omega) (by omega) d_M_transfer_287 (tgt := 328) rfl (fun h287 => ?_) (fun h287 => ?_)
                      · skip
                        refine j_aload_n X rfl d_M_transfer_328 ?_
                        refine j_aload_n X rfl d_M_transfer_329 ?_
                        refine g_M_126 X d_M_transfer_330 ?_
                        refine j_topi (congrArg iI (show fiS (trS ρ (b - dl)) 21 a f i 18 0 13 = b - dl from rfl)) ?_
                        refine j_if_ge X (by omega) d_M_transfer_333 (tgt := 340) rfl (fun h333 => ?_) (fun h333 => ?_)
                        · skip
                          refine j_iconst X d_M_transfer_340 ?_
                          refine p_M_91 X d_M_transfer_341 ?_
                          exact j_vret X Y (Nat.le_refl _) (Nat.le_refl _) d_M_transfer_344 ⟨rfl, by rw [if_neg (show ¬ b - dl < 0 by omega), show i = (if dl < b then dl else b) by split <;> omega]⟩
                        · skip
                          refine j_iconst X d_M_transfer_336 ?_
                          refine j_goto X d_M_transfer_337 (tgt := 341) rfl ?_
                          refine p_M_91 X d_M_transfer_341 ?_
                          exact j_vret X Y (Nat.le_refl _) (Nat.le_refl _) d_M_transfer_344 ⟨rfl, by rw [if_pos (show b - dl < 0 by omega), show i = (if dl < b then dl else b) by split <;> omega]⟩
                      · skip
                        refine j_iload X rfl d_M_transfer_290 ?_
                        refine j_iload_n X rfl d_M_transfer_292 ?_
                        refine j_icmp_ge X (by omega) (by omega) d_M_transfer_293 (tgt := 328) rfl (fun h293 => ?_) (fun h293 => ?_)
                        · skip
                          refine j_aload_n X rfl d_M_transfer_328 ?_
                          refine j_aload_n X rfl d_M_transfer_329 ?_
                          refine g_M_126 X d_M_transfer_330 ?_
                          refine j_topi (congrArg iI (show fiS (trS ρ (b - dl)) 21 a f i 18 0 13 = b - dl from rfl)) ?_
                          refine j_if_ge X (by omega) d_M_transfer_333 (tgt := 340) rfl (fun h333 => ?_) (fun h333 => ?_)
                          · skip
                            refine j_iconst X d_M_transfer_340 ?_
                            refine p_M_91 X d_M_transfer_341 ?_
                            exact j_vret X Y (Nat.le_refl _) (Nat.le_refl _) d_M_transfer_344 ⟨rfl, by rw [if_neg (show ¬ b - dl < 0 by omega), show i = (if dl < b then dl else b) by split <;> omega]⟩
                          · skip
                            refine j_iconst X d_M_transfer_336 ?_
                            refine j_goto X d_M_transfer_337 (tgt := 341) rfl ?_
                            refine p_M_91 X d_M_transfer_341 ?_
                            exact j_vret X Y (Nat.le_refl _) (Nat.le_refl _) d_M_transfer_344 ⟨rfl, by rw [if_pos (show b - dl < 0 by omega), show i = (if dl < b then dl else b) by split <;> omega]⟩
                        · skip
                          refine j_aload_n X rfl d_M_transfer_296 ?_
                          refine g_M_16 X d_M_transfer_297 ?_
                          refine j_iload_n X rfl d_M_transfer_300 ?_
                          refine j_iload X rfl d_M_transfer_301 ?_
                          refine j_iadd X d_M_transfer_303 ?_
                          refine j_aload_n X rfl d_M_transfer_304 ?_
                          refine j_aload_n X rfl d_M_transfer_305 ?_
                          refine g_M_80 X d_M_transfer_306 ?_
                          refine j_topi (congrArg iI e9) ?_
                          refine j_aload_n X rfl d_M_transfer_309 ?_
                          refine g_M_97 X d_M_transfer_310 ?_
                          refine j_topi (congrArg iI e10) ?_
                          refine j_iload X rfl d_M_transfer_313 ?_
                          refine j_iload X rfl d_M_transfer_315 ?_
                          refine j_iadd X d_M_transfer_317 ?_
                          refine v_M_103 X hz (c_M_byteAt (zl z) E (fiS (trS ρ (b - dl)) 21 a f i) t q (kl + i) ht (by omega)) rfl rfl rfl (Nat.le_of_ble_eq_true rfl) ⟨Nat.le_refl _, Nat.le_refl _⟩ d_M_transfer_318 ?_
                          refine j_topi (congrArg iI (hf i hi.1 h287)) ?_
                          refine j_iast X (by first | exact okC1 rfl | exact (okCT rfl (by omega))) (fun _ => rfl) rfl (by omega) d_M_transfer_321 ?_
                          refine j_iinc X rfl (zlt hn rfl) d_M_transfer_322 ?_
                          refine j_goto X d_M_transfer_325 (tgt := 283) rfl ?_
                          rw [fi_s (v := f i) hi.1 rfl]; exact ih (i + 1) (by omega) (by omega)
                    have := kyl 0 (by omega); rw [fi_0] at this; exact this
                  · exact absurd h194 (by omega)
              · exact absurd h130 (by omega)
            · exact absurd h96 (by omega)
          · exact absurd h73 (by omega)
        · exact absurd h59 (by omega)
      · skip
        refine j_aload_n X rfl d_M_transfer_42 ?_
        refine g_M_94 X d_M_transfer_43 ?_
        refine j_topi (congrArg iI e11) ?_
        refine j_iconst X d_M_transfer_46 ?_
        refine j_icmp_ne X (by omega) (by omega) d_M_transfer_47 (tgt := 54) rfl (fun h47 => ?_) (fun h47 => ?_)
        · exact absurd h47 (by omega)
        · skip
          refine j_iconst X d_M_transfer_50 ?_
          refine j_goto X d_M_transfer_51 (tgt := 55) rfl ?_
          refine j_istore X (zlt hn rfl) d_M_transfer_55 ?_
          refine j_iload X rfl d_M_transfer_57 ?_
          refine j_if_ne X (by omega) d_M_transfer_59 (tgt := 70) rfl (fun h59 => ?_) (fun h59 => ?_)
          · skip
            refine j_aload_n X rfl d_M_transfer_70 ?_
            refine j_iload X rfl d_M_transfer_71 ?_
            refine j_if_eq X (by omega) d_M_transfer_73 (tgt := 80) rfl (fun h73 => ?_) (fun h73 => ?_)
            · skip
              refine j_iconst X d_M_transfer_80 ?_
              refine v_M_111 X hz (hor) rfl rfl rfl (Nat.le_of_ble_eq_true rfl) ⟨Nat.le_refl _, Nat.le_refl _⟩ d_M_transfer_81 ?_
              refine j_aload_n X rfl d_M_transfer_84 ?_
              refine j_dup X rfl d_M_transfer_85 ?_
              refine g_M_123 X d_M_transfer_86 ?_
              refine j_iconst X d_M_transfer_89 ?_
              refine j_iadd X d_M_transfer_90 ?_
              refine p_M_123 X d_M_transfer_91 ?_
              refine j_iload X rfl d_M_transfer_94 ?_
              refine j_if_eq X (by omega) d_M_transfer_96 (tgt := 114) rfl (fun h96 => ?_) (fun h96 => ?_)
              · skip
                refine j_aload_n X rfl d_M_transfer_114 ?_
                refine j_aload_n X rfl d_M_transfer_115 ?_
                refine g_M_80 X d_M_transfer_116 ?_
                refine j_topi (congrArg iI e9) ?_
                refine j_aload_n X rfl d_M_transfer_119 ?_
                refine g_M_97 X d_M_transfer_120 ?_
                refine j_topi (congrArg iI e10) ?_
                refine v_M_40 X hz (c_M_dataOf (zl z) E (up ρ 18 0 17 (ρ 18 0 17 + 1)) t q ht hq) rfl rfl rfl (Nat.le_of_ble_eq_true rfl) ⟨Nat.le_refl _, Nat.le_refl _⟩ d_M_transfer_123 ?_
                refine j_topi (congrArg iI e2) ?_
                refine j_istore X (zlt hn rfl) d_M_transfer_126 ?_
                refine j_iload X rfl d_M_transfer_128 ?_
                refine j_if_eq X (by omega) d_M_transfer_130 (tgt := 137) rfl (fun h130 => ?_) (fun h130 => ?_)
                · skip
                  refine j_aload_n X rfl d_M_transfer_137 ?_
                  refine j_aload_n X rfl d_M_transfer_138 ?_
                  refine g_M_80 X d_M_transfer_139 ?_
                  refine j_topi (congrArg iI e9) ?_
                  refine j_aload_n X rfl d_M_transfer_142 ?_
                  refine g_M_97 X d_M_transfer_143 ?_
                  refine j_topi (congrArg iI e10) ?_
                  refine v_M_36 X hz (c_M_keyOf (zl z) E (up ρ 18 0 17 (ρ 18 0 17 + 1)) t q ht hq) rfl rfl rfl (Nat.le_of_ble_eq_true rfl) ⟨Nat.le_refl _, Nat.le_refl _⟩ d_M_transfer_146 ?_
                  refine j_topi (congrArg iI e1) ?_
                  refine j_istore X (zlt hn rfl) d_M_transfer_149 ?_
                  refine j_aload_n X rfl d_M_transfer_151 ?_
                  refine j_iload_n X rfl d_M_transfer_152 ?_
                  refine j_iload X rfl d_M_transfer_153 ?_
                  refine j_isub X d_M_transfer_155 ?_
                  refine p_M_126 X d_M_transfer_156 ?_
                  refine j_iload_n X rfl d_M_transfer_159 ?_
                  refine j_bipush X rfl d_M_transfer_160 ?_
                  refine j_icmp_ne X (by omega) (by omega) d_M_transfer_162 (tgt := 191) rfl (fun h162 => ?_) (fun h162 => ?_)
                  · exact absurd h162 (by omega)
                  · skip
                    refine j_aload_n X rfl d_M_transfer_165 ?_
                    refine j_aload_n X rfl d_M_transfer_166 ?_
                    refine g_M_80 X d_M_transfer_167 ?_
                    refine j_topi (congrArg iI e9) ?_
                    refine j_aload_n X rfl d_M_transfer_170 ?_
                    refine g_M_97 X d_M_transfer_171 ?_
                    refine j_topi (congrArg iI e10) ?_
                    refine v_M_129 X hz (c_M_isSpoiled (zl z) E (trS ρ (b - dl)) t q r3 ht hq) rfl rfl rfl (Nat.le_of_ble_eq_true rfl) ⟨Nat.le_refl _, Nat.le_refl _⟩ d_M_transfer_174 ?_
                    refine j_ifz X d_M_transfer_177 (tgt := 191) rfl (fun _ => ?_) (fun h => absurd h hsp)
                    refine j_iload_n X rfl d_M_transfer_191 ?_
                    refine j_bipush X rfl d_M_transfer_192 ?_
                    refine j_icmp_ne X (by omega) (by omega) d_M_transfer_194 (tgt := 280) rfl (fun h194 => ?_) (fun h194 => ?_)
                    · skip
                      refine j_iconst X d_M_transfer_280 ?_
                      refine j_istore X (zlt hn rfl) d_M_transfer_281 ?_
                      have kyl : ∀ i : Int, (0 ≤ i ∧ i ≤ dl ∧ i ≤ b) → J E z 0 0 283 [(0, .ref (E.2.2.2 18 0)), (1, .int (iI 7)), (2, .int (iI a)), (3, .int (iI b)), (4, .int (iI 0)), (5, .int (iI 1)), (6, .int (iI dl)), (7, .int (iI kl)), (8, .int (iI i))] [] (cells E (fiS (trS ρ (b - dl)) 21 a f i)) := by
                        refine j_loop (fun i : Int => (b - i).toNat) _ _ (fun i hi ih => ?_)
                        refine j_iload X rfl d_M_transfer_283 ?_
                        refine j_iload X rfl d_M_transfer_285 ?_
                        refine j_icmp_ge X (by omega) (by omega) d_M_transfer_287 (tgt := 328) rfl (fun h287 => ?_) (fun h287 => ?_)
                        · skip
                          refine j_aload_n X rfl d_M_transfer_328 ?_
                          refine j_aload_n X rfl d_M_transfer_329 ?_
                          refine g_M_126 X d_M_transfer_330 ?_
                          refine j_topi (congrArg iI (show fiS (trS ρ (b - dl)) 21 a f i 18 0 13 = b - dl from rfl)) ?_
                          refine j_if_ge X (by omega) d_M_transfer_333 (tgt := 340) rfl (fun h333 => ?_) (fun h333 => ?_)
                          · skip
                            refine j_iconst X d_M_transfer_340 ?_
                            refine p_M_91 X d_M_transfer_341 ?_
                            exact j_vret X Y (Nat.le_refl _) (Nat.le_refl _) d_M_transfer_344 ⟨rfl, by rw [if_neg (show ¬ b - dl < 0 by omega), show i = (if dl < b then dl else b) by split <;> omega]⟩
                          · skip
                            refine j_iconst X d_M_transfer_336 ?_
                            refine j_goto X d_M_transfer_337 (tgt := 341) rfl ?_
                            refine p_M_91 X d_M_transfer_341 ?_
                            exact j_vret X Y (Nat.le_refl _) (Nat.le_refl _) d_M_transfer_344 ⟨rfl, by rw [if_pos (show b - dl < 0 by omega), show i = (if dl < b then dl else b) by split <;> omega]⟩
                        · skip
                          refine j_iload X rfl d_M_transfer_290 ?_
                          refine j_iload_n X rfl d_M_transfer_292 ?_
                          refine j_icmp_ge X (by omega) (by omega) d_M_transfer_293 (tgt := 328) rfl (fun h293 => ?_) (fun h293 => ?_)
                          · skip
                            refine j_aload_n X rfl d_M_transfer_328 ?_
                            refine j_aload_n X rfl d_M_transfer_329 ?_
                            refine g_M_126 X d_M_transfer_330 ?_
                            refine j_topi (congrArg iI (show fiS (trS ρ (b - dl)) 21 a f i 18 0 13 = b - dl from rfl)) ?_
                            refine j_if_ge X (by omega) d_M_transfer_333 (tgt := 340) rfl (fun h333 => ?_) (fun h333 => ?_)
                            · skip
                              refine j_iconst X d_M_transfer_340 ?_
                              refine p_M_91 X d_M_transfer_341 ?_
                              exact j_vret X Y (Nat.le_refl _) (Nat.le_refl _) d_M_transfer_344 ⟨rfl, by rw [if_neg (show ¬ b - dl < 0 by omega), show i = (if dl < b then dl else b) by split <;> omega]⟩
                            · skip
                              refine j_iconst X d_M_transfer_336 ?_
                              refine j_goto X d_M_transfer_337 (tgt := 341) rfl ?_
                              refine p_M_91 X d_M_transfer_341 ?_
                              exact j_vret X Y (Nat.le_refl _) (Nat.le_refl _) d_M_transfer_344 ⟨rfl, by rw [if_pos (show b - dl < 0 by omega), show i = (if dl < b then dl else b) by split <;> omega]⟩
                          · skip
                            refine j_aload_n X rfl d_M_transfer_296 ?_
                            refine g_M_16 X d_M_transfer_297 ?_
                            refine j_iload_n X rfl d_M_transfer_300 ?_
                            refine j_iload X rfl d_M_transfer_301 ?_
                            refine j_iadd X d_M_transfer_303 ?_
                            refine j_aload_n X rfl d_M_transfer_304 ?_
                            refine j_aload_n X rfl d_M_transfer_305 ?_
                            refine g_M_80 X d_M_transfer_306 ?_
                            refine j_topi (congrArg iI e9) ?_
                            refine j_aload_n X rfl d_M_transfer_309 ?_
                            refine g_M_97 X d_M_transfer_310 ?_
                            refine j_topi (congrArg iI e10) ?_
                            refine j_iload X rfl d_M_transfer_313 ?_
                            refine j_iload X rfl d_M_transfer_315 ?_
                            refine j_iadd X d_M_transfer_317 ?_
                            refine v_M_103 X hz (c_M_byteAt (zl z) E (fiS (trS ρ (b - dl)) 21 a f i) t q (kl + i) ht (by omega)) rfl rfl rfl (Nat.le_of_ble_eq_true rfl) ⟨Nat.le_refl _, Nat.le_refl _⟩ d_M_transfer_318 ?_
                            refine j_topi (congrArg iI (hf i hi.1 h287)) ?_
                            refine j_iast X (by first | exact okC1 rfl | exact (okCT rfl (by omega))) (fun _ => rfl) rfl (by omega) d_M_transfer_321 ?_
                            refine j_iinc X rfl (zlt hn rfl) d_M_transfer_322 ?_
                            refine j_goto X d_M_transfer_325 (tgt := 283) rfl ?_
                            rw [fi_s (v := f i) hi.1 rfl]; exact ih (i + 1) (by omega) (by omega)
                      have := kyl 0 (by omega); rw [fi_0] at this; exact this
                    · exact absurd h194 (by omega)
                · exact absurd h130 (by omega)
              · exact absurd h96 (by omega)
            · exact absurd h73 (by omega)
          · exact absurd h59 (by omega)
    · exact absurd h15 (by omega)
  · exact absurd h3 (by omega)

set_option maxRecDepth 100000 in
set_option maxHeartbeats 4000000 in
theorem c_M_transfer8he (l : Launch) (E : eT) (σ ρ : St) (a b t q kl dl sd : Int) (f : Int → Int) (e11 : σ 18 0 11 = sd) (rsd : inR sd) (hsd : sd = 1 ∨ sd = 2) (hor : FCon l E y_M_orient ws_M_orient 3 [.ref (E.2.2.2 18 0), .int (iI 3)] σ none ρ) (e9 : ρ 18 0 9 = t) (ht : 0 ≤ t ∧ t < 32) (e10 : ρ 18 0 10 = q) (hq : 0 ≤ q ∧ q ≤ 580) (e1 : ρ 20 0 (600 * t + q + 1) = kl) (e2 : ρ 20 0 (600 * t + q + 2) = dl) (hkl : 0 ≤ kl ∧ kl ≤ 8) (hdl : 0 ≤ dl ∧ dl ≤ 60) (he : q + 20 + kl + dl ≤ 600) (ha : 0 ≤ a ∧ a + b ≤ 256) (hb : 0 ≤ b ∧ b ≤ 60) (hbn : b = dl) (hf : ∀ i, 0 ≤ i → i < b → ((ρ 21 0 (a + i)).bmod 256).bmod 256 = f i) : FCon l E y_M_transfer ws_M_transfer 5 [.ref (E.2.2.2 18 0), .int (iI 8), .int (iI a), .int (iI b)] σ none (up (fiS (up (trS ρ (b - dl)) 20 0 (600 * t + q + 3) (Int.bmod (Int.bmod 0 256) 256)) 20 (600 * t + q + 20 + kl) f dl) 18 0 18 0) := by
  refine con_of (cc := b_M_transfer) (nL := 9) (ret := none) (by decide) (Nat.le_of_ble_eq_true rfl) (fun z X Y hn => ?_)
  have X : Cx E z b_M_transfer R_M := X
  have hz := Y.2.1
  change J E z 0 0 0 [(0, .ref (E.2.2.2 18 0)), (1, .int (iI 8)), (2, .int (iI a)), (3, .int (iI b))] [] (cells E σ)
  rw [← Y.1] at hor
  refine j_iload_n X rfl d_M_transfer_0 ?_
  refine j_bipush X rfl d_M_transfer_1 ?_
  refine j_icmp_ne X (by omega) (by omega) d_M_transfer_3 (tgt := 10) rfl (fun h3 => ?_) (fun h3 => ?_)
  · skip
    refine j_iconst X d_M_transfer_10 ?_
    refine j_istore X (zlt hn rfl) d_M_transfer_11 ?_
    refine j_iload X rfl d_M_transfer_13 ?_
    refine j_if_eq X (by omega) d_M_transfer_15 (tgt := 34) rfl (fun h15 => ?_) (fun h15 => ?_)
    · skip
      refine j_aload_n X rfl d_M_transfer_34 ?_
      refine g_M_94 X d_M_transfer_35 ?_
      refine j_topi (congrArg iI e11) ?_
      refine j_iconst X d_M_transfer_38 ?_
      refine j_icmp_eq X (by omega) (by omega) d_M_transfer_39 (tgt := 50) rfl (fun h39 => ?_) (fun h39 => ?_)
      · skip
        refine j_iconst X d_M_transfer_50 ?_
        refine j_goto X d_M_transfer_51 (tgt := 55) rfl ?_
        refine j_istore X (zlt hn rfl) d_M_transfer_55 ?_
        refine j_iload X rfl d_M_transfer_57 ?_
        refine j_if_ne X (by omega) d_M_transfer_59 (tgt := 70) rfl (fun h59 => ?_) (fun h59 => ?_)
        · skip
          refine j_aload_n X rfl d_M_transfer_70 ?_
          refine j_iload X rfl d_M_transfer_71 ?_
          refine j_if_eq X (by omega) d_M_transfer_73 (tgt := 80) rfl (fun h73 => ?_) (fun h73 => ?_)
          · skip
            refine j_iconst X d_M_transfer_80 ?_
            refine v_M_111 X hz (hor) rfl rfl rfl (Nat.le_of_ble_eq_true rfl) ⟨Nat.le_refl _, Nat.le_refl _⟩ d_M_transfer_81 ?_
            refine j_aload_n X rfl d_M_transfer_84 ?_
            refine j_dup X rfl d_M_transfer_85 ?_
            refine g_M_123 X d_M_transfer_86 ?_
            refine j_iconst X d_M_transfer_89 ?_
            refine j_iadd X d_M_transfer_90 ?_
            refine p_M_123 X d_M_transfer_91 ?_
            refine j_iload X rfl d_M_transfer_94 ?_
            refine j_if_eq X (by omega) d_M_transfer_96 (tgt := 114) rfl (fun h96 => ?_) (fun h96 => ?_)
            · skip
              refine j_aload_n X rfl d_M_transfer_114 ?_
              refine j_aload_n X rfl d_M_transfer_115 ?_
              refine g_M_80 X d_M_transfer_116 ?_
              refine j_topi (congrArg iI e9) ?_
              refine j_aload_n X rfl d_M_transfer_119 ?_
              refine g_M_97 X d_M_transfer_120 ?_
              refine j_topi (congrArg iI e10) ?_
              refine v_M_40 X hz (c_M_dataOf (zl z) E (up ρ 18 0 17 (ρ 18 0 17 + 1)) t q ht hq) rfl rfl rfl (Nat.le_of_ble_eq_true rfl) ⟨Nat.le_refl _, Nat.le_refl _⟩ d_M_transfer_123 ?_
              refine j_topi (congrArg iI e2) ?_
              refine j_istore X (zlt hn rfl) d_M_transfer_126 ?_
              refine j_iload X rfl d_M_transfer_128 ?_
              refine j_if_eq X (by omega) d_M_transfer_130 (tgt := 137) rfl (fun h130 => ?_) (fun h130 => ?_)
              · skip
                refine j_aload_n X rfl d_M_transfer_137 ?_
                refine j_aload_n X rfl d_M_transfer_138 ?_
                refine g_M_80 X d_M_transfer_139 ?_
                refine j_topi (congrArg iI e9) ?_
                refine j_aload_n X rfl d_M_transfer_142 ?_
                refine g_M_97 X d_M_transfer_143 ?_
                refine j_topi (congrArg iI e10) ?_
                refine v_M_36 X hz (c_M_keyOf (zl z) E (up ρ 18 0 17 (ρ 18 0 17 + 1)) t q ht hq) rfl rfl rfl (Nat.le_of_ble_eq_true rfl) ⟨Nat.le_refl _, Nat.le_refl _⟩ d_M_transfer_146 ?_
                refine j_topi (congrArg iI e1) ?_
                refine j_istore X (zlt hn rfl) d_M_transfer_149 ?_
                refine j_aload_n X rfl d_M_transfer_151 ?_
                refine j_iload_n X rfl d_M_transfer_152 ?_
                refine j_iload X rfl d_M_transfer_153 ?_
                refine j_isub X d_M_transfer_155 ?_
                refine p_M_126 X d_M_transfer_156 ?_
                refine j_iload_n X rfl d_M_transfer_159 ?_
                refine j_bipush X rfl d_M_transfer_160 ?_
                refine j_icmp_ne X (by omega) (by omega) d_M_transfer_162 (tgt := 191) rfl (fun h162 => ?_) (fun h162 => ?_)
                · skip
                  refine j_iload_n X rfl d_M_transfer_191 ?_
                  refine j_bipush X rfl d_M_transfer_192 ?_
                  refine j_icmp_ne X (by omega) (by omega) d_M_transfer_194 (tgt := 280) rfl (fun h194 => ?_) (fun h194 => ?_)
                  · exact absurd h194 (by omega)
                  · skip
                    refine j_iload_n X rfl d_M_transfer_197 ?_
                    refine j_iload X rfl d_M_transfer_198 ?_
                    refine j_icmp_ne X (by omega) (by omega) d_M_transfer_200 (tgt := 216) rfl (fun h200 => ?_) (fun h200 => ?_)
                    · exact absurd h200 (by omega)
                    · skip
                      refine j_aload_n X rfl d_M_transfer_203 ?_
                      refine j_aload_n X rfl d_M_transfer_204 ?_
                      refine g_M_80 X d_M_transfer_205 ?_
                      refine j_topi (congrArg iI e9) ?_
                      refine j_aload_n X rfl d_M_transfer_208 ?_
                      refine g_M_97 X d_M_transfer_209 ?_
                      refine j_topi (congrArg iI e10) ?_
                      refine j_iconst X d_M_transfer_212 ?_
                      refine v_M_132 X hz (c_M_spoilAt (zl z) E (trS ρ (b - dl)) t q 0 ht hq) rfl rfl rfl (Nat.le_of_ble_eq_true rfl) ⟨Nat.le_refl _, Nat.le_refl _⟩ d_M_transfer_213 ?_
                      refine j_iconst X d_M_transfer_216 ?_
                      refine j_istore X (zlt hn rfl) d_M_transfer_217 ?_
                      have kyl : ∀ i : Int, (0 ≤ i ∧ i ≤ dl) → J E z 0 0 219 [(0, .ref (E.2.2.2 18 0)), (1, .int (iI 8)), (2, .int (iI a)), (3, .int (iI b)), (4, .int (iI 0)), (5, .int (iI 1)), (6, .int (iI dl)), (7, .int (iI kl)), (8, .int (iI i))] [] (cells E (fiS (up (trS ρ (b - dl)) 20 0 (600 * t + q + 3) (Int.bmod (Int.bmod 0 256) 256)) 20 (600 * t + q + 20 + kl) f i)) := by
                        refine j_loop (fun i : Int => (dl - i).toNat) _ _ (fun i hi ih => ?_)
                        refine j_iload X rfl d_M_transfer_219 ?_
                        refine j_iload X rfl d_M_transfer_221 ?_
                        refine j_icmp_ge X (by omega) (by omega) d_M_transfer_223 (tgt := 264) rfl (fun h223 => ?_) (fun h223 => ?_)
                        · skip
                          refine j_aload_n X rfl d_M_transfer_264 ?_
                          refine j_iload_n X rfl d_M_transfer_265 ?_
                          refine j_iload X rfl d_M_transfer_266 ?_
                          refine j_icmp_ne X (by omega) (by omega) d_M_transfer_268 (tgt := 275) rfl (fun h268 => ?_) (fun h268 => ?_)
                          · exact absurd h268 (by omega)
                          · skip
                            refine j_iconst X d_M_transfer_271 ?_
                            refine j_goto X d_M_transfer_272 (tgt := 276) rfl ?_
                            refine p_M_91 X d_M_transfer_276 ?_
                            exact j_vret X Y (Nat.le_refl _) (Nat.le_refl _) d_M_transfer_279 ⟨rfl, by rw [show i = dl by omega]⟩
                        · skip
                          refine j_iload_n X rfl d_M_transfer_226 ?_
                          refine j_iload X rfl d_M_transfer_227 ?_
                          refine j_icmp_ne X (by omega) (by omega) d_M_transfer_229 (tgt := 264) rfl (fun h229 => ?_) (fun h229 => ?_)
                          · exact absurd h229 (by omega)
                          · skip
                            refine j_aload_n X rfl d_M_transfer_232 ?_
                            refine j_aload_n X rfl d_M_transfer_233 ?_
                            refine g_M_80 X d_M_transfer_234 ?_
                            refine j_topi (congrArg iI e9) ?_
                            refine j_aload_n X rfl d_M_transfer_237 ?_
                            refine g_M_97 X d_M_transfer_238 ?_
                            refine j_topi (congrArg iI e10) ?_
                            refine j_iload X rfl d_M_transfer_241 ?_
                            refine j_iload X rfl d_M_transfer_243 ?_
                            refine j_iadd X d_M_transfer_245 ?_
                            refine j_aload_n X rfl d_M_transfer_246 ?_
                            refine g_M_16 X d_M_transfer_247 ?_
                            refine j_iload_n X rfl d_M_transfer_250 ?_
                            refine j_iload X rfl d_M_transfer_251 ?_
                            refine j_iadd X d_M_transfer_253 ?_
                            refine j_iald X (by first | exact okC1 rfl | exact (okCT rfl (by omega))) (fun _ => rfl) rfl (by omega) d_M_transfer_254 ?_
                            refine j_topi (congrArg iI (show fiS (up (trS ρ (b - dl)) 20 0 (600 * t + q + 3) (Int.bmod (Int.bmod 0 256) 256)) 20 (600 * t + q + 20 + kl) f i 21 0 (a + i) = ρ 21 0 (a + i) from rfl)) ?_
                            refine v_M_136 X hz (c_M_setByte (zl z) E (fiS (up (trS ρ (b - dl)) 20 0 (600 * t + q + 3) (Int.bmod (Int.bmod 0 256) 256)) 20 (600 * t + q + 20 + kl) f i) t q (kl + i) (ρ 21 0 (a + i)) ht (by omega)) rfl rfl rfl (Nat.le_of_ble_eq_true rfl) ⟨Nat.le_refl _, Nat.le_refl _⟩ d_M_transfer_255 ?_
                            refine j_iinc X rfl (zlt hn rfl) d_M_transfer_258 ?_
                            refine j_goto X d_M_transfer_261 (tgt := 219) rfl ?_
                            rw [show 600 * t + q + 20 + (kl + i) = 600 * t + q + 20 + kl + i by omega, fi_s (k := 20) hi.1 (hf i hi.1 (by omega))]; exact ih (i + 1) (by omega) (by omega)
                      have := kyl 0 (by omega); rw [fi_0] at this; exact this
                · exact absurd h162 (by omega)
              · exact absurd h130 (by omega)
            · exact absurd h96 (by omega)
          · exact absurd h73 (by omega)
        · exact absurd h59 (by omega)
      · skip
        refine j_aload_n X rfl d_M_transfer_42 ?_
        refine g_M_94 X d_M_transfer_43 ?_
        refine j_topi (congrArg iI e11) ?_
        refine j_iconst X d_M_transfer_46 ?_
        refine j_icmp_ne X (by omega) (by omega) d_M_transfer_47 (tgt := 54) rfl (fun h47 => ?_) (fun h47 => ?_)
        · exact absurd h47 (by omega)
        · skip
          refine j_iconst X d_M_transfer_50 ?_
          refine j_goto X d_M_transfer_51 (tgt := 55) rfl ?_
          refine j_istore X (zlt hn rfl) d_M_transfer_55 ?_
          refine j_iload X rfl d_M_transfer_57 ?_
          refine j_if_ne X (by omega) d_M_transfer_59 (tgt := 70) rfl (fun h59 => ?_) (fun h59 => ?_)
          · skip
            refine j_aload_n X rfl d_M_transfer_70 ?_
            refine j_iload X rfl d_M_transfer_71 ?_
            refine j_if_eq X (by omega) d_M_transfer_73 (tgt := 80) rfl (fun h73 => ?_) (fun h73 => ?_)
            · skip
              refine j_iconst X d_M_transfer_80 ?_
              refine v_M_111 X hz (hor) rfl rfl rfl (Nat.le_of_ble_eq_true rfl) ⟨Nat.le_refl _, Nat.le_refl _⟩ d_M_transfer_81 ?_
              refine j_aload_n X rfl d_M_transfer_84 ?_
              refine j_dup X rfl d_M_transfer_85 ?_
              refine g_M_123 X d_M_transfer_86 ?_
              refine j_iconst X d_M_transfer_89 ?_
              refine j_iadd X d_M_transfer_90 ?_
              refine p_M_123 X d_M_transfer_91 ?_
              refine j_iload X rfl d_M_transfer_94 ?_
              refine j_if_eq X (by omega) d_M_transfer_96 (tgt := 114) rfl (fun h96 => ?_) (fun h96 => ?_)
              · skip
                refine j_aload_n X rfl d_M_transfer_114 ?_
                refine j_aload_n X rfl d_M_transfer_115 ?_
                refine g_M_80 X d_M_transfer_116 ?_
                refine j_topi (congrArg iI e9) ?_
                refine j_aload_n X rfl d_M_transfer_119 ?_
                refine g_M_97 X d_M_transfer_120 ?_
                refine j_topi (congrArg iI e10) ?_
                refine v_M_40 X hz (c_M_dataOf (zl z) E (up ρ 18 0 17 (ρ 18 0 17 + 1)) t q ht hq) rfl rfl rfl (Nat.le_of_ble_eq_true rfl) ⟨Nat.le_refl _, Nat.le_refl _⟩ d_M_transfer_123 ?_
                refine j_topi (congrArg iI e2) ?_
                refine j_istore X (zlt hn rfl) d_M_transfer_126 ?_
                refine j_iload X rfl d_M_transfer_128 ?_
                refine j_if_eq X (by omega) d_M_transfer_130 (tgt := 137) rfl (fun h130 => ?_) (fun h130 => ?_)
                · skip
                  refine j_aload_n X rfl d_M_transfer_137 ?_
                  refine j_aload_n X rfl d_M_transfer_138 ?_
                  refine g_M_80 X d_M_transfer_139 ?_
                  refine j_topi (congrArg iI e9) ?_
                  refine j_aload_n X rfl d_M_transfer_142 ?_
                  refine g_M_97 X d_M_transfer_143 ?_
                  refine j_topi (congrArg iI e10) ?_
                  refine v_M_36 X hz (c_M_keyOf (zl z) E (up ρ 18 0 17 (ρ 18 0 17 + 1)) t q ht hq) rfl rfl rfl (Nat.le_of_ble_eq_true rfl) ⟨Nat.le_refl _, Nat.le_refl _⟩ d_M_transfer_146 ?_
                  refine j_topi (congrArg iI e1) ?_
                  refine j_istore X (zlt hn rfl) d_M_transfer_149 ?_
                  refine j_aload_n X rfl d_M_transfer_151 ?_
                  refine j_iload_n X rfl d_M_transfer_152 ?_
                  refine j_iload X rfl d_M_transfer_153 ?_
                  refine j_isub X d_M_transfer_155 ?_
                  refine p_M_126 X d_M_transfer_156 ?_
                  refine j_iload_n X rfl d_M_transfer_159 ?_
                  refine j_bipush X rfl d_M_transfer_160 ?_
                  refine j_icmp_ne X (by omega) (by omega) d_M_transfer_162 (tgt := 191) rfl (fun h162 => ?_) (fun h162 => ?_)
                  · skip
                    refine j_iload_n X rfl d_M_transfer_191 ?_
                    refine j_bipush X rfl d_M_transfer_192 ?_
                    refine j_icmp_ne X (by omega) (by omega) d_M_transfer_194 (tgt := 280) rfl (fun h194 => ?_) (fun h194 => ?_)
                    · exact absurd h194 (by omega)
                    · skip
                      refine j_iload_n X rfl d_M_transfer_197 ?_
                      refine j_iload X rfl d_M_transfer_198 ?_
                      refine j_icmp_ne X (by omega) (by omega) d_M_transfer_200 (tgt := 216) rfl (fun h200 => ?_) (fun h200 => ?_)
                      · exact absurd h200 (by omega)
                      · skip
                        refine j_aload_n X rfl d_M_transfer_203 ?_
                        refine j_aload_n X rfl d_M_transfer_204 ?_
                        refine g_M_80 X d_M_transfer_205 ?_
                        refine j_topi (congrArg iI e9) ?_
                        refine j_aload_n X rfl d_M_transfer_208 ?_
                        refine g_M_97 X d_M_transfer_209 ?_
                        refine j_topi (congrArg iI e10) ?_
                        refine j_iconst X d_M_transfer_212 ?_
                        refine v_M_132 X hz (c_M_spoilAt (zl z) E (trS ρ (b - dl)) t q 0 ht hq) rfl rfl rfl (Nat.le_of_ble_eq_true rfl) ⟨Nat.le_refl _, Nat.le_refl _⟩ d_M_transfer_213 ?_
                        refine j_iconst X d_M_transfer_216 ?_
                        refine j_istore X (zlt hn rfl) d_M_transfer_217 ?_
                        have kyl : ∀ i : Int, (0 ≤ i ∧ i ≤ dl) → J E z 0 0 219 [(0, .ref (E.2.2.2 18 0)), (1, .int (iI 8)), (2, .int (iI a)), (3, .int (iI b)), (4, .int (iI 0)), (5, .int (iI 1)), (6, .int (iI dl)), (7, .int (iI kl)), (8, .int (iI i))] [] (cells E (fiS (up (trS ρ (b - dl)) 20 0 (600 * t + q + 3) (Int.bmod (Int.bmod 0 256) 256)) 20 (600 * t + q + 20 + kl) f i)) := by
                          refine j_loop (fun i : Int => (dl - i).toNat) _ _ (fun i hi ih => ?_)
                          refine j_iload X rfl d_M_transfer_219 ?_
                          refine j_iload X rfl d_M_transfer_221 ?_
                          refine j_icmp_ge X (by omega) (by omega) d_M_transfer_223 (tgt := 264) rfl (fun h223 => ?_) (fun h223 => ?_)
                          · skip
                            refine j_aload_n X rfl d_M_transfer_264 ?_
                            refine j_iload_n X rfl d_M_transfer_265 ?_
                            refine j_iload X rfl d_M_transfer_266 ?_
                            refine j_icmp_ne X (by omega) (by omega) d_M_transfer_268 (tgt := 275) rfl (fun h268 => ?_) (fun h268 => ?_)
                            · exact absurd h268 (by omega)
                            · skip
                              refine j_iconst X d_M_transfer_271 ?_
                              refine j_goto X d_M_transfer_272 (tgt := 276) rfl ?_
                              refine p_M_91 X d_M_transfer_276 ?_
                              exact j_vret X Y (Nat.le_refl _) (Nat.le_refl _) d_M_transfer_279 ⟨rfl, by rw [show i = dl by omega]⟩
                          · skip
                            refine j_iload_n X rfl d_M_transfer_226 ?_
                            refine j_iload X rfl d_M_transfer_227 ?_
                            refine j_icmp_ne X (by omega) (by omega) d_M_transfer_229 (tgt := 264) rfl (fun h229 => ?_) (fun h229 => ?_)
                            · exact absurd h229 (by omega)
                            · skip
                              refine j_aload_n X rfl d_M_transfer_232 ?_
                              refine j_aload_n X rfl d_M_transfer_233 ?_
                              refine g_M_80 X d_M_transfer_234 ?_
                              refine j_topi (congrArg iI e9) ?_
                              refine j_aload_n X rfl d_M_transfer_237 ?_
                              refine g_M_97 X d_M_transfer_238 ?_
                              refine j_topi (congrArg iI e10) ?_
                              refine j_iload X rfl d_M_transfer_241 ?_
                              refine j_iload X rfl d_M_transfer_243 ?_
                              refine j_iadd X d_M_transfer_245 ?_
                              refine j_aload_n X rfl d_M_transfer_246 ?_
                              refine g_M_16 X d_M_transfer_247 ?_
                              refine j_iload_n X rfl d_M_transfer_250 ?_
                              refine j_iload X rfl d_M_transfer_251 ?_
                              refine j_iadd X d_M_transfer_253 ?_
                              refine j_iald X (by first | exact okC1 rfl | exact (okCT rfl (by omega))) (fun _ => rfl) rfl (by omega) d_M_transfer_254 ?_
                              refine j_topi (congrArg iI (show fiS (up (trS ρ (b - dl)) 20 0 (600 * t + q + 3) (Int.bmod (Int.bmod 0 256) 256)) 20 (600 * t + q + 20 + kl) f i 21 0 (a + i) = ρ 21 0 (a + i) from rfl)) ?_
                              refine v_M_136 X hz (c_M_setByte (zl z) E (fiS (up (trS ρ (b - dl)) 20 0 (600 * t + q + 3) (Int.bmod (Int.bmod 0 256) 256)) 20 (600 * t + q + 20 + kl) f i) t q (kl + i) (ρ 21 0 (a + i)) ht (by omega)) rfl rfl rfl (Nat.le_of_ble_eq_true rfl) ⟨Nat.le_refl _, Nat.le_refl _⟩ d_M_transfer_255 ?_
                              refine j_iinc X rfl (zlt hn rfl) d_M_transfer_258 ?_
                              refine j_goto X d_M_transfer_261 (tgt := 219) rfl ?_
                              rw [show 600 * t + q + 20 + (kl + i) = 600 * t + q + 20 + kl + i by omega, fi_s (k := 20) hi.1 (hf i hi.1 (by omega))]; exact ih (i + 1) (by omega) (by omega)
                        have := kyl 0 (by omega); rw [fi_0] at this; exact this
                  · exact absurd h162 (by omega)
                · exact absurd h130 (by omega)
              · exact absurd h96 (by omega)
            · exact absurd h73 (by omega)
          · exact absurd h59 (by omega)
    · exact absurd h15 (by omega)
  · exact absurd h3 (by omega)

set_option maxRecDepth 100000 in
set_option maxHeartbeats 4000000 in
theorem c_M_transfer8hn (l : Launch) (E : eT) (σ ρ : St) (a b t q kl dl sd : Int) (e11 : σ 18 0 11 = sd) (rsd : inR sd) (hsd : sd = 1 ∨ sd = 2) (hor : FCon l E y_M_orient ws_M_orient 3 [.ref (E.2.2.2 18 0), .int (iI 3)] σ none ρ) (e9 : ρ 18 0 9 = t) (ht : 0 ≤ t ∧ t < 32) (e10 : ρ 18 0 10 = q) (hq : 0 ≤ q ∧ q ≤ 580) (e1 : ρ 20 0 (600 * t + q + 1) = kl) (e2 : ρ 20 0 (600 * t + q + 2) = dl) (hkl : 0 ≤ kl ∧ kl ≤ 8) (hdl : 0 ≤ dl ∧ dl ≤ 60) (he : q + 20 + kl + dl ≤ 600) (ha : 0 ≤ a ∧ a + b ≤ 256) (hb : 0 ≤ b ∧ b ≤ 60) (hbn : ¬ b = dl) : FCon l E y_M_transfer ws_M_transfer 5 [.ref (E.2.2.2 18 0), .int (iI 8), .int (iI a), .int (iI b)] σ none (up (trS ρ (b - dl)) 18 0 18 3) := by
  refine con_of (cc := b_M_transfer) (nL := 9) (ret := none) (by decide) (Nat.le_of_ble_eq_true rfl) (fun z X Y hn => ?_)
  have X : Cx E z b_M_transfer R_M := X
  have hz := Y.2.1
  change J E z 0 0 0 [(0, .ref (E.2.2.2 18 0)), (1, .int (iI 8)), (2, .int (iI a)), (3, .int (iI b))] [] (cells E σ)
  rw [← Y.1] at hor
  refine j_iload_n X rfl d_M_transfer_0 ?_
  refine j_bipush X rfl d_M_transfer_1 ?_
  refine j_icmp_ne X (by omega) (by omega) d_M_transfer_3 (tgt := 10) rfl (fun h3 => ?_) (fun h3 => ?_)
  · skip
    refine j_iconst X d_M_transfer_10 ?_
    refine j_istore X (zlt hn rfl) d_M_transfer_11 ?_
    refine j_iload X rfl d_M_transfer_13 ?_
    refine j_if_eq X (by omega) d_M_transfer_15 (tgt := 34) rfl (fun h15 => ?_) (fun h15 => ?_)
    · skip
      refine j_aload_n X rfl d_M_transfer_34 ?_
      refine g_M_94 X d_M_transfer_35 ?_
      refine j_topi (congrArg iI e11) ?_
      refine j_iconst X d_M_transfer_38 ?_
      refine j_icmp_eq X (by omega) (by omega) d_M_transfer_39 (tgt := 50) rfl (fun h39 => ?_) (fun h39 => ?_)
      · skip
        refine j_iconst X d_M_transfer_50 ?_
        refine j_goto X d_M_transfer_51 (tgt := 55) rfl ?_
        refine j_istore X (zlt hn rfl) d_M_transfer_55 ?_
        refine j_iload X rfl d_M_transfer_57 ?_
        refine j_if_ne X (by omega) d_M_transfer_59 (tgt := 70) rfl (fun h59 => ?_) (fun h59 => ?_)
        · skip
          refine j_aload_n X rfl d_M_transfer_70 ?_
          refine j_iload X rfl d_M_transfer_71 ?_
          refine j_if_eq X (by omega) d_M_transfer_73 (tgt := 80) rfl (fun h73 => ?_) (fun h73 => ?_)
          · skip
            refine j_iconst X d_M_transfer_80 ?_
            refine v_M_111 X hz (hor) rfl rfl rfl (Nat.le_of_ble_eq_true rfl) ⟨Nat.le_refl _, Nat.le_refl _⟩ d_M_transfer_81 ?_
            refine j_aload_n X rfl d_M_transfer_84 ?_
            refine j_dup X rfl d_M_transfer_85 ?_
            refine g_M_123 X d_M_transfer_86 ?_
            refine j_iconst X d_M_transfer_89 ?_
            refine j_iadd X d_M_transfer_90 ?_
            refine p_M_123 X d_M_transfer_91 ?_
            refine j_iload X rfl d_M_transfer_94 ?_
            refine j_if_eq X (by omega) d_M_transfer_96 (tgt := 114) rfl (fun h96 => ?_) (fun h96 => ?_)
            · skip
              refine j_aload_n X rfl d_M_transfer_114 ?_
              refine j_aload_n X rfl d_M_transfer_115 ?_
              refine g_M_80 X d_M_transfer_116 ?_
              refine j_topi (congrArg iI e9) ?_
              refine j_aload_n X rfl d_M_transfer_119 ?_
              refine g_M_97 X d_M_transfer_120 ?_
              refine j_topi (congrArg iI e10) ?_
              refine v_M_40 X hz (c_M_dataOf (zl z) E (up ρ 18 0 17 (ρ 18 0 17 + 1)) t q ht hq) rfl rfl rfl (Nat.le_of_ble_eq_true rfl) ⟨Nat.le_refl _, Nat.le_refl _⟩ d_M_transfer_123 ?_
              refine j_topi (congrArg iI e2) ?_
              refine j_istore X (zlt hn rfl) d_M_transfer_126 ?_
              refine j_iload X rfl d_M_transfer_128 ?_
              refine j_if_eq X (by omega) d_M_transfer_130 (tgt := 137) rfl (fun h130 => ?_) (fun h130 => ?_)
              · skip
                refine j_aload_n X rfl d_M_transfer_137 ?_
                refine j_aload_n X rfl d_M_transfer_138 ?_
                refine g_M_80 X d_M_transfer_139 ?_
                refine j_topi (congrArg iI e9) ?_
                refine j_aload_n X rfl d_M_transfer_142 ?_
                refine g_M_97 X d_M_transfer_143 ?_
                refine j_topi (congrArg iI e10) ?_
                refine v_M_36 X hz (c_M_keyOf (zl z) E (up ρ 18 0 17 (ρ 18 0 17 + 1)) t q ht hq) rfl rfl rfl (Nat.le_of_ble_eq_true rfl) ⟨Nat.le_refl _, Nat.le_refl _⟩ d_M_transfer_146 ?_
                refine j_topi (congrArg iI e1) ?_
                refine j_istore X (zlt hn rfl) d_M_transfer_149 ?_
                refine j_aload_n X rfl d_M_transfer_151 ?_
                refine j_iload_n X rfl d_M_transfer_152 ?_
                refine j_iload X rfl d_M_transfer_153 ?_
                refine j_isub X d_M_transfer_155 ?_
                refine p_M_126 X d_M_transfer_156 ?_
                refine j_iload_n X rfl d_M_transfer_159 ?_
                refine j_bipush X rfl d_M_transfer_160 ?_
                refine j_icmp_ne X (by omega) (by omega) d_M_transfer_162 (tgt := 191) rfl (fun h162 => ?_) (fun h162 => ?_)
                · skip
                  refine j_iload_n X rfl d_M_transfer_191 ?_
                  refine j_bipush X rfl d_M_transfer_192 ?_
                  refine j_icmp_ne X (by omega) (by omega) d_M_transfer_194 (tgt := 280) rfl (fun h194 => ?_) (fun h194 => ?_)
                  · exact absurd h194 (by omega)
                  · skip
                    refine j_iload_n X rfl d_M_transfer_197 ?_
                    refine j_iload X rfl d_M_transfer_198 ?_
                    refine j_icmp_ne X (by omega) (by omega) d_M_transfer_200 (tgt := 216) rfl (fun h200 => ?_) (fun h200 => ?_)
                    · skip
                      refine j_iconst X d_M_transfer_216 ?_
                      refine j_istore X (zlt hn rfl) d_M_transfer_217 ?_
                      refine j_iload X rfl d_M_transfer_219 ?_
                      refine j_iload X rfl d_M_transfer_221 ?_
                      refine j_icmp_ge X (by omega) (by omega) d_M_transfer_223 (tgt := 264) rfl (fun h223 => ?_) (fun h223 => ?_)
                      · skip
                        refine j_aload_n X rfl d_M_transfer_264 ?_
                        refine j_iload_n X rfl d_M_transfer_265 ?_
                        refine j_iload X rfl d_M_transfer_266 ?_
                        refine j_icmp_ne X (by omega) (by omega) d_M_transfer_268 (tgt := 275) rfl (fun h268 => ?_) (fun h268 => ?_)
                        · skip
                          refine j_iconst X d_M_transfer_275 ?_
                          refine p_M_91 X d_M_transfer_276 ?_
                          exact j_vret X Y (Nat.le_refl _) (Nat.le_refl _) d_M_transfer_279 ⟨rfl, rfl⟩
                        · exact absurd h268 (by omega)
                      · skip
                        refine j_iload_n X rfl d_M_transfer_226 ?_
                        refine j_iload X rfl d_M_transfer_227 ?_
                        refine j_icmp_ne X (by omega) (by omega) d_M_transfer_229 (tgt := 264) rfl (fun h229 => ?_) (fun h229 => ?_)
                        · skip
                          refine j_aload_n X rfl d_M_transfer_264 ?_
                          refine j_iload_n X rfl d_M_transfer_265 ?_
                          refine j_iload X rfl d_M_transfer_266 ?_
                          refine j_icmp_ne X (by omega) (by omega) d_M_transfer_268 (tgt := 275) rfl (fun h268 => ?_) (fun h268 => ?_)
                          · skip
                            refine j_iconst X d_M_transfer_275 ?_
                            refine p_M_91 X d_M_transfer_276 ?_
                            exact j_vret X Y (Nat.le_refl _) (Nat.le_refl _) d_M_transfer_279 ⟨rfl, rfl⟩
                          · exact absurd h268 (by omega)
                        · exact absurd h229 (by omega)
                    · exact absurd h200 (by omega)
                · exact absurd h162 (by omega)
              · exact absurd h130 (by omega)
            · exact absurd h96 (by omega)
          · exact absurd h73 (by omega)
        · exact absurd h59 (by omega)
      · skip
        refine j_aload_n X rfl d_M_transfer_42 ?_
        refine g_M_94 X d_M_transfer_43 ?_
        refine j_topi (congrArg iI e11) ?_
        refine j_iconst X d_M_transfer_46 ?_
        refine j_icmp_ne X (by omega) (by omega) d_M_transfer_47 (tgt := 54) rfl (fun h47 => ?_) (fun h47 => ?_)
        · exact absurd h47 (by omega)
        · skip
          refine j_iconst X d_M_transfer_50 ?_
          refine j_goto X d_M_transfer_51 (tgt := 55) rfl ?_
          refine j_istore X (zlt hn rfl) d_M_transfer_55 ?_
          refine j_iload X rfl d_M_transfer_57 ?_
          refine j_if_ne X (by omega) d_M_transfer_59 (tgt := 70) rfl (fun h59 => ?_) (fun h59 => ?_)
          · skip
            refine j_aload_n X rfl d_M_transfer_70 ?_
            refine j_iload X rfl d_M_transfer_71 ?_
            refine j_if_eq X (by omega) d_M_transfer_73 (tgt := 80) rfl (fun h73 => ?_) (fun h73 => ?_)
            · skip
              refine j_iconst X d_M_transfer_80 ?_
              refine v_M_111 X hz (hor) rfl rfl rfl (Nat.le_of_ble_eq_true rfl) ⟨Nat.le_refl _, Nat.le_refl _⟩ d_M_transfer_81 ?_
              refine j_aload_n X rfl d_M_transfer_84 ?_
              refine j_dup X rfl d_M_transfer_85 ?_
              refine g_M_123 X d_M_transfer_86 ?_
              refine j_iconst X d_M_transfer_89 ?_
              refine j_iadd X d_M_transfer_90 ?_
              refine p_M_123 X d_M_transfer_91 ?_
              refine j_iload X rfl d_M_transfer_94 ?_
              refine j_if_eq X (by omega) d_M_transfer_96 (tgt := 114) rfl (fun h96 => ?_) (fun h96 => ?_)
              · skip
                refine j_aload_n X rfl d_M_transfer_114 ?_
                refine j_aload_n X rfl d_M_transfer_115 ?_
                refine g_M_80 X d_M_transfer_116 ?_
                refine j_topi (congrArg iI e9) ?_
                refine j_aload_n X rfl d_M_transfer_119 ?_
                refine g_M_97 X d_M_transfer_120 ?_
                refine j_topi (congrArg iI e10) ?_
                refine v_M_40 X hz (c_M_dataOf (zl z) E (up ρ 18 0 17 (ρ 18 0 17 + 1)) t q ht hq) rfl rfl rfl (Nat.le_of_ble_eq_true rfl) ⟨Nat.le_refl _, Nat.le_refl _⟩ d_M_transfer_123 ?_
                refine j_topi (congrArg iI e2) ?_
                refine j_istore X (zlt hn rfl) d_M_transfer_126 ?_
                refine j_iload X rfl d_M_transfer_128 ?_
                refine j_if_eq X (by omega) d_M_transfer_130 (tgt := 137) rfl (fun h130 => ?_) (fun h130 => ?_)
                · skip
                  refine j_aload_n X rfl d_M_transfer_137 ?_
                  refine j_aload_n X rfl d_M_transfer_138 ?_
                  refine g_M_80 X d_M_transfer_139 ?_
                  refine j_topi (congrArg iI e9) ?_
                  refine j_aload_n X rfl d_M_transfer_142 ?_
                  refine g_M_97 X d_M_transfer_143 ?_
                  refine j_topi (congrArg iI e10) ?_
                  refine v_M_36 X hz (c_M_keyOf (zl z) E (up ρ 18 0 17 (ρ 18 0 17 + 1)) t q ht hq) rfl rfl rfl (Nat.le_of_ble_eq_true rfl) ⟨Nat.le_refl _, Nat.le_refl _⟩ d_M_transfer_146 ?_
                  refine j_topi (congrArg iI e1) ?_
                  refine j_istore X (zlt hn rfl) d_M_transfer_149 ?_
                  refine j_aload_n X rfl d_M_transfer_151 ?_
                  refine j_iload_n X rfl d_M_transfer_152 ?_
                  refine j_iload X rfl d_M_transfer_153 ?_
                  refine j_isub X d_M_transfer_155 ?_
                  refine p_M_126 X d_M_transfer_156 ?_
                  refine j_iload_n X rfl d_M_transfer_159 ?_
                  refine j_bipush X rfl d_M_transfer_160 ?_
                  refine j_icmp_ne X (by omega) (by omega) d_M_transfer_162 (tgt := 191) rfl (fun h162 => ?_) (fun h162 => ?_)
                  · skip
                    refine j_iload_n X rfl d_M_transfer_191 ?_
                    refine j_bipush X rfl d_M_transfer_192 ?_
                    refine j_icmp_ne X (by omega) (by omega) d_M_transfer_194 (tgt := 280) rfl (fun h194 => ?_) (fun h194 => ?_)
                    · exact absurd h194 (by omega)
                    · skip
                      refine j_iload_n X rfl d_M_transfer_197 ?_
                      refine j_iload X rfl d_M_transfer_198 ?_
                      refine j_icmp_ne X (by omega) (by omega) d_M_transfer_200 (tgt := 216) rfl (fun h200 => ?_) (fun h200 => ?_)
                      · skip
                        refine j_iconst X d_M_transfer_216 ?_
                        refine j_istore X (zlt hn rfl) d_M_transfer_217 ?_
                        refine j_iload X rfl d_M_transfer_219 ?_
                        refine j_iload X rfl d_M_transfer_221 ?_
                        refine j_icmp_ge X (by omega) (by omega) d_M_transfer_223 (tgt := 264) rfl (fun h223 => ?_) (fun h223 => ?_)
                        · skip
                          refine j_aload_n X rfl d_M_transfer_264 ?_
                          refine j_iload_n X rfl d_M_transfer_265 ?_
                          refine j_iload X rfl d_M_transfer_266 ?_
                          refine j_icmp_ne X (by omega) (by omega) d_M_transfer_268 (tgt := 275) rfl (fun h268 => ?_) (fun h268 => ?_)
                          · skip
                            refine j_iconst X d_M_transfer_275 ?_
                            refine p_M_91 X d_M_transfer_276 ?_
                            exact j_vret X Y (Nat.le_refl _) (Nat.le_refl _) d_M_transfer_279 ⟨rfl, rfl⟩
                          · exact absurd h268 (by omega)
                        · skip
                          refine j_iload_n X rfl d_M_transfer_226 ?_
                          refine j_iload X rfl d_M_transfer_227 ?_
                          refine j_icmp_ne X (by omega) (by omega) d_M_transfer_229 (tgt := 264) rfl (fun h229 => ?_) (fun h229 => ?_)
                          · skip
                            refine j_aload_n X rfl d_M_transfer_264 ?_
                            refine j_iload_n X rfl d_M_transfer_265 ?_
                            refine j_iload X rfl d_M_transfer_266 ?_
                            refine j_icmp_ne X (by omega) (by omega) d_M_transfer_268 (tgt := 275) rfl (fun h268 => ?_) (fun h268 => ?_)
                            · skip
                              refine j_iconst X d_M_transfer_275 ?_
                              refine p_M_91 X d_M_transfer_276 ?_
                              exact j_vret X Y (Nat.le_refl _) (Nat.le_refl _) d_M_transfer_279 ⟨rfl, rfl⟩
                            · exact absurd h268 (by omega)
                          · exact absurd h229 (by omega)
                      · exact absurd h200 (by omega)
                  · exact absurd h162 (by omega)
                · exact absurd h130 (by omega)
              · exact absurd h96 (by omega)
            · exact absurd h73 (by omega)
          · exact absurd h59 (by omega)
    · exact absurd h15 (by omega)
  · exact absurd h3 (by omega)

set_option maxRecDepth 100000 in
set_option maxHeartbeats 4000000 in
theorem c_M_transfer6m (l : Launch) (E : eT) (σ τ ρ : St) (a b t q kl dl sd : Int) (f : Int → Int) (e11 : σ 18 0 11 = sd) (rsd : inR sd) (hsd : ¬ sd = 1) (hmv : FCon l E y_M_movesOn ws_M_movesOn 3 [.ref (E.2.2.2 18 0)] σ (some (.int (iI 1))) τ) (hor : FCon l E y_M_orient ws_M_orient 3 [.ref (E.2.2.2 18 0), .int (iI 2)] τ none ρ) (e9 : ρ 18 0 9 = t) (ht : 0 ≤ t ∧ t < 32) (e10 : ρ 18 0 10 = q) (hq : 0 ≤ q ∧ q ≤ 580) (e1 : ρ 20 0 (600 * t + q + 1) = kl) (e2 : ρ 20 0 (600 * t + q + 2) = dl) (hkl : 0 ≤ kl ∧ kl ≤ 8) (hdl : 0 ≤ dl ∧ dl ≤ 60) (he : q + 20 + kl + dl ≤ 600) (ha : 0 ≤ a ∧ a + b ≤ 256) (hb : 0 ≤ b ∧ b ≤ 60) (hf : ∀ i, 0 ≤ i → i < kl → ρ 20 0 (600 * t + q + 20 + (0 + i)) % 256 = f i) : FCon l E y_M_transfer ws_M_transfer 5 [.ref (E.2.2.2 18 0), .int (iI 6), .int (iI a), .int (iI b)] σ none (up (fiS (trS ρ (b - kl)) 21 a f (if kl < b then kl else b)) 18 0 18 (if b - kl < 0 then 3 else 0)) := by
  refine con_of (cc := b_M_transfer) (nL := 9) (ret := none) (by decide) (Nat.le_of_ble_eq_true rfl) (fun z X Y hn => ?_)
  have X : Cx E z b_M_transfer R_M := X
  have hz := Y.2.1
  change J E z 0 0 0 [(0, .ref (E.2.2.2 18 0)), (1, .int (iI 6)), (2, .int (iI a)), (3, .int (iI b))] [] (cells E σ)
  rw [← Y.1] at hor hmv
  refine j_iload_n X rfl d_M_transfer_0 ?_
  refine j_bipush X rfl d_M_transfer_1 ?_
  refine j_icmp_ne X (by omega) (by omega) d_M_transfer_3 (tgt := 10) rfl (fun h3 => ?_) (fun h3 => ?_)
  · exact absurd h3 (by omega)
  · skip
    refine j_iconst X d_M_transfer_6 ?_
    refine j_goto X d_M_transfer_7 (tgt := 11) rfl ?_
    refine j_istore X (zlt hn rfl) d_M_transfer_11 ?_
    refine j_iload X rfl d_M_transfer_13 ?_
    refine j_if_eq X (by omega) d_M_transfer_15 (tgt := 34) rfl (fun h15 => ?_) (fun h15 => ?_)
    · exact absurd h15 (by omega)
    · skip
      refine j_aload_n X rfl d_M_transfer_18 ?_
      refine g_M_94 X d_M_transfer_19 ?_
      refine j_topi (congrArg iI e11) ?_
      refine j_iconst X d_M_transfer_22 ?_
      refine j_icmp_ne X (by omega) (by omega) d_M_transfer_23 (tgt := 30) rfl (fun h23 => ?_) (fun h23 => ?_)
      · skip
        refine j_iconst X d_M_transfer_30 ?_
        refine j_goto X d_M_transfer_31 (tgt := 55) rfl ?_
        refine j_istore X (zlt hn rfl) d_M_transfer_55 ?_
        refine j_iload X rfl d_M_transfer_57 ?_
        refine j_if_ne X (by omega) d_M_transfer_59 (tgt := 70) rfl (fun h59 => ?_) (fun h59 => ?_)
        · exact absurd h59 (by omega)
        · skip
          refine j_aload_n X rfl d_M_transfer_62 ?_
          refine v_M_107 X hz (hmv) rfl rfl rfl (Nat.le_of_ble_eq_true rfl) ⟨Nat.le_refl _, Nat.le_refl _⟩ d_M_transfer_63 ?_
          refine j_if_ne X (by omega) d_M_transfer_66 (tgt := 70) rfl (fun _ => ?_) (fun h => absurd h (by omega))
          refine j_aload_n X rfl d_M_transfer_70 ?_
          refine j_iload X rfl d_M_transfer_71 ?_
          refine j_if_eq X (by omega) d_M_transfer_73 (tgt := 80) rfl (fun h73 => ?_) (fun h73 => ?_)
          · exact absurd h73 (by omega)
          · skip
            refine j_iconst X d_M_transfer_76 ?_
            refine j_goto X d_M_transfer_77 (tgt := 81) rfl ?_
            refine v_M_111 X hz (hor) rfl rfl rfl (Nat.le_of_ble_eq_true rfl) ⟨Nat.le_refl _, Nat.le_refl _⟩ d_M_transfer_81 ?_
            refine j_aload_n X rfl d_M_transfer_84 ?_
            refine j_dup X rfl d_M_transfer_85 ?_
            refine g_M_123 X d_M_transfer_86 ?_
            refine j_iconst X d_M_transfer_89 ?_
            refine j_iadd X d_M_transfer_90 ?_
            refine p_M_123 X d_M_transfer_91 ?_
            refine j_iload X rfl d_M_transfer_94 ?_
            refine j_if_eq X (by omega) d_M_transfer_96 (tgt := 114) rfl (fun h96 => ?_) (fun h96 => ?_)
            · exact absurd h96 (by omega)
            · skip
              refine j_aload_n X rfl d_M_transfer_99 ?_
              refine j_aload_n X rfl d_M_transfer_100 ?_
              refine g_M_80 X d_M_transfer_101 ?_
              refine j_topi (congrArg iI e9) ?_
              refine j_aload_n X rfl d_M_transfer_104 ?_
              refine g_M_97 X d_M_transfer_105 ?_
              refine j_topi (congrArg iI e10) ?_
              refine v_M_36 X hz (c_M_keyOf (zl z) E (up ρ 18 0 17 (ρ 18 0 17 + 1)) t q ht hq) rfl rfl rfl (Nat.le_of_ble_eq_true rfl) ⟨Nat.le_refl _, Nat.le_refl _⟩ d_M_transfer_108 ?_
              refine j_topi (congrArg iI e1) ?_
              refine j_goto X d_M_transfer_111 (tgt := 126) rfl ?_
              refine j_istore X (zlt hn rfl) d_M_transfer_126 ?_
              refine j_iload X rfl d_M_transfer_128 ?_
              refine j_if_eq X (by omega) d_M_transfer_130 (tgt := 137) rfl (fun h130 => ?_) (fun h130 => ?_)
              · exact absurd h130 (by omega)
              · skip
                refine j_iconst X d_M_transfer_133 ?_
                refine j_goto X d_M_transfer_134 (tgt := 149) rfl ?_
                refine j_istore X (zlt hn rfl) d_M_transfer_149 ?_
                refine j_aload_n X rfl d_M_transfer_151 ?_
                refine j_iload_n X rfl d_M_transfer_152 ?_
                refine j_iload X rfl d_M_transfer_153 ?_
                refine j_isub X d_M_transfer_155 ?_
                refine p_M_126 X d_M_transfer_156 ?_
                refine j_iload_n X rfl d_M_transfer_159 ?_
                refine j_bipush X rfl d_M_transfer_160 ?_
                refine j_icmp_ne X (by omega) (by omega) d_M_transfer_162 (tgt := 191) rfl (fun h162 => ?_) (fun h162 => ?_)
                · skip
                  refine j_iload_n X rfl d_M_transfer_191 ?_
                  refine j_bipush X rfl d_M_transfer_192 ?_
                  refine j_icmp_ne X (by omega) (by omega) d_M_transfer_194 (tgt := 280) rfl (fun h194 => ?_) (fun h194 => ?_)
                  · skip
                    refine j_iconst X d_M_transfer_280 ?_
                    refine j_istore X (zlt hn rfl) d_M_transfer_281 ?_
                    have kyl : ∀ i : Int, (0 ≤ i ∧ i ≤ kl ∧ i ≤ b) → J E z 0 0 283 [(0, .ref (E.2.2.2 18 0)), (1, .int (iI 6)), (2, .int (iI a)), (3, .int (iI b)), (4, .int (iI 1)), (5, .int (iI 0)), (6, .int (iI kl)), (7, .int (iI 0)), (8, .int (iI i))] [] (cells E (fiS (trS ρ (b - kl)) 21 a f i)) := by
                      refine j_loop (fun i : Int => (b - i).toNat) _ _ (fun i hi ih => ?_)
                      refine j_iload X rfl d_M_transfer_283 ?_
                      refine j_iload X rfl d_M_transfer_285 ?_
                      refine j_icmp_ge X (by omega) (by omega) d_M_transfer_287 (tgt := 328) rfl (fun h287 => ?_) (fun h287 => ?_)
                      · skip
                        refine j_aload_n X rfl d_M_transfer_328 ?_
                        refine j_aload_n X rfl d_M_transfer_329 ?_
                        refine g_M_126 X d_M_transfer_330 ?_
                        refine j_topi (congrArg iI (show fiS (trS ρ (b - kl)) 21 a f i 18 0 13 = b - kl from rfl)) ?_
                        refine j_if_ge X (by omega) d_M_transfer_333 (tgt := 340) rfl (fun h333 => ?_) (fun h333 => ?_)
                        · skip
                          refine j_iconst X d_M_transfer_340 ?_
                          refine p_M_91 X d_M_transfer_341 ?_
                          exact j_vret X Y (Nat.le_refl _) (Nat.le_refl _) d_M_transfer_344 ⟨rfl, by rw [if_neg (show ¬ b - kl < 0 by omega), show i = (if kl < b then kl else b) by split <;> omega]⟩
                        · skip
                          refine j_iconst X d_M_transfer_336 ?_
                          refine j_goto X d_M_transfer_337 (tgt := 341) rfl ?_
                          refine p_M_91 X d_M_transfer_341 ?_
                          exact j_vret X Y (Nat.le_refl _) (Nat.le_refl _) d_M_transfer_344 ⟨rfl, by rw [if_pos (show b - kl < 0 by omega), show i = (if kl < b then kl else b) by split <;> omega]⟩
                      · skip
                        refine j_iload X rfl d_M_transfer_290 ?_
                        refine j_iload_n X rfl d_M_transfer_292 ?_
                        refine j_icmp_ge X (by omega) (by omega) d_M_transfer_293 (tgt := 328) rfl (fun h293 => ?_) (fun h293 => ?_)
                        · skip
                          refine j_aload_n X rfl d_M_transfer_328 ?_
                          refine j_aload_n X rfl d_M_transfer_329 ?_
                          refine g_M_126 X d_M_transfer_330 ?_
                          refine j_topi (congrArg iI (show fiS (trS ρ (b - kl)) 21 a f i 18 0 13 = b - kl from rfl)) ?_
                          refine j_if_ge X (by omega) d_M_transfer_333 (tgt := 340) rfl (fun h333 => ?_) (fun h333 => ?_)
                          · skip
                            refine j_iconst X d_M_transfer_340 ?_
                            refine p_M_91 X d_M_transfer_341 ?_
                            exact j_vret X Y (Nat.le_refl _) (Nat.le_refl _) d_M_transfer_344 ⟨rfl, by rw [if_neg (show ¬ b - kl < 0 by omega), show i = (if kl < b then kl else b) by split <;> omega]⟩
                          · skip
                            refine j_iconst X d_M_transfer_336 ?_
                            refine j_goto X d_M_transfer_337 (tgt := 341) rfl ?_
                            refine p_M_91 X d_M_transfer_341 ?_
                            exact j_vret X Y (Nat.le_refl _) (Nat.le_refl _) d_M_transfer_344 ⟨rfl, by rw [if_pos (show b - kl < 0 by omega), show i = (if kl < b then kl else b) by split <;> omega]⟩
                        · skip
                          refine j_aload_n X rfl d_M_transfer_296 ?_
                          refine g_M_16 X d_M_transfer_297 ?_
                          refine j_iload_n X rfl d_M_transfer_300 ?_
                          refine j_iload X rfl d_M_transfer_301 ?_
                          refine j_iadd X d_M_transfer_303 ?_
                          refine j_aload_n X rfl d_M_transfer_304 ?_
                          refine j_aload_n X rfl d_M_transfer_305 ?_
                          refine g_M_80 X d_M_transfer_306 ?_
                          refine j_topi (congrArg iI e9) ?_
                          refine j_aload_n X rfl d_M_transfer_309 ?_
                          refine g_M_97 X d_M_transfer_310 ?_
                          refine j_topi (congrArg iI e10) ?_
                          refine j_iload X rfl d_M_transfer_313 ?_
                          refine j_iload X rfl d_M_transfer_315 ?_
                          refine j_iadd X d_M_transfer_317 ?_
                          refine v_M_103 X hz (c_M_byteAt (zl z) E (fiS (trS ρ (b - kl)) 21 a f i) t q (0 + i) ht (by omega)) rfl rfl rfl (Nat.le_of_ble_eq_true rfl) ⟨Nat.le_refl _, Nat.le_refl _⟩ d_M_transfer_318 ?_
                          refine j_topi (congrArg iI (hf i hi.1 h287)) ?_
                          refine j_iast X (by first | exact okC1 rfl | exact (okCT rfl (by omega))) (fun _ => rfl) rfl (by omega) d_M_transfer_321 ?_
                          refine j_iinc X rfl (zlt hn rfl) d_M_transfer_322 ?_
                          refine j_goto X d_M_transfer_325 (tgt := 283) rfl ?_
                          rw [fi_s (v := f i) hi.1 rfl]; exact ih (i + 1) (by omega) (by omega)
                    have := kyl 0 (by omega); rw [fi_0] at this; exact this
                  · exact absurd h194 (by omega)
                · exact absurd h162 (by omega)
      · exact absurd h23 (by omega)

set_option maxRecDepth 100000 in
set_option maxHeartbeats 4000000 in
theorem c_M_transfer7ms (l : Launch) (E : eT) (σ τ ρ : St) (a b t q kl dl sd : Int) (e11 : σ 18 0 11 = sd) (rsd : inR sd) (hsd : ¬ sd = 1 ∧ ¬ sd = 2) (hmv : FCon l E y_M_movesOn ws_M_movesOn 3 [.ref (E.2.2.2 18 0)] σ (some (.int (iI 1))) τ) (hor : FCon l E y_M_orient ws_M_orient 3 [.ref (E.2.2.2 18 0), .int (iI 3)] τ none ρ) (e9 : ρ 18 0 9 = t) (ht : 0 ≤ t ∧ t < 32) (e10 : ρ 18 0 10 = q) (hq : 0 ≤ q ∧ q ≤ 580) (e1 : ρ 20 0 (600 * t + q + 1) = kl) (e2 : ρ 20 0 (600 * t + q + 2) = dl) (hkl : 0 ≤ kl ∧ kl ≤ 8) (hdl : 0 ≤ dl ∧ dl ≤ 60) (he : q + 20 + kl + dl ≤ 600) (ha : 0 ≤ a ∧ a + b ≤ 256) (hb : 0 ≤ b ∧ b ≤ 60) (r3 : inR (ρ 20 0 (600 * t + q + 3))) (hsp : ρ 20 0 (600 * t + q + 3) = 1) : FCon l E y_M_transfer ws_M_transfer 5 [.ref (E.2.2.2 18 0), .int (iI 7), .int (iI a), .int (iI b)] σ none (up (up (trS ρ (b - dl)) 18 0 13 b) 18 0 18 4) := by
  refine con_of (cc := b_M_transfer) (nL := 9) (ret := none) (by decide) (Nat.le_of_ble_eq_true rfl) (fun z X Y hn => ?_)
  have X : Cx E z b_M_transfer R_M := X
  have hz := Y.2.1
  change J E z 0 0 0 [(0, .ref (E.2.2.2 18 0)), (1, .int (iI 7)), (2, .int (iI a)), (3, .int (iI b))] [] (cells E σ)
  rw [← Y.1] at hor hmv
  refine j_iload_n X rfl d_M_transfer_0 ?_
  refine j_bipush X rfl d_M_transfer_1 ?_
  refine j_icmp_ne X (by omega) (by omega) d_M_transfer_3 (tgt := 10) rfl (fun h3 => ?_) (fun h3 => ?_)
  · skip
    refine j_iconst X d_M_transfer_10 ?_
    refine j_istore X (zlt hn rfl) d_M_transfer_11 ?_
    refine j_iload X rfl d_M_transfer_13 ?_
    refine j_if_eq X (by omega) d_M_transfer_15 (tgt := 34) rfl (fun h15 => ?_) (fun h15 => ?_)
    · skip
      refine j_aload_n X rfl d_M_transfer_34 ?_
      refine g_M_94 X d_M_transfer_35 ?_
      refine j_topi (congrArg iI e11) ?_
      refine j_iconst X d_M_transfer_38 ?_
      refine j_icmp_eq X (by omega) (by omega) d_M_transfer_39 (tgt := 50) rfl (fun h39 => ?_) (fun h39 => ?_)
      · exact absurd h39 (by omega)
      · skip
        refine j_aload_n X rfl d_M_transfer_42 ?_
        refine g_M_94 X d_M_transfer_43 ?_
        refine j_topi (congrArg iI e11) ?_
        refine j_iconst X d_M_transfer_46 ?_
        refine j_icmp_ne X (by omega) (by omega) d_M_transfer_47 (tgt := 54) rfl (fun h47 => ?_) (fun h47 => ?_)
        · skip
          refine j_iconst X d_M_transfer_54 ?_
          refine j_istore X (zlt hn rfl) d_M_transfer_55 ?_
          refine j_iload X rfl d_M_transfer_57 ?_
          refine j_if_ne X (by omega) d_M_transfer_59 (tgt := 70) rfl (fun h59 => ?_) (fun h59 => ?_)
          · exact absurd h59 (by omega)
          · skip
            refine j_aload_n X rfl d_M_transfer_62 ?_
            refine v_M_107 X hz (hmv) rfl rfl rfl (Nat.le_of_ble_eq_true rfl) ⟨Nat.le_refl _, Nat.le_refl _⟩ d_M_transfer_63 ?_
            refine j_if_ne X (by omega) d_M_transfer_66 (tgt := 70) rfl (fun _ => ?_) (fun h => absurd h (by omega))
            refine j_aload_n X rfl d_M_transfer_70 ?_
            refine j_iload X rfl d_M_transfer_71 ?_
            refine j_if_eq X (by omega) d_M_transfer_73 (tgt := 80) rfl (fun h73 => ?_) (fun h73 => ?_)
            · skip
              refine j_iconst X d_M_transfer_80 ?_
              refine v_M_111 X hz (hor) rfl rfl rfl (Nat.le_of_ble_eq_true rfl) ⟨Nat.le_refl _, Nat.le_refl _⟩ d_M_transfer_81 ?_
              refine j_aload_n X rfl d_M_transfer_84 ?_
              refine j_dup X rfl d_M_transfer_85 ?_
              refine g_M_123 X d_M_transfer_86 ?_
              refine j_iconst X d_M_transfer_89 ?_
              refine j_iadd X d_M_transfer_90 ?_
              refine p_M_123 X d_M_transfer_91 ?_
              refine j_iload X rfl d_M_transfer_94 ?_
              refine j_if_eq X (by omega) d_M_transfer_96 (tgt := 114) rfl (fun h96 => ?_) (fun h96 => ?_)
              · skip
                refine j_aload_n X rfl d_M_transfer_114 ?_
                refine j_aload_n X rfl d_M_transfer_115 ?_
                refine g_M_80 X d_M_transfer_116 ?_
                refine j_topi (congrArg iI e9) ?_
                refine j_aload_n X rfl d_M_transfer_119 ?_
                refine g_M_97 X d_M_transfer_120 ?_
                refine j_topi (congrArg iI e10) ?_
                refine v_M_40 X hz (c_M_dataOf (zl z) E (up ρ 18 0 17 (ρ 18 0 17 + 1)) t q ht hq) rfl rfl rfl (Nat.le_of_ble_eq_true rfl) ⟨Nat.le_refl _, Nat.le_refl _⟩ d_M_transfer_123 ?_
                refine j_topi (congrArg iI e2) ?_
                refine j_istore X (zlt hn rfl) d_M_transfer_126 ?_
                refine j_iload X rfl d_M_transfer_128 ?_
                refine j_if_eq X (by omega) d_M_transfer_130 (tgt := 137) rfl (fun h130 => ?_) (fun h130 => ?_)
                · skip
                  refine j_aload_n X rfl d_M_transfer_137 ?_
                  refine j_aload_n X rfl d_M_transfer_138 ?_
                  refine g_M_80 X d_M_transfer_139 ?_
                  refine j_topi (congrArg iI e9) ?_
                  refine j_aload_n X rfl d_M_transfer_142 ?_
                  refine g_M_97 X d_M_transfer_143 ?_
                  refine j_topi (congrArg iI e10) ?_
                  refine v_M_36 X hz (c_M_keyOf (zl z) E (up ρ 18 0 17 (ρ 18 0 17 + 1)) t q ht hq) rfl rfl rfl (Nat.le_of_ble_eq_true rfl) ⟨Nat.le_refl _, Nat.le_refl _⟩ d_M_transfer_146 ?_
                  refine j_topi (congrArg iI e1) ?_
                  refine j_istore X (zlt hn rfl) d_M_transfer_149 ?_
                  refine j_aload_n X rfl d_M_transfer_151 ?_
                  refine j_iload_n X rfl d_M_transfer_152 ?_
                  refine j_iload X rfl d_M_transfer_153 ?_
                  refine j_isub X d_M_transfer_155 ?_
                  refine p_M_126 X d_M_transfer_156 ?_
                  refine j_iload_n X rfl d_M_transfer_159 ?_
                  refine j_bipush X rfl d_M_transfer_160 ?_
                  refine j_icmp_ne X (by omega) (by omega) d_M_transfer_162 (tgt := 191) rfl (fun h162 => ?_) (fun h162 => ?_)
                  · exact absurd h162 (by omega)
                  · skip
                    refine j_aload_n X rfl d_M_transfer_165 ?_
                    refine j_aload_n X rfl d_M_transfer_166 ?_
                    refine g_M_80 X d_M_transfer_167 ?_
                    refine j_topi (congrArg iI e9) ?_
                    refine j_aload_n X rfl d_M_transfer_170 ?_
                    refine g_M_97 X d_M_transfer_171 ?_
                    refine j_topi (congrArg iI e10) ?_
                    refine v_M_129 X hz (c_M_isSpoiled (zl z) E (trS ρ (b - dl)) t q r3 ht hq) rfl rfl rfl (Nat.le_of_ble_eq_true rfl) ⟨Nat.le_refl _, Nat.le_refl _⟩ d_M_transfer_174 ?_
                    refine j_ifz X d_M_transfer_177 (tgt := 191) rfl (fun h => absurd hsp h) (fun _ => ?_)
                    refine j_aload_n X rfl d_M_transfer_180 ?_
                    refine j_iload_n X rfl d_M_transfer_181 ?_
                    refine p_M_126 X d_M_transfer_182 ?_
                    refine j_aload_n X rfl d_M_transfer_185 ?_
                    refine j_iconst X d_M_transfer_186 ?_
                    refine p_M_91 X d_M_transfer_187 ?_
                    exact j_vret X Y (Nat.le_refl _) (Nat.le_refl _) d_M_transfer_190 ⟨rfl, rfl⟩
                · exact absurd h130 (by omega)
              · exact absurd h96 (by omega)
            · exact absurd h73 (by omega)
        · exact absurd h47 (by omega)
    · exact absurd h15 (by omega)
  · exact absurd h3 (by omega)

set_option maxRecDepth 100000 in
set_option maxHeartbeats 4000000 in
theorem c_M_transfer7m (l : Launch) (E : eT) (σ τ ρ : St) (a b t q kl dl sd : Int) (f : Int → Int) (e11 : σ 18 0 11 = sd) (rsd : inR sd) (hsd : ¬ sd = 1 ∧ ¬ sd = 2) (hmv : FCon l E y_M_movesOn ws_M_movesOn 3 [.ref (E.2.2.2 18 0)] σ (some (.int (iI 1))) τ) (hor : FCon l E y_M_orient ws_M_orient 3 [.ref (E.2.2.2 18 0), .int (iI 3)] τ none ρ) (e9 : ρ 18 0 9 = t) (ht : 0 ≤ t ∧ t < 32) (e10 : ρ 18 0 10 = q) (hq : 0 ≤ q ∧ q ≤ 580) (e1 : ρ 20 0 (600 * t + q + 1) = kl) (e2 : ρ 20 0 (600 * t + q + 2) = dl) (hkl : 0 ≤ kl ∧ kl ≤ 8) (hdl : 0 ≤ dl ∧ dl ≤ 60) (he : q + 20 + kl + dl ≤ 600) (ha : 0 ≤ a ∧ a + b ≤ 256) (hb : 0 ≤ b ∧ b ≤ 60) (hf : ∀ i, 0 ≤ i → i < dl → ρ 20 0 (600 * t + q + 20 + (kl + i)) % 256 = f i) (r3 : inR (ρ 20 0 (600 * t + q + 3))) (hsp : ¬ ρ 20 0 (600 * t + q + 3) = 1) : FCon l E y_M_transfer ws_M_transfer 5 [.ref (E.2.2.2 18 0), .int (iI 7), .int (iI a), .int (iI b)] σ none (up (fiS (trS ρ (b - dl)) 21 a f (if dl < b then dl else b)) 18 0 18 (if b - dl < 0 then 3 else 0)) := by
  refine con_of (cc := b_M_transfer) (nL := 9) (ret := none) (by decide) (Nat.le_of_ble_eq_true rfl) (fun z X Y hn => ?_)
  have X : Cx E z b_M_transfer R_M := X
  have hz := Y.2.1
  change J E z 0 0 0 [(0, .ref (E.2.2.2 18 0)), (1, .int (iI 7)), (2, .int (iI a)), (3, .int (iI b))] [] (cells E σ)
  rw [← Y.1] at hor hmv
  refine j_iload_n X rfl d_M_transfer_0 ?_
  refine j_bipush X rfl d_M_transfer_1 ?_
  refine j_icmp_ne X (by omega) (by omega) d_M_transfer_3 (tgt := 10) rfl (fun h3 => ?_) (fun h3 => ?_)
  · skip
    refine j_iconst X d_M_transfer_10 ?_
    refine j_istore X (zlt hn rfl) d_M_transfer_11 ?_
    refine j_iload X rfl d_M_transfer_13 ?_
    refine j_if_eq X (by omega) d_M_transfer_15 (tgt := 34) rfl (fun h15 => ?_) (fun h15 => ?_)
    · skip
      refine j_aload_n X rfl d_M_transfer_34 ?_
      refine g_M_94 X d_M_transfer_35 ?_
      refine j_topi (congrArg iI e11) ?_
      refine j_iconst X d_M_transfer_38 ?_
      refine j_icmp_eq X (by omega) (by omega) d_M_transfer_39 (tgt := 50) rfl (fun h39 => ?_) (fun h39 => ?_)
      · exact absurd h39 (by omega)
      · skip
        refine j_aload_n X rfl d_M_transfer_42 ?_
        refine g_M_94 X d_M_transfer_43 ?_
        refine j_topi (congrArg iI e11) ?_
        refine j_iconst X d_M_transfer_46 ?_
        refine j_icmp_ne X (by omega) (by omega) d_M_transfer_47 (tgt := 54) rfl (fun h47 => ?_) (fun h47 => ?_)
        · skip
          refine j_iconst X d_M_transfer_54 ?_
          refine j_istore X (zlt hn rfl) d_M_transfer_55 ?_
          refine j_iload X rfl d_M_transfer_57 ?_
          refine j_if_ne X (by omega) d_M_transfer_59 (tgt := 70) rfl (fun h59 => ?_) (fun h59 => ?_)
          · exact absurd h59 (by omega)
          · skip
            refine j_aload_n X rfl d_M_transfer_62 ?_
            refine v_M_107 X hz (hmv) rfl rfl rfl (Nat.le_of_ble_eq_true rfl) ⟨Nat.le_refl _, Nat.le_refl _⟩ d_M_transfer_63 ?_
            refine j_if_ne X (by omega) d_M_transfer_66 (tgt := 70) rfl (fun _ => ?_) (fun h => absurd h (by omega))
            refine j_aload_n X rfl d_M_transfer_70 ?_
            refine j_iload X rfl d_M_transfer_71 ?_
            refine j_if_eq X (by omega) d_M_transfer_73 (tgt := 80) rfl (fun h73 => ?_) (fun h73 => ?_)
            · skip
              refine j_iconst X d_M_transfer_80 ?_
              refine v_M_111 X hz (hor) rfl rfl rfl (Nat.le_of_ble_eq_true rfl) ⟨Nat.le_refl _, Nat.le_refl _⟩ d_M_transfer_81 ?_
              refine j_aload_n X rfl d_M_transfer_84 ?_
              refine j_dup X rfl d_M_transfer_85 ?_
              refine g_M_123 X d_M_transfer_86 ?_
              refine j_iconst X d_M_transfer_89 ?_
              refine j_iadd X d_M_transfer_90 ?_
              refine p_M_123 X d_M_transfer_91 ?_
              refine j_iload X rfl d_M_transfer_94 ?_
              refine j_if_eq X (by omega) d_M_transfer_96 (tgt := 114) rfl (fun h96 => ?_) (fun h96 => ?_)
              · skip
                refine j_aload_n X rfl d_M_transfer_114 ?_
                refine j_aload_n X rfl d_M_transfer_115 ?_
                refine g_M_80 X d_M_transfer_116 ?_
                refine j_topi (congrArg iI e9) ?_
                refine j_aload_n X rfl d_M_transfer_119 ?_
                refine g_M_97 X d_M_transfer_120 ?_
                refine j_topi (congrArg iI e10) ?_
                refine v_M_40 X hz (c_M_dataOf (zl z) E (up ρ 18 0 17 (ρ 18 0 17 + 1)) t q ht hq) rfl rfl rfl (Nat.le_of_ble_eq_true rfl) ⟨Nat.le_refl _, Nat.le_refl _⟩ d_M_transfer_123 ?_
                refine j_topi (congrArg iI e2) ?_
                refine j_istore X (zlt hn rfl) d_M_transfer_126 ?_
                refine j_iload X rfl d_M_transfer_128 ?_
                refine j_if_eq X (by omega) d_M_transfer_130 (tgt := 137) rfl (fun h130 => ?_) (fun h130 => ?_)
                · skip
                  refine j_aload_n X rfl d_M_transfer_137 ?_
                  refine j_aload_n X rfl d_M_transfer_138 ?_
                  refine g_M_80 X d_M_transfer_139 ?_
                  refine j_topi (congrArg iI e9) ?_
                  refine j_aload_n X rfl d_M_transfer_142 ?_
                  refine g_M_97 X d_M_transfer_143 ?_
                  refine j_topi (congrArg iI e10) ?_
                  refine v_M_36 X hz (c_M_keyOf (zl z) E (up ρ 18 0 17 (ρ 18 0 17 + 1)) t q ht hq) rfl rfl rfl (Nat.le_of_ble_eq_true rfl) ⟨Nat.le_refl _, Nat.le_refl _⟩ d_M_transfer_146 ?_
                  refine j_topi (congrArg iI e1) ?_
                  refine j_istore X (zlt hn rfl) d_M_transfer_149 ?_
                  refine j_aload_n X rfl d_M_transfer_151 ?_
                  refine j_iload_n X rfl d_M_transfer_152 ?_
                  refine j_iload X rfl d_M_transfer_153 ?_
                  refine j_isub X d_M_transfer_155 ?_
                  refine p_M_126 X d_M_transfer_156 ?_
                  refine j_iload_n X rfl d_M_transfer_159 ?_
                  refine j_bipush X rfl d_M_transfer_160 ?_
                  refine j_icmp_ne X (by omega) (by omega) d_M_transfer_162 (tgt := 191) rfl (fun h162 => ?_) (fun h162 => ?_)
                  · exact absurd h162 (by omega)
                  · skip
                    refine j_aload_n X rfl d_M_transfer_165 ?_
                    refine j_aload_n X rfl d_M_transfer_166 ?_
                    refine g_M_80 X d_M_transfer_167 ?_
                    refine j_topi (congrArg iI e9) ?_
                    refine j_aload_n X rfl d_M_transfer_170 ?_
                    refine g_M_97 X d_M_transfer_171 ?_
                    refine j_topi (congrArg iI e10) ?_
                    refine v_M_129 X hz (c_M_isSpoiled (zl z) E (trS ρ (b - dl)) t q r3 ht hq) rfl rfl rfl (Nat.le_of_ble_eq_true rfl) ⟨Nat.le_refl _, Nat.le_refl _⟩ d_M_transfer_174 ?_
                    refine j_ifz X d_M_transfer_177 (tgt := 191) rfl (fun _ => ?_) (fun h => absurd h hsp)
                    refine j_iload_n X rfl d_M_transfer_191 ?_
                    refine j_bipush X rfl d_M_transfer_192 ?_
                    refine j_icmp_ne X (by omega) (by omega) d_M_transfer_194 (tgt := 280) rfl (fun h194 => ?_) (fun h194 => ?_)
                    · skip
                      refine j_iconst X d_M_transfer_280 ?_
                      refine j_istore X (zlt hn rfl) d_M_transfer_281 ?_
                      have kyl : ∀ i : Int, (0 ≤ i ∧ i ≤ dl ∧ i ≤ b) → J E z 0 0 283 [(0, .ref (E.2.2.2 18 0)), (1, .int (iI 7)), (2, .int (iI a)), (3, .int (iI b)), (4, .int (iI 0)), (5, .int (iI 0)), (6, .int (iI dl)), (7, .int (iI kl)), (8, .int (iI i))] [] (cells E (fiS (trS ρ (b - dl)) 21 a f i)) := by
                        refine j_loop (fun i : Int => (b - i).toNat) _ _ (fun i hi ih => ?_)
                        refine j_iload X rfl d_M_transfer_283 ?_
                        refine j_iload X rfl d_M_transfer_285 ?_
                        refine j_icmp_ge X (by omega) (by omega) d_M_transfer_287 (tgt := 328) rfl (fun h287 => ?_) (fun h287 => ?_)
                        · skip
                          refine j_aload_n X rfl d_M_transfer_328 ?_
                          refine j_aload_n X rfl d_M_transfer_329 ?_
                          refine g_M_126 X d_M_transfer_330 ?_
                          refine j_topi (congrArg iI (show fiS (trS ρ (b - dl)) 21 a f i 18 0 13 = b - dl from rfl)) ?_
                          refine j_if_ge X (by omega) d_M_transfer_333 (tgt := 340) rfl (fun h333 => ?_) (fun h333 => ?_)
                          · skip
                            refine j_iconst X d_M_transfer_340 ?_
                            refine p_M_91 X d_M_transfer_341 ?_
                            exact j_vret X Y (Nat.le_refl _) (Nat.le_refl _) d_M_transfer_344 ⟨rfl, by rw [if_neg (show ¬ b - dl < 0 by omega), show i = (if dl < b then dl else b) by split <;> omega]⟩
                          · skip
                            refine j_iconst X d_M_transfer_336 ?_
                            refine j_goto X d_M_transfer_337 (tgt := 341) rfl ?_
                            refine p_M_91 X d_M_transfer_341 ?_
                            exact j_vret X Y (Nat.le_refl _) (Nat.le_refl _) d_M_transfer_344 ⟨rfl, by rw [if_pos (show b - dl < 0 by omega), show i = (if dl < b then dl else b) by split <;> omega]⟩
                        · skip
                          refine j_iload X rfl d_M_transfer_290 ?_
                          refine j_iload_n X rfl d_M_transfer_292 ?_
                          refine j_icmp_ge X (by omega) (by omega) d_M_transfer_293 (tgt := 328) rfl (fun h293 => ?_) (fun h293 => ?_)
                          · skip
                            refine j_aload_n X rfl d_M_transfer_328 ?_
                            refine j_aload_n X rfl d_M_transfer_329 ?_
                            refine g_M_126 X d_M_transfer_330 ?_
                            refine j_topi (congrArg iI (show fiS (trS ρ (b - dl)) 21 a f i 18 0 13 = b - dl from rfl)) ?_
                            refine j_if_ge X (by omega) d_M_transfer_333 (tgt := 340) rfl (fun h333 => ?_) (fun h333 => ?_)
                            · skip
                              refine j_iconst X d_M_transfer_340 ?_
                              refine p_M_91 X d_M_transfer_341 ?_
                              exact j_vret X Y (Nat.le_refl _) (Nat.le_refl _) d_M_transfer_344 ⟨rfl, by rw [if_neg (show ¬ b - dl < 0 by omega), show i = (if dl < b then dl else b) by split <;> omega]⟩
                            · skip
                              refine j_iconst X d_M_transfer_336 ?_
                              refine j_goto X d_M_transfer_337 (tgt := 341) rfl ?_
                              refine p_M_91 X d_M_transfer_341 ?_
                              exact j_vret X Y (Nat.le_refl _) (Nat.le_refl _) d_M_transfer_344 ⟨rfl, by rw [if_pos (show b - dl < 0 by omega), show i = (if dl < b then dl else b) by split <;> omega]⟩
                          · skip
                            refine j_aload_n X rfl d_M_transfer_296 ?_
                            refine g_M_16 X d_M_transfer_297 ?_
                            refine j_iload_n X rfl d_M_transfer_300 ?_
                            refine j_iload X rfl d_M_transfer_301 ?_
                            refine j_iadd X d_M_transfer_303 ?_
                            refine j_aload_n X rfl d_M_transfer_304 ?_
                            refine j_aload_n X rfl d_M_transfer_305 ?_
                            refine g_M_80 X d_M_transfer_306 ?_
                            refine j_topi (congrArg iI e9) ?_
                            refine j_aload_n X rfl d_M_transfer_309 ?_
                            refine g_M_97 X d_M_transfer_310 ?_
                            refine j_topi (congrArg iI e10) ?_
                            refine j_iload X rfl d_M_transfer_313 ?_
                            refine j_iload X rfl d_M_transfer_315 ?_
                            refine j_iadd X d_M_transfer_317 ?_
                            refine v_M_103 X hz (c_M_byteAt (zl z) E (fiS (trS ρ (b - dl)) 21 a f i) t q (kl + i) ht (by omega)) rfl rfl rfl (Nat.le_of_ble_eq_true rfl) ⟨Nat.le_refl _, Nat.le_refl _⟩ d_M_transfer_318 ?_
                            refine j_topi (congrArg iI (hf i hi.1 h287)) ?_
                            refine j_iast X (by first | exact okC1 rfl | exact (okCT rfl (by omega))) (fun _ => rfl) rfl (by omega) d_M_transfer_321 ?_
                            refine j_iinc X rfl (zlt hn rfl) d_M_transfer_322 ?_
                            refine j_goto X d_M_transfer_325 (tgt := 283) rfl ?_
                            rw [fi_s (v := f i) hi.1 rfl]; exact ih (i + 1) (by omega) (by omega)
                      have := kyl 0 (by omega); rw [fi_0] at this; exact this
                    · exact absurd h194 (by omega)
                · exact absurd h130 (by omega)
              · exact absurd h96 (by omega)
            · exact absurd h73 (by omega)
        · exact absurd h47 (by omega)
    · exact absurd h15 (by omega)
  · exact absurd h3 (by omega)

set_option maxRecDepth 100000 in
set_option maxHeartbeats 4000000 in
theorem c_M_transfer8me (l : Launch) (E : eT) (σ τ ρ : St) (a b t q kl dl sd : Int) (f : Int → Int) (e11 : σ 18 0 11 = sd) (rsd : inR sd) (hsd : ¬ sd = 1 ∧ ¬ sd = 2) (hmv : FCon l E y_M_movesOn ws_M_movesOn 3 [.ref (E.2.2.2 18 0)] σ (some (.int (iI 1))) τ) (hor : FCon l E y_M_orient ws_M_orient 3 [.ref (E.2.2.2 18 0), .int (iI 3)] τ none ρ) (e9 : ρ 18 0 9 = t) (ht : 0 ≤ t ∧ t < 32) (e10 : ρ 18 0 10 = q) (hq : 0 ≤ q ∧ q ≤ 580) (e1 : ρ 20 0 (600 * t + q + 1) = kl) (e2 : ρ 20 0 (600 * t + q + 2) = dl) (hkl : 0 ≤ kl ∧ kl ≤ 8) (hdl : 0 ≤ dl ∧ dl ≤ 60) (he : q + 20 + kl + dl ≤ 600) (ha : 0 ≤ a ∧ a + b ≤ 256) (hb : 0 ≤ b ∧ b ≤ 60) (hbn : b = dl) (hf : ∀ i, 0 ≤ i → i < b → ((ρ 21 0 (a + i)).bmod 256).bmod 256 = f i) : FCon l E y_M_transfer ws_M_transfer 5 [.ref (E.2.2.2 18 0), .int (iI 8), .int (iI a), .int (iI b)] σ none (up (fiS (up (trS ρ (b - dl)) 20 0 (600 * t + q + 3) (Int.bmod (Int.bmod 0 256) 256)) 20 (600 * t + q + 20 + kl) f dl) 18 0 18 0) := by
  refine con_of (cc := b_M_transfer) (nL := 9) (ret := none) (by decide) (Nat.le_of_ble_eq_true rfl) (fun z X Y hn => ?_)
  have X : Cx E z b_M_transfer R_M := X
  have hz := Y.2.1
  change J E z 0 0 0 [(0, .ref (E.2.2.2 18 0)), (1, .int (iI 8)), (2, .int (iI a)), (3, .int (iI b))] [] (cells E σ)
  rw [← Y.1] at hor hmv
  refine j_iload_n X rfl d_M_transfer_0 ?_
  refine j_bipush X rfl d_M_transfer_1 ?_
  refine j_icmp_ne X (by omega) (by omega) d_M_transfer_3 (tgt := 10) rfl (fun h3 => ?_) (fun h3 => ?_)
  · skip
    refine j_iconst X d_M_transfer_10 ?_
    refine j_istore X (zlt hn rfl) d_M_transfer_11 ?_
    refine j_iload X rfl d_M_transfer_13 ?_
    refine j_if_eq X (by omega) d_M_transfer_15 (tgt := 34) rfl (fun h15 => ?_) (fun h15 => ?_)
    · skip
      refine j_aload_n X rfl d_M_transfer_34 ?_
      refine g_M_94 X d_M_transfer_35 ?_
      refine j_topi (congrArg iI e11) ?_
      refine j_iconst X d_M_transfer_38 ?_
      refine j_icmp_eq X (by omega) (by omega) d_M_transfer_39 (tgt := 50) rfl (fun h39 => ?_) (fun h39 => ?_)
      · exact absurd h39 (by omega)
      · skip
        refine j_aload_n X rfl d_M_transfer_42 ?_
        refine g_M_94 X d_M_transfer_43 ?_
        refine j_topi (congrArg iI e11) ?_
        refine j_iconst X d_M_transfer_46 ?_
        refine j_icmp_ne X (by omega) (by omega) d_M_transfer_47 (tgt := 54) rfl (fun h47 => ?_) (fun h47 => ?_)
        · skip
          refine j_iconst X d_M_transfer_54 ?_
          refine j_istore X (zlt hn rfl) d_M_transfer_55 ?_
          refine j_iload X rfl d_M_transfer_57 ?_
          refine j_if_ne X (by omega) d_M_transfer_59 (tgt := 70) rfl (fun h59 => ?_) (fun h59 => ?_)
          · exact absurd h59 (by omega)
          · skip
            refine j_aload_n X rfl d_M_transfer_62 ?_
            refine v_M_107 X hz (hmv) rfl rfl rfl (Nat.le_of_ble_eq_true rfl) ⟨Nat.le_refl _, Nat.le_refl _⟩ d_M_transfer_63 ?_
            refine j_if_ne X (by omega) d_M_transfer_66 (tgt := 70) rfl (fun _ => ?_) (fun h => absurd h (by omega))
            refine j_aload_n X rfl d_M_transfer_70 ?_
            refine j_iload X rfl d_M_transfer_71 ?_
            refine j_if_eq X (by omega) d_M_transfer_73 (tgt := 80) rfl (fun h73 => ?_) (fun h73 => ?_)
            · skip
              refine j_iconst X d_M_transfer_80 ?_
              refine v_M_111 X hz (hor) rfl rfl rfl (Nat.le_of_ble_eq_true rfl) ⟨Nat.le_refl _, Nat.le_refl _⟩ d_M_transfer_81 ?_
              refine j_aload_n X rfl d_M_transfer_84 ?_
              refine j_dup X rfl d_M_transfer_85 ?_
              refine g_M_123 X d_M_transfer_86 ?_
              refine j_iconst X d_M_transfer_89 ?_
              refine j_iadd X d_M_transfer_90 ?_
              refine p_M_123 X d_M_transfer_91 ?_
              refine j_iload X rfl d_M_transfer_94 ?_
              refine j_if_eq X (by omega) d_M_transfer_96 (tgt := 114) rfl (fun h96 => ?_) (fun h96 => ?_)
              · skip
                refine j_aload_n X rfl d_M_transfer_114 ?_
                refine j_aload_n X rfl d_M_transfer_115 ?_
                refine g_M_80 X d_M_transfer_116 ?_
                refine j_topi (congrArg iI e9) ?_
                refine j_aload_n X rfl d_M_transfer_119 ?_
                refine g_M_97 X d_M_transfer_120 ?_
                refine j_topi (congrArg iI e10) ?_
                refine v_M_40 X hz (c_M_dataOf (zl z) E (up ρ 18 0 17 (ρ 18 0 17 + 1)) t q ht hq) rfl rfl rfl (Nat.le_of_ble_eq_true rfl) ⟨Nat.le_refl _, Nat.le_refl _⟩ d_M_transfer_123 ?_
                refine j_topi (congrArg iI e2) ?_
                refine j_istore X (zlt hn rfl) d_M_transfer_126 ?_
                refine j_iload X rfl d_M_transfer_128 ?_
                refine j_if_eq X (by omega) d_M_transfer_130 (tgt := 137) rfl (fun h130 => ?_) (fun h130 => ?_)
                · skip
                  refine j_aload_n X rfl d_M_transfer_137 ?_
                  refine j_aload_n X rfl d_M_transfer_138 ?_
                  refine g_M_80 X d_M_transfer_139 ?_
                  refine j_topi (congrArg iI e9) ?_
                  refine j_aload_n X rfl d_M_transfer_142 ?_
                  refine g_M_97 X d_M_transfer_143 ?_
                  refine j_topi (congrArg iI e10) ?_
                  refine v_M_36 X hz (c_M_keyOf (zl z) E (up ρ 18 0 17 (ρ 18 0 17 + 1)) t q ht hq) rfl rfl rfl (Nat.le_of_ble_eq_true rfl) ⟨Nat.le_refl _, Nat.le_refl _⟩ d_M_transfer_146 ?_
                  refine j_topi (congrArg iI e1) ?_
                  refine j_istore X (zlt hn rfl) d_M_transfer_149 ?_
                  refine j_aload_n X rfl d_M_transfer_151 ?_
                  refine j_iload_n X rfl d_M_transfer_152 ?_
                  refine j_iload X rfl d_M_transfer_153 ?_
                  refine j_isub X d_M_transfer_155 ?_
                  refine p_M_126 X d_M_transfer_156 ?_
                  refine j_iload_n X rfl d_M_transfer_159 ?_
                  refine j_bipush X rfl d_M_transfer_160 ?_
                  refine j_icmp_ne X (by omega) (by omega) d_M_transfer_162 (tgt := 191) rfl (fun h162 => ?_) (fun h162 => ?_)
                  · skip
                    refine j_iload_n X rfl d_M_transfer_191 ?_
                    refine j_bipush X rfl d_M_transfer_192 ?_
                    refine j_icmp_ne X (by omega) (by omega) d_M_transfer_194 (tgt := 280) rfl (fun h194 => ?_) (fun h194 => ?_)
                    · exact absurd h194 (by omega)
                    · skip
                      refine j_iload_n X rfl d_M_transfer_197 ?_
                      refine j_iload X rfl d_M_transfer_198 ?_
                      refine j_icmp_ne X (by omega) (by omega) d_M_transfer_200 (tgt := 216) rfl (fun h200 => ?_) (fun h200 => ?_)
                      · exact absurd h200 (by omega)
                      · skip
                        refine j_aload_n X rfl d_M_transfer_203 ?_
                        refine j_aload_n X rfl d_M_transfer_204 ?_
                        refine g_M_80 X d_M_transfer_205 ?_
                        refine j_topi (congrArg iI e9) ?_
                        refine j_aload_n X rfl d_M_transfer_208 ?_
                        refine g_M_97 X d_M_transfer_209 ?_
                        refine j_topi (congrArg iI e10) ?_
                        refine j_iconst X d_M_transfer_212 ?_
                        refine v_M_132 X hz (c_M_spoilAt (zl z) E (trS ρ (b - dl)) t q 0 ht hq) rfl rfl rfl (Nat.le_of_ble_eq_true rfl) ⟨Nat.le_refl _, Nat.le_refl _⟩ d_M_transfer_213 ?_
                        refine j_iconst X d_M_transfer_216 ?_
                        refine j_istore X (zlt hn rfl) d_M_transfer_217 ?_
                        have kyl : ∀ i : Int, (0 ≤ i ∧ i ≤ dl) → J E z 0 0 219 [(0, .ref (E.2.2.2 18 0)), (1, .int (iI 8)), (2, .int (iI a)), (3, .int (iI b)), (4, .int (iI 0)), (5, .int (iI 0)), (6, .int (iI dl)), (7, .int (iI kl)), (8, .int (iI i))] [] (cells E (fiS (up (trS ρ (b - dl)) 20 0 (600 * t + q + 3) (Int.bmod (Int.bmod 0 256) 256)) 20 (600 * t + q + 20 + kl) f i)) := by
                          refine j_loop (fun i : Int => (dl - i).toNat) _ _ (fun i hi ih => ?_)
                          refine j_iload X rfl d_M_transfer_219 ?_
                          refine j_iload X rfl d_M_transfer_221 ?_
                          refine j_icmp_ge X (by omega) (by omega) d_M_transfer_223 (tgt := 264) rfl (fun h223 => ?_) (fun h223 => ?_)
                          · skip
                            refine j_aload_n X rfl d_M_transfer_264 ?_
                            refine j_iload_n X rfl d_M_transfer_265 ?_
                            refine j_iload X rfl d_M_transfer_266 ?_
                            refine j_icmp_ne X (by omega) (by omega) d_M_transfer_268 (tgt := 275) rfl (fun h268 => ?_) (fun h268 => ?_)
                            · exact absurd h268 (by omega)
                            · skip
                              refine j_iconst X d_M_transfer_271 ?_
                              refine j_goto X d_M_transfer_272 (tgt := 276) rfl ?_
                              refine p_M_91 X d_M_transfer_276 ?_
                              exact j_vret X Y (Nat.le_refl _) (Nat.le_refl _) d_M_transfer_279 ⟨rfl, by rw [show i = dl by omega]⟩
                          · skip
                            refine j_iload_n X rfl d_M_transfer_226 ?_
                            refine j_iload X rfl d_M_transfer_227 ?_
                            refine j_icmp_ne X (by omega) (by omega) d_M_transfer_229 (tgt := 264) rfl (fun h229 => ?_) (fun h229 => ?_)
                            · exact absurd h229 (by omega)
                            · skip
                              refine j_aload_n X rfl d_M_transfer_232 ?_
                              refine j_aload_n X rfl d_M_transfer_233 ?_
                              refine g_M_80 X d_M_transfer_234 ?_
                              refine j_topi (congrArg iI e9) ?_
                              refine j_aload_n X rfl d_M_transfer_237 ?_
                              refine g_M_97 X d_M_transfer_238 ?_
                              refine j_topi (congrArg iI e10) ?_
                              refine j_iload X rfl d_M_transfer_241 ?_
                              refine j_iload X rfl d_M_transfer_243 ?_
                              refine j_iadd X d_M_transfer_245 ?_
                              refine j_aload_n X rfl d_M_transfer_246 ?_
                              refine g_M_16 X d_M_transfer_247 ?_
                              refine j_iload_n X rfl d_M_transfer_250 ?_
                              refine j_iload X rfl d_M_transfer_251 ?_
                              refine j_iadd X d_M_transfer_253 ?_
                              refine j_iald X (by first | exact okC1 rfl | exact (okCT rfl (by omega))) (fun _ => rfl) rfl (by omega) d_M_transfer_254 ?_
                              refine j_topi (congrArg iI (show fiS (up (trS ρ (b - dl)) 20 0 (600 * t + q + 3) (Int.bmod (Int.bmod 0 256) 256)) 20 (600 * t + q + 20 + kl) f i 21 0 (a + i) = ρ 21 0 (a + i) from rfl)) ?_
                              refine v_M_136 X hz (c_M_setByte (zl z) E (fiS (up (trS ρ (b - dl)) 20 0 (600 * t + q + 3) (Int.bmod (Int.bmod 0 256) 256)) 20 (600 * t + q + 20 + kl) f i) t q (kl + i) (ρ 21 0 (a + i)) ht (by omega)) rfl rfl rfl (Nat.le_of_ble_eq_true rfl) ⟨Nat.le_refl _, Nat.le_refl _⟩ d_M_transfer_255 ?_
                              refine j_iinc X rfl (zlt hn rfl) d_M_transfer_258 ?_
                              refine j_goto X d_M_transfer_261 (tgt := 219) rfl ?_
                              rw [show 600 * t + q + 20 + (kl + i) = 600 * t + q + 20 + kl + i by omega, fi_s (k := 20) hi.1 (hf i hi.1 (by omega))]; exact ih (i + 1) (by omega) (by omega)
                        have := kyl 0 (by omega); rw [fi_0] at this; exact this
                  · exact absurd h162 (by omega)
                · exact absurd h130 (by omega)
              · exact absurd h96 (by omega)
            · exact absurd h73 (by omega)
        · exact absurd h47 (by omega)
    · exact absurd h15 (by omega)
  · exact absurd h3 (by omega)

set_option maxRecDepth 100000 in
set_option maxHeartbeats 4000000 in
theorem c_M_transfer8mn (l : Launch) (E : eT) (σ τ ρ : St) (a b t q kl dl sd : Int) (e11 : σ 18 0 11 = sd) (rsd : inR sd) (hsd : ¬ sd = 1 ∧ ¬ sd = 2) (hmv : FCon l E y_M_movesOn ws_M_movesOn 3 [.ref (E.2.2.2 18 0)] σ (some (.int (iI 1))) τ) (hor : FCon l E y_M_orient ws_M_orient 3 [.ref (E.2.2.2 18 0), .int (iI 3)] τ none ρ) (e9 : ρ 18 0 9 = t) (ht : 0 ≤ t ∧ t < 32) (e10 : ρ 18 0 10 = q) (hq : 0 ≤ q ∧ q ≤ 580) (e1 : ρ 20 0 (600 * t + q + 1) = kl) (e2 : ρ 20 0 (600 * t + q + 2) = dl) (hkl : 0 ≤ kl ∧ kl ≤ 8) (hdl : 0 ≤ dl ∧ dl ≤ 60) (he : q + 20 + kl + dl ≤ 600) (ha : 0 ≤ a ∧ a + b ≤ 256) (hb : 0 ≤ b ∧ b ≤ 60) (hbn : ¬ b = dl) : FCon l E y_M_transfer ws_M_transfer 5 [.ref (E.2.2.2 18 0), .int (iI 8), .int (iI a), .int (iI b)] σ none (up (trS ρ (b - dl)) 18 0 18 3) := by
  refine con_of (cc := b_M_transfer) (nL := 9) (ret := none) (by decide) (Nat.le_of_ble_eq_true rfl) (fun z X Y hn => ?_)
  have X : Cx E z b_M_transfer R_M := X
  have hz := Y.2.1
  change J E z 0 0 0 [(0, .ref (E.2.2.2 18 0)), (1, .int (iI 8)), (2, .int (iI a)), (3, .int (iI b))] [] (cells E σ)
  rw [← Y.1] at hor hmv
  refine j_iload_n X rfl d_M_transfer_0 ?_
  refine j_bipush X rfl d_M_transfer_1 ?_
  refine j_icmp_ne X (by omega) (by omega) d_M_transfer_3 (tgt := 10) rfl (fun h3 => ?_) (fun h3 => ?_)
  · skip
    refine j_iconst X d_M_transfer_10 ?_
    refine j_istore X (zlt hn rfl) d_M_transfer_11 ?_
    refine j_iload X rfl d_M_transfer_13 ?_
    refine j_if_eq X (by omega) d_M_transfer_15 (tgt := 34) rfl (fun h15 => ?_) (fun h15 => ?_)
    · skip
      refine j_aload_n X rfl d_M_transfer_34 ?_
      refine g_M_94 X d_M_transfer_35 ?_
      refine j_topi (congrArg iI e11) ?_
      refine j_iconst X d_M_transfer_38 ?_
      refine j_icmp_eq X (by omega) (by omega) d_M_transfer_39 (tgt := 50) rfl (fun h39 => ?_) (fun h39 => ?_)
      · exact absurd h39 (by omega)
      · skip
        refine j_aload_n X rfl d_M_transfer_42 ?_
        refine g_M_94 X d_M_transfer_43 ?_
        refine j_topi (congrArg iI e11) ?_
        refine j_iconst X d_M_transfer_46 ?_
        refine j_icmp_ne X (by omega) (by omega) d_M_transfer_47 (tgt := 54) rfl (fun h47 => ?_) (fun h47 => ?_)
        · skip
          refine j_iconst X d_M_transfer_54 ?_
          refine j_istore X (zlt hn rfl) d_M_transfer_55 ?_
          refine j_iload X rfl d_M_transfer_57 ?_
          refine j_if_ne X (by omega) d_M_transfer_59 (tgt := 70) rfl (fun h59 => ?_) (fun h59 => ?_)
          · exact absurd h59 (by omega)
          · skip
            refine j_aload_n X rfl d_M_transfer_62 ?_
            refine v_M_107 X hz (hmv) rfl rfl rfl (Nat.le_of_ble_eq_true rfl) ⟨Nat.le_refl _, Nat.le_refl _⟩ d_M_transfer_63 ?_
            refine j_if_ne X (by omega) d_M_transfer_66 (tgt := 70) rfl (fun _ => ?_) (fun h => absurd h (by omega))
            refine j_aload_n X rfl d_M_transfer_70 ?_
            refine j_iload X rfl d_M_transfer_71 ?_
            refine j_if_eq X (by omega) d_M_transfer_73 (tgt := 80) rfl (fun h73 => ?_) (fun h73 => ?_)
            · skip
              refine j_iconst X d_M_transfer_80 ?_
              refine v_M_111 X hz (hor) rfl rfl rfl (Nat.le_of_ble_eq_true rfl) ⟨Nat.le_refl _, Nat.le_refl _⟩ d_M_transfer_81 ?_
              refine j_aload_n X rfl d_M_transfer_84 ?_
              refine j_dup X rfl d_M_transfer_85 ?_
              refine g_M_123 X d_M_transfer_86 ?_
              refine j_iconst X d_M_transfer_89 ?_
              refine j_iadd X d_M_transfer_90 ?_
              refine p_M_123 X d_M_transfer_91 ?_
              refine j_iload X rfl d_M_transfer_94 ?_
              refine j_if_eq X (by omega) d_M_transfer_96 (tgt := 114) rfl (fun h96 => ?_) (fun h96 => ?_)
              · skip
                refine j_aload_n X rfl d_M_transfer_114 ?_
                refine j_aload_n X rfl d_M_transfer_115 ?_
                refine g_M_80 X d_M_transfer_116 ?_
                refine j_topi (congrArg iI e9) ?_
                refine j_aload_n X rfl d_M_transfer_119 ?_
                refine g_M_97 X d_M_transfer_120 ?_
                refine j_topi (congrArg iI e10) ?_
                refine v_M_40 X hz (c_M_dataOf (zl z) E (up ρ 18 0 17 (ρ 18 0 17 + 1)) t q ht hq) rfl rfl rfl (Nat.le_of_ble_eq_true rfl) ⟨Nat.le_refl _, Nat.le_refl _⟩ d_M_transfer_123 ?_
                refine j_topi (congrArg iI e2) ?_
                refine j_istore X (zlt hn rfl) d_M_transfer_126 ?_
                refine j_iload X rfl d_M_transfer_128 ?_
                refine j_if_eq X (by omega) d_M_transfer_130 (tgt := 137) rfl (fun h130 => ?_) (fun h130 => ?_)
                · skip
                  refine j_aload_n X rfl d_M_transfer_137 ?_
                  refine j_aload_n X rfl d_M_transfer_138 ?_
                  refine g_M_80 X d_M_transfer_139 ?_
                  refine j_topi (congrArg iI e9) ?_
                  refine j_aload_n X rfl d_M_transfer_142 ?_
                  refine g_M_97 X d_M_transfer_143 ?_
                  refine j_topi (congrArg iI e10) ?_
                  refine v_M_36 X hz (c_M_keyOf (zl z) E (up ρ 18 0 17 (ρ 18 0 17 + 1)) t q ht hq) rfl rfl rfl (Nat.le_of_ble_eq_true rfl) ⟨Nat.le_refl _, Nat.le_refl _⟩ d_M_transfer_146 ?_
                  refine j_topi (congrArg iI e1) ?_
                  refine j_istore X (zlt hn rfl) d_M_transfer_149 ?_
                  refine j_aload_n X rfl d_M_transfer_151 ?_
                  refine j_iload_n X rfl d_M_transfer_152 ?_
                  refine j_iload X rfl d_M_transfer_153 ?_
                  refine j_isub X d_M_transfer_155 ?_
                  refine p_M_126 X d_M_transfer_156 ?_
                  refine j_iload_n X rfl d_M_transfer_159 ?_
                  refine j_bipush X rfl d_M_transfer_160 ?_
                  refine j_icmp_ne X (by omega) (by omega) d_M_transfer_162 (tgt := 191) rfl (fun h162 => ?_) (fun h162 => ?_)
                  · skip
                    refine j_iload_n X rfl d_M_transfer_191 ?_
                    refine j_bipush X rfl d_M_transfer_192 ?_
                    refine j_icmp_ne X (by omega) (by omega) d_M_transfer_194 (tgt := 280) rfl (fun h194 => ?_) (fun h194 => ?_)
                    · exact absurd h194 (by omega)
                    · skip
                      refine j_iload_n X rfl d_M_transfer_197 ?_
                      refine j_iload X rfl d_M_transfer_198 ?_
                      refine j_icmp_ne X (by omega) (by omega) d_M_transfer_200 (tgt := 216) rfl (fun h200 => ?_) (fun h200 => ?_)
                      · skip
                        refine j_iconst X d_M_transfer_216 ?_
                        refine j_istore X (zlt hn rfl) d_M_transfer_217 ?_
                        refine j_iload X rfl d_M_transfer_219 ?_
                        refine j_iload X rfl d_M_transfer_221 ?_
                        refine j_icmp_ge X (by omega) (by omega) d_M_transfer_223 (tgt := 264) rfl (fun h223 => ?_) (fun h223 => ?_)
                        · skip
                          refine j_aload_n X rfl d_M_transfer_264 ?_
                          refine j_iload_n X rfl d_M_transfer_265 ?_
                          refine j_iload X rfl d_M_transfer_266 ?_
                          refine j_icmp_ne X (by omega) (by omega) d_M_transfer_268 (tgt := 275) rfl (fun h268 => ?_) (fun h268 => ?_)
                          · skip
                            refine j_iconst X d_M_transfer_275 ?_
                            refine p_M_91 X d_M_transfer_276 ?_
                            exact j_vret X Y (Nat.le_refl _) (Nat.le_refl _) d_M_transfer_279 ⟨rfl, rfl⟩
                          · exact absurd h268 (by omega)
                        · skip
                          refine j_iload_n X rfl d_M_transfer_226 ?_
                          refine j_iload X rfl d_M_transfer_227 ?_
                          refine j_icmp_ne X (by omega) (by omega) d_M_transfer_229 (tgt := 264) rfl (fun h229 => ?_) (fun h229 => ?_)
                          · skip
                            refine j_aload_n X rfl d_M_transfer_264 ?_
                            refine j_iload_n X rfl d_M_transfer_265 ?_
                            refine j_iload X rfl d_M_transfer_266 ?_
                            refine j_icmp_ne X (by omega) (by omega) d_M_transfer_268 (tgt := 275) rfl (fun h268 => ?_) (fun h268 => ?_)
                            · skip
                              refine j_iconst X d_M_transfer_275 ?_
                              refine p_M_91 X d_M_transfer_276 ?_
                              exact j_vret X Y (Nat.le_refl _) (Nat.le_refl _) d_M_transfer_279 ⟨rfl, rfl⟩
                            · exact absurd h268 (by omega)
                          · exact absurd h229 (by omega)
                      · exact absurd h200 (by omega)
                  · exact absurd h162 (by omega)
                · exact absurd h130 (by omega)
              · exact absurd h96 (by omega)
            · exact absurd h73 (by omega)
        · exact absurd h47 (by omega)
    · exact absurd h15 (by omega)
  · exact absurd h3 (by omega)

set_option maxRecDepth 100000 in
set_option maxHeartbeats 4000000 in
theorem c_M_transfer6z (l : Launch) (E : eT) (σ τ : St) (a b sd : Int) (e11 : σ 18 0 11 = sd) (rsd : inR sd) (hsd : ¬ sd = 1) (hmv : FCon l E y_M_movesOn ws_M_movesOn 3 [.ref (E.2.2.2 18 0)] σ (some (.int (iI 0))) τ) : FCon l E y_M_transfer ws_M_transfer 5 [.ref (E.2.2.2 18 0), .int (iI 6), .int (iI a), .int (iI b)] σ none τ := by
  refine con_of (cc := b_M_transfer) (nL := 9) (ret := none) (by decide) (Nat.le_of_ble_eq_true rfl) (fun z X Y hn => ?_)
  have X : Cx E z b_M_transfer R_M := X
  have hz := Y.2.1
  change J E z 0 0 0 [(0, .ref (E.2.2.2 18 0)), (1, .int (iI 6)), (2, .int (iI a)), (3, .int (iI b))] [] (cells E σ)
  rw [← Y.1] at hmv
  refine j_iload_n X rfl d_M_transfer_0 ?_
  refine j_bipush X rfl d_M_transfer_1 ?_
  refine j_icmp_ne X (by omega) (by omega) d_M_transfer_3 (tgt := 10) rfl (fun h3 => ?_) (fun h3 => ?_)
  · exact absurd h3 (by omega)
  · skip
    refine j_iconst X d_M_transfer_6 ?_
    refine j_goto X d_M_transfer_7 (tgt := 11) rfl ?_
    refine j_istore X (zlt hn rfl) d_M_transfer_11 ?_
    refine j_iload X rfl d_M_transfer_13 ?_
    refine j_if_eq X (by omega) d_M_transfer_15 (tgt := 34) rfl (fun h15 => ?_) (fun h15 => ?_)
    · exact absurd h15 (by omega)
    · skip
      refine j_aload_n X rfl d_M_transfer_18 ?_
      refine g_M_94 X d_M_transfer_19 ?_
      refine j_topi (congrArg iI e11) ?_
      refine j_iconst X d_M_transfer_22 ?_
      refine j_icmp_ne X (by omega) (by omega) d_M_transfer_23 (tgt := 30) rfl (fun h23 => ?_) (fun h23 => ?_)
      · skip
        refine j_iconst X d_M_transfer_30 ?_
        refine j_goto X d_M_transfer_31 (tgt := 55) rfl ?_
        refine j_istore X (zlt hn rfl) d_M_transfer_55 ?_
        refine j_iload X rfl d_M_transfer_57 ?_
        refine j_if_ne X (by omega) d_M_transfer_59 (tgt := 70) rfl (fun h59 => ?_) (fun h59 => ?_)
        · exact absurd h59 (by omega)
        · skip
          refine j_aload_n X rfl d_M_transfer_62 ?_
          refine v_M_107 X hz (hmv) rfl rfl rfl (Nat.le_of_ble_eq_true rfl) ⟨Nat.le_refl _, Nat.le_refl _⟩ d_M_transfer_63 ?_
          refine j_if_ne X (by omega) d_M_transfer_66 (tgt := 70) rfl (fun h => absurd h (by omega)) (fun _ => ?_)
          exact j_vret X Y (Nat.le_refl _) (Nat.le_refl _) d_M_transfer_69 ⟨rfl, rfl⟩
      · exact absurd h23 (by omega)

set_option maxRecDepth 100000 in
set_option maxHeartbeats 4000000 in
theorem c_M_transfer7z (l : Launch) (E : eT) (σ τ : St) (w a b sd : Int) (rw : inR w) (hw : ¬ w = 6) (e11 : σ 18 0 11 = sd) (rsd : inR sd) (hsd : ¬ sd = 1 ∧ ¬ sd = 2) (hmv : FCon l E y_M_movesOn ws_M_movesOn 3 [.ref (E.2.2.2 18 0)] σ (some (.int (iI 0))) τ) : FCon l E y_M_transfer ws_M_transfer 5 [.ref (E.2.2.2 18 0), .int (iI w), .int (iI a), .int (iI b)] σ none τ := by
  refine con_of (cc := b_M_transfer) (nL := 9) (ret := none) (by decide) (Nat.le_of_ble_eq_true rfl) (fun z X Y hn => ?_)
  have X : Cx E z b_M_transfer R_M := X
  have hz := Y.2.1
  change J E z 0 0 0 [(0, .ref (E.2.2.2 18 0)), (1, .int (iI w)), (2, .int (iI a)), (3, .int (iI b))] [] (cells E σ)
  rw [← Y.1] at hmv
  refine j_iload_n X rfl d_M_transfer_0 ?_
  refine j_bipush X rfl d_M_transfer_1 ?_
  refine j_icmp_ne X (by omega) (by omega) d_M_transfer_3 (tgt := 10) rfl (fun h3 => ?_) (fun h3 => ?_)
  · skip
    refine j_iconst X d_M_transfer_10 ?_
    refine j_istore X (zlt hn rfl) d_M_transfer_11 ?_
    refine j_iload X rfl d_M_transfer_13 ?_
    refine j_if_eq X (by omega) d_M_transfer_15 (tgt := 34) rfl (fun h15 => ?_) (fun h15 => ?_)
    · skip
      refine j_aload_n X rfl d_M_transfer_34 ?_
      refine g_M_94 X d_M_transfer_35 ?_
      refine j_topi (congrArg iI e11) ?_
      refine j_iconst X d_M_transfer_38 ?_
      refine j_icmp_eq X (by omega) (by omega) d_M_transfer_39 (tgt := 50) rfl (fun h39 => ?_) (fun h39 => ?_)
      · exact absurd h39 (by omega)
      · skip
        refine j_aload_n X rfl d_M_transfer_42 ?_
        refine g_M_94 X d_M_transfer_43 ?_
        refine j_topi (congrArg iI e11) ?_
        refine j_iconst X d_M_transfer_46 ?_
        refine j_icmp_ne X (by omega) (by omega) d_M_transfer_47 (tgt := 54) rfl (fun h47 => ?_) (fun h47 => ?_)
        · skip
          refine j_iconst X d_M_transfer_54 ?_
          refine j_istore X (zlt hn rfl) d_M_transfer_55 ?_
          refine j_iload X rfl d_M_transfer_57 ?_
          refine j_if_ne X (by omega) d_M_transfer_59 (tgt := 70) rfl (fun h59 => ?_) (fun h59 => ?_)
          · exact absurd h59 (by omega)
          · skip
            refine j_aload_n X rfl d_M_transfer_62 ?_
            refine v_M_107 X hz (hmv) rfl rfl rfl (Nat.le_of_ble_eq_true rfl) ⟨Nat.le_refl _, Nat.le_refl _⟩ d_M_transfer_63 ?_
            refine j_if_ne X (by omega) d_M_transfer_66 (tgt := 70) rfl (fun h => absurd h (by omega)) (fun _ => ?_)
            exact j_vret X Y (Nat.le_refl _) (Nat.le_refl _) d_M_transfer_69 ⟨rfl, rfl⟩
        · exact absurd h47 (by omega)
    · exact absurd h15 (by omega)
  · exact absurd h3 (by omega)

set_option maxRecDepth 100000 in
set_option maxHeartbeats 4000000 in
theorem c_M_writeRecord0 (l : Launch) (E : eT) (σ γ : St) (a p t kl dl : Int) (hgo : FCon l E y_M_goesOn ws_M_goesOn 3 [.ref (E.2.2.2 18 0)] σ (some (.int (iI p))) γ) (hp : 0 ≤ p ∧ p ≤ 600) (ha : 0 ≤ a ∧ a + 2 ≤ 256) (m0 : γ 21 0 a = kl) (m1 : γ 21 0 (a + 1) = dl) (hkl : 0 ≤ kl ∧ kl ≤ 8) (hdl : 0 ≤ dl ∧ dl ≤ 60) (hf : ¬ p + 20 + kl + dl ≤ 600) : FCon l E y_M_writeRecord ws_M_writeRecord 5 [.ref (E.2.2.2 18 0), .int (iI a)] σ none (up γ 18 0 18 5) := by
  refine con_of (cc := b_M_writeRecord) (nL := 6) (ret := none) (by decide) (Nat.le_of_ble_eq_true rfl) (fun z X Y hn => ?_)
  have X : Cx E z b_M_writeRecord R_M := X
  have hz := Y.2.1
  change J E z 0 0 0 [(0, .ref (E.2.2.2 18 0)), (1, .int (iI a))] [] (cells E σ)
  rw [← Y.1] at hgo
  refine j_aload_n X rfl d_M_writeRecord_0 ?_
  refine v_M_140 X hz (hgo) rfl rfl rfl (Nat.le_of_ble_eq_true rfl) ⟨Nat.le_refl _, Nat.le_refl _⟩ d_M_writeRecord_1 ?_
  refine j_istore_n X (zlt hn rfl) d_M_writeRecord_4 ?_
  refine j_aload_n X rfl d_M_writeRecord_5 ?_
  refine g_M_16 X d_M_writeRecord_6 ?_
  refine j_iload_n X rfl d_M_writeRecord_9 ?_
  refine j_iald X (by first | exact okC1 rfl | exact (okCT rfl (by omega))) (fun _ => rfl) rfl (by omega) d_M_writeRecord_10 ?_
  refine j_topi (congrArg iI m0) ?_
  refine j_istore_n X (zlt hn rfl) d_M_writeRecord_11 ?_
  refine j_aload_n X rfl d_M_writeRecord_12 ?_
  refine g_M_16 X d_M_writeRecord_13 ?_
  refine j_iload_n X rfl d_M_writeRecord_16 ?_
  refine j_iconst X d_M_writeRecord_17 ?_
  refine j_iadd X d_M_writeRecord_18 ?_
  refine j_iald X (by first | exact okC1 rfl | exact (okCT rfl (by omega))) (fun _ => rfl) rfl (by omega) d_M_writeRecord_19 ?_
  refine j_topi (congrArg iI m1) ?_
  refine j_istore X (zlt hn rfl) d_M_writeRecord_20 ?_
  refine j_iload_n X rfl d_M_writeRecord_22 ?_
  refine j_bipush X rfl d_M_writeRecord_23 ?_
  refine j_iadd X d_M_writeRecord_25 ?_
  refine j_iload_n X rfl d_M_writeRecord_26 ?_
  refine j_iadd X d_M_writeRecord_27 ?_
  refine j_iload X rfl d_M_writeRecord_28 ?_
  refine j_iadd X d_M_writeRecord_30 ?_
  refine j_sipush X rfl d_M_writeRecord_31 ?_
  refine j_icmp_le X (by omega) (by omega) d_M_writeRecord_34 (tgt := 43) rfl (fun h34 => ?_) (fun h34 => ?_)
  · exact absurd h34 (by omega)
  · skip
    refine j_aload_n X rfl d_M_writeRecord_37 ?_
    refine j_iconst X d_M_writeRecord_38 ?_
    refine p_M_91 X d_M_writeRecord_39 ?_
    exact j_vret X Y (Nat.le_refl _) (Nat.le_refl _) d_M_writeRecord_42 ⟨rfl, rfl⟩

set_option maxRecDepth 100000 in
set_option maxHeartbeats 4000000 in
theorem c_M_writeRecord1 (l : Launch) (E : eT) (σ γ : St) (a p t kl dl : Int) (hgo : FCon l E y_M_goesOn ws_M_goesOn 3 [.ref (E.2.2.2 18 0)] σ (some (.int (iI p))) γ) (hp : 0 ≤ p ∧ p ≤ 600) (ha : 0 ≤ a ∧ a + 2 ≤ 256) (m0 : γ 21 0 a = kl) (m1 : γ 21 0 (a + 1) = dl) (hkl : 0 ≤ kl ∧ kl ≤ 8) (hdl : 0 ≤ dl ∧ dl ≤ 60) (ρ : St) (f : Int → Int) (hf : p + 20 + kl + dl ≤ 600) (ha2 : a + 2 + kl + dl ≤ 256) (e9 : γ 18 0 9 = t) (ht : 0 ≤ t ∧ t < 32) (hm : ∀ i, 0 ≤ i → i < kl + dl → ((γ 21 0 (a + 2 + i)).bmod 256).bmod 256 = f i) (hor : FCon l E y_M_orient ws_M_orient 3 [.ref (E.2.2.2 18 0), .int (iI 3)] (up (fiS (laS (clS γ t p 600) t p kl dl) 20 (600 * t + p + 20) f (kl + dl)) 18 0 10 p) none ρ) : FCon l E y_M_writeRecord ws_M_writeRecord 5 [.ref (E.2.2.2 18 0), .int (iI a)] σ none (up ρ 18 0 17 (ρ 18 0 17 + 1)) := by
  refine con_of (cc := b_M_writeRecord) (nL := 6) (ret := none) (by decide) (Nat.le_of_ble_eq_true rfl) (fun z X Y hn => ?_)
  have X : Cx E z b_M_writeRecord R_M := X
  have hz := Y.2.1
  change J E z 0 0 0 [(0, .ref (E.2.2.2 18 0)), (1, .int (iI a))] [] (cells E σ)
  rw [← Y.1] at hgo hor
  refine j_aload_n X rfl d_M_writeRecord_0 ?_
  refine v_M_140 X hz (hgo) rfl rfl rfl (Nat.le_of_ble_eq_true rfl) ⟨Nat.le_refl _, Nat.le_refl _⟩ d_M_writeRecord_1 ?_
  refine j_istore_n X (zlt hn rfl) d_M_writeRecord_4 ?_
  refine j_aload_n X rfl d_M_writeRecord_5 ?_
  refine g_M_16 X d_M_writeRecord_6 ?_
  refine j_iload_n X rfl d_M_writeRecord_9 ?_
  refine j_iald X (by first | exact okC1 rfl | exact (okCT rfl (by omega))) (fun _ => rfl) rfl (by omega) d_M_writeRecord_10 ?_
  refine j_topi (congrArg iI m0) ?_
  refine j_istore_n X (zlt hn rfl) d_M_writeRecord_11 ?_
  refine j_aload_n X rfl d_M_writeRecord_12 ?_
  refine g_M_16 X d_M_writeRecord_13 ?_
  refine j_iload_n X rfl d_M_writeRecord_16 ?_
  refine j_iconst X d_M_writeRecord_17 ?_
  refine j_iadd X d_M_writeRecord_18 ?_
  refine j_iald X (by first | exact okC1 rfl | exact (okCT rfl (by omega))) (fun _ => rfl) rfl (by omega) d_M_writeRecord_19 ?_
  refine j_topi (congrArg iI m1) ?_
  refine j_istore X (zlt hn rfl) d_M_writeRecord_20 ?_
  refine j_iload_n X rfl d_M_writeRecord_22 ?_
  refine j_bipush X rfl d_M_writeRecord_23 ?_
  refine j_iadd X d_M_writeRecord_25 ?_
  refine j_iload_n X rfl d_M_writeRecord_26 ?_
  refine j_iadd X d_M_writeRecord_27 ?_
  refine j_iload X rfl d_M_writeRecord_28 ?_
  refine j_iadd X d_M_writeRecord_30 ?_
  refine j_sipush X rfl d_M_writeRecord_31 ?_
  refine j_icmp_le X (by omega) (by omega) d_M_writeRecord_34 (tgt := 43) rfl (fun h34 => ?_) (fun h34 => ?_)
  · skip
    refine j_aload_n X rfl d_M_writeRecord_43 ?_
    refine j_aload_n X rfl d_M_writeRecord_44 ?_
    refine g_M_80 X d_M_writeRecord_45 ?_
    refine j_topi (congrArg iI e9) ?_
    refine j_iload_n X rfl d_M_writeRecord_48 ?_
    refine v_M_143 X hz (c_M_clear (zl z) E γ t p ht (by omega)) rfl rfl rfl (Nat.le_of_ble_eq_true rfl) ⟨Nat.le_refl _, Nat.le_refl _⟩ d_M_writeRecord_49 ?_
    refine j_aload_n X rfl d_M_writeRecord_52 ?_
    refine j_aload_n X rfl d_M_writeRecord_53 ?_
    refine g_M_80 X d_M_writeRecord_54 ?_
    refine j_topi (congrArg iI e9) ?_
    refine j_iload_n X rfl d_M_writeRecord_57 ?_
    refine j_iload_n X rfl d_M_writeRecord_58 ?_
    refine j_iload X rfl d_M_writeRecord_59 ?_
    refine v_M_147 X hz (c_M_lay (zl z) E (clS γ t p 600) t p kl dl ht (by omega)) rfl rfl rfl (Nat.le_of_ble_eq_true rfl) ⟨Nat.le_refl _, Nat.le_refl _⟩ d_M_writeRecord_61 ?_
    refine j_iconst X d_M_writeRecord_64 ?_
    refine j_istore X (zlt hn rfl) d_M_writeRecord_65 ?_
    have kyl : ∀ i : Int, (0 ≤ i ∧ i ≤ kl + dl) → J E z 0 0 67 [(0, .ref (E.2.2.2 18 0)), (1, .int (iI a)), (2, .int (iI p)), (3, .int (iI kl)), (4, .int (iI dl)), (5, .int (iI i))] [] (cells E (fiS (laS (clS γ t p 600) t p kl dl) 20 (600 * t + p + 20) f i)) := by
      refine j_loop (fun i : Int => (kl + dl - i).toNat) _ _ (fun i hi ih => ?_)
      refine j_iload X rfl d_M_writeRecord_67 ?_
      refine j_iload_n X rfl d_M_writeRecord_69 ?_
      refine j_iload X rfl d_M_writeRecord_70 ?_
      refine j_iadd X d_M_writeRecord_72 ?_
      refine j_icmp_ge X (by omega) (by omega) d_M_writeRecord_73 (tgt := 104) rfl (fun h73 => ?_) (fun h73 => ?_)
      · skip
        have ei : i = kl + dl := by omega
        rw [ei]
        refine j_aload_n X rfl d_M_writeRecord_104 ?_
        refine j_iload_n X rfl d_M_writeRecord_105 ?_
        refine p_M_97 X d_M_writeRecord_106 ?_
        refine j_aload_n X rfl d_M_writeRecord_109 ?_
        refine j_iconst X d_M_writeRecord_110 ?_
        refine v_M_111 X hz (hor) rfl rfl rfl (Nat.le_of_ble_eq_true rfl) ⟨Nat.le_refl _, Nat.le_refl _⟩ d_M_writeRecord_111 ?_
        refine j_aload_n X rfl d_M_writeRecord_114 ?_
        refine j_dup X rfl d_M_writeRecord_115 ?_
        refine g_M_123 X d_M_writeRecord_116 ?_
        refine j_iconst X d_M_writeRecord_119 ?_
        refine j_iadd X d_M_writeRecord_120 ?_
        refine p_M_123 X d_M_writeRecord_121 ?_
        exact j_vret X Y (Nat.le_refl _) (Nat.le_refl _) d_M_writeRecord_124 ⟨rfl, rfl⟩
      · skip
        refine j_aload_n X rfl d_M_writeRecord_76 ?_
        refine j_aload_n X rfl d_M_writeRecord_77 ?_
        refine g_M_80 X d_M_writeRecord_78 ?_
        refine j_topi (congrArg iI e9) ?_
        refine j_iload_n X rfl d_M_writeRecord_81 ?_
        refine j_iload X rfl d_M_writeRecord_82 ?_
        refine j_aload_n X rfl d_M_writeRecord_84 ?_
        refine g_M_16 X d_M_writeRecord_85 ?_
        refine j_iload_n X rfl d_M_writeRecord_88 ?_
        refine j_iconst X d_M_writeRecord_89 ?_
        refine j_iadd X d_M_writeRecord_90 ?_
        refine j_iload X rfl d_M_writeRecord_91 ?_
        refine j_iadd X d_M_writeRecord_93 ?_
        refine j_iald X (by first | exact okC1 rfl | exact (okCT rfl (by omega))) (fun _ => rfl) rfl (by omega) d_M_writeRecord_94 ?_
        refine j_topi (congrArg iI (show (fiS (laS (clS γ t p 600) t p kl dl) 20 (600 * t + p + 20) f i) 21 0 (a + 2 + i) = γ 21 0 (a + 2 + i) from rfl)) ?_
        refine v_M_136 X hz (c_M_setByte (zl z) E (fiS (laS (clS γ t p 600) t p kl dl) 20 (600 * t + p + 20) f i) t p i (γ 21 0 (a + 2 + i)) ht (by omega)) rfl rfl rfl (Nat.le_of_ble_eq_true rfl) ⟨Nat.le_refl _, Nat.le_refl _⟩ d_M_writeRecord_95 ?_
        refine j_iinc X rfl (zlt hn rfl) d_M_writeRecord_98 ?_
        refine j_goto X d_M_writeRecord_101 (tgt := 67) rfl ?_
        rw [fi_s (k := 20) hi.1 (hm i hi.1 (by omega))]; exact ih (i + 1) (by omega) (by omega)
    have := kyl 0 (by omega); rw [fi_0] at this; exact this
  · exact absurd h34 (by omega)

set_option maxRecDepth 100000 in
set_option maxHeartbeats 4000000 in
theorem c_M_isSo0 (l : Launch) (E : eT) (σ : St) (k last a b : Int) (hk : 0 ≤ k ∧ k < 16) (e22 : σ 22 0 k = 0) (e23 : σ 23 0 k = a) (e24 : σ 24 0 k = b) (ra : inR a) (rb : inR b) (rl : inR last) : FCon l E y_M_isSo ws_M_isSo 2 [.ref (E.2.2.2 18 0), .int (iI k), .int (iI last)] σ (some (.int (iI (b2i (decide (0 ≤ a ∧ a < 32)))))) σ := by
  refine con_of (cc := b_M_isSo) (nL := 6) (ret := (some .boolean)) (by decide) (Nat.le_of_ble_eq_true rfl) (fun z X Y hn => ?_)
  have X : Cx E z b_M_isSo R_M := X
  have hz := Y.2.1
  change J E z 0 0 0 [(0, .ref (E.2.2.2 18 0)), (1, .int (iI k)), (2, .int (iI last))] [] (cells E σ)
  refine j_aload_n X rfl d_M_isSo_0 ?_
  refine g_M_20 X d_M_isSo_1 ?_
  refine j_iload_n X rfl d_M_isSo_4 ?_
  refine j_iald X (by first | exact okC1 rfl | exact (okCT rfl (by omega))) (fun _ => rfl) rfl (by omega) d_M_isSo_5 ?_
  refine j_topi (congrArg iI e22) ?_
  refine j_istore_n X (zlt hn rfl) d_M_isSo_6 ?_
  refine j_aload_n X rfl d_M_isSo_7 ?_
  refine g_M_23 X d_M_isSo_8 ?_
  refine j_iload_n X rfl d_M_isSo_11 ?_
  refine j_iald X (by first | exact okC1 rfl | exact (okCT rfl (by omega))) (fun _ => rfl) rfl (by omega) d_M_isSo_12 ?_
  refine j_topi (congrArg iI e23) ?_
  refine j_istore X (zlt hn rfl) d_M_isSo_13 ?_
  refine j_aload_n X rfl d_M_isSo_15 ?_
  refine g_M_26 X d_M_isSo_16 ?_
  refine j_iload_n X rfl d_M_isSo_19 ?_
  refine j_iald X (by first | exact okC1 rfl | exact (okCT rfl (by omega))) (fun _ => rfl) rfl (by omega) d_M_isSo_20 ?_
  refine j_topi (congrArg iI e24) ?_
  refine j_istore X (zlt hn rfl) d_M_isSo_21 ?_
  refine j_iload_n X rfl d_M_isSo_23 ?_
  refine j_tableIn X (by decide) d_M_isSo_24 (by decide) (by decide) rfl (tgt := 88) rfl ?_
  refine j_iload X rfl d_M_isSo_88 ?_
  refine j_if_lt X (by omega) d_M_isSo_90 (tgt := 104) rfl (fun h90 => ?_) (fun h90 => ?_)
  · skip
    refine j_iconst X d_M_isSo_104 ?_
    exact j_zret X Y (by first | rfl | exact b2i_nar _) (Nat.le_refl _) (Nat.le_refl _) d_M_isSo_105 ⟨by first | rw [b2i_t (by omega)] | rw [b2i_f (by omega)], rfl⟩
  · skip
    refine j_iload X rfl d_M_isSo_93 ?_
    refine j_bipush X rfl d_M_isSo_95 ?_
    refine j_icmp_ge X (by omega) (by omega) d_M_isSo_97 (tgt := 104) rfl (fun h97 => ?_) (fun h97 => ?_)
    · skip
      refine j_iconst X d_M_isSo_104 ?_
      exact j_zret X Y (by first | rfl | exact b2i_nar _) (Nat.le_refl _) (Nat.le_refl _) d_M_isSo_105 ⟨by first | rw [b2i_t (by omega)] | rw [b2i_f (by omega)], rfl⟩
    · skip
      refine j_iconst X d_M_isSo_100 ?_
      refine j_goto X d_M_isSo_101 (tgt := 105) rfl ?_
      exact j_zret X Y (by first | rfl | exact b2i_nar _) (Nat.le_refl _) (Nat.le_refl _) d_M_isSo_105 ⟨by first | rw [b2i_t (by omega)] | rw [b2i_f (by omega)], rfl⟩

set_option maxRecDepth 100000 in
set_option maxHeartbeats 4000000 in
theorem c_M_isSo1 (l : Launch) (E : eT) (σ : St) (k last a b : Int) (hk : 0 ≤ k ∧ k < 16) (e22 : σ 22 0 k = 1) (e23 : σ 23 0 k = a) (e24 : σ 24 0 k = b) (ra : inR a) (rb : inR b) (rl : inR last) : FCon l E y_M_isSo ws_M_isSo 2 [.ref (E.2.2.2 18 0), .int (iI k), .int (iI last)] σ (some (.int (iI 1))) σ := by
  refine con_of (cc := b_M_isSo) (nL := 6) (ret := (some .boolean)) (by decide) (Nat.le_of_ble_eq_true rfl) (fun z X Y hn => ?_)
  have X : Cx E z b_M_isSo R_M := X
  have hz := Y.2.1
  change J E z 0 0 0 [(0, .ref (E.2.2.2 18 0)), (1, .int (iI k)), (2, .int (iI last))] [] (cells E σ)
  refine j_aload_n X rfl d_M_isSo_0 ?_
  refine g_M_20 X d_M_isSo_1 ?_
  refine j_iload_n X rfl d_M_isSo_4 ?_
  refine j_iald X (by first | exact okC1 rfl | exact (okCT rfl (by omega))) (fun _ => rfl) rfl (by omega) d_M_isSo_5 ?_
  refine j_topi (congrArg iI e22) ?_
  refine j_istore_n X (zlt hn rfl) d_M_isSo_6 ?_
  refine j_aload_n X rfl d_M_isSo_7 ?_
  refine g_M_23 X d_M_isSo_8 ?_
  refine j_iload_n X rfl d_M_isSo_11 ?_
  refine j_iald X (by first | exact okC1 rfl | exact (okCT rfl (by omega))) (fun _ => rfl) rfl (by omega) d_M_isSo_12 ?_
  refine j_topi (congrArg iI e23) ?_
  refine j_istore X (zlt hn rfl) d_M_isSo_13 ?_
  refine j_aload_n X rfl d_M_isSo_15 ?_
  refine g_M_26 X d_M_isSo_16 ?_
  refine j_iload_n X rfl d_M_isSo_19 ?_
  refine j_iald X (by first | exact okC1 rfl | exact (okCT rfl (by omega))) (fun _ => rfl) rfl (by omega) d_M_isSo_20 ?_
  refine j_topi (congrArg iI e24) ?_
  refine j_istore X (zlt hn rfl) d_M_isSo_21 ?_
  refine j_iload_n X rfl d_M_isSo_23 ?_
  refine j_tableIn X (by decide) d_M_isSo_24 (by decide) (by decide) rfl (tgt := 309) rfl ?_
  refine j_iconst X d_M_isSo_309 ?_
  exact j_zret X Y (by first | rfl | exact b2i_nar _) (Nat.le_refl _) (Nat.le_refl _) d_M_isSo_310 ⟨rfl, rfl⟩

set_option maxRecDepth 100000 in
set_option maxHeartbeats 4000000 in
theorem c_M_isSo2 (l : Launch) (E : eT) (σ : St) (k last a b : Int) (hk : 0 ≤ k ∧ k < 16) (e22 : σ 22 0 k = 2) (e23 : σ 23 0 k = a) (e24 : σ 24 0 k = b) (ra : inR a) (rb : inR b) (rl : inR last) : FCon l E y_M_isSo ws_M_isSo 2 [.ref (E.2.2.2 18 0), .int (iI k), .int (iI last)] σ (some (.int (iI (b2i (decide ((0 ≤ b ∧ b ≤ 8) ∧ (0 ≤ a ∧ a < 256) ∧ a + b ≤ 256)))))) σ := by
  refine con_of (cc := b_M_isSo) (nL := 6) (ret := (some .boolean)) (by decide) (Nat.le_of_ble_eq_true rfl) (fun z X Y hn => ?_)
  have X : Cx E z b_M_isSo R_M := X
  have hz := Y.2.1
  change J E z 0 0 0 [(0, .ref (E.2.2.2 18 0)), (1, .int (iI k)), (2, .int (iI last))] [] (cells E σ)
  refine j_aload_n X rfl d_M_isSo_0 ?_
  refine g_M_20 X d_M_isSo_1 ?_
  refine j_iload_n X rfl d_M_isSo_4 ?_
  refine j_iald X (by first | exact okC1 rfl | exact (okCT rfl (by omega))) (fun _ => rfl) rfl (by omega) d_M_isSo_5 ?_
  refine j_topi (congrArg iI e22) ?_
  refine j_istore_n X (zlt hn rfl) d_M_isSo_6 ?_
  refine j_aload_n X rfl d_M_isSo_7 ?_
  refine g_M_23 X d_M_isSo_8 ?_
  refine j_iload_n X rfl d_M_isSo_11 ?_
  refine j_iald X (by first | exact okC1 rfl | exact (okCT rfl (by omega))) (fun _ => rfl) rfl (by omega) d_M_isSo_12 ?_
  refine j_topi (congrArg iI e23) ?_
  refine j_istore X (zlt hn rfl) d_M_isSo_13 ?_
  refine j_aload_n X rfl d_M_isSo_15 ?_
  refine g_M_26 X d_M_isSo_16 ?_
  refine j_iload_n X rfl d_M_isSo_19 ?_
  refine j_iald X (by first | exact okC1 rfl | exact (okCT rfl (by omega))) (fun _ => rfl) rfl (by omega) d_M_isSo_20 ?_
  refine j_topi (congrArg iI e24) ?_
  refine j_istore X (zlt hn rfl) d_M_isSo_21 ?_
  refine j_iload_n X rfl d_M_isSo_23 ?_
  refine j_tableIn X (by decide) d_M_isSo_24 (by decide) (by decide) rfl (tgt := 106) rfl ?_
  refine j_iload X rfl d_M_isSo_106 ?_
  refine j_if_lt X (by omega) d_M_isSo_108 (tgt := 133) rfl (fun h108 => ?_) (fun h108 => ?_)
  · skip
    refine j_iconst X d_M_isSo_133 ?_
    exact j_zret X Y (by first | rfl | exact b2i_nar _) (Nat.le_refl _) (Nat.le_refl _) d_M_isSo_134 ⟨by first | rw [b2i_t (by omega)] | rw [b2i_f (by omega)], rfl⟩
  · skip
    refine j_iload X rfl d_M_isSo_111 ?_
    refine j_bipush X rfl d_M_isSo_113 ?_
    refine j_icmp_gt X (by omega) (by omega) d_M_isSo_115 (tgt := 133) rfl (fun h115 => ?_) (fun h115 => ?_)
    · skip
      refine j_iconst X d_M_isSo_133 ?_
      exact j_zret X Y (by first | rfl | exact b2i_nar _) (Nat.le_refl _) (Nat.le_refl _) d_M_isSo_134 ⟨by first | rw [b2i_t (by omega)] | rw [b2i_f (by omega)], rfl⟩
    · skip
      refine j_aload_n X rfl d_M_isSo_118 ?_
      refine j_iload X rfl d_M_isSo_119 ?_
      refine j_iload X rfl d_M_isSo_121 ?_
      refine v_M_100 X hz (c_M_isRow (zl z) E σ a b ra (by omega)) rfl rfl rfl (Nat.le_of_ble_eq_true rfl) ⟨Nat.le_refl _, Nat.le_refl _⟩ d_M_isSo_123 ?_
      refine j_ifz X d_M_isSo_126 (tgt := 133) rfl (fun h126 => ?_) (fun h126 => ?_)
      · skip
        refine j_iconst X d_M_isSo_133 ?_
        exact j_zret X Y (by first | rfl | exact b2i_nar _) (Nat.le_refl _) (Nat.le_refl _) d_M_isSo_134 ⟨by first | rw [b2i_t (by omega)] | rw [b2i_f (by omega)], rfl⟩
      · skip
        refine j_iconst X d_M_isSo_129 ?_
        refine j_goto X d_M_isSo_130 (tgt := 134) rfl ?_
        exact j_zret X Y (by first | rfl | exact b2i_nar _) (Nat.le_refl _) (Nat.le_refl _) d_M_isSo_134 ⟨by first | rw [b2i_t (by omega)] | rw [b2i_f (by omega)], rfl⟩

set_option maxRecDepth 100000 in
set_option maxHeartbeats 4000000 in
theorem c_M_isSo3 (l : Launch) (E : eT) (σ : St) (k last a b : Int) (hk : 0 ≤ k ∧ k < 16) (e22 : σ 22 0 k = 3) (e23 : σ 23 0 k = a) (e24 : σ 24 0 k = b) (ra : inR a) (rb : inR b) (rl : inR last) : FCon l E y_M_isSo ws_M_isSo 2 [.ref (E.2.2.2 18 0), .int (iI k), .int (iI last)] σ (some (.int (iI (b2i (decide ((0 ≤ b ∧ b ≤ 8) ∧ (0 ≤ a ∧ a < 256) ∧ a + b ≤ 256)))))) σ := by
  refine con_of (cc := b_M_isSo) (nL := 6) (ret := (some .boolean)) (by decide) (Nat.le_of_ble_eq_true rfl) (fun z X Y hn => ?_)
  have X : Cx E z b_M_isSo R_M := X
  have hz := Y.2.1
  change J E z 0 0 0 [(0, .ref (E.2.2.2 18 0)), (1, .int (iI k)), (2, .int (iI last))] [] (cells E σ)
  refine j_aload_n X rfl d_M_isSo_0 ?_
  refine g_M_20 X d_M_isSo_1 ?_
  refine j_iload_n X rfl d_M_isSo_4 ?_
  refine j_iald X (by first | exact okC1 rfl | exact (okCT rfl (by omega))) (fun _ => rfl) rfl (by omega) d_M_isSo_5 ?_
  refine j_topi (congrArg iI e22) ?_
  refine j_istore_n X (zlt hn rfl) d_M_isSo_6 ?_
  refine j_aload_n X rfl d_M_isSo_7 ?_
  refine g_M_23 X d_M_isSo_8 ?_
  refine j_iload_n X rfl d_M_isSo_11 ?_
  refine j_iald X (by first | exact okC1 rfl | exact (okCT rfl (by omega))) (fun _ => rfl) rfl (by omega) d_M_isSo_12 ?_
  refine j_topi (congrArg iI e23) ?_
  refine j_istore X (zlt hn rfl) d_M_isSo_13 ?_
  refine j_aload_n X rfl d_M_isSo_15 ?_
  refine g_M_26 X d_M_isSo_16 ?_
  refine j_iload_n X rfl d_M_isSo_19 ?_
  refine j_iald X (by first | exact okC1 rfl | exact (okCT rfl (by omega))) (fun _ => rfl) rfl (by omega) d_M_isSo_20 ?_
  refine j_topi (congrArg iI e24) ?_
  refine j_istore X (zlt hn rfl) d_M_isSo_21 ?_
  refine j_iload_n X rfl d_M_isSo_23 ?_
  refine j_tableIn X (by decide) d_M_isSo_24 (by decide) (by decide) rfl (tgt := 106) rfl ?_
  refine j_iload X rfl d_M_isSo_106 ?_
  refine j_if_lt X (by omega) d_M_isSo_108 (tgt := 133) rfl (fun h108 => ?_) (fun h108 => ?_)
  · skip
    refine j_iconst X d_M_isSo_133 ?_
    exact j_zret X Y (by first | rfl | exact b2i_nar _) (Nat.le_refl _) (Nat.le_refl _) d_M_isSo_134 ⟨by first | rw [b2i_t (by omega)] | rw [b2i_f (by omega)], rfl⟩
  · skip
    refine j_iload X rfl d_M_isSo_111 ?_
    refine j_bipush X rfl d_M_isSo_113 ?_
    refine j_icmp_gt X (by omega) (by omega) d_M_isSo_115 (tgt := 133) rfl (fun h115 => ?_) (fun h115 => ?_)
    · skip
      refine j_iconst X d_M_isSo_133 ?_
      exact j_zret X Y (by first | rfl | exact b2i_nar _) (Nat.le_refl _) (Nat.le_refl _) d_M_isSo_134 ⟨by first | rw [b2i_t (by omega)] | rw [b2i_f (by omega)], rfl⟩
    · skip
      refine j_aload_n X rfl d_M_isSo_118 ?_
      refine j_iload X rfl d_M_isSo_119 ?_
      refine j_iload X rfl d_M_isSo_121 ?_
      refine v_M_100 X hz (c_M_isRow (zl z) E σ a b ra (by omega)) rfl rfl rfl (Nat.le_of_ble_eq_true rfl) ⟨Nat.le_refl _, Nat.le_refl _⟩ d_M_isSo_123 ?_
      refine j_ifz X d_M_isSo_126 (tgt := 133) rfl (fun h126 => ?_) (fun h126 => ?_)
      · skip
        refine j_iconst X d_M_isSo_133 ?_
        exact j_zret X Y (by first | rfl | exact b2i_nar _) (Nat.le_refl _) (Nat.le_refl _) d_M_isSo_134 ⟨by first | rw [b2i_t (by omega)] | rw [b2i_f (by omega)], rfl⟩
      · skip
        refine j_iconst X d_M_isSo_129 ?_
        refine j_goto X d_M_isSo_130 (tgt := 134) rfl ?_
        exact j_zret X Y (by first | rfl | exact b2i_nar _) (Nat.le_refl _) (Nat.le_refl _) d_M_isSo_134 ⟨by first | rw [b2i_t (by omega)] | rw [b2i_f (by omega)], rfl⟩

set_option maxRecDepth 100000 in
set_option maxHeartbeats 4000000 in
theorem c_M_isSo4 (l : Launch) (E : eT) (σ : St) (k last a b : Int) (hk : 0 ≤ k ∧ k < 16) (e22 : σ 22 0 k = 4) (e23 : σ 23 0 k = a) (e24 : σ 24 0 k = b) (ra : inR a) (rb : inR b) (rl : inR last) (r22 : ∀ i, 0 ≤ i → i < 16 → inR (σ 22 0 i)) : FCon l E y_M_isSo ws_M_isSo 2 [.ref (E.2.2.2 18 0), .int (iI k), .int (iI last)] σ (some (.int (iI (b2i (decide ((0 ≤ a ∧ a ≤ k) ∧ 0 < k ∧ last = k - 1 ∧ 1 ≤ σ 22 0 last ∧ σ 22 0 last ≤ 3)))))) σ := by
  refine con_of (cc := b_M_isSo) (nL := 6) (ret := (some .boolean)) (by decide) (Nat.le_of_ble_eq_true rfl) (fun z X Y hn => ?_)
  have X : Cx E z b_M_isSo R_M := X
  have hz := Y.2.1
  change J E z 0 0 0 [(0, .ref (E.2.2.2 18 0)), (1, .int (iI k)), (2, .int (iI last))] [] (cells E σ)
  refine j_aload_n X rfl d_M_isSo_0 ?_
  refine g_M_20 X d_M_isSo_1 ?_
  refine j_iload_n X rfl d_M_isSo_4 ?_
  refine j_iald X (by first | exact okC1 rfl | exact (okCT rfl (by omega))) (fun _ => rfl) rfl (by omega) d_M_isSo_5 ?_
  refine j_topi (congrArg iI e22) ?_
  refine j_istore_n X (zlt hn rfl) d_M_isSo_6 ?_
  refine j_aload_n X rfl d_M_isSo_7 ?_
  refine g_M_23 X d_M_isSo_8 ?_
  refine j_iload_n X rfl d_M_isSo_11 ?_
  refine j_iald X (by first | exact okC1 rfl | exact (okCT rfl (by omega))) (fun _ => rfl) rfl (by omega) d_M_isSo_12 ?_
  refine j_topi (congrArg iI e23) ?_
  refine j_istore X (zlt hn rfl) d_M_isSo_13 ?_
  refine j_aload_n X rfl d_M_isSo_15 ?_
  refine g_M_26 X d_M_isSo_16 ?_
  refine j_iload_n X rfl d_M_isSo_19 ?_
  refine j_iald X (by first | exact okC1 rfl | exact (okCT rfl (by omega))) (fun _ => rfl) rfl (by omega) d_M_isSo_20 ?_
  refine j_topi (congrArg iI e24) ?_
  refine j_istore X (zlt hn rfl) d_M_isSo_21 ?_
  refine j_iload_n X rfl d_M_isSo_23 ?_
  refine j_tableIn X (by decide) d_M_isSo_24 (by decide) (by decide) rfl (tgt := 135) rfl ?_
  refine j_iload X rfl d_M_isSo_135 ?_
  refine j_if_lt X (by omega) d_M_isSo_137 (tgt := 181) rfl (fun h137 => ?_) (fun h137 => ?_)
  · skip
    refine j_iconst X d_M_isSo_181 ?_
    exact j_zret X Y (by first | rfl | exact b2i_nar _) (Nat.le_refl _) (Nat.le_refl _) d_M_isSo_182 ⟨by first | rw [b2i_t (by omega)] | rw [b2i_f (by omega)], rfl⟩
  · skip
    refine j_iload X rfl d_M_isSo_140 ?_
    refine j_iload_n X rfl d_M_isSo_142 ?_
    refine j_icmp_gt X (by omega) (by omega) d_M_isSo_143 (tgt := 181) rfl (fun h143 => ?_) (fun h143 => ?_)
    · skip
      refine j_iconst X d_M_isSo_181 ?_
      exact j_zret X Y (by first | rfl | exact b2i_nar _) (Nat.le_refl _) (Nat.le_refl _) d_M_isSo_182 ⟨by first | rw [b2i_t (by omega)] | rw [b2i_f (by omega)], rfl⟩
    · skip
      refine j_iload_n X rfl d_M_isSo_146 ?_
      refine j_if_le X (by omega) d_M_isSo_147 (tgt := 181) rfl (fun h147 => ?_) (fun h147 => ?_)
      · skip
        refine j_iconst X d_M_isSo_181 ?_
        exact j_zret X Y (by first | rfl | exact b2i_nar _) (Nat.le_refl _) (Nat.le_refl _) d_M_isSo_182 ⟨by first | rw [b2i_t (by omega)] | rw [b2i_f (by omega)], rfl⟩
      · skip
        refine j_iload_n X rfl d_M_isSo_150 ?_
        refine j_iload_n X rfl d_M_isSo_151 ?_
        refine j_iconst X d_M_isSo_152 ?_
        refine j_isub X d_M_isSo_153 ?_
        refine j_icmp_ne X (by omega) (by omega) d_M_isSo_154 (tgt := 181) rfl (fun h154 => ?_) (fun h154 => ?_)
        · skip
          refine j_iconst X d_M_isSo_181 ?_
          exact j_zret X Y (by first | rfl | exact b2i_nar _) (Nat.le_refl _) (Nat.le_refl _) d_M_isSo_182 ⟨by first | rw [b2i_t (by omega)] | rw [b2i_f (by omega)], rfl⟩
        · skip
          refine j_aload_n X rfl d_M_isSo_157 ?_
          refine g_M_20 X d_M_isSo_158 ?_
          have r1 := r22 last (by omega) (by omega)
          refine j_iload_n X rfl d_M_isSo_161 ?_
          refine j_iald X (by first | exact okC1 rfl | exact (okCT rfl (by omega))) (fun _ => rfl) rfl (by omega) d_M_isSo_162 ?_
          refine j_iconst X d_M_isSo_163 ?_
          refine j_icmp_lt X (by omega) (by omega) d_M_isSo_164 (tgt := 181) rfl (fun h164 => ?_) (fun h164 => ?_)
          · skip
            refine j_iconst X d_M_isSo_181 ?_
            exact j_zret X Y (by first | rfl | exact b2i_nar _) (Nat.le_refl _) (Nat.le_refl _) d_M_isSo_182 ⟨by first | rw [b2i_t (by omega)] | rw [b2i_f (by omega)], rfl⟩
          · skip
            refine j_aload_n X rfl d_M_isSo_167 ?_
            refine g_M_20 X d_M_isSo_168 ?_
            refine j_iload_n X rfl d_M_isSo_171 ?_
            refine j_iald X (by first | exact okC1 rfl | exact (okCT rfl (by omega))) (fun _ => rfl) rfl (by omega) d_M_isSo_172 ?_
            refine j_iconst X d_M_isSo_173 ?_
            refine j_icmp_gt X (by omega) (by omega) d_M_isSo_174 (tgt := 181) rfl (fun h174 => ?_) (fun h174 => ?_)
            · skip
              refine j_iconst X d_M_isSo_181 ?_
              exact j_zret X Y (by first | rfl | exact b2i_nar _) (Nat.le_refl _) (Nat.le_refl _) d_M_isSo_182 ⟨by first | rw [b2i_t (by omega)] | rw [b2i_f (by omega)], rfl⟩
            · skip
              refine j_iconst X d_M_isSo_177 ?_
              refine j_goto X d_M_isSo_178 (tgt := 182) rfl ?_
              exact j_zret X Y (by first | rfl | exact b2i_nar _) (Nat.le_refl _) (Nat.le_refl _) d_M_isSo_182 ⟨by first | rw [b2i_t (by omega)] | rw [b2i_f (by omega)], rfl⟩

set_option maxRecDepth 100000 in
set_option maxHeartbeats 4000000 in
theorem c_M_isSo5 (l : Launch) (E : eT) (σ : St) (k last a b : Int) (hk : 0 ≤ k ∧ k < 16) (e22 : σ 22 0 k = 5) (e23 : σ 23 0 k = a) (e24 : σ 24 0 k = b) (ra : inR a) (rb : inR b) (rl : inR last) : FCon l E y_M_isSo ws_M_isSo 2 [.ref (E.2.2.2 18 0), .int (iI k), .int (iI last)] σ (some (.int (iI (b2i (decide ((0 ≤ a ∧ a < 256) ∧ a + 4 ≤ 256)))))) σ := by
  refine con_of (cc := b_M_isSo) (nL := 6) (ret := (some .boolean)) (by decide) (Nat.le_of_ble_eq_true rfl) (fun z X Y hn => ?_)
  have X : Cx E z b_M_isSo R_M := X
  have hz := Y.2.1
  change J E z 0 0 0 [(0, .ref (E.2.2.2 18 0)), (1, .int (iI k)), (2, .int (iI last))] [] (cells E σ)
  refine j_aload_n X rfl d_M_isSo_0 ?_
  refine g_M_20 X d_M_isSo_1 ?_
  refine j_iload_n X rfl d_M_isSo_4 ?_
  refine j_iald X (by first | exact okC1 rfl | exact (okCT rfl (by omega))) (fun _ => rfl) rfl (by omega) d_M_isSo_5 ?_
  refine j_topi (congrArg iI e22) ?_
  refine j_istore_n X (zlt hn rfl) d_M_isSo_6 ?_
  refine j_aload_n X rfl d_M_isSo_7 ?_
  refine g_M_23 X d_M_isSo_8 ?_
  refine j_iload_n X rfl d_M_isSo_11 ?_
  refine j_iald X (by first | exact okC1 rfl | exact (okCT rfl (by omega))) (fun _ => rfl) rfl (by omega) d_M_isSo_12 ?_
  refine j_topi (congrArg iI e23) ?_
  refine j_istore X (zlt hn rfl) d_M_isSo_13 ?_
  refine j_aload_n X rfl d_M_isSo_15 ?_
  refine g_M_26 X d_M_isSo_16 ?_
  refine j_iload_n X rfl d_M_isSo_19 ?_
  refine j_iald X (by first | exact okC1 rfl | exact (okCT rfl (by omega))) (fun _ => rfl) rfl (by omega) d_M_isSo_20 ?_
  refine j_topi (congrArg iI e24) ?_
  refine j_istore X (zlt hn rfl) d_M_isSo_21 ?_
  refine j_iload_n X rfl d_M_isSo_23 ?_
  refine j_tableIn X (by decide) d_M_isSo_24 (by decide) (by decide) rfl (tgt := 183) rfl ?_
  refine j_aload_n X rfl d_M_isSo_183 ?_
  refine j_iload X rfl d_M_isSo_184 ?_
  refine j_iconst X d_M_isSo_186 ?_
  refine v_M_100 X hz (c_M_isRow (zl z) E σ a 4 ra (by omega)) rfl rfl rfl (Nat.le_of_ble_eq_true rfl) ⟨Nat.le_refl _, Nat.le_refl _⟩ d_M_isSo_187 ?_
  exact j_zret X Y (by first | rfl | exact b2i_nar _) (Nat.le_refl _) (Nat.le_refl _) d_M_isSo_190 ⟨rfl, rfl⟩

set_option maxRecDepth 100000 in
set_option maxHeartbeats 4000000 in
theorem c_M_isSo6 (l : Launch) (E : eT) (σ : St) (k last a b : Int) (hk : 0 ≤ k ∧ k < 16) (e22 : σ 22 0 k = 6) (e23 : σ 23 0 k = a) (e24 : σ 24 0 k = b) (ra : inR a) (rb : inR b) (rl : inR last) : FCon l E y_M_isSo ws_M_isSo 2 [.ref (E.2.2.2 18 0), .int (iI k), .int (iI last)] σ (some (.int (iI (b2i (decide ((0 ≤ b ∧ b ≤ 60) ∧ (0 ≤ a ∧ a < 256) ∧ a + b ≤ 256)))))) σ := by
  refine con_of (cc := b_M_isSo) (nL := 6) (ret := (some .boolean)) (by decide) (Nat.le_of_ble_eq_true rfl) (fun z X Y hn => ?_)
  have X : Cx E z b_M_isSo R_M := X
  have hz := Y.2.1
  change J E z 0 0 0 [(0, .ref (E.2.2.2 18 0)), (1, .int (iI k)), (2, .int (iI last))] [] (cells E σ)
  refine j_aload_n X rfl d_M_isSo_0 ?_
  refine g_M_20 X d_M_isSo_1 ?_
  refine j_iload_n X rfl d_M_isSo_4 ?_
  refine j_iald X (by first | exact okC1 rfl | exact (okCT rfl (by omega))) (fun _ => rfl) rfl (by omega) d_M_isSo_5 ?_
  refine j_topi (congrArg iI e22) ?_
  refine j_istore_n X (zlt hn rfl) d_M_isSo_6 ?_
  refine j_aload_n X rfl d_M_isSo_7 ?_
  refine g_M_23 X d_M_isSo_8 ?_
  refine j_iload_n X rfl d_M_isSo_11 ?_
  refine j_iald X (by first | exact okC1 rfl | exact (okCT rfl (by omega))) (fun _ => rfl) rfl (by omega) d_M_isSo_12 ?_
  refine j_topi (congrArg iI e23) ?_
  refine j_istore X (zlt hn rfl) d_M_isSo_13 ?_
  refine j_aload_n X rfl d_M_isSo_15 ?_
  refine g_M_26 X d_M_isSo_16 ?_
  refine j_iload_n X rfl d_M_isSo_19 ?_
  refine j_iald X (by first | exact okC1 rfl | exact (okCT rfl (by omega))) (fun _ => rfl) rfl (by omega) d_M_isSo_20 ?_
  refine j_topi (congrArg iI e24) ?_
  refine j_istore X (zlt hn rfl) d_M_isSo_21 ?_
  refine j_iload_n X rfl d_M_isSo_23 ?_
  refine j_tableIn X (by decide) d_M_isSo_24 (by decide) (by decide) rfl (tgt := 191) rfl ?_
  refine j_iload X rfl d_M_isSo_191 ?_
  refine j_if_lt X (by omega) d_M_isSo_193 (tgt := 218) rfl (fun h193 => ?_) (fun h193 => ?_)
  · skip
    refine j_iconst X d_M_isSo_218 ?_
    exact j_zret X Y (by first | rfl | exact b2i_nar _) (Nat.le_refl _) (Nat.le_refl _) d_M_isSo_219 ⟨by first | rw [b2i_t (by omega)] | rw [b2i_f (by omega)], rfl⟩
  · skip
    refine j_iload X rfl d_M_isSo_196 ?_
    refine j_bipush X rfl d_M_isSo_198 ?_
    refine j_icmp_gt X (by omega) (by omega) d_M_isSo_200 (tgt := 218) rfl (fun h200 => ?_) (fun h200 => ?_)
    · skip
      refine j_iconst X d_M_isSo_218 ?_
      exact j_zret X Y (by first | rfl | exact b2i_nar _) (Nat.le_refl _) (Nat.le_refl _) d_M_isSo_219 ⟨by first | rw [b2i_t (by omega)] | rw [b2i_f (by omega)], rfl⟩
    · skip
      refine j_aload_n X rfl d_M_isSo_203 ?_
      refine j_iload X rfl d_M_isSo_204 ?_
      refine j_iload X rfl d_M_isSo_206 ?_
      refine v_M_100 X hz (c_M_isRow (zl z) E σ a b ra (by omega)) rfl rfl rfl (Nat.le_of_ble_eq_true rfl) ⟨Nat.le_refl _, Nat.le_refl _⟩ d_M_isSo_208 ?_
      refine j_ifz X d_M_isSo_211 (tgt := 218) rfl (fun h211 => ?_) (fun h211 => ?_)
      · skip
        refine j_iconst X d_M_isSo_218 ?_
        exact j_zret X Y (by first | rfl | exact b2i_nar _) (Nat.le_refl _) (Nat.le_refl _) d_M_isSo_219 ⟨by first | rw [b2i_t (by omega)] | rw [b2i_f (by omega)], rfl⟩
      · skip
        refine j_iconst X d_M_isSo_214 ?_
        refine j_goto X d_M_isSo_215 (tgt := 219) rfl ?_
        exact j_zret X Y (by first | rfl | exact b2i_nar _) (Nat.le_refl _) (Nat.le_refl _) d_M_isSo_219 ⟨by first | rw [b2i_t (by omega)] | rw [b2i_f (by omega)], rfl⟩

set_option maxRecDepth 100000 in
set_option maxHeartbeats 4000000 in
theorem c_M_isSo7 (l : Launch) (E : eT) (σ : St) (k last a b : Int) (hk : 0 ≤ k ∧ k < 16) (e22 : σ 22 0 k = 7) (e23 : σ 23 0 k = a) (e24 : σ 24 0 k = b) (ra : inR a) (rb : inR b) (rl : inR last) : FCon l E y_M_isSo ws_M_isSo 2 [.ref (E.2.2.2 18 0), .int (iI k), .int (iI last)] σ (some (.int (iI (b2i (decide ((0 ≤ b ∧ b ≤ 60) ∧ (0 ≤ a ∧ a < 256) ∧ a + b ≤ 256)))))) σ := by
  refine con_of (cc := b_M_isSo) (nL := 6) (ret := (some .boolean)) (by decide) (Nat.le_of_ble_eq_true rfl) (fun z X Y hn => ?_)
  have X : Cx E z b_M_isSo R_M := X
  have hz := Y.2.1
  change J E z 0 0 0 [(0, .ref (E.2.2.2 18 0)), (1, .int (iI k)), (2, .int (iI last))] [] (cells E σ)
  refine j_aload_n X rfl d_M_isSo_0 ?_
  refine g_M_20 X d_M_isSo_1 ?_
  refine j_iload_n X rfl d_M_isSo_4 ?_
  refine j_iald X (by first | exact okC1 rfl | exact (okCT rfl (by omega))) (fun _ => rfl) rfl (by omega) d_M_isSo_5 ?_
  refine j_topi (congrArg iI e22) ?_
  refine j_istore_n X (zlt hn rfl) d_M_isSo_6 ?_
  refine j_aload_n X rfl d_M_isSo_7 ?_
  refine g_M_23 X d_M_isSo_8 ?_
  refine j_iload_n X rfl d_M_isSo_11 ?_
  refine j_iald X (by first | exact okC1 rfl | exact (okCT rfl (by omega))) (fun _ => rfl) rfl (by omega) d_M_isSo_12 ?_
  refine j_topi (congrArg iI e23) ?_
  refine j_istore X (zlt hn rfl) d_M_isSo_13 ?_
  refine j_aload_n X rfl d_M_isSo_15 ?_
  refine g_M_26 X d_M_isSo_16 ?_
  refine j_iload_n X rfl d_M_isSo_19 ?_
  refine j_iald X (by first | exact okC1 rfl | exact (okCT rfl (by omega))) (fun _ => rfl) rfl (by omega) d_M_isSo_20 ?_
  refine j_topi (congrArg iI e24) ?_
  refine j_istore X (zlt hn rfl) d_M_isSo_21 ?_
  refine j_iload_n X rfl d_M_isSo_23 ?_
  refine j_tableIn X (by decide) d_M_isSo_24 (by decide) (by decide) rfl (tgt := 191) rfl ?_
  refine j_iload X rfl d_M_isSo_191 ?_
  refine j_if_lt X (by omega) d_M_isSo_193 (tgt := 218) rfl (fun h193 => ?_) (fun h193 => ?_)
  · skip
    refine j_iconst X d_M_isSo_218 ?_
    exact j_zret X Y (by first | rfl | exact b2i_nar _) (Nat.le_refl _) (Nat.le_refl _) d_M_isSo_219 ⟨by first | rw [b2i_t (by omega)] | rw [b2i_f (by omega)], rfl⟩
  · skip
    refine j_iload X rfl d_M_isSo_196 ?_
    refine j_bipush X rfl d_M_isSo_198 ?_
    refine j_icmp_gt X (by omega) (by omega) d_M_isSo_200 (tgt := 218) rfl (fun h200 => ?_) (fun h200 => ?_)
    · skip
      refine j_iconst X d_M_isSo_218 ?_
      exact j_zret X Y (by first | rfl | exact b2i_nar _) (Nat.le_refl _) (Nat.le_refl _) d_M_isSo_219 ⟨by first | rw [b2i_t (by omega)] | rw [b2i_f (by omega)], rfl⟩
    · skip
      refine j_aload_n X rfl d_M_isSo_203 ?_
      refine j_iload X rfl d_M_isSo_204 ?_
      refine j_iload X rfl d_M_isSo_206 ?_
      refine v_M_100 X hz (c_M_isRow (zl z) E σ a b ra (by omega)) rfl rfl rfl (Nat.le_of_ble_eq_true rfl) ⟨Nat.le_refl _, Nat.le_refl _⟩ d_M_isSo_208 ?_
      refine j_ifz X d_M_isSo_211 (tgt := 218) rfl (fun h211 => ?_) (fun h211 => ?_)
      · skip
        refine j_iconst X d_M_isSo_218 ?_
        exact j_zret X Y (by first | rfl | exact b2i_nar _) (Nat.le_refl _) (Nat.le_refl _) d_M_isSo_219 ⟨by first | rw [b2i_t (by omega)] | rw [b2i_f (by omega)], rfl⟩
      · skip
        refine j_iconst X d_M_isSo_214 ?_
        refine j_goto X d_M_isSo_215 (tgt := 219) rfl ?_
        exact j_zret X Y (by first | rfl | exact b2i_nar _) (Nat.le_refl _) (Nat.le_refl _) d_M_isSo_219 ⟨by first | rw [b2i_t (by omega)] | rw [b2i_f (by omega)], rfl⟩

set_option maxRecDepth 100000 in
set_option maxHeartbeats 4000000 in
theorem c_M_isSo8 (l : Launch) (E : eT) (σ : St) (k last a b : Int) (hk : 0 ≤ k ∧ k < 16) (e22 : σ 22 0 k = 8) (e23 : σ 23 0 k = a) (e24 : σ 24 0 k = b) (ra : inR a) (rb : inR b) (rl : inR last) : FCon l E y_M_isSo ws_M_isSo 2 [.ref (E.2.2.2 18 0), .int (iI k), .int (iI last)] σ (some (.int (iI (b2i (decide ((0 ≤ b ∧ b ≤ 60) ∧ (0 ≤ a ∧ a < 256) ∧ a + b ≤ 256)))))) σ := by
  refine con_of (cc := b_M_isSo) (nL := 6) (ret := (some .boolean)) (by decide) (Nat.le_of_ble_eq_true rfl) (fun z X Y hn => ?_)
  have X : Cx E z b_M_isSo R_M := X
  have hz := Y.2.1
  change J E z 0 0 0 [(0, .ref (E.2.2.2 18 0)), (1, .int (iI k)), (2, .int (iI last))] [] (cells E σ)
  refine j_aload_n X rfl d_M_isSo_0 ?_
  refine g_M_20 X d_M_isSo_1 ?_
  refine j_iload_n X rfl d_M_isSo_4 ?_
  refine j_iald X (by first | exact okC1 rfl | exact (okCT rfl (by omega))) (fun _ => rfl) rfl (by omega) d_M_isSo_5 ?_
  refine j_topi (congrArg iI e22) ?_
  refine j_istore_n X (zlt hn rfl) d_M_isSo_6 ?_
  refine j_aload_n X rfl d_M_isSo_7 ?_
  refine g_M_23 X d_M_isSo_8 ?_
  refine j_iload_n X rfl d_M_isSo_11 ?_
  refine j_iald X (by first | exact okC1 rfl | exact (okCT rfl (by omega))) (fun _ => rfl) rfl (by omega) d_M_isSo_12 ?_
  refine j_topi (congrArg iI e23) ?_
  refine j_istore X (zlt hn rfl) d_M_isSo_13 ?_
  refine j_aload_n X rfl d_M_isSo_15 ?_
  refine g_M_26 X d_M_isSo_16 ?_
  refine j_iload_n X rfl d_M_isSo_19 ?_
  refine j_iald X (by first | exact okC1 rfl | exact (okCT rfl (by omega))) (fun _ => rfl) rfl (by omega) d_M_isSo_20 ?_
  refine j_topi (congrArg iI e24) ?_
  refine j_istore X (zlt hn rfl) d_M_isSo_21 ?_
  refine j_iload_n X rfl d_M_isSo_23 ?_
  refine j_tableIn X (by decide) d_M_isSo_24 (by decide) (by decide) rfl (tgt := 191) rfl ?_
  refine j_iload X rfl d_M_isSo_191 ?_
  refine j_if_lt X (by omega) d_M_isSo_193 (tgt := 218) rfl (fun h193 => ?_) (fun h193 => ?_)
  · skip
    refine j_iconst X d_M_isSo_218 ?_
    exact j_zret X Y (by first | rfl | exact b2i_nar _) (Nat.le_refl _) (Nat.le_refl _) d_M_isSo_219 ⟨by first | rw [b2i_t (by omega)] | rw [b2i_f (by omega)], rfl⟩
  · skip
    refine j_iload X rfl d_M_isSo_196 ?_
    refine j_bipush X rfl d_M_isSo_198 ?_
    refine j_icmp_gt X (by omega) (by omega) d_M_isSo_200 (tgt := 218) rfl (fun h200 => ?_) (fun h200 => ?_)
    · skip
      refine j_iconst X d_M_isSo_218 ?_
      exact j_zret X Y (by first | rfl | exact b2i_nar _) (Nat.le_refl _) (Nat.le_refl _) d_M_isSo_219 ⟨by first | rw [b2i_t (by omega)] | rw [b2i_f (by omega)], rfl⟩
    · skip
      refine j_aload_n X rfl d_M_isSo_203 ?_
      refine j_iload X rfl d_M_isSo_204 ?_
      refine j_iload X rfl d_M_isSo_206 ?_
      refine v_M_100 X hz (c_M_isRow (zl z) E σ a b ra (by omega)) rfl rfl rfl (Nat.le_of_ble_eq_true rfl) ⟨Nat.le_refl _, Nat.le_refl _⟩ d_M_isSo_208 ?_
      refine j_ifz X d_M_isSo_211 (tgt := 218) rfl (fun h211 => ?_) (fun h211 => ?_)
      · skip
        refine j_iconst X d_M_isSo_218 ?_
        exact j_zret X Y (by first | rfl | exact b2i_nar _) (Nat.le_refl _) (Nat.le_refl _) d_M_isSo_219 ⟨by first | rw [b2i_t (by omega)] | rw [b2i_f (by omega)], rfl⟩
      · skip
        refine j_iconst X d_M_isSo_214 ?_
        refine j_goto X d_M_isSo_215 (tgt := 219) rfl ?_
        exact j_zret X Y (by first | rfl | exact b2i_nar _) (Nat.le_refl _) (Nat.le_refl _) d_M_isSo_219 ⟨by first | rw [b2i_t (by omega)] | rw [b2i_f (by omega)], rfl⟩

set_option maxRecDepth 100000 in
set_option maxHeartbeats 4000000 in
theorem c_M_isSo9 (l : Launch) (E : eT) (σ : St) (k last a b : Int) (hk : 0 ≤ k ∧ k < 16) (e22 : σ 22 0 k = 9) (e23 : σ 23 0 k = a) (e24 : σ 24 0 k = b) (ra : inR a) (rb : inR b) (rl : inR last) (bm : ∀ i, 0 ≤ i → i < 256 → 0 ≤ σ 21 0 i ∧ σ 21 0 i < 256) : FCon l E y_M_isSo ws_M_isSo 2 [.ref (E.2.2.2 18 0), .int (iI k), .int (iI last)] σ (some (.int (iI (b2i (decide (((0 ≤ a ∧ a < 256) ∧ a + 2 ≤ 256) ∧ σ 21 0 a ≤ 8 ∧ σ 21 0 (a + 1) ≤ 60 ∧ a + 2 + σ 21 0 a + σ 21 0 (a + 1) ≤ 256)))))) σ := by
  refine con_of (cc := b_M_isSo) (nL := 6) (ret := (some .boolean)) (by decide) (Nat.le_of_ble_eq_true rfl) (fun z X Y hn => ?_)
  have X : Cx E z b_M_isSo R_M := X
  have hz := Y.2.1
  change J E z 0 0 0 [(0, .ref (E.2.2.2 18 0)), (1, .int (iI k)), (2, .int (iI last))] [] (cells E σ)
  refine j_aload_n X rfl d_M_isSo_0 ?_
  refine g_M_20 X d_M_isSo_1 ?_
  refine j_iload_n X rfl d_M_isSo_4 ?_
  refine j_iald X (by first | exact okC1 rfl | exact (okCT rfl (by omega))) (fun _ => rfl) rfl (by omega) d_M_isSo_5 ?_
  refine j_topi (congrArg iI e22) ?_
  refine j_istore_n X (zlt hn rfl) d_M_isSo_6 ?_
  refine j_aload_n X rfl d_M_isSo_7 ?_
  refine g_M_23 X d_M_isSo_8 ?_
  refine j_iload_n X rfl d_M_isSo_11 ?_
  refine j_iald X (by first | exact okC1 rfl | exact (okCT rfl (by omega))) (fun _ => rfl) rfl (by omega) d_M_isSo_12 ?_
  refine j_topi (congrArg iI e23) ?_
  refine j_istore X (zlt hn rfl) d_M_isSo_13 ?_
  refine j_aload_n X rfl d_M_isSo_15 ?_
  refine g_M_26 X d_M_isSo_16 ?_
  refine j_iload_n X rfl d_M_isSo_19 ?_
  refine j_iald X (by first | exact okC1 rfl | exact (okCT rfl (by omega))) (fun _ => rfl) rfl (by omega) d_M_isSo_20 ?_
  refine j_topi (congrArg iI e24) ?_
  refine j_istore X (zlt hn rfl) d_M_isSo_21 ?_
  refine j_iload_n X rfl d_M_isSo_23 ?_
  refine j_tableIn X (by decide) d_M_isSo_24 (by decide) (by decide) rfl (tgt := 220) rfl ?_
  refine j_aload_n X rfl d_M_isSo_220 ?_
  refine j_iload X rfl d_M_isSo_221 ?_
  refine j_iconst X d_M_isSo_223 ?_
  refine v_M_100 X hz (c_M_isRow (zl z) E σ a 2 ra (by omega)) rfl rfl rfl (Nat.le_of_ble_eq_true rfl) ⟨Nat.le_refl _, Nat.le_refl _⟩ d_M_isSo_224 ?_
  refine j_ifz X d_M_isSo_227 (tgt := 288) rfl (fun h227 => ?_) (fun h227 => ?_)
  · skip
    refine j_iconst X d_M_isSo_288 ?_
    exact j_zret X Y (by first | rfl | exact b2i_nar _) (Nat.le_refl _) (Nat.le_refl _) d_M_isSo_289 ⟨by first | rw [b2i_t (by omega)] | rw [b2i_f (by omega)], rfl⟩
  · skip
    refine j_aload_n X rfl d_M_isSo_230 ?_
    refine g_M_16 X d_M_isSo_231 ?_
    have b0 := bm a (by omega) (by omega)
    have b1 := bm (a + 1) (by omega) (by omega)
    refine j_iload X rfl d_M_isSo_234 ?_
    refine j_iald X (by first | exact okC1 rfl | exact (okCT rfl (by omega))) (fun _ => rfl) rfl (by omega) d_M_isSo_236 ?_
    refine j_bipush X rfl d_M_isSo_237 ?_
    refine j_icmp_gt X (by omega) (by omega) d_M_isSo_239 (tgt := 288) rfl (fun h239 => ?_) (fun h239 => ?_)
    · skip
      refine j_iconst X d_M_isSo_288 ?_
      exact j_zret X Y (by first | rfl | exact b2i_nar _) (Nat.le_refl _) (Nat.le_refl _) d_M_isSo_289 ⟨by first | rw [b2i_t (by omega)] | rw [b2i_f (by omega)], rfl⟩
    · skip
      refine j_aload_n X rfl d_M_isSo_242 ?_
      refine g_M_16 X d_M_isSo_243 ?_
      refine j_iload X rfl d_M_isSo_246 ?_
      refine j_iconst X d_M_isSo_248 ?_
      refine j_iadd X d_M_isSo_249 ?_
      refine j_iald X (by first | exact okC1 rfl | exact (okCT rfl (by omega))) (fun _ => rfl) rfl (by omega) d_M_isSo_250 ?_
      refine j_bipush X rfl d_M_isSo_251 ?_
      refine j_icmp_gt X (by omega) (by omega) d_M_isSo_253 (tgt := 288) rfl (fun h253 => ?_) (fun h253 => ?_)
      · skip
        refine j_iconst X d_M_isSo_288 ?_
        exact j_zret X Y (by first | rfl | exact b2i_nar _) (Nat.le_refl _) (Nat.le_refl _) d_M_isSo_289 ⟨by first | rw [b2i_t (by omega)] | rw [b2i_f (by omega)], rfl⟩
      · skip
        refine j_iload X rfl d_M_isSo_256 ?_
        refine j_iconst X d_M_isSo_258 ?_
        refine j_iadd X d_M_isSo_259 ?_
        refine j_aload_n X rfl d_M_isSo_260 ?_
        refine g_M_16 X d_M_isSo_261 ?_
        refine j_iload X rfl d_M_isSo_264 ?_
        refine j_iald X (by first | exact okC1 rfl | exact (okCT rfl (by omega))) (fun _ => rfl) rfl (by omega) d_M_isSo_266 ?_
        refine j_iadd X d_M_isSo_267 ?_
        refine j_aload_n X rfl d_M_isSo_268 ?_
        refine g_M_16 X d_M_isSo_269 ?_
        refine j_iload X rfl d_M_isSo_272 ?_
        refine j_iconst X d_M_isSo_274 ?_
        refine j_iadd X d_M_isSo_275 ?_
        refine j_iald X (by first | exact okC1 rfl | exact (okCT rfl (by omega))) (fun _ => rfl) rfl (by omega) d_M_isSo_276 ?_
        refine j_iadd X d_M_isSo_277 ?_
        refine j_sipush X rfl d_M_isSo_278 ?_
        refine j_icmp_gt X (by omega) (by omega) d_M_isSo_281 (tgt := 288) rfl (fun h281 => ?_) (fun h281 => ?_)
        · skip
          refine j_iconst X d_M_isSo_288 ?_
          exact j_zret X Y (by first | rfl | exact b2i_nar _) (Nat.le_refl _) (Nat.le_refl _) d_M_isSo_289 ⟨by first | rw [b2i_t (by omega)] | rw [b2i_f (by omega)], rfl⟩
        · skip
          refine j_iconst X d_M_isSo_284 ?_
          refine j_goto X d_M_isSo_285 (tgt := 289) rfl ?_
          exact j_zret X Y (by first | rfl | exact b2i_nar _) (Nat.le_refl _) (Nat.le_refl _) d_M_isSo_289 ⟨by first | rw [b2i_t (by omega)] | rw [b2i_f (by omega)], rfl⟩

set_option maxRecDepth 100000 in
set_option maxHeartbeats 4000000 in
theorem c_M_isSo10 (l : Launch) (E : eT) (σ : St) (k last a b : Int) (hk : 0 ≤ k ∧ k < 16) (e22 : σ 22 0 k = 10) (e23 : σ 23 0 k = a) (e24 : σ 24 0 k = b) (ra : inR a) (rb : inR b) (rl : inR last) : FCon l E y_M_isSo ws_M_isSo 2 [.ref (E.2.2.2 18 0), .int (iI k), .int (iI last)] σ (some (.int (iI 1))) σ := by
  refine con_of (cc := b_M_isSo) (nL := 6) (ret := (some .boolean)) (by decide) (Nat.le_of_ble_eq_true rfl) (fun z X Y hn => ?_)
  have X : Cx E z b_M_isSo R_M := X
  have hz := Y.2.1
  change J E z 0 0 0 [(0, .ref (E.2.2.2 18 0)), (1, .int (iI k)), (2, .int (iI last))] [] (cells E σ)
  refine j_aload_n X rfl d_M_isSo_0 ?_
  refine g_M_20 X d_M_isSo_1 ?_
  refine j_iload_n X rfl d_M_isSo_4 ?_
  refine j_iald X (by first | exact okC1 rfl | exact (okCT rfl (by omega))) (fun _ => rfl) rfl (by omega) d_M_isSo_5 ?_
  refine j_topi (congrArg iI e22) ?_
  refine j_istore_n X (zlt hn rfl) d_M_isSo_6 ?_
  refine j_aload_n X rfl d_M_isSo_7 ?_
  refine g_M_23 X d_M_isSo_8 ?_
  refine j_iload_n X rfl d_M_isSo_11 ?_
  refine j_iald X (by first | exact okC1 rfl | exact (okCT rfl (by omega))) (fun _ => rfl) rfl (by omega) d_M_isSo_12 ?_
  refine j_topi (congrArg iI e23) ?_
  refine j_istore X (zlt hn rfl) d_M_isSo_13 ?_
  refine j_aload_n X rfl d_M_isSo_15 ?_
  refine g_M_26 X d_M_isSo_16 ?_
  refine j_iload_n X rfl d_M_isSo_19 ?_
  refine j_iald X (by first | exact okC1 rfl | exact (okCT rfl (by omega))) (fun _ => rfl) rfl (by omega) d_M_isSo_20 ?_
  refine j_topi (congrArg iI e24) ?_
  refine j_istore X (zlt hn rfl) d_M_isSo_21 ?_
  refine j_iload_n X rfl d_M_isSo_23 ?_
  refine j_tableIn X (by decide) d_M_isSo_24 (by decide) (by decide) rfl (tgt := 309) rfl ?_
  refine j_iconst X d_M_isSo_309 ?_
  exact j_zret X Y (by first | rfl | exact b2i_nar _) (Nat.le_refl _) (Nat.le_refl _) d_M_isSo_310 ⟨rfl, rfl⟩

set_option maxRecDepth 100000 in
set_option maxHeartbeats 4000000 in
theorem c_M_isSo11 (l : Launch) (E : eT) (σ : St) (k last a b : Int) (hk : 0 ≤ k ∧ k < 16) (e22 : σ 22 0 k = 11) (e23 : σ 23 0 k = a) (e24 : σ 24 0 k = b) (ra : inR a) (rb : inR b) (rl : inR last) : FCon l E y_M_isSo ws_M_isSo 2 [.ref (E.2.2.2 18 0), .int (iI k), .int (iI last)] σ (some (.int (iI (b2i (decide (0 ≤ b ∧ b ≤ 600)))))) σ := by
  refine con_of (cc := b_M_isSo) (nL := 6) (ret := (some .boolean)) (by decide) (Nat.le_of_ble_eq_true rfl) (fun z X Y hn => ?_)
  have X : Cx E z b_M_isSo R_M := X
  have hz := Y.2.1
  change J E z 0 0 0 [(0, .ref (E.2.2.2 18 0)), (1, .int (iI k)), (2, .int (iI last))] [] (cells E σ)
  refine j_aload_n X rfl d_M_isSo_0 ?_
  refine g_M_20 X d_M_isSo_1 ?_
  refine j_iload_n X rfl d_M_isSo_4 ?_
  refine j_iald X (by first | exact okC1 rfl | exact (okCT rfl (by omega))) (fun _ => rfl) rfl (by omega) d_M_isSo_5 ?_
  refine j_topi (congrArg iI e22) ?_
  refine j_istore_n X (zlt hn rfl) d_M_isSo_6 ?_
  refine j_aload_n X rfl d_M_isSo_7 ?_
  refine g_M_23 X d_M_isSo_8 ?_
  refine j_iload_n X rfl d_M_isSo_11 ?_
  refine j_iald X (by first | exact okC1 rfl | exact (okCT rfl (by omega))) (fun _ => rfl) rfl (by omega) d_M_isSo_12 ?_
  refine j_topi (congrArg iI e23) ?_
  refine j_istore X (zlt hn rfl) d_M_isSo_13 ?_
  refine j_aload_n X rfl d_M_isSo_15 ?_
  refine g_M_26 X d_M_isSo_16 ?_
  refine j_iload_n X rfl d_M_isSo_19 ?_
  refine j_iald X (by first | exact okC1 rfl | exact (okCT rfl (by omega))) (fun _ => rfl) rfl (by omega) d_M_isSo_20 ?_
  refine j_topi (congrArg iI e24) ?_
  refine j_istore X (zlt hn rfl) d_M_isSo_21 ?_
  refine j_iload_n X rfl d_M_isSo_23 ?_
  refine j_tableIn X (by decide) d_M_isSo_24 (by decide) (by decide) rfl (tgt := 290) rfl ?_
  refine j_iload X rfl d_M_isSo_290 ?_
  refine j_if_lt X (by omega) d_M_isSo_292 (tgt := 307) rfl (fun h292 => ?_) (fun h292 => ?_)
  · skip
    refine j_iconst X d_M_isSo_307 ?_
    exact j_zret X Y (by first | rfl | exact b2i_nar _) (Nat.le_refl _) (Nat.le_refl _) d_M_isSo_308 ⟨by first | rw [b2i_t (by omega)] | rw [b2i_f (by omega)], rfl⟩
  · skip
    refine j_iload X rfl d_M_isSo_295 ?_
    refine j_sipush X rfl d_M_isSo_297 ?_
    refine j_icmp_gt X (by omega) (by omega) d_M_isSo_300 (tgt := 307) rfl (fun h300 => ?_) (fun h300 => ?_)
    · skip
      refine j_iconst X d_M_isSo_307 ?_
      exact j_zret X Y (by first | rfl | exact b2i_nar _) (Nat.le_refl _) (Nat.le_refl _) d_M_isSo_308 ⟨by first | rw [b2i_t (by omega)] | rw [b2i_f (by omega)], rfl⟩
    · skip
      refine j_iconst X d_M_isSo_303 ?_
      refine j_goto X d_M_isSo_304 (tgt := 308) rfl ?_
      exact j_zret X Y (by first | rfl | exact b2i_nar _) (Nat.le_refl _) (Nat.le_refl _) d_M_isSo_308 ⟨by first | rw [b2i_t (by omega)] | rw [b2i_f (by omega)], rfl⟩
