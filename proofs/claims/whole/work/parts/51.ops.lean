/-! each operation, in both -/
section OPX
variable {l : Launch} {E : eT} {w : St} {T Q : Int}
theorem li_hd (hL : LI w T Q) (hT : T ≤ 1000000000) : hdW w := ⟨hL.1.1.2.2.2.1.1, hL.1.1.2.2.2.1.2.1, by have := hL.1.2.1; omega⟩
theorem o_command (hl0 : l.stackTraces = false) (hL : LI w T Q) {a b c : Int} (ra : inR a) (rb : inR b) (rc : inR c) : OpI l E y_U_command ws_U_command y_M_command ws_M_command True [.int (iI a), .int (iI b), .int (iI c)] w T Q := by
  obtain ⟨hI, hR, hs⟩ := id hL
  have hc := hI.1
  have hn := hc.2.2.2.2.1.1
  have e4 := hR.1.2.1.1
  have hg := hR.1.2.1.2
  by_cases h1 : -1 ≤ a ∧ a ≤ 11
  · by_cases h2 : a = -1
    · subst h2
      refine pi_s (c_U_command_c l E w b c) (c_M_command_c l E (up (up w 10 0 3 0) 26 0 0 0) b c) rfl rfl (by decide) rfl ?_ ?_ (kc_t (kc_18 _ _ _) (kc_18 _ _ _)) hs
      · exact ⟨⟨rg_up hc.1 (by decide), hc.2.1, hc.2.2.1, hc.2.2.2.1, ⟨⟨Int.le_refl 0, show (0 : Int) ≤ 16 by decide⟩, hc.2.2.2.2.1.2⟩, hc.2.2.2.2.2⟩, hI.2⟩
      · exact ⟨⟨hR.1.1, ⟨rfl, hg⟩, hR.1.2.2⟩, hR.2⟩
    · by_cases h3 : w 10 0 3 = 16
      · exact pi_x hL (x_U_command2 l hl0 E w a b c hc.1 (by omega) h3) (c_M_command2 l E w a b c (by omega) (e4.trans h3)) rfl (Or.inr ⟨trivial, rfl, rfl⟩)
      · refine pi_s (c_U_command_a l E w a b c hc.1 (by omega) (by omega)) (c_M_command_a l E (up (paS w a b c) 26 0 0 (w 10 0 3 + 1)) a b c (w 10 0 3) (by omega) e4 (by omega)) rfl rfl (by omega) rfl ?_ ?_ (kc_t (kc_18 _ _ _) (kc_t (kc_u _ _ _ _ (by decide)) (kc_t (kc_u _ _ _ _ (by decide)) (kc_t (kc_u _ _ _ _ (by decide)) (kc_18 _ _ _))))) hs
        · refine ⟨⟨rg_up (rg_up (rg_up (rg_up hc.1 (by omega)) (by omega)) (by omega)) (by omega), hc.2.1, hc.2.2.1, hc.2.2.2.1, ⟨?_, fun i h0 h1' => ?_⟩, hc.2.2.2.2.2⟩, hI.2⟩
          · show 0 ≤ w 10 0 3 + 1 ∧ w 10 0 3 + 1 ≤ 16
            omega
          · show 0 ≤ (if i = w 10 0 3 then a else w 11 0 i) ∧ (if i = w 10 0 3 then a else w 11 0 i) ≤ 11
            have := hc.2.2.2.2.1.2 i h0 h1'
            split <;> omega
        · refine ⟨⟨hR.1.1, ⟨rfl, fun i h0 h1' => ⟨?_, ?_, ?_⟩⟩, hR.1.2.2⟩, hR.2⟩
          · show (if i = w 10 0 3 then a else w 22 0 i) = (if i = w 10 0 3 then a else w 11 0 i)
            rw [(hg i h0 h1').1]
          · show (if i = w 10 0 3 then b else w 23 0 i) = (if i = w 10 0 3 then b else w 12 0 i)
            rw [(hg i h0 h1').2.1]
          · show (if i = w 10 0 3 then c else w 24 0 i) = (if i = w 10 0 3 then c else w 13 0 i)
            rw [(hg i h0 h1').2.2]
  · exact pi_x hL (x_U_command1 l hl0 E w a b c ra h1) (c_M_command1 l E w a b c (w 10 0 3) ra h1 e4 hn) rfl (Or.inl ⟨rfl, rfl⟩)
theorem o_poke (hl0 : l.stackTraces = false) (hL : LI w T Q) {a v : Int} (ra : inR a) : OpV l E y_U_poke ws_U_poke y_M_poke ws_M_poke False [.int (iI a), .int (iI v)] w T Q := by
  obtain ⟨hI, hR, hs⟩ := id hL
  have hc := hI.1
  by_cases h1 : 0 ≤ a ∧ a ≤ 255
  · refine pv_s (c_U_poke l E w a v hc.2.2.1 h1) (c_M_poke l E (up w 2 0 a (v % 256)) a v (by omega)) rfl rfl rfl (iv_m1 hI) ⟨⟨fun i h0 h1' => ?_, hR.1.2⟩, hR.2⟩ (kc_t (kc_18 _ _ _) (kc_u _ _ _ _ (by decide))) hs
    show (if i = a then v % 256 else w 21 0 i) = (if i = a then v % 256 else w 2 0 i)
    rw [hR.1.1 i h0 h1']
  · exact pv_x hL (x_U_poke l hl0 E w a v ra h1) (c_M_pokeX l E w a v ra (by omega)) rfl (Or.inl ⟨rfl, rfl⟩)
/-- nothing changes, and the answers are the same -/
theorem pi_r {yU yM : MethodName} {wsU wsM : List Cond} {two : Prop} {As : List Value} {d d' : Nat} {v u : Int} (hL : LI w T Q) (hF : FCon l E yU wsU d (.ref (E.2.2.2 0 0) :: As) w (some (.int (iI v))) w) (hM : FCon l E yM wsM d' (.ref (E.2.2.2 18 0) :: As) (up w 26 0 0 v) (some (.int (iI u))) (up (up w 26 0 0 v) 18 0 0 0)) (hd : Nat.blt d 9 = true) (hd' : Nat.blt d' 9 = true) (hv : inR v) (e : u = v) : OpI l E yU wsU yM wsM two As w T Q := by
  subst e
  exact pi_s hF hM hd hd' hv rfl hL.1 hL.2.1 (kc_18 _ _ _) hL.2.2
theorem o_peek (hl0 : l.stackTraces = false) (hL : LI w T Q) {a : Int} (ra : inR a) : OpI l E y_U_peek ws_U_peek y_M_peek ws_M_peek False [.int (iI a)] w T Q := by
  obtain ⟨hI, hR, hs⟩ := id hL
  have hc := hI.1
  by_cases h1 : 0 ≤ a ∧ a ≤ 255
  · exact pi_r hL (c_U_peek l E w a hc.2.2.1 h1) (c_M_peek l E (up w 26 0 0 (w 2 0 a)) a (by omega)) rfl rfl (hc.1 2 0 a) (hR.1.1 a h1.1 (by omega))
  · exact pi_x hL (x_U_peek l hl0 E w a ra h1) (c_M_peekX l E w a ra (by omega)) rfl (Or.inl ⟨rfl, rfl⟩)
theorem o_look (hl0 : l.stackTraces = false) (hL : LI w T Q) (hT : T ≤ 1000000000) {a : Int} (ra : inR a) : OpI l E y_U_look ws_U_look y_M_look ws_M_look False [.int (iI a)] w T Q := by
  obtain ⟨hI, hR, hs⟩ := id hL
  have hc := hI.1
  have hd := li_hd hL hT
  obtain ⟨a1, a2, a3, a4, a5, a6⟩ := hR.1.2.2.1
  by_cases h1 : 0 ≤ a ∧ a ≤ 5
  · rcases (show a = 0 ∨ a = 1 ∨ a = 2 ∨ a = 3 ∨ a = 4 ∨ a = 5 by omega) with rfl | rfl | rfl | rfl | rfl | rfl
    · exact pi_r hL (c_U_look0 l E w hd) (c_M_look0 l E (up w 26 0 0 (w 15 0 3))) rfl rfl (hc.1 15 0 3) hR.2.1
    · exact pi_r hL (c_U_look1 l E w hd) (c_M_look1 l E (up w 26 0 0 (w 15 0 4))) rfl rfl (hc.1 15 0 4) a3
    · exact pi_r hL (c_U_look2 l E w hd) (c_M_look2 l E (up w 26 0 0 (w 15 0 5))) rfl rfl (hc.1 15 0 5) a4
    · refine pi_r hL (c_U_look3 l E w hd) (c_M_look3 l E (up w 26 0 0 (w 14 0 1 / 600 - w 15 0 7))) rfl rfl ?_ a6
      have h7 := hc.1 15 0 7
      have h14 := hd.2
      omega
    · exact pi_r hL (c_U_look4 l E w hd) (c_M_look4 l E (up w 26 0 0 (w 14 0 2))) rfl rfl (hc.1 14 0 2) a2
    · exact pi_r hL (c_U_look5 l E w hd) (c_M_look5 l E (up w 26 0 0 (w 15 0 6))) rfl rfl (hc.1 15 0 6) a5
  · exact pi_x hL (x_U_look l hl0 E w a ra h1) (c_M_lookX l E w a ra h1) rfl (Or.inl ⟨rfl, rfl⟩)
theorem b7_i {v : Int} (h : v = 0 ∨ v = 1) : v = b2i (decide (v = 1)) := by
  rcases h with rfl | rfl
  · rw [b2i_f (by decide)]
  · rw [b2i_t rfl]
theorem o_record (hl0 : l.stackTraces = false) (hL : LI w T Q) {t k a : Int} (rt : inR t) (rk : inR k) (ra : inR a) : OpI l E y_U_record ws_U_record y_M_record ws_M_record False [.int (iI t), .int (iI k), .int (iI a)] w T Q := by
  obtain ⟨hI, hR, hs⟩ := id hL
  have hc := hI.1
  by_cases ht : 0 ≤ t ∧ t ≤ 31
  · have ht' : 0 ≤ t ∧ t < 32 := by omega
    have hw := hc.2.1 t ht'.1 ht'.2
    have hT := hR.1.2.2.2.2 t ht'.1 ht'.2
    have h30 := hw.1.1
    by_cases h0 : k = 0
    · subst h0
      exact pi_r hL (c_U_record0 l E w t a ht) (c_M_record0 l E w (up w 26 0 0 (w 4 t 4)) t a ht' hw.1 hT) rfl rfl (by omega) rfl
    · by_cases h1 : (1 ≤ k ∧ k ≤ w 4 t 4) ∧ (0 ≤ a ∧ a ≤ 3)
      · have d := tk_at hw.1 h1.1
        have d7 := hw.2.2 k
        rcases (show a = 0 ∨ a = 1 ∨ a = 2 ∨ a = 3 by omega) with rfl | rfl | rfl | rfl
        · exact pi_r hL (c_U_record1 l E w t k ht rk hc.1 h1.1 h30.2 (b7_i d7)) (c_M_record1 l E w (up w 26 0 0 (w 5 t k)) t k ht' hw.1 hT h1.1) rfl rfl (by omega) rfl
        · exact pi_r hL (c_U_record2 l E w t k ht rk hc.1 h1.1 h30.2 (b7_i d7)) (c_M_record2 l E w (up w 26 0 0 (w 6 t k)) t k ht' hw.1 hT h1.1) rfl rfl (by omega) rfl
        · exact pi_r hL (c_U_record3 l E w t k ht rk hc.1 h1.1 h30.2 (b7_i d7)) (c_M_record3 l E w (up w 26 0 0 (dlS w t k)) t k ht' hw.1 hT h1.1) rfl rfl (by omega) rfl
        · exact pi_r hL (c_U_record4 l E w t k ht rk hc.1 h1.1 h30.2 (b7_i d7)) (c_M_record4 l E w (up w 26 0 0 (b2i (decide (w 7 t k = 1)))) t k ht' hw.1 hT h1.1 d7) rfl rfl (by rw [← b7_i d7]; omega) rfl
      · exact pi_x hL (x_U_record2 l hl0 E w t k a ht rk ra hc.1 h0 h1) (c_M_recordX2 l E w w t k a rk ra ht' hw.1 hT h0 h1) rfl (Or.inl ⟨rfl, rfl⟩)
  · exact pi_x hL (x_U_record1 l hl0 E w t k a rt ht) (c_M_recordX1 l E w w t k a rt rk (hc.1 4 t 4) (by omega)) rfl (Or.inl ⟨rfl, rfl⟩)
theorem o_byteOf (hl0 : l.stackTraces = false) (hL : LI w T Q) {t k i : Int} (rt : inR t) (rk : inR k) (ri : inR i) : OpI l E y_U_byteOf ws_U_byteOf y_M_byteOf ws_M_byteOf False [.int (iI t), .int (iI k), .int (iI i)] w T Q := by
  obtain ⟨hI, hR, hs⟩ := id hL
  have hc := hI.1
  by_cases ht : 0 ≤ t ∧ t ≤ 31
  · have ht' : 0 ≤ t ∧ t < 32 := by omega
    have hw := hc.2.1 t ht'.1 ht'.2
    have hT := hR.1.2.2.2.2 t ht'.1 ht'.2
    by_cases h1 : 1 ≤ k ∧ k ≤ w 4 t 4
    · by_cases h2 : 0 ≤ i ∧ i ≤ w 6 t k + dlS w t k - 1
      · exact pi_r hL (c_U_byteOf l E w t k i hc ht rk ri h1 h2) (c_M_byteOf l E w (up w 26 0 0 (w 9 t (w 5 t k + 20 + i))) t k i ht' hw.1 hT h1 h2) rfl rfl (by_in hw.2.1 _) rfl
      · exact pi_x hL (x_U_byteOf3 l hl0 E w t k i hc ht rk ri h1 h2) (c_M_byteOfX2 l E w w t k i ht' hw.1 hT h1 ri h2) rfl (Or.inl ⟨rfl, rfl⟩)
    · exact pi_x hL (x_U_byteOf2 l hl0 E w t k i ht rk hc.1 h1) (c_M_byteOfX1 l E w w t k i rt rk (hc.1 4 t 4) (fun _ => rt_many hw.1 hT) (fun q => h1 q.2)) rfl (Or.inl ⟨rfl, rfl⟩)
  · exact pi_x hL (x_U_byteOf1 l hl0 E w t k i rt ht) (c_M_byteOfX1 l E w w t k i rt rk (hc.1 4 t 4) (fun q => absurd q (by omega)) (by omega)) rfl (Or.inl ⟨rfl, rfl⟩)
theorem o_spoil (hl0 : l.stackTraces = false) (hL : LI w T Q) {t k : Int} (rt : inR t) (rk : inR k) : OpV l E y_U_spoil ws_U_spoil y_M_spoil ws_M_spoil False [.int (iI t), .int (iI k)] w T Q := by
  obtain ⟨hI, hR, hs⟩ := id hL
  have hc := hI.1
  by_cases ht : 0 ≤ t ∧ t ≤ 31
  · have ht' : 0 ≤ t ∧ t < 32 := by omega
    have hw := hc.2.1 t ht'.1 ht'.2
    have hT := hR.1.2.2.2.2 t ht'.1 ht'.2
    by_cases h1 : 1 ≤ k ∧ k ≤ w 4 t 4
    · have g := rt_sp (μ := w) (σ := up (up w 7 t k 1) 18 0 0 0) (v := 1) (fun t h0 h1 => (hc.2.1 t h0 h1).1) hR.1.2.2.2.2 ht' h1
      exact pv_s (c_U_spoil l E w t k ht rk hc.1 h1 hw.1.1.2) (c_M_spoil l E w (up w 7 t k 1) t k ht' hw.1 hT h1) rfl rfl rfl (iv_s hI (Or.inr rfl)) ⟨⟨hR.1.1, hR.1.2.1, hR.1.2.2.1, hR.1.2.2.2.1, g⟩, hR.2⟩ (kc_t (kc_18 _ _ _) (kc_u _ _ _ _ (by decide))) hs
    · exact pv_x hL (x_U_spoil2 l hl0 E w t k ht rk hc.1 h1) (c_M_spoilX l E w w t k rt rk (hc.1 4 t 4) (fun _ => rt_many hw.1 hT) (fun q => h1 q.2)) rfl (Or.inl ⟨rfl, rfl⟩)
  · exact pv_x hL (x_U_spoil1 l hl0 E w t k rt ht) (c_M_spoilX l E w w t k rt rk (hc.1 4 t 4) (fun q => absurd q (by omega)) (by omega)) rfl (Or.inl ⟨rfl, rfl⟩)
theorem o_trackOf (hl0 : l.stackTraces = false) (hL : LI w T Q) {a j : Int} (ra : inR a) (rj : inR j) : OpI l E y_U_trackOf ws_U_trackOf y_M_trackOf ws_M_trackOf False [.int (iI a), .int (iI j)] w T Q := by
  obtain ⟨hI, hR, hs⟩ := id hL
  have hc := hI.1
  have ho := hR.1.2.2.2.1
  have hf := hc.2.2.2.2.2.2
  have hn := cnO_in (w 17 0) a 32
  by_cases h1 : 0 ≤ a ∧ a ≤ 5
  · by_cases h2 : j = -1
    · subst h2
      exact pi_r hL (c_U_trackOf0 l E w a hc.1 h1) (c_M_trackOf0 l E (up w 26 0 0 (cnO (w 17 0) a 32)) (w 17 0) a ho hf h1) rfl rfl (by omega) rfl
    · by_cases h3 : 0 ≤ j ∧ j ≤ cnO (w 17 0) a 32 - 1
      · have h4 := taO_in (w 17 0) a j 32 0 (by omega)
        exact pi_r hL (c_U_trackOf1 l E w a j hc.1 h1 rj h3) (c_M_trackOf1 l E (up w 26 0 0 (taO (w 17 0) a j 32 0)) (w 17 0) a j ho hf h1 h3) rfl rfl (by omega) rfl
      · exact pi_x hL (x_U_trackOf2 l hl0 E w a j hc.1 h1 rj h2 h3) (c_M_trackOfX2 l E w (w 17 0) a j ho hf h1 rj h2 h3) rfl (Or.inl ⟨rfl, rfl⟩)
  · exact pi_x hL (x_U_trackOf1 l hl0 E w a j ra h1) (c_M_trackOfX1 l E w a j ra h1) rfl (Or.inl ⟨rfl, rfl⟩)
theorem o_scratch (hl0 : l.stackTraces = false) (hL : LI w T Q) {a : Int} (ra : inR a) : OpV l E y_U_scratch ws_U_scratch y_M_scratch ws_M_scratch True [.int (iI a)] w T Q := by
  obtain ⟨hI, hR, hs⟩ := id hL
  have hc := hI.1
  have ho := hR.1.2.2.2.1
  have hf := hc.2.2.2.2.2.2
  by_cases h1 : 0 ≤ a ∧ a ≤ 5
  · by_cases h2 : 0 < cnO (w 17 0) a 32
    · refine pv_s (c_U_scratch l E w a hc.1 h1 h2) (c_M_scratch l E (gvS w a 32) (w 17 0) a ho hf h1 h2) rfl rfl rfl ?_ ⟨⟨hR.1.1, hR.1.2.1, hR.1.2.2.1, fun t h0 h1' => ?_, hR.1.2.2.2.2⟩, hR.2⟩ (kc_t (kc_18 _ _ _) (kc_F _ _ _ (by decide))) hs
      · refine ⟨⟨rg_upF hc.1 (fun j => ?_), hc.2.1, hc.2.2.1, hc.2.2.2.1, hc.2.2.2.2.1, hc.2.2.2.2.2.1, fun t => ?_⟩, hI.2⟩
        · split
          · decide
          · exact hc.1 17 0 j
        · show -1 ≤ gvS w a 32 17 0 t ∧ gvS w a 32 17 0 t ≤ 5
          rw [gv_17]
          have := hf t
          split <;> omega
      · rw [gv_17, gm_25]
        show (if (0 ≤ t ∧ t < 32) ∧ w 25 0 t = a + 1 then 0 else w 25 0 t) = (if (0 ≤ t ∧ t < 32) ∧ w 17 0 t = a then -1 else w 17 0 t) + 1
        have := ho t h0 h1'
        by_cases q : w 17 0 t = a
        · rw [if_pos (by omega), if_pos (by omega)]; rfl
        · rw [if_neg (by omega), if_neg (by omega)]; exact this
    · exact pv_x hL (x_U_scratch2 l hl0 E w a hc.1 h1 h2) (c_M_scratchX2 l E w (w 17 0) a ho hf h1 h2) rfl (Or.inr ⟨trivial, rfl, rfl⟩)
  · exact pv_x hL (x_U_scratch1 l hl0 E w a ra h1) (c_M_scratchX1 l E w a ra h1) rfl (Or.inl ⟨rfl, rfl⟩)
end OPX
