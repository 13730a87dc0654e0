/-! the data sets -/
def cnO (f : Int → Int) (a : Int) : Nat → Int
  | 0 => 0
  | n + 1 => cnO f a n + (if f (n : Int) = a then 1 else 0)
theorem cnO_s (f : Int → Int) (a : Int) {t : Int} (h : 0 ≤ t) : cnO f a (t + 1).toNat = cnO f a t.toNat + (if f t = a then 1 else 0) := by
  rw [show (t + 1).toNat = t.toNat + 1 by omega]
  show cnO f a t.toNat + (if f ((t.toNat : Nat) : Int) = a then 1 else 0) = _
  rw [Int.toNat_of_nonneg h]
theorem cnO_in (f : Int → Int) (a : Int) : ∀ n : Nat, 0 ≤ cnO f a n ∧ cnO f a n ≤ n := by
  intro n
  induction n with
  | zero => exact ⟨Int.le_refl 0, Int.le_refl 0⟩
  | succ n ih =>
    show 0 ≤ cnO f a n + (if f (n : Int) = a then 1 else 0) ∧ cnO f a n + (if f (n : Int) = a then 1 else 0) ≤ ((n + 1 : Nat) : Int)
    split <;> omega
def taO (f : Int → Int) (a j : Int) : Nat → Int → Int
  | 0, _ => -1
  | m + 1, t => if f t = a ∧ cnO f a t.toNat = j then t else taO f a j m (t + 1)
theorem taO_s (f : Int → Int) (a j : Int) (m : Nat) (t : Int) : taO f a j (m + 1) t = if f t = a ∧ cnO f a t.toNat = j then t else taO f a j m (t + 1) := rfl
theorem taO_in (f : Int → Int) (a j : Int) : ∀ (m : Nat) (t : Int), 0 ≤ t → taO f a j m t = -1 ∨ (0 ≤ taO f a j m t ∧ taO f a j m t < t + m) := by
  intro m
  induction m with
  | zero => intro t _; exact Or.inl rfl
  | succ m ih =>
    intro t ht
    rw [taO_s]
    split
    · right; omega
    · rcases ih (t + 1) (by omega) with h | h
      · exact Or.inl h
      · right; omega
def exL (f : Int → Int) (w : Int) : Nat → Int → Int → Int → Int
  | 0, _, _, e => e
  | m + 1, t, c, e => if c < w then (if f t = -1 then exL f w m (t + 1) (c + 1) (if t = 0 ∨ ¬ f (t - 1) = -1 then e + 1 else e) else exL f w m (t + 1) c e) else e
theorem exL_s (f : Int → Int) (w : Int) (m : Nat) (t c e : Int) : exL f w (m + 1) t c e = if c < w then (if f t = -1 then exL f w m (t + 1) (c + 1) (if t = 0 ∨ ¬ f (t - 1) = -1 then e + 1 else e) else exL f w m (t + 1) c e) else e := rfl
theorem exL_in (f : Int → Int) (w : Int) : ∀ (m : Nat) (t c e : Int), e ≤ exL f w m t c e ∧ exL f w m t c e ≤ e + m := by
  intro m
  induction m with
  | zero => intro t c e; show e ≤ e ∧ e ≤ e + 0; omega
  | succ m ih =>
    intro t c e
    rw [exL_s]
    split
    · split
      · have := ih (t + 1) (c + 1) (if t = 0 ∨ ¬ f (t - 1) = -1 then e + 1 else e)
        have he : e ≤ (if t = 0 ∨ ¬ f (t - 1) = -1 then e + 1 else e) ∧ (if t = 0 ∨ ¬ f (t - 1) = -1 then e + 1 else e) ≤ e + 1 := by split <;> omega
        generalize (if t = 0 ∨ ¬ f (t - 1) = -1 then e + 1 else e) = e' at this he ⊢
        omega
      · have := ih (t + 1) c e
        omega
    · omega
def tkL (a w : Int) : Nat → Int → Int → St → St
  | 0, _, _, σ => σ
  | m + 1, t, c, σ => if c < w then (if σ 17 0 t = -1 then tkL a w m (t + 1) (c + 1) (up (up σ 17 0 t a) 4 t 4 0) else tkL a w m (t + 1) c σ) else σ
theorem tkL_s (a w : Int) (m : Nat) (t c : Int) (σ : St) : tkL a w (m + 1) t c σ = if c < w then (if σ 17 0 t = -1 then tkL a w m (t + 1) (c + 1) (up (up σ 17 0 t a) 4 t 4 0) else tkL a w m (t + 1) c σ) else σ := rfl
def gvS (σ : St) (a n : Int) : St := upF σ 17 0 (fun t => if (0 ≤ t ∧ t < n) ∧ σ 17 0 t = a then -1 else σ 17 0 t)
theorem gv_17 (σ : St) (a n t : Int) : gvS σ a n 17 0 t = if (0 ≤ t ∧ t < n) ∧ σ 17 0 t = a then -1 else σ 17 0 t := by unfold gvS; rw [upF_eq, if_pos ⟨rfl, rfl⟩]
theorem gv_k (σ : St) (a n : Int) {k : Nat} (h : k ≠ 17) (t j : Int) : gvS σ a n k t j = σ k t j := by unfold gvS; rw [upF_eq, if_neg (fun q => h q.1)]
theorem gv_0 (σ : St) (a : Int) : gvS σ a 0 = σ := by
  apply st_ext
  intro k t j
  unfold gvS
  rw [upF_eq]
  split
  · next h => rw [if_neg (by omega), h.1, h.2]
  · rfl
theorem gv_s1 {σ : St} {a i : Int} (h : σ 17 0 i = a) (hi : 0 ≤ i) : up (gvS σ a i) 17 0 i (-1) = gvS σ a (i + 1) := by
  apply st_ext
  intro k t j
  rw [up_eq]
  by_cases hk : k = 17 ∧ t = 0
  · obtain ⟨rfl, rfl⟩ := hk
    rw [gv_17, gv_17]
    by_cases hj : j = i
    · rw [if_pos ⟨rfl, rfl, hj⟩, if_pos ⟨by omega, by rw [hj]; exact h⟩]
    · rw [if_neg (fun q => hj q.2.2)]
      by_cases h1 : (0 ≤ j ∧ j < i) ∧ σ 17 0 j = a
      · rw [if_pos h1, if_pos ⟨by omega, h1.2⟩]
      · rw [if_neg h1, if_neg (fun q => h1 ⟨by omega, q.2⟩)]
  · rw [if_neg (fun q => hk ⟨q.1, q.2.1⟩)]
    unfold gvS
    rw [upF_eq, upF_eq, if_neg hk, if_neg hk]
theorem gv_s0 {σ : St} {a i : Int} (h : ¬ σ 17 0 i = a) (hi : 0 ≤ i) : gvS σ a i = gvS σ a (i + 1) := by
  apply st_ext
  intro k t j
  by_cases hk : k = 17 ∧ t = 0
  · obtain ⟨rfl, rfl⟩ := hk
    rw [gv_17, gv_17]
    by_cases h1 : (0 ≤ j ∧ j < i) ∧ σ 17 0 j = a
    · rw [if_pos h1, if_pos ⟨by omega, h1.2⟩]
    · rw [if_neg h1, if_neg]
      rintro ⟨q1, q2⟩
      by_cases hj : j = i
      · rw [hj] at q2; exact h q2
      · exact h1 ⟨by omega, q2⟩
  · unfold gvS
    rw [upF_eq, upF_eq, if_neg hk, if_neg hk]
/-- the i-th track near the key's home -/
def tnO (σ : St) (a key n i : Int) : Int := if n = 0 then -1 else taO (σ 17 0) a ((key % 4294967296 + i) % n) 32 0
noncomputable def thL (σ : St) (a key n : Int) : Nat → Int → Int
  | 0, _ => -1
  | m + 1, i => if i < n then (if ¬ tnO σ a key n i = -1 ∧ 0 < noS σ (tnO σ a key n i) key 32 1 then tnO σ a key n i else thL σ a key n m (i + 1)) else -1
theorem thL_s (σ : St) (a key n : Int) (m : Nat) (i : Int) : thL σ a key n (m + 1) i = if i < n then (if ¬ tnO σ a key n i = -1 ∧ 0 < noS σ (tnO σ a key n i) key 32 1 then tnO σ a key n i else thL σ a key n m (i + 1)) else -1 := rfl
def twL (σ : St) (a key n len : Int) : Nat → Int → Int
  | 0, _ => -1
  | m + 1, i => if i < n then (if ¬ tnO σ a key n i = -1 ∧ σ 5 (tnO σ a key n i) (σ 4 (tnO σ a key n i) 4 + 1) + len ≤ 600 then tnO σ a key n i else twL σ a key n len m (i + 1)) else -1
theorem twL_s (σ : St) (a key n len : Int) (m : Nat) (i : Int) : twL σ a key n len (m + 1) i = if i < n then (if ¬ tnO σ a key n i = -1 ∧ σ 5 (tnO σ a key n i) (σ 4 (tnO σ a key n i) 4 + 1) + len ≤ 600 then tnO σ a key n i else twL σ a key n len m (i + 1)) else -1 := rfl
theorem tnO_in {σ : St} {a key n i : Int} (h : ¬ tnO σ a key n i = -1) : 0 ≤ tnO σ a key n i ∧ tnO σ a key n i < 32 := by
  unfold tnO at h ⊢
  split
  · next e => rw [if_pos e] at h; exact absurd rfl h
  · next e =>
    rw [if_neg e] at h
    rcases taO_in (σ 17 0) a ((key % 4294967296 + i) % n) 32 0 (by omega) with q | q
    · exact absurd q h
    · omega
theorem tnO_R {σ : St} {a key n i : Int} : -1 ≤ tnO σ a key n i ∧ tnO σ a key n i < 32 := by
  by_cases h : tnO σ a key n i = -1
  · omega
  · have := tnO_in h; omega
theorem noS_in {σ : St} {t key : Int} (h : σ 4 t 4 ≤ 30) : ∀ (m : Nat) (k : Int), 1 ≤ k → 0 ≤ noS σ t key m k ∧ noS σ t key m k ≤ 30 := by
  intro m
  induction m with
  | zero => intro k _; show (0 : Int) ≤ 0 ∧ (0 : Int) ≤ 30; omega
  | succ m ih =>
    intro k hk
    rw [noS_succ]
    split
    · omega
    · split
      · omega
      · exact ih (k + 1) (by omega)
theorem iL_u32 (a : Int) : iL a &&& iL 4294967295 = iL (a % 4294967296) := by
  show Int64.ofInt a &&& Int64.ofInt 4294967295 = Int64.ofInt (a % 4294967296)
  rw [← Int64.toBitVec_inj, Int64.toBitVec_and]
  show BitVec.ofInt 64 a &&& BitVec.ofInt 64 4294967295 = BitVec.ofInt 64 (a % 4294967296)
  apply BitVec.eq_of_toNat_eq
  rw [BitVec.toNat_and, BitVec.toNat_ofInt, BitVec.toNat_ofInt, BitVec.toNat_ofInt]
  show (a % ((2 ^ 64 : Nat) : Int)).toNat &&& (4294967295 % ((2 ^ 64 : Nat) : Int)).toNat = _
  rw [show ((4294967295 : Int) % ((2 ^ 64 : Nat) : Int)).toNat = 2 ^ 32 - 1 by decide, Nat.and_two_pow_sub_one_eq_mod]
  omega

set_option maxRecDepth 100000 in
set_option maxHeartbeats 4000000 in
theorem c_D_size (l : Launch) (E : eT) (σ : St) (a : Int) (hr : rg σ) (ha : inR a) : FCon l E y_D_size ws_D_size 0 [.ref (E.2.2.2 16 0), .int (iI a)] σ (some (.int (iI (cnO (σ 17 0) a 32)))) σ := by
  refine con_of (cc := b_D_size) (nL := 4) (ret := (some .int)) (by decide) (Nat.le_of_ble_eq_true rfl) (fun z X Y hn => ?_)
  have X : Cx E z b_D_size R_D := X
  have hz := Y.2.1
  change J E z 0 0 0 [(0, .ref (E.2.2.2 16 0)), (1, .int (iI a))] [] (cells E σ)
  refine j_iconst X d_D_size_0 ?_
  refine j_istore_n X (zlt hn rfl) d_D_size_1 ?_
  refine j_iconst X d_D_size_2 ?_
  refine j_istore_n X (zlt hn rfl) d_D_size_3 ?_
  have kyl : ∀ t : Int, (0 ≤ t ∧ t ≤ 32) → J E z 0 0 4 [(0, .ref (E.2.2.2 16 0)), (1, .int (iI a)), (2, .int (iI (cnO (σ 17 0) a t.toNat))), (3, .int (iI t))] [] (cells E σ) := by
    refine j_loop (fun t : Int => (32 - t).toNat) _ _ (fun t ht ih => ?_)
    have ro := hr 17 0 t
    have cs := cnO_s (σ 17 0) a ht.1
    refine j_iload_n X rfl d_D_size_4 ?_
    refine j_bipush X rfl d_D_size_5 ?_
    refine j_icmp_ge X (by omega) (by omega) d_D_size_7 (tgt := 29) rfl (fun h7 => ?_) (fun h7 => ?_)
    · skip
      refine j_iload_n X rfl d_D_size_29 ?_
      exact j_iret X Y (Nat.le_refl _) (Nat.le_refl _) d_D_size_30 ⟨by rw [show t.toNat = 32 by omega], rfl⟩
    · skip
      refine j_aload_n X rfl d_D_size_10 ?_
      refine g_D_9 X d_D_size_11 ?_
      refine j_iload_n X rfl d_D_size_14 ?_
      refine j_iald X (by first | exact okC1 rfl | exact (okCT rfl (by omega))) (fun _ => rfl) rfl (by omega) d_D_size_15 ?_
      refine j_iload_n X rfl d_D_size_16 ?_
      refine j_icmp_ne X (by omega) (by omega) d_D_size_17 (tgt := 23) rfl (fun h17 => ?_) (fun h17 => ?_)
      · skip
        refine j_iinc X rfl (zlt hn rfl) d_D_size_23 ?_
        refine j_goto X d_D_size_26 (tgt := 4) rfl ?_
        have := ih (t + 1) (by omega) (by omega); first | (rw [cs, if_pos h17] at this; exact this) | (rw [cs, if_neg h17, Int.add_zero] at this; exact this)
      · skip
        refine j_iinc X rfl (zlt hn rfl) d_D_size_20 ?_
        refine j_iinc X rfl (zlt hn rfl) d_D_size_23 ?_
        refine j_goto X d_D_size_26 (tgt := 4) rfl ?_
        have := ih (t + 1) (by omega) (by omega); first | (rw [cs, if_pos h17] at this; exact this) | (rw [cs, if_neg h17, Int.add_zero] at this; exact this)
  exact kyl 0 (by omega)

set_option maxRecDepth 100000 in
set_option maxHeartbeats 4000000 in
theorem c_D_isAllocated (l : Launch) (E : eT) (σ : St) (a : Int) (hr : rg σ) (ha : inR a) : FCon l E y_D_isAllocated ws_D_isAllocated 1 [.ref (E.2.2.2 16 0), .int (iI a)] σ (some (.int (iI (b2i (decide (0 < cnO (σ 17 0) a 32)))))) σ := by
  refine con_of (cc := b_D_isAllocated) (nL := 2) (ret := (some .boolean)) (by decide) (Nat.le_of_ble_eq_true rfl) (fun z X Y hn => ?_)
  have X : Cx E z b_D_isAllocated R_D := X
  have hz := Y.2.1
  change J E z 0 0 0 [(0, .ref (E.2.2.2 16 0)), (1, .int (iI a))] [] (cells E σ)
  have hc := cnO_in (σ 17 0) a 32
  refine j_aload_n X rfl d_D_isAllocated_0 ?_
  refine j_iload_n X rfl d_D_isAllocated_1 ?_
  refine v_D_19 X hz (c_D_size (zl z) E σ a hr ha) rfl rfl rfl (Nat.le_of_ble_eq_true rfl) ⟨Nat.le_refl _, Nat.le_refl _⟩ d_D_isAllocated_2 ?_
  refine j_if_le X (by omega) d_D_isAllocated_5 (tgt := 12) rfl (fun h5 => ?_) (fun h5 => ?_)
  · skip
    refine j_iconst X d_D_isAllocated_12 ?_
    exact j_zret X Y (by first | rfl | exact b2i_nar _) (Nat.le_refl _) (Nat.le_refl _) d_D_isAllocated_13 ⟨by first | exact vb1 h5 | exact vb0 (by omega), rfl⟩
  · skip
    refine j_iconst X d_D_isAllocated_8 ?_
    refine j_goto X d_D_isAllocated_9 (tgt := 13) rfl ?_
    exact j_zret X Y (by first | rfl | exact b2i_nar _) (Nat.le_refl _) (Nat.le_refl _) d_D_isAllocated_13 ⟨by first | exact vb1 h5 | exact vb0 (by omega), rfl⟩

set_option maxRecDepth 100000 in
set_option maxHeartbeats 4000000 in
theorem c_D_trackAt (l : Launch) (E : eT) (σ : St) (a j : Int) (hr : rg σ) (ha : inR a) (hj : inR j) : FCon l E y_D_trackAt ws_D_trackAt 0 [.ref (E.2.2.2 16 0), .int (iI a), .int (iI j)] σ (some (.int (iI (taO (σ 17 0) a j 32 0)))) σ := by
  refine con_of (cc := b_D_trackAt) (nL := 5) (ret := (some .int)) (by decide) (Nat.le_of_ble_eq_true rfl) (fun z X Y hn => ?_)
  have X : Cx E z b_D_trackAt R_D := X
  have hz := Y.2.1
  change J E z 0 0 0 [(0, .ref (E.2.2.2 16 0)), (1, .int (iI a)), (2, .int (iI j))] [] (cells E σ)
  obtain ⟨r, hr0⟩ : ∃ r, r = taO (σ 17 0) a j 32 0 := ⟨_, rfl⟩
  rw [← hr0] at Y
  refine j_iconst X d_D_trackAt_0 ?_
  refine j_istore_n X (zlt hn rfl) d_D_trackAt_1 ?_
  refine j_iconst X d_D_trackAt_2 ?_
  refine j_istore X (zlt hn rfl) d_D_trackAt_3 ?_
  have kyl : ∀ t : Int, (0 ≤ t ∧ t ≤ 32 ∧ r = taO (σ 17 0) a j (32 - t).toNat t) → J E z 0 0 5 [(0, .ref (E.2.2.2 16 0)), (1, .int (iI a)), (2, .int (iI j)), (3, .int (iI (cnO (σ 17 0) a t.toNat))), (4, .int (iI t))] [] (cells E σ) := by
    refine j_loop (fun t : Int => (32 - t).toNat) _ _ (fun t ht ih => ?_)
    have ro := hr 17 0 t
    obtain ⟨t0, t1, t2⟩ := ht
    have cs := cnO_s (σ 17 0) a t0
    have ci := cnO_in (σ 17 0) a t.toNat
    refine j_iload X rfl d_D_trackAt_5 ?_
    refine j_bipush X rfl d_D_trackAt_7 ?_
    refine j_icmp_ge X (by omega) (by omega) d_D_trackAt_9 (tgt := 40) rfl (fun h9 => ?_) (fun h9 => ?_)
    · skip
      refine j_iconst X d_D_trackAt_40 ?_
      exact j_iret X Y (Nat.le_refl _) (Nat.le_refl _) d_D_trackAt_41 ⟨by rw [t2, show (32 - t).toNat = 0 by omega]; rfl, rfl⟩
    · skip
      refine j_aload_n X rfl d_D_trackAt_12 ?_
      refine g_D_9 X d_D_trackAt_13 ?_
      refine j_iload X rfl d_D_trackAt_16 ?_
      refine j_iald X (by first | exact okC1 rfl | exact (okCT rfl (by omega))) (fun _ => rfl) rfl (by omega) d_D_trackAt_18 ?_
      refine j_iload_n X rfl d_D_trackAt_19 ?_
      refine j_icmp_ne X (by omega) (by omega) d_D_trackAt_20 (tgt := 34) rfl (fun h20 => ?_) (fun h20 => ?_)
      · skip
        refine j_iinc X rfl (zlt hn rfl) d_D_trackAt_34 ?_
        refine j_goto X d_D_trackAt_37 (tgt := 5) rfl ?_
        have := ih (t + 1) ⟨by omega, by omega, by rw [t2, show (32 - t).toNat = (32 - (t + 1)).toNat + 1 by omega, taO_s, if_neg]; rintro ⟨q1, q2⟩; first | exact h20 q1 | exact h25 q2⟩ (by omega); first | (rw [cs, if_pos h20] at this; exact this) | (rw [cs, if_neg h20, Int.add_zero] at this; exact this)
      · skip
        refine j_iload_n X rfl d_D_trackAt_23 ?_
        refine j_iload_n X rfl d_D_trackAt_24 ?_
        refine j_icmp_ne X (by omega) (by omega) d_D_trackAt_25 (tgt := 31) rfl (fun h25 => ?_) (fun h25 => ?_)
        · skip
          refine j_iinc X rfl (zlt hn rfl) d_D_trackAt_31 ?_
          refine j_iinc X rfl (zlt hn rfl) d_D_trackAt_34 ?_
          refine j_goto X d_D_trackAt_37 (tgt := 5) rfl ?_
          have := ih (t + 1) ⟨by omega, by omega, by rw [t2, show (32 - t).toNat = (32 - (t + 1)).toNat + 1 by omega, taO_s, if_neg]; rintro ⟨q1, q2⟩; first | exact h20 q1 | exact h25 q2⟩ (by omega); first | (rw [cs, if_pos h20] at this; exact this) | (rw [cs, if_neg h20, Int.add_zero] at this; exact this)
        · skip
          refine j_iload X rfl d_D_trackAt_28 ?_
          exact j_iret X Y (Nat.le_refl _) (Nat.le_refl _) d_D_trackAt_30 ⟨by rw [t2, show (32 - t).toNat = (32 - (t + 1)).toNat + 1 by omega, taO_s, if_pos ⟨h20, h25⟩], rfl⟩
  exact kyl 0 ⟨by omega, by omega, hr0⟩

set_option maxRecDepth 100000 in
set_option maxHeartbeats 4000000 in
theorem c_D_extentsOfFree (l : Launch) (E : eT) (σ : St) (w : Int) (hr : rg σ) (hw : inR w) : FCon l E y_D_extentsOfFree ws_D_extentsOfFree 0 [.ref (E.2.2.2 16 0), .int (iI w)] σ (some (.int (iI (exL (σ 17 0) w 32 0 0 0)))) σ := by
  refine con_of (cc := b_D_extentsOfFree) (nL := 5) (ret := (some .int)) (by decide) (Nat.le_of_ble_eq_true rfl) (fun z X Y hn => ?_)
  have X : Cx E z b_D_extentsOfFree R_D := X
  have hz := Y.2.1
  change J E z 0 0 0 [(0, .ref (E.2.2.2 16 0)), (1, .int (iI w))] [] (cells E σ)
  obtain ⟨r, hr0⟩ : ∃ r, r = exL (σ 17 0) w 32 0 0 0 := ⟨_, rfl⟩
  rw [← hr0] at Y
  refine j_iconst X d_D_extentsOfFree_0 ?_
  refine j_istore_n X (zlt hn rfl) d_D_extentsOfFree_1 ?_
  refine j_iconst X d_D_extentsOfFree_2 ?_
  refine j_istore_n X (zlt hn rfl) d_D_extentsOfFree_3 ?_
  refine j_iconst X d_D_extentsOfFree_4 ?_
  refine j_istore X (zlt hn rfl) d_D_extentsOfFree_5 ?_
  have kyl : ∀ q : Int × Int × Int, (0 ≤ q.1 ∧ q.1 ≤ 32 ∧ (0 ≤ q.2.1 ∧ q.2.1 ≤ q.1) ∧ (0 ≤ q.2.2 ∧ q.2.2 ≤ q.1) ∧ r = exL (σ 17 0) w (32 - q.1).toNat q.1 q.2.1 q.2.2) → J E z 0 0 7 [(0, .ref (E.2.2.2 16 0)), (1, .int (iI w)), (2, .int (iI q.2.2)), (3, .int (iI q.2.1)), (4, .int (iI q.1))] [] (cells E σ) := by
    refine j_loop (fun q => (32 - q.1).toNat) _ _ (fun q hq ih => ?_)
    obtain ⟨t, c, e⟩ := q
    obtain ⟨t0, t1, hc, he, hx⟩ := hq
    dsimp only at t0 t1 hc he hx
    dsimp only
    have ro := hr 17 0 t
    have ro1 := hr 17 0 (t - 1)
    refine j_iload X rfl d_D_extentsOfFree_7 ?_
    refine j_bipush X rfl d_D_extentsOfFree_9 ?_
    refine j_icmp_ge X (by omega) (by omega) d_D_extentsOfFree_11 (tgt := 60) rfl (fun h11 => ?_) (fun h11 => ?_)
    · skip
      refine j_iload_n X rfl d_D_extentsOfFree_60 ?_
      exact j_iret X Y (Nat.le_refl _) (Nat.le_refl _) d_D_extentsOfFree_61 ⟨by rw [hx]; first | (rw [show (32 - t).toNat = 0 by omega]; rfl) | (rw [show (32 - t).toNat = (32 - (t + 1)).toNat + 1 by omega, exL_s, if_neg (by omega)]), rfl⟩
    · skip
      refine j_iload_n X rfl d_D_extentsOfFree_14 ?_
      refine j_iload_n X rfl d_D_extentsOfFree_15 ?_
      refine j_icmp_ge X (by omega) (by omega) d_D_extentsOfFree_16 (tgt := 60) rfl (fun h16 => ?_) (fun h16 => ?_)
      · skip
        refine j_iload_n X rfl d_D_extentsOfFree_60 ?_
        exact j_iret X Y (Nat.le_refl _) (Nat.le_refl _) d_D_extentsOfFree_61 ⟨by rw [hx]; first | (rw [show (32 - t).toNat = 0 by omega]; rfl) | (rw [show (32 - t).toNat = (32 - (t + 1)).toNat + 1 by omega, exL_s, if_neg (by omega)]), rfl⟩
      · skip
        refine j_aload_n X rfl d_D_extentsOfFree_19 ?_
        refine g_D_9 X d_D_extentsOfFree_20 ?_
        refine j_iload X rfl d_D_extentsOfFree_23 ?_
        refine j_iald X (by first | exact okC1 rfl | exact (okCT rfl (by omega))) (fun _ => rfl) rfl (by omega) d_D_extentsOfFree_25 ?_
        refine j_iconst X d_D_extentsOfFree_26 ?_
        refine j_icmp_ne X (by omega) (by omega) d_D_extentsOfFree_27 (tgt := 54) rfl (fun h27 => ?_) (fun h27 => ?_)
        · skip
          refine j_iinc X rfl (zlt hn rfl) d_D_extentsOfFree_54 ?_
          refine j_goto X d_D_extentsOfFree_57 (tgt := 7) rfl ?_
          first | exact ih (t + 1, c + 1, e + 1) ⟨by dsimp only; omega, by dsimp only; omega, by dsimp only; omega, by dsimp only; omega, by dsimp only; rw [hx, show (32 - t).toNat = (32 - (t + 1)).toNat + 1 by omega, exL_s, if_pos h16, if_pos h27, if_pos (by omega)]⟩ (by dsimp only; omega) | exact ih (t + 1, c + 1, e) ⟨by dsimp only; omega, by dsimp only; omega, by dsimp only; omega, by dsimp only; omega, by dsimp only; rw [hx, show (32 - t).toNat = (32 - (t + 1)).toNat + 1 by omega, exL_s, if_pos h16, if_pos h27, if_neg (by omega)]⟩ (by dsimp only; omega) | exact ih (t + 1, c, e) ⟨by dsimp only; omega, by dsimp only; omega, by dsimp only; omega, by dsimp only; omega, by dsimp only; rw [hx, show (32 - t).toNat = (32 - (t + 1)).toNat + 1 by omega, exL_s, if_pos h16, if_neg h27]⟩ (by dsimp only; omega)
        · skip
          refine j_iinc X rfl (zlt hn rfl) d_D_extentsOfFree_30 ?_
          refine j_iload X rfl d_D_extentsOfFree_33 ?_
          refine j_if_eq X (by omega) d_D_extentsOfFree_35 (tgt := 51) rfl (fun h35 => ?_) (fun h35 => ?_)
          · skip
            refine j_iinc X rfl (zlt hn rfl) d_D_extentsOfFree_51 ?_
            refine j_iinc X rfl (zlt hn rfl) d_D_extentsOfFree_54 ?_
            refine j_goto X d_D_extentsOfFree_57 (tgt := 7) rfl ?_
            first | exact ih (t + 1, c + 1, e + 1) ⟨by dsimp only; omega, by dsimp only; omega, by dsimp only; omega, by dsimp only; omega, by dsimp only; rw [hx, show (32 - t).toNat = (32 - (t + 1)).toNat + 1 by omega, exL_s, if_pos h16, if_pos h27, if_pos (by omega)]⟩ (by dsimp only; omega) | exact ih (t + 1, c + 1, e) ⟨by dsimp only; omega, by dsimp only; omega, by dsimp only; omega, by dsimp only; omega, by dsimp only; rw [hx, show (32 - t).toNat = (32 - (t + 1)).toNat + 1 by omega, exL_s, if_pos h16, if_pos h27, if_neg (by omega)]⟩ (by dsimp only; omega) | exact ih (t + 1, c, e) ⟨by dsimp only; omega, by dsimp only; omega, by dsimp only; omega, by dsimp only; omega, by dsimp only; rw [hx, show (32 - t).toNat = (32 - (t + 1)).toNat + 1 by omega, exL_s, if_pos h16, if_neg h27]⟩ (by dsimp only; omega)
          · skip
            refine j_aload_n X rfl d_D_extentsOfFree_38 ?_
            refine g_D_9 X d_D_extentsOfFree_39 ?_
            refine j_iload X rfl d_D_extentsOfFree_42 ?_
            refine j_iconst X d_D_extentsOfFree_44 ?_
            refine j_isub X d_D_extentsOfFree_45 ?_
            refine j_iald X (by first | exact okC1 rfl | exact (okCT rfl (by omega))) (fun _ => rfl) rfl (by omega) d_D_extentsOfFree_46 ?_
            refine j_iconst X d_D_extentsOfFree_47 ?_
            refine j_icmp_eq X (by omega) (by omega) d_D_extentsOfFree_48 (tgt := 54) rfl (fun h48 => ?_) (fun h48 => ?_)
            · skip
              refine j_iinc X rfl (zlt hn rfl) d_D_extentsOfFree_54 ?_
              refine j_goto X d_D_extentsOfFree_57 (tgt := 7) rfl ?_
              first | exact ih (t + 1, c + 1, e + 1) ⟨by dsimp only; omega, by dsimp only; omega, by dsimp only; omega, by dsimp only; omega, by dsimp only; rw [hx, show (32 - t).toNat = (32 - (t + 1)).toNat + 1 by omega, exL_s, if_pos h16, if_pos h27, if_pos (by omega)]⟩ (by dsimp only; omega) | exact ih (t + 1, c + 1, e) ⟨by dsimp only; omega, by dsimp only; omega, by dsimp only; omega, by dsimp only; omega, by dsimp only; rw [hx, show (32 - t).toNat = (32 - (t + 1)).toNat + 1 by omega, exL_s, if_pos h16, if_pos h27, if_neg (by omega)]⟩ (by dsimp only; omega) | exact ih (t + 1, c, e) ⟨by dsimp only; omega, by dsimp only; omega, by dsimp only; omega, by dsimp only; omega, by dsimp only; rw [hx, show (32 - t).toNat = (32 - (t + 1)).toNat + 1 by omega, exL_s, if_pos h16, if_neg h27]⟩ (by dsimp only; omega)
            · skip
              refine j_iinc X rfl (zlt hn rfl) d_D_extentsOfFree_51 ?_
              refine j_iinc X rfl (zlt hn rfl) d_D_extentsOfFree_54 ?_
              refine j_goto X d_D_extentsOfFree_57 (tgt := 7) rfl ?_
              first | exact ih (t + 1, c + 1, e + 1) ⟨by dsimp only; omega, by dsimp only; omega, by dsimp only; omega, by dsimp only; omega, by dsimp only; rw [hx, show (32 - t).toNat = (32 - (t + 1)).toNat + 1 by omega, exL_s, if_pos h16, if_pos h27, if_pos (by omega)]⟩ (by dsimp only; omega) | exact ih (t + 1, c + 1, e) ⟨by dsimp only; omega, by dsimp only; omega, by dsimp only; omega, by dsimp only; omega, by dsimp only; rw [hx, show (32 - t).toNat = (32 - (t + 1)).toNat + 1 by omega, exL_s, if_pos h16, if_pos h27, if_neg (by omega)]⟩ (by dsimp only; omega) | exact ih (t + 1, c, e) ⟨by dsimp only; omega, by dsimp only; omega, by dsimp only; omega, by dsimp only; omega, by dsimp only; rw [hx, show (32 - t).toNat = (32 - (t + 1)).toNat + 1 by omega, exL_s, if_pos h16, if_neg h27]⟩ (by dsimp only; omega)
  exact kyl (0, 0, 0) ⟨Int.le_refl 0, show (0 : Int) ≤ 32 by decide, ⟨Int.le_refl 0, Int.le_refl 0⟩, ⟨Int.le_refl 0, Int.le_refl 0⟩, hr0⟩

set_option maxRecDepth 100000 in
set_option maxHeartbeats 4000000 in
theorem c_D_canTake (l : Launch) (E : eT) (σ : St) (w : Int) (hr : rg σ) (hw : inR w) : FCon l E y_D_canTake ws_D_canTake 1 [.ref (E.2.2.2 16 0), .int (iI w)] σ (some (.int (iI (b2i (decide (w ≤ cnO (σ 17 0) (-1) 32 ∧ exL (σ 17 0) w 32 0 0 0 ≤ 4)))))) σ := by
  refine con_of (cc := b_D_canTake) (nL := 2) (ret := (some .boolean)) (by decide) (Nat.le_of_ble_eq_true rfl) (fun z X Y hn => ?_)
  have X : Cx E z b_D_canTake R_D := X
  have hz := Y.2.1
  change J E z 0 0 0 [(0, .ref (E.2.2.2 16 0)), (1, .int (iI w))] [] (cells E σ)
  have hc := cnO_in (σ 17 0) (-1) 32
  have hx := exL_in (σ 17 0) w 32 0 0 0
  refine j_aload_n X rfl d_D_canTake_0 ?_
  refine j_iconst X d_D_canTake_1 ?_
  refine v_D_19 X hz (c_D_size (zl z) E σ (-1) hr (by decide)) rfl rfl rfl (Nat.le_of_ble_eq_true rfl) ⟨Nat.le_refl _, Nat.le_refl _⟩ d_D_canTake_2 ?_
  refine j_iload_n X rfl d_D_canTake_5 ?_
  refine j_icmp_lt X (by omega) (by omega) d_D_canTake_6 (tgt := 22) rfl (fun h6 => ?_) (fun h6 => ?_)
  · skip
    refine j_iconst X d_D_canTake_22 ?_
    exact j_zret X Y (by first | rfl | exact b2i_nar _) (Nat.le_refl _) (Nat.le_refl _) d_D_canTake_23 ⟨by first | exact vb1 (by omega) | exact vb0 (by omega), rfl⟩
  · skip
    refine j_aload_n X rfl d_D_canTake_9 ?_
    refine j_iload_n X rfl d_D_canTake_10 ?_
    refine v_D_23 X hz (c_D_extentsOfFree (zl z) E σ w hr hw) rfl rfl rfl (Nat.le_of_ble_eq_true rfl) ⟨Nat.le_refl _, Nat.le_refl _⟩ d_D_canTake_11 ?_
    refine j_iconst X d_D_canTake_14 ?_
    refine j_icmp_gt X (by omega) (by omega) d_D_canTake_15 (tgt := 22) rfl (fun h15 => ?_) (fun h15 => ?_)
    · skip
      refine j_iconst X d_D_canTake_22 ?_
      exact j_zret X Y (by first | rfl | exact b2i_nar _) (Nat.le_refl _) (Nat.le_refl _) d_D_canTake_23 ⟨by first | exact vb1 (by omega) | exact vb0 (by omega), rfl⟩
    · skip
      refine j_iconst X d_D_canTake_18 ?_
      refine j_goto X d_D_canTake_19 (tgt := 23) rfl ?_
      exact j_zret X Y (by first | rfl | exact b2i_nar _) (Nat.le_refl _) (Nat.le_refl _) d_D_canTake_23 ⟨by first | exact vb1 (by omega) | exact vb0 (by omega), rfl⟩

set_option maxRecDepth 100000 in
set_option maxHeartbeats 4000000 in
theorem c_D_giveBack (l : Launch) (E : eT) (σ : St) (a : Int) (hr : rg σ) (ha : inR a) : FCon l E y_D_giveBack ws_D_giveBack 0 [.ref (E.2.2.2 16 0), .int (iI a)] σ none (gvS σ a 32) := by
  refine con_of (cc := b_D_giveBack) (nL := 3) (ret := none) (by decide) (Nat.le_of_ble_eq_true rfl) (fun z X Y hn => ?_)
  have X : Cx E z b_D_giveBack R_D := X
  have hz := Y.2.1
  change J E z 0 0 0 [(0, .ref (E.2.2.2 16 0)), (1, .int (iI a))] [] (cells E σ)
  refine j_iconst X d_D_giveBack_0 ?_
  refine j_istore_n X (zlt hn rfl) d_D_giveBack_1 ?_
  have kyl : ∀ t : Int, (0 ≤ t ∧ t ≤ 32) → J E z 0 0 2 [(0, .ref (E.2.2.2 16 0)), (1, .int (iI a)), (2, .int (iI t))] [] (cells E (gvS σ a t)) := by
    refine j_loop (fun t : Int => (32 - t).toNat) _ _ (fun t ht ih => ?_)
    have ro := hr 17 0 t
    have e17 : gvS σ a t 17 0 t = σ 17 0 t := by rw [gv_17, if_neg (by omega)]
    refine j_iload_n X rfl d_D_giveBack_2 ?_
    refine j_bipush X rfl d_D_giveBack_3 ?_
    refine j_icmp_ge X (by omega) (by omega) d_D_giveBack_5 (tgt := 31) rfl (fun h5 => ?_) (fun h5 => ?_)
    · skip
      exact j_vret X Y (Nat.le_refl _) (Nat.le_refl _) d_D_giveBack_31 ⟨rfl, by rw [show t = 32 by omega]⟩
    · skip
      refine j_aload_n X rfl d_D_giveBack_8 ?_
      refine g_D_9 X d_D_giveBack_9 ?_
      refine j_iload_n X rfl d_D_giveBack_12 ?_
      refine j_iald X (by first | exact okC1 rfl | exact (okCT rfl (by omega))) (fun _ => rfl) rfl (by omega) d_D_giveBack_13 ?_
      rw [e17]
      refine j_iload_n X rfl d_D_giveBack_14 ?_
      refine j_icmp_ne X (by omega) (by omega) d_D_giveBack_15 (tgt := 25) rfl (fun h15 => ?_) (fun h15 => ?_)
      · skip
        refine j_iinc X rfl (zlt hn rfl) d_D_giveBack_25 ?_
        refine j_goto X d_D_giveBack_28 (tgt := 2) rfl ?_
        have := ih (t + 1) (by omega) (by omega); first | (rw [← gv_s1 h15 ht.1] at this; exact this) | (rw [← gv_s0 h15 ht.1] at this; exact this)
      · skip
        refine j_aload_n X rfl d_D_giveBack_18 ?_
        refine g_D_9 X d_D_giveBack_19 ?_
        refine j_iload_n X rfl d_D_giveBack_22 ?_
        refine j_iconst X d_D_giveBack_23 ?_
        refine j_iast X (by first | exact okC1 rfl | exact (okCT rfl (by omega))) (fun _ => rfl) rfl (by omega) d_D_giveBack_24 ?_
        refine j_iinc X rfl (zlt hn rfl) d_D_giveBack_25 ?_
        refine j_goto X d_D_giveBack_28 (tgt := 2) rfl ?_
        have := ih (t + 1) (by omega) (by omega); first | (rw [← gv_s1 h15 ht.1] at this; exact this) | (rw [← gv_s0 h15 ht.1] at this; exact this)
  exact (gv_0 σ a) ▸ kyl 0 (by omega)

set_option maxRecDepth 100000 in
set_option maxHeartbeats 4000000 in
theorem c_D_trackNear (l : Launch) (E : eT) (σ : St) (a key n i : Int) (hr : rg σ) (ha : inR a) (hk : inR key) (hn0 : 0 ≤ n ∧ n ≤ 32) (hi : 0 ≤ i ∧ i ≤ 32) : FCon l E y_D_trackNear ws_D_trackNear 1 [.ref (E.2.2.2 16 0), .int (iI a), .int (iI key), .int (iI n), .int (iI i)] σ (some (.int (iI (tnO σ a key n i)))) σ := by
  refine con_of (cc := b_D_trackNear) (nL := 7) (ret := (some .int)) (by decide) (Nat.le_of_ble_eq_true rfl) (fun z X Y hn => ?_)
  have X : Cx E z b_D_trackNear R_D := X
  have hz := Y.2.1
  change J E z 0 0 0 [(0, .ref (E.2.2.2 16 0)), (1, .int (iI a)), (2, .int (iI key)), (3, .int (iI n)), (4, .int (iI i))] [] (cells E σ)
  refine j_iload_n X rfl d_D_trackNear_0 ?_
  refine j_if_ne X (by omega) d_D_trackNear_1 (tgt := 6) rfl (fun h1 => ?_) (fun h1 => ?_)
  · skip
    refine j_iload_n X rfl d_D_trackNear_6 ?_
    refine j_i2l X (by omega) d_D_trackNear_7 ?_
    refine j_ldc2 (a := 4294967295) X kl_D_47 rfl d_D_trackNear_8 ?_
    refine j_land X d_D_trackNear_11 ?_
    refine j_topl (iL_u32 key) ?_
    refine j_lstore X (zlt hn rfl) d_D_trackNear_12 ?_
    refine j_aload_n X rfl d_D_trackNear_14 ?_
    refine j_iload_n X rfl d_D_trackNear_15 ?_
    refine j_lload X rfl d_D_trackNear_16 ?_
    refine j_iload X rfl d_D_trackNear_18 ?_
    refine j_i2l X (by omega) d_D_trackNear_20 ?_
    refine j_ladd X d_D_trackNear_21 ?_
    refine j_iload_n X rfl d_D_trackNear_22 ?_
    refine j_i2l X (by omega) d_D_trackNear_23 ?_
    refine j_lrem X (by omega) (by omega) (by omega) (by omega) d_D_trackNear_24 ?_
    refine j_l2i X d_D_trackNear_25 ?_
    refine v_D_49 X hz (c_D_trackAt (zl z) E σ a ((key % 4294967296 + i) % n) hr ha (by have := Int.emod_lt_of_pos (key % 4294967296 + i) (show 0 < n by omega); have := Int.emod_nonneg (key % 4294967296 + i) (show n ≠ 0 by omega); omega)) rfl rfl rfl (Nat.le_of_ble_eq_true rfl) ⟨Nat.le_refl _, Nat.le_refl _⟩ d_D_trackNear_26 ?_
    exact j_iret X Y (Nat.le_refl _) (Nat.le_refl _) d_D_trackNear_29 ⟨by unfold tnO; rw [if_neg (by omega)], rfl⟩
  · skip
    refine j_iconst X d_D_trackNear_4 ?_
    exact j_iret X Y (Nat.le_refl _) (Nat.le_refl _) d_D_trackNear_5 ⟨by unfold tnO; rw [if_pos (by omega)], rfl⟩

set_option maxRecDepth 100000 in
set_option maxHeartbeats 4000000 in
theorem c_D_trackHolding (l : Launch) (E : eT) (σ : St) (a key : Int) (h : clW σ) (ha : inR a) (hk : inR key) : FCon l E y_D_trackHolding ws_D_trackHolding 4 [.ref (E.2.2.2 16 0), .int (iI a), .int (iI key)] σ (some (.int (iI (thL σ a key (cnO (σ 17 0) a 32) 4 0)))) σ := by
  refine con_of (cc := b_D_trackHolding) (nL := 6) (ret := (some .int)) (by decide) (Nat.le_of_ble_eq_true rfl) (fun z X Y hn => ?_)
  have X : Cx E z b_D_trackHolding R_D := X
  have hz := Y.2.1
  change J E z 0 0 0 [(0, .ref (E.2.2.2 16 0)), (1, .int (iI a)), (2, .int (iI key))] [] (cells E σ)
  have hr := h.1
  have hc := cnO_in (σ 17 0) a 32
  obtain ⟨n, hnn⟩ : ∃ n, n = cnO (σ 17 0) a 32 := ⟨_, rfl⟩
  rw [← hnn] at Y hc
  obtain ⟨r, hr0⟩ : ∃ r, r = thL σ a key n 4 0 := ⟨_, rfl⟩
  rw [← hr0] at Y
  refine j_aload_n X rfl d_D_trackHolding_0 ?_
  refine j_iload_n X rfl d_D_trackHolding_1 ?_
  refine v_D_19 X hz (c_D_size (zl z) E σ a hr ha) rfl rfl rfl (Nat.le_of_ble_eq_true rfl) ⟨Nat.le_refl _, Nat.le_refl _⟩ d_D_trackHolding_2 ?_
  rw [← hnn]
  refine j_istore_n X (zlt hn rfl) d_D_trackHolding_5 ?_
  refine j_iconst X d_D_trackHolding_6 ?_
  refine j_istore X (zlt hn rfl) d_D_trackHolding_7 ?_
  have kyl : ∀ i : Int, (0 ≤ i ∧ i ≤ 4 ∧ r = thL σ a key n (4 - i).toNat i) → J E z 0 0 9 [(0, .ref (E.2.2.2 16 0)), (1, .int (iI a)), (2, .int (iI key)), (3, .int (iI n)), (4, .int (iI i))] [] (cells E σ) := by
    refine j_loop (fun i : Int => (4 - i).toNat) _ _ (fun i hi ih => ?_)
    obtain ⟨i0, i1, i2⟩ := hi
    have hR := tnO_R (σ := σ) (a := a) (key := key) (n := n) (i := i)
    refine j_iload X rfl d_D_trackHolding_9 ?_
    refine j_iconst X d_D_trackHolding_11 ?_
    refine j_icmp_ge X (by omega) (by omega) d_D_trackHolding_12 (tgt := 61) rfl (fun h12 => ?_) (fun h12 => ?_)
    · skip
      refine j_iconst X d_D_trackHolding_61 ?_
      exact j_iret X Y (Nat.le_refl _) (Nat.le_refl _) d_D_trackHolding_62 ⟨by rw [i2]; first | (rw [show (4 - i).toNat = 0 by omega]; rfl) | (rw [show (4 - i).toNat = (4 - (i + 1)).toNat + 1 by omega, thL_s, if_neg (by omega)]), rfl⟩
    · skip
      refine j_iload X rfl d_D_trackHolding_15 ?_
      refine j_iload_n X rfl d_D_trackHolding_17 ?_
      refine j_icmp_ge X (by omega) (by omega) d_D_trackHolding_18 (tgt := 61) rfl (fun h18 => ?_) (fun h18 => ?_)
      · skip
        refine j_iconst X d_D_trackHolding_61 ?_
        exact j_iret X Y (Nat.le_refl _) (Nat.le_refl _) d_D_trackHolding_62 ⟨by rw [i2]; first | (rw [show (4 - i).toNat = 0 by omega]; rfl) | (rw [show (4 - i).toNat = (4 - (i + 1)).toNat + 1 by omega, thL_s, if_neg (by omega)]), rfl⟩
      · skip
        refine j_aload_n X rfl d_D_trackHolding_21 ?_
        refine j_iload_n X rfl d_D_trackHolding_22 ?_
        refine j_iload_n X rfl d_D_trackHolding_23 ?_
        refine j_iload_n X rfl d_D_trackHolding_24 ?_
        refine j_iload X rfl d_D_trackHolding_25 ?_
        refine v_D_32 X hz (c_D_trackNear (zl z) E σ a key n i hr ha hk (by omega) (by omega)) rfl rfl rfl (Nat.le_of_ble_eq_true rfl) ⟨Nat.le_refl _, Nat.le_refl _⟩ d_D_trackHolding_27 ?_
        refine j_istore X (zlt hn rfl) d_D_trackHolding_30 ?_
        refine j_iload X rfl d_D_trackHolding_32 ?_
        refine j_iconst X d_D_trackHolding_34 ?_
        refine j_icmp_eq X (by omega) (by omega) d_D_trackHolding_35 (tgt := 55) rfl (fun h35 => ?_) (fun h35 => ?_)
        · skip
          refine j_iinc X rfl (zlt hn rfl) d_D_trackHolding_55 ?_
          refine j_goto X d_D_trackHolding_58 (tgt := 9) rfl ?_
          exact j_drop 5 (ih (i + 1) ⟨by omega, by omega, by rw [i2, show (4 - i).toNat = (4 - (i + 1)).toNat + 1 by omega, thL_s, if_pos h18, if_neg (by omega)]⟩ (by omega))
        · skip
          refine j_aload_n X rfl d_D_trackHolding_38 ?_
          refine g_D_15 X d_D_trackHolding_39 ?_
          refine j_iload X rfl d_D_trackHolding_42 ?_
          refine j_aald X (by omega) d_D_trackHolding_44 ?_
          refine j_iload_n X rfl d_D_trackHolding_45 ?_
          have ht := tnO_in h35
          have hT := h.2.1 _ ht.1 ht.2
          have hno := noS_in (key := key) hT.1.1.2 32 1 (by omega)
          refine v_D_36 X (okCT rfl (by omega)) hz (c_T_numberOf (zl z) E σ (tnO σ a key n i) key ht hT.2.1 hr hT.1.1 (fun k k1 k2 => by have := hT.1.2.2 k k1 k2; omega)) rfl rfl rfl (Nat.le_of_ble_eq_true rfl) ⟨Nat.le_refl _, Nat.le_refl _⟩ d_D_trackHolding_46 ?_
          refine j_if_le X (by omega) d_D_trackHolding_49 (tgt := 55) rfl (fun h49 => ?_) (fun h49 => ?_)
          · skip
            refine j_iinc X rfl (zlt hn rfl) d_D_trackHolding_55 ?_
            refine j_goto X d_D_trackHolding_58 (tgt := 9) rfl ?_
            exact j_drop 5 (ih (i + 1) ⟨by omega, by omega, by rw [i2, show (4 - i).toNat = (4 - (i + 1)).toNat + 1 by omega, thL_s, if_pos h18, if_neg (by omega)]⟩ (by omega))
          · skip
            refine j_iload X rfl d_D_trackHolding_52 ?_
            exact j_iret X Y (Nat.le_refl _) (Nat.le_refl _) d_D_trackHolding_54 ⟨by rw [i2, show (4 - i).toNat = (4 - (i + 1)).toNat + 1 by omega, thL_s, if_pos h18, if_pos ⟨h35, h49⟩], rfl⟩
  exact kyl 0 ⟨by omega, by omega, hr0⟩

set_option maxRecDepth 100000 in
set_option maxHeartbeats 4000000 in
theorem c_D_trackWithRoom (l : Launch) (E : eT) (σ : St) (a key len : Int) (h : clW σ) (ha : inR a) (hk : inR key) (hl : 0 ≤ len ∧ len ≤ 1000) : FCon l E y_D_trackWithRoom ws_D_trackWithRoom 2 [.ref (E.2.2.2 16 0), .int (iI a), .int (iI key), .int (iI len)] σ (some (.int (iI (twL σ a key (cnO (σ 17 0) a 32) len 4 0)))) σ := by
  refine con_of (cc := b_D_trackWithRoom) (nL := 7) (ret := (some .int)) (by decide) (Nat.le_of_ble_eq_true rfl) (fun z X Y hn => ?_)
  have X : Cx E z b_D_trackWithRoom R_D := X
  have hz := Y.2.1
  change J E z 0 0 0 [(0, .ref (E.2.2.2 16 0)), (1, .int (iI a)), (2, .int (iI key)), (3, .int (iI len))] [] (cells E σ)
  have hr := h.1
  have hc := cnO_in (σ 17 0) a 32
  obtain ⟨n, hnn⟩ : ∃ n, n = cnO (σ 17 0) a 32 := ⟨_, rfl⟩
  rw [← hnn] at Y hc
  obtain ⟨r, hr0⟩ : ∃ r, r = twL σ a key n len 4 0 := ⟨_, rfl⟩
  rw [← hr0] at Y
  refine j_aload_n X rfl d_D_trackWithRoom_0 ?_
  refine j_iload_n X rfl d_D_trackWithRoom_1 ?_
  refine v_D_19 X hz (c_D_size (zl z) E σ a hr ha) rfl rfl rfl (Nat.le_of_ble_eq_true rfl) ⟨Nat.le_refl _, Nat.le_refl _⟩ d_D_trackWithRoom_2 ?_
  rw [← hnn]
  refine j_istore X (zlt hn rfl) d_D_trackWithRoom_5 ?_
  refine j_iconst X d_D_trackWithRoom_7 ?_
  refine j_istore X (zlt hn rfl) d_D_trackWithRoom_8 ?_
  have kyl : ∀ i : Int, (0 ≤ i ∧ i ≤ 4 ∧ r = twL σ a key n len (4 - i).toNat i) → J E z 0 0 10 [(0, .ref (E.2.2.2 16 0)), (1, .int (iI a)), (2, .int (iI key)), (3, .int (iI len)), (4, .int (iI n)), (5, .int (iI i))] [] (cells E σ) := by
    refine j_loop (fun i : Int => (4 - i).toNat) _ _ (fun i hi ih => ?_)
    obtain ⟨i0, i1, i2⟩ := hi
    have hR := tnO_R (σ := σ) (a := a) (key := key) (n := n) (i := i)
    refine j_iload X rfl d_D_trackWithRoom_10 ?_
    refine j_iconst X d_D_trackWithRoom_12 ?_
    refine j_icmp_ge X (by omega) (by omega) d_D_trackWithRoom_13 (tgt := 74) rfl (fun h13 => ?_) (fun h13 => ?_)
    · skip
      refine j_iconst X d_D_trackWithRoom_74 ?_
      exact j_iret X Y (Nat.le_refl _) (Nat.le_refl _) d_D_trackWithRoom_75 ⟨by rw [i2]; first | (rw [show (4 - i).toNat = 0 by omega]; rfl) | (rw [show (4 - i).toNat = (4 - (i + 1)).toNat + 1 by omega, twL_s, if_neg (by omega)]), rfl⟩
    · skip
      refine j_iload X rfl d_D_trackWithRoom_16 ?_
      refine j_iload X rfl d_D_trackWithRoom_18 ?_
      refine j_icmp_ge X (by omega) (by omega) d_D_trackWithRoom_20 (tgt := 74) rfl (fun h20 => ?_) (fun h20 => ?_)
      · skip
        refine j_iconst X d_D_trackWithRoom_74 ?_
        exact j_iret X Y (Nat.le_refl _) (Nat.le_refl _) d_D_trackWithRoom_75 ⟨by rw [i2]; first | (rw [show (4 - i).toNat = 0 by omega]; rfl) | (rw [show (4 - i).toNat = (4 - (i + 1)).toNat + 1 by omega, twL_s, if_neg (by omega)]), rfl⟩
      · skip
        refine j_aload_n X rfl d_D_trackWithRoom_23 ?_
        refine j_iload_n X rfl d_D_trackWithRoom_24 ?_
        refine j_iload_n X rfl d_D_trackWithRoom_25 ?_
        refine j_iload X rfl d_D_trackWithRoom_26 ?_
        refine j_iload X rfl d_D_trackWithRoom_28 ?_
        refine v_D_32 X hz (c_D_trackNear (zl z) E σ a key n i hr ha hk (by omega) (by omega)) rfl rfl rfl (Nat.le_of_ble_eq_true rfl) ⟨Nat.le_refl _, Nat.le_refl _⟩ d_D_trackWithRoom_30 ?_
        refine j_istore X (zlt hn rfl) d_D_trackWithRoom_33 ?_
        refine j_iload X rfl d_D_trackWithRoom_35 ?_
        refine j_iconst X d_D_trackWithRoom_37 ?_
        refine j_icmp_eq X (by omega) (by omega) d_D_trackWithRoom_38 (tgt := 68) rfl (fun h38 => ?_) (fun h38 => ?_)
        · skip
          refine j_iinc X rfl (zlt hn rfl) d_D_trackWithRoom_68 ?_
          refine j_goto X d_D_trackWithRoom_71 (tgt := 10) rfl ?_
          exact j_drop 6 (ih (i + 1) ⟨by omega, by omega, by rw [i2, show (4 - i).toNat = (4 - (i + 1)).toNat + 1 by omega, twL_s, if_pos h20, if_neg (by omega)]⟩ (by omega))
        · skip
          have ht := tnO_in h38
          have hT := h.2.1 _ ht.1 ht.2
          have hn4 := hT.1.1
          have he := tk_end hT.1 ⟨hn4.1, Int.le_refl _⟩
          refine j_aload_n X rfl d_D_trackWithRoom_41 ?_
          refine g_D_15 X d_D_trackWithRoom_42 ?_
          refine j_iload X rfl d_D_trackWithRoom_45 ?_
          refine j_aald X (by omega) d_D_trackWithRoom_47 ?_
          refine j_aload_n X rfl d_D_trackWithRoom_48 ?_
          refine g_D_15 X d_D_trackWithRoom_49 ?_
          refine j_iload X rfl d_D_trackWithRoom_52 ?_
          refine j_aald X (by omega) d_D_trackWithRoom_54 ?_
          refine g_D_39 X (okCT rfl (by omega)) d_D_trackWithRoom_55 ?_
          refine j_iload_n X rfl d_D_trackWithRoom_58 ?_
          refine v_D_43 X (okCT rfl (by omega)) hz (c_T_hasRoomBehind (zl z) E σ (tnO σ a key n i) (σ 4 (tnO σ a key n i) 4) len ht (by omega) (by omega)) rfl rfl rfl (Nat.le_of_ble_eq_true rfl) ⟨Nat.le_refl _, Nat.le_refl _⟩ d_D_trackWithRoom_59 ?_
          refine j_ifz X d_D_trackWithRoom_62 (tgt := 68) rfl (fun h62 => ?_) (fun h62 => ?_)
          · skip
            refine j_iinc X rfl (zlt hn rfl) d_D_trackWithRoom_68 ?_
            refine j_goto X d_D_trackWithRoom_71 (tgt := 10) rfl ?_
            exact j_drop 6 (ih (i + 1) ⟨by omega, by omega, by rw [i2, show (4 - i).toNat = (4 - (i + 1)).toNat + 1 by omega, twL_s, if_pos h20, if_neg (by omega)]⟩ (by omega))
          · skip
            refine j_iload X rfl d_D_trackWithRoom_65 ?_
            exact j_iret X Y (Nat.le_refl _) (Nat.le_refl _) d_D_trackWithRoom_67 ⟨by rw [i2, show (4 - i).toNat = (4 - (i + 1)).toNat + 1 by omega, twL_s, if_pos h20, if_pos ⟨h38, h62⟩], rfl⟩
  exact kyl 0 ⟨by omega, by omega, hr0⟩

set_option maxRecDepth 100000 in
set_option maxHeartbeats 4000000 in
theorem c_D_take (l : Launch) (E : eT) (σ : St) (a w : Int) (hr : rg σ) (ha : inR a) (hw : inR w) : FCon l E y_D_take ws_D_take 1 [.ref (E.2.2.2 16 0), .int (iI a), .int (iI w)] σ (some (.int (iI (exL (σ 17 0) w 32 0 0 0)))) (tkL a w 32 0 0 σ) := by
  refine con_of (cc := b_D_take) (nL := 6) (ret := (some .int)) (by decide) (Nat.le_of_ble_eq_true rfl) (fun z X Y hn => ?_)
  have X : Cx E z b_D_take R_D := X
  have hz := Y.2.1
  change J E z 0 0 0 [(0, .ref (E.2.2.2 16 0)), (1, .int (iI a)), (2, .int (iI w))] [] (cells E σ)
  obtain ⟨r, hr0⟩ : ∃ r, r = tkL a w 32 0 0 σ := ⟨_, rfl⟩
  rw [← hr0] at Y
  refine j_aload_n X rfl d_D_take_0 ?_
  refine j_iload_n X rfl d_D_take_1 ?_
  refine v_D_23 X hz (c_D_extentsOfFree (zl z) E σ w hr hw) rfl rfl rfl (Nat.le_of_ble_eq_true rfl) ⟨Nat.le_refl _, Nat.le_refl _⟩ d_D_take_2 ?_
  refine j_istore_n X (zlt hn rfl) d_D_take_5 ?_
  refine j_iconst X d_D_take_6 ?_
  refine j_istore X (zlt hn rfl) d_D_take_7 ?_
  refine j_iconst X d_D_take_9 ?_
  refine j_istore X (zlt hn rfl) d_D_take_10 ?_
  have kyl : ∀ q : Int × Int × St, (0 ≤ q.1 ∧ q.1 ≤ 32 ∧ (0 ≤ q.2.1 ∧ q.2.1 ≤ q.1) ∧ (∀ t, inR (q.2.2 17 0 t)) ∧ r = tkL a w (32 - q.1).toNat q.1 q.2.1 q.2.2) → J E z 0 0 12 [(0, .ref (E.2.2.2 16 0)), (1, .int (iI a)), (2, .int (iI w)), (3, .int (iI (exL (σ 17 0) w 32 0 0 0))), (4, .int (iI q.2.1)), (5, .int (iI q.1))] [] (cells E q.2.2) := by
    refine j_loop (fun q => (32 - q.1).toNat) _ _ (fun q hq ih => ?_)
    obtain ⟨t, c, τ⟩ := q
    obtain ⟨t0, t1, hc, hR, hx⟩ := hq
    dsimp only at t0 t1 hc hR hx
    dsimp only
    have ro := hR t
    refine j_iload X rfl d_D_take_12 ?_
    refine j_bipush X rfl d_D_take_14 ?_
    refine j_icmp_ge X (by omega) (by omega) d_D_take_16 (tgt := 64) rfl (fun h16 => ?_) (fun h16 => ?_)
    · skip
      refine j_iload_n X rfl d_D_take_64 ?_
      exact j_iret X Y (Nat.le_refl _) (Nat.le_refl _) d_D_take_65 ⟨rfl, by rw [hx]; first | (rw [show (32 - t).toNat = 0 by omega]; rfl) | (rw [show (32 - t).toNat = (32 - (t + 1)).toNat + 1 by omega, tkL_s, if_neg (by omega)])⟩
    · skip
      refine j_iload X rfl d_D_take_19 ?_
      refine j_iload_n X rfl d_D_take_21 ?_
      refine j_icmp_ge X (by omega) (by omega) d_D_take_22 (tgt := 64) rfl (fun h22 => ?_) (fun h22 => ?_)
      · skip
        refine j_iload_n X rfl d_D_take_64 ?_
        exact j_iret X Y (Nat.le_refl _) (Nat.le_refl _) d_D_take_65 ⟨rfl, by rw [hx]; first | (rw [show (32 - t).toNat = 0 by omega]; rfl) | (rw [show (32 - t).toNat = (32 - (t + 1)).toNat + 1 by omega, tkL_s, if_neg (by omega)])⟩
      · skip
        refine j_aload_n X rfl d_D_take_25 ?_
        refine g_D_9 X d_D_take_26 ?_
        refine j_iload X rfl d_D_take_29 ?_
        refine j_iald X (by first | exact okC1 rfl | exact (okCT rfl (by omega))) (fun _ => rfl) rfl (by omega) d_D_take_31 ?_
        refine j_iconst X d_D_take_32 ?_
        refine j_icmp_ne X (by omega) (by omega) d_D_take_33 (tgt := 58) rfl (fun h33 => ?_) (fun h33 => ?_)
        · skip
          refine j_iinc X rfl (zlt hn rfl) d_D_take_58 ?_
          refine j_goto X d_D_take_61 (tgt := 12) rfl ?_
          exact ih (t + 1, c, τ) ⟨by dsimp only; omega, by dsimp only; omega, by dsimp only; omega, hR, by dsimp only; rw [hx, show (32 - t).toNat = (32 - (t + 1)).toNat + 1 by omega, tkL_s, if_pos h22, if_neg h33]⟩ (by dsimp only; omega)
        · skip
          refine j_aload_n X rfl d_D_take_36 ?_
          refine g_D_9 X d_D_take_37 ?_
          refine j_iload X rfl d_D_take_40 ?_
          refine j_iload_n X rfl d_D_take_42 ?_
          refine j_iast X (by first | exact okC1 rfl | exact (okCT rfl (by omega))) (fun _ => rfl) rfl (by omega) d_D_take_43 ?_
          refine j_aload_n X rfl d_D_take_44 ?_
          refine g_D_15 X d_D_take_45 ?_
          refine j_iload X rfl d_D_take_48 ?_
          refine j_aald X (by omega) d_D_take_50 ?_
          refine j_iconst X d_D_take_51 ?_
          refine v_D_26 X (okCT rfl (by omega)) hz (c_T_cutBehind (zl z) E (up τ 17 0 t a) t 0 (by omega)) rfl rfl rfl (Nat.le_of_ble_eq_true rfl) ⟨Nat.le_refl _, Nat.le_refl _⟩ d_D_take_52 ?_
          refine j_iinc X rfl (zlt hn rfl) d_D_take_55 ?_
          refine j_iinc X rfl (zlt hn rfl) d_D_take_58 ?_
          refine j_goto X d_D_take_61 (tgt := 12) rfl ?_
          exact ih (t + 1, c + 1, up (up τ 17 0 t a) 4 t 4 0) ⟨by dsimp only; omega, by dsimp only; omega, by dsimp only; omega, fun t' => by show inR (up τ 17 0 t a 17 0 t'); rw [up_eq]; split; exact ha; exact hR t', by dsimp only; rw [hx, show (32 - t).toNat = (32 - (t + 1)).toNat + 1 by omega, tkL_s, if_pos h22, if_pos h33]⟩ (by dsimp only; omega)
  exact kyl (0, 0, σ) ⟨Int.le_refl 0, show (0 : Int) ≤ 32 by decide, ⟨Int.le_refl 0, Int.le_refl 0⟩, fun t => hr 17 0 t, hr0⟩

