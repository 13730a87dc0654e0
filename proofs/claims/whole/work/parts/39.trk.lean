/-! how a change of a track keeps the model in step -/
theorem rec_apart {μ : St} {t k κ : Int} (hw : tkW μ t) (hk : 1 ≤ k ∧ k ≤ μ 4 t 4) (hκ : 1 ≤ κ ∧ κ ≤ μ 4 t 4) (hne : ¬ k = κ) : μ 5 t (k + 1) ≤ μ 5 t κ ∨ μ 5 t (κ + 1) ≤ μ 5 t k := by
  have key : ∀ i j : Int, 1 ≤ i → i < j → j ≤ μ 4 t 4 → μ 5 t (i + 1) ≤ μ 5 t j := by
    intro i j h1 h2 h3
    by_cases e : i + 1 = j
    · rw [e]; exact Int.le_refl _
    · have := tk_lt hw (i := i + 1) (j := j) (by omega) (by omega) (by omega)
      omega
  rcases Int.lt_or_gt_of_ne hne with q | q
  · exact Or.inl (key k κ hk.1 q hκ.2)
  · exact Or.inr (key κ k hκ.1 q hk.2)
def byS (μ : St) (o F : Int) (g : Int → Int) (N : Int) : St := upF μ 9 o (fun p => if F ≤ p ∧ p < F + N then g (p - F) else μ 9 o p)
theorem by_9s (μ : St) (o F : Int) (g : Int → Int) (N p : Int) : byS μ o F g N 9 o p = if F ≤ p ∧ p < F + N then g (p - F) else μ 9 o p := by unfold byS; rw [upF_eq, if_pos ⟨rfl, rfl⟩]
theorem by_9n (μ : St) {o t : Int} (F : Int) (g : Int → Int) (N p : Int) (h : ¬ t = o) : byS μ o F g N 9 t p = μ 9 t p := by unfold byS; rw [upF_eq, if_neg (fun q => h q.2)]
/-- two records' places, or one record's -/
theorem rec_pos {μ : St} {t k o κ : Int} (hw : ∀ t, 0 ≤ t → t < 32 → tkW μ t) (ht : 0 ≤ t ∧ t < 32) (ho : 0 ≤ o ∧ o < 32) (hk : 1 ≤ k ∧ k ≤ μ 4 t 4) (hκ : 1 ≤ κ ∧ κ ≤ μ 4 o 4) : (t = o ∧ k = κ) ∨ 600 * t + μ 5 t (k + 1) ≤ 600 * o + μ 5 o κ ∨ 600 * o + μ 5 o (κ + 1) ≤ 600 * t + μ 5 t k := by
  obtain ⟨b1, b2, b3, b4, b5⟩ := tk_at (hw t ht.1 ht.2) hk
  obtain ⟨c1, c2, c3, c4, c5⟩ := tk_at (hw o ho.1 ho.2) hκ
  by_cases e : t = o
  · subst e
    by_cases e2 : k = κ
    · exact Or.inl ⟨rfl, e2⟩
    · right
      rcases rec_apart (hw t ht.1 ht.2) hk hκ e2 with q | q
      · left; omega
      · right; omega
  · right
    omega
theorem rt_by {μ σ : St} {o κ F N : Int} {f g : Int → Int} (hw : ∀ t, 0 ≤ t → t < 32 → tkW μ t) (h : ∀ t, 0 ≤ t → t < 32 → RT μ σ t) (ho : 0 ≤ o ∧ o < 32) (hκ : 1 ≤ κ ∧ κ ≤ μ 4 o 4) (hF : μ 5 o κ + 20 ≤ F) (hN : F + N ≤ μ 5 o (κ + 1)) (hf : ∀ i, 0 ≤ i → i < N → f i % 256 = g i) :
    ∀ t, 0 ≤ t → t < 32 → RT (byS μ o F g N) (fiS σ 20 (600 * o + F) f N) t := by
  intro t h0 h1
  obtain ⟨r1, r2, r3, r4⟩ := h t h0 h1
  refine ⟨r1, r2, r3, fun k k1 k2 => ?_⟩
  have k2' : k ≤ μ 4 t 4 := k2
  obtain ⟨a1, a2, a3, a4⟩ := r4 k k1 k2'
  obtain ⟨b1, b2, b3, b4, b5⟩ := tk_at (hw t h0 h1) ⟨k1, k2'⟩
  have hpos := rec_pos hw ⟨h0, h1⟩ ho ⟨k1, k2'⟩ hκ
  have out : ∀ X, ¬ (600 * o + F ≤ X ∧ X < 600 * o + F + N) → fiS σ 20 (600 * o + F) f N 20 0 X = σ 20 0 X := fun X hX => by rw [fi_k, if_neg hX]
  refine ⟨?_, ?_, ?_, fun i i0 i1 => ?_⟩
  · show fiS σ 20 (600 * o + F) f N 20 0 (600 * t + μ 5 t k + 1) = μ 6 t k
    rw [out _ (by rcases hpos with ⟨rfl, rfl⟩ | q | q <;> omega)]; exact a1
  · show fiS σ 20 (600 * o + F) f N 20 0 (600 * t + μ 5 t k + 2) = dlS μ t k
    rw [out _ (by rcases hpos with ⟨rfl, rfl⟩ | q | q <;> omega)]; exact a2
  · show fiS σ 20 (600 * o + F) f N 20 0 (600 * t + μ 5 t k + 3) = μ 7 t k
    rw [out _ (by rcases hpos with ⟨rfl, rfl⟩ | q | q <;> omega)]; exact a3
  · show fiS σ 20 (600 * o + F) f N 20 0 (600 * t + μ 5 t k + 20 + i) % 256 = byS μ o F g N 9 t (μ 5 t k + 20 + i)
    have i1' : i < μ 6 t k + dlS μ t k := i1
    rw [fi_k]
    by_cases e : t = o
    · subst e
      rw [by_9s]
      by_cases q : F ≤ μ 5 t k + 20 + i ∧ μ 5 t k + 20 + i < F + N
      · rw [if_pos (show 600 * t + F ≤ 600 * t + μ 5 t k + 20 + i ∧ 600 * t + μ 5 t k + 20 + i < 600 * t + F + N by omega), if_pos q, show 600 * t + μ 5 t k + 20 + i - (600 * t + F) = μ 5 t k + 20 + i - F by omega]
        exact hf _ (by omega) (by omega)
      · rw [if_neg (show ¬ (600 * t + F ≤ 600 * t + μ 5 t k + 20 + i ∧ 600 * t + μ 5 t k + 20 + i < 600 * t + F + N) by omega), if_neg q]
        exact a4 i i0 i1'
    · have hc := tk_at (hw o ho.1 ho.2) hκ
      rw [by_9n _ _ _ _ _ e, if_neg (by omega)]
      exact a4 i i0 i1'
theorem rt_sp {μ σ : St} {o κ v : Int} (hw : ∀ t, 0 ≤ t → t < 32 → tkW μ t) (h : ∀ t, 0 ≤ t → t < 32 → RT μ σ t) (ho : 0 ≤ o ∧ o < 32) (hκ : 1 ≤ κ ∧ κ ≤ μ 4 o 4) :
    ∀ t, 0 ≤ t → t < 32 → RT (up μ 7 o κ v) (up σ 20 0 (600 * o + μ 5 o κ + 3) v) t := by
  intro t h0 h1
  obtain ⟨r1, r2, r3, r4⟩ := h t h0 h1
  refine ⟨r1, r2, r3, fun k k1 k2 => ?_⟩
  have k2' : k ≤ μ 4 t 4 := k2
  obtain ⟨a1, a2, a3, a4⟩ := r4 k k1 k2'
  obtain ⟨b1, b2, b3, b4, b5⟩ := tk_at (hw t h0 h1) ⟨k1, k2'⟩
  obtain ⟨c1, c2, c3, c4, c5⟩ := tk_at (hw o ho.1 ho.2) hκ
  have hpos := rec_pos hw ⟨h0, h1⟩ ho ⟨k1, k2'⟩ hκ
  have out : ∀ X, ¬ X = 600 * o + μ 5 o κ + 3 → up σ 20 0 (600 * o + μ 5 o κ + 3) v 20 0 X = σ 20 0 X := fun X hX => up_j _ _ _ _ _ _ _ hX
  refine ⟨?_, ?_, ?_, fun i i0 i1 => ?_⟩
  · show up σ 20 0 (600 * o + μ 5 o κ + 3) v 20 0 (600 * t + μ 5 t k + 1) = μ 6 t k
    rw [out _ (by rcases hpos with ⟨rfl, rfl⟩ | q | q <;> omega)]; exact a1
  · show up σ 20 0 (600 * o + μ 5 o κ + 3) v 20 0 (600 * t + μ 5 t k + 2) = dlS μ t k
    rw [out _ (by rcases hpos with ⟨rfl, rfl⟩ | q | q <;> omega)]; exact a2
  · show up σ 20 0 (600 * o + μ 5 o κ + 3) v 20 0 (600 * t + μ 5 t k + 3) = up μ 7 o κ v 7 t k
    by_cases e : t = o ∧ k = κ
    · obtain ⟨rfl, rfl⟩ := e
      rw [up_s, up_s]
    · rw [out _ (by rcases hpos with q | q | q; exact absurd q e; omega; omega), up_eq, if_neg (fun q => e q.2)]
      exact a3
  · show up σ 20 0 (600 * o + μ 5 o κ + 3) v 20 0 (600 * t + μ 5 t k + 20 + i) % 256 = μ 9 t (μ 5 t k + 20 + i)
    have i1' : i < μ 6 t k + dlS μ t k := i1
    rw [out _ (by rcases hpos with ⟨rfl, rfl⟩ | q | q <;> omega)]
    exact a4 i i0 i1'
theorem rt_cut {μ σ : St} {o r : Int} (hw : ∀ t, 0 ≤ t → t < 32 → tkW μ t) (h : ∀ t, 0 ≤ t → t < 32 → RT μ σ t) (ho : 0 ≤ o ∧ o < 32) (hr : 0 ≤ r ∧ r ≤ μ 4 o 4) :
    ∀ t, 0 ≤ t → t < 32 → RT (up μ 4 o 4 r) (clS σ o (μ 5 o (r + 1)) 600) t := by
  intro t h0 h1
  obtain ⟨r1, r2, r3, r4⟩ := h t h0 h1
  have he := tk_end (hw o ho.1 ho.2) hr
  by_cases e : t = o
  · subst e
    have e4 : up μ 4 t 4 r 4 t 4 = r := up_s ..
    have lt : ∀ k, 1 ≤ k → k ≤ r → μ 5 t k + 20 ≤ μ 5 t (r + 1) := fun k k1 k2 => tk_lt (hw t h0 h1) k1 (by omega) (by omega)
    refine ⟨fun p p0 p1 => ?_, fun k k1 k2 => ?_, fun p p0 p1 hp => ?_, fun k k1 k2 => ?_⟩
    · rw [cl_19]
      split
      · exact Or.inl rfl
      · exact r1 p p0 p1
    · rw [e4] at k2
      show clS σ t (μ 5 t (r + 1)) 600 19 0 (600 * t + μ 5 t k) = 1
      have := lt k k1 k2
      rw [cl_19, if_neg (by omega)]
      exact r2 k k1 (by omega)
    · rw [cl_19] at hp
      by_cases q : 600 * t + μ 5 t (r + 1) ≤ 600 * t + p ∧ 600 * t + p < 600 * t + 600
      · rw [if_pos q] at hp; exact absurd hp (by decide)
      · rw [if_neg q] at hp
        obtain ⟨k, hk, ek⟩ := r3 p p0 p1 hp
        refine ⟨k, ⟨hk.1, ?_⟩, ek⟩
        rw [e4]
        apply Int.not_lt.mp
        intro q2
        by_cases q3 : k = r + 1
        · rw [q3] at ek; omega
        · have := tk_lt (hw t h0 h1) (i := r + 1) (j := k) (by omega) (by omega) (by omega)
          omega
    · rw [e4] at k2
      exact r4 k k1 (by omega)
  · have e4 : up μ 4 o 4 r 4 t 4 = μ 4 t 4 := up_t _ _ _ _ _ _ _ e
    have out : ∀ p, 0 ≤ p → p < 600 → clS σ o (μ 5 o (r + 1)) 600 19 0 (600 * t + p) = σ 19 0 (600 * t + p) := fun p p0 p1 => by rw [cl_19, if_neg (by omega)]
    refine ⟨fun p p0 p1 => ?_, fun k k1 k2 => ?_, fun p p0 p1 hp => ?_, fun k k1 k2 => ?_⟩
    · rw [out p p0 p1]; exact r1 p p0 p1
    · rw [e4] at k2
      have := tk_at (hw t h0 h1) ⟨k1, k2⟩
      show clS σ o (μ 5 o (r + 1)) 600 19 0 (600 * t + μ 5 t k) = 1
      rw [out _ (by omega) (by omega)]
      exact r2 k k1 k2
    · rw [out p p0 p1] at hp
      rw [e4]
      exact r3 p p0 p1 hp
    · rw [e4] at k2
      exact r4 k k1 k2
theorem bm8 {v : Int} (h : 0 ≤ v ∧ v < 128) : (v.bmod 256).bmod 256 = v := by
  have : v.bmod 256 = v := by rw [Int.bmod_def]; split <;> omega
  rw [this, this]
theorem bm_mod {v : Int} (h : 0 ≤ v ∧ v < 256) : (v.bmod 256).bmod 256 % 256 = v := by
  rw [Int.bmod_def, Int.bmod_def]; split <;> split <;> omega
/-- a new record behind the last -/
theorem rt_new {μ σ : St} {o kl dl : Int} {f g : Int → Int} (hw : ∀ t, 0 ≤ t → t < 32 → tkW μ t) (h : ∀ t, 0 ≤ t → t < 32 → RT μ σ t) (ho : 0 ≤ o ∧ o < 32) (hkl : 0 ≤ kl ∧ kl ≤ 8) (hdl : 0 ≤ dl ∧ dl ≤ 60) (hr : μ 5 o (μ 4 o 4 + 1) + 20 + kl + dl ≤ 600) (hf : ∀ i, 0 ≤ i → i < kl + dl → f i % 256 = g i) :
    ∀ t, 0 ≤ t → t < 32 → RT (up (byS (apS μ o kl dl) o (μ 5 o (μ 4 o 4 + 1) + 20) g (kl + dl)) 7 o (μ 4 o 4 + 1) 0) (fiS (laS σ o (μ 5 o (μ 4 o 4 + 1)) kl dl) 20 (600 * o + μ 5 o (μ 4 o 4 + 1) + 20) f (kl + dl)) t := by
  intro t h0 h1
  obtain ⟨r1, r2, r3, r4⟩ := h t h0 h1
  have he := tk_end (hw o ho.1 ho.2) ⟨(hw o ho.1 ho.2).1.1, Int.le_refl _⟩
  have hn := (hw o ho.1 ho.2).1
  obtain ⟨n, en⟩ : ∃ n, n = μ 4 o 4 := ⟨_, rfl⟩
  obtain ⟨P, eP⟩ : ∃ P, P = μ 5 o (μ 4 o 4 + 1) := ⟨_, rfl⟩
  rw [← eP] at hr he ⊢
  rw [← en] at hn he eP ⊢
  have m4 : ∀ t', up (byS (apS μ o kl dl) o (P + 20) g (kl + dl)) 7 o (n + 1) 0 4 t' 4 = if t' = o then n + 1 else μ 4 t' 4 := fun t' => by
    show apS μ o kl dl 4 t' 4 = _
    rw [ap_4, en]
  have m5 : ∀ t' j, up (byS (apS μ o kl dl) o (P + 20) g (kl + dl)) 7 o (n + 1) 0 5 t' j = if t' = o ∧ j = n + 1 + 1 then P + 20 + kl + dl else μ 5 t' j := fun t' j => by
    show apS μ o kl dl 5 t' j = _
    rw [ap_5, ← en, ← eP]
  have m6 : ∀ t' j, up (byS (apS μ o kl dl) o (P + 20) g (kl + dl)) 7 o (n + 1) 0 6 t' j = if t' = o ∧ j = n + 1 then kl else μ 6 t' j := fun t' j => by
    show apS μ o kl dl 6 t' j = _
    rw [ap_6, ← en]
  have m9 : ∀ j, up (byS (apS μ o kl dl) o (P + 20) g (kl + dl)) 7 o (n + 1) 0 9 o j = if P + 20 ≤ j ∧ j < P + 20 + (kl + dl) then g (j - (P + 20)) else μ 9 o j := fun j => by
    show byS (apS μ o kl dl) o (P + 20) g (kl + dl) 9 o j = _
    rw [by_9s]
    rfl
  have s19 : ∀ j, fiS (laS σ o P kl dl) 20 (600 * o + P + 20) f (kl + dl) 19 0 j = if j = 600 * o + P then 1 else σ 19 0 j := fun j => by
    show laS σ o P kl dl 19 0 j = _
    unfold laS
    rw [up_k _ _ _ _ _ _ (by decide), up_k _ _ _ _ _ _ (by decide), up_k _ _ _ _ _ _ (by decide), up_eq]
    by_cases e : j = 600 * o + P
    · rw [if_pos ⟨rfl, rfl, e⟩, if_pos e]; rfl
    · rw [if_neg (fun q => e q.2.2), if_neg e]
  have s20 : ∀ j, fiS (laS σ o P kl dl) 20 (600 * o + P + 20) f (kl + dl) 20 0 j = if 600 * o + P + 20 ≤ j ∧ j < 600 * o + P + 20 + (kl + dl) then f (j - (600 * o + P + 20)) else if j = 600 * o + P + 3 then 0 else if j = 600 * o + P + 2 then dl else if j = 600 * o + P + 1 then kl else σ 20 0 j := fun j => by
    rw [fi_k]
    unfold laS
    rw [up_eq, up_eq, up_eq, up_k _ _ _ _ _ _ (by decide), bm8 (by omega), bm8 (by omega)]
    simp only [true_and]
    rfl
  have m7 : ∀ t' j, up (byS (apS μ o kl dl) o (P + 20) g (kl + dl)) 7 o (n + 1) 0 7 t' j = if t' = o ∧ j = n + 1 then 0 else μ 7 t' j := fun t' j => by
    rw [up_eq]
    by_cases e : t' = o ∧ j = n + 1
    · rw [if_pos ⟨rfl, e⟩, if_pos e]
    · rw [if_neg (fun q => e q.2), if_neg e]
      rfl
  have m9n : ∀ t' j, ¬ t' = o → up (byS (apS μ o kl dl) o (P + 20) g (kl + dl)) 7 o (n + 1) 0 9 t' j = μ 9 t' j := fun t' j e => by
    show byS (apS μ o kl dl) o (P + 20) g (kl + dl) 9 t' j = _
    rw [by_9n _ _ _ _ _ e]
    rfl
  generalize up (byS (apS μ o kl dl) o (P + 20) g (kl + dl)) 7 o (n + 1) 0 = M at m4 m5 m6 m7 m9 m9n ⊢
  generalize fiS (laS σ o P kl dl) 20 (600 * o + P + 20) f (kl + dl) = S at s19 s20 ⊢
  have mdl : ∀ k, dlS M t k = M 5 t (k + 1) - (M 5 t k + 20 + M 6 t k) := fun _ => rfl
  have udl : ∀ k, dlS μ t k = μ 5 t (k + 1) - (μ 5 t k + 20 + μ 6 t k) := fun _ => rfl
  by_cases e : t = o
  · subst e
    rw [← en] at r2 r3 r4
    have o5 : ∀ k, k ≤ n + 1 → M 5 t k = μ 5 t k := fun k q => by rw [m5, if_neg (by omega)]
    have o6 : ∀ k, k ≤ n → M 6 t k = μ 6 t k := fun k q => by rw [m6, if_neg (by omega)]
    have e5 : M 5 t (n + 1) = P := by rw [o5 _ (by omega)]; exact eP.symm
    have hlt : ∀ k, 1 ≤ k → k ≤ n → μ 5 t (k + 1) ≤ P := fun k k1 k2 => by
      by_cases q : k = n
      · rw [q]; omega
      · have := tk_lt (hw t h0 h1) (i := k + 1) (j := n + 1) (by omega) (by omega) (by omega)
        omega
    refine ⟨fun p p0 p1 => ?_, fun k k1 k2 => ?_, fun p p0 p1 hp => ?_, fun k k1 k2 => ?_⟩
    · rw [s19]
      split
      · exact Or.inr rfl
      · exact r1 p p0 p1
    · rw [m4, if_pos rfl] at k2
      by_cases q : k = n + 1
      · rw [q, e5, s19, if_pos rfl]
      · rw [o5 k (by omega), s19]
        split
        · rfl
        · exact r2 k k1 (by omega)
    · rw [s19] at hp
      rw [m4, if_pos rfl]
      by_cases q : p = P
      · exact ⟨n + 1, by omega, by rw [e5, q]⟩
      · rw [if_neg (by omega)] at hp
        obtain ⟨k, hk, ek⟩ := r3 p p0 p1 hp
        exact ⟨k, by omega, by rw [o5 k (by omega)]; exact ek⟩
    · rw [m4, if_pos rfl] at k2
      by_cases q : k = n + 1
      · have e6 : M 6 t (n + 1) = kl := by rw [m6, if_pos ⟨rfl, rfl⟩]
        have e52 : M 5 t (n + 1 + 1) = P + 20 + kl + dl := by rw [m5, if_pos ⟨rfl, rfl⟩]
        have ed : dlS M t (n + 1) = dl := by rw [mdl, e52, e5, e6]; omega
        rw [q, ed, e5, e6]
        refine ⟨?_, ?_, ?_, fun i i0 i1 => ?_⟩
        · rw [s20, if_neg (by omega), if_neg (by omega), if_neg (by omega), if_pos rfl]
        · rw [s20, if_neg (by omega), if_neg (by omega), if_pos rfl]
        · rw [s20, if_neg (by omega), if_pos rfl, m7, if_pos ⟨rfl, rfl⟩]
        · rw [s20, if_pos (by omega), m9, if_pos (by omega), show 600 * t + P + 20 + i - (600 * t + P + 20) = i by omega, show P + 20 + i - (P + 20) = i by omega]
          exact hf i i0 i1
      · have k3 : k ≤ n := by omega
        obtain ⟨a1, a2, a3, a4⟩ := r4 k k1 k3
        obtain ⟨b1, b2, b3, b4, b5⟩ := tk_at (hw t h0 h1) ⟨k1, by omega⟩
        have hl := hlt k k1 k3
        have ed : dlS M t k = dlS μ t k := by rw [mdl, udl, o5 k (by omega), o5 (k + 1) (by omega), o6 k k3]
        rw [ed, o5 k (by omega), o6 k k3]
        have out : ∀ X, X < 600 * t + P → S 20 0 X = σ 20 0 X := fun X hX => by rw [s20, if_neg (by omega), if_neg (by omega), if_neg (by omega), if_neg (by omega)]
        refine ⟨?_, ?_, ?_, fun i i0 i1 => ?_⟩
        · rw [out _ (by omega)]; exact a1
        · rw [out _ (by omega)]; exact a2
        · rw [out _ (by omega), m7, if_neg (by omega)]; exact a3
        · rw [out _ (by omega), m9, if_neg (by omega)]; exact a4 i i0 i1
  · have n5 : ∀ k, M 5 t k = μ 5 t k := fun k => by rw [m5, if_neg (fun q => e q.1)]
    have n6 : ∀ k, M 6 t k = μ 6 t k := fun k => by rw [m6, if_neg (fun q => e q.1)]
    have nd : ∀ k, dlS M t k = dlS μ t k := fun k => by rw [mdl, udl, n5, n5, n6]
    have o19 : ∀ p, 0 ≤ p → p < 600 → S 19 0 (600 * t + p) = σ 19 0 (600 * t + p) := fun p p0 p1 => by rw [s19, if_neg (by omega)]
    have o20 : ∀ p, 0 ≤ p → p < 600 → S 20 0 (600 * t + p) = σ 20 0 (600 * t + p) := fun p p0 p1 => by rw [s20, if_neg (by omega), if_neg (by omega), if_neg (by omega), if_neg (by omega)]
    refine ⟨fun p p0 p1 => ?_, fun k k1 k2 => ?_, fun p p0 p1 hp => ?_, fun k k1 k2 => ?_⟩
    · rw [o19 p p0 p1]; exact r1 p p0 p1
    · rw [m4, if_neg e] at k2
      have := tk_at (hw t h0 h1) ⟨k1, k2⟩
      rw [n5, o19 _ (by omega) (by omega)]
      exact r2 k k1 k2
    · rw [o19 p p0 p1] at hp
      obtain ⟨k, hk, ek⟩ := r3 p p0 p1 hp
      exact ⟨k, by rw [m4, if_neg e]; exact hk, by rw [n5]; exact ek⟩
    · rw [m4, if_neg e] at k2
      obtain ⟨a1, a2, a3, a4⟩ := r4 k k1 k2
      obtain ⟨b1, b2, b3, b4, b5⟩ := tk_at (hw t h0 h1) ⟨k1, k2⟩
      rw [nd, n5, n6]
      refine ⟨?_, ?_, ?_, fun i i0 i1 => ?_⟩
      · have := o20 (μ 5 t k + 1) (by omega) (by omega)
        rw [← Int.add_assoc] at this
        rw [this]; exact a1
      · have := o20 (μ 5 t k + 2) (by omega) (by omega)
        rw [← Int.add_assoc] at this
        rw [this]; exact a2
      · have := o20 (μ 5 t k + 3) (by omega) (by omega)
        rw [← Int.add_assoc] at this
        rw [this, m7, if_neg (fun q => e q.1)]; exact a3
      · have := o20 (μ 5 t k + 20 + i) (by omega) (by omega)
        rw [show 600 * t + (μ 5 t k + 20 + i) = 600 * t + μ 5 t k + 20 + i by omega] at this
        rw [this, m9n _ _ e]; exact a4 i i0 i1
