/-! from call to call: the state of rest -/
theorem wI_in (v : Int) : inR (iI v).toInt := by
  have h1 := Int32.le_toInt (iI v)
  have h2 := Int32.toInt_lt (iI v)
  omega
theorem wI_iI (v : Int) : iI (iI v).toInt = iI v := Int32.ofInt_toInt _
theorem wI_eq {v u : Int} (h : v = u) (hu : inR u) : (iI v).toInt = u := by rw [h]; exact iI_t hu
theorem wI_mod (v : Int) : (iI v).toInt % 256 = v % 256 := by
  have h := iI_and255 (iI v).toInt
  rw [wI_iI, iI_and255] at h
  exact ((iI_eq (by omega) (by omega)).mp h).symm
/-- the model's numbers as ints -/
noncomputable def nmS (σ : St) : St := fun k t j => if 18 ≤ k ∧ k < 26 ∧ ¬ (k = 18 ∧ t = 0 ∧ j = 8) then (iI (σ k t j)).toInt else σ k t j
theorem nm_o (σ : St) {k : Nat} (h : ¬ (18 ≤ k ∧ k < 26)) : nmS σ k = σ k := by
  funext t j
  exact if_neg (fun q => h ⟨q.1, q.2.1⟩)
theorem nm_a (σ : St) {k : Nat} (h : 19 ≤ k ∧ k < 26) (t j : Int) : nmS σ k t j = (iI (σ k t j)).toInt := if_pos ⟨by omega, h.2, fun q => by have := q.1; omega⟩
theorem nm_f (σ : St) {j : Int} (h : ¬ j = 8) : nmS σ 18 0 j = (iI (σ 18 0 j)).toInt := if_pos ⟨by omega, by omega, fun q => h q.2.2⟩
theorem nm_8 (σ : St) : nmS σ 18 0 8 = σ 18 0 8 := if_neg (fun q => q.2.2 ⟨rfl, rfl, rfl⟩)
theorem nm_i (σ : St) {k : Nat} (h : 19 ≤ k ∧ k < 26) (t j : Int) : iI (nmS σ k t j) = iI (σ k t j) := by rw [nm_a σ h, wI_iI]
theorem nm_ent (E : eT) (σ : St) (k : Nat) (t : Int) (ht : 18 ≤ k → k < 26 → t = 0) : entF E k t (nmS σ k t) = entF E k t (σ k t) := by
  by_cases h : 18 ≤ k ∧ k < 26
  · have ht := ht h.1 h.2
    subst ht
    rcases (show k = 18 ∨ k = 19 ∨ k = 20 ∨ k = 21 ∨ k = 22 ∨ k = 23 ∨ k = 24 ∨ k = 25 by omega) with rfl | rfl | rfl | rfl | rfl | rfl | rfl | rfl
    · have e : ∀ j : Int, ¬ j = 8 → iI (nmS σ 18 0 j) = iI (σ 18 0 j) := fun j hj => by rw [nm_f σ hj, wI_iI]
      unfold entF
      simp only [nm_8, e 0 (by decide), e 4 (by decide), e 9 (by decide), e 10 (by decide), e 11 (by decide), e 12 (by decide), e 13 (by decide), e 14 (by decide), e 15 (by decide), e 16 (by decide), e 17 (by decide), e 18 (by decide), e 19 (by decide)]
    · unfold entF
      simp only [nm_i σ (show 19 ≤ 19 ∧ 19 < 26 by decide)]
    · unfold entF
      simp only [nm_i σ (show 19 ≤ 20 ∧ 20 < 26 by decide)]
    · unfold entF
      simp only [nm_i σ (show 19 ≤ 21 ∧ 21 < 26 by decide)]
    · unfold entF
      simp only [nm_i σ (show 19 ≤ 22 ∧ 22 < 26 by decide)]
    · unfold entF
      simp only [nm_i σ (show 19 ≤ 23 ∧ 23 < 26 by decide)]
    · unfold entF
      simp only [nm_i σ (show 19 ≤ 24 ∧ 24 < 26 by decide)]
    · unfold entF
      simp only [nm_i σ (show 19 ≤ 25 ∧ 25 < 26 by decide)]
  · rw [nm_o σ h]
theorem nm_cells (E : eT) (σ : St) : cells E (nmS σ) = cells E σ := by
  unfold cells
  apply List.map_congr_left
  intro i hi
  have hi : i < 213 := List.mem_range.mp hi
  have ht : 18 ≤ kdI i → kdI i < 26 → ixI i = 0 := by
    unfold kdI ixI
    by_cases h1 : i < 4
    · simp only [if_pos h1]; intros; trivial
    · by_cases h2 : i < 196
      · simp only [if_neg h1, if_pos h2]
        intro h3
        have := Nat.mod_lt (i - 4) (show 0 < 6 by decide)
        omega
      · simp only [if_neg h1, if_neg h2]; intros; trivial
  rw [nm_ent E σ _ _ ht]
theorem cw_of {σ τ : St} (h : clW σ) (hk : ∀ k, k < 18 → τ k = σ k) (hr : rg τ) : clW τ := by
  refine ⟨hr, ?_⟩
  have h' := h.2
  unfold trW tkW heW pgW at *
  rw [hk 2 (by decide), hk 4 (by decide), hk 5 (by decide), hk 6 (by decide), hk 7 (by decide), hk 9 (by decide), hk 10 (by decide), hk 11 (by decide), hk 14 (by decide), hk 15 (by decide), hk 17 (by decide)]
  exact h'
theorem iv_of {σ τ : St} {T Q : Int} (h : IV σ T Q) (hk : ∀ k, k < 18 → τ k = σ k) (hr : rg τ) : IV τ T Q := by
  refine ⟨cw_of h.1 hk hr, ?_⟩
  rw [hk 14 (by decide), hk 15 (by decide)]
  exact h.2
theorem rw_mu {μ μ' σ : St} (h : RW μ σ) (hk : ∀ k, k < 18 → μ' k = μ k) : RW μ' σ := by
  unfold RW RG RT dlS at *
  rw [hk 2 (by decide), hk 4 (by decide), hk 5 (by decide), hk 6 (by decide), hk 7 (by decide), hk 9 (by decide), hk 10 (by decide), hk 11 (by decide), hk 12 (by decide), hk 13 (by decide), hk 14 (by decide), hk 15 (by decide), hk 17 (by decide)]
  exact h
theorem rw_si {μ σ σ' : St} (h : RW μ σ) (hk : ∀ k, 18 ≤ k → k < 26 → σ' k = σ k) : RW μ σ' := by
  unfold RW RG RT at *
  rw [hk 18 (by decide) (by decide), hk 19 (by decide) (by decide), hk 20 (by decide) (by decide), hk 21 (by decide) (by decide), hk 22 (by decide) (by decide), hk 23 (by decide) (by decide), hk 24 (by decide) (by decide), hk 25 (by decide) (by decide)]
  exact h
theorem rw_nm {μ σ : St} (h : RW μ σ) (hr : rg μ) (hc : clW μ) (hs : 0 ≤ μ 15 0 7) : RW μ (nmS σ) := by
  obtain ⟨⟨h1, ⟨h2, h3⟩, ⟨a1, a2, a3, a4, a5, a6⟩, h4, h5⟩, h6, h7⟩ := h
  have e15 := hr 15 0 7
  have e14 := hr 14 0 1
  have t14 := hc.2.2.2.1.2.1
  refine ⟨⟨fun i q0 q1 => ?_, ⟨?_, fun i q0 q1 => ⟨?_, ?_, ?_⟩⟩, ⟨?_, ?_, ?_, ?_, ?_, ?_⟩, fun t q0 q1 => ?_, fun t q0 q1 => ?_⟩, ?_, h7⟩
  · rw [nm_a σ (by decide)]; exact wI_eq (h1 i q0 q1) (hr _ _ _)
  · rw [nm_f σ (by decide)]; exact wI_eq h2 (hr _ _ _)
  · rw [nm_a σ (by decide)]; exact wI_eq (h3 i q0 q1).1 (hr _ _ _)
  · rw [nm_a σ (by decide)]; exact wI_eq (h3 i q0 q1).2.1 (hr _ _ _)
  · rw [nm_a σ (by decide)]; exact wI_eq (h3 i q0 q1).2.2 (hr _ _ _)
  · rw [nm_8]; exact a1
  · rw [nm_f σ (by decide)]; exact wI_eq a2 (hr _ _ _)
  · rw [nm_f σ (by decide)]; exact wI_eq a3 (hr _ _ _)
  · rw [nm_f σ (by decide)]; exact wI_eq a4 (hr _ _ _)
  · rw [nm_f σ (by decide)]; exact wI_eq a5 (hr _ _ _)
  · rw [nm_f σ (by decide)]; exact wI_eq a6 (by omega)
  · rw [nm_a σ (by decide)]
    exact wI_eq (h4 t q0 q1) (by have := hc.2.2.2.2.2.2 t; omega)
  · obtain ⟨r1, r2, r3, r4⟩ := h5 t q0 q1
    have e19 : ∀ p, 0 ≤ p → p < 600 → nmS σ 19 0 (600 * t + p) = σ 19 0 (600 * t + p) := by
      intro p p0 p1
      rw [nm_a σ (by decide)]
      exact iI_t (by have := r1 p p0 p1; omega)
    have hw := (hc.2.1 t q0 q1)
    refine ⟨fun p p0 p1 => by rw [e19 p p0 p1]; exact r1 p p0 p1, fun k k0 k1 => ?_, fun p p0 p1 => by rw [e19 p p0 p1]; exact r3 p p0 p1, fun k k0 k1 => ?_⟩
    · have := tk_at hw.1 ⟨k0, k1⟩
      rw [e19 _ (by omega) (by omega)]
      exact r2 k k0 k1
    · obtain ⟨s1, s2, s3, s4⟩ := r4 k k0 k1
      have d3 := tk_at hw.1 ⟨k0, k1⟩
      have d7 := hw.2.2 k
      refine ⟨?_, ?_, ?_, fun i i0 i1 => ?_⟩
      · rw [nm_a σ (by decide)]; exact wI_eq s1 (by omega)
      · rw [nm_a σ (by decide)]; exact wI_eq s2 (by omega)
      · rw [nm_a σ (by decide)]; exact wI_eq s3 (by omega)
      · rw [nm_a σ (by decide), wI_mod]; exact s4 i i0 i1
  · rw [nm_f σ (by decide)]; exact wI_eq h6 (hr _ _ _)
/-- at rest between two calls -/
def LI (w : St) (T Q : Int) : Prop := IV w T Q ∧ RW w w ∧ 0 ≤ w 15 0 7
def NX (E : eT) (T Q : Int) (σ' : St) : Prop := ∃ w', cells E w' = cells E σ' ∧ LI w' T Q
theorem li_fin (E : eT) {w1 σ' : St} {T Q : Int} (hI : IV w1 T Q) (hR : RW w1 σ') (hK : KC w1 σ') (hs : 0 ≤ w1 15 0 7) : NX E T Q σ' := by
  have hr := hI.1.1
  have ek : ∀ k, k < 18 → nmS σ' k = w1 k := fun k hk => by rw [nm_o σ' (by omega)]; exact hK k (Or.inl hk)
  have hn := rw_nm hR hr hI.1 hs
  refine ⟨nmS σ', nm_cells E σ', iv_of hI ek ?_, rw_mu hn ek, by rw [ek 15 (by decide)]; exact hs⟩
  intro k t j
  by_cases h : 18 ≤ k ∧ k < 26 ∧ ¬ (k = 18 ∧ t = 0 ∧ j = 8)
  · have e : nmS σ' k t j = (iI (σ' k t j)).toInt := if_pos h
    rw [e]
    exact wI_in _
  · have e : nmS σ' k t j = σ' k t j := if_neg h
    rw [e]
    by_cases h' : k = 18 ∧ t = 0 ∧ j = 8
    · rw [h'.1, h'.2.1, h'.2.2, hR.1.2.2.1.1]
      exact hr _ _ _
    · rw [hK k (by omega)]
      exact hr _ _ _
/-- an operation with a number: what the unit answers, the model answers -/
def OpI (l : Launch) (E : eT) (yU : MethodName) (wsU : List Cond) (yM : MethodName) (wsM : List Cond) (two : Prop) (As : List Value) (w : St) (T Q : Int) : Prop :=
  (∃ (d d' : Nat) (v : Int) (w1 σ' : St), Nat.blt d 9 = true ∧ Nat.blt d' 9 = true ∧ FCon l E yU wsU d (.ref (E.2.2.2 0 0) :: As) w (some (.int (iI v))) w1 ∧ inR v ∧ FCon l E yM wsM d' (.ref (E.2.2.2 18 0) :: As) (up w1 26 0 0 v) (some (.int (iI v))) σ' ∧ σ' 18 0 0 = 0 ∧ σ' 26 0 0 = v ∧ NX E T Q σ') ∨
  ∃ (d' : Nat) (c b : Int) (nm : String) (σ' : St), Nat.blt d' 9 = true ∧ ((c = 1 ∧ nm = iaX) ∨ (two ∧ c = 2 ∧ nm = isX)) ∧ TCon l E yU wsU 8 1 6 (.ref (E.2.2.2 0 0) :: As) (cells E w) nm (cells E w) ∧ FCon l E yM wsM d' (.ref (E.2.2.2 18 0) :: As) w (some (.int (iI b))) σ' ∧ σ' 18 0 0 = c ∧ NX E T Q σ'
/-- an operation without -/
def OpV (l : Launch) (E : eT) (yU : MethodName) (wsU : List Cond) (yM : MethodName) (wsM : List Cond) (two : Prop) (As : List Value) (w : St) (T Q : Int) : Prop :=
  (∃ (d d' : Nat) (w1 σ' : St), Nat.blt d 9 = true ∧ Nat.blt d' 9 = true ∧ FCon l E yU wsU d (.ref (E.2.2.2 0 0) :: As) w none w1 ∧ FCon l E yM wsM d' (.ref (E.2.2.2 18 0) :: As) w1 none σ' ∧ σ' 18 0 0 = 0 ∧ NX E T Q σ') ∨
  ∃ (d' : Nat) (c : Int) (nm : String) (σ' : St), Nat.blt d' 9 = true ∧ ((c = 1 ∧ nm = iaX) ∨ (two ∧ c = 2 ∧ nm = isX)) ∧ TCon l E yU wsU 8 1 6 (.ref (E.2.2.2 0 0) :: As) (cells E w) nm (cells E w) ∧ FCon l E yM wsM d' (.ref (E.2.2.2 18 0) :: As) w none σ' ∧ σ' 18 0 0 = c ∧ NX E T Q σ'
section OPS
variable {l : Launch} {E : eT} {yU yM : MethodName} {wsU wsM : List Cond} {two : Prop} {As : List Value} {w w1 σ' : St} {T Q : Int} {d d' : Nat} {v : Int}
theorem iv_26 (h : IV w T Q) (hv : inR v) : IV (up w 26 0 0 v) T Q := iv_of h (fun k hk => funext fun t => funext fun j => up_k _ _ _ _ _ _ (by omega)) (rg_up h.1.1 hv)
theorem pi_s (hF : FCon l E yU wsU d (.ref (E.2.2.2 0 0) :: As) w (some (.int (iI v))) w1) (hM : FCon l E yM wsM d' (.ref (E.2.2.2 18 0) :: As) (up w1 26 0 0 v) (some (.int (iI v))) σ') (hd : Nat.blt d 9 = true) (hd' : Nat.blt d' 9 = true) (hv : inR v) (h0 : σ' 18 0 0 = 0) (hI : IV w1 T Q) (hR : RW w1 σ') (hK : KC (up w1 26 0 0 v) σ') (hs : 0 ≤ w1 15 0 7) : OpI l E yU wsU yM wsM two As w T Q :=
  Or.inl ⟨d, d', v, w1, σ', hd, hd', hF, hv, hM, h0, by rw [hK 26 (Or.inr (by decide))]; rfl, li_fin E (w1 := up w1 26 0 0 v) (iv_26 hI hv) (rw_mu hR (fun k hk => funext fun t => funext fun j => up_k _ _ _ _ _ _ (by omega))) hK hs⟩
theorem pi_x {c b : Int} {nm : String} (hL : LI w T Q) (hF : TCon l E yU wsU 8 1 6 (.ref (E.2.2.2 0 0) :: As) (cells E w) nm (cells E w)) (hM : FCon l E yM wsM d' (.ref (E.2.2.2 18 0) :: As) w (some (.int (iI b))) (up w 18 0 0 c)) (hd' : Nat.blt d' 9 = true) (hc : (c = 1 ∧ nm = iaX) ∨ (two ∧ c = 2 ∧ nm = isX)) : OpI l E yU wsU yM wsM two As w T Q :=
  Or.inr ⟨d', c, b, nm, up w 18 0 0 c, hd', hc, hF, hM, rfl, li_fin E hL.1 hL.2.1 (kc_18 _ _ _) hL.2.2⟩
theorem pv_s (hF : FCon l E yU wsU d (.ref (E.2.2.2 0 0) :: As) w none w1) (hM : FCon l E yM wsM d' (.ref (E.2.2.2 18 0) :: As) w1 none σ') (hd : Nat.blt d 9 = true) (hd' : Nat.blt d' 9 = true) (h0 : σ' 18 0 0 = 0) (hI : IV w1 T Q) (hR : RW w1 σ') (hK : KC w1 σ') (hs : 0 ≤ w1 15 0 7) : OpV l E yU wsU yM wsM two As w T Q :=
  Or.inl ⟨d, d', w1, σ', hd, hd', hF, hM, h0, li_fin E hI hR hK hs⟩
theorem pv_x {c : Int} {nm : String} (hL : LI w T Q) (hF : TCon l E yU wsU 8 1 6 (.ref (E.2.2.2 0 0) :: As) (cells E w) nm (cells E w)) (hM : FCon l E yM wsM d' (.ref (E.2.2.2 18 0) :: As) w none (up w 18 0 0 c)) (hd' : Nat.blt d' 9 = true) (hc : (c = 1 ∧ nm = iaX) ∨ (two ∧ c = 2 ∧ nm = isX)) : OpV l E yU wsU yM wsM two As w T Q :=
  Or.inr ⟨d', c, nm, up w 18 0 0 c, hd', hc, hF, hM, rfl, li_fin E hL.1 hL.2.1 (kc_18 _ _ _) hL.2.2⟩
end OPS
