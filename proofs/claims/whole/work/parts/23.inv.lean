/-! what holds of the class's cells at every command -/
def trW (σ : St) (t : Int) : Prop := tkW σ t ∧ byR (σ 9 t) ∧ ∀ k, σ 7 t k = 0 ∨ σ 7 t k = 1
def heW (σ : St) : Prop := (0 ≤ σ 14 0 2 ∧ σ 14 0 2 < 32) ∧ 0 ≤ σ 14 0 1 ∧ 0 ≤ σ 14 0 3 ∧ σ 14 0 3 ≤ σ 4 (σ 14 0 2) 4
def pgW (σ : St) : Prop := (0 ≤ σ 10 0 3 ∧ σ 10 0 3 ≤ 16) ∧ ∀ i, 0 ≤ i → i < 16 → 0 ≤ σ 11 0 i ∧ σ 11 0 i ≤ 11
def clW (σ : St) : Prop := rg σ ∧ (∀ t, 0 ≤ t → t < 32 → trW σ t) ∧ byR (σ 2 0) ∧ heW σ ∧ pgW σ ∧ 0 ≤ σ 15 0 9 ∧ ∀ t, -1 ≤ σ 17 0 t ∧ σ 17 0 t ≤ 5
theorem rg_up {σ : St} (h : rg σ) {k : Nat} {t j v : Int} (hv : inR v) : rg (up σ k t j v) := by
  intro k' t' j'
  rw [up_eq]
  split
  · exact hv
  · exact h k' t' j'
theorem rg_upF {σ : St} (h : rg σ) {k : Nat} {t : Int} {f : Int → Int} (hf : ∀ j, inR (f j)) : rg (upF σ k t f) := by
  intro k' t' j'
  rw [upF_eq]
  split
  · exact hf j'
  · exact h k' t' j'
theorem by_in {f : Int → Int} (h : byR f) (j : Int) : inR (f j) := by have := h j; omega
theorem tr_of {σ τ : St} {t : Int} (h : trW σ t) (h4 : τ 4 t 4 = σ 4 t 4) (h5 : ∀ j, τ 5 t j = σ 5 t j) (h6 : ∀ j, τ 6 t j = σ 6 t j) (h7 : ∀ j, τ 7 t j = σ 7 t j) (h9 : ∀ j, τ 9 t j = σ 9 t j) : trW τ t :=
  ⟨tk_of h.1 h4 h5 h6, fun j => by rw [h9]; exact h.2.1 j, fun k => by rw [h7]; exact h.2.2 k⟩
theorem cw_t {σ : St} (h : clW σ) {v : Int} (h0 : 0 ≤ v) (hv : inR v) : clW (up σ 14 0 1 v) := ⟨rg_up h.1 hv, h.2.1, h.2.2.1, ⟨h.2.2.2.1.1, h0, h.2.2.2.1.2.2⟩, h.2.2.2.2⟩
theorem cw_r {σ : St} (h : clW σ) {v : Int} (h0 : 0 ≤ v ∧ v ≤ σ 4 (σ 14 0 2) 4) (hv : inR v) : clW (up σ 14 0 3 v) := ⟨rg_up h.1 hv, h.2.1, h.2.2.1, ⟨h.2.2.2.1.1, h.2.2.2.1.2.1, h0⟩, h.2.2.2.2⟩
theorem cw_b {σ : St} (h : clW σ) {v : Int} (hv : inR v) : clW (up σ 14 0 4 v) := ⟨rg_up h.1 hv, h.2.1, h.2.2.1, h.2.2.2.1, h.2.2.2.2⟩
theorem cw_n4 {σ : St} (h : clW σ) {t : Int} (ht : 0 ≤ t ∧ t < 32) : 0 ≤ σ 4 t 4 ∧ σ 4 t 4 ≤ 30 := (h.2.1 t ht.1 ht.2).1.1
theorem cw_ov {σ : St} (h : clW σ) {v : Int} (hv : 0 ≤ v ∧ v < 32) : clW (up (up σ 14 0 2 v) 14 0 3 0) := ⟨rg_up (rg_up h.1 (by omega)) (by decide), h.2.1, h.2.2.1, ⟨hv, h.2.2.2.1.2.1, Int.le_refl 0, (cw_n4 h hv).1⟩, h.2.2.2.2⟩
theorem cw_c {σ : St} (h : clW σ) {j v : Int} (hj : j ≠ 9) (hv : inR v) : clW (up σ 15 0 j v) := ⟨rg_up h.1 hv, h.2.1, h.2.2.1, h.2.2.2.1, h.2.2.2.2.1, by rw [up_j _ _ _ _ _ _ _ (Ne.symm hj)]; exact h.2.2.2.2.2.1, h.2.2.2.2.2.2⟩
theorem cw_c9 {σ : St} (h : clW σ) {v : Int} (h0 : 0 ≤ v) (hv : inR v) : clW (up σ 15 0 9 v) := ⟨rg_up h.1 hv, h.2.1, h.2.2.1, h.2.2.2.1, h.2.2.2.2.1, h0, h.2.2.2.2.2.2⟩
theorem cw_m {σ : St} (h : clW σ) {f : Int → Int} (hf : byR f) : clW (upF σ 2 0 f) := ⟨rg_upF h.1 (by_in hf), h.2.1, hf, h.2.2.2⟩
theorem cw_m1 {σ : St} (h : clW σ) {a v : Int} : clW (up σ 2 0 a (v % 256)) := cw_m h (fun j => by
  show 0 ≤ (if j = a then v % 256 else σ 2 0 j) ∧ (if j = a then v % 256 else σ 2 0 j) < 256
  split
  · omega
  · exact h.2.2.1 j)
theorem cw_p {σ : St} (h : clW σ) {t : Int} {f : Int → Int} (hf : byR f) : clW (upF σ 9 t f) := by
  refine ⟨rg_upF h.1 (by_in hf), fun t' h0 h1 => ?_, h.2.2.1, h.2.2.2⟩
  obtain ⟨a, b, c⟩ := h.2.1 t' h0 h1
  refine ⟨a, ?_, c⟩
  intro j
  rw [upF_eq]
  split
  · exact hf j
  · exact b j
theorem cw_s {σ : St} (h : clW σ) {t k v : Int} (hv : v = 0 ∨ v = 1) : clW (up σ 7 t k v) := by
  refine ⟨rg_up h.1 (by omega), fun t' h0 h1 => ?_, h.2.2.1, h.2.2.2⟩
  obtain ⟨a, b, c⟩ := h.2.1 t' h0 h1
  refine ⟨a, b, fun j => ?_⟩
  rw [up_eq]
  split
  · exact hv
  · exact c j
theorem cw_cut {σ : St} (h : clW σ) {t k : Int} (hk : 0 ≤ k ∧ k ≤ σ 4 t 4) (ht : 0 ≤ t ∧ t < 32) (ho : t = σ 14 0 2 → σ 14 0 3 ≤ k) : clW (up σ 4 t 4 k) := by
  have hn := cw_n4 h ht
  refine ⟨rg_up h.1 (by omega), fun t' h0 h1 => ?_, h.2.2.1, ⟨h.2.2.2.1.1, h.2.2.2.1.2.1, h.2.2.2.1.2.2.1, ?_⟩, h.2.2.2.2⟩
  · obtain ⟨⟨a1, a2, a3⟩, b, c⟩ := h.2.1 t' h0 h1
    refine ⟨?_, b, c⟩
    by_cases e : t' = t
    · subst e
      refine ⟨by rw [up_s]; omega, a2, fun q q1 q2 => a3 q q1 ?_⟩
      rw [up_s] at q2
      omega
    · refine ⟨by rw [up_t _ _ _ _ _ _ _ e]; exact a1, a2, fun q q1 q2 => a3 q q1 ?_⟩
      rw [up_t _ _ _ _ _ _ _ e] at q2
      exact q2
  · show σ 14 0 3 ≤ up σ 4 t 4 k 4 (σ 14 0 2) 4
    by_cases e : σ 14 0 2 = t
    · rw [e, up_s]
      exact ho e.symm
    · rw [up_t _ _ _ _ _ _ _ e]
      exact h.2.2.2.1.2.2.2
theorem ap_4 (σ : St) (t kl dl : Int) (t' : Int) : apS σ t kl dl 4 t' 4 = if t' = t then σ 4 t 4 + 1 else σ 4 t' 4 := by
  unfold apS
  rw [up_k _ _ _ _ _ _ (by decide), up_k _ _ _ _ _ _ (by decide), up_eq]
  by_cases e : t' = t
  · rw [if_pos ⟨rfl, e, rfl⟩, if_pos e]
  · rw [if_neg (fun q => e q.2.1), if_neg e]
theorem ap_5 (σ : St) (t kl dl : Int) (t' j : Int) : apS σ t kl dl 5 t' j = if t' = t ∧ j = σ 4 t 4 + 1 + 1 then σ 5 t (σ 4 t 4 + 1) + 20 + kl + dl else σ 5 t' j := by
  unfold apS
  rw [up_eq]
  by_cases e : t' = t ∧ j = σ 4 t 4 + 1 + 1
  · rw [if_pos ⟨rfl, e⟩, if_pos e]
  · rw [if_neg (fun q => e q.2), if_neg e, up_k _ _ _ _ _ _ (by decide), up_k _ _ _ _ _ _ (by decide)]
theorem ap_6 (σ : St) (t kl dl : Int) (t' j : Int) : apS σ t kl dl 6 t' j = if t' = t ∧ j = σ 4 t 4 + 1 then kl else σ 6 t' j := by
  unfold apS
  rw [up_k _ _ _ _ _ _ (by decide), up_eq]
  by_cases e : t' = t ∧ j = σ 4 t 4 + 1
  · rw [if_pos ⟨rfl, e⟩, if_pos e]
  · rw [if_neg (fun q => e q.2), if_neg e, up_k _ _ _ _ _ _ (by decide)]
theorem cw_ap {σ : St} (h : clW σ) {t kl dl : Int} (ht : 0 ≤ t ∧ t < 32) (hkl : 0 ≤ kl ∧ kl ≤ 8) (hdl : 0 ≤ dl ∧ dl ≤ 60) (hr : σ 5 t (σ 4 t 4 + 1) + 20 + kl + dl ≤ 600) : clW (apS σ t kl dl) := by
  have hn := cw_n4 h ht
  have he := tk_end (h.2.1 t ht.1 ht.2).1 ⟨hn.1, Int.le_refl _⟩
  have r4 := h.1 4 t 4
  refine ⟨rg_up (rg_up (rg_up h.1 (by omega)) (by omega)) (by omega), fun t' h0 h1 => ?_, h.2.2.1, ⟨h.2.2.2.1.1, h.2.2.2.1.2.1, h.2.2.2.1.2.2.1, ?_⟩, h.2.2.2.2⟩
  · obtain ⟨⟨a1, a2, a3⟩, b, c⟩ := h.2.1 t' h0 h1
    refine ⟨?_, b, c⟩
    by_cases e : t' = t
    · subst e
      refine ⟨by rw [ap_4, if_pos rfl]; omega, by rw [ap_5, if_neg (by omega)]; exact a2, fun q q1 q2 => ?_⟩
      rw [ap_4, if_pos rfl] at q2
      rw [ap_5, ap_6, ap_5]
      by_cases eq : q = σ 4 t' 4 + 1
      · rw [if_neg (by omega), if_pos ⟨rfl, eq⟩, if_pos ⟨rfl, by omega⟩, eq]
        omega
      · have := a3 q q1 (by omega)
        rw [if_neg (by omega), if_neg (by omega), if_neg (by omega)]
        exact this
    · refine ⟨by rw [ap_4, if_neg e]; exact a1, by rw [ap_5, if_neg (fun q => e q.1)]; exact a2, fun q q1 q2 => ?_⟩
      rw [ap_4, if_neg e] at q2
      rw [ap_5, ap_6, ap_5, if_neg (fun q => e q.1), if_neg (fun q => e q.1), if_neg (fun q => e q.1)]
      exact a3 q q1 q2
  · show σ 14 0 3 ≤ apS σ t kl dl 4 (σ 14 0 2) 4
    have := h.2.2.2.1.2.2.2
    rw [ap_4]
    split
    · next e => rw [e] at this; omega
    · exact this
theorem cw_gt {σ : St} (h : clW σ) (hT : σ 14 0 1 + 600 ≤ 1000000000) (p : Int) : clW (gtS σ p) := cw_t h (by have := h.2.2.2.1.2.1; omega) (by have := h.2.2.2.1.2.1; omega)
theorem cw_gb {σ : St} (h : clW σ) (hT : σ 14 0 1 + 600 ≤ 1000000000) {p : Int} (hp : inR p) : clW (gbS σ p) := cw_gt (cw_b h hp) hT _
theorem cw_mv {σ : St} (h : clW σ) (hT : σ 14 0 1 + 600 ≤ 1000000000) (hn : ¬ σ 4 (σ 14 0 2) 4 = 0) : clW (mvS σ) := by
  have h4 := cw_n4 h h.2.2.2.1.1
  have hm := mvR_in (σ := σ) (by omega) h.2.2.2.1.2.2.1
  exact cw_gt (cw_r h (by omega) (by omega)) hT _
theorem cw_m0 {σ : St} (h : clW σ) (hT : σ 14 0 1 + 1200 ≤ 1000000000) : clW (mv0 σ) := cw_t h (by have := h.2.2.2.1.2.1; omega) (by have := h.2.2.2.1.2.1; omega)
theorem cw_pn {σ : St} (h : clW σ) (hq : σ 15 0 9 ≤ 1000) (b : Bool) : clW (pnS σ b) := by
  unfold pnS
  split
  · exact cw_c9 h (by have := h.2.2.2.2.2.1; omega) (by have := h.2.2.2.2.2.1; omega)
  · exact h
theorem cw_rW {σ : St} (h : clW σ) (hT : σ 14 0 1 + 3000 ≤ 1000000000) : rW σ := ⟨⟨h.2.2.2.1.1, h.2.2.2.1.2.1, by omega⟩, hT, h.1, (h.2.1 _ h.2.2.2.1.1.1 h.2.2.2.1.1.2).1, h.2.2.2.1.2.2, h.2.2.1, (h.2.1 _ h.2.2.2.1.1.1 h.2.2.2.1.1.2).2.1, (h.2.1 _ h.2.2.2.1.1.1 h.2.2.2.1.1.2).2.2⟩
theorem cw_cb {σ : St} (h : clW σ) (hT : σ 14 0 1 + 3000 ≤ 1000000000) {p : Int} (hp : inR p) : clW (cbS σ p) := by
  unfold cbS
  split
  · exact cw_gb h (by omega) hp
  · split
    · exact cw_m0 h (by omega)
    · next hn =>
      have ht := h.2.2.2.1.2.1
      exact cw_gb (cw_mv h (by omega) hn) (by rw [mv_1]; omega) hp
theorem cw_rd {σ : St} (h : clW σ) {t f a n : Int} (ht : 0 ≤ t ∧ t < 32) : clW (rdS σ t f a n) := cw_m h (fun j => by
  show 0 ≤ (if a ≤ j ∧ j < a + n then σ 9 t (f + (j - a)) else σ 2 0 j) ∧ (if a ≤ j ∧ j < a + n then σ 9 t (f + (j - a)) else σ 2 0 j) < 256
  split
  · exact (h.2.1 t ht.1 ht.2).2.1 _
  · exact h.2.2.1 j)
theorem cw_wr {σ : St} (h : clW σ) {t f a n : Int} (ht : 0 ≤ t ∧ t < 32) : clW (wrS σ t f a n) := cw_p h (fun j => by
  show 0 ≤ (if f ≤ j ∧ j < f + n then σ 2 0 (a + (j - f)) else σ 9 t j) ∧ (if f ≤ j ∧ j < f + n then σ 2 0 (a + (j - f)) else σ 9 t j) < 256
  split
  · exact h.2.2.1 _
  · exact (h.2.1 t ht.1 ht.2).2.1 j)
theorem cw_wk {σ : St} (h : clW σ) {t f key n : Int} (ht : 0 ≤ t ∧ t < 32) : clW (wkS σ t f key n) := cw_p h (fun j => by
  show 0 ≤ (if f ≤ j ∧ j < f + n then kbS key (j - f) else σ 9 t j) ∧ (if f ≤ j ∧ j < f + n then kbS key (j - f) else σ 9 t j) < 256
  split
  · exact kbS_by _ _
  · exact (h.2.1 t ht.1 ht.2).2.1 j)
