theorem zlt {z : zT} {m i : Nat} (h : zn z = m) (hb : Nat.blt i m = true) : i < zn z := by rw [h]; exact Nat.blt_eq.mp hb
def b2i (b : Bool) : Int := if b = true then 1 else 0
theorem b2i_nar (b : Bool) : narrow .boolean (.int (iI (b2i b))) = .int (iI (b2i b)) := by cases b <;> rfl
theorem b2i_t {P : Prop} (h : P) {i : Decidable P} : b2i (decide P) = 1 := by rw [decide_eq_true h]; rfl
theorem b2i_f {P : Prop} (h : ¬ P) {i : Decidable P} : b2i (decide P) = 0 := by rw [decide_eq_false h]; rfl
theorem b2i_R (b : Bool) : inR (b2i b) := by cases b <;> decide
section JB
variable {E : eT} {z : zT} {cc : ByteArray} {own : String} {k n pc : Nat} {L : List (Nat × Value)} {st : List Value} {w : va_W}
theorem j_ifz (X : Cx E z cc own) {P : Prop} {i : Decidable P} {off : Int} {tgt : Nat} (d : decode cc pc = .ok (.ifCond .eq off, 3)) (ht : (pc : Int) + off = (tgt : Int)) (kt : ¬ P → J E z k n tgt L st w) (kf : P → J E z k n (pc + 3) L st w) : J E z k n pc L (.int (iI (b2i (decide P))) :: st) w :=
  j_if_eq X (b2i_R _) d ht (fun h => kt (fun p => by rw [b2i_t p] at h; cases h)) (fun h => kf (Decidable.byContradiction (fun p => h (b2i_f p))))
theorem j_ifnz (X : Cx E z cc own) {P : Prop} {i : Decidable P} {off : Int} {tgt : Nat} (d : decode cc pc = .ok (.ifCond .ne off, 3)) (ht : (pc : Int) + off = (tgt : Int)) (kt : P → J E z k n tgt L st w) (kf : ¬ P → J E z k n (pc + 3) L st w) : J E z k n pc L (.int (iI (b2i (decide P))) :: st) w :=
  j_if_ne X (b2i_R _) d ht (fun h => kt (Decidable.byContradiction (fun p => h (b2i_f p)))) (fun h => kf (fun p => by rw [b2i_t p] at h; cases h))
end JB
theorem j_loop {α : Type} (μ : α → Nat) (P : α → Prop) (Jx : α → Prop) (h : ∀ a, P a → (∀ b, P b → μ b < μ a → Jx b) → Jx a) (a : α) (ha : P a) : Jx a := by
  have key : ∀ (m : Nat) (a : α), P a → μ a < m → Jx a := by
    intro m
    induction m with
    | zero => intro a _ hm; exact absurd hm (Nat.not_lt_zero _)
    | succ m ih => intro a ha hm; exact h a ha (fun b hb hlt => ih b hb (by omega))
  exact key (μ a + 1) a ha (Nat.lt_succ_self _)
theorem up_s (σ : St) (k : Nat) (t j v : Int) : up σ k t j v k t j = v := by unfold up upF; rw [if_pos ⟨rfl, rfl⟩, if_pos rfl]
theorem up_k (σ : St) {k k' : Nat} (t j v t' j' : Int) (h : k' ≠ k) : up σ k t j v k' t' j' = σ k' t' j' := by unfold up upF; rw [if_neg (fun q => h q.1)]
theorem up_j (σ : St) (k : Nat) (t j v t' j' : Int) (h : j' ≠ j) : up σ k t j v k t' j' = σ k t' j' := by
  unfold up upF
  by_cases ht : t' = t
  · rw [if_pos ⟨rfl, ht⟩, if_neg h, ht]
  · rw [if_neg (fun q => ht q.2)]
theorem up_t (σ : St) (k : Nat) (t j v t' j' : Int) (h : t' ≠ t) : up σ k t j v k t' j' = σ k t' j' := by unfold up upF; rw [if_neg (fun q => h q.2)]
theorem up_eq (σ : St) (k : Nat) (t j v : Int) (k' : Nat) (t' j' : Int) : up σ k t j v k' t' j' = if k' = k ∧ t' = t ∧ j' = j then v else σ k' t' j' := by
  unfold up upF
  by_cases h1 : k' = k ∧ t' = t
  · rw [if_pos h1]
    by_cases h2 : j' = j
    · rw [if_pos h2, if_pos ⟨h1.1, h1.2, h2⟩]
    · rw [if_neg h2, if_neg (fun q => h2 q.2.2), h1.1, h1.2]
  · rw [if_neg h1, if_neg (fun q => h1 ⟨q.1, q.2.1⟩)]
theorem upF_eq (σ : St) (k : Nat) (t : Int) (f : Int → Int) (k' : Nat) (t' j' : Int) : upF σ k t f k' t' j' = if k' = k ∧ t' = t then f j' else σ k' t' j' := by
  unfold upF
  by_cases h1 : k' = k ∧ t' = t
  · rw [if_pos h1, if_pos h1]
  · rw [if_neg h1, if_neg h1]
theorem st_ext {σ τ : St} (h : ∀ k t j, σ k t j = τ k t j) : σ = τ := funext fun k => funext fun t => funext fun j => h k t j
