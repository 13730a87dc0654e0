/-! cells: kind k, object t; σ k t j is what stands at slot j -/
def flat (k : Nat) (t : Int) : Nat := if k < 4 then k else if k < 10 then 6 * t.toNat + k else 186 + k
def kdI (i : Nat) : Nat := if i < 4 then i else if i < 196 then 4 + (i - 4) % 6 else i - 186
def ixI (i : Nat) : Int := if i < 4 then 0 else if i < 196 then (((i - 4) / 6 : Nat) : Int) else 0
def okC (k : Nat) (t : Int) : Prop := (k < 4 ∧ t = 0) ∨ (4 ≤ k ∧ k < 10 ∧ 0 ≤ t ∧ t < 32) ∨ (10 ≤ k ∧ k < 27 ∧ t = 0)
theorem okC1 {k : Nat} (h : (Nat.blt k 4 || (Nat.ble 10 k && Nat.blt k 27)) = true) : okC k 0 := by
  simp only [Bool.or_eq_true, Bool.and_eq_true, Nat.blt_eq, Nat.ble_eq] at h
  rcases h with h | h
  · exact Or.inl ⟨h, rfl⟩
  · exact Or.inr (Or.inr ⟨h.1, h.2, rfl⟩)
theorem okCT {k : Nat} {t : Int} (h : (Nat.ble 4 k && Nat.blt k 10) = true) (ht : 0 ≤ t ∧ t < 32) : okC k t := by
  simp only [Bool.and_eq_true, Nat.blt_eq, Nat.ble_eq] at h
  exact Or.inr (Or.inl ⟨h.1, h.2, ht.1, ht.2⟩)
theorem flat_lt {k : Nat} {t : Int} (h : okC k t) : flat k t < 213 := by
  unfold flat
  rcases h with ⟨h, rfl⟩ | ⟨h1, h2, h3, h4⟩ | ⟨h1, h2, rfl⟩
  · rw [if_pos h]; omega
  · rw [if_neg (by omega), if_pos h2]; omega
  · rw [if_neg (by omega), if_neg (by omega)]; omega
theorem kd_flat {k : Nat} {t : Int} (h : okC k t) : kdI (flat k t) = k ∧ ixI (flat k t) = t := by
  rcases h with ⟨h, rfl⟩ | ⟨h1, h2, h3, h4⟩ | ⟨h1, h2, rfl⟩
  · have e : flat k 0 = k := by unfold flat; rw [if_pos h]
    rw [e]
    unfold kdI ixI
    simp only [if_pos h]
    exact ⟨trivial, trivial⟩
  · have e : flat k t = 6 * t.toNat + k := by unfold flat; rw [if_neg (show ¬ k < 4 by omega), if_pos h2]
    have g1 : ¬ 6 * t.toNat + k < 4 := by omega
    have g2 : 6 * t.toNat + k < 196 := by omega
    rw [e]
    unfold kdI ixI
    simp only [if_neg g1, if_pos g2]
    constructor <;> omega
  · have e : flat k 0 = 186 + k := by unfold flat; rw [if_neg (show ¬ k < 4 by omega), if_neg (show ¬ k < 10 by omega)]
    have g1 : ¬ 186 + k < 4 := by omega
    have g2 : ¬ 186 + k < 196 := by omega
    rw [e]
    unfold kdI ixI
    simp only [if_neg g1, if_neg g2]
    exact ⟨by omega, trivial⟩
theorem flat_kd {i : Nat} (h : i < 213) : flat (kdI i) (ixI i) = i := by
  unfold flat kdI ixI
  by_cases h1 : i < 4
  · simp only [if_pos h1]
  · by_cases h2 : i < 196
    · simp only [if_neg h1, if_pos h2]
      rw [if_neg (by omega), if_pos (by omega)]
      omega
    · simp only [if_neg h1, if_neg h2]
      rw [if_neg (by omega), if_neg (by omega)]
      omega
def entF (E : eT) (k : Nat) (t : Int) (f : Int → Int) : va_E := match k with
  | 0 => .inr (6, [.ref (E.2.2.2 1 0), .ref (E.2.2.2 3 0), .ref (E.2.2.2 10 0), .ref (E.2.2.2 14 0), .ref (E.2.2.2 15 0), .ref (E.2.2.2 16 0)])
  | 1 => .inr (0, [.ref (E.2.2.2 2 0)])
  | 2 => .inl (E.2.1 0, 64, .inl (fun j : Nat => iI (pk4 f (j : Int))))
  | 3 => .inl (E.2.1 4, 32, .inr (.inr (.inr (.inr (fun j : Nat => some (E.2.2.2 4 (j : Int)))))))
  | 4 => .inr (5, [.ref (E.2.2.2 5 t), .ref (E.2.2.2 6 t), .ref (E.2.2.2 7 t), .ref (E.2.2.2 8 t), .int (iI (f 4))])
  | 5 => .inl (E.2.1 0, 32, .inl (fun j : Nat => iI (f (j : Int))))
  | 6 => .inl (E.2.1 0, 31, .inl (fun j : Nat => iI (f (j : Int))))
  | 7 => .inl (E.2.1 2, 31, .inl (fun j : Nat => iI (f (j : Int))))
  | 8 => .inr (0, [.ref (E.2.2.2 9 t)])
  | 9 => .inl (E.2.1 0, 150, .inl (fun j : Nat => iI (pk4 f (j : Int))))
  | 10 => .inr (4, [.ref (E.2.2.2 11 0), .ref (E.2.2.2 12 0), .ref (E.2.2.2 13 0), .int (iI (f 3))])
  | 11 => .inl (E.2.1 0, 16, .inl (fun j : Nat => iI (f (j : Int))))
  | 12 => .inl (E.2.1 0, 16, .inl (fun j : Nat => iI (f (j : Int))))
  | 13 => .inl (E.2.1 0, 16, .inl (fun j : Nat => iI (f (j : Int))))
  | 14 => .inr (3, [.ref (E.2.2.2 3 0), .long (iL (f 1)), .int (iI (f 2)), .int (iI (f 3)), .int (iI (f 4))])
  | 15 => .inr (1, [.ref (E.2.2.2 10 0), .ref (E.2.2.2 14 0), .ref (E.2.2.2 1 0), .int (iI (f 3)), .int (iI (f 4)), .int (iI (f 5)), .int (iI (f 6)), .long (iL (f 7)), .long (iL (f 8)), .int (iI (f 9)), .int (iI (f 10))])
  | 16 => .inr (2, [.ref (E.2.2.2 3 0), .ref (E.2.2.2 17 0)])
  | 17 => .inl (E.2.1 0, 32, .inl (fun j : Nat => iI (f (j : Int))))
  | 18 => .inr (7, [.int (iI (f 0)), .ref (E.2.2.2 19 0), .ref (E.2.2.2 20 0), .ref (E.2.2.2 21 0), .int (iI (f 4)), .ref (E.2.2.2 22 0), .ref (E.2.2.2 23 0), .ref (E.2.2.2 24 0), .long (iL (f 8)), .int (iI (f 9)), .int (iI (f 10)), .int (iI (f 11)), .int (iI (f 12)), .int (iI (f 13)), .int (iI (f 14)), .int (iI (f 15)), .int (iI (f 16)), .int (iI (f 17)), .int (iI (f 18)), .int (iI (f 19)), .ref (E.2.2.2 25 0)])
  | 19 => .inl (E.2.1 1, 19200, .inl (fun j : Nat => iI (f (j : Int))))
  | 20 => .inl (E.2.1 1, 19200, .inl (fun j : Nat => iI (f (j : Int))))
  | 21 => .inl (E.2.1 0, 256, .inl (fun j : Nat => iI (f (j : Int))))
  | 22 => .inl (E.2.1 0, 16, .inl (fun j : Nat => iI (f (j : Int))))
  | 23 => .inl (E.2.1 0, 16, .inl (fun j : Nat => iI (f (j : Int))))
  | 24 => .inl (E.2.1 0, 16, .inl (fun j : Nat => iI (f (j : Int))))
  | 25 => .inl (E.2.1 0, 32, .inl (fun j : Nat => iI (f (j : Int))))
  | 26 => .inl (E.2.1 3, 1, .inr (.inl (fun j : Nat => iL (f (j : Int)))))
  | _ => .inr (0, [])
def cells (E : eT) (σ : St) : va_W := (List.range 213).map (fun i => (E.2.2.2 (kdI i) (ixI i), entF E (kdI i) (ixI i) (σ (kdI i) (ixI i))))
def upF (σ : St) (k : Nat) (t : Int) (f : Int → Int) : St := fun k' t' => if k' = k ∧ t' = t then f else σ k' t'
def up (σ : St) (k : Nat) (t j v : Int) : St := upF σ k t (fun j' => if j' = j then v else σ k t j')
theorem cl_get {E : eT} {σ : St} {k : Nat} {t : Int} (h : okC k t) : (cells E σ)[flat k t]? = some (E.2.2.2 k t, entF E k t (σ k t)) := by
  unfold cells
  rw [List.getElem?_map, List.getElem?_range (flat_lt h), Option.map_some, (kd_flat h).1, (kd_flat h).2]
theorem cl_set {E : eT} {σ : St} {k : Nat} {t : Int} (h : okC k t) (f : Int → Int) : (cells E σ).set (flat k t) (E.2.2.2 k t, entF E k t f) = cells E (upF σ k t f) := by
  apply List.ext_getElem?
  intro i
  by_cases hi : i < 213
  · by_cases he : flat k t = i
    · subst he
      rw [List.getElem?_set_self (by unfold cells; rw [List.length_map, List.length_range]; exact hi), cl_get h]
      congr 3
      unfold upF
      rw [if_pos ⟨rfl, rfl⟩]
    · rw [List.getElem?_set_ne he]
      unfold cells
      rw [List.getElem?_map, List.getElem?_map, List.getElem?_range hi, Option.map_some, Option.map_some]
      unfold upF
      rw [if_neg]
      rintro ⟨a, b⟩
      apply he
      rw [← a, ← b, flat_kd hi]
  · rw [List.getElem?_eq_none (by unfold cells; rw [List.length_set, List.length_map, List.length_range]; omega), List.getElem?_eq_none (by unfold cells; rw [List.length_map, List.length_range]; omega)]
