section JA
variable {E : eT} {z : zT} {cc : ByteArray} {own : String} {k n pc : Nat} {L : List (Nat × Value)} {st : List Value} {σ : St} {q len : Nat} {t j v : Int}
theorem upd_iI {f : Int → Int} {j v : Int} (h0 : 0 ≤ j) (h1 : j < 2147483648) : upd (fun i : Nat => iI (f (i : Int))) (iI j).toNatClampNeg (iI v) = fun i : Nat => iI ((fun j' => if j' = j then v else f j') (i : Int)) := by
  funext i
  rw [iI_clamp h0 h1]
  unfold upd
  by_cases h : i = j.toNat
  · rw [if_pos h]
    show iI v = iI (if (i : Int) = j then v else f i)
    rw [if_pos (by omega)]
  · rw [if_neg h]
    show iI (f i) = iI (if (i : Int) = j then v else f i)
    rw [if_neg (by omega)]
theorem updL_iL {f : Int → Int} {j v : Int} (h0 : 0 ≤ j) (h1 : j < 2147483648) : vp_updL (fun i : Nat => iL (f (i : Int))) (iI j).toNatClampNeg (iL v) = fun i : Nat => iL ((fun j' => if j' = j then v else f j') (i : Int)) := by
  funext i
  rw [iI_clamp h0 h1]
  unfold vp_updL
  by_cases h : i = j.toNat
  · rw [if_pos h]
    show iL v = iL (if (i : Int) = j then v else f i)
    rw [if_pos (by omega)]
  · rw [if_neg h]
    show iL (f i) = iL (if (i : Int) = j then v else f i)
    rw [if_neg (by omega)]
theorem clj (f : Int → Int32) (hj : 0 ≤ j ∧ j < (len : Int)) (hl : Nat.ble len 100000 = true) : f (((iI j).toNatClampNeg : Nat) : Int) = f j := by
  have := Nat.le_of_ble_eq_true hl
  rw [iI_clamp hj.1 (by omega), Int.toNat_of_nonneg hj.1]
theorem cljL (f : Int → Int64) (hj : 0 ≤ j ∧ j < (len : Int)) (hl : Nat.ble len 100000 = true) : f (((iI j).toNatClampNeg : Nat) : Int) = f j := by
  have := Nat.le_of_ble_eq_true hl
  rw [iI_clamp hj.1 (by omega), Int.toNat_of_nonneg hj.1]
theorem vinj (hj : 0 ≤ j ∧ j < (len : Int)) (hl : Nat.ble len 100000 = true) : vp_in (iI j) len := iI_vin hj.1 hj.2 (by have := Nat.le_of_ble_eq_true hl; omega)
theorem j_iald (X : Cx E z cc own) (ht : okC q t) (he : ∀ f : Int → Int, entF E q t f = .inl (E.2.1 0, len, .inl (fun i : Nat => iI (f (i : Int))))) (hl : Nat.ble len 100000 = true) (hj : 0 ≤ j ∧ j < (len : Int)) (d : decode cc pc = .ok (.iaload, 1))
    (kk : J E z k n (pc + 1) L (.int (iI (σ q t j)) :: st) (cells E σ)) : J E z k n pc L (.int (iI j) :: .ref (E.2.2.2 q t) :: st) (cells E σ) := by
  intro H locs ls hP hD hS hls
  refine va_iald (D := E.1) X.1 X.2.1 X.2.2.2.2.2.1.2.1 hP (flat q t) 0 (by rw [cl_get ht, he]) rfl (vinj hj hl) d ?_
  rw [clj (fun i => iI (σ q t i)) hj hl]
  exact kk H locs ls hP hD hS hls
theorem j_bald (X : Cx E z cc own) (ht : okC q t) (he : ∀ f : Int → Int, entF E q t f = .inl (E.2.1 1, len, .inl (fun i : Nat => iI (f (i : Int))))) (hl : Nat.ble len 100000 = true) (hj : 0 ≤ j ∧ j < (len : Int)) (d : decode cc pc = .ok (.baload, 1))
    (kk : J E z k n (pc + 1) L (.int (iI (σ q t j)) :: st) (cells E σ)) : J E z k n pc L (.int (iI j) :: .ref (E.2.2.2 q t) :: st) (cells E σ) := by
  intro H locs ls hP hD hS hls
  refine va_bald (D := E.1) X.1 X.2.1 X.2.2.2.2.2.1.2.1 hP (flat q t) 1 (by rw [cl_get ht, he]) rfl (vinj hj hl) d ?_
  rw [clj (fun i => iI (σ q t i)) hj hl]
  exact kk H locs ls hP hD hS hls
theorem j_zald (X : Cx E z cc own) (ht : okC q t) (he : ∀ f : Int → Int, entF E q t f = .inl (E.2.1 2, len, .inl (fun i : Nat => iI (f (i : Int))))) (hl : Nat.ble len 100000 = true) (hj : 0 ≤ j ∧ j < (len : Int)) (d : decode cc pc = .ok (.baload, 1))
    (kk : J E z k n (pc + 1) L (.int (iI (σ q t j)) :: st) (cells E σ)) : J E z k n pc L (.int (iI j) :: .ref (E.2.2.2 q t) :: st) (cells E σ) := by
  intro H locs ls hP hD hS hls
  refine va_zald (D := E.1) X.1 X.2.1 X.2.2.2.2.2.1.2.1 hP (flat q t) 2 (by rw [cl_get ht, he]) rfl (vinj hj hl) d ?_
  rw [clj (fun i => iI (σ q t i)) hj hl]
  exact kk H locs ls hP hD hS hls
theorem j_lald (X : Cx E z cc own) (ht : okC q t) (he : ∀ f : Int → Int, entF E q t f = .inl (E.2.1 3, len, .inr (.inl (fun i : Nat => iL (f (i : Int)))))) (hl : Nat.ble len 100000 = true) (hj : 0 ≤ j ∧ j < (len : Int)) (d : decode cc pc = .ok (.laload, 1))
    (kk : J E z k n (pc + 1) L (.long (iL (σ q t j)) :: st) (cells E σ)) : J E z k n pc L (.int (iI j) :: .ref (E.2.2.2 q t) :: st) (cells E σ) := by
  intro H locs ls hP hD hS hls
  refine va_lald (D := E.1) X.1 X.2.1 X.2.2.2.2.2.1.2.1 hP (flat q t) 3 (by rw [cl_get ht, he]) rfl (vinj hj hl) d ?_
  rw [cljL (fun i => iL (σ q t i)) hj hl]
  exact kk H locs ls hP hD hS hls
theorem j_wald (X : Cx E z cc own) (ht : okC q t) (he : ∀ f : Int → Int, entF E q t f = .inl (E.2.1 0, len, .inl (fun i : Nat => iI (pk4 f (i : Int))))) (hl : Nat.ble len 100000 = true) (hj : 0 ≤ j ∧ j < (len : Int)) (d : decode cc pc = .ok (.iaload, 1))
    (kk : J E z k n (pc + 1) L (.int (iI (pk4 (σ q t) j)) :: st) (cells E σ)) : J E z k n pc L (.int (iI j) :: .ref (E.2.2.2 q t) :: st) (cells E σ) := by
  intro H locs ls hP hD hS hls
  refine va_iald (D := E.1) X.1 X.2.1 X.2.2.2.2.2.1.2.1 hP (flat q t) 0 (by rw [cl_get ht, he]) rfl (vinj hj hl) d ?_
  rw [clj (fun i => iI (pk4 (σ q t) i)) hj hl]
  exact kk H locs ls hP hD hS hls
theorem j_aald (X : Cx E z cc own) (hj : 0 ≤ j ∧ j < 32) (d : decode cc pc = .ok (.aaload, 1))
    (kk : J E z k n (pc + 1) L (.ref (E.2.2.2 4 j) :: st) (cells E σ)) : J E z k n pc L (.int (iI j) :: .ref (E.2.2.2 3 0) :: st) (cells E σ) := by
  intro H locs ls hP hD hS hls
  refine va_aldq (D := E.1) X.1 X.2.1 X.2.2.2.2.2.1.2.1 hP (flat 3 0) 4 (cl_get (okC1 rfl)) rfl (iI_vin (n := 32) hj.1 hj.2 (by omega)) d ?_
  rw [iI_clamp hj.1 (by omega), Int.toNat_of_nonneg hj.1]
  exact kk H locs ls hP hD hS hls
theorem j_iast (X : Cx E z cc own) (ht : okC q t) (he : ∀ f : Int → Int, entF E q t f = .inl (E.2.1 0, len, .inl (fun i : Nat => iI (f (i : Int))))) (hl : Nat.ble len 100000 = true) (hj : 0 ≤ j ∧ j < (len : Int)) (d : decode cc pc = .ok (.iastore, 1))
    (kk : J E z k n (pc + 1) L st (cells E (up σ q t j v))) : J E z k n pc L (.int (iI v) :: .int (iI j) :: .ref (E.2.2.2 q t) :: st) (cells E σ) := by
  intro H locs ls hP hD hS hls
  have hl' := Nat.le_of_ble_eq_true hl
  have ew : (cells E σ).set (flat q t) (E.2.2.2 q t, .inl (E.2.1 0, len, .inl (upd (fun i : Nat => iI (σ q t (i : Int))) (iI j).toNatClampNeg (iI v)))) = cells E (up σ q t j v) := by
    rw [upd_iI hj.1 (by omega), ← he (fun j' => if j' = j then v else σ q t j')]
    exact cl_set ht _
  refine va_iast (D := E.1) X.1 X.2.1 X.2.2.2.2.2.1.2.1 hP hD hS (flat q t) 0 (by rw [cl_get ht, he]) rfl (vinj hj hl) d (fun H1 locs1 hP1 hD1 hS1 => ?_)
  rw [ew] at hP1 hD1
  exact kk H1 locs1 ls hP1 hD1 hS1 hls
theorem j_bast (X : Cx E z cc own) (ht : okC q t) (he : ∀ f : Int → Int, entF E q t f = .inl (E.2.1 1, len, .inl (fun i : Nat => iI (f (i : Int))))) (hl : Nat.ble len 100000 = true) (hj : 0 ≤ j ∧ j < (len : Int)) (d : decode cc pc = .ok (.bastore, 1))
    (kk : J E z k n (pc + 1) L st (cells E (up σ q t j (v.bmod 256)))) : J E z k n pc L (.int (iI v) :: .int (iI j) :: .ref (E.2.2.2 q t) :: st) (cells E σ) := by
  intro H locs ls hP hD hS hls
  have hl' := Nat.le_of_ble_eq_true hl
  have ew : (cells E σ).set (flat q t) (E.2.2.2 q t, .inl (E.2.1 1, len, .inl (upd (fun i : Nat => iI (σ q t (i : Int))) (iI j).toNatClampNeg (vp_nar .byte (iI v))))) = cells E (up σ q t j (v.bmod 256)) := by
    rw [vp_nar_byte, iI_b, upd_iI hj.1 (by omega), ← he (fun j' => if j' = j then v.bmod 256 else σ q t j')]
    exact cl_set ht _
  refine va_bast (D := E.1) X.1 X.2.1 X.2.2.2.2.2.1.2.1 hP hD hS (flat q t) 1 (by rw [cl_get ht, he]) rfl (vinj hj hl) d (fun H1 locs1 hP1 hD1 hS1 => ?_)
  rw [ew] at hP1 hD1
  exact kk H1 locs1 ls hP1 hD1 hS1 hls
theorem j_zast (X : Cx E z cc own) (ht : okC q t) (he : ∀ f : Int → Int, entF E q t f = .inl (E.2.1 2, len, .inl (fun i : Nat => iI (f (i : Int))))) (hl : Nat.ble len 100000 = true) (hj : 0 ≤ j ∧ j < (len : Int)) (hv : vp_nar .boolean (iI v) = iI v) (d : decode cc pc = .ok (.bastore, 1))
    (kk : J E z k n (pc + 1) L st (cells E (up σ q t j v))) : J E z k n pc L (.int (iI v) :: .int (iI j) :: .ref (E.2.2.2 q t) :: st) (cells E σ) := by
  intro H locs ls hP hD hS hls
  have hl' := Nat.le_of_ble_eq_true hl
  have ew : (cells E σ).set (flat q t) (E.2.2.2 q t, .inl (E.2.1 2, len, .inl (upd (fun i : Nat => iI (σ q t (i : Int))) (iI j).toNatClampNeg (vp_nar .boolean (iI v))))) = cells E (up σ q t j v) := by
    rw [hv, upd_iI hj.1 (by omega), ← he (fun j' => if j' = j then v else σ q t j')]
    exact cl_set ht _
  refine va_zast (D := E.1) X.1 X.2.1 X.2.2.2.2.2.1.2.1 hP hD hS (flat q t) 2 (by rw [cl_get ht, he]) rfl (vinj hj hl) d (fun H1 locs1 hP1 hD1 hS1 => ?_)
  rw [ew] at hP1 hD1
  exact kk H1 locs1 ls hP1 hD1 hS1 hls
theorem j_last (X : Cx E z cc own) (ht : okC q t) (he : ∀ f : Int → Int, entF E q t f = .inl (E.2.1 3, len, .inr (.inl (fun i : Nat => iL (f (i : Int)))))) (hl : Nat.ble len 100000 = true) (hj : 0 ≤ j ∧ j < (len : Int)) (d : decode cc pc = .ok (.lastore, 1))
    (kk : J E z k n (pc + 1) L st (cells E (up σ q t j v))) : J E z k n pc L (.long (iL v) :: .int (iI j) :: .ref (E.2.2.2 q t) :: st) (cells E σ) := by
  intro H locs ls hP hD hS hls
  have hl' := Nat.le_of_ble_eq_true hl
  have ew : (cells E σ).set (flat q t) (E.2.2.2 q t, .inl (E.2.1 3, len, .inr (.inl (vp_updL (fun i : Nat => iL (σ q t (i : Int))) (iI j).toNatClampNeg (iL v))))) = cells E (up σ q t j v) := by
    rw [updL_iL hj.1 (by omega), ← he (fun j' => if j' = j then v else σ q t j')]
    exact cl_set ht _
  refine va_last (D := E.1) X.1 X.2.1 X.2.2.2.2.2.1.2.1 hP hD hS (flat q t) 3 (by rw [cl_get ht, he]) rfl (vinj hj hl) d (fun H1 locs1 hP1 hD1 hS1 => ?_)
  rw [ew] at hP1 hD1
  exact kk H1 locs1 ls hP1 hD1 hS1 hls
/-- a word of four bytes: byte j of the row becomes v -/
theorem j_wast (X : Cx E z cc own) {x : Int32} (ht : okC q t) (he : ∀ f : Int → Int, entF E q t f = .inl (E.2.1 0, len, .inl (fun i : Nat => iI (pk4 f (i : Int))))) (hl : Nat.ble len 100000 = true) (hj : 0 ≤ j / 4 ∧ j / 4 < (len : Int)) (hx : x = iI (pk4 (fun p => if p = j then v else σ q t p) (j / 4))) (d : decode cc pc = .ok (.iastore, 1))
    (kk : J E z k n (pc + 1) L st (cells E (up σ q t j v))) : J E z k n pc L (.int x :: .int (iI (j / 4)) :: .ref (E.2.2.2 q t) :: st) (cells E σ) := by
  intro H locs ls hP hD hS hls
  have hl' := Nat.le_of_ble_eq_true hl
  have ew : (cells E σ).set (flat q t) (E.2.2.2 q t, .inl (E.2.1 0, len, .inl (upd (fun i : Nat => iI (pk4 (σ q t) (i : Int))) (iI (j / 4)).toNatClampNeg x))) = cells E (up σ q t j v) := by
    rw [show upd (fun i : Nat => iI (pk4 (σ q t) (i : Int))) (iI (j / 4)).toNatClampNeg x = fun i : Nat => iI (pk4 (fun p => if p = j then v else σ q t p) (i : Int)) from ?_, ← he (fun p => if p = j then v else σ q t p)]
    · exact cl_set ht _
    · funext i
      rw [iI_clamp hj.1 (by omega), hx]
      unfold upd
      by_cases h : i = (j / 4).toNat
      · rw [if_pos h, show ((i : Nat) : Int) = j / 4 by omega]
      · rw [if_neg h]
        unfold pk4
        dsimp only
        rw [if_neg (show ¬ (4 * (i : Int) = j) by omega), if_neg (show ¬ (4 * (i : Int) + 1 = j) by omega), if_neg (show ¬ (4 * (i : Int) + 2 = j) by omega), if_neg (show ¬ (4 * (i : Int) + 3 = j) by omega)]
  refine va_iast (D := E.1) X.1 X.2.1 X.2.2.2.2.2.1.2.1 hP hD hS (flat q t) 0 (by rw [cl_get ht, he]) rfl (vinj hj hl) d (fun H1 locs1 hP1 hD1 hS1 => ?_)
  rw [ew] at hP1 hD1
  exact kk H1 locs1 ls hP1 hD1 hS1 hls
end JA
