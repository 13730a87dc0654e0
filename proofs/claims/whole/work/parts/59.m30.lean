/-! the start: the world that stands behind the constructors -/
def s0S : St := fun k _ j => if k = 17 then (if 0 ≤ j ∧ j < 32 then -1 else 0) else 0
def adr (A : Nat → Nat → Nat) (a q1 r1 q2 p0 p1 p2 p3 h0 c0 s0 s1 m0 m1 m2 m3 m4 m5 m6 m7 o0 : Nat) : Nat → Int → Nat := fun k t => match k with
  | 0 => a | 1 => q1 | 2 => r1 | 3 => q2 | 4 => A t.toNat 0 | 5 => A t.toNat 1 | 6 => A t.toNat 2 | 7 => A t.toNat 3 | 8 => A t.toNat 4 | 9 => A t.toNat 5
  | 10 => p0 | 11 => p1 | 12 => p2 | 13 => p3 | 14 => h0 | 15 => c0 | 16 => s0 | 17 => s1 | 18 => m0 | 19 => m1 | 20 => m2 | 21 => m3 | 22 => m4 | 23 => m5 | 24 => m6 | 25 => m7 | _ => o0
theorem rg213 : List.range 213 = ([0, 1, 2, 3] ++ (List.range 32).flatMap (fun t => [4 + 6 * t, 5 + 6 * t, 6 + 6 * t, 7 + 6 * t, 8 + 6 * t, 9 + 6 * t])) ++ [196, 197, 198, 199, 200, 201, 202, 203, 204, 205, 206, 207, 208, 209, 210, 211, 212] := by decide +kernel
theorem kd_b {t : Nat} (ht : t < 32) : (kdI (4 + 6 * t) = 4 ∧ kdI (5 + 6 * t) = 5 ∧ kdI (6 + 6 * t) = 6 ∧ kdI (7 + 6 * t) = 7 ∧ kdI (8 + 6 * t) = 8 ∧ kdI (9 + 6 * t) = 9) ∧ ixI (4 + 6 * t) = (t : Int) ∧ ixI (5 + 6 * t) = (t : Int) ∧ ixI (6 + 6 * t) = (t : Int) ∧ ixI (7 + 6 * t) = (t : Int) ∧ ixI (8 + 6 * t) = (t : Int) ∧ ixI (9 + 6 * t) = (t : Int) := by
  have key : ∀ c, c < 6 → kdI (4 + c + 6 * t) = 4 + c ∧ ixI (4 + c + 6 * t) = (t : Int) := by
    intro c hc
    unfold kdI ixI
    rw [if_neg (by omega), if_pos (by omega), if_neg (by omega), if_pos (by omega)]
    omega
  exact ⟨⟨(key 0 (by decide)).1, (key 1 (by decide)).1, (key 2 (by decide)).1, (key 3 (by decide)).1, (key 4 (by decide)).1, (key 5 (by decide)).1⟩, (key 0 (by decide)).2, (key 1 (by decide)).2, (key 2 (by decide)).2, (key 3 (by decide)).2, (key 4 (by decide)).2, (key 5 (by decide)).2⟩
theorem own_0 : (fun j : Nat => if j < 32 then iI (-1) else iI 0) = fun j : Nat => iI (s0S 17 0 (j : Int)) := by
  funext j
  show (if j < 32 then iI (-1) else iI 0) = iI (if 0 ≤ (j : Int) ∧ (j : Int) < 32 then -1 else 0)
  by_cases q : j < 32
  · rw [if_pos q, if_pos (by omega)]
  · rw [if_neg q, if_neg (by omega)]
set_option maxRecDepth 100000 in
theorem cells_0 (E : eT) (A : Nat → Nat → Nat) (a q1 r1 q2 p0 p1 p2 p3 h0 c0 s0 s1 m0 m1 m2 m3 m4 m5 m6 m7 o0 : Nat) : cells (E.1, E.2.1, E.2.2.1, (adr A a q1 r1 q2 p0 p1 p2 p3 h0 c0 s0 s1 m0 m1 m2 m3 m4 m5 m6 m7 o0)) s0S = ((a, .inr (6, [.ref q1, .ref q2, .ref p0, .ref h0, .ref c0, .ref s0])) :: (q1, .inr (0, [.ref r1])) :: (r1, .inl (E.2.1 0, 64, .inl (fun _ => iI 0))) :: (q2, .inl (E.2.1 4, 32, .inr (.inr (.inr (.inr (fun j => some (A j 0))))))) :: bl E A 32) ++ ([(p0, .inr (4, [.ref p1, .ref p2, .ref p3, .int (iI 0)])), (p1, .inl (E.2.1 0, 16, .inl (fun _ => iI 0))), (p2, .inl (E.2.1 0, 16, .inl (fun _ => iI 0))), (p3, .inl (E.2.1 0, 16, .inl (fun _ => iI 0))), (h0, .inr (3, [.ref q2, .long (iL 0), .int (iI 0), .int (iI 0), .int (iI 0)])), (c0, .inr (1, [.ref p0, .ref h0, .ref q1, .int (iI 0), .int (iI 0), .int (iI 0), .int (iI 0), .long (iL 0), .long (iL 0), .int (iI 0), .int (iI 0)])), (s0, .inr (2, [.ref q2, .ref s1])), (s1, .inl (E.2.1 0, 32, .inl (fun j : Nat => if j < 32 then iI (-1) else iI 0)))] ++ ([(m0, .inr (7, [.int (iI 0), .ref m1, .ref m2, .ref m3, .int (iI 0), .ref m4, .ref m5, .ref m6, .long (iL 0), .int (iI 0), .int (iI 0), .int (iI 0), .int (iI 0), .int (iI 0), .int (iI 0), .int (iI 0), .int (iI 0), .int (iI 0), .int (iI 0), .int (iI 0), .ref m7])), (m1, .inl (E.2.1 1, 19200, .inl (fun _ => iI 0))), (m2, .inl (E.2.1 1, 19200, .inl (fun _ => iI 0))), (m3, .inl (E.2.1 0, 256, .inl (fun _ => iI 0))), (m4, .inl (E.2.1 0, 16, .inl (fun _ => iI 0))), (m5, .inl (E.2.1 0, 16, .inl (fun _ => iI 0))), (m6, .inl (E.2.1 0, 16, .inl (fun _ => iI 0))), (m7, .inl (E.2.1 0, 32, .inl (fun _ => iI 0)))] ++ [(o0, .inl (E.2.1 3, 1, .inr (.inl (fun _ => iL 0))))])) := by
  unfold cells
  rw [rg213, List.map_append, List.map_append, List.map_flatMap]
  have e : (List.range 32).flatMap (fun t => List.map (fun i => ((E.1, E.2.1, E.2.2.1, (adr A a q1 r1 q2 p0 p1 p2 p3 h0 c0 s0 s1 m0 m1 m2 m3 m4 m5 m6 m7 o0)).2.2.2 (kdI i) (ixI i), entF (E.1, E.2.1, E.2.2.1, (adr A a q1 r1 q2 p0 p1 p2 p3 h0 c0 s0 s1 m0 m1 m2 m3 m4 m5 m6 m7 o0)) (kdI i) (ixI i) (s0S (kdI i) (ixI i)))) [4 + 6 * t, 5 + 6 * t, 6 + 6 * t, 7 + 6 * t, 8 + 6 * t, 9 + 6 * t]) = bl E A 32 := by
    unfold bl
    rw [List.flatMap_def, List.flatMap_def]
    refine congrArg List.flatten (List.map_congr_left ?_)
    intro t ht
    obtain ⟨⟨k0, k1, k2, k3, k4, k5⟩, i0, i1, i2, i3, i4, i5⟩ := kd_b (List.mem_range.mp ht)
    simp only [List.map_cons, List.map_nil, k0, k1, k2, k3, k4, k5, i0, i1, i2, i3, i4, i5]
    rfl
  rw [e]
  rw [own_0]
  rfl
theorem ar_tr (c : ClassId) (A : Nat → Nat → Nat) : vp_cell c (32, .inr (.inr (.inr (.inr (trF A 32))))) = vp_cell c (32, .inr (.inr (.inr (.inr (fun j => some (A j 0)))))) := by
  rw [vp_cell_q, vp_cell_q]
  unfold arrV
  congr 2
  funext j
  unfold trF
  dsimp only
  rw [if_pos j.isLt]
theorem j_w3 {E : eT} {z : zT} {k n pc : Nat} {L : List (Nat × Value)} {st : List Value} {x0 x1 x2 : Nat × va_E} {q : Nat} {c : ClassId} {a1 a2 : vp_A} {t : va_W} (hv : vp_cell c a1 = vp_cell c a2) (h : J E z k n pc L st (x0 :: x1 :: x2 :: (q, .inl (c, a2)) :: t)) : J E z k n pc L st (x0 :: x1 :: x2 :: (q, .inl (c, a1)) :: t) := by
  intro H locs ls hP hD hS hl
  have key : ∀ (i : Nat) (p : Nat × va_E), (x0 :: x1 :: x2 :: (q, .inl (c, a2)) :: t)[i]? = some p → ∃ p', (x0 :: x1 :: x2 :: (q, .inl (c, a1)) :: t)[i]? = some p' ∧ p'.1 = p.1 ∧ (va_at E.1 vwCl p' H → va_at E.1 vwCl p H) := by
    intro i p hi
    rcases i with _ | _ | _ | _ | i
    · exact ⟨p, hi, rfl, id⟩
    · exact ⟨p, hi, rfl, id⟩
    · exact ⟨p, hi, rfl, id⟩
    · cases hi
      refine ⟨_, rfl, rfl, fun h1 => ?_⟩
      show H[q]? = some (vp_cell c a2)
      rw [← hv]
      exact h1
    · exact ⟨p, hi, rfl, id⟩
  refine h H locs ls (fun i p hi => ?_) ⟨fun i j p p2 hi hj hpq => ?_, fun i p hi => ?_⟩ hS hl
  · obtain ⟨p', h1, h2, h3⟩ := key i p hi
    exact h3 (hP i p' h1)
  · obtain ⟨p', h1, h2, h3⟩ := key i p hi
    obtain ⟨p2', g1, g2, g3⟩ := key j p2 hj
    exact hD.1 i j p' p2' h1 g1 (by rw [h2, g2]; exact hpq)
  · obtain ⟨p', h1, h2, h3⟩ := key i p hi
    rw [← h2]
    exact hD.2 i p' h1
theorem li_0 : LI s0S 0 0 := by
  have e0 : ∀ (k : Nat) (t j : Int), ¬ k = 17 → s0S k t j = 0 := fun k t j h => if_neg h
  have hr : rg s0S := by
    intro k t j
    unfold s0S
    split
    · split <;> decide
    · decide
  have hw : ∀ t, tkW s0S t := fun t => ⟨⟨Int.le_refl 0, show (0 : Int) ≤ 30 by decide⟩, rfl, fun k h1 h2 => by have : k ≤ 0 := h2; omega⟩
  refine ⟨⟨⟨hr, fun t _ _ => ⟨hw t, fun j => ⟨Int.le_refl 0, show (0 : Int) < 256 by decide⟩, fun k => Or.inl rfl⟩, fun j => ⟨Int.le_refl 0, show (0 : Int) < 256 by decide⟩, ⟨⟨Int.le_refl 0, show (0 : Int) < 32 by decide⟩, Int.le_refl 0, Int.le_refl 0, Int.le_refl 0⟩, ⟨⟨Int.le_refl 0, show (0 : Int) ≤ 16 by decide⟩, fun i _ _ => ⟨Int.le_refl 0, show (0 : Int) ≤ 11 by decide⟩⟩, Int.le_refl 0, fun t => ?_⟩, Int.le_refl 0, ⟨Int.le_refl 0, Int.le_refl 0⟩, show (0 : Int) ≤ 17 by decide⟩, ⟨⟨fun _ _ _ => rfl, ⟨rfl, fun _ _ _ => ⟨rfl, rfl, rfl⟩⟩, ⟨rfl, rfl, rfl, rfl, rfl, rfl⟩, fun t h0 h1 => ?_, fun t h0 h1 => ⟨fun p _ _ => Or.inl rfl, fun k h1 h2 => ?_, fun p _ _ h => ?_, fun k h1 h2 => ?_⟩⟩, rfl, rfl⟩, Int.le_refl 0⟩
  · show -1 ≤ (if 0 ≤ t ∧ t < 32 then (-1 : Int) else 0) ∧ (if 0 ≤ t ∧ t < 32 then (-1 : Int) else 0) ≤ 5
    split <;> decide
  · show (0 : Int) = (if 0 ≤ t ∧ t < 32 then (-1 : Int) else 0) + 1
    rw [if_pos ⟨h0, h1⟩]; rfl
  · have : k ≤ 0 := h2
    omega
  · exact absurd (show (0 : Int) = 1 from h) (by decide)
  · have : k ≤ 0 := h2
    omega

set_option maxRecDepth 100000 in
set_option maxHeartbeats 4000000 in
theorem law_all {E : eT} {z : zT} (X : Cx E z code R_L) (hz : zR z = rmD 12 601024 7293034) (hl0 : (zl z).stackTraces = false) (hn : zn z = 7) {b N : Nat} {xs : Nat → Int32} (hX : va_X b N xs (zs z) (zs z).heap) (hb : b < (zs z).heap.size) (hbA : ¬ zA E b) (hN : N ≤ 2048) (hEnd : ∀ (k n : Nat) (L : List (Nat × Value)) (w : va_W), k ≤ 601024 → n ≤ 7293034 → J E z k n 927 L [.int (iI 1)] w) : J E z 0 0 0 [(0, .ref b)] [] [] := by
  refine j_newC X in_U ft_U ft_U_ok cn_L_8 in2_U in1_U (ci := 6) rfl [.null, .null, .null, .null, .null, .null] bk_U hz ⟨Nat.le_of_ble_eq_true rfl, Nat.le_of_ble_eq_true rfl⟩ d_L_law_0 (fun a => ?_)
  refine j_dup X rfl d_L_law_3 ?_
  refine j_cI X ml_L_54 ii_U in1_U ic_U yo_U_init rfl rfl hz (c_U_init (zl z) E [] a) rfl rfl rfl (Nat.le_of_ble_eq_true rfl) ⟨Nat.le_of_ble_eq_true rfl, Nat.le_of_ble_eq_true rfl⟩ d_L_law_4 (fun v' W hW => ?_)
  obtain ⟨rfl, q1, r1, q2, A, p0, p1, p2, p3, h0, c0, s0, s1, rfl⟩ := hW
  refine j_astore_n X (zlt hn rfl) d_L_law_7 ?_
  refine j_newC X in_M ft_M ft_M_ok cn_L_55 in2_M in1_M (ci := 7) rfl [.int (iI 0), .null, .null, .null, .int (iI 0), .null, .null, .null, .long (iL 0), .int (iI 0), .int (iI 0), .int (iI 0), .int (iI 0), .int (iI 0), .int (iI 0), .int (iI 0), .int (iI 0), .int (iI 0), .int (iI 0), .int (iI 0), .null] bk_M hz ⟨Nat.le_of_ble_eq_true rfl, Nat.le_of_ble_eq_true rfl⟩ d_L_law_8 (fun m0 => ?_)
  refine j_dup X rfl d_L_law_11 ?_
  refine j_cI X ml_L_57 ii_M in1_M ic_M yo_M_init rfl rfl hz (c_M_init (zl z) E _ m0) rfl rfl rfl (Nat.le_of_ble_eq_true rfl) ⟨Nat.le_of_ble_eq_true rfl, Nat.le_of_ble_eq_true rfl⟩ d_L_law_12 (fun v' W hW => ?_)
  obtain ⟨rfl, m1, m2, m3, m4, m5, m6, m7, rfl⟩ := hW
  refine j_astore_n X (zlt hn rfl) d_L_law_15 ?_
  refine j_iconst X d_L_law_16 ?_
  refine j_newA X (atype := .long) ac_long rfl 3 rfl (fun _ _ h => h) (a0 := (1, .inr (.inl (fun _ => iL 0)))) (N' := 1) (fun _ => rfl) rfl rfl rfl hz ⟨Nat.le_of_ble_eq_true rfl, Nat.le_of_ble_eq_true rfl⟩ d_L_law_17 (fun o0 => ?_)
  refine j_astore_n X (zlt hn rfl) d_L_law_19 ?_
  refine j_iconst X d_L_law_20 ?_
  refine j_istore X (zlt hn rfl) d_L_law_21 ?_
  rw [List.nil_append, List.append_assoc, List.cons_append, List.append_assoc]
  change J E z 213 46963 23 [(0, .ref b), (1, .ref a), (2, .ref m0), (3, .ref o0), (4, .int (iI 0))] [] ((a, .inr (6, [.ref q1, .ref q2, .ref p0, .ref h0, .ref c0, .ref s0])) :: (q1, .inr (0, [.ref r1])) :: (r1, .inl (E.2.1 0, 64, .inl (fun _ => iI 0))) :: (q2, .inl (E.2.1 4, 32, .inr (.inr (.inr (.inr (trF A 32)))))) :: (bl E A 32 ++ ([(p0, .inr (4, [.ref p1, .ref p2, .ref p3, .int (iI 0)])), (p1, .inl (E.2.1 0, 16, .inl (fun _ => iI 0))), (p2, .inl (E.2.1 0, 16, .inl (fun _ => iI 0))), (p3, .inl (E.2.1 0, 16, .inl (fun _ => iI 0))), (h0, .inr (3, [.ref q2, .long (iL 0), .int (iI 0), .int (iI 0), .int (iI 0)])), (c0, .inr (1, [.ref p0, .ref h0, .ref q1, .int (iI 0), .int (iI 0), .int (iI 0), .int (iI 0), .long (iL 0), .long (iL 0), .int (iI 0), .int (iI 0)])), (s0, .inr (2, [.ref q2, .ref s1])), (s1, .inl (E.2.1 0, 32, .inl (fun j : Nat => if j < 32 then iI (-1) else iI 0)))] ++ ([(m0, .inr (7, [.int (iI 0), .ref m1, .ref m2, .ref m3, .int (iI 0), .ref m4, .ref m5, .ref m6, .long (iL 0), .int (iI 0), .int (iI 0), .int (iI 0), .int (iI 0), .int (iI 0), .int (iI 0), .int (iI 0), .int (iI 0), .int (iI 0), .int (iI 0), .int (iI 0), .ref m7])), (m1, .inl (E.2.1 1, 19200, .inl (fun _ => iI 0))), (m2, .inl (E.2.1 1, 19200, .inl (fun _ => iI 0))), (m3, .inl (E.2.1 0, 256, .inl (fun _ => iI 0))), (m4, .inl (E.2.1 0, 16, .inl (fun _ => iI 0))), (m5, .inl (E.2.1 0, 16, .inl (fun _ => iI 0))), (m6, .inl (E.2.1 0, 16, .inl (fun _ => iI 0))), (m7, .inl (E.2.1 0, 32, .inl (fun _ => iI 0)))] ++ [(o0, .inl (E.2.1 3, 1, .inr (.inl (fun _ => iL 0))))]))))
  refine j_w3 (ar_tr _ A) ?_
  have h := law_loop (E := (E.1, E.2.1, E.2.2.1, (adr A a q1 r1 q2 p0 p1 p2 p3 h0 c0 s0 s1 m0 m1 m2 m3 m4 m5 m6 m7 o0))) X hz hl0 hn hX hb hbA hN hEnd (0, 213, 46963, s0S) ⟨⟨Int.le_refl 0, show (0 : Int) ≤ 513 by decide⟩, Nat.le_refl _, Nat.le_of_ble_eq_true rfl, li_0⟩
  dsimp only at h
  rw [cells_0] at h
  exact h
