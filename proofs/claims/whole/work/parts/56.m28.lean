/-! the law's loop -/
theorem i32_in (x : Int32) : inR x.toInt := by
  have h1 := Int32.le_toInt x
  have h2 := Int32.toInt_lt x
  omega
theorem blt12 {d : Nat} (h : Nat.blt d 9 = true) : Nat.blt d 12 = true := Nat.blt_eq.mpr (by have := Nat.blt_eq.mp h; omega)
theorem li_le {w : St} {T Q T' Q' : Int} (h : LI w T Q) (h1 : T ≤ T') (h2 : Q ≤ Q') : LI w T' Q' := ⟨iv_le h.1 h1 h2, h.2⟩
theorem cmp_0 (a : Int) : cmpI a a = 0 := by
  unfold cmpI
  rw [if_neg (Int.lt_irrefl a), if_pos rfl]
section SCR
variable {E : eT} {z : zT} {cc : ByteArray} {own : String} {k n pc : Nat} {L : List (Nat × Value)} {st : List Value} {w : va_W} {b N : Nat} {xs : Nat → Int32}
theorem j_sld (X : Cx E z cc own) (hX : va_X b N xs (zs z) (zs z).heap) (hb : b < (zs z).heap.size) (hbA : ¬ zA E b) (hN : N ≤ 2048) {i : Int} (hi : 0 ≤ i ∧ i < N) (d : decode cc pc = .ok (.iaload, 1)) (kk : J E z k n (pc + 1) L (.int (iI (xs i.toNat).toInt) :: st) w) : J E z k n pc L (.int (iI i) :: .ref b :: st) w := by
  intro H locs ls hP hD hS hl
  refine va_sld X.1 X.2.1 hX hb hbA hS (iI_vin hi.1 hi.2 (by omega)) d ?_
  rw [iI_clamp hi.1 (by omega)]
  have := kk H locs ls hP hD hS hl
  rw [show iI (xs i.toNat).toInt = xs i.toNat from Int32.ofInt_toInt _] at this
  exact this
theorem j_slen (X : Cx E z cc own) (hX : va_X b N xs (zs z) (zs z).heap) (hb : b < (zs z).heap.size) (hbA : ¬ zA E b) (d : decode cc pc = .ok (.arraylength, 1)) (kk : J E z k n (pc + 1) L (.int (iI (N : Int)) :: st) w) : J E z k n pc L (.ref b :: st) w := by
  intro H locs ls hP hD hS hl
  refine va_slen X.1 X.2.1 hX hb hbA hS d ?_
  rw [iI_nat]
  exact kk H locs ls hP hD hS hl
end SCR

theorem mcw_command : ∀ w ∈ ([.methodLink R_L 58 y_L_command, .static y_L_command, .initialized R_L, .codeWith y_L_command b_L_command 6 (some .int) [(0, 12, 15, 13), (0, 12, 19, 15)]] : List Cond), w ∈ bgW := List.forall_mem_cons.mpr ⟨bg_in (List.mem_of_getElem? (i := 481) (by decide +kernel)) rfl, List.forall_mem_cons.mpr ⟨bg_in (List.mem_of_getElem? (i := 482) (by decide +kernel)) rfl, List.forall_mem_cons.mpr ⟨bg_in (List.mem_of_getElem? (i := 65) (by decide +kernel)) rfl, List.forall_mem_cons.mpr ⟨bg_in (List.mem_of_getElem? (i := 483) (by decide +kernel)) rfl, fun _ h => nomatch h⟩⟩⟩⟩
theorem mcw_poke : ∀ w ∈ ([.methodLink R_L 68 y_L_poke, .static y_L_poke, .initialized R_L, .codeWith y_L_poke b_L_poke 4 (some .int) [(0, 6, 9, 13)]] : List Cond), w ∈ bgW := List.forall_mem_cons.mpr ⟨bg_in (List.mem_of_getElem? (i := 586) (by decide +kernel)) rfl, List.forall_mem_cons.mpr ⟨bg_in (List.mem_of_getElem? (i := 587) (by decide +kernel)) rfl, List.forall_mem_cons.mpr ⟨bg_in (List.mem_of_getElem? (i := 65) (by decide +kernel)) rfl, List.forall_mem_cons.mpr ⟨bg_in (List.mem_of_getElem? (i := 588) (by decide +kernel)) rfl, fun _ h => nomatch h⟩⟩⟩⟩
theorem mcw_peek : ∀ w ∈ ([.methodLink R_L 72 y_L_peek, .static y_L_peek, .initialized R_L, .codeWith y_L_peek b_L_peek 4 (some .int) [(0, 9, 12, 13)]] : List Cond), w ∈ bgW := List.forall_mem_cons.mpr ⟨bg_in (List.mem_of_getElem? (i := 594) (by decide +kernel)) rfl, List.forall_mem_cons.mpr ⟨bg_in (List.mem_of_getElem? (i := 595) (by decide +kernel)) rfl, List.forall_mem_cons.mpr ⟨bg_in (List.mem_of_getElem? (i := 65) (by decide +kernel)) rfl, List.forall_mem_cons.mpr ⟨bg_in (List.mem_of_getElem? (i := 596) (by decide +kernel)) rfl, fun _ h => nomatch h⟩⟩⟩⟩
theorem mcw_look : ∀ w ∈ ([.methodLink R_L 80 y_L_look, .static y_L_look, .initialized R_L, .codeWith y_L_look b_L_look 4 (some .int) [(0, 9, 12, 13)]] : List Cond), w ∈ bgW := List.forall_mem_cons.mpr ⟨bg_in (List.mem_of_getElem? (i := 602) (by decide +kernel)) rfl, List.forall_mem_cons.mpr ⟨bg_in (List.mem_of_getElem? (i := 603) (by decide +kernel)) rfl, List.forall_mem_cons.mpr ⟨bg_in (List.mem_of_getElem? (i := 65) (by decide +kernel)) rfl, List.forall_mem_cons.mpr ⟨bg_in (List.mem_of_getElem? (i := 604) (by decide +kernel)) rfl, fun _ h => nomatch h⟩⟩⟩⟩
theorem mcw_record : ∀ w ∈ ([.methodLink R_L 88 y_L_record, .static y_L_record, .initialized R_L, .codeWith y_L_record b_L_record 6 (some .int) [(0, 12, 15, 13)]] : List Cond), w ∈ bgW := List.forall_mem_cons.mpr ⟨bg_in (List.mem_of_getElem? (i := 613) (by decide +kernel)) rfl, List.forall_mem_cons.mpr ⟨bg_in (List.mem_of_getElem? (i := 614) (by decide +kernel)) rfl, List.forall_mem_cons.mpr ⟨bg_in (List.mem_of_getElem? (i := 65) (by decide +kernel)) rfl, List.forall_mem_cons.mpr ⟨bg_in (List.mem_of_getElem? (i := 615) (by decide +kernel)) rfl, fun _ h => nomatch h⟩⟩⟩⟩
theorem mcw_byteOf : ∀ w ∈ ([.methodLink R_L 91 y_L_byteOf, .static y_L_byteOf, .initialized R_L, .codeWith y_L_byteOf b_L_byteOf 6 (some .int) [(0, 12, 15, 13)]] : List Cond), w ∈ bgW := List.forall_mem_cons.mpr ⟨bg_in (List.mem_of_getElem? (i := 629) (by decide +kernel)) rfl, List.forall_mem_cons.mpr ⟨bg_in (List.mem_of_getElem? (i := 630) (by decide +kernel)) rfl, List.forall_mem_cons.mpr ⟨bg_in (List.mem_of_getElem? (i := 65) (by decide +kernel)) rfl, List.forall_mem_cons.mpr ⟨bg_in (List.mem_of_getElem? (i := 631) (by decide +kernel)) rfl, fun _ h => nomatch h⟩⟩⟩⟩
theorem mcw_spoil : ∀ w ∈ ([.methodLink R_L 94 y_L_spoil, .static y_L_spoil, .initialized R_L, .codeWith y_L_spoil b_L_spoil 4 (some .int) [(0, 6, 9, 13)]] : List Cond), w ∈ bgW := List.forall_mem_cons.mpr ⟨bg_in (List.mem_of_getElem? (i := 641) (by decide +kernel)) rfl, List.forall_mem_cons.mpr ⟨bg_in (List.mem_of_getElem? (i := 642) (by decide +kernel)) rfl, List.forall_mem_cons.mpr ⟨bg_in (List.mem_of_getElem? (i := 65) (by decide +kernel)) rfl, List.forall_mem_cons.mpr ⟨bg_in (List.mem_of_getElem? (i := 643) (by decide +kernel)) rfl, fun _ h => nomatch h⟩⟩⟩⟩
theorem mcw_allocate : ∀ w ∈ ([.methodLink R_L 97 y_L_allocate, .static y_L_allocate, .initialized R_L, .codeWith y_L_allocate b_L_allocate 5 (some .int) [(0, 10, 13, 13), (0, 10, 17, 15)]] : List Cond), w ∈ bgW := List.forall_mem_cons.mpr ⟨bg_in (List.mem_of_getElem? (i := 652) (by decide +kernel)) rfl, List.forall_mem_cons.mpr ⟨bg_in (List.mem_of_getElem? (i := 653) (by decide +kernel)) rfl, List.forall_mem_cons.mpr ⟨bg_in (List.mem_of_getElem? (i := 65) (by decide +kernel)) rfl, List.forall_mem_cons.mpr ⟨bg_in (List.mem_of_getElem? (i := 654) (by decide +kernel)) rfl, fun _ h => nomatch h⟩⟩⟩⟩
theorem mcw_scratch : ∀ w ∈ ([.methodLink R_L 101 y_L_scratch, .static y_L_scratch, .initialized R_L, .codeWith y_L_scratch b_L_scratch 3 (some .int) [(0, 5, 8, 13), (0, 5, 11, 15)]] : List Cond), w ∈ bgW := List.forall_mem_cons.mpr ⟨bg_in (List.mem_of_getElem? (i := 680) (by decide +kernel)) rfl, List.forall_mem_cons.mpr ⟨bg_in (List.mem_of_getElem? (i := 681) (by decide +kernel)) rfl, List.forall_mem_cons.mpr ⟨bg_in (List.mem_of_getElem? (i := 65) (by decide +kernel)) rfl, List.forall_mem_cons.mpr ⟨bg_in (List.mem_of_getElem? (i := 682) (by decide +kernel)) rfl, fun _ h => nomatch h⟩⟩⟩⟩
theorem mcw_trackOf : ∀ w ∈ ([.methodLink R_L 105 y_L_trackOf, .static y_L_trackOf, .initialized R_L, .codeWith y_L_trackOf b_L_trackOf 5 (some .int) [(0, 10, 13, 13)]] : List Cond), w ∈ bgW := List.forall_mem_cons.mpr ⟨bg_in (List.mem_of_getElem? (i := 691) (by decide +kernel)) rfl, List.forall_mem_cons.mpr ⟨bg_in (List.mem_of_getElem? (i := 692) (by decide +kernel)) rfl, List.forall_mem_cons.mpr ⟨bg_in (List.mem_of_getElem? (i := 65) (by decide +kernel)) rfl, List.forall_mem_cons.mpr ⟨bg_in (List.mem_of_getElem? (i := 693) (by decide +kernel)) rfl, fun _ h => nomatch h⟩⟩⟩⟩
theorem mcw_store : ∀ w ∈ ([.methodLink R_L 112 y_L_store, .static y_L_store, .initialized R_L, .codeWith y_L_store b_L_store 6 (some .int) [(0, 12, 15, 13), (0, 12, 19, 15)]] : List Cond), w ∈ bgW := List.forall_mem_cons.mpr ⟨bg_in (List.mem_of_getElem? (i := 702) (by decide +kernel)) rfl, List.forall_mem_cons.mpr ⟨bg_in (List.mem_of_getElem? (i := 703) (by decide +kernel)) rfl, List.forall_mem_cons.mpr ⟨bg_in (List.mem_of_getElem? (i := 65) (by decide +kernel)) rfl, List.forall_mem_cons.mpr ⟨bg_in (List.mem_of_getElem? (i := 704) (by decide +kernel)) rfl, fun _ h => nomatch h⟩⟩⟩⟩
theorem mcw_fetch : ∀ w ∈ ([.methodLink R_L 115 y_L_fetch, .static y_L_fetch, .initialized R_L, .codeWith y_L_fetch b_L_fetch 5 (some .int) [(0, 10, 13, 13), (0, 10, 17, 15)]] : List Cond), w ∈ bgW := List.forall_mem_cons.mpr ⟨bg_in (List.mem_of_getElem? (i := 746) (by decide +kernel)) rfl, List.forall_mem_cons.mpr ⟨bg_in (List.mem_of_getElem? (i := 747) (by decide +kernel)) rfl, List.forall_mem_cons.mpr ⟨bg_in (List.mem_of_getElem? (i := 65) (by decide +kernel)) rfl, List.forall_mem_cons.mpr ⟨bg_in (List.mem_of_getElem? (i := 748) (by decide +kernel)) rfl, fun _ h => nomatch h⟩⟩⟩⟩
set_option maxRecDepth 100000 in
set_option maxHeartbeats 4000000 in
theorem law_command {E : eT} {z : zT} (X : Cx E z code R_L) (hz : zR z = rmD 12 601024 7293034) (hl0 : (zl z).stackTraces = false) (hn : zn z = 7) {b N : Nat} {xs : Nat → Int32} (hX : va_X b N xs (zs z) (zs z).heap) (hb : b < (zs z).heap.size) (hbA : ¬ zA E b) (hN : N ≤ 2048) {k n : Nat} (hk : k ≤ 10000) (hnn : n ≤ 100000) {i : Int} (hi : 0 ≤ i ∧ i + 3 < N) {w : St} {T Q : Int} (hT : T + 1000000 ≤ 1000000000) (hQ : Q + 1000 ≤ 1000000000) (hQ0 : 0 ≤ Q) (hL : LI w T Q) (nxt : ∀ (k' n' : Nat) (w' : St), k' ≤ k + 1 → n' ≤ n + 6 → LI w' (T + 1000000) (Q + 1000) → J E z k' n' 920 [(0, .ref b), (1, .ref (E.2.2.2 0 0)), (2, .ref (E.2.2.2 18 0)), (3, .ref (E.2.2.2 26 0)), (4, .int (iI i))] [] (cells E w')) : J E z k n 112 [(0, .ref b), (1, .ref (E.2.2.2 0 0)), (2, .ref (E.2.2.2 18 0)), (3, .ref (E.2.2.2 26 0)), (4, .int (iI i))] [] (cells E w) := by
  rcases o_command (l := zl z) (E := E) hl0 hL (i32_in (xs (i + 1).toNat)) (i32_in (xs (i + 2).toNat)) (i32_in (xs (i + 3).toNat)) with ⟨d1, d2, v, w1, σ', hd1, hd2, hF, hv, hM, h0, h26, w', ew, hL'⟩ | ⟨d2, c, bb, nm, σ', hd2, hcc, hT', hM, h0, w', ew, hL'⟩
  · skip
    refine j_aload_n X rfl d_L_law_112 ?_
    refine j_aload_n X rfl d_L_law_113 ?_
    refine j_iload X rfl d_L_law_114 ?_
    refine j_iconst X d_L_law_116 ?_
    refine j_iadd X d_L_law_117 ?_
    refine j_sld X hX hb hbA hN (by omega) d_L_law_118 ?_
    refine j_aload_n X rfl d_L_law_119 ?_
    refine j_iload X rfl d_L_law_120 ?_
    refine j_iconst X d_L_law_122 ?_
    refine j_iadd X d_L_law_123 ?_
    refine j_sld X hX hb hbA hN (by omega) d_L_law_124 ?_
    refine j_aload_n X rfl d_L_law_125 ?_
    refine j_iload X rfl d_L_law_126 ?_
    refine j_iconst X d_L_law_128 ?_
    refine j_iadd X d_L_law_129 ?_
    refine j_sld X hX hb hbA hN (by omega) d_L_law_130 ?_
    refine j_aload_n X rfl d_L_law_131 ?_
    refine j_cSW X mcw_command yo_L_command rfl rfl hz (l_command_s hd1 hF hv) rfl rfl rfl (Nat.le_of_ble_eq_true rfl) ⟨by omega, by omega⟩ d_L_law_132 (fun v' W hW => ?_)
    obtain ⟨rfl, rfl⟩ := hW
    refine j_istore X (zlt hn rfl) d_L_law_135 ?_
    change J E z k n 137 [(0, .ref b), (1, .ref (E.2.2.2 0 0)), (2, .ref (E.2.2.2 18 0)), (3, .ref (E.2.2.2 26 0)), (4, .int (iI i)), (5, .int (iI 0))] [] (cells E (up w1 26 0 0 v))
    refine j_aload_n X rfl d_L_law_137 ?_
    refine j_aload_n X rfl d_L_law_138 ?_
    refine j_iload X rfl d_L_law_139 ?_
    refine j_iconst X d_L_law_141 ?_
    refine j_iadd X d_L_law_142 ?_
    refine j_sld X hX hb hbA hN (by omega) d_L_law_143 ?_
    refine j_aload_n X rfl d_L_law_144 ?_
    refine j_iload X rfl d_L_law_145 ?_
    refine j_iconst X d_L_law_147 ?_
    refine j_iadd X d_L_law_148 ?_
    refine j_sld X hX hb hbA hN (by omega) d_L_law_149 ?_
    refine j_aload_n X rfl d_L_law_150 ?_
    refine j_iload X rfl d_L_law_151 ?_
    refine j_iconst X d_L_law_153 ?_
    refine j_iadd X d_L_law_154 ?_
    refine j_sld X hX hb hbA hN (by omega) d_L_law_155 ?_
    refine v_L_63 X hz hM rfl (blt12 hd2) rfl (Nat.le_of_ble_eq_true rfl) ⟨by omega, by omega⟩ d_L_law_156 ?_
    refine j_istore X (zlt hn rfl) d_L_law_159 ?_
    change J E z k n 161 [(0, .ref b), (1, .ref (E.2.2.2 0 0)), (2, .ref (E.2.2.2 18 0)), (3, .ref (E.2.2.2 26 0)), (4, .int (iI i)), (5, .int (iI 0)), (6, .int (iI v))] [] (cells E σ')
    refine j_aload_n X rfl d_L_law_161 ?_
    refine v_L_64 X hz (c_M_thrown (zl z) E σ') rfl rfl rfl (Nat.le_of_ble_eq_true rfl) ⟨by omega, by omega⟩ d_L_law_162 ?_
    refine j_topi (congrArg iI h0) ?_
    refine j_iload X rfl d_L_law_165 ?_
    refine j_icmp_eq X (by decide) (by decide) d_L_law_167 (tgt := 172) rfl (fun _ => ?_) (fun h => absurd rfl h)
    refine j_iload X rfl d_L_law_172 ?_
    refine j_if_ne X (by decide) d_L_law_174 (tgt := 189) rfl (fun h => absurd rfl h) (fun _ => ?_)
    refine j_aload_n X rfl d_L_law_177 ?_
    refine j_iconst X d_L_law_178 ?_
    refine j_lald X (okC1 rfl) (fun _ => rfl) rfl (by decide) d_L_law_179 ?_
    refine j_topl (congrArg iL h26) ?_
    refine j_iload X rfl d_L_law_180 ?_
    refine j_i2l X (by omega) d_L_law_182 ?_
    refine j_lcmp X (by omega) (by omega) d_L_law_183 ?_
    refine j_topi (congrArg iI (cmp_0 _)) ?_
    refine j_if_eq X (by decide) d_L_law_184 (tgt := 189) rfl (fun _ => ?_) (fun h => absurd rfl h)
    refine j_goto X d_L_law_189 (tgt := 920) rfl ?_
    rw [← ew]
    exact j_drop 5 (nxt _ _ w' (by omega) (by omega) (li_le hL' (by omega) (by omega)))
  · rcases hcc with ⟨rfl, rfl⟩ | hcc
    · skip
      refine j_aload_n X rfl d_L_law_112 ?_
      refine j_aload_n X rfl d_L_law_113 ?_
      refine j_iload X rfl d_L_law_114 ?_
      refine j_iconst X d_L_law_116 ?_
      refine j_iadd X d_L_law_117 ?_
      refine j_sld X hX hb hbA hN (by omega) d_L_law_118 ?_
      refine j_aload_n X rfl d_L_law_119 ?_
      refine j_iload X rfl d_L_law_120 ?_
      refine j_iconst X d_L_law_122 ?_
      refine j_iadd X d_L_law_123 ?_
      refine j_sld X hX hb hbA hN (by omega) d_L_law_124 ?_
      refine j_aload_n X rfl d_L_law_125 ?_
      refine j_iload X rfl d_L_law_126 ?_
      refine j_iconst X d_L_law_128 ?_
      refine j_iadd X d_L_law_129 ?_
      refine j_sld X hX hb hbA hN (by omega) d_L_law_130 ?_
      refine j_aload_n X rfl d_L_law_131 ?_
      refine j_cSW X mcw_command yo_L_command rfl rfl hz (l_command_x hT') rfl rfl rfl (Nat.le_of_ble_eq_true rfl) ⟨by omega, by omega⟩ d_L_law_132 (fun v' W hW => ?_)
      obtain ⟨rfl, rfl⟩ := hW
      refine j_istore X (zlt hn rfl) d_L_law_135 ?_
      change J E z (k + 1) (n + 6) 137 [(0, .ref b), (1, .ref (E.2.2.2 0 0)), (2, .ref (E.2.2.2 18 0)), (3, .ref (E.2.2.2 26 0)), (4, .int (iI i)), (5, .int (iI 1))] [] (cells E w)
      refine j_aload_n X rfl d_L_law_137 ?_
      refine j_aload_n X rfl d_L_law_138 ?_
      refine j_iload X rfl d_L_law_139 ?_
      refine j_iconst X d_L_law_141 ?_
      refine j_iadd X d_L_law_142 ?_
      refine j_sld X hX hb hbA hN (by omega) d_L_law_143 ?_
      refine j_aload_n X rfl d_L_law_144 ?_
      refine j_iload X rfl d_L_law_145 ?_
      refine j_iconst X d_L_law_147 ?_
      refine j_iadd X d_L_law_148 ?_
      refine j_sld X hX hb hbA hN (by omega) d_L_law_149 ?_
      refine j_aload_n X rfl d_L_law_150 ?_
      refine j_iload X rfl d_L_law_151 ?_
      refine j_iconst X d_L_law_153 ?_
      refine j_iadd X d_L_law_154 ?_
      refine j_sld X hX hb hbA hN (by omega) d_L_law_155 ?_
      refine v_L_63 X hz hM rfl (blt12 hd2) rfl (Nat.le_of_ble_eq_true rfl) ⟨by omega, by omega⟩ d_L_law_156 ?_
      refine j_istore X (zlt hn rfl) d_L_law_159 ?_
      change J E z (k + 1) (n + 6) 161 [(0, .ref b), (1, .ref (E.2.2.2 0 0)), (2, .ref (E.2.2.2 18 0)), (3, .ref (E.2.2.2 26 0)), (4, .int (iI i)), (5, .int (iI 1)), (6, .int (iI bb))] [] (cells E σ')
      refine j_aload_n X rfl d_L_law_161 ?_
      refine v_L_64 X hz (c_M_thrown (zl z) E σ') rfl rfl rfl (Nat.le_of_ble_eq_true rfl) ⟨by omega, by omega⟩ d_L_law_162 ?_
      refine j_topi (congrArg iI h0) ?_
      refine j_iload X rfl d_L_law_165 ?_
      refine j_icmp_eq X (by decide) (by decide) d_L_law_167 (tgt := 172) rfl (fun _ => ?_) (fun h => absurd rfl h)
      refine j_iload X rfl d_L_law_172 ?_
      refine j_if_ne X (by decide) d_L_law_174 (tgt := 189) rfl (fun _ => ?_) (fun h => absurd h (by decide))
      refine j_goto X d_L_law_189 (tgt := 920) rfl ?_
      rw [← ew]
      exact j_drop 5 (nxt _ _ w' (by omega) (by omega) (li_le hL' (by omega) (by omega)))
    · obtain ⟨-, rfl, rfl⟩ := hcc
      refine j_aload_n X rfl d_L_law_112 ?_
      refine j_aload_n X rfl d_L_law_113 ?_
      refine j_iload X rfl d_L_law_114 ?_
      refine j_iconst X d_L_law_116 ?_
      refine j_iadd X d_L_law_117 ?_
      refine j_sld X hX hb hbA hN (by omega) d_L_law_118 ?_
      refine j_aload_n X rfl d_L_law_119 ?_
      refine j_iload X rfl d_L_law_120 ?_
      refine j_iconst X d_L_law_122 ?_
      refine j_iadd X d_L_law_123 ?_
      refine j_sld X hX hb hbA hN (by omega) d_L_law_124 ?_
      refine j_aload_n X rfl d_L_law_125 ?_
      refine j_iload X rfl d_L_law_126 ?_
      refine j_iconst X d_L_law_128 ?_
      refine j_iadd X d_L_law_129 ?_
      refine j_sld X hX hb hbA hN (by omega) d_L_law_130 ?_
      refine j_aload_n X rfl d_L_law_131 ?_
      refine j_cSW X mcw_command yo_L_command rfl rfl hz (l_command_y hT') rfl rfl rfl (Nat.le_of_ble_eq_true rfl) ⟨by omega, by omega⟩ d_L_law_132 (fun v' W hW => ?_)
      obtain ⟨rfl, rfl⟩ := hW
      refine j_istore X (zlt hn rfl) d_L_law_135 ?_
      change J E z (k + 1) (n + 6) 137 [(0, .ref b), (1, .ref (E.2.2.2 0 0)), (2, .ref (E.2.2.2 18 0)), (3, .ref (E.2.2.2 26 0)), (4, .int (iI i)), (5, .int (iI 2))] [] (cells E w)
      refine j_aload_n X rfl d_L_law_137 ?_
      refine j_aload_n X rfl d_L_law_138 ?_
      refine j_iload X rfl d_L_law_139 ?_
      refine j_iconst X d_L_law_141 ?_
      refine j_iadd X d_L_law_142 ?_
      refine j_sld X hX hb hbA hN (by omega) d_L_law_143 ?_
      refine j_aload_n X rfl d_L_law_144 ?_
      refine j_iload X rfl d_L_law_145 ?_
      refine j_iconst X d_L_law_147 ?_
      refine j_iadd X d_L_law_148 ?_
      refine j_sld X hX hb hbA hN (by omega) d_L_law_149 ?_
      refine j_aload_n X rfl d_L_law_150 ?_
      refine j_iload X rfl d_L_law_151 ?_
      refine j_iconst X d_L_law_153 ?_
      refine j_iadd X d_L_law_154 ?_
      refine j_sld X hX hb hbA hN (by omega) d_L_law_155 ?_
      refine v_L_63 X hz hM rfl (blt12 hd2) rfl (Nat.le_of_ble_eq_true rfl) ⟨by omega, by omega⟩ d_L_law_156 ?_
      refine j_istore X (zlt hn rfl) d_L_law_159 ?_
      change J E z (k + 1) (n + 6) 161 [(0, .ref b), (1, .ref (E.2.2.2 0 0)), (2, .ref (E.2.2.2 18 0)), (3, .ref (E.2.2.2 26 0)), (4, .int (iI i)), (5, .int (iI 2)), (6, .int (iI bb))] [] (cells E σ')
      refine j_aload_n X rfl d_L_law_161 ?_
      refine v_L_64 X hz (c_M_thrown (zl z) E σ') rfl rfl rfl (Nat.le_of_ble_eq_true rfl) ⟨by omega, by omega⟩ d_L_law_162 ?_
      refine j_topi (congrArg iI h0) ?_
      refine j_iload X rfl d_L_law_165 ?_
      refine j_icmp_eq X (by decide) (by decide) d_L_law_167 (tgt := 172) rfl (fun _ => ?_) (fun h => absurd rfl h)
      refine j_iload X rfl d_L_law_172 ?_
      refine j_if_ne X (by decide) d_L_law_174 (tgt := 189) rfl (fun _ => ?_) (fun h => absurd h (by decide))
      refine j_goto X d_L_law_189 (tgt := 920) rfl ?_
      rw [← ew]
      exact j_drop 5 (nxt _ _ w' (by omega) (by omega) (li_le hL' (by omega) (by omega)))

set_option maxRecDepth 100000 in
set_option maxHeartbeats 4000000 in
theorem law_poke {E : eT} {z : zT} (X : Cx E z code R_L) (hz : zR z = rmD 12 601024 7293034) (hl0 : (zl z).stackTraces = false) (hn : zn z = 7) {b N : Nat} {xs : Nat → Int32} (hX : va_X b N xs (zs z) (zs z).heap) (hb : b < (zs z).heap.size) (hbA : ¬ zA E b) (hN : N ≤ 2048) {k n : Nat} (hk : k ≤ 10000) (hnn : n ≤ 100000) {i : Int} (hi : 0 ≤ i ∧ i + 3 < N) {w : St} {T Q : Int} (hT : T + 1000000 ≤ 1000000000) (hQ : Q + 1000 ≤ 1000000000) (hQ0 : 0 ≤ Q) (hL : LI w T Q) (nxt : ∀ (k' n' : Nat) (w' : St), k' ≤ k + 1 → n' ≤ n + 6 → LI w' (T + 1000000) (Q + 1000) → J E z k' n' 920 [(0, .ref b), (1, .ref (E.2.2.2 0 0)), (2, .ref (E.2.2.2 18 0)), (3, .ref (E.2.2.2 26 0)), (4, .int (iI i))] [] (cells E w')) : J E z k n 192 [(0, .ref b), (1, .ref (E.2.2.2 0 0)), (2, .ref (E.2.2.2 18 0)), (3, .ref (E.2.2.2 26 0)), (4, .int (iI i))] [] (cells E w) := by
  rcases o_poke (l := zl z) (E := E) hl0 hL (a := (xs (i + 1).toNat).toInt) (v := (xs (i + 2).toNat).toInt) (i32_in _) with ⟨d1, d2, w1, σ', hd1, hd2, hF, hM, h0, w', ew, hL'⟩ | ⟨d2, c, nm, σ', hd2, hcc, hT', hM, h0, w', ew, hL'⟩
  · skip
    refine j_aload_n X rfl d_L_law_192 ?_
    refine j_aload_n X rfl d_L_law_193 ?_
    refine j_iload X rfl d_L_law_194 ?_
    refine j_iconst X d_L_law_196 ?_
    refine j_iadd X d_L_law_197 ?_
    refine j_sld X hX hb hbA hN (by omega) d_L_law_198 ?_
    refine j_aload_n X rfl d_L_law_199 ?_
    refine j_iload X rfl d_L_law_200 ?_
    refine j_iconst X d_L_law_202 ?_
    refine j_iadd X d_L_law_203 ?_
    refine j_sld X hX hb hbA hN (by omega) d_L_law_204 ?_
    refine j_cSW X mcw_poke yo_L_poke rfl rfl hz (l_poke_s hd1 hF) rfl rfl rfl (Nat.le_of_ble_eq_true rfl) ⟨by omega, by omega⟩ d_L_law_205 (fun v' W hW => ?_)
    obtain ⟨rfl, rfl⟩ := hW
    refine j_istore X (zlt hn rfl) d_L_law_208 ?_
    change J E z k n 210 [(0, .ref b), (1, .ref (E.2.2.2 0 0)), (2, .ref (E.2.2.2 18 0)), (3, .ref (E.2.2.2 26 0)), (4, .int (iI i)), (5, .int (iI 0))] [] (cells E w1)
    refine j_aload_n X rfl d_L_law_210 ?_
    refine j_aload_n X rfl d_L_law_211 ?_
    refine j_iload X rfl d_L_law_212 ?_
    refine j_iconst X d_L_law_214 ?_
    refine j_iadd X d_L_law_215 ?_
    refine j_sld X hX hb hbA hN (by omega) d_L_law_216 ?_
    refine j_aload_n X rfl d_L_law_217 ?_
    refine j_iload X rfl d_L_law_218 ?_
    refine j_iconst X d_L_law_220 ?_
    refine j_iadd X d_L_law_221 ?_
    refine j_sld X hX hb hbA hN (by omega) d_L_law_222 ?_
    refine v_L_71 X hz hM rfl (blt12 hd2) rfl (Nat.le_of_ble_eq_true rfl) ⟨by omega, by omega⟩ d_L_law_223 ?_
    refine j_aload_n X rfl d_L_law_226 ?_
    refine v_L_64 X hz (c_M_thrown (zl z) E σ') rfl rfl rfl (Nat.le_of_ble_eq_true rfl) ⟨by omega, by omega⟩ d_L_law_227 ?_
    refine j_topi (congrArg iI h0) ?_
    refine j_iload X rfl d_L_law_230 ?_
    refine j_icmp_eq X (by decide) (by decide) d_L_law_232 (tgt := 237) rfl (fun _ => ?_) (fun h => absurd rfl h)
    refine j_goto X d_L_law_237 (tgt := 920) rfl ?_
    rw [← ew]
    exact j_drop 5 (nxt _ _ w' (by omega) (by omega) (li_le hL' (by omega) (by omega)))
  · rcases hcc with ⟨rfl, rfl⟩ | hcc
    · skip
      refine j_aload_n X rfl d_L_law_192 ?_
      refine j_aload_n X rfl d_L_law_193 ?_
      refine j_iload X rfl d_L_law_194 ?_
      refine j_iconst X d_L_law_196 ?_
      refine j_iadd X d_L_law_197 ?_
      refine j_sld X hX hb hbA hN (by omega) d_L_law_198 ?_
      refine j_aload_n X rfl d_L_law_199 ?_
      refine j_iload X rfl d_L_law_200 ?_
      refine j_iconst X d_L_law_202 ?_
      refine j_iadd X d_L_law_203 ?_
      refine j_sld X hX hb hbA hN (by omega) d_L_law_204 ?_
      refine j_cSW X mcw_poke yo_L_poke rfl rfl hz (l_poke_x hT') rfl rfl rfl (Nat.le_of_ble_eq_true rfl) ⟨by omega, by omega⟩ d_L_law_205 (fun v' W hW => ?_)
      obtain ⟨rfl, rfl⟩ := hW
      refine j_istore X (zlt hn rfl) d_L_law_208 ?_
      change J E z (k + 1) (n + 6) 210 [(0, .ref b), (1, .ref (E.2.2.2 0 0)), (2, .ref (E.2.2.2 18 0)), (3, .ref (E.2.2.2 26 0)), (4, .int (iI i)), (5, .int (iI 1))] [] (cells E w)
      refine j_aload_n X rfl d_L_law_210 ?_
      refine j_aload_n X rfl d_L_law_211 ?_
      refine j_iload X rfl d_L_law_212 ?_
      refine j_iconst X d_L_law_214 ?_
      refine j_iadd X d_L_law_215 ?_
      refine j_sld X hX hb hbA hN (by omega) d_L_law_216 ?_
      refine j_aload_n X rfl d_L_law_217 ?_
      refine j_iload X rfl d_L_law_218 ?_
      refine j_iconst X d_L_law_220 ?_
      refine j_iadd X d_L_law_221 ?_
      refine j_sld X hX hb hbA hN (by omega) d_L_law_222 ?_
      refine v_L_71 X hz hM rfl (blt12 hd2) rfl (Nat.le_of_ble_eq_true rfl) ⟨by omega, by omega⟩ d_L_law_223 ?_
      refine j_aload_n X rfl d_L_law_226 ?_
      refine v_L_64 X hz (c_M_thrown (zl z) E σ') rfl rfl rfl (Nat.le_of_ble_eq_true rfl) ⟨by omega, by omega⟩ d_L_law_227 ?_
      refine j_topi (congrArg iI h0) ?_
      refine j_iload X rfl d_L_law_230 ?_
      refine j_icmp_eq X (by decide) (by decide) d_L_law_232 (tgt := 237) rfl (fun _ => ?_) (fun h => absurd rfl h)
      refine j_goto X d_L_law_237 (tgt := 920) rfl ?_
      rw [← ew]
      exact j_drop 5 (nxt _ _ w' (by omega) (by omega) (li_le hL' (by omega) (by omega)))
    · exact absurd hcc.1 id

set_option maxRecDepth 100000 in
set_option maxHeartbeats 4000000 in
theorem law_peek {E : eT} {z : zT} (X : Cx E z code R_L) (hz : zR z = rmD 12 601024 7293034) (hl0 : (zl z).stackTraces = false) (hn : zn z = 7) {b N : Nat} {xs : Nat → Int32} (hX : va_X b N xs (zs z) (zs z).heap) (hb : b < (zs z).heap.size) (hbA : ¬ zA E b) (hN : N ≤ 2048) {k n : Nat} (hk : k ≤ 10000) (hnn : n ≤ 100000) {i : Int} (hi : 0 ≤ i ∧ i + 3 < N) {w : St} {T Q : Int} (hT : T + 1000000 ≤ 1000000000) (hQ : Q + 1000 ≤ 1000000000) (hQ0 : 0 ≤ Q) (hL : LI w T Q) (nxt : ∀ (k' n' : Nat) (w' : St), k' ≤ k + 1 → n' ≤ n + 6 → LI w' (T + 1000000) (Q + 1000) → J E z k' n' 920 [(0, .ref b), (1, .ref (E.2.2.2 0 0)), (2, .ref (E.2.2.2 18 0)), (3, .ref (E.2.2.2 26 0)), (4, .int (iI i))] [] (cells E w')) : J E z k n 240 [(0, .ref b), (1, .ref (E.2.2.2 0 0)), (2, .ref (E.2.2.2 18 0)), (3, .ref (E.2.2.2 26 0)), (4, .int (iI i))] [] (cells E w) := by
  rcases o_peek (l := zl z) (E := E) hl0 hL (i32_in (xs (i + 1).toNat)) with ⟨d1, d2, v, w1, σ', hd1, hd2, hF, hv, hM, h0, h26, w', ew, hL'⟩ | ⟨d2, c, bb, nm, σ', hd2, hcc, hT', hM, h0, w', ew, hL'⟩
  · skip
    refine j_aload_n X rfl d_L_law_240 ?_
    refine j_aload_n X rfl d_L_law_241 ?_
    refine j_iload X rfl d_L_law_242 ?_
    refine j_iconst X d_L_law_244 ?_
    refine j_iadd X d_L_law_245 ?_
    refine j_sld X hX hb hbA hN (by omega) d_L_law_246 ?_
    refine j_aload_n X rfl d_L_law_247 ?_
    refine j_cSW X mcw_peek yo_L_peek rfl rfl hz (l_peek_s hd1 hF hv) rfl rfl rfl (Nat.le_of_ble_eq_true rfl) ⟨by omega, by omega⟩ d_L_law_248 (fun v' W hW => ?_)
    obtain ⟨rfl, rfl⟩ := hW
    refine j_istore X (zlt hn rfl) d_L_law_251 ?_
    change J E z k n 253 [(0, .ref b), (1, .ref (E.2.2.2 0 0)), (2, .ref (E.2.2.2 18 0)), (3, .ref (E.2.2.2 26 0)), (4, .int (iI i)), (5, .int (iI 0))] [] (cells E (up w1 26 0 0 v))
    refine j_aload_n X rfl d_L_law_253 ?_
    refine j_aload_n X rfl d_L_law_254 ?_
    refine j_iload X rfl d_L_law_255 ?_
    refine j_iconst X d_L_law_257 ?_
    refine j_iadd X d_L_law_258 ?_
    refine j_sld X hX hb hbA hN (by omega) d_L_law_259 ?_
    refine v_L_75 X hz hM rfl (blt12 hd2) rfl (Nat.le_of_ble_eq_true rfl) ⟨by omega, by omega⟩ d_L_law_260 ?_
    refine j_istore X (zlt hn rfl) d_L_law_263 ?_
    change J E z k n 265 [(0, .ref b), (1, .ref (E.2.2.2 0 0)), (2, .ref (E.2.2.2 18 0)), (3, .ref (E.2.2.2 26 0)), (4, .int (iI i)), (5, .int (iI 0)), (6, .int (iI v))] [] (cells E σ')
    refine j_aload_n X rfl d_L_law_265 ?_
    refine v_L_64 X hz (c_M_thrown (zl z) E σ') rfl rfl rfl (Nat.le_of_ble_eq_true rfl) ⟨by omega, by omega⟩ d_L_law_266 ?_
    refine j_topi (congrArg iI h0) ?_
    refine j_iload X rfl d_L_law_269 ?_
    refine j_icmp_eq X (by decide) (by decide) d_L_law_271 (tgt := 276) rfl (fun _ => ?_) (fun h => absurd rfl h)
    refine j_iload X rfl d_L_law_276 ?_
    refine j_if_ne X (by decide) d_L_law_278 (tgt := 293) rfl (fun h => absurd rfl h) (fun _ => ?_)
    refine j_aload_n X rfl d_L_law_281 ?_
    refine j_iconst X d_L_law_282 ?_
    refine j_lald X (okC1 rfl) (fun _ => rfl) rfl (by decide) d_L_law_283 ?_
    refine j_topl (congrArg iL h26) ?_
    refine j_iload X rfl d_L_law_284 ?_
    refine j_i2l X (by omega) d_L_law_286 ?_
    refine j_lcmp X (by omega) (by omega) d_L_law_287 ?_
    refine j_topi (congrArg iI (cmp_0 _)) ?_
    refine j_if_eq X (by decide) d_L_law_288 (tgt := 293) rfl (fun _ => ?_) (fun h => absurd rfl h)
    refine j_goto X d_L_law_293 (tgt := 920) rfl ?_
    rw [← ew]
    exact j_drop 5 (nxt _ _ w' (by omega) (by omega) (li_le hL' (by omega) (by omega)))
  · rcases hcc with ⟨rfl, rfl⟩ | hcc
    · skip
      refine j_aload_n X rfl d_L_law_240 ?_
      refine j_aload_n X rfl d_L_law_241 ?_
      refine j_iload X rfl d_L_law_242 ?_
      refine j_iconst X d_L_law_244 ?_
      refine j_iadd X d_L_law_245 ?_
      refine j_sld X hX hb hbA hN (by omega) d_L_law_246 ?_
      refine j_aload_n X rfl d_L_law_247 ?_
      refine j_cSW X mcw_peek yo_L_peek rfl rfl hz (l_peek_x hT') rfl rfl rfl (Nat.le_of_ble_eq_true rfl) ⟨by omega, by omega⟩ d_L_law_248 (fun v' W hW => ?_)
      obtain ⟨rfl, rfl⟩ := hW
      refine j_istore X (zlt hn rfl) d_L_law_251 ?_
      change J E z (k + 1) (n + 6) 253 [(0, .ref b), (1, .ref (E.2.2.2 0 0)), (2, .ref (E.2.2.2 18 0)), (3, .ref (E.2.2.2 26 0)), (4, .int (iI i)), (5, .int (iI 1))] [] (cells E w)
      refine j_aload_n X rfl d_L_law_253 ?_
      refine j_aload_n X rfl d_L_law_254 ?_
      refine j_iload X rfl d_L_law_255 ?_
      refine j_iconst X d_L_law_257 ?_
      refine j_iadd X d_L_law_258 ?_
      refine j_sld X hX hb hbA hN (by omega) d_L_law_259 ?_
      refine v_L_75 X hz hM rfl (blt12 hd2) rfl (Nat.le_of_ble_eq_true rfl) ⟨by omega, by omega⟩ d_L_law_260 ?_
      refine j_istore X (zlt hn rfl) d_L_law_263 ?_
      change J E z (k + 1) (n + 6) 265 [(0, .ref b), (1, .ref (E.2.2.2 0 0)), (2, .ref (E.2.2.2 18 0)), (3, .ref (E.2.2.2 26 0)), (4, .int (iI i)), (5, .int (iI 1)), (6, .int (iI bb))] [] (cells E σ')
      refine j_aload_n X rfl d_L_law_265 ?_
      refine v_L_64 X hz (c_M_thrown (zl z) E σ') rfl rfl rfl (Nat.le_of_ble_eq_true rfl) ⟨by omega, by omega⟩ d_L_law_266 ?_
      refine j_topi (congrArg iI h0) ?_
      refine j_iload X rfl d_L_law_269 ?_
      refine j_icmp_eq X (by decide) (by decide) d_L_law_271 (tgt := 276) rfl (fun _ => ?_) (fun h => absurd rfl h)
      refine j_iload X rfl d_L_law_276 ?_
      refine j_if_ne X (by decide) d_L_law_278 (tgt := 293) rfl (fun _ => ?_) (fun h => absurd h (by decide))
      refine j_goto X d_L_law_293 (tgt := 920) rfl ?_
      rw [← ew]
      exact j_drop 5 (nxt _ _ w' (by omega) (by omega) (li_le hL' (by omega) (by omega)))
    · exact absurd hcc.1 id

set_option maxRecDepth 100000 in
set_option maxHeartbeats 4000000 in
theorem law_start {E : eT} {z : zT} (X : Cx E z code R_L) (hz : zR z = rmD 12 601024 7293034) (hl0 : (zl z).stackTraces = false) (hn : zn z = 7) {b N : Nat} {xs : Nat → Int32} (hX : va_X b N xs (zs z) (zs z).heap) (hb : b < (zs z).heap.size) (hbA : ¬ zA E b) (hN : N ≤ 2048) {k n : Nat} (hk : k ≤ 10000) (hnn : n ≤ 100000) {i : Int} (hi : 0 ≤ i ∧ i + 3 < N) {w : St} {T Q : Int} (hT : T + 1000000 ≤ 1000000000) (hQ : Q + 1000 ≤ 1000000000) (hQ0 : 0 ≤ Q) (hL : LI w T Q) (nxt : ∀ (k' n' : Nat) (w' : St), k' ≤ k + 1 → n' ≤ n + 6 → LI w' (T + 1000000) (Q + 1000) → J E z k' n' 920 [(0, .ref b), (1, .ref (E.2.2.2 0 0)), (2, .ref (E.2.2.2 18 0)), (3, .ref (E.2.2.2 26 0)), (4, .int (iI i))] [] (cells E w')) : J E z k n 296 [(0, .ref b), (1, .ref (E.2.2.2 0 0)), (2, .ref (E.2.2.2 18 0)), (3, .ref (E.2.2.2 26 0)), (4, .int (iI i))] [] (cells E w) := by
  obtain ⟨v, w1, hF, hv, oo, hC, hO⟩ := o_start (l := zl z) (E := E) hL hT hQ hQ0
  refine j_aload_n X rfl d_L_law_296 ?_
  refine v_L_76 X hz hF rfl rfl rfl (Nat.le_of_ble_eq_true rfl) ⟨by omega, by omega⟩ d_L_law_297 ?_
  refine j_aload_n X rfl d_L_law_300 ?_
  refine j_cV X mc_L_79 yo_M_start rfl (cl_get (okC1 rfl)) rfl hz hC rfl rfl rfl (Nat.le_of_ble_eq_true rfl) ⟨by omega, by omega⟩ d_L_law_301 (fun v' W hW => ?_)
  obtain ⟨rfl, w', rfl, hL'⟩ := hO v' W hW
  exact j_icmp_eq X hv hv d_L_law_304 (tgt := 920) rfl (fun _ => nxt _ _ w' (by omega) (by omega) hL') (fun h => absurd rfl h)

set_option maxRecDepth 100000 in
set_option maxHeartbeats 4000000 in
theorem law_look {E : eT} {z : zT} (X : Cx E z code R_L) (hz : zR z = rmD 12 601024 7293034) (hl0 : (zl z).stackTraces = false) (hn : zn z = 7) {b N : Nat} {xs : Nat → Int32} (hX : va_X b N xs (zs z) (zs z).heap) (hb : b < (zs z).heap.size) (hbA : ¬ zA E b) (hN : N ≤ 2048) {k n : Nat} (hk : k ≤ 10000) (hnn : n ≤ 100000) {i : Int} (hi : 0 ≤ i ∧ i + 3 < N) {w : St} {T Q : Int} (hT : T + 1000000 ≤ 1000000000) (hQ : Q + 1000 ≤ 1000000000) (hQ0 : 0 ≤ Q) (hL : LI w T Q) (nxt : ∀ (k' n' : Nat) (w' : St), k' ≤ k + 1 → n' ≤ n + 6 → LI w' (T + 1000000) (Q + 1000) → J E z k' n' 920 [(0, .ref b), (1, .ref (E.2.2.2 0 0)), (2, .ref (E.2.2.2 18 0)), (3, .ref (E.2.2.2 26 0)), (4, .int (iI i))] [] (cells E w')) : J E z k n 309 [(0, .ref b), (1, .ref (E.2.2.2 0 0)), (2, .ref (E.2.2.2 18 0)), (3, .ref (E.2.2.2 26 0)), (4, .int (iI i))] [] (cells E w) := by
  rcases o_look (l := zl z) (E := E) hl0 hL (by omega) (a := (xs (i + 1).toNat).toInt) (i32_in _) with ⟨d1, d2, v, w1, σ', hd1, hd2, hF, hv, hM, h0, h26, w', ew, hL'⟩ | ⟨d2, c, bb, nm, σ', hd2, hcc, hT', hM, h0, w', ew, hL'⟩
  · skip
    refine j_aload_n X rfl d_L_law_309 ?_
    refine j_aload_n X rfl d_L_law_310 ?_
    refine j_iload X rfl d_L_law_311 ?_
    refine j_iconst X d_L_law_313 ?_
    refine j_iadd X d_L_law_314 ?_
    refine j_sld X hX hb hbA hN (by omega) d_L_law_315 ?_
    refine j_aload_n X rfl d_L_law_316 ?_
    refine j_cSW X mcw_look yo_L_look rfl rfl hz (l_look_s hd1 hF hv) rfl rfl rfl (Nat.le_of_ble_eq_true rfl) ⟨by omega, by omega⟩ d_L_law_317 (fun v' W hW => ?_)
    obtain ⟨rfl, rfl⟩ := hW
    refine j_istore X (zlt hn rfl) d_L_law_320 ?_
    change J E z k n 322 [(0, .ref b), (1, .ref (E.2.2.2 0 0)), (2, .ref (E.2.2.2 18 0)), (3, .ref (E.2.2.2 26 0)), (4, .int (iI i)), (5, .int (iI 0))] [] (cells E (up w1 26 0 0 v))
    refine j_aload_n X rfl d_L_law_322 ?_
    refine j_aload_n X rfl d_L_law_323 ?_
    refine j_iload X rfl d_L_law_324 ?_
    refine j_iconst X d_L_law_326 ?_
    refine j_iadd X d_L_law_327 ?_
    refine j_sld X hX hb hbA hN (by omega) d_L_law_328 ?_
    refine v_L_82 X hz hM rfl (blt12 hd2) rfl (Nat.le_of_ble_eq_true rfl) ⟨by omega, by omega⟩ d_L_law_329 ?_
    refine j_istore X (zlt hn rfl) d_L_law_332 ?_
    change J E z k n 334 [(0, .ref b), (1, .ref (E.2.2.2 0 0)), (2, .ref (E.2.2.2 18 0)), (3, .ref (E.2.2.2 26 0)), (4, .int (iI i)), (5, .int (iI 0)), (6, .int (iI v))] [] (cells E σ')
    refine j_aload_n X rfl d_L_law_334 ?_
    refine v_L_64 X hz (c_M_thrown (zl z) E σ') rfl rfl rfl (Nat.le_of_ble_eq_true rfl) ⟨by omega, by omega⟩ d_L_law_335 ?_
    refine j_topi (congrArg iI h0) ?_
    refine j_iload X rfl d_L_law_338 ?_
    refine j_icmp_eq X (by decide) (by decide) d_L_law_340 (tgt := 345) rfl (fun _ => ?_) (fun h => absurd rfl h)
    refine j_iload X rfl d_L_law_345 ?_
    refine j_if_ne X (by decide) d_L_law_347 (tgt := 362) rfl (fun h => absurd rfl h) (fun _ => ?_)
    refine j_aload_n X rfl d_L_law_350 ?_
    refine j_iconst X d_L_law_351 ?_
    refine j_lald X (okC1 rfl) (fun _ => rfl) rfl (by decide) d_L_law_352 ?_
    refine j_topl (congrArg iL h26) ?_
    refine j_iload X rfl d_L_law_353 ?_
    refine j_i2l X (by omega) d_L_law_355 ?_
    refine j_lcmp X (by omega) (by omega) d_L_law_356 ?_
    refine j_topi (congrArg iI (cmp_0 _)) ?_
    refine j_if_eq X (by decide) d_L_law_357 (tgt := 362) rfl (fun _ => ?_) (fun h => absurd rfl h)
    refine j_goto X d_L_law_362 (tgt := 920) rfl ?_
    rw [← ew]
    exact j_drop 5 (nxt _ _ w' (by omega) (by omega) (li_le hL' (by omega) (by omega)))
  · rcases hcc with ⟨rfl, rfl⟩ | hcc
    · skip
      refine j_aload_n X rfl d_L_law_309 ?_
      refine j_aload_n X rfl d_L_law_310 ?_
      refine j_iload X rfl d_L_law_311 ?_
      refine j_iconst X d_L_law_313 ?_
      refine j_iadd X d_L_law_314 ?_
      refine j_sld X hX hb hbA hN (by omega) d_L_law_315 ?_
      refine j_aload_n X rfl d_L_law_316 ?_
      refine j_cSW X mcw_look yo_L_look rfl rfl hz (l_look_x hT') rfl rfl rfl (Nat.le_of_ble_eq_true rfl) ⟨by omega, by omega⟩ d_L_law_317 (fun v' W hW => ?_)
      obtain ⟨rfl, rfl⟩ := hW
      refine j_istore X (zlt hn rfl) d_L_law_320 ?_
      change J E z (k + 1) (n + 6) 322 [(0, .ref b), (1, .ref (E.2.2.2 0 0)), (2, .ref (E.2.2.2 18 0)), (3, .ref (E.2.2.2 26 0)), (4, .int (iI i)), (5, .int (iI 1))] [] (cells E w)
      refine j_aload_n X rfl d_L_law_322 ?_
      refine j_aload_n X rfl d_L_law_323 ?_
      refine j_iload X rfl d_L_law_324 ?_
      refine j_iconst X d_L_law_326 ?_
      refine j_iadd X d_L_law_327 ?_
      refine j_sld X hX hb hbA hN (by omega) d_L_law_328 ?_
      refine v_L_82 X hz hM rfl (blt12 hd2) rfl (Nat.le_of_ble_eq_true rfl) ⟨by omega, by omega⟩ d_L_law_329 ?_
      refine j_istore X (zlt hn rfl) d_L_law_332 ?_
      change J E z (k + 1) (n + 6) 334 [(0, .ref b), (1, .ref (E.2.2.2 0 0)), (2, .ref (E.2.2.2 18 0)), (3, .ref (E.2.2.2 26 0)), (4, .int (iI i)), (5, .int (iI 1)), (6, .int (iI bb))] [] (cells E σ')
      refine j_aload_n X rfl d_L_law_334 ?_
      refine v_L_64 X hz (c_M_thrown (zl z) E σ') rfl rfl rfl (Nat.le_of_ble_eq_true rfl) ⟨by omega, by omega⟩ d_L_law_335 ?_
      refine j_topi (congrArg iI h0) ?_
      refine j_iload X rfl d_L_law_338 ?_
      refine j_icmp_eq X (by decide) (by decide) d_L_law_340 (tgt := 345) rfl (fun _ => ?_) (fun h => absurd rfl h)
      refine j_iload X rfl d_L_law_345 ?_
      refine j_if_ne X (by decide) d_L_law_347 (tgt := 362) rfl (fun _ => ?_) (fun h => absurd h (by decide))
      refine j_goto X d_L_law_362 (tgt := 920) rfl ?_
      rw [← ew]
      exact j_drop 5 (nxt _ _ w' (by omega) (by omega) (li_le hL' (by omega) (by omega)))
    · exact absurd hcc.1 id

set_option maxRecDepth 100000 in
set_option maxHeartbeats 4000000 in
theorem law_clock {E : eT} {z : zT} (X : Cx E z code R_L) (hz : zR z = rmD 12 601024 7293034) (hl0 : (zl z).stackTraces = false) (hn : zn z = 7) {b N : Nat} {xs : Nat → Int32} (hX : va_X b N xs (zs z) (zs z).heap) (hb : b < (zs z).heap.size) (hbA : ¬ zA E b) (hN : N ≤ 2048) {k n : Nat} (hk : k ≤ 10000) (hnn : n ≤ 100000) {i : Int} (hi : 0 ≤ i ∧ i + 3 < N) {w : St} {T Q : Int} (hT : T + 1000000 ≤ 1000000000) (hQ : Q + 1000 ≤ 1000000000) (hQ0 : 0 ≤ Q) (hL : LI w T Q) (nxt : ∀ (k' n' : Nat) (w' : St), k' ≤ k + 1 → n' ≤ n + 6 → LI w' (T + 1000000) (Q + 1000) → J E z k' n' 920 [(0, .ref b), (1, .ref (E.2.2.2 0 0)), (2, .ref (E.2.2.2 18 0)), (3, .ref (E.2.2.2 26 0)), (4, .int (iI i))] [] (cells E w')) : J E z k n 365 [(0, .ref b), (1, .ref (E.2.2.2 0 0)), (2, .ref (E.2.2.2 18 0)), (3, .ref (E.2.2.2 26 0)), (4, .int (iI i))] [] (cells E w) := by
  obtain ⟨hF, hM, w', ew, hL'⟩ := o_clock (l := zl z) (E := E) hL
  have ht0 := hL.1.1.2.2.2.1.2.1
  have ht1 := hL.1.2.1
  refine j_aload_n X rfl d_L_law_365 ?_
  refine v_L_83 X hz hF rfl rfl rfl (Nat.le_of_ble_eq_true rfl) ⟨by omega, by omega⟩ d_L_law_366 ?_
  refine j_aload_n X rfl d_L_law_369 ?_
  refine v_L_87 X hz hM rfl rfl rfl (Nat.le_of_ble_eq_true rfl) ⟨by omega, by omega⟩ d_L_law_370 ?_
  rw [← ew]
  refine j_lcmp X (by omega) (by omega) d_L_law_373 ?_
  refine j_topi (congrArg iI (cmp_0 _)) ?_
  exact j_if_eq X (by decide) d_L_law_374 (tgt := 920) rfl (fun _ => nxt _ _ w' (by omega) (by omega) (li_le hL' (by omega) (by omega))) (fun h => absurd rfl h)

set_option maxRecDepth 100000 in
set_option maxHeartbeats 4000000 in
theorem law_record {E : eT} {z : zT} (X : Cx E z code R_L) (hz : zR z = rmD 12 601024 7293034) (hl0 : (zl z).stackTraces = false) (hn : zn z = 7) {b N : Nat} {xs : Nat → Int32} (hX : va_X b N xs (zs z) (zs z).heap) (hb : b < (zs z).heap.size) (hbA : ¬ zA E b) (hN : N ≤ 2048) {k n : Nat} (hk : k ≤ 10000) (hnn : n ≤ 100000) {i : Int} (hi : 0 ≤ i ∧ i + 3 < N) {w : St} {T Q : Int} (hT : T + 1000000 ≤ 1000000000) (hQ : Q + 1000 ≤ 1000000000) (hQ0 : 0 ≤ Q) (hL : LI w T Q) (nxt : ∀ (k' n' : Nat) (w' : St), k' ≤ k + 1 → n' ≤ n + 6 → LI w' (T + 1000000) (Q + 1000) → J E z k' n' 920 [(0, .ref b), (1, .ref (E.2.2.2 0 0)), (2, .ref (E.2.2.2 18 0)), (3, .ref (E.2.2.2 26 0)), (4, .int (iI i))] [] (cells E w')) : J E z k n 379 [(0, .ref b), (1, .ref (E.2.2.2 0 0)), (2, .ref (E.2.2.2 18 0)), (3, .ref (E.2.2.2 26 0)), (4, .int (iI i))] [] (cells E w) := by
  rcases o_record (l := zl z) (E := E) hl0 hL (i32_in (xs (i + 1).toNat)) (i32_in (xs (i + 2).toNat)) (i32_in (xs (i + 3).toNat)) with ⟨d1, d2, v, w1, σ', hd1, hd2, hF, hv, hM, h0, h26, w', ew, hL'⟩ | ⟨d2, c, bb, nm, σ', hd2, hcc, hT', hM, h0, w', ew, hL'⟩
  · skip
    refine j_aload_n X rfl d_L_law_379 ?_
    refine j_aload_n X rfl d_L_law_380 ?_
    refine j_iload X rfl d_L_law_381 ?_
    refine j_iconst X d_L_law_383 ?_
    refine j_iadd X d_L_law_384 ?_
    refine j_sld X hX hb hbA hN (by omega) d_L_law_385 ?_
    refine j_aload_n X rfl d_L_law_386 ?_
    refine j_iload X rfl d_L_law_387 ?_
    refine j_iconst X d_L_law_389 ?_
    refine j_iadd X d_L_law_390 ?_
    refine j_sld X hX hb hbA hN (by omega) d_L_law_391 ?_
    refine j_aload_n X rfl d_L_law_392 ?_
    refine j_iload X rfl d_L_law_393 ?_
    refine j_iconst X d_L_law_395 ?_
    refine j_iadd X d_L_law_396 ?_
    refine j_sld X hX hb hbA hN (by omega) d_L_law_397 ?_
    refine j_aload_n X rfl d_L_law_398 ?_
    refine j_cSW X mcw_record yo_L_record rfl rfl hz (l_record_s hd1 hF hv) rfl rfl rfl (Nat.le_of_ble_eq_true rfl) ⟨by omega, by omega⟩ d_L_law_399 (fun v' W hW => ?_)
    obtain ⟨rfl, rfl⟩ := hW
    refine j_istore X (zlt hn rfl) d_L_law_402 ?_
    change J E z k n 404 [(0, .ref b), (1, .ref (E.2.2.2 0 0)), (2, .ref (E.2.2.2 18 0)), (3, .ref (E.2.2.2 26 0)), (4, .int (iI i)), (5, .int (iI 0))] [] (cells E (up w1 26 0 0 v))
    refine j_aload_n X rfl d_L_law_404 ?_
    refine j_aload_n X rfl d_L_law_405 ?_
    refine j_iload X rfl d_L_law_406 ?_
    refine j_iconst X d_L_law_408 ?_
    refine j_iadd X d_L_law_409 ?_
    refine j_sld X hX hb hbA hN (by omega) d_L_law_410 ?_
    refine j_aload_n X rfl d_L_law_411 ?_
    refine j_iload X rfl d_L_law_412 ?_
    refine j_iconst X d_L_law_414 ?_
    refine j_iadd X d_L_law_415 ?_
    refine j_sld X hX hb hbA hN (by omega) d_L_law_416 ?_
    refine j_aload_n X rfl d_L_law_417 ?_
    refine j_iload X rfl d_L_law_418 ?_
    refine j_iconst X d_L_law_420 ?_
    refine j_iadd X d_L_law_421 ?_
    refine j_sld X hX hb hbA hN (by omega) d_L_law_422 ?_
    refine v_L_90 X hz hM rfl (blt12 hd2) rfl (Nat.le_of_ble_eq_true rfl) ⟨by omega, by omega⟩ d_L_law_423 ?_
    refine j_istore X (zlt hn rfl) d_L_law_426 ?_
    change J E z k n 428 [(0, .ref b), (1, .ref (E.2.2.2 0 0)), (2, .ref (E.2.2.2 18 0)), (3, .ref (E.2.2.2 26 0)), (4, .int (iI i)), (5, .int (iI 0)), (6, .int (iI v))] [] (cells E σ')
    refine j_aload_n X rfl d_L_law_428 ?_
    refine v_L_64 X hz (c_M_thrown (zl z) E σ') rfl rfl rfl (Nat.le_of_ble_eq_true rfl) ⟨by omega, by omega⟩ d_L_law_429 ?_
    refine j_topi (congrArg iI h0) ?_
    refine j_iload X rfl d_L_law_432 ?_
    refine j_icmp_eq X (by decide) (by decide) d_L_law_434 (tgt := 439) rfl (fun _ => ?_) (fun h => absurd rfl h)
    refine j_iload X rfl d_L_law_439 ?_
    refine j_if_ne X (by decide) d_L_law_441 (tgt := 456) rfl (fun h => absurd rfl h) (fun _ => ?_)
    refine j_aload_n X rfl d_L_law_444 ?_
    refine j_iconst X d_L_law_445 ?_
    refine j_lald X (okC1 rfl) (fun _ => rfl) rfl (by decide) d_L_law_446 ?_
    refine j_topl (congrArg iL h26) ?_
    refine j_iload X rfl d_L_law_447 ?_
    refine j_i2l X (by omega) d_L_law_449 ?_
    refine j_lcmp X (by omega) (by omega) d_L_law_450 ?_
    refine j_topi (congrArg iI (cmp_0 _)) ?_
    refine j_if_eq X (by decide) d_L_law_451 (tgt := 456) rfl (fun _ => ?_) (fun h => absurd rfl h)
    refine j_goto X d_L_law_456 (tgt := 920) rfl ?_
    rw [← ew]
    exact j_drop 5 (nxt _ _ w' (by omega) (by omega) (li_le hL' (by omega) (by omega)))
  · rcases hcc with ⟨rfl, rfl⟩ | hcc
    · skip
      refine j_aload_n X rfl d_L_law_379 ?_
      refine j_aload_n X rfl d_L_law_380 ?_
      refine j_iload X rfl d_L_law_381 ?_
      refine j_iconst X d_L_law_383 ?_
      refine j_iadd X d_L_law_384 ?_
      refine j_sld X hX hb hbA hN (by omega) d_L_law_385 ?_
      refine j_aload_n X rfl d_L_law_386 ?_
      refine j_iload X rfl d_L_law_387 ?_
      refine j_iconst X d_L_law_389 ?_
      refine j_iadd X d_L_law_390 ?_
      refine j_sld X hX hb hbA hN (by omega) d_L_law_391 ?_
      refine j_aload_n X rfl d_L_law_392 ?_
      refine j_iload X rfl d_L_law_393 ?_
      refine j_iconst X d_L_law_395 ?_
      refine j_iadd X d_L_law_396 ?_
      refine j_sld X hX hb hbA hN (by omega) d_L_law_397 ?_
      refine j_aload_n X rfl d_L_law_398 ?_
      refine j_cSW X mcw_record yo_L_record rfl rfl hz (l_record_x hT') rfl rfl rfl (Nat.le_of_ble_eq_true rfl) ⟨by omega, by omega⟩ d_L_law_399 (fun v' W hW => ?_)
      obtain ⟨rfl, rfl⟩ := hW
      refine j_istore X (zlt hn rfl) d_L_law_402 ?_
      change J E z (k + 1) (n + 6) 404 [(0, .ref b), (1, .ref (E.2.2.2 0 0)), (2, .ref (E.2.2.2 18 0)), (3, .ref (E.2.2.2 26 0)), (4, .int (iI i)), (5, .int (iI 1))] [] (cells E w)
      refine j_aload_n X rfl d_L_law_404 ?_
      refine j_aload_n X rfl d_L_law_405 ?_
      refine j_iload X rfl d_L_law_406 ?_
      refine j_iconst X d_L_law_408 ?_
      refine j_iadd X d_L_law_409 ?_
      refine j_sld X hX hb hbA hN (by omega) d_L_law_410 ?_
      refine j_aload_n X rfl d_L_law_411 ?_
      refine j_iload X rfl d_L_law_412 ?_
      refine j_iconst X d_L_law_414 ?_
      refine j_iadd X d_L_law_415 ?_
      refine j_sld X hX hb hbA hN (by omega) d_L_law_416 ?_
      refine j_aload_n X rfl d_L_law_417 ?_
      refine j_iload X rfl d_L_law_418 ?_
      refine j_iconst X d_L_law_420 ?_
      refine j_iadd X d_L_law_421 ?_
      refine j_sld X hX hb hbA hN (by omega) d_L_law_422 ?_
      refine v_L_90 X hz hM rfl (blt12 hd2) rfl (Nat.le_of_ble_eq_true rfl) ⟨by omega, by omega⟩ d_L_law_423 ?_
      refine j_istore X (zlt hn rfl) d_L_law_426 ?_
      change J E z (k + 1) (n + 6) 428 [(0, .ref b), (1, .ref (E.2.2.2 0 0)), (2, .ref (E.2.2.2 18 0)), (3, .ref (E.2.2.2 26 0)), (4, .int (iI i)), (5, .int (iI 1)), (6, .int (iI bb))] [] (cells E σ')
      refine j_aload_n X rfl d_L_law_428 ?_
      refine v_L_64 X hz (c_M_thrown (zl z) E σ') rfl rfl rfl (Nat.le_of_ble_eq_true rfl) ⟨by omega, by omega⟩ d_L_law_429 ?_
      refine j_topi (congrArg iI h0) ?_
      refine j_iload X rfl d_L_law_432 ?_
      refine j_icmp_eq X (by decide) (by decide) d_L_law_434 (tgt := 439) rfl (fun _ => ?_) (fun h => absurd rfl h)
      refine j_iload X rfl d_L_law_439 ?_
      refine j_if_ne X (by decide) d_L_law_441 (tgt := 456) rfl (fun _ => ?_) (fun h => absurd h (by decide))
      refine j_goto X d_L_law_456 (tgt := 920) rfl ?_
      rw [← ew]
      exact j_drop 5 (nxt _ _ w' (by omega) (by omega) (li_le hL' (by omega) (by omega)))
    · exact absurd hcc.1 id

set_option maxRecDepth 100000 in
set_option maxHeartbeats 4000000 in
theorem law_byteOf {E : eT} {z : zT} (X : Cx E z code R_L) (hz : zR z = rmD 12 601024 7293034) (hl0 : (zl z).stackTraces = false) (hn : zn z = 7) {b N : Nat} {xs : Nat → Int32} (hX : va_X b N xs (zs z) (zs z).heap) (hb : b < (zs z).heap.size) (hbA : ¬ zA E b) (hN : N ≤ 2048) {k n : Nat} (hk : k ≤ 10000) (hnn : n ≤ 100000) {i : Int} (hi : 0 ≤ i ∧ i + 3 < N) {w : St} {T Q : Int} (hT : T + 1000000 ≤ 1000000000) (hQ : Q + 1000 ≤ 1000000000) (hQ0 : 0 ≤ Q) (hL : LI w T Q) (nxt : ∀ (k' n' : Nat) (w' : St), k' ≤ k + 1 → n' ≤ n + 6 → LI w' (T + 1000000) (Q + 1000) → J E z k' n' 920 [(0, .ref b), (1, .ref (E.2.2.2 0 0)), (2, .ref (E.2.2.2 18 0)), (3, .ref (E.2.2.2 26 0)), (4, .int (iI i))] [] (cells E w')) : J E z k n 459 [(0, .ref b), (1, .ref (E.2.2.2 0 0)), (2, .ref (E.2.2.2 18 0)), (3, .ref (E.2.2.2 26 0)), (4, .int (iI i))] [] (cells E w) := by
  rcases o_byteOf (l := zl z) (E := E) hl0 hL (i32_in (xs (i + 1).toNat)) (i32_in (xs (i + 2).toNat)) (i32_in (xs (i + 3).toNat)) with ⟨d1, d2, v, w1, σ', hd1, hd2, hF, hv, hM, h0, h26, w', ew, hL'⟩ | ⟨d2, c, bb, nm, σ', hd2, hcc, hT', hM, h0, w', ew, hL'⟩
  · skip
    refine j_aload_n X rfl d_L_law_459 ?_
    refine j_aload_n X rfl d_L_law_460 ?_
    refine j_iload X rfl d_L_law_461 ?_
    refine j_iconst X d_L_law_463 ?_
    refine j_iadd X d_L_law_464 ?_
    refine j_sld X hX hb hbA hN (by omega) d_L_law_465 ?_
    refine j_aload_n X rfl d_L_law_466 ?_
    refine j_iload X rfl d_L_law_467 ?_
    refine j_iconst X d_L_law_469 ?_
    refine j_iadd X d_L_law_470 ?_
    refine j_sld X hX hb hbA hN (by omega) d_L_law_471 ?_
    refine j_aload_n X rfl d_L_law_472 ?_
    refine j_iload X rfl d_L_law_473 ?_
    refine j_iconst X d_L_law_475 ?_
    refine j_iadd X d_L_law_476 ?_
    refine j_sld X hX hb hbA hN (by omega) d_L_law_477 ?_
    refine j_aload_n X rfl d_L_law_478 ?_
    refine j_cSW X mcw_byteOf yo_L_byteOf rfl rfl hz (l_byteOf_s hd1 hF hv) rfl rfl rfl (Nat.le_of_ble_eq_true rfl) ⟨by omega, by omega⟩ d_L_law_479 (fun v' W hW => ?_)
    obtain ⟨rfl, rfl⟩ := hW
    refine j_istore X (zlt hn rfl) d_L_law_482 ?_
    change J E z k n 484 [(0, .ref b), (1, .ref (E.2.2.2 0 0)), (2, .ref (E.2.2.2 18 0)), (3, .ref (E.2.2.2 26 0)), (4, .int (iI i)), (5, .int (iI 0))] [] (cells E (up w1 26 0 0 v))
    refine j_aload_n X rfl d_L_law_484 ?_
    refine j_aload_n X rfl d_L_law_485 ?_
    refine j_iload X rfl d_L_law_486 ?_
    refine j_iconst X d_L_law_488 ?_
    refine j_iadd X d_L_law_489 ?_
    refine j_sld X hX hb hbA hN (by omega) d_L_law_490 ?_
    refine j_aload_n X rfl d_L_law_491 ?_
    refine j_iload X rfl d_L_law_492 ?_
    refine j_iconst X d_L_law_494 ?_
    refine j_iadd X d_L_law_495 ?_
    refine j_sld X hX hb hbA hN (by omega) d_L_law_496 ?_
    refine j_aload_n X rfl d_L_law_497 ?_
    refine j_iload X rfl d_L_law_498 ?_
    refine j_iconst X d_L_law_500 ?_
    refine j_iadd X d_L_law_501 ?_
    refine j_sld X hX hb hbA hN (by omega) d_L_law_502 ?_
    refine v_L_93 X hz hM rfl (blt12 hd2) rfl (Nat.le_of_ble_eq_true rfl) ⟨by omega, by omega⟩ d_L_law_503 ?_
    refine j_istore X (zlt hn rfl) d_L_law_506 ?_
    change J E z k n 508 [(0, .ref b), (1, .ref (E.2.2.2 0 0)), (2, .ref (E.2.2.2 18 0)), (3, .ref (E.2.2.2 26 0)), (4, .int (iI i)), (5, .int (iI 0)), (6, .int (iI v))] [] (cells E σ')
    refine j_aload_n X rfl d_L_law_508 ?_
    refine v_L_64 X hz (c_M_thrown (zl z) E σ') rfl rfl rfl (Nat.le_of_ble_eq_true rfl) ⟨by omega, by omega⟩ d_L_law_509 ?_
    refine j_topi (congrArg iI h0) ?_
    refine j_iload X rfl d_L_law_512 ?_
    refine j_icmp_eq X (by decide) (by decide) d_L_law_514 (tgt := 519) rfl (fun _ => ?_) (fun h => absurd rfl h)
    refine j_iload X rfl d_L_law_519 ?_
    refine j_if_ne X (by decide) d_L_law_521 (tgt := 536) rfl (fun h => absurd rfl h) (fun _ => ?_)
    refine j_aload_n X rfl d_L_law_524 ?_
    refine j_iconst X d_L_law_525 ?_
    refine j_lald X (okC1 rfl) (fun _ => rfl) rfl (by decide) d_L_law_526 ?_
    refine j_topl (congrArg iL h26) ?_
    refine j_iload X rfl d_L_law_527 ?_
    refine j_i2l X (by omega) d_L_law_529 ?_
    refine j_lcmp X (by omega) (by omega) d_L_law_530 ?_
    refine j_topi (congrArg iI (cmp_0 _)) ?_
    refine j_if_eq X (by decide) d_L_law_531 (tgt := 536) rfl (fun _ => ?_) (fun h => absurd rfl h)
    refine j_goto X d_L_law_536 (tgt := 920) rfl ?_
    rw [← ew]
    exact j_drop 5 (nxt _ _ w' (by omega) (by omega) (li_le hL' (by omega) (by omega)))
  · rcases hcc with ⟨rfl, rfl⟩ | hcc
    · skip
      refine j_aload_n X rfl d_L_law_459 ?_
      refine j_aload_n X rfl d_L_law_460 ?_
      refine j_iload X rfl d_L_law_461 ?_
      refine j_iconst X d_L_law_463 ?_
      refine j_iadd X d_L_law_464 ?_
      refine j_sld X hX hb hbA hN (by omega) d_L_law_465 ?_
      refine j_aload_n X rfl d_L_law_466 ?_
      refine j_iload X rfl d_L_law_467 ?_
      refine j_iconst X d_L_law_469 ?_
      refine j_iadd X d_L_law_470 ?_
      refine j_sld X hX hb hbA hN (by omega) d_L_law_471 ?_
      refine j_aload_n X rfl d_L_law_472 ?_
      refine j_iload X rfl d_L_law_473 ?_
      refine j_iconst X d_L_law_475 ?_
      refine j_iadd X d_L_law_476 ?_
      refine j_sld X hX hb hbA hN (by omega) d_L_law_477 ?_
      refine j_aload_n X rfl d_L_law_478 ?_
      refine j_cSW X mcw_byteOf yo_L_byteOf rfl rfl hz (l_byteOf_x hT') rfl rfl rfl (Nat.le_of_ble_eq_true rfl) ⟨by omega, by omega⟩ d_L_law_479 (fun v' W hW => ?_)
      obtain ⟨rfl, rfl⟩ := hW
      refine j_istore X (zlt hn rfl) d_L_law_482 ?_
      change J E z (k + 1) (n + 6) 484 [(0, .ref b), (1, .ref (E.2.2.2 0 0)), (2, .ref (E.2.2.2 18 0)), (3, .ref (E.2.2.2 26 0)), (4, .int (iI i)), (5, .int (iI 1))] [] (cells E w)
      refine j_aload_n X rfl d_L_law_484 ?_
      refine j_aload_n X rfl d_L_law_485 ?_
      refine j_iload X rfl d_L_law_486 ?_
      refine j_iconst X d_L_law_488 ?_
      refine j_iadd X d_L_law_489 ?_
      refine j_sld X hX hb hbA hN (by omega) d_L_law_490 ?_
      refine j_aload_n X rfl d_L_law_491 ?_
      refine j_iload X rfl d_L_law_492 ?_
      refine j_iconst X d_L_law_494 ?_
      refine j_iadd X d_L_law_495 ?_
      refine j_sld X hX hb hbA hN (by omega) d_L_law_496 ?_
      refine j_aload_n X rfl d_L_law_497 ?_
      refine j_iload X rfl d_L_law_498 ?_
      refine j_iconst X d_L_law_500 ?_
      refine j_iadd X d_L_law_501 ?_
      refine j_sld X hX hb hbA hN (by omega) d_L_law_502 ?_
      refine v_L_93 X hz hM rfl (blt12 hd2) rfl (Nat.le_of_ble_eq_true rfl) ⟨by omega, by omega⟩ d_L_law_503 ?_
      refine j_istore X (zlt hn rfl) d_L_law_506 ?_
      change J E z (k + 1) (n + 6) 508 [(0, .ref b), (1, .ref (E.2.2.2 0 0)), (2, .ref (E.2.2.2 18 0)), (3, .ref (E.2.2.2 26 0)), (4, .int (iI i)), (5, .int (iI 1)), (6, .int (iI bb))] [] (cells E σ')
      refine j_aload_n X rfl d_L_law_508 ?_
      refine v_L_64 X hz (c_M_thrown (zl z) E σ') rfl rfl rfl (Nat.le_of_ble_eq_true rfl) ⟨by omega, by omega⟩ d_L_law_509 ?_
      refine j_topi (congrArg iI h0) ?_
      refine j_iload X rfl d_L_law_512 ?_
      refine j_icmp_eq X (by decide) (by decide) d_L_law_514 (tgt := 519) rfl (fun _ => ?_) (fun h => absurd rfl h)
      refine j_iload X rfl d_L_law_519 ?_
      refine j_if_ne X (by decide) d_L_law_521 (tgt := 536) rfl (fun _ => ?_) (fun h => absurd h (by decide))
      refine j_goto X d_L_law_536 (tgt := 920) rfl ?_
      rw [← ew]
      exact j_drop 5 (nxt _ _ w' (by omega) (by omega) (li_le hL' (by omega) (by omega)))
    · exact absurd hcc.1 id

set_option maxRecDepth 100000 in
set_option maxHeartbeats 4000000 in
theorem law_spoil {E : eT} {z : zT} (X : Cx E z code R_L) (hz : zR z = rmD 12 601024 7293034) (hl0 : (zl z).stackTraces = false) (hn : zn z = 7) {b N : Nat} {xs : Nat → Int32} (hX : va_X b N xs (zs z) (zs z).heap) (hb : b < (zs z).heap.size) (hbA : ¬ zA E b) (hN : N ≤ 2048) {k n : Nat} (hk : k ≤ 10000) (hnn : n ≤ 100000) {i : Int} (hi : 0 ≤ i ∧ i + 3 < N) {w : St} {T Q : Int} (hT : T + 1000000 ≤ 1000000000) (hQ : Q + 1000 ≤ 1000000000) (hQ0 : 0 ≤ Q) (hL : LI w T Q) (nxt : ∀ (k' n' : Nat) (w' : St), k' ≤ k + 1 → n' ≤ n + 6 → LI w' (T + 1000000) (Q + 1000) → J E z k' n' 920 [(0, .ref b), (1, .ref (E.2.2.2 0 0)), (2, .ref (E.2.2.2 18 0)), (3, .ref (E.2.2.2 26 0)), (4, .int (iI i))] [] (cells E w')) : J E z k n 539 [(0, .ref b), (1, .ref (E.2.2.2 0 0)), (2, .ref (E.2.2.2 18 0)), (3, .ref (E.2.2.2 26 0)), (4, .int (iI i))] [] (cells E w) := by
  rcases o_spoil (l := zl z) (E := E) hl0 hL (i32_in (xs (i + 1).toNat)) (i32_in (xs (i + 2).toNat)) with ⟨d1, d2, w1, σ', hd1, hd2, hF, hM, h0, w', ew, hL'⟩ | ⟨d2, c, nm, σ', hd2, hcc, hT', hM, h0, w', ew, hL'⟩
  · skip
    refine j_aload_n X rfl d_L_law_539 ?_
    refine j_aload_n X rfl d_L_law_540 ?_
    refine j_iload X rfl d_L_law_541 ?_
    refine j_iconst X d_L_law_543 ?_
    refine j_iadd X d_L_law_544 ?_
    refine j_sld X hX hb hbA hN (by omega) d_L_law_545 ?_
    refine j_aload_n X rfl d_L_law_546 ?_
    refine j_iload X rfl d_L_law_547 ?_
    refine j_iconst X d_L_law_549 ?_
    refine j_iadd X d_L_law_550 ?_
    refine j_sld X hX hb hbA hN (by omega) d_L_law_551 ?_
    refine j_cSW X mcw_spoil yo_L_spoil rfl rfl hz (l_spoil_s hd1 hF) rfl rfl rfl (Nat.le_of_ble_eq_true rfl) ⟨by omega, by omega⟩ d_L_law_552 (fun v' W hW => ?_)
    obtain ⟨rfl, rfl⟩ := hW
    refine j_istore X (zlt hn rfl) d_L_law_555 ?_
    change J E z k n 557 [(0, .ref b), (1, .ref (E.2.2.2 0 0)), (2, .ref (E.2.2.2 18 0)), (3, .ref (E.2.2.2 26 0)), (4, .int (iI i)), (5, .int (iI 0))] [] (cells E w1)
    refine j_aload_n X rfl d_L_law_557 ?_
    refine j_aload_n X rfl d_L_law_558 ?_
    refine j_iload X rfl d_L_law_559 ?_
    refine j_iconst X d_L_law_561 ?_
    refine j_iadd X d_L_law_562 ?_
    refine j_sld X hX hb hbA hN (by omega) d_L_law_563 ?_
    refine j_aload_n X rfl d_L_law_564 ?_
    refine j_iload X rfl d_L_law_565 ?_
    refine j_iconst X d_L_law_567 ?_
    refine j_iadd X d_L_law_568 ?_
    refine j_sld X hX hb hbA hN (by omega) d_L_law_569 ?_
    refine v_L_96 X hz hM rfl (blt12 hd2) rfl (Nat.le_of_ble_eq_true rfl) ⟨by omega, by omega⟩ d_L_law_570 ?_
    refine j_aload_n X rfl d_L_law_573 ?_
    refine v_L_64 X hz (c_M_thrown (zl z) E σ') rfl rfl rfl (Nat.le_of_ble_eq_true rfl) ⟨by omega, by omega⟩ d_L_law_574 ?_
    refine j_topi (congrArg iI h0) ?_
    refine j_iload X rfl d_L_law_577 ?_
    refine j_icmp_eq X (by decide) (by decide) d_L_law_579 (tgt := 584) rfl (fun _ => ?_) (fun h => absurd rfl h)
    refine j_goto X d_L_law_584 (tgt := 920) rfl ?_
    rw [← ew]
    exact j_drop 5 (nxt _ _ w' (by omega) (by omega) (li_le hL' (by omega) (by omega)))
  · rcases hcc with ⟨rfl, rfl⟩ | hcc
    · skip
      refine j_aload_n X rfl d_L_law_539 ?_
      refine j_aload_n X rfl d_L_law_540 ?_
      refine j_iload X rfl d_L_law_541 ?_
      refine j_iconst X d_L_law_543 ?_
      refine j_iadd X d_L_law_544 ?_
      refine j_sld X hX hb hbA hN (by omega) d_L_law_545 ?_
      refine j_aload_n X rfl d_L_law_546 ?_
      refine j_iload X rfl d_L_law_547 ?_
      refine j_iconst X d_L_law_549 ?_
      refine j_iadd X d_L_law_550 ?_
      refine j_sld X hX hb hbA hN (by omega) d_L_law_551 ?_
      refine j_cSW X mcw_spoil yo_L_spoil rfl rfl hz (l_spoil_x hT') rfl rfl rfl (Nat.le_of_ble_eq_true rfl) ⟨by omega, by omega⟩ d_L_law_552 (fun v' W hW => ?_)
      obtain ⟨rfl, rfl⟩ := hW
      refine j_istore X (zlt hn rfl) d_L_law_555 ?_
      change J E z (k + 1) (n + 6) 557 [(0, .ref b), (1, .ref (E.2.2.2 0 0)), (2, .ref (E.2.2.2 18 0)), (3, .ref (E.2.2.2 26 0)), (4, .int (iI i)), (5, .int (iI 1))] [] (cells E w)
      refine j_aload_n X rfl d_L_law_557 ?_
      refine j_aload_n X rfl d_L_law_558 ?_
      refine j_iload X rfl d_L_law_559 ?_
      refine j_iconst X d_L_law_561 ?_
      refine j_iadd X d_L_law_562 ?_
      refine j_sld X hX hb hbA hN (by omega) d_L_law_563 ?_
      refine j_aload_n X rfl d_L_law_564 ?_
      refine j_iload X rfl d_L_law_565 ?_
      refine j_iconst X d_L_law_567 ?_
      refine j_iadd X d_L_law_568 ?_
      refine j_sld X hX hb hbA hN (by omega) d_L_law_569 ?_
      refine v_L_96 X hz hM rfl (blt12 hd2) rfl (Nat.le_of_ble_eq_true rfl) ⟨by omega, by omega⟩ d_L_law_570 ?_
      refine j_aload_n X rfl d_L_law_573 ?_
      refine v_L_64 X hz (c_M_thrown (zl z) E σ') rfl rfl rfl (Nat.le_of_ble_eq_true rfl) ⟨by omega, by omega⟩ d_L_law_574 ?_
      refine j_topi (congrArg iI h0) ?_
      refine j_iload X rfl d_L_law_577 ?_
      refine j_icmp_eq X (by decide) (by decide) d_L_law_579 (tgt := 584) rfl (fun _ => ?_) (fun h => absurd rfl h)
      refine j_goto X d_L_law_584 (tgt := 920) rfl ?_
      rw [← ew]
      exact j_drop 5 (nxt _ _ w' (by omega) (by omega) (li_le hL' (by omega) (by omega)))
    · exact absurd hcc.1 id

set_option maxRecDepth 100000 in
set_option maxHeartbeats 4000000 in
theorem law_allocate {E : eT} {z : zT} (X : Cx E z code R_L) (hz : zR z = rmD 12 601024 7293034) (hl0 : (zl z).stackTraces = false) (hn : zn z = 7) {b N : Nat} {xs : Nat → Int32} (hX : va_X b N xs (zs z) (zs z).heap) (hb : b < (zs z).heap.size) (hbA : ¬ zA E b) (hN : N ≤ 2048) {k n : Nat} (hk : k ≤ 10000) (hnn : n ≤ 100000) {i : Int} (hi : 0 ≤ i ∧ i + 3 < N) {w : St} {T Q : Int} (hT : T + 1000000 ≤ 1000000000) (hQ : Q + 1000 ≤ 1000000000) (hQ0 : 0 ≤ Q) (hL : LI w T Q) (nxt : ∀ (k' n' : Nat) (w' : St), k' ≤ k + 1 → n' ≤ n + 6 → LI w' (T + 1000000) (Q + 1000) → J E z k' n' 920 [(0, .ref b), (1, .ref (E.2.2.2 0 0)), (2, .ref (E.2.2.2 18 0)), (3, .ref (E.2.2.2 26 0)), (4, .int (iI i))] [] (cells E w')) : J E z k n 587 [(0, .ref b), (1, .ref (E.2.2.2 0 0)), (2, .ref (E.2.2.2 18 0)), (3, .ref (E.2.2.2 26 0)), (4, .int (iI i))] [] (cells E w) := by
  rcases o_allocate (l := zl z) (E := E) hl0 hL (i32_in (xs (i + 1).toNat)) (i32_in (xs (i + 2).toNat)) with ⟨d1, d2, v, w1, σ', hd1, hd2, hF, hv, hM, h0, h26, w', ew, hL'⟩ | ⟨d2, c, bb, nm, σ', hd2, hcc, hT', hM, h0, w', ew, hL'⟩
  · skip
    refine j_aload_n X rfl d_L_law_587 ?_
    refine j_aload_n X rfl d_L_law_588 ?_
    refine j_iload X rfl d_L_law_589 ?_
    refine j_iconst X d_L_law_591 ?_
    refine j_iadd X d_L_law_592 ?_
    refine j_sld X hX hb hbA hN (by omega) d_L_law_593 ?_
    refine j_aload_n X rfl d_L_law_594 ?_
    refine j_iload X rfl d_L_law_595 ?_
    refine j_iconst X d_L_law_597 ?_
    refine j_iadd X d_L_law_598 ?_
    refine j_sld X hX hb hbA hN (by omega) d_L_law_599 ?_
    refine j_aload_n X rfl d_L_law_600 ?_
    refine j_cSW X mcw_allocate yo_L_allocate rfl rfl hz (l_allocate_s hd1 hF hv) rfl rfl rfl (Nat.le_of_ble_eq_true rfl) ⟨by omega, by omega⟩ d_L_law_601 (fun v' W hW => ?_)
    obtain ⟨rfl, rfl⟩ := hW
    refine j_istore X (zlt hn rfl) d_L_law_604 ?_
    change J E z k n 606 [(0, .ref b), (1, .ref (E.2.2.2 0 0)), (2, .ref (E.2.2.2 18 0)), (3, .ref (E.2.2.2 26 0)), (4, .int (iI i)), (5, .int (iI 0))] [] (cells E (up w1 26 0 0 v))
    refine j_aload_n X rfl d_L_law_606 ?_
    refine j_aload_n X rfl d_L_law_607 ?_
    refine j_iload X rfl d_L_law_608 ?_
    refine j_iconst X d_L_law_610 ?_
    refine j_iadd X d_L_law_611 ?_
    refine j_sld X hX hb hbA hN (by omega) d_L_law_612 ?_
    refine j_aload_n X rfl d_L_law_613 ?_
    refine j_iload X rfl d_L_law_614 ?_
    refine j_iconst X d_L_law_616 ?_
    refine j_iadd X d_L_law_617 ?_
    refine j_sld X hX hb hbA hN (by omega) d_L_law_618 ?_
    refine v_L_100 X hz hM rfl (blt12 hd2) rfl (Nat.le_of_ble_eq_true rfl) ⟨by omega, by omega⟩ d_L_law_619 ?_
    refine j_istore X (zlt hn rfl) d_L_law_622 ?_
    change J E z k n 624 [(0, .ref b), (1, .ref (E.2.2.2 0 0)), (2, .ref (E.2.2.2 18 0)), (3, .ref (E.2.2.2 26 0)), (4, .int (iI i)), (5, .int (iI 0)), (6, .int (iI v))] [] (cells E σ')
    refine j_aload_n X rfl d_L_law_624 ?_
    refine v_L_64 X hz (c_M_thrown (zl z) E σ') rfl rfl rfl (Nat.le_of_ble_eq_true rfl) ⟨by omega, by omega⟩ d_L_law_625 ?_
    refine j_topi (congrArg iI h0) ?_
    refine j_iload X rfl d_L_law_628 ?_
    refine j_icmp_eq X (by decide) (by decide) d_L_law_630 (tgt := 635) rfl (fun _ => ?_) (fun h => absurd rfl h)
    refine j_iload X rfl d_L_law_635 ?_
    refine j_if_ne X (by decide) d_L_law_637 (tgt := 652) rfl (fun h => absurd rfl h) (fun _ => ?_)
    refine j_aload_n X rfl d_L_law_640 ?_
    refine j_iconst X d_L_law_641 ?_
    refine j_lald X (okC1 rfl) (fun _ => rfl) rfl (by decide) d_L_law_642 ?_
    refine j_topl (congrArg iL h26) ?_
    refine j_iload X rfl d_L_law_643 ?_
    refine j_i2l X (by omega) d_L_law_645 ?_
    refine j_lcmp X (by omega) (by omega) d_L_law_646 ?_
    refine j_topi (congrArg iI (cmp_0 _)) ?_
    refine j_if_eq X (by decide) d_L_law_647 (tgt := 652) rfl (fun _ => ?_) (fun h => absurd rfl h)
    refine j_goto X d_L_law_652 (tgt := 920) rfl ?_
    rw [← ew]
    exact j_drop 5 (nxt _ _ w' (by omega) (by omega) (li_le hL' (by omega) (by omega)))
  · rcases hcc with ⟨rfl, rfl⟩ | hcc
    · skip
      refine j_aload_n X rfl d_L_law_587 ?_
      refine j_aload_n X rfl d_L_law_588 ?_
      refine j_iload X rfl d_L_law_589 ?_
      refine j_iconst X d_L_law_591 ?_
      refine j_iadd X d_L_law_592 ?_
      refine j_sld X hX hb hbA hN (by omega) d_L_law_593 ?_
      refine j_aload_n X rfl d_L_law_594 ?_
      refine j_iload X rfl d_L_law_595 ?_
      refine j_iconst X d_L_law_597 ?_
      refine j_iadd X d_L_law_598 ?_
      refine j_sld X hX hb hbA hN (by omega) d_L_law_599 ?_
      refine j_aload_n X rfl d_L_law_600 ?_
      refine j_cSW X mcw_allocate yo_L_allocate rfl rfl hz (l_allocate_x hT') rfl rfl rfl (Nat.le_of_ble_eq_true rfl) ⟨by omega, by omega⟩ d_L_law_601 (fun v' W hW => ?_)
      obtain ⟨rfl, rfl⟩ := hW
      refine j_istore X (zlt hn rfl) d_L_law_604 ?_
      change J E z (k + 1) (n + 6) 606 [(0, .ref b), (1, .ref (E.2.2.2 0 0)), (2, .ref (E.2.2.2 18 0)), (3, .ref (E.2.2.2 26 0)), (4, .int (iI i)), (5, .int (iI 1))] [] (cells E w)
      refine j_aload_n X rfl d_L_law_606 ?_
      refine j_aload_n X rfl d_L_law_607 ?_
      refine j_iload X rfl d_L_law_608 ?_
      refine j_iconst X d_L_law_610 ?_
      refine j_iadd X d_L_law_611 ?_
      refine j_sld X hX hb hbA hN (by omega) d_L_law_612 ?_
      refine j_aload_n X rfl d_L_law_613 ?_
      refine j_iload X rfl d_L_law_614 ?_
      refine j_iconst X d_L_law_616 ?_
      refine j_iadd X d_L_law_617 ?_
      refine j_sld X hX hb hbA hN (by omega) d_L_law_618 ?_
      refine v_L_100 X hz hM rfl (blt12 hd2) rfl (Nat.le_of_ble_eq_true rfl) ⟨by omega, by omega⟩ d_L_law_619 ?_
      refine j_istore X (zlt hn rfl) d_L_law_622 ?_
      change J E z (k + 1) (n + 6) 624 [(0, .ref b), (1, .ref (E.2.2.2 0 0)), (2, .ref (E.2.2.2 18 0)), (3, .ref (E.2.2.2 26 0)), (4, .int (iI i)), (5, .int (iI 1)), (6, .int (iI bb))] [] (cells E σ')
      refine j_aload_n X rfl d_L_law_624 ?_
      refine v_L_64 X hz (c_M_thrown (zl z) E σ') rfl rfl rfl (Nat.le_of_ble_eq_true rfl) ⟨by omega, by omega⟩ d_L_law_625 ?_
      refine j_topi (congrArg iI h0) ?_
      refine j_iload X rfl d_L_law_628 ?_
      refine j_icmp_eq X (by decide) (by decide) d_L_law_630 (tgt := 635) rfl (fun _ => ?_) (fun h => absurd rfl h)
      refine j_iload X rfl d_L_law_635 ?_
      refine j_if_ne X (by decide) d_L_law_637 (tgt := 652) rfl (fun _ => ?_) (fun h => absurd h (by decide))
      refine j_goto X d_L_law_652 (tgt := 920) rfl ?_
      rw [← ew]
      exact j_drop 5 (nxt _ _ w' (by omega) (by omega) (li_le hL' (by omega) (by omega)))
    · obtain ⟨-, rfl, rfl⟩ := hcc
      refine j_aload_n X rfl d_L_law_587 ?_
      refine j_aload_n X rfl d_L_law_588 ?_
      refine j_iload X rfl d_L_law_589 ?_
      refine j_iconst X d_L_law_591 ?_
      refine j_iadd X d_L_law_592 ?_
      refine j_sld X hX hb hbA hN (by omega) d_L_law_593 ?_
      refine j_aload_n X rfl d_L_law_594 ?_
      refine j_iload X rfl d_L_law_595 ?_
      refine j_iconst X d_L_law_597 ?_
      refine j_iadd X d_L_law_598 ?_
      refine j_sld X hX hb hbA hN (by omega) d_L_law_599 ?_
      refine j_aload_n X rfl d_L_law_600 ?_
      refine j_cSW X mcw_allocate yo_L_allocate rfl rfl hz (l_allocate_y hT') rfl rfl rfl (Nat.le_of_ble_eq_true rfl) ⟨by omega, by omega⟩ d_L_law_601 (fun v' W hW => ?_)
      obtain ⟨rfl, rfl⟩ := hW
      refine j_istore X (zlt hn rfl) d_L_law_604 ?_
      change J E z (k + 1) (n + 6) 606 [(0, .ref b), (1, .ref (E.2.2.2 0 0)), (2, .ref (E.2.2.2 18 0)), (3, .ref (E.2.2.2 26 0)), (4, .int (iI i)), (5, .int (iI 2))] [] (cells E w)
      refine j_aload_n X rfl d_L_law_606 ?_
      refine j_aload_n X rfl d_L_law_607 ?_
      refine j_iload X rfl d_L_law_608 ?_
      refine j_iconst X d_L_law_610 ?_
      refine j_iadd X d_L_law_611 ?_
      refine j_sld X hX hb hbA hN (by omega) d_L_law_612 ?_
      refine j_aload_n X rfl d_L_law_613 ?_
      refine j_iload X rfl d_L_law_614 ?_
      refine j_iconst X d_L_law_616 ?_
      refine j_iadd X d_L_law_617 ?_
      refine j_sld X hX hb hbA hN (by omega) d_L_law_618 ?_
      refine v_L_100 X hz hM rfl (blt12 hd2) rfl (Nat.le_of_ble_eq_true rfl) ⟨by omega, by omega⟩ d_L_law_619 ?_
      refine j_istore X (zlt hn rfl) d_L_law_622 ?_
      change J E z (k + 1) (n + 6) 624 [(0, .ref b), (1, .ref (E.2.2.2 0 0)), (2, .ref (E.2.2.2 18 0)), (3, .ref (E.2.2.2 26 0)), (4, .int (iI i)), (5, .int (iI 2)), (6, .int (iI bb))] [] (cells E σ')
      refine j_aload_n X rfl d_L_law_624 ?_
      refine v_L_64 X hz (c_M_thrown (zl z) E σ') rfl rfl rfl (Nat.le_of_ble_eq_true rfl) ⟨by omega, by omega⟩ d_L_law_625 ?_
      refine j_topi (congrArg iI h0) ?_
      refine j_iload X rfl d_L_law_628 ?_
      refine j_icmp_eq X (by decide) (by decide) d_L_law_630 (tgt := 635) rfl (fun _ => ?_) (fun h => absurd rfl h)
      refine j_iload X rfl d_L_law_635 ?_
      refine j_if_ne X (by decide) d_L_law_637 (tgt := 652) rfl (fun _ => ?_) (fun h => absurd h (by decide))
      refine j_goto X d_L_law_652 (tgt := 920) rfl ?_
      rw [← ew]
      exact j_drop 5 (nxt _ _ w' (by omega) (by omega) (li_le hL' (by omega) (by omega)))

set_option maxRecDepth 100000 in
set_option maxHeartbeats 4000000 in
theorem law_scratch {E : eT} {z : zT} (X : Cx E z code R_L) (hz : zR z = rmD 12 601024 7293034) (hl0 : (zl z).stackTraces = false) (hn : zn z = 7) {b N : Nat} {xs : Nat → Int32} (hX : va_X b N xs (zs z) (zs z).heap) (hb : b < (zs z).heap.size) (hbA : ¬ zA E b) (hN : N ≤ 2048) {k n : Nat} (hk : k ≤ 10000) (hnn : n ≤ 100000) {i : Int} (hi : 0 ≤ i ∧ i + 3 < N) {w : St} {T Q : Int} (hT : T + 1000000 ≤ 1000000000) (hQ : Q + 1000 ≤ 1000000000) (hQ0 : 0 ≤ Q) (hL : LI w T Q) (nxt : ∀ (k' n' : Nat) (w' : St), k' ≤ k + 1 → n' ≤ n + 6 → LI w' (T + 1000000) (Q + 1000) → J E z k' n' 920 [(0, .ref b), (1, .ref (E.2.2.2 0 0)), (2, .ref (E.2.2.2 18 0)), (3, .ref (E.2.2.2 26 0)), (4, .int (iI i))] [] (cells E w')) : J E z k n 655 [(0, .ref b), (1, .ref (E.2.2.2 0 0)), (2, .ref (E.2.2.2 18 0)), (3, .ref (E.2.2.2 26 0)), (4, .int (iI i))] [] (cells E w) := by
  rcases o_scratch (l := zl z) (E := E) hl0 hL (i32_in (xs (i + 1).toNat)) with ⟨d1, d2, w1, σ', hd1, hd2, hF, hM, h0, w', ew, hL'⟩ | ⟨d2, c, nm, σ', hd2, hcc, hT', hM, h0, w', ew, hL'⟩
  · skip
    refine j_aload_n X rfl d_L_law_655 ?_
    refine j_aload_n X rfl d_L_law_656 ?_
    refine j_iload X rfl d_L_law_657 ?_
    refine j_iconst X d_L_law_659 ?_
    refine j_iadd X d_L_law_660 ?_
    refine j_sld X hX hb hbA hN (by omega) d_L_law_661 ?_
    refine j_cSW X mcw_scratch yo_L_scratch rfl rfl hz (l_scratch_s hd1 hF) rfl rfl rfl (Nat.le_of_ble_eq_true rfl) ⟨by omega, by omega⟩ d_L_law_662 (fun v' W hW => ?_)
    obtain ⟨rfl, rfl⟩ := hW
    refine j_istore X (zlt hn rfl) d_L_law_665 ?_
    change J E z k n 667 [(0, .ref b), (1, .ref (E.2.2.2 0 0)), (2, .ref (E.2.2.2 18 0)), (3, .ref (E.2.2.2 26 0)), (4, .int (iI i)), (5, .int (iI 0))] [] (cells E w1)
    refine j_aload_n X rfl d_L_law_667 ?_
    refine j_aload_n X rfl d_L_law_668 ?_
    refine j_iload X rfl d_L_law_669 ?_
    refine j_iconst X d_L_law_671 ?_
    refine j_iadd X d_L_law_672 ?_
    refine j_sld X hX hb hbA hN (by omega) d_L_law_673 ?_
    refine v_L_104 X hz hM rfl (blt12 hd2) rfl (Nat.le_of_ble_eq_true rfl) ⟨by omega, by omega⟩ d_L_law_674 ?_
    refine j_aload_n X rfl d_L_law_677 ?_
    refine v_L_64 X hz (c_M_thrown (zl z) E σ') rfl rfl rfl (Nat.le_of_ble_eq_true rfl) ⟨by omega, by omega⟩ d_L_law_678 ?_
    refine j_topi (congrArg iI h0) ?_
    refine j_iload X rfl d_L_law_681 ?_
    refine j_icmp_eq X (by decide) (by decide) d_L_law_683 (tgt := 688) rfl (fun _ => ?_) (fun h => absurd rfl h)
    refine j_goto X d_L_law_688 (tgt := 920) rfl ?_
    rw [← ew]
    exact j_drop 5 (nxt _ _ w' (by omega) (by omega) (li_le hL' (by omega) (by omega)))
  · rcases hcc with ⟨rfl, rfl⟩ | hcc
    · skip
      refine j_aload_n X rfl d_L_law_655 ?_
      refine j_aload_n X rfl d_L_law_656 ?_
      refine j_iload X rfl d_L_law_657 ?_
      refine j_iconst X d_L_law_659 ?_
      refine j_iadd X d_L_law_660 ?_
      refine j_sld X hX hb hbA hN (by omega) d_L_law_661 ?_
      refine j_cSW X mcw_scratch yo_L_scratch rfl rfl hz (l_scratch_x hT') rfl rfl rfl (Nat.le_of_ble_eq_true rfl) ⟨by omega, by omega⟩ d_L_law_662 (fun v' W hW => ?_)
      obtain ⟨rfl, rfl⟩ := hW
      refine j_istore X (zlt hn rfl) d_L_law_665 ?_
      change J E z (k + 1) (n + 6) 667 [(0, .ref b), (1, .ref (E.2.2.2 0 0)), (2, .ref (E.2.2.2 18 0)), (3, .ref (E.2.2.2 26 0)), (4, .int (iI i)), (5, .int (iI 1))] [] (cells E w)
      refine j_aload_n X rfl d_L_law_667 ?_
      refine j_aload_n X rfl d_L_law_668 ?_
      refine j_iload X rfl d_L_law_669 ?_
      refine j_iconst X d_L_law_671 ?_
      refine j_iadd X d_L_law_672 ?_
      refine j_sld X hX hb hbA hN (by omega) d_L_law_673 ?_
      refine v_L_104 X hz hM rfl (blt12 hd2) rfl (Nat.le_of_ble_eq_true rfl) ⟨by omega, by omega⟩ d_L_law_674 ?_
      refine j_aload_n X rfl d_L_law_677 ?_
      refine v_L_64 X hz (c_M_thrown (zl z) E σ') rfl rfl rfl (Nat.le_of_ble_eq_true rfl) ⟨by omega, by omega⟩ d_L_law_678 ?_
      refine j_topi (congrArg iI h0) ?_
      refine j_iload X rfl d_L_law_681 ?_
      refine j_icmp_eq X (by decide) (by decide) d_L_law_683 (tgt := 688) rfl (fun _ => ?_) (fun h => absurd rfl h)
      refine j_goto X d_L_law_688 (tgt := 920) rfl ?_
      rw [← ew]
      exact j_drop 5 (nxt _ _ w' (by omega) (by omega) (li_le hL' (by omega) (by omega)))
    · obtain ⟨-, rfl, rfl⟩ := hcc
      refine j_aload_n X rfl d_L_law_655 ?_
      refine j_aload_n X rfl d_L_law_656 ?_
      refine j_iload X rfl d_L_law_657 ?_
      refine j_iconst X d_L_law_659 ?_
      refine j_iadd X d_L_law_660 ?_
      refine j_sld X hX hb hbA hN (by omega) d_L_law_661 ?_
      refine j_cSW X mcw_scratch yo_L_scratch rfl rfl hz (l_scratch_y hT') rfl rfl rfl (Nat.le_of_ble_eq_true rfl) ⟨by omega, by omega⟩ d_L_law_662 (fun v' W hW => ?_)
      obtain ⟨rfl, rfl⟩ := hW
      refine j_istore X (zlt hn rfl) d_L_law_665 ?_
      change J E z (k + 1) (n + 6) 667 [(0, .ref b), (1, .ref (E.2.2.2 0 0)), (2, .ref (E.2.2.2 18 0)), (3, .ref (E.2.2.2 26 0)), (4, .int (iI i)), (5, .int (iI 2))] [] (cells E w)
      refine j_aload_n X rfl d_L_law_667 ?_
      refine j_aload_n X rfl d_L_law_668 ?_
      refine j_iload X rfl d_L_law_669 ?_
      refine j_iconst X d_L_law_671 ?_
      refine j_iadd X d_L_law_672 ?_
      refine j_sld X hX hb hbA hN (by omega) d_L_law_673 ?_
      refine v_L_104 X hz hM rfl (blt12 hd2) rfl (Nat.le_of_ble_eq_true rfl) ⟨by omega, by omega⟩ d_L_law_674 ?_
      refine j_aload_n X rfl d_L_law_677 ?_
      refine v_L_64 X hz (c_M_thrown (zl z) E σ') rfl rfl rfl (Nat.le_of_ble_eq_true rfl) ⟨by omega, by omega⟩ d_L_law_678 ?_
      refine j_topi (congrArg iI h0) ?_
      refine j_iload X rfl d_L_law_681 ?_
      refine j_icmp_eq X (by decide) (by decide) d_L_law_683 (tgt := 688) rfl (fun _ => ?_) (fun h => absurd rfl h)
      refine j_goto X d_L_law_688 (tgt := 920) rfl ?_
      rw [← ew]
      exact j_drop 5 (nxt _ _ w' (by omega) (by omega) (li_le hL' (by omega) (by omega)))

set_option maxRecDepth 100000 in
set_option maxHeartbeats 4000000 in
theorem law_trackOf {E : eT} {z : zT} (X : Cx E z code R_L) (hz : zR z = rmD 12 601024 7293034) (hl0 : (zl z).stackTraces = false) (hn : zn z = 7) {b N : Nat} {xs : Nat → Int32} (hX : va_X b N xs (zs z) (zs z).heap) (hb : b < (zs z).heap.size) (hbA : ¬ zA E b) (hN : N ≤ 2048) {k n : Nat} (hk : k ≤ 10000) (hnn : n ≤ 100000) {i : Int} (hi : 0 ≤ i ∧ i + 3 < N) {w : St} {T Q : Int} (hT : T + 1000000 ≤ 1000000000) (hQ : Q + 1000 ≤ 1000000000) (hQ0 : 0 ≤ Q) (hL : LI w T Q) (nxt : ∀ (k' n' : Nat) (w' : St), k' ≤ k + 1 → n' ≤ n + 6 → LI w' (T + 1000000) (Q + 1000) → J E z k' n' 920 [(0, .ref b), (1, .ref (E.2.2.2 0 0)), (2, .ref (E.2.2.2 18 0)), (3, .ref (E.2.2.2 26 0)), (4, .int (iI i))] [] (cells E w')) : J E z k n 691 [(0, .ref b), (1, .ref (E.2.2.2 0 0)), (2, .ref (E.2.2.2 18 0)), (3, .ref (E.2.2.2 26 0)), (4, .int (iI i))] [] (cells E w) := by
  rcases o_trackOf (l := zl z) (E := E) hl0 hL (i32_in (xs (i + 1).toNat)) (i32_in (xs (i + 2).toNat)) with ⟨d1, d2, v, w1, σ', hd1, hd2, hF, hv, hM, h0, h26, w', ew, hL'⟩ | ⟨d2, c, bb, nm, σ', hd2, hcc, hT', hM, h0, w', ew, hL'⟩
  · skip
    refine j_aload_n X rfl d_L_law_691 ?_
    refine j_aload_n X rfl d_L_law_692 ?_
    refine j_iload X rfl d_L_law_693 ?_
    refine j_iconst X d_L_law_695 ?_
    refine j_iadd X d_L_law_696 ?_
    refine j_sld X hX hb hbA hN (by omega) d_L_law_697 ?_
    refine j_aload_n X rfl d_L_law_698 ?_
    refine j_iload X rfl d_L_law_699 ?_
    refine j_iconst X d_L_law_701 ?_
    refine j_iadd X d_L_law_702 ?_
    refine j_sld X hX hb hbA hN (by omega) d_L_law_703 ?_
    refine j_aload_n X rfl d_L_law_704 ?_
    refine j_cSW X mcw_trackOf yo_L_trackOf rfl rfl hz (l_trackOf_s hd1 hF hv) rfl rfl rfl (Nat.le_of_ble_eq_true rfl) ⟨by omega, by omega⟩ d_L_law_705 (fun v' W hW => ?_)
    obtain ⟨rfl, rfl⟩ := hW
    refine j_istore X (zlt hn rfl) d_L_law_708 ?_
    change J E z k n 710 [(0, .ref b), (1, .ref (E.2.2.2 0 0)), (2, .ref (E.2.2.2 18 0)), (3, .ref (E.2.2.2 26 0)), (4, .int (iI i)), (5, .int (iI 0))] [] (cells E (up w1 26 0 0 v))
    refine j_aload_n X rfl d_L_law_710 ?_
    refine j_aload_n X rfl d_L_law_711 ?_
    refine j_iload X rfl d_L_law_712 ?_
    refine j_iconst X d_L_law_714 ?_
    refine j_iadd X d_L_law_715 ?_
    refine j_sld X hX hb hbA hN (by omega) d_L_law_716 ?_
    refine j_aload_n X rfl d_L_law_717 ?_
    refine j_iload X rfl d_L_law_718 ?_
    refine j_iconst X d_L_law_720 ?_
    refine j_iadd X d_L_law_721 ?_
    refine j_sld X hX hb hbA hN (by omega) d_L_law_722 ?_
    refine v_L_107 X hz hM rfl (blt12 hd2) rfl (Nat.le_of_ble_eq_true rfl) ⟨by omega, by omega⟩ d_L_law_723 ?_
    refine j_istore X (zlt hn rfl) d_L_law_726 ?_
    change J E z k n 728 [(0, .ref b), (1, .ref (E.2.2.2 0 0)), (2, .ref (E.2.2.2 18 0)), (3, .ref (E.2.2.2 26 0)), (4, .int (iI i)), (5, .int (iI 0)), (6, .int (iI v))] [] (cells E σ')
    refine j_aload_n X rfl d_L_law_728 ?_
    refine v_L_64 X hz (c_M_thrown (zl z) E σ') rfl rfl rfl (Nat.le_of_ble_eq_true rfl) ⟨by omega, by omega⟩ d_L_law_729 ?_
    refine j_topi (congrArg iI h0) ?_
    refine j_iload X rfl d_L_law_732 ?_
    refine j_icmp_eq X (by decide) (by decide) d_L_law_734 (tgt := 739) rfl (fun _ => ?_) (fun h => absurd rfl h)
    refine j_iload X rfl d_L_law_739 ?_
    refine j_if_ne X (by decide) d_L_law_741 (tgt := 756) rfl (fun h => absurd rfl h) (fun _ => ?_)
    refine j_aload_n X rfl d_L_law_744 ?_
    refine j_iconst X d_L_law_745 ?_
    refine j_lald X (okC1 rfl) (fun _ => rfl) rfl (by decide) d_L_law_746 ?_
    refine j_topl (congrArg iL h26) ?_
    refine j_iload X rfl d_L_law_747 ?_
    refine j_i2l X (by omega) d_L_law_749 ?_
    refine j_lcmp X (by omega) (by omega) d_L_law_750 ?_
    refine j_topi (congrArg iI (cmp_0 _)) ?_
    refine j_if_eq X (by decide) d_L_law_751 (tgt := 756) rfl (fun _ => ?_) (fun h => absurd rfl h)
    refine j_goto X d_L_law_756 (tgt := 920) rfl ?_
    rw [← ew]
    exact j_drop 5 (nxt _ _ w' (by omega) (by omega) (li_le hL' (by omega) (by omega)))
  · rcases hcc with ⟨rfl, rfl⟩ | hcc
    · skip
      refine j_aload_n X rfl d_L_law_691 ?_
      refine j_aload_n X rfl d_L_law_692 ?_
      refine j_iload X rfl d_L_law_693 ?_
      refine j_iconst X d_L_law_695 ?_
      refine j_iadd X d_L_law_696 ?_
      refine j_sld X hX hb hbA hN (by omega) d_L_law_697 ?_
      refine j_aload_n X rfl d_L_law_698 ?_
      refine j_iload X rfl d_L_law_699 ?_
      refine j_iconst X d_L_law_701 ?_
      refine j_iadd X d_L_law_702 ?_
      refine j_sld X hX hb hbA hN (by omega) d_L_law_703 ?_
      refine j_aload_n X rfl d_L_law_704 ?_
      refine j_cSW X mcw_trackOf yo_L_trackOf rfl rfl hz (l_trackOf_x hT') rfl rfl rfl (Nat.le_of_ble_eq_true rfl) ⟨by omega, by omega⟩ d_L_law_705 (fun v' W hW => ?_)
      obtain ⟨rfl, rfl⟩ := hW
      refine j_istore X (zlt hn rfl) d_L_law_708 ?_
      change J E z (k + 1) (n + 6) 710 [(0, .ref b), (1, .ref (E.2.2.2 0 0)), (2, .ref (E.2.2.2 18 0)), (3, .ref (E.2.2.2 26 0)), (4, .int (iI i)), (5, .int (iI 1))] [] (cells E w)
      refine j_aload_n X rfl d_L_law_710 ?_
      refine j_aload_n X rfl d_L_law_711 ?_
      refine j_iload X rfl d_L_law_712 ?_
      refine j_iconst X d_L_law_714 ?_
      refine j_iadd X d_L_law_715 ?_
      refine j_sld X hX hb hbA hN (by omega) d_L_law_716 ?_
      refine j_aload_n X rfl d_L_law_717 ?_
      refine j_iload X rfl d_L_law_718 ?_
      refine j_iconst X d_L_law_720 ?_
      refine j_iadd X d_L_law_721 ?_
      refine j_sld X hX hb hbA hN (by omega) d_L_law_722 ?_
      refine v_L_107 X hz hM rfl (blt12 hd2) rfl (Nat.le_of_ble_eq_true rfl) ⟨by omega, by omega⟩ d_L_law_723 ?_
      refine j_istore X (zlt hn rfl) d_L_law_726 ?_
      change J E z (k + 1) (n + 6) 728 [(0, .ref b), (1, .ref (E.2.2.2 0 0)), (2, .ref (E.2.2.2 18 0)), (3, .ref (E.2.2.2 26 0)), (4, .int (iI i)), (5, .int (iI 1)), (6, .int (iI bb))] [] (cells E σ')
      refine j_aload_n X rfl d_L_law_728 ?_
      refine v_L_64 X hz (c_M_thrown (zl z) E σ') rfl rfl rfl (Nat.le_of_ble_eq_true rfl) ⟨by omega, by omega⟩ d_L_law_729 ?_
      refine j_topi (congrArg iI h0) ?_
      refine j_iload X rfl d_L_law_732 ?_
      refine j_icmp_eq X (by decide) (by decide) d_L_law_734 (tgt := 739) rfl (fun _ => ?_) (fun h => absurd rfl h)
      refine j_iload X rfl d_L_law_739 ?_
      refine j_if_ne X (by decide) d_L_law_741 (tgt := 756) rfl (fun _ => ?_) (fun h => absurd h (by decide))
      refine j_goto X d_L_law_756 (tgt := 920) rfl ?_
      rw [← ew]
      exact j_drop 5 (nxt _ _ w' (by omega) (by omega) (li_le hL' (by omega) (by omega)))
    · exact absurd hcc.1 id

set_option maxRecDepth 100000 in
set_option maxHeartbeats 4000000 in
theorem law_free {E : eT} {z : zT} (X : Cx E z code R_L) (hz : zR z = rmD 12 601024 7293034) (hl0 : (zl z).stackTraces = false) (hn : zn z = 7) {b N : Nat} {xs : Nat → Int32} (hX : va_X b N xs (zs z) (zs z).heap) (hb : b < (zs z).heap.size) (hbA : ¬ zA E b) (hN : N ≤ 2048) {k n : Nat} (hk : k ≤ 10000) (hnn : n ≤ 100000) {i : Int} (hi : 0 ≤ i ∧ i + 3 < N) {w : St} {T Q : Int} (hT : T + 1000000 ≤ 1000000000) (hQ : Q + 1000 ≤ 1000000000) (hQ0 : 0 ≤ Q) (hL : LI w T Q) (nxt : ∀ (k' n' : Nat) (w' : St), k' ≤ k + 1 → n' ≤ n + 6 → LI w' (T + 1000000) (Q + 1000) → J E z k' n' 920 [(0, .ref b), (1, .ref (E.2.2.2 0 0)), (2, .ref (E.2.2.2 18 0)), (3, .ref (E.2.2.2 26 0)), (4, .int (iI i))] [] (cells E w')) : J E z k n 759 [(0, .ref b), (1, .ref (E.2.2.2 0 0)), (2, .ref (E.2.2.2 18 0)), (3, .ref (E.2.2.2 26 0)), (4, .int (iI i))] [] (cells E w) := by
  obtain ⟨v, hF, hv, hM, w', ew, hL'⟩ := o_free (l := zl z) (E := E) hL
  refine j_aload_n X rfl d_L_law_759 ?_
  refine v_L_108 X hz hF rfl rfl rfl (Nat.le_of_ble_eq_true rfl) ⟨by omega, by omega⟩ d_L_law_760 ?_
  refine j_aload_n X rfl d_L_law_763 ?_
  refine v_L_111 X hz hM rfl rfl rfl (Nat.le_of_ble_eq_true rfl) ⟨by omega, by omega⟩ d_L_law_764 ?_
  rw [← ew]
  exact j_icmp_eq X hv hv d_L_law_767 (tgt := 920) rfl (fun _ => nxt _ _ w' (by omega) (by omega) (li_le hL' (by omega) (by omega))) (fun h => absurd rfl h)

set_option maxRecDepth 100000 in
set_option maxHeartbeats 4000000 in
theorem law_store {E : eT} {z : zT} (X : Cx E z code R_L) (hz : zR z = rmD 12 601024 7293034) (hl0 : (zl z).stackTraces = false) (hn : zn z = 7) {b N : Nat} {xs : Nat → Int32} (hX : va_X b N xs (zs z) (zs z).heap) (hb : b < (zs z).heap.size) (hbA : ¬ zA E b) (hN : N ≤ 2048) {k n : Nat} (hk : k ≤ 10000) (hnn : n ≤ 100000) {i : Int} (hi : 0 ≤ i ∧ i + 3 < N) {w : St} {T Q : Int} (hT : T + 1000000 ≤ 1000000000) (hQ : Q + 1000 ≤ 1000000000) (hQ0 : 0 ≤ Q) (hL : LI w T Q) (nxt : ∀ (k' n' : Nat) (w' : St), k' ≤ k + 1 → n' ≤ n + 6 → LI w' (T + 1000000) (Q + 1000) → J E z k' n' 920 [(0, .ref b), (1, .ref (E.2.2.2 0 0)), (2, .ref (E.2.2.2 18 0)), (3, .ref (E.2.2.2 26 0)), (4, .int (iI i))] [] (cells E w')) : J E z k n 772 [(0, .ref b), (1, .ref (E.2.2.2 0 0)), (2, .ref (E.2.2.2 18 0)), (3, .ref (E.2.2.2 26 0)), (4, .int (iI i))] [] (cells E w) := by
  rcases o_store (l := zl z) (E := E) hl0 hL (i32_in (xs (i + 1).toNat)) (i32_in (xs (i + 2).toNat)) (i32_in (xs (i + 3).toNat)) with ⟨d1, d2, v, w1, σ', hd1, hd2, hF, hv, hM, h0, h26, w', ew, hL'⟩ | ⟨d2, c, bb, nm, σ', hd2, hcc, hT', hM, h0, w', ew, hL'⟩
  · skip
    refine j_aload_n X rfl d_L_law_772 ?_
    refine j_aload_n X rfl d_L_law_773 ?_
    refine j_iload X rfl d_L_law_774 ?_
    refine j_iconst X d_L_law_776 ?_
    refine j_iadd X d_L_law_777 ?_
    refine j_sld X hX hb hbA hN (by omega) d_L_law_778 ?_
    refine j_aload_n X rfl d_L_law_779 ?_
    refine j_iload X rfl d_L_law_780 ?_
    refine j_iconst X d_L_law_782 ?_
    refine j_iadd X d_L_law_783 ?_
    refine j_sld X hX hb hbA hN (by omega) d_L_law_784 ?_
    refine j_aload_n X rfl d_L_law_785 ?_
    refine j_iload X rfl d_L_law_786 ?_
    refine j_iconst X d_L_law_788 ?_
    refine j_iadd X d_L_law_789 ?_
    refine j_sld X hX hb hbA hN (by omega) d_L_law_790 ?_
    refine j_aload_n X rfl d_L_law_791 ?_
    refine j_cSW X mcw_store yo_L_store rfl rfl hz (l_store_s hd1 hF hv) rfl rfl rfl (Nat.le_of_ble_eq_true rfl) ⟨by omega, by omega⟩ d_L_law_792 (fun v' W hW => ?_)
    obtain ⟨rfl, rfl⟩ := hW
    refine j_istore X (zlt hn rfl) d_L_law_795 ?_
    change J E z k n 797 [(0, .ref b), (1, .ref (E.2.2.2 0 0)), (2, .ref (E.2.2.2 18 0)), (3, .ref (E.2.2.2 26 0)), (4, .int (iI i)), (5, .int (iI 0))] [] (cells E (up w1 26 0 0 v))
    refine j_aload_n X rfl d_L_law_797 ?_
    refine j_aload_n X rfl d_L_law_798 ?_
    refine j_iload X rfl d_L_law_799 ?_
    refine j_iconst X d_L_law_801 ?_
    refine j_iadd X d_L_law_802 ?_
    refine j_sld X hX hb hbA hN (by omega) d_L_law_803 ?_
    refine j_aload_n X rfl d_L_law_804 ?_
    refine j_iload X rfl d_L_law_805 ?_
    refine j_iconst X d_L_law_807 ?_
    refine j_iadd X d_L_law_808 ?_
    refine j_sld X hX hb hbA hN (by omega) d_L_law_809 ?_
    refine j_aload_n X rfl d_L_law_810 ?_
    refine j_iload X rfl d_L_law_811 ?_
    refine j_iconst X d_L_law_813 ?_
    refine j_iadd X d_L_law_814 ?_
    refine j_sld X hX hb hbA hN (by omega) d_L_law_815 ?_
    refine v_L_114 X hz hM rfl (blt12 hd2) rfl (Nat.le_of_ble_eq_true rfl) ⟨by omega, by omega⟩ d_L_law_816 ?_
    refine j_istore X (zlt hn rfl) d_L_law_819 ?_
    change J E z k n 821 [(0, .ref b), (1, .ref (E.2.2.2 0 0)), (2, .ref (E.2.2.2 18 0)), (3, .ref (E.2.2.2 26 0)), (4, .int (iI i)), (5, .int (iI 0)), (6, .int (iI v))] [] (cells E σ')
    refine j_aload_n X rfl d_L_law_821 ?_
    refine v_L_64 X hz (c_M_thrown (zl z) E σ') rfl rfl rfl (Nat.le_of_ble_eq_true rfl) ⟨by omega, by omega⟩ d_L_law_822 ?_
    refine j_topi (congrArg iI h0) ?_
    refine j_iload X rfl d_L_law_825 ?_
    refine j_icmp_eq X (by decide) (by decide) d_L_law_827 (tgt := 832) rfl (fun _ => ?_) (fun h => absurd rfl h)
    refine j_iload X rfl d_L_law_832 ?_
    refine j_if_ne X (by decide) d_L_law_834 (tgt := 849) rfl (fun h => absurd rfl h) (fun _ => ?_)
    refine j_aload_n X rfl d_L_law_837 ?_
    refine j_iconst X d_L_law_838 ?_
    refine j_lald X (okC1 rfl) (fun _ => rfl) rfl (by decide) d_L_law_839 ?_
    refine j_topl (congrArg iL h26) ?_
    refine j_iload X rfl d_L_law_840 ?_
    refine j_i2l X (by omega) d_L_law_842 ?_
    refine j_lcmp X (by omega) (by omega) d_L_law_843 ?_
    refine j_topi (congrArg iI (cmp_0 _)) ?_
    refine j_if_eq X (by decide) d_L_law_844 (tgt := 849) rfl (fun _ => ?_) (fun h => absurd rfl h)
    refine j_goto X d_L_law_849 (tgt := 920) rfl ?_
    rw [← ew]
    exact j_drop 5 (nxt _ _ w' (by omega) (by omega) (li_le hL' (by omega) (by omega)))
  · rcases hcc with ⟨rfl, rfl⟩ | hcc
    · skip
      refine j_aload_n X rfl d_L_law_772 ?_
      refine j_aload_n X rfl d_L_law_773 ?_
      refine j_iload X rfl d_L_law_774 ?_
      refine j_iconst X d_L_law_776 ?_
      refine j_iadd X d_L_law_777 ?_
      refine j_sld X hX hb hbA hN (by omega) d_L_law_778 ?_
      refine j_aload_n X rfl d_L_law_779 ?_
      refine j_iload X rfl d_L_law_780 ?_
      refine j_iconst X d_L_law_782 ?_
      refine j_iadd X d_L_law_783 ?_
      refine j_sld X hX hb hbA hN (by omega) d_L_law_784 ?_
      refine j_aload_n X rfl d_L_law_785 ?_
      refine j_iload X rfl d_L_law_786 ?_
      refine j_iconst X d_L_law_788 ?_
      refine j_iadd X d_L_law_789 ?_
      refine j_sld X hX hb hbA hN (by omega) d_L_law_790 ?_
      refine j_aload_n X rfl d_L_law_791 ?_
      refine j_cSW X mcw_store yo_L_store rfl rfl hz (l_store_x hT') rfl rfl rfl (Nat.le_of_ble_eq_true rfl) ⟨by omega, by omega⟩ d_L_law_792 (fun v' W hW => ?_)
      obtain ⟨rfl, rfl⟩ := hW
      refine j_istore X (zlt hn rfl) d_L_law_795 ?_
      change J E z (k + 1) (n + 6) 797 [(0, .ref b), (1, .ref (E.2.2.2 0 0)), (2, .ref (E.2.2.2 18 0)), (3, .ref (E.2.2.2 26 0)), (4, .int (iI i)), (5, .int (iI 1))] [] (cells E w)
      refine j_aload_n X rfl d_L_law_797 ?_
      refine j_aload_n X rfl d_L_law_798 ?_
      refine j_iload X rfl d_L_law_799 ?_
      refine j_iconst X d_L_law_801 ?_
      refine j_iadd X d_L_law_802 ?_
      refine j_sld X hX hb hbA hN (by omega) d_L_law_803 ?_
      refine j_aload_n X rfl d_L_law_804 ?_
      refine j_iload X rfl d_L_law_805 ?_
      refine j_iconst X d_L_law_807 ?_
      refine j_iadd X d_L_law_808 ?_
      refine j_sld X hX hb hbA hN (by omega) d_L_law_809 ?_
      refine j_aload_n X rfl d_L_law_810 ?_
      refine j_iload X rfl d_L_law_811 ?_
      refine j_iconst X d_L_law_813 ?_
      refine j_iadd X d_L_law_814 ?_
      refine j_sld X hX hb hbA hN (by omega) d_L_law_815 ?_
      refine v_L_114 X hz hM rfl (blt12 hd2) rfl (Nat.le_of_ble_eq_true rfl) ⟨by omega, by omega⟩ d_L_law_816 ?_
      refine j_istore X (zlt hn rfl) d_L_law_819 ?_
      change J E z (k + 1) (n + 6) 821 [(0, .ref b), (1, .ref (E.2.2.2 0 0)), (2, .ref (E.2.2.2 18 0)), (3, .ref (E.2.2.2 26 0)), (4, .int (iI i)), (5, .int (iI 1)), (6, .int (iI bb))] [] (cells E σ')
      refine j_aload_n X rfl d_L_law_821 ?_
      refine v_L_64 X hz (c_M_thrown (zl z) E σ') rfl rfl rfl (Nat.le_of_ble_eq_true rfl) ⟨by omega, by omega⟩ d_L_law_822 ?_
      refine j_topi (congrArg iI h0) ?_
      refine j_iload X rfl d_L_law_825 ?_
      refine j_icmp_eq X (by decide) (by decide) d_L_law_827 (tgt := 832) rfl (fun _ => ?_) (fun h => absurd rfl h)
      refine j_iload X rfl d_L_law_832 ?_
      refine j_if_ne X (by decide) d_L_law_834 (tgt := 849) rfl (fun _ => ?_) (fun h => absurd h (by decide))
      refine j_goto X d_L_law_849 (tgt := 920) rfl ?_
      rw [← ew]
      exact j_drop 5 (nxt _ _ w' (by omega) (by omega) (li_le hL' (by omega) (by omega)))
    · obtain ⟨-, rfl, rfl⟩ := hcc
      refine j_aload_n X rfl d_L_law_772 ?_
      refine j_aload_n X rfl d_L_law_773 ?_
      refine j_iload X rfl d_L_law_774 ?_
      refine j_iconst X d_L_law_776 ?_
      refine j_iadd X d_L_law_777 ?_
      refine j_sld X hX hb hbA hN (by omega) d_L_law_778 ?_
      refine j_aload_n X rfl d_L_law_779 ?_
      refine j_iload X rfl d_L_law_780 ?_
      refine j_iconst X d_L_law_782 ?_
      refine j_iadd X d_L_law_783 ?_
      refine j_sld X hX hb hbA hN (by omega) d_L_law_784 ?_
      refine j_aload_n X rfl d_L_law_785 ?_
      refine j_iload X rfl d_L_law_786 ?_
      refine j_iconst X d_L_law_788 ?_
      refine j_iadd X d_L_law_789 ?_
      refine j_sld X hX hb hbA hN (by omega) d_L_law_790 ?_
      refine j_aload_n X rfl d_L_law_791 ?_
      refine j_cSW X mcw_store yo_L_store rfl rfl hz (l_store_y hT') rfl rfl rfl (Nat.le_of_ble_eq_true rfl) ⟨by omega, by omega⟩ d_L_law_792 (fun v' W hW => ?_)
      obtain ⟨rfl, rfl⟩ := hW
      refine j_istore X (zlt hn rfl) d_L_law_795 ?_
      change J E z (k + 1) (n + 6) 797 [(0, .ref b), (1, .ref (E.2.2.2 0 0)), (2, .ref (E.2.2.2 18 0)), (3, .ref (E.2.2.2 26 0)), (4, .int (iI i)), (5, .int (iI 2))] [] (cells E w)
      refine j_aload_n X rfl d_L_law_797 ?_
      refine j_aload_n X rfl d_L_law_798 ?_
      refine j_iload X rfl d_L_law_799 ?_
      refine j_iconst X d_L_law_801 ?_
      refine j_iadd X d_L_law_802 ?_
      refine j_sld X hX hb hbA hN (by omega) d_L_law_803 ?_
      refine j_aload_n X rfl d_L_law_804 ?_
      refine j_iload X rfl d_L_law_805 ?_
      refine j_iconst X d_L_law_807 ?_
      refine j_iadd X d_L_law_808 ?_
      refine j_sld X hX hb hbA hN (by omega) d_L_law_809 ?_
      refine j_aload_n X rfl d_L_law_810 ?_
      refine j_iload X rfl d_L_law_811 ?_
      refine j_iconst X d_L_law_813 ?_
      refine j_iadd X d_L_law_814 ?_
      refine j_sld X hX hb hbA hN (by omega) d_L_law_815 ?_
      refine v_L_114 X hz hM rfl (blt12 hd2) rfl (Nat.le_of_ble_eq_true rfl) ⟨by omega, by omega⟩ d_L_law_816 ?_
      refine j_istore X (zlt hn rfl) d_L_law_819 ?_
      change J E z (k + 1) (n + 6) 821 [(0, .ref b), (1, .ref (E.2.2.2 0 0)), (2, .ref (E.2.2.2 18 0)), (3, .ref (E.2.2.2 26 0)), (4, .int (iI i)), (5, .int (iI 2)), (6, .int (iI bb))] [] (cells E σ')
      refine j_aload_n X rfl d_L_law_821 ?_
      refine v_L_64 X hz (c_M_thrown (zl z) E σ') rfl rfl rfl (Nat.le_of_ble_eq_true rfl) ⟨by omega, by omega⟩ d_L_law_822 ?_
      refine j_topi (congrArg iI h0) ?_
      refine j_iload X rfl d_L_law_825 ?_
      refine j_icmp_eq X (by decide) (by decide) d_L_law_827 (tgt := 832) rfl (fun _ => ?_) (fun h => absurd rfl h)
      refine j_iload X rfl d_L_law_832 ?_
      refine j_if_ne X (by decide) d_L_law_834 (tgt := 849) rfl (fun _ => ?_) (fun h => absurd h (by decide))
      refine j_goto X d_L_law_849 (tgt := 920) rfl ?_
      rw [← ew]
      exact j_drop 5 (nxt _ _ w' (by omega) (by omega) (li_le hL' (by omega) (by omega)))

set_option maxRecDepth 100000 in
set_option maxHeartbeats 4000000 in
theorem law_fetch {E : eT} {z : zT} (X : Cx E z code R_L) (hz : zR z = rmD 12 601024 7293034) (hl0 : (zl z).stackTraces = false) (hn : zn z = 7) {b N : Nat} {xs : Nat → Int32} (hX : va_X b N xs (zs z) (zs z).heap) (hb : b < (zs z).heap.size) (hbA : ¬ zA E b) (hN : N ≤ 2048) {k n : Nat} (hk : k ≤ 10000) (hnn : n ≤ 100000) {i : Int} (hi : 0 ≤ i ∧ i + 3 < N) {w : St} {T Q : Int} (hT : T + 1000000 ≤ 1000000000) (hQ : Q + 1000 ≤ 1000000000) (hQ0 : 0 ≤ Q) (hL : LI w T Q) (nxt : ∀ (k' n' : Nat) (w' : St), k' ≤ k + 1 → n' ≤ n + 6 → LI w' (T + 1000000) (Q + 1000) → J E z k' n' 920 [(0, .ref b), (1, .ref (E.2.2.2 0 0)), (2, .ref (E.2.2.2 18 0)), (3, .ref (E.2.2.2 26 0)), (4, .int (iI i))] [] (cells E w')) : J E z k n 852 [(0, .ref b), (1, .ref (E.2.2.2 0 0)), (2, .ref (E.2.2.2 18 0)), (3, .ref (E.2.2.2 26 0)), (4, .int (iI i))] [] (cells E w) := by
  rcases o_fetch (l := zl z) (E := E) hl0 hL (i32_in (xs (i + 1).toNat)) (i32_in (xs (i + 2).toNat)) with ⟨d1, d2, v, w1, σ', hd1, hd2, hF, hv, hM, h0, h26, w', ew, hL'⟩ | ⟨d2, c, bb, nm, σ', hd2, hcc, hT', hM, h0, w', ew, hL'⟩
  · skip
    refine j_aload_n X rfl d_L_law_852 ?_
    refine j_aload_n X rfl d_L_law_853 ?_
    refine j_iload X rfl d_L_law_854 ?_
    refine j_iconst X d_L_law_856 ?_
    refine j_iadd X d_L_law_857 ?_
    refine j_sld X hX hb hbA hN (by omega) d_L_law_858 ?_
    refine j_aload_n X rfl d_L_law_859 ?_
    refine j_iload X rfl d_L_law_860 ?_
    refine j_iconst X d_L_law_862 ?_
    refine j_iadd X d_L_law_863 ?_
    refine j_sld X hX hb hbA hN (by omega) d_L_law_864 ?_
    refine j_aload_n X rfl d_L_law_865 ?_
    refine j_cSW X mcw_fetch yo_L_fetch rfl rfl hz (l_fetch_s hd1 hF hv) rfl rfl rfl (Nat.le_of_ble_eq_true rfl) ⟨by omega, by omega⟩ d_L_law_866 (fun v' W hW => ?_)
    obtain ⟨rfl, rfl⟩ := hW
    refine j_istore X (zlt hn rfl) d_L_law_869 ?_
    change J E z k n 871 [(0, .ref b), (1, .ref (E.2.2.2 0 0)), (2, .ref (E.2.2.2 18 0)), (3, .ref (E.2.2.2 26 0)), (4, .int (iI i)), (5, .int (iI 0))] [] (cells E (up w1 26 0 0 v))
    refine j_aload_n X rfl d_L_law_871 ?_
    refine j_aload_n X rfl d_L_law_872 ?_
    refine j_iload X rfl d_L_law_873 ?_
    refine j_iconst X d_L_law_875 ?_
    refine j_iadd X d_L_law_876 ?_
    refine j_sld X hX hb hbA hN (by omega) d_L_law_877 ?_
    refine j_aload_n X rfl d_L_law_878 ?_
    refine j_iload X rfl d_L_law_879 ?_
    refine j_iconst X d_L_law_881 ?_
    refine j_iadd X d_L_law_882 ?_
    refine j_sld X hX hb hbA hN (by omega) d_L_law_883 ?_
    refine v_L_117 X hz hM rfl (blt12 hd2) rfl (Nat.le_of_ble_eq_true rfl) ⟨by omega, by omega⟩ d_L_law_884 ?_
    refine j_istore X (zlt hn rfl) d_L_law_887 ?_
    change J E z k n 889 [(0, .ref b), (1, .ref (E.2.2.2 0 0)), (2, .ref (E.2.2.2 18 0)), (3, .ref (E.2.2.2 26 0)), (4, .int (iI i)), (5, .int (iI 0)), (6, .int (iI v))] [] (cells E σ')
    refine j_aload_n X rfl d_L_law_889 ?_
    refine v_L_64 X hz (c_M_thrown (zl z) E σ') rfl rfl rfl (Nat.le_of_ble_eq_true rfl) ⟨by omega, by omega⟩ d_L_law_890 ?_
    refine j_topi (congrArg iI h0) ?_
    refine j_iload X rfl d_L_law_893 ?_
    refine j_icmp_eq X (by decide) (by decide) d_L_law_895 (tgt := 900) rfl (fun _ => ?_) (fun h => absurd rfl h)
    refine j_iload X rfl d_L_law_900 ?_
    refine j_if_ne X (by decide) d_L_law_902 (tgt := 917) rfl (fun h => absurd rfl h) (fun _ => ?_)
    refine j_aload_n X rfl d_L_law_905 ?_
    refine j_iconst X d_L_law_906 ?_
    refine j_lald X (okC1 rfl) (fun _ => rfl) rfl (by decide) d_L_law_907 ?_
    refine j_topl (congrArg iL h26) ?_
    refine j_iload X rfl d_L_law_908 ?_
    refine j_i2l X (by omega) d_L_law_910 ?_
    refine j_lcmp X (by omega) (by omega) d_L_law_911 ?_
    refine j_topi (congrArg iI (cmp_0 _)) ?_
    refine j_if_eq X (by decide) d_L_law_912 (tgt := 917) rfl (fun _ => ?_) (fun h => absurd rfl h)
    refine j_goto X d_L_law_917 (tgt := 920) rfl ?_
    rw [← ew]
    exact j_drop 5 (nxt _ _ w' (by omega) (by omega) (li_le hL' (by omega) (by omega)))
  · rcases hcc with ⟨rfl, rfl⟩ | hcc
    · skip
      refine j_aload_n X rfl d_L_law_852 ?_
      refine j_aload_n X rfl d_L_law_853 ?_
      refine j_iload X rfl d_L_law_854 ?_
      refine j_iconst X d_L_law_856 ?_
      refine j_iadd X d_L_law_857 ?_
      refine j_sld X hX hb hbA hN (by omega) d_L_law_858 ?_
      refine j_aload_n X rfl d_L_law_859 ?_
      refine j_iload X rfl d_L_law_860 ?_
      refine j_iconst X d_L_law_862 ?_
      refine j_iadd X d_L_law_863 ?_
      refine j_sld X hX hb hbA hN (by omega) d_L_law_864 ?_
      refine j_aload_n X rfl d_L_law_865 ?_
      refine j_cSW X mcw_fetch yo_L_fetch rfl rfl hz (l_fetch_x hT') rfl rfl rfl (Nat.le_of_ble_eq_true rfl) ⟨by omega, by omega⟩ d_L_law_866 (fun v' W hW => ?_)
      obtain ⟨rfl, rfl⟩ := hW
      refine j_istore X (zlt hn rfl) d_L_law_869 ?_
      change J E z (k + 1) (n + 6) 871 [(0, .ref b), (1, .ref (E.2.2.2 0 0)), (2, .ref (E.2.2.2 18 0)), (3, .ref (E.2.2.2 26 0)), (4, .int (iI i)), (5, .int (iI 1))] [] (cells E w)
      refine j_aload_n X rfl d_L_law_871 ?_
      refine j_aload_n X rfl d_L_law_872 ?_
      refine j_iload X rfl d_L_law_873 ?_
      refine j_iconst X d_L_law_875 ?_
      refine j_iadd X d_L_law_876 ?_
      refine j_sld X hX hb hbA hN (by omega) d_L_law_877 ?_
      refine j_aload_n X rfl d_L_law_878 ?_
      refine j_iload X rfl d_L_law_879 ?_
      refine j_iconst X d_L_law_881 ?_
      refine j_iadd X d_L_law_882 ?_
      refine j_sld X hX hb hbA hN (by omega) d_L_law_883 ?_
      refine v_L_117 X hz hM rfl (blt12 hd2) rfl (Nat.le_of_ble_eq_true rfl) ⟨by omega, by omega⟩ d_L_law_884 ?_
      refine j_istore X (zlt hn rfl) d_L_law_887 ?_
      change J E z (k + 1) (n + 6) 889 [(0, .ref b), (1, .ref (E.2.2.2 0 0)), (2, .ref (E.2.2.2 18 0)), (3, .ref (E.2.2.2 26 0)), (4, .int (iI i)), (5, .int (iI 1)), (6, .int (iI bb))] [] (cells E σ')
      refine j_aload_n X rfl d_L_law_889 ?_
      refine v_L_64 X hz (c_M_thrown (zl z) E σ') rfl rfl rfl (Nat.le_of_ble_eq_true rfl) ⟨by omega, by omega⟩ d_L_law_890 ?_
      refine j_topi (congrArg iI h0) ?_
      refine j_iload X rfl d_L_law_893 ?_
      refine j_icmp_eq X (by decide) (by decide) d_L_law_895 (tgt := 900) rfl (fun _ => ?_) (fun h => absurd rfl h)
      refine j_iload X rfl d_L_law_900 ?_
      refine j_if_ne X (by decide) d_L_law_902 (tgt := 917) rfl (fun _ => ?_) (fun h => absurd h (by decide))
      refine j_goto X d_L_law_917 (tgt := 920) rfl ?_
      rw [← ew]
      exact j_drop 5 (nxt _ _ w' (by omega) (by omega) (li_le hL' (by omega) (by omega)))
    · obtain ⟨-, rfl, rfl⟩ := hcc
      refine j_aload_n X rfl d_L_law_852 ?_
      refine j_aload_n X rfl d_L_law_853 ?_
      refine j_iload X rfl d_L_law_854 ?_
      refine j_iconst X d_L_law_856 ?_
      refine j_iadd X d_L_law_857 ?_
      refine j_sld X hX hb hbA hN (by omega) d_L_law_858 ?_
      refine j_aload_n X rfl d_L_law_859 ?_
      refine j_iload X rfl d_L_law_860 ?_
      refine j_iconst X d_L_law_862 ?_
      refine j_iadd X d_L_law_863 ?_
      refine j_sld X hX hb hbA hN (by omega) d_L_law_864 ?_
      refine j_aload_n X rfl d_L_law_865 ?_
      refine j_cSW X mcw_fetch yo_L_fetch rfl rfl hz (l_fetch_y hT') rfl rfl rfl (Nat.le_of_ble_eq_true rfl) ⟨by omega, by omega⟩ d_L_law_866 (fun v' W hW => ?_)
      obtain ⟨rfl, rfl⟩ := hW
      refine j_istore X (zlt hn rfl) d_L_law_869 ?_
      change J E z (k + 1) (n + 6) 871 [(0, .ref b), (1, .ref (E.2.2.2 0 0)), (2, .ref (E.2.2.2 18 0)), (3, .ref (E.2.2.2 26 0)), (4, .int (iI i)), (5, .int (iI 2))] [] (cells E w)
      refine j_aload_n X rfl d_L_law_871 ?_
      refine j_aload_n X rfl d_L_law_872 ?_
      refine j_iload X rfl d_L_law_873 ?_
      refine j_iconst X d_L_law_875 ?_
      refine j_iadd X d_L_law_876 ?_
      refine j_sld X hX hb hbA hN (by omega) d_L_law_877 ?_
      refine j_aload_n X rfl d_L_law_878 ?_
      refine j_iload X rfl d_L_law_879 ?_
      refine j_iconst X d_L_law_881 ?_
      refine j_iadd X d_L_law_882 ?_
      refine j_sld X hX hb hbA hN (by omega) d_L_law_883 ?_
      refine v_L_117 X hz hM rfl (blt12 hd2) rfl (Nat.le_of_ble_eq_true rfl) ⟨by omega, by omega⟩ d_L_law_884 ?_
      refine j_istore X (zlt hn rfl) d_L_law_887 ?_
      change J E z (k + 1) (n + 6) 889 [(0, .ref b), (1, .ref (E.2.2.2 0 0)), (2, .ref (E.2.2.2 18 0)), (3, .ref (E.2.2.2 26 0)), (4, .int (iI i)), (5, .int (iI 2)), (6, .int (iI bb))] [] (cells E σ')
      refine j_aload_n X rfl d_L_law_889 ?_
      refine v_L_64 X hz (c_M_thrown (zl z) E σ') rfl rfl rfl (Nat.le_of_ble_eq_true rfl) ⟨by omega, by omega⟩ d_L_law_890 ?_
      refine j_topi (congrArg iI h0) ?_
      refine j_iload X rfl d_L_law_893 ?_
      refine j_icmp_eq X (by decide) (by decide) d_L_law_895 (tgt := 900) rfl (fun _ => ?_) (fun h => absurd rfl h)
      refine j_iload X rfl d_L_law_900 ?_
      refine j_if_ne X (by decide) d_L_law_902 (tgt := 917) rfl (fun _ => ?_) (fun h => absurd h (by decide))
      refine j_goto X d_L_law_917 (tgt := 920) rfl ?_
      rw [← ew]
      exact j_drop 5 (nxt _ _ w' (by omega) (by omega) (li_le hL' (by omega) (by omega)))

set_option maxRecDepth 100000 in
set_option maxHeartbeats 4000000 in
theorem law_loop {E : eT} {z : zT} (X : Cx E z code R_L) (hz : zR z = rmD 12 601024 7293034) (hl0 : (zl z).stackTraces = false) (hn : zn z = 7) {b N : Nat} {xs : Nat → Int32} (hX : va_X b N xs (zs z) (zs z).heap) (hb : b < (zs z).heap.size) (hbA : ¬ zA E b) (hN : N ≤ 2048) (hEnd : ∀ (k n : Nat) (L : List (Nat × Value)) (w : va_W), k ≤ 601024 → n ≤ 7293034 → J E z k n 927 L [.int (iI 1)] w) : ∀ q : Int × Nat × Nat × St, ((0 ≤ q.1 ∧ q.1 ≤ 513) ∧ q.2.1 ≤ 213 + q.1.toNat ∧ q.2.2.1 ≤ 50000 + 6 * q.1.toNat ∧ LI q.2.2.2 (1000000 * q.1) (1000 * q.1)) → J E z q.2.1 q.2.2.1 23 [(0, .ref b), (1, .ref (E.2.2.2 0 0)), (2, .ref (E.2.2.2 18 0)), (3, .ref (E.2.2.2 26 0)), (4, .int (iI (4 * q.1)))] [] (cells E q.2.2.2) := by
  refine j_loop (fun q => (513 - q.1).toNat) _ _ (fun q hq ih => ?_)
  obtain ⟨j, k, n, w⟩ := q
  obtain ⟨hj, hk, hnn, hL⟩ := hq
  dsimp only at hj hk hnn hL
  dsimp only
  refine j_iload X rfl d_L_law_23 ?_
  refine j_aload_n X rfl d_L_law_25 ?_
  refine j_slen X hX hb hbA d_L_law_26 ?_
  refine j_iconst X d_L_law_27 ?_
  refine j_isub X d_L_law_28 ?_
  refine j_icmp_gt X (by omega) (by omega) d_L_law_29 (tgt := 926) rfl (fun h29 => ?_) (fun h29 => ?_)
  · refine j_iconst X d_L_law_926 ?_
    exact hEnd _ _ _ _ (by omega) (by omega)
  · have hi : 0 ≤ 4 * j ∧ 4 * j + 3 < N := by omega
    have nxt : ∀ (k' n' : Nat) (w' : St), k' ≤ k + 1 → n' ≤ n + 6 → LI w' (1000000 * j + 1000000) (1000 * j + 1000) → J E z k' n' 920 [(0, .ref b), (1, .ref (E.2.2.2 0 0)), (2, .ref (E.2.2.2 18 0)), (3, .ref (E.2.2.2 26 0)), (4, .int (iI (4 * j)))] [] (cells E w') := by
      intro k' n' w' h1 h2 h3
      refine j_iinc X rfl (zlt hn rfl) d_L_law_920 ?_
      refine j_goto X d_L_law_923 (tgt := 23) rfl ?_
      have := ih (j + 1, k', n', w') ⟨by dsimp only; omega, by dsimp only; omega, by dsimp only; omega, li_le h3 (by dsimp only; omega) (by dsimp only; omega)⟩ (by dsimp only; omega)
      dsimp only at this
      rw [show 4 * (j + 1) = 4 * j + 4 by omega] at this
      exact this
    refine j_aload_n X rfl d_L_law_32 ?_
    refine j_iload X rfl d_L_law_33 ?_
    refine j_sld X hX hb hbA hN (by omega) d_L_law_35 ?_
    refine j_bipush X rfl d_L_law_36 ?_
    refine j_iand X d_L_law_38 ?_
    refine j_topi (iI_and15 _) ?_
    generalize (xs (4 * j).toNat).toInt = a0
    have ha0 : 0 ≤ a0 % 16 ∧ a0 % 16 ≤ 15 := by omega
    rcases (show a0 % 16 = 0 ∨ a0 % 16 = 1 ∨ a0 % 16 = 2 ∨ a0 % 16 = 3 ∨ a0 % 16 = 4 ∨ a0 % 16 = 5 ∨ a0 % 16 = 6 ∨ a0 % 16 = 7 ∨ a0 % 16 = 8 ∨ a0 % 16 = 9 ∨ a0 % 16 = 10 ∨ a0 % 16 = 11 ∨ a0 % 16 = 12 ∨ a0 % 16 = 13 ∨ a0 % 16 = 14 ∨ a0 % 16 = 15 by omega) with h | h | h | h | h | h | h | h | h | h | h | h | h | h | h | h
    · rw [h]
      refine j_tableIn X (by decide) d_L_law_39 (by decide) (by decide) rfl (tgt := 112) rfl ?_
      exact law_command X hz hl0 hn hX hb hbA hN (by omega) (by omega) hi (by omega) (by omega) (by omega) hL nxt
    · rw [h]
      refine j_tableIn X (by decide) d_L_law_39 (by decide) (by decide) rfl (tgt := 192) rfl ?_
      exact law_poke X hz hl0 hn hX hb hbA hN (by omega) (by omega) hi (by omega) (by omega) (by omega) hL nxt
    · rw [h]
      refine j_tableIn X (by decide) d_L_law_39 (by decide) (by decide) rfl (tgt := 240) rfl ?_
      exact law_peek X hz hl0 hn hX hb hbA hN (by omega) (by omega) hi (by omega) (by omega) (by omega) hL nxt
    · rw [h]
      refine j_tableIn X (by decide) d_L_law_39 (by decide) (by decide) rfl (tgt := 296) rfl ?_
      exact law_start X hz hl0 hn hX hb hbA hN (by omega) (by omega) hi (by omega) (by omega) (by omega) hL nxt
    · rw [h]
      refine j_tableIn X (by decide) d_L_law_39 (by decide) (by decide) rfl (tgt := 309) rfl ?_
      exact law_look X hz hl0 hn hX hb hbA hN (by omega) (by omega) hi (by omega) (by omega) (by omega) hL nxt
    · rw [h]
      refine j_tableIn X (by decide) d_L_law_39 (by decide) (by decide) rfl (tgt := 365) rfl ?_
      exact law_clock X hz hl0 hn hX hb hbA hN (by omega) (by omega) hi (by omega) (by omega) (by omega) hL nxt
    · rw [h]
      refine j_tableIn X (by decide) d_L_law_39 (by decide) (by decide) rfl (tgt := 379) rfl ?_
      exact law_record X hz hl0 hn hX hb hbA hN (by omega) (by omega) hi (by omega) (by omega) (by omega) hL nxt
    · rw [h]
      refine j_tableIn X (by decide) d_L_law_39 (by decide) (by decide) rfl (tgt := 459) rfl ?_
      exact law_byteOf X hz hl0 hn hX hb hbA hN (by omega) (by omega) hi (by omega) (by omega) (by omega) hL nxt
    · rw [h]
      refine j_tableIn X (by decide) d_L_law_39 (by decide) (by decide) rfl (tgt := 539) rfl ?_
      exact law_spoil X hz hl0 hn hX hb hbA hN (by omega) (by omega) hi (by omega) (by omega) (by omega) hL nxt
    · rw [h]
      refine j_tableIn X (by decide) d_L_law_39 (by decide) (by decide) rfl (tgt := 587) rfl ?_
      exact law_allocate X hz hl0 hn hX hb hbA hN (by omega) (by omega) hi (by omega) (by omega) (by omega) hL nxt
    · rw [h]
      refine j_tableIn X (by decide) d_L_law_39 (by decide) (by decide) rfl (tgt := 655) rfl ?_
      exact law_scratch X hz hl0 hn hX hb hbA hN (by omega) (by omega) hi (by omega) (by omega) (by omega) hL nxt
    · rw [h]
      refine j_tableIn X (by decide) d_L_law_39 (by decide) (by decide) rfl (tgt := 691) rfl ?_
      exact law_trackOf X hz hl0 hn hX hb hbA hN (by omega) (by omega) hi (by omega) (by omega) (by omega) hL nxt
    · rw [h]
      refine j_tableIn X (by decide) d_L_law_39 (by decide) (by decide) rfl (tgt := 759) rfl ?_
      exact law_free X hz hl0 hn hX hb hbA hN (by omega) (by omega) hi (by omega) (by omega) (by omega) hL nxt
    · rw [h]
      refine j_tableIn X (by decide) d_L_law_39 (by decide) (by decide) rfl (tgt := 772) rfl ?_
      exact law_store X hz hl0 hn hX hb hbA hN (by omega) (by omega) hi (by omega) (by omega) (by omega) hL nxt
    · rw [h]
      refine j_tableIn X (by decide) d_L_law_39 (by decide) (by decide) rfl (tgt := 852) rfl ?_
      exact law_fetch X hz hl0 hn hX hb hbA hN (by omega) (by omega) hi (by omega) (by omega) (by omega) hL nxt
    · rw [h]
      refine j_tableOut X (by decide) d_L_law_39 (by decide) (tgt := 920) rfl ?_
      exact nxt _ _ w (by omega) (by omega) (li_le hL (by omega) (by omega))
