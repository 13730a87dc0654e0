def bt (x : Int32) (i : Nat) : Bool := x.toBitVec.getLsbD i
theorem b_ext {x y : Int32} (h : ∀ i, i < 32 → bt x i = bt y i) : x = y := Int32.toBitVec_inj.mp (BitVec.eq_of_getLsbD_eq (fun i hi => h i hi))
theorem b_or (x y : Int32) (i : Nat) : bt (x ||| y) i = (bt x i || bt y i) := by unfold bt; rw [Int32.toBitVec_or, BitVec.getLsbD_or]
theorem b_and (x y : Int32) (i : Nat) : bt (x &&& y) i = (bt x i && bt y i) := by unfold bt; rw [Int32.toBitVec_and, BitVec.getLsbD_and]
theorem b_xor (x y : Int32) (i : Nat) : bt (x ^^^ y) i = (bt x i ^^ bt y i) := by unfold bt; rw [Int32.toBitVec_xor, BitVec.getLsbD_xor]
theorem b_big {x : Int32} {i : Nat} (h : 32 ≤ i) : bt x i = false := BitVec.getLsbD_of_ge _ _ h
theorem b_255 (i : Nat) : bt 255 i = decide (i < 8) := by
  rcases Nat.lt_or_ge i 32 with h | h
  · exact (by decide +kernel : ∀ i, i < 32 → bt 255 i = decide (i < 8)) i h
  · rw [b_big h, decide_eq_false (by omega)]
theorem b_65535 (i : Nat) : bt 65535 i = decide (i < 16) := by
  rcases Nat.lt_or_ge i 32 with h | h
  · exact (by decide +kernel : ∀ i, i < 32 → bt 65535 i = decide (i < 16)) i h
  · rw [b_big h, decide_eq_false (by omega)]
theorem b_m1 : ∀ i, i < 32 → bt (-1) i = true := by decide +kernel
theorem b_0 (i : Nat) : bt 0 i = false := BitVec.getLsbD_zero
theorem s_l : ∀ n, n < 32 → ((nI n &&& 31).toBitVec.smod 32).toNat = n := by decide +kernel
theorem s_u : ∀ n, n < 32 → (((nI n).toUInt32 &&& Int32.toUInt32 31).toBitVec % 32).toNat = n := by decide +kernel
theorem b_shl (n : Nat) (hn : n < 32) (x : Int32) {i : Nat} (hi : i < 32) : bt (x <<< (nI n &&& 31)) i = (decide (n ≤ i) && bt x (i - n)) := by
  unfold bt
  rw [Int32.toBitVec_shiftLeft]
  show (x.toBitVec <<< ((nI n &&& 31).toBitVec.smod 32).toNat).getLsbD i = _
  rw [s_l n hn, BitVec.getLsbD_shiftLeft]
  rcases Nat.lt_or_ge i n with h | h
  · simp [h, Nat.not_le.mpr h]
  · simp [hi, h, Nat.not_lt.mpr h]
theorem b_ushr (n : Nat) (hn : n < 32) (x : Int32) (i : Nat) : bt ((x.toUInt32 >>> ((nI n).toUInt32 &&& Int32.toUInt32 31)).toInt32) i = bt x (n + i) := by
  show (x.toUInt32 >>> ((nI n).toUInt32 &&& Int32.toUInt32 31)).toBitVec.getLsbD i = x.toUInt32.toBitVec.getLsbD (n + i)
  rw [UInt32.toBitVec_shiftRight]
  show (x.toUInt32.toBitVec >>> (((nI n).toUInt32 &&& Int32.toUInt32 31).toBitVec % 32).toNat).getLsbD i = _
  rw [s_u n hn, BitVec.getLsbD_ushiftRight]
theorem b_sshr (n : Nat) (hn : n < 32) (x : Int32) {i : Nat} (hi : i < 32) : bt (x >>> (nI n &&& 31)) i = if n + i < 32 then bt x (n + i) else bt x 31 := by
  unfold bt
  rw [Int32.toBitVec_shiftRight]
  show (x.toBitVec.sshiftRight ((nI n &&& 31).toBitVec.smod 32).toNat).getLsbD i = _
  rw [s_l n hn, BitVec.getLsbD_sshiftRight, BitVec.msb_eq_getLsbD_last]
  simp [hi]
theorem b_shl8 (x : Int32) {i : Nat} (hi : i < 32) : bt (x <<< ((8 : Int32) &&& 31)) i = (decide (8 ≤ i) && bt x (i - 8)) := b_shl 8 (by omega) x hi
theorem b_shl16 (x : Int32) {i : Nat} (hi : i < 32) : bt (x <<< ((16 : Int32) &&& 31)) i = (decide (16 ≤ i) && bt x (i - 16)) := b_shl 16 (by omega) x hi
theorem b_shl24 (x : Int32) {i : Nat} (hi : i < 32) : bt (x <<< ((24 : Int32) &&& 31)) i = (decide (24 ≤ i) && bt x (i - 24)) := b_shl 24 (by omega) x hi
theorem b_sshr8 (x : Int32) {i : Nat} (hi : i < 32) : bt (x >>> ((8 : Int32) &&& 31)) i = if 8 + i < 32 then bt x (8 + i) else bt x 31 := b_sshr 8 (by omega) x hi
theorem btN {m i : Nat} (hi : i < 32) : bt (nI m) i = m.testBit i := by
  show (BitVec.ofNat 32 m).getLsbD i = _
  rw [BitVec.getLsbD_ofNat]
  simp [hi]
theorem by_put (s lo b c hi : Nat) (hs : s + 8 ≤ 32) (hlo : lo < 2 ^ s) (hb : b < 2 ^ 8) (hc : c < 2 ^ 8) :
    (nI (2 ^ s * (2 ^ 8 * hi + b) + lo) &&& (((255 : Int32) <<< (nI s &&& 31)) ^^^ (-1))) ||| (nI c <<< (nI s &&& 31)) = nI (2 ^ s * (2 ^ 8 * hi + c) + lo) := by
  apply b_ext
  intro i hi'
  have h31 : s < 32 := by omega
  rw [b_or, b_and, b_xor, b_shl s h31 _ hi', b_shl s h31 _ hi', b_m1 i hi', btN hi', btN hi', b_255, Nat.testBit_two_pow_mul_add _ hlo, Nat.testBit_two_pow_mul_add _ hlo]
  by_cases h : i < s
  · simp [h, Nat.not_le.mpr h]
  · have h' : s ≤ i := Nat.not_lt.mp h
    rw [btN (show i - s < 32 by omega), Nat.testBit_two_pow_mul_add _ hb, Nat.testBit_two_pow_mul_add _ hc]
    by_cases h8 : i - s < 8
    · simp [h, h', h8]
    · have hz : c.testBit (i - s) = false := by
        apply Nat.testBit_lt_two_pow
        exact Nat.lt_of_lt_of_le hc (Nat.pow_le_pow_right (by omega) (by omega))
      simp [h, h', h8, hz]
def pk4 (f : Int → Int) (j : Int) : Int := f (4 * j) + 256 * f (4 * j + 1) + 65536 * f (4 * j + 2) + 16777216 * f (4 * j + 3)
def byR (f : Int → Int) : Prop := ∀ i, 0 ≤ f i ∧ f i < 256
theorem by_get {f : Int → Int} (hf : byR f) (i : Int) : ((iI (pk4 f (i / 4))).toUInt32 >>> ((iI (i % 4 * 8)).toUInt32 &&& Int32.toUInt32 31)).toInt32 &&& iI 255 = iI (f i) := by
  have b0 := hf (4 * (i / 4))
  have b1 := hf (4 * (i / 4) + 1)
  have b2 := hf (4 * (i / 4) + 2)
  have b3 := hf (4 * (i / 4) + 3)
  have h : i % 4 = 0 ∨ i % 4 = 1 ∨ i % 4 = 2 ∨ i % 4 = 3 := by omega
  rcases h with h | h | h | h <;> rw [h]
  · rw [pk_and _ 8 (by decide), pk_ushr _ _ 0 (by decide), iI_tn]
    show Int32.ofNat _ = _
    rw [iI_nat, show i = 4 * (i / 4) by omega]
    congr 1
    rw [show 4 * (i / 4) / 4 = i / 4 by omega]
    unfold pk4
    omega
  · rw [pk_and _ 8 (by decide), pk_ushr _ _ 8 (by decide), iI_tn]
    show Int32.ofNat _ = _
    rw [iI_nat, show f i = f (4 * (i / 4) + 1) from congrArg f (by omega)]
    congr 1
    unfold pk4
    omega
  · rw [pk_and _ 8 (by decide), pk_ushr _ _ 16 (by decide), iI_tn]
    show Int32.ofNat _ = _
    rw [iI_nat, show f i = f (4 * (i / 4) + 2) from congrArg f (by omega)]
    congr 1
    unfold pk4
    omega
  · rw [pk_and _ 8 (by decide), pk_ushr _ _ 24 (by decide), iI_tn]
    show Int32.ofNat _ = _
    rw [iI_nat, show f i = f (4 * (i / 4) + 3) from congrArg f (by omega)]
    congr 1
    unfold pk4
    omega
theorem iI_nN (m : Nat) : nI m = iI (m : Int) := iI_nat m
theorem by_set {f : Int → Int} (hf : byR f) (i v : Int) :
    (iI (pk4 f (i / 4)) &&& ((iI 255 <<< (iI (i % 4 * 8) &&& 31)) ^^^ iI (-1))) ||| (iI (v % 256) <<< (iI (i % 4 * 8) &&& 31)) = iI (pk4 (fun q => if q = i then v % 256 else f q) (i / 4)) := by
  have b0 := hf (4 * (i / 4))
  have b1 := hf (4 * (i / 4) + 1)
  have b2 := hf (4 * (i / 4) + 2)
  have b3 := hf (4 * (i / 4) + 3)
  have h : i % 4 = 0 ∨ i % 4 = 1 ∨ i % 4 = 2 ∨ i % 4 = 3 := by omega
  obtain ⟨n0, e0⟩ : ∃ n0 : Nat, f (4 * (i / 4)) = n0 := ⟨_, (Int.toNat_of_nonneg b0.1).symm⟩
  obtain ⟨n1, e1⟩ : ∃ n1 : Nat, f (4 * (i / 4) + 1) = n1 := ⟨_, (Int.toNat_of_nonneg b1.1).symm⟩
  obtain ⟨n2, e2⟩ : ∃ n2 : Nat, f (4 * (i / 4) + 2) = n2 := ⟨_, (Int.toNat_of_nonneg b2.1).symm⟩
  obtain ⟨n3, e3⟩ : ∃ n3 : Nat, f (4 * (i / 4) + 3) = n3 := ⟨_, (Int.toNat_of_nonneg b3.1).symm⟩
  obtain ⟨c, ec⟩ : ∃ c : Nat, v % 256 = c := ⟨_, (Int.toNat_of_nonneg (by omega)).symm⟩
  rw [e0] at b0
  rw [e1] at b1
  rw [e2] at b2
  rw [e3] at b3
  unfold pk4
  rcases h with h | h | h | h
  · have q := by_put 0 0 n0 c (n1 + 256 * n2 + 65536 * n3) (by omega) (by omega) (by omega) (by omega)
    rw [iI_nN, iI_nN c, iI_nN (2 ^ 0 * _ + 0)] at q
    rw [h, ec, e0, e1, e2, e3]
    dsimp only
    rw [if_pos (show (4 * (i / 4) = i) by omega), if_neg (show ¬ (4 * (i / 4) + 1 = i) by omega), if_neg (show ¬ (4 * (i / 4) + 2 = i) by omega), if_neg (show ¬ (4 * (i / 4) + 3 = i) by omega), e1, e2, e3]
    refine Eq.trans (Eq.trans ?_ q) ?_
    · congr 3
      omega
    · congr 1
      omega
  · have q := by_put 8 n0 n1 c (n2 + 256 * n3) (by omega) (by omega) (by omega) (by omega)
    rw [iI_nN, iI_nN c, iI_nN (2 ^ 8 * _ + n0)] at q
    rw [h, ec, e0, e1, e2, e3]
    dsimp only
    rw [if_neg (show ¬ (4 * (i / 4) = i) by omega), if_pos (show (4 * (i / 4) + 1 = i) by omega), if_neg (show ¬ (4 * (i / 4) + 2 = i) by omega), if_neg (show ¬ (4 * (i / 4) + 3 = i) by omega), e0, e2, e3]
    refine Eq.trans (Eq.trans ?_ q) ?_
    · congr 3
      omega
    · congr 1
      omega
  · have q := by_put 16 (n0 + 256 * n1) n2 c n3 (by omega) (by omega) (by omega) (by omega)
    rw [iI_nN, iI_nN c, iI_nN (2 ^ 16 * _ + _)] at q
    rw [h, ec, e0, e1, e2, e3]
    dsimp only
    rw [if_neg (show ¬ (4 * (i / 4) = i) by omega), if_neg (show ¬ (4 * (i / 4) + 1 = i) by omega), if_pos (show (4 * (i / 4) + 2 = i) by omega), if_neg (show ¬ (4 * (i / 4) + 3 = i) by omega), e0, e1, e3]
    refine Eq.trans (Eq.trans ?_ q) ?_
    · congr 3
      omega
    · congr 1
      omega
  · have q := by_put 24 (n0 + 256 * n1 + 65536 * n2) n3 c 0 (by omega) (by omega) (by omega) (by omega)
    rw [iI_nN, iI_nN c, iI_nN (2 ^ 24 * _ + _)] at q
    rw [h, ec, e0, e1, e2, e3]
    dsimp only
    rw [if_neg (show ¬ (4 * (i / 4) = i) by omega), if_neg (show ¬ (4 * (i / 4) + 1 = i) by omega), if_neg (show ¬ (4 * (i / 4) + 2 = i) by omega), if_pos (show (4 * (i / 4) + 3 = i) by omega), e0, e1, e2]
    refine Eq.trans (Eq.trans ?_ q) ?_
    · congr 3
      omega
    · congr 1
      omega
