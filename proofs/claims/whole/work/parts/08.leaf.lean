/-! Numbers and the small methods: tests of ranges, bits. -/
/-! ===== Int32 by its bits: bt x i (kit/laws/BITS.to-paste) ===== -/
def bt (x : Int32) (i : Nat) : Bool := x.toBitVec.getLsbD i
theorem b_ext {x y : Int32} (h : ∀ i, i < 32 → bt x i = bt y i) : x = y := Int32.toBitVec_inj.mp (BitVec.eq_of_getLsbD_eq (fun i hi => h i hi))
theorem b_or (x y : Int32) (i : Nat) : bt (x ||| y) i = (bt x i || bt y i) := by unfold bt; rw [Int32.toBitVec_or, BitVec.getLsbD_or]
theorem b_and (x y : Int32) (i : Nat) : bt (x &&& y) i = (bt x i && bt y i) := by unfold bt; rw [Int32.toBitVec_and, BitVec.getLsbD_and]
theorem b_xor (x y : Int32) (i : Nat) : bt (x ^^^ y) i = (bt x i ^^ bt y i) := by unfold bt; rw [Int32.toBitVec_xor, BitVec.getLsbD_xor]
theorem b_big {x : Int32} {i : Nat} (h : 32 ≤ i) : bt x i = false := BitVec.getLsbD_of_ge _ _ h
theorem b_m1 : ∀ i, i < 32 → bt (-1) i = true := by decide +kernel
theorem b_0 (i : Nat) : bt 0 i = false := BitVec.getLsbD_zero
theorem s_l : ∀ n, n < 32 → ((nI n &&& 31).toBitVec.smod 32).toNat = n := by decide +kernel
theorem b_shl (n : Nat) (hn : n < 32) (x : Int32) {i : Nat} (hi : i < 32) : bt (x <<< (nI n &&& 31)) i = (decide (n ≤ i) && bt x (i - n)) := by
  unfold bt
  rw [Int32.toBitVec_shiftLeft]
  show (x.toBitVec <<< ((nI n &&& 31).toBitVec.smod 32).toNat).getLsbD i = _
  rw [s_l n hn, BitVec.getLsbD_shiftLeft]
  rcases Nat.lt_or_ge i n with h | h
  · simp [h, Nat.not_le.mpr h]
  · simp [hi, h, Nat.not_lt.mpr h]
theorem b_sshr (n : Nat) (hn : n < 32) (x : Int32) {i : Nat} (hi : i < 32) : bt (x >>> (nI n &&& 31)) i = if n + i < 32 then bt x (n + i) else bt x 31 := by
  unfold bt
  rw [Int32.toBitVec_shiftRight]
  show (x.toBitVec.sshiftRight ((nI n &&& 31).toBitVec.smod 32).toNat).getLsbD i = _
  rw [s_l n hn, BitVec.getLsbD_sshiftRight, BitVec.msb_eq_getLsbD_last]
  simp [hi]
/-! ===== ours ===== -/
theorem b_1 (i : Nat) : bt 1 i = decide (i = 0) := by
  rcases Nat.lt_or_ge i 32 with h | h
  · exact (by decide +kernel : ∀ i, i < 32 → bt 1 i = decide (i = 0)) i h
  · rw [b_big h, decide_eq_false (by omega)]
/-- the bit that is left alone -/
theorem b_and1 (x : Int32) : x &&& 1 = if bt x 0 then 1 else 0 := by
  apply b_ext
  intro i hi
  rw [b_and, b_1]
  by_cases h : i = 0
  · subst h
    cases bt x 0 <;> rfl
  · simp only [h, decide_false, Bool.and_false]
    split
    · rw [b_1]; simp [h]
    · exact (b_0 i).symm
theorem b_one (n : Nat) (hn : n < 32) (x : Int32) : ((x >>> (nI n &&& 31)) &&& 1 = 1) ↔ bt x n = true := by
  rw [b_and1, b_sshr n hn x (by omega : 0 < 32)]
  simp only [Nat.add_zero, hn, if_true]
  cases bt x n <;> decide
/-- 1 << n -/
theorem b_bit (n : Nat) (hn : n < 32) {i : Nat} (hi : i < 32) : bt ((1 : Int32) <<< (nI n &&& 31)) i = decide (i = n) := by
  rw [b_shl n hn 1 hi, b_1]
  by_cases h : i = n
  · subst h; simp
  · by_cases h2 : n ≤ i
    · have : ¬ i - n = 0 := by omega
      simp [h, this]
    · simp [h, h2]
/-- a number below 2^k has no bit from k on -/
theorem b_small {x : Int32} {k : Nat} (h0 : 0 ≤ x.toInt) (h1 : x.toInt < 2 ^ k) {i : Nat} (hi : k ≤ i) : bt x i = false := by
  unfold bt
  have e : x.toInt = x.toBitVec.toInt := rfl
  rw [e] at h0 h1
  have h2 : (x.toBitVec.toNat : Int) = x.toBitVec.toInt := by
    rw [BitVec.toInt_eq_toNat_cond] at h0 ⊢
    split at h0
    · rw [if_pos (by assumption)]
    · have := x.toBitVec.isLt
      omega
  have h3 : (x.toBitVec.toNat : Int) < ((2 ^ k : Nat) : Int) := by push_cast; omega
  have h4 : x.toBitVec.toNat < 2 ^ k := Int.ofNat_lt.mp h3
  rw [← BitVec.testBit_toNat]
  exact Nat.testBit_lt_two_pow (Nat.lt_of_lt_of_le h4 (Nat.pow_le_pow_right (by omega) hi))
def am_bI (p : Prop) [Decidable p] : Int32 := if p then 1 else 0
theorem am_bI_t {p : Prop} [Decidable p] (h : p) : am_bI p = 1 := if_pos h
theorem am_bI_f {p : Prop} [Decidable p] (h : ¬ p) : am_bI p = 0 := if_neg h
theorem am_bI_0 {p : Prop} [Decidable p] : (am_bI p = 0) ↔ ¬ p := by
  by_cases h : p
  · rw [am_bI_t h]; simp [h]
  · rw [am_bI_f h]; simp [h]
theorem am_bI_1 {p : Prop} [Decidable p] : (am_bI p = 1) ↔ p := by
  by_cases h : p
  · rw [am_bI_t h]; simp [h]
  · rw [am_bI_f h]; simp [h]
theorem am_lt (a b : Int32) : (a < b) ↔ ¬ (b ≤ a) := Int32.not_le.symm
theorem s_isIn (X : AMx) (h : List AMc) (a b c : Int32) : am_D X 81 [.int a, .int b, .int c] h = some (some (.int (am_bI (b ≤ a ∧ a ≤ c))), h) := by
  simp only [d_X5_isIn, b_X5_isIn_0, b_X5_isIn_5, b_X5_isIn_10, b_X5_isIn_14, am_lt]
  by_cases h1 : b ≤ a <;> by_cases h2 : a ≤ c <;> simp [h1, h2, am_bI]
theorem s_in (X : AMx) (h : List AMc) (a b c : Int32) : am_D X 98 [.int a, .int b, .int c] h = some (some (.int (am_bI (b ≤ a ∧ a ≤ c))), h) := by
  simp only [d_X6_in, b_X6_in_0, b_X6_in_5, b_X6_in_10, b_X6_in_14, am_lt]
  by_cases h1 : b ≤ a <;> by_cases h2 : a ≤ c <;> simp [h1, h2, am_bI]
theorem s_isLean (X : AMx) (h : List AMc) (a : Int32) : am_D X 82 [.int a] h = some (some (.int (am_bI (-9 ≤ a ∧ a ≤ 9))), h) := by
  simp only [d_X5_isLean, b_X5_isLean_0, b_X5_isLean_8, s_isIn, am_C_v]
  by_cases h1 : -9 ≤ a ∧ a ≤ 9 <;> simp [h1, am_bI]
theorem s_isPlace (X : AMx) (h : List AMc) (a : Int32) : am_D X 83 [.int a] h = some (some (.int (am_bI (0 ≤ a ∧ a ≤ 9))), h) := by
  simp only [d_X5_isPlace, b_X5_isPlace_0, b_X5_isPlace_7, s_isIn, am_C_v]
  by_cases h1 : 0 ≤ a ∧ a ≤ 9 <;> simp [h1, am_bI]
theorem s_misLean (X : AMx) (h : List AMc) (a : Int32) : am_D X 102 [.int a] h = some (some (.int (am_bI (-9 ≤ a ∧ a ≤ 9))), h) := by
  simp only [d_X6_isLean, b_X6_isLean_0, b_X6_isLean_8, s_in, am_C_v]
  by_cases h1 : -9 ≤ a ∧ a ≤ 9 <;> simp [h1, am_bI]
theorem s_misPlace (X : AMx) (h : List AMc) (a : Int32) : am_D X 109 [.int a] h = some (some (.int (am_bI (0 ≤ a ∧ a ≤ 9))), h) := by
  simp only [d_X6_isPlace, b_X6_isPlace_0, b_X6_isPlace_7, s_in, am_C_v]
  by_cases h1 : 0 ≤ a ∧ a ≤ 9 <;> simp [h1, am_bI]
/-- bit i of b, tested as has does -/
abbrev am_hs (b i : Int32) : Prop := 0 ≤ i ∧ ¬ (32 ≤ i) ∧ (b >>> (i &&& 31)) &&& 1 = 1
theorem s_has (X : AMx) (h : List AMc) (b i : Int32) : am_D X 84 [.int b, .int i] h = some (some (.int (am_bI (am_hs b i))), h) := by
  simp only [d_X5_has, b_X5_has_0, b_X5_has_4, b_X5_has_10, b_X5_has_19, b_X5_has_23, am_lt]
  by_cases h1 : 0 ≤ i <;> by_cases h2 : 32 ≤ i <;> by_cases h3 : (b >>> (i &&& 31)) &&& 1 = 1 <;> simp [h1, h2, h3, am_bI, am_hs]
theorem s_mhas (X : AMx) (h : List AMc) (b i : Int32) : am_D X 99 [.int b, .int i] h = some (some (.int (am_bI ((b >>> (i &&& 31)) &&& 1 = 1))), h) := by
  simp only [d_X6_has, b_X6_has_0, b_X6_has_9, b_X6_has_13, am_lt]
  by_cases h3 : (b >>> (i &&& 31)) &&& 1 = 1 <;> simp [h3, am_bI]
