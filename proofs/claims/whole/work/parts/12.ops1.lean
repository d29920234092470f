/-! The plain calls: creed, bear, one, leave, kin, stair, say, wipe, forget. -/
/-- a call of both: the same answer, and the states belong together still -/
def am_OP (X : AMx) (k1 k2 : Nat) (as : List Value) : Prop := ∀ (R : Nat → Nat → Int32) (Z : Nat → Int32) (A : Nat → Nat → Int32) (Y : Nat → Int32), am_INV R Z A Y → ∃ (v : Value) (R' : Nat → Nat → Int32) (Z' : Nat → Int32) (A' : Nat → Nat → Int32) (Y' : Nat → Int32), am_D X k1 (.ref 0 :: as) (am_WH R Z A Y) = some (some v, am_WH R' Z' A Y) ∧ am_D X k2 (.ref 88 :: as) (am_WH R' Z' A Y) = some (some v, am_WH R' Z' A' Y') ∧ am_INV R' Z' A' Y'
theorem am_10 : ((1 : Int32) = 0) = False := by decide
theorem am_ue {α : Type} (f : Nat → α) (k : Nat) (x : α) (j : Nat) : am_up f k x j = if j = k then x else f j := by
  by_cases h : j = k
  · subst h; rw [am_up_s, if_pos rfl]
  · rw [am_up_n f x h, if_neg h]
theorem am_row_up {n : Nat} {lo hi : Int} {f g : Nat → Int32} (h : ∀ j, j < n → f j = g j ∧ am_rn (f j) lo hi) (i : Nat) {x : Int32} (hx : am_rn x lo hi) : ∀ j, j < n → upd f i x j = upd g i x j ∧ am_rn (upd f i x j) lo hi := by
  intro j hj
  by_cases e : j = i
  · subst e; rw [upd_s, upd_s]; exact ⟨rfl, hx⟩
  · rw [upd_n f x e, upd_n g x e]; exact h j hj
theorem am_row_upo {n : Nat} {lo hi : Int} {f g : Nat → Int32} (o : Nat) (h : ∀ j, j < n → f j = g (o + j) ∧ am_rn (f j) lo hi) (i : Nat) {x : Int32} (hx : am_rn x lo hi) : ∀ j, j < n → upd f i x j = upd g (o + i) x (o + j) ∧ am_rn (upd f i x j) lo hi := by
  intro j hj
  by_cases e : j = i
  · subst e; rw [upd_s, upd_s]; exact ⟨rfl, hx⟩
  · rw [upd_n f x e, upd_n g x (by omega)]; exact h j hj
theorem am_row_no {n : Nat} {lo hi : Int} {f g : Nat → Int32} (o : Nat) (h : ∀ j, j < n → f j = g (o + j) ∧ am_rn (f j) lo hi) {k : Nat} (x : Int32) (hk : k < o ∨ o + n ≤ k) : ∀ j, j < n → f j = upd g k x (o + j) ∧ am_rn (f j) lo hi := fun j hj => by
  rw [upd_n g x (by omega)]; exact h j hj
theorem am_row_no0 {n : Nat} {lo hi : Int} {f g : Nat → Int32} (h : ∀ j, j < n → f j = g j ∧ am_rn (f j) lo hi) {k : Nat} (x : Int32) (hk : n ≤ k) : ∀ j, j < n → f j = upd g k x j ∧ am_rn (f j) lo hi := fun j hj => by
  rw [upd_n g x (by omega)]; exact h j hj
/-- few bits: a small number -/
theorem b_rn {x : Int32} {k : Nat} (hk : k ≤ 31) (h : ∀ i, k ≤ i → i < 32 → bt x i = false) : am_rn x 0 (2 ^ k - 1) := by
  have h1 : x.toBitVec.toNat < 2 ^ k := by
    apply Nat.lt_pow_two_of_testBit
    intro i hi
    rw [BitVec.testBit_toNat]
    rcases Nat.lt_or_ge i 32 with h2 | h2
    · exact h i hi h2
    · exact BitVec.getLsbD_of_ge _ _ h2
  have h2 : (2 : Nat) ^ k ≤ 2 ^ 31 := Nat.pow_le_pow_right (by omega) hk
  have h3 : x.toInt = (x.toBitVec.toNat : Int) := by
    show x.toBitVec.toInt = _
    rw [BitVec.toInt_eq_toNat_cond, if_pos (by omega)]
  have h4 : ((2 ^ k : Nat) : Int) = (2 : Int) ^ k := by push_cast; rfl
  constructor
  · omega
  · omega
theorem b_rn7 {x : Int32} (h : ∀ i, 7 ≤ i → i < 32 → bt x i = false) : am_rn x 0 127 := b_rn (k := 7) (by omega) h
theorem am_rnb {x : Int32} {m : Int} {k : Nat} (h : am_rn x 0 m) (hm : m < 2 ^ k) {i : Nat} (hi : k ≤ i) : bt x i = false := b_small h.1 (by have := h.2; omega) hi
theorem bt_not (x : Int32) {i : Nat} (hi : i < 32) : bt (x ^^^ (-1)) i = !bt x i := by rw [b_xor, b_m1 i hi]; simp
theorem s_bitCount12 (X : AMx) (h : List AMc) {x : Int32} (hx : am_rn x 0 4095) : am_D X 154 [.int x] h = some (some (.int (nI (fb_ct (bt x) 12))), h) := by
  rw [s_bitCount X h (x := x) ⟨hx.1, by have := hx.2; omega⟩, am_ct_small (k := 12) (n := 24) hx (by omega)]
theorem am_rnw {x : Int32} {lo hi lo2 hi2 : Int} (h : am_rn x lo hi) (h1 : lo2 ≤ lo) (h2 : hi ≤ hi2) : am_rn x lo2 hi2 := ⟨by have := h.1; omega, by have := h.2; omega⟩
theorem op_creed (X : AMx) (a b : Int32) : am_OP X 50 104 [.int a, .int b] := by
  intro R Z A Y hI
  by_cases h1 : 0 ≤ a ∧ a ≤ 2
  · by_cases h2 : -9 ≤ b ∧ b ≤ 9
    · obtain ⟨i, hi, rfl⟩ := am_ix h1 (n := 3) (by decide) (by omega)
      refine ⟨.int (R 0 i + 10), am_up R 0 (upd (R 0) i b), Z, am_up A 2 (upd (A 2) i b), Y, ?_, ?_, ?_, hI.2.1, ?_⟩
      · simp only [d_X5_creed, b_X5_creed_0, b_X5_creed_6, b_X5_creed_9, b_X5_creed_11, b_X5_creed_15, b_X5_creed_18, b_X5_creed_21, b_X5_creed_32, b_X5_creed_45, s_isIn, s_isLean, am_C_v, am_C_0, am_ue, if_true, if_false, eq_self, am_10, ite_not, Nat.reduceEqDiff, reduceIte, am_bI_t h1, am_bI_t h2, d_X1_get_2, d_X1_set_2, am_rg_nI hi (by omega), am_rs_nI hi (by omega)]
      · simp only [d_X6_creed, b_X6_creed_0, b_X6_creed_6, b_X6_creed_9, b_X6_creed_11, b_X6_creed_15, b_X6_creed_18, b_X6_creed_21, b_X6_creed_27, b_X6_creed_35, s_in, s_misLean, am_C_v, am_C_0, am_ue, if_true, if_false, eq_self, am_10, ite_not, Nat.reduceEqDiff, reduceIte, am_bI_t h1, am_bI_t h2, if_pos (am_in_nI hi (by omega)), am_cl (by omega : i < 2 ^ 31), (hI.1 7 i hi).1]
      · exact (fun ii => match ii with | 0 => hI.1 0 | 1 => hI.1 1 | 2 => hI.1 2 | 3 => hI.1 3 | 4 => hI.1 4 | 5 => hI.1 5 | 6 => hI.1 6 | 7 => am_row_up (hI.1 7) i (am_rn_le h2) | 8 => hI.1 8 | 9 => hI.1 9 | 10 => hI.1 10 | 11 => hI.1 11 | 12 => hI.1 12 | 13 => hI.1 13 | 14 => hI.1 14 | 15 => hI.1 15 | _ + 16 => trivial)
      · exact am_IM_congr (fun k h _ => am_up_n R _ (by omega)) (fun _ _ _ => rfl) rfl rfl rfl hI.2.2
    · refine ⟨.int (-2), R, Z, A, Y, ?_, ?_, hI⟩
      · simp only [d_X5_creed, b_X5_creed_0, b_X5_creed_6, b_X5_creed_9, b_X5_creed_11, b_X5_creed_15, b_X5_creed_18, b_X5_creed_21, b_X5_creed_32, b_X5_creed_45, s_isIn, s_isLean, am_C_v, am_C_0, am_ue, if_true, if_false, eq_self, am_10, ite_not, Nat.reduceEqDiff, reduceIte, am_bI_t h1, am_bI_f h2]
      · simp only [d_X6_creed, b_X6_creed_0, b_X6_creed_6, b_X6_creed_9, b_X6_creed_11, b_X6_creed_15, b_X6_creed_18, b_X6_creed_21, b_X6_creed_27, b_X6_creed_35, s_in, s_misLean, am_C_v, am_C_0, am_ue, if_true, if_false, eq_self, am_10, ite_not, Nat.reduceEqDiff, reduceIte, am_bI_t h1, am_bI_f h2]
  · refine ⟨.int (-1), R, Z, A, Y, ?_, ?_, hI⟩
    · simp only [d_X5_creed, b_X5_creed_0, b_X5_creed_6, b_X5_creed_9, b_X5_creed_11, b_X5_creed_15, b_X5_creed_18, b_X5_creed_21, b_X5_creed_32, b_X5_creed_45, s_isIn, s_isLean, am_C_v, am_C_0, am_ue, if_true, if_false, eq_self, am_10, ite_not, Nat.reduceEqDiff, reduceIte, am_bI_f h1]
    · simp only [d_X6_creed, b_X6_creed_0, b_X6_creed_6, b_X6_creed_9, b_X6_creed_11, b_X6_creed_15, b_X6_creed_18, b_X6_creed_21, b_X6_creed_27, b_X6_creed_35, s_in, s_misLean, am_C_v, am_C_0, am_ue, if_true, if_false, eq_self, am_10, ite_not, Nat.reduceEqDiff, reduceIte, am_bI_f h1]
theorem op_bear (X : AMx) (a : Int32) : am_OP X 51 105 [.int a] := by
  intro R Z A Y hI
  by_cases h1 : 0 ≤ a ∧ a ≤ 18
  · refine ⟨.int (Z 0), R, am_up Z 0 a, A, am_up Y 1 a, ?_, ?_, ?_, hI.2.1, ?_⟩
    · simp only [d_X5_bear, b_X5_bear_0, b_X5_bear_7, b_X5_bear_10, b_X5_bear_13, s_isIn, am_C_v, am_C_0, am_ue, if_true, if_false, eq_self, am_10, ite_not, Nat.reduceEqDiff, reduceIte, am_bI_t h1]
    · simp only [d_X6_bear, b_X6_bear_0, b_X6_bear_7, b_X6_bear_10, b_X6_bear_13, s_in, am_C_v, am_C_0, am_ue, if_true, if_false, eq_self, am_10, ite_not, Nat.reduceEqDiff, reduceIte, am_bI_t h1, show Z 0 = Y 1 from (hI.1 0).1]
    · exact (fun ii => match ii with | 0 => ⟨rfl, am_rn_le h1⟩ | 1 => hI.1 1 | 2 => hI.1 2 | 3 => hI.1 3 | 4 => hI.1 4 | 5 => hI.1 5 | 6 => hI.1 6 | 7 => hI.1 7 | 8 => hI.1 8 | 9 => hI.1 9 | 10 => hI.1 10 | 11 => hI.1 11 | 12 => hI.1 12 | 13 => hI.1 13 | 14 => hI.1 14 | 15 => hI.1 15 | _ + 16 => trivial)
    · exact am_IM_congr (fun _ _ _ => rfl) (fun k h _ => am_up_n Z _ (by omega)) rfl rfl rfl hI.2.2
  · refine ⟨.int (-2), R, Z, A, Y, ?_, ?_, hI⟩
    · simp only [d_X5_bear, b_X5_bear_0, b_X5_bear_7, b_X5_bear_10, b_X5_bear_13, s_isIn, am_C_v, am_C_0, am_ue, if_true, if_false, eq_self, am_10, ite_not, Nat.reduceEqDiff, reduceIte, am_bI_f h1]
    · simp only [d_X6_bear, b_X6_bear_0, b_X6_bear_7, b_X6_bear_10, b_X6_bear_13, s_in, am_C_v, am_C_0, am_ue, if_true, if_false, eq_self, am_10, ite_not, Nat.reduceEqDiff, reduceIte, am_bI_f h1]
theorem op_one (X : AMx) (a b c : Int32) : am_OP X 52 106 [.int a, .int b, .int c] := by
  intro R Z A Y hI
  by_cases h1 : 0 ≤ a ∧ a ≤ 6
  · by_cases h2 : 0 ≤ b ∧ b ≤ 2
    · by_cases h3 : 0 ≤ c ∧ c ≤ 9
      · obtain ⟨i, hi, rfl⟩ := am_ix h1 (n := 7) (by decide) (by omega)
        have e1 := (hI.1 1).1
        have r1 := (hI.1 1).2
        dsimp only at e1 r1
        have hp : am_rn (Z 1 ||| ((1 : Int32) <<< (nI i &&& 31))) 0 127 := b_rn7 (fun j h7 h32 => by
          rw [b_or, b_bit i (by omega) h32, am_rnb r1 (k := 7) (by omega) h7]
          simp; omega)
        refine ⟨.int (nI (fb_ct (bt (Z 1 ||| ((1 : Int32) <<< (nI i &&& 31)))) 12)), am_up (am_up R 1 (upd (R 1) i b)) 2 (upd (R 2) i c), am_up Z 1 (Z 1 ||| ((1 : Int32) <<< (nI i &&& 31))), am_up (am_up A 0 (upd (A 0) i b)) 0 (upd (upd (A 0) i b) (7 + i) c), am_up Y 0 (Y 0 ||| ((1 : Int32) <<< (nI i &&& 31))), ?_, ?_, ?_, hI.2.1, ?_⟩
        · simp only [d_X5_one, b_X5_one_0, b_X5_one_7, b_X5_one_10, b_X5_one_12, b_X5_one_18, b_X5_one_21, b_X5_one_28, b_X5_one_31, b_X5_one_34, b_X5_one_61, b_X5_one_73, b_X5_one_83, s_isIn, am_C_v, am_C_0, am_ue, if_true, if_false, eq_self, am_10, ite_not, Nat.reduceEqDiff, reduceIte, am_bI_t h1, am_bI_t h2, am_bI_t h3, d_X1_set_4, d_X1_set_6, am_rs_nI hi (by omega), s_bitCount12 X _ (am_rnw hp (Int.le_refl _) (by omega))]
        · simp only [d_X6_one, b_X6_one_0, b_X6_one_7, b_X6_one_10, b_X6_one_12, b_X6_one_18, b_X6_one_21, b_X6_one_28, b_X6_one_31, b_X6_one_34, b_X6_one_53, b_X6_one_63, b_X6_one_70, s_in, am_C_v, am_C_0, am_ue, if_true, if_false, eq_self, am_10, ite_not, Nat.reduceEqDiff, reduceIte, am_bI_t h1, am_bI_t h2, am_bI_t h3, if_pos (am_in_nI (n := 32) (i := i) (by omega) (by omega)), am_cl (by omega : i < 2 ^ 31), am_a7, if_pos (am_in_nI (n := 32) (i := 7 + i) (by omega) (by omega)), am_cl (by omega : 7 + i < 2 ^ 31), s_bits, e1]
        · exact (fun ii => match ii with | 0 => hI.1 0 | 1 => ⟨by show _ ||| _ = _ ||| _; rw [e1], hp⟩ | 2 => ⟨((hI.1 2).1).trans (by rw [am_up_s, upd_n _ _ (by omega), upd_n _ _ (by omega)]), (hI.1 2).2⟩ | 3 => hI.1 3 | 4 => ⟨((hI.1 4).1).trans (by rw [am_up_s, upd_n _ _ (by omega), upd_n _ _ (by omega)]), (hI.1 4).2⟩ | 5 => hI.1 5 | 6 => hI.1 6 | 7 => hI.1 7 | 8 => am_row_no0 (am_row_up (hI.1 8) i (am_rn_le h2)) c (by omega) | 9 => am_row_upo 7 (am_row_no 7 (hI.1 9) b (by omega)) i (am_rn_le h3) | 10 => hI.1 10 | 11 => am_row_no 14 (am_row_no 14 (hI.1 11) b (by omega)) c (by omega) | 12 => am_row_no 22 (am_row_no 22 (hI.1 12) b (by omega)) c (by omega) | 13 => hI.1 13 | 14 => hI.1 14 | 15 => hI.1 15 | _ + 16 => trivial)
        · exact am_IM_congr (fun k h _ => by rw [am_up_n _ _ (by omega), am_up_n _ _ (by omega)]) (fun k h _ => am_up_n Z _ (by omega)) rfl rfl rfl hI.2.2
      · refine ⟨.int (-2), R, Z, A, Y, ?_, ?_, hI⟩
        · simp only [d_X5_one, b_X5_one_0, b_X5_one_7, b_X5_one_10, b_X5_one_12, b_X5_one_18, b_X5_one_21, b_X5_one_28, b_X5_one_31, b_X5_one_34, b_X5_one_61, b_X5_one_73, b_X5_one_83, s_isIn, am_C_v, am_C_0, am_ue, if_true, if_false, eq_self, am_10, ite_not, Nat.reduceEqDiff, reduceIte, am_bI_t h1, am_bI_t h2, am_bI_f h3]
        · simp only [d_X6_one, b_X6_one_0, b_X6_one_7, b_X6_one_10, b_X6_one_12, b_X6_one_18, b_X6_one_21, b_X6_one_28, b_X6_one_31, b_X6_one_34, b_X6_one_53, b_X6_one_63, b_X6_one_70, s_in, am_C_v, am_C_0, am_ue, if_true, if_false, eq_self, am_10, ite_not, Nat.reduceEqDiff, reduceIte, am_bI_t h1, am_bI_t h2, am_bI_f h3]
    · refine ⟨.int (-2), R, Z, A, Y, ?_, ?_, hI⟩
      · simp only [d_X5_one, b_X5_one_0, b_X5_one_7, b_X5_one_10, b_X5_one_12, b_X5_one_18, b_X5_one_21, b_X5_one_28, b_X5_one_31, b_X5_one_34, b_X5_one_61, b_X5_one_73, b_X5_one_83, s_isIn, am_C_v, am_C_0, am_ue, if_true, if_false, eq_self, am_10, ite_not, Nat.reduceEqDiff, reduceIte, am_bI_t h1, am_bI_f h2]
      · simp only [d_X6_one, b_X6_one_0, b_X6_one_7, b_X6_one_10, b_X6_one_12, b_X6_one_18, b_X6_one_21, b_X6_one_28, b_X6_one_31, b_X6_one_34, b_X6_one_53, b_X6_one_63, b_X6_one_70, s_in, am_C_v, am_C_0, am_ue, if_true, if_false, eq_self, am_10, ite_not, Nat.reduceEqDiff, reduceIte, am_bI_t h1, am_bI_f h2]
  · refine ⟨.int (-1), R, Z, A, Y, ?_, ?_, hI⟩
    · simp only [d_X5_one, b_X5_one_0, b_X5_one_7, b_X5_one_10, b_X5_one_12, b_X5_one_18, b_X5_one_21, b_X5_one_28, b_X5_one_31, b_X5_one_34, b_X5_one_61, b_X5_one_73, b_X5_one_83, s_isIn, am_C_v, am_C_0, am_ue, if_true, if_false, eq_self, am_10, ite_not, Nat.reduceEqDiff, reduceIte, am_bI_f h1]
    · simp only [d_X6_one, b_X6_one_0, b_X6_one_7, b_X6_one_10, b_X6_one_12, b_X6_one_18, b_X6_one_21, b_X6_one_28, b_X6_one_31, b_X6_one_34, b_X6_one_53, b_X6_one_63, b_X6_one_70, s_in, am_C_v, am_C_0, am_ue, if_true, if_false, eq_self, am_10, ite_not, Nat.reduceEqDiff, reduceIte, am_bI_f h1]
/-! who is there -/
theorem s_isThere (X : AMx) (R : Nat → Nat → Int32) (Z : Nat → Int32) (A : Nat → Nat → Int32) (Y : Nat → Int32) (a : Int32) : am_D X 31 [.ref 1, .int a] (am_WH R Z A Y) = some (some (.int (am_bI (am_hs (Z 1) a))), am_WH R Z A Y) := by
  simp only [d_X4_isThere_1, b_X4_isThere_1_0, b_X4_isThere_1_8, s_has, am_C_v, am_C_0, am_ue, if_true, if_false, eq_self, am_10, ite_not, Nat.reduceEqDiff, reduceIte]
  by_cases h : am_hs (Z 1) a
  · rw [am_bI_t h]; rfl
  · rw [am_bI_f h]; rfl
theorem s_isThere2 (X : AMx) (R : Nat → Nat → Int32) (Z : Nat → Int32) (A : Nat → Nat → Int32) (Y : Nat → Int32) (a : Int32) : am_D X 31 [.ref 24, .int a] (am_WH R Z A Y) = some (some (.int (am_bI (am_hs (Z 8) a))), am_WH R Z A Y) := by
  simp only [d_X4_isThere_24, b_X4_isThere_24_0, b_X4_isThere_24_8, s_has, am_C_v, am_C_0, am_ue, if_true, if_false, eq_self, am_10, ite_not, Nat.reduceEqDiff, reduceIte]
  by_cases h : am_hs (Z 8) a
  · rw [am_bI_t h]; rfl
  · rw [am_bI_f h]; rfl
theorem s_misThere (X : AMx) (R : Nat → Nat → Int32) (Z : Nat → Int32) (A : Nat → Nat → Int32) (Y : Nat → Int32) (a : Int32) : am_D X 101 [.ref 88, .int a] (am_WH R Z A Y) = some (some (.int (am_bI ((0 ≤ a ∧ a ≤ 6) ∧ (Y 0 >>> (a &&& 31)) &&& 1 = 1))), am_WH R Z A Y) := by
  by_cases h1 : 0 ≤ a ∧ a ≤ 6
  · by_cases h2 : (Y 0 >>> (a &&& 31)) &&& 1 = 1
    · rw [am_bI_t ⟨h1, h2⟩]
      simp only [d_X6_isThere, b_X6_isThere_0, b_X6_isThere_7, b_X6_isThere_10, b_X6_isThere_18, b_X6_isThere_21, b_X6_isThere_25, s_in, s_mhas, am_C_v, am_C_0, am_ue, if_true, if_false, eq_self, am_10, ite_not, Nat.reduceEqDiff, reduceIte, am_bI_t h1, am_bI_t h2]
    · rw [am_bI_f (fun z => h2 z.2)]
      simp only [d_X6_isThere, b_X6_isThere_0, b_X6_isThere_7, b_X6_isThere_10, b_X6_isThere_18, b_X6_isThere_21, b_X6_isThere_25, s_in, s_mhas, am_C_v, am_C_0, am_ue, if_true, if_false, eq_self, am_10, ite_not, Nat.reduceEqDiff, reduceIte, am_bI_t h1, am_bI_f h2]
  · rw [am_bI_f (fun z => h1 z.1)]
    simp only [d_X6_isThere, b_X6_isThere_0, b_X6_isThere_7, b_X6_isThere_10, b_X6_isThere_18, b_X6_isThere_21, b_X6_isThere_25, s_in, s_mhas, am_C_v, am_C_0, am_ue, if_true, if_false, eq_self, am_10, ite_not, Nat.reduceEqDiff, reduceIte, am_bI_f h1]
theorem op_leave (X : AMx) (a : Int32) : am_OP X 53 107 [.int a] := by
  intro R Z A Y hI
  have e1 := (hI.1 1).1
  have r1 := (hI.1 1).2
  dsimp only at e1 r1
  have q1 := am_hs_bt r1 (k := 7) (by omega) (by omega) a
  have q2 := am_mh_bt (b := Y 0) (k := 7) (by omega) (m := 6) (by decide) a
  by_cases h : ∃ j, j < 7 ∧ a = nI j ∧ bt (Z 1) j = true
  · have h1 := q1.mpr h
    have h2 := q2.mpr (by rw [← e1]; exact h)
    obtain ⟨i, hi, rfl, hb⟩ := h
    have hp : am_rn (Z 1 &&& (((1 : Int32) <<< (nI i &&& 31)) ^^^ (-1))) 0 127 := b_rn7 (fun j h7 h32 => by
      rw [b_and, am_rnb r1 (k := 7) (by omega) h7]; rfl)
    refine ⟨.int (nI (fb_ct (bt (Z 1 &&& (((1 : Int32) <<< (nI i &&& 31)) ^^^ (-1)))) 12)), R, am_up Z 1 (Z 1 &&& (((1 : Int32) <<< (nI i &&& 31)) ^^^ (-1))), A, am_up Y 0 (Y 0 &&& (((1 : Int32) <<< (nI i &&& 31)) ^^^ (-1))), ?_, ?_, ?_, hI.2.1, ?_⟩
    · simp only [d_X5_leave, b_X5_leave_0, b_X5_leave_8, b_X5_leave_11, b_X5_leave_13, b_X5_leave_40, s_isThere, am_C_v, am_C_0, am_ue, if_true, if_false, eq_self, am_10, ite_not, Nat.reduceEqDiff, reduceIte, am_bI_t h1, s_bitCount12 X _ (am_rnw hp (Int.le_refl _) (by omega))]
    · simp only [d_X6_leave, b_X6_leave_0, b_X6_leave_5, b_X6_leave_8, b_X6_leave_10, b_X6_leave_31, s_misThere, am_C_v, am_C_0, am_ue, if_true, if_false, eq_self, am_10, ite_not, Nat.reduceEqDiff, reduceIte, am_bI_t h2, s_bits, e1]
    · exact (fun ii => match ii with | 0 => hI.1 0 | 1 => ⟨by show _ &&& _ = _ &&& _; rw [e1], hp⟩ | 2 => hI.1 2 | 3 => hI.1 3 | 4 => hI.1 4 | 5 => hI.1 5 | 6 => hI.1 6 | 7 => hI.1 7 | 8 => hI.1 8 | 9 => hI.1 9 | 10 => hI.1 10 | 11 => hI.1 11 | 12 => hI.1 12 | 13 => hI.1 13 | 14 => hI.1 14 | 15 => hI.1 15 | _ + 16 => trivial)
    · exact am_IM_congr (fun _ _ _ => rfl) (fun k h _ => am_up_n Z _ (by omega)) rfl rfl rfl hI.2.2
  · have h1 := fun z => h (q1.mp z)
    have h2 := fun z => h (by rw [e1]; exact q2.mp z)
    refine ⟨.int (-1), R, Z, A, Y, ?_, ?_, hI⟩
    · simp only [d_X5_leave, b_X5_leave_0, b_X5_leave_8, b_X5_leave_11, b_X5_leave_13, b_X5_leave_40, s_isThere, am_C_v, am_C_0, am_ue, if_true, if_false, eq_self, am_10, ite_not, Nat.reduceEqDiff, reduceIte, am_bI_f h1]
    · simp only [d_X6_leave, b_X6_leave_0, b_X6_leave_5, b_X6_leave_8, b_X6_leave_10, b_X6_leave_31, s_misThere, am_C_v, am_C_0, am_ue, if_true, if_false, eq_self, am_10, ite_not, Nat.reduceEqDiff, reduceIte, am_bI_f h2]
